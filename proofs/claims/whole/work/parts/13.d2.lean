theorem dX2_init_1 : decode cX2_init 1 = .ok (.invokespecial 3, 3) := by decide +kernel
theorem dX2_init_4 : decode cX2_init 4 = .ok (.aload_n 0, 1) := by decide +kernel
theorem dX2_init_5 : decode cX2_init 5 = .ok (.sipush 512, 3) := by decide +kernel
theorem dX2_init_8 : decode cX2_init 8 = .ok (.newarray .boolean, 2) := by decide +kernel
theorem dX2_init_10 : decode cX2_init 10 = .ok (.putfield 9, 3) := by decide +kernel
theorem dX2_init_13 : decode cX2_init 13 = .ok (.aload_n 0, 1) := by decide +kernel
theorem dX2_init_14 : decode cX2_init 14 = .ok (.sipush 512, 3) := by decide +kernel
theorem dX2_init_17 : decode cX2_init 17 = .ok (.newarray .int, 2) := by decide +kernel
theorem dX2_init_19 : decode cX2_init 19 = .ok (.putfield 15, 3) := by decide +kernel
theorem dX2_init_22 : decode cX2_init 22 = .ok (.aload_n 0, 1) := by decide +kernel
theorem dX2_init_23 : decode cX2_init 23 = .ok (.sipush 256, 3) := by decide +kernel
theorem dX2_init_26 : decode cX2_init 26 = .ok (.anewarray 19, 3) := by decide +kernel
theorem dX2_init_29 : decode cX2_init 29 = .ok (.putfield 21, 3) := by decide +kernel
theorem dX2_init_32 : decode cX2_init 32 = .ok (.aload_n 0, 1) := by decide +kernel
theorem dX2_init_33 : decode cX2_init 33 = .ok (.sipush 256, 3) := by decide +kernel
theorem dX2_init_36 : decode cX2_init 36 = .ok (.anewarray 19, 3) := by decide +kernel
theorem dX2_init_39 : decode cX2_init 39 = .ok (.putfield 25, 3) := by decide +kernel
theorem dX2_init_42 : decode cX2_init 42 = .ok (.aload_n 0, 1) := by decide +kernel
theorem dX2_init_43 : decode cX2_init 43 = .ok (.sipush 512, 3) := by decide +kernel
theorem dX2_init_46 : decode cX2_init 46 = .ok (.putfield 28, 3) := by decide +kernel
theorem dX2_init_49 : decode cX2_init 49 = .ok (.aload_n 0, 1) := by decide +kernel
theorem dX2_init_50 : decode cX2_init 50 = .ok (.sipush 256, 3) := by decide +kernel
theorem dX2_init_53 : decode cX2_init 53 = .ok (.putfield 32, 3) := by decide +kernel
theorem dX2_init_56 : decode cX2_init 56 = .ok (.iconst 0, 1) := by decide +kernel
theorem dX2_init_57 : decode cX2_init 57 = .ok (.istore_n 2, 1) := by decide +kernel
theorem dX2_init_58 : decode cX2_init 58 = .ok (.iload_n 2, 1) := by decide +kernel
theorem dX2_init_59 : decode cX2_init 59 = .ok (.sipush 256, 3) := by decide +kernel
theorem dX2_init_62 : decode cX2_init 62 = .ok (.if_icmp .ge 23, 3) := by decide +kernel
theorem dX2_init_65 : decode cX2_init 65 = .ok (.aload_n 0, 1) := by decide +kernel
theorem dX2_init_66 : decode cX2_init 66 = .ok (.getfield 21, 3) := by decide +kernel
theorem dX2_init_69 : decode cX2_init 69 = .ok (.iload_n 2, 1) := by decide +kernel
theorem dX2_init_70 : decode cX2_init 70 = .ok (.new 19, 3) := by decide +kernel
theorem dX2_init_73 : decode cX2_init 73 = .ok (.dup, 1) := by decide +kernel
theorem dX2_init_74 : decode cX2_init 74 = .ok (.aload_n 1, 1) := by decide +kernel
theorem dX2_init_75 : decode cX2_init 75 = .ok (.invokespecial 35, 3) := by decide +kernel
theorem dX2_init_78 : decode cX2_init 78 = .ok (.aastore, 1) := by decide +kernel
theorem dX2_init_79 : decode cX2_init 79 = .ok (.iinc 2 1, 3) := by decide +kernel
theorem dX2_init_82 : decode cX2_init 82 = .ok (.goto (-24), 3) := by decide +kernel
theorem dX2_init_85 : decode cX2_init 85 = .ok (.return_, 1) := by decide +kernel
theorem dX2_clear_0 : decode cX2_clear 0 = .ok (.iconst 0, 1) := by decide +kernel
theorem dX2_clear_1 : decode cX2_clear 1 = .ok (.istore_n 1, 1) := by decide +kernel
theorem dX2_clear_2 : decode cX2_clear 2 = .ok (.iload_n 1, 1) := by decide +kernel
theorem dX2_clear_3 : decode cX2_clear 3 = .ok (.sipush 512, 3) := by decide +kernel
theorem dX2_clear_6 : decode cX2_clear 6 = .ok (.if_icmp .ge 16, 3) := by decide +kernel
theorem dX2_clear_9 : decode cX2_clear 9 = .ok (.aload_n 0, 1) := by decide +kernel
theorem dX2_clear_10 : decode cX2_clear 10 = .ok (.getfield 9, 3) := by decide +kernel
theorem dX2_clear_13 : decode cX2_clear 13 = .ok (.iload_n 1, 1) := by decide +kernel
theorem dX2_clear_14 : decode cX2_clear 14 = .ok (.iconst 0, 1) := by decide +kernel
theorem dX2_clear_15 : decode cX2_clear 15 = .ok (.bastore, 1) := by decide +kernel
theorem dX2_clear_16 : decode cX2_clear 16 = .ok (.iinc 1 1, 3) := by decide +kernel
theorem dX2_clear_19 : decode cX2_clear 19 = .ok (.goto (-17), 3) := by decide +kernel
theorem dX2_clear_22 : decode cX2_clear 22 = .ok (.iconst 0, 1) := by decide +kernel
theorem dX2_clear_23 : decode cX2_clear 23 = .ok (.istore_n 1, 1) := by decide +kernel
theorem dX2_clear_24 : decode cX2_clear 24 = .ok (.iload_n 1, 1) := by decide +kernel
theorem dX2_clear_25 : decode cX2_clear 25 = .ok (.sipush 256, 3) := by decide +kernel
theorem dX2_clear_28 : decode cX2_clear 28 = .ok (.if_icmp .ge 19, 3) := by decide +kernel
theorem dX2_clear_31 : decode cX2_clear 31 = .ok (.aload_n 0, 1) := by decide +kernel
theorem dX2_clear_32 : decode cX2_clear 32 = .ok (.getfield 21, 3) := by decide +kernel
theorem dX2_clear_35 : decode cX2_clear 35 = .ok (.iload_n 1, 1) := by decide +kernel
theorem dX2_clear_36 : decode cX2_clear 36 = .ok (.aaload, 1) := by decide +kernel
theorem dX2_clear_37 : decode cX2_clear 37 = .ok (.iconst 0, 1) := by decide +kernel
theorem dX2_clear_38 : decode cX2_clear 38 = .ok (.putfield 38, 3) := by decide +kernel
theorem dX2_clear_41 : decode cX2_clear 41 = .ok (.iinc 1 1, 3) := by decide +kernel
theorem dX2_clear_44 : decode cX2_clear 44 = .ok (.goto (-20), 3) := by decide +kernel
theorem dX2_clear_47 : decode cX2_clear 47 = .ok (.aload_n 0, 1) := by decide +kernel
theorem dX2_clear_48 : decode cX2_clear 48 = .ok (.sipush 512, 3) := by decide +kernel
theorem dX2_clear_51 : decode cX2_clear 51 = .ok (.putfield 28, 3) := by decide +kernel
theorem dX2_clear_54 : decode cX2_clear 54 = .ok (.aload_n 0, 1) := by decide +kernel
theorem dX2_clear_55 : decode cX2_clear 55 = .ok (.sipush 256, 3) := by decide +kernel
theorem dX2_clear_58 : decode cX2_clear 58 = .ok (.putfield 32, 3) := by decide +kernel
theorem dX2_clear_61 : decode cX2_clear 61 = .ok (.aload_n 0, 1) := by decide +kernel
theorem dX2_clear_62 : decode cX2_clear 62 = .ok (.iconst 0, 1) := by decide +kernel
theorem dX2_clear_63 : decode cX2_clear 63 = .ok (.putfield 42, 3) := by decide +kernel
theorem dX2_clear_66 : decode cX2_clear 66 = .ok (.return_, 1) := by decide +kernel
theorem dX2_takeBlock_0 : decode cX2_takeBlock 0 = .ok (.iconst 0, 1) := by decide +kernel
theorem dX2_takeBlock_1 : decode cX2_takeBlock 1 = .ok (.istore_n 1, 1) := by decide +kernel
theorem dX2_takeBlock_2 : decode cX2_takeBlock 2 = .ok (.iload_n 1, 1) := by decide +kernel
theorem dX2_takeBlock_3 : decode cX2_takeBlock 3 = .ok (.sipush 512, 3) := by decide +kernel
theorem dX2_takeBlock_6 : decode cX2_takeBlock 6 = .ok (.if_icmp .ge 48, 3) := by decide +kernel
theorem dX2_takeBlock_9 : decode cX2_takeBlock 9 = .ok (.aload_n 0, 1) := by decide +kernel
theorem dX2_takeBlock_10 : decode cX2_takeBlock 10 = .ok (.getfield 45, 3) := by decide +kernel
theorem dX2_takeBlock_13 : decode cX2_takeBlock 13 = .ok (.iload_n 1, 1) := by decide +kernel
theorem dX2_takeBlock_14 : decode cX2_takeBlock 14 = .ok (.iadd, 1) := by decide +kernel
theorem dX2_takeBlock_15 : decode cX2_takeBlock 15 = .ok (.sipush 512, 3) := by decide +kernel
theorem dX2_takeBlock_18 : decode cX2_takeBlock 18 = .ok (.invokestatic 48, 3) := by decide +kernel
theorem dX2_takeBlock_21 : decode cX2_takeBlock 21 = .ok (.istore_n 2, 1) := by decide +kernel
theorem dX2_takeBlock_22 : decode cX2_takeBlock 22 = .ok (.aload_n 0, 1) := by decide +kernel
theorem dX2_takeBlock_23 : decode cX2_takeBlock 23 = .ok (.getfield 9, 3) := by decide +kernel
theorem dX2_takeBlock_26 : decode cX2_takeBlock 26 = .ok (.iload_n 2, 1) := by decide +kernel
theorem dX2_takeBlock_27 : decode cX2_takeBlock 27 = .ok (.baload, 1) := by decide +kernel
theorem dX2_takeBlock_28 : decode cX2_takeBlock 28 = .ok (.ifCond .ne 20, 3) := by decide +kernel
theorem dX2_takeBlock_31 : decode cX2_takeBlock 31 = .ok (.aload_n 0, 1) := by decide +kernel
theorem dX2_takeBlock_32 : decode cX2_takeBlock 32 = .ok (.iload_n 2, 1) := by decide +kernel
theorem dX2_takeBlock_33 : decode cX2_takeBlock 33 = .ok (.iconst 1, 1) := by decide +kernel
theorem dX2_takeBlock_34 : decode cX2_takeBlock 34 = .ok (.iadd, 1) := by decide +kernel
theorem dX2_takeBlock_35 : decode cX2_takeBlock 35 = .ok (.putfield 45, 3) := by decide +kernel
theorem dX2_takeBlock_38 : decode cX2_takeBlock 38 = .ok (.aload_n 0, 1) := by decide +kernel
theorem dX2_takeBlock_39 : decode cX2_takeBlock 39 = .ok (.iload_n 2, 1) := by decide +kernel
theorem dX2_takeBlock_40 : decode cX2_takeBlock 40 = .ok (.invokevirtual 54, 3) := by decide +kernel
theorem dX2_takeBlock_43 : decode cX2_takeBlock 43 = .ok (.bipush 80, 2) := by decide +kernel
theorem dX2_takeBlock_45 : decode cX2_takeBlock 45 = .ok (.iload_n 2, 1) := by decide +kernel
theorem dX2_takeBlock_46 : decode cX2_takeBlock 46 = .ok (.iadd, 1) := by decide +kernel
theorem dX2_takeBlock_47 : decode cX2_takeBlock 47 = .ok (.ireturn, 1) := by decide +kernel
theorem dX2_takeBlock_48 : decode cX2_takeBlock 48 = .ok (.iinc 1 1, 3) := by decide +kernel
theorem dX2_takeBlock_51 : decode cX2_takeBlock 51 = .ok (.goto (-49), 3) := by decide +kernel
theorem dX2_takeBlock_54 : decode cX2_takeBlock 54 = .ok (.iconst (-1), 1) := by decide +kernel
theorem dX2_takeBlock_55 : decode cX2_takeBlock 55 = .ok (.ireturn, 1) := by decide +kernel
theorem dX2_takeThis_0 : decode cX2_takeThis 0 = .ok (.iload_n 1, 1) := by decide +kernel
theorem dX2_takeThis_1 : decode cX2_takeThis 1 = .ok (.bipush 80, 2) := by decide +kernel
theorem dX2_takeThis_3 : decode cX2_takeThis 3 = .ok (.isub, 1) := by decide +kernel
theorem dX2_takeThis_4 : decode cX2_takeThis 4 = .ok (.istore_n 2, 1) := by decide +kernel
theorem dX2_takeThis_5 : decode cX2_takeThis 5 = .ok (.iload_n 2, 1) := by decide +kernel
theorem dX2_takeThis_6 : decode cX2_takeThis 6 = .ok (.ifCond .lt 10, 3) := by decide +kernel
theorem dX2_takeThis_9 : decode cX2_takeThis 9 = .ok (.iload_n 2, 1) := by decide +kernel
theorem dX2_takeThis_10 : decode cX2_takeThis 10 = .ok (.sipush 512, 3) := by decide +kernel
theorem dX2_takeThis_13 : decode cX2_takeThis 13 = .ok (.if_icmp .lt 5, 3) := by decide +kernel
theorem dX2_takeThis_16 : decode cX2_takeThis 16 = .ok (.iconst 0, 1) := by decide +kernel
theorem dX2_takeThis_17 : decode cX2_takeThis 17 = .ok (.ireturn, 1) := by decide +kernel
theorem dX2_takeThis_18 : decode cX2_takeThis 18 = .ok (.aload_n 0, 1) := by decide +kernel
theorem dX2_takeThis_19 : decode cX2_takeThis 19 = .ok (.iload_n 2, 1) := by decide +kernel
theorem dX2_takeThis_20 : decode cX2_takeThis 20 = .ok (.invokevirtual 54, 3) := by decide +kernel
theorem dX2_takeThis_23 : decode cX2_takeThis 23 = .ok (.iconst 1, 1) := by decide +kernel
theorem dX2_takeThis_24 : decode cX2_takeThis 24 = .ok (.ireturn, 1) := by decide +kernel
theorem dX2_mark_0 : decode cX2_mark 0 = .ok (.aload_n 0, 1) := by decide +kernel
theorem dX2_mark_1 : decode cX2_mark 1 = .ok (.getfield 9, 3) := by decide +kernel
theorem dX2_mark_4 : decode cX2_mark 4 = .ok (.iload_n 1, 1) := by decide +kernel
theorem dX2_mark_5 : decode cX2_mark 5 = .ok (.baload, 1) := by decide +kernel
theorem dX2_mark_6 : decode cX2_mark 6 = .ok (.ifCond .ne 20, 3) := by decide +kernel
theorem dX2_mark_9 : decode cX2_mark 9 = .ok (.aload_n 0, 1) := by decide +kernel
theorem dX2_mark_10 : decode cX2_mark 10 = .ok (.getfield 9, 3) := by decide +kernel
theorem dX2_mark_13 : decode cX2_mark 13 = .ok (.iload_n 1, 1) := by decide +kernel
theorem dX2_mark_14 : decode cX2_mark 14 = .ok (.iconst 1, 1) := by decide +kernel
theorem dX2_mark_15 : decode cX2_mark 15 = .ok (.bastore, 1) := by decide +kernel
theorem dX2_mark_16 : decode cX2_mark 16 = .ok (.aload_n 0, 1) := by decide +kernel
theorem dX2_mark_17 : decode cX2_mark 17 = .ok (.dup, 1) := by decide +kernel
theorem dX2_mark_18 : decode cX2_mark 18 = .ok (.getfield 28, 3) := by decide +kernel
theorem dX2_mark_21 : decode cX2_mark 21 = .ok (.iconst 1, 1) := by decide +kernel
theorem dX2_mark_22 : decode cX2_mark 22 = .ok (.isub, 1) := by decide +kernel
theorem dX2_mark_23 : decode cX2_mark 23 = .ok (.putfield 28, 3) := by decide +kernel
theorem dX2_mark_26 : decode cX2_mark 26 = .ok (.return_, 1) := by decide +kernel
theorem dX2_takeTable_0 : decode cX2_takeTable 0 = .ok (.iconst 0, 1) := by decide +kernel
theorem dX2_takeTable_1 : decode cX2_takeTable 1 = .ok (.istore_n 1, 1) := by decide +kernel
theorem dX2_takeTable_2 : decode cX2_takeTable 2 = .ok (.iload_n 1, 1) := by decide +kernel
theorem dX2_takeTable_3 : decode cX2_takeTable 3 = .ok (.sipush 256, 3) := by decide +kernel
theorem dX2_takeTable_6 : decode cX2_takeTable 6 = .ok (.if_icmp .ge 57, 3) := by decide +kernel
theorem dX2_takeTable_9 : decode cX2_takeTable 9 = .ok (.aload_n 0, 1) := by decide +kernel
theorem dX2_takeTable_10 : decode cX2_takeTable 10 = .ok (.getfield 21, 3) := by decide +kernel
theorem dX2_takeTable_13 : decode cX2_takeTable 13 = .ok (.iload_n 1, 1) := by decide +kernel
theorem dX2_takeTable_14 : decode cX2_takeTable 14 = .ok (.aaload, 1) := by decide +kernel
theorem dX2_takeTable_15 : decode cX2_takeTable 15 = .ok (.getfield 38, 3) := by decide +kernel
theorem dX2_takeTable_18 : decode cX2_takeTable 18 = .ok (.ifCond .ne 39, 3) := by decide +kernel
theorem dX2_takeTable_21 : decode cX2_takeTable 21 = .ok (.aload_n 0, 1) := by decide +kernel
theorem dX2_takeTable_22 : decode cX2_takeTable 22 = .ok (.getfield 21, 3) := by decide +kernel
theorem dX2_takeTable_25 : decode cX2_takeTable 25 = .ok (.iload_n 1, 1) := by decide +kernel
theorem dX2_takeTable_26 : decode cX2_takeTable 26 = .ok (.aaload, 1) := by decide +kernel
theorem dX2_takeTable_27 : decode cX2_takeTable 27 = .ok (.iconst 1, 1) := by decide +kernel
theorem dX2_takeTable_28 : decode cX2_takeTable 28 = .ok (.putfield 38, 3) := by decide +kernel
theorem dX2_takeTable_31 : decode cX2_takeTable 31 = .ok (.aload_n 0, 1) := by decide +kernel
theorem dX2_takeTable_32 : decode cX2_takeTable 32 = .ok (.getfield 21, 3) := by decide +kernel
theorem dX2_takeTable_35 : decode cX2_takeTable 35 = .ok (.iload_n 1, 1) := by decide +kernel
theorem dX2_takeTable_36 : decode cX2_takeTable 36 = .ok (.aaload, 1) := by decide +kernel
theorem dX2_takeTable_37 : decode cX2_takeTable 37 = .ok (.invokevirtual 58, 3) := by decide +kernel
theorem dX2_takeTable_40 : decode cX2_takeTable 40 = .ok (.aload_n 0, 1) := by decide +kernel
theorem dX2_takeTable_41 : decode cX2_takeTable 41 = .ok (.dup, 1) := by decide +kernel
theorem dX2_takeTable_42 : decode cX2_takeTable 42 = .ok (.getfield 32, 3) := by decide +kernel
theorem dX2_takeTable_45 : decode cX2_takeTable 45 = .ok (.iconst 1, 1) := by decide +kernel
theorem dX2_takeTable_46 : decode cX2_takeTable 46 = .ok (.isub, 1) := by decide +kernel
theorem dX2_takeTable_47 : decode cX2_takeTable 47 = .ok (.putfield 32, 3) := by decide +kernel
theorem dX2_takeTable_50 : decode cX2_takeTable 50 = .ok (.aload_n 0, 1) := by decide +kernel
theorem dX2_takeTable_51 : decode cX2_takeTable 51 = .ok (.getfield 21, 3) := by decide +kernel
theorem dX2_takeTable_54 : decode cX2_takeTable 54 = .ok (.iload_n 1, 1) := by decide +kernel
theorem dX2_takeTable_55 : decode cX2_takeTable 55 = .ok (.aaload, 1) := by decide +kernel
theorem dX2_takeTable_56 : decode cX2_takeTable 56 = .ok (.areturn, 1) := by decide +kernel
theorem dX2_takeTable_57 : decode cX2_takeTable 57 = .ok (.iinc 1 1, 3) := by decide +kernel
theorem dX2_takeTable_60 : decode cX2_takeTable 60 = .ok (.goto (-58), 3) := by decide +kernel
theorem dX2_takeTable_63 : decode cX2_takeTable 63 = .ok (.aconst_null, 1) := by decide +kernel
theorem dX2_takeTable_64 : decode cX2_takeTable 64 = .ok (.areturn, 1) := by decide +kernel
theorem dX2_retire_0 : decode cX2_retire 0 = .ok (.aload_n 0, 1) := by decide +kernel
theorem dX2_retire_1 : decode cX2_retire 1 = .ok (.getfield 42, 3) := by decide +kernel
theorem dX2_retire_4 : decode cX2_retire 4 = .ok (.sipush 256, 3) := by decide +kernel
theorem dX2_retire_7 : decode cX2_retire 7 = .ok (.if_icmp .ge 23, 3) := by decide +kernel
theorem dX2_retire_10 : decode cX2_retire 10 = .ok (.aload_n 0, 1) := by decide +kernel
theorem dX2_retire_11 : decode cX2_retire 11 = .ok (.getfield 25, 3) := by decide +kernel
theorem dX2_retire_14 : decode cX2_retire 14 = .ok (.aload_n 0, 1) := by decide +kernel
theorem dX2_retire_15 : decode cX2_retire 15 = .ok (.getfield 42, 3) := by decide +kernel
theorem dX2_retire_18 : decode cX2_retire 18 = .ok (.aload_n 1, 1) := by decide +kernel
theorem dX2_retire_19 : decode cX2_retire 19 = .ok (.aastore, 1) := by decide +kernel
theorem dX2_retire_20 : decode cX2_retire 20 = .ok (.aload_n 0, 1) := by decide +kernel
theorem dX2_retire_21 : decode cX2_retire 21 = .ok (.dup, 1) := by decide +kernel
theorem dX2_retire_22 : decode cX2_retire 22 = .ok (.getfield 42, 3) := by decide +kernel
theorem dX2_retire_25 : decode cX2_retire 25 = .ok (.iconst 1, 1) := by decide +kernel
theorem dX2_retire_26 : decode cX2_retire 26 = .ok (.iadd, 1) := by decide +kernel
theorem dX2_retire_27 : decode cX2_retire 27 = .ok (.putfield 42, 3) := by decide +kernel
theorem dX2_retire_30 : decode cX2_retire 30 = .ok (.return_, 1) := by decide +kernel
theorem dX2_freeRetired_0 : decode cX2_freeRetired 0 = .ok (.iconst 0, 1) := by decide +kernel
theorem dX2_freeRetired_1 : decode cX2_freeRetired 1 = .ok (.istore_n 1, 1) := by decide +kernel
theorem dX2_freeRetired_2 : decode cX2_freeRetired 2 = .ok (.iload_n 1, 1) := by decide +kernel
theorem dX2_freeRetired_3 : decode cX2_freeRetired 3 = .ok (.aload_n 0, 1) := by decide +kernel
theorem dX2_freeRetired_4 : decode cX2_freeRetired 4 = .ok (.getfield 42, 3) := by decide +kernel
theorem dX2_freeRetired_7 : decode cX2_freeRetired 7 = .ok (.if_icmp .ge 32, 3) := by decide +kernel
theorem dX2_freeRetired_10 : decode cX2_freeRetired 10 = .ok (.aload_n 0, 1) := by decide +kernel
theorem dX2_freeRetired_11 : decode cX2_freeRetired 11 = .ok (.getfield 25, 3) := by decide +kernel
theorem dX2_freeRetired_14 : decode cX2_freeRetired 14 = .ok (.iload_n 1, 1) := by decide +kernel
theorem dX2_freeRetired_15 : decode cX2_freeRetired 15 = .ok (.aaload, 1) := by decide +kernel
theorem dX2_freeRetired_16 : decode cX2_freeRetired 16 = .ok (.astore_n 2, 1) := by decide +kernel
theorem dX2_freeRetired_17 : decode cX2_freeRetired 17 = .ok (.aload_n 2, 1) := by decide +kernel
theorem dX2_freeRetired_18 : decode cX2_freeRetired 18 = .ok (.ifnull 15, 3) := by decide +kernel
theorem dX2_freeRetired_21 : decode cX2_freeRetired 21 = .ok (.aload_n 2, 1) := by decide +kernel
theorem dX2_freeRetired_22 : decode cX2_freeRetired 22 = .ok (.getfield 38, 3) := by decide +kernel
theorem dX2_freeRetired_25 : decode cX2_freeRetired 25 = .ok (.ifCond .eq 8, 3) := by decide +kernel
theorem dX2_freeRetired_28 : decode cX2_freeRetired 28 = .ok (.aload_n 0, 1) := by decide +kernel
theorem dX2_freeRetired_29 : decode cX2_freeRetired 29 = .ok (.aload_n 2, 1) := by decide +kernel
theorem dX2_freeRetired_30 : decode cX2_freeRetired 30 = .ok (.invokevirtual 61, 3) := by decide +kernel
theorem dX2_freeRetired_33 : decode cX2_freeRetired 33 = .ok (.iinc 1 1, 3) := by decide +kernel
theorem dX2_freeRetired_36 : decode cX2_freeRetired 36 = .ok (.goto (-34), 3) := by decide +kernel
theorem dX2_freeRetired_39 : decode cX2_freeRetired 39 = .ok (.aload_n 0, 1) := by decide +kernel
theorem dX2_freeRetired_40 : decode cX2_freeRetired 40 = .ok (.iconst 0, 1) := by decide +kernel
theorem dX2_freeRetired_41 : decode cX2_freeRetired 41 = .ok (.putfield 42, 3) := by decide +kernel
theorem dX2_freeRetired_44 : decode cX2_freeRetired 44 = .ok (.return_, 1) := by decide +kernel
theorem dX2_free_0 : decode cX2_free 0 = .ok (.iconst 0, 1) := by decide +kernel
theorem dX2_free_1 : decode cX2_free 1 = .ok (.istore_n 2, 1) := by decide +kernel
theorem dX2_free_2 : decode cX2_free 2 = .ok (.iload_n 2, 1) := by decide +kernel
theorem dX2_free_3 : decode cX2_free 3 = .ok (.aload_n 1, 1) := by decide +kernel
theorem dX2_free_4 : decode cX2_free 4 = .ok (.getfield 65, 3) := by decide +kernel
theorem dX2_free_7 : decode cX2_free 7 = .ok (.if_icmp .ge 56, 3) := by decide +kernel
theorem dX2_free_10 : decode cX2_free 10 = .ok (.aload_n 1, 1) := by decide +kernel
theorem dX2_free_11 : decode cX2_free 11 = .ok (.getfield 68, 3) := by decide +kernel
theorem dX2_free_14 : decode cX2_free 14 = .ok (.iload_n 2, 1) := by decide +kernel
theorem dX2_free_15 : decode cX2_free 15 = .ok (.iaload, 1) := by decide +kernel
theorem dX2_free_16 : decode cX2_free 16 = .ok (.bipush 80, 2) := by decide +kernel
theorem dX2_free_18 : decode cX2_free 18 = .ok (.isub, 1) := by decide +kernel
theorem dX2_free_19 : decode cX2_free 19 = .ok (.istore_n 3, 1) := by decide +kernel
theorem dX2_free_20 : decode cX2_free 20 = .ok (.iload_n 3, 1) := by decide +kernel
theorem dX2_free_21 : decode cX2_free 21 = .ok (.ifCond .lt 36, 3) := by decide +kernel
theorem dX2_free_24 : decode cX2_free 24 = .ok (.iload_n 3, 1) := by decide +kernel
theorem dX2_free_25 : decode cX2_free 25 = .ok (.sipush 512, 3) := by decide +kernel
theorem dX2_free_28 : decode cX2_free 28 = .ok (.if_icmp .ge 29, 3) := by decide +kernel
theorem dX2_free_31 : decode cX2_free 31 = .ok (.aload_n 0, 1) := by decide +kernel
theorem dX2_free_32 : decode cX2_free 32 = .ok (.getfield 9, 3) := by decide +kernel
theorem dX2_free_35 : decode cX2_free 35 = .ok (.iload_n 3, 1) := by decide +kernel
theorem dX2_free_36 : decode cX2_free 36 = .ok (.baload, 1) := by decide +kernel
theorem dX2_free_37 : decode cX2_free 37 = .ok (.ifCond .eq 20, 3) := by decide +kernel
theorem dX2_free_40 : decode cX2_free 40 = .ok (.aload_n 0, 1) := by decide +kernel
theorem dX2_free_41 : decode cX2_free 41 = .ok (.getfield 9, 3) := by decide +kernel
theorem dX2_free_44 : decode cX2_free 44 = .ok (.iload_n 3, 1) := by decide +kernel
theorem dX2_free_45 : decode cX2_free 45 = .ok (.iconst 0, 1) := by decide +kernel
theorem dX2_free_46 : decode cX2_free 46 = .ok (.bastore, 1) := by decide +kernel
theorem dX2_free_47 : decode cX2_free 47 = .ok (.aload_n 0, 1) := by decide +kernel
theorem dX2_free_48 : decode cX2_free 48 = .ok (.dup, 1) := by decide +kernel
theorem dX2_free_49 : decode cX2_free 49 = .ok (.getfield 28, 3) := by decide +kernel
theorem dX2_free_52 : decode cX2_free 52 = .ok (.iconst 1, 1) := by decide +kernel
theorem dX2_free_53 : decode cX2_free 53 = .ok (.iadd, 1) := by decide +kernel
theorem dX2_free_54 : decode cX2_free 54 = .ok (.putfield 28, 3) := by decide +kernel
theorem dX2_free_57 : decode cX2_free 57 = .ok (.iinc 2 1, 3) := by decide +kernel
theorem dX2_free_60 : decode cX2_free 60 = .ok (.goto (-58), 3) := by decide +kernel
theorem dX2_free_63 : decode cX2_free 63 = .ok (.aload_n 1, 1) := by decide +kernel
theorem dX2_free_64 : decode cX2_free 64 = .ok (.iconst 0, 1) := by decide +kernel
theorem dX2_free_65 : decode cX2_free 65 = .ok (.putfield 38, 3) := by decide +kernel
theorem dX2_free_68 : decode cX2_free 68 = .ok (.aload_n 0, 1) := by decide +kernel
theorem dX2_free_69 : decode cX2_free 69 = .ok (.dup, 1) := by decide +kernel
theorem dX2_free_70 : decode cX2_free 70 = .ok (.getfield 32, 3) := by decide +kernel
theorem dX2_free_73 : decode cX2_free 73 = .ok (.iconst 1, 1) := by decide +kernel
theorem dX2_free_74 : decode cX2_free 74 = .ok (.iadd, 1) := by decide +kernel
theorem dX2_free_75 : decode cX2_free 75 = .ok (.putfield 32, 3) := by decide +kernel
theorem dX2_free_78 : decode cX2_free 78 = .ok (.return_, 1) := by decide +kernel
theorem dX2_strayBlocks_0 : decode cX2_strayBlocks 0 = .ok (.iconst 0, 1) := by decide +kernel
theorem dX2_strayBlocks_1 : decode cX2_strayBlocks 1 = .ok (.istore_n 2, 1) := by decide +kernel
theorem dX2_strayBlocks_2 : decode cX2_strayBlocks 2 = .ok (.iload_n 2, 1) := by decide +kernel
theorem dX2_strayBlocks_3 : decode cX2_strayBlocks 3 = .ok (.sipush 512, 3) := by decide +kernel
theorem dX2_strayBlocks_6 : decode cX2_strayBlocks 6 = .ok (.if_icmp .ge 16, 3) := by decide +kernel
theorem dX2_strayBlocks_9 : decode cX2_strayBlocks 9 = .ok (.aload_n 0, 1) := by decide +kernel
theorem dX2_strayBlocks_10 : decode cX2_strayBlocks 10 = .ok (.getfield 15, 3) := by decide +kernel
theorem dX2_strayBlocks_13 : decode cX2_strayBlocks 13 = .ok (.iload_n 2, 1) := by decide +kernel
theorem dX2_strayBlocks_14 : decode cX2_strayBlocks 14 = .ok (.iconst 0, 1) := by decide +kernel
theorem dX2_strayBlocks_15 : decode cX2_strayBlocks 15 = .ok (.iastore, 1) := by decide +kernel
theorem dX2_strayBlocks_16 : decode cX2_strayBlocks 16 = .ok (.iinc 2 1, 3) := by decide +kernel
theorem dX2_strayBlocks_19 : decode cX2_strayBlocks 19 = .ok (.goto (-17), 3) := by decide +kernel
theorem dX2_strayBlocks_22 : decode cX2_strayBlocks 22 = .ok (.iconst 0, 1) := by decide +kernel
theorem dX2_strayBlocks_23 : decode cX2_strayBlocks 23 = .ok (.istore_n 2, 1) := by decide +kernel
theorem dX2_strayBlocks_24 : decode cX2_strayBlocks 24 = .ok (.iconst 0, 1) := by decide +kernel
theorem dX2_strayBlocks_25 : decode cX2_strayBlocks 25 = .ok (.istore_n 3, 1) := by decide +kernel
theorem dX2_strayBlocks_26 : decode cX2_strayBlocks 26 = .ok (.iload_n 3, 1) := by decide +kernel
theorem dX2_strayBlocks_27 : decode cX2_strayBlocks 27 = .ok (.aload_n 1, 1) := by decide +kernel
theorem dX2_strayBlocks_28 : decode cX2_strayBlocks 28 = .ok (.arraylength, 1) := by decide +kernel
theorem dX2_strayBlocks_29 : decode cX2_strayBlocks 29 = .ok (.if_icmp .ge 44, 3) := by decide +kernel
theorem dX2_strayBlocks_32 : decode cX2_strayBlocks 32 = .ok (.iconst 0, 1) := by decide +kernel
theorem dX2_strayBlocks_33 : decode cX2_strayBlocks 33 = .ok (.istore 4, 2) := by decide +kernel
theorem dX2_strayBlocks_35 : decode cX2_strayBlocks 35 = .ok (.iload 4, 2) := by decide +kernel
theorem dX2_strayBlocks_37 : decode cX2_strayBlocks 37 = .ok (.aload_n 1, 1) := by decide +kernel
theorem dX2_strayBlocks_38 : decode cX2_strayBlocks 38 = .ok (.iload_n 3, 1) := by decide +kernel
theorem dX2_strayBlocks_39 : decode cX2_strayBlocks 39 = .ok (.aaload, 1) := by decide +kernel
theorem dX2_strayBlocks_40 : decode cX2_strayBlocks 40 = .ok (.getfield 71, 3) := by decide +kernel
theorem dX2_strayBlocks_43 : decode cX2_strayBlocks 43 = .ok (.if_icmp .ge 24, 3) := by decide +kernel
theorem dX2_strayBlocks_46 : decode cX2_strayBlocks 46 = .ok (.iload_n 2, 1) := by decide +kernel
theorem dX2_strayBlocks_47 : decode cX2_strayBlocks 47 = .ok (.aload_n 0, 1) := by decide +kernel
theorem dX2_strayBlocks_48 : decode cX2_strayBlocks 48 = .ok (.aload_n 1, 1) := by decide +kernel
theorem dX2_strayBlocks_49 : decode cX2_strayBlocks 49 = .ok (.iload_n 3, 1) := by decide +kernel
theorem dX2_strayBlocks_50 : decode cX2_strayBlocks 50 = .ok (.aaload, 1) := by decide +kernel
theorem dX2_strayBlocks_51 : decode cX2_strayBlocks 51 = .ok (.iload 4, 2) := by decide +kernel
theorem dX2_strayBlocks_53 : decode cX2_strayBlocks 53 = .ok (.invokevirtual 74, 3) := by decide +kernel
theorem dX2_strayBlocks_56 : decode cX2_strayBlocks 56 = .ok (.invokevirtual 78, 3) := by decide +kernel
theorem dX2_strayBlocks_59 : decode cX2_strayBlocks 59 = .ok (.iadd, 1) := by decide +kernel
theorem dX2_strayBlocks_60 : decode cX2_strayBlocks 60 = .ok (.istore_n 2, 1) := by decide +kernel
theorem dX2_strayBlocks_61 : decode cX2_strayBlocks 61 = .ok (.iinc 4 1, 3) := by decide +kernel
theorem dX2_strayBlocks_64 : decode cX2_strayBlocks 64 = .ok (.goto (-29), 3) := by decide +kernel
theorem dX2_strayBlocks_67 : decode cX2_strayBlocks 67 = .ok (.iinc 3 1, 3) := by decide +kernel
theorem dX2_strayBlocks_70 : decode cX2_strayBlocks 70 = .ok (.goto (-44), 3) := by decide +kernel
theorem dX2_strayBlocks_73 : decode cX2_strayBlocks 73 = .ok (.iconst 0, 1) := by decide +kernel
theorem dX2_strayBlocks_74 : decode cX2_strayBlocks 74 = .ok (.istore_n 3, 1) := by decide +kernel
theorem dX2_strayBlocks_75 : decode cX2_strayBlocks 75 = .ok (.iload_n 3, 1) := by decide +kernel
theorem dX2_strayBlocks_76 : decode cX2_strayBlocks 76 = .ok (.sipush 512, 3) := by decide +kernel
theorem dX2_strayBlocks_79 : decode cX2_strayBlocks 79 = .ok (.if_icmp .ge 43, 3) := by decide +kernel
theorem dX2_strayBlocks_82 : decode cX2_strayBlocks 82 = .ok (.aload_n 0, 1) := by decide +kernel
theorem dX2_strayBlocks_83 : decode cX2_strayBlocks 83 = .ok (.getfield 9, 3) := by decide +kernel
theorem dX2_strayBlocks_86 : decode cX2_strayBlocks 86 = .ok (.iload_n 3, 1) := by decide +kernel
theorem dX2_strayBlocks_87 : decode cX2_strayBlocks 87 = .ok (.baload, 1) := by decide +kernel
theorem dX2_strayBlocks_88 : decode cX2_strayBlocks 88 = .ok (.ifCond .eq 16, 3) := by decide +kernel
theorem dX2_strayBlocks_91 : decode cX2_strayBlocks 91 = .ok (.aload_n 0, 1) := by decide +kernel
theorem dX2_strayBlocks_92 : decode cX2_strayBlocks 92 = .ok (.getfield 15, 3) := by decide +kernel
theorem dX2_strayBlocks_95 : decode cX2_strayBlocks 95 = .ok (.iload_n 3, 1) := by decide +kernel
theorem dX2_strayBlocks_96 : decode cX2_strayBlocks 96 = .ok (.iaload, 1) := by decide +kernel
theorem dX2_strayBlocks_97 : decode cX2_strayBlocks 97 = .ok (.iconst 1, 1) := by decide +kernel
theorem dX2_strayBlocks_98 : decode cX2_strayBlocks 98 = .ok (.if_icmp .eq 18, 3) := by decide +kernel
theorem dX2_strayBlocks_101 : decode cX2_strayBlocks 101 = .ok (.goto 12, 3) := by decide +kernel
theorem dX2_strayBlocks_104 : decode cX2_strayBlocks 104 = .ok (.aload_n 0, 1) := by decide +kernel
theorem dX2_strayBlocks_105 : decode cX2_strayBlocks 105 = .ok (.getfield 15, 3) := by decide +kernel
theorem dX2_strayBlocks_108 : decode cX2_strayBlocks 108 = .ok (.iload_n 3, 1) := by decide +kernel
theorem dX2_strayBlocks_109 : decode cX2_strayBlocks 109 = .ok (.iaload, 1) := by decide +kernel
theorem dX2_strayBlocks_110 : decode cX2_strayBlocks 110 = .ok (.ifCond .eq 6, 3) := by decide +kernel
theorem dX2_strayBlocks_113 : decode cX2_strayBlocks 113 = .ok (.iinc 2 1, 3) := by decide +kernel
theorem dX2_strayBlocks_116 : decode cX2_strayBlocks 116 = .ok (.iinc 3 1, 3) := by decide +kernel
theorem dX2_strayBlocks_119 : decode cX2_strayBlocks 119 = .ok (.goto (-44), 3) := by decide +kernel
theorem dX2_strayBlocks_122 : decode cX2_strayBlocks 122 = .ok (.iload_n 2, 1) := by decide +kernel
theorem dX2_strayBlocks_123 : decode cX2_strayBlocks 123 = .ok (.ireturn, 1) := by decide +kernel
theorem dX2_own_0 : decode cX2_own 0 = .ok (.iconst 0, 1) := by decide +kernel
theorem dX2_own_1 : decode cX2_own 1 = .ok (.istore_n 2, 1) := by decide +kernel
theorem dX2_own_2 : decode cX2_own 2 = .ok (.iconst 0, 1) := by decide +kernel
theorem dX2_own_3 : decode cX2_own 3 = .ok (.istore_n 3, 1) := by decide +kernel
theorem dX2_own_4 : decode cX2_own 4 = .ok (.iload_n 3, 1) := by decide +kernel
theorem dX2_own_5 : decode cX2_own 5 = .ok (.aload_n 1, 1) := by decide +kernel
theorem dX2_own_6 : decode cX2_own 6 = .ok (.getfield 65, 3) := by decide +kernel
theorem dX2_own_9 : decode cX2_own 9 = .ok (.if_icmp .ge 50, 3) := by decide +kernel
theorem dX2_own_12 : decode cX2_own 12 = .ok (.aload_n 1, 1) := by decide +kernel
theorem dX2_own_13 : decode cX2_own 13 = .ok (.getfield 68, 3) := by decide +kernel
theorem dX2_own_16 : decode cX2_own 16 = .ok (.iload_n 3, 1) := by decide +kernel
theorem dX2_own_17 : decode cX2_own 17 = .ok (.iaload, 1) := by decide +kernel
theorem dX2_own_18 : decode cX2_own 18 = .ok (.bipush 80, 2) := by decide +kernel
theorem dX2_own_20 : decode cX2_own 20 = .ok (.isub, 1) := by decide +kernel
theorem dX2_own_21 : decode cX2_own 21 = .ok (.istore 4, 2) := by decide +kernel
theorem dX2_own_23 : decode cX2_own 23 = .ok (.iload 4, 2) := by decide +kernel
theorem dX2_own_25 : decode cX2_own 25 = .ok (.ifCond .lt 25, 3) := by decide +kernel
theorem dX2_own_28 : decode cX2_own 28 = .ok (.iload 4, 2) := by decide +kernel
theorem dX2_own_30 : decode cX2_own 30 = .ok (.sipush 512, 3) := by decide +kernel
theorem dX2_own_33 : decode cX2_own 33 = .ok (.if_icmp .ge 17, 3) := by decide +kernel
theorem dX2_own_36 : decode cX2_own 36 = .ok (.aload_n 0, 1) := by decide +kernel
theorem dX2_own_37 : decode cX2_own 37 = .ok (.getfield 15, 3) := by decide +kernel
theorem dX2_own_40 : decode cX2_own 40 = .ok (.iload 4, 2) := by decide +kernel
theorem dX2_own_42 : decode cX2_own 42 = .ok (.dup2, 1) := by decide +kernel
theorem dX2_own_43 : decode cX2_own 43 = .ok (.iaload, 1) := by decide +kernel
theorem dX2_own_44 : decode cX2_own 44 = .ok (.iconst 1, 1) := by decide +kernel
theorem dX2_own_45 : decode cX2_own 45 = .ok (.iadd, 1) := by decide +kernel
theorem dX2_own_46 : decode cX2_own 46 = .ok (.iastore, 1) := by decide +kernel
theorem dX2_own_47 : decode cX2_own 47 = .ok (.goto 6, 3) := by decide +kernel
theorem dX2_own_50 : decode cX2_own 50 = .ok (.iinc 2 1, 3) := by decide +kernel
theorem dX2_own_53 : decode cX2_own 53 = .ok (.iinc 3 1, 3) := by decide +kernel
theorem dX2_own_56 : decode cX2_own 56 = .ok (.goto (-52), 3) := by decide +kernel
theorem dX2_own_59 : decode cX2_own 59 = .ok (.iload_n 2, 1) := by decide +kernel
theorem dX2_own_60 : decode cX2_own 60 = .ok (.ireturn, 1) := by decide +kernel
theorem dX3_init_0 : decode cX3_init 0 = .ok (.aload_n 0, 1) := by decide +kernel
theorem dX3_init_1 : decode cX3_init 1 = .ok (.invokespecial 3, 3) := by decide +kernel
theorem dX3_init_4 : decode cX3_init 4 = .ok (.aload_n 0, 1) := by decide +kernel
theorem dX3_init_5 : decode cX3_init 5 = .ok (.sipush 2048, 3) := by decide +kernel
theorem dX3_init_8 : decode cX3_init 8 = .ok (.newarray .byte, 2) := by decide +kernel
theorem dX3_init_10 : decode cX3_init 10 = .ok (.putfield 9, 3) := by decide +kernel
theorem dX3_init_13 : decode cX3_init 13 = .ok (.aload_n 0, 1) := by decide +kernel
theorem dX3_init_14 : decode cX3_init 14 = .ok (.aload_n 1, 1) := by decide +kernel
theorem dX3_init_15 : decode cX3_init 15 = .ok (.putfield 15, 3) := by decide +kernel
theorem dX3_init_18 : decode cX3_init 18 = .ok (.return_, 1) := by decide +kernel
theorem dX3_install_0 : decode cX3_install 0 = .ok (.aload_n 0, 1) := by decide +kernel
theorem dX3_install_1 : decode cX3_install 1 = .ok (.iload_n 1, 1) := by decide +kernel
theorem dX3_install_2 : decode cX3_install 2 = .ok (.iload_n 2, 1) := by decide +kernel
theorem dX3_install_3 : decode cX3_install 3 = .ok (.aload_n 3, 1) := by decide +kernel
theorem dX3_install_4 : decode cX3_install 4 = .ok (.invokevirtual 19, 3) := by decide +kernel
theorem dX3_install_7 : decode cX3_install 7 = .ok (.aload_n 0, 1) := by decide +kernel
theorem dX3_install_8 : decode cX3_install 8 = .ok (.getfield 23, 3) := by decide +kernel
theorem dX3_install_11 : decode cX3_install 11 = .ok (.iconst 1, 1) := by decide +kernel
theorem dX3_install_12 : decode cX3_install 12 = .ok (.iadd, 1) := by decide +kernel
theorem dX3_install_13 : decode cX3_install 13 = .ok (.iconst 2, 1) := by decide +kernel
theorem dX3_install_14 : decode cX3_install 14 = .ok (.invokestatic 27, 3) := by decide +kernel
theorem dX3_install_17 : decode cX3_install 17 = .ok (.sipush 2048, 3) := by decide +kernel
theorem dX3_install_20 : decode cX3_install 20 = .ok (.imul, 1) := by decide +kernel
theorem dX3_install_21 : decode cX3_install 21 = .ok (.istore 4, 2) := by decide +kernel
theorem dX3_install_23 : decode cX3_install 23 = .ok (.iconst 0, 1) := by decide +kernel
theorem dX3_install_24 : decode cX3_install 24 = .ok (.istore 5, 2) := by decide +kernel
theorem dX3_install_26 : decode cX3_install 26 = .ok (.iload 5, 2) := by decide +kernel
theorem dX3_install_28 : decode cX3_install 28 = .ok (.iconst 4, 1) := by decide +kernel
theorem dX3_install_29 : decode cX3_install 29 = .ok (.if_icmp .ge 25, 3) := by decide +kernel
theorem dX3_install_32 : decode cX3_install 32 = .ok (.aload_n 0, 1) := by decide +kernel
theorem dX3_install_33 : decode cX3_install 33 = .ok (.getfield 15, 3) := by decide +kernel
theorem dX3_install_36 : decode cX3_install 36 = .ok (.iload 4, 2) := by decide +kernel
theorem dX3_install_38 : decode cX3_install 38 = .ok (.iload 5, 2) := by decide +kernel
theorem dX3_install_40 : decode cX3_install 40 = .ok (.sipush 512, 3) := by decide +kernel
theorem dX3_install_43 : decode cX3_install 43 = .ok (.imul, 1) := by decide +kernel
theorem dX3_install_44 : decode cX3_install 44 = .ok (.iadd, 1) := by decide +kernel
theorem dX3_install_45 : decode cX3_install 45 = .ok (.invokevirtual 33, 3) := by decide +kernel
theorem dX3_install_48 : decode cX3_install 48 = .ok (.iinc 5 1, 3) := by decide +kernel
theorem dX3_install_51 : decode cX3_install 51 = .ok (.goto (-25), 3) := by decide +kernel
theorem dX3_install_54 : decode cX3_install 54 = .ok (.iconst 0, 1) := by decide +kernel
theorem dX3_install_55 : decode cX3_install 55 = .ok (.istore 5, 2) := by decide +kernel
theorem dX3_install_57 : decode cX3_install 57 = .ok (.iload 5, 2) := by decide +kernel
theorem dX3_install_59 : decode cX3_install 59 = .ok (.aload_n 0, 1) := by decide +kernel
theorem dX3_install_60 : decode cX3_install 60 = .ok (.getfield 39, 3) := by decide +kernel
theorem dX3_install_63 : decode cX3_install 63 = .ok (.if_icmp .ge 44, 3) := by decide +kernel
theorem dX3_install_66 : decode cX3_install 66 = .ok (.aload_n 0, 1) := by decide +kernel
theorem dX3_install_67 : decode cX3_install 67 = .ok (.getfield 15, 3) := by decide +kernel
theorem dX3_install_70 : decode cX3_install 70 = .ok (.iload 4, 2) := by decide +kernel
theorem dX3_install_72 : decode cX3_install 72 = .ok (.iload 5, 2) := by decide +kernel
theorem dX3_install_74 : decode cX3_install 74 = .ok (.iadd, 1) := by decide +kernel
theorem dX3_install_75 : decode cX3_install 75 = .ok (.aload_n 0, 1) := by decide +kernel
theorem dX3_install_76 : decode cX3_install 76 = .ok (.getfield 9, 3) := by decide +kernel
theorem dX3_install_79 : decode cX3_install 79 = .ok (.iload 5, 2) := by decide +kernel
theorem dX3_install_81 : decode cX3_install 81 = .ok (.sipush 512, 3) := by decide +kernel
theorem dX3_install_84 : decode cX3_install 84 = .ok (.aload_n 0, 1) := by decide +kernel
theorem dX3_install_85 : decode cX3_install 85 = .ok (.getfield 39, 3) := by decide +kernel
theorem dX3_install_88 : decode cX3_install 88 = .ok (.iload 5, 2) := by decide +kernel
theorem dX3_install_90 : decode cX3_install 90 = .ok (.isub, 1) := by decide +kernel
theorem dX3_install_91 : decode cX3_install 91 = .ok (.invokestatic 42, 3) := by decide +kernel
theorem dX3_install_94 : decode cX3_install 94 = .ok (.iconst 0, 1) := by decide +kernel
theorem dX3_install_95 : decode cX3_install 95 = .ok (.invokevirtual 45, 3) := by decide +kernel
theorem dX3_install_98 : decode cX3_install 98 = .ok (.iinc 5 512, 6) := by decide +kernel
theorem dX3_install_104 : decode cX3_install 104 = .ok (.goto (-47), 3) := by decide +kernel
theorem dX3_install_107 : decode cX3_install 107 = .ok (.aload_n 0, 1) := by decide +kernel
theorem dX3_install_108 : decode cX3_install 108 = .ok (.dup, 1) := by decide +kernel
theorem dX3_install_109 : decode cX3_install 109 = .ok (.getfield 23, 3) := by decide +kernel
theorem dX3_install_112 : decode cX3_install 112 = .ok (.iconst 1, 1) := by decide +kernel
theorem dX3_install_113 : decode cX3_install 113 = .ok (.iadd, 1) := by decide +kernel
theorem dX3_install_114 : decode cX3_install 114 = .ok (.putfield 23, 3) := by decide +kernel
theorem dX3_install_117 : decode cX3_install 117 = .ok (.aload_n 0, 1) := by decide +kernel
theorem dX3_install_118 : decode cX3_install 118 = .ok (.iload_n 1, 1) := by decide +kernel
theorem dX3_install_119 : decode cX3_install 119 = .ok (.putfield 49, 3) := by decide +kernel
theorem dX3_install_122 : decode cX3_install 122 = .ok (.aload_n 0, 1) := by decide +kernel
theorem dX3_install_123 : decode cX3_install 123 = .ok (.iload_n 2, 1) := by decide +kernel
theorem dX3_install_124 : decode cX3_install 124 = .ok (.putfield 52, 3) := by decide +kernel
theorem dX3_install_127 : decode cX3_install 127 = .ok (.return_, 1) := by decide +kernel
theorem dX3_describe_0 : decode cX3_describe 0 = .ok (.aload_n 0, 1) := by decide +kernel
theorem dX3_describe_1 : decode cX3_describe 1 = .ok (.iconst 0, 1) := by decide +kernel
theorem dX3_describe_2 : decode cX3_describe 2 = .ok (.putfield 39, 3) := by decide +kernel
theorem dX3_describe_5 : decode cX3_describe 5 = .ok (.aload_n 0, 1) := by decide +kernel
theorem dX3_describe_6 : decode cX3_describe 6 = .ok (.aload_n 0, 1) := by decide +kernel
theorem dX3_describe_7 : decode cX3_describe 7 = .ok (.getfield 23, 3) := by decide +kernel
theorem dX3_describe_10 : decode cX3_describe 10 = .ok (.iconst 1, 1) := by decide +kernel
theorem dX3_describe_11 : decode cX3_describe 11 = .ok (.iadd, 1) := by decide +kernel
theorem dX3_describe_12 : decode cX3_describe 12 = .ok (.iconst 4, 1) := by decide +kernel
theorem dX3_describe_13 : decode cX3_describe 13 = .ok (.invokevirtual 55, 3) := by decide +kernel
theorem dX3_describe_16 : decode cX3_describe 16 = .ok (.aload_n 0, 1) := by decide +kernel
theorem dX3_describe_17 : decode cX3_describe 17 = .ok (.iconst 0, 1) := by decide +kernel
theorem dX3_describe_18 : decode cX3_describe 18 = .ok (.iconst 2, 1) := by decide +kernel
theorem dX3_describe_19 : decode cX3_describe 19 = .ok (.invokevirtual 55, 3) := by decide +kernel
theorem dX3_describe_22 : decode cX3_describe 22 = .ok (.aload_n 0, 1) := by decide +kernel
theorem dX3_describe_23 : decode cX3_describe 23 = .ok (.iload_n 1, 1) := by decide +kernel
theorem dX3_describe_24 : decode cX3_describe 24 = .ok (.iconst 1, 1) := by decide +kernel
theorem dX3_describe_25 : decode cX3_describe 25 = .ok (.invokevirtual 55, 3) := by decide +kernel
theorem dX3_describe_28 : decode cX3_describe 28 = .ok (.aload_n 0, 1) := by decide +kernel
theorem dX3_describe_29 : decode cX3_describe 29 = .ok (.iload_n 2, 1) := by decide +kernel
theorem dX3_describe_30 : decode cX3_describe 30 = .ok (.iconst 4, 1) := by decide +kernel
theorem dX3_describe_31 : decode cX3_describe 31 = .ok (.invokevirtual 55, 3) := by decide +kernel
theorem dX3_describe_34 : decode cX3_describe 34 = .ok (.iconst 0, 1) := by decide +kernel
theorem dX3_describe_35 : decode cX3_describe 35 = .ok (.istore 4, 2) := by decide +kernel
theorem dX3_describe_37 : decode cX3_describe 37 = .ok (.iload 4, 2) := by decide +kernel
theorem dX3_describe_39 : decode cX3_describe 39 = .ok (.aload_n 3, 1) := by decide +kernel
theorem dX3_describe_40 : decode cX3_describe 40 = .ok (.arraylength, 1) := by decide +kernel
theorem dX3_describe_41 : decode cX3_describe 41 = .ok (.if_icmp .ge 55, 3) := by decide +kernel
theorem dX3_describe_44 : decode cX3_describe 44 = .ok (.aload_n 0, 1) := by decide +kernel
theorem dX3_describe_45 : decode cX3_describe 45 = .ok (.aload_n 3, 1) := by decide +kernel
theorem dX3_describe_46 : decode cX3_describe 46 = .ok (.iload 4, 2) := by decide +kernel
theorem dX3_describe_48 : decode cX3_describe 48 = .ok (.aaload, 1) := by decide +kernel
theorem dX3_describe_49 : decode cX3_describe 49 = .ok (.getfield 59, 3) := by decide +kernel
theorem dX3_describe_52 : decode cX3_describe 52 = .ok (.iconst 2, 1) := by decide +kernel
theorem dX3_describe_53 : decode cX3_describe 53 = .ok (.invokevirtual 55, 3) := by decide +kernel
theorem dX3_describe_56 : decode cX3_describe 56 = .ok (.iconst 0, 1) := by decide +kernel
theorem dX3_describe_57 : decode cX3_describe 57 = .ok (.istore 5, 2) := by decide +kernel
theorem dX3_describe_59 : decode cX3_describe 59 = .ok (.iload 5, 2) := by decide +kernel
theorem dX3_describe_61 : decode cX3_describe 61 = .ok (.aload_n 3, 1) := by decide +kernel
theorem dX3_describe_62 : decode cX3_describe 62 = .ok (.iload 4, 2) := by decide +kernel
theorem dX3_describe_64 : decode cX3_describe 64 = .ok (.aaload, 1) := by decide +kernel
theorem dX3_describe_65 : decode cX3_describe 65 = .ok (.getfield 59, 3) := by decide +kernel
theorem dX3_describe_68 : decode cX3_describe 68 = .ok (.if_icmp .ge 22, 3) := by decide +kernel
theorem dX3_describe_71 : decode cX3_describe 71 = .ok (.aload_n 0, 1) := by decide +kernel
theorem dX3_describe_72 : decode cX3_describe 72 = .ok (.aload_n 3, 1) := by decide +kernel
theorem dX3_describe_73 : decode cX3_describe 73 = .ok (.iload 4, 2) := by decide +kernel
theorem dX3_describe_75 : decode cX3_describe 75 = .ok (.aaload, 1) := by decide +kernel
theorem dX3_describe_76 : decode cX3_describe 76 = .ok (.iload 5, 2) := by decide +kernel
theorem dX3_describe_78 : decode cX3_describe 78 = .ok (.invokevirtual 64, 3) := by decide +kernel
theorem dX3_describe_81 : decode cX3_describe 81 = .ok (.invokevirtual 68, 3) := by decide +kernel
theorem dX3_describe_84 : decode cX3_describe 84 = .ok (.iinc 5 1, 3) := by decide +kernel
theorem dX3_describe_87 : decode cX3_describe 87 = .ok (.goto (-28), 3) := by decide +kernel
theorem dX3_describe_90 : decode cX3_describe 90 = .ok (.iinc 4 1, 3) := by decide +kernel
theorem dX3_describe_93 : decode cX3_describe 93 = .ok (.goto (-56), 3) := by decide +kernel
theorem dX3_describe_96 : decode cX3_describe 96 = .ok (.aload_n 0, 1) := by decide +kernel
theorem dX3_describe_97 : decode cX3_describe 97 = .ok (.getfield 9, 3) := by decide +kernel
theorem dX3_describe_100 : decode cX3_describe 100 = .ok (.iconst 4, 1) := by decide +kernel
theorem dX3_describe_101 : decode cX3_describe 101 = .ok (.aload_n 0, 1) := by decide +kernel
theorem dX3_describe_102 : decode cX3_describe 102 = .ok (.getfield 39, 3) := by decide +kernel
theorem dX3_describe_105 : decode cX3_describe 105 = .ok (.bipush 8, 2) := by decide +kernel
theorem dX3_describe_107 : decode cX3_describe 107 = .ok (.ishr, 1) := by decide +kernel
theorem dX3_describe_108 : decode cX3_describe 108 = .ok (.i2b, 1) := by decide +kernel
theorem dX3_describe_109 : decode cX3_describe 109 = .ok (.bastore, 1) := by decide +kernel
theorem dX3_describe_110 : decode cX3_describe 110 = .ok (.aload_n 0, 1) := by decide +kernel
theorem dX3_describe_111 : decode cX3_describe 111 = .ok (.getfield 9, 3) := by decide +kernel
theorem dX3_describe_114 : decode cX3_describe 114 = .ok (.iconst 5, 1) := by decide +kernel
theorem dX3_describe_115 : decode cX3_describe 115 = .ok (.aload_n 0, 1) := by decide +kernel
theorem dX3_describe_116 : decode cX3_describe 116 = .ok (.getfield 39, 3) := by decide +kernel
theorem dX3_describe_119 : decode cX3_describe 119 = .ok (.i2b, 1) := by decide +kernel
theorem dX3_describe_120 : decode cX3_describe 120 = .ok (.bastore, 1) := by decide +kernel
theorem dX3_describe_121 : decode cX3_describe 121 = .ok (.aload_n 0, 1) := by decide +kernel
theorem dX3_describe_122 : decode cX3_describe 122 = .ok (.sipush 165, 3) := by decide +kernel
theorem dX3_describe_125 : decode cX3_describe 125 = .ok (.iconst 1, 1) := by decide +kernel
theorem dX3_describe_126 : decode cX3_describe 126 = .ok (.invokevirtual 55, 3) := by decide +kernel
theorem dX3_describe_129 : decode cX3_describe 129 = .ok (.return_, 1) := by decide +kernel
theorem dX3_addTable_0 : decode cX3_addTable 0 = .ok (.aload_n 0, 1) := by decide +kernel
theorem dX3_addTable_1 : decode cX3_addTable 1 = .ok (.aload_n 1, 1) := by decide +kernel
theorem dX3_addTable_2 : decode cX3_addTable 2 = .ok (.getfield 72, 3) := by decide +kernel
theorem dX3_addTable_5 : decode cX3_addTable 5 = .ok (.iconst 1, 1) := by decide +kernel
theorem dX3_addTable_6 : decode cX3_addTable 6 = .ok (.invokevirtual 55, 3) := by decide +kernel
theorem dX3_addTable_9 : decode cX3_addTable 9 = .ok (.iconst 0, 1) := by decide +kernel
theorem dX3_addTable_10 : decode cX3_addTable 10 = .ok (.istore_n 2, 1) := by decide +kernel
theorem dX3_addTable_11 : decode cX3_addTable 11 = .ok (.iload_n 2, 1) := by decide +kernel
theorem dX3_addTable_12 : decode cX3_addTable 12 = .ok (.aload_n 1, 1) := by decide +kernel
theorem dX3_addTable_13 : decode cX3_addTable 13 = .ok (.getfield 72, 3) := by decide +kernel
theorem dX3_addTable_16 : decode cX3_addTable 16 = .ok (.if_icmp .ge 20, 3) := by decide +kernel
theorem dX3_addTable_19 : decode cX3_addTable 19 = .ok (.aload_n 0, 1) := by decide +kernel
theorem dX3_addTable_20 : decode cX3_addTable 20 = .ok (.aload_n 1, 1) := by decide +kernel
theorem dX3_addTable_21 : decode cX3_addTable 21 = .ok (.getfield 75, 3) := by decide +kernel
theorem dX3_addTable_24 : decode cX3_addTable 24 = .ok (.iload_n 2, 1) := by decide +kernel
theorem dX3_addTable_25 : decode cX3_addTable 25 = .ok (.iaload, 1) := by decide +kernel
theorem dX3_addTable_26 : decode cX3_addTable 26 = .ok (.iconst 2, 1) := by decide +kernel
theorem dX3_addTable_27 : decode cX3_addTable 27 = .ok (.invokevirtual 55, 3) := by decide +kernel
theorem dX3_addTable_30 : decode cX3_addTable 30 = .ok (.iinc 2 1, 3) := by decide +kernel
theorem dX3_addTable_33 : decode cX3_addTable 33 = .ok (.goto (-22), 3) := by decide +kernel
theorem dX3_addTable_36 : decode cX3_addTable 36 = .ok (.return_, 1) := by decide +kernel
theorem dX3_addNumber_0 : decode cX3_addNumber 0 = .ok (.iload_n 2, 1) := by decide +kernel
theorem dX3_addNumber_1 : decode cX3_addNumber 1 = .ok (.iconst 1, 1) := by decide +kernel
theorem dX3_addNumber_2 : decode cX3_addNumber 2 = .ok (.isub, 1) := by decide +kernel
theorem dX3_addNumber_3 : decode cX3_addNumber 3 = .ok (.istore_n 3, 1) := by decide +kernel
theorem dX3_addNumber_4 : decode cX3_addNumber 4 = .ok (.iload_n 3, 1) := by decide +kernel
theorem dX3_addNumber_5 : decode cX3_addNumber 5 = .ok (.ifCond .lt 45, 3) := by decide +kernel
theorem dX3_addNumber_8 : decode cX3_addNumber 8 = .ok (.aload_n 0, 1) := by decide +kernel
theorem dX3_addNumber_9 : decode cX3_addNumber 9 = .ok (.getfield 39, 3) := by decide +kernel
theorem dX3_addNumber_12 : decode cX3_addNumber 12 = .ok (.sipush 2048, 3) := by decide +kernel
theorem dX3_addNumber_15 : decode cX3_addNumber 15 = .ok (.if_icmp .ge 35, 3) := by decide +kernel
theorem dX3_addNumber_18 : decode cX3_addNumber 18 = .ok (.aload_n 0, 1) := by decide +kernel
theorem dX3_addNumber_19 : decode cX3_addNumber 19 = .ok (.getfield 9, 3) := by decide +kernel
theorem dX3_addNumber_22 : decode cX3_addNumber 22 = .ok (.aload_n 0, 1) := by decide +kernel
theorem dX3_addNumber_23 : decode cX3_addNumber 23 = .ok (.getfield 39, 3) := by decide +kernel
theorem dX3_addNumber_26 : decode cX3_addNumber 26 = .ok (.iload_n 1, 1) := by decide +kernel
theorem dX3_addNumber_27 : decode cX3_addNumber 27 = .ok (.bipush 8, 2) := by decide +kernel
theorem dX3_addNumber_29 : decode cX3_addNumber 29 = .ok (.iload_n 3, 1) := by decide +kernel
theorem dX3_addNumber_30 : decode cX3_addNumber 30 = .ok (.imul, 1) := by decide +kernel
theorem dX3_addNumber_31 : decode cX3_addNumber 31 = .ok (.ishr, 1) := by decide +kernel
theorem dX3_addNumber_32 : decode cX3_addNumber 32 = .ok (.i2b, 1) := by decide +kernel
theorem dX3_addNumber_33 : decode cX3_addNumber 33 = .ok (.bastore, 1) := by decide +kernel
theorem dX3_addNumber_34 : decode cX3_addNumber 34 = .ok (.aload_n 0, 1) := by decide +kernel
theorem dX3_addNumber_35 : decode cX3_addNumber 35 = .ok (.dup, 1) := by decide +kernel
theorem dX3_addNumber_36 : decode cX3_addNumber 36 = .ok (.getfield 39, 3) := by decide +kernel
theorem dX3_addNumber_39 : decode cX3_addNumber 39 = .ok (.iconst 1, 1) := by decide +kernel
theorem dX3_addNumber_40 : decode cX3_addNumber 40 = .ok (.iadd, 1) := by decide +kernel
theorem dX3_addNumber_41 : decode cX3_addNumber 41 = .ok (.putfield 39, 3) := by decide +kernel
theorem dX3_addNumber_44 : decode cX3_addNumber 44 = .ok (.iinc 3 (-1), 3) := by decide +kernel
theorem dX3_addNumber_47 : decode cX3_addNumber 47 = .ok (.goto (-43), 3) := by decide +kernel
theorem dX3_addNumber_50 : decode cX3_addNumber 50 = .ok (.return_, 1) := by decide +kernel
theorem dX3_load_0 : decode cX3_load 0 = .ok (.aload_n 0, 1) := by decide +kernel
theorem dX3_load_1 : decode cX3_load 1 = .ok (.iconst 0, 1) := by decide +kernel
theorem dX3_load_2 : decode cX3_load 2 = .ok (.invokevirtual 79, 3) := by decide +kernel
theorem dX3_load_5 : decode cX3_load 5 = .ok (.istore_n 3, 1) := by decide +kernel
theorem dX3_load_6 : decode cX3_load 6 = .ok (.aload_n 0, 1) := by decide +kernel
theorem dX3_load_7 : decode cX3_load 7 = .ok (.sipush 2048, 3) := by decide +kernel
theorem dX3_load_10 : decode cX3_load 10 = .ok (.invokevirtual 79, 3) := by decide +kernel
theorem dX3_load_13 : decode cX3_load 13 = .ok (.istore 4, 2) := by decide +kernel
theorem dX3_load_15 : decode cX3_load 15 = .ok (.aload_n 0, 1) := by decide +kernel
theorem dX3_load_16 : decode cX3_load 16 = .ok (.iload_n 3, 1) := by decide +kernel
theorem dX3_load_17 : decode cX3_load 17 = .ok (.iload 4, 2) := by decide +kernel
theorem dX3_load_19 : decode cX3_load 19 = .ok (.invokestatic 83, 3) := by decide +kernel
theorem dX3_load_22 : decode cX3_load 22 = .ok (.putfield 23, 3) := by decide +kernel
theorem dX3_load_25 : decode cX3_load 25 = .ok (.aload_n 0, 1) := by decide +kernel
theorem dX3_load_26 : decode cX3_load 26 = .ok (.iconst 0, 1) := by decide +kernel
theorem dX3_load_27 : decode cX3_load 27 = .ok (.putfield 49, 3) := by decide +kernel
theorem dX3_load_30 : decode cX3_load 30 = .ok (.aload_n 0, 1) := by decide +kernel
theorem dX3_load_31 : decode cX3_load 31 = .ok (.iconst 0, 1) := by decide +kernel
theorem dX3_load_32 : decode cX3_load 32 = .ok (.putfield 52, 3) := by decide +kernel
theorem dX3_load_35 : decode cX3_load 35 = .ok (.aload_n 0, 1) := by decide +kernel
theorem dX3_load_36 : decode cX3_load 36 = .ok (.getfield 23, 3) := by decide +kernel
theorem dX3_load_39 : decode cX3_load 39 = .ok (.ifCond .ne 4, 3) := by decide +kernel
theorem dX3_load_42 : decode cX3_load 42 = .ok (.return_, 1) := by decide +kernel
theorem dX3_load_43 : decode cX3_load 43 = .ok (.aload_n 0, 1) := by decide +kernel
theorem dX3_load_44 : decode cX3_load 44 = .ok (.iload 4, 2) := by decide +kernel
theorem dX3_load_46 : decode cX3_load 46 = .ok (.iload_n 3, 1) := by decide +kernel
theorem dX3_load_47 : decode cX3_load 47 = .ok (.if_icmp .le 9, 3) := by decide +kernel
theorem dX3_load_50 : decode cX3_load 50 = .ok (.sipush 2048, 3) := by decide +kernel
theorem dX3_load_53 : decode cX3_load 53 = .ok (.goto 4, 3) := by decide +kernel
theorem dX3_load_56 : decode cX3_load 56 = .ok (.iconst 0, 1) := by decide +kernel
theorem dX3_load_57 : decode cX3_load 57 = .ok (.iconst 4, 1) := by decide +kernel
theorem dX3_load_58 : decode cX3_load 58 = .ok (.iadd, 1) := by decide +kernel
theorem dX3_load_59 : decode cX3_load 59 = .ok (.iconst 2, 1) := by decide +kernel
theorem dX3_load_60 : decode cX3_load 60 = .ok (.iadd, 1) := by decide +kernel
theorem dX3_load_61 : decode cX3_load 61 = .ok (.putfield 86, 3) := by decide +kernel
theorem dX3_load_64 : decode cX3_load 64 = .ok (.aload_n 0, 1) := by decide +kernel
theorem dX3_load_65 : decode cX3_load 65 = .ok (.aload_n 0, 1) := by decide +kernel
theorem dX3_load_66 : decode cX3_load 66 = .ok (.iconst 1, 1) := by decide +kernel
theorem dX3_load_67 : decode cX3_load 67 = .ok (.invokevirtual 89, 3) := by decide +kernel
theorem dX3_load_70 : decode cX3_load 70 = .ok (.putfield 49, 3) := by decide +kernel
theorem dX3_load_73 : decode cX3_load 73 = .ok (.aload_n 0, 1) := by decide +kernel
theorem dX3_load_74 : decode cX3_load 74 = .ok (.aload_n 0, 1) := by decide +kernel
theorem dX3_load_75 : decode cX3_load 75 = .ok (.iconst 4, 1) := by decide +kernel
theorem dX3_load_76 : decode cX3_load 76 = .ok (.invokevirtual 89, 3) := by decide +kernel
theorem dX3_load_79 : decode cX3_load 79 = .ok (.putfield 52, 3) := by decide +kernel
theorem dX3_load_82 : decode cX3_load 82 = .ok (.iconst 0, 1) := by decide +kernel
theorem dX3_load_83 : decode cX3_load 83 = .ok (.istore 5, 2) := by decide +kernel
theorem dX3_load_85 : decode cX3_load 85 = .ok (.iload 5, 2) := by decide +kernel
theorem dX3_load_87 : decode cX3_load 87 = .ok (.aload_n 1, 1) := by decide +kernel
theorem dX3_load_88 : decode cX3_load 88 = .ok (.arraylength, 1) := by decide +kernel
theorem dX3_load_89 : decode cX3_load 89 = .ok (.if_icmp .ge 47, 3) := by decide +kernel
theorem dX3_load_92 : decode cX3_load 92 = .ok (.aload_n 0, 1) := by decide +kernel
theorem dX3_load_93 : decode cX3_load 93 = .ok (.iconst 2, 1) := by decide +kernel
theorem dX3_load_94 : decode cX3_load 94 = .ok (.invokevirtual 89, 3) := by decide +kernel
theorem dX3_load_97 : decode cX3_load 97 = .ok (.sipush 256, 3) := by decide +kernel
theorem dX3_load_100 : decode cX3_load 100 = .ok (.invokestatic 42, 3) := by decide +kernel
theorem dX3_load_103 : decode cX3_load 103 = .ok (.istore 6, 2) := by decide +kernel
theorem dX3_load_105 : decode cX3_load 105 = .ok (.iconst 0, 1) := by decide +kernel
theorem dX3_load_106 : decode cX3_load 106 = .ok (.istore 7, 2) := by decide +kernel
theorem dX3_load_108 : decode cX3_load 108 = .ok (.iload 7, 2) := by decide +kernel
theorem dX3_load_110 : decode cX3_load 110 = .ok (.iload 6, 2) := by decide +kernel
theorem dX3_load_112 : decode cX3_load 112 = .ok (.if_icmp .ge 18, 3) := by decide +kernel
theorem dX3_load_115 : decode cX3_load 115 = .ok (.aload_n 0, 1) := by decide +kernel
theorem dX3_load_116 : decode cX3_load 116 = .ok (.aload_n 1, 1) := by decide +kernel
theorem dX3_load_117 : decode cX3_load 117 = .ok (.iload 5, 2) := by decide +kernel
theorem dX3_load_119 : decode cX3_load 119 = .ok (.aaload, 1) := by decide +kernel
theorem dX3_load_120 : decode cX3_load 120 = .ok (.aload_n 2, 1) := by decide +kernel
theorem dX3_load_121 : decode cX3_load 121 = .ok (.invokevirtual 92, 3) := by decide +kernel
theorem dX3_load_124 : decode cX3_load 124 = .ok (.iinc 7 1, 3) := by decide +kernel
theorem dX3_load_127 : decode cX3_load 127 = .ok (.goto (-19), 3) := by decide +kernel
theorem dX3_load_130 : decode cX3_load 130 = .ok (.iinc 5 1, 3) := by decide +kernel
theorem dX3_load_133 : decode cX3_load 133 = .ok (.goto (-48), 3) := by decide +kernel
theorem dX3_load_136 : decode cX3_load 136 = .ok (.return_, 1) := by decide +kernel
theorem dX3_generationAt_0 : decode cX3_generationAt 0 = .ok (.aload_n 0, 1) := by decide +kernel
theorem dX3_generationAt_1 : decode cX3_generationAt 1 = .ok (.getfield 15, 3) := by decide +kernel
theorem dX3_generationAt_4 : decode cX3_generationAt 4 = .ok (.iload_n 1, 1) := by decide +kernel
theorem dX3_generationAt_5 : decode cX3_generationAt 5 = .ok (.iconst 4, 1) := by decide +kernel
theorem dX3_generationAt_6 : decode cX3_generationAt 6 = .ok (.iadd, 1) := by decide +kernel
theorem dX3_generationAt_7 : decode cX3_generationAt 7 = .ok (.iconst 2, 1) := by decide +kernel
theorem dX3_generationAt_8 : decode cX3_generationAt 8 = .ok (.invokevirtual 96, 3) := by decide +kernel
theorem dX3_generationAt_11 : decode cX3_generationAt 11 = .ok (.istore_n 2, 1) := by decide +kernel
theorem dX3_generationAt_12 : decode cX3_generationAt 12 = .ok (.iload_n 2, 1) := by decide +kernel
theorem dX3_generationAt_13 : decode cX3_generationAt 13 = .ok (.iconst 4, 1) := by decide +kernel
theorem dX3_generationAt_14 : decode cX3_generationAt 14 = .ok (.if_icmp .le 26, 3) := by decide +kernel
theorem dX3_generationAt_17 : decode cX3_generationAt 17 = .ok (.iload_n 2, 1) := by decide +kernel
theorem dX3_generationAt_18 : decode cX3_generationAt 18 = .ok (.sipush 2048, 3) := by decide +kernel
theorem dX3_generationAt_21 : decode cX3_generationAt 21 = .ok (.if_icmp .ge 19, 3) := by decide +kernel
theorem dX3_generationAt_24 : decode cX3_generationAt 24 = .ok (.aload_n 0, 1) := by decide +kernel
theorem dX3_generationAt_25 : decode cX3_generationAt 25 = .ok (.getfield 15, 3) := by decide +kernel
theorem dX3_generationAt_28 : decode cX3_generationAt 28 = .ok (.iload_n 1, 1) := by decide +kernel
theorem dX3_generationAt_29 : decode cX3_generationAt 29 = .ok (.iload_n 2, 1) := by decide +kernel
theorem dX3_generationAt_30 : decode cX3_generationAt 30 = .ok (.iadd, 1) := by decide +kernel
theorem dX3_generationAt_31 : decode cX3_generationAt 31 = .ok (.invokevirtual 99, 3) := by decide +kernel
theorem dX3_generationAt_34 : decode cX3_generationAt 34 = .ok (.sipush 165, 3) := by decide +kernel
theorem dX3_generationAt_37 : decode cX3_generationAt 37 = .ok (.if_icmp .eq 5, 3) := by decide +kernel
theorem dX3_generationAt_40 : decode cX3_generationAt 40 = .ok (.iconst 0, 1) := by decide +kernel
theorem dX3_generationAt_41 : decode cX3_generationAt 41 = .ok (.ireturn, 1) := by decide +kernel
theorem dX3_generationAt_42 : decode cX3_generationAt 42 = .ok (.iconst 0, 1) := by decide +kernel
theorem dX3_generationAt_43 : decode cX3_generationAt 43 = .ok (.aload_n 0, 1) := by decide +kernel
theorem dX3_generationAt_44 : decode cX3_generationAt 44 = .ok (.getfield 15, 3) := by decide +kernel
theorem dX3_generationAt_47 : decode cX3_generationAt 47 = .ok (.iload_n 1, 1) := by decide +kernel
theorem dX3_generationAt_48 : decode cX3_generationAt 48 = .ok (.iconst 4, 1) := by decide +kernel
theorem dX3_generationAt_49 : decode cX3_generationAt 49 = .ok (.invokevirtual 96, 3) := by decide +kernel
theorem dX3_generationAt_52 : decode cX3_generationAt 52 = .ok (.invokestatic 83, 3) := by decide +kernel
theorem dX3_generationAt_55 : decode cX3_generationAt 55 = .ok (.ireturn, 1) := by decide +kernel
theorem dX3_readTable_0 : decode cX3_readTable 0 = .ok (.aload_n 0, 1) := by decide +kernel
theorem dX3_readTable_1 : decode cX3_readTable 1 = .ok (.iconst 1, 1) := by decide +kernel
theorem dX3_readTable_2 : decode cX3_readTable 2 = .ok (.invokevirtual 89, 3) := by decide +kernel
theorem dX3_readTable_5 : decode cX3_readTable 5 = .ok (.istore_n 3, 1) := by decide +kernel
theorem dX3_readTable_6 : decode cX3_readTable 6 = .ok (.aload_n 2, 1) := by decide +kernel
theorem dX3_readTable_7 : decode cX3_readTable 7 = .ok (.invokevirtual 102, 3) := by decide +kernel
theorem dX3_readTable_10 : decode cX3_readTable 10 = .ok (.astore 4, 2) := by decide +kernel
theorem dX3_readTable_12 : decode cX3_readTable 12 = .ok (.iconst 0, 1) := by decide +kernel
theorem dX3_readTable_13 : decode cX3_readTable 13 = .ok (.istore 5, 2) := by decide +kernel
theorem dX3_readTable_15 : decode cX3_readTable 15 = .ok (.iload 5, 2) := by decide +kernel
theorem dX3_readTable_17 : decode cX3_readTable 17 = .ok (.iload_n 3, 1) := by decide +kernel
theorem dX3_readTable_18 : decode cX3_readTable 18 = .ok (.if_icmp .ge 37, 3) := by decide +kernel
theorem dX3_readTable_21 : decode cX3_readTable 21 = .ok (.aload_n 0, 1) := by decide +kernel
theorem dX3_readTable_22 : decode cX3_readTable 22 = .ok (.iconst 2, 1) := by decide +kernel
theorem dX3_readTable_23 : decode cX3_readTable 23 = .ok (.invokevirtual 89, 3) := by decide +kernel
theorem dX3_readTable_26 : decode cX3_readTable 26 = .ok (.istore 6, 2) := by decide +kernel
theorem dX3_readTable_28 : decode cX3_readTable 28 = .ok (.aload 4, 2) := by decide +kernel
theorem dX3_readTable_30 : decode cX3_readTable 30 = .ok (.ifnull 19, 3) := by decide +kernel
theorem dX3_readTable_33 : decode cX3_readTable 33 = .ok (.aload_n 2, 1) := by decide +kernel
theorem dX3_readTable_34 : decode cX3_readTable 34 = .ok (.iload 6, 2) := by decide +kernel
theorem dX3_readTable_36 : decode cX3_readTable 36 = .ok (.invokevirtual 108, 3) := by decide +kernel
theorem dX3_readTable_39 : decode cX3_readTable 39 = .ok (.ifCond .eq 10, 3) := by decide +kernel
theorem dX3_readTable_42 : decode cX3_readTable 42 = .ok (.aload 4, 2) := by decide +kernel
theorem dX3_readTable_44 : decode cX3_readTable 44 = .ok (.iload 6, 2) := by decide +kernel
theorem dX3_readTable_46 : decode cX3_readTable 46 = .ok (.invokevirtual 112, 3) := by decide +kernel
theorem dX3_readTable_49 : decode cX3_readTable 49 = .ok (.iinc 5 1, 3) := by decide +kernel
theorem dX3_readTable_52 : decode cX3_readTable 52 = .ok (.goto (-37), 3) := by decide +kernel
theorem dX3_readTable_55 : decode cX3_readTable 55 = .ok (.aload 4, 2) := by decide +kernel
theorem dX3_readTable_57 : decode cX3_readTable 57 = .ok (.ifnull 14, 3) := by decide +kernel
theorem dX3_readTable_60 : decode cX3_readTable 60 = .ok (.aload 4, 2) := by decide +kernel
theorem dX3_readTable_62 : decode cX3_readTable 62 = .ok (.invokevirtual 115, 3) := by decide +kernel
theorem dX3_readTable_65 : decode cX3_readTable 65 = .ok (.aload_n 1, 1) := by decide +kernel
theorem dX3_readTable_66 : decode cX3_readTable 66 = .ok (.aload 4, 2) := by decide +kernel
theorem dX3_readTable_68 : decode cX3_readTable 68 = .ok (.invokevirtual 118, 3) := by decide +kernel
theorem dX3_readTable_71 : decode cX3_readTable 71 = .ok (.return_, 1) := by decide +kernel
theorem dX3_read_0 : decode cX3_read 0 = .ok (.aload_n 0, 1) := by decide +kernel
theorem dX3_read_1 : decode cX3_read 1 = .ok (.getfield 15, 3) := by decide +kernel
theorem dX3_read_4 : decode cX3_read 4 = .ok (.aload_n 0, 1) := by decide +kernel
theorem dX3_read_5 : decode cX3_read 5 = .ok (.getfield 86, 3) := by decide +kernel
theorem dX3_read_8 : decode cX3_read 8 = .ok (.iload_n 1, 1) := by decide +kernel
theorem dX3_read_9 : decode cX3_read 9 = .ok (.invokevirtual 96, 3) := by decide +kernel
theorem dX3_read_12 : decode cX3_read 12 = .ok (.istore_n 2, 1) := by decide +kernel
theorem dX3_read_13 : decode cX3_read 13 = .ok (.aload_n 0, 1) := by decide +kernel
theorem dX3_read_14 : decode cX3_read 14 = .ok (.dup, 1) := by decide +kernel
theorem dX3_read_15 : decode cX3_read 15 = .ok (.getfield 86, 3) := by decide +kernel
theorem dX3_read_18 : decode cX3_read 18 = .ok (.iload_n 1, 1) := by decide +kernel
theorem dX3_read_19 : decode cX3_read 19 = .ok (.iadd, 1) := by decide +kernel
theorem dX3_read_20 : decode cX3_read 20 = .ok (.putfield 86, 3) := by decide +kernel
theorem dX3_read_23 : decode cX3_read 23 = .ok (.iload_n 2, 1) := by decide +kernel
theorem dX3_read_24 : decode cX3_read 24 = .ok (.ireturn, 1) := by decide +kernel
theorem dX4_init_0 : decode cX4_init 0 = .ok (.aload_n 0, 1) := by decide +kernel
theorem dX4_init_1 : decode cX4_init 1 = .ok (.invokespecial 3, 3) := by decide +kernel
theorem dX4_init_4 : decode cX4_init 4 = .ok (.aload_n 0, 1) := by decide +kernel
theorem dX4_init_5 : decode cX4_init 5 = .ok (.sipush 256, 3) := by decide +kernel
theorem dX4_init_8 : decode cX4_init 8 = .ok (.anewarray 9, 3) := by decide +kernel
theorem dX4_init_11 : decode cX4_init 11 = .ok (.putfield 11, 3) := by decide +kernel
theorem dX4_init_14 : decode cX4_init 14 = .ok (.aload_n 0, 1) := by decide +kernel
theorem dX4_init_15 : decode cX4_init 15 = .ok (.aload_n 1, 1) := by decide +kernel
theorem dX4_init_16 : decode cX4_init 16 = .ok (.putfield 17, 3) := by decide +kernel
theorem dX4_init_19 : decode cX4_init 19 = .ok (.aload_n 0, 1) := by decide +kernel
theorem dX4_init_20 : decode cX4_init 20 = .ok (.new 9, 3) := by decide +kernel
theorem dX4_init_23 : decode cX4_init 23 = .ok (.dup, 1) := by decide +kernel
theorem dX4_init_24 : decode cX4_init 24 = .ok (.aload_n 1, 1) := by decide +kernel
theorem dX4_init_25 : decode cX4_init 25 = .ok (.invokespecial 21, 3) := by decide +kernel
theorem dX4_init_28 : decode cX4_init 28 = .ok (.putfield 24, 3) := by decide +kernel
theorem dX4_init_31 : decode cX4_init 31 = .ok (.aload_n 0, 1) := by decide +kernel
theorem dX4_init_32 : decode cX4_init 32 = .ok (.getfield 24, 3) := by decide +kernel
theorem dX4_init_35 : decode cX4_init 35 = .ok (.invokevirtual 28, 3) := by decide +kernel
theorem dX4_init_38 : decode cX4_init 38 = .ok (.return_, 1) := by decide +kernel
theorem dX4_clear_0 : decode cX4_clear 0 = .ok (.aload_n 0, 1) := by decide +kernel
theorem dX4_clear_1 : decode cX4_clear 1 = .ok (.iconst 0, 1) := by decide +kernel
theorem dX4_clear_2 : decode cX4_clear 2 = .ok (.putfield 31, 3) := by decide +kernel
theorem dX4_clear_5 : decode cX4_clear 5 = .ok (.aload_n 0, 1) := by decide +kernel
theorem dX4_clear_6 : decode cX4_clear 6 = .ok (.iconst 0, 1) := by decide +kernel
theorem dX4_clear_7 : decode cX4_clear 7 = .ok (.putfield 35, 3) := by decide +kernel
theorem dX4_clear_10 : decode cX4_clear 10 = .ok (.aload_n 0, 1) := by decide +kernel
theorem dX4_clear_11 : decode cX4_clear 11 = .ok (.iconst 0, 1) := by decide +kernel
theorem dX4_clear_12 : decode cX4_clear 12 = .ok (.putfield 38, 3) := by decide +kernel
theorem dX4_clear_15 : decode cX4_clear 15 = .ok (.return_, 1) := by decide +kernel
theorem dX4_table_0 : decode cX4_table 0 = .ok (.iload_n 1, 1) := by decide +kernel
theorem dX4_table_1 : decode cX4_table 1 = .ok (.ifCond .lt 27, 3) := by decide +kernel
theorem dX4_table_4 : decode cX4_table 4 = .ok (.iload_n 1, 1) := by decide +kernel
theorem dX4_table_5 : decode cX4_table 5 = .ok (.aload_n 0, 1) := by decide +kernel
theorem dX4_table_6 : decode cX4_table 6 = .ok (.getfield 31, 3) := by decide +kernel
theorem dX4_table_9 : decode cX4_table 9 = .ok (.if_icmp .ge 19, 3) := by decide +kernel
theorem dX4_table_12 : decode cX4_table 12 = .ok (.iload_n 1, 1) := by decide +kernel
theorem dX4_table_13 : decode cX4_table 13 = .ok (.sipush 256, 3) := by decide +kernel
theorem dX4_table_16 : decode cX4_table 16 = .ok (.if_icmp .ge 12, 3) := by decide +kernel
theorem dX4_table_19 : decode cX4_table 19 = .ok (.aload_n 0, 1) := by decide +kernel
theorem dX4_table_20 : decode cX4_table 20 = .ok (.getfield 11, 3) := by decide +kernel
theorem dX4_table_23 : decode cX4_table 23 = .ok (.iload_n 1, 1) := by decide +kernel
theorem dX4_table_24 : decode cX4_table 24 = .ok (.aaload, 1) := by decide +kernel
theorem dX4_table_25 : decode cX4_table 25 = .ok (.ifnonnull 8, 3) := by decide +kernel
theorem dX4_table_28 : decode cX4_table 28 = .ok (.aload_n 0, 1) := by decide +kernel
theorem dX4_table_29 : decode cX4_table 29 = .ok (.getfield 24, 3) := by decide +kernel
theorem dX4_table_32 : decode cX4_table 32 = .ok (.areturn, 1) := by decide +kernel
theorem dX4_table_33 : decode cX4_table 33 = .ok (.aload_n 0, 1) := by decide +kernel
theorem dX4_table_34 : decode cX4_table 34 = .ok (.getfield 11, 3) := by decide +kernel
theorem dX4_table_37 : decode cX4_table 37 = .ok (.iload_n 1, 1) := by decide +kernel
theorem dX4_table_38 : decode cX4_table 38 = .ok (.aaload, 1) := by decide +kernel
theorem dX4_table_39 : decode cX4_table 39 = .ok (.areturn, 1) := by decide +kernel
theorem dX4_add_0 : decode cX4_add 0 = .ok (.aload_n 0, 1) := by decide +kernel
theorem dX4_add_1 : decode cX4_add 1 = .ok (.getfield 31, 3) := by decide +kernel
theorem dX4_add_4 : decode cX4_add 4 = .ok (.sipush 256, 3) := by decide +kernel
theorem dX4_add_7 : decode cX4_add 7 = .ok (.if_icmp .ge 23, 3) := by decide +kernel
theorem dX4_add_10 : decode cX4_add 10 = .ok (.aload_n 0, 1) := by decide +kernel
theorem dX4_add_11 : decode cX4_add 11 = .ok (.getfield 11, 3) := by decide +kernel
theorem dX4_add_14 : decode cX4_add 14 = .ok (.aload_n 0, 1) := by decide +kernel
theorem dX4_add_15 : decode cX4_add 15 = .ok (.getfield 31, 3) := by decide +kernel
theorem dX4_add_18 : decode cX4_add 18 = .ok (.aload_n 1, 1) := by decide +kernel
theorem dX4_add_19 : decode cX4_add 19 = .ok (.aastore, 1) := by decide +kernel
theorem dX4_add_20 : decode cX4_add 20 = .ok (.aload_n 0, 1) := by decide +kernel
theorem dX4_add_21 : decode cX4_add 21 = .ok (.dup, 1) := by decide +kernel
theorem dX4_add_22 : decode cX4_add 22 = .ok (.getfield 31, 3) := by decide +kernel
theorem dX4_add_25 : decode cX4_add 25 = .ok (.iconst 1, 1) := by decide +kernel
theorem dX4_add_26 : decode cX4_add 26 = .ok (.iadd, 1) := by decide +kernel
theorem dX4_add_27 : decode cX4_add 27 = .ok (.putfield 31, 3) := by decide +kernel
theorem dX4_add_30 : decode cX4_add 30 = .ok (.return_, 1) := by decide +kernel
theorem dX4_blocks_0 : decode cX4_blocks 0 = .ok (.iconst 0, 1) := by decide +kernel
theorem dX4_blocks_1 : decode cX4_blocks 1 = .ok (.istore_n 1, 1) := by decide +kernel
theorem dX4_blocks_2 : decode cX4_blocks 2 = .ok (.iconst 0, 1) := by decide +kernel
theorem dX4_blocks_3 : decode cX4_blocks 3 = .ok (.istore_n 2, 1) := by decide +kernel
theorem dX4_blocks_4 : decode cX4_blocks 4 = .ok (.iload_n 2, 1) := by decide +kernel
theorem dX4_blocks_5 : decode cX4_blocks 5 = .ok (.aload_n 0, 1) := by decide +kernel
theorem dX4_blocks_6 : decode cX4_blocks 6 = .ok (.getfield 31, 3) := by decide +kernel
theorem dX4_blocks_9 : decode cX4_blocks 9 = .ok (.if_icmp .ge 20, 3) := by decide +kernel
theorem dX4_blocks_12 : decode cX4_blocks 12 = .ok (.iload_n 1, 1) := by decide +kernel
theorem dX4_blocks_13 : decode cX4_blocks 13 = .ok (.aload_n 0, 1) := by decide +kernel
theorem dX4_blocks_14 : decode cX4_blocks 14 = .ok (.iload_n 2, 1) := by decide +kernel
theorem dX4_blocks_15 : decode cX4_blocks 15 = .ok (.invokevirtual 41, 3) := by decide +kernel
theorem dX4_blocks_18 : decode cX4_blocks 18 = .ok (.getfield 45, 3) := by decide +kernel
theorem dX4_blocks_21 : decode cX4_blocks 21 = .ok (.iadd, 1) := by decide +kernel
theorem dX4_blocks_22 : decode cX4_blocks 22 = .ok (.istore_n 1, 1) := by decide +kernel
theorem dX4_blocks_23 : decode cX4_blocks 23 = .ok (.iinc 2 1, 3) := by decide +kernel
theorem dX4_blocks_26 : decode cX4_blocks 26 = .ok (.goto (-22), 3) := by decide +kernel
theorem dX4_blocks_29 : decode cX4_blocks 29 = .ok (.iload_n 1, 1) := by decide +kernel
theorem dX4_blocks_30 : decode cX4_blocks 30 = .ok (.ireturn, 1) := by decide +kernel
theorem dX4_firstOf_0 : decode cX4_firstOf 0 = .ok (.aload_n 0, 1) := by decide +kernel
theorem dX4_firstOf_1 : decode cX4_firstOf 1 = .ok (.iload_n 1, 1) := by decide +kernel
theorem dX4_firstOf_2 : decode cX4_firstOf 2 = .ok (.invokevirtual 41, 3) := by decide +kernel
theorem dX4_firstOf_5 : decode cX4_firstOf 5 = .ok (.iconst 0, 1) := by decide +kernel
theorem dX4_firstOf_6 : decode cX4_firstOf 6 = .ok (.invokevirtual 46, 3) := by decide +kernel
theorem dX4_firstOf_9 : decode cX4_firstOf 9 = .ok (.ireturn, 1) := by decide +kernel
theorem dX4_lastOf_0 : decode cX4_lastOf 0 = .ok (.aload_n 0, 1) := by decide +kernel
theorem dX4_lastOf_1 : decode cX4_lastOf 1 = .ok (.iload_n 1, 1) := by decide +kernel
theorem dX4_lastOf_2 : decode cX4_lastOf 2 = .ok (.invokevirtual 41, 3) := by decide +kernel
theorem dX4_lastOf_5 : decode cX4_lastOf 5 = .ok (.getfield 50, 3) := by decide +kernel
theorem dX4_lastOf_8 : decode cX4_lastOf 8 = .ok (.ireturn, 1) := by decide +kernel
theorem dX4_pickNone_0 : decode cX4_pickNone 0 = .ok (.aload_n 0, 1) := by decide +kernel
theorem dX4_pickNone_1 : decode cX4_pickNone 1 = .ok (.iconst 0, 1) := by decide +kernel
theorem dX4_pickNone_2 : decode cX4_pickNone 2 = .ok (.putfield 35, 3) := by decide +kernel
theorem dX4_pickNone_5 : decode cX4_pickNone 5 = .ok (.aload_n 0, 1) := by decide +kernel
theorem dX4_pickNone_6 : decode cX4_pickNone 6 = .ok (.iconst 0, 1) := by decide +kernel
theorem dX4_pickNone_7 : decode cX4_pickNone 7 = .ok (.putfield 38, 3) := by decide +kernel
theorem dX4_pickNone_10 : decode cX4_pickNone 10 = .ok (.return_, 1) := by decide +kernel
theorem dX4_pickAll_0 : decode cX4_pickAll 0 = .ok (.aload_n 0, 1) := by decide +kernel
theorem dX4_pickAll_1 : decode cX4_pickAll 1 = .ok (.iconst 0, 1) := by decide +kernel
theorem dX4_pickAll_2 : decode cX4_pickAll 2 = .ok (.putfield 35, 3) := by decide +kernel
theorem dX4_pickAll_5 : decode cX4_pickAll 5 = .ok (.aload_n 0, 1) := by decide +kernel
theorem dX4_pickAll_6 : decode cX4_pickAll 6 = .ok (.aload_n 0, 1) := by decide +kernel
theorem dX4_pickAll_7 : decode cX4_pickAll 7 = .ok (.getfield 31, 3) := by decide +kernel
theorem dX4_pickAll_10 : decode cX4_pickAll 10 = .ok (.putfield 38, 3) := by decide +kernel
theorem dX4_pickAll_13 : decode cX4_pickAll 13 = .ok (.return_, 1) := by decide +kernel
theorem dX4_pickOne_0 : decode cX4_pickOne 0 = .ok (.aload_n 0, 1) := by decide +kernel
theorem dX4_pickOne_1 : decode cX4_pickOne 1 = .ok (.iconst 0, 1) := by decide +kernel
theorem dX4_pickOne_2 : decode cX4_pickOne 2 = .ok (.iload_n 1, 1) := by decide +kernel
theorem dX4_pickOne_3 : decode cX4_pickOne 3 = .ok (.aload_n 0, 1) := by decide +kernel
theorem dX4_pickOne_4 : decode cX4_pickOne 4 = .ok (.getfield 31, 3) := by decide +kernel
theorem dX4_pickOne_7 : decode cX4_pickOne 7 = .ok (.invokestatic 53, 3) := by decide +kernel
theorem dX4_pickOne_10 : decode cX4_pickOne 10 = .ok (.invokestatic 59, 3) := by decide +kernel
theorem dX4_pickOne_13 : decode cX4_pickOne 13 = .ok (.putfield 35, 3) := by decide +kernel
theorem dX4_pickOne_16 : decode cX4_pickOne 16 = .ok (.aload_n 0, 1) := by decide +kernel
theorem dX4_pickOne_17 : decode cX4_pickOne 17 = .ok (.aload_n 0, 1) := by decide +kernel
theorem dX4_pickOne_18 : decode cX4_pickOne 18 = .ok (.getfield 35, 3) := by decide +kernel
theorem dX4_pickOne_21 : decode cX4_pickOne 21 = .ok (.iconst 1, 1) := by decide +kernel
theorem dX4_pickOne_22 : decode cX4_pickOne 22 = .ok (.iadd, 1) := by decide +kernel
theorem dX4_pickOne_23 : decode cX4_pickOne 23 = .ok (.aload_n 0, 1) := by decide +kernel
theorem dX4_pickOne_24 : decode cX4_pickOne 24 = .ok (.getfield 31, 3) := by decide +kernel
theorem dX4_pickOne_27 : decode cX4_pickOne 27 = .ok (.invokestatic 53, 3) := by decide +kernel
theorem dX4_pickOne_30 : decode cX4_pickOne 30 = .ok (.putfield 38, 3) := by decide +kernel
theorem dX4_pickOne_33 : decode cX4_pickOne 33 = .ok (.return_, 1) := by decide +kernel
theorem dX4_pickOver_0 : decode cX4_pickOver 0 = .ok (.iload_n 1, 1) := by decide +kernel
theorem dX4_pickOver_1 : decode cX4_pickOver 1 = .ok (.iconst (-1), 1) := by decide +kernel
theorem dX4_pickOver_2 : decode cX4_pickOver 2 = .ok (.if_icmp .eq 8, 3) := by decide +kernel
theorem dX4_pickOver_5 : decode cX4_pickOver 5 = .ok (.iload_n 2, 1) := by decide +kernel
theorem dX4_pickOver_6 : decode cX4_pickOver 6 = .ok (.iconst (-1), 1) := by decide +kernel
theorem dX4_pickOver_7 : decode cX4_pickOver 7 = .ok (.if_icmp .ne 8, 3) := by decide +kernel
theorem dX4_pickOver_10 : decode cX4_pickOver 10 = .ok (.aload_n 0, 1) := by decide +kernel
theorem dX4_pickOver_11 : decode cX4_pickOver 11 = .ok (.invokevirtual 62, 3) := by decide +kernel
theorem dX4_pickOver_14 : decode cX4_pickOver 14 = .ok (.return_, 1) := by decide +kernel
theorem dX4_pickOver_15 : decode cX4_pickOver 15 = .ok (.aload_n 0, 1) := by decide +kernel
theorem dX4_pickOver_16 : decode cX4_pickOver 16 = .ok (.iconst 0, 1) := by decide +kernel
theorem dX4_pickOver_17 : decode cX4_pickOver 17 = .ok (.putfield 35, 3) := by decide +kernel
theorem dX4_pickOver_20 : decode cX4_pickOver 20 = .ok (.aload_n 0, 1) := by decide +kernel
theorem dX4_pickOver_21 : decode cX4_pickOver 21 = .ok (.getfield 35, 3) := by decide +kernel
theorem dX4_pickOver_24 : decode cX4_pickOver 24 = .ok (.aload_n 0, 1) := by decide +kernel
theorem dX4_pickOver_25 : decode cX4_pickOver 25 = .ok (.getfield 31, 3) := by decide +kernel
theorem dX4_pickOver_28 : decode cX4_pickOver 28 = .ok (.if_icmp .ge 38, 3) := by decide +kernel
theorem dX4_pickOver_31 : decode cX4_pickOver 31 = .ok (.aload_n 0, 1) := by decide +kernel
theorem dX4_pickOver_32 : decode cX4_pickOver 32 = .ok (.getfield 17, 3) := by decide +kernel
theorem dX4_pickOver_35 : decode cX4_pickOver 35 = .ok (.aload_n 0, 1) := by decide +kernel
theorem dX4_pickOver_36 : decode cX4_pickOver 36 = .ok (.aload_n 0, 1) := by decide +kernel
theorem dX4_pickOver_37 : decode cX4_pickOver 37 = .ok (.getfield 35, 3) := by decide +kernel
theorem dX4_pickOver_40 : decode cX4_pickOver 40 = .ok (.invokevirtual 41, 3) := by decide +kernel
theorem dX4_pickOver_43 : decode cX4_pickOver 43 = .ok (.getfield 50, 3) := by decide +kernel
theorem dX4_pickOver_46 : decode cX4_pickOver 46 = .ok (.iload_n 1, 1) := by decide +kernel
theorem dX4_pickOver_47 : decode cX4_pickOver 47 = .ok (.invokevirtual 65, 3) := by decide +kernel
theorem dX4_pickOver_50 : decode cX4_pickOver 50 = .ok (.ifCond .ge 16, 3) := by decide +kernel
theorem dX4_pickOver_53 : decode cX4_pickOver 53 = .ok (.aload_n 0, 1) := by decide +kernel
theorem dX4_pickOver_54 : decode cX4_pickOver 54 = .ok (.dup, 1) := by decide +kernel
theorem dX4_pickOver_55 : decode cX4_pickOver 55 = .ok (.getfield 35, 3) := by decide +kernel
theorem dX4_pickOver_58 : decode cX4_pickOver 58 = .ok (.iconst 1, 1) := by decide +kernel
theorem dX4_pickOver_59 : decode cX4_pickOver 59 = .ok (.iadd, 1) := by decide +kernel
theorem dX4_pickOver_60 : decode cX4_pickOver 60 = .ok (.putfield 35, 3) := by decide +kernel
theorem dX4_pickOver_63 : decode cX4_pickOver 63 = .ok (.goto (-43), 3) := by decide +kernel
theorem dX4_pickOver_66 : decode cX4_pickOver 66 = .ok (.aload_n 0, 1) := by decide +kernel
theorem dX4_pickOver_67 : decode cX4_pickOver 67 = .ok (.aload_n 0, 1) := by decide +kernel
theorem dX4_pickOver_68 : decode cX4_pickOver 68 = .ok (.getfield 35, 3) := by decide +kernel
theorem dX4_pickOver_71 : decode cX4_pickOver 71 = .ok (.putfield 38, 3) := by decide +kernel
theorem dX4_pickOver_74 : decode cX4_pickOver 74 = .ok (.aload_n 0, 1) := by decide +kernel
theorem dX4_pickOver_75 : decode cX4_pickOver 75 = .ok (.getfield 38, 3) := by decide +kernel
theorem dX4_pickOver_78 : decode cX4_pickOver 78 = .ok (.aload_n 0, 1) := by decide +kernel
theorem dX4_pickOver_79 : decode cX4_pickOver 79 = .ok (.getfield 31, 3) := by decide +kernel
theorem dX4_pickOver_82 : decode cX4_pickOver 82 = .ok (.if_icmp .ge 39, 3) := by decide +kernel
theorem dX4_pickOver_85 : decode cX4_pickOver 85 = .ok (.aload_n 0, 1) := by decide +kernel
theorem dX4_pickOver_86 : decode cX4_pickOver 86 = .ok (.getfield 17, 3) := by decide +kernel
theorem dX4_pickOver_89 : decode cX4_pickOver 89 = .ok (.aload_n 0, 1) := by decide +kernel
theorem dX4_pickOver_90 : decode cX4_pickOver 90 = .ok (.aload_n 0, 1) := by decide +kernel
theorem dX4_pickOver_91 : decode cX4_pickOver 91 = .ok (.getfield 38, 3) := by decide +kernel
theorem dX4_pickOver_94 : decode cX4_pickOver 94 = .ok (.invokevirtual 41, 3) := by decide +kernel
theorem dX4_pickOver_97 : decode cX4_pickOver 97 = .ok (.iconst 0, 1) := by decide +kernel
theorem dX4_pickOver_98 : decode cX4_pickOver 98 = .ok (.invokevirtual 46, 3) := by decide +kernel
theorem dX4_pickOver_101 : decode cX4_pickOver 101 = .ok (.iload_n 2, 1) := by decide +kernel
theorem dX4_pickOver_102 : decode cX4_pickOver 102 = .ok (.invokevirtual 65, 3) := by decide +kernel
theorem dX4_pickOver_105 : decode cX4_pickOver 105 = .ok (.ifCond .gt 16, 3) := by decide +kernel
theorem dX4_pickOver_108 : decode cX4_pickOver 108 = .ok (.aload_n 0, 1) := by decide +kernel
theorem dX4_pickOver_109 : decode cX4_pickOver 109 = .ok (.dup, 1) := by decide +kernel
theorem dX4_pickOver_110 : decode cX4_pickOver 110 = .ok (.getfield 38, 3) := by decide +kernel
theorem dX4_pickOver_113 : decode cX4_pickOver 113 = .ok (.iconst 1, 1) := by decide +kernel
theorem dX4_pickOver_114 : decode cX4_pickOver 114 = .ok (.iadd, 1) := by decide +kernel
theorem dX4_pickOver_115 : decode cX4_pickOver 115 = .ok (.putfield 38, 3) := by decide +kernel
theorem dX4_pickOver_118 : decode cX4_pickOver 118 = .ok (.goto (-44), 3) := by decide +kernel
theorem dX4_pickOver_121 : decode cX4_pickOver 121 = .ok (.aload_n 0, 1) := by decide +kernel
theorem dX4_pickOver_122 : decode cX4_pickOver 122 = .ok (.getfield 35, 3) := by decide +kernel
theorem dX4_pickOver_125 : decode cX4_pickOver 125 = .ok (.ifCond .le 29, 3) := by decide +kernel
theorem dX4_pickOver_128 : decode cX4_pickOver 128 = .ok (.aload_n 0, 1) := by decide +kernel
theorem dX4_pickOver_129 : decode cX4_pickOver 129 = .ok (.aload_n 0, 1) := by decide +kernel
theorem dX4_pickOver_130 : decode cX4_pickOver 130 = .ok (.getfield 35, 3) := by decide +kernel
theorem dX4_pickOver_133 : decode cX4_pickOver 133 = .ok (.iconst 1, 1) := by decide +kernel
theorem dX4_pickOver_134 : decode cX4_pickOver 134 = .ok (.isub, 1) := by decide +kernel
theorem dX4_pickOver_135 : decode cX4_pickOver 135 = .ok (.invokevirtual 41, 3) := by decide +kernel
theorem dX4_pickOver_138 : decode cX4_pickOver 138 = .ok (.invokevirtual 70, 3) := by decide +kernel
theorem dX4_pickOver_141 : decode cX4_pickOver 141 = .ok (.ifCond .eq 13, 3) := by decide +kernel
theorem dX4_pickOver_144 : decode cX4_pickOver 144 = .ok (.aload_n 0, 1) := by decide +kernel
theorem dX4_pickOver_145 : decode cX4_pickOver 145 = .ok (.dup, 1) := by decide +kernel
theorem dX4_pickOver_146 : decode cX4_pickOver 146 = .ok (.getfield 35, 3) := by decide +kernel
theorem dX4_pickOver_149 : decode cX4_pickOver 149 = .ok (.iconst 1, 1) := by decide +kernel
theorem dX4_pickOver_150 : decode cX4_pickOver 150 = .ok (.isub, 1) := by decide +kernel
theorem dX4_pickOver_151 : decode cX4_pickOver 151 = .ok (.putfield 35, 3) := by decide +kernel
theorem dX4_pickOver_154 : decode cX4_pickOver 154 = .ok (.aload_n 0, 1) := by decide +kernel
theorem dX4_pickOver_155 : decode cX4_pickOver 155 = .ok (.getfield 38, 3) := by decide +kernel
theorem dX4_pickOver_158 : decode cX4_pickOver 158 = .ok (.aload_n 0, 1) := by decide +kernel
theorem dX4_pickOver_159 : decode cX4_pickOver 159 = .ok (.getfield 31, 3) := by decide +kernel
theorem dX4_pickOver_162 : decode cX4_pickOver 162 = .ok (.if_icmp .ge 27, 3) := by decide +kernel
theorem dX4_pickOver_165 : decode cX4_pickOver 165 = .ok (.aload_n 0, 1) := by decide +kernel
theorem dX4_pickOver_166 : decode cX4_pickOver 166 = .ok (.aload_n 0, 1) := by decide +kernel
theorem dX4_pickOver_167 : decode cX4_pickOver 167 = .ok (.getfield 38, 3) := by decide +kernel
theorem dX4_pickOver_170 : decode cX4_pickOver 170 = .ok (.invokevirtual 41, 3) := by decide +kernel
theorem dX4_pickOver_173 : decode cX4_pickOver 173 = .ok (.invokevirtual 70, 3) := by decide +kernel
theorem dX4_pickOver_176 : decode cX4_pickOver 176 = .ok (.ifCond .eq 13, 3) := by decide +kernel
theorem dX4_pickOver_179 : decode cX4_pickOver 179 = .ok (.aload_n 0, 1) := by decide +kernel
theorem dX4_pickOver_180 : decode cX4_pickOver 180 = .ok (.dup, 1) := by decide +kernel
theorem dX4_pickOver_181 : decode cX4_pickOver 181 = .ok (.getfield 38, 3) := by decide +kernel
theorem dX4_pickOver_184 : decode cX4_pickOver 184 = .ok (.iconst 1, 1) := by decide +kernel
theorem dX4_pickOver_185 : decode cX4_pickOver 185 = .ok (.iadd, 1) := by decide +kernel
theorem dX4_pickOver_186 : decode cX4_pickOver 186 = .ok (.putfield 38, 3) := by decide +kernel
theorem dX4_pickOver_189 : decode cX4_pickOver 189 = .ok (.return_, 1) := by decide +kernel
theorem dX4_collect_0 : decode cX4_collect 0 = .ok (.aload_n 0, 1) := by decide +kernel
theorem dX4_collect_1 : decode cX4_collect 1 = .ok (.getfield 35, 3) := by decide +kernel
theorem dX4_collect_4 : decode cX4_collect 4 = .ok (.istore_n 2, 1) := by decide +kernel
theorem dX4_collect_5 : decode cX4_collect 5 = .ok (.iload_n 2, 1) := by decide +kernel
theorem dX4_collect_6 : decode cX4_collect 6 = .ok (.aload_n 0, 1) := by decide +kernel
theorem dX4_collect_7 : decode cX4_collect 7 = .ok (.getfield 38, 3) := by decide +kernel
theorem dX4_collect_10 : decode cX4_collect 10 = .ok (.if_icmp .ge 59, 3) := by decide +kernel
theorem dX4_collect_13 : decode cX4_collect 13 = .ok (.aload_n 0, 1) := by decide +kernel
theorem dX4_collect_14 : decode cX4_collect 14 = .ok (.iload_n 2, 1) := by decide +kernel
theorem dX4_collect_15 : decode cX4_collect 15 = .ok (.invokevirtual 41, 3) := by decide +kernel
theorem dX4_collect_18 : decode cX4_collect 18 = .ok (.astore_n 3, 1) := by decide +kernel
theorem dX4_collect_19 : decode cX4_collect 19 = .ok (.aload_n 3, 1) := by decide +kernel
theorem dX4_collect_20 : decode cX4_collect 20 = .ok (.iconst 0, 1) := by decide +kernel
theorem dX4_collect_21 : decode cX4_collect 21 = .ok (.invokevirtual 46, 3) := by decide +kernel
theorem dX4_collect_24 : decode cX4_collect 24 = .ok (.istore 4, 2) := by decide +kernel
theorem dX4_collect_26 : decode cX4_collect 26 = .ok (.iconst 0, 1) := by decide +kernel
theorem dX4_collect_27 : decode cX4_collect 27 = .ok (.istore 5, 2) := by decide +kernel
theorem dX4_collect_29 : decode cX4_collect 29 = .ok (.iload 5, 2) := by decide +kernel
theorem dX4_collect_31 : decode cX4_collect 31 = .ok (.sipush 4608, 3) := by decide +kernel
theorem dX4_collect_34 : decode cX4_collect 34 = .ok (.if_icmp .ge 29, 3) := by decide +kernel
theorem dX4_collect_37 : decode cX4_collect 37 = .ok (.iload 4, 2) := by decide +kernel
theorem dX4_collect_39 : decode cX4_collect 39 = .ok (.iconst (-1), 1) := by decide +kernel
theorem dX4_collect_40 : decode cX4_collect 40 = .ok (.if_icmp .eq 23, 3) := by decide +kernel
theorem dX4_collect_43 : decode cX4_collect 43 = .ok (.aload_n 1, 1) := by decide +kernel
theorem dX4_collect_44 : decode cX4_collect 44 = .ok (.iload 4, 2) := by decide +kernel
theorem dX4_collect_46 : decode cX4_collect 46 = .ok (.invokevirtual 74, 3) := by decide +kernel
theorem dX4_collect_49 : decode cX4_collect 49 = .ok (.aload_n 3, 1) := by decide +kernel
theorem dX4_collect_50 : decode cX4_collect 50 = .ok (.iload 4, 2) := by decide +kernel
theorem dX4_collect_52 : decode cX4_collect 52 = .ok (.invokevirtual 80, 3) := by decide +kernel
theorem dX4_collect_55 : decode cX4_collect 55 = .ok (.istore 4, 2) := by decide +kernel
theorem dX4_collect_57 : decode cX4_collect 57 = .ok (.iinc 5 1, 3) := by decide +kernel
theorem dX4_collect_60 : decode cX4_collect 60 = .ok (.goto (-31), 3) := by decide +kernel
theorem dX4_collect_63 : decode cX4_collect 63 = .ok (.iinc 2 1, 3) := by decide +kernel
theorem dX4_collect_66 : decode cX4_collect 66 = .ok (.goto (-61), 3) := by decide +kernel
theorem dX4_collect_69 : decode cX4_collect 69 = .ok (.return_, 1) := by decide +kernel
theorem dX4_cut_0 : decode cX4_cut 0 = .ok (.aload_n 0, 1) := by decide +kernel
theorem dX4_cut_1 : decode cX4_cut 1 = .ok (.getfield 35, 3) := by decide +kernel
theorem dX4_cut_4 : decode cX4_cut 4 = .ok (.istore_n 2, 1) := by decide +kernel
theorem dX4_cut_5 : decode cX4_cut 5 = .ok (.iload_n 2, 1) := by decide +kernel
theorem dX4_cut_6 : decode cX4_cut 6 = .ok (.aload_n 0, 1) := by decide +kernel
theorem dX4_cut_7 : decode cX4_cut 7 = .ok (.getfield 38, 3) := by decide +kernel
theorem dX4_cut_10 : decode cX4_cut 10 = .ok (.if_icmp .ge 18, 3) := by decide +kernel
theorem dX4_cut_13 : decode cX4_cut 13 = .ok (.aload_n 1, 1) := by decide +kernel
theorem dX4_cut_14 : decode cX4_cut 14 = .ok (.aload_n 0, 1) := by decide +kernel
theorem dX4_cut_15 : decode cX4_cut 15 = .ok (.iload_n 2, 1) := by decide +kernel
theorem dX4_cut_16 : decode cX4_cut 16 = .ok (.invokevirtual 41, 3) := by decide +kernel
theorem dX4_cut_19 : decode cX4_cut 19 = .ok (.invokevirtual 83, 3) := by decide +kernel
theorem dX4_cut_22 : decode cX4_cut 22 = .ok (.iinc 2 1, 3) := by decide +kernel
