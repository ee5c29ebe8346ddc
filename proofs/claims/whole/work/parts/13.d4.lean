theorem dX7_blend_65 : decode cX7_blend 65 = .ok (.iaload, 1) := by decide +kernel
theorem dX7_blend_66 : decode cX7_blend 66 = .ok (.aload_n 0, 1) := by decide +kernel
theorem dX7_blend_67 : decode cX7_blend 67 = .ok (.getfield 9, 3) := by decide +kernel
theorem dX7_blend_70 : decode cX7_blend 70 = .ok (.iload_n 3, 1) := by decide +kernel
theorem dX7_blend_71 : decode cX7_blend 71 = .ok (.iaload, 1) := by decide +kernel
theorem dX7_blend_72 : decode cX7_blend 72 = .ok (.invokevirtual 36, 3) := by decide +kernel
theorem dX7_blend_75 : decode cX7_blend 75 = .ok (.ifCond .eq 22, 3) := by decide +kernel
theorem dX7_blend_78 : decode cX7_blend 78 = .ok (.aload_n 0, 1) := by decide +kernel
theorem dX7_blend_79 : decode cX7_blend 79 = .ok (.getfield 9, 3) := by decide +kernel
theorem dX7_blend_82 : decode cX7_blend 82 = .ok (.iload 4, 2) := by decide +kernel
theorem dX7_blend_84 : decode cX7_blend 84 = .ok (.aload_n 0, 1) := by decide +kernel
theorem dX7_blend_85 : decode cX7_blend 85 = .ok (.getfield 15, 3) := by decide +kernel
theorem dX7_blend_88 : decode cX7_blend 88 = .ok (.iload_n 2, 1) := by decide +kernel
theorem dX7_blend_89 : decode cX7_blend 89 = .ok (.iaload, 1) := by decide +kernel
theorem dX7_blend_90 : decode cX7_blend 90 = .ok (.iastore, 1) := by decide +kernel
theorem dX7_blend_91 : decode cX7_blend 91 = .ok (.iinc 2 1, 3) := by decide +kernel
theorem dX7_blend_94 : decode cX7_blend 94 = .ok (.goto 19, 3) := by decide +kernel
theorem dX7_blend_97 : decode cX7_blend 97 = .ok (.aload_n 0, 1) := by decide +kernel
theorem dX7_blend_98 : decode cX7_blend 98 = .ok (.getfield 9, 3) := by decide +kernel
theorem dX7_blend_101 : decode cX7_blend 101 = .ok (.iload 4, 2) := by decide +kernel
theorem dX7_blend_103 : decode cX7_blend 103 = .ok (.aload_n 0, 1) := by decide +kernel
theorem dX7_blend_104 : decode cX7_blend 104 = .ok (.getfield 9, 3) := by decide +kernel
theorem dX7_blend_107 : decode cX7_blend 107 = .ok (.iload_n 3, 1) := by decide +kernel
theorem dX7_blend_108 : decode cX7_blend 108 = .ok (.iaload, 1) := by decide +kernel
theorem dX7_blend_109 : decode cX7_blend 109 = .ok (.iastore, 1) := by decide +kernel
theorem dX7_blend_110 : decode cX7_blend 110 = .ok (.iinc 3 1, 3) := by decide +kernel
theorem dX7_blend_113 : decode cX7_blend 113 = .ok (.iinc 4 1, 3) := by decide +kernel
theorem dX7_blend_116 : decode cX7_blend 116 = .ok (.goto (-82), 3) := by decide +kernel
theorem dX7_blend_119 : decode cX7_blend 119 = .ok (.return_, 1) := by decide +kernel
theorem dX7_thin_0 : decode cX7_thin 0 = .ok (.iconst 0, 1) := by decide +kernel
theorem dX7_thin_1 : decode cX7_thin 1 = .ok (.istore_n 3, 1) := by decide +kernel
theorem dX7_thin_2 : decode cX7_thin 2 = .ok (.iconst (-1), 1) := by decide +kernel
theorem dX7_thin_3 : decode cX7_thin 3 = .ok (.istore 4, 2) := by decide +kernel
theorem dX7_thin_5 : decode cX7_thin 5 = .ok (.iconst 0, 1) := by decide +kernel
theorem dX7_thin_6 : decode cX7_thin 6 = .ok (.istore 5, 2) := by decide +kernel
theorem dX7_thin_8 : decode cX7_thin 8 = .ok (.iconst 0, 1) := by decide +kernel
theorem dX7_thin_9 : decode cX7_thin 9 = .ok (.istore 6, 2) := by decide +kernel
theorem dX7_thin_11 : decode cX7_thin 11 = .ok (.iload 6, 2) := by decide +kernel
theorem dX7_thin_13 : decode cX7_thin 13 = .ok (.aload_n 0, 1) := by decide +kernel
theorem dX7_thin_14 : decode cX7_thin 14 = .ok (.getfield 22, 3) := by decide +kernel
theorem dX7_thin_17 : decode cX7_thin 17 = .ok (.if_icmp .ge 109, 3) := by decide +kernel
theorem dX7_thin_20 : decode cX7_thin 20 = .ok (.aload_n 0, 1) := by decide +kernel
theorem dX7_thin_21 : decode cX7_thin 21 = .ok (.getfield 9, 3) := by decide +kernel
theorem dX7_thin_24 : decode cX7_thin 24 = .ok (.iload 6, 2) := by decide +kernel
theorem dX7_thin_26 : decode cX7_thin 26 = .ok (.iaload, 1) := by decide +kernel
theorem dX7_thin_27 : decode cX7_thin 27 = .ok (.istore 7, 2) := by decide +kernel
theorem dX7_thin_29 : decode cX7_thin 29 = .ok (.aload_n 0, 1) := by decide +kernel
theorem dX7_thin_30 : decode cX7_thin 30 = .ok (.getfield 18, 3) := by decide +kernel
theorem dX7_thin_33 : decode cX7_thin 33 = .ok (.iload 7, 2) := by decide +kernel
theorem dX7_thin_35 : decode cX7_thin 35 = .ok (.iconst 4, 1) := by decide +kernel
theorem dX7_thin_36 : decode cX7_thin 36 = .ok (.iadd, 1) := by decide +kernel
theorem dX7_thin_37 : decode cX7_thin 37 = .ok (.iconst 4, 1) := by decide +kernel
theorem dX7_thin_38 : decode cX7_thin 38 = .ok (.invokevirtual 42, 3) := by decide +kernel
theorem dX7_thin_41 : decode cX7_thin 41 = .ok (.istore 8, 2) := by decide +kernel
theorem dX7_thin_43 : decode cX7_thin 43 = .ok (.iload 4, 2) := by decide +kernel
theorem dX7_thin_45 : decode cX7_thin 45 = .ok (.iconst (-1), 1) := by decide +kernel
theorem dX7_thin_46 : decode cX7_thin 46 = .ok (.if_icmp .eq 17, 3) := by decide +kernel
theorem dX7_thin_49 : decode cX7_thin 49 = .ok (.aload_n 0, 1) := by decide +kernel
theorem dX7_thin_50 : decode cX7_thin 50 = .ok (.getfield 18, 3) := by decide +kernel
theorem dX7_thin_53 : decode cX7_thin 53 = .ok (.iload 4, 2) := by decide +kernel
theorem dX7_thin_55 : decode cX7_thin 55 = .ok (.iload 7, 2) := by decide +kernel
theorem dX7_thin_57 : decode cX7_thin 57 = .ok (.invokevirtual 46, 3) := by decide +kernel
theorem dX7_thin_60 : decode cX7_thin 60 = .ok (.ifCond .eq 7, 3) := by decide +kernel
theorem dX7_thin_63 : decode cX7_thin 63 = .ok (.iconst 1, 1) := by decide +kernel
theorem dX7_thin_64 : decode cX7_thin 64 = .ok (.goto 4, 3) := by decide +kernel
theorem dX7_thin_67 : decode cX7_thin 67 = .ok (.iconst 0, 1) := by decide +kernel
theorem dX7_thin_68 : decode cX7_thin 68 = .ok (.istore 9, 2) := by decide +kernel
theorem dX7_thin_70 : decode cX7_thin 70 = .ok (.iload 9, 2) := by decide +kernel
theorem dX7_thin_72 : decode cX7_thin 72 = .ok (.ifCond .eq 13, 3) := by decide +kernel
theorem dX7_thin_75 : decode cX7_thin 75 = .ok (.iload_n 2, 1) := by decide +kernel
theorem dX7_thin_76 : decode cX7_thin 76 = .ok (.ifCond .eq 9, 3) := by decide +kernel
theorem dX7_thin_79 : decode cX7_thin 79 = .ok (.aload_n 0, 1) := by decide +kernel
theorem dX7_thin_80 : decode cX7_thin 80 = .ok (.iload_n 3, 1) := by decide +kernel
theorem dX7_thin_81 : decode cX7_thin 81 = .ok (.invokevirtual 49, 3) := by decide +kernel
theorem dX7_thin_84 : decode cX7_thin 84 = .ok (.istore_n 3, 1) := by decide +kernel
theorem dX7_thin_85 : decode cX7_thin 85 = .ok (.iload 9, 2) := by decide +kernel
theorem dX7_thin_87 : decode cX7_thin 87 = .ok (.ifCond .ne 14, 3) := by decide +kernel
theorem dX7_thin_90 : decode cX7_thin 90 = .ok (.aload_n 1, 1) := by decide +kernel
theorem dX7_thin_91 : decode cX7_thin 91 = .ok (.iload 8, 2) := by decide +kernel
theorem dX7_thin_93 : decode cX7_thin 93 = .ok (.iload 5, 2) := by decide +kernel
theorem dX7_thin_95 : decode cX7_thin 95 = .ok (.invokevirtual 53, 3) := by decide +kernel
theorem dX7_thin_98 : decode cX7_thin 98 = .ok (.ifCond .eq 14, 3) := by decide +kernel
theorem dX7_thin_101 : decode cX7_thin 101 = .ok (.aload_n 0, 1) := by decide +kernel
theorem dX7_thin_102 : decode cX7_thin 102 = .ok (.getfield 9, 3) := by decide +kernel
theorem dX7_thin_105 : decode cX7_thin 105 = .ok (.iload_n 3, 1) := by decide +kernel
theorem dX7_thin_106 : decode cX7_thin 106 = .ok (.iload 7, 2) := by decide +kernel
theorem dX7_thin_108 : decode cX7_thin 108 = .ok (.iastore, 1) := by decide +kernel
theorem dX7_thin_109 : decode cX7_thin 109 = .ok (.iinc 3 1, 3) := by decide +kernel
theorem dX7_thin_112 : decode cX7_thin 112 = .ok (.iload 7, 2) := by decide +kernel
theorem dX7_thin_114 : decode cX7_thin 114 = .ok (.istore 4, 2) := by decide +kernel
theorem dX7_thin_116 : decode cX7_thin 116 = .ok (.iload 8, 2) := by decide +kernel
theorem dX7_thin_118 : decode cX7_thin 118 = .ok (.istore 5, 2) := by decide +kernel
theorem dX7_thin_120 : decode cX7_thin 120 = .ok (.iinc 6 1, 3) := by decide +kernel
theorem dX7_thin_123 : decode cX7_thin 123 = .ok (.goto (-112), 3) := by decide +kernel
theorem dX7_thin_126 : decode cX7_thin 126 = .ok (.aload_n 0, 1) := by decide +kernel
theorem dX7_thin_127 : decode cX7_thin 127 = .ok (.iload_n 2, 1) := by decide +kernel
theorem dX7_thin_128 : decode cX7_thin 128 = .ok (.ifCond .eq 11, 3) := by decide +kernel
theorem dX7_thin_131 : decode cX7_thin 131 = .ok (.aload_n 0, 1) := by decide +kernel
theorem dX7_thin_132 : decode cX7_thin 132 = .ok (.iload_n 3, 1) := by decide +kernel
theorem dX7_thin_133 : decode cX7_thin 133 = .ok (.invokevirtual 49, 3) := by decide +kernel
theorem dX7_thin_136 : decode cX7_thin 136 = .ok (.goto 4, 3) := by decide +kernel
theorem dX7_thin_139 : decode cX7_thin 139 = .ok (.iload_n 3, 1) := by decide +kernel
theorem dX7_thin_140 : decode cX7_thin 140 = .ok (.putfield 22, 3) := by decide +kernel
theorem dX7_thin_143 : decode cX7_thin 143 = .ok (.return_, 1) := by decide +kernel
theorem dX7_withoutRemoves_0 : decode cX7_withoutRemoves 0 = .ok (.iload_n 1, 1) := by decide +kernel
theorem dX7_withoutRemoves_1 : decode cX7_withoutRemoves 1 = .ok (.istore_n 2, 1) := by decide +kernel
theorem dX7_withoutRemoves_2 : decode cX7_withoutRemoves 2 = .ok (.iload_n 2, 1) := by decide +kernel
theorem dX7_withoutRemoves_3 : decode cX7_withoutRemoves 3 = .ok (.ifCond .le 28, 3) := by decide +kernel
theorem dX7_withoutRemoves_6 : decode cX7_withoutRemoves 6 = .ok (.aload_n 0, 1) := by decide +kernel
theorem dX7_withoutRemoves_7 : decode cX7_withoutRemoves 7 = .ok (.getfield 18, 3) := by decide +kernel
theorem dX7_withoutRemoves_10 : decode cX7_withoutRemoves 10 = .ok (.aload_n 0, 1) := by decide +kernel
theorem dX7_withoutRemoves_11 : decode cX7_withoutRemoves 11 = .ok (.getfield 9, 3) := by decide +kernel
theorem dX7_withoutRemoves_14 : decode cX7_withoutRemoves 14 = .ok (.iload_n 2, 1) := by decide +kernel
theorem dX7_withoutRemoves_15 : decode cX7_withoutRemoves 15 = .ok (.iconst 1, 1) := by decide +kernel
theorem dX7_withoutRemoves_16 : decode cX7_withoutRemoves 16 = .ok (.isub, 1) := by decide +kernel
theorem dX7_withoutRemoves_17 : decode cX7_withoutRemoves 17 = .ok (.iaload, 1) := by decide +kernel
theorem dX7_withoutRemoves_18 : decode cX7_withoutRemoves 18 = .ok (.invokevirtual 58, 3) := by decide +kernel
theorem dX7_withoutRemoves_21 : decode cX7_withoutRemoves 21 = .ok (.iconst 2, 1) := by decide +kernel
theorem dX7_withoutRemoves_22 : decode cX7_withoutRemoves 22 = .ok (.if_icmp .ne 9, 3) := by decide +kernel
theorem dX7_withoutRemoves_25 : decode cX7_withoutRemoves 25 = .ok (.iinc 2 (-1), 3) := by decide +kernel
theorem dX7_withoutRemoves_28 : decode cX7_withoutRemoves 28 = .ok (.goto (-26), 3) := by decide +kernel
theorem dX7_withoutRemoves_31 : decode cX7_withoutRemoves 31 = .ok (.iload_n 2, 1) := by decide +kernel
theorem dX7_withoutRemoves_32 : decode cX7_withoutRemoves 32 = .ok (.ireturn, 1) := by decide +kernel
theorem dX7_firstSeen_0 : decode cX7_firstSeen 0 = .ok (.iconst 0, 1) := by decide +kernel
theorem dX7_firstSeen_1 : decode cX7_firstSeen 1 = .ok (.iload_n 1, 1) := by decide +kernel
theorem dX7_firstSeen_2 : decode cX7_firstSeen 2 = .ok (.invokestatic 61, 3) := by decide +kernel
theorem dX7_firstSeen_5 : decode cX7_firstSeen 5 = .ok (.istore_n 3, 1) := by decide +kernel
theorem dX7_firstSeen_6 : decode cX7_firstSeen 6 = .ok (.iload_n 3, 1) := by decide +kernel
theorem dX7_firstSeen_7 : decode cX7_firstSeen 7 = .ok (.aload_n 0, 1) := by decide +kernel
theorem dX7_firstSeen_8 : decode cX7_firstSeen 8 = .ok (.getfield 22, 3) := by decide +kernel
theorem dX7_firstSeen_11 : decode cX7_firstSeen 11 = .ok (.if_icmp .ge 69, 3) := by decide +kernel
theorem dX7_firstSeen_14 : decode cX7_firstSeen 14 = .ok (.aload_n 0, 1) := by decide +kernel
theorem dX7_firstSeen_15 : decode cX7_firstSeen 15 = .ok (.getfield 9, 3) := by decide +kernel
theorem dX7_firstSeen_18 : decode cX7_firstSeen 18 = .ok (.iload_n 3, 1) := by decide +kernel
theorem dX7_firstSeen_19 : decode cX7_firstSeen 19 = .ok (.iaload, 1) := by decide +kernel
theorem dX7_firstSeen_20 : decode cX7_firstSeen 20 = .ok (.istore 4, 2) := by decide +kernel
theorem dX7_firstSeen_22 : decode cX7_firstSeen 22 = .ok (.aload_n 0, 1) := by decide +kernel
theorem dX7_firstSeen_23 : decode cX7_firstSeen 23 = .ok (.getfield 18, 3) := by decide +kernel
theorem dX7_firstSeen_26 : decode cX7_firstSeen 26 = .ok (.iload 4, 2) := by decide +kernel
theorem dX7_firstSeen_28 : decode cX7_firstSeen 28 = .ok (.iconst 4, 1) := by decide +kernel
theorem dX7_firstSeen_29 : decode cX7_firstSeen 29 = .ok (.iadd, 1) := by decide +kernel
theorem dX7_firstSeen_30 : decode cX7_firstSeen 30 = .ok (.iconst 4, 1) := by decide +kernel
theorem dX7_firstSeen_31 : decode cX7_firstSeen 31 = .ok (.invokevirtual 42, 3) := by decide +kernel
theorem dX7_firstSeen_34 : decode cX7_firstSeen 34 = .ok (.iload_n 2, 1) := by decide +kernel
theorem dX7_firstSeen_35 : decode cX7_firstSeen 35 = .ok (.if_icmp .gt 12, 3) := by decide +kernel
theorem dX7_firstSeen_38 : decode cX7_firstSeen 38 = .ok (.aload_n 0, 1) := by decide +kernel
theorem dX7_firstSeen_39 : decode cX7_firstSeen 39 = .ok (.iload_n 3, 1) := by decide +kernel
theorem dX7_firstSeen_40 : decode cX7_firstSeen 40 = .ok (.iload_n 2, 1) := by decide +kernel
theorem dX7_firstSeen_41 : decode cX7_firstSeen 41 = .ok (.invokevirtual 66, 3) := by decide +kernel
theorem dX7_firstSeen_44 : decode cX7_firstSeen 44 = .ok (.ifCond .eq 7, 3) := by decide +kernel
theorem dX7_firstSeen_47 : decode cX7_firstSeen 47 = .ok (.iconst 1, 1) := by decide +kernel
theorem dX7_firstSeen_48 : decode cX7_firstSeen 48 = .ok (.goto 4, 3) := by decide +kernel
theorem dX7_firstSeen_51 : decode cX7_firstSeen 51 = .ok (.iconst 0, 1) := by decide +kernel
theorem dX7_firstSeen_52 : decode cX7_firstSeen 52 = .ok (.istore 5, 2) := by decide +kernel
theorem dX7_firstSeen_54 : decode cX7_firstSeen 54 = .ok (.iload 5, 2) := by decide +kernel
theorem dX7_firstSeen_56 : decode cX7_firstSeen 56 = .ok (.ifCond .ne 18, 3) := by decide +kernel
theorem dX7_firstSeen_59 : decode cX7_firstSeen 59 = .ok (.aload_n 0, 1) := by decide +kernel
theorem dX7_firstSeen_60 : decode cX7_firstSeen 60 = .ok (.getfield 18, 3) := by decide +kernel
theorem dX7_firstSeen_63 : decode cX7_firstSeen 63 = .ok (.iload 4, 2) := by decide +kernel
theorem dX7_firstSeen_65 : decode cX7_firstSeen 65 = .ok (.invokevirtual 58, 3) := by decide +kernel
theorem dX7_firstSeen_68 : decode cX7_firstSeen 68 = .ok (.iconst 1, 1) := by decide +kernel
theorem dX7_firstSeen_69 : decode cX7_firstSeen 69 = .ok (.if_icmp .ne 5, 3) := by decide +kernel
theorem dX7_firstSeen_72 : decode cX7_firstSeen 72 = .ok (.iload_n 3, 1) := by decide +kernel
theorem dX7_firstSeen_73 : decode cX7_firstSeen 73 = .ok (.ireturn, 1) := by decide +kernel
theorem dX7_firstSeen_74 : decode cX7_firstSeen 74 = .ok (.iinc 3 1, 3) := by decide +kernel
theorem dX7_firstSeen_77 : decode cX7_firstSeen 77 = .ok (.goto (-71), 3) := by decide +kernel
theorem dX7_firstSeen_80 : decode cX7_firstSeen 80 = .ok (.iconst (-1), 1) := by decide +kernel
theorem dX7_firstSeen_81 : decode cX7_firstSeen 81 = .ok (.ireturn, 1) := by decide +kernel
theorem dX7_hasNewer_0 : decode cX7_hasNewer 0 = .ok (.iload_n 1, 1) := by decide +kernel
theorem dX7_hasNewer_1 : decode cX7_hasNewer 1 = .ok (.ifCond .le 53, 3) := by decide +kernel
theorem dX7_hasNewer_4 : decode cX7_hasNewer 4 = .ok (.aload_n 0, 1) := by decide +kernel
theorem dX7_hasNewer_5 : decode cX7_hasNewer 5 = .ok (.getfield 18, 3) := by decide +kernel
theorem dX7_hasNewer_8 : decode cX7_hasNewer 8 = .ok (.aload_n 0, 1) := by decide +kernel
theorem dX7_hasNewer_9 : decode cX7_hasNewer 9 = .ok (.getfield 9, 3) := by decide +kernel
theorem dX7_hasNewer_12 : decode cX7_hasNewer 12 = .ok (.iload_n 1, 1) := by decide +kernel
theorem dX7_hasNewer_13 : decode cX7_hasNewer 13 = .ok (.iconst 1, 1) := by decide +kernel
theorem dX7_hasNewer_14 : decode cX7_hasNewer 14 = .ok (.isub, 1) := by decide +kernel
theorem dX7_hasNewer_15 : decode cX7_hasNewer 15 = .ok (.iaload, 1) := by decide +kernel
theorem dX7_hasNewer_16 : decode cX7_hasNewer 16 = .ok (.aload_n 0, 1) := by decide +kernel
theorem dX7_hasNewer_17 : decode cX7_hasNewer 17 = .ok (.getfield 9, 3) := by decide +kernel
theorem dX7_hasNewer_20 : decode cX7_hasNewer 20 = .ok (.iload_n 1, 1) := by decide +kernel
theorem dX7_hasNewer_21 : decode cX7_hasNewer 21 = .ok (.iaload, 1) := by decide +kernel
theorem dX7_hasNewer_22 : decode cX7_hasNewer 22 = .ok (.invokevirtual 46, 3) := by decide +kernel
theorem dX7_hasNewer_25 : decode cX7_hasNewer 25 = .ok (.ifCond .ne 29, 3) := by decide +kernel
theorem dX7_hasNewer_28 : decode cX7_hasNewer 28 = .ok (.aload_n 0, 1) := by decide +kernel
theorem dX7_hasNewer_29 : decode cX7_hasNewer 29 = .ok (.getfield 18, 3) := by decide +kernel
theorem dX7_hasNewer_32 : decode cX7_hasNewer 32 = .ok (.aload_n 0, 1) := by decide +kernel
theorem dX7_hasNewer_33 : decode cX7_hasNewer 33 = .ok (.getfield 9, 3) := by decide +kernel
theorem dX7_hasNewer_36 : decode cX7_hasNewer 36 = .ok (.iload_n 1, 1) := by decide +kernel
theorem dX7_hasNewer_37 : decode cX7_hasNewer 37 = .ok (.iconst 1, 1) := by decide +kernel
theorem dX7_hasNewer_38 : decode cX7_hasNewer 38 = .ok (.isub, 1) := by decide +kernel
theorem dX7_hasNewer_39 : decode cX7_hasNewer 39 = .ok (.iaload, 1) := by decide +kernel
theorem dX7_hasNewer_40 : decode cX7_hasNewer 40 = .ok (.iconst 4, 1) := by decide +kernel
theorem dX7_hasNewer_41 : decode cX7_hasNewer 41 = .ok (.iadd, 1) := by decide +kernel
theorem dX7_hasNewer_42 : decode cX7_hasNewer 42 = .ok (.iconst 4, 1) := by decide +kernel
theorem dX7_hasNewer_43 : decode cX7_hasNewer 43 = .ok (.invokevirtual 42, 3) := by decide +kernel
theorem dX7_hasNewer_46 : decode cX7_hasNewer 46 = .ok (.iload_n 2, 1) := by decide +kernel
theorem dX7_hasNewer_47 : decode cX7_hasNewer 47 = .ok (.if_icmp .gt 7, 3) := by decide +kernel
theorem dX7_hasNewer_50 : decode cX7_hasNewer 50 = .ok (.iconst 1, 1) := by decide +kernel
theorem dX7_hasNewer_51 : decode cX7_hasNewer 51 = .ok (.goto 4, 3) := by decide +kernel
theorem dX7_hasNewer_54 : decode cX7_hasNewer 54 = .ok (.iconst 0, 1) := by decide +kernel
theorem dX7_hasNewer_55 : decode cX7_hasNewer 55 = .ok (.ireturn, 1) := by decide +kernel
theorem dX8_init_0 : decode cX8_init 0 = .ok (.aload_n 0, 1) := by decide +kernel
theorem dX8_init_1 : decode cX8_init 1 = .ok (.invokespecial 3, 3) := by decide +kernel
theorem dX8_init_4 : decode cX8_init 4 = .ok (.aload_n 0, 1) := by decide +kernel
theorem dX8_init_5 : decode cX8_init 5 = .ok (.bipush 9, 2) := by decide +kernel
theorem dX8_init_7 : decode cX8_init 7 = .ok (.newarray .int, 2) := by decide +kernel
theorem dX8_init_9 : decode cX8_init 9 = .ok (.putfield 9, 3) := by decide +kernel
theorem dX8_init_12 : decode cX8_init 12 = .ok (.aload_n 0, 1) := by decide +kernel
theorem dX8_init_13 : decode cX8_init 13 = .ok (.aload_n 1, 1) := by decide +kernel
theorem dX8_init_14 : decode cX8_init 14 = .ok (.putfield 15, 3) := by decide +kernel
theorem dX8_init_17 : decode cX8_init 17 = .ok (.return_, 1) := by decide +kernel
theorem dX8_start_0 : decode cX8_start 0 = .ok (.aload_n 0, 1) := by decide +kernel
theorem dX8_start_1 : decode cX8_start 1 = .ok (.iconst 0, 1) := by decide +kernel
theorem dX8_start_2 : decode cX8_start 2 = .ok (.putfield 19, 3) := by decide +kernel
theorem dX8_start_5 : decode cX8_start 5 = .ok (.aload_n 0, 1) := by decide +kernel
theorem dX8_start_6 : decode cX8_start 6 = .ok (.iconst (-1), 1) := by decide +kernel
theorem dX8_start_7 : decode cX8_start 7 = .ok (.putfield 23, 3) := by decide +kernel
theorem dX8_start_10 : decode cX8_start 10 = .ok (.return_, 1) := by decide +kernel
theorem dX8_addBlock_0 : decode cX8_addBlock 0 = .ok (.aload_n 0, 1) := by decide +kernel
theorem dX8_addBlock_1 : decode cX8_addBlock 1 = .ok (.getfield 19, 3) := by decide +kernel
theorem dX8_addBlock_4 : decode cX8_addBlock 4 = .ok (.bipush 9, 2) := by decide +kernel
theorem dX8_addBlock_6 : decode cX8_addBlock 6 = .ok (.if_icmp .ge 23, 3) := by decide +kernel
theorem dX8_addBlock_9 : decode cX8_addBlock 9 = .ok (.aload_n 0, 1) := by decide +kernel
theorem dX8_addBlock_10 : decode cX8_addBlock 10 = .ok (.getfield 9, 3) := by decide +kernel
theorem dX8_addBlock_13 : decode cX8_addBlock 13 = .ok (.aload_n 0, 1) := by decide +kernel
theorem dX8_addBlock_14 : decode cX8_addBlock 14 = .ok (.getfield 19, 3) := by decide +kernel
theorem dX8_addBlock_17 : decode cX8_addBlock 17 = .ok (.iload_n 1, 1) := by decide +kernel
theorem dX8_addBlock_18 : decode cX8_addBlock 18 = .ok (.iastore, 1) := by decide +kernel
theorem dX8_addBlock_19 : decode cX8_addBlock 19 = .ok (.aload_n 0, 1) := by decide +kernel
theorem dX8_addBlock_20 : decode cX8_addBlock 20 = .ok (.dup, 1) := by decide +kernel
theorem dX8_addBlock_21 : decode cX8_addBlock 21 = .ok (.getfield 19, 3) := by decide +kernel
theorem dX8_addBlock_24 : decode cX8_addBlock 24 = .ok (.iconst 1, 1) := by decide +kernel
theorem dX8_addBlock_25 : decode cX8_addBlock 25 = .ok (.iadd, 1) := by decide +kernel
theorem dX8_addBlock_26 : decode cX8_addBlock 26 = .ok (.putfield 19, 3) := by decide +kernel
theorem dX8_addBlock_29 : decode cX8_addBlock 29 = .ok (.return_, 1) := by decide +kernel
theorem dX8_close_0 : decode cX8_close 0 = .ok (.aload_n 0, 1) := by decide +kernel
theorem dX8_close_1 : decode cX8_close 1 = .ok (.aload_n 0, 1) := by decide +kernel
theorem dX8_close_2 : decode cX8_close 2 = .ok (.getfield 19, 3) := by decide +kernel
theorem dX8_close_5 : decode cX8_close 5 = .ok (.iconst 2, 1) := by decide +kernel
theorem dX8_close_6 : decode cX8_close 6 = .ok (.isub, 1) := by decide +kernel
theorem dX8_close_7 : decode cX8_close 7 = .ok (.invokevirtual 26, 3) := by decide +kernel
theorem dX8_close_10 : decode cX8_close 10 = .ok (.istore_n 1, 1) := by decide +kernel
theorem dX8_close_11 : decode cX8_close 11 = .ok (.aload_n 0, 1) := by decide +kernel
theorem dX8_close_12 : decode cX8_close 12 = .ok (.iload_n 1, 1) := by decide +kernel
theorem dX8_close_13 : decode cX8_close 13 = .ok (.putfield 23, 3) := by decide +kernel
theorem dX8_close_16 : decode cX8_close 16 = .ok (.iconst 0, 1) := by decide +kernel
theorem dX8_close_17 : decode cX8_close 17 = .ok (.istore_n 2, 1) := by decide +kernel
theorem dX8_close_18 : decode cX8_close 18 = .ok (.iload_n 2, 1) := by decide +kernel
theorem dX8_close_19 : decode cX8_close 19 = .ok (.sipush 512, 3) := by decide +kernel
theorem dX8_close_22 : decode cX8_close 22 = .ok (.if_icmp .ge 28, 3) := by decide +kernel
theorem dX8_close_25 : decode cX8_close 25 = .ok (.iload_n 1, 1) := by decide +kernel
theorem dX8_close_26 : decode cX8_close 26 = .ok (.iconst (-1), 1) := by decide +kernel
theorem dX8_close_27 : decode cX8_close 27 = .ok (.if_icmp .eq 23, 3) := by decide +kernel
theorem dX8_close_30 : decode cX8_close 30 = .ok (.aload_n 0, 1) := by decide +kernel
theorem dX8_close_31 : decode cX8_close 31 = .ok (.iload_n 1, 1) := by decide +kernel
theorem dX8_close_32 : decode cX8_close 32 = .ok (.putfield 23, 3) := by decide +kernel
theorem dX8_close_35 : decode cX8_close 35 = .ok (.aload_n 0, 1) := by decide +kernel
theorem dX8_close_36 : decode cX8_close 36 = .ok (.getfield 15, 3) := by decide +kernel
theorem dX8_close_39 : decode cX8_close 39 = .ok (.iload_n 1, 1) := by decide +kernel
theorem dX8_close_40 : decode cX8_close 40 = .ok (.invokevirtual 30, 3) := by decide +kernel
theorem dX8_close_43 : decode cX8_close 43 = .ok (.istore_n 1, 1) := by decide +kernel
theorem dX8_close_44 : decode cX8_close 44 = .ok (.iinc 2 1, 3) := by decide +kernel
theorem dX8_close_47 : decode cX8_close 47 = .ok (.goto (-29), 3) := by decide +kernel
theorem dX8_close_50 : decode cX8_close 50 = .ok (.return_, 1) := by decide +kernel
theorem dX8_isSmall_0 : decode cX8_isSmall 0 = .ok (.aload_n 0, 1) := by decide +kernel
theorem dX8_isSmall_1 : decode cX8_isSmall 1 = .ok (.getfield 19, 3) := by decide +kernel
theorem dX8_isSmall_4 : decode cX8_isSmall 4 = .ok (.iconst 4, 1) := by decide +kernel
theorem dX8_isSmall_5 : decode cX8_isSmall 5 = .ok (.if_icmp .gt 7, 3) := by decide +kernel
theorem dX8_isSmall_8 : decode cX8_isSmall 8 = .ok (.iconst 1, 1) := by decide +kernel
theorem dX8_isSmall_9 : decode cX8_isSmall 9 = .ok (.goto 4, 3) := by decide +kernel
theorem dX8_isSmall_12 : decode cX8_isSmall 12 = .ok (.iconst 0, 1) := by decide +kernel
theorem dX8_isSmall_13 : decode cX8_isSmall 13 = .ok (.ireturn, 1) := by decide +kernel
theorem dX8_startOf_0 : decode cX8_startOf 0 = .ok (.iload_n 1, 1) := by decide +kernel
theorem dX8_startOf_1 : decode cX8_startOf 1 = .ok (.ifCond .lt 26, 3) := by decide +kernel
theorem dX8_startOf_4 : decode cX8_startOf 4 = .ok (.iload_n 1, 1) := by decide +kernel
theorem dX8_startOf_5 : decode cX8_startOf 5 = .ok (.aload_n 0, 1) := by decide +kernel
theorem dX8_startOf_6 : decode cX8_startOf 6 = .ok (.getfield 19, 3) := by decide +kernel
theorem dX8_startOf_9 : decode cX8_startOf 9 = .ok (.iconst 1, 1) := by decide +kernel
theorem dX8_startOf_10 : decode cX8_startOf 10 = .ok (.isub, 1) := by decide +kernel
theorem dX8_startOf_11 : decode cX8_startOf 11 = .ok (.if_icmp .ge 16, 3) := by decide +kernel
theorem dX8_startOf_14 : decode cX8_startOf 14 = .ok (.aload_n 0, 1) := by decide +kernel
theorem dX8_startOf_15 : decode cX8_startOf 15 = .ok (.getfield 9, 3) := by decide +kernel
theorem dX8_startOf_18 : decode cX8_startOf 18 = .ok (.iload_n 1, 1) := by decide +kernel
theorem dX8_startOf_19 : decode cX8_startOf 19 = .ok (.iaload, 1) := by decide +kernel
theorem dX8_startOf_20 : decode cX8_startOf 20 = .ok (.sipush 512, 3) := by decide +kernel
theorem dX8_startOf_23 : decode cX8_startOf 23 = .ok (.imul, 1) := by decide +kernel
theorem dX8_startOf_24 : decode cX8_startOf 24 = .ok (.goto 4, 3) := by decide +kernel
theorem dX8_startOf_27 : decode cX8_startOf 27 = .ok (.iconst (-1), 1) := by decide +kernel
theorem dX8_startOf_28 : decode cX8_startOf 28 = .ok (.ireturn, 1) := by decide +kernel
theorem dX8_following_0 : decode cX8_following 0 = .ok (.aload_n 0, 1) := by decide +kernel
theorem dX8_following_1 : decode cX8_following 1 = .ok (.getfield 15, 3) := by decide +kernel
theorem dX8_following_4 : decode cX8_following 4 = .ok (.iload_n 1, 1) := by decide +kernel
theorem dX8_following_5 : decode cX8_following 5 = .ok (.invokevirtual 30, 3) := by decide +kernel
theorem dX8_following_8 : decode cX8_following 8 = .ok (.istore_n 2, 1) := by decide +kernel
theorem dX8_following_9 : decode cX8_following 9 = .ok (.iconst 1, 1) := by decide +kernel
theorem dX8_following_10 : decode cX8_following 10 = .ok (.istore_n 3, 1) := by decide +kernel
theorem dX8_following_11 : decode cX8_following 11 = .ok (.iload_n 3, 1) := by decide +kernel
theorem dX8_following_12 : decode cX8_following 12 = .ok (.aload_n 0, 1) := by decide +kernel
theorem dX8_following_13 : decode cX8_following 13 = .ok (.getfield 19, 3) := by decide +kernel
theorem dX8_following_16 : decode cX8_following 16 = .ok (.if_icmp .ge 36, 3) := by decide +kernel
theorem dX8_following_19 : decode cX8_following 19 = .ok (.iload_n 2, 1) := by decide +kernel
theorem dX8_following_20 : decode cX8_following 20 = .ok (.iconst (-1), 1) := by decide +kernel
theorem dX8_following_21 : decode cX8_following 21 = .ok (.if_icmp .ne 31, 3) := by decide +kernel
theorem dX8_following_24 : decode cX8_following 24 = .ok (.aload_n 0, 1) := by decide +kernel
theorem dX8_following_25 : decode cX8_following 25 = .ok (.getfield 9, 3) := by decide +kernel
theorem dX8_following_28 : decode cX8_following 28 = .ok (.iload_n 3, 1) := by decide +kernel
theorem dX8_following_29 : decode cX8_following 29 = .ok (.iconst 1, 1) := by decide +kernel
theorem dX8_following_30 : decode cX8_following 30 = .ok (.isub, 1) := by decide +kernel
theorem dX8_following_31 : decode cX8_following 31 = .ok (.iaload, 1) := by decide +kernel
theorem dX8_following_32 : decode cX8_following 32 = .ok (.iload_n 1, 1) := by decide +kernel
theorem dX8_following_33 : decode cX8_following 33 = .ok (.sipush 512, 3) := by decide +kernel
theorem dX8_following_36 : decode cX8_following 36 = .ok (.idiv, 1) := by decide +kernel
theorem dX8_following_37 : decode cX8_following 37 = .ok (.if_icmp .ne 9, 3) := by decide +kernel
theorem dX8_following_40 : decode cX8_following 40 = .ok (.aload_n 0, 1) := by decide +kernel
theorem dX8_following_41 : decode cX8_following 41 = .ok (.iload_n 3, 1) := by decide +kernel
theorem dX8_following_42 : decode cX8_following 42 = .ok (.invokevirtual 26, 3) := by decide +kernel
theorem dX8_following_45 : decode cX8_following 45 = .ok (.ireturn, 1) := by decide +kernel
theorem dX8_following_46 : decode cX8_following 46 = .ok (.iinc 3 1, 3) := by decide +kernel
theorem dX8_following_49 : decode cX8_following 49 = .ok (.goto (-38), 3) := by decide +kernel
theorem dX8_following_52 : decode cX8_following 52 = .ok (.iload_n 2, 1) := by decide +kernel
theorem dX8_following_53 : decode cX8_following 53 = .ok (.ireturn, 1) := by decide +kernel
theorem dX8_lastBefore_0 : decode cX8_lastBefore 0 = .ok (.iconst (-1), 1) := by decide +kernel
theorem dX8_lastBefore_1 : decode cX8_lastBefore 1 = .ok (.istore_n 3, 1) := by decide +kernel
theorem dX8_lastBefore_2 : decode cX8_lastBefore 2 = .ok (.iconst 0, 1) := by decide +kernel
theorem dX8_lastBefore_3 : decode cX8_lastBefore 3 = .ok (.istore 4, 2) := by decide +kernel
theorem dX8_lastBefore_5 : decode cX8_lastBefore 5 = .ok (.iload 4, 2) := by decide +kernel
theorem dX8_lastBefore_7 : decode cX8_lastBefore 7 = .ok (.aload_n 0, 1) := by decide +kernel
theorem dX8_lastBefore_8 : decode cX8_lastBefore 8 = .ok (.getfield 19, 3) := by decide +kernel
theorem dX8_lastBefore_11 : decode cX8_lastBefore 11 = .ok (.iconst 1, 1) := by decide +kernel
theorem dX8_lastBefore_12 : decode cX8_lastBefore 12 = .ok (.isub, 1) := by decide +kernel
theorem dX8_lastBefore_13 : decode cX8_lastBefore 13 = .ok (.if_icmp .ge 44, 3) := by decide +kernel
theorem dX8_lastBefore_16 : decode cX8_lastBefore 16 = .ok (.aload_n 0, 1) := by decide +kernel
theorem dX8_lastBefore_17 : decode cX8_lastBefore 17 = .ok (.getfield 15, 3) := by decide +kernel
theorem dX8_lastBefore_20 : decode cX8_lastBefore 20 = .ok (.aload_n 0, 1) := by decide +kernel
theorem dX8_lastBefore_21 : decode cX8_lastBefore 21 = .ok (.getfield 9, 3) := by decide +kernel
theorem dX8_lastBefore_24 : decode cX8_lastBefore 24 = .ok (.iload 4, 2) := by decide +kernel
theorem dX8_lastBefore_26 : decode cX8_lastBefore 26 = .ok (.iaload, 1) := by decide +kernel
theorem dX8_lastBefore_27 : decode cX8_lastBefore 27 = .ok (.sipush 512, 3) := by decide +kernel
theorem dX8_lastBefore_30 : decode cX8_lastBefore 30 = .ok (.imul, 1) := by decide +kernel
theorem dX8_lastBefore_31 : decode cX8_lastBefore 31 = .ok (.aload_n 1, 1) := by decide +kernel
theorem dX8_lastBefore_32 : decode cX8_lastBefore 32 = .ok (.iload_n 2, 1) := by decide +kernel
theorem dX8_lastBefore_33 : decode cX8_lastBefore 33 = .ok (.invokevirtual 35, 3) := by decide +kernel
theorem dX8_lastBefore_36 : decode cX8_lastBefore 36 = .ok (.ifCond .eq 21, 3) := by decide +kernel
theorem dX8_lastBefore_39 : decode cX8_lastBefore 39 = .ok (.aload_n 0, 1) := by decide +kernel
theorem dX8_lastBefore_40 : decode cX8_lastBefore 40 = .ok (.getfield 9, 3) := by decide +kernel
theorem dX8_lastBefore_43 : decode cX8_lastBefore 43 = .ok (.iload 4, 2) := by decide +kernel
theorem dX8_lastBefore_45 : decode cX8_lastBefore 45 = .ok (.iaload, 1) := by decide +kernel
theorem dX8_lastBefore_46 : decode cX8_lastBefore 46 = .ok (.sipush 512, 3) := by decide +kernel
theorem dX8_lastBefore_49 : decode cX8_lastBefore 49 = .ok (.imul, 1) := by decide +kernel
theorem dX8_lastBefore_50 : decode cX8_lastBefore 50 = .ok (.istore_n 3, 1) := by decide +kernel
theorem dX8_lastBefore_51 : decode cX8_lastBefore 51 = .ok (.iinc 4 1, 3) := by decide +kernel
theorem dX8_lastBefore_54 : decode cX8_lastBefore 54 = .ok (.goto (-49), 3) := by decide +kernel
theorem dX8_lastBefore_57 : decode cX8_lastBefore 57 = .ok (.iconst 0, 1) := by decide +kernel
theorem dX8_lastBefore_58 : decode cX8_lastBefore 58 = .ok (.istore 4, 2) := by decide +kernel
theorem dX8_lastBefore_60 : decode cX8_lastBefore 60 = .ok (.iload 4, 2) := by decide +kernel
theorem dX8_lastBefore_62 : decode cX8_lastBefore 62 = .ok (.sipush 512, 3) := by decide +kernel
theorem dX8_lastBefore_65 : decode cX8_lastBefore 65 = .ok (.if_icmp .ge 49, 3) := by decide +kernel
theorem dX8_lastBefore_68 : decode cX8_lastBefore 68 = .ok (.iload_n 3, 1) := by decide +kernel
theorem dX8_lastBefore_69 : decode cX8_lastBefore 69 = .ok (.iconst (-1), 1) := by decide +kernel
theorem dX8_lastBefore_70 : decode cX8_lastBefore 70 = .ok (.if_icmp .eq 44, 3) := by decide +kernel
theorem dX8_lastBefore_73 : decode cX8_lastBefore 73 = .ok (.aload_n 0, 1) := by decide +kernel
theorem dX8_lastBefore_74 : decode cX8_lastBefore 74 = .ok (.getfield 15, 3) := by decide +kernel
theorem dX8_lastBefore_77 : decode cX8_lastBefore 77 = .ok (.iload_n 3, 1) := by decide +kernel
theorem dX8_lastBefore_78 : decode cX8_lastBefore 78 = .ok (.invokevirtual 30, 3) := by decide +kernel
theorem dX8_lastBefore_81 : decode cX8_lastBefore 81 = .ok (.istore 5, 2) := by decide +kernel
theorem dX8_lastBefore_83 : decode cX8_lastBefore 83 = .ok (.iload 5, 2) := by decide +kernel
theorem dX8_lastBefore_85 : decode cX8_lastBefore 85 = .ok (.iconst (-1), 1) := by decide +kernel
theorem dX8_lastBefore_86 : decode cX8_lastBefore 86 = .ok (.if_icmp .eq 17, 3) := by decide +kernel
theorem dX8_lastBefore_89 : decode cX8_lastBefore 89 = .ok (.aload_n 0, 1) := by decide +kernel
theorem dX8_lastBefore_90 : decode cX8_lastBefore 90 = .ok (.getfield 15, 3) := by decide +kernel
theorem dX8_lastBefore_93 : decode cX8_lastBefore 93 = .ok (.iload 5, 2) := by decide +kernel
theorem dX8_lastBefore_95 : decode cX8_lastBefore 95 = .ok (.aload_n 1, 1) := by decide +kernel
theorem dX8_lastBefore_96 : decode cX8_lastBefore 96 = .ok (.iload_n 2, 1) := by decide +kernel
theorem dX8_lastBefore_97 : decode cX8_lastBefore 97 = .ok (.invokevirtual 35, 3) := by decide +kernel
theorem dX8_lastBefore_100 : decode cX8_lastBefore 100 = .ok (.ifCond .ne 5, 3) := by decide +kernel
theorem dX8_lastBefore_103 : decode cX8_lastBefore 103 = .ok (.iload_n 3, 1) := by decide +kernel
theorem dX8_lastBefore_104 : decode cX8_lastBefore 104 = .ok (.ireturn, 1) := by decide +kernel
theorem dX8_lastBefore_105 : decode cX8_lastBefore 105 = .ok (.iload 5, 2) := by decide +kernel
theorem dX8_lastBefore_107 : decode cX8_lastBefore 107 = .ok (.istore_n 3, 1) := by decide +kernel
theorem dX8_lastBefore_108 : decode cX8_lastBefore 108 = .ok (.iinc 4 1, 3) := by decide +kernel
theorem dX8_lastBefore_111 : decode cX8_lastBefore 111 = .ok (.goto (-51), 3) := by decide +kernel
theorem dX8_lastBefore_114 : decode cX8_lastBefore 114 = .ok (.iload_n 3, 1) := by decide +kernel
theorem dX8_lastBefore_115 : decode cX8_lastBefore 115 = .ok (.ireturn, 1) := by decide +kernel
theorem dX8_allows_0 : decode cX8_allows 0 = .ok (.aload_n 0, 1) := by decide +kernel
theorem dX8_allows_1 : decode cX8_allows 1 = .ok (.getfield 19, 3) := by decide +kernel
theorem dX8_allows_4 : decode cX8_allows 4 = .ok (.iconst 1, 1) := by decide +kernel
theorem dX8_allows_5 : decode cX8_allows 5 = .ok (.if_icmp .ge 5, 3) := by decide +kernel
theorem dX8_allows_8 : decode cX8_allows 8 = .ok (.iconst 0, 1) := by decide +kernel
theorem dX8_allows_9 : decode cX8_allows 9 = .ok (.ireturn, 1) := by decide +kernel
theorem dX8_allows_10 : decode cX8_allows 10 = .ok (.aload_n 0, 1) := by decide +kernel
theorem dX8_allows_11 : decode cX8_allows 11 = .ok (.getfield 9, 3) := by decide +kernel
theorem dX8_allows_14 : decode cX8_allows 14 = .ok (.aload_n 0, 1) := by decide +kernel
theorem dX8_allows_15 : decode cX8_allows 15 = .ok (.getfield 19, 3) := by decide +kernel
theorem dX8_allows_18 : decode cX8_allows 18 = .ok (.iconst 1, 1) := by decide +kernel
theorem dX8_allows_19 : decode cX8_allows 19 = .ok (.isub, 1) := by decide +kernel
theorem dX8_allows_20 : decode cX8_allows 20 = .ok (.iaload, 1) := by decide +kernel
theorem dX8_allows_21 : decode cX8_allows 21 = .ok (.sipush 512, 3) := by decide +kernel
theorem dX8_allows_24 : decode cX8_allows 24 = .ok (.imul, 1) := by decide +kernel
theorem dX8_allows_25 : decode cX8_allows 25 = .ok (.istore 4, 2) := by decide +kernel
theorem dX8_allows_27 : decode cX8_allows 27 = .ok (.aload_n 1, 1) := by decide +kernel
theorem dX8_allows_28 : decode cX8_allows 28 = .ok (.iload_n 2, 1) := by decide +kernel
theorem dX8_allows_29 : decode cX8_allows 29 = .ok (.iload_n 3, 1) := by decide +kernel
theorem dX8_allows_30 : decode cX8_allows 30 = .ok (.invokestatic 39, 3) := by decide +kernel
theorem dX8_allows_33 : decode cX8_allows 33 = .ok (.istore 5, 2) := by decide +kernel
theorem dX8_allows_35 : decode cX8_allows 35 = .ok (.iload 5, 2) := by decide +kernel
theorem dX8_allows_37 : decode cX8_allows 37 = .ok (.invokestatic 43, 3) := by decide +kernel
theorem dX8_allows_40 : decode cX8_allows 40 = .ok (.istore 6, 2) := by decide +kernel
theorem dX8_allows_42 : decode cX8_allows 42 = .ok (.iconst 0, 1) := by decide +kernel
theorem dX8_allows_43 : decode cX8_allows 43 = .ok (.istore 7, 2) := by decide +kernel
theorem dX8_allows_45 : decode cX8_allows 45 = .ok (.iload 7, 2) := by decide +kernel
theorem dX8_allows_47 : decode cX8_allows 47 = .ok (.iconst 4, 1) := by decide +kernel
theorem dX8_allows_48 : decode cX8_allows 48 = .ok (.if_icmp .ge 52, 3) := by decide +kernel
theorem dX8_allows_51 : decode cX8_allows 51 = .ok (.iload 5, 2) := by decide +kernel
theorem dX8_allows_53 : decode cX8_allows 53 = .ok (.sipush 4095, 3) := by decide +kernel
theorem dX8_allows_56 : decode cX8_allows 56 = .ok (.iand, 1) := by decide +kernel
theorem dX8_allows_57 : decode cX8_allows 57 = .ok (.istore 8, 2) := by decide +kernel
theorem dX8_allows_59 : decode cX8_allows 59 = .ok (.aload_n 0, 1) := by decide +kernel
theorem dX8_allows_60 : decode cX8_allows 60 = .ok (.getfield 15, 3) := by decide +kernel
theorem dX8_allows_63 : decode cX8_allows 63 = .ok (.iload 4, 2) := by decide +kernel
theorem dX8_allows_65 : decode cX8_allows 65 = .ok (.iload 8, 2) := by decide +kernel
theorem dX8_allows_67 : decode cX8_allows 67 = .ok (.bipush 8, 2) := by decide +kernel
theorem dX8_allows_69 : decode cX8_allows 69 = .ok (.idiv, 1) := by decide +kernel
theorem dX8_allows_70 : decode cX8_allows 70 = .ok (.iadd, 1) := by decide +kernel
theorem dX8_allows_71 : decode cX8_allows 71 = .ok (.invokevirtual 46, 3) := by decide +kernel
theorem dX8_allows_74 : decode cX8_allows 74 = .ok (.iconst 1, 1) := by decide +kernel
theorem dX8_allows_75 : decode cX8_allows 75 = .ok (.iload 8, 2) := by decide +kernel
theorem dX8_allows_77 : decode cX8_allows 77 = .ok (.bipush 8, 2) := by decide +kernel
theorem dX8_allows_79 : decode cX8_allows 79 = .ok (.irem, 1) := by decide +kernel
theorem dX8_allows_80 : decode cX8_allows 80 = .ok (.ishl, 1) := by decide +kernel
theorem dX8_allows_81 : decode cX8_allows 81 = .ok (.iand, 1) := by decide +kernel
theorem dX8_allows_82 : decode cX8_allows 82 = .ok (.ifCond .ne 5, 3) := by decide +kernel
theorem dX8_allows_85 : decode cX8_allows 85 = .ok (.iconst 0, 1) := by decide +kernel
theorem dX8_allows_86 : decode cX8_allows 86 = .ok (.ireturn, 1) := by decide +kernel
theorem dX8_allows_87 : decode cX8_allows 87 = .ok (.iload 5, 2) := by decide +kernel
theorem dX8_allows_89 : decode cX8_allows 89 = .ok (.iload 6, 2) := by decide +kernel
theorem dX8_allows_91 : decode cX8_allows 91 = .ok (.iadd, 1) := by decide +kernel
theorem dX8_allows_92 : decode cX8_allows 92 = .ok (.istore 5, 2) := by decide +kernel
theorem dX8_allows_94 : decode cX8_allows 94 = .ok (.iinc 7 1, 3) := by decide +kernel
theorem dX8_allows_97 : decode cX8_allows 97 = .ok (.goto (-52), 3) := by decide +kernel
theorem dX8_allows_100 : decode cX8_allows 100 = .ok (.iconst 1, 1) := by decide +kernel
theorem dX8_allows_101 : decode cX8_allows 101 = .ok (.ireturn, 1) := by decide +kernel
theorem dX8_faults_0 : decode cX8_faults 0 = .ok (.iconst 0, 1) := by decide +kernel
theorem dX8_faults_1 : decode cX8_faults 1 = .ok (.istore_n 1, 1) := by decide +kernel
theorem dX8_faults_2 : decode cX8_faults 2 = .ok (.iconst (-1), 1) := by decide +kernel
theorem dX8_faults_3 : decode cX8_faults 3 = .ok (.istore_n 2, 1) := by decide +kernel
theorem dX8_faults_4 : decode cX8_faults 4 = .ok (.aload_n 0, 1) := by decide +kernel
theorem dX8_faults_5 : decode cX8_faults 5 = .ok (.iconst 0, 1) := by decide +kernel
theorem dX8_faults_6 : decode cX8_faults 6 = .ok (.invokevirtual 26, 3) := by decide +kernel
theorem dX8_faults_9 : decode cX8_faults 9 = .ok (.istore_n 3, 1) := by decide +kernel
theorem dX8_faults_10 : decode cX8_faults 10 = .ok (.iconst 0, 1) := by decide +kernel
theorem dX8_faults_11 : decode cX8_faults 11 = .ok (.istore 4, 2) := by decide +kernel
theorem dX8_faults_13 : decode cX8_faults 13 = .ok (.iload 4, 2) := by decide +kernel
theorem dX8_faults_15 : decode cX8_faults 15 = .ok (.sipush 4608, 3) := by decide +kernel
theorem dX8_faults_18 : decode cX8_faults 18 = .ok (.if_icmp .ge 74, 3) := by decide +kernel
theorem dX8_faults_21 : decode cX8_faults 21 = .ok (.iload_n 3, 1) := by decide +kernel
theorem dX8_faults_22 : decode cX8_faults 22 = .ok (.iconst (-1), 1) := by decide +kernel
theorem dX8_faults_23 : decode cX8_faults 23 = .ok (.if_icmp .eq 69, 3) := by decide +kernel
theorem dX8_faults_26 : decode cX8_faults 26 = .ok (.iload_n 2, 1) := by decide +kernel
theorem dX8_faults_27 : decode cX8_faults 27 = .ok (.iconst (-1), 1) := by decide +kernel
theorem dX8_faults_28 : decode cX8_faults 28 = .ok (.if_icmp .eq 18, 3) := by decide +kernel
theorem dX8_faults_31 : decode cX8_faults 31 = .ok (.aload_n 0, 1) := by decide +kernel
theorem dX8_faults_32 : decode cX8_faults 32 = .ok (.getfield 15, 3) := by decide +kernel
theorem dX8_faults_35 : decode cX8_faults 35 = .ok (.iload_n 2, 1) := by decide +kernel
theorem dX8_faults_36 : decode cX8_faults 36 = .ok (.iload_n 3, 1) := by decide +kernel
theorem dX8_faults_37 : decode cX8_faults 37 = .ok (.invokevirtual 49, 3) := by decide +kernel
theorem dX8_faults_40 : decode cX8_faults 40 = .ok (.ifCond .ne 6, 3) := by decide +kernel
theorem dX8_faults_43 : decode cX8_faults 43 = .ok (.iinc 1 1, 3) := by decide +kernel
theorem dX8_faults_46 : decode cX8_faults 46 = .ok (.aload_n 0, 1) := by decide +kernel
theorem dX8_faults_47 : decode cX8_faults 47 = .ok (.aload_n 0, 1) := by decide +kernel
theorem dX8_faults_48 : decode cX8_faults 48 = .ok (.getfield 15, 3) := by decide +kernel
theorem dX8_faults_51 : decode cX8_faults 51 = .ok (.getfield 53, 3) := by decide +kernel
theorem dX8_faults_54 : decode cX8_faults 54 = .ok (.iload_n 3, 1) := by decide +kernel
theorem dX8_faults_55 : decode cX8_faults 55 = .ok (.bipush 8, 2) := by decide +kernel
theorem dX8_faults_57 : decode cX8_faults 57 = .ok (.iadd, 1) := by decide +kernel
theorem dX8_faults_58 : decode cX8_faults 58 = .ok (.aload_n 0, 1) := by decide +kernel
theorem dX8_faults_59 : decode cX8_faults 59 = .ok (.getfield 15, 3) := by decide +kernel
theorem dX8_faults_62 : decode cX8_faults 62 = .ok (.iload_n 3, 1) := by decide +kernel
theorem dX8_faults_63 : decode cX8_faults 63 = .ok (.iconst 1, 1) := by decide +kernel
theorem dX8_faults_64 : decode cX8_faults 64 = .ok (.iadd, 1) := by decide +kernel
theorem dX8_faults_65 : decode cX8_faults 65 = .ok (.iconst 1, 1) := by decide +kernel
theorem dX8_faults_66 : decode cX8_faults 66 = .ok (.invokevirtual 57, 3) := by decide +kernel
theorem dX8_faults_69 : decode cX8_faults 69 = .ok (.invokevirtual 61, 3) := by decide +kernel
theorem dX8_faults_72 : decode cX8_faults 72 = .ok (.ifCond .ne 6, 3) := by decide +kernel
theorem dX8_faults_75 : decode cX8_faults 75 = .ok (.iinc 1 1, 3) := by decide +kernel
theorem dX8_faults_78 : decode cX8_faults 78 = .ok (.iload_n 3, 1) := by decide +kernel
theorem dX8_faults_79 : decode cX8_faults 79 = .ok (.istore_n 2, 1) := by decide +kernel
theorem dX8_faults_80 : decode cX8_faults 80 = .ok (.aload_n 0, 1) := by decide +kernel
theorem dX8_faults_81 : decode cX8_faults 81 = .ok (.iload_n 3, 1) := by decide +kernel
theorem dX8_faults_82 : decode cX8_faults 82 = .ok (.invokevirtual 65, 3) := by decide +kernel
theorem dX8_faults_85 : decode cX8_faults 85 = .ok (.istore_n 3, 1) := by decide +kernel
theorem dX8_faults_86 : decode cX8_faults 86 = .ok (.iinc 4 1, 3) := by decide +kernel
theorem dX8_faults_89 : decode cX8_faults 89 = .ok (.goto (-76), 3) := by decide +kernel
theorem dX8_faults_92 : decode cX8_faults 92 = .ok (.iload_n 1, 1) := by decide +kernel
theorem dX8_faults_93 : decode cX8_faults 93 = .ok (.ireturn, 1) := by decide +kernel
theorem dX8_hash_0 : decode cX8_hash 0 = .ok (.ldc 68, 2) := by decide +kernel
theorem dX8_hash_2 : decode cX8_hash 2 = .ok (.istore_n 3, 1) := by decide +kernel
theorem dX8_hash_3 : decode cX8_hash 3 = .ok (.iconst 0, 1) := by decide +kernel
theorem dX8_hash_4 : decode cX8_hash 4 = .ok (.iload_n 1, 1) := by decide +kernel
theorem dX8_hash_5 : decode cX8_hash 5 = .ok (.invokestatic 69, 3) := by decide +kernel
theorem dX8_hash_8 : decode cX8_hash 8 = .ok (.istore 4, 2) := by decide +kernel
theorem dX8_hash_10 : decode cX8_hash 10 = .ok (.iload 4, 2) := by decide +kernel
theorem dX8_hash_12 : decode cX8_hash 12 = .ok (.iload_n 1, 1) := by decide +kernel
theorem dX8_hash_13 : decode cX8_hash 13 = .ok (.iload_n 2, 1) := by decide +kernel
theorem dX8_hash_14 : decode cX8_hash 14 = .ok (.iadd, 1) := by decide +kernel
theorem dX8_hash_15 : decode cX8_hash 15 = .ok (.if_icmp .ge 30, 3) := by decide +kernel
theorem dX8_hash_18 : decode cX8_hash 18 = .ok (.iload 4, 2) := by decide +kernel
theorem dX8_hash_20 : decode cX8_hash 20 = .ok (.aload_n 0, 1) := by decide +kernel
theorem dX8_hash_21 : decode cX8_hash 21 = .ok (.arraylength, 1) := by decide +kernel
theorem dX8_hash_22 : decode cX8_hash 22 = .ok (.if_icmp .ge 23, 3) := by decide +kernel
theorem dX8_hash_25 : decode cX8_hash 25 = .ok (.iload_n 3, 1) := by decide +kernel
theorem dX8_hash_26 : decode cX8_hash 26 = .ok (.aload_n 0, 1) := by decide +kernel
theorem dX8_hash_27 : decode cX8_hash 27 = .ok (.iload 4, 2) := by decide +kernel
theorem dX8_hash_29 : decode cX8_hash 29 = .ok (.baload, 1) := by decide +kernel
theorem dX8_hash_30 : decode cX8_hash 30 = .ok (.sipush 255, 3) := by decide +kernel
theorem dX8_hash_33 : decode cX8_hash 33 = .ok (.iand, 1) := by decide +kernel
theorem dX8_hash_34 : decode cX8_hash 34 = .ok (.ixor, 1) := by decide +kernel
theorem dX8_hash_35 : decode cX8_hash 35 = .ok (.ldc 74, 2) := by decide +kernel
theorem dX8_hash_37 : decode cX8_hash 37 = .ok (.imul, 1) := by decide +kernel
theorem dX8_hash_38 : decode cX8_hash 38 = .ok (.istore_n 3, 1) := by decide +kernel
theorem dX8_hash_39 : decode cX8_hash 39 = .ok (.iinc 4 1, 3) := by decide +kernel
theorem dX8_hash_42 : decode cX8_hash 42 = .ok (.goto (-32), 3) := by decide +kernel
theorem dX8_hash_45 : decode cX8_hash 45 = .ok (.iload_n 3, 1) := by decide +kernel
theorem dX8_hash_46 : decode cX8_hash 46 = .ok (.iload_n 3, 1) := by decide +kernel
theorem dX8_hash_47 : decode cX8_hash 47 = .ok (.bipush 15, 2) := by decide +kernel
theorem dX8_hash_49 : decode cX8_hash 49 = .ok (.iushr, 1) := by decide +kernel
theorem dX8_hash_50 : decode cX8_hash 50 = .ok (.ixor, 1) := by decide +kernel
theorem dX8_hash_51 : decode cX8_hash 51 = .ok (.ireturn, 1) := by decide +kernel
theorem dX8_strideOf_0 : decode cX8_strideOf 0 = .ok (.iload_n 0, 1) := by decide +kernel
theorem dX8_strideOf_1 : decode cX8_strideOf 1 = .ok (.bipush 12, 2) := by decide +kernel
theorem dX8_strideOf_3 : decode cX8_strideOf 3 = .ok (.iushr, 1) := by decide +kernel
theorem dX8_strideOf_4 : decode cX8_strideOf 4 = .ok (.iconst 1, 1) := by decide +kernel
theorem dX8_strideOf_5 : decode cX8_strideOf 5 = .ok (.ior, 1) := by decide +kernel
theorem dX8_strideOf_6 : decode cX8_strideOf 6 = .ok (.ireturn, 1) := by decide +kernel
theorem dX9_init_0 : decode cX9_init 0 = .ok (.aload_n 0, 1) := by decide +kernel
theorem dX9_init_1 : decode cX9_init 1 = .ok (.invokespecial 3, 3) := by decide +kernel
theorem dX9_init_4 : decode cX9_init 4 = .ok (.aload_n 0, 1) := by decide +kernel
theorem dX9_init_5 : decode cX9_init 5 = .ok (.bipush 8, 2) := by decide +kernel
theorem dX9_init_7 : decode cX9_init 7 = .ok (.newarray .int, 2) := by decide +kernel
theorem dX9_init_9 : decode cX9_init 9 = .ok (.dup, 1) := by decide +kernel
theorem dX9_init_10 : decode cX9_init 10 = .ok (.iconst 0, 1) := by decide +kernel
theorem dX9_init_11 : decode cX9_init 11 = .ok (.iconst (-1), 1) := by decide +kernel
theorem dX9_init_12 : decode cX9_init 12 = .ok (.iastore, 1) := by decide +kernel
theorem dX9_init_13 : decode cX9_init 13 = .ok (.dup, 1) := by decide +kernel
theorem dX9_init_14 : decode cX9_init 14 = .ok (.iconst 1, 1) := by decide +kernel
theorem dX9_init_15 : decode cX9_init 15 = .ok (.iconst (-1), 1) := by decide +kernel
theorem dX9_init_16 : decode cX9_init 16 = .ok (.iastore, 1) := by decide +kernel
theorem dX9_init_17 : decode cX9_init 17 = .ok (.dup, 1) := by decide +kernel
theorem dX9_init_18 : decode cX9_init 18 = .ok (.iconst 2, 1) := by decide +kernel
theorem dX9_init_19 : decode cX9_init 19 = .ok (.iconst (-1), 1) := by decide +kernel
theorem dX9_init_20 : decode cX9_init 20 = .ok (.iastore, 1) := by decide +kernel
theorem dX9_init_21 : decode cX9_init 21 = .ok (.dup, 1) := by decide +kernel
theorem dX9_init_22 : decode cX9_init 22 = .ok (.iconst 3, 1) := by decide +kernel
theorem dX9_init_23 : decode cX9_init 23 = .ok (.iconst (-1), 1) := by decide +kernel
theorem dX9_init_24 : decode cX9_init 24 = .ok (.iastore, 1) := by decide +kernel
theorem dX9_init_25 : decode cX9_init 25 = .ok (.dup, 1) := by decide +kernel
theorem dX9_init_26 : decode cX9_init 26 = .ok (.iconst 4, 1) := by decide +kernel
theorem dX9_init_27 : decode cX9_init 27 = .ok (.iconst (-1), 1) := by decide +kernel
theorem dX9_init_28 : decode cX9_init 28 = .ok (.iastore, 1) := by decide +kernel
theorem dX9_init_29 : decode cX9_init 29 = .ok (.dup, 1) := by decide +kernel
theorem dX9_init_30 : decode cX9_init 30 = .ok (.iconst 5, 1) := by decide +kernel
theorem dX9_init_31 : decode cX9_init 31 = .ok (.iconst (-1), 1) := by decide +kernel
theorem dX9_init_32 : decode cX9_init 32 = .ok (.iastore, 1) := by decide +kernel
theorem dX9_init_33 : decode cX9_init 33 = .ok (.dup, 1) := by decide +kernel
theorem dX9_init_34 : decode cX9_init 34 = .ok (.bipush 6, 2) := by decide +kernel
theorem dX9_init_36 : decode cX9_init 36 = .ok (.iconst (-1), 1) := by decide +kernel
theorem dX9_init_37 : decode cX9_init 37 = .ok (.iastore, 1) := by decide +kernel
theorem dX9_init_38 : decode cX9_init 38 = .ok (.dup, 1) := by decide +kernel
theorem dX9_init_39 : decode cX9_init 39 = .ok (.bipush 7, 2) := by decide +kernel
theorem dX9_init_41 : decode cX9_init 41 = .ok (.iconst (-1), 1) := by decide +kernel
theorem dX9_init_42 : decode cX9_init 42 = .ok (.iastore, 1) := by decide +kernel
theorem dX9_init_43 : decode cX9_init 43 = .ok (.putfield 9, 3) := by decide +kernel
theorem dX9_init_46 : decode cX9_init 46 = .ok (.return_, 1) := by decide +kernel
theorem dX9_take_0 : decode cX9_take 0 = .ok (.iconst 0, 1) := by decide +kernel
theorem dX9_take_1 : decode cX9_take 1 = .ok (.istore_n 2, 1) := by decide +kernel
theorem dX9_take_2 : decode cX9_take 2 = .ok (.iload_n 2, 1) := by decide +kernel
theorem dX9_take_3 : decode cX9_take 3 = .ok (.bipush 8, 2) := by decide +kernel
theorem dX9_take_5 : decode cX9_take 5 = .ok (.if_icmp .ge 28, 3) := by decide +kernel
theorem dX9_take_8 : decode cX9_take 8 = .ok (.aload_n 0, 1) := by decide +kernel
theorem dX9_take_9 : decode cX9_take 9 = .ok (.getfield 9, 3) := by decide +kernel
theorem dX9_take_12 : decode cX9_take 12 = .ok (.iload_n 2, 1) := by decide +kernel
theorem dX9_take_13 : decode cX9_take 13 = .ok (.iaload, 1) := by decide +kernel
theorem dX9_take_14 : decode cX9_take 14 = .ok (.iconst (-1), 1) := by decide +kernel
theorem dX9_take_15 : decode cX9_take 15 = .ok (.if_icmp .ne 12, 3) := by decide +kernel
theorem dX9_take_18 : decode cX9_take 18 = .ok (.aload_n 0, 1) := by decide +kernel
theorem dX9_take_19 : decode cX9_take 19 = .ok (.getfield 9, 3) := by decide +kernel
theorem dX9_take_22 : decode cX9_take 22 = .ok (.iload_n 2, 1) := by decide +kernel
theorem dX9_take_23 : decode cX9_take 23 = .ok (.iload_n 1, 1) := by decide +kernel
theorem dX9_take_24 : decode cX9_take 24 = .ok (.iastore, 1) := by decide +kernel
theorem dX9_take_25 : decode cX9_take 25 = .ok (.iload_n 2, 1) := by decide +kernel
theorem dX9_take_26 : decode cX9_take 26 = .ok (.ireturn, 1) := by decide +kernel
theorem dX9_take_27 : decode cX9_take 27 = .ok (.iinc 2 1, 3) := by decide +kernel
theorem dX9_take_30 : decode cX9_take 30 = .ok (.goto (-28), 3) := by decide +kernel
theorem dX9_take_33 : decode cX9_take 33 = .ok (.iconst (-1), 1) := by decide +kernel
theorem dX9_take_34 : decode cX9_take 34 = .ok (.ireturn, 1) := by decide +kernel
theorem dX9_has_0 : decode cX9_has 0 = .ok (.iload_n 1, 1) := by decide +kernel
theorem dX9_has_1 : decode cX9_has 1 = .ok (.ifCond .lt 23, 3) := by decide +kernel
theorem dX9_has_4 : decode cX9_has 4 = .ok (.iload_n 1, 1) := by decide +kernel
theorem dX9_has_5 : decode cX9_has 5 = .ok (.bipush 8, 2) := by decide +kernel
theorem dX9_has_7 : decode cX9_has 7 = .ok (.if_icmp .ge 17, 3) := by decide +kernel
theorem dX9_has_10 : decode cX9_has 10 = .ok (.aload_n 0, 1) := by decide +kernel
theorem dX9_has_11 : decode cX9_has 11 = .ok (.getfield 9, 3) := by decide +kernel
theorem dX9_has_14 : decode cX9_has 14 = .ok (.iload_n 1, 1) := by decide +kernel
theorem dX9_has_15 : decode cX9_has 15 = .ok (.iaload, 1) := by decide +kernel
theorem dX9_has_16 : decode cX9_has 16 = .ok (.iconst (-1), 1) := by decide +kernel
theorem dX9_has_17 : decode cX9_has 17 = .ok (.if_icmp .eq 7, 3) := by decide +kernel
theorem dX9_has_20 : decode cX9_has 20 = .ok (.iconst 1, 1) := by decide +kernel
theorem dX9_has_21 : decode cX9_has 21 = .ok (.goto 4, 3) := by decide +kernel
theorem dX9_has_24 : decode cX9_has 24 = .ok (.iconst 0, 1) := by decide +kernel
theorem dX9_has_25 : decode cX9_has 25 = .ok (.ireturn, 1) := by decide +kernel
theorem dX9_drop_0 : decode cX9_drop 0 = .ok (.iload_n 1, 1) := by decide +kernel
theorem dX9_drop_1 : decode cX9_drop 1 = .ok (.ifCond .lt 16, 3) := by decide +kernel
theorem dX9_drop_4 : decode cX9_drop 4 = .ok (.iload_n 1, 1) := by decide +kernel
theorem dX9_drop_5 : decode cX9_drop 5 = .ok (.bipush 8, 2) := by decide +kernel
theorem dX9_drop_7 : decode cX9_drop 7 = .ok (.if_icmp .ge 10, 3) := by decide +kernel
theorem dX9_drop_10 : decode cX9_drop 10 = .ok (.aload_n 0, 1) := by decide +kernel
theorem dX9_drop_11 : decode cX9_drop 11 = .ok (.getfield 9, 3) := by decide +kernel
theorem dX9_drop_14 : decode cX9_drop 14 = .ok (.iload_n 1, 1) := by decide +kernel
theorem dX9_drop_15 : decode cX9_drop 15 = .ok (.iconst (-1), 1) := by decide +kernel
theorem dX9_drop_16 : decode cX9_drop 16 = .ok (.iastore, 1) := by decide +kernel
theorem dX9_drop_17 : decode cX9_drop 17 = .ok (.return_, 1) := by decide +kernel
theorem dX9_clear_0 : decode cX9_clear 0 = .ok (.iconst 0, 1) := by decide +kernel
theorem dX9_clear_1 : decode cX9_clear 1 = .ok (.istore_n 1, 1) := by decide +kernel
theorem dX9_clear_2 : decode cX9_clear 2 = .ok (.iload_n 1, 1) := by decide +kernel
theorem dX9_clear_3 : decode cX9_clear 3 = .ok (.bipush 8, 2) := by decide +kernel
theorem dX9_clear_5 : decode cX9_clear 5 = .ok (.if_icmp .ge 16, 3) := by decide +kernel
theorem dX9_clear_8 : decode cX9_clear 8 = .ok (.aload_n 0, 1) := by decide +kernel
theorem dX9_clear_9 : decode cX9_clear 9 = .ok (.getfield 9, 3) := by decide +kernel
theorem dX9_clear_12 : decode cX9_clear 12 = .ok (.iload_n 1, 1) := by decide +kernel
theorem dX9_clear_13 : decode cX9_clear 13 = .ok (.iconst (-1), 1) := by decide +kernel
theorem dX9_clear_14 : decode cX9_clear 14 = .ok (.iastore, 1) := by decide +kernel
theorem dX9_clear_15 : decode cX9_clear 15 = .ok (.iinc 1 1, 3) := by decide +kernel
theorem dX9_clear_18 : decode cX9_clear 18 = .ok (.goto (-16), 3) := by decide +kernel
theorem dX9_clear_21 : decode cX9_clear 21 = .ok (.return_, 1) := by decide +kernel
theorem dX9_bits_0 : decode cX9_bits 0 = .ok (.iconst 0, 1) := by decide +kernel
theorem dX9_bits_1 : decode cX9_bits 1 = .ok (.istore_n 1, 1) := by decide +kernel
theorem dX9_bits_2 : decode cX9_bits 2 = .ok (.iconst 0, 1) := by decide +kernel
theorem dX9_bits_3 : decode cX9_bits 3 = .ok (.istore_n 2, 1) := by decide +kernel
theorem dX9_bits_4 : decode cX9_bits 4 = .ok (.iload_n 2, 1) := by decide +kernel
theorem dX9_bits_5 : decode cX9_bits 5 = .ok (.bipush 8, 2) := by decide +kernel
theorem dX9_bits_7 : decode cX9_bits 7 = .ok (.if_icmp .ge 25, 3) := by decide +kernel
theorem dX9_bits_10 : decode cX9_bits 10 = .ok (.aload_n 0, 1) := by decide +kernel
theorem dX9_bits_11 : decode cX9_bits 11 = .ok (.getfield 9, 3) := by decide +kernel
theorem dX9_bits_14 : decode cX9_bits 14 = .ok (.iload_n 2, 1) := by decide +kernel
theorem dX9_bits_15 : decode cX9_bits 15 = .ok (.iaload, 1) := by decide +kernel
theorem dX9_bits_16 : decode cX9_bits 16 = .ok (.iconst (-1), 1) := by decide +kernel
theorem dX9_bits_17 : decode cX9_bits 17 = .ok (.if_icmp .eq 9, 3) := by decide +kernel
theorem dX9_bits_20 : decode cX9_bits 20 = .ok (.iload_n 1, 1) := by decide +kernel
theorem dX9_bits_21 : decode cX9_bits 21 = .ok (.iconst 1, 1) := by decide +kernel
theorem dX9_bits_22 : decode cX9_bits 22 = .ok (.iload_n 2, 1) := by decide +kernel
theorem dX9_bits_23 : decode cX9_bits 23 = .ok (.ishl, 1) := by decide +kernel
theorem dX9_bits_24 : decode cX9_bits 24 = .ok (.ior, 1) := by decide +kernel
theorem dX9_bits_25 : decode cX9_bits 25 = .ok (.istore_n 1, 1) := by decide +kernel
theorem dX9_bits_26 : decode cX9_bits 26 = .ok (.iinc 2 1, 3) := by decide +kernel
theorem dX9_bits_29 : decode cX9_bits 29 = .ok (.goto (-25), 3) := by decide +kernel
theorem dX9_bits_32 : decode cX9_bits 32 = .ok (.iload_n 1, 1) := by decide +kernel
theorem dX9_bits_33 : decode cX9_bits 33 = .ok (.ireturn, 1) := by decide +kernel
theorem dX9_see_0 : decode cX9_see 0 = .ok (.iconst 0, 1) := by decide +kernel
theorem dX9_see_1 : decode cX9_see 1 = .ok (.istore_n 3, 1) := by decide +kernel
theorem dX9_see_2 : decode cX9_see 2 = .ok (.iload_n 3, 1) := by decide +kernel
theorem dX9_see_3 : decode cX9_see 3 = .ok (.bipush 8, 2) := by decide +kernel
theorem dX9_see_5 : decode cX9_see 5 = .ok (.if_icmp .ge 31, 3) := by decide +kernel
theorem dX9_see_8 : decode cX9_see 8 = .ok (.aload_n 0, 1) := by decide +kernel
theorem dX9_see_9 : decode cX9_see 9 = .ok (.getfield 9, 3) := by decide +kernel
theorem dX9_see_12 : decode cX9_see 12 = .ok (.iload_n 3, 1) := by decide +kernel
theorem dX9_see_13 : decode cX9_see 13 = .ok (.iaload, 1) := by decide +kernel
theorem dX9_see_14 : decode cX9_see 14 = .ok (.iload_n 1, 1) := by decide +kernel
theorem dX9_see_15 : decode cX9_see 15 = .ok (.if_icmp .lt 15, 3) := by decide +kernel
theorem dX9_see_18 : decode cX9_see 18 = .ok (.aload_n 0, 1) := by decide +kernel
theorem dX9_see_19 : decode cX9_see 19 = .ok (.getfield 9, 3) := by decide +kernel
theorem dX9_see_22 : decode cX9_see 22 = .ok (.iload_n 3, 1) := by decide +kernel
theorem dX9_see_23 : decode cX9_see 23 = .ok (.iaload, 1) := by decide +kernel
theorem dX9_see_24 : decode cX9_see 24 = .ok (.iload_n 2, 1) := by decide +kernel
theorem dX9_see_25 : decode cX9_see 25 = .ok (.if_icmp .ge 5, 3) := by decide +kernel
theorem dX9_see_28 : decode cX9_see 28 = .ok (.iconst 1, 1) := by decide +kernel
theorem dX9_see_29 : decode cX9_see 29 = .ok (.ireturn, 1) := by decide +kernel
theorem dX9_see_30 : decode cX9_see 30 = .ok (.iinc 3 1, 3) := by decide +kernel
theorem dX9_see_33 : decode cX9_see 33 = .ok (.goto (-31), 3) := by decide +kernel
theorem dX9_see_36 : decode cX9_see 36 = .ok (.iconst 0, 1) := by decide +kernel
theorem dX9_see_37 : decode cX9_see 37 = .ok (.ireturn, 1) := by decide +kernel
theorem dX10_init_0 : decode cX10_init 0 = .ok (.aload_n 0, 1) := by decide +kernel
theorem dX10_init_1 : decode cX10_init 1 = .ok (.invokespecial 3, 3) := by decide +kernel
theorem dX10_init_4 : decode cX10_init 4 = .ok (.aload_n 0, 1) := by decide +kernel
theorem dX10_init_5 : decode cX10_init 5 = .ok (.sipush 512, 3) := by decide +kernel
theorem dX10_init_8 : decode cX10_init 8 = .ok (.newarray .byte, 2) := by decide +kernel
theorem dX10_init_10 : decode cX10_init 10 = .ok (.putfield 9, 3) := by decide +kernel
theorem dX10_init_13 : decode cX10_init 13 = .ok (.aload_n 0, 1) := by decide +kernel
theorem dX10_init_14 : decode cX10_init 14 = .ok (.sipush 512, 3) := by decide +kernel
theorem dX10_init_17 : decode cX10_init 17 = .ok (.newarray .byte, 2) := by decide +kernel
theorem dX10_init_19 : decode cX10_init 19 = .ok (.putfield 15, 3) := by decide +kernel
theorem dX10_init_22 : decode cX10_init 22 = .ok (.aload_n 0, 1) := by decide +kernel
theorem dX10_init_23 : decode cX10_init 23 = .ok (.sipush 256, 3) := by decide +kernel
theorem dX10_init_26 : decode cX10_init 26 = .ok (.anewarray 18, 3) := by decide +kernel
theorem dX10_init_29 : decode cX10_init 29 = .ok (.putfield 20, 3) := by decide +kernel
theorem dX10_init_32 : decode cX10_init 32 = .ok (.aload_n 0, 1) := by decide +kernel
theorem dX10_init_33 : decode cX10_init 33 = .ok (.aload_n 1, 1) := by decide +kernel
theorem dX10_init_34 : decode cX10_init 34 = .ok (.putfield 24, 3) := by decide +kernel
theorem dX10_init_37 : decode cX10_init 37 = .ok (.aload_n 0, 1) := by decide +kernel
theorem dX10_init_38 : decode cX10_init 38 = .ok (.aload_n 2, 1) := by decide +kernel
theorem dX10_init_39 : decode cX10_init 39 = .ok (.putfield 28, 3) := by decide +kernel
theorem dX10_init_42 : decode cX10_init 42 = .ok (.return_, 1) := by decide +kernel
theorem dX10_stepTo_0 : decode cX10_stepTo 0 = .ok (.aload_n 0, 1) := by decide +kernel
theorem dX10_stepTo_1 : decode cX10_stepTo 1 = .ok (.getfield 32, 3) := by decide +kernel
theorem dX10_stepTo_4 : decode cX10_stepTo 4 = .ok (.aload_n 0, 1) := by decide +kernel
theorem dX10_stepTo_5 : decode cX10_stepTo 5 = .ok (.getfield 24, 3) := by decide +kernel
theorem dX10_stepTo_8 : decode cX10_stepTo 8 = .ok (.aload_n 1, 1) := by decide +kernel
theorem dX10_stepTo_9 : decode cX10_stepTo 9 = .ok (.getfield 36, 3) := by decide +kernel
theorem dX10_stepTo_12 : decode cX10_stepTo 12 = .ok (.iload_n 2, 1) := by decide +kernel
theorem dX10_stepTo_13 : decode cX10_stepTo 13 = .ok (.iaload, 1) := by decide +kernel
theorem dX10_stepTo_14 : decode cX10_stepTo 14 = .ok (.invokevirtual 42, 3) := by decide +kernel
theorem dX10_stepTo_17 : decode cX10_stepTo 17 = .ok (.iadd, 1) := by decide +kernel
theorem dX10_stepTo_18 : decode cX10_stepTo 18 = .ok (.sipush 512, 3) := by decide +kernel
theorem dX10_stepTo_21 : decode cX10_stepTo 21 = .ok (.if_icmp .gt 7, 3) := by decide +kernel
theorem dX10_stepTo_24 : decode cX10_stepTo 24 = .ok (.iconst 1, 1) := by decide +kernel
theorem dX10_stepTo_25 : decode cX10_stepTo 25 = .ok (.goto 4, 3) := by decide +kernel
theorem dX10_stepTo_28 : decode cX10_stepTo 28 = .ok (.iconst 0, 1) := by decide +kernel
theorem dX10_stepTo_29 : decode cX10_stepTo 29 = .ok (.istore_n 3, 1) := by decide +kernel
theorem dX10_stepTo_30 : decode cX10_stepTo 30 = .ok (.iload_n 2, 1) := by decide +kernel
theorem dX10_stepTo_31 : decode cX10_stepTo 31 = .ok (.ifCond .eq 27, 3) := by decide +kernel
theorem dX10_stepTo_34 : decode cX10_stepTo 34 = .ok (.aload_n 0, 1) := by decide +kernel
theorem dX10_stepTo_35 : decode cX10_stepTo 35 = .ok (.getfield 24, 3) := by decide +kernel
theorem dX10_stepTo_38 : decode cX10_stepTo 38 = .ok (.aload_n 1, 1) := by decide +kernel
theorem dX10_stepTo_39 : decode cX10_stepTo 39 = .ok (.getfield 36, 3) := by decide +kernel
theorem dX10_stepTo_42 : decode cX10_stepTo 42 = .ok (.iload_n 2, 1) := by decide +kernel
theorem dX10_stepTo_43 : decode cX10_stepTo 43 = .ok (.iconst 1, 1) := by decide +kernel
theorem dX10_stepTo_44 : decode cX10_stepTo 44 = .ok (.isub, 1) := by decide +kernel
theorem dX10_stepTo_45 : decode cX10_stepTo 45 = .ok (.iaload, 1) := by decide +kernel
theorem dX10_stepTo_46 : decode cX10_stepTo 46 = .ok (.aload_n 1, 1) := by decide +kernel
theorem dX10_stepTo_47 : decode cX10_stepTo 47 = .ok (.getfield 36, 3) := by decide +kernel
theorem dX10_stepTo_50 : decode cX10_stepTo 50 = .ok (.iload_n 2, 1) := by decide +kernel
theorem dX10_stepTo_51 : decode cX10_stepTo 51 = .ok (.iaload, 1) := by decide +kernel
theorem dX10_stepTo_52 : decode cX10_stepTo 52 = .ok (.invokevirtual 48, 3) := by decide +kernel
theorem dX10_stepTo_55 : decode cX10_stepTo 55 = .ok (.ifCond .eq 7, 3) := by decide +kernel
theorem dX10_stepTo_58 : decode cX10_stepTo 58 = .ok (.iconst 1, 1) := by decide +kernel
theorem dX10_stepTo_59 : decode cX10_stepTo 59 = .ok (.goto 4, 3) := by decide +kernel
theorem dX10_stepTo_62 : decode cX10_stepTo 62 = .ok (.iconst 0, 1) := by decide +kernel
theorem dX10_stepTo_63 : decode cX10_stepTo 63 = .ok (.istore 4, 2) := by decide +kernel
theorem dX10_stepTo_65 : decode cX10_stepTo 65 = .ok (.aload_n 0, 1) := by decide +kernel
theorem dX10_stepTo_66 : decode cX10_stepTo 66 = .ok (.getfield 52, 3) := by decide +kernel
theorem dX10_stepTo_69 : decode cX10_stepTo 69 = .ok (.iconst 4, 1) := by decide +kernel
theorem dX10_stepTo_70 : decode cX10_stepTo 70 = .ok (.if_icmp .gt 15, 3) := by decide +kernel
theorem dX10_stepTo_73 : decode cX10_stepTo 73 = .ok (.aload_n 0, 1) := by decide +kernel
theorem dX10_stepTo_74 : decode cX10_stepTo 74 = .ok (.getfield 52, 3) := by decide +kernel
theorem dX10_stepTo_77 : decode cX10_stepTo 77 = .ok (.iconst 4, 1) := by decide +kernel
theorem dX10_stepTo_78 : decode cX10_stepTo 78 = .ok (.if_icmp .ne 11, 3) := by decide +kernel
theorem dX10_stepTo_81 : decode cX10_stepTo 81 = .ok (.iload_n 3, 1) := by decide +kernel
theorem dX10_stepTo_82 : decode cX10_stepTo 82 = .ok (.ifCond .ne 7, 3) := by decide +kernel
theorem dX10_stepTo_85 : decode cX10_stepTo 85 = .ok (.iconst 1, 1) := by decide +kernel
theorem dX10_stepTo_86 : decode cX10_stepTo 86 = .ok (.goto 4, 3) := by decide +kernel
theorem dX10_stepTo_89 : decode cX10_stepTo 89 = .ok (.iconst 0, 1) := by decide +kernel
theorem dX10_stepTo_90 : decode cX10_stepTo 90 = .ok (.istore 5, 2) := by decide +kernel
theorem dX10_stepTo_92 : decode cX10_stepTo 92 = .ok (.iload_n 2, 1) := by decide +kernel
theorem dX10_stepTo_93 : decode cX10_stepTo 93 = .ok (.ifCond .eq 13, 3) := by decide +kernel
theorem dX10_stepTo_96 : decode cX10_stepTo 96 = .ok (.iload 4, 2) := by decide +kernel
theorem dX10_stepTo_98 : decode cX10_stepTo 98 = .ok (.ifCond .eq 10, 3) := by decide +kernel
theorem dX10_stepTo_101 : decode cX10_stepTo 101 = .ok (.iload 5, 2) := by decide +kernel
theorem dX10_stepTo_103 : decode cX10_stepTo 103 = .ok (.ifCond .eq 5, 3) := by decide +kernel
theorem dX10_stepTo_106 : decode cX10_stepTo 106 = .ok (.iconst 2, 1) := by decide +kernel
theorem dX10_stepTo_107 : decode cX10_stepTo 107 = .ok (.ireturn, 1) := by decide +kernel
theorem dX10_stepTo_108 : decode cX10_stepTo 108 = .ok (.iload_n 3, 1) := by decide +kernel
theorem dX10_stepTo_109 : decode cX10_stepTo 109 = .ok (.ifCond .eq 7, 3) := by decide +kernel
theorem dX10_stepTo_112 : decode cX10_stepTo 112 = .ok (.iconst 0, 1) := by decide +kernel
theorem dX10_stepTo_113 : decode cX10_stepTo 113 = .ok (.goto 4, 3) := by decide +kernel
theorem dX10_stepTo_116 : decode cX10_stepTo 116 = .ok (.iconst 1, 1) := by decide +kernel
theorem dX10_stepTo_117 : decode cX10_stepTo 117 = .ok (.ireturn, 1) := by decide +kernel
theorem dX10_advance_0 : decode cX10_advance 0 = .ok (.iload_n 1, 1) := by decide +kernel
theorem dX10_advance_1 : decode cX10_advance 1 = .ok (.iconst 2, 1) := by decide +kernel
theorem dX10_advance_2 : decode cX10_advance 2 = .ok (.if_icmp .ne 8, 3) := by decide +kernel
theorem dX10_advance_5 : decode cX10_advance 5 = .ok (.aload_n 0, 1) := by decide +kernel
theorem dX10_advance_6 : decode cX10_advance 6 = .ok (.iconst 0, 1) := by decide +kernel
theorem dX10_advance_7 : decode cX10_advance 7 = .ok (.putfield 52, 3) := by decide +kernel
theorem dX10_advance_10 : decode cX10_advance 10 = .ok (.iload_n 1, 1) := by decide +kernel
theorem dX10_advance_11 : decode cX10_advance 11 = .ok (.ifCond .eq 18, 3) := by decide +kernel
theorem dX10_advance_14 : decode cX10_advance 14 = .ok (.aload_n 0, 1) := by decide +kernel
theorem dX10_advance_15 : decode cX10_advance 15 = .ok (.dup, 1) := by decide +kernel
theorem dX10_advance_16 : decode cX10_advance 16 = .ok (.getfield 52, 3) := by decide +kernel
theorem dX10_advance_19 : decode cX10_advance 19 = .ok (.iconst 1, 1) := by decide +kernel
theorem dX10_advance_20 : decode cX10_advance 20 = .ok (.iadd, 1) := by decide +kernel
theorem dX10_advance_21 : decode cX10_advance 21 = .ok (.putfield 52, 3) := by decide +kernel
theorem dX10_advance_24 : decode cX10_advance 24 = .ok (.aload_n 0, 1) := by decide +kernel
theorem dX10_advance_25 : decode cX10_advance 25 = .ok (.iconst 0, 1) := by decide +kernel
theorem dX10_advance_26 : decode cX10_advance 26 = .ok (.putfield 32, 3) := by decide +kernel
theorem dX10_advance_29 : decode cX10_advance 29 = .ok (.aload_n 0, 1) := by decide +kernel
theorem dX10_advance_30 : decode cX10_advance 30 = .ok (.dup, 1) := by decide +kernel
theorem dX10_advance_31 : decode cX10_advance 31 = .ok (.getfield 32, 3) := by decide +kernel
theorem dX10_advance_34 : decode cX10_advance 34 = .ok (.iload_n 2, 1) := by decide +kernel
theorem dX10_advance_35 : decode cX10_advance 35 = .ok (.iadd, 1) := by decide +kernel
theorem dX10_advance_36 : decode cX10_advance 36 = .ok (.putfield 32, 3) := by decide +kernel
theorem dX10_advance_39 : decode cX10_advance 39 = .ok (.return_, 1) := by decide +kernel
theorem dX10_hasRoom_0 : decode cX10_hasRoom 0 = .ok (.iconst 0, 1) := by decide +kernel
theorem dX10_hasRoom_1 : decode cX10_hasRoom 1 = .ok (.istore_n 2, 1) := by decide +kernel
theorem dX10_hasRoom_2 : decode cX10_hasRoom 2 = .ok (.iconst 0, 1) := by decide +kernel
theorem dX10_hasRoom_3 : decode cX10_hasRoom 3 = .ok (.istore_n 3, 1) := by decide +kernel
theorem dX10_hasRoom_4 : decode cX10_hasRoom 4 = .ok (.iconst 0, 1) := by decide +kernel
theorem dX10_hasRoom_5 : decode cX10_hasRoom 5 = .ok (.istore 4, 2) := by decide +kernel
theorem dX10_hasRoom_7 : decode cX10_hasRoom 7 = .ok (.iload 4, 2) := by decide +kernel
theorem dX10_hasRoom_9 : decode cX10_hasRoom 9 = .ok (.aload_n 1, 1) := by decide +kernel
theorem dX10_hasRoom_10 : decode cX10_hasRoom 10 = .ok (.getfield 55, 3) := by decide +kernel
theorem dX10_hasRoom_13 : decode cX10_hasRoom 13 = .ok (.if_icmp .ge 97, 3) := by decide +kernel
theorem dX10_hasRoom_16 : decode cX10_hasRoom 16 = .ok (.aload_n 0, 1) := by decide +kernel
theorem dX10_hasRoom_17 : decode cX10_hasRoom 17 = .ok (.aload_n 1, 1) := by decide +kernel
theorem dX10_hasRoom_18 : decode cX10_hasRoom 18 = .ok (.iload 4, 2) := by decide +kernel
theorem dX10_hasRoom_20 : decode cX10_hasRoom 20 = .ok (.invokevirtual 58, 3) := by decide +kernel
theorem dX10_hasRoom_23 : decode cX10_hasRoom 23 = .ok (.istore 5, 2) := by decide +kernel
theorem dX10_hasRoom_25 : decode cX10_hasRoom 25 = .ok (.aload_n 0, 1) := by decide +kernel
theorem dX10_hasRoom_26 : decode cX10_hasRoom 26 = .ok (.iload 5, 2) := by decide +kernel
theorem dX10_hasRoom_28 : decode cX10_hasRoom 28 = .ok (.aload_n 0, 1) := by decide +kernel
theorem dX10_hasRoom_29 : decode cX10_hasRoom 29 = .ok (.getfield 24, 3) := by decide +kernel
theorem dX10_hasRoom_32 : decode cX10_hasRoom 32 = .ok (.aload_n 1, 1) := by decide +kernel
theorem dX10_hasRoom_33 : decode cX10_hasRoom 33 = .ok (.getfield 36, 3) := by decide +kernel
theorem dX10_hasRoom_36 : decode cX10_hasRoom 36 = .ok (.iload 4, 2) := by decide +kernel
theorem dX10_hasRoom_38 : decode cX10_hasRoom 38 = .ok (.iaload, 1) := by decide +kernel
theorem dX10_hasRoom_39 : decode cX10_hasRoom 39 = .ok (.invokevirtual 42, 3) := by decide +kernel
theorem dX10_hasRoom_42 : decode cX10_hasRoom 42 = .ok (.invokevirtual 62, 3) := by decide +kernel
theorem dX10_hasRoom_45 : decode cX10_hasRoom 45 = .ok (.iload_n 2, 1) := by decide +kernel
theorem dX10_hasRoom_46 : decode cX10_hasRoom 46 = .ok (.iload 5, 2) := by decide +kernel
theorem dX10_hasRoom_48 : decode cX10_hasRoom 48 = .ok (.iconst 2, 1) := by decide +kernel
theorem dX10_hasRoom_49 : decode cX10_hasRoom 49 = .ok (.if_icmp .ne 7, 3) := by decide +kernel
theorem dX10_hasRoom_52 : decode cX10_hasRoom 52 = .ok (.iconst 2, 1) := by decide +kernel
theorem dX10_hasRoom_53 : decode cX10_hasRoom 53 = .ok (.goto 14, 3) := by decide +kernel
theorem dX10_hasRoom_56 : decode cX10_hasRoom 56 = .ok (.iload 5, 2) := by decide +kernel
theorem dX10_hasRoom_58 : decode cX10_hasRoom 58 = .ok (.iconst 1, 1) := by decide +kernel
theorem dX10_hasRoom_59 : decode cX10_hasRoom 59 = .ok (.if_icmp .ne 7, 3) := by decide +kernel
theorem dX10_hasRoom_62 : decode cX10_hasRoom 62 = .ok (.iconst 1, 1) := by decide +kernel
theorem dX10_hasRoom_63 : decode cX10_hasRoom 63 = .ok (.goto 4, 3) := by decide +kernel
theorem dX10_hasRoom_66 : decode cX10_hasRoom 66 = .ok (.iconst 0, 1) := by decide +kernel
theorem dX10_hasRoom_67 : decode cX10_hasRoom 67 = .ok (.iadd, 1) := by decide +kernel
theorem dX10_hasRoom_68 : decode cX10_hasRoom 68 = .ok (.istore_n 2, 1) := by decide +kernel
theorem dX10_hasRoom_69 : decode cX10_hasRoom 69 = .ok (.iload_n 3, 1) := by decide +kernel
theorem dX10_hasRoom_70 : decode cX10_hasRoom 70 = .ok (.iload 5, 2) := by decide +kernel
theorem dX10_hasRoom_72 : decode cX10_hasRoom 72 = .ok (.iconst 2, 1) := by decide +kernel
theorem dX10_hasRoom_73 : decode cX10_hasRoom 73 = .ok (.if_icmp .ne 7, 3) := by decide +kernel
theorem dX10_hasRoom_76 : decode cX10_hasRoom 76 = .ok (.iconst 1, 1) := by decide +kernel
theorem dX10_hasRoom_77 : decode cX10_hasRoom 77 = .ok (.goto 4, 3) := by decide +kernel
theorem dX10_hasRoom_80 : decode cX10_hasRoom 80 = .ok (.iconst 0, 1) := by decide +kernel
theorem dX10_hasRoom_81 : decode cX10_hasRoom 81 = .ok (.iadd, 1) := by decide +kernel
theorem dX10_hasRoom_82 : decode cX10_hasRoom 82 = .ok (.istore_n 3, 1) := by decide +kernel
theorem dX10_hasRoom_83 : decode cX10_hasRoom 83 = .ok (.aload_n 0, 1) := by decide +kernel
theorem dX10_hasRoom_84 : decode cX10_hasRoom 84 = .ok (.getfield 52, 3) := by decide +kernel
theorem dX10_hasRoom_87 : decode cX10_hasRoom 87 = .ok (.bipush 9, 2) := by decide +kernel
theorem dX10_hasRoom_89 : decode cX10_hasRoom 89 = .ok (.if_icmp .ge 13, 3) := by decide +kernel
theorem dX10_hasRoom_92 : decode cX10_hasRoom 92 = .ok (.aload_n 0, 1) := by decide +kernel
theorem dX10_hasRoom_93 : decode cX10_hasRoom 93 = .ok (.getfield 32, 3) := by decide +kernel
theorem dX10_hasRoom_96 : decode cX10_hasRoom 96 = .ok (.sipush 512, 3) := by decide +kernel
theorem dX10_hasRoom_99 : decode cX10_hasRoom 99 = .ok (.if_icmp .le 5, 3) := by decide +kernel
theorem dX10_hasRoom_102 : decode cX10_hasRoom 102 = .ok (.iconst 0, 1) := by decide +kernel
theorem dX10_hasRoom_103 : decode cX10_hasRoom 103 = .ok (.ireturn, 1) := by decide +kernel
theorem dX10_hasRoom_104 : decode cX10_hasRoom 104 = .ok (.iinc 4 1, 3) := by decide +kernel
theorem dX10_hasRoom_107 : decode cX10_hasRoom 107 = .ok (.goto (-100), 3) := by decide +kernel
theorem dX10_hasRoom_110 : decode cX10_hasRoom 110 = .ok (.iload_n 2, 1) := by decide +kernel
theorem dX10_hasRoom_111 : decode cX10_hasRoom 111 = .ok (.aload_n 0, 1) := by decide +kernel
theorem dX10_hasRoom_112 : decode cX10_hasRoom 112 = .ok (.getfield 28, 3) := by decide +kernel
theorem dX10_hasRoom_115 : decode cX10_hasRoom 115 = .ok (.getfield 66, 3) := by decide +kernel
theorem dX10_hasRoom_118 : decode cX10_hasRoom 118 = .ok (.if_icmp .gt 18, 3) := by decide +kernel
theorem dX10_hasRoom_121 : decode cX10_hasRoom 121 = .ok (.iload_n 3, 1) := by decide +kernel
theorem dX10_hasRoom_122 : decode cX10_hasRoom 122 = .ok (.aload_n 0, 1) := by decide +kernel
theorem dX10_hasRoom_123 : decode cX10_hasRoom 123 = .ok (.getfield 28, 3) := by decide +kernel
theorem dX10_hasRoom_126 : decode cX10_hasRoom 126 = .ok (.getfield 71, 3) := by decide +kernel
theorem dX10_hasRoom_129 : decode cX10_hasRoom 129 = .ok (.if_icmp .gt 7, 3) := by decide +kernel
theorem dX10_hasRoom_132 : decode cX10_hasRoom 132 = .ok (.iconst 1, 1) := by decide +kernel
theorem dX10_hasRoom_133 : decode cX10_hasRoom 133 = .ok (.goto 4, 3) := by decide +kernel
theorem dX10_hasRoom_136 : decode cX10_hasRoom 136 = .ok (.iconst 0, 1) := by decide +kernel
theorem dX10_hasRoom_137 : decode cX10_hasRoom 137 = .ok (.ireturn, 1) := by decide +kernel
theorem dX10_store_0 : decode cX10_store 0 = .ok (.aload_n 0, 1) := by decide +kernel
theorem dX10_store_1 : decode cX10_store 1 = .ok (.iconst 0, 1) := by decide +kernel
theorem dX10_store_2 : decode cX10_store 2 = .ok (.putfield 74, 3) := by decide +kernel
theorem dX10_store_5 : decode cX10_store 5 = .ok (.iconst 0, 1) := by decide +kernel
theorem dX10_store_6 : decode cX10_store 6 = .ok (.istore_n 2, 1) := by decide +kernel
theorem dX10_store_7 : decode cX10_store 7 = .ok (.iload_n 2, 1) := by decide +kernel
theorem dX10_store_8 : decode cX10_store 8 = .ok (.aload_n 1, 1) := by decide +kernel
theorem dX10_store_9 : decode cX10_store 9 = .ok (.getfield 55, 3) := by decide +kernel
theorem dX10_store_12 : decode cX10_store 12 = .ok (.if_icmp .ge 86, 3) := by decide +kernel
theorem dX10_store_15 : decode cX10_store 15 = .ok (.aload_n 0, 1) := by decide +kernel
theorem dX10_store_16 : decode cX10_store 16 = .ok (.aload_n 1, 1) := by decide +kernel
theorem dX10_store_17 : decode cX10_store 17 = .ok (.iload_n 2, 1) := by decide +kernel
theorem dX10_store_18 : decode cX10_store 18 = .ok (.invokevirtual 58, 3) := by decide +kernel
theorem dX10_store_21 : decode cX10_store 21 = .ok (.istore_n 3, 1) := by decide +kernel
theorem dX10_store_22 : decode cX10_store 22 = .ok (.iload_n 3, 1) := by decide +kernel
theorem dX10_store_23 : decode cX10_store 23 = .ok (.ifCond .eq 15, 3) := by decide +kernel
theorem dX10_store_26 : decode cX10_store 26 = .ok (.iload_n 2, 1) := by decide +kernel
theorem dX10_store_27 : decode cX10_store 27 = .ok (.ifCond .le 11, 3) := by decide +kernel
theorem dX10_store_30 : decode cX10_store 30 = .ok (.aload_n 0, 1) := by decide +kernel
theorem dX10_store_31 : decode cX10_store 31 = .ok (.aload_n 0, 1) := by decide +kernel
theorem dX10_store_32 : decode cX10_store 32 = .ok (.getfield 9, 3) := by decide +kernel
theorem dX10_store_35 : decode cX10_store 35 = .ok (.invokevirtual 75, 3) := by decide +kernel
theorem dX10_store_38 : decode cX10_store 38 = .ok (.iload_n 3, 1) := by decide +kernel
theorem dX10_store_39 : decode cX10_store 39 = .ok (.iconst 2, 1) := by decide +kernel
theorem dX10_store_40 : decode cX10_store 40 = .ok (.if_icmp .ne 19, 3) := by decide +kernel
theorem dX10_store_43 : decode cX10_store 43 = .ok (.iload_n 2, 1) := by decide +kernel
theorem dX10_store_44 : decode cX10_store 44 = .ok (.ifCond .le 15, 3) := by decide +kernel
theorem dX10_store_47 : decode cX10_store 47 = .ok (.aload_n 0, 1) := by decide +kernel
theorem dX10_store_48 : decode cX10_store 48 = .ok (.aload_n 0, 1) := by decide +kernel
theorem dX10_store_49 : decode cX10_store 49 = .ok (.getfield 15, 3) := by decide +kernel
theorem dX10_store_52 : decode cX10_store 52 = .ok (.invokevirtual 75, 3) := by decide +kernel
theorem dX10_store_55 : decode cX10_store 55 = .ok (.aload_n 0, 1) := by decide +kernel
theorem dX10_store_56 : decode cX10_store 56 = .ok (.invokevirtual 79, 3) := by decide +kernel
theorem dX10_store_59 : decode cX10_store 59 = .ok (.aload_n 0, 1) := by decide +kernel
theorem dX10_store_60 : decode cX10_store 60 = .ok (.iload_n 3, 1) := by decide +kernel
theorem dX10_store_61 : decode cX10_store 61 = .ok (.invokevirtual 82, 3) := by decide +kernel
theorem dX10_store_64 : decode cX10_store 64 = .ok (.aload_n 0, 1) := by decide +kernel
theorem dX10_store_65 : decode cX10_store 65 = .ok (.iload_n 3, 1) := by decide +kernel
theorem dX10_store_66 : decode cX10_store 66 = .ok (.aload_n 0, 1) := by decide +kernel
theorem dX10_store_67 : decode cX10_store 67 = .ok (.getfield 24, 3) := by decide +kernel
theorem dX10_store_70 : decode cX10_store 70 = .ok (.aload_n 1, 1) := by decide +kernel
theorem dX10_store_71 : decode cX10_store 71 = .ok (.getfield 36, 3) := by decide +kernel
theorem dX10_store_74 : decode cX10_store 74 = .ok (.iload_n 2, 1) := by decide +kernel
theorem dX10_store_75 : decode cX10_store 75 = .ok (.iaload, 1) := by decide +kernel
theorem dX10_store_76 : decode cX10_store 76 = .ok (.invokevirtual 42, 3) := by decide +kernel
theorem dX10_store_79 : decode cX10_store 79 = .ok (.invokevirtual 62, 3) := by decide +kernel
theorem dX10_store_82 : decode cX10_store 82 = .ok (.aload_n 0, 1) := by decide +kernel
theorem dX10_store_83 : decode cX10_store 83 = .ok (.aload_n 1, 1) := by decide +kernel
theorem dX10_store_84 : decode cX10_store 84 = .ok (.getfield 36, 3) := by decide +kernel
theorem dX10_store_87 : decode cX10_store 87 = .ok (.iload_n 2, 1) := by decide +kernel
theorem dX10_store_88 : decode cX10_store 88 = .ok (.iaload, 1) := by decide +kernel
theorem dX10_store_89 : decode cX10_store 89 = .ok (.invokevirtual 86, 3) := by decide +kernel
theorem dX10_store_92 : decode cX10_store 92 = .ok (.iinc 2 1, 3) := by decide +kernel
theorem dX10_store_95 : decode cX10_store 95 = .ok (.goto (-88), 3) := by decide +kernel
theorem dX10_store_98 : decode cX10_store 98 = .ok (.aload_n 1, 1) := by decide +kernel
theorem dX10_store_99 : decode cX10_store 99 = .ok (.getfield 55, 3) := by decide +kernel
theorem dX10_store_102 : decode cX10_store 102 = .ok (.ifCond .le 23, 3) := by decide +kernel
theorem dX10_store_105 : decode cX10_store 105 = .ok (.aload_n 0, 1) := by decide +kernel
theorem dX10_store_106 : decode cX10_store 106 = .ok (.aload_n 0, 1) := by decide +kernel
theorem dX10_store_107 : decode cX10_store 107 = .ok (.getfield 9, 3) := by decide +kernel
theorem dX10_store_110 : decode cX10_store 110 = .ok (.invokevirtual 75, 3) := by decide +kernel
theorem dX10_store_113 : decode cX10_store 113 = .ok (.aload_n 0, 1) := by decide +kernel
theorem dX10_store_114 : decode cX10_store 114 = .ok (.aload_n 0, 1) := by decide +kernel
theorem dX10_store_115 : decode cX10_store 115 = .ok (.getfield 15, 3) := by decide +kernel
theorem dX10_store_118 : decode cX10_store 118 = .ok (.invokevirtual 75, 3) := by decide +kernel
theorem dX10_store_121 : decode cX10_store 121 = .ok (.aload_n 0, 1) := by decide +kernel
theorem dX10_store_122 : decode cX10_store 122 = .ok (.invokevirtual 79, 3) := by decide +kernel
theorem dX10_store_125 : decode cX10_store 125 = .ok (.return_, 1) := by decide +kernel
theorem dX10_open_0 : decode cX10_open 0 = .ok (.iload_n 1, 1) := by decide +kernel
theorem dX10_open_1 : decode cX10_open 1 = .ok (.iconst 2, 1) := by decide +kernel
theorem dX10_open_2 : decode cX10_open 2 = .ok (.if_icmp .ne 53, 3) := by decide +kernel
theorem dX10_open_5 : decode cX10_open 5 = .ok (.aload_n 0, 1) := by decide +kernel
theorem dX10_open_6 : decode cX10_open 6 = .ok (.getfield 15, 3) := by decide +kernel
theorem dX10_open_9 : decode cX10_open 9 = .ok (.iconst 0, 1) := by decide +kernel
theorem dX10_open_10 : decode cX10_open 10 = .ok (.invokestatic 89, 3) := by decide +kernel
theorem dX10_open_13 : decode cX10_open 13 = .ok (.aload_n 0, 1) := by decide +kernel
theorem dX10_open_14 : decode cX10_open 14 = .ok (.getfield 28, 3) := by decide +kernel
theorem dX10_open_17 : decode cX10_open 17 = .ok (.invokevirtual 94, 3) := by decide +kernel
theorem dX10_open_20 : decode cX10_open 20 = .ok (.astore_n 2, 1) := by decide +kernel
theorem dX10_open_21 : decode cX10_open 21 = .ok (.aload_n 2, 1) := by decide +kernel
theorem dX10_open_22 : decode cX10_open 22 = .ok (.ifnull 33, 3) := by decide +kernel
theorem dX10_open_25 : decode cX10_open 25 = .ok (.aload_n 0, 1) := by decide +kernel
theorem dX10_open_26 : decode cX10_open 26 = .ok (.getfield 74, 3) := by decide +kernel
theorem dX10_open_29 : decode cX10_open 29 = .ok (.sipush 256, 3) := by decide +kernel
theorem dX10_open_32 : decode cX10_open 32 = .ok (.if_icmp .ge 23, 3) := by decide +kernel
theorem dX10_open_35 : decode cX10_open 35 = .ok (.aload_n 0, 1) := by decide +kernel
theorem dX10_open_36 : decode cX10_open 36 = .ok (.getfield 20, 3) := by decide +kernel
theorem dX10_open_39 : decode cX10_open 39 = .ok (.aload_n 0, 1) := by decide +kernel
theorem dX10_open_40 : decode cX10_open 40 = .ok (.getfield 74, 3) := by decide +kernel
theorem dX10_open_43 : decode cX10_open 43 = .ok (.aload_n 2, 1) := by decide +kernel
theorem dX10_open_44 : decode cX10_open 44 = .ok (.aastore, 1) := by decide +kernel
theorem dX10_open_45 : decode cX10_open 45 = .ok (.aload_n 0, 1) := by decide +kernel
theorem dX10_open_46 : decode cX10_open 46 = .ok (.dup, 1) := by decide +kernel
theorem dX10_open_47 : decode cX10_open 47 = .ok (.getfield 74, 3) := by decide +kernel
theorem dX10_open_50 : decode cX10_open 50 = .ok (.iconst 1, 1) := by decide +kernel
theorem dX10_open_51 : decode cX10_open 51 = .ok (.iadd, 1) := by decide +kernel
theorem dX10_open_52 : decode cX10_open 52 = .ok (.putfield 74, 3) := by decide +kernel
theorem dX10_open_55 : decode cX10_open 55 = .ok (.iload_n 1, 1) := by decide +kernel
theorem dX10_open_56 : decode cX10_open 56 = .ok (.ifCond .eq 11, 3) := by decide +kernel
theorem dX10_open_59 : decode cX10_open 59 = .ok (.aload_n 0, 1) := by decide +kernel
theorem dX10_open_60 : decode cX10_open 60 = .ok (.getfield 9, 3) := by decide +kernel
theorem dX10_open_63 : decode cX10_open 63 = .ok (.iconst 0, 1) := by decide +kernel
theorem dX10_open_64 : decode cX10_open 64 = .ok (.invokestatic 89, 3) := by decide +kernel
theorem dX10_open_67 : decode cX10_open 67 = .ok (.return_, 1) := by decide +kernel
theorem dX10_copyEntry_0 : decode cX10_copyEntry 0 = .ok (.aload_n 0, 1) := by decide +kernel
theorem dX10_copyEntry_1 : decode cX10_copyEntry 1 = .ok (.getfield 24, 3) := by decide +kernel
theorem dX10_copyEntry_4 : decode cX10_copyEntry 4 = .ok (.iload_n 1, 1) := by decide +kernel
theorem dX10_copyEntry_5 : decode cX10_copyEntry 5 = .ok (.invokevirtual 42, 3) := by decide +kernel
theorem dX10_copyEntry_8 : decode cX10_copyEntry 8 = .ok (.istore_n 2, 1) := by decide +kernel
theorem dX10_copyEntry_9 : decode cX10_copyEntry 9 = .ok (.aload_n 0, 1) := by decide +kernel
theorem dX10_copyEntry_10 : decode cX10_copyEntry 10 = .ok (.getfield 32, 3) := by decide +kernel
theorem dX10_copyEntry_13 : decode cX10_copyEntry 13 = .ok (.iload_n 2, 1) := by decide +kernel
theorem dX10_copyEntry_14 : decode cX10_copyEntry 14 = .ok (.isub, 1) := by decide +kernel
theorem dX10_copyEntry_15 : decode cX10_copyEntry 15 = .ok (.istore_n 3, 1) := by decide +kernel
theorem dX10_copyEntry_16 : decode cX10_copyEntry 16 = .ok (.iload_n 1, 1) := by decide +kernel
theorem dX10_copyEntry_17 : decode cX10_copyEntry 17 = .ok (.ifCond .lt 24, 3) := by decide +kernel
theorem dX10_copyEntry_20 : decode cX10_copyEntry 20 = .ok (.iload_n 1, 1) := by decide +kernel
theorem dX10_copyEntry_21 : decode cX10_copyEntry 21 = .ok (.ldc 98, 2) := by decide +kernel
theorem dX10_copyEntry_23 : decode cX10_copyEntry 23 = .ok (.iload_n 2, 1) := by decide +kernel
theorem dX10_copyEntry_24 : decode cX10_copyEntry 24 = .ok (.isub, 1) := by decide +kernel
theorem dX10_copyEntry_25 : decode cX10_copyEntry 25 = .ok (.if_icmp .gt 16, 3) := by decide +kernel
theorem dX10_copyEntry_28 : decode cX10_copyEntry 28 = .ok (.iload_n 3, 1) := by decide +kernel
theorem dX10_copyEntry_29 : decode cX10_copyEntry 29 = .ok (.ifCond .lt 12, 3) := by decide +kernel
theorem dX10_copyEntry_32 : decode cX10_copyEntry 32 = .ok (.iload_n 3, 1) := by decide +kernel
theorem dX10_copyEntry_33 : decode cX10_copyEntry 33 = .ok (.sipush 512, 3) := by decide +kernel
theorem dX10_copyEntry_36 : decode cX10_copyEntry 36 = .ok (.iload_n 2, 1) := by decide +kernel
theorem dX10_copyEntry_37 : decode cX10_copyEntry 37 = .ok (.isub, 1) := by decide +kernel
theorem dX10_copyEntry_38 : decode cX10_copyEntry 38 = .ok (.if_icmp .le 4, 3) := by decide +kernel
theorem dX10_copyEntry_41 : decode cX10_copyEntry 41 = .ok (.return_, 1) := by decide +kernel
theorem dX10_copyEntry_42 : decode cX10_copyEntry 42 = .ok (.aload_n 0, 1) := by decide +kernel
theorem dX10_copyEntry_43 : decode cX10_copyEntry 43 = .ok (.getfield 24, 3) := by decide +kernel
theorem dX10_copyEntry_46 : decode cX10_copyEntry 46 = .ok (.getfield 99, 3) := by decide +kernel
theorem dX10_copyEntry_49 : decode cX10_copyEntry 49 = .ok (.iload_n 1, 1) := by decide +kernel
theorem dX10_copyEntry_50 : decode cX10_copyEntry 50 = .ok (.aload_n 0, 1) := by decide +kernel
theorem dX10_copyEntry_51 : decode cX10_copyEntry 51 = .ok (.getfield 9, 3) := by decide +kernel
theorem dX10_copyEntry_54 : decode cX10_copyEntry 54 = .ok (.iload_n 3, 1) := by decide +kernel
theorem dX10_copyEntry_55 : decode cX10_copyEntry 55 = .ok (.iload_n 2, 1) := by decide +kernel
