theorem dX0_init_0 : decode cX0_init 0 = .ok (.aload_n 0, 1) := by decide +kernel
theorem dX0_init_1 : decode cX0_init 1 = .ok (.invokespecial 3, 3) := by decide +kernel
theorem dX0_init_4 : decode cX0_init 4 = .ok (.aload_n 0, 1) := by decide +kernel
theorem dX0_init_5 : decode cX0_init 5 = .ok (.sipush 15363, 3) := by decide +kernel
theorem dX0_init_8 : decode cX0_init 8 = .ok (.newarray .byte, 2) := by decide +kernel
theorem dX0_init_10 : decode cX0_init 10 = .ok (.putfield 9, 3) := by decide +kernel
theorem dX0_init_13 : decode cX0_init 13 = .ok (.aload_n 0, 1) := by decide +kernel
theorem dX0_init_14 : decode cX0_init 14 = .ok (.bipush 64, 2) := by decide +kernel
theorem dX0_init_16 : decode cX0_init 16 = .ok (.newarray .int, 2) := by decide +kernel
theorem dX0_init_18 : decode cX0_init 18 = .ok (.putfield 15, 3) := by decide +kernel
theorem dX0_init_21 : decode cX0_init 21 = .ok (.return_, 1) := by decide +kernel
theorem dX0_start_0 : decode cX0_start 0 = .ok (.aload_n 0, 1) := by decide +kernel
theorem dX0_start_1 : decode cX0_start 1 = .ok (.iconst 0, 1) := by decide +kernel
theorem dX0_start_2 : decode cX0_start 2 = .ok (.putfield 19, 3) := by decide +kernel
theorem dX0_start_5 : decode cX0_start 5 = .ok (.aload_n 0, 1) := by decide +kernel
theorem dX0_start_6 : decode cX0_start 6 = .ok (.iconst 2, 1) := by decide +kernel
theorem dX0_start_7 : decode cX0_start 7 = .ok (.putfield 23, 3) := by decide +kernel
theorem dX0_start_10 : decode cX0_start 10 = .ok (.return_, 1) := by decide +kernel
theorem dX0_add_0 : decode cX0_add 0 = .ok (.iload_n 1, 1) := by decide +kernel
theorem dX0_add_1 : decode cX0_add 1 = .ok (.iconst 1, 1) := by decide +kernel
theorem dX0_add_2 : decode cX0_add 2 = .ok (.if_icmp .ne 10, 3) := by decide +kernel
theorem dX0_add_5 : decode cX0_add 5 = .ok (.aload_n 3, 1) := by decide +kernel
theorem dX0_add_6 : decode cX0_add 6 = .ok (.getfield 26, 3) := by decide +kernel
theorem dX0_add_9 : decode cX0_add 9 = .ok (.goto 4, 3) := by decide +kernel
theorem dX0_add_12 : decode cX0_add 12 = .ok (.iconst 0, 1) := by decide +kernel
theorem dX0_add_13 : decode cX0_add 13 = .ok (.istore 4, 2) := by decide +kernel
theorem dX0_add_15 : decode cX0_add 15 = .ok (.bipush 8, 2) := by decide +kernel
theorem dX0_add_17 : decode cX0_add 17 = .ok (.aload_n 2, 1) := by decide +kernel
theorem dX0_add_18 : decode cX0_add 18 = .ok (.getfield 26, 3) := by decide +kernel
theorem dX0_add_21 : decode cX0_add 21 = .ok (.iadd, 1) := by decide +kernel
theorem dX0_add_22 : decode cX0_add 22 = .ok (.iload 4, 2) := by decide +kernel
theorem dX0_add_24 : decode cX0_add 24 = .ok (.iadd, 1) := by decide +kernel
theorem dX0_add_25 : decode cX0_add 25 = .ok (.istore 5, 2) := by decide +kernel
theorem dX0_add_27 : decode cX0_add 27 = .ok (.aload_n 0, 1) := by decide +kernel
theorem dX0_add_28 : decode cX0_add 28 = .ok (.getfield 19, 3) := by decide +kernel
theorem dX0_add_31 : decode cX0_add 31 = .ok (.bipush 64, 2) := by decide +kernel
theorem dX0_add_33 : decode cX0_add 33 = .ok (.if_icmp .ge 16, 3) := by decide +kernel
theorem dX0_add_36 : decode cX0_add 36 = .ok (.aload_n 0, 1) := by decide +kernel
theorem dX0_add_37 : decode cX0_add 37 = .ok (.getfield 23, 3) := by decide +kernel
theorem dX0_add_40 : decode cX0_add 40 = .ok (.iload 5, 2) := by decide +kernel
theorem dX0_add_42 : decode cX0_add 42 = .ok (.iadd, 1) := by decide +kernel
theorem dX0_add_43 : decode cX0_add 43 = .ok (.sipush 15363, 3) := by decide +kernel
theorem dX0_add_46 : decode cX0_add 46 = .ok (.if_icmp .lt 4, 3) := by decide +kernel
theorem dX0_add_49 : decode cX0_add 49 = .ok (.return_, 1) := by decide +kernel
theorem dX0_add_50 : decode cX0_add 50 = .ok (.aload_n 0, 1) := by decide +kernel
theorem dX0_add_51 : decode cX0_add 51 = .ok (.getfield 15, 3) := by decide +kernel
theorem dX0_add_54 : decode cX0_add 54 = .ok (.aload_n 0, 1) := by decide +kernel
theorem dX0_add_55 : decode cX0_add 55 = .ok (.getfield 19, 3) := by decide +kernel
theorem dX0_add_58 : decode cX0_add 58 = .ok (.aload_n 0, 1) := by decide +kernel
theorem dX0_add_59 : decode cX0_add 59 = .ok (.getfield 23, 3) := by decide +kernel
theorem dX0_add_62 : decode cX0_add 62 = .ok (.iastore, 1) := by decide +kernel
theorem dX0_add_63 : decode cX0_add 63 = .ok (.aload_n 0, 1) := by decide +kernel
theorem dX0_add_64 : decode cX0_add 64 = .ok (.dup, 1) := by decide +kernel
theorem dX0_add_65 : decode cX0_add 65 = .ok (.getfield 19, 3) := by decide +kernel
theorem dX0_add_68 : decode cX0_add 68 = .ok (.iconst 1, 1) := by decide +kernel
theorem dX0_add_69 : decode cX0_add 69 = .ok (.iadd, 1) := by decide +kernel
theorem dX0_add_70 : decode cX0_add 70 = .ok (.putfield 19, 3) := by decide +kernel
theorem dX0_add_73 : decode cX0_add 73 = .ok (.aload_n 0, 1) := by decide +kernel
theorem dX0_add_74 : decode cX0_add 74 = .ok (.getfield 9, 3) := by decide +kernel
theorem dX0_add_77 : decode cX0_add 77 = .ok (.aload_n 0, 1) := by decide +kernel
theorem dX0_add_78 : decode cX0_add 78 = .ok (.getfield 23, 3) := by decide +kernel
theorem dX0_add_81 : decode cX0_add 81 = .ok (.iload_n 1, 1) := by decide +kernel
theorem dX0_add_82 : decode cX0_add 82 = .ok (.i2b, 1) := by decide +kernel
theorem dX0_add_83 : decode cX0_add 83 = .ok (.bastore, 1) := by decide +kernel
theorem dX0_add_84 : decode cX0_add 84 = .ok (.aload_n 0, 1) := by decide +kernel
theorem dX0_add_85 : decode cX0_add 85 = .ok (.getfield 9, 3) := by decide +kernel
theorem dX0_add_88 : decode cX0_add 88 = .ok (.aload_n 0, 1) := by decide +kernel
theorem dX0_add_89 : decode cX0_add 89 = .ok (.getfield 23, 3) := by decide +kernel
theorem dX0_add_92 : decode cX0_add 92 = .ok (.iconst 1, 1) := by decide +kernel
theorem dX0_add_93 : decode cX0_add 93 = .ok (.iadd, 1) := by decide +kernel
theorem dX0_add_94 : decode cX0_add 94 = .ok (.aload_n 2, 1) := by decide +kernel
theorem dX0_add_95 : decode cX0_add 95 = .ok (.getfield 26, 3) := by decide +kernel
theorem dX0_add_98 : decode cX0_add 98 = .ok (.i2b, 1) := by decide +kernel
theorem dX0_add_99 : decode cX0_add 99 = .ok (.bastore, 1) := by decide +kernel
theorem dX0_add_100 : decode cX0_add 100 = .ok (.aload_n 0, 1) := by decide +kernel
theorem dX0_add_101 : decode cX0_add 101 = .ok (.getfield 9, 3) := by decide +kernel
theorem dX0_add_104 : decode cX0_add 104 = .ok (.aload_n 0, 1) := by decide +kernel
theorem dX0_add_105 : decode cX0_add 105 = .ok (.getfield 23, 3) := by decide +kernel
theorem dX0_add_108 : decode cX0_add 108 = .ok (.iconst 2, 1) := by decide +kernel
theorem dX0_add_109 : decode cX0_add 109 = .ok (.iadd, 1) := by decide +kernel
theorem dX0_add_110 : decode cX0_add 110 = .ok (.iload 4, 2) := by decide +kernel
theorem dX0_add_112 : decode cX0_add 112 = .ok (.i2b, 1) := by decide +kernel
theorem dX0_add_113 : decode cX0_add 113 = .ok (.bastore, 1) := by decide +kernel
theorem dX0_add_114 : decode cX0_add 114 = .ok (.aload_n 0, 1) := by decide +kernel
theorem dX0_add_115 : decode cX0_add 115 = .ok (.getfield 9, 3) := by decide +kernel
theorem dX0_add_118 : decode cX0_add 118 = .ok (.aload_n 0, 1) := by decide +kernel
theorem dX0_add_119 : decode cX0_add 119 = .ok (.getfield 23, 3) := by decide +kernel
theorem dX0_add_122 : decode cX0_add 122 = .ok (.iconst 3, 1) := by decide +kernel
theorem dX0_add_123 : decode cX0_add 123 = .ok (.iadd, 1) := by decide +kernel
theorem dX0_add_124 : decode cX0_add 124 = .ok (.iconst 0, 1) := by decide +kernel
theorem dX0_add_125 : decode cX0_add 125 = .ok (.bastore, 1) := by decide +kernel
theorem dX0_add_126 : decode cX0_add 126 = .ok (.aload_n 2, 1) := by decide +kernel
theorem dX0_add_127 : decode cX0_add 127 = .ok (.getfield 29, 3) := by decide +kernel
theorem dX0_add_130 : decode cX0_add 130 = .ok (.iconst 0, 1) := by decide +kernel
theorem dX0_add_131 : decode cX0_add 131 = .ok (.aload_n 0, 1) := by decide +kernel
theorem dX0_add_132 : decode cX0_add 132 = .ok (.getfield 9, 3) := by decide +kernel
theorem dX0_add_135 : decode cX0_add 135 = .ok (.aload_n 0, 1) := by decide +kernel
theorem dX0_add_136 : decode cX0_add 136 = .ok (.getfield 23, 3) := by decide +kernel
theorem dX0_add_139 : decode cX0_add 139 = .ok (.bipush 8, 2) := by decide +kernel
theorem dX0_add_141 : decode cX0_add 141 = .ok (.iadd, 1) := by decide +kernel
theorem dX0_add_142 : decode cX0_add 142 = .ok (.aload_n 2, 1) := by decide +kernel
theorem dX0_add_143 : decode cX0_add 143 = .ok (.getfield 26, 3) := by decide +kernel
theorem dX0_add_146 : decode cX0_add 146 = .ok (.invokestatic 32, 3) := by decide +kernel
theorem dX0_add_149 : decode cX0_add 149 = .ok (.aload_n 3, 1) := by decide +kernel
theorem dX0_add_150 : decode cX0_add 150 = .ok (.getfield 29, 3) := by decide +kernel
theorem dX0_add_153 : decode cX0_add 153 = .ok (.iconst 0, 1) := by decide +kernel
theorem dX0_add_154 : decode cX0_add 154 = .ok (.aload_n 0, 1) := by decide +kernel
theorem dX0_add_155 : decode cX0_add 155 = .ok (.getfield 9, 3) := by decide +kernel
theorem dX0_add_158 : decode cX0_add 158 = .ok (.aload_n 0, 1) := by decide +kernel
theorem dX0_add_159 : decode cX0_add 159 = .ok (.getfield 23, 3) := by decide +kernel
theorem dX0_add_162 : decode cX0_add 162 = .ok (.bipush 8, 2) := by decide +kernel
theorem dX0_add_164 : decode cX0_add 164 = .ok (.iadd, 1) := by decide +kernel
theorem dX0_add_165 : decode cX0_add 165 = .ok (.aload_n 2, 1) := by decide +kernel
theorem dX0_add_166 : decode cX0_add 166 = .ok (.getfield 26, 3) := by decide +kernel
theorem dX0_add_169 : decode cX0_add 169 = .ok (.iadd, 1) := by decide +kernel
theorem dX0_add_170 : decode cX0_add 170 = .ok (.iload 4, 2) := by decide +kernel
theorem dX0_add_172 : decode cX0_add 172 = .ok (.invokestatic 32, 3) := by decide +kernel
theorem dX0_add_175 : decode cX0_add 175 = .ok (.aload_n 0, 1) := by decide +kernel
theorem dX0_add_176 : decode cX0_add 176 = .ok (.dup, 1) := by decide +kernel
theorem dX0_add_177 : decode cX0_add 177 = .ok (.getfield 23, 3) := by decide +kernel
theorem dX0_add_180 : decode cX0_add 180 = .ok (.iload 5, 2) := by decide +kernel
theorem dX0_add_182 : decode cX0_add 182 = .ok (.iadd, 1) := by decide +kernel
theorem dX0_add_183 : decode cX0_add 183 = .ok (.putfield 23, 3) := by decide +kernel
theorem dX0_add_186 : decode cX0_add 186 = .ok (.return_, 1) := by decide +kernel
theorem dX0_seal_0 : decode cX0_seal 0 = .ok (.iconst 0, 1) := by decide +kernel
theorem dX0_seal_1 : decode cX0_seal 1 = .ok (.istore_n 2, 1) := by decide +kernel
theorem dX0_seal_2 : decode cX0_seal 2 = .ok (.iload_n 2, 1) := by decide +kernel
theorem dX0_seal_3 : decode cX0_seal 3 = .ok (.aload_n 0, 1) := by decide +kernel
theorem dX0_seal_4 : decode cX0_seal 4 = .ok (.getfield 19, 3) := by decide +kernel
theorem dX0_seal_7 : decode cX0_seal 7 = .ok (.if_icmp .ge 53, 3) := by decide +kernel
theorem dX0_seal_10 : decode cX0_seal 10 = .ok (.aload_n 0, 1) := by decide +kernel
theorem dX0_seal_11 : decode cX0_seal 11 = .ok (.getfield 15, 3) := by decide +kernel
theorem dX0_seal_14 : decode cX0_seal 14 = .ok (.iload_n 2, 1) := by decide +kernel
theorem dX0_seal_15 : decode cX0_seal 15 = .ok (.iaload, 1) := by decide +kernel
theorem dX0_seal_16 : decode cX0_seal 16 = .ok (.iconst 4, 1) := by decide +kernel
theorem dX0_seal_17 : decode cX0_seal 17 = .ok (.iadd, 1) := by decide +kernel
theorem dX0_seal_18 : decode cX0_seal 18 = .ok (.istore_n 3, 1) := by decide +kernel
theorem dX0_seal_19 : decode cX0_seal 19 = .ok (.iconst 0, 1) := by decide +kernel
theorem dX0_seal_20 : decode cX0_seal 20 = .ok (.istore 4, 2) := by decide +kernel
theorem dX0_seal_22 : decode cX0_seal 22 = .ok (.iload 4, 2) := by decide +kernel
theorem dX0_seal_24 : decode cX0_seal 24 = .ok (.iconst 4, 1) := by decide +kernel
theorem dX0_seal_25 : decode cX0_seal 25 = .ok (.if_icmp .ge 29, 3) := by decide +kernel
theorem dX0_seal_28 : decode cX0_seal 28 = .ok (.aload_n 0, 1) := by decide +kernel
theorem dX0_seal_29 : decode cX0_seal 29 = .ok (.getfield 9, 3) := by decide +kernel
theorem dX0_seal_32 : decode cX0_seal 32 = .ok (.iload_n 3, 1) := by decide +kernel
theorem dX0_seal_33 : decode cX0_seal 33 = .ok (.iload 4, 2) := by decide +kernel
theorem dX0_seal_35 : decode cX0_seal 35 = .ok (.iadd, 1) := by decide +kernel
theorem dX0_seal_36 : decode cX0_seal 36 = .ok (.iload_n 1, 1) := by decide +kernel
theorem dX0_seal_37 : decode cX0_seal 37 = .ok (.bipush 24, 2) := by decide +kernel
theorem dX0_seal_39 : decode cX0_seal 39 = .ok (.bipush 8, 2) := by decide +kernel
theorem dX0_seal_41 : decode cX0_seal 41 = .ok (.iload 4, 2) := by decide +kernel
theorem dX0_seal_43 : decode cX0_seal 43 = .ok (.imul, 1) := by decide +kernel
theorem dX0_seal_44 : decode cX0_seal 44 = .ok (.isub, 1) := by decide +kernel
theorem dX0_seal_45 : decode cX0_seal 45 = .ok (.ishr, 1) := by decide +kernel
theorem dX0_seal_46 : decode cX0_seal 46 = .ok (.i2b, 1) := by decide +kernel
theorem dX0_seal_47 : decode cX0_seal 47 = .ok (.bastore, 1) := by decide +kernel
theorem dX0_seal_48 : decode cX0_seal 48 = .ok (.iinc 4 1, 3) := by decide +kernel
theorem dX0_seal_51 : decode cX0_seal 51 = .ok (.goto (-29), 3) := by decide +kernel
theorem dX0_seal_54 : decode cX0_seal 54 = .ok (.iinc 2 1, 3) := by decide +kernel
theorem dX0_seal_57 : decode cX0_seal 57 = .ok (.goto (-55), 3) := by decide +kernel
theorem dX0_seal_60 : decode cX0_seal 60 = .ok (.aload_n 0, 1) := by decide +kernel
theorem dX0_seal_61 : decode cX0_seal 61 = .ok (.getfield 23, 3) := by decide +kernel
theorem dX0_seal_64 : decode cX0_seal 64 = .ok (.iconst 2, 1) := by decide +kernel
theorem dX0_seal_65 : decode cX0_seal 65 = .ok (.isub, 1) := by decide +kernel
theorem dX0_seal_66 : decode cX0_seal 66 = .ok (.istore_n 2, 1) := by decide +kernel
theorem dX0_seal_67 : decode cX0_seal 67 = .ok (.aload_n 0, 1) := by decide +kernel
theorem dX0_seal_68 : decode cX0_seal 68 = .ok (.getfield 9, 3) := by decide +kernel
theorem dX0_seal_71 : decode cX0_seal 71 = .ok (.iconst 0, 1) := by decide +kernel
theorem dX0_seal_72 : decode cX0_seal 72 = .ok (.iload_n 2, 1) := by decide +kernel
theorem dX0_seal_73 : decode cX0_seal 73 = .ok (.bipush 8, 2) := by decide +kernel
theorem dX0_seal_75 : decode cX0_seal 75 = .ok (.ishr, 1) := by decide +kernel
theorem dX0_seal_76 : decode cX0_seal 76 = .ok (.i2b, 1) := by decide +kernel
theorem dX0_seal_77 : decode cX0_seal 77 = .ok (.bastore, 1) := by decide +kernel
theorem dX0_seal_78 : decode cX0_seal 78 = .ok (.aload_n 0, 1) := by decide +kernel
theorem dX0_seal_79 : decode cX0_seal 79 = .ok (.getfield 9, 3) := by decide +kernel
theorem dX0_seal_82 : decode cX0_seal 82 = .ok (.iconst 1, 1) := by decide +kernel
theorem dX0_seal_83 : decode cX0_seal 83 = .ok (.iload_n 2, 1) := by decide +kernel
theorem dX0_seal_84 : decode cX0_seal 84 = .ok (.i2b, 1) := by decide +kernel
theorem dX0_seal_85 : decode cX0_seal 85 = .ok (.bastore, 1) := by decide +kernel
theorem dX0_seal_86 : decode cX0_seal 86 = .ok (.aload_n 0, 1) := by decide +kernel
theorem dX0_seal_87 : decode cX0_seal 87 = .ok (.getfield 9, 3) := by decide +kernel
theorem dX0_seal_90 : decode cX0_seal 90 = .ok (.aload_n 0, 1) := by decide +kernel
theorem dX0_seal_91 : decode cX0_seal 91 = .ok (.getfield 23, 3) := by decide +kernel
theorem dX0_seal_94 : decode cX0_seal 94 = .ok (.bipush (-91), 2) := by decide +kernel
theorem dX0_seal_96 : decode cX0_seal 96 = .ok (.bastore, 1) := by decide +kernel
theorem dX0_seal_97 : decode cX0_seal 97 = .ok (.aload_n 0, 1) := by decide +kernel
theorem dX0_seal_98 : decode cX0_seal 98 = .ok (.dup, 1) := by decide +kernel
theorem dX0_seal_99 : decode cX0_seal 99 = .ok (.getfield 23, 3) := by decide +kernel
theorem dX0_seal_102 : decode cX0_seal 102 = .ok (.iconst 1, 1) := by decide +kernel
theorem dX0_seal_103 : decode cX0_seal 103 = .ok (.iadd, 1) := by decide +kernel
theorem dX0_seal_104 : decode cX0_seal 104 = .ok (.putfield 23, 3) := by decide +kernel
theorem dX0_seal_107 : decode cX0_seal 107 = .ok (.return_, 1) := by decide +kernel
theorem dX0_kind_0 : decode cX0_kind 0 = .ok (.iload_n 1, 1) := by decide +kernel
theorem dX0_kind_1 : decode cX0_kind 1 = .ok (.ifCond .lt 25, 3) := by decide +kernel
theorem dX0_kind_4 : decode cX0_kind 4 = .ok (.iload_n 1, 1) := by decide +kernel
theorem dX0_kind_5 : decode cX0_kind 5 = .ok (.aload_n 0, 1) := by decide +kernel
theorem dX0_kind_6 : decode cX0_kind 6 = .ok (.getfield 19, 3) := by decide +kernel
theorem dX0_kind_9 : decode cX0_kind 9 = .ok (.if_icmp .ge 17, 3) := by decide +kernel
theorem dX0_kind_12 : decode cX0_kind 12 = .ok (.aload_n 0, 1) := by decide +kernel
theorem dX0_kind_13 : decode cX0_kind 13 = .ok (.getfield 9, 3) := by decide +kernel
theorem dX0_kind_16 : decode cX0_kind 16 = .ok (.aload_n 0, 1) := by decide +kernel
theorem dX0_kind_17 : decode cX0_kind 17 = .ok (.getfield 15, 3) := by decide +kernel
theorem dX0_kind_20 : decode cX0_kind 20 = .ok (.iload_n 1, 1) := by decide +kernel
theorem dX0_kind_21 : decode cX0_kind 21 = .ok (.iaload, 1) := by decide +kernel
theorem dX0_kind_22 : decode cX0_kind 22 = .ok (.baload, 1) := by decide +kernel
theorem dX0_kind_23 : decode cX0_kind 23 = .ok (.goto 4, 3) := by decide +kernel
theorem dX0_kind_26 : decode cX0_kind 26 = .ok (.iconst 0, 1) := by decide +kernel
theorem dX0_kind_27 : decode cX0_kind 27 = .ok (.ireturn, 1) := by decide +kernel
theorem dX0_entryLength_0 : decode cX0_entryLength 0 = .ok (.iload_n 1, 1) := by decide +kernel
theorem dX0_entryLength_1 : decode cX0_entryLength 1 = .ok (.ifCond .lt 11, 3) := by decide +kernel
theorem dX0_entryLength_4 : decode cX0_entryLength 4 = .ok (.iload_n 1, 1) := by decide +kernel
theorem dX0_entryLength_5 : decode cX0_entryLength 5 = .ok (.aload_n 0, 1) := by decide +kernel
theorem dX0_entryLength_6 : decode cX0_entryLength 6 = .ok (.getfield 19, 3) := by decide +kernel
theorem dX0_entryLength_9 : decode cX0_entryLength 9 = .ok (.if_icmp .lt 5, 3) := by decide +kernel
theorem dX0_entryLength_12 : decode cX0_entryLength 12 = .ok (.iconst 0, 1) := by decide +kernel
theorem dX0_entryLength_13 : decode cX0_entryLength 13 = .ok (.ireturn, 1) := by decide +kernel
theorem dX0_entryLength_14 : decode cX0_entryLength 14 = .ok (.bipush 8, 2) := by decide +kernel
theorem dX0_entryLength_16 : decode cX0_entryLength 16 = .ok (.aload_n 0, 1) := by decide +kernel
theorem dX0_entryLength_17 : decode cX0_entryLength 17 = .ok (.getfield 9, 3) := by decide +kernel
theorem dX0_entryLength_20 : decode cX0_entryLength 20 = .ok (.aload_n 0, 1) := by decide +kernel
theorem dX0_entryLength_21 : decode cX0_entryLength 21 = .ok (.getfield 15, 3) := by decide +kernel
theorem dX0_entryLength_24 : decode cX0_entryLength 24 = .ok (.iload_n 1, 1) := by decide +kernel
theorem dX0_entryLength_25 : decode cX0_entryLength 25 = .ok (.iaload, 1) := by decide +kernel
theorem dX0_entryLength_26 : decode cX0_entryLength 26 = .ok (.iconst 1, 1) := by decide +kernel
theorem dX0_entryLength_27 : decode cX0_entryLength 27 = .ok (.iadd, 1) := by decide +kernel
theorem dX0_entryLength_28 : decode cX0_entryLength 28 = .ok (.baload, 1) := by decide +kernel
theorem dX0_entryLength_29 : decode cX0_entryLength 29 = .ok (.sipush 255, 3) := by decide +kernel
theorem dX0_entryLength_32 : decode cX0_entryLength 32 = .ok (.iand, 1) := by decide +kernel
theorem dX0_entryLength_33 : decode cX0_entryLength 33 = .ok (.iadd, 1) := by decide +kernel
theorem dX0_entryLength_34 : decode cX0_entryLength 34 = .ok (.aload_n 0, 1) := by decide +kernel
theorem dX0_entryLength_35 : decode cX0_entryLength 35 = .ok (.getfield 9, 3) := by decide +kernel
theorem dX0_entryLength_38 : decode cX0_entryLength 38 = .ok (.aload_n 0, 1) := by decide +kernel
theorem dX0_entryLength_39 : decode cX0_entryLength 39 = .ok (.getfield 15, 3) := by decide +kernel
theorem dX0_entryLength_42 : decode cX0_entryLength 42 = .ok (.iload_n 1, 1) := by decide +kernel
theorem dX0_entryLength_43 : decode cX0_entryLength 43 = .ok (.iaload, 1) := by decide +kernel
theorem dX0_entryLength_44 : decode cX0_entryLength 44 = .ok (.iconst 2, 1) := by decide +kernel
theorem dX0_entryLength_45 : decode cX0_entryLength 45 = .ok (.iadd, 1) := by decide +kernel
theorem dX0_entryLength_46 : decode cX0_entryLength 46 = .ok (.baload, 1) := by decide +kernel
theorem dX0_entryLength_47 : decode cX0_entryLength 47 = .ok (.sipush 255, 3) := by decide +kernel
theorem dX0_entryLength_50 : decode cX0_entryLength 50 = .ok (.iand, 1) := by decide +kernel
theorem dX0_entryLength_51 : decode cX0_entryLength 51 = .ok (.iadd, 1) := by decide +kernel
theorem dX0_entryLength_52 : decode cX0_entryLength 52 = .ok (.ireturn, 1) := by decide +kernel
theorem dX0_copyKey_0 : decode cX0_copyKey 0 = .ok (.iload_n 1, 1) := by decide +kernel
theorem dX0_copyKey_1 : decode cX0_copyKey 1 = .ok (.ifCond .lt 45, 3) := by decide +kernel
theorem dX0_copyKey_4 : decode cX0_copyKey 4 = .ok (.iload_n 1, 1) := by decide +kernel
theorem dX0_copyKey_5 : decode cX0_copyKey 5 = .ok (.aload_n 0, 1) := by decide +kernel
theorem dX0_copyKey_6 : decode cX0_copyKey 6 = .ok (.getfield 19, 3) := by decide +kernel
theorem dX0_copyKey_9 : decode cX0_copyKey 9 = .ok (.if_icmp .ge 37, 3) := by decide +kernel
theorem dX0_copyKey_12 : decode cX0_copyKey 12 = .ok (.aload_n 2, 1) := by decide +kernel
theorem dX0_copyKey_13 : decode cX0_copyKey 13 = .ok (.aload_n 0, 1) := by decide +kernel
theorem dX0_copyKey_14 : decode cX0_copyKey 14 = .ok (.getfield 9, 3) := by decide +kernel
theorem dX0_copyKey_17 : decode cX0_copyKey 17 = .ok (.aload_n 0, 1) := by decide +kernel
theorem dX0_copyKey_18 : decode cX0_copyKey 18 = .ok (.getfield 15, 3) := by decide +kernel
theorem dX0_copyKey_21 : decode cX0_copyKey 21 = .ok (.iload_n 1, 1) := by decide +kernel
theorem dX0_copyKey_22 : decode cX0_copyKey 22 = .ok (.iaload, 1) := by decide +kernel
theorem dX0_copyKey_23 : decode cX0_copyKey 23 = .ok (.bipush 8, 2) := by decide +kernel
theorem dX0_copyKey_25 : decode cX0_copyKey 25 = .ok (.iadd, 1) := by decide +kernel
theorem dX0_copyKey_26 : decode cX0_copyKey 26 = .ok (.aload_n 0, 1) := by decide +kernel
theorem dX0_copyKey_27 : decode cX0_copyKey 27 = .ok (.getfield 9, 3) := by decide +kernel
theorem dX0_copyKey_30 : decode cX0_copyKey 30 = .ok (.aload_n 0, 1) := by decide +kernel
theorem dX0_copyKey_31 : decode cX0_copyKey 31 = .ok (.getfield 15, 3) := by decide +kernel
theorem dX0_copyKey_34 : decode cX0_copyKey 34 = .ok (.iload_n 1, 1) := by decide +kernel
theorem dX0_copyKey_35 : decode cX0_copyKey 35 = .ok (.iaload, 1) := by decide +kernel
theorem dX0_copyKey_36 : decode cX0_copyKey 36 = .ok (.iconst 1, 1) := by decide +kernel
theorem dX0_copyKey_37 : decode cX0_copyKey 37 = .ok (.iadd, 1) := by decide +kernel
theorem dX0_copyKey_38 : decode cX0_copyKey 38 = .ok (.baload, 1) := by decide +kernel
theorem dX0_copyKey_39 : decode cX0_copyKey 39 = .ok (.sipush 255, 3) := by decide +kernel
theorem dX0_copyKey_42 : decode cX0_copyKey 42 = .ok (.iand, 1) := by decide +kernel
theorem dX0_copyKey_43 : decode cX0_copyKey 43 = .ok (.invokevirtual 38, 3) := by decide +kernel
theorem dX0_copyKey_46 : decode cX0_copyKey 46 = .ok (.return_, 1) := by decide +kernel
theorem dX0_isLastOfItsKey_0 : decode cX0_isLastOfItsKey 0 = .ok (.iload_n 1, 1) := by decide +kernel
theorem dX0_isLastOfItsKey_1 : decode cX0_isLastOfItsKey 1 = .ok (.iconst 1, 1) := by decide +kernel
theorem dX0_isLastOfItsKey_2 : decode cX0_isLastOfItsKey 2 = .ok (.iadd, 1) := by decide +kernel
theorem dX0_isLastOfItsKey_3 : decode cX0_isLastOfItsKey 3 = .ok (.istore_n 2, 1) := by decide +kernel
theorem dX0_isLastOfItsKey_4 : decode cX0_isLastOfItsKey 4 = .ok (.iload_n 2, 1) := by decide +kernel
theorem dX0_isLastOfItsKey_5 : decode cX0_isLastOfItsKey 5 = .ok (.aload_n 0, 1) := by decide +kernel
theorem dX0_isLastOfItsKey_6 : decode cX0_isLastOfItsKey 6 = .ok (.getfield 19, 3) := by decide +kernel
theorem dX0_isLastOfItsKey_9 : decode cX0_isLastOfItsKey 9 = .ok (.if_icmp .ge 20, 3) := by decide +kernel
theorem dX0_isLastOfItsKey_12 : decode cX0_isLastOfItsKey 12 = .ok (.aload_n 0, 1) := by decide +kernel
theorem dX0_isLastOfItsKey_13 : decode cX0_isLastOfItsKey 13 = .ok (.iload_n 1, 1) := by decide +kernel
theorem dX0_isLastOfItsKey_14 : decode cX0_isLastOfItsKey 14 = .ok (.iload_n 2, 1) := by decide +kernel
theorem dX0_isLastOfItsKey_15 : decode cX0_isLastOfItsKey 15 = .ok (.invokevirtual 42, 3) := by decide +kernel
theorem dX0_isLastOfItsKey_18 : decode cX0_isLastOfItsKey 18 = .ok (.ifCond .eq 5, 3) := by decide +kernel
theorem dX0_isLastOfItsKey_21 : decode cX0_isLastOfItsKey 21 = .ok (.iconst 0, 1) := by decide +kernel
theorem dX0_isLastOfItsKey_22 : decode cX0_isLastOfItsKey 22 = .ok (.ireturn, 1) := by decide +kernel
theorem dX0_isLastOfItsKey_23 : decode cX0_isLastOfItsKey 23 = .ok (.iinc 2 1, 3) := by decide +kernel
theorem dX0_isLastOfItsKey_26 : decode cX0_isLastOfItsKey 26 = .ok (.goto (-22), 3) := by decide +kernel
theorem dX0_isLastOfItsKey_29 : decode cX0_isLastOfItsKey 29 = .ok (.iconst 1, 1) := by decide +kernel
theorem dX0_isLastOfItsKey_30 : decode cX0_isLastOfItsKey 30 = .ok (.ireturn, 1) := by decide +kernel
theorem dX0_haveSameKey_0 : decode cX0_haveSameKey 0 = .ok (.aload_n 0, 1) := by decide +kernel
theorem dX0_haveSameKey_1 : decode cX0_haveSameKey 1 = .ok (.getfield 15, 3) := by decide +kernel
theorem dX0_haveSameKey_4 : decode cX0_haveSameKey 4 = .ok (.iload_n 1, 1) := by decide +kernel
theorem dX0_haveSameKey_5 : decode cX0_haveSameKey 5 = .ok (.iaload, 1) := by decide +kernel
theorem dX0_haveSameKey_6 : decode cX0_haveSameKey 6 = .ok (.istore_n 3, 1) := by decide +kernel
theorem dX0_haveSameKey_7 : decode cX0_haveSameKey 7 = .ok (.aload_n 0, 1) := by decide +kernel
theorem dX0_haveSameKey_8 : decode cX0_haveSameKey 8 = .ok (.getfield 15, 3) := by decide +kernel
theorem dX0_haveSameKey_11 : decode cX0_haveSameKey 11 = .ok (.iload_n 2, 1) := by decide +kernel
theorem dX0_haveSameKey_12 : decode cX0_haveSameKey 12 = .ok (.iaload, 1) := by decide +kernel
theorem dX0_haveSameKey_13 : decode cX0_haveSameKey 13 = .ok (.istore 4, 2) := by decide +kernel
theorem dX0_haveSameKey_15 : decode cX0_haveSameKey 15 = .ok (.aload_n 0, 1) := by decide +kernel
theorem dX0_haveSameKey_16 : decode cX0_haveSameKey 16 = .ok (.getfield 9, 3) := by decide +kernel
theorem dX0_haveSameKey_19 : decode cX0_haveSameKey 19 = .ok (.iload_n 3, 1) := by decide +kernel
theorem dX0_haveSameKey_20 : decode cX0_haveSameKey 20 = .ok (.iconst 1, 1) := by decide +kernel
theorem dX0_haveSameKey_21 : decode cX0_haveSameKey 21 = .ok (.iadd, 1) := by decide +kernel
theorem dX0_haveSameKey_22 : decode cX0_haveSameKey 22 = .ok (.baload, 1) := by decide +kernel
theorem dX0_haveSameKey_23 : decode cX0_haveSameKey 23 = .ok (.aload_n 0, 1) := by decide +kernel
theorem dX0_haveSameKey_24 : decode cX0_haveSameKey 24 = .ok (.getfield 9, 3) := by decide +kernel
theorem dX0_haveSameKey_27 : decode cX0_haveSameKey 27 = .ok (.iload 4, 2) := by decide +kernel
theorem dX0_haveSameKey_29 : decode cX0_haveSameKey 29 = .ok (.iconst 1, 1) := by decide +kernel
theorem dX0_haveSameKey_30 : decode cX0_haveSameKey 30 = .ok (.iadd, 1) := by decide +kernel
theorem dX0_haveSameKey_31 : decode cX0_haveSameKey 31 = .ok (.baload, 1) := by decide +kernel
theorem dX0_haveSameKey_32 : decode cX0_haveSameKey 32 = .ok (.if_icmp .eq 5, 3) := by decide +kernel
theorem dX0_haveSameKey_35 : decode cX0_haveSameKey 35 = .ok (.iconst 0, 1) := by decide +kernel
theorem dX0_haveSameKey_36 : decode cX0_haveSameKey 36 = .ok (.ireturn, 1) := by decide +kernel
theorem dX0_haveSameKey_37 : decode cX0_haveSameKey 37 = .ok (.bipush 8, 2) := by decide +kernel
theorem dX0_haveSameKey_39 : decode cX0_haveSameKey 39 = .ok (.istore 5, 2) := by decide +kernel
theorem dX0_haveSameKey_41 : decode cX0_haveSameKey 41 = .ok (.iload 5, 2) := by decide +kernel
theorem dX0_haveSameKey_43 : decode cX0_haveSameKey 43 = .ok (.bipush 8, 2) := by decide +kernel
theorem dX0_haveSameKey_45 : decode cX0_haveSameKey 45 = .ok (.aload_n 0, 1) := by decide +kernel
theorem dX0_haveSameKey_46 : decode cX0_haveSameKey 46 = .ok (.getfield 9, 3) := by decide +kernel
theorem dX0_haveSameKey_49 : decode cX0_haveSameKey 49 = .ok (.iload_n 3, 1) := by decide +kernel
theorem dX0_haveSameKey_50 : decode cX0_haveSameKey 50 = .ok (.iconst 1, 1) := by decide +kernel
theorem dX0_haveSameKey_51 : decode cX0_haveSameKey 51 = .ok (.iadd, 1) := by decide +kernel
theorem dX0_haveSameKey_52 : decode cX0_haveSameKey 52 = .ok (.baload, 1) := by decide +kernel
theorem dX0_haveSameKey_53 : decode cX0_haveSameKey 53 = .ok (.sipush 255, 3) := by decide +kernel
theorem dX0_haveSameKey_56 : decode cX0_haveSameKey 56 = .ok (.iand, 1) := by decide +kernel
theorem dX0_haveSameKey_57 : decode cX0_haveSameKey 57 = .ok (.iadd, 1) := by decide +kernel
theorem dX0_haveSameKey_58 : decode cX0_haveSameKey 58 = .ok (.if_icmp .ge 33, 3) := by decide +kernel
theorem dX0_haveSameKey_61 : decode cX0_haveSameKey 61 = .ok (.aload_n 0, 1) := by decide +kernel
theorem dX0_haveSameKey_62 : decode cX0_haveSameKey 62 = .ok (.getfield 9, 3) := by decide +kernel
theorem dX0_haveSameKey_65 : decode cX0_haveSameKey 65 = .ok (.iload_n 3, 1) := by decide +kernel
theorem dX0_haveSameKey_66 : decode cX0_haveSameKey 66 = .ok (.iload 5, 2) := by decide +kernel
theorem dX0_haveSameKey_68 : decode cX0_haveSameKey 68 = .ok (.iadd, 1) := by decide +kernel
theorem dX0_haveSameKey_69 : decode cX0_haveSameKey 69 = .ok (.baload, 1) := by decide +kernel
theorem dX0_haveSameKey_70 : decode cX0_haveSameKey 70 = .ok (.aload_n 0, 1) := by decide +kernel
theorem dX0_haveSameKey_71 : decode cX0_haveSameKey 71 = .ok (.getfield 9, 3) := by decide +kernel
theorem dX0_haveSameKey_74 : decode cX0_haveSameKey 74 = .ok (.iload 4, 2) := by decide +kernel
theorem dX0_haveSameKey_76 : decode cX0_haveSameKey 76 = .ok (.iload 5, 2) := by decide +kernel
theorem dX0_haveSameKey_78 : decode cX0_haveSameKey 78 = .ok (.iadd, 1) := by decide +kernel
theorem dX0_haveSameKey_79 : decode cX0_haveSameKey 79 = .ok (.baload, 1) := by decide +kernel
theorem dX0_haveSameKey_80 : decode cX0_haveSameKey 80 = .ok (.if_icmp .eq 5, 3) := by decide +kernel
theorem dX0_haveSameKey_83 : decode cX0_haveSameKey 83 = .ok (.iconst 0, 1) := by decide +kernel
theorem dX0_haveSameKey_84 : decode cX0_haveSameKey 84 = .ok (.ireturn, 1) := by decide +kernel
theorem dX0_haveSameKey_85 : decode cX0_haveSameKey 85 = .ok (.iinc 5 1, 3) := by decide +kernel
theorem dX0_haveSameKey_88 : decode cX0_haveSameKey 88 = .ok (.goto (-47), 3) := by decide +kernel
theorem dX0_haveSameKey_91 : decode cX0_haveSameKey 91 = .ok (.iconst 1, 1) := by decide +kernel
theorem dX0_haveSameKey_92 : decode cX0_haveSameKey 92 = .ok (.ireturn, 1) := by decide +kernel
theorem dX1_init_0 : decode cX1_init 0 = .ok (.aload_n 0, 1) := by decide +kernel
theorem dX1_init_1 : decode cX1_init 1 = .ok (.invokespecial 3, 3) := by decide +kernel
theorem dX1_init_4 : decode cX1_init 4 = .ok (.aload_n 0, 1) := by decide +kernel
theorem dX1_init_5 : decode cX1_init 5 = .ok (.ldc 9, 2) := by decide +kernel
theorem dX1_init_7 : decode cX1_init 7 = .ok (.newarray .byte, 2) := by decide +kernel
theorem dX1_init_9 : decode cX1_init 9 = .ok (.putfield 10, 3) := by decide +kernel
theorem dX1_init_12 : decode cX1_init 12 = .ok (.aload_n 0, 1) := by decide +kernel
theorem dX1_init_13 : decode cX1_init 13 = .ok (.sipush 512, 3) := by decide +kernel
theorem dX1_init_16 : decode cX1_init 16 = .ok (.newarray .byte, 2) := by decide +kernel
theorem dX1_init_18 : decode cX1_init 18 = .ok (.putfield 16, 3) := by decide +kernel
theorem dX1_init_21 : decode cX1_init 21 = .ok (.aload_n 0, 1) := by decide +kernel
theorem dX1_init_22 : decode cX1_init 22 = .ok (.iconst 1, 1) := by decide +kernel
theorem dX1_init_23 : decode cX1_init 23 = .ok (.putfield 19, 3) := by decide +kernel
theorem dX1_init_26 : decode cX1_init 26 = .ok (.aload_n 0, 1) := by decide +kernel
theorem dX1_init_27 : decode cX1_init 27 = .ok (.iconst 3, 1) := by decide +kernel
theorem dX1_init_28 : decode cX1_init 28 = .ok (.putfield 23, 3) := by decide +kernel
theorem dX1_init_31 : decode cX1_init 31 = .ok (.return_, 1) := by decide +kernel
theorem dX1_plan_0 : decode cX1_plan 0 = .ok (.aload_n 0, 1) := by decide +kernel
theorem dX1_plan_1 : decode cX1_plan 1 = .ok (.iload_n 1, 1) := by decide +kernel
theorem dX1_plan_2 : decode cX1_plan 2 = .ok (.putfield 23, 3) := by decide +kernel
theorem dX1_plan_5 : decode cX1_plan 5 = .ok (.aload_n 0, 1) := by decide +kernel
theorem dX1_plan_6 : decode cX1_plan 6 = .ok (.iload_n 2, 1) := by decide +kernel
theorem dX1_plan_7 : decode cX1_plan 7 = .ok (.putfield 27, 3) := by decide +kernel
theorem dX1_plan_10 : decode cX1_plan 10 = .ok (.aload_n 0, 1) := by decide +kernel
theorem dX1_plan_11 : decode cX1_plan 11 = .ok (.iload_n 3, 1) := by decide +kernel
theorem dX1_plan_12 : decode cX1_plan 12 = .ok (.putfield 30, 3) := by decide +kernel
theorem dX1_plan_15 : decode cX1_plan 15 = .ok (.return_, 1) := by decide +kernel
theorem dX1_enter_0 : decode cX1_enter 0 = .ok (.aload_n 0, 1) := by decide +kernel
theorem dX1_enter_1 : decode cX1_enter 1 = .ok (.iload_n 1, 1) := by decide +kernel
theorem dX1_enter_2 : decode cX1_enter 2 = .ok (.ifCond .eq 26, 3) := by decide +kernel
theorem dX1_enter_5 : decode cX1_enter 5 = .ok (.aload_n 0, 1) := by decide +kernel
theorem dX1_enter_6 : decode cX1_enter 6 = .ok (.getfield 23, 3) := by decide +kernel
theorem dX1_enter_9 : decode cX1_enter 9 = .ok (.ifCond .eq 11, 3) := by decide +kernel
theorem dX1_enter_12 : decode cX1_enter 12 = .ok (.aload_n 0, 1) := by decide +kernel
theorem dX1_enter_13 : decode cX1_enter 13 = .ok (.getfield 23, 3) := by decide +kernel
theorem dX1_enter_16 : decode cX1_enter 16 = .ok (.iconst 1, 1) := by decide +kernel
theorem dX1_enter_17 : decode cX1_enter 17 = .ok (.if_icmp .ne 7, 3) := by decide +kernel
theorem dX1_enter_20 : decode cX1_enter 20 = .ok (.iconst 1, 1) := by decide +kernel
theorem dX1_enter_21 : decode cX1_enter 21 = .ok (.goto 20, 3) := by decide +kernel
theorem dX1_enter_24 : decode cX1_enter 24 = .ok (.iconst 0, 1) := by decide +kernel
theorem dX1_enter_25 : decode cX1_enter 25 = .ok (.goto 16, 3) := by decide +kernel
theorem dX1_enter_28 : decode cX1_enter 28 = .ok (.aload_n 0, 1) := by decide +kernel
theorem dX1_enter_29 : decode cX1_enter 29 = .ok (.getfield 23, 3) := by decide +kernel
theorem dX1_enter_32 : decode cX1_enter 32 = .ok (.iconst 2, 1) := by decide +kernel
theorem dX1_enter_33 : decode cX1_enter 33 = .ok (.if_icmp .ne 7, 3) := by decide +kernel
theorem dX1_enter_36 : decode cX1_enter 36 = .ok (.iconst 1, 1) := by decide +kernel
theorem dX1_enter_37 : decode cX1_enter 37 = .ok (.goto 4, 3) := by decide +kernel
theorem dX1_enter_40 : decode cX1_enter 40 = .ok (.iconst 0, 1) := by decide +kernel
theorem dX1_enter_41 : decode cX1_enter 41 = .ok (.putfield 33, 3) := by decide +kernel
theorem dX1_enter_44 : decode cX1_enter 44 = .ok (.aload_n 0, 1) := by decide +kernel
theorem dX1_enter_45 : decode cX1_enter 45 = .ok (.iload_n 1, 1) := by decide +kernel
theorem dX1_enter_46 : decode cX1_enter 46 = .ok (.ifCond .ne 14, 3) := by decide +kernel
theorem dX1_enter_49 : decode cX1_enter 49 = .ok (.aload_n 0, 1) := by decide +kernel
theorem dX1_enter_50 : decode cX1_enter 50 = .ok (.getfield 33, 3) := by decide +kernel
theorem dX1_enter_53 : decode cX1_enter 53 = .ok (.ifCond .eq 7, 3) := by decide +kernel
theorem dX1_enter_56 : decode cX1_enter 56 = .ok (.iconst 1, 1) := by decide +kernel
theorem dX1_enter_57 : decode cX1_enter 57 = .ok (.goto 4, 3) := by decide +kernel
theorem dX1_enter_60 : decode cX1_enter 60 = .ok (.iconst 0, 1) := by decide +kernel
theorem dX1_enter_61 : decode cX1_enter 61 = .ok (.putfield 36, 3) := by decide +kernel
theorem dX1_enter_64 : decode cX1_enter 64 = .ok (.return_, 1) := by decide +kernel
theorem dX1_leave_0 : decode cX1_leave 0 = .ok (.aload_n 0, 1) := by decide +kernel
theorem dX1_leave_1 : decode cX1_leave 1 = .ok (.getfield 33, 3) := by decide +kernel
theorem dX1_leave_4 : decode cX1_leave 4 = .ok (.ifCond .eq 17, 3) := by decide +kernel
theorem dX1_leave_7 : decode cX1_leave 7 = .ok (.aload_n 0, 1) := by decide +kernel
theorem dX1_leave_8 : decode cX1_leave 8 = .ok (.invokevirtual 39, 3) := by decide +kernel
theorem dX1_leave_11 : decode cX1_leave 11 = .ok (.new 42, 3) := by decide +kernel
theorem dX1_leave_14 : decode cX1_leave 14 = .ok (.dup, 1) := by decide +kernel
theorem dX1_leave_15 : decode cX1_leave 15 = .ok (.ldc 44, 2) := by decide +kernel
theorem dX1_leave_17 : decode cX1_leave 17 = .ok (.invokespecial 46, 3) := by decide +kernel
theorem dX1_leave_20 : decode cX1_leave 20 = .ok (.athrow, 1) := by decide +kernel
theorem dX1_leave_21 : decode cX1_leave 21 = .ok (.return_, 1) := by decide +kernel
theorem dX1_write_0 : decode cX1_write 0 = .ok (.iconst 0, 1) := by decide +kernel
theorem dX1_write_1 : decode cX1_write 1 = .ok (.istore 6, 2) := by decide +kernel
theorem dX1_write_3 : decode cX1_write 3 = .ok (.iload 4, 2) := by decide +kernel
theorem dX1_write_5 : decode cX1_write 5 = .ok (.istore 7, 2) := by decide +kernel
theorem dX1_write_7 : decode cX1_write 7 = .ok (.aload_n 0, 1) := by decide +kernel
theorem dX1_write_8 : decode cX1_write 8 = .ok (.getfield 33, 3) := by decide +kernel
theorem dX1_write_11 : decode cX1_write 11 = .ok (.ifCond .eq 34, 3) := by decide +kernel
theorem dX1_write_14 : decode cX1_write 14 = .ok (.iload 5, 2) := by decide +kernel
theorem dX1_write_16 : decode cX1_write 16 = .ok (.ifCond .eq 29, 3) := by decide +kernel
theorem dX1_write_19 : decode cX1_write 19 = .ok (.aload_n 0, 1) := by decide +kernel
theorem dX1_write_20 : decode cX1_write 20 = .ok (.getfield 23, 3) := by decide +kernel
theorem dX1_write_23 : decode cX1_write 23 = .ok (.ifCond .ne 22, 3) := by decide +kernel
theorem dX1_write_26 : decode cX1_write 26 = .ok (.aload_n 0, 1) := by decide +kernel
theorem dX1_write_27 : decode cX1_write 27 = .ok (.getfield 30, 3) := by decide +kernel
theorem dX1_write_30 : decode cX1_write 30 = .ok (.iload 4, 2) := by decide +kernel
theorem dX1_write_32 : decode cX1_write 32 = .ok (.iconst 1, 1) := by decide +kernel
theorem dX1_write_33 : decode cX1_write 33 = .ok (.isub, 1) := by decide +kernel
theorem dX1_write_34 : decode cX1_write 34 = .ok (.invokestatic 49, 3) := by decide +kernel
theorem dX1_write_37 : decode cX1_write 37 = .ok (.istore 7, 2) := by decide +kernel
theorem dX1_write_39 : decode cX1_write 39 = .ok (.iconst 1, 1) := by decide +kernel
theorem dX1_write_40 : decode cX1_write 40 = .ok (.istore 6, 2) := by decide +kernel
theorem dX1_write_42 : decode cX1_write 42 = .ok (.goto 51, 3) := by decide +kernel
theorem dX1_write_45 : decode cX1_write 45 = .ok (.aload_n 0, 1) := by decide +kernel
theorem dX1_write_46 : decode cX1_write 46 = .ok (.getfield 36, 3) := by decide +kernel
theorem dX1_write_49 : decode cX1_write 49 = .ok (.ifCond .eq 27, 3) := by decide +kernel
theorem dX1_write_52 : decode cX1_write 52 = .ok (.aload_n 0, 1) := by decide +kernel
theorem dX1_write_53 : decode cX1_write 53 = .ok (.getfield 27, 3) := by decide +kernel
theorem dX1_write_56 : decode cX1_write 56 = .ok (.ifCond .ne 20, 3) := by decide +kernel
theorem dX1_write_59 : decode cX1_write 59 = .ok (.aload_n 0, 1) := by decide +kernel
theorem dX1_write_60 : decode cX1_write 60 = .ok (.getfield 30, 3) := by decide +kernel
theorem dX1_write_63 : decode cX1_write 63 = .ok (.iload 4, 2) := by decide +kernel
theorem dX1_write_65 : decode cX1_write 65 = .ok (.invokestatic 49, 3) := by decide +kernel
theorem dX1_write_68 : decode cX1_write 68 = .ok (.istore 7, 2) := by decide +kernel
theorem dX1_write_70 : decode cX1_write 70 = .ok (.iconst 1, 1) := by decide +kernel
theorem dX1_write_71 : decode cX1_write 71 = .ok (.istore 6, 2) := by decide +kernel
theorem dX1_write_73 : decode cX1_write 73 = .ok (.goto 20, 3) := by decide +kernel
theorem dX1_write_76 : decode cX1_write 76 = .ok (.aload_n 0, 1) := by decide +kernel
theorem dX1_write_77 : decode cX1_write 77 = .ok (.getfield 36, 3) := by decide +kernel
theorem dX1_write_80 : decode cX1_write 80 = .ok (.ifCond .eq 13, 3) := by decide +kernel
theorem dX1_write_83 : decode cX1_write 83 = .ok (.aload_n 0, 1) := by decide +kernel
theorem dX1_write_84 : decode cX1_write 84 = .ok (.dup, 1) := by decide +kernel
theorem dX1_write_85 : decode cX1_write 85 = .ok (.getfield 27, 3) := by decide +kernel
theorem dX1_write_88 : decode cX1_write 88 = .ok (.iconst 1, 1) := by decide +kernel
theorem dX1_write_89 : decode cX1_write 89 = .ok (.isub, 1) := by decide +kernel
theorem dX1_write_90 : decode cX1_write 90 = .ok (.putfield 27, 3) := by decide +kernel
theorem dX1_write_93 : decode cX1_write 93 = .ok (.iload_n 1, 1) := by decide +kernel
theorem dX1_write_94 : decode cX1_write 94 = .ok (.ifCond .lt 42, 3) := by decide +kernel
theorem dX1_write_97 : decode cX1_write 97 = .ok (.iload_n 3, 1) := by decide +kernel
theorem dX1_write_98 : decode cX1_write 98 = .ok (.ifCond .lt 38, 3) := by decide +kernel
theorem dX1_write_101 : decode cX1_write 101 = .ok (.iload 7, 2) := by decide +kernel
theorem dX1_write_103 : decode cX1_write 103 = .ok (.ifCond .le 33, 3) := by decide +kernel
theorem dX1_write_106 : decode cX1_write 106 = .ok (.iload_n 1, 1) := by decide +kernel
theorem dX1_write_107 : decode cX1_write 107 = .ok (.ldc 55, 2) := by decide +kernel
theorem dX1_write_109 : decode cX1_write 109 = .ok (.iload 7, 2) := by decide +kernel
theorem dX1_write_111 : decode cX1_write 111 = .ok (.isub, 1) := by decide +kernel
theorem dX1_write_112 : decode cX1_write 112 = .ok (.if_icmp .gt 24, 3) := by decide +kernel
theorem dX1_write_115 : decode cX1_write 115 = .ok (.iload_n 3, 1) := by decide +kernel
theorem dX1_write_116 : decode cX1_write 116 = .ok (.aload_n 2, 1) := by decide +kernel
theorem dX1_write_117 : decode cX1_write 117 = .ok (.arraylength, 1) := by decide +kernel
theorem dX1_write_118 : decode cX1_write 118 = .ok (.iload 7, 2) := by decide +kernel
theorem dX1_write_120 : decode cX1_write 120 = .ok (.isub, 1) := by decide +kernel
theorem dX1_write_121 : decode cX1_write 121 = .ok (.if_icmp .gt 15, 3) := by decide +kernel
theorem dX1_write_124 : decode cX1_write 124 = .ok (.aload_n 2, 1) := by decide +kernel
theorem dX1_write_125 : decode cX1_write 125 = .ok (.iload_n 3, 1) := by decide +kernel
theorem dX1_write_126 : decode cX1_write 126 = .ok (.aload_n 0, 1) := by decide +kernel
theorem dX1_write_127 : decode cX1_write 127 = .ok (.getfield 10, 3) := by decide +kernel
theorem dX1_write_130 : decode cX1_write 130 = .ok (.iload_n 1, 1) := by decide +kernel
theorem dX1_write_131 : decode cX1_write 131 = .ok (.iload 7, 2) := by decide +kernel
theorem dX1_write_133 : decode cX1_write 133 = .ok (.invokestatic 56, 3) := by decide +kernel
theorem dX1_write_136 : decode cX1_write 136 = .ok (.iload 6, 2) := by decide +kernel
theorem dX1_write_138 : decode cX1_write 138 = .ok (.ifCond .eq 17, 3) := by decide +kernel
theorem dX1_write_141 : decode cX1_write 141 = .ok (.aload_n 0, 1) := by decide +kernel
theorem dX1_write_142 : decode cX1_write 142 = .ok (.invokevirtual 39, 3) := by decide +kernel
theorem dX1_write_145 : decode cX1_write 145 = .ok (.new 42, 3) := by decide +kernel
theorem dX1_write_148 : decode cX1_write 148 = .ok (.dup, 1) := by decide +kernel
theorem dX1_write_149 : decode cX1_write 149 = .ok (.ldc 44, 2) := by decide +kernel
theorem dX1_write_151 : decode cX1_write 151 = .ok (.invokespecial 46, 3) := by decide +kernel
theorem dX1_write_154 : decode cX1_write 154 = .ok (.athrow, 1) := by decide +kernel
theorem dX1_write_155 : decode cX1_write 155 = .ok (.aload_n 0, 1) := by decide +kernel
theorem dX1_write_156 : decode cX1_write 156 = .ok (.aload_n 0, 1) := by decide +kernel
theorem dX1_write_157 : decode cX1_write 157 = .ok (.getfield 36, 3) := by decide +kernel
theorem dX1_write_160 : decode cX1_write 160 = .ok (.ifCond .ne 15, 3) := by decide +kernel
theorem dX1_write_163 : decode cX1_write 163 = .ok (.aload_n 0, 1) := by decide +kernel
theorem dX1_write_164 : decode cX1_write 164 = .ok (.getfield 33, 3) := by decide +kernel
theorem dX1_write_167 : decode cX1_write 167 = .ok (.ifCond .eq 12, 3) := by decide +kernel
theorem dX1_write_170 : decode cX1_write 170 = .ok (.iload 5, 2) := by decide +kernel
theorem dX1_write_172 : decode cX1_write 172 = .ok (.ifCond .eq 7, 3) := by decide +kernel
theorem dX1_write_175 : decode cX1_write 175 = .ok (.iconst 1, 1) := by decide +kernel
theorem dX1_write_176 : decode cX1_write 176 = .ok (.goto 4, 3) := by decide +kernel
theorem dX1_write_179 : decode cX1_write 179 = .ok (.iconst 0, 1) := by decide +kernel
theorem dX1_write_180 : decode cX1_write 180 = .ok (.putfield 36, 3) := by decide +kernel
theorem dX1_write_183 : decode cX1_write 183 = .ok (.return_, 1) := by decide +kernel
theorem dX1_erase_0 : decode cX1_erase 0 = .ok (.aload_n 0, 1) := by decide +kernel
theorem dX1_erase_1 : decode cX1_erase 1 = .ok (.iload_n 1, 1) := by decide +kernel
theorem dX1_erase_2 : decode cX1_erase 2 = .ok (.aload_n 0, 1) := by decide +kernel
theorem dX1_erase_3 : decode cX1_erase 3 = .ok (.getfield 16, 3) := by decide +kernel
theorem dX1_erase_6 : decode cX1_erase 6 = .ok (.iconst 0, 1) := by decide +kernel
theorem dX1_erase_7 : decode cX1_erase 7 = .ok (.sipush 512, 3) := by decide +kernel
theorem dX1_erase_10 : decode cX1_erase 10 = .ok (.iconst 0, 1) := by decide +kernel
theorem dX1_erase_11 : decode cX1_erase 11 = .ok (.invokevirtual 62, 3) := by decide +kernel
theorem dX1_erase_14 : decode cX1_erase 14 = .ok (.return_, 1) := by decide +kernel
theorem dX1_goOff_0 : decode cX1_goOff 0 = .ok (.aload_n 0, 1) := by decide +kernel
theorem dX1_goOff_1 : decode cX1_goOff 1 = .ok (.iconst 0, 1) := by decide +kernel
theorem dX1_goOff_2 : decode cX1_goOff 2 = .ok (.putfield 19, 3) := by decide +kernel
theorem dX1_goOff_5 : decode cX1_goOff 5 = .ok (.aload_n 0, 1) := by decide +kernel
theorem dX1_goOff_6 : decode cX1_goOff 6 = .ok (.iconst 3, 1) := by decide +kernel
theorem dX1_goOff_7 : decode cX1_goOff 7 = .ok (.putfield 23, 3) := by decide +kernel
theorem dX1_goOff_10 : decode cX1_goOff 10 = .ok (.return_, 1) := by decide +kernel
theorem dX1_number_0 : decode cX1_number 0 = .ok (.iconst 0, 1) := by decide +kernel
theorem dX1_number_1 : decode cX1_number 1 = .ok (.istore_n 3, 1) := by decide +kernel
theorem dX1_number_2 : decode cX1_number 2 = .ok (.iload_n 1, 1) := by decide +kernel
theorem dX1_number_3 : decode cX1_number 3 = .ok (.ifCond .lt 53, 3) := by decide +kernel
theorem dX1_number_6 : decode cX1_number 6 = .ok (.iload_n 1, 1) := by decide +kernel
theorem dX1_number_7 : decode cX1_number 7 = .ok (.ldc 55, 2) := by decide +kernel
theorem dX1_number_9 : decode cX1_number 9 = .ok (.if_icmp .ge 47, 3) := by decide +kernel
theorem dX1_number_12 : decode cX1_number 12 = .ok (.iload_n 2, 1) := by decide +kernel
theorem dX1_number_13 : decode cX1_number 13 = .ok (.ifCond .lt 43, 3) := by decide +kernel
theorem dX1_number_16 : decode cX1_number 16 = .ok (.iload_n 2, 1) := by decide +kernel
theorem dX1_number_17 : decode cX1_number 17 = .ok (.bipush 8, 2) := by decide +kernel
theorem dX1_number_19 : decode cX1_number 19 = .ok (.if_icmp .gt 37, 3) := by decide +kernel
theorem dX1_number_22 : decode cX1_number 22 = .ok (.iload_n 1, 1) := by decide +kernel
theorem dX1_number_23 : decode cX1_number 23 = .ok (.istore 4, 2) := by decide +kernel
theorem dX1_number_25 : decode cX1_number 25 = .ok (.iload 4, 2) := by decide +kernel
theorem dX1_number_27 : decode cX1_number 27 = .ok (.iload_n 1, 1) := by decide +kernel
theorem dX1_number_28 : decode cX1_number 28 = .ok (.iload_n 2, 1) := by decide +kernel
theorem dX1_number_29 : decode cX1_number 29 = .ok (.iadd, 1) := by decide +kernel
theorem dX1_number_30 : decode cX1_number 30 = .ok (.if_icmp .ge 26, 3) := by decide +kernel
theorem dX1_number_33 : decode cX1_number 33 = .ok (.iload_n 3, 1) := by decide +kernel
theorem dX1_number_34 : decode cX1_number 34 = .ok (.bipush 8, 2) := by decide +kernel
theorem dX1_number_36 : decode cX1_number 36 = .ok (.ishl, 1) := by decide +kernel
theorem dX1_number_37 : decode cX1_number 37 = .ok (.aload_n 0, 1) := by decide +kernel
theorem dX1_number_38 : decode cX1_number 38 = .ok (.getfield 10, 3) := by decide +kernel
theorem dX1_number_41 : decode cX1_number 41 = .ok (.iload 4, 2) := by decide +kernel
theorem dX1_number_43 : decode cX1_number 43 = .ok (.baload, 1) := by decide +kernel
theorem dX1_number_44 : decode cX1_number 44 = .ok (.sipush 255, 3) := by decide +kernel
theorem dX1_number_47 : decode cX1_number 47 = .ok (.iand, 1) := by decide +kernel
theorem dX1_number_48 : decode cX1_number 48 = .ok (.ior, 1) := by decide +kernel
theorem dX1_number_49 : decode cX1_number 49 = .ok (.istore_n 3, 1) := by decide +kernel
theorem dX1_number_50 : decode cX1_number 50 = .ok (.iinc 4 1, 3) := by decide +kernel
theorem dX1_number_53 : decode cX1_number 53 = .ok (.goto (-28), 3) := by decide +kernel
theorem dX1_number_56 : decode cX1_number 56 = .ok (.iload_n 3, 1) := by decide +kernel
theorem dX1_number_57 : decode cX1_number 57 = .ok (.ireturn, 1) := by decide +kernel
theorem dX1_kind_0 : decode cX1_kind 0 = .ok (.iload_n 1, 1) := by decide +kernel
theorem dX1_kind_1 : decode cX1_kind 1 = .ok (.ifCond .lt 22, 3) := by decide +kernel
theorem dX1_kind_4 : decode cX1_kind 4 = .ok (.iload_n 1, 1) := by decide +kernel
theorem dX1_kind_5 : decode cX1_kind 5 = .ok (.ldc 55, 2) := by decide +kernel
theorem dX1_kind_7 : decode cX1_kind 7 = .ok (.if_icmp .ge 16, 3) := by decide +kernel
theorem dX1_kind_10 : decode cX1_kind 10 = .ok (.aload_n 0, 1) := by decide +kernel
theorem dX1_kind_11 : decode cX1_kind 11 = .ok (.getfield 10, 3) := by decide +kernel
theorem dX1_kind_14 : decode cX1_kind 14 = .ok (.iload_n 1, 1) := by decide +kernel
theorem dX1_kind_15 : decode cX1_kind 15 = .ok (.baload, 1) := by decide +kernel
theorem dX1_kind_16 : decode cX1_kind 16 = .ok (.sipush 255, 3) := by decide +kernel
theorem dX1_kind_19 : decode cX1_kind 19 = .ok (.iand, 1) := by decide +kernel
theorem dX1_kind_20 : decode cX1_kind 20 = .ok (.goto 4, 3) := by decide +kernel
theorem dX1_kind_23 : decode cX1_kind 23 = .ok (.iconst 0, 1) := by decide +kernel
theorem dX1_kind_24 : decode cX1_kind 24 = .ok (.ireturn, 1) := by decide +kernel
theorem dX1_entryLength_0 : decode cX1_entryLength 0 = .ok (.iload_n 1, 1) := by decide +kernel
theorem dX1_entryLength_1 : decode cX1_entryLength 1 = .ok (.ifCond .lt 9, 3) := by decide +kernel
theorem dX1_entryLength_4 : decode cX1_entryLength 4 = .ok (.iload_n 1, 1) := by decide +kernel
theorem dX1_entryLength_5 : decode cX1_entryLength 5 = .ok (.ldc 55, 2) := by decide +kernel
theorem dX1_entryLength_7 : decode cX1_entryLength 7 = .ok (.if_icmp .lt 6, 3) := by decide +kernel
theorem dX1_entryLength_10 : decode cX1_entryLength 10 = .ok (.bipush 8, 2) := by decide +kernel
theorem dX1_entryLength_12 : decode cX1_entryLength 12 = .ok (.ireturn, 1) := by decide +kernel
theorem dX1_entryLength_13 : decode cX1_entryLength 13 = .ok (.bipush 8, 2) := by decide +kernel
theorem dX1_entryLength_15 : decode cX1_entryLength 15 = .ok (.aload_n 0, 1) := by decide +kernel
theorem dX1_entryLength_16 : decode cX1_entryLength 16 = .ok (.getfield 10, 3) := by decide +kernel
theorem dX1_entryLength_19 : decode cX1_entryLength 19 = .ok (.iload_n 1, 1) := by decide +kernel
theorem dX1_entryLength_20 : decode cX1_entryLength 20 = .ok (.iconst 1, 1) := by decide +kernel
theorem dX1_entryLength_21 : decode cX1_entryLength 21 = .ok (.iadd, 1) := by decide +kernel
theorem dX1_entryLength_22 : decode cX1_entryLength 22 = .ok (.baload, 1) := by decide +kernel
theorem dX1_entryLength_23 : decode cX1_entryLength 23 = .ok (.sipush 255, 3) := by decide +kernel
theorem dX1_entryLength_26 : decode cX1_entryLength 26 = .ok (.iand, 1) := by decide +kernel
theorem dX1_entryLength_27 : decode cX1_entryLength 27 = .ok (.iadd, 1) := by decide +kernel
theorem dX1_entryLength_28 : decode cX1_entryLength 28 = .ok (.aload_n 0, 1) := by decide +kernel
theorem dX1_entryLength_29 : decode cX1_entryLength 29 = .ok (.getfield 10, 3) := by decide +kernel
theorem dX1_entryLength_32 : decode cX1_entryLength 32 = .ok (.iload_n 1, 1) := by decide +kernel
theorem dX1_entryLength_33 : decode cX1_entryLength 33 = .ok (.iconst 2, 1) := by decide +kernel
theorem dX1_entryLength_34 : decode cX1_entryLength 34 = .ok (.iadd, 1) := by decide +kernel
theorem dX1_entryLength_35 : decode cX1_entryLength 35 = .ok (.baload, 1) := by decide +kernel
theorem dX1_entryLength_36 : decode cX1_entryLength 36 = .ok (.sipush 255, 3) := by decide +kernel
theorem dX1_entryLength_39 : decode cX1_entryLength 39 = .ok (.iand, 1) := by decide +kernel
theorem dX1_entryLength_40 : decode cX1_entryLength 40 = .ok (.iadd, 1) := by decide +kernel
theorem dX1_entryLength_41 : decode cX1_entryLength 41 = .ok (.ireturn, 1) := by decide +kernel
theorem dX1_nextInBlock_0 : decode cX1_nextInBlock 0 = .ok (.iload_n 1, 1) := by decide +kernel
theorem dX1_nextInBlock_1 : decode cX1_nextInBlock 1 = .ok (.ifCond .lt 9, 3) := by decide +kernel
theorem dX1_nextInBlock_4 : decode cX1_nextInBlock 4 = .ok (.iload_n 1, 1) := by decide +kernel
theorem dX1_nextInBlock_5 : decode cX1_nextInBlock 5 = .ok (.ldc 55, 2) := by decide +kernel
theorem dX1_nextInBlock_7 : decode cX1_nextInBlock 7 = .ok (.if_icmp .lt 5, 3) := by decide +kernel
theorem dX1_nextInBlock_10 : decode cX1_nextInBlock 10 = .ok (.iconst (-1), 1) := by decide +kernel
theorem dX1_nextInBlock_11 : decode cX1_nextInBlock 11 = .ok (.ireturn, 1) := by decide +kernel
theorem dX1_nextInBlock_12 : decode cX1_nextInBlock 12 = .ok (.iload_n 1, 1) := by decide +kernel
theorem dX1_nextInBlock_13 : decode cX1_nextInBlock 13 = .ok (.bipush 8, 2) := by decide +kernel
theorem dX1_nextInBlock_15 : decode cX1_nextInBlock 15 = .ok (.iadd, 1) := by decide +kernel
theorem dX1_nextInBlock_16 : decode cX1_nextInBlock 16 = .ok (.aload_n 0, 1) := by decide +kernel
theorem dX1_nextInBlock_17 : decode cX1_nextInBlock 17 = .ok (.getfield 10, 3) := by decide +kernel
theorem dX1_nextInBlock_20 : decode cX1_nextInBlock 20 = .ok (.iload_n 1, 1) := by decide +kernel
theorem dX1_nextInBlock_21 : decode cX1_nextInBlock 21 = .ok (.iconst 1, 1) := by decide +kernel
theorem dX1_nextInBlock_22 : decode cX1_nextInBlock 22 = .ok (.iadd, 1) := by decide +kernel
theorem dX1_nextInBlock_23 : decode cX1_nextInBlock 23 = .ok (.baload, 1) := by decide +kernel
theorem dX1_nextInBlock_24 : decode cX1_nextInBlock 24 = .ok (.sipush 255, 3) := by decide +kernel
theorem dX1_nextInBlock_27 : decode cX1_nextInBlock 27 = .ok (.iand, 1) := by decide +kernel
theorem dX1_nextInBlock_28 : decode cX1_nextInBlock 28 = .ok (.iadd, 1) := by decide +kernel
theorem dX1_nextInBlock_29 : decode cX1_nextInBlock 29 = .ok (.aload_n 0, 1) := by decide +kernel
theorem dX1_nextInBlock_30 : decode cX1_nextInBlock 30 = .ok (.getfield 10, 3) := by decide +kernel
theorem dX1_nextInBlock_33 : decode cX1_nextInBlock 33 = .ok (.iload_n 1, 1) := by decide +kernel
theorem dX1_nextInBlock_34 : decode cX1_nextInBlock 34 = .ok (.iconst 2, 1) := by decide +kernel
theorem dX1_nextInBlock_35 : decode cX1_nextInBlock 35 = .ok (.iadd, 1) := by decide +kernel
theorem dX1_nextInBlock_36 : decode cX1_nextInBlock 36 = .ok (.baload, 1) := by decide +kernel
theorem dX1_nextInBlock_37 : decode cX1_nextInBlock 37 = .ok (.sipush 255, 3) := by decide +kernel
theorem dX1_nextInBlock_40 : decode cX1_nextInBlock 40 = .ok (.iand, 1) := by decide +kernel
theorem dX1_nextInBlock_41 : decode cX1_nextInBlock 41 = .ok (.iadd, 1) := by decide +kernel
theorem dX1_nextInBlock_42 : decode cX1_nextInBlock 42 = .ok (.istore_n 2, 1) := by decide +kernel
theorem dX1_nextInBlock_43 : decode cX1_nextInBlock 43 = .ok (.iload_n 2, 1) := by decide +kernel
theorem dX1_nextInBlock_44 : decode cX1_nextInBlock 44 = .ok (.sipush 512, 3) := by decide +kernel
theorem dX1_nextInBlock_47 : decode cX1_nextInBlock 47 = .ok (.idiv, 1) := by decide +kernel
theorem dX1_nextInBlock_48 : decode cX1_nextInBlock 48 = .ok (.iload_n 1, 1) := by decide +kernel
theorem dX1_nextInBlock_49 : decode cX1_nextInBlock 49 = .ok (.sipush 512, 3) := by decide +kernel
theorem dX1_nextInBlock_52 : decode cX1_nextInBlock 52 = .ok (.idiv, 1) := by decide +kernel
theorem dX1_nextInBlock_53 : decode cX1_nextInBlock 53 = .ok (.if_icmp .ne 16, 3) := by decide +kernel
theorem dX1_nextInBlock_56 : decode cX1_nextInBlock 56 = .ok (.aload_n 0, 1) := by decide +kernel
theorem dX1_nextInBlock_57 : decode cX1_nextInBlock 57 = .ok (.getfield 10, 3) := by decide +kernel
theorem dX1_nextInBlock_60 : decode cX1_nextInBlock 60 = .ok (.iload_n 2, 1) := by decide +kernel
theorem dX1_nextInBlock_61 : decode cX1_nextInBlock 61 = .ok (.baload, 1) := by decide +kernel
theorem dX1_nextInBlock_62 : decode cX1_nextInBlock 62 = .ok (.ifCond .eq 7, 3) := by decide +kernel
theorem dX1_nextInBlock_65 : decode cX1_nextInBlock 65 = .ok (.iload_n 2, 1) := by decide +kernel
theorem dX1_nextInBlock_66 : decode cX1_nextInBlock 66 = .ok (.goto 4, 3) := by decide +kernel
theorem dX1_nextInBlock_69 : decode cX1_nextInBlock 69 = .ok (.iconst (-1), 1) := by decide +kernel
theorem dX1_nextInBlock_70 : decode cX1_nextInBlock 70 = .ok (.ireturn, 1) := by decide +kernel
theorem dX1_copyKey_0 : decode cX1_copyKey 0 = .ok (.iload_n 1, 1) := by decide +kernel
theorem dX1_copyKey_1 : decode cX1_copyKey 1 = .ok (.ifCond .lt 33, 3) := by decide +kernel
theorem dX1_copyKey_4 : decode cX1_copyKey 4 = .ok (.iload_n 1, 1) := by decide +kernel
theorem dX1_copyKey_5 : decode cX1_copyKey 5 = .ok (.ldc 55, 2) := by decide +kernel
theorem dX1_copyKey_7 : decode cX1_copyKey 7 = .ok (.if_icmp .ge 27, 3) := by decide +kernel
theorem dX1_copyKey_10 : decode cX1_copyKey 10 = .ok (.aload_n 2, 1) := by decide +kernel
theorem dX1_copyKey_11 : decode cX1_copyKey 11 = .ok (.aload_n 0, 1) := by decide +kernel
theorem dX1_copyKey_12 : decode cX1_copyKey 12 = .ok (.getfield 10, 3) := by decide +kernel
theorem dX1_copyKey_15 : decode cX1_copyKey 15 = .ok (.iload_n 1, 1) := by decide +kernel
theorem dX1_copyKey_16 : decode cX1_copyKey 16 = .ok (.bipush 8, 2) := by decide +kernel
theorem dX1_copyKey_18 : decode cX1_copyKey 18 = .ok (.iadd, 1) := by decide +kernel
theorem dX1_copyKey_19 : decode cX1_copyKey 19 = .ok (.aload_n 0, 1) := by decide +kernel
theorem dX1_copyKey_20 : decode cX1_copyKey 20 = .ok (.getfield 10, 3) := by decide +kernel
theorem dX1_copyKey_23 : decode cX1_copyKey 23 = .ok (.iload_n 1, 1) := by decide +kernel
theorem dX1_copyKey_24 : decode cX1_copyKey 24 = .ok (.iconst 1, 1) := by decide +kernel
theorem dX1_copyKey_25 : decode cX1_copyKey 25 = .ok (.iadd, 1) := by decide +kernel
theorem dX1_copyKey_26 : decode cX1_copyKey 26 = .ok (.baload, 1) := by decide +kernel
theorem dX1_copyKey_27 : decode cX1_copyKey 27 = .ok (.sipush 255, 3) := by decide +kernel
theorem dX1_copyKey_30 : decode cX1_copyKey 30 = .ok (.iand, 1) := by decide +kernel
theorem dX1_copyKey_31 : decode cX1_copyKey 31 = .ok (.invokevirtual 66, 3) := by decide +kernel
theorem dX1_copyKey_34 : decode cX1_copyKey 34 = .ok (.return_, 1) := by decide +kernel
theorem dX1_copyValue_0 : decode cX1_copyValue 0 = .ok (.iload_n 1, 1) := by decide +kernel
theorem dX1_copyValue_1 : decode cX1_copyValue 1 = .ok (.ifCond .lt 48, 3) := by decide +kernel
theorem dX1_copyValue_4 : decode cX1_copyValue 4 = .ok (.iload_n 1, 1) := by decide +kernel
theorem dX1_copyValue_5 : decode cX1_copyValue 5 = .ok (.ldc 55, 2) := by decide +kernel
theorem dX1_copyValue_7 : decode cX1_copyValue 7 = .ok (.if_icmp .ge 42, 3) := by decide +kernel
theorem dX1_copyValue_10 : decode cX1_copyValue 10 = .ok (.iload_n 1, 1) := by decide +kernel
theorem dX1_copyValue_11 : decode cX1_copyValue 11 = .ok (.bipush 8, 2) := by decide +kernel
theorem dX1_copyValue_13 : decode cX1_copyValue 13 = .ok (.iadd, 1) := by decide +kernel
theorem dX1_copyValue_14 : decode cX1_copyValue 14 = .ok (.aload_n 0, 1) := by decide +kernel
theorem dX1_copyValue_15 : decode cX1_copyValue 15 = .ok (.getfield 10, 3) := by decide +kernel
theorem dX1_copyValue_18 : decode cX1_copyValue 18 = .ok (.iload_n 1, 1) := by decide +kernel
theorem dX1_copyValue_19 : decode cX1_copyValue 19 = .ok (.iconst 1, 1) := by decide +kernel
theorem dX1_copyValue_20 : decode cX1_copyValue 20 = .ok (.iadd, 1) := by decide +kernel
theorem dX1_copyValue_21 : decode cX1_copyValue 21 = .ok (.baload, 1) := by decide +kernel
theorem dX1_copyValue_22 : decode cX1_copyValue 22 = .ok (.sipush 255, 3) := by decide +kernel
theorem dX1_copyValue_25 : decode cX1_copyValue 25 = .ok (.iand, 1) := by decide +kernel
theorem dX1_copyValue_26 : decode cX1_copyValue 26 = .ok (.iadd, 1) := by decide +kernel
theorem dX1_copyValue_27 : decode cX1_copyValue 27 = .ok (.istore_n 3, 1) := by decide +kernel
theorem dX1_copyValue_28 : decode cX1_copyValue 28 = .ok (.aload_n 2, 1) := by decide +kernel
theorem dX1_copyValue_29 : decode cX1_copyValue 29 = .ok (.aload_n 0, 1) := by decide +kernel
theorem dX1_copyValue_30 : decode cX1_copyValue 30 = .ok (.getfield 10, 3) := by decide +kernel
theorem dX1_copyValue_33 : decode cX1_copyValue 33 = .ok (.iload_n 3, 1) := by decide +kernel
theorem dX1_copyValue_34 : decode cX1_copyValue 34 = .ok (.aload_n 0, 1) := by decide +kernel
theorem dX1_copyValue_35 : decode cX1_copyValue 35 = .ok (.getfield 10, 3) := by decide +kernel
theorem dX1_copyValue_38 : decode cX1_copyValue 38 = .ok (.iload_n 1, 1) := by decide +kernel
theorem dX1_copyValue_39 : decode cX1_copyValue 39 = .ok (.iconst 2, 1) := by decide +kernel
theorem dX1_copyValue_40 : decode cX1_copyValue 40 = .ok (.iadd, 1) := by decide +kernel
theorem dX1_copyValue_41 : decode cX1_copyValue 41 = .ok (.baload, 1) := by decide +kernel
theorem dX1_copyValue_42 : decode cX1_copyValue 42 = .ok (.sipush 255, 3) := by decide +kernel
theorem dX1_copyValue_45 : decode cX1_copyValue 45 = .ok (.iand, 1) := by decide +kernel
theorem dX1_copyValue_46 : decode cX1_copyValue 46 = .ok (.invokevirtual 66, 3) := by decide +kernel
theorem dX1_copyValue_49 : decode cX1_copyValue 49 = .ok (.return_, 1) := by decide +kernel
theorem dX1_order_0 : decode cX1_order 0 = .ok (.iload_n 1, 1) := by decide +kernel
theorem dX1_order_1 : decode cX1_order 1 = .ok (.ifCond .lt 19, 3) := by decide +kernel
theorem dX1_order_4 : decode cX1_order 4 = .ok (.iload_n 1, 1) := by decide +kernel
theorem dX1_order_5 : decode cX1_order 5 = .ok (.ldc 55, 2) := by decide +kernel
theorem dX1_order_7 : decode cX1_order 7 = .ok (.if_icmp .ge 13, 3) := by decide +kernel
theorem dX1_order_10 : decode cX1_order 10 = .ok (.iload_n 2, 1) := by decide +kernel
theorem dX1_order_11 : decode cX1_order 11 = .ok (.ifCond .lt 9, 3) := by decide +kernel
theorem dX1_order_14 : decode cX1_order 14 = .ok (.iload_n 2, 1) := by decide +kernel
theorem dX1_order_15 : decode cX1_order 15 = .ok (.ldc 55, 2) := by decide +kernel
theorem dX1_order_17 : decode cX1_order 17 = .ok (.if_icmp .lt 5, 3) := by decide +kernel
theorem dX1_order_20 : decode cX1_order 20 = .ok (.iconst 0, 1) := by decide +kernel
theorem dX1_order_21 : decode cX1_order 21 = .ok (.ireturn, 1) := by decide +kernel
theorem dX1_order_22 : decode cX1_order 22 = .ok (.aload_n 0, 1) := by decide +kernel
theorem dX1_order_23 : decode cX1_order 23 = .ok (.getfield 10, 3) := by decide +kernel
theorem dX1_order_26 : decode cX1_order 26 = .ok (.iload_n 1, 1) := by decide +kernel
theorem dX1_order_27 : decode cX1_order 27 = .ok (.iconst 1, 1) := by decide +kernel
theorem dX1_order_28 : decode cX1_order 28 = .ok (.iadd, 1) := by decide +kernel
theorem dX1_order_29 : decode cX1_order 29 = .ok (.baload, 1) := by decide +kernel
theorem dX1_order_30 : decode cX1_order 30 = .ok (.sipush 255, 3) := by decide +kernel
theorem dX1_order_33 : decode cX1_order 33 = .ok (.iand, 1) := by decide +kernel
theorem dX1_order_34 : decode cX1_order 34 = .ok (.istore_n 3, 1) := by decide +kernel
theorem dX1_order_35 : decode cX1_order 35 = .ok (.aload_n 0, 1) := by decide +kernel
theorem dX1_order_36 : decode cX1_order 36 = .ok (.getfield 10, 3) := by decide +kernel
theorem dX1_order_39 : decode cX1_order 39 = .ok (.iload_n 2, 1) := by decide +kernel
theorem dX1_order_40 : decode cX1_order 40 = .ok (.iconst 1, 1) := by decide +kernel
theorem dX1_order_41 : decode cX1_order 41 = .ok (.iadd, 1) := by decide +kernel
theorem dX1_order_42 : decode cX1_order 42 = .ok (.baload, 1) := by decide +kernel
theorem dX1_order_43 : decode cX1_order 43 = .ok (.sipush 255, 3) := by decide +kernel
theorem dX1_order_46 : decode cX1_order 46 = .ok (.iand, 1) := by decide +kernel
theorem dX1_order_47 : decode cX1_order 47 = .ok (.istore 4, 2) := by decide +kernel
theorem dX1_order_49 : decode cX1_order 49 = .ok (.iload_n 3, 1) := by decide +kernel
theorem dX1_order_50 : decode cX1_order 50 = .ok (.iload 4, 2) := by decide +kernel
theorem dX1_order_52 : decode cX1_order 52 = .ok (.if_icmp .ge 7, 3) := by decide +kernel
theorem dX1_order_55 : decode cX1_order 55 = .ok (.iload_n 3, 1) := by decide +kernel
theorem dX1_order_56 : decode cX1_order 56 = .ok (.goto 5, 3) := by decide +kernel
theorem dX1_order_59 : decode cX1_order 59 = .ok (.iload 4, 2) := by decide +kernel
theorem dX1_order_61 : decode cX1_order 61 = .ok (.istore 5, 2) := by decide +kernel
theorem dX1_order_63 : decode cX1_order 63 = .ok (.bipush 8, 2) := by decide +kernel
theorem dX1_order_65 : decode cX1_order 65 = .ok (.istore 6, 2) := by decide +kernel
theorem dX1_order_67 : decode cX1_order 67 = .ok (.iload 6, 2) := by decide +kernel
theorem dX1_order_69 : decode cX1_order 69 = .ok (.bipush 8, 2) := by decide +kernel
theorem dX1_order_71 : decode cX1_order 71 = .ok (.iload 5, 2) := by decide +kernel
theorem dX1_order_73 : decode cX1_order 73 = .ok (.iadd, 1) := by decide +kernel
theorem dX1_order_74 : decode cX1_order 74 = .ok (.if_icmp .ge 46, 3) := by decide +kernel
theorem dX1_order_77 : decode cX1_order 77 = .ok (.aload_n 0, 1) := by decide +kernel
theorem dX1_order_78 : decode cX1_order 78 = .ok (.getfield 10, 3) := by decide +kernel
theorem dX1_order_81 : decode cX1_order 81 = .ok (.iload_n 1, 1) := by decide +kernel
theorem dX1_order_82 : decode cX1_order 82 = .ok (.iload 6, 2) := by decide +kernel
theorem dX1_order_84 : decode cX1_order 84 = .ok (.iadd, 1) := by decide +kernel
theorem dX1_order_85 : decode cX1_order 85 = .ok (.baload, 1) := by decide +kernel
theorem dX1_order_86 : decode cX1_order 86 = .ok (.sipush 255, 3) := by decide +kernel
theorem dX1_order_89 : decode cX1_order 89 = .ok (.iand, 1) := by decide +kernel
theorem dX1_order_90 : decode cX1_order 90 = .ok (.aload_n 0, 1) := by decide +kernel
theorem dX1_order_91 : decode cX1_order 91 = .ok (.getfield 10, 3) := by decide +kernel
theorem dX1_order_94 : decode cX1_order 94 = .ok (.iload_n 2, 1) := by decide +kernel
theorem dX1_order_95 : decode cX1_order 95 = .ok (.iload 6, 2) := by decide +kernel
theorem dX1_order_97 : decode cX1_order 97 = .ok (.iadd, 1) := by decide +kernel
theorem dX1_order_98 : decode cX1_order 98 = .ok (.baload, 1) := by decide +kernel
theorem dX1_order_99 : decode cX1_order 99 = .ok (.sipush 255, 3) := by decide +kernel
theorem dX1_order_102 : decode cX1_order 102 = .ok (.iand, 1) := by decide +kernel
theorem dX1_order_103 : decode cX1_order 103 = .ok (.isub, 1) := by decide +kernel
theorem dX1_order_104 : decode cX1_order 104 = .ok (.istore 7, 2) := by decide +kernel
theorem dX1_order_106 : decode cX1_order 106 = .ok (.iload 7, 2) := by decide +kernel
theorem dX1_order_108 : decode cX1_order 108 = .ok (.ifCond .eq 6, 3) := by decide +kernel
theorem dX1_order_111 : decode cX1_order 111 = .ok (.iload 7, 2) := by decide +kernel
theorem dX1_order_113 : decode cX1_order 113 = .ok (.ireturn, 1) := by decide +kernel
theorem dX1_order_114 : decode cX1_order 114 = .ok (.iinc 6 1, 3) := by decide +kernel
theorem dX1_order_117 : decode cX1_order 117 = .ok (.goto (-50), 3) := by decide +kernel
theorem dX1_order_120 : decode cX1_order 120 = .ok (.iload_n 3, 1) := by decide +kernel
theorem dX1_order_121 : decode cX1_order 121 = .ok (.iload 4, 2) := by decide +kernel
theorem dX1_order_123 : decode cX1_order 123 = .ok (.isub, 1) := by decide +kernel
theorem dX1_order_124 : decode cX1_order 124 = .ok (.ireturn, 1) := by decide +kernel
theorem dX1_precedes_0 : decode cX1_precedes 0 = .ok (.aload_n 0, 1) := by decide +kernel
theorem dX1_precedes_1 : decode cX1_precedes 1 = .ok (.iload_n 1, 1) := by decide +kernel
theorem dX1_precedes_2 : decode cX1_precedes 2 = .ok (.iload_n 2, 1) := by decide +kernel
theorem dX1_precedes_3 : decode cX1_precedes 3 = .ok (.invokevirtual 72, 3) := by decide +kernel
theorem dX1_precedes_6 : decode cX1_precedes 6 = .ok (.istore_n 3, 1) := by decide +kernel
theorem dX1_precedes_7 : decode cX1_precedes 7 = .ok (.iload_n 3, 1) := by decide +kernel
theorem dX1_precedes_8 : decode cX1_precedes 8 = .ok (.ifCond .lt 26, 3) := by decide +kernel
theorem dX1_precedes_11 : decode cX1_precedes 11 = .ok (.iload_n 3, 1) := by decide +kernel
theorem dX1_precedes_12 : decode cX1_precedes 12 = .ok (.ifCond .ne 26, 3) := by decide +kernel
theorem dX1_precedes_15 : decode cX1_precedes 15 = .ok (.aload_n 0, 1) := by decide +kernel
theorem dX1_precedes_16 : decode cX1_precedes 16 = .ok (.iload_n 1, 1) := by decide +kernel
theorem dX1_precedes_17 : decode cX1_precedes 17 = .ok (.iconst 4, 1) := by decide +kernel
theorem dX1_precedes_18 : decode cX1_precedes 18 = .ok (.iadd, 1) := by decide +kernel
theorem dX1_precedes_19 : decode cX1_precedes 19 = .ok (.iconst 4, 1) := by decide +kernel
theorem dX1_precedes_20 : decode cX1_precedes 20 = .ok (.invokevirtual 75, 3) := by decide +kernel
theorem dX1_precedes_23 : decode cX1_precedes 23 = .ok (.aload_n 0, 1) := by decide +kernel
theorem dX1_precedes_24 : decode cX1_precedes 24 = .ok (.iload_n 2, 1) := by decide +kernel
theorem dX1_precedes_25 : decode cX1_precedes 25 = .ok (.iconst 4, 1) := by decide +kernel
theorem dX1_precedes_26 : decode cX1_precedes 26 = .ok (.iadd, 1) := by decide +kernel
theorem dX1_precedes_27 : decode cX1_precedes 27 = .ok (.iconst 4, 1) := by decide +kernel
theorem dX1_precedes_28 : decode cX1_precedes 28 = .ok (.invokevirtual 75, 3) := by decide +kernel
theorem dX1_precedes_31 : decode cX1_precedes 31 = .ok (.if_icmp .le 7, 3) := by decide +kernel
theorem dX1_precedes_34 : decode cX1_precedes 34 = .ok (.iconst 1, 1) := by decide +kernel
theorem dX1_precedes_35 : decode cX1_precedes 35 = .ok (.goto 4, 3) := by decide +kernel
theorem dX1_precedes_38 : decode cX1_precedes 38 = .ok (.iconst 0, 1) := by decide +kernel
theorem dX1_precedes_39 : decode cX1_precedes 39 = .ok (.ireturn, 1) := by decide +kernel
theorem dX1_isBefore_0 : decode cX1_isBefore 0 = .ok (.iload_n 1, 1) := by decide +kernel
theorem dX1_isBefore_1 : decode cX1_isBefore 1 = .ok (.ifCond .lt 9, 3) := by decide +kernel
theorem dX1_isBefore_4 : decode cX1_isBefore 4 = .ok (.iload_n 1, 1) := by decide +kernel
theorem dX1_isBefore_5 : decode cX1_isBefore 5 = .ok (.ldc 55, 2) := by decide +kernel
theorem dX1_isBefore_7 : decode cX1_isBefore 7 = .ok (.if_icmp .lt 5, 3) := by decide +kernel
theorem dX1_isBefore_10 : decode cX1_isBefore 10 = .ok (.iconst 0, 1) := by decide +kernel
theorem dX1_isBefore_11 : decode cX1_isBefore 11 = .ok (.ireturn, 1) := by decide +kernel
theorem dX1_isBefore_12 : decode cX1_isBefore 12 = .ok (.aload_n 0, 1) := by decide +kernel
theorem dX1_isBefore_13 : decode cX1_isBefore 13 = .ok (.getfield 10, 3) := by decide +kernel
theorem dX1_isBefore_16 : decode cX1_isBefore 16 = .ok (.iload_n 1, 1) := by decide +kernel
theorem dX1_isBefore_17 : decode cX1_isBefore 17 = .ok (.iconst 1, 1) := by decide +kernel
theorem dX1_isBefore_18 : decode cX1_isBefore 18 = .ok (.iadd, 1) := by decide +kernel
theorem dX1_isBefore_19 : decode cX1_isBefore 19 = .ok (.baload, 1) := by decide +kernel
theorem dX1_isBefore_20 : decode cX1_isBefore 20 = .ok (.sipush 255, 3) := by decide +kernel
theorem dX1_isBefore_23 : decode cX1_isBefore 23 = .ok (.iand, 1) := by decide +kernel
theorem dX1_isBefore_24 : decode cX1_isBefore 24 = .ok (.istore 4, 2) := by decide +kernel
theorem dX1_isBefore_26 : decode cX1_isBefore 26 = .ok (.iload 4, 2) := by decide +kernel
theorem dX1_isBefore_28 : decode cX1_isBefore 28 = .ok (.aload_n 2, 1) := by decide +kernel
theorem dX1_isBefore_29 : decode cX1_isBefore 29 = .ok (.getfield 78, 3) := by decide +kernel
theorem dX1_isBefore_32 : decode cX1_isBefore 32 = .ok (.aload_n 2, 1) := by decide +kernel
theorem dX1_isBefore_33 : decode cX1_isBefore 33 = .ok (.getfield 81, 3) := by decide +kernel
theorem dX1_isBefore_36 : decode cX1_isBefore 36 = .ok (.arraylength, 1) := by decide +kernel
theorem dX1_isBefore_37 : decode cX1_isBefore 37 = .ok (.invokestatic 49, 3) := by decide +kernel
theorem dX1_isBefore_40 : decode cX1_isBefore 40 = .ok (.invokestatic 49, 3) := by decide +kernel
theorem dX1_isBefore_43 : decode cX1_isBefore 43 = .ok (.istore 5, 2) := by decide +kernel
theorem dX1_isBefore_45 : decode cX1_isBefore 45 = .ok (.iconst 0, 1) := by decide +kernel
theorem dX1_isBefore_46 : decode cX1_isBefore 46 = .ok (.istore 6, 2) := by decide +kernel
theorem dX1_isBefore_48 : decode cX1_isBefore 48 = .ok (.iload 6, 2) := by decide +kernel
theorem dX1_isBefore_50 : decode cX1_isBefore 50 = .ok (.iload 5, 2) := by decide +kernel
theorem dX1_isBefore_52 : decode cX1_isBefore 52 = .ok (.if_icmp .ge 55, 3) := by decide +kernel
theorem dX1_isBefore_55 : decode cX1_isBefore 55 = .ok (.aload_n 0, 1) := by decide +kernel
theorem dX1_isBefore_56 : decode cX1_isBefore 56 = .ok (.getfield 10, 3) := by decide +kernel
theorem dX1_isBefore_59 : decode cX1_isBefore 59 = .ok (.iload_n 1, 1) := by decide +kernel
theorem dX1_isBefore_60 : decode cX1_isBefore 60 = .ok (.bipush 8, 2) := by decide +kernel
theorem dX1_isBefore_62 : decode cX1_isBefore 62 = .ok (.iadd, 1) := by decide +kernel
theorem dX1_isBefore_63 : decode cX1_isBefore 63 = .ok (.iload 6, 2) := by decide +kernel
theorem dX1_isBefore_65 : decode cX1_isBefore 65 = .ok (.iadd, 1) := by decide +kernel
theorem dX1_isBefore_66 : decode cX1_isBefore 66 = .ok (.baload, 1) := by decide +kernel
theorem dX1_isBefore_67 : decode cX1_isBefore 67 = .ok (.sipush 255, 3) := by decide +kernel
theorem dX1_isBefore_70 : decode cX1_isBefore 70 = .ok (.iand, 1) := by decide +kernel
theorem dX1_isBefore_71 : decode cX1_isBefore 71 = .ok (.aload_n 2, 1) := by decide +kernel
theorem dX1_isBefore_72 : decode cX1_isBefore 72 = .ok (.getfield 81, 3) := by decide +kernel
theorem dX1_isBefore_75 : decode cX1_isBefore 75 = .ok (.iload 6, 2) := by decide +kernel
theorem dX1_isBefore_77 : decode cX1_isBefore 77 = .ok (.baload, 1) := by decide +kernel
theorem dX1_isBefore_78 : decode cX1_isBefore 78 = .ok (.sipush 255, 3) := by decide +kernel
theorem dX1_isBefore_81 : decode cX1_isBefore 81 = .ok (.iand, 1) := by decide +kernel
theorem dX1_isBefore_82 : decode cX1_isBefore 82 = .ok (.isub, 1) := by decide +kernel
theorem dX1_isBefore_83 : decode cX1_isBefore 83 = .ok (.istore 7, 2) := by decide +kernel
theorem dX1_isBefore_85 : decode cX1_isBefore 85 = .ok (.iload 7, 2) := by decide +kernel
theorem dX1_isBefore_87 : decode cX1_isBefore 87 = .ok (.ifCond .eq 14, 3) := by decide +kernel
theorem dX1_isBefore_90 : decode cX1_isBefore 90 = .ok (.iload 7, 2) := by decide +kernel
theorem dX1_isBefore_92 : decode cX1_isBefore 92 = .ok (.ifCond .ge 7, 3) := by decide +kernel
theorem dX1_isBefore_95 : decode cX1_isBefore 95 = .ok (.iconst 1, 1) := by decide +kernel
theorem dX1_isBefore_96 : decode cX1_isBefore 96 = .ok (.goto 4, 3) := by decide +kernel
theorem dX1_isBefore_99 : decode cX1_isBefore 99 = .ok (.iconst 0, 1) := by decide +kernel
theorem dX1_isBefore_100 : decode cX1_isBefore 100 = .ok (.ireturn, 1) := by decide +kernel
theorem dX1_isBefore_101 : decode cX1_isBefore 101 = .ok (.iinc 6 1, 3) := by decide +kernel
theorem dX1_isBefore_104 : decode cX1_isBefore 104 = .ok (.goto (-56), 3) := by decide +kernel
theorem dX1_isBefore_107 : decode cX1_isBefore 107 = .ok (.iload 4, 2) := by decide +kernel
theorem dX1_isBefore_109 : decode cX1_isBefore 109 = .ok (.aload_n 2, 1) := by decide +kernel
theorem dX1_isBefore_110 : decode cX1_isBefore 110 = .ok (.getfield 78, 3) := by decide +kernel
theorem dX1_isBefore_113 : decode cX1_isBefore 113 = .ok (.if_icmp .lt 24, 3) := by decide +kernel
theorem dX1_isBefore_116 : decode cX1_isBefore 116 = .ok (.iload 4, 2) := by decide +kernel
theorem dX1_isBefore_118 : decode cX1_isBefore 118 = .ok (.aload_n 2, 1) := by decide +kernel
theorem dX1_isBefore_119 : decode cX1_isBefore 119 = .ok (.getfield 78, 3) := by decide +kernel
theorem dX1_isBefore_122 : decode cX1_isBefore 122 = .ok (.if_icmp .ne 19, 3) := by decide +kernel
theorem dX1_isBefore_125 : decode cX1_isBefore 125 = .ok (.aload_n 0, 1) := by decide +kernel
theorem dX1_isBefore_126 : decode cX1_isBefore 126 = .ok (.iload_n 1, 1) := by decide +kernel
theorem dX1_isBefore_127 : decode cX1_isBefore 127 = .ok (.iconst 4, 1) := by decide +kernel
theorem dX1_isBefore_128 : decode cX1_isBefore 128 = .ok (.iadd, 1) := by decide +kernel
theorem dX1_isBefore_129 : decode cX1_isBefore 129 = .ok (.iconst 4, 1) := by decide +kernel
theorem dX1_isBefore_130 : decode cX1_isBefore 130 = .ok (.invokevirtual 75, 3) := by decide +kernel
theorem dX1_isBefore_133 : decode cX1_isBefore 133 = .ok (.iload_n 3, 1) := by decide +kernel
theorem dX1_isBefore_134 : decode cX1_isBefore 134 = .ok (.if_icmp .le 7, 3) := by decide +kernel
theorem dX1_isBefore_137 : decode cX1_isBefore 137 = .ok (.iconst 1, 1) := by decide +kernel
theorem dX1_isBefore_138 : decode cX1_isBefore 138 = .ok (.goto 4, 3) := by decide +kernel
theorem dX1_isBefore_141 : decode cX1_isBefore 141 = .ok (.iconst 0, 1) := by decide +kernel
theorem dX1_isBefore_142 : decode cX1_isBefore 142 = .ok (.ireturn, 1) := by decide +kernel
theorem dX1_hasKey_0 : decode cX1_hasKey 0 = .ok (.iload_n 1, 1) := by decide +kernel
theorem dX1_hasKey_1 : decode cX1_hasKey 1 = .ok (.ifCond .lt 28, 3) := by decide +kernel
theorem dX1_hasKey_4 : decode cX1_hasKey 4 = .ok (.iload_n 1, 1) := by decide +kernel
theorem dX1_hasKey_5 : decode cX1_hasKey 5 = .ok (.ldc 55, 2) := by decide +kernel
theorem dX1_hasKey_7 : decode cX1_hasKey 7 = .ok (.if_icmp .ge 22, 3) := by decide +kernel
theorem dX1_hasKey_10 : decode cX1_hasKey 10 = .ok (.aload_n 0, 1) := by decide +kernel
theorem dX1_hasKey_11 : decode cX1_hasKey 11 = .ok (.getfield 10, 3) := by decide +kernel
theorem dX1_hasKey_14 : decode cX1_hasKey 14 = .ok (.iload_n 1, 1) := by decide +kernel
theorem dX1_hasKey_15 : decode cX1_hasKey 15 = .ok (.iconst 1, 1) := by decide +kernel
theorem dX1_hasKey_16 : decode cX1_hasKey 16 = .ok (.iadd, 1) := by decide +kernel
theorem dX1_hasKey_17 : decode cX1_hasKey 17 = .ok (.baload, 1) := by decide +kernel
theorem dX1_hasKey_18 : decode cX1_hasKey 18 = .ok (.sipush 255, 3) := by decide +kernel
theorem dX1_hasKey_21 : decode cX1_hasKey 21 = .ok (.iand, 1) := by decide +kernel
theorem dX1_hasKey_22 : decode cX1_hasKey 22 = .ok (.aload_n 2, 1) := by decide +kernel
theorem dX1_hasKey_23 : decode cX1_hasKey 23 = .ok (.getfield 78, 3) := by decide +kernel
theorem dX1_hasKey_26 : decode cX1_hasKey 26 = .ok (.if_icmp .eq 5, 3) := by decide +kernel
theorem dX1_hasKey_29 : decode cX1_hasKey 29 = .ok (.iconst 0, 1) := by decide +kernel
theorem dX1_hasKey_30 : decode cX1_hasKey 30 = .ok (.ireturn, 1) := by decide +kernel
theorem dX1_hasKey_31 : decode cX1_hasKey 31 = .ok (.iconst 0, 1) := by decide +kernel
theorem dX1_hasKey_32 : decode cX1_hasKey 32 = .ok (.istore_n 3, 1) := by decide +kernel
theorem dX1_hasKey_33 : decode cX1_hasKey 33 = .ok (.iload_n 3, 1) := by decide +kernel
theorem dX1_hasKey_34 : decode cX1_hasKey 34 = .ok (.aload_n 2, 1) := by decide +kernel
theorem dX1_hasKey_35 : decode cX1_hasKey 35 = .ok (.getfield 78, 3) := by decide +kernel
theorem dX1_hasKey_38 : decode cX1_hasKey 38 = .ok (.if_icmp .ge 40, 3) := by decide +kernel
theorem dX1_hasKey_41 : decode cX1_hasKey 41 = .ok (.iload_n 3, 1) := by decide +kernel
theorem dX1_hasKey_42 : decode cX1_hasKey 42 = .ok (.aload_n 2, 1) := by decide +kernel
theorem dX1_hasKey_43 : decode cX1_hasKey 43 = .ok (.getfield 81, 3) := by decide +kernel
theorem dX1_hasKey_46 : decode cX1_hasKey 46 = .ok (.arraylength, 1) := by decide +kernel
theorem dX1_hasKey_47 : decode cX1_hasKey 47 = .ok (.if_icmp .ge 31, 3) := by decide +kernel
theorem dX1_hasKey_50 : decode cX1_hasKey 50 = .ok (.aload_n 0, 1) := by decide +kernel
theorem dX1_hasKey_51 : decode cX1_hasKey 51 = .ok (.getfield 10, 3) := by decide +kernel
theorem dX1_hasKey_54 : decode cX1_hasKey 54 = .ok (.iload_n 1, 1) := by decide +kernel
theorem dX1_hasKey_55 : decode cX1_hasKey 55 = .ok (.bipush 8, 2) := by decide +kernel
theorem dX1_hasKey_57 : decode cX1_hasKey 57 = .ok (.iadd, 1) := by decide +kernel
theorem dX1_hasKey_58 : decode cX1_hasKey 58 = .ok (.iload_n 3, 1) := by decide +kernel
theorem dX1_hasKey_59 : decode cX1_hasKey 59 = .ok (.iadd, 1) := by decide +kernel
theorem dX1_hasKey_60 : decode cX1_hasKey 60 = .ok (.baload, 1) := by decide +kernel
theorem dX1_hasKey_61 : decode cX1_hasKey 61 = .ok (.aload_n 2, 1) := by decide +kernel
theorem dX1_hasKey_62 : decode cX1_hasKey 62 = .ok (.getfield 81, 3) := by decide +kernel
theorem dX1_hasKey_65 : decode cX1_hasKey 65 = .ok (.iload_n 3, 1) := by decide +kernel
theorem dX1_hasKey_66 : decode cX1_hasKey 66 = .ok (.baload, 1) := by decide +kernel
theorem dX1_hasKey_67 : decode cX1_hasKey 67 = .ok (.if_icmp .eq 5, 3) := by decide +kernel
theorem dX1_hasKey_70 : decode cX1_hasKey 70 = .ok (.iconst 0, 1) := by decide +kernel
theorem dX1_hasKey_71 : decode cX1_hasKey 71 = .ok (.ireturn, 1) := by decide +kernel
theorem dX1_hasKey_72 : decode cX1_hasKey 72 = .ok (.iinc 3 1, 3) := by decide +kernel
theorem dX1_hasKey_75 : decode cX1_hasKey 75 = .ok (.goto (-42), 3) := by decide +kernel
theorem dX1_hasKey_78 : decode cX1_hasKey 78 = .ok (.iconst 1, 1) := by decide +kernel
theorem dX1_hasKey_79 : decode cX1_hasKey 79 = .ok (.ireturn, 1) := by decide +kernel
theorem dX1_mix_0 : decode cX1_mix 0 = .ok (.iload_n 3, 1) := by decide +kernel
theorem dX1_mix_1 : decode cX1_mix 1 = .ok (.ifCond .lt 9, 3) := by decide +kernel
theorem dX1_mix_4 : decode cX1_mix 4 = .ok (.iload_n 3, 1) := by decide +kernel
theorem dX1_mix_5 : decode cX1_mix 5 = .ok (.ldc 55, 2) := by decide +kernel
theorem dX1_mix_7 : decode cX1_mix 7 = .ok (.if_icmp .lt 5, 3) := by decide +kernel
theorem dX1_mix_10 : decode cX1_mix 10 = .ok (.lload_n 1, 1) := by decide +kernel
theorem dX1_mix_11 : decode cX1_mix 11 = .ok (.lreturn, 1) := by decide +kernel
theorem dX1_mix_12 : decode cX1_mix 12 = .ok (.aload_n 0, 1) := by decide +kernel
theorem dX1_mix_13 : decode cX1_mix 13 = .ok (.getfield 10, 3) := by decide +kernel
theorem dX1_mix_16 : decode cX1_mix 16 = .ok (.iload_n 3, 1) := by decide +kernel
theorem dX1_mix_17 : decode cX1_mix 17 = .ok (.iconst 1, 1) := by decide +kernel
theorem dX1_mix_18 : decode cX1_mix 18 = .ok (.iadd, 1) := by decide +kernel
theorem dX1_mix_19 : decode cX1_mix 19 = .ok (.baload, 1) := by decide +kernel
theorem dX1_mix_20 : decode cX1_mix 20 = .ok (.sipush 255, 3) := by decide +kernel
theorem dX1_mix_23 : decode cX1_mix 23 = .ok (.iand, 1) := by decide +kernel
theorem dX1_mix_24 : decode cX1_mix 24 = .ok (.istore 4, 2) := by decide +kernel
theorem dX1_mix_26 : decode cX1_mix 26 = .ok (.aload_n 0, 1) := by decide +kernel
theorem dX1_mix_27 : decode cX1_mix 27 = .ok (.getfield 10, 3) := by decide +kernel
theorem dX1_mix_30 : decode cX1_mix 30 = .ok (.iload_n 3, 1) := by decide +kernel
theorem dX1_mix_31 : decode cX1_mix 31 = .ok (.iconst 2, 1) := by decide +kernel
theorem dX1_mix_32 : decode cX1_mix 32 = .ok (.iadd, 1) := by decide +kernel
theorem dX1_mix_33 : decode cX1_mix 33 = .ok (.baload, 1) := by decide +kernel
theorem dX1_mix_34 : decode cX1_mix 34 = .ok (.sipush 255, 3) := by decide +kernel
theorem dX1_mix_37 : decode cX1_mix 37 = .ok (.iand, 1) := by decide +kernel
theorem dX1_mix_38 : decode cX1_mix 38 = .ok (.istore 5, 2) := by decide +kernel
theorem dX1_mix_40 : decode cX1_mix 40 = .ok (.iload_n 3, 1) := by decide +kernel
theorem dX1_mix_41 : decode cX1_mix 41 = .ok (.bipush 8, 2) := by decide +kernel
theorem dX1_mix_43 : decode cX1_mix 43 = .ok (.iadd, 1) := by decide +kernel
theorem dX1_mix_44 : decode cX1_mix 44 = .ok (.istore 6, 2) := by decide +kernel
theorem dX1_mix_46 : decode cX1_mix 46 = .ok (.aload_n 0, 1) := by decide +kernel
theorem dX1_mix_47 : decode cX1_mix 47 = .ok (.aload_n 0, 1) := by decide +kernel
theorem dX1_mix_48 : decode cX1_mix 48 = .ok (.lload_n 1, 1) := by decide +kernel
theorem dX1_mix_49 : decode cX1_mix 49 = .ok (.iload 6, 2) := by decide +kernel
theorem dX1_mix_51 : decode cX1_mix 51 = .ok (.iload 4, 2) := by decide +kernel
theorem dX1_mix_53 : decode cX1_mix 53 = .ok (.invokevirtual 82, 3) := by decide +kernel
theorem dX1_mix_56 : decode cX1_mix 56 = .ok (.iload 6, 2) := by decide +kernel
theorem dX1_mix_58 : decode cX1_mix 58 = .ok (.iload 4, 2) := by decide +kernel
theorem dX1_mix_60 : decode cX1_mix 60 = .ok (.iadd, 1) := by decide +kernel
theorem dX1_mix_61 : decode cX1_mix 61 = .ok (.iload 5, 2) := by decide +kernel
theorem dX1_mix_63 : decode cX1_mix 63 = .ok (.invokevirtual 82, 3) := by decide +kernel
theorem dX1_mix_66 : decode cX1_mix 66 = .ok (.lreturn, 1) := by decide +kernel
theorem dX1_mixRow_0 : decode cX1_mixRow 0 = .ok (.lload_n 1, 1) := by decide +kernel
theorem dX1_mixRow_1 : decode cX1_mixRow 1 = .ok (.ldc2_w 86, 3) := by decide +kernel
theorem dX1_mixRow_4 : decode cX1_mixRow 4 = .ok (.lmul, 1) := by decide +kernel
theorem dX1_mixRow_5 : decode cX1_mixRow 5 = .ok (.iload 4, 2) := by decide +kernel
theorem dX1_mixRow_7 : decode cX1_mixRow 7 = .ok (.i2l, 1) := by decide +kernel
theorem dX1_mixRow_8 : decode cX1_mixRow 8 = .ok (.ladd, 1) := by decide +kernel
theorem dX1_mixRow_9 : decode cX1_mixRow 9 = .ok (.lstore 5, 2) := by decide +kernel
theorem dX1_mixRow_11 : decode cX1_mixRow 11 = .ok (.iload_n 3, 1) := by decide +kernel
theorem dX1_mixRow_12 : decode cX1_mixRow 12 = .ok (.istore 7, 2) := by decide +kernel
theorem dX1_mixRow_14 : decode cX1_mixRow 14 = .ok (.iload 7, 2) := by decide +kernel
theorem dX1_mixRow_16 : decode cX1_mixRow 16 = .ok (.iload_n 3, 1) := by decide +kernel
theorem dX1_mixRow_17 : decode cX1_mixRow 17 = .ok (.iload 4, 2) := by decide +kernel
theorem dX1_mixRow_19 : decode cX1_mixRow 19 = .ok (.iadd, 1) := by decide +kernel
theorem dX1_mixRow_20 : decode cX1_mixRow 20 = .ok (.if_icmp .ge 40, 3) := by decide +kernel
theorem dX1_mixRow_23 : decode cX1_mixRow 23 = .ok (.iload 7, 2) := by decide +kernel
theorem dX1_mixRow_25 : decode cX1_mixRow 25 = .ok (.aload_n 0, 1) := by decide +kernel
theorem dX1_mixRow_26 : decode cX1_mixRow 26 = .ok (.getfield 10, 3) := by decide +kernel
theorem dX1_mixRow_29 : decode cX1_mixRow 29 = .ok (.arraylength, 1) := by decide +kernel
theorem dX1_mixRow_30 : decode cX1_mixRow 30 = .ok (.if_icmp .ge 30, 3) := by decide +kernel
theorem dX1_mixRow_33 : decode cX1_mixRow 33 = .ok (.lload 5, 2) := by decide +kernel
theorem dX1_mixRow_35 : decode cX1_mixRow 35 = .ok (.ldc2_w 86, 3) := by decide +kernel
theorem dX1_mixRow_38 : decode cX1_mixRow 38 = .ok (.lmul, 1) := by decide +kernel
theorem dX1_mixRow_39 : decode cX1_mixRow 39 = .ok (.aload_n 0, 1) := by decide +kernel
theorem dX1_mixRow_40 : decode cX1_mixRow 40 = .ok (.getfield 10, 3) := by decide +kernel
theorem dX1_mixRow_43 : decode cX1_mixRow 43 = .ok (.iload 7, 2) := by decide +kernel
theorem dX1_mixRow_45 : decode cX1_mixRow 45 = .ok (.baload, 1) := by decide +kernel
theorem dX1_mixRow_46 : decode cX1_mixRow 46 = .ok (.sipush 255, 3) := by decide +kernel
theorem dX1_mixRow_49 : decode cX1_mixRow 49 = .ok (.iand, 1) := by decide +kernel
theorem dX1_mixRow_50 : decode cX1_mixRow 50 = .ok (.i2l, 1) := by decide +kernel
theorem dX1_mixRow_51 : decode cX1_mixRow 51 = .ok (.ladd, 1) := by decide +kernel
theorem dX1_mixRow_52 : decode cX1_mixRow 52 = .ok (.lstore 5, 2) := by decide +kernel
theorem dX1_mixRow_54 : decode cX1_mixRow 54 = .ok (.iinc 7 1, 3) := by decide +kernel
theorem dX1_mixRow_57 : decode cX1_mixRow 57 = .ok (.goto (-43), 3) := by decide +kernel
theorem dX1_mixRow_60 : decode cX1_mixRow 60 = .ok (.lload 5, 2) := by decide +kernel
theorem dX1_mixRow_62 : decode cX1_mixRow 62 = .ok (.lreturn, 1) := by decide +kernel
theorem dX2_init_0 : decode cX2_init 0 = .ok (.aload_n 0, 1) := by decide +kernel
