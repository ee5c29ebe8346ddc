theorem dX10_copyEntry_56 : decode cX10_copyEntry 56 = .ok (.invokestatic 102, 3) := by decide +kernel
theorem dX10_copyEntry_59 : decode cX10_copyEntry 59 = .ok (.aload_n 0, 1) := by decide +kernel
theorem dX10_copyEntry_60 : decode cX10_copyEntry 60 = .ok (.getfield 24, 3) := by decide +kernel
theorem dX10_copyEntry_63 : decode cX10_copyEntry 63 = .ok (.getfield 99, 3) := by decide +kernel
theorem dX10_copyEntry_66 : decode cX10_copyEntry 66 = .ok (.iload_n 1, 1) := by decide +kernel
theorem dX10_copyEntry_67 : decode cX10_copyEntry 67 = .ok (.bipush 8, 2) := by decide +kernel
theorem dX10_copyEntry_69 : decode cX10_copyEntry 69 = .ok (.iadd, 1) := by decide +kernel
theorem dX10_copyEntry_70 : decode cX10_copyEntry 70 = .ok (.aload_n 0, 1) := by decide +kernel
theorem dX10_copyEntry_71 : decode cX10_copyEntry 71 = .ok (.getfield 9, 3) := by decide +kernel
theorem dX10_copyEntry_74 : decode cX10_copyEntry 74 = .ok (.iload_n 3, 1) := by decide +kernel
theorem dX10_copyEntry_75 : decode cX10_copyEntry 75 = .ok (.iconst 1, 1) := by decide +kernel
theorem dX10_copyEntry_76 : decode cX10_copyEntry 76 = .ok (.iadd, 1) := by decide +kernel
theorem dX10_copyEntry_77 : decode cX10_copyEntry 77 = .ok (.baload, 1) := by decide +kernel
theorem dX10_copyEntry_78 : decode cX10_copyEntry 78 = .ok (.sipush 255, 3) := by decide +kernel
theorem dX10_copyEntry_81 : decode cX10_copyEntry 81 = .ok (.iand, 1) := by decide +kernel
theorem dX10_copyEntry_82 : decode cX10_copyEntry 82 = .ok (.invokestatic 108, 3) := by decide +kernel
theorem dX10_copyEntry_85 : decode cX10_copyEntry 85 = .ok (.istore 4, 2) := by decide +kernel
theorem dX10_copyEntry_87 : decode cX10_copyEntry 87 = .ok (.iload 4, 2) := by decide +kernel
theorem dX10_copyEntry_89 : decode cX10_copyEntry 89 = .ok (.invokestatic 112, 3) := by decide +kernel
theorem dX10_copyEntry_92 : decode cX10_copyEntry 92 = .ok (.istore 5, 2) := by decide +kernel
theorem dX10_copyEntry_94 : decode cX10_copyEntry 94 = .ok (.iconst 0, 1) := by decide +kernel
theorem dX10_copyEntry_95 : decode cX10_copyEntry 95 = .ok (.istore 6, 2) := by decide +kernel
theorem dX10_copyEntry_97 : decode cX10_copyEntry 97 = .ok (.iload 6, 2) := by decide +kernel
theorem dX10_copyEntry_99 : decode cX10_copyEntry 99 = .ok (.iconst 4, 1) := by decide +kernel
theorem dX10_copyEntry_100 : decode cX10_copyEntry 100 = .ok (.if_icmp .ge 46, 3) := by decide +kernel
theorem dX10_copyEntry_103 : decode cX10_copyEntry 103 = .ok (.iload 4, 2) := by decide +kernel
theorem dX10_copyEntry_105 : decode cX10_copyEntry 105 = .ok (.sipush 4095, 3) := by decide +kernel
theorem dX10_copyEntry_108 : decode cX10_copyEntry 108 = .ok (.iand, 1) := by decide +kernel
theorem dX10_copyEntry_109 : decode cX10_copyEntry 109 = .ok (.istore 7, 2) := by decide +kernel
theorem dX10_copyEntry_111 : decode cX10_copyEntry 111 = .ok (.aload_n 0, 1) := by decide +kernel
theorem dX10_copyEntry_112 : decode cX10_copyEntry 112 = .ok (.getfield 15, 3) := by decide +kernel
theorem dX10_copyEntry_115 : decode cX10_copyEntry 115 = .ok (.iload 7, 2) := by decide +kernel
theorem dX10_copyEntry_117 : decode cX10_copyEntry 117 = .ok (.bipush 8, 2) := by decide +kernel
theorem dX10_copyEntry_119 : decode cX10_copyEntry 119 = .ok (.idiv, 1) := by decide +kernel
theorem dX10_copyEntry_120 : decode cX10_copyEntry 120 = .ok (.dup2, 1) := by decide +kernel
theorem dX10_copyEntry_121 : decode cX10_copyEntry 121 = .ok (.baload, 1) := by decide +kernel
theorem dX10_copyEntry_122 : decode cX10_copyEntry 122 = .ok (.iconst 1, 1) := by decide +kernel
theorem dX10_copyEntry_123 : decode cX10_copyEntry 123 = .ok (.iload 7, 2) := by decide +kernel
theorem dX10_copyEntry_125 : decode cX10_copyEntry 125 = .ok (.bipush 8, 2) := by decide +kernel
theorem dX10_copyEntry_127 : decode cX10_copyEntry 127 = .ok (.irem, 1) := by decide +kernel
theorem dX10_copyEntry_128 : decode cX10_copyEntry 128 = .ok (.ishl, 1) := by decide +kernel
theorem dX10_copyEntry_129 : decode cX10_copyEntry 129 = .ok (.i2b, 1) := by decide +kernel
theorem dX10_copyEntry_130 : decode cX10_copyEntry 130 = .ok (.ior, 1) := by decide +kernel
theorem dX10_copyEntry_131 : decode cX10_copyEntry 131 = .ok (.i2b, 1) := by decide +kernel
theorem dX10_copyEntry_132 : decode cX10_copyEntry 132 = .ok (.bastore, 1) := by decide +kernel
theorem dX10_copyEntry_133 : decode cX10_copyEntry 133 = .ok (.iload 4, 2) := by decide +kernel
theorem dX10_copyEntry_135 : decode cX10_copyEntry 135 = .ok (.iload 5, 2) := by decide +kernel
theorem dX10_copyEntry_137 : decode cX10_copyEntry 137 = .ok (.iadd, 1) := by decide +kernel
theorem dX10_copyEntry_138 : decode cX10_copyEntry 138 = .ok (.istore 4, 2) := by decide +kernel
theorem dX10_copyEntry_140 : decode cX10_copyEntry 140 = .ok (.iinc 6 1, 3) := by decide +kernel
theorem dX10_copyEntry_143 : decode cX10_copyEntry 143 = .ok (.goto (-46), 3) := by decide +kernel
theorem dX10_copyEntry_146 : decode cX10_copyEntry 146 = .ok (.return_, 1) := by decide +kernel
theorem dX10_current_0 : decode cX10_current 0 = .ok (.aload_n 0, 1) := by decide +kernel
theorem dX10_current_1 : decode cX10_current 1 = .ok (.getfield 74, 3) := by decide +kernel
theorem dX10_current_4 : decode cX10_current 4 = .ok (.ifCond .le 27, 3) := by decide +kernel
theorem dX10_current_7 : decode cX10_current 7 = .ok (.aload_n 0, 1) := by decide +kernel
theorem dX10_current_8 : decode cX10_current 8 = .ok (.getfield 74, 3) := by decide +kernel
theorem dX10_current_11 : decode cX10_current 11 = .ok (.sipush 256, 3) := by decide +kernel
theorem dX10_current_14 : decode cX10_current 14 = .ok (.if_icmp .gt 17, 3) := by decide +kernel
theorem dX10_current_17 : decode cX10_current 17 = .ok (.aload_n 0, 1) := by decide +kernel
theorem dX10_current_18 : decode cX10_current 18 = .ok (.getfield 20, 3) := by decide +kernel
theorem dX10_current_21 : decode cX10_current 21 = .ok (.aload_n 0, 1) := by decide +kernel
theorem dX10_current_22 : decode cX10_current 22 = .ok (.getfield 74, 3) := by decide +kernel
theorem dX10_current_25 : decode cX10_current 25 = .ok (.iconst 1, 1) := by decide +kernel
theorem dX10_current_26 : decode cX10_current 26 = .ok (.isub, 1) := by decide +kernel
theorem dX10_current_27 : decode cX10_current 27 = .ok (.aaload, 1) := by decide +kernel
theorem dX10_current_28 : decode cX10_current 28 = .ok (.goto 4, 3) := by decide +kernel
theorem dX10_current_31 : decode cX10_current 31 = .ok (.aconst_null, 1) := by decide +kernel
theorem dX10_current_32 : decode cX10_current 32 = .ok (.areturn, 1) := by decide +kernel
theorem dX10_closeTable_0 : decode cX10_closeTable 0 = .ok (.aload_n 0, 1) := by decide +kernel
theorem dX10_closeTable_1 : decode cX10_closeTable 1 = .ok (.invokevirtual 115, 3) := by decide +kernel
theorem dX10_closeTable_4 : decode cX10_closeTable 4 = .ok (.astore_n 1, 1) := by decide +kernel
theorem dX10_closeTable_5 : decode cX10_closeTable 5 = .ok (.aload_n 1, 1) := by decide +kernel
theorem dX10_closeTable_6 : decode cX10_closeTable 6 = .ok (.ifnull 7, 3) := by decide +kernel
theorem dX10_closeTable_9 : decode cX10_closeTable 9 = .ok (.aload_n 1, 1) := by decide +kernel
theorem dX10_closeTable_10 : decode cX10_closeTable 10 = .ok (.invokevirtual 118, 3) := by decide +kernel
theorem dX10_closeTable_13 : decode cX10_closeTable 13 = .ok (.return_, 1) := by decide +kernel
theorem dX10_writeOut_0 : decode cX10_writeOut 0 = .ok (.aload_n 0, 1) := by decide +kernel
theorem dX10_writeOut_1 : decode cX10_writeOut 1 = .ok (.invokevirtual 115, 3) := by decide +kernel
theorem dX10_writeOut_4 : decode cX10_writeOut 4 = .ok (.astore_n 2, 1) := by decide +kernel
theorem dX10_writeOut_5 : decode cX10_writeOut 5 = .ok (.aload_n 0, 1) := by decide +kernel
theorem dX10_writeOut_6 : decode cX10_writeOut 6 = .ok (.getfield 28, 3) := by decide +kernel
theorem dX10_writeOut_9 : decode cX10_writeOut 9 = .ok (.invokevirtual 121, 3) := by decide +kernel
theorem dX10_writeOut_12 : decode cX10_writeOut 12 = .ok (.istore_n 3, 1) := by decide +kernel
theorem dX10_writeOut_13 : decode cX10_writeOut 13 = .ok (.aload_n 2, 1) := by decide +kernel
theorem dX10_writeOut_14 : decode cX10_writeOut 14 = .ok (.ifnull 31, 3) := by decide +kernel
theorem dX10_writeOut_17 : decode cX10_writeOut 17 = .ok (.iload_n 3, 1) := by decide +kernel
theorem dX10_writeOut_18 : decode cX10_writeOut 18 = .ok (.iconst (-1), 1) := by decide +kernel
theorem dX10_writeOut_19 : decode cX10_writeOut 19 = .ok (.if_icmp .eq 26, 3) := by decide +kernel
theorem dX10_writeOut_22 : decode cX10_writeOut 22 = .ok (.aload_n 2, 1) := by decide +kernel
theorem dX10_writeOut_23 : decode cX10_writeOut 23 = .ok (.iload_n 3, 1) := by decide +kernel
theorem dX10_writeOut_24 : decode cX10_writeOut 24 = .ok (.invokevirtual 125, 3) := by decide +kernel
theorem dX10_writeOut_27 : decode cX10_writeOut 27 = .ok (.aload_n 0, 1) := by decide +kernel
theorem dX10_writeOut_28 : decode cX10_writeOut 28 = .ok (.getfield 24, 3) := by decide +kernel
theorem dX10_writeOut_31 : decode cX10_writeOut 31 = .ok (.iload_n 3, 1) := by decide +kernel
theorem dX10_writeOut_32 : decode cX10_writeOut 32 = .ok (.sipush 512, 3) := by decide +kernel
theorem dX10_writeOut_35 : decode cX10_writeOut 35 = .ok (.imul, 1) := by decide +kernel
theorem dX10_writeOut_36 : decode cX10_writeOut 36 = .ok (.aload_n 1, 1) := by decide +kernel
theorem dX10_writeOut_37 : decode cX10_writeOut 37 = .ok (.iconst 0, 1) := by decide +kernel
theorem dX10_writeOut_38 : decode cX10_writeOut 38 = .ok (.sipush 512, 3) := by decide +kernel
theorem dX10_writeOut_41 : decode cX10_writeOut 41 = .ok (.iconst 0, 1) := by decide +kernel
theorem dX10_writeOut_42 : decode cX10_writeOut 42 = .ok (.invokevirtual 128, 3) := by decide +kernel
theorem dX10_writeOut_45 : decode cX10_writeOut 45 = .ok (.return_, 1) := by decide +kernel
theorem dX11_init_0 : decode cX11_init 0 = .ok (.aload_n 0, 1) := by decide +kernel
theorem dX11_init_1 : decode cX11_init 1 = .ok (.invokespecial 3, 3) := by decide +kernel
theorem dX11_init_4 : decode cX11_init 4 = .ok (.aload_n 0, 1) := by decide +kernel
theorem dX11_init_5 : decode cX11_init 5 = .ok (.new 9, 3) := by decide +kernel
theorem dX11_init_8 : decode cX11_init 8 = .ok (.dup, 1) := by decide +kernel
theorem dX11_init_9 : decode cX11_init 9 = .ok (.invokespecial 11, 3) := by decide +kernel
theorem dX11_init_12 : decode cX11_init 12 = .ok (.putfield 12, 3) := by decide +kernel
theorem dX11_init_15 : decode cX11_init 15 = .ok (.aload_n 0, 1) := by decide +kernel
theorem dX11_init_16 : decode cX11_init 16 = .ok (.new 16, 3) := by decide +kernel
theorem dX11_init_19 : decode cX11_init 19 = .ok (.dup, 1) := by decide +kernel
theorem dX11_init_20 : decode cX11_init 20 = .ok (.bipush 32, 2) := by decide +kernel
theorem dX11_init_22 : decode cX11_init 22 = .ok (.invokespecial 18, 3) := by decide +kernel
theorem dX11_init_25 : decode cX11_init 25 = .ok (.putfield 21, 3) := by decide +kernel
theorem dX11_init_28 : decode cX11_init 28 = .ok (.aload_n 0, 1) := by decide +kernel
theorem dX11_init_29 : decode cX11_init 29 = .ok (.new 16, 3) := by decide +kernel
theorem dX11_init_32 : decode cX11_init 32 = .ok (.dup, 1) := by decide +kernel
theorem dX11_init_33 : decode cX11_init 33 = .ok (.sipush 200, 3) := by decide +kernel
theorem dX11_init_36 : decode cX11_init 36 = .ok (.invokespecial 18, 3) := by decide +kernel
theorem dX11_init_39 : decode cX11_init 39 = .ok (.putfield 25, 3) := by decide +kernel
theorem dX11_init_42 : decode cX11_init 42 = .ok (.aload_n 0, 1) := by decide +kernel
theorem dX11_init_43 : decode cX11_init 43 = .ok (.new 16, 3) := by decide +kernel
theorem dX11_init_46 : decode cX11_init 46 = .ok (.dup, 1) := by decide +kernel
theorem dX11_init_47 : decode cX11_init 47 = .ok (.bipush 32, 2) := by decide +kernel
theorem dX11_init_49 : decode cX11_init 49 = .ok (.invokespecial 18, 3) := by decide +kernel
theorem dX11_init_52 : decode cX11_init 52 = .ok (.putfield 28, 3) := by decide +kernel
theorem dX11_init_55 : decode cX11_init 55 = .ok (.aload_n 0, 1) := by decide +kernel
theorem dX11_init_56 : decode cX11_init 56 = .ok (.new 31, 3) := by decide +kernel
theorem dX11_init_59 : decode cX11_init 59 = .ok (.dup, 1) := by decide +kernel
theorem dX11_init_60 : decode cX11_init 60 = .ok (.invokespecial 33, 3) := by decide +kernel
theorem dX11_init_63 : decode cX11_init 63 = .ok (.putfield 34, 3) := by decide +kernel
theorem dX11_init_66 : decode cX11_init 66 = .ok (.aload_n 0, 1) := by decide +kernel
theorem dX11_init_67 : decode cX11_init 67 = .ok (.new 38, 3) := by decide +kernel
theorem dX11_init_70 : decode cX11_init 70 = .ok (.dup, 1) := by decide +kernel
theorem dX11_init_71 : decode cX11_init 71 = .ok (.invokespecial 40, 3) := by decide +kernel
theorem dX11_init_74 : decode cX11_init 74 = .ok (.putfield 41, 3) := by decide +kernel
theorem dX11_init_77 : decode cX11_init 77 = .ok (.aload_n 0, 1) := by decide +kernel
theorem dX11_init_78 : decode cX11_init 78 = .ok (.new 45, 3) := by decide +kernel
theorem dX11_init_81 : decode cX11_init 81 = .ok (.dup, 1) := by decide +kernel
theorem dX11_init_82 : decode cX11_init 82 = .ok (.aload_n 0, 1) := by decide +kernel
theorem dX11_init_83 : decode cX11_init 83 = .ok (.getfield 12, 3) := by decide +kernel
theorem dX11_init_86 : decode cX11_init 86 = .ok (.invokespecial 47, 3) := by decide +kernel
theorem dX11_init_89 : decode cX11_init 89 = .ok (.putfield 50, 3) := by decide +kernel
theorem dX11_init_92 : decode cX11_init 92 = .ok (.aload_n 0, 1) := by decide +kernel
theorem dX11_init_93 : decode cX11_init 93 = .ok (.new 54, 3) := by decide +kernel
theorem dX11_init_96 : decode cX11_init 96 = .ok (.dup, 1) := by decide +kernel
theorem dX11_init_97 : decode cX11_init 97 = .ok (.aload_n 0, 1) := by decide +kernel
theorem dX11_init_98 : decode cX11_init 98 = .ok (.getfield 12, 3) := by decide +kernel
theorem dX11_init_101 : decode cX11_init 101 = .ok (.invokespecial 56, 3) := by decide +kernel
theorem dX11_init_104 : decode cX11_init 104 = .ok (.putfield 57, 3) := by decide +kernel
theorem dX11_init_107 : decode cX11_init 107 = .ok (.aload_n 0, 1) := by decide +kernel
theorem dX11_init_108 : decode cX11_init 108 = .ok (.iconst 3, 1) := by decide +kernel
theorem dX11_init_109 : decode cX11_init 109 = .ok (.anewarray 61, 3) := by decide +kernel
theorem dX11_init_112 : decode cX11_init 112 = .ok (.putfield 63, 3) := by decide +kernel
theorem dX11_init_115 : decode cX11_init 115 = .ok (.aload_n 0, 1) := by decide +kernel
theorem dX11_init_116 : decode cX11_init 116 = .ok (.new 67, 3) := by decide +kernel
theorem dX11_init_119 : decode cX11_init 119 = .ok (.dup, 1) := by decide +kernel
theorem dX11_init_120 : decode cX11_init 120 = .ok (.aload_n 0, 1) := by decide +kernel
theorem dX11_init_121 : decode cX11_init 121 = .ok (.getfield 12, 3) := by decide +kernel
theorem dX11_init_124 : decode cX11_init 124 = .ok (.invokespecial 69, 3) := by decide +kernel
theorem dX11_init_127 : decode cX11_init 127 = .ok (.putfield 70, 3) := by decide +kernel
theorem dX11_init_130 : decode cX11_init 130 = .ok (.aload_n 0, 1) := by decide +kernel
theorem dX11_init_131 : decode cX11_init 131 = .ok (.new 74, 3) := by decide +kernel
theorem dX11_init_134 : decode cX11_init 134 = .ok (.dup, 1) := by decide +kernel
theorem dX11_init_135 : decode cX11_init 135 = .ok (.aload_n 0, 1) := by decide +kernel
theorem dX11_init_136 : decode cX11_init 136 = .ok (.getfield 12, 3) := by decide +kernel
theorem dX11_init_139 : decode cX11_init 139 = .ok (.aload_n 0, 1) := by decide +kernel
theorem dX11_init_140 : decode cX11_init 140 = .ok (.getfield 57, 3) := by decide +kernel
theorem dX11_init_143 : decode cX11_init 143 = .ok (.invokespecial 76, 3) := by decide +kernel
theorem dX11_init_146 : decode cX11_init 146 = .ok (.putfield 79, 3) := by decide +kernel
theorem dX11_init_149 : decode cX11_init 149 = .ok (.aload_n 0, 1) := by decide +kernel
theorem dX11_init_150 : decode cX11_init 150 = .ok (.new 83, 3) := by decide +kernel
theorem dX11_init_153 : decode cX11_init 153 = .ok (.dup, 1) := by decide +kernel
theorem dX11_init_154 : decode cX11_init 154 = .ok (.aload_n 0, 1) := by decide +kernel
theorem dX11_init_155 : decode cX11_init 155 = .ok (.getfield 12, 3) := by decide +kernel
theorem dX11_init_158 : decode cX11_init 158 = .ok (.invokespecial 85, 3) := by decide +kernel
theorem dX11_init_161 : decode cX11_init 161 = .ok (.putfield 86, 3) := by decide +kernel
theorem dX11_init_164 : decode cX11_init 164 = .ok (.iconst 0, 1) := by decide +kernel
theorem dX11_init_165 : decode cX11_init 165 = .ok (.istore_n 1, 1) := by decide +kernel
theorem dX11_init_166 : decode cX11_init 166 = .ok (.iload_n 1, 1) := by decide +kernel
theorem dX11_init_167 : decode cX11_init 167 = .ok (.iconst 3, 1) := by decide +kernel
theorem dX11_init_168 : decode cX11_init 168 = .ok (.if_icmp .ge 26, 3) := by decide +kernel
theorem dX11_init_171 : decode cX11_init 171 = .ok (.aload_n 0, 1) := by decide +kernel
theorem dX11_init_172 : decode cX11_init 172 = .ok (.getfield 63, 3) := by decide +kernel
theorem dX11_init_175 : decode cX11_init 175 = .ok (.iload_n 1, 1) := by decide +kernel
theorem dX11_init_176 : decode cX11_init 176 = .ok (.new 61, 3) := by decide +kernel
theorem dX11_init_179 : decode cX11_init 179 = .ok (.dup, 1) := by decide +kernel
theorem dX11_init_180 : decode cX11_init 180 = .ok (.aload_n 0, 1) := by decide +kernel
theorem dX11_init_181 : decode cX11_init 181 = .ok (.getfield 12, 3) := by decide +kernel
theorem dX11_init_184 : decode cX11_init 184 = .ok (.invokespecial 90, 3) := by decide +kernel
theorem dX11_init_187 : decode cX11_init 187 = .ok (.aastore, 1) := by decide +kernel
theorem dX11_init_188 : decode cX11_init 188 = .ok (.iinc 1 1, 3) := by decide +kernel
theorem dX11_init_191 : decode cX11_init 191 = .ok (.goto (-25), 3) := by decide +kernel
theorem dX11_init_194 : decode cX11_init 194 = .ok (.return_, 1) := by decide +kernel
theorem dX11_key_0 : decode cX11_key 0 = .ok (.aload_n 0, 1) := by decide +kernel
theorem dX11_key_1 : decode cX11_key 1 = .ok (.getfield 21, 3) := by decide +kernel
theorem dX11_key_4 : decode cX11_key 4 = .ok (.iload_n 3, 1) := by decide +kernel
theorem dX11_key_5 : decode cX11_key 5 = .ok (.iload 4, 2) := by decide +kernel
theorem dX11_key_7 : decode cX11_key 7 = .ok (.invokevirtual 91, 3) := by decide +kernel
theorem dX11_key_10 : decode cX11_key 10 = .ok (.ifCond .ne 13, 3) := by decide +kernel
theorem dX11_key_13 : decode cX11_key 13 = .ok (.new 95, 3) := by decide +kernel
theorem dX11_key_16 : decode cX11_key 16 = .ok (.dup, 1) := by decide +kernel
theorem dX11_key_17 : decode cX11_key 17 = .ok (.ldc 97, 2) := by decide +kernel
theorem dX11_key_19 : decode cX11_key 19 = .ok (.invokespecial 99, 3) := by decide +kernel
theorem dX11_key_22 : decode cX11_key 22 = .ok (.athrow, 1) := by decide +kernel
theorem dX11_key_23 : decode cX11_key 23 = .ok (.aload_n 0, 1) := by decide +kernel
theorem dX11_key_24 : decode cX11_key 24 = .ok (.getfield 21, 3) := by decide +kernel
theorem dX11_key_27 : decode cX11_key 27 = .ok (.lload_n 1, 1) := by decide +kernel
theorem dX11_key_28 : decode cX11_key 28 = .ok (.iload_n 3, 1) := by decide +kernel
theorem dX11_key_29 : decode cX11_key 29 = .ok (.iload 4, 2) := by decide +kernel
theorem dX11_key_31 : decode cX11_key 31 = .ok (.invokevirtual 102, 3) := by decide +kernel
theorem dX11_key_34 : decode cX11_key 34 = .ok (.ireturn, 1) := by decide +kernel
theorem dX11_value_0 : decode cX11_value 0 = .ok (.aload_n 0, 1) := by decide +kernel
theorem dX11_value_1 : decode cX11_value 1 = .ok (.getfield 25, 3) := by decide +kernel
theorem dX11_value_4 : decode cX11_value 4 = .ok (.iload_n 3, 1) := by decide +kernel
theorem dX11_value_5 : decode cX11_value 5 = .ok (.iload 4, 2) := by decide +kernel
theorem dX11_value_7 : decode cX11_value 7 = .ok (.invokevirtual 91, 3) := by decide +kernel
theorem dX11_value_10 : decode cX11_value 10 = .ok (.ifCond .ne 13, 3) := by decide +kernel
theorem dX11_value_13 : decode cX11_value 13 = .ok (.new 95, 3) := by decide +kernel
theorem dX11_value_16 : decode cX11_value 16 = .ok (.dup, 1) := by decide +kernel
theorem dX11_value_17 : decode cX11_value 17 = .ok (.ldc 106, 2) := by decide +kernel
theorem dX11_value_19 : decode cX11_value 19 = .ok (.invokespecial 99, 3) := by decide +kernel
theorem dX11_value_22 : decode cX11_value 22 = .ok (.athrow, 1) := by decide +kernel
theorem dX11_value_23 : decode cX11_value 23 = .ok (.aload_n 0, 1) := by decide +kernel
theorem dX11_value_24 : decode cX11_value 24 = .ok (.getfield 25, 3) := by decide +kernel
theorem dX11_value_27 : decode cX11_value 27 = .ok (.lload_n 1, 1) := by decide +kernel
theorem dX11_value_28 : decode cX11_value 28 = .ok (.iload_n 3, 1) := by decide +kernel
theorem dX11_value_29 : decode cX11_value 29 = .ok (.iload 4, 2) := by decide +kernel
theorem dX11_value_31 : decode cX11_value 31 = .ok (.invokevirtual 102, 3) := by decide +kernel
theorem dX11_value_34 : decode cX11_value 34 = .ok (.ireturn, 1) := by decide +kernel
theorem dX11_begin_0 : decode cX11_begin 0 = .ok (.aload_n 0, 1) := by decide +kernel
theorem dX11_begin_1 : decode cX11_begin 1 = .ok (.invokevirtual 108, 3) := by decide +kernel
theorem dX11_begin_4 : decode cX11_begin 4 = .ok (.aload_n 0, 1) := by decide +kernel
theorem dX11_begin_5 : decode cX11_begin 5 = .ok (.getfield 34, 3) := by decide +kernel
theorem dX11_begin_8 : decode cX11_begin 8 = .ok (.getfield 111, 3) := by decide +kernel
theorem dX11_begin_11 : decode cX11_begin 11 = .ok (.ifCond .eq 13, 3) := by decide +kernel
theorem dX11_begin_14 : decode cX11_begin 14 = .ok (.new 115, 3) := by decide +kernel
theorem dX11_begin_17 : decode cX11_begin 17 = .ok (.dup, 1) := by decide +kernel
theorem dX11_begin_18 : decode cX11_begin 18 = .ok (.ldc 117, 2) := by decide +kernel
theorem dX11_begin_20 : decode cX11_begin 20 = .ok (.invokespecial 119, 3) := by decide +kernel
theorem dX11_begin_23 : decode cX11_begin 23 = .ok (.athrow, 1) := by decide +kernel
theorem dX11_begin_24 : decode cX11_begin 24 = .ok (.aload_n 0, 1) := by decide +kernel
theorem dX11_begin_25 : decode cX11_begin 25 = .ok (.getfield 34, 3) := by decide +kernel
theorem dX11_begin_28 : decode cX11_begin 28 = .ok (.invokevirtual 120, 3) := by decide +kernel
theorem dX11_begin_31 : decode cX11_begin 31 = .ok (.aload_n 0, 1) := by decide +kernel
theorem dX11_begin_32 : decode cX11_begin 32 = .ok (.getfield 34, 3) := by decide +kernel
theorem dX11_begin_35 : decode cX11_begin 35 = .ok (.iconst 1, 1) := by decide +kernel
theorem dX11_begin_36 : decode cX11_begin 36 = .ok (.putfield 111, 3) := by decide +kernel
theorem dX11_begin_39 : decode cX11_begin 39 = .ok (.return_, 1) := by decide +kernel
theorem dX11_put_0 : decode cX11_put 0 = .ok (.aload_n 0, 1) := by decide +kernel
theorem dX11_put_1 : decode cX11_put 1 = .ok (.iconst 1, 1) := by decide +kernel
theorem dX11_put_2 : decode cX11_put 2 = .ok (.invokevirtual 123, 3) := by decide +kernel
theorem dX11_put_5 : decode cX11_put 5 = .ok (.aload_n 0, 1) := by decide +kernel
theorem dX11_put_6 : decode cX11_put 6 = .ok (.getfield 34, 3) := by decide +kernel
theorem dX11_put_9 : decode cX11_put 9 = .ok (.getfield 111, 3) := by decide +kernel
theorem dX11_put_12 : decode cX11_put 12 = .ok (.ifCond .eq 13, 3) := by decide +kernel
theorem dX11_put_15 : decode cX11_put 15 = .ok (.aload_n 0, 1) := by decide +kernel
theorem dX11_put_16 : decode cX11_put 16 = .ok (.getfield 34, 3) := by decide +kernel
theorem dX11_put_19 : decode cX11_put 19 = .ok (.getfield 126, 3) := by decide +kernel
theorem dX11_put_22 : decode cX11_put 22 = .ok (.goto 7, 3) := by decide +kernel
theorem dX11_put_25 : decode cX11_put 25 = .ok (.aload_n 0, 1) := by decide +kernel
theorem dX11_put_26 : decode cX11_put 26 = .ok (.invokevirtual 130, 3) := by decide +kernel
theorem dX11_put_29 : decode cX11_put 29 = .ok (.ireturn, 1) := by decide +kernel
theorem dX11_remove_0 : decode cX11_remove 0 = .ok (.aload_n 0, 1) := by decide +kernel
theorem dX11_remove_1 : decode cX11_remove 1 = .ok (.iconst 2, 1) := by decide +kernel
theorem dX11_remove_2 : decode cX11_remove 2 = .ok (.invokevirtual 123, 3) := by decide +kernel
theorem dX11_remove_5 : decode cX11_remove 5 = .ok (.aload_n 0, 1) := by decide +kernel
theorem dX11_remove_6 : decode cX11_remove 6 = .ok (.getfield 34, 3) := by decide +kernel
theorem dX11_remove_9 : decode cX11_remove 9 = .ok (.getfield 111, 3) := by decide +kernel
theorem dX11_remove_12 : decode cX11_remove 12 = .ok (.ifCond .eq 13, 3) := by decide +kernel
theorem dX11_remove_15 : decode cX11_remove 15 = .ok (.aload_n 0, 1) := by decide +kernel
theorem dX11_remove_16 : decode cX11_remove 16 = .ok (.getfield 34, 3) := by decide +kernel
theorem dX11_remove_19 : decode cX11_remove 19 = .ok (.getfield 126, 3) := by decide +kernel
theorem dX11_remove_22 : decode cX11_remove 22 = .ok (.goto 7, 3) := by decide +kernel
theorem dX11_remove_25 : decode cX11_remove 25 = .ok (.aload_n 0, 1) := by decide +kernel
theorem dX11_remove_26 : decode cX11_remove 26 = .ok (.invokevirtual 130, 3) := by decide +kernel
theorem dX11_remove_29 : decode cX11_remove 29 = .ok (.ireturn, 1) := by decide +kernel
theorem dX11_commit_0 : decode cX11_commit 0 = .ok (.aload_n 0, 1) := by decide +kernel
theorem dX11_commit_1 : decode cX11_commit 1 = .ok (.invokevirtual 134, 3) := by decide +kernel
theorem dX11_commit_4 : decode cX11_commit 4 = .ok (.aload_n 0, 1) := by decide +kernel
theorem dX11_commit_5 : decode cX11_commit 5 = .ok (.getfield 34, 3) := by decide +kernel
theorem dX11_commit_8 : decode cX11_commit 8 = .ok (.iconst 0, 1) := by decide +kernel
theorem dX11_commit_9 : decode cX11_commit 9 = .ok (.putfield 111, 3) := by decide +kernel
theorem dX11_commit_12 : decode cX11_commit 12 = .ok (.aload_n 0, 1) := by decide +kernel
theorem dX11_commit_13 : decode cX11_commit 13 = .ok (.invokevirtual 130, 3) := by decide +kernel
theorem dX11_commit_16 : decode cX11_commit 16 = .ok (.ireturn, 1) := by decide +kernel
theorem dX11_cancel_0 : decode cX11_cancel 0 = .ok (.aload_n 0, 1) := by decide +kernel
theorem dX11_cancel_1 : decode cX11_cancel 1 = .ok (.invokevirtual 134, 3) := by decide +kernel
theorem dX11_cancel_4 : decode cX11_cancel 4 = .ok (.aload_n 0, 1) := by decide +kernel
theorem dX11_cancel_5 : decode cX11_cancel 5 = .ok (.getfield 34, 3) := by decide +kernel
theorem dX11_cancel_8 : decode cX11_cancel 8 = .ok (.iconst 0, 1) := by decide +kernel
theorem dX11_cancel_9 : decode cX11_cancel 9 = .ok (.putfield 111, 3) := by decide +kernel
theorem dX11_cancel_12 : decode cX11_cancel 12 = .ok (.aload_n 0, 1) := by decide +kernel
theorem dX11_cancel_13 : decode cX11_cancel 13 = .ok (.getfield 34, 3) := by decide +kernel
theorem dX11_cancel_16 : decode cX11_cancel 16 = .ok (.getfield 126, 3) := by decide +kernel
theorem dX11_cancel_19 : decode cX11_cancel 19 = .ok (.ireturn, 1) := by decide +kernel
theorem dX11_snapshot_0 : decode cX11_snapshot 0 = .ok (.aload_n 0, 1) := by decide +kernel
theorem dX11_snapshot_1 : decode cX11_snapshot 1 = .ok (.invokevirtual 108, 3) := by decide +kernel
theorem dX11_snapshot_4 : decode cX11_snapshot 4 = .ok (.aload_n 0, 1) := by decide +kernel
theorem dX11_snapshot_5 : decode cX11_snapshot 5 = .ok (.getfield 41, 3) := by decide +kernel
theorem dX11_snapshot_8 : decode cX11_snapshot 8 = .ok (.aload_n 0, 1) := by decide +kernel
theorem dX11_snapshot_9 : decode cX11_snapshot 9 = .ok (.getfield 137, 3) := by decide +kernel
theorem dX11_snapshot_12 : decode cX11_snapshot 12 = .ok (.invokevirtual 140, 3) := by decide +kernel
theorem dX11_snapshot_15 : decode cX11_snapshot 15 = .ok (.istore_n 1, 1) := by decide +kernel
theorem dX11_snapshot_16 : decode cX11_snapshot 16 = .ok (.iload_n 1, 1) := by decide +kernel
theorem dX11_snapshot_17 : decode cX11_snapshot 17 = .ok (.iconst (-1), 1) := by decide +kernel
theorem dX11_snapshot_18 : decode cX11_snapshot 18 = .ok (.if_icmp .ne 13, 3) := by decide +kernel
theorem dX11_snapshot_21 : decode cX11_snapshot 21 = .ok (.new 115, 3) := by decide +kernel
theorem dX11_snapshot_24 : decode cX11_snapshot 24 = .ok (.dup, 1) := by decide +kernel
theorem dX11_snapshot_25 : decode cX11_snapshot 25 = .ok (.ldc 144, 2) := by decide +kernel
theorem dX11_snapshot_27 : decode cX11_snapshot 27 = .ok (.invokespecial 119, 3) := by decide +kernel
theorem dX11_snapshot_30 : decode cX11_snapshot 30 = .ok (.athrow, 1) := by decide +kernel
theorem dX11_snapshot_31 : decode cX11_snapshot 31 = .ok (.iload_n 1, 1) := by decide +kernel
theorem dX11_snapshot_32 : decode cX11_snapshot 32 = .ok (.ireturn, 1) := by decide +kernel
theorem dX11_release_0 : decode cX11_release 0 = .ok (.aload_n 0, 1) := by decide +kernel
theorem dX11_release_1 : decode cX11_release 1 = .ok (.invokevirtual 108, 3) := by decide +kernel
theorem dX11_release_4 : decode cX11_release 4 = .ok (.aload_n 0, 1) := by decide +kernel
theorem dX11_release_5 : decode cX11_release 5 = .ok (.getfield 41, 3) := by decide +kernel
theorem dX11_release_8 : decode cX11_release 8 = .ok (.iload_n 1, 1) := by decide +kernel
theorem dX11_release_9 : decode cX11_release 9 = .ok (.invokevirtual 146, 3) := by decide +kernel
theorem dX11_release_12 : decode cX11_release 12 = .ok (.ifCond .ne 13, 3) := by decide +kernel
theorem dX11_release_15 : decode cX11_release 15 = .ok (.new 150, 3) := by decide +kernel
theorem dX11_release_18 : decode cX11_release 18 = .ok (.dup, 1) := by decide +kernel
theorem dX11_release_19 : decode cX11_release 19 = .ok (.ldc 152, 2) := by decide +kernel
theorem dX11_release_21 : decode cX11_release 21 = .ok (.invokespecial 154, 3) := by decide +kernel
theorem dX11_release_24 : decode cX11_release 24 = .ok (.athrow, 1) := by decide +kernel
theorem dX11_release_25 : decode cX11_release 25 = .ok (.aload_n 0, 1) := by decide +kernel
theorem dX11_release_26 : decode cX11_release 26 = .ok (.getfield 41, 3) := by decide +kernel
theorem dX11_release_29 : decode cX11_release 29 = .ok (.iload_n 1, 1) := by decide +kernel
theorem dX11_release_30 : decode cX11_release 30 = .ok (.invokevirtual 155, 3) := by decide +kernel
theorem dX11_release_33 : decode cX11_release 33 = .ok (.return_, 1) := by decide +kernel
theorem dX11_get_0 : decode cX11_get 0 = .ok (.aload_n 0, 1) := by decide +kernel
theorem dX11_get_1 : decode cX11_get 1 = .ok (.iload_n 1, 1) := by decide +kernel
theorem dX11_get_2 : decode cX11_get 2 = .ok (.invokevirtual 158, 3) := by decide +kernel
theorem dX11_get_5 : decode cX11_get 5 = .ok (.istore_n 2, 1) := by decide +kernel
theorem dX11_get_6 : decode cX11_get 6 = .ok (.aload_n 0, 1) := by decide +kernel
theorem dX11_get_7 : decode cX11_get 7 = .ok (.aload_n 0, 1) := by decide +kernel
theorem dX11_get_8 : decode cX11_get 8 = .ok (.getfield 21, 3) := by decide +kernel
theorem dX11_get_11 : decode cX11_get 11 = .ok (.iload_n 2, 1) := by decide +kernel
theorem dX11_get_12 : decode cX11_get 12 = .ok (.invokevirtual 161, 3) := by decide +kernel
theorem dX11_get_15 : decode cX11_get 15 = .ok (.istore_n 3, 1) := by decide +kernel
theorem dX11_get_16 : decode cX11_get 16 = .ok (.aload_n 0, 1) := by decide +kernel
theorem dX11_get_17 : decode cX11_get 17 = .ok (.getfield 12, 3) := by decide +kernel
theorem dX11_get_20 : decode cX11_get 20 = .ok (.iload_n 3, 1) := by decide +kernel
theorem dX11_get_21 : decode cX11_get 21 = .ok (.invokevirtual 165, 3) := by decide +kernel
theorem dX11_get_24 : decode cX11_get 24 = .ok (.iconst 1, 1) := by decide +kernel
theorem dX11_get_25 : decode cX11_get 25 = .ok (.if_icmp .eq 5, 3) := by decide +kernel
theorem dX11_get_28 : decode cX11_get 28 = .ok (.iconst (-1), 1) := by decide +kernel
theorem dX11_get_29 : decode cX11_get 29 = .ok (.ireturn, 1) := by decide +kernel
theorem dX11_get_30 : decode cX11_get 30 = .ok (.aload_n 0, 1) := by decide +kernel
theorem dX11_get_31 : decode cX11_get 31 = .ok (.getfield 12, 3) := by decide +kernel
theorem dX11_get_34 : decode cX11_get 34 = .ok (.iload_n 3, 1) := by decide +kernel
theorem dX11_get_35 : decode cX11_get 35 = .ok (.aload_n 0, 1) := by decide +kernel
theorem dX11_get_36 : decode cX11_get 36 = .ok (.getfield 25, 3) := by decide +kernel
theorem dX11_get_39 : decode cX11_get 39 = .ok (.invokevirtual 168, 3) := by decide +kernel
theorem dX11_get_42 : decode cX11_get 42 = .ok (.aload_n 0, 1) := by decide +kernel
theorem dX11_get_43 : decode cX11_get 43 = .ok (.getfield 25, 3) := by decide +kernel
theorem dX11_get_46 : decode cX11_get 46 = .ok (.getfield 172, 3) := by decide +kernel
theorem dX11_get_49 : decode cX11_get 49 = .ok (.ireturn, 1) := by decide +kernel
theorem dX11_seek_0 : decode cX11_seek 0 = .ok (.aload_n 0, 1) := by decide +kernel
theorem dX11_seek_1 : decode cX11_seek 1 = .ok (.iload_n 1, 1) := by decide +kernel
theorem dX11_seek_2 : decode cX11_seek 2 = .ok (.invokevirtual 158, 3) := by decide +kernel
theorem dX11_seek_5 : decode cX11_seek 5 = .ok (.istore_n 3, 1) := by decide +kernel
theorem dX11_seek_6 : decode cX11_seek 6 = .ok (.aload_n 0, 1) := by decide +kernel
theorem dX11_seek_7 : decode cX11_seek 7 = .ok (.aload_n 0, 1) := by decide +kernel
theorem dX11_seek_8 : decode cX11_seek 8 = .ok (.iload_n 3, 1) := by decide +kernel
theorem dX11_seek_9 : decode cX11_seek 9 = .ok (.iload_n 2, 1) := by decide +kernel
theorem dX11_seek_10 : decode cX11_seek 10 = .ok (.ifCond .eq 7, 3) := by decide +kernel
theorem dX11_seek_13 : decode cX11_seek 13 = .ok (.iconst 0, 1) := by decide +kernel
theorem dX11_seek_14 : decode cX11_seek 14 = .ok (.goto 5, 3) := by decide +kernel
theorem dX11_seek_17 : decode cX11_seek 17 = .ok (.ldc 175, 2) := by decide +kernel
theorem dX11_seek_19 : decode cX11_seek 19 = .ok (.invokevirtual 176, 3) := by decide +kernel
theorem dX11_seek_22 : decode cX11_seek 22 = .ok (.invokevirtual 180, 3) := by decide +kernel
theorem dX11_seek_25 : decode cX11_seek 25 = .ok (.ireturn, 1) := by decide +kernel
theorem dX11_before_0 : decode cX11_before 0 = .ok (.aload_n 0, 1) := by decide +kernel
theorem dX11_before_1 : decode cX11_before 1 = .ok (.iload_n 1, 1) := by decide +kernel
theorem dX11_before_2 : decode cX11_before 2 = .ok (.invokevirtual 158, 3) := by decide +kernel
theorem dX11_before_5 : decode cX11_before 5 = .ok (.istore_n 2, 1) := by decide +kernel
theorem dX11_before_6 : decode cX11_before 6 = .ok (.aload_n 0, 1) := by decide +kernel
theorem dX11_before_7 : decode cX11_before 7 = .ok (.aload_n 0, 1) := by decide +kernel
theorem dX11_before_8 : decode cX11_before 8 = .ok (.iload_n 2, 1) := by decide +kernel
theorem dX11_before_9 : decode cX11_before 9 = .ok (.invokevirtual 181, 3) := by decide +kernel
theorem dX11_before_12 : decode cX11_before 12 = .ok (.invokevirtual 180, 3) := by decide +kernel
theorem dX11_before_15 : decode cX11_before 15 = .ok (.ireturn, 1) := by decide +kernel
theorem dX11_bytes_0 : decode cX11_bytes 0 = .ok (.iload_n 2, 1) := by decide +kernel
theorem dX11_bytes_1 : decode cX11_bytes 1 = .ok (.ifCond .lt 10, 3) := by decide +kernel
theorem dX11_bytes_4 : decode cX11_bytes 4 = .ok (.iload_n 2, 1) := by decide +kernel
theorem dX11_bytes_5 : decode cX11_bytes 5 = .ok (.sipush 200, 3) := by decide +kernel
theorem dX11_bytes_8 : decode cX11_bytes 8 = .ok (.if_icmp .le 13, 3) := by decide +kernel
theorem dX11_bytes_11 : decode cX11_bytes 11 = .ok (.new 95, 3) := by decide +kernel
theorem dX11_bytes_14 : decode cX11_bytes 14 = .ok (.dup, 1) := by decide +kernel
theorem dX11_bytes_15 : decode cX11_bytes 15 = .ok (.ldc 184, 2) := by decide +kernel
theorem dX11_bytes_17 : decode cX11_bytes 17 = .ok (.invokespecial 99, 3) := by decide +kernel
theorem dX11_bytes_20 : decode cX11_bytes 20 = .ok (.athrow, 1) := by decide +kernel
theorem dX11_bytes_21 : decode cX11_bytes 21 = .ok (.iload_n 1, 1) := by decide +kernel
theorem dX11_bytes_22 : decode cX11_bytes 22 = .ok (.ifCond .eq 14, 3) := by decide +kernel
theorem dX11_bytes_25 : decode cX11_bytes 25 = .ok (.aload_n 0, 1) := by decide +kernel
theorem dX11_bytes_26 : decode cX11_bytes 26 = .ok (.getfield 25, 3) := by decide +kernel
theorem dX11_bytes_29 : decode cX11_bytes 29 = .ok (.iload_n 2, 1) := by decide +kernel
theorem dX11_bytes_30 : decode cX11_bytes 30 = .ok (.invokevirtual 186, 3) := by decide +kernel
theorem dX11_bytes_33 : decode cX11_bytes 33 = .ok (.goto 11, 3) := by decide +kernel
theorem dX11_bytes_36 : decode cX11_bytes 36 = .ok (.aload_n 0, 1) := by decide +kernel
theorem dX11_bytes_37 : decode cX11_bytes 37 = .ok (.getfield 21, 3) := by decide +kernel
theorem dX11_bytes_40 : decode cX11_bytes 40 = .ok (.iload_n 2, 1) := by decide +kernel
theorem dX11_bytes_41 : decode cX11_bytes 41 = .ok (.invokevirtual 186, 3) := by decide +kernel
theorem dX11_bytes_44 : decode cX11_bytes 44 = .ok (.lreturn, 1) := by decide +kernel
theorem dX11_flush_0 : decode cX11_flush 0 = .ok (.aload_n 0, 1) := by decide +kernel
theorem dX11_flush_1 : decode cX11_flush 1 = .ok (.invokevirtual 108, 3) := by decide +kernel
theorem dX11_flush_4 : decode cX11_flush 4 = .ok (.aload_n 0, 1) := by decide +kernel
theorem dX11_flush_5 : decode cX11_flush 5 = .ok (.getfield 12, 3) := by decide +kernel
theorem dX11_flush_8 : decode cX11_flush 8 = .ok (.iconst 0, 1) := by decide +kernel
theorem dX11_flush_9 : decode cX11_flush 9 = .ok (.invokevirtual 190, 3) := by decide +kernel
theorem dX11_flush_12 : decode cX11_flush 12 = .ok (.aload_n 0, 1) := by decide +kernel
theorem dX11_flush_13 : decode cX11_flush 13 = .ok (.iconst 0, 1) := by decide +kernel
theorem dX11_flush_14 : decode cX11_flush 14 = .ok (.invokevirtual 194, 3) := by decide +kernel
theorem dX11_flush_17 : decode cX11_flush 17 = .ok (.aload_n 0, 1) := by decide +kernel
theorem dX11_flush_18 : decode cX11_flush 18 = .ok (.getfield 12, 3) := by decide +kernel
theorem dX11_flush_21 : decode cX11_flush 21 = .ok (.invokevirtual 197, 3) := by decide +kernel
theorem dX11_flush_24 : decode cX11_flush 24 = .ok (.return_, 1) := by decide +kernel
theorem dX11_compact_0 : decode cX11_compact 0 = .ok (.aload_n 0, 1) := by decide +kernel
theorem dX11_compact_1 : decode cX11_compact 1 = .ok (.invokevirtual 108, 3) := by decide +kernel
theorem dX11_compact_4 : decode cX11_compact 4 = .ok (.aload_n 0, 1) := by decide +kernel
theorem dX11_compact_5 : decode cX11_compact 5 = .ok (.getfield 12, 3) := by decide +kernel
theorem dX11_compact_8 : decode cX11_compact 8 = .ok (.iconst 0, 1) := by decide +kernel
theorem dX11_compact_9 : decode cX11_compact 9 = .ok (.invokevirtual 190, 3) := by decide +kernel
theorem dX11_compact_12 : decode cX11_compact 12 = .ok (.iconst 0, 1) := by decide +kernel
theorem dX11_compact_13 : decode cX11_compact 13 = .ok (.istore_n 1, 1) := by decide +kernel
theorem dX11_compact_14 : decode cX11_compact 14 = .ok (.iload_n 1, 1) := by decide +kernel
theorem dX11_compact_15 : decode cX11_compact 15 = .ok (.iconst 3, 1) := by decide +kernel
theorem dX11_compact_16 : decode cX11_compact 16 = .ok (.if_icmp .ge 18, 3) := by decide +kernel
theorem dX11_compact_19 : decode cX11_compact 19 = .ok (.aload_n 0, 1) := by decide +kernel
theorem dX11_compact_20 : decode cX11_compact 20 = .ok (.getfield 63, 3) := by decide +kernel
theorem dX11_compact_23 : decode cX11_compact 23 = .ok (.iload_n 1, 1) := by decide +kernel
theorem dX11_compact_24 : decode cX11_compact 24 = .ok (.aaload, 1) := by decide +kernel
theorem dX11_compact_25 : decode cX11_compact 25 = .ok (.invokevirtual 200, 3) := by decide +kernel
theorem dX11_compact_28 : decode cX11_compact 28 = .ok (.iinc 1 1, 3) := by decide +kernel
theorem dX11_compact_31 : decode cX11_compact 31 = .ok (.goto (-17), 3) := by decide +kernel
theorem dX11_compact_34 : decode cX11_compact 34 = .ok (.aload_n 0, 1) := by decide +kernel
theorem dX11_compact_35 : decode cX11_compact 35 = .ok (.iconst 2, 1) := by decide +kernel
theorem dX11_compact_36 : decode cX11_compact 36 = .ok (.aload_n 0, 1) := by decide +kernel
theorem dX11_compact_37 : decode cX11_compact 37 = .ok (.getfield 50, 3) := by decide +kernel
theorem dX11_compact_40 : decode cX11_compact 40 = .ok (.getfield 203, 3) := by decide +kernel
theorem dX11_compact_43 : decode cX11_compact 43 = .ok (.ifCond .le 7, 3) := by decide +kernel
theorem dX11_compact_46 : decode cX11_compact 46 = .ok (.iconst 1, 1) := by decide +kernel
theorem dX11_compact_47 : decode cX11_compact 47 = .ok (.goto 4, 3) := by decide +kernel
theorem dX11_compact_50 : decode cX11_compact 50 = .ok (.iconst 0, 1) := by decide +kernel
theorem dX11_compact_51 : decode cX11_compact 51 = .ok (.invokevirtual 206, 3) := by decide +kernel
theorem dX11_compact_54 : decode cX11_compact 54 = .ok (.pop, 1) := by decide +kernel
theorem dX11_compact_55 : decode cX11_compact 55 = .ok (.aload_n 0, 1) := by decide +kernel
theorem dX11_compact_56 : decode cX11_compact 56 = .ok (.getfield 12, 3) := by decide +kernel
theorem dX11_compact_59 : decode cX11_compact 59 = .ok (.invokevirtual 197, 3) := by decide +kernel
theorem dX11_compact_62 : decode cX11_compact 62 = .ok (.return_, 1) := by decide +kernel
theorem dX11_power_0 : decode cX11_power 0 = .ok (.iload_n 1, 1) := by decide +kernel
theorem dX11_power_1 : decode cX11_power 1 = .ok (.ifCond .lt 30, 3) := by decide +kernel
theorem dX11_power_4 : decode cX11_power 4 = .ok (.iload_n 1, 1) := by decide +kernel
theorem dX11_power_5 : decode cX11_power 5 = .ok (.iconst 3, 1) := by decide +kernel
theorem dX11_power_6 : decode cX11_power 6 = .ok (.if_icmp .gt 25, 3) := by decide +kernel
theorem dX11_power_9 : decode cX11_power 9 = .ok (.iload_n 2, 1) := by decide +kernel
theorem dX11_power_10 : decode cX11_power 10 = .ok (.ifCond .lt 21, 3) := by decide +kernel
theorem dX11_power_13 : decode cX11_power 13 = .ok (.iload_n 2, 1) := by decide +kernel
theorem dX11_power_14 : decode cX11_power 14 = .ok (.sipush 400, 3) := by decide +kernel
theorem dX11_power_17 : decode cX11_power 17 = .ok (.if_icmp .gt 14, 3) := by decide +kernel
theorem dX11_power_20 : decode cX11_power 20 = .ok (.iload_n 3, 1) := by decide +kernel
theorem dX11_power_21 : decode cX11_power 21 = .ok (.ifCond .lt 10, 3) := by decide +kernel
theorem dX11_power_24 : decode cX11_power 24 = .ok (.iload_n 3, 1) := by decide +kernel
theorem dX11_power_25 : decode cX11_power 25 = .ok (.sipush 300, 3) := by decide +kernel
theorem dX11_power_28 : decode cX11_power 28 = .ok (.if_icmp .le 13, 3) := by decide +kernel
theorem dX11_power_31 : decode cX11_power 31 = .ok (.new 95, 3) := by decide +kernel
theorem dX11_power_34 : decode cX11_power 34 = .ok (.dup, 1) := by decide +kernel
theorem dX11_power_35 : decode cX11_power 35 = .ok (.ldc 209, 2) := by decide +kernel
theorem dX11_power_37 : decode cX11_power 37 = .ok (.invokespecial 99, 3) := by decide +kernel
theorem dX11_power_40 : decode cX11_power 40 = .ok (.athrow, 1) := by decide +kernel
theorem dX11_power_41 : decode cX11_power 41 = .ok (.aload_n 0, 1) := by decide +kernel
theorem dX11_power_42 : decode cX11_power 42 = .ok (.getfield 12, 3) := by decide +kernel
theorem dX11_power_45 : decode cX11_power 45 = .ok (.iload_n 1, 1) := by decide +kernel
theorem dX11_power_46 : decode cX11_power 46 = .ok (.iload_n 2, 1) := by decide +kernel
theorem dX11_power_47 : decode cX11_power 47 = .ok (.iload_n 3, 1) := by decide +kernel
theorem dX11_power_48 : decode cX11_power 48 = .ok (.invokevirtual 211, 3) := by decide +kernel
theorem dX11_power_51 : decode cX11_power 51 = .ok (.return_, 1) := by decide +kernel
theorem dX11_reopen_0 : decode cX11_reopen 0 = .ok (.aload_n 0, 1) := by decide +kernel
theorem dX11_reopen_1 : decode cX11_reopen 1 = .ok (.getfield 34, 3) := by decide +kernel
theorem dX11_reopen_4 : decode cX11_reopen 4 = .ok (.iconst 0, 1) := by decide +kernel
theorem dX11_reopen_5 : decode cX11_reopen 5 = .ok (.putfield 111, 3) := by decide +kernel
theorem dX11_reopen_8 : decode cX11_reopen 8 = .ok (.aload_n 0, 1) := by decide +kernel
theorem dX11_reopen_9 : decode cX11_reopen 9 = .ok (.getfield 41, 3) := by decide +kernel
theorem dX11_reopen_12 : decode cX11_reopen 12 = .ok (.invokevirtual 215, 3) := by decide +kernel
theorem dX11_reopen_15 : decode cX11_reopen 15 = .ok (.aload_n 0, 1) := by decide +kernel
theorem dX11_reopen_16 : decode cX11_reopen 16 = .ok (.invokevirtual 218, 3) := by decide +kernel
theorem dX11_reopen_19 : decode cX11_reopen 19 = .ok (.aload_n 0, 1) := by decide +kernel
theorem dX11_reopen_20 : decode cX11_reopen 20 = .ok (.invokevirtual 221, 3) := by decide +kernel
theorem dX11_reopen_23 : decode cX11_reopen 23 = .ok (.aload_n 0, 1) := by decide +kernel
theorem dX11_reopen_24 : decode cX11_reopen 24 = .ok (.getfield 12, 3) := by decide +kernel
theorem dX11_reopen_27 : decode cX11_reopen 27 = .ok (.iconst 1, 1) := by decide +kernel
theorem dX11_reopen_28 : decode cX11_reopen 28 = .ok (.putfield 224, 3) := by decide +kernel
theorem dX11_reopen_31 : decode cX11_reopen 31 = .ok (.aload_n 0, 1) := by decide +kernel
theorem dX11_reopen_32 : decode cX11_reopen 32 = .ok (.getfield 12, 3) := by decide +kernel
theorem dX11_reopen_35 : decode cX11_reopen 35 = .ok (.iconst 0, 1) := by decide +kernel
theorem dX11_reopen_36 : decode cX11_reopen 36 = .ok (.invokevirtual 190, 3) := by decide +kernel
theorem dX11_reopen_39 : decode cX11_reopen 39 = .ok (.aload_n 0, 1) := by decide +kernel
theorem dX11_reopen_40 : decode cX11_reopen 40 = .ok (.iconst (-1), 1) := by decide +kernel
theorem dX11_reopen_41 : decode cX11_reopen 41 = .ok (.invokevirtual 194, 3) := by decide +kernel
theorem dX11_reopen_44 : decode cX11_reopen 44 = .ok (.aload_n 0, 1) := by decide +kernel
theorem dX11_reopen_45 : decode cX11_reopen 45 = .ok (.getfield 12, 3) := by decide +kernel
theorem dX11_reopen_48 : decode cX11_reopen 48 = .ok (.invokevirtual 197, 3) := by decide +kernel
theorem dX11_reopen_51 : decode cX11_reopen 51 = .ok (.aload_n 0, 1) := by decide +kernel
theorem dX11_reopen_52 : decode cX11_reopen 52 = .ok (.getfield 12, 3) := by decide +kernel
theorem dX11_reopen_55 : decode cX11_reopen 55 = .ok (.iconst 3, 1) := by decide +kernel
theorem dX11_reopen_56 : decode cX11_reopen 56 = .ok (.iconst 0, 1) := by decide +kernel
theorem dX11_reopen_57 : decode cX11_reopen 57 = .ok (.iconst 0, 1) := by decide +kernel
theorem dX11_reopen_58 : decode cX11_reopen 58 = .ok (.invokevirtual 211, 3) := by decide +kernel
theorem dX11_reopen_61 : decode cX11_reopen 61 = .ok (.aload_n 0, 1) := by decide +kernel
theorem dX11_reopen_62 : decode cX11_reopen 62 = .ok (.getfield 227, 3) := by decide +kernel
theorem dX11_reopen_65 : decode cX11_reopen 65 = .ok (.ireturn, 1) := by decide +kernel
theorem dX11_told_0 : decode cX11_told 0 = .ok (.aload_n 0, 1) := by decide +kernel
theorem dX11_told_1 : decode cX11_told 1 = .ok (.getfield 12, 3) := by decide +kernel
theorem dX11_told_4 : decode cX11_told 4 = .ok (.getfield 224, 3) := by decide +kernel
theorem dX11_told_7 : decode cX11_told 7 = .ok (.istore_n 2, 1) := by decide +kernel
theorem dX11_told_8 : decode cX11_told 8 = .ok (.iload_n 1, 1) := by decide +kernel
theorem dX11_told_9 : decode cX11_told 9 = .ok (.tableswitch 146 0 7 #[47, 57, 70, 83, 109, 125, 130, 138], 47) := by decide +kernel
theorem dX11_told_56 : decode cX11_told 56 = .ok (.iload_n 2, 1) := by decide +kernel
theorem dX11_told_57 : decode cX11_told 57 = .ok (.ifCond .eq 7, 3) := by decide +kernel
theorem dX11_told_60 : decode cX11_told 60 = .ok (.iconst 1, 1) := by decide +kernel
theorem dX11_told_61 : decode cX11_told 61 = .ok (.goto 4, 3) := by decide +kernel
theorem dX11_told_64 : decode cX11_told 64 = .ok (.iconst 0, 1) := by decide +kernel
theorem dX11_told_65 : decode cX11_told 65 = .ok (.ireturn, 1) := by decide +kernel
theorem dX11_told_66 : decode cX11_told 66 = .ok (.iload_n 2, 1) := by decide +kernel
theorem dX11_told_67 : decode cX11_told 67 = .ok (.ifCond .eq 10, 3) := by decide +kernel
theorem dX11_told_70 : decode cX11_told 70 = .ok (.aload_n 0, 1) := by decide +kernel
theorem dX11_told_71 : decode cX11_told 71 = .ok (.getfield 227, 3) := by decide +kernel
theorem dX11_told_74 : decode cX11_told 74 = .ok (.goto 4, 3) := by decide +kernel
theorem dX11_told_77 : decode cX11_told 77 = .ok (.iconst 0, 1) := by decide +kernel
theorem dX11_told_78 : decode cX11_told 78 = .ok (.ireturn, 1) := by decide +kernel
theorem dX11_told_79 : decode cX11_told 79 = .ok (.iload_n 2, 1) := by decide +kernel
theorem dX11_told_80 : decode cX11_told 80 = .ok (.ifCond .eq 10, 3) := by decide +kernel
theorem dX11_told_83 : decode cX11_told 83 = .ok (.aload_n 0, 1) := by decide +kernel
theorem dX11_told_84 : decode cX11_told 84 = .ok (.getfield 230, 3) := by decide +kernel
theorem dX11_told_87 : decode cX11_told 87 = .ok (.goto 4, 3) := by decide +kernel
theorem dX11_told_90 : decode cX11_told 90 = .ok (.iconst 0, 1) := by decide +kernel
theorem dX11_told_91 : decode cX11_told 91 = .ok (.ireturn, 1) := by decide +kernel
theorem dX11_told_92 : decode cX11_told 92 = .ok (.iload_n 2, 1) := by decide +kernel
theorem dX11_told_93 : decode cX11_told 93 = .ok (.ifCond .eq 23, 3) := by decide +kernel
theorem dX11_told_96 : decode cX11_told 96 = .ok (.aload_n 0, 1) := by decide +kernel
theorem dX11_told_97 : decode cX11_told 97 = .ok (.getfield 34, 3) := by decide +kernel
theorem dX11_told_100 : decode cX11_told 100 = .ok (.getfield 111, 3) := by decide +kernel
theorem dX11_told_103 : decode cX11_told 103 = .ok (.ifCond .eq 13, 3) := by decide +kernel
theorem dX11_told_106 : decode cX11_told 106 = .ok (.aload_n 0, 1) := by decide +kernel
theorem dX11_told_107 : decode cX11_told 107 = .ok (.getfield 34, 3) := by decide +kernel
theorem dX11_told_110 : decode cX11_told 110 = .ok (.getfield 126, 3) := by decide +kernel
theorem dX11_told_113 : decode cX11_told 113 = .ok (.goto 4, 3) := by decide +kernel
theorem dX11_told_116 : decode cX11_told 116 = .ok (.iconst (-1), 1) := by decide +kernel
theorem dX11_told_117 : decode cX11_told 117 = .ok (.ireturn, 1) := by decide +kernel
theorem dX11_told_118 : decode cX11_told 118 = .ok (.iload_n 2, 1) := by decide +kernel
theorem dX11_told_119 : decode cX11_told 119 = .ok (.ifCond .eq 13, 3) := by decide +kernel
theorem dX11_told_122 : decode cX11_told 122 = .ok (.aload_n 0, 1) := by decide +kernel
theorem dX11_told_123 : decode cX11_told 123 = .ok (.getfield 41, 3) := by decide +kernel
theorem dX11_told_126 : decode cX11_told 126 = .ok (.invokevirtual 233, 3) := by decide +kernel
theorem dX11_told_129 : decode cX11_told 129 = .ok (.goto 4, 3) := by decide +kernel
theorem dX11_told_132 : decode cX11_told 132 = .ok (.iconst 0, 1) := by decide +kernel
theorem dX11_told_133 : decode cX11_told 133 = .ok (.ireturn, 1) := by decide +kernel
theorem dX11_told_134 : decode cX11_told 134 = .ok (.aload_n 0, 1) := by decide +kernel
theorem dX11_told_135 : decode cX11_told 135 = .ok (.getfield 137, 3) := by decide +kernel
theorem dX11_told_138 : decode cX11_told 138 = .ok (.ireturn, 1) := by decide +kernel
theorem dX11_told_139 : decode cX11_told 139 = .ok (.aload_n 0, 1) := by decide +kernel
theorem dX11_told_140 : decode cX11_told 140 = .ok (.getfield 21, 3) := by decide +kernel
theorem dX11_told_143 : decode cX11_told 143 = .ok (.getfield 172, 3) := by decide +kernel
theorem dX11_told_146 : decode cX11_told 146 = .ok (.ireturn, 1) := by decide +kernel
theorem dX11_told_147 : decode cX11_told 147 = .ok (.aload_n 0, 1) := by decide +kernel
theorem dX11_told_148 : decode cX11_told 148 = .ok (.getfield 25, 3) := by decide +kernel
theorem dX11_told_151 : decode cX11_told 151 = .ok (.getfield 172, 3) := by decide +kernel
theorem dX11_told_154 : decode cX11_told 154 = .ok (.ireturn, 1) := by decide +kernel
theorem dX11_told_155 : decode cX11_told 155 = .ok (.new 95, 3) := by decide +kernel
theorem dX11_told_158 : decode cX11_told 158 = .ok (.dup, 1) := by decide +kernel
theorem dX11_told_159 : decode cX11_told 159 = .ok (.ldc 236, 2) := by decide +kernel
theorem dX11_told_161 : decode cX11_told 161 = .ok (.invokespecial 99, 3) := by decide +kernel
theorem dX11_told_164 : decode cX11_told 164 = .ok (.athrow, 1) := by decide +kernel
theorem dX11_digest_0 : decode cX11_digest 0 = .ok (.aload_n 0, 1) := by decide +kernel
theorem dX11_digest_1 : decode cX11_digest 1 = .ok (.iload_n 1, 1) := by decide +kernel
theorem dX11_digest_2 : decode cX11_digest 2 = .ok (.invokevirtual 158, 3) := by decide +kernel
theorem dX11_digest_5 : decode cX11_digest 5 = .ok (.istore_n 2, 1) := by decide +kernel
theorem dX11_digest_6 : decode cX11_digest 6 = .ok (.aload_n 0, 1) := by decide +kernel
theorem dX11_digest_7 : decode cX11_digest 7 = .ok (.invokevirtual 238, 3) := by decide +kernel
theorem dX11_digest_10 : decode cX11_digest 10 = .ok (.ldc2_w 241, 3) := by decide +kernel
theorem dX11_digest_13 : decode cX11_digest 13 = .ok (.lstore_n 3, 1) := by decide +kernel
theorem dX11_digest_14 : decode cX11_digest 14 = .ok (.aload_n 0, 1) := by decide +kernel
theorem dX11_digest_15 : decode cX11_digest 15 = .ok (.getfield 70, 3) := by decide +kernel
theorem dX11_digest_18 : decode cX11_digest 18 = .ok (.iconst 0, 1) := by decide +kernel
theorem dX11_digest_19 : decode cX11_digest 19 = .ok (.iload_n 2, 1) := by decide +kernel
theorem dX11_digest_20 : decode cX11_digest 20 = .ok (.invokevirtual 243, 3) := by decide +kernel
theorem dX11_digest_23 : decode cX11_digest 23 = .ok (.istore 5, 2) := by decide +kernel
theorem dX11_digest_25 : decode cX11_digest 25 = .ok (.iconst 0, 1) := by decide +kernel
theorem dX11_digest_26 : decode cX11_digest 26 = .ok (.istore 6, 2) := by decide +kernel
theorem dX11_digest_28 : decode cX11_digest 28 = .ok (.iload 6, 2) := by decide +kernel
theorem dX11_digest_30 : decode cX11_digest 30 = .ok (.sipush 2048, 3) := by decide +kernel
theorem dX11_digest_33 : decode cX11_digest 33 = .ok (.if_icmp .ge 48, 3) := by decide +kernel
theorem dX11_digest_36 : decode cX11_digest 36 = .ok (.iload 5, 2) := by decide +kernel
theorem dX11_digest_38 : decode cX11_digest 38 = .ok (.iconst (-1), 1) := by decide +kernel
theorem dX11_digest_39 : decode cX11_digest 39 = .ok (.if_icmp .eq 42, 3) := by decide +kernel
theorem dX11_digest_42 : decode cX11_digest 42 = .ok (.aload_n 0, 1) := by decide +kernel
theorem dX11_digest_43 : decode cX11_digest 43 = .ok (.getfield 12, 3) := by decide +kernel
theorem dX11_digest_46 : decode cX11_digest 46 = .ok (.lload_n 3, 1) := by decide +kernel
theorem dX11_digest_47 : decode cX11_digest 47 = .ok (.aload_n 0, 1) := by decide +kernel
theorem dX11_digest_48 : decode cX11_digest 48 = .ok (.getfield 70, 3) := by decide +kernel
theorem dX11_digest_51 : decode cX11_digest 51 = .ok (.getfield 246, 3) := by decide +kernel
theorem dX11_digest_54 : decode cX11_digest 54 = .ok (.iload 5, 2) := by decide +kernel
theorem dX11_digest_56 : decode cX11_digest 56 = .ok (.iaload, 1) := by decide +kernel
theorem dX11_digest_57 : decode cX11_digest 57 = .ok (.invokevirtual 250, 3) := by decide +kernel
theorem dX11_digest_60 : decode cX11_digest 60 = .ok (.lstore_n 3, 1) := by decide +kernel
theorem dX11_digest_61 : decode cX11_digest 61 = .ok (.aload_n 0, 1) := by decide +kernel
theorem dX11_digest_62 : decode cX11_digest 62 = .ok (.getfield 70, 3) := by decide +kernel
theorem dX11_digest_65 : decode cX11_digest 65 = .ok (.iload 5, 2) := by decide +kernel
theorem dX11_digest_67 : decode cX11_digest 67 = .ok (.iconst 1, 1) := by decide +kernel
theorem dX11_digest_68 : decode cX11_digest 68 = .ok (.iadd, 1) := by decide +kernel
theorem dX11_digest_69 : decode cX11_digest 69 = .ok (.iload_n 2, 1) := by decide +kernel
theorem dX11_digest_70 : decode cX11_digest 70 = .ok (.invokevirtual 243, 3) := by decide +kernel
theorem dX11_digest_73 : decode cX11_digest 73 = .ok (.istore 5, 2) := by decide +kernel
theorem dX11_digest_75 : decode cX11_digest 75 = .ok (.iinc 6 1, 3) := by decide +kernel
theorem dX11_digest_78 : decode cX11_digest 78 = .ok (.goto (-50), 3) := by decide +kernel
theorem dX11_digest_81 : decode cX11_digest 81 = .ok (.lload_n 3, 1) := by decide +kernel
theorem dX11_digest_82 : decode cX11_digest 82 = .ok (.lreturn, 1) := by decide +kernel
theorem dX11_check_0 : decode cX11_check 0 = .ok (.aload_n 0, 1) := by decide +kernel
theorem dX11_check_1 : decode cX11_check 1 = .ok (.invokevirtual 108, 3) := by decide +kernel
theorem dX11_check_4 : decode cX11_check 4 = .ok (.aload_n 0, 1) := by decide +kernel
theorem dX11_check_5 : decode cX11_check 5 = .ok (.getfield 57, 3) := by decide +kernel
theorem dX11_check_8 : decode cX11_check 8 = .ok (.aload_n 0, 1) := by decide +kernel
theorem dX11_check_9 : decode cX11_check 9 = .ok (.getfield 63, 3) := by decide +kernel
theorem dX11_check_12 : decode cX11_check 12 = .ok (.invokevirtual 254, 3) := by decide +kernel
theorem dX11_check_15 : decode cX11_check 15 = .ok (.istore_n 1, 1) := by decide +kernel
theorem dX11_check_16 : decode cX11_check 16 = .ok (.iconst 0, 1) := by decide +kernel
theorem dX11_check_17 : decode cX11_check 17 = .ok (.istore_n 2, 1) := by decide +kernel
theorem dX11_check_18 : decode cX11_check 18 = .ok (.iload_n 2, 1) := by decide +kernel
theorem dX11_check_19 : decode cX11_check 19 = .ok (.iconst 3, 1) := by decide +kernel
theorem dX11_check_20 : decode cX11_check 20 = .ok (.if_icmp .ge 31, 3) := by decide +kernel
theorem dX11_check_23 : decode cX11_check 23 = .ok (.iload_n 1, 1) := by decide +kernel
theorem dX11_check_24 : decode cX11_check 24 = .ok (.aload_n 0, 1) := by decide +kernel
theorem dX11_check_25 : decode cX11_check 25 = .ok (.getfield 63, 3) := by decide +kernel
theorem dX11_check_28 : decode cX11_check 28 = .ok (.iload_n 2, 1) := by decide +kernel
theorem dX11_check_29 : decode cX11_check 29 = .ok (.aaload, 1) := by decide +kernel
theorem dX11_check_30 : decode cX11_check 30 = .ok (.invokevirtual 258, 3) := by decide +kernel
theorem dX11_check_33 : decode cX11_check 33 = .ok (.aload_n 0, 1) := by decide +kernel
theorem dX11_check_34 : decode cX11_check 34 = .ok (.getfield 63, 3) := by decide +kernel
theorem dX11_check_37 : decode cX11_check 37 = .ok (.iload_n 2, 1) := by decide +kernel
theorem dX11_check_38 : decode cX11_check 38 = .ok (.aaload, 1) := by decide +kernel
theorem dX11_check_39 : decode cX11_check 39 = .ok (.invokevirtual 261, 3) := by decide +kernel
theorem dX11_check_42 : decode cX11_check 42 = .ok (.iadd, 1) := by decide +kernel
theorem dX11_check_43 : decode cX11_check 43 = .ok (.iadd, 1) := by decide +kernel
theorem dX11_check_44 : decode cX11_check 44 = .ok (.istore_n 1, 1) := by decide +kernel
theorem dX11_check_45 : decode cX11_check 45 = .ok (.iinc 2 1, 3) := by decide +kernel
theorem dX11_check_48 : decode cX11_check 48 = .ok (.goto (-30), 3) := by decide +kernel
theorem dX11_check_51 : decode cX11_check 51 = .ok (.iload_n 1, 1) := by decide +kernel
theorem dX11_check_52 : decode cX11_check 52 = .ok (.ireturn, 1) := by decide +kernel
theorem dX11_requireOn_0 : decode cX11_requireOn 0 = .ok (.aload_n 0, 1) := by decide +kernel
theorem dX11_requireOn_1 : decode cX11_requireOn 1 = .ok (.getfield 12, 3) := by decide +kernel
theorem dX11_requireOn_4 : decode cX11_requireOn 4 = .ok (.getfield 224, 3) := by decide +kernel
theorem dX11_requireOn_7 : decode cX11_requireOn 7 = .ok (.ifCond .ne 14, 3) := by decide +kernel
theorem dX11_requireOn_10 : decode cX11_requireOn 10 = .ok (.new 115, 3) := by decide +kernel
theorem dX11_requireOn_13 : decode cX11_requireOn 13 = .ok (.dup, 1) := by decide +kernel
theorem dX11_requireOn_14 : decode cX11_requireOn 14 = .ok (.ldc_w 264, 3) := by decide +kernel
theorem dX11_requireOn_17 : decode cX11_requireOn 17 = .ok (.invokespecial 119, 3) := by decide +kernel
theorem dX11_requireOn_20 : decode cX11_requireOn 20 = .ok (.athrow, 1) := by decide +kernel
theorem dX11_requireOn_21 : decode cX11_requireOn 21 = .ok (.return_, 1) := by decide +kernel
theorem dX11_requireBatch_0 : decode cX11_requireBatch 0 = .ok (.aload_n 0, 1) := by decide +kernel
theorem dX11_requireBatch_1 : decode cX11_requireBatch 1 = .ok (.invokevirtual 108, 3) := by decide +kernel
theorem dX11_requireBatch_4 : decode cX11_requireBatch 4 = .ok (.aload_n 0, 1) := by decide +kernel
theorem dX11_requireBatch_5 : decode cX11_requireBatch 5 = .ok (.getfield 34, 3) := by decide +kernel
theorem dX11_requireBatch_8 : decode cX11_requireBatch 8 = .ok (.getfield 111, 3) := by decide +kernel
theorem dX11_requireBatch_11 : decode cX11_requireBatch 11 = .ok (.ifCond .ne 14, 3) := by decide +kernel
theorem dX11_requireBatch_14 : decode cX11_requireBatch 14 = .ok (.new 115, 3) := by decide +kernel
theorem dX11_requireBatch_17 : decode cX11_requireBatch 17 = .ok (.dup, 1) := by decide +kernel
theorem dX11_requireBatch_18 : decode cX11_requireBatch 18 = .ok (.ldc_w 266, 3) := by decide +kernel
theorem dX11_requireBatch_21 : decode cX11_requireBatch 21 = .ok (.invokespecial 119, 3) := by decide +kernel
theorem dX11_requireBatch_24 : decode cX11_requireBatch 24 = .ok (.athrow, 1) := by decide +kernel
theorem dX11_requireBatch_25 : decode cX11_requireBatch 25 = .ok (.return_, 1) := by decide +kernel
theorem dX11_viewOf_0 : decode cX11_viewOf 0 = .ok (.aload_n 0, 1) := by decide +kernel
theorem dX11_viewOf_1 : decode cX11_viewOf 1 = .ok (.invokevirtual 108, 3) := by decide +kernel
theorem dX11_viewOf_4 : decode cX11_viewOf 4 = .ok (.iload_n 1, 1) := by decide +kernel
theorem dX11_viewOf_5 : decode cX11_viewOf 5 = .ok (.iconst (-1), 1) := by decide +kernel
theorem dX11_viewOf_6 : decode cX11_viewOf 6 = .ok (.if_icmp .ne 6, 3) := by decide +kernel
theorem dX11_viewOf_9 : decode cX11_viewOf 9 = .ok (.ldc 175, 2) := by decide +kernel
theorem dX11_viewOf_11 : decode cX11_viewOf 11 = .ok (.ireturn, 1) := by decide +kernel
theorem dX11_viewOf_12 : decode cX11_viewOf 12 = .ok (.aload_n 0, 1) := by decide +kernel
theorem dX11_viewOf_13 : decode cX11_viewOf 13 = .ok (.getfield 41, 3) := by decide +kernel
theorem dX11_viewOf_16 : decode cX11_viewOf 16 = .ok (.iload_n 1, 1) := by decide +kernel
theorem dX11_viewOf_17 : decode cX11_viewOf 17 = .ok (.invokevirtual 146, 3) := by decide +kernel
theorem dX11_viewOf_20 : decode cX11_viewOf 20 = .ok (.ifCond .ne 13, 3) := by decide +kernel
theorem dX11_viewOf_23 : decode cX11_viewOf 23 = .ok (.new 150, 3) := by decide +kernel
theorem dX11_viewOf_26 : decode cX11_viewOf 26 = .ok (.dup, 1) := by decide +kernel
theorem dX11_viewOf_27 : decode cX11_viewOf 27 = .ok (.ldc 152, 2) := by decide +kernel
theorem dX11_viewOf_29 : decode cX11_viewOf 29 = .ok (.invokespecial 154, 3) := by decide +kernel
theorem dX11_viewOf_32 : decode cX11_viewOf 32 = .ok (.athrow, 1) := by decide +kernel
theorem dX11_viewOf_33 : decode cX11_viewOf 33 = .ok (.aload_n 0, 1) := by decide +kernel
theorem dX11_viewOf_34 : decode cX11_viewOf 34 = .ok (.getfield 41, 3) := by decide +kernel
theorem dX11_viewOf_37 : decode cX11_viewOf 37 = .ok (.getfield 268, 3) := by decide +kernel
theorem dX11_viewOf_40 : decode cX11_viewOf 40 = .ok (.iload_n 1, 1) := by decide +kernel
theorem dX11_viewOf_41 : decode cX11_viewOf 41 = .ok (.iaload, 1) := by decide +kernel
theorem dX11_viewOf_42 : decode cX11_viewOf 42 = .ok (.ireturn, 1) := by decide +kernel
theorem dX11_addStep_0 : decode cX11_addStep 0 = .ok (.aload_n 0, 1) := by decide +kernel
theorem dX11_addStep_1 : decode cX11_addStep 1 = .ok (.invokevirtual 108, 3) := by decide +kernel
theorem dX11_addStep_4 : decode cX11_addStep 4 = .ok (.aload_n 0, 1) := by decide +kernel
theorem dX11_addStep_5 : decode cX11_addStep 5 = .ok (.getfield 21, 3) := by decide +kernel
theorem dX11_addStep_8 : decode cX11_addStep 8 = .ok (.getfield 172, 3) := by decide +kernel
theorem dX11_addStep_11 : decode cX11_addStep 11 = .ok (.ifCond .ne 14, 3) := by decide +kernel
theorem dX11_addStep_14 : decode cX11_addStep 14 = .ok (.new 95, 3) := by decide +kernel
theorem dX11_addStep_17 : decode cX11_addStep 17 = .ok (.dup, 1) := by decide +kernel
theorem dX11_addStep_18 : decode cX11_addStep 18 = .ok (.ldc_w 270, 3) := by decide +kernel
theorem dX11_addStep_21 : decode cX11_addStep 21 = .ok (.invokespecial 99, 3) := by decide +kernel
theorem dX11_addStep_24 : decode cX11_addStep 24 = .ok (.athrow, 1) := by decide +kernel
theorem dX11_addStep_25 : decode cX11_addStep 25 = .ok (.aload_n 0, 1) := by decide +kernel
theorem dX11_addStep_26 : decode cX11_addStep 26 = .ok (.getfield 34, 3) := by decide +kernel
theorem dX11_addStep_29 : decode cX11_addStep 29 = .ok (.getfield 111, 3) := by decide +kernel
theorem dX11_addStep_32 : decode cX11_addStep 32 = .ok (.ifCond .ne 10, 3) := by decide +kernel
theorem dX11_addStep_35 : decode cX11_addStep 35 = .ok (.aload_n 0, 1) := by decide +kernel
theorem dX11_addStep_36 : decode cX11_addStep 36 = .ok (.getfield 34, 3) := by decide +kernel
theorem dX11_addStep_39 : decode cX11_addStep 39 = .ok (.invokevirtual 120, 3) := by decide +kernel
theorem dX11_addStep_42 : decode cX11_addStep 42 = .ok (.aload_n 0, 1) := by decide +kernel
theorem dX11_addStep_43 : decode cX11_addStep 43 = .ok (.getfield 34, 3) := by decide +kernel
theorem dX11_addStep_46 : decode cX11_addStep 46 = .ok (.getfield 126, 3) := by decide +kernel
theorem dX11_addStep_49 : decode cX11_addStep 49 = .ok (.bipush 64, 2) := by decide +kernel
theorem dX11_addStep_51 : decode cX11_addStep 51 = .ok (.if_icmp .lt 14, 3) := by decide +kernel
theorem dX11_addStep_54 : decode cX11_addStep 54 = .ok (.new 115, 3) := by decide +kernel
theorem dX11_addStep_57 : decode cX11_addStep 57 = .ok (.dup, 1) := by decide +kernel
theorem dX11_addStep_58 : decode cX11_addStep 58 = .ok (.ldc_w 272, 3) := by decide +kernel
theorem dX11_addStep_61 : decode cX11_addStep 61 = .ok (.invokespecial 119, 3) := by decide +kernel
theorem dX11_addStep_64 : decode cX11_addStep 64 = .ok (.athrow, 1) := by decide +kernel
theorem dX11_addStep_65 : decode cX11_addStep 65 = .ok (.aload_n 0, 1) := by decide +kernel
theorem dX11_addStep_66 : decode cX11_addStep 66 = .ok (.getfield 34, 3) := by decide +kernel
theorem dX11_addStep_69 : decode cX11_addStep 69 = .ok (.iload_n 1, 1) := by decide +kernel
theorem dX11_addStep_70 : decode cX11_addStep 70 = .ok (.aload_n 0, 1) := by decide +kernel
theorem dX11_addStep_71 : decode cX11_addStep 71 = .ok (.getfield 21, 3) := by decide +kernel
theorem dX11_addStep_74 : decode cX11_addStep 74 = .ok (.aload_n 0, 1) := by decide +kernel
theorem dX11_addStep_75 : decode cX11_addStep 75 = .ok (.getfield 25, 3) := by decide +kernel
theorem dX11_addStep_78 : decode cX11_addStep 78 = .ok (.invokevirtual 274, 3) := by decide +kernel
theorem dX11_addStep_81 : decode cX11_addStep 81 = .ok (.return_, 1) := by decide +kernel
theorem dX11_finish_0 : decode cX11_finish 0 = .ok (.aload_n 0, 1) := by decide +kernel
theorem dX11_finish_1 : decode cX11_finish 1 = .ok (.invokevirtual 278, 3) := by decide +kernel
theorem dX11_finish_4 : decode cX11_finish 4 = .ok (.aload_n 0, 1) := by decide +kernel
theorem dX11_finish_5 : decode cX11_finish 5 = .ok (.getfield 281, 3) := by decide +kernel
theorem dX11_finish_8 : decode cX11_finish 8 = .ok (.sipush 16000, 3) := by decide +kernel
theorem dX11_finish_11 : decode cX11_finish 11 = .ok (.if_icmp .le 14, 3) := by decide +kernel
theorem dX11_finish_14 : decode cX11_finish 14 = .ok (.new 115, 3) := by decide +kernel
theorem dX11_finish_17 : decode cX11_finish 17 = .ok (.dup, 1) := by decide +kernel
theorem dX11_finish_18 : decode cX11_finish 18 = .ok (.ldc_w 284, 3) := by decide +kernel
theorem dX11_finish_21 : decode cX11_finish 21 = .ok (.invokespecial 119, 3) := by decide +kernel
theorem dX11_finish_24 : decode cX11_finish 24 = .ok (.athrow, 1) := by decide +kernel
theorem dX11_finish_25 : decode cX11_finish 25 = .ok (.aload_n 0, 1) := by decide +kernel
theorem dX11_finish_26 : decode cX11_finish 26 = .ok (.getfield 50, 3) := by decide +kernel
theorem dX11_finish_29 : decode cX11_finish 29 = .ok (.aload_n 0, 1) := by decide +kernel
theorem dX11_finish_30 : decode cX11_finish 30 = .ok (.getfield 34, 3) := by decide +kernel
theorem dX11_finish_33 : decode cX11_finish 33 = .ok (.invokevirtual 286, 3) := by decide +kernel
theorem dX11_finish_36 : decode cX11_finish 36 = .ok (.ifCond .ne 14, 3) := by decide +kernel
theorem dX11_finish_39 : decode cX11_finish 39 = .ok (.new 115, 3) := by decide +kernel
theorem dX11_finish_42 : decode cX11_finish 42 = .ok (.dup, 1) := by decide +kernel
theorem dX11_finish_43 : decode cX11_finish 43 = .ok (.ldc_w 290, 3) := by decide +kernel
theorem dX11_finish_46 : decode cX11_finish 46 = .ok (.invokespecial 119, 3) := by decide +kernel
theorem dX11_finish_49 : decode cX11_finish 49 = .ok (.athrow, 1) := by decide +kernel
theorem dX11_finish_50 : decode cX11_finish 50 = .ok (.aload_n 0, 1) := by decide +kernel
theorem dX11_finish_51 : decode cX11_finish 51 = .ok (.getfield 12, 3) := by decide +kernel
theorem dX11_finish_54 : decode cX11_finish 54 = .ok (.iconst 1, 1) := by decide +kernel
theorem dX11_finish_55 : decode cX11_finish 55 = .ok (.invokevirtual 190, 3) := by decide +kernel
theorem dX11_finish_58 : decode cX11_finish 58 = .ok (.aload_n 0, 1) := by decide +kernel
theorem dX11_finish_59 : decode cX11_finish 59 = .ok (.getfield 34, 3) := by decide +kernel
theorem dX11_finish_62 : decode cX11_finish 62 = .ok (.aload_n 0, 1) := by decide +kernel
theorem dX11_finish_63 : decode cX11_finish 63 = .ok (.getfield 137, 3) := by decide +kernel
theorem dX11_finish_66 : decode cX11_finish 66 = .ok (.iconst 1, 1) := by decide +kernel
theorem dX11_finish_67 : decode cX11_finish 67 = .ok (.iadd, 1) := by decide +kernel
theorem dX11_finish_68 : decode cX11_finish 68 = .ok (.invokevirtual 292, 3) := by decide +kernel
theorem dX11_finish_71 : decode cX11_finish 71 = .ok (.aload_n 0, 1) := by decide +kernel
theorem dX11_finish_72 : decode cX11_finish 72 = .ok (.getfield 50, 3) := by decide +kernel
theorem dX11_finish_75 : decode cX11_finish 75 = .ok (.aload_n 0, 1) := by decide +kernel
theorem dX11_finish_76 : decode cX11_finish 76 = .ok (.getfield 34, 3) := by decide +kernel
theorem dX11_finish_79 : decode cX11_finish 79 = .ok (.invokevirtual 295, 3) := by decide +kernel
theorem dX11_finish_82 : decode cX11_finish 82 = .ok (.aload_n 0, 1) := by decide +kernel
theorem dX11_finish_83 : decode cX11_finish 83 = .ok (.dup, 1) := by decide +kernel
theorem dX11_finish_84 : decode cX11_finish 84 = .ok (.getfield 137, 3) := by decide +kernel
theorem dX11_finish_87 : decode cX11_finish 87 = .ok (.iconst 1, 1) := by decide +kernel
theorem dX11_finish_88 : decode cX11_finish 88 = .ok (.iadd, 1) := by decide +kernel
theorem dX11_finish_89 : decode cX11_finish 89 = .ok (.putfield 137, 3) := by decide +kernel
theorem dX11_finish_92 : decode cX11_finish 92 = .ok (.aload_n 0, 1) := by decide +kernel
theorem dX11_finish_93 : decode cX11_finish 93 = .ok (.aload_n 0, 1) := by decide +kernel
theorem dX11_finish_94 : decode cX11_finish 94 = .ok (.getfield 281, 3) := by decide +kernel
theorem dX11_finish_97 : decode cX11_finish 97 = .ok (.putfield 227, 3) := by decide +kernel
theorem dX11_finish_100 : decode cX11_finish 100 = .ok (.aload_n 0, 1) := by decide +kernel
theorem dX11_finish_101 : decode cX11_finish 101 = .ok (.aload_n 0, 1) := by decide +kernel
theorem dX11_finish_102 : decode cX11_finish 102 = .ok (.getfield 298, 3) := by decide +kernel
theorem dX11_finish_105 : decode cX11_finish 105 = .ok (.putfield 230, 3) := by decide +kernel
theorem dX11_finish_108 : decode cX11_finish 108 = .ok (.aload_n 0, 1) := by decide +kernel
theorem dX11_finish_109 : decode cX11_finish 109 = .ok (.sipush 2048, 3) := by decide +kernel
theorem dX11_finish_112 : decode cX11_finish 112 = .ok (.invokevirtual 194, 3) := by decide +kernel
theorem dX11_finish_115 : decode cX11_finish 115 = .ok (.aload_n 0, 1) := by decide +kernel
theorem dX11_finish_116 : decode cX11_finish 116 = .ok (.getfield 12, 3) := by decide +kernel
theorem dX11_finish_119 : decode cX11_finish 119 = .ok (.invokevirtual 197, 3) := by decide +kernel
theorem dX11_finish_122 : decode cX11_finish 122 = .ok (.aload_n 0, 1) := by decide +kernel
theorem dX11_finish_123 : decode cX11_finish 123 = .ok (.getfield 227, 3) := by decide +kernel
theorem dX11_finish_126 : decode cX11_finish 126 = .ok (.ireturn, 1) := by decide +kernel
theorem dX11_weigh_0 : decode cX11_weigh 0 = .ok (.aload_n 0, 1) := by decide +kernel
theorem dX11_weigh_1 : decode cX11_weigh 1 = .ok (.aload_n 0, 1) := by decide +kernel
theorem dX11_weigh_2 : decode cX11_weigh 2 = .ok (.getfield 227, 3) := by decide +kernel
theorem dX11_weigh_5 : decode cX11_weigh 5 = .ok (.putfield 281, 3) := by decide +kernel
theorem dX11_weigh_8 : decode cX11_weigh 8 = .ok (.aload_n 0, 1) := by decide +kernel
theorem dX11_weigh_9 : decode cX11_weigh 9 = .ok (.aload_n 0, 1) := by decide +kernel
theorem dX11_weigh_10 : decode cX11_weigh 10 = .ok (.getfield 230, 3) := by decide +kernel
theorem dX11_weigh_13 : decode cX11_weigh 13 = .ok (.putfield 298, 3) := by decide +kernel
theorem dX11_weigh_16 : decode cX11_weigh 16 = .ok (.iconst 0, 1) := by decide +kernel
theorem dX11_weigh_17 : decode cX11_weigh 17 = .ok (.istore_n 1, 1) := by decide +kernel
theorem dX11_weigh_18 : decode cX11_weigh 18 = .ok (.iload_n 1, 1) := by decide +kernel
theorem dX11_weigh_19 : decode cX11_weigh 19 = .ok (.aload_n 0, 1) := by decide +kernel
theorem dX11_weigh_20 : decode cX11_weigh 20 = .ok (.getfield 34, 3) := by decide +kernel
theorem dX11_weigh_23 : decode cX11_weigh 23 = .ok (.getfield 126, 3) := by decide +kernel
theorem dX11_weigh_26 : decode cX11_weigh 26 = .ok (.if_icmp .ge 121, 3) := by decide +kernel
theorem dX11_weigh_29 : decode cX11_weigh 29 = .ok (.aload_n 0, 1) := by decide +kernel
theorem dX11_weigh_30 : decode cX11_weigh 30 = .ok (.getfield 34, 3) := by decide +kernel
theorem dX11_weigh_33 : decode cX11_weigh 33 = .ok (.iload_n 1, 1) := by decide +kernel
theorem dX11_weigh_34 : decode cX11_weigh 34 = .ok (.invokevirtual 301, 3) := by decide +kernel
theorem dX11_weigh_37 : decode cX11_weigh 37 = .ok (.ifCond .eq 104, 3) := by decide +kernel
theorem dX11_weigh_40 : decode cX11_weigh 40 = .ok (.aload_n 0, 1) := by decide +kernel
theorem dX11_weigh_41 : decode cX11_weigh 41 = .ok (.getfield 34, 3) := by decide +kernel
theorem dX11_weigh_44 : decode cX11_weigh 44 = .ok (.iload_n 1, 1) := by decide +kernel
theorem dX11_weigh_45 : decode cX11_weigh 45 = .ok (.aload_n 0, 1) := by decide +kernel
theorem dX11_weigh_46 : decode cX11_weigh 46 = .ok (.getfield 28, 3) := by decide +kernel
theorem dX11_weigh_49 : decode cX11_weigh 49 = .ok (.invokevirtual 304, 3) := by decide +kernel
theorem dX11_weigh_52 : decode cX11_weigh 52 = .ok (.aload_n 0, 1) := by decide +kernel
theorem dX11_weigh_53 : decode cX11_weigh 53 = .ok (.aload_n 0, 1) := by decide +kernel
theorem dX11_weigh_54 : decode cX11_weigh 54 = .ok (.getfield 28, 3) := by decide +kernel
theorem dX11_weigh_57 : decode cX11_weigh 57 = .ok (.ldc 175, 2) := by decide +kernel
theorem dX11_weigh_59 : decode cX11_weigh 59 = .ok (.invokevirtual 161, 3) := by decide +kernel
theorem dX11_weigh_62 : decode cX11_weigh 62 = .ok (.istore_n 2, 1) := by decide +kernel
theorem dX11_weigh_63 : decode cX11_weigh 63 = .ok (.aload_n 0, 1) := by decide +kernel
theorem dX11_weigh_64 : decode cX11_weigh 64 = .ok (.getfield 12, 3) := by decide +kernel
theorem dX11_weigh_67 : decode cX11_weigh 67 = .ok (.iload_n 2, 1) := by decide +kernel
theorem dX11_weigh_68 : decode cX11_weigh 68 = .ok (.invokevirtual 165, 3) := by decide +kernel
theorem dX11_weigh_71 : decode cX11_weigh 71 = .ok (.iconst 1, 1) := by decide +kernel
theorem dX11_weigh_72 : decode cX11_weigh 72 = .ok (.if_icmp .ne 30, 3) := by decide +kernel
theorem dX11_weigh_75 : decode cX11_weigh 75 = .ok (.aload_n 0, 1) := by decide +kernel
theorem dX11_weigh_76 : decode cX11_weigh 76 = .ok (.dup, 1) := by decide +kernel
theorem dX11_weigh_77 : decode cX11_weigh 77 = .ok (.getfield 281, 3) := by decide +kernel
theorem dX11_weigh_80 : decode cX11_weigh 80 = .ok (.aload_n 0, 1) := by decide +kernel
theorem dX11_weigh_81 : decode cX11_weigh 81 = .ok (.getfield 12, 3) := by decide +kernel
theorem dX11_weigh_84 : decode cX11_weigh 84 = .ok (.iload_n 2, 1) := by decide +kernel
theorem dX11_weigh_85 : decode cX11_weigh 85 = .ok (.invokevirtual 307, 3) := by decide +kernel
theorem dX11_weigh_88 : decode cX11_weigh 88 = .ok (.isub, 1) := by decide +kernel
theorem dX11_weigh_89 : decode cX11_weigh 89 = .ok (.putfield 281, 3) := by decide +kernel
theorem dX11_weigh_92 : decode cX11_weigh 92 = .ok (.aload_n 0, 1) := by decide +kernel
theorem dX11_weigh_93 : decode cX11_weigh 93 = .ok (.dup, 1) := by decide +kernel
theorem dX11_weigh_94 : decode cX11_weigh 94 = .ok (.getfield 298, 3) := by decide +kernel
theorem dX11_weigh_97 : decode cX11_weigh 97 = .ok (.iconst 1, 1) := by decide +kernel
theorem dX11_weigh_98 : decode cX11_weigh 98 = .ok (.isub, 1) := by decide +kernel
theorem dX11_weigh_99 : decode cX11_weigh 99 = .ok (.putfield 298, 3) := by decide +kernel
theorem dX11_weigh_102 : decode cX11_weigh 102 = .ok (.aload_n 0, 1) := by decide +kernel
theorem dX11_weigh_103 : decode cX11_weigh 103 = .ok (.getfield 34, 3) := by decide +kernel
theorem dX11_weigh_106 : decode cX11_weigh 106 = .ok (.iload_n 1, 1) := by decide +kernel
theorem dX11_weigh_107 : decode cX11_weigh 107 = .ok (.invokevirtual 310, 3) := by decide +kernel
theorem dX11_weigh_110 : decode cX11_weigh 110 = .ok (.iconst 1, 1) := by decide +kernel
theorem dX11_weigh_111 : decode cX11_weigh 111 = .ok (.if_icmp .ne 30, 3) := by decide +kernel
theorem dX11_weigh_114 : decode cX11_weigh 114 = .ok (.aload_n 0, 1) := by decide +kernel
theorem dX11_weigh_115 : decode cX11_weigh 115 = .ok (.dup, 1) := by decide +kernel
theorem dX11_weigh_116 : decode cX11_weigh 116 = .ok (.getfield 281, 3) := by decide +kernel
theorem dX11_weigh_119 : decode cX11_weigh 119 = .ok (.aload_n 0, 1) := by decide +kernel
theorem dX11_weigh_120 : decode cX11_weigh 120 = .ok (.getfield 34, 3) := by decide +kernel
theorem dX11_weigh_123 : decode cX11_weigh 123 = .ok (.iload_n 1, 1) := by decide +kernel
theorem dX11_weigh_124 : decode cX11_weigh 124 = .ok (.invokevirtual 311, 3) := by decide +kernel
theorem dX11_weigh_127 : decode cX11_weigh 127 = .ok (.iadd, 1) := by decide +kernel
theorem dX11_weigh_128 : decode cX11_weigh 128 = .ok (.putfield 281, 3) := by decide +kernel
theorem dX11_weigh_131 : decode cX11_weigh 131 = .ok (.aload_n 0, 1) := by decide +kernel
theorem dX11_weigh_132 : decode cX11_weigh 132 = .ok (.dup, 1) := by decide +kernel
theorem dX11_weigh_133 : decode cX11_weigh 133 = .ok (.getfield 298, 3) := by decide +kernel
theorem dX11_weigh_136 : decode cX11_weigh 136 = .ok (.iconst 1, 1) := by decide +kernel
theorem dX11_weigh_137 : decode cX11_weigh 137 = .ok (.iadd, 1) := by decide +kernel
theorem dX11_weigh_138 : decode cX11_weigh 138 = .ok (.putfield 298, 3) := by decide +kernel
theorem dX11_weigh_141 : decode cX11_weigh 141 = .ok (.iinc 1 1, 3) := by decide +kernel
theorem dX11_weigh_144 : decode cX11_weigh 144 = .ok (.goto (-126), 3) := by decide +kernel
theorem dX11_weigh_147 : decode cX11_weigh 147 = .ok (.return_, 1) := by decide +kernel
theorem dX11_take_0 : decode cX11_take 0 = .ok (.iload_n 1, 1) := by decide +kernel
theorem dX11_take_1 : decode cX11_take 1 = .ok (.iconst (-1), 1) := by decide +kernel
theorem dX11_take_2 : decode cX11_take 2 = .ok (.if_icmp .ne 5, 3) := by decide +kernel
theorem dX11_take_5 : decode cX11_take 5 = .ok (.iconst (-1), 1) := by decide +kernel
theorem dX11_take_6 : decode cX11_take 6 = .ok (.ireturn, 1) := by decide +kernel
theorem dX11_take_7 : decode cX11_take 7 = .ok (.aload_n 0, 1) := by decide +kernel
theorem dX11_take_8 : decode cX11_take 8 = .ok (.getfield 12, 3) := by decide +kernel
theorem dX11_take_11 : decode cX11_take 11 = .ok (.iload_n 1, 1) := by decide +kernel
theorem dX11_take_12 : decode cX11_take 12 = .ok (.aload_n 0, 1) := by decide +kernel
theorem dX11_take_13 : decode cX11_take 13 = .ok (.getfield 21, 3) := by decide +kernel
theorem dX11_take_16 : decode cX11_take 16 = .ok (.invokevirtual 312, 3) := by decide +kernel
theorem dX11_take_19 : decode cX11_take 19 = .ok (.aload_n 0, 1) := by decide +kernel
theorem dX11_take_20 : decode cX11_take 20 = .ok (.getfield 12, 3) := by decide +kernel
theorem dX11_take_23 : decode cX11_take 23 = .ok (.iload_n 1, 1) := by decide +kernel
theorem dX11_take_24 : decode cX11_take 24 = .ok (.aload_n 0, 1) := by decide +kernel
theorem dX11_take_25 : decode cX11_take 25 = .ok (.getfield 25, 3) := by decide +kernel
theorem dX11_take_28 : decode cX11_take 28 = .ok (.invokevirtual 168, 3) := by decide +kernel
theorem dX11_take_31 : decode cX11_take 31 = .ok (.aload_n 0, 1) := by decide +kernel
theorem dX11_take_32 : decode cX11_take 32 = .ok (.getfield 21, 3) := by decide +kernel
theorem dX11_take_35 : decode cX11_take 35 = .ok (.getfield 172, 3) := by decide +kernel
theorem dX11_take_38 : decode cX11_take 38 = .ok (.ireturn, 1) := by decide +kernel
theorem dX11_find_0 : decode cX11_find 0 = .ok (.aload_n 0, 1) := by decide +kernel
theorem dX11_find_1 : decode cX11_find 1 = .ok (.getfield 50, 3) := by decide +kernel
theorem dX11_find_4 : decode cX11_find 4 = .ok (.aload_n 1, 1) := by decide +kernel
theorem dX11_find_5 : decode cX11_find 5 = .ok (.iload_n 2, 1) := by decide +kernel
theorem dX11_find_6 : decode cX11_find 6 = .ok (.invokevirtual 313, 3) := by decide +kernel
theorem dX11_find_9 : decode cX11_find 9 = .ok (.istore_n 3, 1) := by decide +kernel
theorem dX11_find_10 : decode cX11_find 10 = .ok (.iconst 0, 1) := by decide +kernel
theorem dX11_find_11 : decode cX11_find 11 = .ok (.istore 4, 2) := by decide +kernel
theorem dX11_find_13 : decode cX11_find 13 = .ok (.iload 4, 2) := by decide +kernel
theorem dX11_find_15 : decode cX11_find 15 = .ok (.iconst 3, 1) := by decide +kernel
theorem dX11_find_16 : decode cX11_find 16 = .ok (.if_icmp .ge 27, 3) := by decide +kernel
theorem dX11_find_19 : decode cX11_find 19 = .ok (.iload_n 3, 1) := by decide +kernel
theorem dX11_find_20 : decode cX11_find 20 = .ok (.iconst (-1), 1) := by decide +kernel
theorem dX11_find_21 : decode cX11_find 21 = .ok (.if_icmp .ne 22, 3) := by decide +kernel
theorem dX11_find_24 : decode cX11_find 24 = .ok (.aload_n 0, 1) := by decide +kernel
theorem dX11_find_25 : decode cX11_find 25 = .ok (.getfield 63, 3) := by decide +kernel
theorem dX11_find_28 : decode cX11_find 28 = .ok (.iload 4, 2) := by decide +kernel
theorem dX11_find_30 : decode cX11_find 30 = .ok (.aaload, 1) := by decide +kernel
theorem dX11_find_31 : decode cX11_find 31 = .ok (.aload_n 1, 1) := by decide +kernel
theorem dX11_find_32 : decode cX11_find 32 = .ok (.iload_n 2, 1) := by decide +kernel
theorem dX11_find_33 : decode cX11_find 33 = .ok (.invokevirtual 314, 3) := by decide +kernel
theorem dX11_find_36 : decode cX11_find 36 = .ok (.istore_n 3, 1) := by decide +kernel
theorem dX11_find_37 : decode cX11_find 37 = .ok (.iinc 4 1, 3) := by decide +kernel
theorem dX11_find_40 : decode cX11_find 40 = .ok (.goto (-27), 3) := by decide +kernel
theorem dX11_find_43 : decode cX11_find 43 = .ok (.iload_n 3, 1) := by decide +kernel
theorem dX11_find_44 : decode cX11_find 44 = .ok (.ireturn, 1) := by decide +kernel
theorem dX11_nearest_0 : decode cX11_nearest 0 = .ok (.aload_n 0, 1) := by decide +kernel
theorem dX11_nearest_1 : decode cX11_nearest 1 = .ok (.getfield 28, 3) := by decide +kernel
theorem dX11_nearest_4 : decode cX11_nearest 4 = .ok (.aload_n 0, 1) := by decide +kernel
theorem dX11_nearest_5 : decode cX11_nearest 5 = .ok (.getfield 21, 3) := by decide +kernel
theorem dX11_nearest_8 : decode cX11_nearest 8 = .ok (.getfield 315, 3) := by decide +kernel
theorem dX11_nearest_11 : decode cX11_nearest 11 = .ok (.iconst 0, 1) := by decide +kernel
theorem dX11_nearest_12 : decode cX11_nearest 12 = .ok (.aload_n 0, 1) := by decide +kernel
theorem dX11_nearest_13 : decode cX11_nearest 13 = .ok (.getfield 21, 3) := by decide +kernel
theorem dX11_nearest_16 : decode cX11_nearest 16 = .ok (.getfield 172, 3) := by decide +kernel
theorem dX11_nearest_19 : decode cX11_nearest 19 = .ok (.invokevirtual 319, 3) := by decide +kernel
theorem dX11_nearest_22 : decode cX11_nearest 22 = .ok (.iload_n 2, 1) := by decide +kernel
theorem dX11_nearest_23 : decode cX11_nearest 23 = .ok (.istore_n 3, 1) := by decide +kernel
theorem dX11_nearest_24 : decode cX11_nearest 24 = .ok (.iconst 0, 1) := by decide +kernel
theorem dX11_nearest_25 : decode cX11_nearest 25 = .ok (.istore 4, 2) := by decide +kernel
theorem dX11_nearest_27 : decode cX11_nearest 27 = .ok (.iload 4, 2) := by decide +kernel
theorem dX11_nearest_29 : decode cX11_nearest 29 = .ok (.ldc_w 323, 3) := by decide +kernel
theorem dX11_nearest_32 : decode cX11_nearest 32 = .ok (.if_icmp .ge 70, 3) := by decide +kernel
theorem dX11_nearest_35 : decode cX11_nearest 35 = .ok (.aload_n 0, 1) := by decide +kernel
theorem dX11_nearest_36 : decode cX11_nearest 36 = .ok (.aload_n 0, 1) := by decide +kernel
theorem dX11_nearest_37 : decode cX11_nearest 37 = .ok (.getfield 28, 3) := by decide +kernel
theorem dX11_nearest_40 : decode cX11_nearest 40 = .ok (.iload_n 3, 1) := by decide +kernel
theorem dX11_nearest_41 : decode cX11_nearest 41 = .ok (.invokevirtual 324, 3) := by decide +kernel
theorem dX11_nearest_44 : decode cX11_nearest 44 = .ok (.istore 5, 2) := by decide +kernel
theorem dX11_nearest_46 : decode cX11_nearest 46 = .ok (.iload 5, 2) := by decide +kernel
theorem dX11_nearest_48 : decode cX11_nearest 48 = .ok (.iconst (-1), 1) := by decide +kernel
theorem dX11_nearest_49 : decode cX11_nearest 49 = .ok (.if_icmp .ne 5, 3) := by decide +kernel
theorem dX11_nearest_52 : decode cX11_nearest 52 = .ok (.iconst (-1), 1) := by decide +kernel
theorem dX11_nearest_53 : decode cX11_nearest 53 = .ok (.ireturn, 1) := by decide +kernel
theorem dX11_nearest_54 : decode cX11_nearest 54 = .ok (.aload_n 0, 1) := by decide +kernel
theorem dX11_nearest_55 : decode cX11_nearest 55 = .ok (.getfield 12, 3) := by decide +kernel
theorem dX11_nearest_58 : decode cX11_nearest 58 = .ok (.iload 5, 2) := by decide +kernel
theorem dX11_nearest_60 : decode cX11_nearest 60 = .ok (.aload_n 0, 1) := by decide +kernel
theorem dX11_nearest_61 : decode cX11_nearest 61 = .ok (.getfield 28, 3) := by decide +kernel
theorem dX11_nearest_64 : decode cX11_nearest 64 = .ok (.invokevirtual 312, 3) := by decide +kernel
theorem dX11_nearest_67 : decode cX11_nearest 67 = .ok (.aload_n 0, 1) := by decide +kernel
theorem dX11_nearest_68 : decode cX11_nearest 68 = .ok (.aload_n 0, 1) := by decide +kernel
theorem dX11_nearest_69 : decode cX11_nearest 69 = .ok (.getfield 28, 3) := by decide +kernel
theorem dX11_nearest_72 : decode cX11_nearest 72 = .ok (.iload_n 1, 1) := by decide +kernel
theorem dX11_nearest_73 : decode cX11_nearest 73 = .ok (.invokevirtual 161, 3) := by decide +kernel
theorem dX11_nearest_76 : decode cX11_nearest 76 = .ok (.istore 6, 2) := by decide +kernel
theorem dX11_nearest_78 : decode cX11_nearest 78 = .ok (.aload_n 0, 1) := by decide +kernel
theorem dX11_nearest_79 : decode cX11_nearest 79 = .ok (.getfield 12, 3) := by decide +kernel
theorem dX11_nearest_82 : decode cX11_nearest 82 = .ok (.iload 6, 2) := by decide +kernel
theorem dX11_nearest_84 : decode cX11_nearest 84 = .ok (.invokevirtual 165, 3) := by decide +kernel
theorem dX11_nearest_87 : decode cX11_nearest 87 = .ok (.iconst 1, 1) := by decide +kernel
theorem dX11_nearest_88 : decode cX11_nearest 88 = .ok (.if_icmp .ne 6, 3) := by decide +kernel
theorem dX11_nearest_91 : decode cX11_nearest 91 = .ok (.iload 6, 2) := by decide +kernel
theorem dX11_nearest_93 : decode cX11_nearest 93 = .ok (.ireturn, 1) := by decide +kernel
theorem dX11_nearest_94 : decode cX11_nearest 94 = .ok (.iconst 0, 1) := by decide +kernel
theorem dX11_nearest_95 : decode cX11_nearest 95 = .ok (.istore_n 3, 1) := by decide +kernel
theorem dX11_nearest_96 : decode cX11_nearest 96 = .ok (.iinc 4 1, 3) := by decide +kernel
theorem dX11_nearest_99 : decode cX11_nearest 99 = .ok (.goto (-72), 3) := by decide +kernel
theorem dX11_nearest_102 : decode cX11_nearest 102 = .ok (.iconst (-1), 1) := by decide +kernel
theorem dX11_nearest_103 : decode cX11_nearest 103 = .ok (.ireturn, 1) := by decide +kernel
theorem dX11_nearestBefore_0 : decode cX11_nearestBefore 0 = .ok (.aload_n 0, 1) := by decide +kernel
theorem dX11_nearestBefore_1 : decode cX11_nearestBefore 1 = .ok (.getfield 28, 3) := by decide +kernel
theorem dX11_nearestBefore_4 : decode cX11_nearestBefore 4 = .ok (.aload_n 0, 1) := by decide +kernel
theorem dX11_nearestBefore_5 : decode cX11_nearestBefore 5 = .ok (.getfield 21, 3) := by decide +kernel
theorem dX11_nearestBefore_8 : decode cX11_nearestBefore 8 = .ok (.getfield 315, 3) := by decide +kernel
theorem dX11_nearestBefore_11 : decode cX11_nearestBefore 11 = .ok (.iconst 0, 1) := by decide +kernel
theorem dX11_nearestBefore_12 : decode cX11_nearestBefore 12 = .ok (.aload_n 0, 1) := by decide +kernel
theorem dX11_nearestBefore_13 : decode cX11_nearestBefore 13 = .ok (.getfield 21, 3) := by decide +kernel
theorem dX11_nearestBefore_16 : decode cX11_nearestBefore 16 = .ok (.getfield 172, 3) := by decide +kernel
theorem dX11_nearestBefore_19 : decode cX11_nearestBefore 19 = .ok (.invokevirtual 319, 3) := by decide +kernel
theorem dX11_nearestBefore_22 : decode cX11_nearestBefore 22 = .ok (.iconst 0, 1) := by decide +kernel
theorem dX11_nearestBefore_23 : decode cX11_nearestBefore 23 = .ok (.istore_n 2, 1) := by decide +kernel
theorem dX11_nearestBefore_24 : decode cX11_nearestBefore 24 = .ok (.iload_n 2, 1) := by decide +kernel
theorem dX11_nearestBefore_25 : decode cX11_nearestBefore 25 = .ok (.ldc_w 323, 3) := by decide +kernel
theorem dX11_nearestBefore_28 : decode cX11_nearestBefore 28 = .ok (.if_icmp .ge 64, 3) := by decide +kernel
theorem dX11_nearestBefore_31 : decode cX11_nearestBefore 31 = .ok (.aload_n 0, 1) := by decide +kernel
theorem dX11_nearestBefore_32 : decode cX11_nearestBefore 32 = .ok (.aload_n 0, 1) := by decide +kernel
theorem dX11_nearestBefore_33 : decode cX11_nearestBefore 33 = .ok (.getfield 28, 3) := by decide +kernel
theorem dX11_nearestBefore_36 : decode cX11_nearestBefore 36 = .ok (.invokevirtual 327, 3) := by decide +kernel
theorem dX11_nearestBefore_39 : decode cX11_nearestBefore 39 = .ok (.istore_n 3, 1) := by decide +kernel
theorem dX11_nearestBefore_40 : decode cX11_nearestBefore 40 = .ok (.iload_n 3, 1) := by decide +kernel
theorem dX11_nearestBefore_41 : decode cX11_nearestBefore 41 = .ok (.iconst (-1), 1) := by decide +kernel
theorem dX11_nearestBefore_42 : decode cX11_nearestBefore 42 = .ok (.if_icmp .ne 5, 3) := by decide +kernel
theorem dX11_nearestBefore_45 : decode cX11_nearestBefore 45 = .ok (.iconst (-1), 1) := by decide +kernel
theorem dX11_nearestBefore_46 : decode cX11_nearestBefore 46 = .ok (.ireturn, 1) := by decide +kernel
theorem dX11_nearestBefore_47 : decode cX11_nearestBefore 47 = .ok (.aload_n 0, 1) := by decide +kernel
theorem dX11_nearestBefore_48 : decode cX11_nearestBefore 48 = .ok (.getfield 12, 3) := by decide +kernel
