theorem dL_cell_0 : decode cL_cell 0 = .ok (.aload_n 0, 1) := by decide +kernel
theorem dL_cell_1 : decode cL_cell 1 = .ok (.arraylength, 1) := by decide +kernel
theorem dL_cell_2 : decode cL_cell 2 = .ok (.ifCond .ne 7, 3) := by decide +kernel
theorem dL_cell_5 : decode cL_cell 5 = .ok (.iconst 0, 1) := by decide +kernel
theorem dL_cell_6 : decode cL_cell 6 = .ok (.goto 17, 3) := by decide +kernel
theorem dL_cell_9 : decode cL_cell 9 = .ok (.aload_n 0, 1) := by decide +kernel
theorem dL_cell_10 : decode cL_cell 10 = .ok (.iload_n 1, 1) := by decide +kernel
theorem dL_cell_11 : decode cL_cell 11 = .ok (.aload_n 0, 1) := by decide +kernel
theorem dL_cell_12 : decode cL_cell 12 = .ok (.arraylength, 1) := by decide +kernel
theorem dL_cell_13 : decode cL_cell 13 = .ok (.irem, 1) := by decide +kernel
theorem dL_cell_14 : decode cL_cell 14 = .ok (.iaload, 1) := by decide +kernel
theorem dL_cell_15 : decode cL_cell 15 = .ok (.ldc 7, 2) := by decide +kernel
theorem dL_cell_17 : decode cL_cell 17 = .ok (.iload_n 1, 1) := by decide +kernel
theorem dL_cell_18 : decode cL_cell 18 = .ok (.aload_n 0, 1) := by decide +kernel
theorem dL_cell_19 : decode cL_cell 19 = .ok (.arraylength, 1) := by decide +kernel
theorem dL_cell_20 : decode cL_cell 20 = .ok (.idiv, 1) := by decide +kernel
theorem dL_cell_21 : decode cL_cell 21 = .ok (.imul, 1) := by decide +kernel
theorem dL_cell_22 : decode cL_cell 22 = .ok (.ixor, 1) := by decide +kernel
theorem dL_cell_23 : decode cL_cell 23 = .ok (.ireturn, 1) := by decide +kernel
theorem dL_some_0 : decode cL_some 0 = .ok (.aload_n 0, 1) := by decide +kernel
theorem dL_some_1 : decode cL_some 1 = .ok (.iload_n 1, 1) := by decide +kernel
theorem dL_some_2 : decode cL_some 2 = .ok (.invokestatic 8, 3) := by decide +kernel
theorem dL_some_5 : decode cL_some 5 = .ok (.ldc 14, 2) := by decide +kernel
theorem dL_some_7 : decode cL_some 7 = .ok (.iand, 1) := by decide +kernel
theorem dL_some_8 : decode cL_some 8 = .ok (.iload_n 2, 1) := by decide +kernel
theorem dL_some_9 : decode cL_some 9 = .ok (.irem, 1) := by decide +kernel
theorem dL_some_10 : decode cL_some 10 = .ok (.ireturn, 1) := by decide +kernel
theorem dL_name_0 : decode cL_name 0 = .ok (.new 35, 3) := by decide +kernel
theorem dL_name_3 : decode cL_name 3 = .ok (.dup, 1) := by decide +kernel
theorem dL_name_4 : decode cL_name 4 = .ok (.invokespecial 37, 3) := by decide +kernel
theorem dL_name_7 : decode cL_name 7 = .ok (.aload_n 0, 1) := by decide +kernel
theorem dL_name_8 : decode cL_name 8 = .ok (.invokevirtual 38, 3) := by decide +kernel
theorem dL_name_11 : decode cL_name 11 = .ok (.bipush 97, 2) := by decide +kernel
theorem dL_name_13 : decode cL_name 13 = .ok (.iload_n 1, 1) := by decide +kernel
theorem dL_name_14 : decode cL_name 14 = .ok (.iadd, 1) := by decide +kernel
theorem dL_name_15 : decode cL_name 15 = .ok (.i2c, 1) := by decide +kernel
theorem dL_name_16 : decode cL_name 16 = .ok (.invokevirtual 42, 3) := by decide +kernel
theorem dL_name_19 : decode cL_name 19 = .ok (.invokevirtual 45, 3) := by decide +kernel
theorem dL_name_22 : decode cL_name 22 = .ok (.areturn, 1) := by decide +kernel
theorem dL_parts_0 : decode cL_parts 0 = .ok (.ldc 49, 2) := by decide +kernel
theorem dL_parts_2 : decode cL_parts 2 = .ok (.astore 5, 2) := by decide +kernel
theorem dL_parts_4 : decode cL_parts 4 = .ok (.iload 4, 2) := by decide +kernel
theorem dL_parts_6 : decode cL_parts 6 = .ok (.aload_n 0, 1) := by decide +kernel
theorem dL_parts_7 : decode cL_parts 7 = .ok (.iload_n 1, 1) := by decide +kernel
theorem dL_parts_8 : decode cL_parts 8 = .ok (.iconst 3, 1) := by decide +kernel
theorem dL_parts_9 : decode cL_parts 9 = .ok (.invokestatic 51, 3) := by decide +kernel
theorem dL_parts_12 : decode cL_parts 12 = .ok (.iadd, 1) := by decide +kernel
theorem dL_parts_13 : decode cL_parts 13 = .ok (.istore 6, 2) := by decide +kernel
theorem dL_parts_15 : decode cL_parts 15 = .ok (.aload_n 0, 1) := by decide +kernel
theorem dL_parts_16 : decode cL_parts 16 = .ok (.iload_n 1, 1) := by decide +kernel
theorem dL_parts_17 : decode cL_parts 17 = .ok (.iconst 1, 1) := by decide +kernel
theorem dL_parts_18 : decode cL_parts 18 = .ok (.iadd, 1) := by decide +kernel
theorem dL_parts_19 : decode cL_parts 19 = .ok (.iload_n 2, 1) := by decide +kernel
theorem dL_parts_20 : decode cL_parts 20 = .ok (.invokestatic 51, 3) := by decide +kernel
theorem dL_parts_23 : decode cL_parts 23 = .ok (.istore 7, 2) := by decide +kernel
theorem dL_parts_25 : decode cL_parts 25 = .ok (.iconst 0, 1) := by decide +kernel
theorem dL_parts_26 : decode cL_parts 26 = .ok (.istore 8, 2) := by decide +kernel
theorem dL_parts_28 : decode cL_parts 28 = .ok (.iload 8, 2) := by decide +kernel
theorem dL_parts_30 : decode cL_parts 30 = .ok (.iload 6, 2) := by decide +kernel
theorem dL_parts_32 : decode cL_parts 32 = .ok (.if_icmp .ge 71, 3) := by decide +kernel
theorem dL_parts_35 : decode cL_parts 35 = .ok (.iload 8, 2) := by decide +kernel
theorem dL_parts_37 : decode cL_parts 37 = .ok (.iload_n 2, 1) := by decide +kernel
theorem dL_parts_38 : decode cL_parts 38 = .ok (.if_icmp .ge 65, 3) := by decide +kernel
theorem dL_parts_41 : decode cL_parts 41 = .ok (.new 35, 3) := by decide +kernel
theorem dL_parts_44 : decode cL_parts 44 = .ok (.dup, 1) := by decide +kernel
theorem dL_parts_45 : decode cL_parts 45 = .ok (.invokespecial 37, 3) := by decide +kernel
theorem dL_parts_48 : decode cL_parts 48 = .ok (.aload 5, 2) := by decide +kernel
theorem dL_parts_50 : decode cL_parts 50 = .ok (.invokevirtual 38, 3) := by decide +kernel
theorem dL_parts_53 : decode cL_parts 53 = .ok (.ldc 55, 2) := by decide +kernel
theorem dL_parts_55 : decode cL_parts 55 = .ok (.invokevirtual 38, 3) := by decide +kernel
theorem dL_parts_58 : decode cL_parts 58 = .ok (.ldc 57, 2) := by decide +kernel
theorem dL_parts_60 : decode cL_parts 60 = .ok (.iload 7, 2) := by decide +kernel
theorem dL_parts_62 : decode cL_parts 62 = .ok (.iload 8, 2) := by decide +kernel
theorem dL_parts_64 : decode cL_parts 64 = .ok (.iadd, 1) := by decide +kernel
theorem dL_parts_65 : decode cL_parts 65 = .ok (.iload_n 2, 1) := by decide +kernel
theorem dL_parts_66 : decode cL_parts 66 = .ok (.irem, 1) := by decide +kernel
theorem dL_parts_67 : decode cL_parts 67 = .ok (.invokestatic 59, 3) := by decide +kernel
theorem dL_parts_70 : decode cL_parts 70 = .ok (.invokevirtual 38, 3) := by decide +kernel
theorem dL_parts_73 : decode cL_parts 73 = .ok (.ldc 55, 2) := by decide +kernel
theorem dL_parts_75 : decode cL_parts 75 = .ok (.invokevirtual 38, 3) := by decide +kernel
theorem dL_parts_78 : decode cL_parts 78 = .ok (.aload_n 0, 1) := by decide +kernel
theorem dL_parts_79 : decode cL_parts 79 = .ok (.iload_n 1, 1) := by decide +kernel
theorem dL_parts_80 : decode cL_parts 80 = .ok (.iconst 2, 1) := by decide +kernel
theorem dL_parts_81 : decode cL_parts 81 = .ok (.iadd, 1) := by decide +kernel
theorem dL_parts_82 : decode cL_parts 82 = .ok (.iload 8, 2) := by decide +kernel
theorem dL_parts_84 : decode cL_parts 84 = .ok (.iadd, 1) := by decide +kernel
theorem dL_parts_85 : decode cL_parts 85 = .ok (.iconst 5, 1) := by decide +kernel
theorem dL_parts_86 : decode cL_parts 86 = .ok (.invokestatic 51, 3) := by decide +kernel
theorem dL_parts_89 : decode cL_parts 89 = .ok (.invokevirtual 63, 3) := by decide +kernel
theorem dL_parts_92 : decode cL_parts 92 = .ok (.invokevirtual 45, 3) := by decide +kernel
theorem dL_parts_95 : decode cL_parts 95 = .ok (.astore 5, 2) := by decide +kernel
theorem dL_parts_97 : decode cL_parts 97 = .ok (.iinc 8 1, 3) := by decide +kernel
theorem dL_parts_100 : decode cL_parts 100 = .ok (.goto (-72), 3) := by decide +kernel
theorem dL_parts_103 : decode cL_parts 103 = .ok (.iload_n 3, 1) := by decide +kernel
theorem dL_parts_104 : decode cL_parts 104 = .ok (.ifCond .le 71, 3) := by decide +kernel
theorem dL_parts_107 : decode cL_parts 107 = .ok (.aload_n 0, 1) := by decide +kernel
theorem dL_parts_108 : decode cL_parts 108 = .ok (.iload_n 1, 1) := by decide +kernel
theorem dL_parts_109 : decode cL_parts 109 = .ok (.bipush 6, 2) := by decide +kernel
theorem dL_parts_111 : decode cL_parts 111 = .ok (.iadd, 1) := by decide +kernel
theorem dL_parts_112 : decode cL_parts 112 = .ok (.iconst 2, 1) := by decide +kernel
theorem dL_parts_113 : decode cL_parts 113 = .ok (.invokestatic 51, 3) := by decide +kernel
theorem dL_parts_116 : decode cL_parts 116 = .ok (.ifCond .ne 59, 3) := by decide +kernel
theorem dL_parts_119 : decode cL_parts 119 = .ok (.new 35, 3) := by decide +kernel
theorem dL_parts_122 : decode cL_parts 122 = .ok (.dup, 1) := by decide +kernel
theorem dL_parts_123 : decode cL_parts 123 = .ok (.invokespecial 37, 3) := by decide +kernel
theorem dL_parts_126 : decode cL_parts 126 = .ok (.aload 5, 2) := by decide +kernel
theorem dL_parts_128 : decode cL_parts 128 = .ok (.invokevirtual 38, 3) := by decide +kernel
theorem dL_parts_131 : decode cL_parts 131 = .ok (.ldc 55, 2) := by decide +kernel
theorem dL_parts_133 : decode cL_parts 133 = .ok (.invokevirtual 38, 3) := by decide +kernel
theorem dL_parts_136 : decode cL_parts 136 = .ok (.ldc 66, 2) := by decide +kernel
theorem dL_parts_138 : decode cL_parts 138 = .ok (.aload_n 0, 1) := by decide +kernel
theorem dL_parts_139 : decode cL_parts 139 = .ok (.iload_n 1, 1) := by decide +kernel
theorem dL_parts_140 : decode cL_parts 140 = .ok (.bipush 7, 2) := by decide +kernel
theorem dL_parts_142 : decode cL_parts 142 = .ok (.iadd, 1) := by decide +kernel
theorem dL_parts_143 : decode cL_parts 143 = .ok (.iload_n 3, 1) := by decide +kernel
theorem dL_parts_144 : decode cL_parts 144 = .ok (.invokestatic 51, 3) := by decide +kernel
theorem dL_parts_147 : decode cL_parts 147 = .ok (.invokestatic 59, 3) := by decide +kernel
theorem dL_parts_150 : decode cL_parts 150 = .ok (.invokevirtual 38, 3) := by decide +kernel
theorem dL_parts_153 : decode cL_parts 153 = .ok (.ldc 55, 2) := by decide +kernel
theorem dL_parts_155 : decode cL_parts 155 = .ok (.invokevirtual 38, 3) := by decide +kernel
theorem dL_parts_158 : decode cL_parts 158 = .ok (.aload_n 0, 1) := by decide +kernel
theorem dL_parts_159 : decode cL_parts 159 = .ok (.iload_n 1, 1) := by decide +kernel
theorem dL_parts_160 : decode cL_parts 160 = .ok (.bipush 8, 2) := by decide +kernel
theorem dL_parts_162 : decode cL_parts 162 = .ok (.iadd, 1) := by decide +kernel
theorem dL_parts_163 : decode cL_parts 163 = .ok (.iconst 4, 1) := by decide +kernel
theorem dL_parts_164 : decode cL_parts 164 = .ok (.invokestatic 51, 3) := by decide +kernel
theorem dL_parts_167 : decode cL_parts 167 = .ok (.invokevirtual 63, 3) := by decide +kernel
theorem dL_parts_170 : decode cL_parts 170 = .ok (.invokevirtual 45, 3) := by decide +kernel
theorem dL_parts_173 : decode cL_parts 173 = .ok (.astore 5, 2) := by decide +kernel
theorem dL_parts_175 : decode cL_parts 175 = .ok (.aload 5, 2) := by decide +kernel
