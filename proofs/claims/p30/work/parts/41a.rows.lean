theorem dL_isPaid_0 : decode cL_isPaid 0 = .ok (.iconst 3, 1) := by decide +kernel
theorem dL_isPaid_1 : decode cL_isPaid 1 = .ok (.newarray .long, 2) := by decide +kernel
theorem dL_isPaid_3 : decode cL_isPaid 3 = .ok (.dup, 1) := by decide +kernel
theorem dL_isPaid_4 : decode cL_isPaid 4 = .ok (.iconst 0, 1) := by decide +kernel
theorem dL_isPaid_5 : decode cL_isPaid 5 = .ok (.lload_n 2, 1) := by decide +kernel
theorem dL_isPaid_6 : decode cL_isPaid 6 = .ok (.lastore, 1) := by decide +kernel
theorem dL_isPaid_7 : decode cL_isPaid 7 = .ok (.dup, 1) := by decide +kernel
theorem dL_isPaid_8 : decode cL_isPaid 8 = .ok (.iconst 1, 1) := by decide +kernel
theorem dL_isPaid_9 : decode cL_isPaid 9 = .ok (.lconst 0, 1) := by decide +kernel
theorem dL_isPaid_10 : decode cL_isPaid 10 = .ok (.lastore, 1) := by decide +kernel
theorem dL_isPaid_11 : decode cL_isPaid 11 = .ok (.dup, 1) := by decide +kernel
theorem dL_isPaid_12 : decode cL_isPaid 12 = .ok (.iconst 2, 1) := by decide +kernel
theorem dL_isPaid_13 : decode cL_isPaid 13 = .ok (.lconst 0, 1) := by decide +kernel
theorem dL_isPaid_14 : decode cL_isPaid 14 = .ok (.lastore, 1) := by decide +kernel
theorem dL_isPaid_15 : decode cL_isPaid 15 = .ok (.astore 7, 2) := by decide +kernel
theorem dL_isPaid_17 : decode cL_isPaid 17 = .ok (.iconst 0, 1) := by decide +kernel
theorem dL_isPaid_18 : decode cL_isPaid 18 = .ok (.istore 8, 2) := by decide +kernel
theorem dL_isPaid_20 : decode cL_isPaid 20 = .ok (.iload 8, 2) := by decide +kernel
theorem dL_isPaid_22 : decode cL_isPaid 22 = .ok (.iload_n 1, 1) := by decide +kernel
theorem dL_isPaid_23 : decode cL_isPaid 23 = .ok (.if_icmp .ge 41, 3) := by decide +kernel
theorem dL_isPaid_26 : decode cL_isPaid 26 = .ok (.aload 7, 2) := by decide +kernel
theorem dL_isPaid_28 : decode cL_isPaid 28 = .ok (.aload_n 0, 1) := by decide +kernel
theorem dL_isPaid_29 : decode cL_isPaid 29 = .ok (.iload 8, 2) := by decide +kernel
theorem dL_isPaid_31 : decode cL_isPaid 31 = .ok (.bipush 8, 2) := by decide +kernel
theorem dL_isPaid_33 : decode cL_isPaid 33 = .ok (.invokevirtual 146, 3) := by decide +kernel
theorem dL_isPaid_36 : decode cL_isPaid 36 = .ok (.lconst 1, 1) := by decide +kernel
theorem dL_isPaid_37 : decode cL_isPaid 37 = .ok (.lcmp, 1) := by decide +kernel
theorem dL_isPaid_38 : decode cL_isPaid 38 = .ok (.ifCond .ne 7, 3) := by decide +kernel
theorem dL_isPaid_41 : decode cL_isPaid 41 = .ok (.iconst 2, 1) := by decide +kernel
theorem dL_isPaid_42 : decode cL_isPaid 42 = .ok (.goto 4, 3) := by decide +kernel
theorem dL_isPaid_45 : decode cL_isPaid 45 = .ok (.iconst 1, 1) := by decide +kernel
theorem dL_isPaid_46 : decode cL_isPaid 46 = .ok (.dup2, 1) := by decide +kernel
theorem dL_isPaid_47 : decode cL_isPaid 47 = .ok (.laload, 1) := by decide +kernel
theorem dL_isPaid_48 : decode cL_isPaid 48 = .ok (.aload_n 0, 1) := by decide +kernel
theorem dL_isPaid_49 : decode cL_isPaid 49 = .ok (.iload 8, 2) := by decide +kernel
theorem dL_isPaid_51 : decode cL_isPaid 51 = .ok (.bipush 7, 2) := by decide +kernel
theorem dL_isPaid_53 : decode cL_isPaid 53 = .ok (.invokevirtual 146, 3) := by decide +kernel
theorem dL_isPaid_56 : decode cL_isPaid 56 = .ok (.ladd, 1) := by decide +kernel
theorem dL_isPaid_57 : decode cL_isPaid 57 = .ok (.lastore, 1) := by decide +kernel
theorem dL_isPaid_58 : decode cL_isPaid 58 = .ok (.iinc 8 1, 3) := by decide +kernel
theorem dL_isPaid_61 : decode cL_isPaid 61 = .ok (.goto (-41), 3) := by decide +kernel
theorem dL_isPaid_64 : decode cL_isPaid 64 = .ok (.iconst 0, 1) := by decide +kernel
theorem dL_isPaid_65 : decode cL_isPaid 65 = .ok (.istore 8, 2) := by decide +kernel
theorem dL_isPaid_67 : decode cL_isPaid 67 = .ok (.iload 8, 2) := by decide +kernel
theorem dL_isPaid_69 : decode cL_isPaid 69 = .ok (.iconst 3, 1) := by decide +kernel
theorem dL_isPaid_70 : decode cL_isPaid 70 = .ok (.if_icmp .ge 68, 3) := by decide +kernel
theorem dL_isPaid_73 : decode cL_isPaid 73 = .ok (.aload_n 0, 1) := by decide +kernel
theorem dL_isPaid_74 : decode cL_isPaid 74 = .ok (.iload 8, 2) := by decide +kernel
theorem dL_isPaid_76 : decode cL_isPaid 76 = .ok (.invokevirtual 169, 3) := by decide +kernel
theorem dL_isPaid_79 : decode cL_isPaid 79 = .ok (.aload 7, 2) := by decide +kernel
theorem dL_isPaid_81 : decode cL_isPaid 81 = .ok (.iload 8, 2) := by decide +kernel
theorem dL_isPaid_83 : decode cL_isPaid 83 = .ok (.laload, 1) := by decide +kernel
theorem dL_isPaid_84 : decode cL_isPaid 84 = .ok (.lconst 0, 1) := by decide +kernel
theorem dL_isPaid_85 : decode cL_isPaid 85 = .ok (.lcmp, 1) := by decide +kernel
theorem dL_isPaid_86 : decode cL_isPaid 86 = .ok (.ifCond .ne 7, 3) := by decide +kernel
theorem dL_isPaid_89 : decode cL_isPaid 89 = .ok (.lconst 0, 1) := by decide +kernel
theorem dL_isPaid_90 : decode cL_isPaid 90 = .ok (.goto 36, 3) := by decide +kernel
theorem dL_isPaid_93 : decode cL_isPaid 93 = .ok (.aload 7, 2) := by decide +kernel
theorem dL_isPaid_95 : decode cL_isPaid 95 = .ok (.iconst 0, 1) := by decide +kernel
theorem dL_isPaid_96 : decode cL_isPaid 96 = .ok (.laload, 1) := by decide +kernel
theorem dL_isPaid_97 : decode cL_isPaid 97 = .ok (.iload 8, 2) := by decide +kernel
theorem dL_isPaid_99 : decode cL_isPaid 99 = .ok (.ifCond .le 10, 3) := by decide +kernel
theorem dL_isPaid_102 : decode cL_isPaid 102 = .ok (.aload 7, 2) := by decide +kernel
theorem dL_isPaid_104 : decode cL_isPaid 104 = .ok (.iconst 1, 1) := by decide +kernel
theorem dL_isPaid_105 : decode cL_isPaid 105 = .ok (.laload, 1) := by decide +kernel
theorem dL_isPaid_106 : decode cL_isPaid 106 = .ok (.goto 4, 3) := by decide +kernel
theorem dL_isPaid_109 : decode cL_isPaid 109 = .ok (.lconst 0, 1) := by decide +kernel
theorem dL_isPaid_110 : decode cL_isPaid 110 = .ok (.ladd, 1) := by decide +kernel
theorem dL_isPaid_111 : decode cL_isPaid 111 = .ok (.iload 8, 2) := by decide +kernel
theorem dL_isPaid_113 : decode cL_isPaid 113 = .ok (.iconst 1, 1) := by decide +kernel
theorem dL_isPaid_114 : decode cL_isPaid 114 = .ok (.if_icmp .le 10, 3) := by decide +kernel
theorem dL_isPaid_117 : decode cL_isPaid 117 = .ok (.aload 7, 2) := by decide +kernel
theorem dL_isPaid_119 : decode cL_isPaid 119 = .ok (.iconst 2, 1) := by decide +kernel
theorem dL_isPaid_120 : decode cL_isPaid 120 = .ok (.laload, 1) := by decide +kernel
theorem dL_isPaid_121 : decode cL_isPaid 121 = .ok (.goto 4, 3) := by decide +kernel
theorem dL_isPaid_124 : decode cL_isPaid 124 = .ok (.lconst 0, 1) := by decide +kernel
theorem dL_isPaid_125 : decode cL_isPaid 125 = .ok (.ladd, 1) := by decide +kernel
theorem dL_isPaid_126 : decode cL_isPaid 126 = .ok (.lcmp, 1) := by decide +kernel
theorem dL_isPaid_127 : decode cL_isPaid 127 = .ok (.ifCond .eq 5, 3) := by decide +kernel
theorem dL_isPaid_130 : decode cL_isPaid 130 = .ok (.iconst 0, 1) := by decide +kernel
theorem dL_isPaid_131 : decode cL_isPaid 131 = .ok (.ireturn, 1) := by decide +kernel
theorem dL_isPaid_132 : decode cL_isPaid 132 = .ok (.iinc 8 1, 3) := by decide +kernel
theorem dL_isPaid_135 : decode cL_isPaid 135 = .ok (.goto (-68), 3) := by decide +kernel
theorem dL_isPaid_138 : decode cL_isPaid 138 = .ok (.iconst 0, 1) := by decide +kernel
theorem dL_isPaid_139 : decode cL_isPaid 139 = .ok (.istore 8, 2) := by decide +kernel
theorem dL_isPaid_141 : decode cL_isPaid 141 = .ok (.iload 8, 2) := by decide +kernel
theorem dL_isPaid_143 : decode cL_isPaid 143 = .ok (.bipush 6, 2) := by decide +kernel
theorem dL_isPaid_145 : decode cL_isPaid 145 = .ok (.if_icmp .ge 209, 3) := by decide +kernel
theorem dL_isPaid_148 : decode cL_isPaid 148 = .ok (.iload 8, 2) := by decide +kernel
theorem dL_isPaid_150 : decode cL_isPaid 150 = .ok (.ifCond .ne 7, 3) := by decide +kernel
theorem dL_isPaid_153 : decode cL_isPaid 153 = .ok (.iconst 0, 1) := by decide +kernel
theorem dL_isPaid_154 : decode cL_isPaid 154 = .ok (.goto 27, 3) := by decide +kernel
theorem dL_isPaid_157 : decode cL_isPaid 157 = .ok (.aload 6, 2) := by decide +kernel
theorem dL_isPaid_159 : decode cL_isPaid 159 = .ok (.sipush 180, 3) := by decide +kernel
theorem dL_isPaid_162 : decode cL_isPaid 162 = .ok (.iload 8, 2) := by decide +kernel
theorem dL_isPaid_164 : decode cL_isPaid 164 = .ok (.iadd, 1) := by decide +kernel
theorem dL_isPaid_165 : decode cL_isPaid 165 = .ok (.invokestatic 8, 3) := by decide +kernel
theorem dL_isPaid_168 : decode cL_isPaid 168 = .ok (.ldc 172, 2) := by decide +kernel
theorem dL_isPaid_170 : decode cL_isPaid 170 = .ok (.iand, 1) := by decide +kernel
theorem dL_isPaid_171 : decode cL_isPaid 171 = .ok (.lload_n 2, 1) := by decide +kernel
theorem dL_isPaid_172 : decode cL_isPaid 172 = .ok (.lload 4, 2) := by decide +kernel
theorem dL_isPaid_174 : decode cL_isPaid 174 = .ok (.ladd, 1) := by decide +kernel
theorem dL_isPaid_175 : decode cL_isPaid 175 = .ok (.ldc2_w 173, 3) := by decide +kernel
theorem dL_isPaid_178 : decode cL_isPaid 178 = .ok (.ladd, 1) := by decide +kernel
theorem dL_isPaid_179 : decode cL_isPaid 179 = .ok (.l2i, 1) := by decide +kernel
theorem dL_isPaid_180 : decode cL_isPaid 180 = .ok (.irem, 1) := by decide +kernel
theorem dL_isPaid_181 : decode cL_isPaid 181 = .ok (.istore 9, 2) := by decide +kernel
theorem dL_isPaid_183 : decode cL_isPaid 183 = .ok (.iconst 3, 1) := by decide +kernel
theorem dL_isPaid_184 : decode cL_isPaid 184 = .ok (.newarray .long, 2) := by decide +kernel
theorem dL_isPaid_186 : decode cL_isPaid 186 = .ok (.dup, 1) := by decide +kernel
theorem dL_isPaid_187 : decode cL_isPaid 187 = .ok (.iconst 0, 1) := by decide +kernel
theorem dL_isPaid_188 : decode cL_isPaid 188 = .ok (.aload_n 0, 1) := by decide +kernel
theorem dL_isPaid_189 : decode cL_isPaid 189 = .ok (.iload 9, 2) := by decide +kernel
theorem dL_isPaid_191 : decode cL_isPaid 191 = .ok (.iconst (-1), 1) := by decide +kernel
theorem dL_isPaid_192 : decode cL_isPaid 192 = .ok (.invokevirtual 175, 3) := by decide +kernel
theorem dL_isPaid_195 : decode cL_isPaid 195 = .ok (.lastore, 1) := by decide +kernel
theorem dL_isPaid_196 : decode cL_isPaid 196 = .ok (.dup, 1) := by decide +kernel
theorem dL_isPaid_197 : decode cL_isPaid 197 = .ok (.iconst 1, 1) := by decide +kernel
theorem dL_isPaid_198 : decode cL_isPaid 198 = .ok (.lconst 0, 1) := by decide +kernel
theorem dL_isPaid_199 : decode cL_isPaid 199 = .ok (.lastore, 1) := by decide +kernel
theorem dL_isPaid_200 : decode cL_isPaid 200 = .ok (.dup, 1) := by decide +kernel
theorem dL_isPaid_201 : decode cL_isPaid 201 = .ok (.iconst 2, 1) := by decide +kernel
theorem dL_isPaid_202 : decode cL_isPaid 202 = .ok (.lconst 0, 1) := by decide +kernel
theorem dL_isPaid_203 : decode cL_isPaid 203 = .ok (.lastore, 1) := by decide +kernel
theorem dL_isPaid_204 : decode cL_isPaid 204 = .ok (.astore 10, 2) := by decide +kernel
theorem dL_isPaid_206 : decode cL_isPaid 206 = .ok (.iconst 0, 1) := by decide +kernel
theorem dL_isPaid_207 : decode cL_isPaid 207 = .ok (.istore 11, 2) := by decide +kernel
theorem dL_isPaid_209 : decode cL_isPaid 209 = .ok (.iload 11, 2) := by decide +kernel
theorem dL_isPaid_211 : decode cL_isPaid 211 = .ok (.iload_n 1, 1) := by decide +kernel
theorem dL_isPaid_212 : decode cL_isPaid 212 = .ok (.if_icmp .ge 68, 3) := by decide +kernel
