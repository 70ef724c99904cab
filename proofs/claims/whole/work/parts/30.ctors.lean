theorem dX9_init_0 : decode cX9_init 0 = .ok (.aload_n 0, 1) := by decide +kernel
theorem dX9_init_1 : decode cX9_init 1 = .ok (.invokespecial 3, 3) := by decide +kernel
theorem dX9_init_4 : decode cX9_init 4 = .ok (.aload_n 0, 1) := by decide +kernel
theorem dX9_init_5 : decode cX9_init 5 = .ok (.sipush 1000, 3) := by decide +kernel
theorem dX9_init_8 : decode cX9_init 8 = .ok (.newarray .byte, 2) := by decide +kernel
theorem dX9_init_10 : decode cX9_init 10 = .ok (.putfield 9, 3) := by decide +kernel
theorem dX9_init_13 : decode cX9_init 13 = .ok (.return_, 1) := by decide +kernel
theorem dX1_init_0 : decode cX1_init 0 = .ok (.aload_n 0, 1) := by decide +kernel
theorem dX1_init_1 : decode cX1_init 1 = .ok (.invokespecial 1, 3) := by decide +kernel
theorem dX1_init_4 : decode cX1_init 4 = .ok (.return_, 1) := by decide +kernel
theorem dX5_init_0 : decode cX5_init 0 = .ok (.aload_n 0, 1) := by decide +kernel
theorem dX5_init_1 : decode cX5_init 1 = .ok (.invokespecial 3, 3) := by decide +kernel
theorem dX5_init_4 : decode cX5_init 4 = .ok (.aload_n 0, 1) := by decide +kernel
theorem dX5_init_5 : decode cX5_init 5 = .ok (.iconst 3, 1) := by decide +kernel
theorem dX5_init_6 : decode cX5_init 6 = .ok (.newarray .int, 2) := by decide +kernel
theorem dX5_init_8 : decode cX5_init 8 = .ok (.putfield 9, 3) := by decide +kernel
theorem dX5_init_11 : decode cX5_init 11 = .ok (.return_, 1) := by decide +kernel
theorem dX2_init_0 : decode cX2_init 0 = .ok (.aload_n 0, 1) := by decide +kernel
theorem dX2_init_1 : decode cX2_init 1 = .ok (.invokespecial 3, 3) := by decide +kernel
theorem dX2_init_4 : decode cX2_init 4 = .ok (.aload_n 0, 1) := by decide +kernel
theorem dX2_init_5 : decode cX2_init 5 = .ok (.iconst 5, 1) := by decide +kernel
theorem dX2_init_6 : decode cX2_init 6 = .ok (.newarray .int, 2) := by decide +kernel
theorem dX2_init_8 : decode cX2_init 8 = .ok (.putfield 9, 3) := by decide +kernel
theorem dX2_init_11 : decode cX2_init 11 = .ok (.aload_n 0, 1) := by decide +kernel
theorem dX2_init_12 : decode cX2_init 12 = .ok (.iconst 5, 1) := by decide +kernel
theorem dX2_init_13 : decode cX2_init 13 = .ok (.newarray .int, 2) := by decide +kernel
theorem dX2_init_15 : decode cX2_init 15 = .ok (.putfield 15, 3) := by decide +kernel
theorem dX2_init_18 : decode cX2_init 18 = .ok (.aload_n 0, 1) := by decide +kernel
theorem dX2_init_19 : decode cX2_init 19 = .ok (.bipush 12, 2) := by decide +kernel
theorem dX2_init_21 : decode cX2_init 21 = .ok (.newarray .int, 2) := by decide +kernel
theorem dX2_init_23 : decode cX2_init 23 = .ok (.putfield 18, 3) := by decide +kernel
theorem dX2_init_26 : decode cX2_init 26 = .ok (.return_, 1) := by decide +kernel
theorem dX8_init_0 : decode cX8_init 0 = .ok (.aload_n 0, 1) := by decide +kernel
theorem dX8_init_1 : decode cX8_init 1 = .ok (.invokespecial 3, 3) := by decide +kernel
theorem dX8_init_4 : decode cX8_init 4 = .ok (.aload_n 0, 1) := by decide +kernel
theorem dX8_init_5 : decode cX8_init 5 = .ok (.bipush 10, 2) := by decide +kernel
theorem dX8_init_7 : decode cX8_init 7 = .ok (.newarray .int, 2) := by decide +kernel
theorem dX8_init_9 : decode cX8_init 9 = .ok (.putfield 9, 3) := by decide +kernel
theorem dX8_init_12 : decode cX8_init 12 = .ok (.aload_n 0, 1) := by decide +kernel
theorem dX8_init_13 : decode cX8_init 13 = .ok (.iconst 3, 1) := by decide +kernel
theorem dX8_init_14 : decode cX8_init 14 = .ok (.newarray .int, 2) := by decide +kernel
theorem dX8_init_16 : decode cX8_init 16 = .ok (.putfield 15, 3) := by decide +kernel
theorem dX8_init_19 : decode cX8_init 19 = .ok (.aload_n 0, 1) := by decide +kernel
theorem dX8_init_20 : decode cX8_init 20 = .ok (.bipush 31, 2) := by decide +kernel
theorem dX8_init_22 : decode cX8_init 22 = .ok (.newarray .int, 2) := by decide +kernel
theorem dX8_init_24 : decode cX8_init 24 = .ok (.putfield 18, 3) := by decide +kernel
theorem dX8_init_27 : decode cX8_init 27 = .ok (.aload_n 0, 1) := by decide +kernel
theorem dX8_init_28 : decode cX8_init 28 = .ok (.bipush 31, 2) := by decide +kernel
theorem dX8_init_30 : decode cX8_init 30 = .ok (.newarray .int, 2) := by decide +kernel
theorem dX8_init_32 : decode cX8_init 32 = .ok (.putfield 21, 3) := by decide +kernel
theorem dX8_init_35 : decode cX8_init 35 = .ok (.aload_n 0, 1) := by decide +kernel
theorem dX8_init_36 : decode cX8_init 36 = .ok (.getfield 15, 3) := by decide +kernel
theorem dX8_init_39 : decode cX8_init 39 = .ok (.iconst 1, 1) := by decide +kernel
theorem dX8_init_40 : decode cX8_init 40 = .ok (.ldc 24, 2) := by decide +kernel
theorem dX8_init_42 : decode cX8_init 42 = .ok (.iastore, 1) := by decide +kernel
theorem dX8_init_43 : decode cX8_init 43 = .ok (.aload_n 0, 1) := by decide +kernel
theorem dX8_init_44 : decode cX8_init 44 = .ok (.getfield 15, 3) := by decide +kernel
theorem dX8_init_47 : decode cX8_init 47 = .ok (.iconst 2, 1) := by decide +kernel
theorem dX8_init_48 : decode cX8_init 48 = .ok (.ldc 25, 2) := by decide +kernel
theorem dX8_init_50 : decode cX8_init 50 = .ok (.iastore, 1) := by decide +kernel
theorem dX8_init_51 : decode cX8_init 51 = .ok (.return_, 1) := by decide +kernel
theorem dX0_init_0 : decode cX0_init 0 = .ok (.aload_n 0, 1) := by decide +kernel
theorem dX0_init_1 : decode cX0_init 1 = .ok (.invokespecial 3, 3) := by decide +kernel
theorem dX0_init_4 : decode cX0_init 4 = .ok (.aload_n 0, 1) := by decide +kernel
theorem dX0_init_5 : decode cX0_init 5 = .ok (.bipush 12, 2) := by decide +kernel
theorem dX0_init_7 : decode cX0_init 7 = .ok (.anewarray 9, 3) := by decide +kernel
theorem dX0_init_10 : decode cX0_init 10 = .ok (.putfield 11, 3) := by decide +kernel
theorem dX0_init_13 : decode cX0_init 13 = .ok (.aload_n 0, 1) := by decide +kernel
theorem dX0_init_14 : decode cX0_init 14 = .ok (.iconst 5, 1) := by decide +kernel
theorem dX0_init_15 : decode cX0_init 15 = .ok (.anewarray 17, 3) := by decide +kernel
theorem dX0_init_18 : decode cX0_init 18 = .ok (.putfield 19, 3) := by decide +kernel
theorem dX0_init_21 : decode cX0_init 21 = .ok (.aload_n 0, 1) := by decide +kernel
theorem dX0_init_22 : decode cX0_init 22 = .ok (.bipush 10, 2) := by decide +kernel
theorem dX0_init_24 : decode cX0_init 24 = .ok (.anewarray 17, 3) := by decide +kernel
theorem dX0_init_27 : decode cX0_init 27 = .ok (.putfield 23, 3) := by decide +kernel
theorem dX0_init_30 : decode cX0_init 30 = .ok (.aload_n 0, 1) := by decide +kernel
theorem dX0_init_31 : decode cX0_init 31 = .ok (.bipush 10, 2) := by decide +kernel
theorem dX0_init_33 : decode cX0_init 33 = .ok (.newarray .int, 2) := by decide +kernel
theorem dX0_init_35 : decode cX0_init 35 = .ok (.putfield 26, 3) := by decide +kernel
theorem dX0_init_38 : decode cX0_init 38 = .ok (.aload_n 0, 1) := by decide +kernel
theorem dX0_init_39 : decode cX0_init 39 = .ok (.bipush 6, 2) := by decide +kernel
theorem dX0_init_41 : decode cX0_init 41 = .ok (.anewarray 30, 3) := by decide +kernel
theorem dX0_init_44 : decode cX0_init 44 = .ok (.putfield 32, 3) := by decide +kernel
theorem dX0_init_47 : decode cX0_init 47 = .ok (.aload_n 0, 1) := by decide +kernel
theorem dX0_init_48 : decode cX0_init 48 = .ok (.bipush 8, 2) := by decide +kernel
theorem dX0_init_50 : decode cX0_init 50 = .ok (.anewarray 30, 3) := by decide +kernel
theorem dX0_init_53 : decode cX0_init 53 = .ok (.putfield 36, 3) := by decide +kernel
theorem dX0_init_56 : decode cX0_init 56 = .ok (.aload_n 0, 1) := by decide +kernel
theorem dX0_init_57 : decode cX0_init 57 = .ok (.iconst 3, 1) := by decide +kernel
theorem dX0_init_58 : decode cX0_init 58 = .ok (.newarray .int, 2) := by decide +kernel
theorem dX0_init_60 : decode cX0_init 60 = .ok (.putfield 39, 3) := by decide +kernel
theorem dX0_init_63 : decode cX0_init 63 = .ok (.aload_n 0, 1) := by decide +kernel
theorem dX0_init_64 : decode cX0_init 64 = .ok (.bipush 36, 2) := by decide +kernel
theorem dX0_init_66 : decode cX0_init 66 = .ok (.newarray .int, 2) := by decide +kernel
theorem dX0_init_68 : decode cX0_init 68 = .ok (.putfield 42, 3) := by decide +kernel
theorem dX0_init_71 : decode cX0_init 71 = .ok (.aload_n 0, 1) := by decide +kernel
theorem dX0_init_72 : decode cX0_init 72 = .ok (.bipush 36, 2) := by decide +kernel
theorem dX0_init_74 : decode cX0_init 74 = .ok (.newarray .int, 2) := by decide +kernel
theorem dX0_init_76 : decode cX0_init 76 = .ok (.putfield 45, 3) := by decide +kernel
theorem dX0_init_79 : decode cX0_init 79 = .ok (.iconst 0, 1) := by decide +kernel
theorem dX0_init_80 : decode cX0_init 80 = .ok (.istore_n 1, 1) := by decide +kernel
theorem dX0_init_81 : decode cX0_init 81 = .ok (.iload_n 1, 1) := by decide +kernel
theorem dX0_init_82 : decode cX0_init 82 = .ok (.aload_n 0, 1) := by decide +kernel
theorem dX0_init_83 : decode cX0_init 83 = .ok (.getfield 11, 3) := by decide +kernel
theorem dX0_init_86 : decode cX0_init 86 = .ok (.arraylength, 1) := by decide +kernel
theorem dX0_init_87 : decode cX0_init 87 = .ok (.if_icmp .ge 22, 3) := by decide +kernel
theorem dX0_init_90 : decode cX0_init 90 = .ok (.aload_n 0, 1) := by decide +kernel
theorem dX0_init_91 : decode cX0_init 91 = .ok (.getfield 11, 3) := by decide +kernel
theorem dX0_init_94 : decode cX0_init 94 = .ok (.iload_n 1, 1) := by decide +kernel
theorem dX0_init_95 : decode cX0_init 95 = .ok (.new 9, 3) := by decide +kernel
theorem dX0_init_98 : decode cX0_init 98 = .ok (.dup, 1) := by decide +kernel
theorem dX0_init_99 : decode cX0_init 99 = .ok (.invokespecial 48, 3) := by decide +kernel
theorem dX0_init_102 : decode cX0_init 102 = .ok (.aastore, 1) := by decide +kernel
theorem dX0_init_103 : decode cX0_init 103 = .ok (.iinc 1 1, 3) := by decide +kernel
theorem dX0_init_106 : decode cX0_init 106 = .ok (.goto (-25), 3) := by decide +kernel
theorem dX0_init_109 : decode cX0_init 109 = .ok (.iconst 0, 1) := by decide +kernel
theorem dX0_init_110 : decode cX0_init 110 = .ok (.istore_n 1, 1) := by decide +kernel
theorem dX0_init_111 : decode cX0_init 111 = .ok (.iload_n 1, 1) := by decide +kernel
theorem dX0_init_112 : decode cX0_init 112 = .ok (.aload_n 0, 1) := by decide +kernel
theorem dX0_init_113 : decode cX0_init 113 = .ok (.getfield 19, 3) := by decide +kernel
theorem dX0_init_116 : decode cX0_init 116 = .ok (.arraylength, 1) := by decide +kernel
theorem dX0_init_117 : decode cX0_init 117 = .ok (.if_icmp .ge 22, 3) := by decide +kernel
theorem dX0_init_120 : decode cX0_init 120 = .ok (.aload_n 0, 1) := by decide +kernel
theorem dX0_init_121 : decode cX0_init 121 = .ok (.getfield 19, 3) := by decide +kernel
theorem dX0_init_124 : decode cX0_init 124 = .ok (.iload_n 1, 1) := by decide +kernel
theorem dX0_init_125 : decode cX0_init 125 = .ok (.new 17, 3) := by decide +kernel
theorem dX0_init_128 : decode cX0_init 128 = .ok (.dup, 1) := by decide +kernel
theorem dX0_init_129 : decode cX0_init 129 = .ok (.invokespecial 49, 3) := by decide +kernel
theorem dX0_init_132 : decode cX0_init 132 = .ok (.aastore, 1) := by decide +kernel
theorem dX0_init_133 : decode cX0_init 133 = .ok (.iinc 1 1, 3) := by decide +kernel
theorem dX0_init_136 : decode cX0_init 136 = .ok (.goto (-25), 3) := by decide +kernel
theorem dX0_init_139 : decode cX0_init 139 = .ok (.iconst 0, 1) := by decide +kernel
theorem dX0_init_140 : decode cX0_init 140 = .ok (.istore_n 1, 1) := by decide +kernel
theorem dX0_init_141 : decode cX0_init 141 = .ok (.iload_n 1, 1) := by decide +kernel
theorem dX0_init_142 : decode cX0_init 142 = .ok (.aload_n 0, 1) := by decide +kernel
theorem dX0_init_143 : decode cX0_init 143 = .ok (.getfield 23, 3) := by decide +kernel
theorem dX0_init_146 : decode cX0_init 146 = .ok (.arraylength, 1) := by decide +kernel
theorem dX0_init_147 : decode cX0_init 147 = .ok (.if_icmp .ge 22, 3) := by decide +kernel
theorem dX0_init_150 : decode cX0_init 150 = .ok (.aload_n 0, 1) := by decide +kernel
theorem dX0_init_151 : decode cX0_init 151 = .ok (.getfield 23, 3) := by decide +kernel
theorem dX0_init_154 : decode cX0_init 154 = .ok (.iload_n 1, 1) := by decide +kernel
theorem dX0_init_155 : decode cX0_init 155 = .ok (.new 17, 3) := by decide +kernel
theorem dX0_init_158 : decode cX0_init 158 = .ok (.dup, 1) := by decide +kernel
theorem dX0_init_159 : decode cX0_init 159 = .ok (.invokespecial 49, 3) := by decide +kernel
theorem dX0_init_162 : decode cX0_init 162 = .ok (.aastore, 1) := by decide +kernel
theorem dX0_init_163 : decode cX0_init 163 = .ok (.iinc 1 1, 3) := by decide +kernel
theorem dX0_init_166 : decode cX0_init 166 = .ok (.goto (-25), 3) := by decide +kernel
theorem dX0_init_169 : decode cX0_init 169 = .ok (.iconst 0, 1) := by decide +kernel
theorem dX0_init_170 : decode cX0_init 170 = .ok (.istore_n 1, 1) := by decide +kernel
theorem dX0_init_171 : decode cX0_init 171 = .ok (.iload_n 1, 1) := by decide +kernel
theorem dX0_init_172 : decode cX0_init 172 = .ok (.aload_n 0, 1) := by decide +kernel
theorem dX0_init_173 : decode cX0_init 173 = .ok (.getfield 32, 3) := by decide +kernel
theorem dX0_init_176 : decode cX0_init 176 = .ok (.arraylength, 1) := by decide +kernel
theorem dX0_init_177 : decode cX0_init 177 = .ok (.if_icmp .ge 22, 3) := by decide +kernel
theorem dX0_init_180 : decode cX0_init 180 = .ok (.aload_n 0, 1) := by decide +kernel
theorem dX0_init_181 : decode cX0_init 181 = .ok (.getfield 32, 3) := by decide +kernel
theorem dX0_init_184 : decode cX0_init 184 = .ok (.iload_n 1, 1) := by decide +kernel
theorem dX0_init_185 : decode cX0_init 185 = .ok (.new 30, 3) := by decide +kernel
theorem dX0_init_188 : decode cX0_init 188 = .ok (.dup, 1) := by decide +kernel
theorem dX0_init_189 : decode cX0_init 189 = .ok (.invokespecial 50, 3) := by decide +kernel
theorem dX0_init_192 : decode cX0_init 192 = .ok (.aastore, 1) := by decide +kernel
theorem dX0_init_193 : decode cX0_init 193 = .ok (.iinc 1 1, 3) := by decide +kernel
theorem dX0_init_196 : decode cX0_init 196 = .ok (.goto (-25), 3) := by decide +kernel
theorem dX0_init_199 : decode cX0_init 199 = .ok (.iconst 0, 1) := by decide +kernel
theorem dX0_init_200 : decode cX0_init 200 = .ok (.istore_n 1, 1) := by decide +kernel
theorem dX0_init_201 : decode cX0_init 201 = .ok (.iload_n 1, 1) := by decide +kernel
theorem dX0_init_202 : decode cX0_init 202 = .ok (.aload_n 0, 1) := by decide +kernel
theorem dX0_init_203 : decode cX0_init 203 = .ok (.getfield 36, 3) := by decide +kernel
theorem dX0_init_206 : decode cX0_init 206 = .ok (.arraylength, 1) := by decide +kernel
theorem dX0_init_207 : decode cX0_init 207 = .ok (.if_icmp .ge 22, 3) := by decide +kernel
theorem dX0_init_210 : decode cX0_init 210 = .ok (.aload_n 0, 1) := by decide +kernel
theorem dX0_init_211 : decode cX0_init 211 = .ok (.getfield 36, 3) := by decide +kernel
theorem dX0_init_214 : decode cX0_init 214 = .ok (.iload_n 1, 1) := by decide +kernel
theorem dX0_init_215 : decode cX0_init 215 = .ok (.new 30, 3) := by decide +kernel
theorem dX0_init_218 : decode cX0_init 218 = .ok (.dup, 1) := by decide +kernel
theorem dX0_init_219 : decode cX0_init 219 = .ok (.invokespecial 50, 3) := by decide +kernel
theorem dX0_init_222 : decode cX0_init 222 = .ok (.aastore, 1) := by decide +kernel
theorem dX0_init_223 : decode cX0_init 223 = .ok (.iinc 1 1, 3) := by decide +kernel
theorem dX0_init_226 : decode cX0_init 226 = .ok (.goto (-25), 3) := by decide +kernel
theorem dX0_init_229 : decode cX0_init 229 = .ok (.return_, 1) := by decide +kernel
theorem dX3_init_0 : decode cX3_init 0 = .ok (.aload_n 0, 1) := by decide +kernel
theorem dX3_init_1 : decode cX3_init 1 = .ok (.invokespecial 3, 3) := by decide +kernel
theorem dX3_init_4 : decode cX3_init 4 = .ok (.aload_n 0, 1) := by decide +kernel
theorem dX3_init_5 : decode cX3_init 5 = .ok (.bipush 16, 2) := by decide +kernel
theorem dX3_init_7 : decode cX3_init 7 = .ok (.anewarray 9, 3) := by decide +kernel
theorem dX3_init_10 : decode cX3_init 10 = .ok (.putfield 11, 3) := by decide +kernel
theorem dX3_init_13 : decode cX3_init 13 = .ok (.aload_n 0, 1) := by decide +kernel
theorem dX3_init_14 : decode cX3_init 14 = .ok (.iconst 3, 1) := by decide +kernel
theorem dX3_init_15 : decode cX3_init 15 = .ok (.anewarray 9, 3) := by decide +kernel
theorem dX3_init_18 : decode cX3_init 18 = .ok (.putfield 17, 3) := by decide +kernel
theorem dX3_init_21 : decode cX3_init 21 = .ok (.aload_n 0, 1) := by decide +kernel
theorem dX3_init_22 : decode cX3_init 22 = .ok (.iconst 3, 1) := by decide +kernel
theorem dX3_init_23 : decode cX3_init 23 = .ok (.newarray .boolean, 2) := by decide +kernel
theorem dX3_init_25 : decode cX3_init 25 = .ok (.putfield 20, 3) := by decide +kernel
theorem dX3_init_28 : decode cX3_init 28 = .ok (.iconst 0, 1) := by decide +kernel
theorem dX3_init_29 : decode cX3_init 29 = .ok (.istore_n 1, 1) := by decide +kernel
theorem dX3_init_30 : decode cX3_init 30 = .ok (.iload_n 1, 1) := by decide +kernel
theorem dX3_init_31 : decode cX3_init 31 = .ok (.aload_n 0, 1) := by decide +kernel
theorem dX3_init_32 : decode cX3_init 32 = .ok (.getfield 11, 3) := by decide +kernel
theorem dX3_init_35 : decode cX3_init 35 = .ok (.arraylength, 1) := by decide +kernel
theorem dX3_init_36 : decode cX3_init 36 = .ok (.if_icmp .ge 22, 3) := by decide +kernel
theorem dX3_init_39 : decode cX3_init 39 = .ok (.aload_n 0, 1) := by decide +kernel
theorem dX3_init_40 : decode cX3_init 40 = .ok (.getfield 11, 3) := by decide +kernel
theorem dX3_init_43 : decode cX3_init 43 = .ok (.iload_n 1, 1) := by decide +kernel
theorem dX3_init_44 : decode cX3_init 44 = .ok (.new 9, 3) := by decide +kernel
theorem dX3_init_47 : decode cX3_init 47 = .ok (.dup, 1) := by decide +kernel
theorem dX3_init_48 : decode cX3_init 48 = .ok (.invokespecial 24, 3) := by decide +kernel
theorem dX3_init_51 : decode cX3_init 51 = .ok (.aastore, 1) := by decide +kernel
theorem dX3_init_52 : decode cX3_init 52 = .ok (.iinc 1 1, 3) := by decide +kernel
theorem dX3_init_55 : decode cX3_init 55 = .ok (.goto (-25), 3) := by decide +kernel
theorem dX3_init_58 : decode cX3_init 58 = .ok (.iconst 0, 1) := by decide +kernel
theorem dX3_init_59 : decode cX3_init 59 = .ok (.istore_n 1, 1) := by decide +kernel
theorem dX3_init_60 : decode cX3_init 60 = .ok (.iload_n 1, 1) := by decide +kernel
theorem dX3_init_61 : decode cX3_init 61 = .ok (.aload_n 0, 1) := by decide +kernel
theorem dX3_init_62 : decode cX3_init 62 = .ok (.getfield 17, 3) := by decide +kernel
theorem dX3_init_65 : decode cX3_init 65 = .ok (.arraylength, 1) := by decide +kernel
theorem dX3_init_66 : decode cX3_init 66 = .ok (.if_icmp .ge 22, 3) := by decide +kernel
theorem dX3_init_69 : decode cX3_init 69 = .ok (.aload_n 0, 1) := by decide +kernel
theorem dX3_init_70 : decode cX3_init 70 = .ok (.getfield 17, 3) := by decide +kernel
theorem dX3_init_73 : decode cX3_init 73 = .ok (.iload_n 1, 1) := by decide +kernel
theorem dX3_init_74 : decode cX3_init 74 = .ok (.new 9, 3) := by decide +kernel
theorem dX3_init_77 : decode cX3_init 77 = .ok (.dup, 1) := by decide +kernel
theorem dX3_init_78 : decode cX3_init 78 = .ok (.invokespecial 24, 3) := by decide +kernel
theorem dX3_init_81 : decode cX3_init 81 = .ok (.aastore, 1) := by decide +kernel
theorem dX3_init_82 : decode cX3_init 82 = .ok (.iinc 1 1, 3) := by decide +kernel
theorem dX3_init_85 : decode cX3_init 85 = .ok (.goto (-25), 3) := by decide +kernel
theorem dX3_init_88 : decode cX3_init 88 = .ok (.return_, 1) := by decide +kernel
theorem dX6_init_0 : decode cX6_init 0 = .ok (.aload_n 0, 1) := by decide +kernel
theorem dX6_init_1 : decode cX6_init 1 = .ok (.invokespecial 3, 3) := by decide +kernel
theorem dX6_init_4 : decode cX6_init 4 = .ok (.aload_n 0, 1) := by decide +kernel
theorem dX6_init_5 : decode cX6_init 5 = .ok (.new 9, 3) := by decide +kernel
theorem dX6_init_8 : decode cX6_init 8 = .ok (.dup, 1) := by decide +kernel
theorem dX6_init_9 : decode cX6_init 9 = .ok (.invokespecial 11, 3) := by decide +kernel
theorem dX6_init_12 : decode cX6_init 12 = .ok (.putfield 12, 3) := by decide +kernel
theorem dX6_init_15 : decode cX6_init 15 = .ok (.aload_n 0, 1) := by decide +kernel
theorem dX6_init_16 : decode cX6_init 16 = .ok (.new 18, 3) := by decide +kernel
theorem dX6_init_19 : decode cX6_init 19 = .ok (.dup, 1) := by decide +kernel
theorem dX6_init_20 : decode cX6_init 20 = .ok (.invokespecial 20, 3) := by decide +kernel
theorem dX6_init_23 : decode cX6_init 23 = .ok (.putfield 21, 3) := by decide +kernel
theorem dX6_init_26 : decode cX6_init 26 = .ok (.return_, 1) := by decide +kernel
theorem dX7_init_0 : decode cX7_init 0 = .ok (.aload_n 0, 1) := by decide +kernel
theorem dX7_init_1 : decode cX7_init 1 = .ok (.invokespecial 3, 3) := by decide +kernel
theorem dX7_init_4 : decode cX7_init 4 = .ok (.aload_n 0, 1) := by decide +kernel
theorem dX7_init_5 : decode cX7_init 5 = .ok (.bipush 10, 2) := by decide +kernel
theorem dX7_init_7 : decode cX7_init 7 = .ok (.bipush 12, 2) := by decide +kernel
theorem dX7_init_9 : decode cX7_init 9 = .ok (.multianewarray 9 2, 4) := by decide +kernel
theorem dX7_init_13 : decode cX7_init 13 = .ok (.putfield 11, 3) := by decide +kernel
theorem dX7_init_16 : decode cX7_init 16 = .ok (.aload_n 0, 1) := by decide +kernel
theorem dX7_init_17 : decode cX7_init 17 = .ok (.bipush 6, 2) := by decide +kernel
theorem dX7_init_19 : decode cX7_init 19 = .ok (.bipush 12, 2) := by decide +kernel
theorem dX7_init_21 : decode cX7_init 21 = .ok (.multianewarray 9 2, 4) := by decide +kernel
theorem dX7_init_25 : decode cX7_init 25 = .ok (.putfield 16, 3) := by decide +kernel
theorem dX7_init_28 : decode cX7_init 28 = .ok (.return_, 1) := by decide +kernel
theorem dX10_init_0 : decode cX10_init 0 = .ok (.aload_n 0, 1) := by decide +kernel
theorem dX10_init_1 : decode cX10_init 1 = .ok (.invokespecial 3, 3) := by decide +kernel
theorem dX10_init_4 : decode cX10_init 4 = .ok (.aload_n 0, 1) := by decide +kernel
theorem dX10_init_5 : decode cX10_init 5 = .ok (.bipush 12, 2) := by decide +kernel
theorem dX10_init_7 : decode cX10_init 7 = .ok (.newarray .int, 2) := by decide +kernel
theorem dX10_init_9 : decode cX10_init 9 = .ok (.putfield 9, 3) := by decide +kernel
theorem dX10_init_12 : decode cX10_init 12 = .ok (.aload_n 0, 1) := by decide +kernel
theorem dX10_init_13 : decode cX10_init 13 = .ok (.bipush 12, 2) := by decide +kernel
theorem dX10_init_15 : decode cX10_init 15 = .ok (.newarray .int, 2) := by decide +kernel
theorem dX10_init_17 : decode cX10_init 17 = .ok (.putfield 15, 3) := by decide +kernel
theorem dX10_init_20 : decode cX10_init 20 = .ok (.aload_n 0, 1) := by decide +kernel
theorem dX10_init_21 : decode cX10_init 21 = .ok (.bipush 12, 2) := by decide +kernel
theorem dX10_init_23 : decode cX10_init 23 = .ok (.newarray .int, 2) := by decide +kernel
theorem dX10_init_25 : decode cX10_init 25 = .ok (.putfield 18, 3) := by decide +kernel
theorem dX10_init_28 : decode cX10_init 28 = .ok (.return_, 1) := by decide +kernel
theorem dX4_init_0 : decode cX4_init 0 = .ok (.aload_n 0, 1) := by decide +kernel
theorem dX4_init_1 : decode cX4_init 1 = .ok (.invokespecial 3, 3) := by decide +kernel
theorem dX4_init_4 : decode cX4_init 4 = .ok (.aload_n 0, 1) := by decide +kernel
theorem dX4_init_5 : decode cX4_init 5 = .ok (.new 9, 3) := by decide +kernel
theorem dX4_init_8 : decode cX4_init 8 = .ok (.dup, 1) := by decide +kernel
theorem dX4_init_9 : decode cX4_init 9 = .ok (.invokespecial 11, 3) := by decide +kernel
theorem dX4_init_12 : decode cX4_init 12 = .ok (.putfield 12, 3) := by decide +kernel
theorem dX4_init_15 : decode cX4_init 15 = .ok (.aload_n 0, 1) := by decide +kernel
theorem dX4_init_16 : decode cX4_init 16 = .ok (.bipush 12, 2) := by decide +kernel
theorem dX4_init_18 : decode cX4_init 18 = .ok (.newarray .long, 2) := by decide +kernel
theorem dX4_init_20 : decode cX4_init 20 = .ok (.putfield 18, 3) := by decide +kernel
theorem dX4_init_23 : decode cX4_init 23 = .ok (.aload_n 0, 1) := by decide +kernel
theorem dX4_init_24 : decode cX4_init 24 = .ok (.bipush 12, 2) := by decide +kernel
theorem dX4_init_26 : decode cX4_init 26 = .ok (.newarray .long, 2) := by decide +kernel
theorem dX4_init_28 : decode cX4_init 28 = .ok (.putfield 22, 3) := by decide +kernel
theorem dX4_init_31 : decode cX4_init 31 = .ok (.aload_n 0, 1) := by decide +kernel
theorem dX4_init_32 : decode cX4_init 32 = .ok (.bipush 12, 2) := by decide +kernel
theorem dX4_init_34 : decode cX4_init 34 = .ok (.newarray .long, 2) := by decide +kernel
theorem dX4_init_36 : decode cX4_init 36 = .ok (.putfield 25, 3) := by decide +kernel
theorem dX4_init_39 : decode cX4_init 39 = .ok (.aload_n 0, 1) := by decide +kernel
theorem dX4_init_40 : decode cX4_init 40 = .ok (.bipush 12, 2) := by decide +kernel
theorem dX4_init_42 : decode cX4_init 42 = .ok (.newarray .boolean, 2) := by decide +kernel
theorem dX4_init_44 : decode cX4_init 44 = .ok (.putfield 28, 3) := by decide +kernel
theorem dX4_init_47 : decode cX4_init 47 = .ok (.return_, 1) := by decide +kernel
theorem dX12_init_0 : decode cX12_init 0 = .ok (.aload_n 0, 1) := by decide +kernel
theorem dX12_init_1 : decode cX12_init 1 = .ok (.invokespecial 1, 3) := by decide +kernel
theorem dX12_init_4 : decode cX12_init 4 = .ok (.aload_n 0, 1) := by decide +kernel
theorem dX12_init_5 : decode cX12_init 5 = .ok (.sipush 1000, 3) := by decide +kernel
theorem dX12_init_8 : decode cX12_init 8 = .ok (.newarray .byte, 2) := by decide +kernel
theorem dX12_init_10 : decode cX12_init 10 = .ok (.putfield 7, 3) := by decide +kernel
theorem dX12_init_13 : decode cX12_init 13 = .ok (.aload_n 0, 1) := by decide +kernel
theorem dX12_init_14 : decode cX12_init 14 = .ok (.iconst 2, 1) := by decide +kernel
theorem dX12_init_15 : decode cX12_init 15 = .ok (.newarray .int, 2) := by decide +kernel
theorem dX12_init_17 : decode cX12_init 17 = .ok (.putfield 13, 3) := by decide +kernel
theorem dX12_init_20 : decode cX12_init 20 = .ok (.aload_n 0, 1) := by decide +kernel
theorem dX12_init_21 : decode cX12_init 21 = .ok (.iconst 2, 1) := by decide +kernel
theorem dX12_init_22 : decode cX12_init 22 = .ok (.newarray .int, 2) := by decide +kernel
theorem dX12_init_24 : decode cX12_init 24 = .ok (.putfield 17, 3) := by decide +kernel
theorem dX12_init_27 : decode cX12_init 27 = .ok (.aload_n 0, 1) := by decide +kernel
theorem dX12_init_28 : decode cX12_init 28 = .ok (.iconst 2, 1) := by decide +kernel
theorem dX12_init_29 : decode cX12_init 29 = .ok (.newarray .int, 2) := by decide +kernel
theorem dX12_init_31 : decode cX12_init 31 = .ok (.putfield 20, 3) := by decide +kernel
theorem dX12_init_34 : decode cX12_init 34 = .ok (.aload_n 0, 1) := by decide +kernel
theorem dX12_init_35 : decode cX12_init 35 = .ok (.iconst 2, 1) := by decide +kernel
theorem dX12_init_36 : decode cX12_init 36 = .ok (.newarray .int, 2) := by decide +kernel
theorem dX12_init_38 : decode cX12_init 38 = .ok (.putfield 23, 3) := by decide +kernel
theorem dX12_init_41 : decode cX12_init 41 = .ok (.aload_n 0, 1) := by decide +kernel
theorem dX12_init_42 : decode cX12_init 42 = .ok (.iconst 2, 1) := by decide +kernel
theorem dX12_init_43 : decode cX12_init 43 = .ok (.newarray .int, 2) := by decide +kernel
theorem dX12_init_45 : decode cX12_init 45 = .ok (.putfield 26, 3) := by decide +kernel
theorem dX12_init_48 : decode cX12_init 48 = .ok (.aload_n 0, 1) := by decide +kernel
theorem dX12_init_49 : decode cX12_init 49 = .ok (.bipush 24, 2) := by decide +kernel
theorem dX12_init_51 : decode cX12_init 51 = .ok (.newarray .long, 2) := by decide +kernel
theorem dX12_init_53 : decode cX12_init 53 = .ok (.putfield 29, 3) := by decide +kernel
theorem dX12_init_56 : decode cX12_init 56 = .ok (.aload_n 0, 1) := by decide +kernel
theorem dX12_init_57 : decode cX12_init 57 = .ok (.bipush 24, 2) := by decide +kernel
theorem dX12_init_59 : decode cX12_init 59 = .ok (.newarray .int, 2) := by decide +kernel
theorem dX12_init_61 : decode cX12_init 61 = .ok (.putfield 33, 3) := by decide +kernel
theorem dX12_init_64 : decode cX12_init 64 = .ok (.aload_n 0, 1) := by decide +kernel
theorem dX12_init_65 : decode cX12_init 65 = .ok (.bipush 72, 2) := by decide +kernel
theorem dX12_init_67 : decode cX12_init 67 = .ok (.newarray .int, 2) := by decide +kernel
theorem dX12_init_69 : decode cX12_init 69 = .ok (.putfield 36, 3) := by decide +kernel
theorem dX12_init_72 : decode cX12_init 72 = .ok (.aload_n 0, 1) := by decide +kernel
theorem dX12_init_73 : decode cX12_init 73 = .ok (.bipush 24, 2) := by decide +kernel
theorem dX12_init_75 : decode cX12_init 75 = .ok (.newarray .boolean, 2) := by decide +kernel
theorem dX12_init_77 : decode cX12_init 77 = .ok (.putfield 39, 3) := by decide +kernel
theorem dX12_init_80 : decode cX12_init 80 = .ok (.aload_n 0, 1) := by decide +kernel
theorem dX12_init_81 : decode cX12_init 81 = .ok (.bipush 10, 2) := by decide +kernel
theorem dX12_init_83 : decode cX12_init 83 = .ok (.newarray .long, 2) := by decide +kernel
theorem dX12_init_85 : decode cX12_init 85 = .ok (.putfield 43, 3) := by decide +kernel
theorem dX12_init_88 : decode cX12_init 88 = .ok (.aload_n 0, 1) := by decide +kernel
theorem dX12_init_89 : decode cX12_init 89 = .ok (.bipush 20, 2) := by decide +kernel
theorem dX12_init_91 : decode cX12_init 91 = .ok (.newarray .long, 2) := by decide +kernel
theorem dX12_init_93 : decode cX12_init 93 = .ok (.putfield 46, 3) := by decide +kernel
theorem dX12_init_96 : decode cX12_init 96 = .ok (.aload_n 0, 1) := by decide +kernel
theorem dX12_init_97 : decode cX12_init 97 = .ok (.bipush 20, 2) := by decide +kernel
theorem dX12_init_99 : decode cX12_init 99 = .ok (.newarray .int, 2) := by decide +kernel
theorem dX12_init_101 : decode cX12_init 101 = .ok (.putfield 49, 3) := by decide +kernel
theorem dX12_init_104 : decode cX12_init 104 = .ok (.aload_n 0, 1) := by decide +kernel
theorem dX12_init_105 : decode cX12_init 105 = .ok (.bipush 30, 2) := by decide +kernel
theorem dX12_init_107 : decode cX12_init 107 = .ok (.newarray .int, 2) := by decide +kernel
theorem dX12_init_109 : decode cX12_init 109 = .ok (.putfield 52, 3) := by decide +kernel
theorem dX12_init_112 : decode cX12_init 112 = .ok (.aload_n 0, 1) := by decide +kernel
theorem dX12_init_113 : decode cX12_init 113 = .ok (.sipush 150, 3) := by decide +kernel
theorem dX12_init_116 : decode cX12_init 116 = .ok (.newarray .int, 2) := by decide +kernel
theorem dX12_init_118 : decode cX12_init 118 = .ok (.putfield 55, 3) := by decide +kernel
theorem dX12_init_121 : decode cX12_init 121 = .ok (.aload_n 0, 1) := by decide +kernel
theorem dX12_init_122 : decode cX12_init 122 = .ok (.sipush 150, 3) := by decide +kernel
theorem dX12_init_125 : decode cX12_init 125 = .ok (.newarray .int, 2) := by decide +kernel
theorem dX12_init_127 : decode cX12_init 127 = .ok (.putfield 58, 3) := by decide +kernel
theorem dX12_init_130 : decode cX12_init 130 = .ok (.aload_n 0, 1) := by decide +kernel
theorem dX12_init_131 : decode cX12_init 131 = .ok (.bipush 12, 2) := by decide +kernel
theorem dX12_init_133 : decode cX12_init 133 = .ok (.newarray .int, 2) := by decide +kernel
theorem dX12_init_135 : decode cX12_init 135 = .ok (.putfield 61, 3) := by decide +kernel
theorem dX12_init_138 : decode cX12_init 138 = .ok (.aload_n 0, 1) := by decide +kernel
theorem dX12_init_139 : decode cX12_init 139 = .ok (.bipush 12, 2) := by decide +kernel
theorem dX12_init_141 : decode cX12_init 141 = .ok (.newarray .int, 2) := by decide +kernel
theorem dX12_init_143 : decode cX12_init 143 = .ok (.putfield 64, 3) := by decide +kernel
theorem dX12_init_146 : decode cX12_init 146 = .ok (.aload_n 0, 1) := by decide +kernel
theorem dX12_init_147 : decode cX12_init 147 = .ok (.bipush 12, 2) := by decide +kernel
theorem dX12_init_149 : decode cX12_init 149 = .ok (.newarray .int, 2) := by decide +kernel
theorem dX12_init_151 : decode cX12_init 151 = .ok (.putfield 67, 3) := by decide +kernel
theorem dX12_init_154 : decode cX12_init 154 = .ok (.aload_n 0, 1) := by decide +kernel
theorem dX12_init_155 : decode cX12_init 155 = .ok (.bipush 12, 2) := by decide +kernel
theorem dX12_init_157 : decode cX12_init 157 = .ok (.newarray .int, 2) := by decide +kernel
theorem dX12_init_159 : decode cX12_init 159 = .ok (.putfield 70, 3) := by decide +kernel
theorem dX12_init_162 : decode cX12_init 162 = .ok (.aload_n 0, 1) := by decide +kernel
theorem dX12_init_163 : decode cX12_init 163 = .ok (.bipush 16, 2) := by decide +kernel
theorem dX12_init_165 : decode cX12_init 165 = .ok (.newarray .int, 2) := by decide +kernel
theorem dX12_init_167 : decode cX12_init 167 = .ok (.putfield 73, 3) := by decide +kernel
theorem dX12_init_170 : decode cX12_init 170 = .ok (.aload_n 0, 1) := by decide +kernel
theorem dX12_init_171 : decode cX12_init 171 = .ok (.bipush 16, 2) := by decide +kernel
theorem dX12_init_173 : decode cX12_init 173 = .ok (.newarray .int, 2) := by decide +kernel
theorem dX12_init_175 : decode cX12_init 175 = .ok (.putfield 76, 3) := by decide +kernel
theorem dX12_init_178 : decode cX12_init 178 = .ok (.aload_n 0, 1) := by decide +kernel
theorem dX12_init_179 : decode cX12_init 179 = .ok (.bipush 16, 2) := by decide +kernel
theorem dX12_init_181 : decode cX12_init 181 = .ok (.newarray .int, 2) := by decide +kernel
theorem dX12_init_183 : decode cX12_init 183 = .ok (.putfield 79, 3) := by decide +kernel
theorem dX12_init_186 : decode cX12_init 186 = .ok (.aload_n 0, 1) := by decide +kernel
theorem dX12_init_187 : decode cX12_init 187 = .ok (.iconst 3, 1) := by decide +kernel
theorem dX12_init_188 : decode cX12_init 188 = .ok (.newarray .int, 2) := by decide +kernel
theorem dX12_init_190 : decode cX12_init 190 = .ok (.putfield 82, 3) := by decide +kernel
theorem dX12_init_193 : decode cX12_init 193 = .ok (.aload_n 0, 1) := by decide +kernel
theorem dX12_init_194 : decode cX12_init 194 = .ok (.iconst 3, 1) := by decide +kernel
theorem dX12_init_195 : decode cX12_init 195 = .ok (.newarray .boolean, 2) := by decide +kernel
theorem dX12_init_197 : decode cX12_init 197 = .ok (.putfield 85, 3) := by decide +kernel
theorem dX12_init_200 : decode cX12_init 200 = .ok (.aload_n 0, 1) := by decide +kernel
theorem dX12_init_201 : decode cX12_init 201 = .ok (.bipush 111, 2) := by decide +kernel
theorem dX12_init_203 : decode cX12_init 203 = .ok (.newarray .int, 2) := by decide +kernel
theorem dX12_init_205 : decode cX12_init 205 = .ok (.putfield 88, 3) := by decide +kernel
theorem dX12_init_208 : decode cX12_init 208 = .ok (.aload_n 0, 1) := by decide +kernel
theorem dX12_init_209 : decode cX12_init 209 = .ok (.sipush 1776, 3) := by decide +kernel
theorem dX12_init_212 : decode cX12_init 212 = .ok (.newarray .int, 2) := by decide +kernel
theorem dX12_init_214 : decode cX12_init 214 = .ok (.putfield 91, 3) := by decide +kernel
theorem dX12_init_217 : decode cX12_init 217 = .ok (.aload_n 0, 1) := by decide +kernel
theorem dX12_init_218 : decode cX12_init 218 = .ok (.sipush 333, 3) := by decide +kernel
theorem dX12_init_221 : decode cX12_init 221 = .ok (.newarray .int, 2) := by decide +kernel
theorem dX12_init_223 : decode cX12_init 223 = .ok (.putfield 94, 3) := by decide +kernel
theorem dX12_init_226 : decode cX12_init 226 = .ok (.aload_n 0, 1) := by decide +kernel
theorem dX12_init_227 : decode cX12_init 227 = .ok (.iconst 3, 1) := by decide +kernel
theorem dX12_init_228 : decode cX12_init 228 = .ok (.newarray .boolean, 2) := by decide +kernel
theorem dX12_init_230 : decode cX12_init 230 = .ok (.putfield 97, 3) := by decide +kernel
theorem dX12_init_233 : decode cX12_init 233 = .ok (.aload_n 0, 1) := by decide +kernel
theorem dX12_init_234 : decode cX12_init 234 = .ok (.bipush 12, 2) := by decide +kernel
theorem dX12_init_236 : decode cX12_init 236 = .ok (.newarray .long, 2) := by decide +kernel
theorem dX12_init_238 : decode cX12_init 238 = .ok (.putfield 100, 3) := by decide +kernel
theorem dX12_init_241 : decode cX12_init 241 = .ok (.aload_n 0, 1) := by decide +kernel
theorem dX12_init_242 : decode cX12_init 242 = .ok (.bipush 12, 2) := by decide +kernel
theorem dX12_init_244 : decode cX12_init 244 = .ok (.newarray .int, 2) := by decide +kernel
theorem dX12_init_246 : decode cX12_init 246 = .ok (.putfield 103, 3) := by decide +kernel
theorem dX12_init_249 : decode cX12_init 249 = .ok (.aload_n 0, 1) := by decide +kernel
theorem dX12_init_250 : decode cX12_init 250 = .ok (.bipush 12, 2) := by decide +kernel
theorem dX12_init_252 : decode cX12_init 252 = .ok (.newarray .int, 2) := by decide +kernel
theorem dX12_init_254 : decode cX12_init 254 = .ok (.putfield 106, 3) := by decide +kernel
theorem dX12_init_257 : decode cX12_init 257 = .ok (.aload_n 0, 1) := by decide +kernel
theorem dX12_init_258 : decode cX12_init 258 = .ok (.bipush 12, 2) := by decide +kernel
theorem dX12_init_260 : decode cX12_init 260 = .ok (.newarray .long, 2) := by decide +kernel
theorem dX12_init_262 : decode cX12_init 262 = .ok (.putfield 109, 3) := by decide +kernel
theorem dX12_init_265 : decode cX12_init 265 = .ok (.aload_n 0, 1) := by decide +kernel
theorem dX12_init_266 : decode cX12_init 266 = .ok (.bipush 12, 2) := by decide +kernel
theorem dX12_init_268 : decode cX12_init 268 = .ok (.newarray .long, 2) := by decide +kernel
theorem dX12_init_270 : decode cX12_init 270 = .ok (.putfield 112, 3) := by decide +kernel
theorem dX12_init_273 : decode cX12_init 273 = .ok (.aload_n 0, 1) := by decide +kernel
theorem dX12_init_274 : decode cX12_init 274 = .ok (.bipush 12, 2) := by decide +kernel
theorem dX12_init_276 : decode cX12_init 276 = .ok (.newarray .long, 2) := by decide +kernel
theorem dX12_init_278 : decode cX12_init 278 = .ok (.putfield 115, 3) := by decide +kernel
theorem dX12_init_281 : decode cX12_init 281 = .ok (.aload_n 0, 1) := by decide +kernel
theorem dX12_init_282 : decode cX12_init 282 = .ok (.bipush 12, 2) := by decide +kernel
theorem dX12_init_284 : decode cX12_init 284 = .ok (.newarray .boolean, 2) := by decide +kernel
theorem dX12_init_286 : decode cX12_init 286 = .ok (.putfield 118, 3) := by decide +kernel
theorem dX12_init_289 : decode cX12_init 289 = .ok (.aload_n 0, 1) := by decide +kernel
theorem dX12_init_290 : decode cX12_init 290 = .ok (.getfield 88, 3) := by decide +kernel
theorem dX12_init_293 : decode cX12_init 293 = .ok (.bipush 72, 2) := by decide +kernel
theorem dX12_init_295 : decode cX12_init 295 = .ok (.ldc 121, 2) := by decide +kernel
theorem dX12_init_297 : decode cX12_init 297 = .ok (.iastore, 1) := by decide +kernel
theorem dX12_init_298 : decode cX12_init 298 = .ok (.aload_n 0, 1) := by decide +kernel
theorem dX12_init_299 : decode cX12_init 299 = .ok (.getfield 88, 3) := by decide +kernel
theorem dX12_init_302 : decode cX12_init 302 = .ok (.bipush 73, 2) := by decide +kernel
theorem dX12_init_304 : decode cX12_init 304 = .ok (.ldc 122, 2) := by decide +kernel
theorem dX12_init_306 : decode cX12_init 306 = .ok (.iastore, 1) := by decide +kernel
theorem dX12_init_307 : decode cX12_init 307 = .ok (.return_, 1) := by decide +kernel
theorem dX11_init_0 : decode cX11_init 0 = .ok (.aload_n 0, 1) := by decide +kernel
theorem dX11_init_1 : decode cX11_init 1 = .ok (.invokespecial 3, 3) := by decide +kernel
theorem dX11_init_4 : decode cX11_init 4 = .ok (.aload_n 0, 1) := by decide +kernel
theorem dX11_init_5 : decode cX11_init 5 = .ok (.new 9, 3) := by decide +kernel
theorem dX11_init_8 : decode cX11_init 8 = .ok (.dup, 1) := by decide +kernel
theorem dX11_init_9 : decode cX11_init 9 = .ok (.invokespecial 11, 3) := by decide +kernel
theorem dX11_init_12 : decode cX11_init 12 = .ok (.putfield 12, 3) := by decide +kernel
theorem dX11_init_15 : decode cX11_init 15 = .ok (.aload_n 0, 1) := by decide +kernel
theorem dX11_init_16 : decode cX11_init 16 = .ok (.aload_n 0, 1) := by decide +kernel
theorem dX11_init_17 : decode cX11_init 17 = .ok (.getfield 12, 3) := by decide +kernel
theorem dX11_init_20 : decode cX11_init 20 = .ok (.getfield 16, 3) := by decide +kernel
theorem dX11_init_23 : decode cX11_init 23 = .ok (.putfield 20, 3) := by decide +kernel
theorem dX11_init_26 : decode cX11_init 26 = .ok (.aload_n 0, 1) := by decide +kernel
theorem dX11_init_27 : decode cX11_init 27 = .ok (.new 21, 3) := by decide +kernel
theorem dX11_init_30 : decode cX11_init 30 = .ok (.dup, 1) := by decide +kernel
theorem dX11_init_31 : decode cX11_init 31 = .ok (.invokespecial 23, 3) := by decide +kernel
theorem dX11_init_34 : decode cX11_init 34 = .ok (.putfield 24, 3) := by decide +kernel
theorem dX11_init_37 : decode cX11_init 37 = .ok (.aload_n 0, 1) := by decide +kernel
theorem dX11_init_38 : decode cX11_init 38 = .ok (.new 28, 3) := by decide +kernel
theorem dX11_init_41 : decode cX11_init 41 = .ok (.dup, 1) := by decide +kernel
theorem dX11_init_42 : decode cX11_init 42 = .ok (.invokespecial 30, 3) := by decide +kernel
theorem dX11_init_45 : decode cX11_init 45 = .ok (.putfield 31, 3) := by decide +kernel
theorem dX11_init_48 : decode cX11_init 48 = .ok (.aload_n 0, 1) := by decide +kernel
theorem dX11_init_49 : decode cX11_init 49 = .ok (.new 35, 3) := by decide +kernel
theorem dX11_init_52 : decode cX11_init 52 = .ok (.dup, 1) := by decide +kernel
theorem dX11_init_53 : decode cX11_init 53 = .ok (.invokespecial 37, 3) := by decide +kernel
theorem dX11_init_56 : decode cX11_init 56 = .ok (.putfield 38, 3) := by decide +kernel
theorem dX11_init_59 : decode cX11_init 59 = .ok (.aload_n 0, 1) := by decide +kernel
theorem dX11_init_60 : decode cX11_init 60 = .ok (.new 42, 3) := by decide +kernel
theorem dX11_init_63 : decode cX11_init 63 = .ok (.dup, 1) := by decide +kernel
theorem dX11_init_64 : decode cX11_init 64 = .ok (.invokespecial 44, 3) := by decide +kernel
theorem dX11_init_67 : decode cX11_init 67 = .ok (.putfield 45, 3) := by decide +kernel
theorem dX11_init_70 : decode cX11_init 70 = .ok (.aload_n 0, 1) := by decide +kernel
theorem dX11_init_71 : decode cX11_init 71 = .ok (.new 35, 3) := by decide +kernel
theorem dX11_init_74 : decode cX11_init 74 = .ok (.dup, 1) := by decide +kernel
theorem dX11_init_75 : decode cX11_init 75 = .ok (.invokespecial 37, 3) := by decide +kernel
theorem dX11_init_78 : decode cX11_init 78 = .ok (.putfield 49, 3) := by decide +kernel
theorem dX11_init_81 : decode cX11_init 81 = .ok (.aload_n 0, 1) := by decide +kernel
theorem dX11_init_82 : decode cX11_init 82 = .ok (.new 42, 3) := by decide +kernel
theorem dX11_init_85 : decode cX11_init 85 = .ok (.dup, 1) := by decide +kernel
theorem dX11_init_86 : decode cX11_init 86 = .ok (.invokespecial 44, 3) := by decide +kernel
theorem dX11_init_89 : decode cX11_init 89 = .ok (.putfield 52, 3) := by decide +kernel
theorem dX11_init_92 : decode cX11_init 92 = .ok (.aload_n 0, 1) := by decide +kernel
theorem dX11_init_93 : decode cX11_init 93 = .ok (.new 55, 3) := by decide +kernel
theorem dX11_init_96 : decode cX11_init 96 = .ok (.dup, 1) := by decide +kernel
theorem dX11_init_97 : decode cX11_init 97 = .ok (.invokespecial 57, 3) := by decide +kernel
theorem dX11_init_100 : decode cX11_init 100 = .ok (.putfield 58, 3) := by decide +kernel
theorem dX11_init_103 : decode cX11_init 103 = .ok (.aload_n 0, 1) := by decide +kernel
theorem dX11_init_104 : decode cX11_init 104 = .ok (.iconst 0, 1) := by decide +kernel
theorem dX11_init_105 : decode cX11_init 105 = .ok (.putfield 62, 3) := by decide +kernel
theorem dX11_init_108 : decode cX11_init 108 = .ok (.return_, 1) := by decide +kernel
theorem pq_1085 : Cond.methodLink RX9 3 Lib.objectInit ∈ pd_gt := pd_in 142 (by decide +kernel) (by decide +kernel)
theorem pq_1086 : Cond.instanceMethod Lib.objectInit ∈ pd_gt := pd_in 129 (by decide +kernel) (by decide +kernel)
theorem pq_1087 : Cond.code Lib.objectInit ⟨#[0xb1]⟩ 1 none ∈ pd_gt := pd_in 130 (by decide +kernel) (by decide +kernel)
theorem pq_1088 : Cond.arrayClass .byte ∈ pd_gt := pd_in 177 (by decide +kernel) (by decide +kernel)
theorem pq_1089 : Cond.methodLink RX1 1 Lib.objectInit ∈ pd_gt := pd_in 267 (by decide +kernel) (by decide +kernel)
theorem pq_1090 : Cond.methodLink RX5 3 Lib.objectInit ∈ pd_gt := pd_in 194 (by decide +kernel) (by decide +kernel)
theorem pq_1091 : Cond.arrayClass .int ∈ pd_gt := pd_in 220 (by decide +kernel) (by decide +kernel)
theorem pq_1092 : Cond.methodLink RX2 3 Lib.objectInit ∈ pd_gt := pd_in 225 (by decide +kernel) (by decide +kernel)
theorem pq_1093 : Cond.methodLink RX8 3 Lib.objectInit ∈ pd_gt := pd_in 395 (by decide +kernel) (by decide +kernel)
theorem pq_1094 : Cond.constant RX8 24 (100000 : Int32) ∈ pd_gt := pd_in 396 (by decide +kernel) (by decide +kernel)
theorem pq_1095 : Cond.constant RX8 25 (50000 : Int32) ∈ pd_gt := pd_in 397 (by decide +kernel) (by decide +kernel)
theorem pq_1096 : Cond.fieldLink RX0 36 "PayoutDesk$Book" "loans" "[LPayoutDesk$Dated;" ∈ pd_gt := pd_in 307 (by decide +kernel) (by decide +kernel)
theorem pq_1097 : Cond.classLink RX0 30 "PayoutDesk$Dated" ∈ pd_gt := pd_in 188 (by decide +kernel) (by decide +kernel)
theorem pq_1098 : Cond.instantiable "PayoutDesk$Dated" 4 ∈ pd_gt := pd_in 263 (by decide +kernel) (by decide +kernel)
theorem pq_1099 : Cond.initialized "PayoutDesk$Dated" ∈ pd_gt := pd_in 105 (by decide +kernel) (by decide +kernel)
theorem pq_1100 : Cond.methodLinkNest RX0 50 yX1_init "PayoutDesk" ∈ pd_gt := pd_in 264 (by decide +kernel) (by decide +kernel)
theorem pq_1101 : Cond.code yX1_init cX1_init 1 none ∈ pd_gt := pd_in 266 (by decide +kernel) (by decide +kernel)
theorem pq_1102 : Cond.initialized yX1_init.cls ∈ pd_gt := pd_in 105 (by decide +kernel) (by decide +kernel)
theorem pq_1103 : Cond.instanceMethod yX1_init ∈ pd_gt := pd_in 265 (by decide +kernel) (by decide +kernel)
theorem pq_1104 : Cond.fieldLink RX0 32 "PayoutDesk$Book" "highs" "[LPayoutDesk$Dated;" ∈ pd_gt := pd_in 302 (by decide +kernel) (by decide +kernel)
theorem pq_1105 : Cond.classLink RX0 17 "PayoutDesk$Group" ∈ pd_gt := pd_in 186 (by decide +kernel) (by decide +kernel)
theorem pq_1106 : Cond.instantiable "PayoutDesk$Group" 8 ∈ pd_gt := pd_in 221 (by decide +kernel) (by decide +kernel)
theorem pq_1107 : Cond.initialized "PayoutDesk$Group" ∈ pd_gt := pd_in 104 (by decide +kernel) (by decide +kernel)
theorem pq_1108 : Cond.methodLinkNest RX0 49 yX2_init "PayoutDesk" ∈ pd_gt := pd_in 222 (by decide +kernel) (by decide +kernel)
theorem pq_1109 : Cond.code yX2_init cX2_init 1 none ∈ pd_gt := pd_in 224 (by decide +kernel) (by decide +kernel)
theorem pq_1110 : Cond.initialized yX2_init.cls ∈ pd_gt := pd_in 104 (by decide +kernel) (by decide +kernel)
theorem pq_1111 : Cond.instanceMethod yX2_init ∈ pd_gt := pd_in 223 (by decide +kernel) (by decide +kernel)
theorem pq_1112 : Cond.classLink RX0 9 "PayoutDesk$Person" ∈ pd_gt := pd_in 184 (by decide +kernel) (by decide +kernel)
theorem pq_1113 : Cond.instantiable "PayoutDesk$Person" 5 ∈ pd_gt := pd_in 190 (by decide +kernel) (by decide +kernel)
theorem pq_1114 : Cond.initialized "PayoutDesk$Person" ∈ pd_gt := pd_in 103 (by decide +kernel) (by decide +kernel)
theorem pq_1115 : Cond.methodLinkNest RX0 48 yX5_init "PayoutDesk" ∈ pd_gt := pd_in 191 (by decide +kernel) (by decide +kernel)
theorem pq_1116 : Cond.code yX5_init cX5_init 1 none ∈ pd_gt := pd_in 193 (by decide +kernel) (by decide +kernel)
theorem pq_1117 : Cond.initialized yX5_init.cls ∈ pd_gt := pd_in 103 (by decide +kernel) (by decide +kernel)
theorem pq_1118 : Cond.instanceMethod yX5_init ∈ pd_gt := pd_in 192 (by decide +kernel) (by decide +kernel)
theorem pq_1119 : Cond.methodLink RX0 3 Lib.objectInit ∈ pd_gt := pd_in 183 (by decide +kernel) (by decide +kernel)
theorem pq_1120 : Cond.arrayOver (.object "PayoutDesk$Person") ∈ pd_gt := pd_in 185 (by decide +kernel) (by decide +kernel)
theorem pq_1121 : Cond.arrayOver (.object "PayoutDesk$Group") ∈ pd_gt := pd_in 187 (by decide +kernel) (by decide +kernel)
theorem pq_1122 : Cond.fieldLink RX0 26 "PayoutDesk$Book" "balances" "[I" ∈ pd_gt := pd_in 299 (by decide +kernel) (by decide +kernel)
theorem pq_1123 : Cond.arrayOver (.object "PayoutDesk$Dated") ∈ pd_gt := pd_in 189 (by decide +kernel) (by decide +kernel)
theorem pq_1124 : Cond.classLink RX3 9 "PayoutDesk$State" ∈ pd_gt := pd_in 389 (by decide +kernel) (by decide +kernel)
theorem pq_1125 : Cond.instantiable "PayoutDesk$State" 6 ∈ pd_gt := pd_in 391 (by decide +kernel) (by decide +kernel)
theorem pq_1126 : Cond.initialized "PayoutDesk$State" ∈ pd_gt := pd_in 107 (by decide +kernel) (by decide +kernel)
theorem pq_1127 : Cond.methodLink RX3 24 yX8_init ∈ pd_gt := pd_in 392 (by decide +kernel) (by decide +kernel)
theorem pq_1128 : Cond.code yX8_init cX8_init 1 none ∈ pd_gt := pd_in 394 (by decide +kernel) (by decide +kernel)
theorem pq_1129 : Cond.initialized yX8_init.cls ∈ pd_gt := pd_in 107 (by decide +kernel) (by decide +kernel)
theorem pq_1130 : Cond.instanceMethod yX8_init ∈ pd_gt := pd_in 393 (by decide +kernel) (by decide +kernel)
theorem pq_1131 : Cond.methodLink RX3 3 Lib.objectInit ∈ pd_gt := pd_in 388 (by decide +kernel) (by decide +kernel)
theorem pq_1132 : Cond.arrayOver (.object "PayoutDesk$State") ∈ pd_gt := pd_in 390 (by decide +kernel) (by decide +kernel)
theorem pq_1133 : Cond.arrayClass .boolean ∈ pd_gt := pd_in 426 (by decide +kernel) (by decide +kernel)
theorem pq_1134 : Cond.methodLink RX6 3 Lib.objectInit ∈ pd_gt := pd_in 136 (by decide +kernel) (by decide +kernel)
theorem pq_1135 : Cond.classLink RX6 9 "PayoutDesk$Tape" ∈ pd_gt := pd_in 137 (by decide +kernel) (by decide +kernel)
theorem pq_1136 : Cond.instantiable "PayoutDesk$Tape" 9 ∈ pd_gt := pd_in 138 (by decide +kernel) (by decide +kernel)
theorem pq_1137 : Cond.initialized "PayoutDesk$Tape" ∈ pd_gt := pd_in 101 (by decide +kernel) (by decide +kernel)
theorem pq_1138 : Cond.methodLinkNest RX6 11 yX9_init "PayoutDesk" ∈ pd_gt := pd_in 139 (by decide +kernel) (by decide +kernel)
theorem pq_1139 : Cond.code yX9_init cX9_init 1 none ∈ pd_gt := pd_in 141 (by decide +kernel) (by decide +kernel)
theorem pq_1140 : Cond.initialized yX9_init.cls ∈ pd_gt := pd_in 101 (by decide +kernel) (by decide +kernel)
theorem pq_1141 : Cond.instanceMethod yX9_init ∈ pd_gt := pd_in 140 (by decide +kernel) (by decide +kernel)
theorem pq_1142 : Cond.classLink RX6 18 "PayoutDesk$Book" ∈ pd_gt := pd_in 178 (by decide +kernel) (by decide +kernel)
theorem pq_1143 : Cond.instantiable "PayoutDesk$Book" 15 ∈ pd_gt := pd_in 179 (by decide +kernel) (by decide +kernel)
theorem pq_1144 : Cond.initialized "PayoutDesk$Book" ∈ pd_gt := pd_in 102 (by decide +kernel) (by decide +kernel)
theorem pq_1145 : Cond.methodLink RX6 20 yX0_init ∈ pd_gt := pd_in 180 (by decide +kernel) (by decide +kernel)
theorem pq_1146 : Cond.code yX0_init cX0_init 2 none ∈ pd_gt := pd_in 182 (by decide +kernel) (by decide +kernel)
theorem pq_1147 : Cond.initialized yX0_init.cls ∈ pd_gt := pd_in 102 (by decide +kernel) (by decide +kernel)
theorem pq_1148 : Cond.instanceMethod yX0_init ∈ pd_gt := pd_in 181 (by decide +kernel) (by decide +kernel)
theorem pq_1149 : Cond.methodLink RX7 3 Lib.objectInit ∈ pd_gt := pd_in 449 (by decide +kernel) (by decide +kernel)
theorem pq_1150 : Cond.classLink RX7 9 "[[I" ∈ pd_gt := pd_in 450 (by decide +kernel) (by decide +kernel)
theorem pq_1151 : Cond.arrayOver (.array .int) ∈ pd_gt := pd_in 451 (by decide +kernel) (by decide +kernel)
theorem pq_1152 : Cond.methodLink RX10 3 Lib.objectInit ∈ pd_gt := pd_in 475 (by decide +kernel) (by decide +kernel)
theorem pq_1153 : Cond.methodLink RX4 3 Lib.objectInit ∈ pd_gt := pd_in 469 (by decide +kernel) (by decide +kernel)
theorem pq_1154 : Cond.classLink RX4 9 "PayoutDesk$Ties" ∈ pd_gt := pd_in 470 (by decide +kernel) (by decide +kernel)
theorem pq_1155 : Cond.instantiable "PayoutDesk$Ties" 4 ∈ pd_gt := pd_in 471 (by decide +kernel) (by decide +kernel)
theorem pq_1156 : Cond.initialized "PayoutDesk$Ties" ∈ pd_gt := pd_in 110 (by decide +kernel) (by decide +kernel)
theorem pq_1157 : Cond.methodLinkNest RX4 11 yX10_init "PayoutDesk" ∈ pd_gt := pd_in 472 (by decide +kernel) (by decide +kernel)
theorem pq_1158 : Cond.code yX10_init cX10_init 1 none ∈ pd_gt := pd_in 474 (by decide +kernel) (by decide +kernel)
theorem pq_1159 : Cond.initialized yX10_init.cls ∈ pd_gt := pd_in 110 (by decide +kernel) (by decide +kernel)
theorem pq_1160 : Cond.instanceMethod yX10_init ∈ pd_gt := pd_in 473 (by decide +kernel) (by decide +kernel)
theorem pq_1161 : Cond.arrayClass .long ∈ pd_gt := pd_in 522 (by decide +kernel) (by decide +kernel)
theorem pq_1162 : Cond.methodLink RX12 1 Lib.objectInit ∈ pd_gt := pd_in 1187 (by decide +kernel) (by decide +kernel)
theorem pq_1163 : Cond.methodLink RX11 3 Lib.objectInit ∈ pd_gt := pd_in 128 (by decide +kernel) (by decide +kernel)
theorem pq_1164 : Cond.classLink RX11 9 "PayoutDesk$Reader" ∈ pd_gt := pd_in 131 (by decide +kernel) (by decide +kernel)
theorem pq_1165 : Cond.instantiable "PayoutDesk$Reader" 3 ∈ pd_gt := pd_in 132 (by decide +kernel) (by decide +kernel)
theorem pq_1166 : Cond.initialized "PayoutDesk$Reader" ∈ pd_gt := pd_in 100 (by decide +kernel) (by decide +kernel)
theorem pq_1167 : Cond.methodLinkNest RX11 11 yX6_init "PayoutDesk" ∈ pd_gt := pd_in 133 (by decide +kernel) (by decide +kernel)
theorem pq_1168 : Cond.code yX6_init cX6_init 1 none ∈ pd_gt := pd_in 135 (by decide +kernel) (by decide +kernel)
theorem pq_1169 : Cond.initialized yX6_init.cls ∈ pd_gt := pd_in 100 (by decide +kernel) (by decide +kernel)
theorem pq_1170 : Cond.instanceMethod yX6_init ∈ pd_gt := pd_in 134 (by decide +kernel) (by decide +kernel)
theorem pq_1171 : Cond.fieldLinkNest RX11 16 "PayoutDesk$Reader" "tape" "LPayoutDesk$Tape;" "PayoutDesk" ∈ pd_gt := pd_in 373 (by decide +kernel) (by decide +kernel)
theorem pq_1172 : Cond.classLink RX11 21 "PayoutDesk$History" ∈ pd_gt := pd_in 383 (by decide +kernel) (by decide +kernel)
theorem pq_1173 : Cond.instantiable "PayoutDesk$History" 5 ∈ pd_gt := pd_in 384 (by decide +kernel) (by decide +kernel)
theorem pq_1174 : Cond.initialized "PayoutDesk$History" ∈ pd_gt := pd_in 106 (by decide +kernel) (by decide +kernel)
theorem pq_1175 : Cond.methodLink RX11 23 yX3_init ∈ pd_gt := pd_in 385 (by decide +kernel) (by decide +kernel)
theorem pq_1176 : Cond.code yX3_init cX3_init 2 none ∈ pd_gt := pd_in 387 (by decide +kernel) (by decide +kernel)
theorem pq_1177 : Cond.initialized yX3_init.cls ∈ pd_gt := pd_in 106 (by decide +kernel) (by decide +kernel)
theorem pq_1178 : Cond.instanceMethod yX3_init ∈ pd_gt := pd_in 386 (by decide +kernel) (by decide +kernel)
theorem pq_1179 : Cond.classLink RX11 28 "PayoutDesk$Shares" ∈ pd_gt := pd_in 444 (by decide +kernel) (by decide +kernel)
theorem pq_1180 : Cond.instantiable "PayoutDesk$Shares" 2 ∈ pd_gt := pd_in 445 (by decide +kernel) (by decide +kernel)
theorem pq_1181 : Cond.initialized "PayoutDesk$Shares" ∈ pd_gt := pd_in 108 (by decide +kernel) (by decide +kernel)
theorem pq_1182 : Cond.methodLinkNest RX11 30 yX7_init "PayoutDesk" ∈ pd_gt := pd_in 446 (by decide +kernel) (by decide +kernel)
theorem pq_1183 : Cond.code yX7_init cX7_init 1 none ∈ pd_gt := pd_in 448 (by decide +kernel) (by decide +kernel)
theorem pq_1184 : Cond.initialized yX7_init.cls ∈ pd_gt := pd_in 108 (by decide +kernel) (by decide +kernel)
theorem pq_1185 : Cond.instanceMethod yX7_init ∈ pd_gt := pd_in 447 (by decide +kernel) (by decide +kernel)
theorem pq_1186 : Cond.classLink RX11 35 "PayoutDesk$State" ∈ pd_gt := pd_in 462 (by decide +kernel) (by decide +kernel)
theorem pq_1187 : Cond.methodLink RX11 37 yX8_init ∈ pd_gt := pd_in 463 (by decide +kernel) (by decide +kernel)
theorem pq_1188 : Cond.classLink RX11 42 "PayoutDesk$Ledger" ∈ pd_gt := pd_in 464 (by decide +kernel) (by decide +kernel)
theorem pq_1189 : Cond.instantiable "PayoutDesk$Ledger" 7 ∈ pd_gt := pd_in 465 (by decide +kernel) (by decide +kernel)
theorem pq_1190 : Cond.initialized "PayoutDesk$Ledger" ∈ pd_gt := pd_in 109 (by decide +kernel) (by decide +kernel)
theorem pq_1191 : Cond.methodLinkNest RX11 44 yX4_init "PayoutDesk" ∈ pd_gt := pd_in 466 (by decide +kernel) (by decide +kernel)
theorem pq_1192 : Cond.code yX4_init cX4_init 1 none ∈ pd_gt := pd_in 468 (by decide +kernel) (by decide +kernel)
theorem pq_1193 : Cond.initialized yX4_init.cls ∈ pd_gt := pd_in 109 (by decide +kernel) (by decide +kernel)
theorem pq_1194 : Cond.instanceMethod yX4_init ∈ pd_gt := pd_in 467 (by decide +kernel) (by decide +kernel)
theorem pq_1195 : Cond.classLink RX11 55 "PayoutDesk$Book" ∈ pd_gt := pd_in 523 (by decide +kernel) (by decide +kernel)
theorem pq_1196 : Cond.methodLink RX11 57 yX0_init ∈ pd_gt := pd_in 524 (by decide +kernel) (by decide +kernel)
def pfX9_init (sh : pd_S) (F : pd_F) (x0 : Int) : Option (pd_S × pd_F) :=
  pd_i (x0 ≠ 0) <|
  pd_l ((sh.length : Int) + 1) fun o4 => pd_l (pd_z F (sh.length + 1)) fun F3 => pd_l (sh ++ [(0, 1, 1000)]) fun sh2 =>
  pd_i (pd_ob sh2 9 x0 = true) <|
  pd_l (pd_up F3 x0 0 o4) fun F6 =>
  some (sh2, F6)
def pfX1_init (sh : pd_S) (F : pd_F) (x0 : Int) : Option (pd_S × pd_F) :=
  pd_i (x0 ≠ 0) <|
  some (sh, F)
def pfX5_init (sh : pd_S) (F : pd_F) (x0 : Int) : Option (pd_S × pd_F) :=
  pd_i (x0 ≠ 0) <|
  pd_l ((sh.length : Int) + 1) fun o4 => pd_l (pd_z F (sh.length + 1)) fun F3 => pd_l (sh ++ [(0, 0, 3)]) fun sh2 =>
  pd_i (pd_ob sh2 5 x0 = true) <|
  pd_l (pd_up F3 x0 0 o4) fun F6 =>
  some (sh2, F6)
def pfX2_init (sh : pd_S) (F : pd_F) (x0 : Int) : Option (pd_S × pd_F) :=
  pd_i (x0 ≠ 0) <|
  pd_l ((sh.length : Int) + 1) fun o4 => pd_l (pd_z F (sh.length + 1)) fun F3 => pd_l (sh ++ [(0, 0, 5)]) fun sh2 =>
  pd_i (pd_ob sh2 2 x0 = true) <|
  pd_l (pd_up F3 x0 0 o4) fun F6 =>
  pd_l ((sh2.length : Int) + 1) fun o9 => pd_l (pd_z F6 (sh2.length + 1)) fun F8 => pd_l (sh2 ++ [(0, 0, 5)]) fun sh7 =>
  pd_i (pd_ob sh7 2 x0 = true) <|
  pd_l (pd_up F8 x0 1 o9) fun F11 =>
  pd_l ((sh7.length : Int) + 1) fun o14 => pd_l (pd_z F11 (sh7.length + 1)) fun F13 => pd_l (sh7 ++ [(0, 0, 12)]) fun sh12 =>
  pd_i (pd_ob sh12 2 x0 = true) <|
  pd_l (pd_up F13 x0 2 o14) fun F16 =>
  some (sh12, F16)
def pfX8_init (sh : pd_S) (F : pd_F) (x0 : Int) : Option (pd_S × pd_F) :=
  pd_i (x0 ≠ 0) <|
  pd_l ((sh.length : Int) + 1) fun o4 => pd_l (pd_z F (sh.length + 1)) fun F3 => pd_l (sh ++ [(0, 0, 10)]) fun sh2 =>
  pd_i (pd_ob sh2 8 x0 = true) <|
  pd_l (pd_up F3 x0 0 o4) fun F6 =>
  pd_l ((sh2.length : Int) + 1) fun o9 => pd_l (pd_z F6 (sh2.length + 1)) fun F8 => pd_l (sh2 ++ [(0, 0, 3)]) fun sh7 =>
  pd_i (pd_ob sh7 8 x0 = true) <|
  pd_l (pd_up F8 x0 1 o9) fun F11 =>
  pd_l ((sh7.length : Int) + 1) fun o14 => pd_l (pd_z F11 (sh7.length + 1)) fun F13 => pd_l (sh7 ++ [(0, 0, 31)]) fun sh12 =>
  pd_i (pd_ob sh12 8 x0 = true) <|
  pd_l (pd_up F13 x0 2 o14) fun F16 =>
  pd_l ((sh12.length : Int) + 1) fun o19 => pd_l (pd_z F16 (sh12.length + 1)) fun F18 => pd_l (sh12 ++ [(0, 0, 31)]) fun sh17 =>
  pd_i (pd_ob sh17 8 x0 = true) <|
  pd_l (pd_up F18 x0 3 o19) fun F21 =>
  pd_i (pd_ib sh17 0 0 (F21 x0 1) 1 = true) <|
  pd_l (pd_up F21 (F21 x0 1) 1 100000) fun F23 =>
  pd_i (pd_ib sh17 0 0 (F23 x0 1) 2 = true) <|
  pd_l (pd_up F23 (F23 x0 1) 2 50000) fun F25 =>
  some (sh17, F25)
def pfX0_init_b201 : Nat → pd_S → pd_F → Int → Int → Option (pd_S × pd_F)
  | 0, _, _, _, _ => none
  | k + 1, sh, F, x0, x1 =>
    pd_i (pd_ob sh 0 x0 = true) <|
    pd_i (0 ≤ pd_ln sh 2 1 (F x0 5)) <|
    if x1 ≥ (pd_ln sh 2 1 (F x0 5)) then
      some (sh, F)
    else
      pd_l ((sh.length : Int) + 1) fun o5 => pd_l (pd_z F (sh.length + 1)) fun F4 => pd_l (sh ++ [(4, 1, 4)]) fun sh3 =>
      pd_i (1 ≤ o5) <|
      Option.bind (pfX1_init sh3 F4 o5) fun qsh7 => pd_l qsh7.1 fun sh7 => pd_l qsh7.2 fun F6 =>
      pd_i (pd_ib sh7 2 1 (F x0 5) x1 = true) <|
      pd_i (pd_ob sh7 1 o5 = true) <|
      pd_l (pd_up F6 (F x0 5) x1 o5) fun F11 =>
      pd_l (pd_w (x1 + 1)) fun x1_223 =>
      pfX0_init_b201 k sh7 F11 x0 x1_223
def pfX0_init_b199 (sh : pd_S) (F : pd_F) (x0 : Int) : Option (pd_S × pd_F) :=
  pfX0_init_b201 20 sh F x0 0
def pfX0_init_b171 : Nat → pd_S → pd_F → Int → Int → Option (pd_S × pd_F)
  | 0, _, _, _, _ => none
  | k + 1, sh, F, x0, x1 =>
    pd_i (pd_ob sh 0 x0 = true) <|
    pd_i (0 ≤ pd_ln sh 2 1 (F x0 4)) <|
    if x1 ≥ (pd_ln sh 2 1 (F x0 4)) then
      pfX0_init_b199 sh F x0
    else
      pd_l ((sh.length : Int) + 1) fun o16 => pd_l (pd_z F (sh.length + 1)) fun F15 => pd_l (sh ++ [(4, 1, 4)]) fun sh14 =>
      pd_i (1 ≤ o16) <|
      Option.bind (pfX1_init sh14 F15 o16) fun qsh18 => pd_l qsh18.1 fun sh18 => pd_l qsh18.2 fun F17 =>
      pd_i (pd_ib sh18 2 1 (F x0 4) x1 = true) <|
      pd_i (pd_ob sh18 1 o16 = true) <|
      pd_l (pd_up F17 (F x0 4) x1 o16) fun F22 =>
      pd_l (pd_w (x1 + 1)) fun x1_193 =>
      pfX0_init_b171 k sh18 F22 x0 x1_193
def pfX0_init_b169 (sh : pd_S) (F : pd_F) (x0 : Int) : Option (pd_S × pd_F) :=
  pfX0_init_b171 20 sh F x0 0
def pfX0_init_b141 : Nat → pd_S → pd_F → Int → Int → Option (pd_S × pd_F)
  | 0, _, _, _, _ => none
  | k + 1, sh, F, x0, x1 =>
    pd_i (pd_ob sh 0 x0 = true) <|
    pd_i (0 ≤ pd_ln sh 2 2 (F x0 2)) <|
    if x1 ≥ (pd_ln sh 2 2 (F x0 2)) then
      pfX0_init_b169 sh F x0
    else
      pd_l ((sh.length : Int) + 1) fun o27 => pd_l (pd_z F (sh.length + 1)) fun F26 => pd_l (sh ++ [(4, 2, 8)]) fun sh25 =>
      pd_i (1 ≤ o27) <|
      Option.bind (pfX2_init sh25 F26 o27) fun qsh29 => pd_l qsh29.1 fun sh29 => pd_l qsh29.2 fun F28 =>
      pd_i (pd_ib sh29 2 2 (F x0 2) x1 = true) <|
      pd_i (pd_ob sh29 2 o27 = true) <|
      pd_l (pd_up F28 (F x0 2) x1 o27) fun F33 =>
      pd_l (pd_w (x1 + 1)) fun x1_163 =>
      pfX0_init_b141 k sh29 F33 x0 x1_163
def pfX0_init_b139 (sh : pd_S) (F : pd_F) (x0 : Int) : Option (pd_S × pd_F) :=
  pfX0_init_b141 20 sh F x0 0
def pfX0_init_b111 : Nat → pd_S → pd_F → Int → Int → Option (pd_S × pd_F)
  | 0, _, _, _, _ => none
  | k + 1, sh, F, x0, x1 =>
    pd_i (pd_ob sh 0 x0 = true) <|
    pd_i (0 ≤ pd_ln sh 2 2 (F x0 1)) <|
    if x1 ≥ (pd_ln sh 2 2 (F x0 1)) then
      pfX0_init_b139 sh F x0
    else
      pd_l ((sh.length : Int) + 1) fun o38 => pd_l (pd_z F (sh.length + 1)) fun F37 => pd_l (sh ++ [(4, 2, 8)]) fun sh36 =>
      pd_i (1 ≤ o38) <|
      Option.bind (pfX2_init sh36 F37 o38) fun qsh40 => pd_l qsh40.1 fun sh40 => pd_l qsh40.2 fun F39 =>
      pd_i (pd_ib sh40 2 2 (F x0 1) x1 = true) <|
      pd_i (pd_ob sh40 2 o38 = true) <|
      pd_l (pd_up F39 (F x0 1) x1 o38) fun F44 =>
      pd_l (pd_w (x1 + 1)) fun x1_133 =>
      pfX0_init_b111 k sh40 F44 x0 x1_133
def pfX0_init_b109 (sh : pd_S) (F : pd_F) (x0 : Int) : Option (pd_S × pd_F) :=
  pfX0_init_b111 20 sh F x0 0
def pfX0_init_b81 : Nat → pd_S → pd_F → Int → Int → Option (pd_S × pd_F)
  | 0, _, _, _, _ => none
  | k + 1, sh, F, x0, x1 =>
    pd_i (pd_ob sh 0 x0 = true) <|
    pd_i (0 ≤ pd_ln sh 2 5 (F x0 0)) <|
    if x1 ≥ (pd_ln sh 2 5 (F x0 0)) then
      pfX0_init_b109 sh F x0
    else
      pd_l ((sh.length : Int) + 1) fun o49 => pd_l (pd_z F (sh.length + 1)) fun F48 => pd_l (sh ++ [(4, 5, 5)]) fun sh47 =>
      pd_i (1 ≤ o49) <|
      Option.bind (pfX5_init sh47 F48 o49) fun qsh51 => pd_l qsh51.1 fun sh51 => pd_l qsh51.2 fun F50 =>
      pd_i (pd_ib sh51 2 5 (F x0 0) x1 = true) <|
      pd_i (pd_ob sh51 5 o49 = true) <|
      pd_l (pd_up F50 (F x0 0) x1 o49) fun F55 =>
      pd_l (pd_w (x1 + 1)) fun x1_103 =>
      pfX0_init_b81 k sh51 F55 x0 x1_103
def pfX0_init (sh : pd_S) (F : pd_F) (x0 : Int) : Option (pd_S × pd_F) :=
  pd_i (x0 ≠ 0) <|
  pd_l ((sh.length : Int) + 1) fun o59 => pd_l (pd_z F (sh.length + 1)) fun F58 => pd_l (sh ++ [(2, 5, 12)]) fun sh57 =>
  pd_i (pd_ob sh57 0 x0 = true) <|
  pd_l (pd_up F58 x0 0 o59) fun F61 =>
  pd_l ((sh57.length : Int) + 1) fun o64 => pd_l (pd_z F61 (sh57.length + 1)) fun F63 => pd_l (sh57 ++ [(2, 2, 5)]) fun sh62 =>
  pd_i (pd_ob sh62 0 x0 = true) <|
  pd_l (pd_up F63 x0 1 o64) fun F66 =>
  pd_l ((sh62.length : Int) + 1) fun o69 => pd_l (pd_z F66 (sh62.length + 1)) fun F68 => pd_l (sh62 ++ [(2, 2, 10)]) fun sh67 =>
  pd_i (pd_ob sh67 0 x0 = true) <|
  pd_l (pd_up F68 x0 2 o69) fun F71 =>
  pd_l ((sh67.length : Int) + 1) fun o74 => pd_l (pd_z F71 (sh67.length + 1)) fun F73 => pd_l (sh67 ++ [(0, 0, 10)]) fun sh72 =>
  pd_i (pd_ob sh72 0 x0 = true) <|
  pd_l (pd_up F73 x0 3 o74) fun F76 =>
  pd_l ((sh72.length : Int) + 1) fun o79 => pd_l (pd_z F76 (sh72.length + 1)) fun F78 => pd_l (sh72 ++ [(2, 1, 6)]) fun sh77 =>
  pd_i (pd_ob sh77 0 x0 = true) <|
  pd_l (pd_up F78 x0 4 o79) fun F81 =>
  pd_l ((sh77.length : Int) + 1) fun o84 => pd_l (pd_z F81 (sh77.length + 1)) fun F83 => pd_l (sh77 ++ [(2, 1, 8)]) fun sh82 =>
  pd_i (pd_ob sh82 0 x0 = true) <|
  pd_l (pd_up F83 x0 5 o84) fun F86 =>
  pd_l ((sh82.length : Int) + 1) fun o89 => pd_l (pd_z F86 (sh82.length + 1)) fun F88 => pd_l (sh82 ++ [(0, 0, 3)]) fun sh87 =>
  pd_i (pd_ob sh87 0 x0 = true) <|
  pd_l (pd_up F88 x0 6 o89) fun F91 =>
  pd_l ((sh87.length : Int) + 1) fun o94 => pd_l (pd_z F91 (sh87.length + 1)) fun F93 => pd_l (sh87 ++ [(0, 0, 36)]) fun sh92 =>
  pd_i (pd_ob sh92 0 x0 = true) <|
  pd_l (pd_up F93 x0 7 o94) fun F96 =>
  pd_l ((sh92.length : Int) + 1) fun o99 => pd_l (pd_z F96 (sh92.length + 1)) fun F98 => pd_l (sh92 ++ [(0, 0, 36)]) fun sh97 =>
  pd_i (pd_ob sh97 0 x0 = true) <|
  pd_l (pd_up F98 x0 8 o99) fun F101 =>
  pfX0_init_b81 20 sh97 F101 x0 0
def pfX3_init_b60 : Nat → pd_S → pd_F → Int → Int → Option (pd_S × pd_F)
  | 0, _, _, _, _ => none
  | k + 1, sh, F, x0, x1 =>
    pd_i (pd_ob sh 3 x0 = true) <|
    pd_i (0 ≤ pd_ln sh 2 8 (F x0 1)) <|
    if x1 ≥ (pd_ln sh 2 8 (F x0 1)) then
      some (sh, F)
    else
      pd_l ((sh.length : Int) + 1) fun o5 => pd_l (pd_z F (sh.length + 1)) fun F4 => pd_l (sh ++ [(4, 8, 6)]) fun sh3 =>
      pd_i (1 ≤ o5) <|
      Option.bind (pfX8_init sh3 F4 o5) fun qsh7 => pd_l qsh7.1 fun sh7 => pd_l qsh7.2 fun F6 =>
      pd_i (pd_ib sh7 2 8 (F x0 1) x1 = true) <|
      pd_i (pd_ob sh7 8 o5 = true) <|
      pd_l (pd_up F6 (F x0 1) x1 o5) fun F11 =>
      pd_l (pd_w (x1 + 1)) fun x1_82 =>
      pfX3_init_b60 k sh7 F11 x0 x1_82
def pfX3_init_b58 (sh : pd_S) (F : pd_F) (x0 : Int) : Option (pd_S × pd_F) :=
  pfX3_init_b60 20 sh F x0 0
def pfX3_init_b30 : Nat → pd_S → pd_F → Int → Int → Option (pd_S × pd_F)
  | 0, _, _, _, _ => none
  | k + 1, sh, F, x0, x1 =>
    pd_i (pd_ob sh 3 x0 = true) <|
    pd_i (0 ≤ pd_ln sh 2 8 (F x0 0)) <|
    if x1 ≥ (pd_ln sh 2 8 (F x0 0)) then
      pfX3_init_b58 sh F x0
    else
      pd_l ((sh.length : Int) + 1) fun o16 => pd_l (pd_z F (sh.length + 1)) fun F15 => pd_l (sh ++ [(4, 8, 6)]) fun sh14 =>
      pd_i (1 ≤ o16) <|
      Option.bind (pfX8_init sh14 F15 o16) fun qsh18 => pd_l qsh18.1 fun sh18 => pd_l qsh18.2 fun F17 =>
      pd_i (pd_ib sh18 2 8 (F x0 0) x1 = true) <|
      pd_i (pd_ob sh18 8 o16 = true) <|
      pd_l (pd_up F17 (F x0 0) x1 o16) fun F22 =>
      pd_l (pd_w (x1 + 1)) fun x1_52 =>
      pfX3_init_b30 k sh18 F22 x0 x1_52
def pfX3_init (sh : pd_S) (F : pd_F) (x0 : Int) : Option (pd_S × pd_F) :=
  pd_i (x0 ≠ 0) <|
  pd_l ((sh.length : Int) + 1) fun o26 => pd_l (pd_z F (sh.length + 1)) fun F25 => pd_l (sh ++ [(2, 8, 16)]) fun sh24 =>
  pd_i (pd_ob sh24 3 x0 = true) <|
  pd_l (pd_up F25 x0 0 o26) fun F28 =>
  pd_l ((sh24.length : Int) + 1) fun o31 => pd_l (pd_z F28 (sh24.length + 1)) fun F30 => pd_l (sh24 ++ [(2, 8, 3)]) fun sh29 =>
  pd_i (pd_ob sh29 3 x0 = true) <|
  pd_l (pd_up F30 x0 1 o31) fun F33 =>
  pd_l ((sh29.length : Int) + 1) fun o36 => pd_l (pd_z F33 (sh29.length + 1)) fun F35 => pd_l (sh29 ++ [(0, 2, 3)]) fun sh34 =>
  pd_i (pd_ob sh34 3 x0 = true) <|
  pd_l (pd_up F35 x0 2 o36) fun F38 =>
  pfX3_init_b30 20 sh34 F38 x0 0
def pfX6_init (sh : pd_S) (F : pd_F) (x0 : Int) : Option (pd_S × pd_F) :=
  pd_i (x0 ≠ 0) <|
  pd_l ((sh.length : Int) + 1) fun o4 => pd_l (pd_z F (sh.length + 1)) fun F3 => pd_l (sh ++ [(4, 9, 9)]) fun sh2 =>
  pd_i (1 ≤ o4) <|
  Option.bind (pfX9_init sh2 F3 o4) fun qsh6 => pd_l qsh6.1 fun sh6 => pd_l qsh6.2 fun F5 =>
  pd_i (pd_ob sh6 6 x0 = true) <|
  pd_l (pd_up F5 x0 0 o4) fun F9 =>
  pd_l ((sh6.length : Int) + 1) fun o12 => pd_l (pd_z F9 (sh6.length + 1)) fun F11 => pd_l (sh6 ++ [(4, 0, 15)]) fun sh10 =>
  pd_i (1 ≤ o12) <|
  Option.bind (pfX0_init sh10 F11 o12) fun qsh14 => pd_l qsh14.1 fun sh14 => pd_l qsh14.2 fun F13 =>
  pd_i (pd_ob sh14 6 x0 = true) <|
  pd_l (pd_up F13 x0 1 o12) fun F17 =>
  some (sh14, F17)
def pfX7_init (sh : pd_S) (F : pd_F) (x0 : Int) : Option (pd_S × pd_F) :=
  pd_i (x0 ≠ 0) <|
  pd_l ((sh.length : Int) + 1) fun o4 => pd_l (pd_mz F (sh.length + 1) 10) fun F3 => pd_l (sh ++ (3, 0, 10) :: List.replicate 10 (0, 0, 12)) fun sh2 =>
  pd_i (pd_ob sh2 7 x0 = true) <|
  pd_l (pd_up F3 x0 0 o4) fun F6 =>
  pd_l ((sh2.length : Int) + 1) fun o9 => pd_l (pd_mz F6 (sh2.length + 1) 6) fun F8 => pd_l (sh2 ++ (3, 0, 6) :: List.replicate 6 (0, 0, 12)) fun sh7 =>
  pd_i (pd_ob sh7 7 x0 = true) <|
  pd_l (pd_up F8 x0 1 o9) fun F11 =>
  some (sh7, F11)
def pfX10_init (sh : pd_S) (F : pd_F) (x0 : Int) : Option (pd_S × pd_F) :=
  pd_i (x0 ≠ 0) <|
  pd_l ((sh.length : Int) + 1) fun o4 => pd_l (pd_z F (sh.length + 1)) fun F3 => pd_l (sh ++ [(0, 0, 12)]) fun sh2 =>
  pd_i (pd_ob sh2 10 x0 = true) <|
  pd_l (pd_up F3 x0 0 o4) fun F6 =>
  pd_l ((sh2.length : Int) + 1) fun o9 => pd_l (pd_z F6 (sh2.length + 1)) fun F8 => pd_l (sh2 ++ [(0, 0, 12)]) fun sh7 =>
  pd_i (pd_ob sh7 10 x0 = true) <|
  pd_l (pd_up F8 x0 1 o9) fun F11 =>
  pd_l ((sh7.length : Int) + 1) fun o14 => pd_l (pd_z F11 (sh7.length + 1)) fun F13 => pd_l (sh7 ++ [(0, 0, 12)]) fun sh12 =>
  pd_i (pd_ob sh12 10 x0 = true) <|
  pd_l (pd_up F13 x0 2 o14) fun F16 =>
  some (sh12, F16)
def pfX4_init (sh : pd_S) (F : pd_F) (x0 : Int) : Option (pd_S × pd_F) :=
  pd_i (x0 ≠ 0) <|
  pd_l ((sh.length : Int) + 1) fun o4 => pd_l (pd_z F (sh.length + 1)) fun F3 => pd_l (sh ++ [(4, 10, 4)]) fun sh2 =>
  pd_i (1 ≤ o4) <|
  Option.bind (pfX10_init sh2 F3 o4) fun qsh6 => pd_l qsh6.1 fun sh6 => pd_l qsh6.2 fun F5 =>
  pd_i (pd_ob sh6 4 x0 = true) <|
  pd_l (pd_up F5 x0 0 o4) fun F9 =>
  pd_l ((sh6.length : Int) + 1) fun o12 => pd_l (pd_z F9 (sh6.length + 1)) fun F11 => pd_l (sh6 ++ [(1, 0, 12)]) fun sh10 =>
  pd_i (pd_ob sh10 4 x0 = true) <|
  pd_l (pd_up F11 x0 1 o12) fun F14 =>
  pd_l ((sh10.length : Int) + 1) fun o17 => pd_l (pd_z F14 (sh10.length + 1)) fun F16 => pd_l (sh10 ++ [(1, 0, 12)]) fun sh15 =>
  pd_i (pd_ob sh15 4 x0 = true) <|
  pd_l (pd_up F16 x0 2 o17) fun F19 =>
  pd_l ((sh15.length : Int) + 1) fun o22 => pd_l (pd_z F19 (sh15.length + 1)) fun F21 => pd_l (sh15 ++ [(1, 0, 12)]) fun sh20 =>
  pd_i (pd_ob sh20 4 x0 = true) <|
  pd_l (pd_up F21 x0 3 o22) fun F24 =>
  pd_l ((sh20.length : Int) + 1) fun o27 => pd_l (pd_z F24 (sh20.length + 1)) fun F26 => pd_l (sh20 ++ [(0, 2, 12)]) fun sh25 =>
  pd_i (pd_ob sh25 4 x0 = true) <|
  pd_l (pd_up F26 x0 4 o27) fun F29 =>
  some (sh25, F29)
def pfX12_init (sh : pd_S) (F : pd_F) (x0 : Int) : Option (pd_S × pd_F) :=
  pd_i (x0 ≠ 0) <|
  pd_l ((sh.length : Int) + 1) fun o4 => pd_l (pd_z F (sh.length + 1)) fun F3 => pd_l (sh ++ [(0, 1, 1000)]) fun sh2 =>
  pd_i (pd_ob sh2 12 x0 = true) <|
  pd_l (pd_up F3 x0 1 o4) fun F6 =>
  pd_l ((sh2.length : Int) + 1) fun o9 => pd_l (pd_z F6 (sh2.length + 1)) fun F8 => pd_l (sh2 ++ [(0, 0, 2)]) fun sh7 =>
  pd_i (pd_ob sh7 12 x0 = true) <|
  pd_l (pd_up F8 x0 14 o9) fun F11 =>
  pd_l ((sh7.length : Int) + 1) fun o14 => pd_l (pd_z F11 (sh7.length + 1)) fun F13 => pd_l (sh7 ++ [(0, 0, 2)]) fun sh12 =>
  pd_i (pd_ob sh12 12 x0 = true) <|
  pd_l (pd_up F13 x0 15 o14) fun F16 =>
  pd_l ((sh12.length : Int) + 1) fun o19 => pd_l (pd_z F16 (sh12.length + 1)) fun F18 => pd_l (sh12 ++ [(0, 0, 2)]) fun sh17 =>
  pd_i (pd_ob sh17 12 x0 = true) <|
  pd_l (pd_up F18 x0 16 o19) fun F21 =>
  pd_l ((sh17.length : Int) + 1) fun o24 => pd_l (pd_z F21 (sh17.length + 1)) fun F23 => pd_l (sh17 ++ [(0, 0, 2)]) fun sh22 =>
  pd_i (pd_ob sh22 12 x0 = true) <|
  pd_l (pd_up F23 x0 17 o24) fun F26 =>
  pd_l ((sh22.length : Int) + 1) fun o29 => pd_l (pd_z F26 (sh22.length + 1)) fun F28 => pd_l (sh22 ++ [(0, 0, 2)]) fun sh27 =>
  pd_i (pd_ob sh27 12 x0 = true) <|
  pd_l (pd_up F28 x0 18 o29) fun F31 =>
  pd_l ((sh27.length : Int) + 1) fun o34 => pd_l (pd_z F31 (sh27.length + 1)) fun F33 => pd_l (sh27 ++ [(1, 0, 24)]) fun sh32 =>
  pd_i (pd_ob sh32 12 x0 = true) <|
  pd_l (pd_up F33 x0 19 o34) fun F36 =>
  pd_l ((sh32.length : Int) + 1) fun o39 => pd_l (pd_z F36 (sh32.length + 1)) fun F38 => pd_l (sh32 ++ [(0, 0, 24)]) fun sh37 =>
  pd_i (pd_ob sh37 12 x0 = true) <|
  pd_l (pd_up F38 x0 20 o39) fun F41 =>
  pd_l ((sh37.length : Int) + 1) fun o44 => pd_l (pd_z F41 (sh37.length + 1)) fun F43 => pd_l (sh37 ++ [(0, 0, 72)]) fun sh42 =>
  pd_i (pd_ob sh42 12 x0 = true) <|
  pd_l (pd_up F43 x0 21 o44) fun F46 =>
  pd_l ((sh42.length : Int) + 1) fun o49 => pd_l (pd_z F46 (sh42.length + 1)) fun F48 => pd_l (sh42 ++ [(0, 2, 24)]) fun sh47 =>
  pd_i (pd_ob sh47 12 x0 = true) <|
  pd_l (pd_up F48 x0 22 o49) fun F51 =>
  pd_l ((sh47.length : Int) + 1) fun o54 => pd_l (pd_z F51 (sh47.length + 1)) fun F53 => pd_l (sh47 ++ [(1, 0, 10)]) fun sh52 =>
  pd_i (pd_ob sh52 12 x0 = true) <|
  pd_l (pd_up F53 x0 23 o54) fun F56 =>
  pd_l ((sh52.length : Int) + 1) fun o59 => pd_l (pd_z F56 (sh52.length + 1)) fun F58 => pd_l (sh52 ++ [(1, 0, 20)]) fun sh57 =>
  pd_i (pd_ob sh57 12 x0 = true) <|
  pd_l (pd_up F58 x0 24 o59) fun F61 =>
  pd_l ((sh57.length : Int) + 1) fun o64 => pd_l (pd_z F61 (sh57.length + 1)) fun F63 => pd_l (sh57 ++ [(0, 0, 20)]) fun sh62 =>
  pd_i (pd_ob sh62 12 x0 = true) <|
  pd_l (pd_up F63 x0 25 o64) fun F66 =>
  pd_l ((sh62.length : Int) + 1) fun o69 => pd_l (pd_z F66 (sh62.length + 1)) fun F68 => pd_l (sh62 ++ [(0, 0, 30)]) fun sh67 =>
  pd_i (pd_ob sh67 12 x0 = true) <|
  pd_l (pd_up F68 x0 26 o69) fun F71 =>
  pd_l ((sh67.length : Int) + 1) fun o74 => pd_l (pd_z F71 (sh67.length + 1)) fun F73 => pd_l (sh67 ++ [(0, 0, 150)]) fun sh72 =>
  pd_i (pd_ob sh72 12 x0 = true) <|
  pd_l (pd_up F73 x0 27 o74) fun F76 =>
  pd_l ((sh72.length : Int) + 1) fun o79 => pd_l (pd_z F76 (sh72.length + 1)) fun F78 => pd_l (sh72 ++ [(0, 0, 150)]) fun sh77 =>
  pd_i (pd_ob sh77 12 x0 = true) <|
  pd_l (pd_up F78 x0 28 o79) fun F81 =>
  pd_l ((sh77.length : Int) + 1) fun o84 => pd_l (pd_z F81 (sh77.length + 1)) fun F83 => pd_l (sh77 ++ [(0, 0, 12)]) fun sh82 =>
  pd_i (pd_ob sh82 12 x0 = true) <|
  pd_l (pd_up F83 x0 29 o84) fun F86 =>
  pd_l ((sh82.length : Int) + 1) fun o89 => pd_l (pd_z F86 (sh82.length + 1)) fun F88 => pd_l (sh82 ++ [(0, 0, 12)]) fun sh87 =>
  pd_i (pd_ob sh87 12 x0 = true) <|
  pd_l (pd_up F88 x0 30 o89) fun F91 =>
  pd_l ((sh87.length : Int) + 1) fun o94 => pd_l (pd_z F91 (sh87.length + 1)) fun F93 => pd_l (sh87 ++ [(0, 0, 12)]) fun sh92 =>
  pd_i (pd_ob sh92 12 x0 = true) <|
  pd_l (pd_up F93 x0 31 o94) fun F96 =>
  pd_l ((sh92.length : Int) + 1) fun o99 => pd_l (pd_z F96 (sh92.length + 1)) fun F98 => pd_l (sh92 ++ [(0, 0, 12)]) fun sh97 =>
  pd_i (pd_ob sh97 12 x0 = true) <|
  pd_l (pd_up F98 x0 32 o99) fun F101 =>
  pd_l ((sh97.length : Int) + 1) fun o104 => pd_l (pd_z F101 (sh97.length + 1)) fun F103 => pd_l (sh97 ++ [(0, 0, 16)]) fun sh102 =>
  pd_i (pd_ob sh102 12 x0 = true) <|
  pd_l (pd_up F103 x0 33 o104) fun F106 =>
  pd_l ((sh102.length : Int) + 1) fun o109 => pd_l (pd_z F106 (sh102.length + 1)) fun F108 => pd_l (sh102 ++ [(0, 0, 16)]) fun sh107 =>
  pd_i (pd_ob sh107 12 x0 = true) <|
  pd_l (pd_up F108 x0 34 o109) fun F111 =>
  pd_l ((sh107.length : Int) + 1) fun o114 => pd_l (pd_z F111 (sh107.length + 1)) fun F113 => pd_l (sh107 ++ [(0, 0, 16)]) fun sh112 =>
  pd_i (pd_ob sh112 12 x0 = true) <|
  pd_l (pd_up F113 x0 35 o114) fun F116 =>
  pd_l ((sh112.length : Int) + 1) fun o119 => pd_l (pd_z F116 (sh112.length + 1)) fun F118 => pd_l (sh112 ++ [(0, 0, 3)]) fun sh117 =>
  pd_i (pd_ob sh117 12 x0 = true) <|
  pd_l (pd_up F118 x0 36 o119) fun F121 =>
  pd_l ((sh117.length : Int) + 1) fun o124 => pd_l (pd_z F121 (sh117.length + 1)) fun F123 => pd_l (sh117 ++ [(0, 2, 3)]) fun sh122 =>
  pd_i (pd_ob sh122 12 x0 = true) <|
  pd_l (pd_up F123 x0 37 o124) fun F126 =>
  pd_l ((sh122.length : Int) + 1) fun o129 => pd_l (pd_z F126 (sh122.length + 1)) fun F128 => pd_l (sh122 ++ [(0, 0, 111)]) fun sh127 =>
  pd_i (pd_ob sh127 12 x0 = true) <|
  pd_l (pd_up F128 x0 39 o129) fun F131 =>
  pd_l ((sh127.length : Int) + 1) fun o134 => pd_l (pd_z F131 (sh127.length + 1)) fun F133 => pd_l (sh127 ++ [(0, 0, 1776)]) fun sh132 =>
  pd_i (pd_ob sh132 12 x0 = true) <|
  pd_l (pd_up F133 x0 40 o134) fun F136 =>
  pd_l ((sh132.length : Int) + 1) fun o139 => pd_l (pd_z F136 (sh132.length + 1)) fun F138 => pd_l (sh132 ++ [(0, 0, 333)]) fun sh137 =>
  pd_i (pd_ob sh137 12 x0 = true) <|
  pd_l (pd_up F138 x0 42 o139) fun F141 =>
  pd_l ((sh137.length : Int) + 1) fun o144 => pd_l (pd_z F141 (sh137.length + 1)) fun F143 => pd_l (sh137 ++ [(0, 2, 3)]) fun sh142 =>
  pd_i (pd_ob sh142 12 x0 = true) <|
  pd_l (pd_up F143 x0 43 o144) fun F146 =>
  pd_l ((sh142.length : Int) + 1) fun o149 => pd_l (pd_z F146 (sh142.length + 1)) fun F148 => pd_l (sh142 ++ [(1, 0, 12)]) fun sh147 =>
  pd_i (pd_ob sh147 12 x0 = true) <|
  pd_l (pd_up F148 x0 44 o149) fun F151 =>
  pd_l ((sh147.length : Int) + 1) fun o154 => pd_l (pd_z F151 (sh147.length + 1)) fun F153 => pd_l (sh147 ++ [(0, 0, 12)]) fun sh152 =>
  pd_i (pd_ob sh152 12 x0 = true) <|
  pd_l (pd_up F153 x0 45 o154) fun F156 =>
  pd_l ((sh152.length : Int) + 1) fun o159 => pd_l (pd_z F156 (sh152.length + 1)) fun F158 => pd_l (sh152 ++ [(0, 0, 12)]) fun sh157 =>
  pd_i (pd_ob sh157 12 x0 = true) <|
  pd_l (pd_up F158 x0 47 o159) fun F161 =>
  pd_l ((sh157.length : Int) + 1) fun o164 => pd_l (pd_z F161 (sh157.length + 1)) fun F163 => pd_l (sh157 ++ [(1, 0, 12)]) fun sh162 =>
  pd_i (pd_ob sh162 12 x0 = true) <|
  pd_l (pd_up F163 x0 48 o164) fun F166 =>
  pd_l ((sh162.length : Int) + 1) fun o169 => pd_l (pd_z F166 (sh162.length + 1)) fun F168 => pd_l (sh162 ++ [(1, 0, 12)]) fun sh167 =>
  pd_i (pd_ob sh167 12 x0 = true) <|
  pd_l (pd_up F168 x0 49 o169) fun F171 =>
  pd_l ((sh167.length : Int) + 1) fun o174 => pd_l (pd_z F171 (sh167.length + 1)) fun F173 => pd_l (sh167 ++ [(1, 0, 12)]) fun sh172 =>
  pd_i (pd_ob sh172 12 x0 = true) <|
  pd_l (pd_up F173 x0 50 o174) fun F176 =>
  pd_l ((sh172.length : Int) + 1) fun o179 => pd_l (pd_z F176 (sh172.length + 1)) fun F178 => pd_l (sh172 ++ [(0, 2, 12)]) fun sh177 =>
  pd_i (pd_ob sh177 12 x0 = true) <|
  pd_l (pd_up F178 x0 51 o179) fun F181 =>
  pd_i (pd_ib sh177 0 0 (F181 x0 39) 72 = true) <|
  pd_l (pd_up F181 (F181 x0 39) 72 100000) fun F183 =>
  pd_i (pd_ib sh177 0 0 (F183 x0 39) 73 = true) <|
  pd_l (pd_up F183 (F183 x0 39) 73 50000) fun F185 =>
  some (sh177, F185)
def pfX11_init (sh : pd_S) (F : pd_F) (x0 : Int) : Option (pd_S × pd_F) :=
  pd_i (x0 ≠ 0) <|
  pd_l ((sh.length : Int) + 1) fun o4 => pd_l (pd_z F (sh.length + 1)) fun F3 => pd_l (sh ++ [(4, 6, 3)]) fun sh2 =>
  pd_i (1 ≤ o4) <|
  Option.bind (pfX6_init sh2 F3 o4) fun qsh6 => pd_l qsh6.1 fun sh6 => pd_l qsh6.2 fun F5 =>
  pd_i (pd_ob sh6 11 x0 = true) <|
  pd_l (pd_up F5 x0 0 o4) fun F9 =>
  pd_i (pd_ob sh6 6 (F9 x0 0) = true) <|
  pd_l (pd_up F9 x0 1 (F9 (F9 x0 0) 0)) fun F11 =>
  pd_l ((sh6.length : Int) + 1) fun o14 => pd_l (pd_z F11 (sh6.length + 1)) fun F13 => pd_l (sh6 ++ [(4, 3, 5)]) fun sh12 =>
  pd_i (1 ≤ o14) <|
  Option.bind (pfX3_init sh12 F13 o14) fun qsh16 => pd_l qsh16.1 fun sh16 => pd_l qsh16.2 fun F15 =>
  pd_i (pd_ob sh16 11 x0 = true) <|
  pd_l (pd_up F15 x0 2 o14) fun F19 =>
  pd_l ((sh16.length : Int) + 1) fun o22 => pd_l (pd_z F19 (sh16.length + 1)) fun F21 => pd_l (sh16 ++ [(4, 7, 2)]) fun sh20 =>
  pd_i (1 ≤ o22) <|
  Option.bind (pfX7_init sh20 F21 o22) fun qsh24 => pd_l qsh24.1 fun sh24 => pd_l qsh24.2 fun F23 =>
  pd_i (pd_ob sh24 11 x0 = true) <|
  pd_l (pd_up F23 x0 3 o22) fun F27 =>
  pd_l ((sh24.length : Int) + 1) fun o30 => pd_l (pd_z F27 (sh24.length + 1)) fun F29 => pd_l (sh24 ++ [(4, 8, 6)]) fun sh28 =>
  pd_i (1 ≤ o30) <|
  Option.bind (pfX8_init sh28 F29 o30) fun qsh32 => pd_l qsh32.1 fun sh32 => pd_l qsh32.2 fun F31 =>
  pd_i (pd_ob sh32 11 x0 = true) <|
  pd_l (pd_up F31 x0 4 o30) fun F35 =>
  pd_l ((sh32.length : Int) + 1) fun o38 => pd_l (pd_z F35 (sh32.length + 1)) fun F37 => pd_l (sh32 ++ [(4, 4, 7)]) fun sh36 =>
  pd_i (1 ≤ o38) <|
  Option.bind (pfX4_init sh36 F37 o38) fun qsh40 => pd_l qsh40.1 fun sh40 => pd_l qsh40.2 fun F39 =>
  pd_i (pd_ob sh40 11 x0 = true) <|
  pd_l (pd_up F39 x0 5 o38) fun F43 =>
  pd_l ((sh40.length : Int) + 1) fun o46 => pd_l (pd_z F43 (sh40.length + 1)) fun F45 => pd_l (sh40 ++ [(4, 8, 6)]) fun sh44 =>
  pd_i (1 ≤ o46) <|
  Option.bind (pfX8_init sh44 F45 o46) fun qsh48 => pd_l qsh48.1 fun sh48 => pd_l qsh48.2 fun F47 =>
  pd_i (pd_ob sh48 11 x0 = true) <|
  pd_l (pd_up F47 x0 6 o46) fun F51 =>
  pd_l ((sh48.length : Int) + 1) fun o54 => pd_l (pd_z F51 (sh48.length + 1)) fun F53 => pd_l (sh48 ++ [(4, 4, 7)]) fun sh52 =>
  pd_i (1 ≤ o54) <|
  Option.bind (pfX4_init sh52 F53 o54) fun qsh56 => pd_l qsh56.1 fun sh56 => pd_l qsh56.2 fun F55 =>
  pd_i (pd_ob sh56 11 x0 = true) <|
  pd_l (pd_up F55 x0 7 o54) fun F59 =>
  pd_l ((sh56.length : Int) + 1) fun o62 => pd_l (pd_z F59 (sh56.length + 1)) fun F61 => pd_l (sh56 ++ [(4, 0, 15)]) fun sh60 =>
  pd_i (1 ≤ o62) <|
  Option.bind (pfX0_init sh60 F61 o62) fun qsh64 => pd_l qsh64.1 fun sh64 => pd_l qsh64.2 fun F63 =>
  pd_i (pd_ob sh64 11 x0 = true) <|
  pd_l (pd_up F63 x0 8 o62) fun F67 =>
  pd_l (pd_up F67 x0 9 0) fun F68 =>
  some (sh64, F68)
set_option maxHeartbeats 4000000 in
set_option maxRecDepth 100000 in
theorem pkX9_init (l : Launch) {sh : pd_S} {F : pd_F} {x0 : Int} {shz : pd_S} {Fz : pd_F} (hf : pfX9_init sh F x0 = some (shz, Fz)) : pd_C l yX9_init (Cond.code yX9_init cX9_init 1 none :: pd_gt) (pd_rm 1 1 1000) true 1 1000 sh F [pd_R x0] none shz Fz := by
  unfold pfX9_init at hf
  refine pd_body (L := [pd_R x0]) (by decide +kernel) (Nat.le_of_ble_eq_true rfl) rfl (fun E => ?_)
  refine pd_aload_n (i := 0) dX9_init_0 rfl rfl ?_
  obtain ⟨hg1, hf⟩ := pd_ig hf
  refine pd_oinit dX9_init_1 pq_1085 pq_1086 pq_1087 hg1 pd_rmR2 (Nat.le_of_ble_eq_true rfl) ?_
  refine pd_aload_n (i := 0) dX9_init_4 rfl rfl ?_
  refine pd_sipush dX9_init_5 (by decide) ?_
  refine pd_newB (N := 1000) dX9_init_8 pq_1088 (by decide) (by decide) ⟨by show _ ≤ 1; omega, by show _ ≤ 1000; omega⟩ ?_
  refine pd_topR (fun o4 eo4 => ?_)
  have hf := pd_lt hf eo4
  refine pd_topF (fun F3 eF3 => ?_)
  have hf := pd_lt hf eF3
  refine pd_topS (fun sh2 esh2 => ?_)
  have hf := pd_lt hf esh2
  clear esh2 eF3 eo4
  obtain ⟨hg5, hf⟩ := pd_ig hf
  refine pd_putF (n := o4) (x := pd_R o4) 0 dX9_init_10 (show vwCl[9]? = some (RX9, TX9, 9) from rfl) pin_9 tyX9_ok nmX9 (by decide) pq_4 rfl rfl rfl hg5 rfl (pd_nrR (Or.inr ⟨_, rfl⟩)) (pd_ftR (Or.inr ⟨_, rfl⟩)) ?_
  refine pd_topF (fun F6 eF6 => ?_)
  have hf := pd_lt hf eF6
  clear eF6
  obtain ⟨h1, h2⟩ := pd_inj hf
  subst h1 h2
  exact pd_vret dX9_init_13 rfl (by omega) (by omega)
set_option maxHeartbeats 4000000 in
set_option maxRecDepth 100000 in
theorem pkX1_init (l : Launch) {sh : pd_S} {F : pd_F} {x0 : Int} {shz : pd_S} {Fz : pd_F} (hf : pfX1_init sh F x0 = some (shz, Fz)) : pd_C l yX1_init (Cond.code yX1_init cX1_init 1 none :: pd_gt) (pd_rm 1 0 0) true 0 0 sh F [pd_R x0] none shz Fz := by
  unfold pfX1_init at hf
  refine pd_body (L := [pd_R x0]) (by decide +kernel) (Nat.le_of_ble_eq_true rfl) rfl (fun E => ?_)
  refine pd_aload_n (i := 0) dX1_init_0 rfl rfl ?_
  obtain ⟨hg1, hf⟩ := pd_ig hf
  refine pd_oinit dX1_init_1 pq_1089 pq_1086 pq_1087 hg1 pd_rmR2 (Nat.le_of_ble_eq_true rfl) ?_
  obtain ⟨h1, h2⟩ := pd_inj hf
  subst h1 h2
  exact pd_vret dX1_init_4 rfl (by omega) (by omega)
set_option maxHeartbeats 4000000 in
set_option maxRecDepth 100000 in
theorem pkX5_init (l : Launch) {sh : pd_S} {F : pd_F} {x0 : Int} {shz : pd_S} {Fz : pd_F} (hf : pfX5_init sh F x0 = some (shz, Fz)) : pd_C l yX5_init (Cond.code yX5_init cX5_init 1 none :: pd_gt) (pd_rm 1 1 3) true 1 3 sh F [pd_R x0] none shz Fz := by
  unfold pfX5_init at hf
  refine pd_body (L := [pd_R x0]) (by decide +kernel) (Nat.le_of_ble_eq_true rfl) rfl (fun E => ?_)
  refine pd_aload_n (i := 0) dX5_init_0 rfl rfl ?_
  obtain ⟨hg1, hf⟩ := pd_ig hf
  refine pd_oinit dX5_init_1 pq_1090 pq_1086 pq_1087 hg1 pd_rmR2 (Nat.le_of_ble_eq_true rfl) ?_
  refine pd_aload_n (i := 0) dX5_init_4 rfl rfl ?_
  refine pd_iconst dX5_init_5 (by decide) ?_
  refine pd_newI (N := 3) dX5_init_6 pq_1091 (by decide) (by decide) ⟨by show _ ≤ 1; omega, by show _ ≤ 3; omega⟩ ?_
  refine pd_topR (fun o4 eo4 => ?_)
  have hf := pd_lt hf eo4
  refine pd_topF (fun F3 eF3 => ?_)
  have hf := pd_lt hf eF3
  refine pd_topS (fun sh2 esh2 => ?_)
  have hf := pd_lt hf esh2
  clear esh2 eF3 eo4
  obtain ⟨hg5, hf⟩ := pd_ig hf
  refine pd_putF (n := o4) (x := pd_R o4) 0 dX5_init_8 (show vwCl[5]? = some (RX5, TX5, 5) from rfl) pin_5 tyX5_ok nmX5 (by decide) pq_38 rfl rfl rfl hg5 rfl (pd_nrR (Or.inr ⟨_, rfl⟩)) (pd_ftR (Or.inr ⟨_, rfl⟩)) ?_
  refine pd_topF (fun F6 eF6 => ?_)
  have hf := pd_lt hf eF6
  clear eF6
  obtain ⟨h1, h2⟩ := pd_inj hf
  subst h1 h2
  exact pd_vret dX5_init_11 rfl (by omega) (by omega)
set_option maxHeartbeats 4000000 in
set_option maxRecDepth 100000 in
theorem pkX2_init (l : Launch) {sh : pd_S} {F : pd_F} {x0 : Int} {shz : pd_S} {Fz : pd_F} (hf : pfX2_init sh F x0 = some (shz, Fz)) : pd_C l yX2_init (Cond.code yX2_init cX2_init 1 none :: pd_gt) (pd_rm 1 3 22) true 3 22 sh F [pd_R x0] none shz Fz := by
  unfold pfX2_init at hf
  refine pd_body (L := [pd_R x0]) (by decide +kernel) (Nat.le_of_ble_eq_true rfl) rfl (fun E => ?_)
  refine pd_aload_n (i := 0) dX2_init_0 rfl rfl ?_
  obtain ⟨hg1, hf⟩ := pd_ig hf
  refine pd_oinit dX2_init_1 pq_1092 pq_1086 pq_1087 hg1 pd_rmR2 (Nat.le_of_ble_eq_true rfl) ?_
  refine pd_aload_n (i := 0) dX2_init_4 rfl rfl ?_
  refine pd_iconst dX2_init_5 (by decide) ?_
  refine pd_newI (N := 5) dX2_init_6 pq_1091 (by decide) (by decide) ⟨by show _ ≤ 3; omega, by show _ ≤ 22; omega⟩ ?_
  refine pd_topR (fun o4 eo4 => ?_)
  have hf := pd_lt hf eo4
  refine pd_topF (fun F3 eF3 => ?_)
  have hf := pd_lt hf eF3
  refine pd_topS (fun sh2 esh2 => ?_)
  have hf := pd_lt hf esh2
  clear esh2 eF3 eo4
  obtain ⟨hg5, hf⟩ := pd_ig hf
  refine pd_putF (n := o4) (x := pd_R o4) 0 dX2_init_8 (show vwCl[2]? = some (RX2, TX2, 8) from rfl) pin_2 tyX2_ok nmX2 (by decide) pq_41 rfl rfl rfl hg5 rfl (pd_nrR (Or.inr ⟨_, rfl⟩)) (pd_ftR (Or.inr ⟨_, rfl⟩)) ?_
  refine pd_topF (fun F6 eF6 => ?_)
  have hf := pd_lt hf eF6
  clear eF6
  refine pd_aload_n (i := 0) dX2_init_11 rfl rfl ?_
  refine pd_iconst dX2_init_12 (by decide) ?_
  refine pd_newI (N := 5) dX2_init_13 pq_1091 (by decide) (by decide) ⟨by show _ ≤ 3; omega, by show _ ≤ 22; omega⟩ ?_
  refine pd_topR (fun o9 eo9 => ?_)
  have hf := pd_lt hf eo9
  refine pd_topF (fun F8 eF8 => ?_)
  have hf := pd_lt hf eF8
  refine pd_topS (fun sh7 esh7 => ?_)
  have hf := pd_lt hf esh7
  clear esh7 eF8 eo9
  obtain ⟨hg10, hf⟩ := pd_ig hf
  refine pd_putF (n := o9) (x := pd_R o9) 1 dX2_init_15 (show vwCl[2]? = some (RX2, TX2, 8) from rfl) pin_2 tyX2_ok nmX2 (by decide) pq_42 rfl rfl rfl hg10 rfl (pd_nrR (Or.inr ⟨_, rfl⟩)) (pd_ftR (Or.inr ⟨_, rfl⟩)) ?_
  refine pd_topF (fun F11 eF11 => ?_)
  have hf := pd_lt hf eF11
  clear eF11
  refine pd_aload_n (i := 0) dX2_init_18 rfl rfl ?_
  refine pd_bipush dX2_init_19 (by decide) ?_
  refine pd_newI (N := 12) dX2_init_21 pq_1091 (by decide) (by decide) ⟨by show _ ≤ 3; omega, by show _ ≤ 22; omega⟩ ?_
  refine pd_topR (fun o14 eo14 => ?_)
  have hf := pd_lt hf eo14
  refine pd_topF (fun F13 eF13 => ?_)
  have hf := pd_lt hf eF13
  refine pd_topS (fun sh12 esh12 => ?_)
  have hf := pd_lt hf esh12
  clear esh12 eF13 eo14
  obtain ⟨hg15, hf⟩ := pd_ig hf
  refine pd_putF (n := o14) (x := pd_R o14) 2 dX2_init_23 (show vwCl[2]? = some (RX2, TX2, 8) from rfl) pin_2 tyX2_ok nmX2 (by decide) pq_43 rfl rfl rfl hg15 rfl (pd_nrR (Or.inr ⟨_, rfl⟩)) (pd_ftR (Or.inr ⟨_, rfl⟩)) ?_
  refine pd_topF (fun F16 eF16 => ?_)
  have hf := pd_lt hf eF16
  clear eF16
  obtain ⟨h1, h2⟩ := pd_inj hf
  subst h1 h2
  exact pd_vret dX2_init_26 rfl (by omega) (by omega)
set_option maxHeartbeats 4000000 in
set_option maxRecDepth 100000 in
theorem pkX8_init (l : Launch) {sh : pd_S} {F : pd_F} {x0 : Int} {shz : pd_S} {Fz : pd_F} (hf : pfX8_init sh F x0 = some (shz, Fz)) : pd_C l yX8_init (Cond.code yX8_init cX8_init 1 none :: pd_gt) (pd_rm 1 4 75) true 4 75 sh F [pd_R x0] none shz Fz := by
  unfold pfX8_init at hf
  refine pd_body (L := [pd_R x0]) (by decide +kernel) (Nat.le_of_ble_eq_true rfl) rfl (fun E => ?_)
  refine pd_aload_n (i := 0) dX8_init_0 rfl rfl ?_
  obtain ⟨hg1, hf⟩ := pd_ig hf
  refine pd_oinit dX8_init_1 pq_1093 pq_1086 pq_1087 hg1 pd_rmR2 (Nat.le_of_ble_eq_true rfl) ?_
  refine pd_aload_n (i := 0) dX8_init_4 rfl rfl ?_
  refine pd_bipush dX8_init_5 (by decide) ?_
  refine pd_newI (N := 10) dX8_init_7 pq_1091 (by decide) (by decide) ⟨by show _ ≤ 4; omega, by show _ ≤ 75; omega⟩ ?_
  refine pd_topR (fun o4 eo4 => ?_)
  have hf := pd_lt hf eo4
  refine pd_topF (fun F3 eF3 => ?_)
  have hf := pd_lt hf eF3
  refine pd_topS (fun sh2 esh2 => ?_)
  have hf := pd_lt hf esh2
  clear esh2 eF3 eo4
  obtain ⟨hg5, hf⟩ := pd_ig hf
  refine pd_putF (n := o4) (x := pd_R o4) 0 dX8_init_9 (show vwCl[8]? = some (RX8, TX8, 6) from rfl) pin_8 tyX8_ok nmX8 (by decide) pq_85 rfl rfl rfl hg5 rfl (pd_nrR (Or.inr ⟨_, rfl⟩)) (pd_ftR (Or.inr ⟨_, rfl⟩)) ?_
  refine pd_topF (fun F6 eF6 => ?_)
  have hf := pd_lt hf eF6
  clear eF6
  refine pd_aload_n (i := 0) dX8_init_12 rfl rfl ?_
  refine pd_iconst dX8_init_13 (by decide) ?_
  refine pd_newI (N := 3) dX8_init_14 pq_1091 (by decide) (by decide) ⟨by show _ ≤ 4; omega, by show _ ≤ 75; omega⟩ ?_
  refine pd_topR (fun o9 eo9 => ?_)
  have hf := pd_lt hf eo9
  refine pd_topF (fun F8 eF8 => ?_)
  have hf := pd_lt hf eF8
  refine pd_topS (fun sh7 esh7 => ?_)
  have hf := pd_lt hf esh7
  clear esh7 eF8 eo9
  obtain ⟨hg10, hf⟩ := pd_ig hf
  refine pd_putF (n := o9) (x := pd_R o9) 1 dX8_init_16 (show vwCl[8]? = some (RX8, TX8, 6) from rfl) pin_8 tyX8_ok nmX8 (by decide) pq_91 rfl rfl rfl hg10 rfl (pd_nrR (Or.inr ⟨_, rfl⟩)) (pd_ftR (Or.inr ⟨_, rfl⟩)) ?_
  refine pd_topF (fun F11 eF11 => ?_)
  have hf := pd_lt hf eF11
  clear eF11
  refine pd_aload_n (i := 0) dX8_init_19 rfl rfl ?_
  refine pd_bipush dX8_init_20 (by decide) ?_
  refine pd_newI (N := 31) dX8_init_22 pq_1091 (by decide) (by decide) ⟨by show _ ≤ 4; omega, by show _ ≤ 75; omega⟩ ?_
  refine pd_topR (fun o14 eo14 => ?_)
  have hf := pd_lt hf eo14
  refine pd_topF (fun F13 eF13 => ?_)
  have hf := pd_lt hf eF13
  refine pd_topS (fun sh12 esh12 => ?_)
  have hf := pd_lt hf esh12
  clear esh12 eF13 eo14
  obtain ⟨hg15, hf⟩ := pd_ig hf
  refine pd_putF (n := o14) (x := pd_R o14) 2 dX8_init_24 (show vwCl[8]? = some (RX8, TX8, 6) from rfl) pin_8 tyX8_ok nmX8 (by decide) pq_94 rfl rfl rfl hg15 rfl (pd_nrR (Or.inr ⟨_, rfl⟩)) (pd_ftR (Or.inr ⟨_, rfl⟩)) ?_
  refine pd_topF (fun F16 eF16 => ?_)
  have hf := pd_lt hf eF16
  clear eF16
  refine pd_aload_n (i := 0) dX8_init_27 rfl rfl ?_
  refine pd_bipush dX8_init_28 (by decide) ?_
  refine pd_newI (N := 31) dX8_init_30 pq_1091 (by decide) (by decide) ⟨by show _ ≤ 4; omega, by show _ ≤ 75; omega⟩ ?_
  refine pd_topR (fun o19 eo19 => ?_)
  have hf := pd_lt hf eo19
  refine pd_topF (fun F18 eF18 => ?_)
  have hf := pd_lt hf eF18
  refine pd_topS (fun sh17 esh17 => ?_)
  have hf := pd_lt hf esh17
  clear esh17 eF18 eo19
  obtain ⟨hg20, hf⟩ := pd_ig hf
  refine pd_putF (n := o19) (x := pd_R o19) 3 dX8_init_32 (show vwCl[8]? = some (RX8, TX8, 6) from rfl) pin_8 tyX8_ok nmX8 (by decide) pq_95 rfl rfl rfl hg20 rfl (pd_nrR (Or.inr ⟨_, rfl⟩)) (pd_ftR (Or.inr ⟨_, rfl⟩)) ?_
  refine pd_topF (fun F21 eF21 => ?_)
  have hf := pd_lt hf eF21
  clear eF21
  refine pd_aload_n (i := 0) dX8_init_35 rfl rfl ?_
  refine pd_get (x := pd_R (F21 x0 1)) 1 dX8_init_36 (show vwCl[8]? = some (RX8, TX8, 6) from rfl) pin_8 (by decide) pq_91 hg20 rfl ?_
  refine pd_iconst dX8_init_39 (by decide) ?_
  refine pd_ldc (x := 100000) dX8_init_40 pq_1094 (by decide +kernel) ?_
  obtain ⟨hg22, hf⟩ := pd_ig hf
  refine pd_iast dX8_init_42 hg22 ?_
  refine pd_topF (fun F23 eF23 => ?_)
  have hf := pd_lt hf eF23
  clear eF23
  refine pd_aload_n (i := 0) dX8_init_43 rfl rfl ?_
  refine pd_get (x := pd_R (F23 x0 1)) 1 dX8_init_44 (show vwCl[8]? = some (RX8, TX8, 6) from rfl) pin_8 (by decide) pq_91 hg20 rfl ?_
  refine pd_iconst dX8_init_47 (by decide) ?_
  refine pd_ldc (x := 50000) dX8_init_48 pq_1095 (by decide +kernel) ?_
  obtain ⟨hg24, hf⟩ := pd_ig hf
  refine pd_iast dX8_init_50 hg24 ?_
  refine pd_topF (fun F25 eF25 => ?_)
  have hf := pd_lt hf eF25
  clear eF25
  obtain ⟨h1, h2⟩ := pd_inj hf
  subst h1 h2
  exact pd_vret dX8_init_51 rfl (by omega) (by omega)
set_option maxHeartbeats 4000000 in
set_option maxRecDepth 100000 in
theorem pkX0_init_b201 (E : pd_E) (l : Launch) {shz : pd_S} {Fz : pd_F} : ∀ (k : Nat) (cells slots : Nat) (hc0 : cells + (k * 1 + 0) ≤ 249) (hs0 : slots + (k * 4 + 0) ≤ 1646) (sh : pd_S) (F : pd_F) (x0 : Int) (x1 : Int), pfX0_init_b201 k sh F x0 x1 = some (shz, Fz) → pd_V E l (pd_rm 2 249 1646) (RX0, cX0_init, 2, none, "<init>") (pd_Qm E true none shz Fz 249 1646) true cells slots sh F 201 [pd_R x0, pd_I x1] [] := by
  intro k
  induction k with
  | zero => intro cells slots _ _ sh F x0 x1 hf; exact absurd hf (by unfold pfX0_init_b201; exact fun h => nomatch h)
  | succ k ih =>
    intro cells slots hc0 hs0 sh F x0 x1 hf
    unfold pfX0_init_b201 at hf
    refine pd_iload_n (i := 1) dX0_init_201 rfl rfl ?_
    refine pd_aload_n (i := 0) dX0_init_202 rfl rfl ?_
    obtain ⟨hg1, hf⟩ := pd_ig hf
    refine pd_get (x := pd_R (F x0 5)) 5 dX0_init_203 (show vwCl[0]? = some (RX0, TX0, 15) from rfl) pin_0 (by decide) pq_1096 hg1 rfl ?_
    obtain ⟨hg2, hf⟩ := pd_ig hf
    refine pd_alen dX0_init_206 (by decide) hg2 ?_
    refine pd_icmp_ge (tgt := 229) dX0_init_207 (by decide) (fun hc => ?_) (fun hc => ?_)
    · have hf := pd_ip hf hc
      obtain ⟨h1, h2⟩ := pd_inj hf
      subst h1 h2
      exact pd_vret dX0_init_229 rfl (by omega) (by omega)
    · have hf := pd_in_ hf hc
      refine pd_aload_n (i := 0) dX0_init_210 rfl rfl ?_
      refine pd_get (x := pd_R (F x0 5)) 5 dX0_init_211 (show vwCl[0]? = some (RX0, TX0, 15) from rfl) pin_0 (by decide) pq_1096 hg1 rfl ?_
      refine pd_iload_n (i := 1) dX0_init_214 rfl rfl ?_
      refine pd_new dX0_init_215 (show vwCl[1]? = some (RX1, TX1, 4) from rfl) pin_1 tyX1_ok pq_1097 pq_1098 pq_1099 (by decide) ⟨by show _ ≤ 249; omega, by show _ ≤ 1646; omega⟩ ?_
      refine pd_topR (fun o5 eo5 => ?_)
      have hf := pd_lt hf eo5
      refine pd_topF (fun F4 eF4 => ?_)
      have hf := pd_lt hf eF4
      refine pd_topS (fun sh3 esh3 => ?_)
      have hf := pd_lt hf esh3
      clear esh3 eF4 eo5
      refine pd_dup dX0_init_218 rfl ?_
      obtain ⟨hg8, hf⟩ := pd_ig hf
      obtain ⟨sh7, F6, hr, hf⟩ := pd_ob2 hf
      refine pd_callIN (pkX1_init l hr) dX0_init_219 pq_1100 pq_1103 rfl hg8 (pd_okA (by omega) (by decide) (by omega) (by omega) pq_1101 pq_1102 (by decide) (show (parseMethodDescriptor yX1_init.desc).map (fun d => d.parameters.length) = some 0 from by decide +kernel)) (Nat.le_of_ble_eq_true rfl) rfl ?_
      obtain ⟨hg9, hf⟩ := pd_ig hf
      obtain ⟨hg10, hf⟩ := pd_ig hf
      refine pd_aast dX0_init_222 hg9 hg10 ?_
      refine pd_topF (fun F11 eF11 => ?_)
      have hf := pd_lt hf eF11
      clear eF11
      refine pd_iincN (L' := fun y => [pd_R x0, pd_I y]) dX0_init_223 rfl (by decide) (by decide) (fun _ => rfl) (fun x1_223 ex1_223 => ?_)
      have hf := pd_lt hf ex1_223
      clear ex1_223
      refine pd_goto (tgt := 201) dX0_init_226 (by decide) ?_
      exact pd_weak (L' := [pd_R x0, pd_I x1_223]) ⟨Or.inr rfl, Or.inr rfl, trivial⟩ (ih _ _ (by omega) (by omega) _ _ _ _ hf)
set_option maxHeartbeats 4000000 in
set_option maxRecDepth 100000 in
theorem pkX0_init_b199 (E : pd_E) (l : Launch) {shz : pd_S} {Fz : pd_F} (cells slots : Nat) (hc0 : cells + 20 ≤ 249) (hs0 : slots + 80 ≤ 1646) (sh : pd_S) (F : pd_F) (x0 : Int) (hf : pfX0_init_b199 sh F x0 = some (shz, Fz)) : pd_V E l (pd_rm 2 249 1646) (RX0, cX0_init, 2, none, "<init>") (pd_Qm E true none shz Fz 249 1646) true cells slots sh F 199 [pd_R x0, pd_N] [] := by
  unfold pfX0_init_b199 at hf
  refine pd_iconst dX0_init_199 (by decide) ?_
  refine pd_istore_n (L' := [pd_R x0, pd_I 0]) dX0_init_200 rfl (by decide) rfl ?_
  exact pd_weak (L' := [pd_R x0, pd_I 0]) ⟨Or.inr rfl, Or.inr rfl, trivial⟩ (pkX0_init_b201 E l 20 _ _ (by omega) (by omega) _ _ _ _ hf)
set_option maxHeartbeats 4000000 in
set_option maxRecDepth 100000 in
theorem pkX0_init_b171 (E : pd_E) (l : Launch) {shz : pd_S} {Fz : pd_F} : ∀ (k : Nat) (cells slots : Nat) (hc0 : cells + (k * 1 + 20) ≤ 249) (hs0 : slots + (k * 4 + 80) ≤ 1646) (sh : pd_S) (F : pd_F) (x0 : Int) (x1 : Int), pfX0_init_b171 k sh F x0 x1 = some (shz, Fz) → pd_V E l (pd_rm 2 249 1646) (RX0, cX0_init, 2, none, "<init>") (pd_Qm E true none shz Fz 249 1646) true cells slots sh F 171 [pd_R x0, pd_I x1] [] := by
  intro k
  induction k with
  | zero => intro cells slots _ _ sh F x0 x1 hf; exact absurd hf (by unfold pfX0_init_b171; exact fun h => nomatch h)
  | succ k ih =>
    intro cells slots hc0 hs0 sh F x0 x1 hf
    unfold pfX0_init_b171 at hf
    refine pd_iload_n (i := 1) dX0_init_171 rfl rfl ?_
    refine pd_aload_n (i := 0) dX0_init_172 rfl rfl ?_
    obtain ⟨hg12, hf⟩ := pd_ig hf
    refine pd_get (x := pd_R (F x0 4)) 4 dX0_init_173 (show vwCl[0]? = some (RX0, TX0, 15) from rfl) pin_0 (by decide) pq_1104 hg12 rfl ?_
    obtain ⟨hg13, hf⟩ := pd_ig hf
    refine pd_alen dX0_init_176 (by decide) hg13 ?_
    refine pd_icmp_ge (tgt := 199) dX0_init_177 (by decide) (fun hc => ?_) (fun hc => ?_)
    · have hf := pd_ip hf hc
      exact pd_weak (L' := [pd_R x0, pd_N]) ⟨Or.inr rfl, Or.inl rfl, trivial⟩ (pkX0_init_b199 E l _ _ (by omega) (by omega) _ _ _ hf)
    · have hf := pd_in_ hf hc
      refine pd_aload_n (i := 0) dX0_init_180 rfl rfl ?_
      refine pd_get (x := pd_R (F x0 4)) 4 dX0_init_181 (show vwCl[0]? = some (RX0, TX0, 15) from rfl) pin_0 (by decide) pq_1104 hg12 rfl ?_
      refine pd_iload_n (i := 1) dX0_init_184 rfl rfl ?_
      refine pd_new dX0_init_185 (show vwCl[1]? = some (RX1, TX1, 4) from rfl) pin_1 tyX1_ok pq_1097 pq_1098 pq_1099 (by decide) ⟨by show _ ≤ 249; omega, by show _ ≤ 1646; omega⟩ ?_
      refine pd_topR (fun o16 eo16 => ?_)
      have hf := pd_lt hf eo16
      refine pd_topF (fun F15 eF15 => ?_)
      have hf := pd_lt hf eF15
      refine pd_topS (fun sh14 esh14 => ?_)
      have hf := pd_lt hf esh14
      clear esh14 eF15 eo16
      refine pd_dup dX0_init_188 rfl ?_
      obtain ⟨hg19, hf⟩ := pd_ig hf
      obtain ⟨sh18, F17, hr, hf⟩ := pd_ob2 hf
      refine pd_callIN (pkX1_init l hr) dX0_init_189 pq_1100 pq_1103 rfl hg19 (pd_okA (by omega) (by decide) (by omega) (by omega) pq_1101 pq_1102 (by decide) (show (parseMethodDescriptor yX1_init.desc).map (fun d => d.parameters.length) = some 0 from by decide +kernel)) (Nat.le_of_ble_eq_true rfl) rfl ?_
      obtain ⟨hg20, hf⟩ := pd_ig hf
      obtain ⟨hg21, hf⟩ := pd_ig hf
      refine pd_aast dX0_init_192 hg20 hg21 ?_
      refine pd_topF (fun F22 eF22 => ?_)
      have hf := pd_lt hf eF22
      clear eF22
      refine pd_iincN (L' := fun y => [pd_R x0, pd_I y]) dX0_init_193 rfl (by decide) (by decide) (fun _ => rfl) (fun x1_193 ex1_193 => ?_)
      have hf := pd_lt hf ex1_193
      clear ex1_193
      refine pd_goto (tgt := 171) dX0_init_196 (by decide) ?_
      exact pd_weak (L' := [pd_R x0, pd_I x1_193]) ⟨Or.inr rfl, Or.inr rfl, trivial⟩ (ih _ _ (by omega) (by omega) _ _ _ _ hf)
set_option maxHeartbeats 4000000 in
set_option maxRecDepth 100000 in
theorem pkX0_init_b169 (E : pd_E) (l : Launch) {shz : pd_S} {Fz : pd_F} (cells slots : Nat) (hc0 : cells + 40 ≤ 249) (hs0 : slots + 160 ≤ 1646) (sh : pd_S) (F : pd_F) (x0 : Int) (hf : pfX0_init_b169 sh F x0 = some (shz, Fz)) : pd_V E l (pd_rm 2 249 1646) (RX0, cX0_init, 2, none, "<init>") (pd_Qm E true none shz Fz 249 1646) true cells slots sh F 169 [pd_R x0, pd_N] [] := by
  unfold pfX0_init_b169 at hf
  refine pd_iconst dX0_init_169 (by decide) ?_
  refine pd_istore_n (L' := [pd_R x0, pd_I 0]) dX0_init_170 rfl (by decide) rfl ?_
  exact pd_weak (L' := [pd_R x0, pd_I 0]) ⟨Or.inr rfl, Or.inr rfl, trivial⟩ (pkX0_init_b171 E l 20 _ _ (by omega) (by omega) _ _ _ _ hf)
set_option maxHeartbeats 4000000 in
set_option maxRecDepth 100000 in
theorem pkX0_init_b141 (E : pd_E) (l : Launch) {shz : pd_S} {Fz : pd_F} : ∀ (k : Nat) (cells slots : Nat) (hc0 : cells + (k * 4 + 40) ≤ 249) (hs0 : slots + (k * 30 + 160) ≤ 1646) (sh : pd_S) (F : pd_F) (x0 : Int) (x1 : Int), pfX0_init_b141 k sh F x0 x1 = some (shz, Fz) → pd_V E l (pd_rm 2 249 1646) (RX0, cX0_init, 2, none, "<init>") (pd_Qm E true none shz Fz 249 1646) true cells slots sh F 141 [pd_R x0, pd_I x1] [] := by
  intro k
  induction k with
  | zero => intro cells slots _ _ sh F x0 x1 hf; exact absurd hf (by unfold pfX0_init_b141; exact fun h => nomatch h)
  | succ k ih =>
    intro cells slots hc0 hs0 sh F x0 x1 hf
    unfold pfX0_init_b141 at hf
    refine pd_iload_n (i := 1) dX0_init_141 rfl rfl ?_
    refine pd_aload_n (i := 0) dX0_init_142 rfl rfl ?_
    obtain ⟨hg23, hf⟩ := pd_ig hf
    refine pd_get (x := pd_R (F x0 2)) 2 dX0_init_143 (show vwCl[0]? = some (RX0, TX0, 15) from rfl) pin_0 (by decide) pq_65 hg23 rfl ?_
    obtain ⟨hg24, hf⟩ := pd_ig hf
    refine pd_alen dX0_init_146 (by decide) hg24 ?_
    refine pd_icmp_ge (tgt := 169) dX0_init_147 (by decide) (fun hc => ?_) (fun hc => ?_)
    · have hf := pd_ip hf hc
      exact pd_weak (L' := [pd_R x0, pd_N]) ⟨Or.inr rfl, Or.inl rfl, trivial⟩ (pkX0_init_b169 E l _ _ (by omega) (by omega) _ _ _ hf)
    · have hf := pd_in_ hf hc
      refine pd_aload_n (i := 0) dX0_init_150 rfl rfl ?_
      refine pd_get (x := pd_R (F x0 2)) 2 dX0_init_151 (show vwCl[0]? = some (RX0, TX0, 15) from rfl) pin_0 (by decide) pq_65 hg23 rfl ?_
      refine pd_iload_n (i := 1) dX0_init_154 rfl rfl ?_
      refine pd_new dX0_init_155 (show vwCl[2]? = some (RX2, TX2, 8) from rfl) pin_2 tyX2_ok pq_1105 pq_1106 pq_1107 (by decide) ⟨by show _ ≤ 249; omega, by show _ ≤ 1646; omega⟩ ?_
      refine pd_topR (fun o27 eo27 => ?_)
      have hf := pd_lt hf eo27
      refine pd_topF (fun F26 eF26 => ?_)
      have hf := pd_lt hf eF26
      refine pd_topS (fun sh25 esh25 => ?_)
      have hf := pd_lt hf esh25
      clear esh25 eF26 eo27
      refine pd_dup dX0_init_158 rfl ?_
      obtain ⟨hg30, hf⟩ := pd_ig hf
      obtain ⟨sh29, F28, hr, hf⟩ := pd_ob2 hf
      refine pd_callIN (pkX2_init l hr) dX0_init_159 pq_1108 pq_1111 rfl hg30 (pd_okA (by omega) (by decide) (by omega) (by omega) pq_1109 pq_1110 (by decide) (show (parseMethodDescriptor yX2_init.desc).map (fun d => d.parameters.length) = some 0 from by decide +kernel)) (Nat.le_of_ble_eq_true rfl) rfl ?_
      obtain ⟨hg31, hf⟩ := pd_ig hf
      obtain ⟨hg32, hf⟩ := pd_ig hf
      refine pd_aast dX0_init_162 hg31 hg32 ?_
      refine pd_topF (fun F33 eF33 => ?_)
      have hf := pd_lt hf eF33
      clear eF33
      refine pd_iincN (L' := fun y => [pd_R x0, pd_I y]) dX0_init_163 rfl (by decide) (by decide) (fun _ => rfl) (fun x1_163 ex1_163 => ?_)
      have hf := pd_lt hf ex1_163
      clear ex1_163
      refine pd_goto (tgt := 141) dX0_init_166 (by decide) ?_
      exact pd_weak (L' := [pd_R x0, pd_I x1_163]) ⟨Or.inr rfl, Or.inr rfl, trivial⟩ (ih _ _ (by omega) (by omega) _ _ _ _ hf)
set_option maxHeartbeats 4000000 in
set_option maxRecDepth 100000 in
theorem pkX0_init_b139 (E : pd_E) (l : Launch) {shz : pd_S} {Fz : pd_F} (cells slots : Nat) (hc0 : cells + 120 ≤ 249) (hs0 : slots + 760 ≤ 1646) (sh : pd_S) (F : pd_F) (x0 : Int) (hf : pfX0_init_b139 sh F x0 = some (shz, Fz)) : pd_V E l (pd_rm 2 249 1646) (RX0, cX0_init, 2, none, "<init>") (pd_Qm E true none shz Fz 249 1646) true cells slots sh F 139 [pd_R x0, pd_N] [] := by
  unfold pfX0_init_b139 at hf
  refine pd_iconst dX0_init_139 (by decide) ?_
  refine pd_istore_n (L' := [pd_R x0, pd_I 0]) dX0_init_140 rfl (by decide) rfl ?_
  exact pd_weak (L' := [pd_R x0, pd_I 0]) ⟨Or.inr rfl, Or.inr rfl, trivial⟩ (pkX0_init_b141 E l 20 _ _ (by omega) (by omega) _ _ _ _ hf)
set_option maxHeartbeats 4000000 in
set_option maxRecDepth 100000 in
theorem pkX0_init_b111 (E : pd_E) (l : Launch) {shz : pd_S} {Fz : pd_F} : ∀ (k : Nat) (cells slots : Nat) (hc0 : cells + (k * 4 + 120) ≤ 249) (hs0 : slots + (k * 30 + 760) ≤ 1646) (sh : pd_S) (F : pd_F) (x0 : Int) (x1 : Int), pfX0_init_b111 k sh F x0 x1 = some (shz, Fz) → pd_V E l (pd_rm 2 249 1646) (RX0, cX0_init, 2, none, "<init>") (pd_Qm E true none shz Fz 249 1646) true cells slots sh F 111 [pd_R x0, pd_I x1] [] := by
  intro k
  induction k with
  | zero => intro cells slots _ _ sh F x0 x1 hf; exact absurd hf (by unfold pfX0_init_b111; exact fun h => nomatch h)
  | succ k ih =>
    intro cells slots hc0 hs0 sh F x0 x1 hf
    unfold pfX0_init_b111 at hf
    refine pd_iload_n (i := 1) dX0_init_111 rfl rfl ?_
    refine pd_aload_n (i := 0) dX0_init_112 rfl rfl ?_
    obtain ⟨hg34, hf⟩ := pd_ig hf
    refine pd_get (x := pd_R (F x0 1)) 1 dX0_init_113 (show vwCl[0]? = some (RX0, TX0, 15) from rfl) pin_0 (by decide) pq_67 hg34 rfl ?_
    obtain ⟨hg35, hf⟩ := pd_ig hf
    refine pd_alen dX0_init_116 (by decide) hg35 ?_
    refine pd_icmp_ge (tgt := 139) dX0_init_117 (by decide) (fun hc => ?_) (fun hc => ?_)
    · have hf := pd_ip hf hc
      exact pd_weak (L' := [pd_R x0, pd_N]) ⟨Or.inr rfl, Or.inl rfl, trivial⟩ (pkX0_init_b139 E l _ _ (by omega) (by omega) _ _ _ hf)
    · have hf := pd_in_ hf hc
      refine pd_aload_n (i := 0) dX0_init_120 rfl rfl ?_
      refine pd_get (x := pd_R (F x0 1)) 1 dX0_init_121 (show vwCl[0]? = some (RX0, TX0, 15) from rfl) pin_0 (by decide) pq_67 hg34 rfl ?_
      refine pd_iload_n (i := 1) dX0_init_124 rfl rfl ?_
      refine pd_new dX0_init_125 (show vwCl[2]? = some (RX2, TX2, 8) from rfl) pin_2 tyX2_ok pq_1105 pq_1106 pq_1107 (by decide) ⟨by show _ ≤ 249; omega, by show _ ≤ 1646; omega⟩ ?_
      refine pd_topR (fun o38 eo38 => ?_)
      have hf := pd_lt hf eo38
      refine pd_topF (fun F37 eF37 => ?_)
      have hf := pd_lt hf eF37
      refine pd_topS (fun sh36 esh36 => ?_)
      have hf := pd_lt hf esh36
      clear esh36 eF37 eo38
      refine pd_dup dX0_init_128 rfl ?_
      obtain ⟨hg41, hf⟩ := pd_ig hf
      obtain ⟨sh40, F39, hr, hf⟩ := pd_ob2 hf
      refine pd_callIN (pkX2_init l hr) dX0_init_129 pq_1108 pq_1111 rfl hg41 (pd_okA (by omega) (by decide) (by omega) (by omega) pq_1109 pq_1110 (by decide) (show (parseMethodDescriptor yX2_init.desc).map (fun d => d.parameters.length) = some 0 from by decide +kernel)) (Nat.le_of_ble_eq_true rfl) rfl ?_
      obtain ⟨hg42, hf⟩ := pd_ig hf
      obtain ⟨hg43, hf⟩ := pd_ig hf
      refine pd_aast dX0_init_132 hg42 hg43 ?_
      refine pd_topF (fun F44 eF44 => ?_)
      have hf := pd_lt hf eF44
      clear eF44
      refine pd_iincN (L' := fun y => [pd_R x0, pd_I y]) dX0_init_133 rfl (by decide) (by decide) (fun _ => rfl) (fun x1_133 ex1_133 => ?_)
      have hf := pd_lt hf ex1_133
      clear ex1_133
      refine pd_goto (tgt := 111) dX0_init_136 (by decide) ?_
      exact pd_weak (L' := [pd_R x0, pd_I x1_133]) ⟨Or.inr rfl, Or.inr rfl, trivial⟩ (ih _ _ (by omega) (by omega) _ _ _ _ hf)
set_option maxHeartbeats 4000000 in
set_option maxRecDepth 100000 in
theorem pkX0_init_b109 (E : pd_E) (l : Launch) {shz : pd_S} {Fz : pd_F} (cells slots : Nat) (hc0 : cells + 200 ≤ 249) (hs0 : slots + 1360 ≤ 1646) (sh : pd_S) (F : pd_F) (x0 : Int) (hf : pfX0_init_b109 sh F x0 = some (shz, Fz)) : pd_V E l (pd_rm 2 249 1646) (RX0, cX0_init, 2, none, "<init>") (pd_Qm E true none shz Fz 249 1646) true cells slots sh F 109 [pd_R x0, pd_N] [] := by
  unfold pfX0_init_b109 at hf
  refine pd_iconst dX0_init_109 (by decide) ?_
  refine pd_istore_n (L' := [pd_R x0, pd_I 0]) dX0_init_110 rfl (by decide) rfl ?_
  exact pd_weak (L' := [pd_R x0, pd_I 0]) ⟨Or.inr rfl, Or.inr rfl, trivial⟩ (pkX0_init_b111 E l 20 _ _ (by omega) (by omega) _ _ _ _ hf)
set_option maxHeartbeats 4000000 in
set_option maxRecDepth 100000 in
theorem pkX0_init_b81 (E : pd_E) (l : Launch) {shz : pd_S} {Fz : pd_F} : ∀ (k : Nat) (cells slots : Nat) (hc0 : cells + (k * 2 + 200) ≤ 249) (hs0 : slots + (k * 8 + 1360) ≤ 1646) (sh : pd_S) (F : pd_F) (x0 : Int) (x1 : Int), pfX0_init_b81 k sh F x0 x1 = some (shz, Fz) → pd_V E l (pd_rm 2 249 1646) (RX0, cX0_init, 2, none, "<init>") (pd_Qm E true none shz Fz 249 1646) true cells slots sh F 81 [pd_R x0, pd_I x1] [] := by
  intro k
  induction k with
  | zero => intro cells slots _ _ sh F x0 x1 hf; exact absurd hf (by unfold pfX0_init_b81; exact fun h => nomatch h)
  | succ k ih =>
    intro cells slots hc0 hs0 sh F x0 x1 hf
    unfold pfX0_init_b81 at hf
    refine pd_iload_n (i := 1) dX0_init_81 rfl rfl ?_
    refine pd_aload_n (i := 0) dX0_init_82 rfl rfl ?_
    obtain ⟨hg45, hf⟩ := pd_ig hf
    refine pd_get (x := pd_R (F x0 0)) 0 dX0_init_83 (show vwCl[0]? = some (RX0, TX0, 15) from rfl) pin_0 (by decide) pq_68 hg45 rfl ?_
    obtain ⟨hg46, hf⟩ := pd_ig hf
    refine pd_alen dX0_init_86 (by decide) hg46 ?_
    refine pd_icmp_ge (tgt := 109) dX0_init_87 (by decide) (fun hc => ?_) (fun hc => ?_)
    · have hf := pd_ip hf hc
      exact pd_weak (L' := [pd_R x0, pd_N]) ⟨Or.inr rfl, Or.inl rfl, trivial⟩ (pkX0_init_b109 E l _ _ (by omega) (by omega) _ _ _ hf)
    · have hf := pd_in_ hf hc
      refine pd_aload_n (i := 0) dX0_init_90 rfl rfl ?_
      refine pd_get (x := pd_R (F x0 0)) 0 dX0_init_91 (show vwCl[0]? = some (RX0, TX0, 15) from rfl) pin_0 (by decide) pq_68 hg45 rfl ?_
      refine pd_iload_n (i := 1) dX0_init_94 rfl rfl ?_
      refine pd_new dX0_init_95 (show vwCl[5]? = some (RX5, TX5, 5) from rfl) pin_5 tyX5_ok pq_1112 pq_1113 pq_1114 (by decide) ⟨by show _ ≤ 249; omega, by show _ ≤ 1646; omega⟩ ?_
      refine pd_topR (fun o49 eo49 => ?_)
      have hf := pd_lt hf eo49
      refine pd_topF (fun F48 eF48 => ?_)
      have hf := pd_lt hf eF48
      refine pd_topS (fun sh47 esh47 => ?_)
      have hf := pd_lt hf esh47
      clear esh47 eF48 eo49
      refine pd_dup dX0_init_98 rfl ?_
      obtain ⟨hg52, hf⟩ := pd_ig hf
      obtain ⟨sh51, F50, hr, hf⟩ := pd_ob2 hf
      refine pd_callIN (pkX5_init l hr) dX0_init_99 pq_1115 pq_1118 rfl hg52 (pd_okA (by omega) (by decide) (by omega) (by omega) pq_1116 pq_1117 (by decide) (show (parseMethodDescriptor yX5_init.desc).map (fun d => d.parameters.length) = some 0 from by decide +kernel)) (Nat.le_of_ble_eq_true rfl) rfl ?_
      obtain ⟨hg53, hf⟩ := pd_ig hf
      obtain ⟨hg54, hf⟩ := pd_ig hf
      refine pd_aast dX0_init_102 hg53 hg54 ?_
      refine pd_topF (fun F55 eF55 => ?_)
      have hf := pd_lt hf eF55
      clear eF55
      refine pd_iincN (L' := fun y => [pd_R x0, pd_I y]) dX0_init_103 rfl (by decide) (by decide) (fun _ => rfl) (fun x1_103 ex1_103 => ?_)
      have hf := pd_lt hf ex1_103
      clear ex1_103
      refine pd_goto (tgt := 81) dX0_init_106 (by decide) ?_
      exact pd_weak (L' := [pd_R x0, pd_I x1_103]) ⟨Or.inr rfl, Or.inr rfl, trivial⟩ (ih _ _ (by omega) (by omega) _ _ _ _ hf)
set_option maxHeartbeats 4000000 in
set_option maxRecDepth 100000 in
theorem pkX0_init (l : Launch) {sh : pd_S} {F : pd_F} {x0 : Int} {shz : pd_S} {Fz : pd_F} (hf : pfX0_init sh F x0 = some (shz, Fz)) : pd_C l yX0_init (Cond.code yX0_init cX0_init 2 none :: pd_gt) (pd_rm 2 249 1646) true 249 1646 sh F [pd_R x0] none shz Fz := by
  unfold pfX0_init at hf
  refine pd_body (L := [pd_R x0, pd_N]) (by decide +kernel) (Nat.le_of_ble_eq_true rfl) rfl (fun E => ?_)
  refine pd_aload_n (i := 0) dX0_init_0 rfl rfl ?_
  obtain ⟨hg56, hf⟩ := pd_ig hf
  refine pd_oinit dX0_init_1 pq_1119 pq_1086 pq_1087 hg56 pd_rmR2 (Nat.le_of_ble_eq_true rfl) ?_
  refine pd_aload_n (i := 0) dX0_init_4 rfl rfl ?_
  refine pd_bipush dX0_init_5 (by decide) ?_
  refine pd_newq (N := 12) dX0_init_7 (show vwCl[5]? = some ("PayoutDesk$Person", TX5, 5) from rfl) pq_1112 pq_1120 (by decide) (by decide) ⟨by show _ ≤ 249; omega, by show _ ≤ 1646; omega⟩ ?_
  refine pd_topR (fun o59 eo59 => ?_)
  have hf := pd_lt hf eo59
  refine pd_topF (fun F58 eF58 => ?_)
  have hf := pd_lt hf eF58
  refine pd_topS (fun sh57 esh57 => ?_)
  have hf := pd_lt hf esh57
  clear esh57 eF58 eo59
  obtain ⟨hg60, hf⟩ := pd_ig hf
  refine pd_putF (n := o59) (x := pd_R o59) 0 dX0_init_10 (show vwCl[0]? = some (RX0, TX0, 15) from rfl) pin_0 tyX0_ok nmX0 (by decide) pq_68 rfl rfl rfl hg60 rfl (pd_nrR (Or.inr ⟨_, rfl⟩)) (pd_ftR (Or.inr ⟨_, rfl⟩)) ?_
  refine pd_topF (fun F61 eF61 => ?_)
  have hf := pd_lt hf eF61
  clear eF61
  refine pd_aload_n (i := 0) dX0_init_13 rfl rfl ?_
  refine pd_iconst dX0_init_14 (by decide) ?_
  refine pd_newq (N := 5) dX0_init_15 (show vwCl[2]? = some ("PayoutDesk$Group", TX2, 8) from rfl) pq_1105 pq_1121 (by decide) (by decide) ⟨by show _ ≤ 249; omega, by show _ ≤ 1646; omega⟩ ?_
  refine pd_topR (fun o64 eo64 => ?_)
  have hf := pd_lt hf eo64
  refine pd_topF (fun F63 eF63 => ?_)
  have hf := pd_lt hf eF63
  refine pd_topS (fun sh62 esh62 => ?_)
  have hf := pd_lt hf esh62
  clear esh62 eF63 eo64
  obtain ⟨hg65, hf⟩ := pd_ig hf
  refine pd_putF (n := o64) (x := pd_R o64) 1 dX0_init_18 (show vwCl[0]? = some (RX0, TX0, 15) from rfl) pin_0 tyX0_ok nmX0 (by decide) pq_67 rfl rfl rfl hg65 rfl (pd_nrR (Or.inr ⟨_, rfl⟩)) (pd_ftR (Or.inr ⟨_, rfl⟩)) ?_
  refine pd_topF (fun F66 eF66 => ?_)
  have hf := pd_lt hf eF66
  clear eF66
  refine pd_aload_n (i := 0) dX0_init_21 rfl rfl ?_
  refine pd_bipush dX0_init_22 (by decide) ?_
  refine pd_newq (N := 10) dX0_init_24 (show vwCl[2]? = some ("PayoutDesk$Group", TX2, 8) from rfl) pq_1105 pq_1121 (by decide) (by decide) ⟨by show _ ≤ 249; omega, by show _ ≤ 1646; omega⟩ ?_
  refine pd_topR (fun o69 eo69 => ?_)
  have hf := pd_lt hf eo69
  refine pd_topF (fun F68 eF68 => ?_)
  have hf := pd_lt hf eF68
  refine pd_topS (fun sh67 esh67 => ?_)
  have hf := pd_lt hf esh67
  clear esh67 eF68 eo69
  obtain ⟨hg70, hf⟩ := pd_ig hf
  refine pd_putF (n := o69) (x := pd_R o69) 2 dX0_init_27 (show vwCl[0]? = some (RX0, TX0, 15) from rfl) pin_0 tyX0_ok nmX0 (by decide) pq_65 rfl rfl rfl hg70 rfl (pd_nrR (Or.inr ⟨_, rfl⟩)) (pd_ftR (Or.inr ⟨_, rfl⟩)) ?_
  refine pd_topF (fun F71 eF71 => ?_)
  have hf := pd_lt hf eF71
  clear eF71
  refine pd_aload_n (i := 0) dX0_init_30 rfl rfl ?_
  refine pd_bipush dX0_init_31 (by decide) ?_
  refine pd_newI (N := 10) dX0_init_33 pq_1091 (by decide) (by decide) ⟨by show _ ≤ 249; omega, by show _ ≤ 1646; omega⟩ ?_
  refine pd_topR (fun o74 eo74 => ?_)
  have hf := pd_lt hf eo74
  refine pd_topF (fun F73 eF73 => ?_)
  have hf := pd_lt hf eF73
  refine pd_topS (fun sh72 esh72 => ?_)
  have hf := pd_lt hf esh72
  clear esh72 eF73 eo74
  obtain ⟨hg75, hf⟩ := pd_ig hf
  refine pd_putF (n := o74) (x := pd_R o74) 3 dX0_init_35 (show vwCl[0]? = some (RX0, TX0, 15) from rfl) pin_0 tyX0_ok nmX0 (by decide) pq_1122 rfl rfl rfl hg75 rfl (pd_nrR (Or.inr ⟨_, rfl⟩)) (pd_ftR (Or.inr ⟨_, rfl⟩)) ?_
  refine pd_topF (fun F76 eF76 => ?_)
  have hf := pd_lt hf eF76
  clear eF76
  refine pd_aload_n (i := 0) dX0_init_38 rfl rfl ?_
  refine pd_bipush dX0_init_39 (by decide) ?_
  refine pd_newq (N := 6) dX0_init_41 (show vwCl[1]? = some ("PayoutDesk$Dated", TX1, 4) from rfl) pq_1097 pq_1123 (by decide) (by decide) ⟨by show _ ≤ 249; omega, by show _ ≤ 1646; omega⟩ ?_
  refine pd_topR (fun o79 eo79 => ?_)
  have hf := pd_lt hf eo79
  refine pd_topF (fun F78 eF78 => ?_)
  have hf := pd_lt hf eF78
  refine pd_topS (fun sh77 esh77 => ?_)
  have hf := pd_lt hf esh77
  clear esh77 eF78 eo79
  obtain ⟨hg80, hf⟩ := pd_ig hf
  refine pd_putF (n := o79) (x := pd_R o79) 4 dX0_init_44 (show vwCl[0]? = some (RX0, TX0, 15) from rfl) pin_0 tyX0_ok nmX0 (by decide) pq_1104 rfl rfl rfl hg80 rfl (pd_nrR (Or.inr ⟨_, rfl⟩)) (pd_ftR (Or.inr ⟨_, rfl⟩)) ?_
  refine pd_topF (fun F81 eF81 => ?_)
  have hf := pd_lt hf eF81
  clear eF81
  refine pd_aload_n (i := 0) dX0_init_47 rfl rfl ?_
  refine pd_bipush dX0_init_48 (by decide) ?_
  refine pd_newq (N := 8) dX0_init_50 (show vwCl[1]? = some ("PayoutDesk$Dated", TX1, 4) from rfl) pq_1097 pq_1123 (by decide) (by decide) ⟨by show _ ≤ 249; omega, by show _ ≤ 1646; omega⟩ ?_
  refine pd_topR (fun o84 eo84 => ?_)
  have hf := pd_lt hf eo84
  refine pd_topF (fun F83 eF83 => ?_)
  have hf := pd_lt hf eF83
  refine pd_topS (fun sh82 esh82 => ?_)
  have hf := pd_lt hf esh82
  clear esh82 eF83 eo84
  obtain ⟨hg85, hf⟩ := pd_ig hf
  refine pd_putF (n := o84) (x := pd_R o84) 5 dX0_init_53 (show vwCl[0]? = some (RX0, TX0, 15) from rfl) pin_0 tyX0_ok nmX0 (by decide) pq_1096 rfl rfl rfl hg85 rfl (pd_nrR (Or.inr ⟨_, rfl⟩)) (pd_ftR (Or.inr ⟨_, rfl⟩)) ?_
  refine pd_topF (fun F86 eF86 => ?_)
  have hf := pd_lt hf eF86
  clear eF86
  refine pd_aload_n (i := 0) dX0_init_56 rfl rfl ?_
  refine pd_iconst dX0_init_57 (by decide) ?_
  refine pd_newI (N := 3) dX0_init_58 pq_1091 (by decide) (by decide) ⟨by show _ ≤ 249; omega, by show _ ≤ 1646; omega⟩ ?_
  refine pd_topR (fun o89 eo89 => ?_)
  have hf := pd_lt hf eo89
  refine pd_topF (fun F88 eF88 => ?_)
  have hf := pd_lt hf eF88
  refine pd_topS (fun sh87 esh87 => ?_)
  have hf := pd_lt hf esh87
  clear esh87 eF88 eo89
  obtain ⟨hg90, hf⟩ := pd_ig hf
  refine pd_putF (n := o89) (x := pd_R o89) 6 dX0_init_60 (show vwCl[0]? = some (RX0, TX0, 15) from rfl) pin_0 tyX0_ok nmX0 (by decide) pq_61 rfl rfl rfl hg90 rfl (pd_nrR (Or.inr ⟨_, rfl⟩)) (pd_ftR (Or.inr ⟨_, rfl⟩)) ?_
  refine pd_topF (fun F91 eF91 => ?_)
  have hf := pd_lt hf eF91
  clear eF91
  refine pd_aload_n (i := 0) dX0_init_63 rfl rfl ?_
  refine pd_bipush dX0_init_64 (by decide) ?_
  refine pd_newI (N := 36) dX0_init_66 pq_1091 (by decide) (by decide) ⟨by show _ ≤ 249; omega, by show _ ≤ 1646; omega⟩ ?_
  refine pd_topR (fun o94 eo94 => ?_)
  have hf := pd_lt hf eo94
  refine pd_topF (fun F93 eF93 => ?_)
  have hf := pd_lt hf eF93
  refine pd_topS (fun sh92 esh92 => ?_)
  have hf := pd_lt hf esh92
  clear esh92 eF93 eo94
  obtain ⟨hg95, hf⟩ := pd_ig hf
  refine pd_putF (n := o94) (x := pd_R o94) 7 dX0_init_68 (show vwCl[0]? = some (RX0, TX0, 15) from rfl) pin_0 tyX0_ok nmX0 (by decide) pq_64 rfl rfl rfl hg95 rfl (pd_nrR (Or.inr ⟨_, rfl⟩)) (pd_ftR (Or.inr ⟨_, rfl⟩)) ?_
  refine pd_topF (fun F96 eF96 => ?_)
  have hf := pd_lt hf eF96
  clear eF96
  refine pd_aload_n (i := 0) dX0_init_71 rfl rfl ?_
  refine pd_bipush dX0_init_72 (by decide) ?_
  refine pd_newI (N := 36) dX0_init_74 pq_1091 (by decide) (by decide) ⟨by show _ ≤ 249; omega, by show _ ≤ 1646; omega⟩ ?_
  refine pd_topR (fun o99 eo99 => ?_)
  have hf := pd_lt hf eo99
  refine pd_topF (fun F98 eF98 => ?_)
  have hf := pd_lt hf eF98
  refine pd_topS (fun sh97 esh97 => ?_)
  have hf := pd_lt hf esh97
  clear esh97 eF98 eo99
  obtain ⟨hg100, hf⟩ := pd_ig hf
  refine pd_putF (n := o99) (x := pd_R o99) 8 dX0_init_76 (show vwCl[0]? = some (RX0, TX0, 15) from rfl) pin_0 tyX0_ok nmX0 (by decide) pq_70 rfl rfl rfl hg100 rfl (pd_nrR (Or.inr ⟨_, rfl⟩)) (pd_ftR (Or.inr ⟨_, rfl⟩)) ?_
  refine pd_topF (fun F101 eF101 => ?_)
  have hf := pd_lt hf eF101
  clear eF101
  refine pd_iconst dX0_init_79 (by decide) ?_
  refine pd_istore_n (L' := [pd_R x0, pd_I 0]) dX0_init_80 rfl (by decide) rfl ?_
  exact pd_weak (L' := [pd_R x0, pd_I 0]) ⟨Or.inr rfl, Or.inr rfl, trivial⟩ (pkX0_init_b81 E l 20 _ _ (by omega) (by omega) _ _ _ _ hf)
set_option maxHeartbeats 4000000 in
set_option maxRecDepth 100000 in
theorem pkX3_init_b60 (E : pd_E) (l : Launch) {shz : pd_S} {Fz : pd_F} : ∀ (k : Nat) (cells slots : Nat) (hc0 : cells + (k * 5 + 0) ≤ 203) (hs0 : slots + (k * 81 + 0) ≤ 3262) (sh : pd_S) (F : pd_F) (x0 : Int) (x1 : Int), pfX3_init_b60 k sh F x0 x1 = some (shz, Fz) → pd_V E l (pd_rm 2 203 3262) (RX3, cX3_init, 2, none, "<init>") (pd_Qm E true none shz Fz 203 3262) true cells slots sh F 60 [pd_R x0, pd_I x1] [] := by
  intro k
  induction k with
  | zero => intro cells slots _ _ sh F x0 x1 hf; exact absurd hf (by unfold pfX3_init_b60; exact fun h => nomatch h)
  | succ k ih =>
    intro cells slots hc0 hs0 sh F x0 x1 hf
    unfold pfX3_init_b60 at hf
    refine pd_iload_n (i := 1) dX3_init_60 rfl rfl ?_
    refine pd_aload_n (i := 0) dX3_init_61 rfl rfl ?_
    obtain ⟨hg1, hf⟩ := pd_ig hf
    refine pd_get (x := pd_R (F x0 1)) 1 dX3_init_62 (show vwCl[3]? = some (RX3, TX3, 5) from rfl) pin_3 (by decide) pq_107 hg1 rfl ?_
    obtain ⟨hg2, hf⟩ := pd_ig hf
    refine pd_alen dX3_init_65 (by decide) hg2 ?_
    refine pd_icmp_ge (tgt := 88) dX3_init_66 (by decide) (fun hc => ?_) (fun hc => ?_)
    · have hf := pd_ip hf hc
      obtain ⟨h1, h2⟩ := pd_inj hf
      subst h1 h2
      exact pd_vret dX3_init_88 rfl (by omega) (by omega)
    · have hf := pd_in_ hf hc
      refine pd_aload_n (i := 0) dX3_init_69 rfl rfl ?_
      refine pd_get (x := pd_R (F x0 1)) 1 dX3_init_70 (show vwCl[3]? = some (RX3, TX3, 5) from rfl) pin_3 (by decide) pq_107 hg1 rfl ?_
      refine pd_iload_n (i := 1) dX3_init_73 rfl rfl ?_
      refine pd_new dX3_init_74 (show vwCl[8]? = some (RX8, TX8, 6) from rfl) pin_8 tyX8_ok pq_1124 pq_1125 pq_1126 (by decide) ⟨by show _ ≤ 203; omega, by show _ ≤ 3262; omega⟩ ?_
      refine pd_topR (fun o5 eo5 => ?_)
      have hf := pd_lt hf eo5
      refine pd_topF (fun F4 eF4 => ?_)
      have hf := pd_lt hf eF4
      refine pd_topS (fun sh3 esh3 => ?_)
      have hf := pd_lt hf esh3
      clear esh3 eF4 eo5
      refine pd_dup dX3_init_77 rfl ?_
      obtain ⟨hg8, hf⟩ := pd_ig hf
      obtain ⟨sh7, F6, hr, hf⟩ := pd_ob2 hf
      refine pd_callI (pkX8_init l hr) dX3_init_78 pq_1127 pq_1130 rfl hg8 (pd_okA (by omega) (by decide) (by omega) (by omega) pq_1128 pq_1129 (by decide) (show (parseMethodDescriptor yX8_init.desc).map (fun d => d.parameters.length) = some 0 from by decide +kernel)) (Nat.le_of_ble_eq_true rfl) rfl ?_
      obtain ⟨hg9, hf⟩ := pd_ig hf
      obtain ⟨hg10, hf⟩ := pd_ig hf
      refine pd_aast dX3_init_81 hg9 hg10 ?_
      refine pd_topF (fun F11 eF11 => ?_)
      have hf := pd_lt hf eF11
      clear eF11
      refine pd_iincN (L' := fun y => [pd_R x0, pd_I y]) dX3_init_82 rfl (by decide) (by decide) (fun _ => rfl) (fun x1_82 ex1_82 => ?_)
      have hf := pd_lt hf ex1_82
      clear ex1_82
      refine pd_goto (tgt := 60) dX3_init_85 (by decide) ?_
      exact pd_weak (L' := [pd_R x0, pd_I x1_82]) ⟨Or.inr rfl, Or.inr rfl, trivial⟩ (ih _ _ (by omega) (by omega) _ _ _ _ hf)
set_option maxHeartbeats 4000000 in
set_option maxRecDepth 100000 in
theorem pkX3_init_b58 (E : pd_E) (l : Launch) {shz : pd_S} {Fz : pd_F} (cells slots : Nat) (hc0 : cells + 100 ≤ 203) (hs0 : slots + 1620 ≤ 3262) (sh : pd_S) (F : pd_F) (x0 : Int) (hf : pfX3_init_b58 sh F x0 = some (shz, Fz)) : pd_V E l (pd_rm 2 203 3262) (RX3, cX3_init, 2, none, "<init>") (pd_Qm E true none shz Fz 203 3262) true cells slots sh F 58 [pd_R x0, pd_N] [] := by
  unfold pfX3_init_b58 at hf
  refine pd_iconst dX3_init_58 (by decide) ?_
  refine pd_istore_n (L' := [pd_R x0, pd_I 0]) dX3_init_59 rfl (by decide) rfl ?_
  exact pd_weak (L' := [pd_R x0, pd_I 0]) ⟨Or.inr rfl, Or.inr rfl, trivial⟩ (pkX3_init_b60 E l 20 _ _ (by omega) (by omega) _ _ _ _ hf)
set_option maxHeartbeats 4000000 in
set_option maxRecDepth 100000 in
theorem pkX3_init_b30 (E : pd_E) (l : Launch) {shz : pd_S} {Fz : pd_F} : ∀ (k : Nat) (cells slots : Nat) (hc0 : cells + (k * 5 + 100) ≤ 203) (hs0 : slots + (k * 81 + 1620) ≤ 3262) (sh : pd_S) (F : pd_F) (x0 : Int) (x1 : Int), pfX3_init_b30 k sh F x0 x1 = some (shz, Fz) → pd_V E l (pd_rm 2 203 3262) (RX3, cX3_init, 2, none, "<init>") (pd_Qm E true none shz Fz 203 3262) true cells slots sh F 30 [pd_R x0, pd_I x1] [] := by
  intro k
  induction k with
  | zero => intro cells slots _ _ sh F x0 x1 hf; exact absurd hf (by unfold pfX3_init_b30; exact fun h => nomatch h)
  | succ k ih =>
    intro cells slots hc0 hs0 sh F x0 x1 hf
    unfold pfX3_init_b30 at hf
    refine pd_iload_n (i := 1) dX3_init_30 rfl rfl ?_
    refine pd_aload_n (i := 0) dX3_init_31 rfl rfl ?_
    obtain ⟨hg12, hf⟩ := pd_ig hf
    refine pd_get (x := pd_R (F x0 0)) 0 dX3_init_32 (show vwCl[3]? = some (RX3, TX3, 5) from rfl) pin_3 (by decide) pq_99 hg12 rfl ?_
    obtain ⟨hg13, hf⟩ := pd_ig hf
    refine pd_alen dX3_init_35 (by decide) hg13 ?_
    refine pd_icmp_ge (tgt := 58) dX3_init_36 (by decide) (fun hc => ?_) (fun hc => ?_)
    · have hf := pd_ip hf hc
      exact pd_weak (L' := [pd_R x0, pd_N]) ⟨Or.inr rfl, Or.inl rfl, trivial⟩ (pkX3_init_b58 E l _ _ (by omega) (by omega) _ _ _ hf)
    · have hf := pd_in_ hf hc
      refine pd_aload_n (i := 0) dX3_init_39 rfl rfl ?_
      refine pd_get (x := pd_R (F x0 0)) 0 dX3_init_40 (show vwCl[3]? = some (RX3, TX3, 5) from rfl) pin_3 (by decide) pq_99 hg12 rfl ?_
      refine pd_iload_n (i := 1) dX3_init_43 rfl rfl ?_
      refine pd_new dX3_init_44 (show vwCl[8]? = some (RX8, TX8, 6) from rfl) pin_8 tyX8_ok pq_1124 pq_1125 pq_1126 (by decide) ⟨by show _ ≤ 203; omega, by show _ ≤ 3262; omega⟩ ?_
      refine pd_topR (fun o16 eo16 => ?_)
      have hf := pd_lt hf eo16
      refine pd_topF (fun F15 eF15 => ?_)
      have hf := pd_lt hf eF15
      refine pd_topS (fun sh14 esh14 => ?_)
      have hf := pd_lt hf esh14
      clear esh14 eF15 eo16
      refine pd_dup dX3_init_47 rfl ?_
      obtain ⟨hg19, hf⟩ := pd_ig hf
      obtain ⟨sh18, F17, hr, hf⟩ := pd_ob2 hf
      refine pd_callI (pkX8_init l hr) dX3_init_48 pq_1127 pq_1130 rfl hg19 (pd_okA (by omega) (by decide) (by omega) (by omega) pq_1128 pq_1129 (by decide) (show (parseMethodDescriptor yX8_init.desc).map (fun d => d.parameters.length) = some 0 from by decide +kernel)) (Nat.le_of_ble_eq_true rfl) rfl ?_
      obtain ⟨hg20, hf⟩ := pd_ig hf
      obtain ⟨hg21, hf⟩ := pd_ig hf
      refine pd_aast dX3_init_51 hg20 hg21 ?_
      refine pd_topF (fun F22 eF22 => ?_)
      have hf := pd_lt hf eF22
      clear eF22
      refine pd_iincN (L' := fun y => [pd_R x0, pd_I y]) dX3_init_52 rfl (by decide) (by decide) (fun _ => rfl) (fun x1_52 ex1_52 => ?_)
      have hf := pd_lt hf ex1_52
      clear ex1_52
      refine pd_goto (tgt := 30) dX3_init_55 (by decide) ?_
      exact pd_weak (L' := [pd_R x0, pd_I x1_52]) ⟨Or.inr rfl, Or.inr rfl, trivial⟩ (ih _ _ (by omega) (by omega) _ _ _ _ hf)
set_option maxHeartbeats 4000000 in
set_option maxRecDepth 100000 in
theorem pkX3_init (l : Launch) {sh : pd_S} {F : pd_F} {x0 : Int} {shz : pd_S} {Fz : pd_F} (hf : pfX3_init sh F x0 = some (shz, Fz)) : pd_C l yX3_init (Cond.code yX3_init cX3_init 2 none :: pd_gt) (pd_rm 2 203 3262) true 203 3262 sh F [pd_R x0] none shz Fz := by
  unfold pfX3_init at hf
  refine pd_body (L := [pd_R x0, pd_N]) (by decide +kernel) (Nat.le_of_ble_eq_true rfl) rfl (fun E => ?_)
  refine pd_aload_n (i := 0) dX3_init_0 rfl rfl ?_
  obtain ⟨hg23, hf⟩ := pd_ig hf
  refine pd_oinit dX3_init_1 pq_1131 pq_1086 pq_1087 hg23 pd_rmR2 (Nat.le_of_ble_eq_true rfl) ?_
  refine pd_aload_n (i := 0) dX3_init_4 rfl rfl ?_
  refine pd_bipush dX3_init_5 (by decide) ?_
  refine pd_newq (N := 16) dX3_init_7 (show vwCl[8]? = some ("PayoutDesk$State", TX8, 6) from rfl) pq_1124 pq_1132 (by decide) (by decide) ⟨by show _ ≤ 203; omega, by show _ ≤ 3262; omega⟩ ?_
  refine pd_topR (fun o26 eo26 => ?_)
  have hf := pd_lt hf eo26
  refine pd_topF (fun F25 eF25 => ?_)
  have hf := pd_lt hf eF25
  refine pd_topS (fun sh24 esh24 => ?_)
  have hf := pd_lt hf esh24
  clear esh24 eF25 eo26
  obtain ⟨hg27, hf⟩ := pd_ig hf
  refine pd_putF (n := o26) (x := pd_R o26) 0 dX3_init_10 (show vwCl[3]? = some (RX3, TX3, 5) from rfl) pin_3 tyX3_ok nmX3 (by decide) pq_99 rfl rfl rfl hg27 rfl (pd_nrR (Or.inr ⟨_, rfl⟩)) (pd_ftR (Or.inr ⟨_, rfl⟩)) ?_
  refine pd_topF (fun F28 eF28 => ?_)
  have hf := pd_lt hf eF28
  clear eF28
  refine pd_aload_n (i := 0) dX3_init_13 rfl rfl ?_
  refine pd_iconst dX3_init_14 (by decide) ?_
  refine pd_newq (N := 3) dX3_init_15 (show vwCl[8]? = some ("PayoutDesk$State", TX8, 6) from rfl) pq_1124 pq_1132 (by decide) (by decide) ⟨by show _ ≤ 203; omega, by show _ ≤ 3262; omega⟩ ?_
  refine pd_topR (fun o31 eo31 => ?_)
  have hf := pd_lt hf eo31
  refine pd_topF (fun F30 eF30 => ?_)
  have hf := pd_lt hf eF30
  refine pd_topS (fun sh29 esh29 => ?_)
  have hf := pd_lt hf esh29
  clear esh29 eF30 eo31
  obtain ⟨hg32, hf⟩ := pd_ig hf
  refine pd_putF (n := o31) (x := pd_R o31) 1 dX3_init_18 (show vwCl[3]? = some (RX3, TX3, 5) from rfl) pin_3 tyX3_ok nmX3 (by decide) pq_107 rfl rfl rfl hg32 rfl (pd_nrR (Or.inr ⟨_, rfl⟩)) (pd_ftR (Or.inr ⟨_, rfl⟩)) ?_
  refine pd_topF (fun F33 eF33 => ?_)
  have hf := pd_lt hf eF33
  clear eF33
  refine pd_aload_n (i := 0) dX3_init_21 rfl rfl ?_
  refine pd_iconst dX3_init_22 (by decide) ?_
  refine pd_newZ (N := 3) dX3_init_23 pq_1133 (by decide) (by decide) ⟨by show _ ≤ 203; omega, by show _ ≤ 3262; omega⟩ ?_
  refine pd_topR (fun o36 eo36 => ?_)
  have hf := pd_lt hf eo36
  refine pd_topF (fun F35 eF35 => ?_)
  have hf := pd_lt hf eF35
  refine pd_topS (fun sh34 esh34 => ?_)
  have hf := pd_lt hf esh34
  clear esh34 eF35 eo36
  obtain ⟨hg37, hf⟩ := pd_ig hf
  refine pd_putF (n := o36) (x := pd_R o36) 2 dX3_init_25 (show vwCl[3]? = some (RX3, TX3, 5) from rfl) pin_3 tyX3_ok nmX3 (by decide) pq_97 rfl rfl rfl hg37 rfl (pd_nrR (Or.inr ⟨_, rfl⟩)) (pd_ftR (Or.inr ⟨_, rfl⟩)) ?_
  refine pd_topF (fun F38 eF38 => ?_)
  have hf := pd_lt hf eF38
  clear eF38
  refine pd_iconst dX3_init_28 (by decide) ?_
  refine pd_istore_n (L' := [pd_R x0, pd_I 0]) dX3_init_29 rfl (by decide) rfl ?_
  exact pd_weak (L' := [pd_R x0, pd_I 0]) ⟨Or.inr rfl, Or.inr rfl, trivial⟩ (pkX3_init_b30 E l 20 _ _ (by omega) (by omega) _ _ _ _ hf)
set_option maxHeartbeats 4000000 in
set_option maxRecDepth 100000 in
theorem pkX6_init (l : Launch) {sh : pd_S} {F : pd_F} {x0 : Int} {shz : pd_S} {Fz : pd_F} (hf : pfX6_init sh F x0 = some (shz, Fz)) : pd_C l yX6_init (Cond.code yX6_init cX6_init 1 none :: pd_gt) (pd_rm 3 252 2670) true 252 2670 sh F [pd_R x0] none shz Fz := by
  unfold pfX6_init at hf
  refine pd_body (L := [pd_R x0]) (by decide +kernel) (Nat.le_of_ble_eq_true rfl) rfl (fun E => ?_)
  refine pd_aload_n (i := 0) dX6_init_0 rfl rfl ?_
  obtain ⟨hg1, hf⟩ := pd_ig hf
  refine pd_oinit dX6_init_1 pq_1134 pq_1086 pq_1087 hg1 pd_rmR2 (Nat.le_of_ble_eq_true rfl) ?_
  refine pd_aload_n (i := 0) dX6_init_4 rfl rfl ?_
  refine pd_new dX6_init_5 (show vwCl[9]? = some (RX9, TX9, 9) from rfl) pin_9 tyX9_ok pq_1135 pq_1136 pq_1137 (by decide) ⟨by show _ ≤ 252; omega, by show _ ≤ 2670; omega⟩ ?_
  refine pd_topR (fun o4 eo4 => ?_)
  have hf := pd_lt hf eo4
  refine pd_topF (fun F3 eF3 => ?_)
  have hf := pd_lt hf eF3
  refine pd_topS (fun sh2 esh2 => ?_)
  have hf := pd_lt hf esh2
  clear esh2 eF3 eo4
  refine pd_dup dX6_init_8 rfl ?_
  obtain ⟨hg7, hf⟩ := pd_ig hf
  obtain ⟨sh6, F5, hr, hf⟩ := pd_ob2 hf
  refine pd_callIN (pkX9_init l hr) dX6_init_9 pq_1138 pq_1141 rfl hg7 (pd_okA (by omega) (by decide) (by omega) (by omega) pq_1139 pq_1140 (by decide) (show (parseMethodDescriptor yX9_init.desc).map (fun d => d.parameters.length) = some 0 from by decide +kernel)) (Nat.le_of_ble_eq_true rfl) rfl ?_
  obtain ⟨hg8, hf⟩ := pd_ig hf
  refine pd_putF (n := o4) (x := pd_R o4) 0 dX6_init_12 (show vwCl[6]? = some (RX6, TX6, 3) from rfl) pin_6 tyX6_ok nmX6 (by decide) pq_109 rfl rfl rfl hg8 rfl (pd_nrR (Or.inl ⟨_, rfl⟩)) (pd_ftR (Or.inl ⟨_, rfl⟩)) ?_
  refine pd_topF (fun F9 eF9 => ?_)
  have hf := pd_lt hf eF9
  clear eF9
  refine pd_aload_n (i := 0) dX6_init_15 rfl rfl ?_
  refine pd_new dX6_init_16 (show vwCl[0]? = some (RX0, TX0, 15) from rfl) pin_0 tyX0_ok pq_1142 pq_1143 pq_1144 (by decide) ⟨by show _ ≤ 252; omega, by show _ ≤ 2670; omega⟩ ?_
  refine pd_topR (fun o12 eo12 => ?_)
  have hf := pd_lt hf eo12
  refine pd_topF (fun F11 eF11 => ?_)
  have hf := pd_lt hf eF11
  refine pd_topS (fun sh10 esh10 => ?_)
  have hf := pd_lt hf esh10
  clear esh10 eF11 eo12
  refine pd_dup dX6_init_19 rfl ?_
  obtain ⟨hg15, hf⟩ := pd_ig hf
  obtain ⟨sh14, F13, hr, hf⟩ := pd_ob2 hf
  refine pd_callI (pkX0_init l hr) dX6_init_20 pq_1145 pq_1148 rfl hg15 (pd_okA (by omega) (by decide) (by omega) (by omega) pq_1146 pq_1147 (by decide) (show (parseMethodDescriptor yX0_init.desc).map (fun d => d.parameters.length) = some 0 from by decide +kernel)) (Nat.le_of_ble_eq_true rfl) rfl ?_
  obtain ⟨hg16, hf⟩ := pd_ig hf
  refine pd_put (n := o12) (x := pd_R o12) 1 dX6_init_23 (show vwCl[6]? = some (RX6, TX6, 3) from rfl) pin_6 tyX6_ok nmX6 (by decide) pq_108 rfl hg16 rfl (pd_nrR (Or.inl ⟨_, rfl⟩)) (pd_ftR (Or.inl ⟨_, rfl⟩)) ?_
  refine pd_topF (fun F17 eF17 => ?_)
  have hf := pd_lt hf eF17
  clear eF17
  obtain ⟨h1, h2⟩ := pd_inj hf
  subst h1 h2
  exact pd_vret dX6_init_26 rfl (by omega) (by omega)
set_option maxHeartbeats 4000000 in
set_option maxRecDepth 100000 in
theorem pkX7_init (l : Launch) {sh : pd_S} {F : pd_F} {x0 : Int} {shz : pd_S} {Fz : pd_F} (hf : pfX7_init sh F x0 = some (shz, Fz)) : pd_C l yX7_init (Cond.code yX7_init cX7_init 1 none :: pd_gt) (pd_rm 1 18 208) true 18 208 sh F [pd_R x0] none shz Fz := by
  unfold pfX7_init at hf
  refine pd_body (L := [pd_R x0]) (by decide +kernel) (Nat.le_of_ble_eq_true rfl) rfl (fun E => ?_)
  refine pd_aload_n (i := 0) dX7_init_0 rfl rfl ?_
  obtain ⟨hg1, hf⟩ := pd_ig hf
  refine pd_oinit dX7_init_1 pq_1149 pq_1086 pq_1087 hg1 pd_rmR2 (Nat.le_of_ble_eq_true rfl) ?_
  refine pd_aload_n (i := 0) dX7_init_4 rfl rfl ?_
  refine pd_bipush dX7_init_5 (by decide) ?_
  refine pd_bipush dX7_init_7 (by decide) ?_
  refine pd_mna (N := 10) (K := 12) dX7_init_9 pq_1150 pq_1151 pq_1091 (by decide) (by decide) (by decide) (by decide) ⟨by show _ ≤ 18; omega, by show _ ≤ 208; omega⟩ ?_
  refine pd_topR (fun o4 eo4 => ?_)
  have hf := pd_lt hf eo4
  refine pd_topF (fun F3 eF3 => ?_)
  have hf := pd_lt hf eF3
  refine pd_topS (fun sh2 esh2 => ?_)
  have hf := pd_lt hf esh2
  clear esh2 eF3 eo4
  obtain ⟨hg5, hf⟩ := pd_ig hf
  refine pd_putF (n := o4) (x := pd_R o4) 0 dX7_init_13 (show vwCl[7]? = some (RX7, TX7, 2) from rfl) pin_7 tyX7_ok nmX7 (by decide) pq_332 rfl rfl rfl hg5 rfl (pd_nrR (Or.inr ⟨_, rfl⟩)) (pd_ftR (Or.inr ⟨_, rfl⟩)) ?_
  refine pd_topF (fun F6 eF6 => ?_)
  have hf := pd_lt hf eF6
  clear eF6
  refine pd_aload_n (i := 0) dX7_init_16 rfl rfl ?_
  refine pd_bipush dX7_init_17 (by decide) ?_
  refine pd_bipush dX7_init_19 (by decide) ?_
  refine pd_mna (N := 6) (K := 12) dX7_init_21 pq_1150 pq_1151 pq_1091 (by decide) (by decide) (by decide) (by decide) ⟨by show _ ≤ 18; omega, by show _ ≤ 208; omega⟩ ?_
  refine pd_topR (fun o9 eo9 => ?_)
  have hf := pd_lt hf eo9
  refine pd_topF (fun F8 eF8 => ?_)
  have hf := pd_lt hf eF8
  refine pd_topS (fun sh7 esh7 => ?_)
  have hf := pd_lt hf esh7
  clear esh7 eF8 eo9
  obtain ⟨hg10, hf⟩ := pd_ig hf
  refine pd_putF (n := o9) (x := pd_R o9) 1 dX7_init_25 (show vwCl[7]? = some (RX7, TX7, 2) from rfl) pin_7 tyX7_ok nmX7 (by decide) pq_326 rfl rfl rfl hg10 rfl (pd_nrR (Or.inr ⟨_, rfl⟩)) (pd_ftR (Or.inr ⟨_, rfl⟩)) ?_
  refine pd_topF (fun F11 eF11 => ?_)
  have hf := pd_lt hf eF11
  clear eF11
  obtain ⟨h1, h2⟩ := pd_inj hf
  subst h1 h2
  exact pd_vret dX7_init_28 rfl (by omega) (by omega)
set_option maxHeartbeats 4000000 in
set_option maxRecDepth 100000 in
theorem pkX10_init (l : Launch) {sh : pd_S} {F : pd_F} {x0 : Int} {shz : pd_S} {Fz : pd_F} (hf : pfX10_init sh F x0 = some (shz, Fz)) : pd_C l yX10_init (Cond.code yX10_init cX10_init 1 none :: pd_gt) (pd_rm 1 3 36) true 3 36 sh F [pd_R x0] none shz Fz := by
  unfold pfX10_init at hf
  refine pd_body (L := [pd_R x0]) (by decide +kernel) (Nat.le_of_ble_eq_true rfl) rfl (fun E => ?_)
  refine pd_aload_n (i := 0) dX10_init_0 rfl rfl ?_
  obtain ⟨hg1, hf⟩ := pd_ig hf
  refine pd_oinit dX10_init_1 pq_1152 pq_1086 pq_1087 hg1 pd_rmR2 (Nat.le_of_ble_eq_true rfl) ?_
  refine pd_aload_n (i := 0) dX10_init_4 rfl rfl ?_
  refine pd_bipush dX10_init_5 (by decide) ?_
  refine pd_newI (N := 12) dX10_init_7 pq_1091 (by decide) (by decide) ⟨by show _ ≤ 3; omega, by show _ ≤ 36; omega⟩ ?_
  refine pd_topR (fun o4 eo4 => ?_)
  have hf := pd_lt hf eo4
  refine pd_topF (fun F3 eF3 => ?_)
  have hf := pd_lt hf eF3
  refine pd_topS (fun sh2 esh2 => ?_)
  have hf := pd_lt hf esh2
  clear esh2 eF3 eo4
  obtain ⟨hg5, hf⟩ := pd_ig hf
  refine pd_putF (n := o4) (x := pd_R o4) 0 dX10_init_9 (show vwCl[10]? = some (RX10, TX10, 4) from rfl) pin_10 tyX10_ok nmX10 (by decide) pq_333 rfl rfl rfl hg5 rfl (pd_nrR (Or.inr ⟨_, rfl⟩)) (pd_ftR (Or.inr ⟨_, rfl⟩)) ?_
  refine pd_topF (fun F6 eF6 => ?_)
  have hf := pd_lt hf eF6
  clear eF6
  refine pd_aload_n (i := 0) dX10_init_12 rfl rfl ?_
  refine pd_bipush dX10_init_13 (by decide) ?_
  refine pd_newI (N := 12) dX10_init_15 pq_1091 (by decide) (by decide) ⟨by show _ ≤ 3; omega, by show _ ≤ 36; omega⟩ ?_
  refine pd_topR (fun o9 eo9 => ?_)
  have hf := pd_lt hf eo9
  refine pd_topF (fun F8 eF8 => ?_)
  have hf := pd_lt hf eF8
  refine pd_topS (fun sh7 esh7 => ?_)
  have hf := pd_lt hf esh7
  clear esh7 eF8 eo9
  obtain ⟨hg10, hf⟩ := pd_ig hf
  refine pd_putF (n := o9) (x := pd_R o9) 1 dX10_init_17 (show vwCl[10]? = some (RX10, TX10, 4) from rfl) pin_10 tyX10_ok nmX10 (by decide) pq_338 rfl rfl rfl hg10 rfl (pd_nrR (Or.inr ⟨_, rfl⟩)) (pd_ftR (Or.inr ⟨_, rfl⟩)) ?_
  refine pd_topF (fun F11 eF11 => ?_)
  have hf := pd_lt hf eF11
  clear eF11
  refine pd_aload_n (i := 0) dX10_init_20 rfl rfl ?_
  refine pd_bipush dX10_init_21 (by decide) ?_
  refine pd_newI (N := 12) dX10_init_23 pq_1091 (by decide) (by decide) ⟨by show _ ≤ 3; omega, by show _ ≤ 36; omega⟩ ?_
  refine pd_topR (fun o14 eo14 => ?_)
  have hf := pd_lt hf eo14
  refine pd_topF (fun F13 eF13 => ?_)
  have hf := pd_lt hf eF13
  refine pd_topS (fun sh12 esh12 => ?_)
  have hf := pd_lt hf esh12
  clear esh12 eF13 eo14
  obtain ⟨hg15, hf⟩ := pd_ig hf
  refine pd_putF (n := o14) (x := pd_R o14) 2 dX10_init_25 (show vwCl[10]? = some (RX10, TX10, 4) from rfl) pin_10 tyX10_ok nmX10 (by decide) pq_345 rfl rfl rfl hg15 rfl (pd_nrR (Or.inr ⟨_, rfl⟩)) (pd_ftR (Or.inr ⟨_, rfl⟩)) ?_
  refine pd_topF (fun F16 eF16 => ?_)
  have hf := pd_lt hf eF16
  clear eF16
  obtain ⟨h1, h2⟩ := pd_inj hf
  subst h1 h2
  exact pd_vret dX10_init_28 rfl (by omega) (by omega)
set_option maxHeartbeats 4000000 in
set_option maxRecDepth 100000 in
theorem pkX4_init (l : Launch) {sh : pd_S} {F : pd_F} {x0 : Int} {shz : pd_S} {Fz : pd_F} (hf : pfX4_init sh F x0 = some (shz, Fz)) : pd_C l yX4_init (Cond.code yX4_init cX4_init 1 none :: pd_gt) (pd_rm 2 8 88) true 8 88 sh F [pd_R x0] none shz Fz := by
  unfold pfX4_init at hf
  refine pd_body (L := [pd_R x0]) (by decide +kernel) (Nat.le_of_ble_eq_true rfl) rfl (fun E => ?_)
  refine pd_aload_n (i := 0) dX4_init_0 rfl rfl ?_
  obtain ⟨hg1, hf⟩ := pd_ig hf
  refine pd_oinit dX4_init_1 pq_1153 pq_1086 pq_1087 hg1 pd_rmR2 (Nat.le_of_ble_eq_true rfl) ?_
  refine pd_aload_n (i := 0) dX4_init_4 rfl rfl ?_
  refine pd_new dX4_init_5 (show vwCl[10]? = some (RX10, TX10, 4) from rfl) pin_10 tyX10_ok pq_1154 pq_1155 pq_1156 (by decide) ⟨by show _ ≤ 8; omega, by show _ ≤ 88; omega⟩ ?_
  refine pd_topR (fun o4 eo4 => ?_)
  have hf := pd_lt hf eo4
  refine pd_topF (fun F3 eF3 => ?_)
  have hf := pd_lt hf eF3
  refine pd_topS (fun sh2 esh2 => ?_)
  have hf := pd_lt hf esh2
  clear esh2 eF3 eo4
  refine pd_dup dX4_init_8 rfl ?_
  obtain ⟨hg7, hf⟩ := pd_ig hf
  obtain ⟨sh6, F5, hr, hf⟩ := pd_ob2 hf
  refine pd_callIN (pkX10_init l hr) dX4_init_9 pq_1157 pq_1160 rfl hg7 (pd_okA (by omega) (by decide) (by omega) (by omega) pq_1158 pq_1159 (by decide) (show (parseMethodDescriptor yX10_init.desc).map (fun d => d.parameters.length) = some 0 from by decide +kernel)) (Nat.le_of_ble_eq_true rfl) rfl ?_
  obtain ⟨hg8, hf⟩ := pd_ig hf
  refine pd_putF (n := o4) (x := pd_R o4) 0 dX4_init_12 (show vwCl[4]? = some (RX4, TX4, 7) from rfl) pin_4 tyX4_ok nmX4 (by decide) pq_387 rfl rfl rfl hg8 rfl (pd_nrR (Or.inl ⟨_, rfl⟩)) (pd_ftR (Or.inl ⟨_, rfl⟩)) ?_
  refine pd_topF (fun F9 eF9 => ?_)
  have hf := pd_lt hf eF9
  clear eF9
  refine pd_aload_n (i := 0) dX4_init_15 rfl rfl ?_
  refine pd_bipush dX4_init_16 (by decide) ?_
  refine pd_newJ (N := 12) dX4_init_18 pq_1161 (by decide) (by decide) ⟨by show _ ≤ 8; omega, by show _ ≤ 88; omega⟩ ?_
  refine pd_topR (fun o12 eo12 => ?_)
  have hf := pd_lt hf eo12
  refine pd_topF (fun F11 eF11 => ?_)
  have hf := pd_lt hf eF11
  refine pd_topS (fun sh10 esh10 => ?_)
  have hf := pd_lt hf esh10
  clear esh10 eF11 eo12
  obtain ⟨hg13, hf⟩ := pd_ig hf
  refine pd_putF (n := o12) (x := pd_R o12) 1 dX4_init_20 (show vwCl[4]? = some (RX4, TX4, 7) from rfl) pin_4 tyX4_ok nmX4 (by decide) pq_378 rfl rfl rfl hg13 rfl (pd_nrR (Or.inr ⟨_, rfl⟩)) (pd_ftR (Or.inr ⟨_, rfl⟩)) ?_
  refine pd_topF (fun F14 eF14 => ?_)
  have hf := pd_lt hf eF14
  clear eF14
  refine pd_aload_n (i := 0) dX4_init_23 rfl rfl ?_
  refine pd_bipush dX4_init_24 (by decide) ?_
  refine pd_newJ (N := 12) dX4_init_26 pq_1161 (by decide) (by decide) ⟨by show _ ≤ 8; omega, by show _ ≤ 88; omega⟩ ?_
  refine pd_topR (fun o17 eo17 => ?_)
  have hf := pd_lt hf eo17
  refine pd_topF (fun F16 eF16 => ?_)
  have hf := pd_lt hf eF16
  refine pd_topS (fun sh15 esh15 => ?_)
  have hf := pd_lt hf esh15
  clear esh15 eF16 eo17
  obtain ⟨hg18, hf⟩ := pd_ig hf
  refine pd_putF (n := o17) (x := pd_R o17) 2 dX4_init_28 (show vwCl[4]? = some (RX4, TX4, 7) from rfl) pin_4 tyX4_ok nmX4 (by decide) pq_377 rfl rfl rfl hg18 rfl (pd_nrR (Or.inr ⟨_, rfl⟩)) (pd_ftR (Or.inr ⟨_, rfl⟩)) ?_
  refine pd_topF (fun F19 eF19 => ?_)
  have hf := pd_lt hf eF19
  clear eF19
  refine pd_aload_n (i := 0) dX4_init_31 rfl rfl ?_
  refine pd_bipush dX4_init_32 (by decide) ?_
  refine pd_newJ (N := 12) dX4_init_34 pq_1161 (by decide) (by decide) ⟨by show _ ≤ 8; omega, by show _ ≤ 88; omega⟩ ?_
  refine pd_topR (fun o22 eo22 => ?_)
  have hf := pd_lt hf eo22
  refine pd_topF (fun F21 eF21 => ?_)
  have hf := pd_lt hf eF21
  refine pd_topS (fun sh20 esh20 => ?_)
  have hf := pd_lt hf esh20
  clear esh20 eF21 eo22
  obtain ⟨hg23, hf⟩ := pd_ig hf
  refine pd_putF (n := o22) (x := pd_R o22) 3 dX4_init_36 (show vwCl[4]? = some (RX4, TX4, 7) from rfl) pin_4 tyX4_ok nmX4 (by decide) pq_385 rfl rfl rfl hg23 rfl (pd_nrR (Or.inr ⟨_, rfl⟩)) (pd_ftR (Or.inr ⟨_, rfl⟩)) ?_
  refine pd_topF (fun F24 eF24 => ?_)
  have hf := pd_lt hf eF24
  clear eF24
  refine pd_aload_n (i := 0) dX4_init_39 rfl rfl ?_
  refine pd_bipush dX4_init_40 (by decide) ?_
  refine pd_newZ (N := 12) dX4_init_42 pq_1133 (by decide) (by decide) ⟨by show _ ≤ 8; omega, by show _ ≤ 88; omega⟩ ?_
  refine pd_topR (fun o27 eo27 => ?_)
  have hf := pd_lt hf eo27
  refine pd_topF (fun F26 eF26 => ?_)
  have hf := pd_lt hf eF26
  refine pd_topS (fun sh25 esh25 => ?_)
  have hf := pd_lt hf esh25
  clear esh25 eF26 eo27
  obtain ⟨hg28, hf⟩ := pd_ig hf
  refine pd_putF (n := o27) (x := pd_R o27) 4 dX4_init_44 (show vwCl[4]? = some (RX4, TX4, 7) from rfl) pin_4 tyX4_ok nmX4 (by decide) pq_403 rfl rfl rfl hg28 rfl (pd_nrR (Or.inr ⟨_, rfl⟩)) (pd_ftR (Or.inr ⟨_, rfl⟩)) ?_
  refine pd_topF (fun F29 eF29 => ?_)
  have hf := pd_lt hf eF29
  clear eF29
  obtain ⟨h1, h2⟩ := pd_inj hf
  subst h1 h2
  exact pd_vret dX4_init_47 rfl (by omega) (by omega)
set_option maxHeartbeats 4000000 in
set_option maxRecDepth 100000 in
theorem pkX12_init (l : Launch) {sh : pd_S} {F : pd_F} {x0 : Int} {shz : pd_S} {Fz : pd_F} (hf : pfX12_init sh F x0 = some (shz, Fz)) : pd_C l yX12_init (Cond.code yX12_init cX12_init 1 none :: pd_gt) (pd_rm 1 36 3943) true 36 3943 sh F [pd_R x0] none shz Fz := by
  unfold pfX12_init at hf
  refine pd_body (L := [pd_R x0]) (by decide +kernel) (Nat.le_of_ble_eq_true rfl) rfl (fun E => ?_)
  refine pd_aload_n (i := 0) dX12_init_0 rfl rfl ?_
  obtain ⟨hg1, hf⟩ := pd_ig hf
  refine pd_oinit dX12_init_1 pq_1162 pq_1086 pq_1087 hg1 pd_rmR2 (Nat.le_of_ble_eq_true rfl) ?_
  refine pd_aload_n (i := 0) dX12_init_4 rfl rfl ?_
  refine pd_sipush dX12_init_5 (by decide) ?_
  refine pd_newB (N := 1000) dX12_init_8 pq_1088 (by decide) (by decide) ⟨by show _ ≤ 36; omega, by show _ ≤ 3943; omega⟩ ?_
  refine pd_topR (fun o4 eo4 => ?_)
  have hf := pd_lt hf eo4
  refine pd_topF (fun F3 eF3 => ?_)
  have hf := pd_lt hf eF3
  refine pd_topS (fun sh2 esh2 => ?_)
  have hf := pd_lt hf esh2
  clear esh2 eF3 eo4
  obtain ⟨hg5, hf⟩ := pd_ig hf
  refine pd_putF (n := o4) (x := pd_R o4) 1 dX12_init_10 (show vwCl[12]? = some (RX12, TX12, 52) from rfl) pin_12 tyX12_ok nmX12 (by decide) pq_705 rfl rfl rfl hg5 rfl (pd_nrR (Or.inr ⟨_, rfl⟩)) (pd_ftR (Or.inr ⟨_, rfl⟩)) ?_
  refine pd_topF (fun F6 eF6 => ?_)
  have hf := pd_lt hf eF6
  clear eF6
  refine pd_aload_n (i := 0) dX12_init_13 rfl rfl ?_
  refine pd_iconst dX12_init_14 (by decide) ?_
  refine pd_newI (N := 2) dX12_init_15 pq_1091 (by decide) (by decide) ⟨by show _ ≤ 36; omega, by show _ ≤ 3943; omega⟩ ?_
  refine pd_topR (fun o9 eo9 => ?_)
  have hf := pd_lt hf eo9
  refine pd_topF (fun F8 eF8 => ?_)
  have hf := pd_lt hf eF8
  refine pd_topS (fun sh7 esh7 => ?_)
  have hf := pd_lt hf esh7
  clear esh7 eF8 eo9
  obtain ⟨hg10, hf⟩ := pd_ig hf
  refine pd_putF (n := o9) (x := pd_R o9) 14 dX12_init_17 (show vwCl[12]? = some (RX12, TX12, 52) from rfl) pin_12 tyX12_ok nmX12 (by decide) pq_712 rfl rfl rfl hg10 rfl (pd_nrR (Or.inr ⟨_, rfl⟩)) (pd_ftR (Or.inr ⟨_, rfl⟩)) ?_
  refine pd_topF (fun F11 eF11 => ?_)
  have hf := pd_lt hf eF11
  clear eF11
  refine pd_aload_n (i := 0) dX12_init_20 rfl rfl ?_
  refine pd_iconst dX12_init_21 (by decide) ?_
  refine pd_newI (N := 2) dX12_init_22 pq_1091 (by decide) (by decide) ⟨by show _ ≤ 36; omega, by show _ ≤ 3943; omega⟩ ?_
  refine pd_topR (fun o14 eo14 => ?_)
  have hf := pd_lt hf eo14
  refine pd_topF (fun F13 eF13 => ?_)
  have hf := pd_lt hf eF13
  refine pd_topS (fun sh12 esh12 => ?_)
  have hf := pd_lt hf esh12
  clear esh12 eF13 eo14
  obtain ⟨hg15, hf⟩ := pd_ig hf
  refine pd_putF (n := o14) (x := pd_R o14) 15 dX12_init_24 (show vwCl[12]? = some (RX12, TX12, 52) from rfl) pin_12 tyX12_ok nmX12 (by decide) pq_715 rfl rfl rfl hg15 rfl (pd_nrR (Or.inr ⟨_, rfl⟩)) (pd_ftR (Or.inr ⟨_, rfl⟩)) ?_
  refine pd_topF (fun F16 eF16 => ?_)
  have hf := pd_lt hf eF16
  clear eF16
  refine pd_aload_n (i := 0) dX12_init_27 rfl rfl ?_
  refine pd_iconst dX12_init_28 (by decide) ?_
  refine pd_newI (N := 2) dX12_init_29 pq_1091 (by decide) (by decide) ⟨by show _ ≤ 36; omega, by show _ ≤ 3943; omega⟩ ?_
  refine pd_topR (fun o19 eo19 => ?_)
  have hf := pd_lt hf eo19
  refine pd_topF (fun F18 eF18 => ?_)
  have hf := pd_lt hf eF18
  refine pd_topS (fun sh17 esh17 => ?_)
  have hf := pd_lt hf esh17
  clear esh17 eF18 eo19
  obtain ⟨hg20, hf⟩ := pd_ig hf
  refine pd_putF (n := o19) (x := pd_R o19) 16 dX12_init_31 (show vwCl[12]? = some (RX12, TX12, 52) from rfl) pin_12 tyX12_ok nmX12 (by decide) pq_717 rfl rfl rfl hg20 rfl (pd_nrR (Or.inr ⟨_, rfl⟩)) (pd_ftR (Or.inr ⟨_, rfl⟩)) ?_
  refine pd_topF (fun F21 eF21 => ?_)
  have hf := pd_lt hf eF21
  clear eF21
  refine pd_aload_n (i := 0) dX12_init_34 rfl rfl ?_
  refine pd_iconst dX12_init_35 (by decide) ?_
  refine pd_newI (N := 2) dX12_init_36 pq_1091 (by decide) (by decide) ⟨by show _ ≤ 36; omega, by show _ ≤ 3943; omega⟩ ?_
  refine pd_topR (fun o24 eo24 => ?_)
  have hf := pd_lt hf eo24
  refine pd_topF (fun F23 eF23 => ?_)
  have hf := pd_lt hf eF23
  refine pd_topS (fun sh22 esh22 => ?_)
  have hf := pd_lt hf esh22
  clear esh22 eF23 eo24
  obtain ⟨hg25, hf⟩ := pd_ig hf
  refine pd_putF (n := o24) (x := pd_R o24) 17 dX12_init_38 (show vwCl[12]? = some (RX12, TX12, 52) from rfl) pin_12 tyX12_ok nmX12 (by decide) pq_810 rfl rfl rfl hg25 rfl (pd_nrR (Or.inr ⟨_, rfl⟩)) (pd_ftR (Or.inr ⟨_, rfl⟩)) ?_
  refine pd_topF (fun F26 eF26 => ?_)
  have hf := pd_lt hf eF26
  clear eF26
  refine pd_aload_n (i := 0) dX12_init_41 rfl rfl ?_
  refine pd_iconst dX12_init_42 (by decide) ?_
  refine pd_newI (N := 2) dX12_init_43 pq_1091 (by decide) (by decide) ⟨by show _ ≤ 36; omega, by show _ ≤ 3943; omega⟩ ?_
  refine pd_topR (fun o29 eo29 => ?_)
  have hf := pd_lt hf eo29
  refine pd_topF (fun F28 eF28 => ?_)
  have hf := pd_lt hf eF28
  refine pd_topS (fun sh27 esh27 => ?_)
  have hf := pd_lt hf esh27
  clear esh27 eF28 eo29
  obtain ⟨hg30, hf⟩ := pd_ig hf
  refine pd_putF (n := o29) (x := pd_R o29) 18 dX12_init_45 (show vwCl[12]? = some (RX12, TX12, 52) from rfl) pin_12 tyX12_ok nmX12 (by decide) pq_820 rfl rfl rfl hg30 rfl (pd_nrR (Or.inr ⟨_, rfl⟩)) (pd_ftR (Or.inr ⟨_, rfl⟩)) ?_
  refine pd_topF (fun F31 eF31 => ?_)
  have hf := pd_lt hf eF31
  clear eF31
  refine pd_aload_n (i := 0) dX12_init_48 rfl rfl ?_
  refine pd_bipush dX12_init_49 (by decide) ?_
  refine pd_newJ (N := 24) dX12_init_51 pq_1161 (by decide) (by decide) ⟨by show _ ≤ 36; omega, by show _ ≤ 3943; omega⟩ ?_
  refine pd_topR (fun o34 eo34 => ?_)
  have hf := pd_lt hf eo34
  refine pd_topF (fun F33 eF33 => ?_)
  have hf := pd_lt hf eF33
  refine pd_topS (fun sh32 esh32 => ?_)
  have hf := pd_lt hf esh32
  clear esh32 eF33 eo34
  obtain ⟨hg35, hf⟩ := pd_ig hf
  refine pd_putF (n := o34) (x := pd_R o34) 19 dX12_init_53 (show vwCl[12]? = some (RX12, TX12, 52) from rfl) pin_12 tyX12_ok nmX12 (by decide) pq_714 rfl rfl rfl hg35 rfl (pd_nrR (Or.inr ⟨_, rfl⟩)) (pd_ftR (Or.inr ⟨_, rfl⟩)) ?_
  refine pd_topF (fun F36 eF36 => ?_)
  have hf := pd_lt hf eF36
  clear eF36
  refine pd_aload_n (i := 0) dX12_init_56 rfl rfl ?_
  refine pd_bipush dX12_init_57 (by decide) ?_
  refine pd_newI (N := 24) dX12_init_59 pq_1091 (by decide) (by decide) ⟨by show _ ≤ 36; omega, by show _ ≤ 3943; omega⟩ ?_
  refine pd_topR (fun o39 eo39 => ?_)
  have hf := pd_lt hf eo39
  refine pd_topF (fun F38 eF38 => ?_)
  have hf := pd_lt hf eF38
  refine pd_topS (fun sh37 esh37 => ?_)
  have hf := pd_lt hf esh37
  clear esh37 eF38 eo39
  obtain ⟨hg40, hf⟩ := pd_ig hf
  refine pd_putF (n := o39) (x := pd_R o39) 20 dX12_init_61 (show vwCl[12]? = some (RX12, TX12, 52) from rfl) pin_12 tyX12_ok nmX12 (by decide) pq_719 rfl rfl rfl hg40 rfl (pd_nrR (Or.inr ⟨_, rfl⟩)) (pd_ftR (Or.inr ⟨_, rfl⟩)) ?_
  refine pd_topF (fun F41 eF41 => ?_)
  have hf := pd_lt hf eF41
  clear eF41
  refine pd_aload_n (i := 0) dX12_init_64 rfl rfl ?_
  refine pd_bipush dX12_init_65 (by decide) ?_
  refine pd_newI (N := 72) dX12_init_67 pq_1091 (by decide) (by decide) ⟨by show _ ≤ 36; omega, by show _ ≤ 3943; omega⟩ ?_
  refine pd_topR (fun o44 eo44 => ?_)
  have hf := pd_lt hf eo44
  refine pd_topF (fun F43 eF43 => ?_)
  have hf := pd_lt hf eF43
  refine pd_topS (fun sh42 esh42 => ?_)
  have hf := pd_lt hf esh42
  clear esh42 eF43 eo44
  obtain ⟨hg45, hf⟩ := pd_ig hf
  refine pd_putF (n := o44) (x := pd_R o44) 21 dX12_init_69 (show vwCl[12]? = some (RX12, TX12, 52) from rfl) pin_12 tyX12_ok nmX12 (by decide) pq_720 rfl rfl rfl hg45 rfl (pd_nrR (Or.inr ⟨_, rfl⟩)) (pd_ftR (Or.inr ⟨_, rfl⟩)) ?_
  refine pd_topF (fun F46 eF46 => ?_)
  have hf := pd_lt hf eF46
  clear eF46
  refine pd_aload_n (i := 0) dX12_init_72 rfl rfl ?_
  refine pd_bipush dX12_init_73 (by decide) ?_
  refine pd_newZ (N := 24) dX12_init_75 pq_1133 (by decide) (by decide) ⟨by show _ ≤ 36; omega, by show _ ≤ 3943; omega⟩ ?_
  refine pd_topR (fun o49 eo49 => ?_)
  have hf := pd_lt hf eo49
  refine pd_topF (fun F48 eF48 => ?_)
  have hf := pd_lt hf eF48
  refine pd_topS (fun sh47 esh47 => ?_)
  have hf := pd_lt hf esh47
  clear esh47 eF48 eo49
  obtain ⟨hg50, hf⟩ := pd_ig hf
  refine pd_putF (n := o49) (x := pd_R o49) 22 dX12_init_77 (show vwCl[12]? = some (RX12, TX12, 52) from rfl) pin_12 tyX12_ok nmX12 (by decide) pq_825 rfl rfl rfl hg50 rfl (pd_nrR (Or.inr ⟨_, rfl⟩)) (pd_ftR (Or.inr ⟨_, rfl⟩)) ?_
  refine pd_topF (fun F51 eF51 => ?_)
  have hf := pd_lt hf eF51
  clear eF51
  refine pd_aload_n (i := 0) dX12_init_80 rfl rfl ?_
  refine pd_bipush dX12_init_81 (by decide) ?_
  refine pd_newJ (N := 10) dX12_init_83 pq_1161 (by decide) (by decide) ⟨by show _ ≤ 36; omega, by show _ ≤ 3943; omega⟩ ?_
  refine pd_topR (fun o54 eo54 => ?_)
  have hf := pd_lt hf eo54
  refine pd_topF (fun F53 eF53 => ?_)
  have hf := pd_lt hf eF53
  refine pd_topS (fun sh52 esh52 => ?_)
  have hf := pd_lt hf esh52
  clear esh52 eF53 eo54
  obtain ⟨hg55, hf⟩ := pd_ig hf
  refine pd_putF (n := o54) (x := pd_R o54) 23 dX12_init_85 (show vwCl[12]? = some (RX12, TX12, 52) from rfl) pin_12 tyX12_ok nmX12 (by decide) pq_716 rfl rfl rfl hg55 rfl (pd_nrR (Or.inr ⟨_, rfl⟩)) (pd_ftR (Or.inr ⟨_, rfl⟩)) ?_
  refine pd_topF (fun F56 eF56 => ?_)
  have hf := pd_lt hf eF56
  clear eF56
  refine pd_aload_n (i := 0) dX12_init_88 rfl rfl ?_
  refine pd_bipush dX12_init_89 (by decide) ?_
  refine pd_newJ (N := 20) dX12_init_91 pq_1161 (by decide) (by decide) ⟨by show _ ≤ 36; omega, by show _ ≤ 3943; omega⟩ ?_
  refine pd_topR (fun o59 eo59 => ?_)
  have hf := pd_lt hf eo59
  refine pd_topF (fun F58 eF58 => ?_)
  have hf := pd_lt hf eF58
  refine pd_topS (fun sh57 esh57 => ?_)
  have hf := pd_lt hf esh57
  clear esh57 eF58 eo59
  obtain ⟨hg60, hf⟩ := pd_ig hf
  refine pd_putF (n := o59) (x := pd_R o59) 24 dX12_init_93 (show vwCl[12]? = some (RX12, TX12, 52) from rfl) pin_12 tyX12_ok nmX12 (by decide) pq_718 rfl rfl rfl hg60 rfl (pd_nrR (Or.inr ⟨_, rfl⟩)) (pd_ftR (Or.inr ⟨_, rfl⟩)) ?_
  refine pd_topF (fun F61 eF61 => ?_)
  have hf := pd_lt hf eF61
  clear eF61
  refine pd_aload_n (i := 0) dX12_init_96 rfl rfl ?_
  refine pd_bipush dX12_init_97 (by decide) ?_
  refine pd_newI (N := 20) dX12_init_99 pq_1091 (by decide) (by decide) ⟨by show _ ≤ 36; omega, by show _ ≤ 3943; omega⟩ ?_
  refine pd_topR (fun o64 eo64 => ?_)
  have hf := pd_lt hf eo64
  refine pd_topF (fun F63 eF63 => ?_)
  have hf := pd_lt hf eF63
  refine pd_topS (fun sh62 esh62 => ?_)
  have hf := pd_lt hf esh62
  clear esh62 eF63 eo64
  obtain ⟨hg65, hf⟩ := pd_ig hf
  refine pd_putF (n := o64) (x := pd_R o64) 25 dX12_init_101 (show vwCl[12]? = some (RX12, TX12, 52) from rfl) pin_12 tyX12_ok nmX12 (by decide) pq_841 rfl rfl rfl hg65 rfl (pd_nrR (Or.inr ⟨_, rfl⟩)) (pd_ftR (Or.inr ⟨_, rfl⟩)) ?_
  refine pd_topF (fun F66 eF66 => ?_)
  have hf := pd_lt hf eF66
  clear eF66
  refine pd_aload_n (i := 0) dX12_init_104 rfl rfl ?_
  refine pd_bipush dX12_init_105 (by decide) ?_
  refine pd_newI (N := 30) dX12_init_107 pq_1091 (by decide) (by decide) ⟨by show _ ≤ 36; omega, by show _ ≤ 3943; omega⟩ ?_
  refine pd_topR (fun o69 eo69 => ?_)
  have hf := pd_lt hf eo69
  refine pd_topF (fun F68 eF68 => ?_)
  have hf := pd_lt hf eF68
  refine pd_topS (fun sh67 esh67 => ?_)
  have hf := pd_lt hf esh67
  clear esh67 eF68 eo69
  obtain ⟨hg70, hf⟩ := pd_ig hf
  refine pd_putF (n := o69) (x := pd_R o69) 26 dX12_init_109 (show vwCl[12]? = some (RX12, TX12, 52) from rfl) pin_12 tyX12_ok nmX12 (by decide) pq_721 rfl rfl rfl hg70 rfl (pd_nrR (Or.inr ⟨_, rfl⟩)) (pd_ftR (Or.inr ⟨_, rfl⟩)) ?_
  refine pd_topF (fun F71 eF71 => ?_)
  have hf := pd_lt hf eF71
  clear eF71
  refine pd_aload_n (i := 0) dX12_init_112 rfl rfl ?_
  refine pd_sipush dX12_init_113 (by decide) ?_
  refine pd_newI (N := 150) dX12_init_116 pq_1091 (by decide) (by decide) ⟨by show _ ≤ 36; omega, by show _ ≤ 3943; omega⟩ ?_
  refine pd_topR (fun o74 eo74 => ?_)
  have hf := pd_lt hf eo74
  refine pd_topF (fun F73 eF73 => ?_)
  have hf := pd_lt hf eF73
  refine pd_topS (fun sh72 esh72 => ?_)
  have hf := pd_lt hf esh72
  clear esh72 eF73 eo74
  obtain ⟨hg75, hf⟩ := pd_ig hf
  refine pd_putF (n := o74) (x := pd_R o74) 27 dX12_init_118 (show vwCl[12]? = some (RX12, TX12, 52) from rfl) pin_12 tyX12_ok nmX12 (by decide) pq_722 rfl rfl rfl hg75 rfl (pd_nrR (Or.inr ⟨_, rfl⟩)) (pd_ftR (Or.inr ⟨_, rfl⟩)) ?_
  refine pd_topF (fun F76 eF76 => ?_)
  have hf := pd_lt hf eF76
  clear eF76
  refine pd_aload_n (i := 0) dX12_init_121 rfl rfl ?_
  refine pd_sipush dX12_init_122 (by decide) ?_
  refine pd_newI (N := 150) dX12_init_125 pq_1091 (by decide) (by decide) ⟨by show _ ≤ 36; omega, by show _ ≤ 3943; omega⟩ ?_
  refine pd_topR (fun o79 eo79 => ?_)
  have hf := pd_lt hf eo79
  refine pd_topF (fun F78 eF78 => ?_)
  have hf := pd_lt hf eF78
  refine pd_topS (fun sh77 esh77 => ?_)
  have hf := pd_lt hf esh77
  clear esh77 eF78 eo79
  obtain ⟨hg80, hf⟩ := pd_ig hf
  refine pd_putF (n := o79) (x := pd_R o79) 28 dX12_init_127 (show vwCl[12]? = some (RX12, TX12, 52) from rfl) pin_12 tyX12_ok nmX12 (by decide) pq_799 rfl rfl rfl hg80 rfl (pd_nrR (Or.inr ⟨_, rfl⟩)) (pd_ftR (Or.inr ⟨_, rfl⟩)) ?_
  refine pd_topF (fun F81 eF81 => ?_)
  have hf := pd_lt hf eF81
  clear eF81
  refine pd_aload_n (i := 0) dX12_init_130 rfl rfl ?_
  refine pd_bipush dX12_init_131 (by decide) ?_
  refine pd_newI (N := 12) dX12_init_133 pq_1091 (by decide) (by decide) ⟨by show _ ≤ 36; omega, by show _ ≤ 3943; omega⟩ ?_
  refine pd_topR (fun o84 eo84 => ?_)
  have hf := pd_lt hf eo84
  refine pd_topF (fun F83 eF83 => ?_)
  have hf := pd_lt hf eF83
  refine pd_topS (fun sh82 esh82 => ?_)
  have hf := pd_lt hf esh82
  clear esh82 eF83 eo84
  obtain ⟨hg85, hf⟩ := pd_ig hf
  refine pd_putF (n := o84) (x := pd_R o84) 29 dX12_init_135 (show vwCl[12]? = some (RX12, TX12, 52) from rfl) pin_12 tyX12_ok nmX12 (by decide) pq_811 rfl rfl rfl hg85 rfl (pd_nrR (Or.inr ⟨_, rfl⟩)) (pd_ftR (Or.inr ⟨_, rfl⟩)) ?_
  refine pd_topF (fun F86 eF86 => ?_)
  have hf := pd_lt hf eF86
  clear eF86
  refine pd_aload_n (i := 0) dX12_init_138 rfl rfl ?_
  refine pd_bipush dX12_init_139 (by decide) ?_
  refine pd_newI (N := 12) dX12_init_141 pq_1091 (by decide) (by decide) ⟨by show _ ≤ 36; omega, by show _ ≤ 3943; omega⟩ ?_
  refine pd_topR (fun o89 eo89 => ?_)
  have hf := pd_lt hf eo89
  refine pd_topF (fun F88 eF88 => ?_)
  have hf := pd_lt hf eF88
  refine pd_topS (fun sh87 esh87 => ?_)
  have hf := pd_lt hf esh87
  clear esh87 eF88 eo89
  obtain ⟨hg90, hf⟩ := pd_ig hf
  refine pd_putF (n := o89) (x := pd_R o89) 30 dX12_init_143 (show vwCl[12]? = some (RX12, TX12, 52) from rfl) pin_12 tyX12_ok nmX12 (by decide) pq_812 rfl rfl rfl hg90 rfl (pd_nrR (Or.inr ⟨_, rfl⟩)) (pd_ftR (Or.inr ⟨_, rfl⟩)) ?_
  refine pd_topF (fun F91 eF91 => ?_)
  have hf := pd_lt hf eF91
  clear eF91
  refine pd_aload_n (i := 0) dX12_init_146 rfl rfl ?_
  refine pd_bipush dX12_init_147 (by decide) ?_
  refine pd_newI (N := 12) dX12_init_149 pq_1091 (by decide) (by decide) ⟨by show _ ≤ 36; omega, by show _ ≤ 3943; omega⟩ ?_
  refine pd_topR (fun o94 eo94 => ?_)
  have hf := pd_lt hf eo94
  refine pd_topF (fun F93 eF93 => ?_)
  have hf := pd_lt hf eF93
  refine pd_topS (fun sh92 esh92 => ?_)
  have hf := pd_lt hf esh92
  clear esh92 eF93 eo94
  obtain ⟨hg95, hf⟩ := pd_ig hf
  refine pd_putF (n := o94) (x := pd_R o94) 31 dX12_init_151 (show vwCl[12]? = some (RX12, TX12, 52) from rfl) pin_12 tyX12_ok nmX12 (by decide) pq_818 rfl rfl rfl hg95 rfl (pd_nrR (Or.inr ⟨_, rfl⟩)) (pd_ftR (Or.inr ⟨_, rfl⟩)) ?_
  refine pd_topF (fun F96 eF96 => ?_)
  have hf := pd_lt hf eF96
  clear eF96
  refine pd_aload_n (i := 0) dX12_init_154 rfl rfl ?_
  refine pd_bipush dX12_init_155 (by decide) ?_
  refine pd_newI (N := 12) dX12_init_157 pq_1091 (by decide) (by decide) ⟨by show _ ≤ 36; omega, by show _ ≤ 3943; omega⟩ ?_
  refine pd_topR (fun o99 eo99 => ?_)
  have hf := pd_lt hf eo99
  refine pd_topF (fun F98 eF98 => ?_)
  have hf := pd_lt hf eF98
  refine pd_topS (fun sh97 esh97 => ?_)
  have hf := pd_lt hf esh97
  clear esh97 eF98 eo99
  obtain ⟨hg100, hf⟩ := pd_ig hf
  refine pd_putF (n := o99) (x := pd_R o99) 32 dX12_init_159 (show vwCl[12]? = some (RX12, TX12, 52) from rfl) pin_12 tyX12_ok nmX12 (by decide) pq_819 rfl rfl rfl hg100 rfl (pd_nrR (Or.inr ⟨_, rfl⟩)) (pd_ftR (Or.inr ⟨_, rfl⟩)) ?_
  refine pd_topF (fun F101 eF101 => ?_)
  have hf := pd_lt hf eF101
  clear eF101
  refine pd_aload_n (i := 0) dX12_init_162 rfl rfl ?_
  refine pd_bipush dX12_init_163 (by decide) ?_
  refine pd_newI (N := 16) dX12_init_165 pq_1091 (by decide) (by decide) ⟨by show _ ≤ 36; omega, by show _ ≤ 3943; omega⟩ ?_
  refine pd_topR (fun o104 eo104 => ?_)
  have hf := pd_lt hf eo104
  refine pd_topF (fun F103 eF103 => ?_)
  have hf := pd_lt hf eF103
  refine pd_topS (fun sh102 esh102 => ?_)
  have hf := pd_lt hf esh102
  clear esh102 eF103 eo104
  obtain ⟨hg105, hf⟩ := pd_ig hf
  refine pd_putF (n := o104) (x := pd_R o104) 33 dX12_init_167 (show vwCl[12]? = some (RX12, TX12, 52) from rfl) pin_12 tyX12_ok nmX12 (by decide) pq_821 rfl rfl rfl hg105 rfl (pd_nrR (Or.inr ⟨_, rfl⟩)) (pd_ftR (Or.inr ⟨_, rfl⟩)) ?_
  refine pd_topF (fun F106 eF106 => ?_)
  have hf := pd_lt hf eF106
  clear eF106
  refine pd_aload_n (i := 0) dX12_init_170 rfl rfl ?_
  refine pd_bipush dX12_init_171 (by decide) ?_
  refine pd_newI (N := 16) dX12_init_173 pq_1091 (by decide) (by decide) ⟨by show _ ≤ 36; omega, by show _ ≤ 3943; omega⟩ ?_
  refine pd_topR (fun o109 eo109 => ?_)
  have hf := pd_lt hf eo109
  refine pd_topF (fun F108 eF108 => ?_)
  have hf := pd_lt hf eF108
  refine pd_topS (fun sh107 esh107 => ?_)
  have hf := pd_lt hf esh107
  clear esh107 eF108 eo109
  obtain ⟨hg110, hf⟩ := pd_ig hf
  refine pd_putF (n := o109) (x := pd_R o109) 34 dX12_init_175 (show vwCl[12]? = some (RX12, TX12, 52) from rfl) pin_12 tyX12_ok nmX12 (by decide) pq_822 rfl rfl rfl hg110 rfl (pd_nrR (Or.inr ⟨_, rfl⟩)) (pd_ftR (Or.inr ⟨_, rfl⟩)) ?_
  refine pd_topF (fun F111 eF111 => ?_)
  have hf := pd_lt hf eF111
  clear eF111
  refine pd_aload_n (i := 0) dX12_init_178 rfl rfl ?_
  refine pd_bipush dX12_init_179 (by decide) ?_
  refine pd_newI (N := 16) dX12_init_181 pq_1091 (by decide) (by decide) ⟨by show _ ≤ 36; omega, by show _ ≤ 3943; omega⟩ ?_
  refine pd_topR (fun o114 eo114 => ?_)
  have hf := pd_lt hf eo114
  refine pd_topF (fun F113 eF113 => ?_)
  have hf := pd_lt hf eF113
  refine pd_topS (fun sh112 esh112 => ?_)
  have hf := pd_lt hf esh112
  clear esh112 eF113 eo114
  obtain ⟨hg115, hf⟩ := pd_ig hf
  refine pd_putF (n := o114) (x := pd_R o114) 35 dX12_init_183 (show vwCl[12]? = some (RX12, TX12, 52) from rfl) pin_12 tyX12_ok nmX12 (by decide) pq_823 rfl rfl rfl hg115 rfl (pd_nrR (Or.inr ⟨_, rfl⟩)) (pd_ftR (Or.inr ⟨_, rfl⟩)) ?_
  refine pd_topF (fun F116 eF116 => ?_)
  have hf := pd_lt hf eF116
  clear eF116
  refine pd_aload_n (i := 0) dX12_init_186 rfl rfl ?_
  refine pd_iconst dX12_init_187 (by decide) ?_
  refine pd_newI (N := 3) dX12_init_188 pq_1091 (by decide) (by decide) ⟨by show _ ≤ 36; omega, by show _ ≤ 3943; omega⟩ ?_
  refine pd_topR (fun o119 eo119 => ?_)
  have hf := pd_lt hf eo119
  refine pd_topF (fun F118 eF118 => ?_)
  have hf := pd_lt hf eF118
  refine pd_topS (fun sh117 esh117 => ?_)
  have hf := pd_lt hf esh117
  clear esh117 eF118 eo119
  obtain ⟨hg120, hf⟩ := pd_ig hf
  refine pd_putF (n := o119) (x := pd_R o119) 36 dX12_init_190 (show vwCl[12]? = some (RX12, TX12, 52) from rfl) pin_12 tyX12_ok nmX12 (by decide) pq_785 rfl rfl rfl hg120 rfl (pd_nrR (Or.inr ⟨_, rfl⟩)) (pd_ftR (Or.inr ⟨_, rfl⟩)) ?_
  refine pd_topF (fun F121 eF121 => ?_)
  have hf := pd_lt hf eF121
  clear eF121
  refine pd_aload_n (i := 0) dX12_init_193 rfl rfl ?_
  refine pd_iconst dX12_init_194 (by decide) ?_
  refine pd_newZ (N := 3) dX12_init_195 pq_1133 (by decide) (by decide) ⟨by show _ ≤ 36; omega, by show _ ≤ 3943; omega⟩ ?_
  refine pd_topR (fun o124 eo124 => ?_)
  have hf := pd_lt hf eo124
  refine pd_topF (fun F123 eF123 => ?_)
  have hf := pd_lt hf eF123
  refine pd_topS (fun sh122 esh122 => ?_)
  have hf := pd_lt hf esh122
  clear esh122 eF123 eo124
  obtain ⟨hg125, hf⟩ := pd_ig hf
  refine pd_putF (n := o124) (x := pd_R o124) 37 dX12_init_197 (show vwCl[12]? = some (RX12, TX12, 52) from rfl) pin_12 tyX12_ok nmX12 (by decide) pq_786 rfl rfl rfl hg125 rfl (pd_nrR (Or.inr ⟨_, rfl⟩)) (pd_ftR (Or.inr ⟨_, rfl⟩)) ?_
  refine pd_topF (fun F126 eF126 => ?_)
  have hf := pd_lt hf eF126
  clear eF126
  refine pd_aload_n (i := 0) dX12_init_200 rfl rfl ?_
  refine pd_bipush dX12_init_201 (by decide) ?_
  refine pd_newI (N := 111) dX12_init_203 pq_1091 (by decide) (by decide) ⟨by show _ ≤ 36; omega, by show _ ≤ 3943; omega⟩ ?_
  refine pd_topR (fun o129 eo129 => ?_)
  have hf := pd_lt hf eo129
  refine pd_topF (fun F128 eF128 => ?_)
  have hf := pd_lt hf eF128
  refine pd_topS (fun sh127 esh127 => ?_)
  have hf := pd_lt hf esh127
  clear esh127 eF128 eo129
  obtain ⟨hg130, hf⟩ := pd_ig hf
  refine pd_putF (n := o129) (x := pd_R o129) 39 dX12_init_205 (show vwCl[12]? = some (RX12, TX12, 52) from rfl) pin_12 tyX12_ok nmX12 (by decide) pq_877 rfl rfl rfl hg130 rfl (pd_nrR (Or.inr ⟨_, rfl⟩)) (pd_ftR (Or.inr ⟨_, rfl⟩)) ?_
  refine pd_topF (fun F131 eF131 => ?_)
  have hf := pd_lt hf eF131
  clear eF131
  refine pd_aload_n (i := 0) dX12_init_208 rfl rfl ?_
  refine pd_sipush dX12_init_209 (by decide) ?_
  refine pd_newI (N := 1776) dX12_init_212 pq_1091 (by decide) (by decide) ⟨by show _ ≤ 36; omega, by show _ ≤ 3943; omega⟩ ?_
  refine pd_topR (fun o134 eo134 => ?_)
  have hf := pd_lt hf eo134
  refine pd_topF (fun F133 eF133 => ?_)
  have hf := pd_lt hf eF133
  refine pd_topS (fun sh132 esh132 => ?_)
  have hf := pd_lt hf esh132
  clear esh132 eF133 eo134
  obtain ⟨hg135, hf⟩ := pd_ig hf
  refine pd_putF (n := o134) (x := pd_R o134) 40 dX12_init_214 (show vwCl[12]? = some (RX12, TX12, 52) from rfl) pin_12 tyX12_ok nmX12 (by decide) pq_898 rfl rfl rfl hg135 rfl (pd_nrR (Or.inr ⟨_, rfl⟩)) (pd_ftR (Or.inr ⟨_, rfl⟩)) ?_
  refine pd_topF (fun F136 eF136 => ?_)
  have hf := pd_lt hf eF136
  clear eF136
  refine pd_aload_n (i := 0) dX12_init_217 rfl rfl ?_
  refine pd_sipush dX12_init_218 (by decide) ?_
  refine pd_newI (N := 333) dX12_init_221 pq_1091 (by decide) (by decide) ⟨by show _ ≤ 36; omega, by show _ ≤ 3943; omega⟩ ?_
  refine pd_topR (fun o139 eo139 => ?_)
  have hf := pd_lt hf eo139
  refine pd_topF (fun F138 eF138 => ?_)
  have hf := pd_lt hf eF138
  refine pd_topS (fun sh137 esh137 => ?_)
  have hf := pd_lt hf esh137
  clear esh137 eF138 eo139
  obtain ⟨hg140, hf⟩ := pd_ig hf
  refine pd_putF (n := o139) (x := pd_R o139) 42 dX12_init_223 (show vwCl[12]? = some (RX12, TX12, 52) from rfl) pin_12 tyX12_ok nmX12 (by decide) pq_917 rfl rfl rfl hg140 rfl (pd_nrR (Or.inr ⟨_, rfl⟩)) (pd_ftR (Or.inr ⟨_, rfl⟩)) ?_
  refine pd_topF (fun F141 eF141 => ?_)
  have hf := pd_lt hf eF141
  clear eF141
  refine pd_aload_n (i := 0) dX12_init_226 rfl rfl ?_
  refine pd_iconst dX12_init_227 (by decide) ?_
  refine pd_newZ (N := 3) dX12_init_228 pq_1133 (by decide) (by decide) ⟨by show _ ≤ 36; omega, by show _ ≤ 3943; omega⟩ ?_
  refine pd_topR (fun o144 eo144 => ?_)
  have hf := pd_lt hf eo144
  refine pd_topF (fun F143 eF143 => ?_)
  have hf := pd_lt hf eF143
  refine pd_topS (fun sh142 esh142 => ?_)
  have hf := pd_lt hf esh142
  clear esh142 eF143 eo144
  obtain ⟨hg145, hf⟩ := pd_ig hf
  refine pd_putF (n := o144) (x := pd_R o144) 43 dX12_init_230 (show vwCl[12]? = some (RX12, TX12, 52) from rfl) pin_12 tyX12_ok nmX12 (by decide) pq_885 rfl rfl rfl hg145 rfl (pd_nrR (Or.inr ⟨_, rfl⟩)) (pd_ftR (Or.inr ⟨_, rfl⟩)) ?_
  refine pd_topF (fun F146 eF146 => ?_)
  have hf := pd_lt hf eF146
  clear eF146
  refine pd_aload_n (i := 0) dX12_init_233 rfl rfl ?_
  refine pd_bipush dX12_init_234 (by decide) ?_
  refine pd_newJ (N := 12) dX12_init_236 pq_1161 (by decide) (by decide) ⟨by show _ ≤ 36; omega, by show _ ≤ 3943; omega⟩ ?_
  refine pd_topR (fun o149 eo149 => ?_)
  have hf := pd_lt hf eo149
  refine pd_topF (fun F148 eF148 => ?_)
  have hf := pd_lt hf eF148
  refine pd_topS (fun sh147 esh147 => ?_)
  have hf := pd_lt hf esh147
  clear esh147 eF148 eo149
  obtain ⟨hg150, hf⟩ := pd_ig hf
  refine pd_putF (n := o149) (x := pd_R o149) 44 dX12_init_238 (show vwCl[12]? = some (RX12, TX12, 52) from rfl) pin_12 tyX12_ok nmX12 (by decide) pq_893 rfl rfl rfl hg150 rfl (pd_nrR (Or.inr ⟨_, rfl⟩)) (pd_ftR (Or.inr ⟨_, rfl⟩)) ?_
  refine pd_topF (fun F151 eF151 => ?_)
  have hf := pd_lt hf eF151
  clear eF151
  refine pd_aload_n (i := 0) dX12_init_241 rfl rfl ?_
  refine pd_bipush dX12_init_242 (by decide) ?_
  refine pd_newI (N := 12) dX12_init_244 pq_1091 (by decide) (by decide) ⟨by show _ ≤ 36; omega, by show _ ≤ 3943; omega⟩ ?_
  refine pd_topR (fun o154 eo154 => ?_)
  have hf := pd_lt hf eo154
  refine pd_topF (fun F153 eF153 => ?_)
  have hf := pd_lt hf eF153
  refine pd_topS (fun sh152 esh152 => ?_)
  have hf := pd_lt hf esh152
  clear esh152 eF153 eo154
  obtain ⟨hg155, hf⟩ := pd_ig hf
  refine pd_putF (n := o154) (x := pd_R o154) 45 dX12_init_246 (show vwCl[12]? = some (RX12, TX12, 52) from rfl) pin_12 tyX12_ok nmX12 (by decide) pq_970 rfl rfl rfl hg155 rfl (pd_nrR (Or.inr ⟨_, rfl⟩)) (pd_ftR (Or.inr ⟨_, rfl⟩)) ?_
  refine pd_topF (fun F156 eF156 => ?_)
  have hf := pd_lt hf eF156
  clear eF156
  refine pd_aload_n (i := 0) dX12_init_249 rfl rfl ?_
  refine pd_bipush dX12_init_250 (by decide) ?_
  refine pd_newI (N := 12) dX12_init_252 pq_1091 (by decide) (by decide) ⟨by show _ ≤ 36; omega, by show _ ≤ 3943; omega⟩ ?_
  refine pd_topR (fun o159 eo159 => ?_)
  have hf := pd_lt hf eo159
  refine pd_topF (fun F158 eF158 => ?_)
  have hf := pd_lt hf eF158
  refine pd_topS (fun sh157 esh157 => ?_)
  have hf := pd_lt hf esh157
  clear esh157 eF158 eo159
  obtain ⟨hg160, hf⟩ := pd_ig hf
  refine pd_putF (n := o159) (x := pd_R o159) 47 dX12_init_254 (show vwCl[12]? = some (RX12, TX12, 52) from rfl) pin_12 tyX12_ok nmX12 (by decide) pq_958 rfl rfl rfl hg160 rfl (pd_nrR (Or.inr ⟨_, rfl⟩)) (pd_ftR (Or.inr ⟨_, rfl⟩)) ?_
  refine pd_topF (fun F161 eF161 => ?_)
  have hf := pd_lt hf eF161
  clear eF161
  refine pd_aload_n (i := 0) dX12_init_257 rfl rfl ?_
  refine pd_bipush dX12_init_258 (by decide) ?_
  refine pd_newJ (N := 12) dX12_init_260 pq_1161 (by decide) (by decide) ⟨by show _ ≤ 36; omega, by show _ ≤ 3943; omega⟩ ?_
  refine pd_topR (fun o164 eo164 => ?_)
  have hf := pd_lt hf eo164
  refine pd_topF (fun F163 eF163 => ?_)
  have hf := pd_lt hf eF163
  refine pd_topS (fun sh162 esh162 => ?_)
  have hf := pd_lt hf esh162
  clear esh162 eF163 eo164
  obtain ⟨hg165, hf⟩ := pd_ig hf
  refine pd_putF (n := o164) (x := pd_R o164) 48 dX12_init_262 (show vwCl[12]? = some (RX12, TX12, 52) from rfl) pin_12 tyX12_ok nmX12 (by decide) pq_895 rfl rfl rfl hg165 rfl (pd_nrR (Or.inr ⟨_, rfl⟩)) (pd_ftR (Or.inr ⟨_, rfl⟩)) ?_
  refine pd_topF (fun F166 eF166 => ?_)
  have hf := pd_lt hf eF166
  clear eF166
  refine pd_aload_n (i := 0) dX12_init_265 rfl rfl ?_
  refine pd_bipush dX12_init_266 (by decide) ?_
  refine pd_newJ (N := 12) dX12_init_268 pq_1161 (by decide) (by decide) ⟨by show _ ≤ 36; omega, by show _ ≤ 3943; omega⟩ ?_
  refine pd_topR (fun o169 eo169 => ?_)
  have hf := pd_lt hf eo169
  refine pd_topF (fun F168 eF168 => ?_)
  have hf := pd_lt hf eF168
  refine pd_topS (fun sh167 esh167 => ?_)
  have hf := pd_lt hf esh167
  clear esh167 eF168 eo169
  obtain ⟨hg170, hf⟩ := pd_ig hf
  refine pd_putF (n := o169) (x := pd_R o169) 49 dX12_init_270 (show vwCl[12]? = some (RX12, TX12, 52) from rfl) pin_12 tyX12_ok nmX12 (by decide) pq_894 rfl rfl rfl hg170 rfl (pd_nrR (Or.inr ⟨_, rfl⟩)) (pd_ftR (Or.inr ⟨_, rfl⟩)) ?_
  refine pd_topF (fun F171 eF171 => ?_)
  have hf := pd_lt hf eF171
  clear eF171
  refine pd_aload_n (i := 0) dX12_init_273 rfl rfl ?_
  refine pd_bipush dX12_init_274 (by decide) ?_
  refine pd_newJ (N := 12) dX12_init_276 pq_1161 (by decide) (by decide) ⟨by show _ ≤ 36; omega, by show _ ≤ 3943; omega⟩ ?_
  refine pd_topR (fun o174 eo174 => ?_)
  have hf := pd_lt hf eo174
  refine pd_topF (fun F173 eF173 => ?_)
  have hf := pd_lt hf eF173
  refine pd_topS (fun sh172 esh172 => ?_)
  have hf := pd_lt hf esh172
  clear esh172 eF173 eo174
  obtain ⟨hg175, hf⟩ := pd_ig hf
  refine pd_putF (n := o174) (x := pd_R o174) 50 dX12_init_278 (show vwCl[12]? = some (RX12, TX12, 52) from rfl) pin_12 tyX12_ok nmX12 (by decide) pq_896 rfl rfl rfl hg175 rfl (pd_nrR (Or.inr ⟨_, rfl⟩)) (pd_ftR (Or.inr ⟨_, rfl⟩)) ?_
  refine pd_topF (fun F176 eF176 => ?_)
  have hf := pd_lt hf eF176
  clear eF176
  refine pd_aload_n (i := 0) dX12_init_281 rfl rfl ?_
  refine pd_bipush dX12_init_282 (by decide) ?_
  refine pd_newZ (N := 12) dX12_init_284 pq_1133 (by decide) (by decide) ⟨by show _ ≤ 36; omega, by show _ ≤ 3943; omega⟩ ?_
  refine pd_topR (fun o179 eo179 => ?_)
  have hf := pd_lt hf eo179
  refine pd_topF (fun F178 eF178 => ?_)
  have hf := pd_lt hf eF178
  refine pd_topS (fun sh177 esh177 => ?_)
  have hf := pd_lt hf esh177
  clear esh177 eF178 eo179
  obtain ⟨hg180, hf⟩ := pd_ig hf
  refine pd_putF (n := o179) (x := pd_R o179) 51 dX12_init_286 (show vwCl[12]? = some (RX12, TX12, 52) from rfl) pin_12 tyX12_ok nmX12 (by decide) pq_981 rfl rfl rfl hg180 rfl (pd_nrR (Or.inr ⟨_, rfl⟩)) (pd_ftR (Or.inr ⟨_, rfl⟩)) ?_
  refine pd_topF (fun F181 eF181 => ?_)
  have hf := pd_lt hf eF181
  clear eF181
  refine pd_aload_n (i := 0) dX12_init_289 rfl rfl ?_
  refine pd_get (x := pd_R (F181 x0 39)) 39 dX12_init_290 (show vwCl[12]? = some (RX12, TX12, 52) from rfl) pin_12 (by decide) pq_877 hg180 rfl ?_
  refine pd_bipush dX12_init_293 (by decide) ?_
  refine pd_ldc (x := 100000) dX12_init_295 pq_879 (by decide +kernel) ?_
  obtain ⟨hg182, hf⟩ := pd_ig hf
  refine pd_iast dX12_init_297 hg182 ?_
  refine pd_topF (fun F183 eF183 => ?_)
  have hf := pd_lt hf eF183
  clear eF183
  refine pd_aload_n (i := 0) dX12_init_298 rfl rfl ?_
  refine pd_get (x := pd_R (F183 x0 39)) 39 dX12_init_299 (show vwCl[12]? = some (RX12, TX12, 52) from rfl) pin_12 (by decide) pq_877 hg180 rfl ?_
  refine pd_bipush dX12_init_302 (by decide) ?_
  refine pd_ldc (x := 50000) dX12_init_304 pq_878 (by decide +kernel) ?_
  obtain ⟨hg184, hf⟩ := pd_ig hf
  refine pd_iast dX12_init_306 hg184 ?_
  refine pd_topF (fun F185 eF185 => ?_)
  have hf := pd_lt hf eF185
  clear eF185
  obtain ⟨h1, h2⟩ := pd_inj hf
  subst h1 h2
  exact pd_vret dX12_init_307 rfl (by omega) (by omega)
set_option maxHeartbeats 4000000 in
set_option maxRecDepth 100000 in
theorem pkX11_init (l : Launch) {sh : pd_S} {F : pd_F} {x0 : Int} {shz : pd_S} {Fz : pd_F} (hf : pfX11_init sh F x0 = some (shz, Fz)) : pd_C l yX11_init (Cond.code yX11_init cX11_init 1 none :: pd_gt) (pd_rm 4 754 8163) true 754 8163 sh F [pd_R x0] none shz Fz := by
  unfold pfX11_init at hf
  refine pd_body (L := [pd_R x0]) (by decide +kernel) (Nat.le_of_ble_eq_true rfl) rfl (fun E => ?_)
  refine pd_aload_n (i := 0) dX11_init_0 rfl rfl ?_
  obtain ⟨hg1, hf⟩ := pd_ig hf
  refine pd_oinit dX11_init_1 pq_1163 pq_1086 pq_1087 hg1 pd_rmR2 (Nat.le_of_ble_eq_true rfl) ?_
  refine pd_aload_n (i := 0) dX11_init_4 rfl rfl ?_
  refine pd_new dX11_init_5 (show vwCl[6]? = some (RX6, TX6, 3) from rfl) pin_6 tyX6_ok pq_1164 pq_1165 pq_1166 (by decide) ⟨by show _ ≤ 754; omega, by show _ ≤ 8163; omega⟩ ?_
  refine pd_topR (fun o4 eo4 => ?_)
  have hf := pd_lt hf eo4
  refine pd_topF (fun F3 eF3 => ?_)
  have hf := pd_lt hf eF3
  refine pd_topS (fun sh2 esh2 => ?_)
  have hf := pd_lt hf esh2
  clear esh2 eF3 eo4
  refine pd_dup dX11_init_8 rfl ?_
  obtain ⟨hg7, hf⟩ := pd_ig hf
  obtain ⟨sh6, F5, hr, hf⟩ := pd_ob2 hf
  refine pd_callIN (pkX6_init l hr) dX11_init_9 pq_1167 pq_1170 rfl hg7 (pd_okA (by omega) (by decide) (by omega) (by omega) pq_1168 pq_1169 (by decide) (show (parseMethodDescriptor yX6_init.desc).map (fun d => d.parameters.length) = some 0 from by decide +kernel)) (Nat.le_of_ble_eq_true rfl) rfl ?_
  obtain ⟨hg8, hf⟩ := pd_ig hf
  refine pd_putF (n := o4) (x := pd_R o4) 0 dX11_init_12 (show vwCl[11]? = some (RX11, TX11, 10) from rfl) pin_11 tyX11_ok nmX11 (by decide) pq_625 rfl rfl rfl hg8 rfl (pd_nrR (Or.inl ⟨_, rfl⟩)) (pd_ftR (Or.inl ⟨_, rfl⟩)) ?_
  refine pd_topF (fun F9 eF9 => ?_)
  have hf := pd_lt hf eF9
  clear eF9
  refine pd_aload_n (i := 0) dX11_init_15 rfl rfl ?_
  refine pd_aload_n (i := 0) dX11_init_16 rfl rfl ?_
  refine pd_get (x := pd_R (F9 x0 0)) 0 dX11_init_17 (show vwCl[11]? = some (RX11, TX11, 10) from rfl) pin_11 (by decide) pq_625 hg8 rfl ?_
  obtain ⟨hg10, hf⟩ := pd_ig hf
  refine pd_getN (x := pd_R (F9 (F9 x0 0) 0)) 0 dX11_init_20 (show vwCl[6]? = some (RX6, TX6, 3) from rfl) pin_6 (by decide) pq_1171 hg10 rfl ?_
  refine pd_putF (n := (F9 (F9 x0 0) 0)) (x := pd_R (F9 (F9 x0 0) 0)) 1 dX11_init_23 (show vwCl[11]? = some (RX11, TX11, 10) from rfl) pin_11 tyX11_ok nmX11 (by decide) pq_497 rfl rfl rfl hg8 rfl (pd_nrR (Or.inl ⟨_, rfl⟩)) (pd_ftR (Or.inl ⟨_, rfl⟩)) ?_
  refine pd_topF (fun F11 eF11 => ?_)
  have hf := pd_lt hf eF11
  clear eF11
  refine pd_aload_n (i := 0) dX11_init_26 rfl rfl ?_
  refine pd_new dX11_init_27 (show vwCl[3]? = some (RX3, TX3, 5) from rfl) pin_3 tyX3_ok pq_1172 pq_1173 pq_1174 (by decide) ⟨by show _ ≤ 754; omega, by show _ ≤ 8163; omega⟩ ?_
  refine pd_topR (fun o14 eo14 => ?_)
  have hf := pd_lt hf eo14
  refine pd_topF (fun F13 eF13 => ?_)
  have hf := pd_lt hf eF13
  refine pd_topS (fun sh12 esh12 => ?_)
  have hf := pd_lt hf esh12
  clear esh12 eF13 eo14
  refine pd_dup dX11_init_30 rfl ?_
  obtain ⟨hg17, hf⟩ := pd_ig hf
  obtain ⟨sh16, F15, hr, hf⟩ := pd_ob2 hf
  refine pd_callI (pkX3_init l hr) dX11_init_31 pq_1175 pq_1178 rfl hg17 (pd_okA (by omega) (by decide) (by omega) (by omega) pq_1176 pq_1177 (by decide) (show (parseMethodDescriptor yX3_init.desc).map (fun d => d.parameters.length) = some 0 from by decide +kernel)) (Nat.le_of_ble_eq_true rfl) rfl ?_
  obtain ⟨hg18, hf⟩ := pd_ig hf
  refine pd_putF (n := o14) (x := pd_R o14) 2 dX11_init_34 (show vwCl[11]? = some (RX11, TX11, 10) from rfl) pin_11 tyX11_ok nmX11 (by decide) pq_495 rfl rfl rfl hg18 rfl (pd_nrR (Or.inl ⟨_, rfl⟩)) (pd_ftR (Or.inl ⟨_, rfl⟩)) ?_
  refine pd_topF (fun F19 eF19 => ?_)
  have hf := pd_lt hf eF19
  clear eF19
  refine pd_aload_n (i := 0) dX11_init_37 rfl rfl ?_
  refine pd_new dX11_init_38 (show vwCl[7]? = some (RX7, TX7, 2) from rfl) pin_7 tyX7_ok pq_1179 pq_1180 pq_1181 (by decide) ⟨by show _ ≤ 754; omega, by show _ ≤ 8163; omega⟩ ?_
  refine pd_topR (fun o22 eo22 => ?_)
  have hf := pd_lt hf eo22
  refine pd_topF (fun F21 eF21 => ?_)
  have hf := pd_lt hf eF21
  refine pd_topS (fun sh20 esh20 => ?_)
  have hf := pd_lt hf esh20
  clear esh20 eF21 eo22
  refine pd_dup dX11_init_41 rfl ?_
  obtain ⟨hg25, hf⟩ := pd_ig hf
  obtain ⟨sh24, F23, hr, hf⟩ := pd_ob2 hf
  refine pd_callIN (pkX7_init l hr) dX11_init_42 pq_1182 pq_1185 rfl hg25 (pd_okA (by omega) (by decide) (by omega) (by omega) pq_1183 pq_1184 (by decide) (show (parseMethodDescriptor yX7_init.desc).map (fun d => d.parameters.length) = some 0 from by decide +kernel)) (Nat.le_of_ble_eq_true rfl) rfl ?_
  obtain ⟨hg26, hf⟩ := pd_ig hf
  refine pd_putF (n := o22) (x := pd_R o22) 3 dX11_init_45 (show vwCl[11]? = some (RX11, TX11, 10) from rfl) pin_11 tyX11_ok nmX11 (by decide) pq_555 rfl rfl rfl hg26 rfl (pd_nrR (Or.inl ⟨_, rfl⟩)) (pd_ftR (Or.inl ⟨_, rfl⟩)) ?_
  refine pd_topF (fun F27 eF27 => ?_)
  have hf := pd_lt hf eF27
  clear eF27
  refine pd_aload_n (i := 0) dX11_init_48 rfl rfl ?_
  refine pd_new dX11_init_49 (show vwCl[8]? = some (RX8, TX8, 6) from rfl) pin_8 tyX8_ok pq_1186 pq_1125 pq_1126 (by decide) ⟨by show _ ≤ 754; omega, by show _ ≤ 8163; omega⟩ ?_
  refine pd_topR (fun o30 eo30 => ?_)
  have hf := pd_lt hf eo30
  refine pd_topF (fun F29 eF29 => ?_)
  have hf := pd_lt hf eF29
  refine pd_topS (fun sh28 esh28 => ?_)
  have hf := pd_lt hf esh28
  clear esh28 eF29 eo30
  refine pd_dup dX11_init_52 rfl ?_
  obtain ⟨hg33, hf⟩ := pd_ig hf
  obtain ⟨sh32, F31, hr, hf⟩ := pd_ob2 hf
  refine pd_callI (pkX8_init l hr) dX11_init_53 pq_1187 pq_1130 rfl hg33 (pd_okA (by omega) (by decide) (by omega) (by omega) pq_1128 pq_1129 (by decide) (show (parseMethodDescriptor yX8_init.desc).map (fun d => d.parameters.length) = some 0 from by decide +kernel)) (Nat.le_of_ble_eq_true rfl) rfl ?_
  obtain ⟨hg34, hf⟩ := pd_ig hf
  refine pd_putF (n := o30) (x := pd_R o30) 4 dX11_init_56 (show vwCl[11]? = some (RX11, TX11, 10) from rfl) pin_11 tyX11_ok nmX11 (by decide) pq_487 rfl rfl rfl hg34 rfl (pd_nrR (Or.inl ⟨_, rfl⟩)) (pd_ftR (Or.inl ⟨_, rfl⟩)) ?_
  refine pd_topF (fun F35 eF35 => ?_)
  have hf := pd_lt hf eF35
  clear eF35
  refine pd_aload_n (i := 0) dX11_init_59 rfl rfl ?_
  refine pd_new dX11_init_60 (show vwCl[4]? = some (RX4, TX4, 7) from rfl) pin_4 tyX4_ok pq_1188 pq_1189 pq_1190 (by decide) ⟨by show _ ≤ 754; omega, by show _ ≤ 8163; omega⟩ ?_
  refine pd_topR (fun o38 eo38 => ?_)
  have hf := pd_lt hf eo38
  refine pd_topF (fun F37 eF37 => ?_)
  have hf := pd_lt hf eF37
  refine pd_topS (fun sh36 esh36 => ?_)
  have hf := pd_lt hf esh36
  clear esh36 eF37 eo38
  refine pd_dup dX11_init_63 rfl ?_
  obtain ⟨hg41, hf⟩ := pd_ig hf
  obtain ⟨sh40, F39, hr, hf⟩ := pd_ob2 hf
  refine pd_callIN (pkX4_init l hr) dX11_init_64 pq_1191 pq_1194 rfl hg41 (pd_okA (by omega) (by decide) (by omega) (by omega) pq_1192 pq_1193 (by decide) (show (parseMethodDescriptor yX4_init.desc).map (fun d => d.parameters.length) = some 0 from by decide +kernel)) (Nat.le_of_ble_eq_true rfl) rfl ?_
  obtain ⟨hg42, hf⟩ := pd_ig hf
  refine pd_putF (n := o38) (x := pd_R o38) 5 dX11_init_67 (show vwCl[11]? = some (RX11, TX11, 10) from rfl) pin_11 tyX11_ok nmX11 (by decide) pq_499 rfl rfl rfl hg42 rfl (pd_nrR (Or.inl ⟨_, rfl⟩)) (pd_ftR (Or.inl ⟨_, rfl⟩)) ?_
  refine pd_topF (fun F43 eF43 => ?_)
  have hf := pd_lt hf eF43
  clear eF43
  refine pd_aload_n (i := 0) dX11_init_70 rfl rfl ?_
  refine pd_new dX11_init_71 (show vwCl[8]? = some (RX8, TX8, 6) from rfl) pin_8 tyX8_ok pq_1186 pq_1125 pq_1126 (by decide) ⟨by show _ ≤ 754; omega, by show _ ≤ 8163; omega⟩ ?_
  refine pd_topR (fun o46 eo46 => ?_)
  have hf := pd_lt hf eo46
  refine pd_topF (fun F45 eF45 => ?_)
  have hf := pd_lt hf eF45
  refine pd_topS (fun sh44 esh44 => ?_)
  have hf := pd_lt hf esh44
  clear esh44 eF45 eo46
  refine pd_dup dX11_init_74 rfl ?_
  obtain ⟨hg49, hf⟩ := pd_ig hf
  obtain ⟨sh48, F47, hr, hf⟩ := pd_ob2 hf
  refine pd_callI (pkX8_init l hr) dX11_init_75 pq_1187 pq_1130 rfl hg49 (pd_okA (by omega) (by decide) (by omega) (by omega) pq_1128 pq_1129 (by decide) (show (parseMethodDescriptor yX8_init.desc).map (fun d => d.parameters.length) = some 0 from by decide +kernel)) (Nat.le_of_ble_eq_true rfl) rfl ?_
  obtain ⟨hg50, hf⟩ := pd_ig hf
  refine pd_putF (n := o46) (x := pd_R o46) 6 dX11_init_78 (show vwCl[11]? = some (RX11, TX11, 10) from rfl) pin_11 tyX11_ok nmX11 (by decide) pq_553 rfl rfl rfl hg50 rfl (pd_nrR (Or.inl ⟨_, rfl⟩)) (pd_ftR (Or.inl ⟨_, rfl⟩)) ?_
  refine pd_topF (fun F51 eF51 => ?_)
  have hf := pd_lt hf eF51
  clear eF51
  refine pd_aload_n (i := 0) dX11_init_81 rfl rfl ?_
  refine pd_new dX11_init_82 (show vwCl[4]? = some (RX4, TX4, 7) from rfl) pin_4 tyX4_ok pq_1188 pq_1189 pq_1190 (by decide) ⟨by show _ ≤ 754; omega, by show _ ≤ 8163; omega⟩ ?_
  refine pd_topR (fun o54 eo54 => ?_)
  have hf := pd_lt hf eo54
  refine pd_topF (fun F53 eF53 => ?_)
  have hf := pd_lt hf eF53
  refine pd_topS (fun sh52 esh52 => ?_)
  have hf := pd_lt hf esh52
  clear esh52 eF53 eo54
  refine pd_dup dX11_init_85 rfl ?_
  obtain ⟨hg57, hf⟩ := pd_ig hf
  obtain ⟨sh56, F55, hr, hf⟩ := pd_ob2 hf
  refine pd_callIN (pkX4_init l hr) dX11_init_86 pq_1191 pq_1194 rfl hg57 (pd_okA (by omega) (by decide) (by omega) (by omega) pq_1192 pq_1193 (by decide) (show (parseMethodDescriptor yX4_init.desc).map (fun d => d.parameters.length) = some 0 from by decide +kernel)) (Nat.le_of_ble_eq_true rfl) rfl ?_
  obtain ⟨hg58, hf⟩ := pd_ig hf
  refine pd_putF (n := o54) (x := pd_R o54) 7 dX11_init_89 (show vwCl[11]? = some (RX11, TX11, 10) from rfl) pin_11 tyX11_ok nmX11 (by decide) pq_554 rfl rfl rfl hg58 rfl (pd_nrR (Or.inl ⟨_, rfl⟩)) (pd_ftR (Or.inl ⟨_, rfl⟩)) ?_
  refine pd_topF (fun F59 eF59 => ?_)
  have hf := pd_lt hf eF59
  clear eF59
  refine pd_aload_n (i := 0) dX11_init_92 rfl rfl ?_
  refine pd_new dX11_init_93 (show vwCl[0]? = some (RX0, TX0, 15) from rfl) pin_0 tyX0_ok pq_1195 pq_1143 pq_1144 (by decide) ⟨by show _ ≤ 754; omega, by show _ ≤ 8163; omega⟩ ?_
  refine pd_topR (fun o62 eo62 => ?_)
  have hf := pd_lt hf eo62
  refine pd_topF (fun F61 eF61 => ?_)
  have hf := pd_lt hf eF61
  refine pd_topS (fun sh60 esh60 => ?_)
  have hf := pd_lt hf esh60
  clear esh60 eF61 eo62
  refine pd_dup dX11_init_96 rfl ?_
  obtain ⟨hg65, hf⟩ := pd_ig hf
  obtain ⟨sh64, F63, hr, hf⟩ := pd_ob2 hf
  refine pd_callI (pkX0_init l hr) dX11_init_97 pq_1196 pq_1148 rfl hg65 (pd_okA (by omega) (by decide) (by omega) (by omega) pq_1146 pq_1147 (by decide) (show (parseMethodDescriptor yX0_init.desc).map (fun d => d.parameters.length) = some 0 from by decide +kernel)) (Nat.le_of_ble_eq_true rfl) rfl ?_
  obtain ⟨hg66, hf⟩ := pd_ig hf
  refine pd_put (n := o62) (x := pd_R o62) 8 dX11_init_100 (show vwCl[11]? = some (RX11, TX11, 10) from rfl) pin_11 tyX11_ok nmX11 (by decide) pq_476 rfl hg66 rfl (pd_nrR (Or.inl ⟨_, rfl⟩)) (pd_ftR (Or.inl ⟨_, rfl⟩)) ?_
  refine pd_topF (fun F67 eF67 => ?_)
  have hf := pd_lt hf eF67
  clear eF67
  refine pd_aload_n (i := 0) dX11_init_103 rfl rfl ?_
  refine pd_iconst dX11_init_104 (by decide) ?_
  refine pd_put (n := 0) (x := pd_I 0) 9 dX11_init_105 (show vwCl[11]? = some (RX11, TX11, 10) from rfl) pin_11 tyX11_ok nmX11 (by decide) pq_636 rfl hg66 rfl (pd_nrZ (by decide)) (pd_ftZ (by decide)) ?_
  refine pd_topF (fun F68 eF68 => ?_)
  have hf := pd_lt hf eF68
  clear eF68
  obtain ⟨h1, h2⟩ := pd_inj hf
  subst h1 h2
  exact pd_vret dX11_init_108 rfl (by omega) (by omega)
