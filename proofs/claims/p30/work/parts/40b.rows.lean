theorem dL_parts_177 : decode cL_parts 177 = .ok (.areturn, 1) := by decide +kernel
theorem dL_feeds_0 : decode cL_feeds 0 = .ok (.aload_n 1, 1) := by decide +kernel
theorem dL_feeds_1 : decode cL_feeds 1 = .ok (.invokevirtual 15, 3) := by decide +kernel
theorem dL_feeds_4 : decode cL_feeds 4 = .ok (.istore_n 2, 1) := by decide +kernel
theorem dL_feeds_5 : decode cL_feeds 5 = .ok (.iconst 0, 1) := by decide +kernel
theorem dL_feeds_6 : decode cL_feeds 6 = .ok (.istore_n 3, 1) := by decide +kernel
theorem dL_feeds_7 : decode cL_feeds 7 = .ok (.iload_n 3, 1) := by decide +kernel
theorem dL_feeds_8 : decode cL_feeds 8 = .ok (.iload_n 2, 1) := by decide +kernel
theorem dL_feeds_9 : decode cL_feeds 9 = .ok (.if_icmp .ge 94, 3) := by decide +kernel
theorem dL_feeds_12 : decode cL_feeds 12 = .ok (.iconst 5, 1) := by decide +kernel
theorem dL_feeds_13 : decode cL_feeds 13 = .ok (.newarray .int, 2) := by decide +kernel
theorem dL_feeds_15 : decode cL_feeds 15 = .ok (.astore 4, 2) := by decide +kernel
theorem dL_feeds_17 : decode cL_feeds 17 = .ok (.iconst 0, 1) := by decide +kernel
theorem dL_feeds_18 : decode cL_feeds 18 = .ok (.istore 5, 2) := by decide +kernel
theorem dL_feeds_20 : decode cL_feeds 20 = .ok (.iload 5, 2) := by decide +kernel
theorem dL_feeds_22 : decode cL_feeds 22 = .ok (.bipush 20, 2) := by decide +kernel
theorem dL_feeds_24 : decode cL_feeds 24 = .ok (.if_icmp .ge 48, 3) := by decide +kernel
theorem dL_feeds_27 : decode cL_feeds 27 = .ok (.aload 4, 2) := by decide +kernel
theorem dL_feeds_29 : decode cL_feeds 29 = .ok (.iload 5, 2) := by decide +kernel
theorem dL_feeds_31 : decode cL_feeds 31 = .ok (.iconst 4, 1) := by decide +kernel
theorem dL_feeds_32 : decode cL_feeds 32 = .ok (.idiv, 1) := by decide +kernel
theorem dL_feeds_33 : decode cL_feeds 33 = .ok (.aload 4, 2) := by decide +kernel
theorem dL_feeds_35 : decode cL_feeds 35 = .ok (.iload 5, 2) := by decide +kernel
theorem dL_feeds_37 : decode cL_feeds 37 = .ok (.iconst 4, 1) := by decide +kernel
theorem dL_feeds_38 : decode cL_feeds 38 = .ok (.idiv, 1) := by decide +kernel
theorem dL_feeds_39 : decode cL_feeds 39 = .ok (.iaload, 1) := by decide +kernel
theorem dL_feeds_40 : decode cL_feeds 40 = .ok (.bipush 8, 2) := by decide +kernel
theorem dL_feeds_42 : decode cL_feeds 42 = .ok (.ishl, 1) := by decide +kernel
theorem dL_feeds_43 : decode cL_feeds 43 = .ok (.iload_n 3, 1) := by decide +kernel
theorem dL_feeds_44 : decode cL_feeds 44 = .ok (.iload 5, 2) := by decide +kernel
theorem dL_feeds_46 : decode cL_feeds 46 = .ok (.iadd, 1) := by decide +kernel
theorem dL_feeds_47 : decode cL_feeds 47 = .ok (.iload_n 2, 1) := by decide +kernel
theorem dL_feeds_48 : decode cL_feeds 48 = .ok (.if_icmp .ge 14, 3) := by decide +kernel
theorem dL_feeds_51 : decode cL_feeds 51 = .ok (.aload_n 1, 1) := by decide +kernel
theorem dL_feeds_52 : decode cL_feeds 52 = .ok (.iload_n 3, 1) := by decide +kernel
theorem dL_feeds_53 : decode cL_feeds 53 = .ok (.iload 5, 2) := by decide +kernel
theorem dL_feeds_55 : decode cL_feeds 55 = .ok (.iadd, 1) := by decide +kernel
theorem dL_feeds_56 : decode cL_feeds 56 = .ok (.invokevirtual 21, 3) := by decide +kernel
theorem dL_feeds_59 : decode cL_feeds 59 = .ok (.goto 5, 3) := by decide +kernel
theorem dL_feeds_62 : decode cL_feeds 62 = .ok (.bipush 32, 2) := by decide +kernel
theorem dL_feeds_64 : decode cL_feeds 64 = .ok (.ior, 1) := by decide +kernel
theorem dL_feeds_65 : decode cL_feeds 65 = .ok (.iastore, 1) := by decide +kernel
theorem dL_feeds_66 : decode cL_feeds 66 = .ok (.iinc 5 1, 3) := by decide +kernel
theorem dL_feeds_69 : decode cL_feeds 69 = .ok (.goto (-49), 3) := by decide +kernel
theorem dL_feeds_72 : decode cL_feeds 72 = .ok (.aload_n 0, 1) := by decide +kernel
theorem dL_feeds_73 : decode cL_feeds 73 = .ok (.aload 4, 2) := by decide +kernel
theorem dL_feeds_75 : decode cL_feeds 75 = .ok (.iconst 0, 1) := by decide +kernel
theorem dL_feeds_76 : decode cL_feeds 76 = .ok (.iaload, 1) := by decide +kernel
theorem dL_feeds_77 : decode cL_feeds 77 = .ok (.aload 4, 2) := by decide +kernel
theorem dL_feeds_79 : decode cL_feeds 79 = .ok (.iconst 1, 1) := by decide +kernel
theorem dL_feeds_80 : decode cL_feeds 80 = .ok (.iaload, 1) := by decide +kernel
theorem dL_feeds_81 : decode cL_feeds 81 = .ok (.aload 4, 2) := by decide +kernel
theorem dL_feeds_83 : decode cL_feeds 83 = .ok (.iconst 2, 1) := by decide +kernel
theorem dL_feeds_84 : decode cL_feeds 84 = .ok (.iaload, 1) := by decide +kernel
theorem dL_feeds_85 : decode cL_feeds 85 = .ok (.aload 4, 2) := by decide +kernel
theorem dL_feeds_87 : decode cL_feeds 87 = .ok (.iconst 3, 1) := by decide +kernel
theorem dL_feeds_88 : decode cL_feeds 88 = .ok (.iaload, 1) := by decide +kernel
theorem dL_feeds_89 : decode cL_feeds 89 = .ok (.aload 4, 2) := by decide +kernel
theorem dL_feeds_91 : decode cL_feeds 91 = .ok (.iconst 4, 1) := by decide +kernel
theorem dL_feeds_92 : decode cL_feeds 92 = .ok (.iaload, 1) := by decide +kernel
theorem dL_feeds_93 : decode cL_feeds 93 = .ok (.invokevirtual 25, 3) := by decide +kernel
theorem dL_feeds_96 : decode cL_feeds 96 = .ok (.pop, 1) := by decide +kernel
theorem dL_feeds_97 : decode cL_feeds 97 = .ok (.iinc 3 20, 3) := by decide +kernel
theorem dL_feeds_100 : decode cL_feeds 100 = .ok (.goto (-93), 3) := by decide +kernel
theorem dL_feeds_103 : decode cL_feeds 103 = .ok (.aload_n 0, 1) := by decide +kernel
theorem dL_feeds_104 : decode cL_feeds 104 = .ok (.iload_n 2, 1) := by decide +kernel
theorem dL_feeds_105 : decode cL_feeds 105 = .ok (.invokevirtual 31, 3) := by decide +kernel
theorem dL_feeds_108 : decode cL_feeds 108 = .ok (.ireturn, 1) := by decide +kernel
theorem dL_begins_0 : decode cL_begins 0 = .ok (.iconst 3, 1) := by decide +kernel
theorem dL_begins_1 : decode cL_begins 1 = .ok (.aload_n 1, 1) := by decide +kernel
theorem dL_begins_2 : decode cL_begins 2 = .ok (.iconst 0, 1) := by decide +kernel
theorem dL_begins_3 : decode cL_begins 3 = .ok (.iconst 4, 1) := by decide +kernel
theorem dL_begins_4 : decode cL_begins 4 = .ok (.invokestatic 51, 3) := by decide +kernel
theorem dL_begins_7 : decode cL_begins 7 = .ok (.iadd, 1) := by decide +kernel
theorem dL_begins_8 : decode cL_begins 8 = .ok (.istore_n 2, 1) := by decide +kernel
theorem dL_begins_9 : decode cL_begins 9 = .ok (.aload_n 1, 1) := by decide +kernel
theorem dL_begins_10 : decode cL_begins 10 = .ok (.iconst 1, 1) := by decide +kernel
theorem dL_begins_11 : decode cL_begins 11 = .ok (.iconst 4, 1) := by decide +kernel
theorem dL_begins_12 : decode cL_begins 12 = .ok (.invokestatic 51, 3) := by decide +kernel
theorem dL_begins_15 : decode cL_begins 15 = .ok (.istore_n 3, 1) := by decide +kernel
theorem dL_begins_16 : decode cL_begins 16 = .ok (.iconst 2, 1) := by decide +kernel
theorem dL_begins_17 : decode cL_begins 17 = .ok (.aload_n 1, 1) := by decide +kernel
theorem dL_begins_18 : decode cL_begins 18 = .ok (.iconst 2, 1) := by decide +kernel
theorem dL_begins_19 : decode cL_begins 19 = .ok (.iconst 4, 1) := by decide +kernel
theorem dL_begins_20 : decode cL_begins 20 = .ok (.invokestatic 51, 3) := by decide +kernel
theorem dL_begins_23 : decode cL_begins 23 = .ok (.iadd, 1) := by decide +kernel
theorem dL_begins_24 : decode cL_begins 24 = .ok (.istore 4, 2) := by decide +kernel
theorem dL_begins_26 : decode cL_begins 26 = .ok (.new 35, 3) := by decide +kernel
theorem dL_begins_29 : decode cL_begins 29 = .ok (.dup, 1) := by decide +kernel
theorem dL_begins_30 : decode cL_begins 30 = .ok (.invokespecial 37, 3) := by decide +kernel
theorem dL_begins_33 : decode cL_begins 33 = .ok (.ldc 68, 2) := by decide +kernel
theorem dL_begins_35 : decode cL_begins 35 = .ok (.invokevirtual 38, 3) := by decide +kernel
theorem dL_begins_38 : decode cL_begins 38 = .ok (.aload_n 1, 1) := by decide +kernel
theorem dL_begins_39 : decode cL_begins 39 = .ok (.iconst 3, 1) := by decide +kernel
theorem dL_begins_40 : decode cL_begins 40 = .ok (.sipush 3000, 3) := by decide +kernel
theorem dL_begins_43 : decode cL_begins 43 = .ok (.invokestatic 51, 3) := by decide +kernel
theorem dL_begins_46 : decode cL_begins 46 = .ok (.invokevirtual 63, 3) := by decide +kernel
theorem dL_begins_49 : decode cL_begins 49 = .ok (.ldc 70, 2) := by decide +kernel
theorem dL_begins_51 : decode cL_begins 51 = .ok (.invokevirtual 38, 3) := by decide +kernel
theorem dL_begins_54 : decode cL_begins 54 = .ok (.aload_n 1, 1) := by decide +kernel
theorem dL_begins_55 : decode cL_begins 55 = .ok (.iconst 4, 1) := by decide +kernel
theorem dL_begins_56 : decode cL_begins 56 = .ok (.bipush 40, 2) := by decide +kernel
theorem dL_begins_58 : decode cL_begins 58 = .ok (.invokestatic 51, 3) := by decide +kernel
theorem dL_begins_61 : decode cL_begins 61 = .ok (.invokevirtual 63, 3) := by decide +kernel
theorem dL_begins_64 : decode cL_begins 64 = .ok (.ldc 72, 2) := by decide +kernel
theorem dL_begins_66 : decode cL_begins 66 = .ok (.invokevirtual 38, 3) := by decide +kernel
theorem dL_begins_69 : decode cL_begins 69 = .ok (.aload_n 1, 1) := by decide +kernel
theorem dL_begins_70 : decode cL_begins 70 = .ok (.iconst 5, 1) := by decide +kernel
theorem dL_begins_71 : decode cL_begins 71 = .ok (.sipush 2000, 3) := by decide +kernel
theorem dL_begins_74 : decode cL_begins 74 = .ok (.invokestatic 51, 3) := by decide +kernel
theorem dL_begins_77 : decode cL_begins 77 = .ok (.invokevirtual 63, 3) := by decide +kernel
theorem dL_begins_80 : decode cL_begins 80 = .ok (.ldc 74, 2) := by decide +kernel
theorem dL_begins_82 : decode cL_begins 82 = .ok (.invokevirtual 38, 3) := by decide +kernel
theorem dL_begins_85 : decode cL_begins 85 = .ok (.invokevirtual 45, 3) := by decide +kernel
theorem dL_begins_88 : decode cL_begins 88 = .ok (.astore 5, 2) := by decide +kernel
theorem dL_begins_90 : decode cL_begins 90 = .ok (.iconst 3, 1) := by decide +kernel
theorem dL_begins_91 : decode cL_begins 91 = .ok (.istore 6, 2) := by decide +kernel
theorem dL_begins_93 : decode cL_begins 93 = .ok (.iconst 0, 1) := by decide +kernel
theorem dL_begins_94 : decode cL_begins 94 = .ok (.istore 7, 2) := by decide +kernel
theorem dL_begins_96 : decode cL_begins 96 = .ok (.iload 7, 2) := by decide +kernel
theorem dL_begins_98 : decode cL_begins 98 = .ok (.iload_n 2, 1) := by decide +kernel
theorem dL_begins_99 : decode cL_begins 99 = .ok (.if_icmp .ge 115, 3) := by decide +kernel
theorem dL_begins_102 : decode cL_begins 102 = .ok (.new 35, 3) := by decide +kernel
theorem dL_begins_105 : decode cL_begins 105 = .ok (.dup, 1) := by decide +kernel
theorem dL_begins_106 : decode cL_begins 106 = .ok (.invokespecial 37, 3) := by decide +kernel
theorem dL_begins_109 : decode cL_begins 109 = .ok (.aload 5, 2) := by decide +kernel
theorem dL_begins_111 : decode cL_begins 111 = .ok (.invokevirtual 38, 3) := by decide +kernel
theorem dL_begins_114 : decode cL_begins 114 = .ok (.ldc 76, 2) := by decide +kernel
theorem dL_begins_116 : decode cL_begins 116 = .ok (.invokevirtual 38, 3) := by decide +kernel
theorem dL_begins_119 : decode cL_begins 119 = .ok (.ldc 57, 2) := by decide +kernel
