theorem dX12_listOf_0 : decode cX12_listOf 0 = .ok (.iconst 5, 1) := by decide +kernel
theorem dX12_listOf_1 : decode cX12_listOf 1 = .ok (.iload_n 0, 1) := by decide +kernel
theorem dX12_listOf_2 : decode cX12_listOf 2 = .ok (.iadd, 1) := by decide +kernel
theorem dX12_listOf_3 : decode cX12_listOf 3 = .ok (.ireturn, 1) := by decide +kernel
theorem dX12_weights_0 : decode cX12_weights 0 = .ok (.iconst 0, 1) := by decide +kernel
theorem dX12_weights_1 : decode cX12_weights 1 = .ok (.istore_n 2, 1) := by decide +kernel
theorem dX12_weights_2 : decode cX12_weights 2 = .ok (.iconst 0, 1) := by decide +kernel
theorem dX12_weights_3 : decode cX12_weights 3 = .ok (.istore_n 3, 1) := by decide +kernel
theorem dX12_weights_4 : decode cX12_weights 4 = .ok (.iload_n 3, 1) := by decide +kernel
theorem dX12_weights_5 : decode cX12_weights 5 = .ok (.aload_n 0, 1) := by decide +kernel
theorem dX12_weights_6 : decode cX12_weights 6 = .ok (.getfield 52, 3) := by decide +kernel
theorem dX12_weights_9 : decode cX12_weights 9 = .ok (.iload_n 1, 1) := by decide +kernel
theorem dX12_weights_10 : decode cX12_weights 10 = .ok (.iaload, 1) := by decide +kernel
theorem dX12_weights_11 : decode cX12_weights 11 = .ok (.if_icmp .ge 22, 3) := by decide +kernel
theorem dX12_weights_14 : decode cX12_weights 14 = .ok (.iload_n 2, 1) := by decide +kernel
theorem dX12_weights_15 : decode cX12_weights 15 = .ok (.aload_n 0, 1) := by decide +kernel
theorem dX12_weights_16 : decode cX12_weights 16 = .ok (.getfield 58, 3) := by decide +kernel
theorem dX12_weights_19 : decode cX12_weights 19 = .ok (.iconst 5, 1) := by decide +kernel
theorem dX12_weights_20 : decode cX12_weights 20 = .ok (.iload_n 1, 1) := by decide +kernel
theorem dX12_weights_21 : decode cX12_weights 21 = .ok (.imul, 1) := by decide +kernel
theorem dX12_weights_22 : decode cX12_weights 22 = .ok (.iload_n 3, 1) := by decide +kernel
theorem dX12_weights_23 : decode cX12_weights 23 = .ok (.iadd, 1) := by decide +kernel
theorem dX12_weights_24 : decode cX12_weights 24 = .ok (.iaload, 1) := by decide +kernel
theorem dX12_weights_25 : decode cX12_weights 25 = .ok (.iadd, 1) := by decide +kernel
theorem dX12_weights_26 : decode cX12_weights 26 = .ok (.istore_n 2, 1) := by decide +kernel
theorem dX12_weights_27 : decode cX12_weights 27 = .ok (.iinc 3 1, 3) := by decide +kernel
theorem dX12_weights_30 : decode cX12_weights 30 = .ok (.goto (-26), 3) := by decide +kernel
theorem dX12_weights_33 : decode cX12_weights 33 = .ok (.iload_n 2, 1) := by decide +kernel
theorem dX12_weights_34 : decode cX12_weights 34 = .ok (.ireturn, 1) := by decide +kernel
theorem dX12_sharesNothing_0 : decode cX12_sharesNothing 0 = .ok (.iconst 0, 1) := by decide +kernel
theorem dX12_sharesNothing_1 : decode cX12_sharesNothing 1 = .ok (.istore_n 1, 1) := by decide +kernel
theorem dX12_sharesNothing_2 : decode cX12_sharesNothing 2 = .ok (.iload_n 1, 1) := by decide +kernel
theorem dX12_sharesNothing_3 : decode cX12_sharesNothing 3 = .ok (.bipush 12, 2) := by decide +kernel
theorem dX12_sharesNothing_5 : decode cX12_sharesNothing 5 = .ok (.if_icmp .ge 16, 3) := by decide +kernel
theorem dX12_sharesNothing_8 : decode cX12_sharesNothing 8 = .ok (.aload_n 0, 1) := by decide +kernel
theorem dX12_sharesNothing_9 : decode cX12_sharesNothing 9 = .ok (.getfield 100, 3) := by decide +kernel
theorem dX12_sharesNothing_12 : decode cX12_sharesNothing 12 = .ok (.iload_n 1, 1) := by decide +kernel
theorem dX12_sharesNothing_13 : decode cX12_sharesNothing 13 = .ok (.lconst 0, 1) := by decide +kernel
theorem dX12_sharesNothing_14 : decode cX12_sharesNothing 14 = .ok (.lastore, 1) := by decide +kernel
theorem dX12_sharesNothing_15 : decode cX12_sharesNothing 15 = .ok (.iinc 1 1, 3) := by decide +kernel
theorem dX12_sharesNothing_18 : decode cX12_sharesNothing 18 = .ok (.goto (-16), 3) := by decide +kernel
theorem dX12_sharesNothing_21 : decode cX12_sharesNothing 21 = .ok (.return_, 1) := by decide +kernel
theorem dX12_isOut_0 : decode cX12_isOut 0 = .ok (.iconst 0, 1) := by decide +kernel
theorem dX12_isOut_1 : decode cX12_isOut 1 = .ok (.istore_n 2, 1) := by decide +kernel
theorem dX12_isOut_2 : decode cX12_isOut 2 = .ok (.iload_n 2, 1) := by decide +kernel
theorem dX12_isOut_3 : decode cX12_isOut 3 = .ok (.aload_n 0, 1) := by decide +kernel
theorem dX12_isOut_4 : decode cX12_isOut 4 = .ok (.getfield 88, 3) := by decide +kernel
theorem dX12_isOut_7 : decode cX12_isOut 7 = .ok (.bipush 110, 2) := by decide +kernel
theorem dX12_isOut_9 : decode cX12_isOut 9 = .ok (.iaload, 1) := by decide +kernel
theorem dX12_isOut_10 : decode cX12_isOut 10 = .ok (.if_icmp .ge 24, 3) := by decide +kernel
theorem dX12_isOut_13 : decode cX12_isOut 13 = .ok (.aload_n 0, 1) := by decide +kernel
theorem dX12_isOut_14 : decode cX12_isOut 14 = .ok (.getfield 88, 3) := by decide +kernel
theorem dX12_isOut_17 : decode cX12_isOut 17 = .ok (.bipush 74, 2) := by decide +kernel
theorem dX12_isOut_19 : decode cX12_isOut 19 = .ok (.iload_n 2, 1) := by decide +kernel
theorem dX12_isOut_20 : decode cX12_isOut 20 = .ok (.iadd, 1) := by decide +kernel
theorem dX12_isOut_21 : decode cX12_isOut 21 = .ok (.iaload, 1) := by decide +kernel
theorem dX12_isOut_22 : decode cX12_isOut 22 = .ok (.iload_n 1, 1) := by decide +kernel
theorem dX12_isOut_23 : decode cX12_isOut 23 = .ok (.if_icmp .ne 5, 3) := by decide +kernel
theorem dX12_isOut_26 : decode cX12_isOut 26 = .ok (.iconst 1, 1) := by decide +kernel
theorem dX12_isOut_27 : decode cX12_isOut 27 = .ok (.ireturn, 1) := by decide +kernel
theorem dX12_isOut_28 : decode cX12_isOut 28 = .ok (.iinc 2 1, 3) := by decide +kernel
theorem dX12_isOut_31 : decode cX12_isOut 31 = .ok (.goto (-29), 3) := by decide +kernel
theorem dX12_isOut_34 : decode cX12_isOut 34 = .ok (.iconst 0, 1) := by decide +kernel
theorem dX12_isOut_35 : decode cX12_isOut 35 = .ok (.ireturn, 1) := by decide +kernel
theorem dX12_areJoined_0 : decode cX12_areJoined 0 = .ok (.iconst 0, 1) := by decide +kernel
theorem dX12_areJoined_1 : decode cX12_areJoined 1 = .ok (.istore_n 3, 1) := by decide +kernel
theorem dX12_areJoined_2 : decode cX12_areJoined 2 = .ok (.iload_n 3, 1) := by decide +kernel
theorem dX12_areJoined_3 : decode cX12_areJoined 3 = .ok (.aload_n 0, 1) := by decide +kernel
theorem dX12_areJoined_4 : decode cX12_areJoined 4 = .ok (.getfield 88, 3) := by decide +kernel
theorem dX12_areJoined_7 : decode cX12_areJoined 7 = .ok (.bipush 70, 2) := by decide +kernel
theorem dX12_areJoined_9 : decode cX12_areJoined 9 = .ok (.iaload, 1) := by decide +kernel
theorem dX12_areJoined_10 : decode cX12_areJoined 10 = .ok (.if_icmp .ge 63, 3) := by decide +kernel
theorem dX12_areJoined_13 : decode cX12_areJoined 13 = .ok (.aload_n 0, 1) := by decide +kernel
theorem dX12_areJoined_14 : decode cX12_areJoined 14 = .ok (.getfield 88, 3) := by decide +kernel
theorem dX12_areJoined_17 : decode cX12_areJoined 17 = .ok (.bipush 10, 2) := by decide +kernel
theorem dX12_areJoined_19 : decode cX12_areJoined 19 = .ok (.iconst 2, 1) := by decide +kernel
theorem dX12_areJoined_20 : decode cX12_areJoined 20 = .ok (.iload_n 3, 1) := by decide +kernel
theorem dX12_areJoined_21 : decode cX12_areJoined 21 = .ok (.imul, 1) := by decide +kernel
theorem dX12_areJoined_22 : decode cX12_areJoined 22 = .ok (.iadd, 1) := by decide +kernel
theorem dX12_areJoined_23 : decode cX12_areJoined 23 = .ok (.iaload, 1) := by decide +kernel
theorem dX12_areJoined_24 : decode cX12_areJoined 24 = .ok (.istore 4, 2) := by decide +kernel
theorem dX12_areJoined_26 : decode cX12_areJoined 26 = .ok (.aload_n 0, 1) := by decide +kernel
theorem dX12_areJoined_27 : decode cX12_areJoined 27 = .ok (.getfield 88, 3) := by decide +kernel
theorem dX12_areJoined_30 : decode cX12_areJoined 30 = .ok (.bipush 10, 2) := by decide +kernel
theorem dX12_areJoined_32 : decode cX12_areJoined 32 = .ok (.iconst 2, 1) := by decide +kernel
theorem dX12_areJoined_33 : decode cX12_areJoined 33 = .ok (.iload_n 3, 1) := by decide +kernel
theorem dX12_areJoined_34 : decode cX12_areJoined 34 = .ok (.imul, 1) := by decide +kernel
theorem dX12_areJoined_35 : decode cX12_areJoined 35 = .ok (.iadd, 1) := by decide +kernel
theorem dX12_areJoined_36 : decode cX12_areJoined 36 = .ok (.iconst 1, 1) := by decide +kernel
theorem dX12_areJoined_37 : decode cX12_areJoined 37 = .ok (.iadd, 1) := by decide +kernel
theorem dX12_areJoined_38 : decode cX12_areJoined 38 = .ok (.iaload, 1) := by decide +kernel
theorem dX12_areJoined_39 : decode cX12_areJoined 39 = .ok (.istore 5, 2) := by decide +kernel
theorem dX12_areJoined_41 : decode cX12_areJoined 41 = .ok (.iload 4, 2) := by decide +kernel
theorem dX12_areJoined_43 : decode cX12_areJoined 43 = .ok (.iload_n 1, 1) := by decide +kernel
theorem dX12_areJoined_44 : decode cX12_areJoined 44 = .ok (.if_icmp .ne 9, 3) := by decide +kernel
theorem dX12_areJoined_47 : decode cX12_areJoined 47 = .ok (.iload 5, 2) := by decide +kernel
theorem dX12_areJoined_49 : decode cX12_areJoined 49 = .ok (.iload_n 2, 1) := by decide +kernel
theorem dX12_areJoined_50 : decode cX12_areJoined 50 = .ok (.if_icmp .eq 15, 3) := by decide +kernel
theorem dX12_areJoined_53 : decode cX12_areJoined 53 = .ok (.iload 4, 2) := by decide +kernel
theorem dX12_areJoined_55 : decode cX12_areJoined 55 = .ok (.iload_n 2, 1) := by decide +kernel
theorem dX12_areJoined_56 : decode cX12_areJoined 56 = .ok (.if_icmp .ne 11, 3) := by decide +kernel
theorem dX12_areJoined_59 : decode cX12_areJoined 59 = .ok (.iload 5, 2) := by decide +kernel
theorem dX12_areJoined_61 : decode cX12_areJoined 61 = .ok (.iload_n 1, 1) := by decide +kernel
theorem dX12_areJoined_62 : decode cX12_areJoined 62 = .ok (.if_icmp .ne 5, 3) := by decide +kernel
theorem dX12_areJoined_65 : decode cX12_areJoined 65 = .ok (.iconst 1, 1) := by decide +kernel
theorem dX12_areJoined_66 : decode cX12_areJoined 66 = .ok (.ireturn, 1) := by decide +kernel
theorem dX12_areJoined_67 : decode cX12_areJoined 67 = .ok (.iinc 3 1, 3) := by decide +kernel
theorem dX12_areJoined_70 : decode cX12_areJoined 70 = .ok (.goto (-68), 3) := by decide +kernel
theorem dX12_areJoined_73 : decode cX12_areJoined 73 = .ok (.iconst 0, 1) := by decide +kernel
theorem dX12_areJoined_74 : decode cX12_areJoined 74 = .ok (.ireturn, 1) := by decide +kernel
theorem dX12_setOff_0 : decode cX12_setOff 0 = .ok (.aload_n 0, 1) := by decide +kernel
theorem dX12_setOff_1 : decode cX12_setOff 1 = .ok (.getfield 112, 3) := by decide +kernel
theorem dX12_setOff_4 : decode cX12_setOff 4 = .ok (.iload_n 1, 1) := by decide +kernel
theorem dX12_setOff_5 : decode cX12_setOff 5 = .ok (.laload, 1) := by decide +kernel
theorem dX12_setOff_6 : decode cX12_setOff 6 = .ok (.aload_n 0, 1) := by decide +kernel
theorem dX12_setOff_7 : decode cX12_setOff 7 = .ok (.getfield 109, 3) := by decide +kernel
theorem dX12_setOff_10 : decode cX12_setOff 10 = .ok (.iload_n 1, 1) := by decide +kernel
theorem dX12_setOff_11 : decode cX12_setOff 11 = .ok (.laload, 1) := by decide +kernel
theorem dX12_setOff_12 : decode cX12_setOff 12 = .ok (.lcmp, 1) := by decide +kernel
theorem dX12_setOff_13 : decode cX12_setOff 13 = .ok (.ifCond .ge 12, 3) := by decide +kernel
theorem dX12_setOff_16 : decode cX12_setOff 16 = .ok (.aload_n 0, 1) := by decide +kernel
theorem dX12_setOff_17 : decode cX12_setOff 17 = .ok (.getfield 112, 3) := by decide +kernel
theorem dX12_setOff_20 : decode cX12_setOff 20 = .ok (.iload_n 1, 1) := by decide +kernel
theorem dX12_setOff_21 : decode cX12_setOff 21 = .ok (.laload, 1) := by decide +kernel
theorem dX12_setOff_22 : decode cX12_setOff 22 = .ok (.goto 9, 3) := by decide +kernel
theorem dX12_setOff_25 : decode cX12_setOff 25 = .ok (.aload_n 0, 1) := by decide +kernel
theorem dX12_setOff_26 : decode cX12_setOff 26 = .ok (.getfield 109, 3) := by decide +kernel
theorem dX12_setOff_29 : decode cX12_setOff 29 = .ok (.iload_n 1, 1) := by decide +kernel
theorem dX12_setOff_30 : decode cX12_setOff 30 = .ok (.laload, 1) := by decide +kernel
theorem dX12_setOff_31 : decode cX12_setOff 31 = .ok (.lreturn, 1) := by decide +kernel
theorem dX12_limit_0 : decode cX12_limit 0 = .ok (.lload_n 2, 1) := by decide +kernel
theorem dX12_limit_1 : decode cX12_limit 1 = .ok (.aload_n 0, 1) := by decide +kernel
theorem dX12_limit_2 : decode cX12_limit 2 = .ok (.getfield 115, 3) := by decide +kernel
theorem dX12_limit_5 : decode cX12_limit 5 = .ok (.iload_n 1, 1) := by decide +kernel
theorem dX12_limit_6 : decode cX12_limit 6 = .ok (.laload, 1) := by decide +kernel
theorem dX12_limit_7 : decode cX12_limit 7 = .ok (.aload_n 0, 1) := by decide +kernel
theorem dX12_limit_8 : decode cX12_limit 8 = .ok (.getfield 88, 3) := by decide +kernel
theorem dX12_limit_11 : decode cX12_limit 11 = .ok (.bipush 73, 2) := by decide +kernel
theorem dX12_limit_13 : decode cX12_limit 13 = .ok (.iaload, 1) := by decide +kernel
theorem dX12_limit_14 : decode cX12_limit 14 = .ok (.i2l, 1) := by decide +kernel
theorem dX12_limit_15 : decode cX12_limit 15 = .ok (.lcmp, 1) := by decide +kernel
theorem dX12_limit_16 : decode cX12_limit 16 = .ok (.ifCond .ge 12, 3) := by decide +kernel
theorem dX12_limit_19 : decode cX12_limit 19 = .ok (.aload_n 0, 1) := by decide +kernel
theorem dX12_limit_20 : decode cX12_limit 20 = .ok (.getfield 115, 3) := by decide +kernel
theorem dX12_limit_23 : decode cX12_limit 23 = .ok (.iload_n 1, 1) := by decide +kernel
theorem dX12_limit_24 : decode cX12_limit 24 = .ok (.laload, 1) := by decide +kernel
theorem dX12_limit_25 : decode cX12_limit 25 = .ok (.goto 11, 3) := by decide +kernel
theorem dX12_limit_28 : decode cX12_limit 28 = .ok (.aload_n 0, 1) := by decide +kernel
theorem dX12_limit_29 : decode cX12_limit 29 = .ok (.getfield 88, 3) := by decide +kernel
theorem dX12_limit_32 : decode cX12_limit 32 = .ok (.bipush 73, 2) := by decide +kernel
theorem dX12_limit_34 : decode cX12_limit 34 = .ok (.iaload, 1) := by decide +kernel
theorem dX12_limit_35 : decode cX12_limit 35 = .ok (.i2l, 1) := by decide +kernel
theorem dX12_limit_36 : decode cX12_limit 36 = .ok (.ladd, 1) := by decide +kernel
theorem dX12_limit_37 : decode cX12_limit 37 = .ok (.lreturn, 1) := by decide +kernel
theorem dX12_firstLetter_0 : decode cX12_firstLetter 0 = .ok (.lload_n 0, 1) := by decide +kernel
theorem dX12_firstLetter_1 : decode cX12_firstLetter 1 = .ok (.lstore_n 2, 1) := by decide +kernel
theorem dX12_firstLetter_2 : decode cX12_firstLetter 2 = .ok (.lload_n 2, 1) := by decide +kernel
theorem dX12_firstLetter_3 : decode cX12_firstLetter 3 = .ok (.ldc2_w 382, 3) := by decide +kernel
theorem dX12_firstLetter_6 : decode cX12_firstLetter 6 = .ok (.lcmp, 1) := by decide +kernel
theorem dX12_firstLetter_7 : decode cX12_firstLetter 7 = .ok (.ifCond .lt 10, 3) := by decide +kernel
theorem dX12_firstLetter_10 : decode cX12_firstLetter 10 = .ok (.lload_n 2, 1) := by decide +kernel
theorem dX12_firstLetter_11 : decode cX12_firstLetter 11 = .ok (.iconst 5, 1) := by decide +kernel
theorem dX12_firstLetter_12 : decode cX12_firstLetter 12 = .ok (.lshr, 1) := by decide +kernel
theorem dX12_firstLetter_13 : decode cX12_firstLetter 13 = .ok (.lstore_n 2, 1) := by decide +kernel
theorem dX12_firstLetter_14 : decode cX12_firstLetter 14 = .ok (.goto (-12), 3) := by decide +kernel
theorem dX12_firstLetter_17 : decode cX12_firstLetter 17 = .ok (.lload_n 2, 1) := by decide +kernel
theorem dX12_firstLetter_18 : decode cX12_firstLetter 18 = .ok (.l2i, 1) := by decide +kernel
theorem dX12_firstLetter_19 : decode cX12_firstLetter 19 = .ok (.iconst 1, 1) := by decide +kernel
theorem dX12_firstLetter_20 : decode cX12_firstLetter 20 = .ok (.isub, 1) := by decide +kernel
theorem dX12_firstLetter_21 : decode cX12_firstLetter 21 = .ok (.ireturn, 1) := by decide +kernel
theorem dX12_keeps_0 : decode cX12_keeps 0 = .ok (.aload_n 0, 1) := by decide +kernel
theorem dX12_keeps_1 : decode cX12_keeps 1 = .ok (.getfield 308, 3) := by decide +kernel
theorem dX12_keeps_4 : decode cX12_keeps 4 = .ok (.bipush 16, 2) := by decide +kernel
theorem dX12_keeps_6 : decode cX12_keeps 6 = .ok (.if_icmp .ne 43, 3) := by decide +kernel
theorem dX12_keeps_9 : decode cX12_keeps 9 = .ok (.iconst 0, 1) := by decide +kernel
theorem dX12_keeps_10 : decode cX12_keeps 10 = .ok (.istore_n 1, 1) := by decide +kernel
theorem dX12_keeps_11 : decode cX12_keeps 11 = .ok (.iload_n 1, 1) := by decide +kernel
theorem dX12_keeps_12 : decode cX12_keeps 12 = .ok (.sipush 1665, 3) := by decide +kernel
theorem dX12_keeps_15 : decode cX12_keeps 15 = .ok (.if_icmp .ge 24, 3) := by decide +kernel
theorem dX12_keeps_18 : decode cX12_keeps 18 = .ok (.aload_n 0, 1) := by decide +kernel
theorem dX12_keeps_19 : decode cX12_keeps 19 = .ok (.getfield 91, 3) := by decide +kernel
theorem dX12_keeps_22 : decode cX12_keeps 22 = .ok (.iload_n 1, 1) := by decide +kernel
theorem dX12_keeps_23 : decode cX12_keeps 23 = .ok (.aload_n 0, 1) := by decide +kernel
theorem dX12_keeps_24 : decode cX12_keeps 24 = .ok (.getfield 91, 3) := by decide +kernel
theorem dX12_keeps_27 : decode cX12_keeps 27 = .ok (.iload_n 1, 1) := by decide +kernel
theorem dX12_keeps_28 : decode cX12_keeps 28 = .ok (.bipush 111, 2) := by decide +kernel
theorem dX12_keeps_30 : decode cX12_keeps 30 = .ok (.iadd, 1) := by decide +kernel
theorem dX12_keeps_31 : decode cX12_keeps 31 = .ok (.iaload, 1) := by decide +kernel
theorem dX12_keeps_32 : decode cX12_keeps 32 = .ok (.iastore, 1) := by decide +kernel
theorem dX12_keeps_33 : decode cX12_keeps 33 = .ok (.iinc 1 1, 3) := by decide +kernel
theorem dX12_keeps_36 : decode cX12_keeps 36 = .ok (.goto (-25), 3) := by decide +kernel
theorem dX12_keeps_39 : decode cX12_keeps 39 = .ok (.aload_n 0, 1) := by decide +kernel
theorem dX12_keeps_40 : decode cX12_keeps 40 = .ok (.dup, 1) := by decide +kernel
theorem dX12_keeps_41 : decode cX12_keeps 41 = .ok (.getfield 308, 3) := by decide +kernel
theorem dX12_keeps_44 : decode cX12_keeps 44 = .ok (.iconst 1, 1) := by decide +kernel
theorem dX12_keeps_45 : decode cX12_keeps 45 = .ok (.isub, 1) := by decide +kernel
theorem dX12_keeps_46 : decode cX12_keeps 46 = .ok (.putfield 308, 3) := by decide +kernel
theorem dX12_keeps_49 : decode cX12_keeps 49 = .ok (.iconst 0, 1) := by decide +kernel
theorem dX12_keeps_50 : decode cX12_keeps 50 = .ok (.istore_n 1, 1) := by decide +kernel
theorem dX12_keeps_51 : decode cX12_keeps 51 = .ok (.iload_n 1, 1) := by decide +kernel
theorem dX12_keeps_52 : decode cX12_keeps 52 = .ok (.bipush 111, 2) := by decide +kernel
theorem dX12_keeps_54 : decode cX12_keeps 54 = .ok (.if_icmp .ge 29, 3) := by decide +kernel
theorem dX12_keeps_57 : decode cX12_keeps 57 = .ok (.aload_n 0, 1) := by decide +kernel
theorem dX12_keeps_58 : decode cX12_keeps 58 = .ok (.getfield 91, 3) := by decide +kernel
theorem dX12_keeps_61 : decode cX12_keeps 61 = .ok (.bipush 111, 2) := by decide +kernel
theorem dX12_keeps_63 : decode cX12_keeps 63 = .ok (.aload_n 0, 1) := by decide +kernel
theorem dX12_keeps_64 : decode cX12_keeps 64 = .ok (.getfield 308, 3) := by decide +kernel
theorem dX12_keeps_67 : decode cX12_keeps 67 = .ok (.imul, 1) := by decide +kernel
theorem dX12_keeps_68 : decode cX12_keeps 68 = .ok (.iload_n 1, 1) := by decide +kernel
theorem dX12_keeps_69 : decode cX12_keeps 69 = .ok (.iadd, 1) := by decide +kernel
theorem dX12_keeps_70 : decode cX12_keeps 70 = .ok (.aload_n 0, 1) := by decide +kernel
theorem dX12_keeps_71 : decode cX12_keeps 71 = .ok (.getfield 88, 3) := by decide +kernel
theorem dX12_keeps_74 : decode cX12_keeps 74 = .ok (.iload_n 1, 1) := by decide +kernel
theorem dX12_keeps_75 : decode cX12_keeps 75 = .ok (.iaload, 1) := by decide +kernel
theorem dX12_keeps_76 : decode cX12_keeps 76 = .ok (.iastore, 1) := by decide +kernel
theorem dX12_keeps_77 : decode cX12_keeps 77 = .ok (.iinc 1 1, 3) := by decide +kernel
theorem dX12_keeps_80 : decode cX12_keeps 80 = .ok (.goto (-29), 3) := by decide +kernel
theorem dX12_keeps_83 : decode cX12_keeps 83 = .ok (.aload_n 0, 1) := by decide +kernel
theorem dX12_keeps_84 : decode cX12_keeps 84 = .ok (.dup, 1) := by decide +kernel
theorem dX12_keeps_85 : decode cX12_keeps 85 = .ok (.getfield 308, 3) := by decide +kernel
theorem dX12_keeps_88 : decode cX12_keeps 88 = .ok (.iconst 1, 1) := by decide +kernel
theorem dX12_keeps_89 : decode cX12_keeps 89 = .ok (.iadd, 1) := by decide +kernel
theorem dX12_keeps_90 : decode cX12_keeps 90 = .ok (.putfield 308, 3) := by decide +kernel
theorem dX12_keeps_93 : decode cX12_keeps 93 = .ok (.return_, 1) := by decide +kernel
theorem dX12_undo_0 : decode cX12_undo 0 = .ok (.aload_n 0, 1) := by decide +kernel
theorem dX12_undo_1 : decode cX12_undo 1 = .ok (.iconst 0, 1) := by decide +kernel
theorem dX12_undo_2 : decode cX12_undo 2 = .ok (.putfield 123, 3) := by decide +kernel
theorem dX12_undo_5 : decode cX12_undo 5 = .ok (.aload_n 0, 1) := by decide +kernel
theorem dX12_undo_6 : decode cX12_undo 6 = .ok (.getfield 308, 3) := by decide +kernel
theorem dX12_undo_9 : decode cX12_undo 9 = .ok (.ifCond .ne 5, 3) := by decide +kernel
theorem dX12_undo_12 : decode cX12_undo 12 = .ok (.iconst (-1), 1) := by decide +kernel
theorem dX12_undo_13 : decode cX12_undo 13 = .ok (.ireturn, 1) := by decide +kernel
theorem dX12_undo_14 : decode cX12_undo 14 = .ok (.aload_n 0, 1) := by decide +kernel
theorem dX12_undo_15 : decode cX12_undo 15 = .ok (.dup, 1) := by decide +kernel
theorem dX12_undo_16 : decode cX12_undo 16 = .ok (.getfield 308, 3) := by decide +kernel
theorem dX12_undo_19 : decode cX12_undo 19 = .ok (.iconst 1, 1) := by decide +kernel
theorem dX12_undo_20 : decode cX12_undo 20 = .ok (.isub, 1) := by decide +kernel
theorem dX12_undo_21 : decode cX12_undo 21 = .ok (.putfield 308, 3) := by decide +kernel
theorem dX12_undo_24 : decode cX12_undo 24 = .ok (.iconst 0, 1) := by decide +kernel
theorem dX12_undo_25 : decode cX12_undo 25 = .ok (.istore_n 1, 1) := by decide +kernel
theorem dX12_undo_26 : decode cX12_undo 26 = .ok (.iload_n 1, 1) := by decide +kernel
theorem dX12_undo_27 : decode cX12_undo 27 = .ok (.bipush 111, 2) := by decide +kernel
theorem dX12_undo_29 : decode cX12_undo 29 = .ok (.if_icmp .ge 29, 3) := by decide +kernel
theorem dX12_undo_32 : decode cX12_undo 32 = .ok (.aload_n 0, 1) := by decide +kernel
theorem dX12_undo_33 : decode cX12_undo 33 = .ok (.getfield 88, 3) := by decide +kernel
theorem dX12_undo_36 : decode cX12_undo 36 = .ok (.iload_n 1, 1) := by decide +kernel
theorem dX12_undo_37 : decode cX12_undo 37 = .ok (.aload_n 0, 1) := by decide +kernel
theorem dX12_undo_38 : decode cX12_undo 38 = .ok (.getfield 91, 3) := by decide +kernel
theorem dX12_undo_41 : decode cX12_undo 41 = .ok (.bipush 111, 2) := by decide +kernel
theorem dX12_undo_43 : decode cX12_undo 43 = .ok (.aload_n 0, 1) := by decide +kernel
theorem dX12_undo_44 : decode cX12_undo 44 = .ok (.getfield 308, 3) := by decide +kernel
theorem dX12_undo_47 : decode cX12_undo 47 = .ok (.imul, 1) := by decide +kernel
theorem dX12_undo_48 : decode cX12_undo 48 = .ok (.iload_n 1, 1) := by decide +kernel
theorem dX12_undo_49 : decode cX12_undo 49 = .ok (.iadd, 1) := by decide +kernel
theorem dX12_undo_50 : decode cX12_undo 50 = .ok (.iaload, 1) := by decide +kernel
theorem dX12_undo_51 : decode cX12_undo 51 = .ok (.iastore, 1) := by decide +kernel
theorem dX12_undo_52 : decode cX12_undo 52 = .ok (.iinc 1 1, 3) := by decide +kernel
theorem dX12_undo_55 : decode cX12_undo 55 = .ok (.goto (-29), 3) := by decide +kernel
theorem dX12_undo_58 : decode cX12_undo 58 = .ok (.aload_n 0, 1) := by decide +kernel
theorem dX12_undo_59 : decode cX12_undo 59 = .ok (.getfield 308, 3) := by decide +kernel
theorem dX12_undo_62 : decode cX12_undo 62 = .ok (.ireturn, 1) := by decide +kernel
theorem dX12_count_0 : decode cX12_count 0 = .ok (.aload_n 0, 1) := by decide +kernel
theorem dX12_count_1 : decode cX12_count 1 = .ok (.iconst 0, 1) := by decide +kernel
theorem dX12_count_2 : decode cX12_count 2 = .ok (.putfield 123, 3) := by decide +kernel
theorem dX12_count_5 : decode cX12_count 5 = .ok (.iload_n 1, 1) := by decide +kernel
theorem dX12_count_6 : decode cX12_count 6 = .ok (.tableswitch 147 0 11 #[62, 69, 76, 83, 90, 97, 105, 113, 121, 129, 137, 142], 62) := by decide +kernel
theorem dX12_count_68 : decode cX12_count 68 = .ok (.aload_n 0, 1) := by decide +kernel
theorem dX12_count_69 : decode cX12_count 69 = .ok (.getfield 13, 3) := by decide +kernel
theorem dX12_count_72 : decode cX12_count 72 = .ok (.iconst 0, 1) := by decide +kernel
theorem dX12_count_73 : decode cX12_count 73 = .ok (.iaload, 1) := by decide +kernel
theorem dX12_count_74 : decode cX12_count 74 = .ok (.ireturn, 1) := by decide +kernel
theorem dX12_count_75 : decode cX12_count 75 = .ok (.aload_n 0, 1) := by decide +kernel
theorem dX12_count_76 : decode cX12_count 76 = .ok (.getfield 17, 3) := by decide +kernel
theorem dX12_count_79 : decode cX12_count 79 = .ok (.iconst 0, 1) := by decide +kernel
theorem dX12_count_80 : decode cX12_count 80 = .ok (.iaload, 1) := by decide +kernel
theorem dX12_count_81 : decode cX12_count 81 = .ok (.ireturn, 1) := by decide +kernel
theorem dX12_count_82 : decode cX12_count 82 = .ok (.aload_n 0, 1) := by decide +kernel
theorem dX12_count_83 : decode cX12_count 83 = .ok (.getfield 20, 3) := by decide +kernel
theorem dX12_count_86 : decode cX12_count 86 = .ok (.iconst 0, 1) := by decide +kernel
theorem dX12_count_87 : decode cX12_count 87 = .ok (.iaload, 1) := by decide +kernel
theorem dX12_count_88 : decode cX12_count 88 = .ok (.ireturn, 1) := by decide +kernel
theorem dX12_count_89 : decode cX12_count 89 = .ok (.aload_n 0, 1) := by decide +kernel
theorem dX12_count_90 : decode cX12_count 90 = .ok (.getfield 23, 3) := by decide +kernel
theorem dX12_count_93 : decode cX12_count 93 = .ok (.iconst 0, 1) := by decide +kernel
theorem dX12_count_94 : decode cX12_count 94 = .ok (.iaload, 1) := by decide +kernel
theorem dX12_count_95 : decode cX12_count 95 = .ok (.ireturn, 1) := by decide +kernel
theorem dX12_count_96 : decode cX12_count 96 = .ok (.aload_n 0, 1) := by decide +kernel
theorem dX12_count_97 : decode cX12_count 97 = .ok (.getfield 26, 3) := by decide +kernel
theorem dX12_count_100 : decode cX12_count 100 = .ok (.iconst 0, 1) := by decide +kernel
theorem dX12_count_101 : decode cX12_count 101 = .ok (.iaload, 1) := by decide +kernel
theorem dX12_count_102 : decode cX12_count 102 = .ok (.ireturn, 1) := by decide +kernel
theorem dX12_count_103 : decode cX12_count 103 = .ok (.aload_n 0, 1) := by decide +kernel
theorem dX12_count_104 : decode cX12_count 104 = .ok (.getfield 88, 3) := by decide +kernel
theorem dX12_count_107 : decode cX12_count 107 = .ok (.bipush 71, 2) := by decide +kernel
theorem dX12_count_109 : decode cX12_count 109 = .ok (.iaload, 1) := by decide +kernel
theorem dX12_count_110 : decode cX12_count 110 = .ok (.ireturn, 1) := by decide +kernel
theorem dX12_count_111 : decode cX12_count 111 = .ok (.aload_n 0, 1) := by decide +kernel
theorem dX12_count_112 : decode cX12_count 112 = .ok (.getfield 88, 3) := by decide +kernel
theorem dX12_count_115 : decode cX12_count 115 = .ok (.bipush 72, 2) := by decide +kernel
theorem dX12_count_117 : decode cX12_count 117 = .ok (.iaload, 1) := by decide +kernel
theorem dX12_count_118 : decode cX12_count 118 = .ok (.ireturn, 1) := by decide +kernel
theorem dX12_count_119 : decode cX12_count 119 = .ok (.aload_n 0, 1) := by decide +kernel
theorem dX12_count_120 : decode cX12_count 120 = .ok (.getfield 88, 3) := by decide +kernel
theorem dX12_count_123 : decode cX12_count 123 = .ok (.bipush 73, 2) := by decide +kernel
theorem dX12_count_125 : decode cX12_count 125 = .ok (.iaload, 1) := by decide +kernel
theorem dX12_count_126 : decode cX12_count 126 = .ok (.ireturn, 1) := by decide +kernel
theorem dX12_count_127 : decode cX12_count 127 = .ok (.aload_n 0, 1) := by decide +kernel
theorem dX12_count_128 : decode cX12_count 128 = .ok (.getfield 88, 3) := by decide +kernel
theorem dX12_count_131 : decode cX12_count 131 = .ok (.bipush 70, 2) := by decide +kernel
theorem dX12_count_133 : decode cX12_count 133 = .ok (.iaload, 1) := by decide +kernel
theorem dX12_count_134 : decode cX12_count 134 = .ok (.ireturn, 1) := by decide +kernel
theorem dX12_count_135 : decode cX12_count 135 = .ok (.aload_n 0, 1) := by decide +kernel
theorem dX12_count_136 : decode cX12_count 136 = .ok (.getfield 88, 3) := by decide +kernel
theorem dX12_count_139 : decode cX12_count 139 = .ok (.bipush 110, 2) := by decide +kernel
theorem dX12_count_141 : decode cX12_count 141 = .ok (.iaload, 1) := by decide +kernel
theorem dX12_count_142 : decode cX12_count 142 = .ok (.ireturn, 1) := by decide +kernel
theorem dX12_count_143 : decode cX12_count 143 = .ok (.aload_n 0, 1) := by decide +kernel
theorem dX12_count_144 : decode cX12_count 144 = .ok (.getfield 308, 3) := by decide +kernel
theorem dX12_count_147 : decode cX12_count 147 = .ok (.ireturn, 1) := by decide +kernel
theorem dX12_count_148 : decode cX12_count 148 = .ok (.aload_n 0, 1) := by decide +kernel
theorem dX12_count_149 : decode cX12_count 149 = .ok (.getfield 127, 3) := by decide +kernel
theorem dX12_count_152 : decode cX12_count 152 = .ok (.ireturn, 1) := by decide +kernel
theorem dX12_count_153 : decode cX12_count 153 = .ok (.iconst (-1), 1) := by decide +kernel
theorem dX12_count_154 : decode cX12_count 154 = .ok (.ireturn, 1) := by decide +kernel
theorem dX12_isPerson_0 : decode cX12_isPerson 0 = .ok (.iload_n 1, 1) := by decide +kernel
theorem dX12_isPerson_1 : decode cX12_isPerson 1 = .ok (.i2l, 1) := by decide +kernel
theorem dX12_isPerson_2 : decode cX12_isPerson 2 = .ok (.lconst 0, 1) := by decide +kernel
theorem dX12_isPerson_3 : decode cX12_isPerson 3 = .ok (.aload_n 0, 1) := by decide +kernel
theorem dX12_isPerson_4 : decode cX12_isPerson 4 = .ok (.getfield 13, 3) := by decide +kernel
theorem dX12_isPerson_7 : decode cX12_isPerson 7 = .ok (.iconst 0, 1) := by decide +kernel
theorem dX12_isPerson_8 : decode cX12_isPerson 8 = .ok (.iaload, 1) := by decide +kernel
theorem dX12_isPerson_9 : decode cX12_isPerson 9 = .ok (.iconst 1, 1) := by decide +kernel
theorem dX12_isPerson_10 : decode cX12_isPerson 10 = .ok (.isub, 1) := by decide +kernel
theorem dX12_isPerson_11 : decode cX12_isPerson 11 = .ok (.i2l, 1) := by decide +kernel
theorem dX12_isPerson_12 : decode cX12_isPerson 12 = .ok (.invokestatic 161, 3) := by decide +kernel
theorem dX12_isPerson_15 : decode cX12_isPerson 15 = .ok (.ireturn, 1) := by decide +kernel
theorem dX12_isAccount_0 : decode cX12_isAccount 0 = .ok (.iload_n 1, 1) := by decide +kernel
theorem dX12_isAccount_1 : decode cX12_isAccount 1 = .ok (.i2l, 1) := by decide +kernel
theorem dX12_isAccount_2 : decode cX12_isAccount 2 = .ok (.lconst 0, 1) := by decide +kernel
theorem dX12_isAccount_3 : decode cX12_isAccount 3 = .ok (.aload_n 0, 1) := by decide +kernel
theorem dX12_isAccount_4 : decode cX12_isAccount 4 = .ok (.getfield 20, 3) := by decide +kernel
theorem dX12_isAccount_7 : decode cX12_isAccount 7 = .ok (.iconst 0, 1) := by decide +kernel
theorem dX12_isAccount_8 : decode cX12_isAccount 8 = .ok (.iaload, 1) := by decide +kernel
theorem dX12_isAccount_9 : decode cX12_isAccount 9 = .ok (.iconst 1, 1) := by decide +kernel
theorem dX12_isAccount_10 : decode cX12_isAccount 10 = .ok (.isub, 1) := by decide +kernel
theorem dX12_isAccount_11 : decode cX12_isAccount 11 = .ok (.i2l, 1) := by decide +kernel
theorem dX12_isAccount_12 : decode cX12_isAccount 12 = .ok (.invokestatic 161, 3) := by decide +kernel
theorem dX12_isAccount_15 : decode cX12_isAccount 15 = .ok (.ireturn, 1) := by decide +kernel
theorem dX12_haveMark_0 : decode cX12_haveMark 0 = .ok (.iconst 0, 1) := by decide +kernel
theorem dX12_haveMark_1 : decode cX12_haveMark 1 = .ok (.istore_n 3, 1) := by decide +kernel
theorem dX12_haveMark_2 : decode cX12_haveMark 2 = .ok (.iload_n 3, 1) := by decide +kernel
theorem dX12_haveMark_3 : decode cX12_haveMark 3 = .ok (.aload_n 0, 1) := by decide +kernel
theorem dX12_haveMark_4 : decode cX12_haveMark 4 = .ok (.getfield 33, 3) := by decide +kernel
theorem dX12_haveMark_7 : decode cX12_haveMark 7 = .ok (.iload_n 1, 1) := by decide +kernel
theorem dX12_haveMark_8 : decode cX12_haveMark 8 = .ok (.iaload, 1) := by decide +kernel
theorem dX12_haveMark_9 : decode cX12_haveMark 9 = .ok (.if_icmp .ge 46, 3) := by decide +kernel
theorem dX12_haveMark_12 : decode cX12_haveMark 12 = .ok (.aload_n 0, 1) := by decide +kernel
theorem dX12_haveMark_13 : decode cX12_haveMark 13 = .ok (.iload_n 2, 1) := by decide +kernel
theorem dX12_haveMark_14 : decode cX12_haveMark 14 = .ok (.aload_n 0, 1) := by decide +kernel
theorem dX12_haveMark_15 : decode cX12_haveMark 15 = .ok (.getfield 36, 3) := by decide +kernel
theorem dX12_haveMark_18 : decode cX12_haveMark 18 = .ok (.iconst 3, 1) := by decide +kernel
theorem dX12_haveMark_19 : decode cX12_haveMark 19 = .ok (.iload_n 1, 1) := by decide +kernel
theorem dX12_haveMark_20 : decode cX12_haveMark 20 = .ok (.imul, 1) := by decide +kernel
theorem dX12_haveMark_21 : decode cX12_haveMark 21 = .ok (.iload_n 3, 1) := by decide +kernel
theorem dX12_haveMark_22 : decode cX12_haveMark 22 = .ok (.iadd, 1) := by decide +kernel
theorem dX12_haveMark_23 : decode cX12_haveMark 23 = .ok (.iaload, 1) := by decide +kernel
theorem dX12_haveMark_24 : decode cX12_haveMark 24 = .ok (.invokevirtual 254, 3) := by decide +kernel
theorem dX12_haveMark_27 : decode cX12_haveMark 27 = .ok (.ifCond .eq 22, 3) := by decide +kernel
theorem dX12_haveMark_30 : decode cX12_haveMark 30 = .ok (.aload_n 0, 1) := by decide +kernel
theorem dX12_haveMark_31 : decode cX12_haveMark 31 = .ok (.aload_n 0, 1) := by decide +kernel
theorem dX12_haveMark_32 : decode cX12_haveMark 32 = .ok (.getfield 36, 3) := by decide +kernel
theorem dX12_haveMark_35 : decode cX12_haveMark 35 = .ok (.iconst 3, 1) := by decide +kernel
theorem dX12_haveMark_36 : decode cX12_haveMark 36 = .ok (.iload_n 1, 1) := by decide +kernel
theorem dX12_haveMark_37 : decode cX12_haveMark 37 = .ok (.imul, 1) := by decide +kernel
theorem dX12_haveMark_38 : decode cX12_haveMark 38 = .ok (.iload_n 3, 1) := by decide +kernel
theorem dX12_haveMark_39 : decode cX12_haveMark 39 = .ok (.iadd, 1) := by decide +kernel
theorem dX12_haveMark_40 : decode cX12_haveMark 40 = .ok (.iaload, 1) := by decide +kernel
theorem dX12_haveMark_41 : decode cX12_haveMark 41 = .ok (.invokevirtual 328, 3) := by decide +kernel
theorem dX12_haveMark_44 : decode cX12_haveMark 44 = .ok (.ifCond .ne 5, 3) := by decide +kernel
theorem dX12_haveMark_47 : decode cX12_haveMark 47 = .ok (.iconst 1, 1) := by decide +kernel
theorem dX12_haveMark_48 : decode cX12_haveMark 48 = .ok (.ireturn, 1) := by decide +kernel
theorem dX12_haveMark_49 : decode cX12_haveMark 49 = .ok (.iinc 3 1, 3) := by decide +kernel
theorem dX12_haveMark_52 : decode cX12_haveMark 52 = .ok (.goto (-50), 3) := by decide +kernel
theorem dX12_haveMark_55 : decode cX12_haveMark 55 = .ok (.iconst 0, 1) := by decide +kernel
theorem dX12_haveMark_56 : decode cX12_haveMark 56 = .ok (.ireturn, 1) := by decide +kernel
theorem dX12_net_0 : decode cX12_net 0 = .ok (.aload_n 0, 1) := by decide +kernel
theorem dX12_net_1 : decode cX12_net 1 = .ok (.getfield 109, 3) := by decide +kernel
theorem dX12_net_4 : decode cX12_net 4 = .ok (.iload_n 1, 1) := by decide +kernel
theorem dX12_net_5 : decode cX12_net 5 = .ok (.laload, 1) := by decide +kernel
theorem dX12_net_6 : decode cX12_net 6 = .ok (.aload_n 0, 1) := by decide +kernel
theorem dX12_net_7 : decode cX12_net 7 = .ok (.iload_n 1, 1) := by decide +kernel
theorem dX12_net_8 : decode cX12_net 8 = .ok (.invokevirtual 355, 3) := by decide +kernel
theorem dX12_net_11 : decode cX12_net 11 = .ok (.lsub, 1) := by decide +kernel
theorem dX12_net_12 : decode cX12_net 12 = .ok (.lreturn, 1) := by decide +kernel
theorem dX12_isMark_0 : decode cX12_isMark 0 = .ok (.iconst 0, 1) := by decide +kernel
theorem dX12_isMark_1 : decode cX12_isMark 1 = .ok (.istore_n 2, 1) := by decide +kernel
theorem dX12_isMark_2 : decode cX12_isMark 2 = .ok (.iload_n 2, 1) := by decide +kernel
theorem dX12_isMark_3 : decode cX12_isMark 3 = .ok (.aload_n 0, 1) := by decide +kernel
theorem dX12_isMark_4 : decode cX12_isMark 4 = .ok (.getfield 13, 3) := by decide +kernel
theorem dX12_isMark_7 : decode cX12_isMark 7 = .ok (.iconst 0, 1) := by decide +kernel
theorem dX12_isMark_8 : decode cX12_isMark 8 = .ok (.iaload, 1) := by decide +kernel
theorem dX12_isMark_9 : decode cX12_isMark 9 = .ok (.if_icmp .ge 20, 3) := by decide +kernel
theorem dX12_isMark_12 : decode cX12_isMark 12 = .ok (.aload_n 0, 1) := by decide +kernel
theorem dX12_isMark_13 : decode cX12_isMark 13 = .ok (.iload_n 2, 1) := by decide +kernel
theorem dX12_isMark_14 : decode cX12_isMark 14 = .ok (.iload_n 1, 1) := by decide +kernel
theorem dX12_isMark_15 : decode cX12_isMark 15 = .ok (.invokevirtual 254, 3) := by decide +kernel
theorem dX12_isMark_18 : decode cX12_isMark 18 = .ok (.ifCond .eq 5, 3) := by decide +kernel
theorem dX12_isMark_21 : decode cX12_isMark 21 = .ok (.iconst 1, 1) := by decide +kernel
theorem dX12_isMark_22 : decode cX12_isMark 22 = .ok (.ireturn, 1) := by decide +kernel
theorem dX12_isMark_23 : decode cX12_isMark 23 = .ok (.iinc 2 1, 3) := by decide +kernel
theorem dX12_isMark_26 : decode cX12_isMark 26 = .ok (.goto (-24), 3) := by decide +kernel
theorem dX12_isMark_29 : decode cX12_isMark 29 = .ok (.iconst 0, 1) := by decide +kernel
theorem dX12_isMark_30 : decode cX12_isMark 30 = .ok (.ireturn, 1) := by decide +kernel
theorem dX12_marks_0 : decode cX12_marks 0 = .ok (.aload_n 0, 1) := by decide +kernel
theorem dX12_marks_1 : decode cX12_marks 1 = .ok (.iload_n 1, 1) := by decide +kernel
theorem dX12_marks_2 : decode cX12_marks 2 = .ok (.invokevirtual 328, 3) := by decide +kernel
theorem dX12_marks_5 : decode cX12_marks 5 = .ok (.iload_n 2, 1) := by decide +kernel
theorem dX12_marks_6 : decode cX12_marks 6 = .ok (.if_icmp .ne 4, 3) := by decide +kernel
theorem dX12_marks_9 : decode cX12_marks 9 = .ok (.return_, 1) := by decide +kernel
theorem dX12_marks_10 : decode cX12_marks 10 = .ok (.iload_n 2, 1) := by decide +kernel
theorem dX12_marks_11 : decode cX12_marks 11 = .ok (.ifCond .eq 31, 3) := by decide +kernel
theorem dX12_marks_14 : decode cX12_marks 14 = .ok (.aload_n 0, 1) := by decide +kernel
theorem dX12_marks_15 : decode cX12_marks 15 = .ok (.getfield 88, 3) := by decide +kernel
theorem dX12_marks_18 : decode cX12_marks 18 = .ok (.bipush 74, 2) := by decide +kernel
theorem dX12_marks_20 : decode cX12_marks 20 = .ok (.aload_n 0, 1) := by decide +kernel
theorem dX12_marks_21 : decode cX12_marks 21 = .ok (.getfield 88, 3) := by decide +kernel
theorem dX12_marks_24 : decode cX12_marks 24 = .ok (.bipush 110, 2) := by decide +kernel
theorem dX12_marks_26 : decode cX12_marks 26 = .ok (.iaload, 1) := by decide +kernel
theorem dX12_marks_27 : decode cX12_marks 27 = .ok (.iadd, 1) := by decide +kernel
theorem dX12_marks_28 : decode cX12_marks 28 = .ok (.iload_n 1, 1) := by decide +kernel
theorem dX12_marks_29 : decode cX12_marks 29 = .ok (.iastore, 1) := by decide +kernel
theorem dX12_marks_30 : decode cX12_marks 30 = .ok (.aload_n 0, 1) := by decide +kernel
theorem dX12_marks_31 : decode cX12_marks 31 = .ok (.getfield 88, 3) := by decide +kernel
theorem dX12_marks_34 : decode cX12_marks 34 = .ok (.bipush 110, 2) := by decide +kernel
theorem dX12_marks_36 : decode cX12_marks 36 = .ok (.dup2, 1) := by decide +kernel
theorem dX12_marks_37 : decode cX12_marks 37 = .ok (.iaload, 1) := by decide +kernel
theorem dX12_marks_38 : decode cX12_marks 38 = .ok (.iconst 1, 1) := by decide +kernel
theorem dX12_marks_39 : decode cX12_marks 39 = .ok (.iadd, 1) := by decide +kernel
theorem dX12_marks_40 : decode cX12_marks 40 = .ok (.iastore, 1) := by decide +kernel
theorem dX12_marks_41 : decode cX12_marks 41 = .ok (.return_, 1) := by decide +kernel
theorem dX12_marks_42 : decode cX12_marks 42 = .ok (.iconst 0, 1) := by decide +kernel
theorem dX12_marks_43 : decode cX12_marks 43 = .ok (.istore_n 3, 1) := by decide +kernel
theorem dX12_marks_44 : decode cX12_marks 44 = .ok (.aload_n 0, 1) := by decide +kernel
theorem dX12_marks_45 : decode cX12_marks 45 = .ok (.getfield 88, 3) := by decide +kernel
theorem dX12_marks_48 : decode cX12_marks 48 = .ok (.bipush 74, 2) := by decide +kernel
theorem dX12_marks_50 : decode cX12_marks 50 = .ok (.iload_n 3, 1) := by decide +kernel
theorem dX12_marks_51 : decode cX12_marks 51 = .ok (.iadd, 1) := by decide +kernel
theorem dX12_marks_52 : decode cX12_marks 52 = .ok (.iaload, 1) := by decide +kernel
theorem dX12_marks_53 : decode cX12_marks 53 = .ok (.iload_n 1, 1) := by decide +kernel
theorem dX12_marks_54 : decode cX12_marks 54 = .ok (.if_icmp .eq 9, 3) := by decide +kernel
theorem dX12_marks_57 : decode cX12_marks 57 = .ok (.iinc 3 1, 3) := by decide +kernel
theorem dX12_marks_60 : decode cX12_marks 60 = .ok (.goto (-16), 3) := by decide +kernel
theorem dX12_marks_63 : decode cX12_marks 63 = .ok (.aload_n 0, 1) := by decide +kernel
theorem dX12_marks_64 : decode cX12_marks 64 = .ok (.getfield 88, 3) := by decide +kernel
theorem dX12_marks_67 : decode cX12_marks 67 = .ok (.bipush 110, 2) := by decide +kernel
theorem dX12_marks_69 : decode cX12_marks 69 = .ok (.dup2, 1) := by decide +kernel
theorem dX12_marks_70 : decode cX12_marks 70 = .ok (.iaload, 1) := by decide +kernel
theorem dX12_marks_71 : decode cX12_marks 71 = .ok (.iconst 1, 1) := by decide +kernel
theorem dX12_marks_72 : decode cX12_marks 72 = .ok (.isub, 1) := by decide +kernel
theorem dX12_marks_73 : decode cX12_marks 73 = .ok (.iastore, 1) := by decide +kernel
theorem dX12_marks_74 : decode cX12_marks 74 = .ok (.iload_n 3, 1) := by decide +kernel
theorem dX12_marks_75 : decode cX12_marks 75 = .ok (.istore 4, 2) := by decide +kernel
theorem dX12_marks_77 : decode cX12_marks 77 = .ok (.iload 4, 2) := by decide +kernel
theorem dX12_marks_79 : decode cX12_marks 79 = .ok (.aload_n 0, 1) := by decide +kernel
theorem dX12_marks_80 : decode cX12_marks 80 = .ok (.getfield 88, 3) := by decide +kernel
theorem dX12_marks_83 : decode cX12_marks 83 = .ok (.bipush 110, 2) := by decide +kernel
theorem dX12_marks_85 : decode cX12_marks 85 = .ok (.iaload, 1) := by decide +kernel
theorem dX12_marks_86 : decode cX12_marks 86 = .ok (.if_icmp .ge 31, 3) := by decide +kernel
theorem dX12_marks_89 : decode cX12_marks 89 = .ok (.aload_n 0, 1) := by decide +kernel
theorem dX12_marks_90 : decode cX12_marks 90 = .ok (.getfield 88, 3) := by decide +kernel
theorem dX12_marks_93 : decode cX12_marks 93 = .ok (.bipush 74, 2) := by decide +kernel
theorem dX12_marks_95 : decode cX12_marks 95 = .ok (.iload 4, 2) := by decide +kernel
theorem dX12_marks_97 : decode cX12_marks 97 = .ok (.iadd, 1) := by decide +kernel
theorem dX12_marks_98 : decode cX12_marks 98 = .ok (.aload_n 0, 1) := by decide +kernel
theorem dX12_marks_99 : decode cX12_marks 99 = .ok (.getfield 88, 3) := by decide +kernel
theorem dX12_marks_102 : decode cX12_marks 102 = .ok (.bipush 74, 2) := by decide +kernel
theorem dX12_marks_104 : decode cX12_marks 104 = .ok (.iload 4, 2) := by decide +kernel
theorem dX12_marks_106 : decode cX12_marks 106 = .ok (.iadd, 1) := by decide +kernel
theorem dX12_marks_107 : decode cX12_marks 107 = .ok (.iconst 1, 1) := by decide +kernel
theorem dX12_marks_108 : decode cX12_marks 108 = .ok (.iadd, 1) := by decide +kernel
theorem dX12_marks_109 : decode cX12_marks 109 = .ok (.iaload, 1) := by decide +kernel
theorem dX12_marks_110 : decode cX12_marks 110 = .ok (.iastore, 1) := by decide +kernel
theorem dX12_marks_111 : decode cX12_marks 111 = .ok (.iinc 4 1, 3) := by decide +kernel
theorem dX12_marks_114 : decode cX12_marks 114 = .ok (.goto (-37), 3) := by decide +kernel
theorem dX12_marks_117 : decode cX12_marks 117 = .ok (.return_, 1) := by decide +kernel
theorem dX12_tell_0 : decode cX12_tell 0 = .ok (.aload_n 0, 1) := by decide +kernel
theorem dX12_tell_1 : decode cX12_tell 1 = .ok (.iconst 0, 1) := by decide +kernel
theorem dX12_tell_2 : decode cX12_tell 2 = .ok (.putfield 123, 3) := by decide +kernel
theorem dX12_tell_5 : decode cX12_tell 5 = .ok (.aload_n 0, 1) := by decide +kernel
theorem dX12_tell_6 : decode cX12_tell 6 = .ok (.getfield 304, 3) := by decide +kernel
theorem dX12_tell_9 : decode cX12_tell 9 = .ok (.ifCond .eq 37, 3) := by decide +kernel
theorem dX12_tell_12 : decode cX12_tell 12 = .ok (.iload_n 1, 1) := by decide +kernel
theorem dX12_tell_13 : decode cX12_tell 13 = .ok (.i2l, 1) := by decide +kernel
theorem dX12_tell_14 : decode cX12_tell 14 = .ok (.lconst 0, 1) := by decide +kernel
theorem dX12_tell_15 : decode cX12_tell 15 = .ok (.ldc2_w 415, 3) := by decide +kernel
theorem dX12_tell_18 : decode cX12_tell 18 = .ok (.invokestatic 161, 3) := by decide +kernel
theorem dX12_tell_21 : decode cX12_tell 21 = .ok (.ifCond .eq 25, 3) := by decide +kernel
theorem dX12_tell_24 : decode cX12_tell 24 = .ok (.iload_n 2, 1) := by decide +kernel
theorem dX12_tell_25 : decode cX12_tell 25 = .ok (.i2l, 1) := by decide +kernel
theorem dX12_tell_26 : decode cX12_tell 26 = .ok (.lconst 0, 1) := by decide +kernel
theorem dX12_tell_27 : decode cX12_tell 27 = .ok (.iload_n 1, 1) := by decide +kernel
theorem dX12_tell_28 : decode cX12_tell 28 = .ok (.ifCond .ne 9, 3) := by decide +kernel
theorem dX12_tell_31 : decode cX12_tell 31 = .ok (.ldc2_w 420, 3) := by decide +kernel
theorem dX12_tell_34 : decode cX12_tell 34 = .ok (.goto 6, 3) := by decide +kernel
theorem dX12_tell_37 : decode cX12_tell 37 = .ok (.ldc2_w 440, 3) := by decide +kernel
theorem dX12_tell_40 : decode cX12_tell 40 = .ok (.invokestatic 161, 3) := by decide +kernel
theorem dX12_tell_43 : decode cX12_tell 43 = .ok (.ifCond .ne 5, 3) := by decide +kernel
theorem dX12_tell_46 : decode cX12_tell 46 = .ok (.iconst (-1), 1) := by decide +kernel
theorem dX12_tell_47 : decode cX12_tell 47 = .ok (.ireturn, 1) := by decide +kernel
theorem dX12_tell_48 : decode cX12_tell 48 = .ok (.aload_n 0, 1) := by decide +kernel
theorem dX12_tell_49 : decode cX12_tell 49 = .ok (.invokevirtual 442, 3) := by decide +kernel
theorem dX12_tell_52 : decode cX12_tell 52 = .ok (.aload_n 0, 1) := by decide +kernel
theorem dX12_tell_53 : decode cX12_tell 53 = .ok (.getfield 88, 3) := by decide +kernel
theorem dX12_tell_56 : decode cX12_tell 56 = .ok (.bipush 71, 2) := by decide +kernel
theorem dX12_tell_58 : decode cX12_tell 58 = .ok (.iload_n 1, 1) := by decide +kernel
theorem dX12_tell_59 : decode cX12_tell 59 = .ok (.iadd, 1) := by decide +kernel
theorem dX12_tell_60 : decode cX12_tell 60 = .ok (.iaload, 1) := by decide +kernel
theorem dX12_tell_61 : decode cX12_tell 61 = .ok (.istore_n 3, 1) := by decide +kernel
theorem dX12_tell_62 : decode cX12_tell 62 = .ok (.aload_n 0, 1) := by decide +kernel
theorem dX12_tell_63 : decode cX12_tell 63 = .ok (.getfield 88, 3) := by decide +kernel
theorem dX12_tell_66 : decode cX12_tell 66 = .ok (.bipush 71, 2) := by decide +kernel
theorem dX12_tell_68 : decode cX12_tell 68 = .ok (.iload_n 1, 1) := by decide +kernel
theorem dX12_tell_69 : decode cX12_tell 69 = .ok (.iadd, 1) := by decide +kernel
theorem dX12_tell_70 : decode cX12_tell 70 = .ok (.iload_n 2, 1) := by decide +kernel
theorem dX12_tell_71 : decode cX12_tell 71 = .ok (.iastore, 1) := by decide +kernel
theorem dX12_tell_72 : decode cX12_tell 72 = .ok (.iload_n 3, 1) := by decide +kernel
theorem dX12_tell_73 : decode cX12_tell 73 = .ok (.ireturn, 1) := by decide +kernel
theorem dX12_keep_0 : decode cX12_keep 0 = .ok (.aload_n 0, 1) := by decide +kernel
theorem dX12_keep_1 : decode cX12_keep 1 = .ok (.iconst 0, 1) := by decide +kernel
theorem dX12_keep_2 : decode cX12_keep 2 = .ok (.putfield 123, 3) := by decide +kernel
theorem dX12_keep_5 : decode cX12_keep 5 = .ok (.aload_n 0, 1) := by decide +kernel
theorem dX12_keep_6 : decode cX12_keep 6 = .ok (.getfield 304, 3) := by decide +kernel
theorem dX12_keep_9 : decode cX12_keep 9 = .ok (.ifCond .eq 28, 3) := by decide +kernel
theorem dX12_keep_12 : decode cX12_keep 12 = .ok (.iload_n 1, 1) := by decide +kernel
theorem dX12_keep_13 : decode cX12_keep 13 = .ok (.i2l, 1) := by decide +kernel
theorem dX12_keep_14 : decode cX12_keep 14 = .ok (.lconst 0, 1) := by decide +kernel
theorem dX12_keep_15 : decode cX12_keep 15 = .ok (.ldc2_w 415, 3) := by decide +kernel
theorem dX12_keep_18 : decode cX12_keep 18 = .ok (.invokestatic 161, 3) := by decide +kernel
theorem dX12_keep_21 : decode cX12_keep 21 = .ok (.ifCond .eq 16, 3) := by decide +kernel
theorem dX12_keep_24 : decode cX12_keep 24 = .ok (.iload_n 2, 1) := by decide +kernel
theorem dX12_keep_25 : decode cX12_keep 25 = .ok (.ifCond .eq 14, 3) := by decide +kernel
theorem dX12_keep_28 : decode cX12_keep 28 = .ok (.aload_n 0, 1) := by decide +kernel
theorem dX12_keep_29 : decode cX12_keep 29 = .ok (.getfield 97, 3) := by decide +kernel
theorem dX12_keep_32 : decode cX12_keep 32 = .ok (.iload_n 1, 1) := by decide +kernel
theorem dX12_keep_33 : decode cX12_keep 33 = .ok (.baload, 1) := by decide +kernel
theorem dX12_keep_34 : decode cX12_keep 34 = .ok (.ifCond .ne 5, 3) := by decide +kernel
theorem dX12_keep_37 : decode cX12_keep 37 = .ok (.iconst 0, 1) := by decide +kernel
theorem dX12_keep_38 : decode cX12_keep 38 = .ok (.ireturn, 1) := by decide +kernel
theorem dX12_keep_39 : decode cX12_keep 39 = .ok (.iload_n 2, 1) := by decide +kernel
theorem dX12_keep_40 : decode cX12_keep 40 = .ok (.ifCond .eq 41, 3) := by decide +kernel
theorem dX12_keep_43 : decode cX12_keep 43 = .ok (.iconst 0, 1) := by decide +kernel
theorem dX12_keep_44 : decode cX12_keep 44 = .ok (.istore_n 3, 1) := by decide +kernel
theorem dX12_keep_45 : decode cX12_keep 45 = .ok (.iload_n 3, 1) := by decide +kernel
theorem dX12_keep_46 : decode cX12_keep 46 = .ok (.bipush 111, 2) := by decide +kernel
theorem dX12_keep_48 : decode cX12_keep 48 = .ok (.if_icmp .ge 26, 3) := by decide +kernel
theorem dX12_keep_51 : decode cX12_keep 51 = .ok (.aload_n 0, 1) := by decide +kernel
theorem dX12_keep_52 : decode cX12_keep 52 = .ok (.getfield 88, 3) := by decide +kernel
theorem dX12_keep_55 : decode cX12_keep 55 = .ok (.iload_n 3, 1) := by decide +kernel
theorem dX12_keep_56 : decode cX12_keep 56 = .ok (.aload_n 0, 1) := by decide +kernel
theorem dX12_keep_57 : decode cX12_keep 57 = .ok (.getfield 94, 3) := by decide +kernel
theorem dX12_keep_60 : decode cX12_keep 60 = .ok (.bipush 111, 2) := by decide +kernel
theorem dX12_keep_62 : decode cX12_keep 62 = .ok (.iload_n 1, 1) := by decide +kernel
theorem dX12_keep_63 : decode cX12_keep 63 = .ok (.imul, 1) := by decide +kernel
theorem dX12_keep_64 : decode cX12_keep 64 = .ok (.iload_n 3, 1) := by decide +kernel
theorem dX12_keep_65 : decode cX12_keep 65 = .ok (.iadd, 1) := by decide +kernel
theorem dX12_keep_66 : decode cX12_keep 66 = .ok (.iaload, 1) := by decide +kernel
theorem dX12_keep_67 : decode cX12_keep 67 = .ok (.iastore, 1) := by decide +kernel
theorem dX12_keep_68 : decode cX12_keep 68 = .ok (.iinc 3 1, 3) := by decide +kernel
theorem dX12_keep_71 : decode cX12_keep 71 = .ok (.goto (-26), 3) := by decide +kernel
theorem dX12_keep_74 : decode cX12_keep 74 = .ok (.aload_n 0, 1) := by decide +kernel
theorem dX12_keep_75 : decode cX12_keep 75 = .ok (.iconst 0, 1) := by decide +kernel
theorem dX12_keep_76 : decode cX12_keep 76 = .ok (.putfield 308, 3) := by decide +kernel
theorem dX12_keep_79 : decode cX12_keep 79 = .ok (.iconst 1, 1) := by decide +kernel
theorem dX12_keep_80 : decode cX12_keep 80 = .ok (.ireturn, 1) := by decide +kernel
theorem dX12_keep_81 : decode cX12_keep 81 = .ok (.iconst 0, 1) := by decide +kernel
theorem dX12_keep_82 : decode cX12_keep 82 = .ok (.istore_n 3, 1) := by decide +kernel
theorem dX12_keep_83 : decode cX12_keep 83 = .ok (.iload_n 3, 1) := by decide +kernel
theorem dX12_keep_84 : decode cX12_keep 84 = .ok (.bipush 111, 2) := by decide +kernel
theorem dX12_keep_86 : decode cX12_keep 86 = .ok (.if_icmp .ge 26, 3) := by decide +kernel
theorem dX12_keep_89 : decode cX12_keep 89 = .ok (.aload_n 0, 1) := by decide +kernel
theorem dX12_keep_90 : decode cX12_keep 90 = .ok (.getfield 94, 3) := by decide +kernel
theorem dX12_keep_93 : decode cX12_keep 93 = .ok (.bipush 111, 2) := by decide +kernel
theorem dX12_keep_95 : decode cX12_keep 95 = .ok (.iload_n 1, 1) := by decide +kernel
theorem dX12_keep_96 : decode cX12_keep 96 = .ok (.imul, 1) := by decide +kernel
theorem dX12_keep_97 : decode cX12_keep 97 = .ok (.iload_n 3, 1) := by decide +kernel
theorem dX12_keep_98 : decode cX12_keep 98 = .ok (.iadd, 1) := by decide +kernel
theorem dX12_keep_99 : decode cX12_keep 99 = .ok (.aload_n 0, 1) := by decide +kernel
theorem dX12_keep_100 : decode cX12_keep 100 = .ok (.getfield 88, 3) := by decide +kernel
theorem dX12_keep_103 : decode cX12_keep 103 = .ok (.iload_n 3, 1) := by decide +kernel
theorem dX12_keep_104 : decode cX12_keep 104 = .ok (.iaload, 1) := by decide +kernel
theorem dX12_keep_105 : decode cX12_keep 105 = .ok (.iastore, 1) := by decide +kernel
theorem dX12_keep_106 : decode cX12_keep 106 = .ok (.iinc 3 1, 3) := by decide +kernel
theorem dX12_keep_109 : decode cX12_keep 109 = .ok (.goto (-26), 3) := by decide +kernel
theorem dX12_keep_112 : decode cX12_keep 112 = .ok (.aload_n 0, 1) := by decide +kernel
theorem dX12_keep_113 : decode cX12_keep 113 = .ok (.getfield 97, 3) := by decide +kernel
theorem dX12_keep_116 : decode cX12_keep 116 = .ok (.iload_n 1, 1) := by decide +kernel
theorem dX12_keep_117 : decode cX12_keep 117 = .ok (.iconst 1, 1) := by decide +kernel
theorem dX12_keep_118 : decode cX12_keep 118 = .ok (.bastore, 1) := by decide +kernel
theorem dX12_keep_119 : decode cX12_keep 119 = .ok (.iconst 1, 1) := by decide +kernel
theorem dX12_keep_120 : decode cX12_keep 120 = .ok (.ireturn, 1) := by decide +kernel
theorem dX12_areBeside_0 : decode cX12_areBeside 0 = .ok (.iload_n 1, 1) := by decide +kernel
theorem dX12_areBeside_1 : decode cX12_areBeside 1 = .ok (.iload_n 2, 1) := by decide +kernel
theorem dX12_areBeside_2 : decode cX12_areBeside 2 = .ok (.if_icmp .eq 25, 3) := by decide +kernel
theorem dX12_areBeside_5 : decode cX12_areBeside 5 = .ok (.aload_n 0, 1) := by decide +kernel
theorem dX12_areBeside_6 : decode cX12_areBeside 6 = .ok (.iload_n 1, 1) := by decide +kernel
theorem dX12_areBeside_7 : decode cX12_areBeside 7 = .ok (.iload_n 2, 1) := by decide +kernel
theorem dX12_areBeside_8 : decode cX12_areBeside 8 = .ok (.invokevirtual 331, 3) := by decide +kernel
theorem dX12_areBeside_11 : decode cX12_areBeside 11 = .ok (.ifCond .ne 12, 3) := by decide +kernel
theorem dX12_areBeside_14 : decode cX12_areBeside 14 = .ok (.aload_n 0, 1) := by decide +kernel
theorem dX12_areBeside_15 : decode cX12_areBeside 15 = .ok (.iload_n 1, 1) := by decide +kernel
theorem dX12_areBeside_16 : decode cX12_areBeside 16 = .ok (.iload_n 2, 1) := by decide +kernel
theorem dX12_areBeside_17 : decode cX12_areBeside 17 = .ok (.invokevirtual 334, 3) := by decide +kernel
theorem dX12_areBeside_20 : decode cX12_areBeside 20 = .ok (.ifCond .eq 7, 3) := by decide +kernel
theorem dX12_areBeside_23 : decode cX12_areBeside 23 = .ok (.iconst 1, 1) := by decide +kernel
theorem dX12_areBeside_24 : decode cX12_areBeside 24 = .ok (.goto 4, 3) := by decide +kernel
theorem dX12_areBeside_27 : decode cX12_areBeside 27 = .ok (.iconst 0, 1) := by decide +kernel
theorem dX12_areBeside_28 : decode cX12_areBeside 28 = .ok (.ireturn, 1) := by decide +kernel
theorem dX12_paid_0 : decode cX12_paid 0 = .ok (.aload_n 0, 1) := by decide +kernel
theorem dX12_paid_1 : decode cX12_paid 1 = .ok (.iload_n 1, 1) := by decide +kernel
theorem dX12_paid_2 : decode cX12_paid 2 = .ok (.invokevirtual 359, 3) := by decide +kernel
theorem dX12_paid_5 : decode cX12_paid 5 = .ok (.aload_n 0, 1) := by decide +kernel
theorem dX12_paid_6 : decode cX12_paid 6 = .ok (.iload_n 1, 1) := by decide +kernel
theorem dX12_paid_7 : decode cX12_paid 7 = .ok (.lload_n 2, 1) := by decide +kernel
theorem dX12_paid_8 : decode cX12_paid 8 = .ok (.invokevirtual 362, 3) := by decide +kernel
theorem dX12_paid_11 : decode cX12_paid 11 = .ok (.lcmp, 1) := by decide +kernel
theorem dX12_paid_12 : decode cX12_paid 12 = .ok (.ifCond .ge 11, 3) := by decide +kernel
theorem dX12_paid_15 : decode cX12_paid 15 = .ok (.aload_n 0, 1) := by decide +kernel
theorem dX12_paid_16 : decode cX12_paid 16 = .ok (.iload_n 1, 1) := by decide +kernel
theorem dX12_paid_17 : decode cX12_paid 17 = .ok (.invokevirtual 359, 3) := by decide +kernel
theorem dX12_paid_20 : decode cX12_paid 20 = .ok (.goto 9, 3) := by decide +kernel
theorem dX12_paid_23 : decode cX12_paid 23 = .ok (.aload_n 0, 1) := by decide +kernel
theorem dX12_paid_24 : decode cX12_paid 24 = .ok (.iload_n 1, 1) := by decide +kernel
theorem dX12_paid_25 : decode cX12_paid 25 = .ok (.lload_n 2, 1) := by decide +kernel
theorem dX12_paid_26 : decode cX12_paid 26 = .ok (.invokevirtual 362, 3) := by decide +kernel
theorem dX12_paid_29 : decode cX12_paid 29 = .ok (.lreturn, 1) := by decide +kernel
theorem dX12_isTwo_0 : decode cX12_isTwo 0 = .ok (.aload_n 0, 1) := by decide +kernel
theorem dX12_isTwo_1 : decode cX12_isTwo 1 = .ok (.iload_n 1, 1) := by decide +kernel
theorem dX12_isTwo_2 : decode cX12_isTwo 2 = .ok (.invokevirtual 376, 3) := by decide +kernel
theorem dX12_isTwo_5 : decode cX12_isTwo 5 = .ok (.ifCond .eq 20, 3) := by decide +kernel
theorem dX12_isTwo_8 : decode cX12_isTwo 8 = .ok (.aload_n 0, 1) := by decide +kernel
theorem dX12_isTwo_9 : decode cX12_isTwo 9 = .ok (.iload_n 2, 1) := by decide +kernel
theorem dX12_isTwo_10 : decode cX12_isTwo 10 = .ok (.invokevirtual 376, 3) := by decide +kernel
theorem dX12_isTwo_13 : decode cX12_isTwo 13 = .ok (.ifCond .eq 12, 3) := by decide +kernel
theorem dX12_isTwo_16 : decode cX12_isTwo 16 = .ok (.iload_n 1, 1) := by decide +kernel
theorem dX12_isTwo_17 : decode cX12_isTwo 17 = .ok (.iload_n 2, 1) := by decide +kernel
theorem dX12_isTwo_18 : decode cX12_isTwo 18 = .ok (.if_icmp .eq 7, 3) := by decide +kernel
theorem dX12_isTwo_21 : decode cX12_isTwo 21 = .ok (.iconst 1, 1) := by decide +kernel
theorem dX12_isTwo_22 : decode cX12_isTwo 22 = .ok (.goto 4, 3) := by decide +kernel
theorem dX12_isTwo_25 : decode cX12_isTwo 25 = .ok (.iconst 0, 1) := by decide +kernel
theorem dX12_isTwo_26 : decode cX12_isTwo 26 = .ok (.ireturn, 1) := by decide +kernel
theorem dX12_balance_0 : decode cX12_balance 0 = .ok (.aload_n 0, 1) := by decide +kernel
theorem dX12_balance_1 : decode cX12_balance 1 = .ok (.iconst 0, 1) := by decide +kernel
theorem dX12_balance_2 : decode cX12_balance 2 = .ok (.putfield 123, 3) := by decide +kernel
theorem dX12_balance_5 : decode cX12_balance 5 = .ok (.aload_n 0, 1) := by decide +kernel
theorem dX12_balance_6 : decode cX12_balance 6 = .ok (.iload_n 1, 1) := by decide +kernel
theorem dX12_balance_7 : decode cX12_balance 7 = .ok (.invokevirtual 384, 3) := by decide +kernel
theorem dX12_balance_10 : decode cX12_balance 10 = .ok (.ifCond .eq 15, 3) := by decide +kernel
theorem dX12_balance_13 : decode cX12_balance 13 = .ok (.iload_n 2, 1) := by decide +kernel
theorem dX12_balance_14 : decode cX12_balance 14 = .ok (.i2l, 1) := by decide +kernel
theorem dX12_balance_15 : decode cX12_balance 15 = .ok (.lconst 0, 1) := by decide +kernel
theorem dX12_balance_16 : decode cX12_balance 16 = .ok (.ldc2_w 440, 3) := by decide +kernel
theorem dX12_balance_19 : decode cX12_balance 19 = .ok (.invokestatic 161, 3) := by decide +kernel
theorem dX12_balance_22 : decode cX12_balance 22 = .ok (.ifCond .ne 5, 3) := by decide +kernel
theorem dX12_balance_25 : decode cX12_balance 25 = .ok (.iconst (-1), 1) := by decide +kernel
theorem dX12_balance_26 : decode cX12_balance 26 = .ok (.ireturn, 1) := by decide +kernel
theorem dX12_balance_27 : decode cX12_balance 27 = .ok (.aload_n 0, 1) := by decide +kernel
theorem dX12_balance_28 : decode cX12_balance 28 = .ok (.invokevirtual 442, 3) := by decide +kernel
theorem dX12_balance_31 : decode cX12_balance 31 = .ok (.aload_n 0, 1) := by decide +kernel
theorem dX12_balance_32 : decode cX12_balance 32 = .ok (.getfield 88, 3) := by decide +kernel
theorem dX12_balance_35 : decode cX12_balance 35 = .ok (.iload_n 1, 1) := by decide +kernel
theorem dX12_balance_36 : decode cX12_balance 36 = .ok (.iaload, 1) := by decide +kernel
theorem dX12_balance_37 : decode cX12_balance 37 = .ok (.istore_n 3, 1) := by decide +kernel
theorem dX12_balance_38 : decode cX12_balance 38 = .ok (.aload_n 0, 1) := by decide +kernel
theorem dX12_balance_39 : decode cX12_balance 39 = .ok (.getfield 88, 3) := by decide +kernel
theorem dX12_balance_42 : decode cX12_balance 42 = .ok (.iload_n 1, 1) := by decide +kernel
theorem dX12_balance_43 : decode cX12_balance 43 = .ok (.iload_n 2, 1) := by decide +kernel
theorem dX12_balance_44 : decode cX12_balance 44 = .ok (.iastore, 1) := by decide +kernel
theorem dX12_balance_45 : decode cX12_balance 45 = .ok (.iload_n 3, 1) := by decide +kernel
theorem dX12_balance_46 : decode cX12_balance 46 = .ok (.ireturn, 1) := by decide +kernel
theorem dX12_split_0 : decode cX12_split 0 = .ok (.aload_n 0, 1) := by decide +kernel
theorem dX12_split_1 : decode cX12_split 1 = .ok (.iconst 0, 1) := by decide +kernel
theorem dX12_split_2 : decode cX12_split 2 = .ok (.putfield 123, 3) := by decide +kernel
theorem dX12_split_5 : decode cX12_split 5 = .ok (.aload_n 0, 1) := by decide +kernel
theorem dX12_split_6 : decode cX12_split 6 = .ok (.iload_n 1, 1) := by decide +kernel
theorem dX12_split_7 : decode cX12_split 7 = .ok (.invokevirtual 376, 3) := by decide +kernel
theorem dX12_split_10 : decode cX12_split 10 = .ok (.ifCond .ne 5, 3) := by decide +kernel
theorem dX12_split_13 : decode cX12_split 13 = .ok (.iconst (-1), 1) := by decide +kernel
theorem dX12_split_14 : decode cX12_split 14 = .ok (.ireturn, 1) := by decide +kernel
theorem dX12_split_15 : decode cX12_split 15 = .ok (.aload_n 0, 1) := by decide +kernel
theorem dX12_split_16 : decode cX12_split 16 = .ok (.getfield 88, 3) := by decide +kernel
theorem dX12_split_19 : decode cX12_split 19 = .ok (.bipush 70, 2) := by decide +kernel
theorem dX12_split_21 : decode cX12_split 21 = .ok (.iaload, 1) := by decide +kernel
theorem dX12_split_22 : decode cX12_split 22 = .ok (.iconst 1, 1) := by decide +kernel
theorem dX12_split_23 : decode cX12_split 23 = .ok (.isub, 1) := by decide +kernel
theorem dX12_split_24 : decode cX12_split 24 = .ok (.istore_n 2, 1) := by decide +kernel
theorem dX12_split_25 : decode cX12_split 25 = .ok (.iload_n 2, 1) := by decide +kernel
theorem dX12_split_26 : decode cX12_split 26 = .ok (.ifCond .lt 41, 3) := by decide +kernel
theorem dX12_split_29 : decode cX12_split 29 = .ok (.aload_n 0, 1) := by decide +kernel
theorem dX12_split_30 : decode cX12_split 30 = .ok (.getfield 88, 3) := by decide +kernel
theorem dX12_split_33 : decode cX12_split 33 = .ok (.bipush 10, 2) := by decide +kernel
theorem dX12_split_35 : decode cX12_split 35 = .ok (.iconst 2, 1) := by decide +kernel
theorem dX12_split_36 : decode cX12_split 36 = .ok (.iload_n 2, 1) := by decide +kernel
theorem dX12_split_37 : decode cX12_split 37 = .ok (.imul, 1) := by decide +kernel
theorem dX12_split_38 : decode cX12_split 38 = .ok (.iadd, 1) := by decide +kernel
theorem dX12_split_39 : decode cX12_split 39 = .ok (.iaload, 1) := by decide +kernel
theorem dX12_split_40 : decode cX12_split 40 = .ok (.iload_n 1, 1) := by decide +kernel
theorem dX12_split_41 : decode cX12_split 41 = .ok (.if_icmp .eq 26, 3) := by decide +kernel
theorem dX12_split_44 : decode cX12_split 44 = .ok (.aload_n 0, 1) := by decide +kernel
theorem dX12_split_45 : decode cX12_split 45 = .ok (.getfield 88, 3) := by decide +kernel
theorem dX12_split_48 : decode cX12_split 48 = .ok (.bipush 10, 2) := by decide +kernel
theorem dX12_split_50 : decode cX12_split 50 = .ok (.iconst 2, 1) := by decide +kernel
theorem dX12_split_51 : decode cX12_split 51 = .ok (.iload_n 2, 1) := by decide +kernel
theorem dX12_split_52 : decode cX12_split 52 = .ok (.imul, 1) := by decide +kernel
theorem dX12_split_53 : decode cX12_split 53 = .ok (.iadd, 1) := by decide +kernel
theorem dX12_split_54 : decode cX12_split 54 = .ok (.iconst 1, 1) := by decide +kernel
theorem dX12_split_55 : decode cX12_split 55 = .ok (.iadd, 1) := by decide +kernel
theorem dX12_split_56 : decode cX12_split 56 = .ok (.iaload, 1) := by decide +kernel
theorem dX12_split_57 : decode cX12_split 57 = .ok (.iload_n 1, 1) := by decide +kernel
theorem dX12_split_58 : decode cX12_split 58 = .ok (.if_icmp .eq 9, 3) := by decide +kernel
theorem dX12_split_61 : decode cX12_split 61 = .ok (.iinc 2 (-1), 3) := by decide +kernel
theorem dX12_split_64 : decode cX12_split 64 = .ok (.goto (-39), 3) := by decide +kernel
theorem dX12_split_67 : decode cX12_split 67 = .ok (.iload_n 2, 1) := by decide +kernel
theorem dX12_split_68 : decode cX12_split 68 = .ok (.ifCond .ge 5, 3) := by decide +kernel
theorem dX12_split_71 : decode cX12_split 71 = .ok (.iconst (-1), 1) := by decide +kernel
theorem dX12_split_72 : decode cX12_split 72 = .ok (.ireturn, 1) := by decide +kernel
theorem dX12_split_73 : decode cX12_split 73 = .ok (.aload_n 0, 1) := by decide +kernel
theorem dX12_split_74 : decode cX12_split 74 = .ok (.invokevirtual 442, 3) := by decide +kernel
theorem dX12_split_77 : decode cX12_split 77 = .ok (.aload_n 0, 1) := by decide +kernel
theorem dX12_split_78 : decode cX12_split 78 = .ok (.getfield 88, 3) := by decide +kernel
theorem dX12_split_81 : decode cX12_split 81 = .ok (.bipush 10, 2) := by decide +kernel
theorem dX12_split_83 : decode cX12_split 83 = .ok (.iconst 2, 1) := by decide +kernel
theorem dX12_split_84 : decode cX12_split 84 = .ok (.iload_n 2, 1) := by decide +kernel
theorem dX12_split_85 : decode cX12_split 85 = .ok (.imul, 1) := by decide +kernel
theorem dX12_split_86 : decode cX12_split 86 = .ok (.iadd, 1) := by decide +kernel
theorem dX12_split_87 : decode cX12_split 87 = .ok (.iaload, 1) := by decide +kernel
theorem dX12_split_88 : decode cX12_split 88 = .ok (.iload_n 1, 1) := by decide +kernel
theorem dX12_split_89 : decode cX12_split 89 = .ok (.if_icmp .ne 19, 3) := by decide +kernel
theorem dX12_split_92 : decode cX12_split 92 = .ok (.aload_n 0, 1) := by decide +kernel
theorem dX12_split_93 : decode cX12_split 93 = .ok (.getfield 88, 3) := by decide +kernel
theorem dX12_split_96 : decode cX12_split 96 = .ok (.bipush 10, 2) := by decide +kernel
theorem dX12_split_98 : decode cX12_split 98 = .ok (.iconst 2, 1) := by decide +kernel
theorem dX12_split_99 : decode cX12_split 99 = .ok (.iload_n 2, 1) := by decide +kernel
theorem dX12_split_100 : decode cX12_split 100 = .ok (.imul, 1) := by decide +kernel
theorem dX12_split_101 : decode cX12_split 101 = .ok (.iadd, 1) := by decide +kernel
theorem dX12_split_102 : decode cX12_split 102 = .ok (.iconst 1, 1) := by decide +kernel
theorem dX12_split_103 : decode cX12_split 103 = .ok (.iadd, 1) := by decide +kernel
theorem dX12_split_104 : decode cX12_split 104 = .ok (.iaload, 1) := by decide +kernel
theorem dX12_split_105 : decode cX12_split 105 = .ok (.goto 14, 3) := by decide +kernel
theorem dX12_split_108 : decode cX12_split 108 = .ok (.aload_n 0, 1) := by decide +kernel
theorem dX12_split_109 : decode cX12_split 109 = .ok (.getfield 88, 3) := by decide +kernel
theorem dX12_split_112 : decode cX12_split 112 = .ok (.bipush 10, 2) := by decide +kernel
theorem dX12_split_114 : decode cX12_split 114 = .ok (.iconst 2, 1) := by decide +kernel
theorem dX12_split_115 : decode cX12_split 115 = .ok (.iload_n 2, 1) := by decide +kernel
theorem dX12_split_116 : decode cX12_split 116 = .ok (.imul, 1) := by decide +kernel
theorem dX12_split_117 : decode cX12_split 117 = .ok (.iadd, 1) := by decide +kernel
theorem dX12_split_118 : decode cX12_split 118 = .ok (.iaload, 1) := by decide +kernel
theorem dX12_split_119 : decode cX12_split 119 = .ok (.istore_n 3, 1) := by decide +kernel
theorem dX12_split_120 : decode cX12_split 120 = .ok (.aload_n 0, 1) := by decide +kernel
theorem dX12_split_121 : decode cX12_split 121 = .ok (.getfield 88, 3) := by decide +kernel
theorem dX12_split_124 : decode cX12_split 124 = .ok (.bipush 70, 2) := by decide +kernel
theorem dX12_split_126 : decode cX12_split 126 = .ok (.dup2, 1) := by decide +kernel
theorem dX12_split_127 : decode cX12_split 127 = .ok (.iaload, 1) := by decide +kernel
theorem dX12_split_128 : decode cX12_split 128 = .ok (.iconst 1, 1) := by decide +kernel
theorem dX12_split_129 : decode cX12_split 129 = .ok (.isub, 1) := by decide +kernel
theorem dX12_split_130 : decode cX12_split 130 = .ok (.iastore, 1) := by decide +kernel
theorem dX12_split_131 : decode cX12_split 131 = .ok (.iconst 2, 1) := by decide +kernel
theorem dX12_split_132 : decode cX12_split 132 = .ok (.iload_n 2, 1) := by decide +kernel
theorem dX12_split_133 : decode cX12_split 133 = .ok (.imul, 1) := by decide +kernel
theorem dX12_split_134 : decode cX12_split 134 = .ok (.istore 4, 2) := by decide +kernel
theorem dX12_split_136 : decode cX12_split 136 = .ok (.iload 4, 2) := by decide +kernel
theorem dX12_split_138 : decode cX12_split 138 = .ok (.iconst 2, 1) := by decide +kernel
theorem dX12_split_139 : decode cX12_split 139 = .ok (.aload_n 0, 1) := by decide +kernel
theorem dX12_split_140 : decode cX12_split 140 = .ok (.getfield 88, 3) := by decide +kernel
theorem dX12_split_143 : decode cX12_split 143 = .ok (.bipush 70, 2) := by decide +kernel
theorem dX12_split_145 : decode cX12_split 145 = .ok (.iaload, 1) := by decide +kernel
theorem dX12_split_146 : decode cX12_split 146 = .ok (.imul, 1) := by decide +kernel
theorem dX12_split_147 : decode cX12_split 147 = .ok (.if_icmp .ge 31, 3) := by decide +kernel
theorem dX12_split_150 : decode cX12_split 150 = .ok (.aload_n 0, 1) := by decide +kernel
theorem dX12_split_151 : decode cX12_split 151 = .ok (.getfield 88, 3) := by decide +kernel
theorem dX12_split_154 : decode cX12_split 154 = .ok (.bipush 10, 2) := by decide +kernel
theorem dX12_split_156 : decode cX12_split 156 = .ok (.iload 4, 2) := by decide +kernel
theorem dX12_split_158 : decode cX12_split 158 = .ok (.iadd, 1) := by decide +kernel
theorem dX12_split_159 : decode cX12_split 159 = .ok (.aload_n 0, 1) := by decide +kernel
theorem dX12_split_160 : decode cX12_split 160 = .ok (.getfield 88, 3) := by decide +kernel
theorem dX12_split_163 : decode cX12_split 163 = .ok (.bipush 10, 2) := by decide +kernel
theorem dX12_split_165 : decode cX12_split 165 = .ok (.iload 4, 2) := by decide +kernel
theorem dX12_split_167 : decode cX12_split 167 = .ok (.iadd, 1) := by decide +kernel
theorem dX12_split_168 : decode cX12_split 168 = .ok (.iconst 2, 1) := by decide +kernel
theorem dX12_split_169 : decode cX12_split 169 = .ok (.iadd, 1) := by decide +kernel
theorem dX12_split_170 : decode cX12_split 170 = .ok (.iaload, 1) := by decide +kernel
theorem dX12_split_171 : decode cX12_split 171 = .ok (.iastore, 1) := by decide +kernel
theorem dX12_split_172 : decode cX12_split 172 = .ok (.iinc 4 1, 3) := by decide +kernel
theorem dX12_split_175 : decode cX12_split 175 = .ok (.goto (-39), 3) := by decide +kernel
theorem dX12_split_178 : decode cX12_split 178 = .ok (.iload_n 3, 1) := by decide +kernel
theorem dX12_split_179 : decode cX12_split 179 = .ok (.ireturn, 1) := by decide +kernel
theorem dX12_mark_0 : decode cX12_mark 0 = .ok (.aload_n 0, 1) := by decide +kernel
theorem dX12_mark_1 : decode cX12_mark 1 = .ok (.iconst 0, 1) := by decide +kernel
theorem dX12_mark_2 : decode cX12_mark 2 = .ok (.putfield 123, 3) := by decide +kernel
theorem dX12_mark_5 : decode cX12_mark 5 = .ok (.aload_n 0, 1) := by decide +kernel
theorem dX12_mark_6 : decode cX12_mark 6 = .ok (.iload_n 1, 1) := by decide +kernel
theorem dX12_mark_7 : decode cX12_mark 7 = .ok (.invokevirtual 427, 3) := by decide +kernel
theorem dX12_mark_10 : decode cX12_mark 10 = .ok (.ifCond .ne 5, 3) := by decide +kernel
theorem dX12_mark_13 : decode cX12_mark 13 = .ok (.iconst 0, 1) := by decide +kernel
theorem dX12_mark_14 : decode cX12_mark 14 = .ok (.ireturn, 1) := by decide +kernel
theorem dX12_mark_15 : decode cX12_mark 15 = .ok (.aload_n 0, 1) := by decide +kernel
theorem dX12_mark_16 : decode cX12_mark 16 = .ok (.invokevirtual 442, 3) := by decide +kernel
theorem dX12_mark_19 : decode cX12_mark 19 = .ok (.aload_n 0, 1) := by decide +kernel
theorem dX12_mark_20 : decode cX12_mark 20 = .ok (.iload_n 1, 1) := by decide +kernel
theorem dX12_mark_21 : decode cX12_mark 21 = .ok (.iload_n 2, 1) := by decide +kernel
theorem dX12_mark_22 : decode cX12_mark 22 = .ok (.invokevirtual 430, 3) := by decide +kernel
theorem dX12_mark_25 : decode cX12_mark 25 = .ok (.iconst 1, 1) := by decide +kernel
theorem dX12_mark_26 : decode cX12_mark 26 = .ok (.ireturn, 1) := by decide +kernel
theorem dX12_laysFar_0 : decode cX12_laysFar 0 = .ok (.iconst 0, 1) := by decide +kernel
theorem dX12_laysFar_1 : decode cX12_laysFar 1 = .ok (.istore_n 2, 1) := by decide +kernel
theorem dX12_laysFar_2 : decode cX12_laysFar 2 = .ok (.iload_n 2, 1) := by decide +kernel
theorem dX12_laysFar_3 : decode cX12_laysFar 3 = .ok (.bipush 12, 2) := by decide +kernel
theorem dX12_laysFar_5 : decode cX12_laysFar 5 = .ok (.if_icmp .ge 16, 3) := by decide +kernel
theorem dX12_laysFar_8 : decode cX12_laysFar 8 = .ok (.aload_n 0, 1) := by decide +kernel
theorem dX12_laysFar_9 : decode cX12_laysFar 9 = .ok (.getfield 106, 3) := by decide +kernel
theorem dX12_laysFar_12 : decode cX12_laysFar 12 = .ok (.iload_n 2, 1) := by decide +kernel
theorem dX12_laysFar_13 : decode cX12_laysFar 13 = .ok (.iconst (-1), 1) := by decide +kernel
theorem dX12_laysFar_14 : decode cX12_laysFar 14 = .ok (.iastore, 1) := by decide +kernel
theorem dX12_laysFar_15 : decode cX12_laysFar 15 = .ok (.iinc 2 1, 3) := by decide +kernel
theorem dX12_laysFar_18 : decode cX12_laysFar 18 = .ok (.goto (-16), 3) := by decide +kernel
theorem dX12_laysFar_21 : decode cX12_laysFar 21 = .ok (.aload_n 0, 1) := by decide +kernel
theorem dX12_laysFar_22 : decode cX12_laysFar 22 = .ok (.getfield 106, 3) := by decide +kernel
theorem dX12_laysFar_25 : decode cX12_laysFar 25 = .ok (.iload_n 1, 1) := by decide +kernel
theorem dX12_laysFar_26 : decode cX12_laysFar 26 = .ok (.iconst 0, 1) := by decide +kernel
theorem dX12_laysFar_27 : decode cX12_laysFar 27 = .ok (.iastore, 1) := by decide +kernel
theorem dX12_laysFar_28 : decode cX12_laysFar 28 = .ok (.iconst 1, 1) := by decide +kernel
theorem dX12_laysFar_29 : decode cX12_laysFar 29 = .ok (.istore_n 2, 1) := by decide +kernel
theorem dX12_laysFar_30 : decode cX12_laysFar 30 = .ok (.iconst 0, 1) := by decide +kernel
theorem dX12_laysFar_31 : decode cX12_laysFar 31 = .ok (.istore_n 3, 1) := by decide +kernel
theorem dX12_laysFar_32 : decode cX12_laysFar 32 = .ok (.iload_n 2, 1) := by decide +kernel
theorem dX12_laysFar_33 : decode cX12_laysFar 33 = .ok (.ifCond .eq 98, 3) := by decide +kernel
theorem dX12_laysFar_36 : decode cX12_laysFar 36 = .ok (.iconst 0, 1) := by decide +kernel
theorem dX12_laysFar_37 : decode cX12_laysFar 37 = .ok (.istore_n 2, 1) := by decide +kernel
theorem dX12_laysFar_38 : decode cX12_laysFar 38 = .ok (.iconst 0, 1) := by decide +kernel
theorem dX12_laysFar_39 : decode cX12_laysFar 39 = .ok (.istore 4, 2) := by decide +kernel
theorem dX12_laysFar_41 : decode cX12_laysFar 41 = .ok (.iload 4, 2) := by decide +kernel
theorem dX12_laysFar_43 : decode cX12_laysFar 43 = .ok (.aload_n 0, 1) := by decide +kernel
theorem dX12_laysFar_44 : decode cX12_laysFar 44 = .ok (.getfield 13, 3) := by decide +kernel
theorem dX12_laysFar_47 : decode cX12_laysFar 47 = .ok (.iconst 0, 1) := by decide +kernel
theorem dX12_laysFar_48 : decode cX12_laysFar 48 = .ok (.iaload, 1) := by decide +kernel
theorem dX12_laysFar_49 : decode cX12_laysFar 49 = .ok (.if_icmp .ge 76, 3) := by decide +kernel
theorem dX12_laysFar_52 : decode cX12_laysFar 52 = .ok (.iconst 0, 1) := by decide +kernel
theorem dX12_laysFar_53 : decode cX12_laysFar 53 = .ok (.istore 5, 2) := by decide +kernel
theorem dX12_laysFar_55 : decode cX12_laysFar 55 = .ok (.iload 5, 2) := by decide +kernel
theorem dX12_laysFar_57 : decode cX12_laysFar 57 = .ok (.aload_n 0, 1) := by decide +kernel
theorem dX12_laysFar_58 : decode cX12_laysFar 58 = .ok (.getfield 13, 3) := by decide +kernel
theorem dX12_laysFar_61 : decode cX12_laysFar 61 = .ok (.iconst 0, 1) := by decide +kernel
theorem dX12_laysFar_62 : decode cX12_laysFar 62 = .ok (.iaload, 1) := by decide +kernel
theorem dX12_laysFar_63 : decode cX12_laysFar 63 = .ok (.if_icmp .ge 56, 3) := by decide +kernel
theorem dX12_laysFar_66 : decode cX12_laysFar 66 = .ok (.aload_n 0, 1) := by decide +kernel
theorem dX12_laysFar_67 : decode cX12_laysFar 67 = .ok (.getfield 106, 3) := by decide +kernel
theorem dX12_laysFar_70 : decode cX12_laysFar 70 = .ok (.iload 4, 2) := by decide +kernel
theorem dX12_laysFar_72 : decode cX12_laysFar 72 = .ok (.iaload, 1) := by decide +kernel
theorem dX12_laysFar_73 : decode cX12_laysFar 73 = .ok (.iload_n 3, 1) := by decide +kernel
theorem dX12_laysFar_74 : decode cX12_laysFar 74 = .ok (.if_icmp .ne 45, 3) := by decide +kernel
theorem dX12_laysFar_77 : decode cX12_laysFar 77 = .ok (.aload_n 0, 1) := by decide +kernel
theorem dX12_laysFar_78 : decode cX12_laysFar 78 = .ok (.getfield 106, 3) := by decide +kernel
theorem dX12_laysFar_81 : decode cX12_laysFar 81 = .ok (.iload 5, 2) := by decide +kernel
theorem dX12_laysFar_83 : decode cX12_laysFar 83 = .ok (.iaload, 1) := by decide +kernel
theorem dX12_laysFar_84 : decode cX12_laysFar 84 = .ok (.ifCond .ge 29, 3) := by decide +kernel
theorem dX12_laysFar_87 : decode cX12_laysFar 87 = .ok (.aload_n 0, 1) := by decide +kernel
theorem dX12_laysFar_88 : decode cX12_laysFar 88 = .ok (.iload 4, 2) := by decide +kernel
theorem dX12_laysFar_90 : decode cX12_laysFar 90 = .ok (.iload 5, 2) := by decide +kernel
theorem dX12_laysFar_92 : decode cX12_laysFar 92 = .ok (.invokevirtual 337, 3) := by decide +kernel
theorem dX12_laysFar_95 : decode cX12_laysFar 95 = .ok (.ifCond .ne 6, 3) := by decide +kernel
theorem dX12_laysFar_98 : decode cX12_laysFar 98 = .ok (.goto 15, 3) := by decide +kernel
theorem dX12_laysFar_101 : decode cX12_laysFar 101 = .ok (.aload_n 0, 1) := by decide +kernel
theorem dX12_laysFar_102 : decode cX12_laysFar 102 = .ok (.getfield 106, 3) := by decide +kernel
theorem dX12_laysFar_105 : decode cX12_laysFar 105 = .ok (.iload 5, 2) := by decide +kernel
theorem dX12_laysFar_107 : decode cX12_laysFar 107 = .ok (.iload_n 3, 1) := by decide +kernel
theorem dX12_laysFar_108 : decode cX12_laysFar 108 = .ok (.iconst 1, 1) := by decide +kernel
theorem dX12_laysFar_109 : decode cX12_laysFar 109 = .ok (.iadd, 1) := by decide +kernel
theorem dX12_laysFar_110 : decode cX12_laysFar 110 = .ok (.iastore, 1) := by decide +kernel
theorem dX12_laysFar_111 : decode cX12_laysFar 111 = .ok (.iconst 1, 1) := by decide +kernel
theorem dX12_laysFar_112 : decode cX12_laysFar 112 = .ok (.istore_n 2, 1) := by decide +kernel
theorem dX12_laysFar_113 : decode cX12_laysFar 113 = .ok (.iinc 5 1, 3) := by decide +kernel
theorem dX12_laysFar_116 : decode cX12_laysFar 116 = .ok (.goto (-61), 3) := by decide +kernel
theorem dX12_laysFar_119 : decode cX12_laysFar 119 = .ok (.iinc 4 1, 3) := by decide +kernel
theorem dX12_laysFar_122 : decode cX12_laysFar 122 = .ok (.goto (-81), 3) := by decide +kernel
theorem dX12_laysFar_125 : decode cX12_laysFar 125 = .ok (.iinc 3 1, 3) := by decide +kernel
theorem dX12_laysFar_128 : decode cX12_laysFar 128 = .ok (.goto (-96), 3) := by decide +kernel
theorem dX12_laysFar_131 : decode cX12_laysFar 131 = .ok (.return_, 1) := by decide +kernel
theorem dX12_claim_0 : decode cX12_claim 0 = .ok (.aload_n 0, 1) := by decide +kernel
theorem dX12_claim_1 : decode cX12_claim 1 = .ok (.iload_n 1, 1) := by decide +kernel
theorem dX12_claim_2 : decode cX12_claim 2 = .ok (.invokevirtual 359, 3) := by decide +kernel
theorem dX12_claim_5 : decode cX12_claim 5 = .ok (.aload_n 0, 1) := by decide +kernel
theorem dX12_claim_6 : decode cX12_claim 6 = .ok (.iload_n 1, 1) := by decide +kernel
theorem dX12_claim_7 : decode cX12_claim 7 = .ok (.aload_n 0, 1) := by decide +kernel
theorem dX12_claim_8 : decode cX12_claim 8 = .ok (.getfield 88, 3) := by decide +kernel
theorem dX12_claim_11 : decode cX12_claim 11 = .ok (.bipush 72, 2) := by decide +kernel
theorem dX12_claim_13 : decode cX12_claim 13 = .ok (.iaload, 1) := by decide +kernel
theorem dX12_claim_14 : decode cX12_claim 14 = .ok (.i2l, 1) := by decide +kernel
theorem dX12_claim_15 : decode cX12_claim 15 = .ok (.invokevirtual 366, 3) := by decide +kernel
theorem dX12_claim_18 : decode cX12_claim 18 = .ok (.lsub, 1) := by decide +kernel
theorem dX12_claim_19 : decode cX12_claim 19 = .ok (.lreturn, 1) := by decide +kernel
theorem dX12_paidAll_0 : decode cX12_paidAll 0 = .ok (.lconst 0, 1) := by decide +kernel
theorem dX12_paidAll_1 : decode cX12_paidAll 1 = .ok (.lstore_n 3, 1) := by decide +kernel
theorem dX12_paidAll_2 : decode cX12_paidAll 2 = .ok (.iconst 0, 1) := by decide +kernel
theorem dX12_paidAll_3 : decode cX12_paidAll 3 = .ok (.istore 5, 2) := by decide +kernel
theorem dX12_paidAll_5 : decode cX12_paidAll 5 = .ok (.iload 5, 2) := by decide +kernel
theorem dX12_paidAll_7 : decode cX12_paidAll 7 = .ok (.aload_n 0, 1) := by decide +kernel
theorem dX12_paidAll_8 : decode cX12_paidAll 8 = .ok (.getfield 340, 3) := by decide +kernel
theorem dX12_paidAll_11 : decode cX12_paidAll 11 = .ok (.if_icmp .ge 19, 3) := by decide +kernel
theorem dX12_paidAll_14 : decode cX12_paidAll 14 = .ok (.lload_n 3, 1) := by decide +kernel
theorem dX12_paidAll_15 : decode cX12_paidAll 15 = .ok (.aload_n 0, 1) := by decide +kernel
theorem dX12_paidAll_16 : decode cX12_paidAll 16 = .ok (.iload 5, 2) := by decide +kernel
theorem dX12_paidAll_18 : decode cX12_paidAll 18 = .ok (.lload_n 1, 1) := by decide +kernel
theorem dX12_paidAll_19 : decode cX12_paidAll 19 = .ok (.invokevirtual 366, 3) := by decide +kernel
theorem dX12_paidAll_22 : decode cX12_paidAll 22 = .ok (.ladd, 1) := by decide +kernel
theorem dX12_paidAll_23 : decode cX12_paidAll 23 = .ok (.lstore_n 3, 1) := by decide +kernel
theorem dX12_paidAll_24 : decode cX12_paidAll 24 = .ok (.iinc 5 1, 3) := by decide +kernel
theorem dX12_paidAll_27 : decode cX12_paidAll 27 = .ok (.goto (-22), 3) := by decide +kernel
theorem dX12_paidAll_30 : decode cX12_paidAll 30 = .ok (.lload_n 3, 1) := by decide +kernel
theorem dX12_paidAll_31 : decode cX12_paidAll 31 = .ok (.lreturn, 1) := by decide +kernel
theorem dX12_laysDepositors_0 : decode cX12_laysDepositors 0 = .ok (.aload_n 0, 1) := by decide +kernel
theorem dX12_laysDepositors_1 : decode cX12_laysDepositors 1 = .ok (.iconst 0, 1) := by decide +kernel
theorem dX12_laysDepositors_2 : decode cX12_laysDepositors 2 = .ok (.putfield 340, 3) := by decide +kernel
theorem dX12_laysDepositors_5 : decode cX12_laysDepositors 5 = .ok (.iconst 0, 1) := by decide +kernel
theorem dX12_laysDepositors_6 : decode cX12_laysDepositors 6 = .ok (.istore_n 1, 1) := by decide +kernel
theorem dX12_laysDepositors_7 : decode cX12_laysDepositors 7 = .ok (.iload_n 1, 1) := by decide +kernel
theorem dX12_laysDepositors_8 : decode cX12_laysDepositors 8 = .ok (.bipush 12, 2) := by decide +kernel
theorem dX12_laysDepositors_10 : decode cX12_laysDepositors 10 = .ok (.if_icmp .ge 16, 3) := by decide +kernel
theorem dX12_laysDepositors_13 : decode cX12_laysDepositors 13 = .ok (.aload_n 0, 1) := by decide +kernel
theorem dX12_laysDepositors_14 : decode cX12_laysDepositors 14 = .ok (.getfield 103, 3) := by decide +kernel
theorem dX12_laysDepositors_17 : decode cX12_laysDepositors 17 = .ok (.iload_n 1, 1) := by decide +kernel
theorem dX12_laysDepositors_18 : decode cX12_laysDepositors 18 = .ok (.iconst (-1), 1) := by decide +kernel
theorem dX12_laysDepositors_19 : decode cX12_laysDepositors 19 = .ok (.iastore, 1) := by decide +kernel
theorem dX12_laysDepositors_20 : decode cX12_laysDepositors 20 = .ok (.iinc 1 1, 3) := by decide +kernel
theorem dX12_laysDepositors_23 : decode cX12_laysDepositors 23 = .ok (.goto (-16), 3) := by decide +kernel
theorem dX12_laysDepositors_26 : decode cX12_laysDepositors 26 = .ok (.iconst 0, 1) := by decide +kernel
theorem dX12_laysDepositors_27 : decode cX12_laysDepositors 27 = .ok (.istore_n 1, 1) := by decide +kernel
theorem dX12_laysDepositors_28 : decode cX12_laysDepositors 28 = .ok (.iload_n 1, 1) := by decide +kernel
theorem dX12_laysDepositors_29 : decode cX12_laysDepositors 29 = .ok (.aload_n 0, 1) := by decide +kernel
theorem dX12_laysDepositors_30 : decode cX12_laysDepositors 30 = .ok (.getfield 13, 3) := by decide +kernel
theorem dX12_laysDepositors_33 : decode cX12_laysDepositors 33 = .ok (.iconst 0, 1) := by decide +kernel
theorem dX12_laysDepositors_34 : decode cX12_laysDepositors 34 = .ok (.iaload, 1) := by decide +kernel
theorem dX12_laysDepositors_35 : decode cX12_laysDepositors 35 = .ok (.if_icmp .ge 73, 3) := by decide +kernel
theorem dX12_laysDepositors_38 : decode cX12_laysDepositors 38 = .ok (.aload_n 0, 1) := by decide +kernel
theorem dX12_laysDepositors_39 : decode cX12_laysDepositors 39 = .ok (.getfield 103, 3) := by decide +kernel
theorem dX12_laysDepositors_42 : decode cX12_laysDepositors 42 = .ok (.iload_n 1, 1) := by decide +kernel
theorem dX12_laysDepositors_43 : decode cX12_laysDepositors 43 = .ok (.iaload, 1) := by decide +kernel
theorem dX12_laysDepositors_44 : decode cX12_laysDepositors 44 = .ok (.ifCond .lt 6, 3) := by decide +kernel
theorem dX12_laysDepositors_47 : decode cX12_laysDepositors 47 = .ok (.goto 55, 3) := by decide +kernel
theorem dX12_laysDepositors_50 : decode cX12_laysDepositors 50 = .ok (.aload_n 0, 1) := by decide +kernel
theorem dX12_laysDepositors_51 : decode cX12_laysDepositors 51 = .ok (.iload_n 1, 1) := by decide +kernel
theorem dX12_laysDepositors_52 : decode cX12_laysDepositors 52 = .ok (.invokevirtual 343, 3) := by decide +kernel
theorem dX12_laysDepositors_55 : decode cX12_laysDepositors 55 = .ok (.iconst 0, 1) := by decide +kernel
theorem dX12_laysDepositors_56 : decode cX12_laysDepositors 56 = .ok (.istore_n 2, 1) := by decide +kernel
theorem dX12_laysDepositors_57 : decode cX12_laysDepositors 57 = .ok (.iload_n 2, 1) := by decide +kernel
theorem dX12_laysDepositors_58 : decode cX12_laysDepositors 58 = .ok (.aload_n 0, 1) := by decide +kernel
theorem dX12_laysDepositors_59 : decode cX12_laysDepositors 59 = .ok (.getfield 13, 3) := by decide +kernel
theorem dX12_laysDepositors_62 : decode cX12_laysDepositors 62 = .ok (.iconst 0, 1) := by decide +kernel
theorem dX12_laysDepositors_63 : decode cX12_laysDepositors 63 = .ok (.iaload, 1) := by decide +kernel
theorem dX12_laysDepositors_64 : decode cX12_laysDepositors 64 = .ok (.if_icmp .ge 28, 3) := by decide +kernel
theorem dX12_laysDepositors_67 : decode cX12_laysDepositors 67 = .ok (.aload_n 0, 1) := by decide +kernel
theorem dX12_laysDepositors_68 : decode cX12_laysDepositors 68 = .ok (.getfield 106, 3) := by decide +kernel
theorem dX12_laysDepositors_71 : decode cX12_laysDepositors 71 = .ok (.iload_n 2, 1) := by decide +kernel
theorem dX12_laysDepositors_72 : decode cX12_laysDepositors 72 = .ok (.iaload, 1) := by decide +kernel
theorem dX12_laysDepositors_73 : decode cX12_laysDepositors 73 = .ok (.ifCond .lt 13, 3) := by decide +kernel
theorem dX12_laysDepositors_76 : decode cX12_laysDepositors 76 = .ok (.aload_n 0, 1) := by decide +kernel
theorem dX12_laysDepositors_77 : decode cX12_laysDepositors 77 = .ok (.getfield 103, 3) := by decide +kernel
theorem dX12_laysDepositors_80 : decode cX12_laysDepositors 80 = .ok (.iload_n 2, 1) := by decide +kernel
theorem dX12_laysDepositors_81 : decode cX12_laysDepositors 81 = .ok (.aload_n 0, 1) := by decide +kernel
theorem dX12_laysDepositors_82 : decode cX12_laysDepositors 82 = .ok (.getfield 340, 3) := by decide +kernel
theorem dX12_laysDepositors_85 : decode cX12_laysDepositors 85 = .ok (.iastore, 1) := by decide +kernel
theorem dX12_laysDepositors_86 : decode cX12_laysDepositors 86 = .ok (.iinc 2 1, 3) := by decide +kernel
theorem dX12_laysDepositors_89 : decode cX12_laysDepositors 89 = .ok (.goto (-32), 3) := by decide +kernel
theorem dX12_laysDepositors_92 : decode cX12_laysDepositors 92 = .ok (.aload_n 0, 1) := by decide +kernel
theorem dX12_laysDepositors_93 : decode cX12_laysDepositors 93 = .ok (.dup, 1) := by decide +kernel
theorem dX12_laysDepositors_94 : decode cX12_laysDepositors 94 = .ok (.getfield 340, 3) := by decide +kernel
theorem dX12_laysDepositors_97 : decode cX12_laysDepositors 97 = .ok (.iconst 1, 1) := by decide +kernel
theorem dX12_laysDepositors_98 : decode cX12_laysDepositors 98 = .ok (.iadd, 1) := by decide +kernel
theorem dX12_laysDepositors_99 : decode cX12_laysDepositors 99 = .ok (.putfield 340, 3) := by decide +kernel
theorem dX12_laysDepositors_102 : decode cX12_laysDepositors 102 = .ok (.iinc 1 1, 3) := by decide +kernel
theorem dX12_laysDepositors_105 : decode cX12_laysDepositors 105 = .ok (.goto (-77), 3) := by decide +kernel
theorem dX12_laysDepositors_108 : decode cX12_laysDepositors 108 = .ok (.return_, 1) := by decide +kernel
theorem dX12_placeOf_0 : decode cX12_placeOf 0 = .ok (.iconst 0, 1) := by decide +kernel
theorem dX12_placeOf_1 : decode cX12_placeOf 1 = .ok (.istore_n 2, 1) := by decide +kernel
theorem dX12_placeOf_2 : decode cX12_placeOf 2 = .ok (.iconst 0, 1) := by decide +kernel
theorem dX12_placeOf_3 : decode cX12_placeOf 3 = .ok (.istore_n 3, 1) := by decide +kernel
theorem dX12_placeOf_4 : decode cX12_placeOf 4 = .ok (.iload_n 3, 1) := by decide +kernel
theorem dX12_placeOf_5 : decode cX12_placeOf 5 = .ok (.aload_n 0, 1) := by decide +kernel
theorem dX12_placeOf_6 : decode cX12_placeOf 6 = .ok (.getfield 340, 3) := by decide +kernel
theorem dX12_placeOf_9 : decode cX12_placeOf 9 = .ok (.if_icmp .ge 50, 3) := by decide +kernel
theorem dX12_placeOf_12 : decode cX12_placeOf 12 = .ok (.iload_n 2, 1) := by decide +kernel
theorem dX12_placeOf_13 : decode cX12_placeOf 13 = .ok (.aload_n 0, 1) := by decide +kernel
theorem dX12_placeOf_14 : decode cX12_placeOf 14 = .ok (.iload_n 3, 1) := by decide +kernel
theorem dX12_placeOf_15 : decode cX12_placeOf 15 = .ok (.invokevirtual 392, 3) := by decide +kernel
theorem dX12_placeOf_18 : decode cX12_placeOf 18 = .ok (.aload_n 0, 1) := by decide +kernel
theorem dX12_placeOf_19 : decode cX12_placeOf 19 = .ok (.iload_n 1, 1) := by decide +kernel
theorem dX12_placeOf_20 : decode cX12_placeOf 20 = .ok (.invokevirtual 392, 3) := by decide +kernel
theorem dX12_placeOf_23 : decode cX12_placeOf 23 = .ok (.lcmp, 1) := by decide +kernel
theorem dX12_placeOf_24 : decode cX12_placeOf 24 = .ok (.ifCond .gt 22, 3) := by decide +kernel
theorem dX12_placeOf_27 : decode cX12_placeOf 27 = .ok (.aload_n 0, 1) := by decide +kernel
theorem dX12_placeOf_28 : decode cX12_placeOf 28 = .ok (.iload_n 3, 1) := by decide +kernel
theorem dX12_placeOf_29 : decode cX12_placeOf 29 = .ok (.invokevirtual 392, 3) := by decide +kernel
theorem dX12_placeOf_32 : decode cX12_placeOf 32 = .ok (.aload_n 0, 1) := by decide +kernel
theorem dX12_placeOf_33 : decode cX12_placeOf 33 = .ok (.iload_n 1, 1) := by decide +kernel
theorem dX12_placeOf_34 : decode cX12_placeOf 34 = .ok (.invokevirtual 392, 3) := by decide +kernel
theorem dX12_placeOf_37 : decode cX12_placeOf 37 = .ok (.lcmp, 1) := by decide +kernel
theorem dX12_placeOf_38 : decode cX12_placeOf 38 = .ok (.ifCond .ne 12, 3) := by decide +kernel
theorem dX12_placeOf_41 : decode cX12_placeOf 41 = .ok (.iload_n 3, 1) := by decide +kernel
theorem dX12_placeOf_42 : decode cX12_placeOf 42 = .ok (.iload_n 1, 1) := by decide +kernel
theorem dX12_placeOf_43 : decode cX12_placeOf 43 = .ok (.if_icmp .ge 7, 3) := by decide +kernel
theorem dX12_placeOf_46 : decode cX12_placeOf 46 = .ok (.iconst 1, 1) := by decide +kernel
theorem dX12_placeOf_47 : decode cX12_placeOf 47 = .ok (.goto 4, 3) := by decide +kernel
theorem dX12_placeOf_50 : decode cX12_placeOf 50 = .ok (.iconst 0, 1) := by decide +kernel
theorem dX12_placeOf_51 : decode cX12_placeOf 51 = .ok (.iadd, 1) := by decide +kernel
theorem dX12_placeOf_52 : decode cX12_placeOf 52 = .ok (.istore_n 2, 1) := by decide +kernel
theorem dX12_placeOf_53 : decode cX12_placeOf 53 = .ok (.iinc 3 1, 3) := by decide +kernel
theorem dX12_placeOf_56 : decode cX12_placeOf 56 = .ok (.goto (-52), 3) := by decide +kernel
theorem dX12_placeOf_59 : decode cX12_placeOf 59 = .ok (.iload_n 2, 1) := by decide +kernel
theorem dX12_placeOf_60 : decode cX12_placeOf 60 = .ok (.ireturn, 1) := by decide +kernel
theorem dX12_rank_0 : decode cX12_rank 0 = .ok (.iload_n 1, 1) := by decide +kernel
theorem dX12_rank_1 : decode cX12_rank 1 = .ok (.ifCond .ne 18, 3) := by decide +kernel
theorem dX12_rank_4 : decode cX12_rank 4 = .ok (.aload_n 0, 1) := by decide +kernel
theorem dX12_rank_5 : decode cX12_rank 5 = .ok (.aload_n 0, 1) := by decide +kernel
theorem dX12_rank_6 : decode cX12_rank 6 = .ok (.getfield 88, 3) := by decide +kernel
theorem dX12_rank_9 : decode cX12_rank 9 = .ok (.bipush 72, 2) := by decide +kernel
theorem dX12_rank_11 : decode cX12_rank 11 = .ok (.iaload, 1) := by decide +kernel
theorem dX12_rank_12 : decode cX12_rank 12 = .ok (.i2l, 1) := by decide +kernel
theorem dX12_rank_13 : decode cX12_rank 13 = .ok (.invokevirtual 372, 3) := by decide +kernel
theorem dX12_rank_16 : decode cX12_rank 16 = .ok (.goto 4, 3) := by decide +kernel
theorem dX12_rank_19 : decode cX12_rank 19 = .ok (.lconst 0, 1) := by decide +kernel
theorem dX12_rank_20 : decode cX12_rank 20 = .ok (.lstore_n 2, 1) := by decide +kernel
theorem dX12_rank_21 : decode cX12_rank 21 = .ok (.iconst 0, 1) := by decide +kernel
theorem dX12_rank_22 : decode cX12_rank 22 = .ok (.istore 4, 2) := by decide +kernel
theorem dX12_rank_24 : decode cX12_rank 24 = .ok (.iload 4, 2) := by decide +kernel
theorem dX12_rank_26 : decode cX12_rank 26 = .ok (.aload_n 0, 1) := by decide +kernel
theorem dX12_rank_27 : decode cX12_rank 27 = .ok (.getfield 340, 3) := by decide +kernel
theorem dX12_rank_30 : decode cX12_rank 30 = .ok (.if_icmp .ge 46, 3) := by decide +kernel
theorem dX12_rank_33 : decode cX12_rank 33 = .ok (.iload_n 1, 1) := by decide +kernel
theorem dX12_rank_34 : decode cX12_rank 34 = .ok (.ifCond .le 42, 3) := by decide +kernel
theorem dX12_rank_37 : decode cX12_rank 37 = .ok (.lload_n 2, 1) := by decide +kernel
theorem dX12_rank_38 : decode cX12_rank 38 = .ok (.aload_n 0, 1) := by decide +kernel
theorem dX12_rank_39 : decode cX12_rank 39 = .ok (.getfield 118, 3) := by decide +kernel
theorem dX12_rank_42 : decode cX12_rank 42 = .ok (.iload 4, 2) := by decide +kernel
theorem dX12_rank_44 : decode cX12_rank 44 = .ok (.baload, 1) := by decide +kernel
theorem dX12_rank_45 : decode cX12_rank 45 = .ok (.iload_n 1, 1) := by decide +kernel
theorem dX12_rank_46 : decode cX12_rank 46 = .ok (.iconst 2, 1) := by decide +kernel
theorem dX12_rank_47 : decode cX12_rank 47 = .ok (.if_icmp .ne 7, 3) := by decide +kernel
theorem dX12_rank_50 : decode cX12_rank 50 = .ok (.iconst 1, 1) := by decide +kernel
theorem dX12_rank_51 : decode cX12_rank 51 = .ok (.goto 4, 3) := by decide +kernel
theorem dX12_rank_54 : decode cX12_rank 54 = .ok (.iconst 0, 1) := by decide +kernel
theorem dX12_rank_55 : decode cX12_rank 55 = .ok (.if_icmp .ne 12, 3) := by decide +kernel
theorem dX12_rank_58 : decode cX12_rank 58 = .ok (.aload_n 0, 1) := by decide +kernel
theorem dX12_rank_59 : decode cX12_rank 59 = .ok (.iload 4, 2) := by decide +kernel
theorem dX12_rank_61 : decode cX12_rank 61 = .ok (.invokevirtual 392, 3) := by decide +kernel
theorem dX12_rank_64 : decode cX12_rank 64 = .ok (.goto 4, 3) := by decide +kernel
theorem dX12_rank_67 : decode cX12_rank 67 = .ok (.lconst 0, 1) := by decide +kernel
theorem dX12_rank_68 : decode cX12_rank 68 = .ok (.ladd, 1) := by decide +kernel
theorem dX12_rank_69 : decode cX12_rank 69 = .ok (.lstore_n 2, 1) := by decide +kernel
theorem dX12_rank_70 : decode cX12_rank 70 = .ok (.iinc 4 1, 3) := by decide +kernel
theorem dX12_rank_73 : decode cX12_rank 73 = .ok (.goto (-49), 3) := by decide +kernel
theorem dX12_rank_76 : decode cX12_rank 76 = .ok (.lload_n 2, 1) := by decide +kernel
theorem dX12_rank_77 : decode cX12_rank 77 = .ok (.lreturn, 1) := by decide +kernel
theorem dX12_apart_0 : decode cX12_apart 0 = .ok (.aload_n 0, 1) := by decide +kernel
theorem dX12_apart_1 : decode cX12_apart 1 = .ok (.iconst 0, 1) := by decide +kernel
theorem dX12_apart_2 : decode cX12_apart 2 = .ok (.putfield 123, 3) := by decide +kernel
theorem dX12_apart_5 : decode cX12_apart 5 = .ok (.aload_n 0, 1) := by decide +kernel
theorem dX12_apart_6 : decode cX12_apart 6 = .ok (.iload_n 1, 1) := by decide +kernel
theorem dX12_apart_7 : decode cX12_apart 7 = .ok (.invokevirtual 376, 3) := by decide +kernel
theorem dX12_apart_10 : decode cX12_apart 10 = .ok (.ifCond .eq 11, 3) := by decide +kernel
theorem dX12_apart_13 : decode cX12_apart 13 = .ok (.aload_n 0, 1) := by decide +kernel
theorem dX12_apart_14 : decode cX12_apart 14 = .ok (.iload_n 2, 1) := by decide +kernel
theorem dX12_apart_15 : decode cX12_apart 15 = .ok (.invokevirtual 376, 3) := by decide +kernel
theorem dX12_apart_18 : decode cX12_apart 18 = .ok (.ifCond .ne 5, 3) := by decide +kernel
theorem dX12_apart_21 : decode cX12_apart 21 = .ok (.iconst (-1), 1) := by decide +kernel
theorem dX12_apart_22 : decode cX12_apart 22 = .ok (.ireturn, 1) := by decide +kernel
theorem dX12_apart_23 : decode cX12_apart 23 = .ok (.aload_n 0, 1) := by decide +kernel
theorem dX12_apart_24 : decode cX12_apart 24 = .ok (.iload_n 1, 1) := by decide +kernel
theorem dX12_apart_25 : decode cX12_apart 25 = .ok (.invokevirtual 343, 3) := by decide +kernel
theorem dX12_apart_28 : decode cX12_apart 28 = .ok (.aload_n 0, 1) := by decide +kernel
theorem dX12_apart_29 : decode cX12_apart 29 = .ok (.getfield 106, 3) := by decide +kernel
theorem dX12_apart_32 : decode cX12_apart 32 = .ok (.iload_n 2, 1) := by decide +kernel
theorem dX12_apart_33 : decode cX12_apart 33 = .ok (.iaload, 1) := by decide +kernel
theorem dX12_apart_34 : decode cX12_apart 34 = .ok (.ireturn, 1) := by decide +kernel
theorem dX12_person_0 : decode cX12_person 0 = .ok (.aload_n 0, 1) := by decide +kernel
theorem dX12_person_1 : decode cX12_person 1 = .ok (.iconst 0, 1) := by decide +kernel
theorem dX12_person_2 : decode cX12_person 2 = .ok (.putfield 123, 3) := by decide +kernel
theorem dX12_person_5 : decode cX12_person 5 = .ok (.aload_n 0, 1) := by decide +kernel
theorem dX12_person_6 : decode cX12_person 6 = .ok (.iload_n 1, 1) := by decide +kernel
theorem dX12_person_7 : decode cX12_person 7 = .ok (.invokevirtual 376, 3) := by decide +kernel
theorem dX12_person_10 : decode cX12_person 10 = .ok (.ifCond .ne 5, 3) := by decide +kernel
theorem dX12_person_13 : decode cX12_person 13 = .ok (.iconst (-1), 1) := by decide +kernel
theorem dX12_person_14 : decode cX12_person 14 = .ok (.ireturn, 1) := by decide +kernel
theorem dX12_person_15 : decode cX12_person 15 = .ok (.aload_n 0, 1) := by decide +kernel
theorem dX12_person_16 : decode cX12_person 16 = .ok (.invokevirtual 346, 3) := by decide +kernel
theorem dX12_person_19 : decode cX12_person 19 = .ok (.iload_n 2, 1) := by decide +kernel
theorem dX12_person_20 : decode cX12_person 20 = .ok (.tableswitch 110 0 6 #[44, 51, 51, 51, 78, 93, 100], 44) := by decide +kernel
theorem dX12_person_64 : decode cX12_person 64 = .ok (.aload_n 0, 1) := by decide +kernel
theorem dX12_person_65 : decode cX12_person 65 = .ok (.getfield 33, 3) := by decide +kernel
theorem dX12_person_68 : decode cX12_person 68 = .ok (.iload_n 1, 1) := by decide +kernel
theorem dX12_person_69 : decode cX12_person 69 = .ok (.iaload, 1) := by decide +kernel
theorem dX12_person_70 : decode cX12_person 70 = .ok (.ireturn, 1) := by decide +kernel
theorem dX12_person_71 : decode cX12_person 71 = .ok (.iload_n 2, 1) := by decide +kernel
theorem dX12_person_72 : decode cX12_person 72 = .ok (.aload_n 0, 1) := by decide +kernel
theorem dX12_person_73 : decode cX12_person 73 = .ok (.getfield 33, 3) := by decide +kernel
theorem dX12_person_76 : decode cX12_person 76 = .ok (.iload_n 1, 1) := by decide +kernel
theorem dX12_person_77 : decode cX12_person 77 = .ok (.iaload, 1) := by decide +kernel
theorem dX12_person_78 : decode cX12_person 78 = .ok (.if_icmp .gt 18, 3) := by decide +kernel
theorem dX12_person_81 : decode cX12_person 81 = .ok (.aload_n 0, 1) := by decide +kernel
theorem dX12_person_82 : decode cX12_person 82 = .ok (.getfield 36, 3) := by decide +kernel
theorem dX12_person_85 : decode cX12_person 85 = .ok (.iconst 3, 1) := by decide +kernel
theorem dX12_person_86 : decode cX12_person 86 = .ok (.iload_n 1, 1) := by decide +kernel
theorem dX12_person_87 : decode cX12_person 87 = .ok (.imul, 1) := by decide +kernel
theorem dX12_person_88 : decode cX12_person 88 = .ok (.iload_n 2, 1) := by decide +kernel
theorem dX12_person_89 : decode cX12_person 89 = .ok (.iadd, 1) := by decide +kernel
theorem dX12_person_90 : decode cX12_person 90 = .ok (.iconst 1, 1) := by decide +kernel
theorem dX12_person_91 : decode cX12_person 91 = .ok (.isub, 1) := by decide +kernel
theorem dX12_person_92 : decode cX12_person 92 = .ok (.iaload, 1) := by decide +kernel
theorem dX12_person_93 : decode cX12_person 93 = .ok (.goto 4, 3) := by decide +kernel
theorem dX12_person_96 : decode cX12_person 96 = .ok (.iconst 0, 1) := by decide +kernel
theorem dX12_person_97 : decode cX12_person 97 = .ok (.ireturn, 1) := by decide +kernel
theorem dX12_person_98 : decode cX12_person 98 = .ok (.aload_n 0, 1) := by decide +kernel
theorem dX12_person_99 : decode cX12_person 99 = .ok (.getfield 39, 3) := by decide +kernel
theorem dX12_person_102 : decode cX12_person 102 = .ok (.iload_n 1, 1) := by decide +kernel
theorem dX12_person_103 : decode cX12_person 103 = .ok (.baload, 1) := by decide +kernel
theorem dX12_person_104 : decode cX12_person 104 = .ok (.ifCond .eq 7, 3) := by decide +kernel
theorem dX12_person_107 : decode cX12_person 107 = .ok (.iconst 1, 1) := by decide +kernel
theorem dX12_person_108 : decode cX12_person 108 = .ok (.goto 4, 3) := by decide +kernel
theorem dX12_person_111 : decode cX12_person 111 = .ok (.iconst 0, 1) := by decide +kernel
theorem dX12_person_112 : decode cX12_person 112 = .ok (.ireturn, 1) := by decide +kernel
theorem dX12_person_113 : decode cX12_person 113 = .ok (.aload_n 0, 1) := by decide +kernel
theorem dX12_person_114 : decode cX12_person 114 = .ok (.getfield 103, 3) := by decide +kernel
theorem dX12_person_117 : decode cX12_person 117 = .ok (.iload_n 1, 1) := by decide +kernel
theorem dX12_person_118 : decode cX12_person 118 = .ok (.iaload, 1) := by decide +kernel
theorem dX12_person_119 : decode cX12_person 119 = .ok (.ireturn, 1) := by decide +kernel
theorem dX12_person_120 : decode cX12_person 120 = .ok (.aload_n 0, 1) := by decide +kernel
theorem dX12_person_121 : decode cX12_person 121 = .ok (.getfield 29, 3) := by decide +kernel
theorem dX12_person_124 : decode cX12_person 124 = .ok (.iload_n 1, 1) := by decide +kernel
theorem dX12_person_125 : decode cX12_person 125 = .ok (.laload, 1) := by decide +kernel
theorem dX12_person_126 : decode cX12_person 126 = .ok (.invokestatic 379, 3) := by decide +kernel
theorem dX12_person_129 : decode cX12_person 129 = .ok (.ireturn, 1) := by decide +kernel
theorem dX12_person_130 : decode cX12_person 130 = .ok (.iconst (-1), 1) := by decide +kernel
theorem dX12_person_131 : decode cX12_person 131 = .ok (.ireturn, 1) := by decide +kernel
theorem dX12_who_0 : decode cX12_who 0 = .ok (.aload_n 0, 1) := by decide +kernel
theorem dX12_who_1 : decode cX12_who 1 = .ok (.iconst 0, 1) := by decide +kernel
theorem dX12_who_2 : decode cX12_who 2 = .ok (.putfield 123, 3) := by decide +kernel
theorem dX12_who_5 : decode cX12_who 5 = .ok (.aload_n 0, 1) := by decide +kernel
theorem dX12_who_6 : decode cX12_who 6 = .ok (.invokevirtual 346, 3) := by decide +kernel
theorem dX12_who_9 : decode cX12_who 9 = .ok (.iload_n 1, 1) := by decide +kernel
theorem dX12_who_10 : decode cX12_who 10 = .ok (.i2l, 1) := by decide +kernel
theorem dX12_who_11 : decode cX12_who 11 = .ok (.lconst 0, 1) := by decide +kernel
theorem dX12_who_12 : decode cX12_who 12 = .ok (.aload_n 0, 1) := by decide +kernel
theorem dX12_who_13 : decode cX12_who 13 = .ok (.getfield 340, 3) := by decide +kernel
theorem dX12_who_16 : decode cX12_who 16 = .ok (.iconst 1, 1) := by decide +kernel
theorem dX12_who_17 : decode cX12_who 17 = .ok (.isub, 1) := by decide +kernel
theorem dX12_who_18 : decode cX12_who 18 = .ok (.i2l, 1) := by decide +kernel
theorem dX12_who_19 : decode cX12_who 19 = .ok (.invokestatic 161, 3) := by decide +kernel
theorem dX12_who_22 : decode cX12_who 22 = .ok (.ifCond .ne 5, 3) := by decide +kernel
theorem dX12_who_25 : decode cX12_who 25 = .ok (.iconst (-1), 1) := by decide +kernel
theorem dX12_who_26 : decode cX12_who 26 = .ok (.ireturn, 1) := by decide +kernel
theorem dX12_who_27 : decode cX12_who 27 = .ok (.iconst 0, 1) := by decide +kernel
theorem dX12_who_28 : decode cX12_who 28 = .ok (.istore_n 2, 1) := by decide +kernel
theorem dX12_who_29 : decode cX12_who 29 = .ok (.iconst 0, 1) := by decide +kernel
theorem dX12_who_30 : decode cX12_who 30 = .ok (.istore_n 3, 1) := by decide +kernel
theorem dX12_who_31 : decode cX12_who 31 = .ok (.iload_n 3, 1) := by decide +kernel
theorem dX12_who_32 : decode cX12_who 32 = .ok (.aload_n 0, 1) := by decide +kernel
theorem dX12_who_33 : decode cX12_who 33 = .ok (.getfield 13, 3) := by decide +kernel
theorem dX12_who_36 : decode cX12_who 36 = .ok (.iconst 0, 1) := by decide +kernel
theorem dX12_who_37 : decode cX12_who 37 = .ok (.iaload, 1) := by decide +kernel
theorem dX12_who_38 : decode cX12_who 38 = .ok (.if_icmp .ge 29, 3) := by decide +kernel
theorem dX12_who_41 : decode cX12_who 41 = .ok (.iload_n 2, 1) := by decide +kernel
theorem dX12_who_42 : decode cX12_who 42 = .ok (.aload_n 0, 1) := by decide +kernel
theorem dX12_who_43 : decode cX12_who 43 = .ok (.getfield 103, 3) := by decide +kernel
theorem dX12_who_46 : decode cX12_who 46 = .ok (.iload_n 3, 1) := by decide +kernel
theorem dX12_who_47 : decode cX12_who 47 = .ok (.iaload, 1) := by decide +kernel
theorem dX12_who_48 : decode cX12_who 48 = .ok (.iload_n 1, 1) := by decide +kernel
theorem dX12_who_49 : decode cX12_who 49 = .ok (.if_icmp .ne 9, 3) := by decide +kernel
theorem dX12_who_52 : decode cX12_who 52 = .ok (.iconst 1, 1) := by decide +kernel
theorem dX12_who_53 : decode cX12_who 53 = .ok (.iload_n 3, 1) := by decide +kernel
theorem dX12_who_54 : decode cX12_who 54 = .ok (.ishl, 1) := by decide +kernel
theorem dX12_who_55 : decode cX12_who 55 = .ok (.goto 4, 3) := by decide +kernel
theorem dX12_who_58 : decode cX12_who 58 = .ok (.iconst 0, 1) := by decide +kernel
theorem dX12_who_59 : decode cX12_who 59 = .ok (.ior, 1) := by decide +kernel
theorem dX12_who_60 : decode cX12_who 60 = .ok (.istore_n 2, 1) := by decide +kernel
theorem dX12_who_61 : decode cX12_who 61 = .ok (.iinc 3 1, 3) := by decide +kernel
theorem dX12_who_64 : decode cX12_who 64 = .ok (.goto (-33), 3) := by decide +kernel
theorem dX12_who_67 : decode cX12_who 67 = .ok (.iload_n 2, 1) := by decide +kernel
theorem dX12_who_68 : decode cX12_who 68 = .ok (.ireturn, 1) := by decide +kernel
theorem dX12_estateOf_0 : decode cX12_estateOf 0 = .ok (.lload_n 1, 1) := by decide +kernel
theorem dX12_estateOf_1 : decode cX12_estateOf 1 = .ok (.aload_n 0, 1) := by decide +kernel
theorem dX12_estateOf_2 : decode cX12_estateOf 2 = .ok (.iconst 0, 1) := by decide +kernel
theorem dX12_estateOf_3 : decode cX12_estateOf 3 = .ok (.invokevirtual 404, 3) := by decide +kernel
theorem dX12_estateOf_6 : decode cX12_estateOf 6 = .ok (.lsub, 1) := by decide +kernel
theorem dX12_estateOf_7 : decode cX12_estateOf 7 = .ok (.lstore 4, 2) := by decide +kernel
theorem dX12_estateOf_9 : decode cX12_estateOf 9 = .ok (.lload 4, 2) := by decide +kernel
theorem dX12_estateOf_11 : decode cX12_estateOf 11 = .ok (.lconst 0, 1) := by decide +kernel
theorem dX12_estateOf_12 : decode cX12_estateOf 12 = .ok (.lcmp, 1) := by decide +kernel
theorem dX12_estateOf_13 : decode cX12_estateOf 13 = .ok (.ifCond .gt 5, 3) := by decide +kernel
theorem dX12_estateOf_16 : decode cX12_estateOf 16 = .ok (.lconst 0, 1) := by decide +kernel
theorem dX12_estateOf_17 : decode cX12_estateOf 17 = .ok (.lreturn, 1) := by decide +kernel
theorem dX12_estateOf_18 : decode cX12_estateOf 18 = .ok (.aload_n 0, 1) := by decide +kernel
theorem dX12_estateOf_19 : decode cX12_estateOf 19 = .ok (.getfield 118, 3) := by decide +kernel
theorem dX12_estateOf_22 : decode cX12_estateOf 22 = .ok (.iload_n 3, 1) := by decide +kernel
theorem dX12_estateOf_23 : decode cX12_estateOf 23 = .ok (.baload, 1) := by decide +kernel
theorem dX12_estateOf_24 : decode cX12_estateOf 24 = .ok (.ifCond .eq 7, 3) := by decide +kernel
theorem dX12_estateOf_27 : decode cX12_estateOf 27 = .ok (.iconst 2, 1) := by decide +kernel
theorem dX12_estateOf_28 : decode cX12_estateOf 28 = .ok (.goto 4, 3) := by decide +kernel
theorem dX12_estateOf_31 : decode cX12_estateOf 31 = .ok (.iconst 1, 1) := by decide +kernel
theorem dX12_estateOf_32 : decode cX12_estateOf 32 = .ok (.istore 6, 2) := by decide +kernel
theorem dX12_estateOf_34 : decode cX12_estateOf 34 = .ok (.iload 6, 2) := by decide +kernel
theorem dX12_estateOf_36 : decode cX12_estateOf 36 = .ok (.iconst 2, 1) := by decide +kernel
theorem dX12_estateOf_37 : decode cX12_estateOf 37 = .ok (.if_icmp .ne 13, 3) := by decide +kernel
theorem dX12_estateOf_40 : decode cX12_estateOf 40 = .ok (.lload 4, 2) := by decide +kernel
theorem dX12_estateOf_42 : decode cX12_estateOf 42 = .ok (.aload_n 0, 1) := by decide +kernel
theorem dX12_estateOf_43 : decode cX12_estateOf 43 = .ok (.iconst 1, 1) := by decide +kernel
theorem dX12_estateOf_44 : decode cX12_estateOf 44 = .ok (.invokevirtual 404, 3) := by decide +kernel
theorem dX12_estateOf_47 : decode cX12_estateOf 47 = .ok (.lsub, 1) := by decide +kernel
theorem dX12_estateOf_48 : decode cX12_estateOf 48 = .ok (.lstore 4, 2) := by decide +kernel
theorem dX12_estateOf_50 : decode cX12_estateOf 50 = .ok (.lload 4, 2) := by decide +kernel
theorem dX12_estateOf_52 : decode cX12_estateOf 52 = .ok (.lconst 0, 1) := by decide +kernel
theorem dX12_estateOf_53 : decode cX12_estateOf 53 = .ok (.lcmp, 1) := by decide +kernel
theorem dX12_estateOf_54 : decode cX12_estateOf 54 = .ok (.ifCond .gt 5, 3) := by decide +kernel
theorem dX12_estateOf_57 : decode cX12_estateOf 57 = .ok (.lconst 0, 1) := by decide +kernel
theorem dX12_estateOf_58 : decode cX12_estateOf 58 = .ok (.lreturn, 1) := by decide +kernel
theorem dX12_estateOf_59 : decode cX12_estateOf 59 = .ok (.aload_n 0, 1) := by decide +kernel
theorem dX12_estateOf_60 : decode cX12_estateOf 60 = .ok (.iload 6, 2) := by decide +kernel
theorem dX12_estateOf_62 : decode cX12_estateOf 62 = .ok (.invokevirtual 404, 3) := by decide +kernel
theorem dX12_estateOf_65 : decode cX12_estateOf 65 = .ok (.lstore 7, 2) := by decide +kernel
theorem dX12_estateOf_67 : decode cX12_estateOf 67 = .ok (.lload 4, 2) := by decide +kernel
theorem dX12_estateOf_69 : decode cX12_estateOf 69 = .ok (.lload 7, 2) := by decide +kernel
theorem dX12_estateOf_71 : decode cX12_estateOf 71 = .ok (.lcmp, 1) := by decide +kernel
theorem dX12_estateOf_72 : decode cX12_estateOf 72 = .ok (.ifCond .lt 9, 3) := by decide +kernel
theorem dX12_estateOf_75 : decode cX12_estateOf 75 = .ok (.aload_n 0, 1) := by decide +kernel
theorem dX12_estateOf_76 : decode cX12_estateOf 76 = .ok (.iload_n 3, 1) := by decide +kernel
theorem dX12_estateOf_77 : decode cX12_estateOf 77 = .ok (.invokevirtual 392, 3) := by decide +kernel
theorem dX12_estateOf_80 : decode cX12_estateOf 80 = .ok (.lreturn, 1) := by decide +kernel
theorem dX12_estateOf_81 : decode cX12_estateOf 81 = .ok (.lconst 0, 1) := by decide +kernel
theorem dX12_estateOf_82 : decode cX12_estateOf 82 = .ok (.lstore 9, 2) := by decide +kernel
theorem dX12_estateOf_84 : decode cX12_estateOf 84 = .ok (.iconst 0, 1) := by decide +kernel
theorem dX12_estateOf_85 : decode cX12_estateOf 85 = .ok (.istore 11, 2) := by decide +kernel
theorem dX12_estateOf_87 : decode cX12_estateOf 87 = .ok (.iload 11, 2) := by decide +kernel
theorem dX12_estateOf_89 : decode cX12_estateOf 89 = .ok (.iload_n 3, 1) := by decide +kernel
theorem dX12_estateOf_90 : decode cX12_estateOf 90 = .ok (.if_icmp .ge 40, 3) := by decide +kernel
theorem dX12_estateOf_93 : decode cX12_estateOf 93 = .ok (.lload 9, 2) := by decide +kernel
theorem dX12_estateOf_95 : decode cX12_estateOf 95 = .ok (.aload_n 0, 1) := by decide +kernel
theorem dX12_estateOf_96 : decode cX12_estateOf 96 = .ok (.getfield 118, 3) := by decide +kernel
theorem dX12_estateOf_99 : decode cX12_estateOf 99 = .ok (.iload 11, 2) := by decide +kernel
theorem dX12_estateOf_101 : decode cX12_estateOf 101 = .ok (.baload, 1) := by decide +kernel
theorem dX12_estateOf_102 : decode cX12_estateOf 102 = .ok (.aload_n 0, 1) := by decide +kernel
theorem dX12_estateOf_103 : decode cX12_estateOf 103 = .ok (.getfield 118, 3) := by decide +kernel
theorem dX12_estateOf_106 : decode cX12_estateOf 106 = .ok (.iload_n 3, 1) := by decide +kernel
theorem dX12_estateOf_107 : decode cX12_estateOf 107 = .ok (.baload, 1) := by decide +kernel
theorem dX12_estateOf_108 : decode cX12_estateOf 108 = .ok (.if_icmp .ne 12, 3) := by decide +kernel
theorem dX12_estateOf_111 : decode cX12_estateOf 111 = .ok (.aload_n 0, 1) := by decide +kernel
theorem dX12_estateOf_112 : decode cX12_estateOf 112 = .ok (.iload 11, 2) := by decide +kernel
theorem dX12_estateOf_114 : decode cX12_estateOf 114 = .ok (.invokevirtual 392, 3) := by decide +kernel
theorem dX12_estateOf_117 : decode cX12_estateOf 117 = .ok (.goto 4, 3) := by decide +kernel
theorem dX12_estateOf_120 : decode cX12_estateOf 120 = .ok (.lconst 0, 1) := by decide +kernel
theorem dX12_estateOf_121 : decode cX12_estateOf 121 = .ok (.ladd, 1) := by decide +kernel
theorem dX12_estateOf_122 : decode cX12_estateOf 122 = .ok (.lstore 9, 2) := by decide +kernel
theorem dX12_estateOf_124 : decode cX12_estateOf 124 = .ok (.iinc 11 1, 3) := by decide +kernel
theorem dX12_estateOf_127 : decode cX12_estateOf 127 = .ok (.goto (-40), 3) := by decide +kernel
theorem dX12_estateOf_130 : decode cX12_estateOf 130 = .ok (.lload 4, 2) := by decide +kernel
theorem dX12_estateOf_132 : decode cX12_estateOf 132 = .ok (.lload 9, 2) := by decide +kernel
theorem dX12_estateOf_134 : decode cX12_estateOf 134 = .ok (.aload_n 0, 1) := by decide +kernel
theorem dX12_estateOf_135 : decode cX12_estateOf 135 = .ok (.iload_n 3, 1) := by decide +kernel
theorem dX12_estateOf_136 : decode cX12_estateOf 136 = .ok (.invokevirtual 392, 3) := by decide +kernel
theorem dX12_estateOf_139 : decode cX12_estateOf 139 = .ok (.ladd, 1) := by decide +kernel
theorem dX12_estateOf_140 : decode cX12_estateOf 140 = .ok (.lmul, 1) := by decide +kernel
theorem dX12_estateOf_141 : decode cX12_estateOf 141 = .ok (.lload 7, 2) := by decide +kernel
theorem dX12_estateOf_143 : decode cX12_estateOf 143 = .ok (.ldiv, 1) := by decide +kernel
theorem dX12_estateOf_144 : decode cX12_estateOf 144 = .ok (.lload 4, 2) := by decide +kernel
theorem dX12_estateOf_146 : decode cX12_estateOf 146 = .ok (.lload 9, 2) := by decide +kernel
theorem dX12_estateOf_148 : decode cX12_estateOf 148 = .ok (.lmul, 1) := by decide +kernel
theorem dX12_estateOf_149 : decode cX12_estateOf 149 = .ok (.lload 7, 2) := by decide +kernel
theorem dX12_estateOf_151 : decode cX12_estateOf 151 = .ok (.ldiv, 1) := by decide +kernel
theorem dX12_estateOf_152 : decode cX12_estateOf 152 = .ok (.lsub, 1) := by decide +kernel
theorem dX12_estateOf_153 : decode cX12_estateOf 153 = .ok (.lreturn, 1) := by decide +kernel
theorem dX12_replaceable_0 : decode cX12_replaceable 0 = .ok (.aload_n 0, 1) := by decide +kernel
theorem dX12_replaceable_1 : decode cX12_replaceable 1 = .ok (.getfield 340, 3) := by decide +kernel
theorem dX12_replaceable_4 : decode cX12_replaceable 4 = .ok (.istore_n 1, 1) := by decide +kernel
theorem dX12_replaceable_5 : decode cX12_replaceable 5 = .ok (.iconst 0, 1) := by decide +kernel
theorem dX12_replaceable_6 : decode cX12_replaceable 6 = .ok (.istore_n 2, 1) := by decide +kernel
theorem dX12_replaceable_7 : decode cX12_replaceable 7 = .ok (.iload_n 2, 1) := by decide +kernel
theorem dX12_replaceable_8 : decode cX12_replaceable 8 = .ok (.bipush 30, 2) := by decide +kernel
theorem dX12_replaceable_10 : decode cX12_replaceable 10 = .ok (.if_icmp .ge 71, 3) := by decide +kernel
theorem dX12_replaceable_13 : decode cX12_replaceable 13 = .ok (.aload_n 0, 1) := by decide +kernel
theorem dX12_replaceable_14 : decode cX12_replaceable 14 = .ok (.getfield 88, 3) := by decide +kernel
theorem dX12_replaceable_17 : decode cX12_replaceable 17 = .ok (.bipush 10, 2) := by decide +kernel
theorem dX12_replaceable_19 : decode cX12_replaceable 19 = .ok (.iconst 2, 1) := by decide +kernel
theorem dX12_replaceable_20 : decode cX12_replaceable 20 = .ok (.iload_n 2, 1) := by decide +kernel
theorem dX12_replaceable_21 : decode cX12_replaceable 21 = .ok (.imul, 1) := by decide +kernel
theorem dX12_replaceable_22 : decode cX12_replaceable 22 = .ok (.iadd, 1) := by decide +kernel
theorem dX12_replaceable_23 : decode cX12_replaceable 23 = .ok (.iaload, 1) := by decide +kernel
theorem dX12_replaceable_24 : decode cX12_replaceable 24 = .ok (.istore_n 3, 1) := by decide +kernel
theorem dX12_replaceable_25 : decode cX12_replaceable 25 = .ok (.aload_n 0, 1) := by decide +kernel
theorem dX12_replaceable_26 : decode cX12_replaceable 26 = .ok (.getfield 88, 3) := by decide +kernel
theorem dX12_replaceable_29 : decode cX12_replaceable 29 = .ok (.bipush 10, 2) := by decide +kernel
theorem dX12_replaceable_31 : decode cX12_replaceable 31 = .ok (.iconst 2, 1) := by decide +kernel
theorem dX12_replaceable_32 : decode cX12_replaceable 32 = .ok (.iload_n 2, 1) := by decide +kernel
theorem dX12_replaceable_33 : decode cX12_replaceable 33 = .ok (.imul, 1) := by decide +kernel
theorem dX12_replaceable_34 : decode cX12_replaceable 34 = .ok (.iadd, 1) := by decide +kernel
theorem dX12_replaceable_35 : decode cX12_replaceable 35 = .ok (.aload_n 0, 1) := by decide +kernel
theorem dX12_replaceable_36 : decode cX12_replaceable 36 = .ok (.getfield 88, 3) := by decide +kernel
theorem dX12_replaceable_39 : decode cX12_replaceable 39 = .ok (.bipush 10, 2) := by decide +kernel
theorem dX12_replaceable_41 : decode cX12_replaceable 41 = .ok (.iconst 2, 1) := by decide +kernel
theorem dX12_replaceable_42 : decode cX12_replaceable 42 = .ok (.iload_n 2, 1) := by decide +kernel
theorem dX12_replaceable_43 : decode cX12_replaceable 43 = .ok (.imul, 1) := by decide +kernel
theorem dX12_replaceable_44 : decode cX12_replaceable 44 = .ok (.iadd, 1) := by decide +kernel
theorem dX12_replaceable_45 : decode cX12_replaceable 45 = .ok (.iconst 1, 1) := by decide +kernel
theorem dX12_replaceable_46 : decode cX12_replaceable 46 = .ok (.iadd, 1) := by decide +kernel
theorem dX12_replaceable_47 : decode cX12_replaceable 47 = .ok (.iaload, 1) := by decide +kernel
theorem dX12_replaceable_48 : decode cX12_replaceable 48 = .ok (.iastore, 1) := by decide +kernel
theorem dX12_replaceable_49 : decode cX12_replaceable 49 = .ok (.aload_n 0, 1) := by decide +kernel
theorem dX12_replaceable_50 : decode cX12_replaceable 50 = .ok (.invokevirtual 346, 3) := by decide +kernel
theorem dX12_replaceable_53 : decode cX12_replaceable 53 = .ok (.aload_n 0, 1) := by decide +kernel
theorem dX12_replaceable_54 : decode cX12_replaceable 54 = .ok (.getfield 88, 3) := by decide +kernel
theorem dX12_replaceable_57 : decode cX12_replaceable 57 = .ok (.bipush 10, 2) := by decide +kernel
theorem dX12_replaceable_59 : decode cX12_replaceable 59 = .ok (.iconst 2, 1) := by decide +kernel
theorem dX12_replaceable_60 : decode cX12_replaceable 60 = .ok (.iload_n 2, 1) := by decide +kernel
theorem dX12_replaceable_61 : decode cX12_replaceable 61 = .ok (.imul, 1) := by decide +kernel
theorem dX12_replaceable_62 : decode cX12_replaceable 62 = .ok (.iadd, 1) := by decide +kernel
theorem dX12_replaceable_63 : decode cX12_replaceable 63 = .ok (.iload_n 3, 1) := by decide +kernel
theorem dX12_replaceable_64 : decode cX12_replaceable 64 = .ok (.iastore, 1) := by decide +kernel
theorem dX12_replaceable_65 : decode cX12_replaceable 65 = .ok (.aload_n 0, 1) := by decide +kernel
theorem dX12_replaceable_66 : decode cX12_replaceable 66 = .ok (.getfield 340, 3) := by decide +kernel
theorem dX12_replaceable_69 : decode cX12_replaceable 69 = .ok (.iload_n 1, 1) := by decide +kernel
theorem dX12_replaceable_70 : decode cX12_replaceable 70 = .ok (.if_icmp .ne 5, 3) := by decide +kernel
theorem dX12_replaceable_73 : decode cX12_replaceable 73 = .ok (.iload_n 2, 1) := by decide +kernel
theorem dX12_replaceable_74 : decode cX12_replaceable 74 = .ok (.ireturn, 1) := by decide +kernel
theorem dX12_replaceable_75 : decode cX12_replaceable 75 = .ok (.iinc 2 1, 3) := by decide +kernel
theorem dX12_replaceable_78 : decode cX12_replaceable 78 = .ok (.goto (-71), 3) := by decide +kernel
theorem dX12_replaceable_81 : decode cX12_replaceable 81 = .ok (.iconst 0, 1) := by decide +kernel
theorem dX12_replaceable_82 : decode cX12_replaceable 82 = .ok (.ireturn, 1) := by decide +kernel
theorem dX12_join_0 : decode cX12_join 0 = .ok (.aload_n 0, 1) := by decide +kernel
theorem dX12_join_1 : decode cX12_join 1 = .ok (.iconst 0, 1) := by decide +kernel
theorem dX12_join_2 : decode cX12_join 2 = .ok (.putfield 123, 3) := by decide +kernel
theorem dX12_join_5 : decode cX12_join 5 = .ok (.aload_n 0, 1) := by decide +kernel
theorem dX12_join_6 : decode cX12_join 6 = .ok (.iload_n 1, 1) := by decide +kernel
theorem dX12_join_7 : decode cX12_join 7 = .ok (.iload_n 2, 1) := by decide +kernel
theorem dX12_join_8 : decode cX12_join 8 = .ok (.invokevirtual 434, 3) := by decide +kernel
theorem dX12_join_11 : decode cX12_join 11 = .ok (.ifCond .eq 15, 3) := by decide +kernel
theorem dX12_join_14 : decode cX12_join 14 = .ok (.aload_n 0, 1) := by decide +kernel
theorem dX12_join_15 : decode cX12_join 15 = .ok (.getfield 88, 3) := by decide +kernel
theorem dX12_join_18 : decode cX12_join 18 = .ok (.bipush 70, 2) := by decide +kernel
theorem dX12_join_20 : decode cX12_join 20 = .ok (.iaload, 1) := by decide +kernel
theorem dX12_join_21 : decode cX12_join 21 = .ok (.bipush 30, 2) := by decide +kernel
theorem dX12_join_23 : decode cX12_join 23 = .ok (.if_icmp .ne 5, 3) := by decide +kernel
theorem dX12_join_26 : decode cX12_join 26 = .ok (.iconst (-1), 1) := by decide +kernel
theorem dX12_join_27 : decode cX12_join 27 = .ok (.ireturn, 1) := by decide +kernel
theorem dX12_join_28 : decode cX12_join 28 = .ok (.aload_n 0, 1) := by decide +kernel
theorem dX12_join_29 : decode cX12_join 29 = .ok (.invokevirtual 442, 3) := by decide +kernel
theorem dX12_join_32 : decode cX12_join 32 = .ok (.aload_n 0, 1) := by decide +kernel
theorem dX12_join_33 : decode cX12_join 33 = .ok (.getfield 88, 3) := by decide +kernel
theorem dX12_join_36 : decode cX12_join 36 = .ok (.bipush 10, 2) := by decide +kernel
theorem dX12_join_38 : decode cX12_join 38 = .ok (.iconst 2, 1) := by decide +kernel
theorem dX12_join_39 : decode cX12_join 39 = .ok (.aload_n 0, 1) := by decide +kernel
theorem dX12_join_40 : decode cX12_join 40 = .ok (.getfield 88, 3) := by decide +kernel
theorem dX12_join_43 : decode cX12_join 43 = .ok (.bipush 70, 2) := by decide +kernel
theorem dX12_join_45 : decode cX12_join 45 = .ok (.iaload, 1) := by decide +kernel
theorem dX12_join_46 : decode cX12_join 46 = .ok (.imul, 1) := by decide +kernel
theorem dX12_join_47 : decode cX12_join 47 = .ok (.iadd, 1) := by decide +kernel
theorem dX12_join_48 : decode cX12_join 48 = .ok (.iload_n 1, 1) := by decide +kernel
theorem dX12_join_49 : decode cX12_join 49 = .ok (.iastore, 1) := by decide +kernel
theorem dX12_join_50 : decode cX12_join 50 = .ok (.aload_n 0, 1) := by decide +kernel
theorem dX12_join_51 : decode cX12_join 51 = .ok (.getfield 88, 3) := by decide +kernel
theorem dX12_join_54 : decode cX12_join 54 = .ok (.bipush 10, 2) := by decide +kernel
theorem dX12_join_56 : decode cX12_join 56 = .ok (.iconst 2, 1) := by decide +kernel
theorem dX12_join_57 : decode cX12_join 57 = .ok (.aload_n 0, 1) := by decide +kernel
theorem dX12_join_58 : decode cX12_join 58 = .ok (.getfield 88, 3) := by decide +kernel
theorem dX12_join_61 : decode cX12_join 61 = .ok (.bipush 70, 2) := by decide +kernel
theorem dX12_join_63 : decode cX12_join 63 = .ok (.iaload, 1) := by decide +kernel
theorem dX12_join_64 : decode cX12_join 64 = .ok (.imul, 1) := by decide +kernel
theorem dX12_join_65 : decode cX12_join 65 = .ok (.iadd, 1) := by decide +kernel
theorem dX12_join_66 : decode cX12_join 66 = .ok (.iconst 1, 1) := by decide +kernel
theorem dX12_join_67 : decode cX12_join 67 = .ok (.iadd, 1) := by decide +kernel
theorem dX12_join_68 : decode cX12_join 68 = .ok (.iload_n 2, 1) := by decide +kernel
theorem dX12_join_69 : decode cX12_join 69 = .ok (.iastore, 1) := by decide +kernel
theorem dX12_join_70 : decode cX12_join 70 = .ok (.aload_n 0, 1) := by decide +kernel
theorem dX12_join_71 : decode cX12_join 71 = .ok (.getfield 88, 3) := by decide +kernel
theorem dX12_join_74 : decode cX12_join 74 = .ok (.bipush 70, 2) := by decide +kernel
theorem dX12_join_76 : decode cX12_join 76 = .ok (.dup2, 1) := by decide +kernel
theorem dX12_join_77 : decode cX12_join 77 = .ok (.iaload, 1) := by decide +kernel
theorem dX12_join_78 : decode cX12_join 78 = .ok (.iconst 1, 1) := by decide +kernel
theorem dX12_join_79 : decode cX12_join 79 = .ok (.iadd, 1) := by decide +kernel
theorem dX12_join_80 : decode cX12_join 80 = .ok (.iastore, 1) := by decide +kernel
theorem dX12_join_81 : decode cX12_join 81 = .ok (.aload_n 0, 1) := by decide +kernel
theorem dX12_join_82 : decode cX12_join 82 = .ok (.invokevirtual 346, 3) := by decide +kernel
theorem dX12_join_85 : decode cX12_join 85 = .ok (.aload_n 0, 1) := by decide +kernel
theorem dX12_join_86 : decode cX12_join 86 = .ok (.getfield 340, 3) := by decide +kernel
theorem dX12_join_89 : decode cX12_join 89 = .ok (.ireturn, 1) := by decide +kernel
theorem dX12_deepOf_0 : decode cX12_deepOf 0 = .ok (.iconst 1, 1) := by decide +kernel
theorem dX12_deepOf_1 : decode cX12_deepOf 1 = .ok (.istore_n 2, 1) := by decide +kernel
theorem dX12_deepOf_2 : decode cX12_deepOf 2 = .ok (.iconst 0, 1) := by decide +kernel
theorem dX12_deepOf_3 : decode cX12_deepOf 3 = .ok (.istore_n 3, 1) := by decide +kernel
theorem dX12_deepOf_4 : decode cX12_deepOf 4 = .ok (.iload_n 3, 1) := by decide +kernel
theorem dX12_deepOf_5 : decode cX12_deepOf 5 = .ok (.aload_n 0, 1) := by decide +kernel
theorem dX12_deepOf_6 : decode cX12_deepOf 6 = .ok (.getfield 52, 3) := by decide +kernel
theorem dX12_deepOf_9 : decode cX12_deepOf 9 = .ok (.iload_n 1, 1) := by decide +kernel
theorem dX12_deepOf_10 : decode cX12_deepOf 10 = .ok (.iaload, 1) := by decide +kernel
theorem dX12_deepOf_11 : decode cX12_deepOf 11 = .ok (.if_icmp .ge 58, 3) := by decide +kernel
theorem dX12_deepOf_14 : decode cX12_deepOf 14 = .ok (.aload_n 0, 1) := by decide +kernel
theorem dX12_deepOf_15 : decode cX12_deepOf 15 = .ok (.getfield 55, 3) := by decide +kernel
theorem dX12_deepOf_18 : decode cX12_deepOf 18 = .ok (.iconst 5, 1) := by decide +kernel
theorem dX12_deepOf_19 : decode cX12_deepOf 19 = .ok (.iload_n 1, 1) := by decide +kernel
theorem dX12_deepOf_20 : decode cX12_deepOf 20 = .ok (.imul, 1) := by decide +kernel
theorem dX12_deepOf_21 : decode cX12_deepOf 21 = .ok (.iload_n 3, 1) := by decide +kernel
theorem dX12_deepOf_22 : decode cX12_deepOf 22 = .ok (.iadd, 1) := by decide +kernel
theorem dX12_deepOf_23 : decode cX12_deepOf 23 = .ok (.iaload, 1) := by decide +kernel
theorem dX12_deepOf_24 : decode cX12_deepOf 24 = .ok (.istore 4, 2) := by decide +kernel
theorem dX12_deepOf_26 : decode cX12_deepOf 26 = .ok (.iload 4, 2) := by decide +kernel
theorem dX12_deepOf_28 : decode cX12_deepOf 28 = .ok (.bipush 16, 2) := by decide +kernel
theorem dX12_deepOf_30 : decode cX12_deepOf 30 = .ok (.if_icmp .ge 7, 3) := by decide +kernel
theorem dX12_deepOf_33 : decode cX12_deepOf 33 = .ok (.iconst 1, 1) := by decide +kernel
theorem dX12_deepOf_34 : decode cX12_deepOf 34 = .ok (.goto 14, 3) := by decide +kernel
theorem dX12_deepOf_37 : decode cX12_deepOf 37 = .ok (.iconst 1, 1) := by decide +kernel
theorem dX12_deepOf_38 : decode cX12_deepOf 38 = .ok (.aload_n 0, 1) := by decide +kernel
theorem dX12_deepOf_39 : decode cX12_deepOf 39 = .ok (.iload 4, 2) := by decide +kernel
theorem dX12_deepOf_41 : decode cX12_deepOf 41 = .ok (.bipush 16, 2) := by decide +kernel
theorem dX12_deepOf_43 : decode cX12_deepOf 43 = .ok (.isub, 1) := by decide +kernel
theorem dX12_deepOf_44 : decode cX12_deepOf 44 = .ok (.invokevirtual 317, 3) := by decide +kernel
theorem dX12_deepOf_47 : decode cX12_deepOf 47 = .ok (.iadd, 1) := by decide +kernel
theorem dX12_deepOf_48 : decode cX12_deepOf 48 = .ok (.istore 5, 2) := by decide +kernel
theorem dX12_deepOf_50 : decode cX12_deepOf 50 = .ok (.iload 5, 2) := by decide +kernel
theorem dX12_deepOf_52 : decode cX12_deepOf 52 = .ok (.iload_n 2, 1) := by decide +kernel
theorem dX12_deepOf_53 : decode cX12_deepOf 53 = .ok (.if_icmp .le 8, 3) := by decide +kernel
theorem dX12_deepOf_56 : decode cX12_deepOf 56 = .ok (.iload 5, 2) := by decide +kernel
theorem dX12_deepOf_58 : decode cX12_deepOf 58 = .ok (.goto 4, 3) := by decide +kernel
theorem dX12_deepOf_61 : decode cX12_deepOf 61 = .ok (.iload_n 2, 1) := by decide +kernel
theorem dX12_deepOf_62 : decode cX12_deepOf 62 = .ok (.istore_n 2, 1) := by decide +kernel
theorem dX12_deepOf_63 : decode cX12_deepOf 63 = .ok (.iinc 3 1, 3) := by decide +kernel
theorem dX12_deepOf_66 : decode cX12_deepOf 66 = .ok (.goto (-62), 3) := by decide +kernel
theorem dX12_deepOf_69 : decode cX12_deepOf 69 = .ok (.iload_n 2, 1) := by decide +kernel
theorem dX12_deepOf_70 : decode cX12_deepOf 70 = .ok (.ireturn, 1) := by decide +kernel
theorem dX12_waysOf_0 : decode cX12_waysOf 0 = .ok (.iconst 0, 1) := by decide +kernel
theorem dX12_waysOf_1 : decode cX12_waysOf 1 = .ok (.istore_n 3, 1) := by decide +kernel
theorem dX12_waysOf_2 : decode cX12_waysOf 2 = .ok (.iconst 0, 1) := by decide +kernel
theorem dX12_waysOf_3 : decode cX12_waysOf 3 = .ok (.istore 4, 2) := by decide +kernel
theorem dX12_waysOf_5 : decode cX12_waysOf 5 = .ok (.iload 4, 2) := by decide +kernel
theorem dX12_waysOf_7 : decode cX12_waysOf 7 = .ok (.aload_n 0, 1) := by decide +kernel
theorem dX12_waysOf_8 : decode cX12_waysOf 8 = .ok (.getfield 52, 3) := by decide +kernel
theorem dX12_waysOf_11 : decode cX12_waysOf 11 = .ok (.iload_n 1, 1) := by decide +kernel
theorem dX12_waysOf_12 : decode cX12_waysOf 12 = .ok (.iaload, 1) := by decide +kernel
theorem dX12_waysOf_13 : decode cX12_waysOf 13 = .ok (.if_icmp .ge 56, 3) := by decide +kernel
theorem dX12_waysOf_16 : decode cX12_waysOf 16 = .ok (.aload_n 0, 1) := by decide +kernel
theorem dX12_waysOf_17 : decode cX12_waysOf 17 = .ok (.getfield 55, 3) := by decide +kernel
theorem dX12_waysOf_20 : decode cX12_waysOf 20 = .ok (.iconst 5, 1) := by decide +kernel
theorem dX12_waysOf_21 : decode cX12_waysOf 21 = .ok (.iload_n 1, 1) := by decide +kernel
theorem dX12_waysOf_22 : decode cX12_waysOf 22 = .ok (.imul, 1) := by decide +kernel
theorem dX12_waysOf_23 : decode cX12_waysOf 23 = .ok (.iload 4, 2) := by decide +kernel
theorem dX12_waysOf_25 : decode cX12_waysOf 25 = .ok (.iadd, 1) := by decide +kernel
theorem dX12_waysOf_26 : decode cX12_waysOf 26 = .ok (.iaload, 1) := by decide +kernel
theorem dX12_waysOf_27 : decode cX12_waysOf 27 = .ok (.istore 5, 2) := by decide +kernel
theorem dX12_waysOf_29 : decode cX12_waysOf 29 = .ok (.iload_n 3, 1) := by decide +kernel
theorem dX12_waysOf_30 : decode cX12_waysOf 30 = .ok (.iload 5, 2) := by decide +kernel
theorem dX12_waysOf_32 : decode cX12_waysOf 32 = .ok (.iload_n 2, 1) := by decide +kernel
theorem dX12_waysOf_33 : decode cX12_waysOf 33 = .ok (.if_icmp .ne 7, 3) := by decide +kernel
theorem dX12_waysOf_36 : decode cX12_waysOf 36 = .ok (.iconst 1, 1) := by decide +kernel
theorem dX12_waysOf_37 : decode cX12_waysOf 37 = .ok (.goto 24, 3) := by decide +kernel
theorem dX12_waysOf_40 : decode cX12_waysOf 40 = .ok (.iload 5, 2) := by decide +kernel
theorem dX12_waysOf_42 : decode cX12_waysOf 42 = .ok (.bipush 16, 2) := by decide +kernel
theorem dX12_waysOf_44 : decode cX12_waysOf 44 = .ok (.if_icmp .lt 16, 3) := by decide +kernel
theorem dX12_waysOf_47 : decode cX12_waysOf 47 = .ok (.aload_n 0, 1) := by decide +kernel
theorem dX12_waysOf_48 : decode cX12_waysOf 48 = .ok (.iload 5, 2) := by decide +kernel
theorem dX12_waysOf_50 : decode cX12_waysOf 50 = .ok (.bipush 16, 2) := by decide +kernel
theorem dX12_waysOf_52 : decode cX12_waysOf 52 = .ok (.isub, 1) := by decide +kernel
theorem dX12_waysOf_53 : decode cX12_waysOf 53 = .ok (.iload_n 2, 1) := by decide +kernel
theorem dX12_waysOf_54 : decode cX12_waysOf 54 = .ok (.invokevirtual 320, 3) := by decide +kernel
theorem dX12_waysOf_57 : decode cX12_waysOf 57 = .ok (.goto 4, 3) := by decide +kernel
theorem dX12_waysOf_60 : decode cX12_waysOf 60 = .ok (.iconst 0, 1) := by decide +kernel
theorem dX12_waysOf_61 : decode cX12_waysOf 61 = .ok (.iadd, 1) := by decide +kernel
theorem dX12_waysOf_62 : decode cX12_waysOf 62 = .ok (.istore_n 3, 1) := by decide +kernel
theorem dX12_waysOf_63 : decode cX12_waysOf 63 = .ok (.iinc 4 1, 3) := by decide +kernel
theorem dX12_waysOf_66 : decode cX12_waysOf 66 = .ok (.goto (-61), 3) := by decide +kernel
theorem dX12_waysOf_69 : decode cX12_waysOf 69 = .ok (.iload_n 3, 1) := by decide +kernel
theorem dX12_waysOf_70 : decode cX12_waysOf 70 = .ok (.ireturn, 1) := by decide +kernel
theorem dX12_fails_0 : decode cX12_fails 0 = .ok (.aload_n 0, 1) := by decide +kernel
theorem dX12_fails_1 : decode cX12_fails 1 = .ok (.iload_n 1, 1) := by decide +kernel
theorem dX12_fails_2 : decode cX12_fails 2 = .ok (.invokevirtual 311, 3) := by decide +kernel
theorem dX12_fails_5 : decode cX12_fails 5 = .ok (.ifCond .ne 5, 3) := by decide +kernel
theorem dX12_fails_8 : decode cX12_fails 8 = .ok (.iconst 1, 1) := by decide +kernel
theorem dX12_fails_9 : decode cX12_fails 9 = .ok (.ireturn, 1) := by decide +kernel
theorem dX12_fails_10 : decode cX12_fails 10 = .ok (.iconst 0, 1) := by decide +kernel
theorem dX12_fails_11 : decode cX12_fails 11 = .ok (.istore_n 2, 1) := by decide +kernel
theorem dX12_fails_12 : decode cX12_fails 12 = .ok (.iload_n 2, 1) := by decide +kernel
theorem dX12_fails_13 : decode cX12_fails 13 = .ok (.aload_n 0, 1) := by decide +kernel
theorem dX12_fails_14 : decode cX12_fails 14 = .ok (.getfield 52, 3) := by decide +kernel
theorem dX12_fails_17 : decode cX12_fails 17 = .ok (.iload_n 1, 1) := by decide +kernel
theorem dX12_fails_18 : decode cX12_fails 18 = .ok (.iaload, 1) := by decide +kernel
theorem dX12_fails_19 : decode cX12_fails 19 = .ok (.if_icmp .ge 46, 3) := by decide +kernel
theorem dX12_fails_22 : decode cX12_fails 22 = .ok (.aload_n 0, 1) := by decide +kernel
theorem dX12_fails_23 : decode cX12_fails 23 = .ok (.getfield 55, 3) := by decide +kernel
theorem dX12_fails_26 : decode cX12_fails 26 = .ok (.iconst 5, 1) := by decide +kernel
theorem dX12_fails_27 : decode cX12_fails 27 = .ok (.iload_n 1, 1) := by decide +kernel
theorem dX12_fails_28 : decode cX12_fails 28 = .ok (.imul, 1) := by decide +kernel
theorem dX12_fails_29 : decode cX12_fails 29 = .ok (.iload_n 2, 1) := by decide +kernel
theorem dX12_fails_30 : decode cX12_fails 30 = .ok (.iadd, 1) := by decide +kernel
theorem dX12_fails_31 : decode cX12_fails 31 = .ok (.iaload, 1) := by decide +kernel
theorem dX12_fails_32 : decode cX12_fails 32 = .ok (.bipush 16, 2) := by decide +kernel
theorem dX12_fails_34 : decode cX12_fails 34 = .ok (.if_icmp .lt 25, 3) := by decide +kernel
theorem dX12_fails_37 : decode cX12_fails 37 = .ok (.aload_n 0, 1) := by decide +kernel
theorem dX12_fails_38 : decode cX12_fails 38 = .ok (.aload_n 0, 1) := by decide +kernel
theorem dX12_fails_39 : decode cX12_fails 39 = .ok (.getfield 55, 3) := by decide +kernel
theorem dX12_fails_42 : decode cX12_fails 42 = .ok (.iconst 5, 1) := by decide +kernel
theorem dX12_fails_43 : decode cX12_fails 43 = .ok (.iload_n 1, 1) := by decide +kernel
theorem dX12_fails_44 : decode cX12_fails 44 = .ok (.imul, 1) := by decide +kernel
theorem dX12_fails_45 : decode cX12_fails 45 = .ok (.iload_n 2, 1) := by decide +kernel
theorem dX12_fails_46 : decode cX12_fails 46 = .ok (.iadd, 1) := by decide +kernel
theorem dX12_fails_47 : decode cX12_fails 47 = .ok (.iaload, 1) := by decide +kernel
theorem dX12_fails_48 : decode cX12_fails 48 = .ok (.bipush 16, 2) := by decide +kernel
theorem dX12_fails_50 : decode cX12_fails 50 = .ok (.isub, 1) := by decide +kernel
theorem dX12_fails_51 : decode cX12_fails 51 = .ok (.invokevirtual 314, 3) := by decide +kernel
theorem dX12_fails_54 : decode cX12_fails 54 = .ok (.ifCond .eq 5, 3) := by decide +kernel
theorem dX12_fails_57 : decode cX12_fails 57 = .ok (.iconst 1, 1) := by decide +kernel
theorem dX12_fails_58 : decode cX12_fails 58 = .ok (.ireturn, 1) := by decide +kernel
theorem dX12_fails_59 : decode cX12_fails 59 = .ok (.iinc 2 1, 3) := by decide +kernel
theorem dX12_fails_62 : decode cX12_fails 62 = .ok (.goto (-50), 3) := by decide +kernel
theorem dX12_fails_65 : decode cX12_fails 65 = .ok (.iconst 0, 1) := by decide +kernel
theorem dX12_fails_66 : decode cX12_fails 66 = .ok (.ireturn, 1) := by decide +kernel
theorem dX12_gives_0 : decode cX12_gives 0 = .ok (.aload_n 0, 1) := by decide +kernel
theorem dX12_gives_1 : decode cX12_gives 1 = .ok (.iload_n 1, 1) := by decide +kernel
theorem dX12_gives_2 : decode cX12_gives 2 = .ok (.invokevirtual 311, 3) := by decide +kernel
theorem dX12_gives_5 : decode cX12_gives 5 = .ok (.istore 4, 2) := by decide +kernel
theorem dX12_gives_7 : decode cX12_gives 7 = .ok (.iconst 0, 1) := by decide +kernel
theorem dX12_gives_8 : decode cX12_gives 8 = .ok (.istore 5, 2) := by decide +kernel
theorem dX12_gives_10 : decode cX12_gives 10 = .ok (.lconst 0, 1) := by decide +kernel
theorem dX12_gives_11 : decode cX12_gives 11 = .ok (.lstore 6, 2) := by decide +kernel
theorem dX12_gives_13 : decode cX12_gives 13 = .ok (.iconst 0, 1) := by decide +kernel
theorem dX12_gives_14 : decode cX12_gives 14 = .ok (.istore 8, 2) := by decide +kernel
theorem dX12_gives_16 : decode cX12_gives 16 = .ok (.iload 8, 2) := by decide +kernel
theorem dX12_gives_18 : decode cX12_gives 18 = .ok (.aload_n 0, 1) := by decide +kernel
theorem dX12_gives_19 : decode cX12_gives 19 = .ok (.getfield 52, 3) := by decide +kernel
theorem dX12_gives_22 : decode cX12_gives 22 = .ok (.iload_n 1, 1) := by decide +kernel
theorem dX12_gives_23 : decode cX12_gives 23 = .ok (.iaload, 1) := by decide +kernel
theorem dX12_gives_24 : decode cX12_gives 24 = .ok (.if_icmp .ge 92, 3) := by decide +kernel
theorem dX12_gives_27 : decode cX12_gives 27 = .ok (.iload 5, 2) := by decide +kernel
theorem dX12_gives_29 : decode cX12_gives 29 = .ok (.aload_n 0, 1) := by decide +kernel
theorem dX12_gives_30 : decode cX12_gives 30 = .ok (.getfield 58, 3) := by decide +kernel
theorem dX12_gives_33 : decode cX12_gives 33 = .ok (.iconst 5, 1) := by decide +kernel
theorem dX12_gives_34 : decode cX12_gives 34 = .ok (.iload_n 1, 1) := by decide +kernel
theorem dX12_gives_35 : decode cX12_gives 35 = .ok (.imul, 1) := by decide +kernel
theorem dX12_gives_36 : decode cX12_gives 36 = .ok (.iload 8, 2) := by decide +kernel
theorem dX12_gives_38 : decode cX12_gives 38 = .ok (.iadd, 1) := by decide +kernel
theorem dX12_gives_39 : decode cX12_gives 39 = .ok (.iaload, 1) := by decide +kernel
theorem dX12_gives_40 : decode cX12_gives 40 = .ok (.iadd, 1) := by decide +kernel
theorem dX12_gives_41 : decode cX12_gives 41 = .ok (.istore 5, 2) := by decide +kernel
theorem dX12_gives_43 : decode cX12_gives 43 = .ok (.lload_n 2, 1) := by decide +kernel
theorem dX12_gives_44 : decode cX12_gives 44 = .ok (.iload 5, 2) := by decide +kernel
theorem dX12_gives_46 : decode cX12_gives 46 = .ok (.i2l, 1) := by decide +kernel
theorem dX12_gives_47 : decode cX12_gives 47 = .ok (.lmul, 1) := by decide +kernel
theorem dX12_gives_48 : decode cX12_gives 48 = .ok (.iload 4, 2) := by decide +kernel
theorem dX12_gives_50 : decode cX12_gives 50 = .ok (.i2l, 1) := by decide +kernel
theorem dX12_gives_51 : decode cX12_gives 51 = .ok (.ldiv, 1) := by decide +kernel
theorem dX12_gives_52 : decode cX12_gives 52 = .ok (.lstore 9, 2) := by decide +kernel
theorem dX12_gives_54 : decode cX12_gives 54 = .ok (.aload_n 0, 1) := by decide +kernel
theorem dX12_gives_55 : decode cX12_gives 55 = .ok (.getfield 55, 3) := by decide +kernel
theorem dX12_gives_58 : decode cX12_gives 58 = .ok (.iconst 5, 1) := by decide +kernel
theorem dX12_gives_59 : decode cX12_gives 59 = .ok (.iload_n 1, 1) := by decide +kernel
theorem dX12_gives_60 : decode cX12_gives 60 = .ok (.imul, 1) := by decide +kernel
theorem dX12_gives_61 : decode cX12_gives 61 = .ok (.iload 8, 2) := by decide +kernel
theorem dX12_gives_63 : decode cX12_gives 63 = .ok (.iadd, 1) := by decide +kernel
theorem dX12_gives_64 : decode cX12_gives 64 = .ok (.iaload, 1) := by decide +kernel
theorem dX12_gives_65 : decode cX12_gives 65 = .ok (.istore 11, 2) := by decide +kernel
theorem dX12_gives_67 : decode cX12_gives 67 = .ok (.iload 11, 2) := by decide +kernel
theorem dX12_gives_69 : decode cX12_gives 69 = .ok (.bipush 16, 2) := by decide +kernel
theorem dX12_gives_71 : decode cX12_gives 71 = .ok (.if_icmp .lt 20, 3) := by decide +kernel
theorem dX12_gives_74 : decode cX12_gives 74 = .ok (.aload_n 0, 1) := by decide +kernel
theorem dX12_gives_75 : decode cX12_gives 75 = .ok (.iload 11, 2) := by decide +kernel
theorem dX12_gives_77 : decode cX12_gives 77 = .ok (.bipush 16, 2) := by decide +kernel
theorem dX12_gives_79 : decode cX12_gives 79 = .ok (.isub, 1) := by decide +kernel
theorem dX12_gives_80 : decode cX12_gives 80 = .ok (.lload 9, 2) := by decide +kernel
theorem dX12_gives_82 : decode cX12_gives 82 = .ok (.lload 6, 2) := by decide +kernel
theorem dX12_gives_84 : decode cX12_gives 84 = .ok (.lsub, 1) := by decide +kernel
theorem dX12_gives_85 : decode cX12_gives 85 = .ok (.invokevirtual 324, 3) := by decide +kernel
theorem dX12_gives_88 : decode cX12_gives 88 = .ok (.goto 18, 3) := by decide +kernel
theorem dX12_gives_91 : decode cX12_gives 91 = .ok (.aload_n 0, 1) := by decide +kernel
theorem dX12_gives_92 : decode cX12_gives 92 = .ok (.getfield 100, 3) := by decide +kernel
theorem dX12_gives_95 : decode cX12_gives 95 = .ok (.iload 11, 2) := by decide +kernel
theorem dX12_gives_97 : decode cX12_gives 97 = .ok (.dup2, 1) := by decide +kernel
theorem dX12_gives_98 : decode cX12_gives 98 = .ok (.laload, 1) := by decide +kernel
theorem dX12_gives_99 : decode cX12_gives 99 = .ok (.lload 9, 2) := by decide +kernel
theorem dX12_gives_101 : decode cX12_gives 101 = .ok (.lload 6, 2) := by decide +kernel
theorem dX12_gives_103 : decode cX12_gives 103 = .ok (.lsub, 1) := by decide +kernel
theorem dX12_gives_104 : decode cX12_gives 104 = .ok (.ladd, 1) := by decide +kernel
theorem dX12_gives_105 : decode cX12_gives 105 = .ok (.lastore, 1) := by decide +kernel
theorem dX12_gives_106 : decode cX12_gives 106 = .ok (.lload 9, 2) := by decide +kernel
theorem dX12_gives_108 : decode cX12_gives 108 = .ok (.lstore 6, 2) := by decide +kernel
theorem dX12_gives_110 : decode cX12_gives 110 = .ok (.iinc 8 1, 3) := by decide +kernel
theorem dX12_gives_113 : decode cX12_gives 113 = .ok (.goto (-97), 3) := by decide +kernel
theorem dX12_gives_116 : decode cX12_gives 116 = .ok (.return_, 1) := by decide +kernel
theorem dX12_reaches_0 : decode cX12_reaches 0 = .ok (.iconst 0, 1) := by decide +kernel
theorem dX12_reaches_1 : decode cX12_reaches 1 = .ok (.istore_n 2, 1) := by decide +kernel
theorem dX12_reaches_2 : decode cX12_reaches 2 = .ok (.iconst 0, 1) := by decide +kernel
theorem dX12_reaches_3 : decode cX12_reaches 3 = .ok (.istore_n 3, 1) := by decide +kernel
theorem dX12_reaches_4 : decode cX12_reaches 4 = .ok (.iload_n 3, 1) := by decide +kernel
theorem dX12_reaches_5 : decode cX12_reaches 5 = .ok (.aload_n 0, 1) := by decide +kernel
theorem dX12_reaches_6 : decode cX12_reaches 6 = .ok (.getfield 13, 3) := by decide +kernel
theorem dX12_reaches_9 : decode cX12_reaches 9 = .ok (.iconst 0, 1) := by decide +kernel
theorem dX12_reaches_10 : decode cX12_reaches 10 = .ok (.iaload, 1) := by decide +kernel
theorem dX12_reaches_11 : decode cX12_reaches 11 = .ok (.if_icmp .ge 29, 3) := by decide +kernel
theorem dX12_reaches_14 : decode cX12_reaches 14 = .ok (.iload_n 2, 1) := by decide +kernel
theorem dX12_reaches_15 : decode cX12_reaches 15 = .ok (.aload_n 0, 1) := by decide +kernel
theorem dX12_reaches_16 : decode cX12_reaches 16 = .ok (.iload_n 1, 1) := by decide +kernel
theorem dX12_reaches_17 : decode cX12_reaches 17 = .ok (.invokestatic 352, 3) := by decide +kernel
theorem dX12_reaches_20 : decode cX12_reaches 20 = .ok (.iload_n 3, 1) := by decide +kernel
theorem dX12_reaches_21 : decode cX12_reaches 21 = .ok (.invokevirtual 320, 3) := by decide +kernel
theorem dX12_reaches_24 : decode cX12_reaches 24 = .ok (.ifCond .le 7, 3) := by decide +kernel
theorem dX12_reaches_27 : decode cX12_reaches 27 = .ok (.iconst 1, 1) := by decide +kernel
theorem dX12_reaches_28 : decode cX12_reaches 28 = .ok (.goto 4, 3) := by decide +kernel
theorem dX12_reaches_31 : decode cX12_reaches 31 = .ok (.iconst 0, 1) := by decide +kernel
theorem dX12_reaches_32 : decode cX12_reaches 32 = .ok (.iadd, 1) := by decide +kernel
theorem dX12_reaches_33 : decode cX12_reaches 33 = .ok (.istore_n 2, 1) := by decide +kernel
theorem dX12_reaches_34 : decode cX12_reaches 34 = .ok (.iinc 3 1, 3) := by decide +kernel
theorem dX12_reaches_37 : decode cX12_reaches 37 = .ok (.goto (-33), 3) := by decide +kernel
theorem dX12_reaches_40 : decode cX12_reaches 40 = .ok (.iload_n 2, 1) := by decide +kernel
theorem dX12_reaches_41 : decode cX12_reaches 41 = .ok (.ireturn, 1) := by decide +kernel
theorem dX12_ways_0 : decode cX12_ways 0 = .ok (.aload_n 0, 1) := by decide +kernel
theorem dX12_ways_1 : decode cX12_ways 1 = .ok (.iconst 0, 1) := by decide +kernel
theorem dX12_ways_2 : decode cX12_ways 2 = .ok (.putfield 123, 3) := by decide +kernel
theorem dX12_ways_5 : decode cX12_ways 5 = .ok (.aload_n 0, 1) := by decide +kernel
theorem dX12_ways_6 : decode cX12_ways 6 = .ok (.iload_n 1, 1) := by decide +kernel
theorem dX12_ways_7 : decode cX12_ways 7 = .ok (.invokevirtual 384, 3) := by decide +kernel
theorem dX12_ways_10 : decode cX12_ways 10 = .ok (.ifCond .eq 23, 3) := by decide +kernel
theorem dX12_ways_13 : decode cX12_ways 13 = .ok (.aload_n 0, 1) := by decide +kernel
theorem dX12_ways_14 : decode cX12_ways 14 = .ok (.iload_n 2, 1) := by decide +kernel
theorem dX12_ways_15 : decode cX12_ways 15 = .ok (.invokevirtual 376, 3) := by decide +kernel
theorem dX12_ways_18 : decode cX12_ways 18 = .ok (.ifCond .eq 15, 3) := by decide +kernel
theorem dX12_ways_21 : decode cX12_ways 21 = .ok (.aload_n 0, 1) := by decide +kernel
theorem dX12_ways_22 : decode cX12_ways 22 = .ok (.iload_n 1, 1) := by decide +kernel
theorem dX12_ways_23 : decode cX12_ways 23 = .ok (.invokestatic 352, 3) := by decide +kernel
theorem dX12_ways_26 : decode cX12_ways 26 = .ok (.iload_n 2, 1) := by decide +kernel
theorem dX12_ways_27 : decode cX12_ways 27 = .ok (.invokevirtual 320, 3) := by decide +kernel
theorem dX12_ways_30 : decode cX12_ways 30 = .ok (.goto 4, 3) := by decide +kernel
theorem dX12_ways_33 : decode cX12_ways 33 = .ok (.iconst (-1), 1) := by decide +kernel
theorem dX12_ways_34 : decode cX12_ways 34 = .ok (.ireturn, 1) := by decide +kernel
theorem dX12_laysViews_0 : decode cX12_laysViews 0 = .ok (.aload_n 0, 1) := by decide +kernel
theorem dX12_laysViews_1 : decode cX12_laysViews 1 = .ok (.invokevirtual 346, 3) := by decide +kernel
theorem dX12_laysViews_4 : decode cX12_laysViews 4 = .ok (.iconst 0, 1) := by decide +kernel
theorem dX12_laysViews_5 : decode cX12_laysViews 5 = .ok (.istore_n 1, 1) := by decide +kernel
theorem dX12_laysViews_6 : decode cX12_laysViews 6 = .ok (.iload_n 1, 1) := by decide +kernel
theorem dX12_laysViews_7 : decode cX12_laysViews 7 = .ok (.bipush 12, 2) := by decide +kernel
theorem dX12_laysViews_9 : decode cX12_laysViews 9 = .ok (.if_icmp .ge 37, 3) := by decide +kernel
theorem dX12_laysViews_12 : decode cX12_laysViews 12 = .ok (.aload_n 0, 1) := by decide +kernel
theorem dX12_laysViews_13 : decode cX12_laysViews 13 = .ok (.getfield 109, 3) := by decide +kernel
theorem dX12_laysViews_16 : decode cX12_laysViews 16 = .ok (.iload_n 1, 1) := by decide +kernel
theorem dX12_laysViews_17 : decode cX12_laysViews 17 = .ok (.lconst 0, 1) := by decide +kernel
theorem dX12_laysViews_18 : decode cX12_laysViews 18 = .ok (.lastore, 1) := by decide +kernel
theorem dX12_laysViews_19 : decode cX12_laysViews 19 = .ok (.aload_n 0, 1) := by decide +kernel
theorem dX12_laysViews_20 : decode cX12_laysViews 20 = .ok (.getfield 112, 3) := by decide +kernel
theorem dX12_laysViews_23 : decode cX12_laysViews 23 = .ok (.iload_n 1, 1) := by decide +kernel
theorem dX12_laysViews_24 : decode cX12_laysViews 24 = .ok (.lconst 0, 1) := by decide +kernel
theorem dX12_laysViews_25 : decode cX12_laysViews 25 = .ok (.lastore, 1) := by decide +kernel
theorem dX12_laysViews_26 : decode cX12_laysViews 26 = .ok (.aload_n 0, 1) := by decide +kernel
theorem dX12_laysViews_27 : decode cX12_laysViews 27 = .ok (.getfield 115, 3) := by decide +kernel
theorem dX12_laysViews_30 : decode cX12_laysViews 30 = .ok (.iload_n 1, 1) := by decide +kernel
theorem dX12_laysViews_31 : decode cX12_laysViews 31 = .ok (.lconst 0, 1) := by decide +kernel
theorem dX12_laysViews_32 : decode cX12_laysViews 32 = .ok (.lastore, 1) := by decide +kernel
theorem dX12_laysViews_33 : decode cX12_laysViews 33 = .ok (.aload_n 0, 1) := by decide +kernel
theorem dX12_laysViews_34 : decode cX12_laysViews 34 = .ok (.getfield 118, 3) := by decide +kernel
theorem dX12_laysViews_37 : decode cX12_laysViews 37 = .ok (.iload_n 1, 1) := by decide +kernel
theorem dX12_laysViews_38 : decode cX12_laysViews 38 = .ok (.iconst 0, 1) := by decide +kernel
theorem dX12_laysViews_39 : decode cX12_laysViews 39 = .ok (.bastore, 1) := by decide +kernel
theorem dX12_laysViews_40 : decode cX12_laysViews 40 = .ok (.iinc 1 1, 3) := by decide +kernel
theorem dX12_laysViews_43 : decode cX12_laysViews 43 = .ok (.goto (-37), 3) := by decide +kernel
theorem dX12_laysViews_46 : decode cX12_laysViews 46 = .ok (.aload_n 0, 1) := by decide +kernel
theorem dX12_laysViews_47 : decode cX12_laysViews 47 = .ok (.invokevirtual 349, 3) := by decide +kernel
theorem dX12_laysViews_50 : decode cX12_laysViews 50 = .ok (.iconst 0, 1) := by decide +kernel
theorem dX12_laysViews_51 : decode cX12_laysViews 51 = .ok (.istore_n 1, 1) := by decide +kernel
theorem dX12_laysViews_52 : decode cX12_laysViews 52 = .ok (.iload_n 1, 1) := by decide +kernel
theorem dX12_laysViews_53 : decode cX12_laysViews 53 = .ok (.aload_n 0, 1) := by decide +kernel
theorem dX12_laysViews_54 : decode cX12_laysViews 54 = .ok (.getfield 20, 3) := by decide +kernel
theorem dX12_laysViews_57 : decode cX12_laysViews 57 = .ok (.iconst 0, 1) := by decide +kernel
theorem dX12_laysViews_58 : decode cX12_laysViews 58 = .ok (.iaload, 1) := by decide +kernel
theorem dX12_laysViews_59 : decode cX12_laysViews 59 = .ok (.if_icmp .ge 35, 3) := by decide +kernel
theorem dX12_laysViews_62 : decode cX12_laysViews 62 = .ok (.aload_n 0, 1) := by decide +kernel
theorem dX12_laysViews_63 : decode cX12_laysViews 63 = .ok (.iload_n 1, 1) := by decide +kernel
theorem dX12_laysViews_64 : decode cX12_laysViews 64 = .ok (.invokestatic 352, 3) := by decide +kernel
theorem dX12_laysViews_67 : decode cX12_laysViews 67 = .ok (.invokevirtual 314, 3) := by decide +kernel
theorem dX12_laysViews_70 : decode cX12_laysViews 70 = .ok (.ifCond .ne 18, 3) := by decide +kernel
theorem dX12_laysViews_73 : decode cX12_laysViews 73 = .ok (.aload_n 0, 1) := by decide +kernel
theorem dX12_laysViews_74 : decode cX12_laysViews 74 = .ok (.iload_n 1, 1) := by decide +kernel
theorem dX12_laysViews_75 : decode cX12_laysViews 75 = .ok (.invokestatic 352, 3) := by decide +kernel
theorem dX12_laysViews_78 : decode cX12_laysViews 78 = .ok (.aload_n 0, 1) := by decide +kernel
theorem dX12_laysViews_79 : decode cX12_laysViews 79 = .ok (.getfield 88, 3) := by decide +kernel
theorem dX12_laysViews_82 : decode cX12_laysViews 82 = .ok (.iload_n 1, 1) := by decide +kernel
theorem dX12_laysViews_83 : decode cX12_laysViews 83 = .ok (.iaload, 1) := by decide +kernel
theorem dX12_laysViews_84 : decode cX12_laysViews 84 = .ok (.i2l, 1) := by decide +kernel
theorem dX12_laysViews_85 : decode cX12_laysViews 85 = .ok (.invokevirtual 324, 3) := by decide +kernel
theorem dX12_laysViews_88 : decode cX12_laysViews 88 = .ok (.iinc 1 1, 3) := by decide +kernel
theorem dX12_laysViews_91 : decode cX12_laysViews 91 = .ok (.goto (-39), 3) := by decide +kernel
theorem dX12_laysViews_94 : decode cX12_laysViews 94 = .ok (.iconst 0, 1) := by decide +kernel
theorem dX12_laysViews_95 : decode cX12_laysViews 95 = .ok (.istore_n 1, 1) := by decide +kernel
theorem dX12_laysViews_96 : decode cX12_laysViews 96 = .ok (.iload_n 1, 1) := by decide +kernel
theorem dX12_laysViews_97 : decode cX12_laysViews 97 = .ok (.aload_n 0, 1) := by decide +kernel
theorem dX12_laysViews_98 : decode cX12_laysViews 98 = .ok (.getfield 13, 3) := by decide +kernel
theorem dX12_laysViews_101 : decode cX12_laysViews 101 = .ok (.iconst 0, 1) := by decide +kernel
theorem dX12_laysViews_102 : decode cX12_laysViews 102 = .ok (.iaload, 1) := by decide +kernel
theorem dX12_laysViews_103 : decode cX12_laysViews 103 = .ok (.if_icmp .ge 49, 3) := by decide +kernel
theorem dX12_laysViews_106 : decode cX12_laysViews 106 = .ok (.aload_n 0, 1) := by decide +kernel
theorem dX12_laysViews_107 : decode cX12_laysViews 107 = .ok (.getfield 109, 3) := by decide +kernel
theorem dX12_laysViews_110 : decode cX12_laysViews 110 = .ok (.aload_n 0, 1) := by decide +kernel
theorem dX12_laysViews_111 : decode cX12_laysViews 111 = .ok (.getfield 103, 3) := by decide +kernel
theorem dX12_laysViews_114 : decode cX12_laysViews 114 = .ok (.iload_n 1, 1) := by decide +kernel
theorem dX12_laysViews_115 : decode cX12_laysViews 115 = .ok (.iaload, 1) := by decide +kernel
theorem dX12_laysViews_116 : decode cX12_laysViews 116 = .ok (.dup2, 1) := by decide +kernel
theorem dX12_laysViews_117 : decode cX12_laysViews 117 = .ok (.laload, 1) := by decide +kernel
theorem dX12_laysViews_118 : decode cX12_laysViews 118 = .ok (.aload_n 0, 1) := by decide +kernel
theorem dX12_laysViews_119 : decode cX12_laysViews 119 = .ok (.getfield 100, 3) := by decide +kernel
theorem dX12_laysViews_122 : decode cX12_laysViews 122 = .ok (.iload_n 1, 1) := by decide +kernel
theorem dX12_laysViews_123 : decode cX12_laysViews 123 = .ok (.laload, 1) := by decide +kernel
theorem dX12_laysViews_124 : decode cX12_laysViews 124 = .ok (.ladd, 1) := by decide +kernel
theorem dX12_laysViews_125 : decode cX12_laysViews 125 = .ok (.lastore, 1) := by decide +kernel
theorem dX12_laysViews_126 : decode cX12_laysViews 126 = .ok (.aload_n 0, 1) := by decide +kernel
theorem dX12_laysViews_127 : decode cX12_laysViews 127 = .ok (.getfield 118, 3) := by decide +kernel
theorem dX12_laysViews_130 : decode cX12_laysViews 130 = .ok (.aload_n 0, 1) := by decide +kernel
theorem dX12_laysViews_131 : decode cX12_laysViews 131 = .ok (.getfield 103, 3) := by decide +kernel
theorem dX12_laysViews_134 : decode cX12_laysViews 134 = .ok (.iload_n 1, 1) := by decide +kernel
theorem dX12_laysViews_135 : decode cX12_laysViews 135 = .ok (.iaload, 1) := by decide +kernel
theorem dX12_laysViews_136 : decode cX12_laysViews 136 = .ok (.dup2, 1) := by decide +kernel
theorem dX12_laysViews_137 : decode cX12_laysViews 137 = .ok (.baload, 1) := by decide +kernel
theorem dX12_laysViews_138 : decode cX12_laysViews 138 = .ok (.aload_n 0, 1) := by decide +kernel
theorem dX12_laysViews_139 : decode cX12_laysViews 139 = .ok (.getfield 39, 3) := by decide +kernel
theorem dX12_laysViews_142 : decode cX12_laysViews 142 = .ok (.iload_n 1, 1) := by decide +kernel
theorem dX12_laysViews_143 : decode cX12_laysViews 143 = .ok (.baload, 1) := by decide +kernel
theorem dX12_laysViews_144 : decode cX12_laysViews 144 = .ok (.ior, 1) := by decide +kernel
theorem dX12_laysViews_145 : decode cX12_laysViews 145 = .ok (.bastore, 1) := by decide +kernel
theorem dX12_laysViews_146 : decode cX12_laysViews 146 = .ok (.iinc 1 1, 3) := by decide +kernel
theorem dX12_laysViews_149 : decode cX12_laysViews 149 = .ok (.goto (-53), 3) := by decide +kernel
theorem dX12_laysViews_152 : decode cX12_laysViews 152 = .ok (.aload_n 0, 1) := by decide +kernel
theorem dX12_laysViews_153 : decode cX12_laysViews 153 = .ok (.invokevirtual 349, 3) := by decide +kernel
theorem dX12_laysViews_156 : decode cX12_laysViews 156 = .ok (.iconst 0, 1) := by decide +kernel
theorem dX12_laysViews_157 : decode cX12_laysViews 157 = .ok (.istore_n 1, 1) := by decide +kernel
theorem dX12_laysViews_158 : decode cX12_laysViews 158 = .ok (.iload_n 1, 1) := by decide +kernel
theorem dX12_laysViews_159 : decode cX12_laysViews 159 = .ok (.aload_n 0, 1) := by decide +kernel
theorem dX12_laysViews_160 : decode cX12_laysViews 160 = .ok (.getfield 23, 3) := by decide +kernel
theorem dX12_laysViews_163 : decode cX12_laysViews 163 = .ok (.iconst 0, 1) := by decide +kernel
theorem dX12_laysViews_164 : decode cX12_laysViews 164 = .ok (.iaload, 1) := by decide +kernel
theorem dX12_laysViews_165 : decode cX12_laysViews 165 = .ok (.if_icmp .ge 98, 3) := by decide +kernel
theorem dX12_laysViews_168 : decode cX12_laysViews 168 = .ok (.aload_n 0, 1) := by decide +kernel
theorem dX12_laysViews_169 : decode cX12_laysViews 169 = .ok (.getfield 61, 3) := by decide +kernel
theorem dX12_laysViews_172 : decode cX12_laysViews 172 = .ok (.iload_n 1, 1) := by decide +kernel
theorem dX12_laysViews_173 : decode cX12_laysViews 173 = .ok (.iaload, 1) := by decide +kernel
theorem dX12_laysViews_174 : decode cX12_laysViews 174 = .ok (.istore_n 2, 1) := by decide +kernel
theorem dX12_laysViews_175 : decode cX12_laysViews 175 = .ok (.aload_n 0, 1) := by decide +kernel
theorem dX12_laysViews_176 : decode cX12_laysViews 176 = .ok (.iload_n 2, 1) := by decide +kernel
theorem dX12_laysViews_177 : decode cX12_laysViews 177 = .ok (.invokestatic 352, 3) := by decide +kernel
theorem dX12_laysViews_180 : decode cX12_laysViews 180 = .ok (.invokevirtual 314, 3) := by decide +kernel
theorem dX12_laysViews_183 : decode cX12_laysViews 183 = .ok (.ifCond .ne 74, 3) := by decide +kernel
theorem dX12_laysViews_186 : decode cX12_laysViews 186 = .ok (.aload_n 0, 1) := by decide +kernel
theorem dX12_laysViews_187 : decode cX12_laysViews 187 = .ok (.getfield 88, 3) := by decide +kernel
theorem dX12_laysViews_190 : decode cX12_laysViews 190 = .ok (.bipush 71, 2) := by decide +kernel
theorem dX12_laysViews_192 : decode cX12_laysViews 192 = .ok (.iaload, 1) := by decide +kernel
theorem dX12_laysViews_193 : decode cX12_laysViews 193 = .ok (.i2l, 1) := by decide +kernel
theorem dX12_laysViews_194 : decode cX12_laysViews 194 = .ok (.aload_n 0, 1) := by decide +kernel
theorem dX12_laysViews_195 : decode cX12_laysViews 195 = .ok (.getfield 67, 3) := by decide +kernel
theorem dX12_laysViews_198 : decode cX12_laysViews 198 = .ok (.iload_n 1, 1) := by decide +kernel
theorem dX12_laysViews_199 : decode cX12_laysViews 199 = .ok (.iaload, 1) := by decide +kernel
theorem dX12_laysViews_200 : decode cX12_laysViews 200 = .ok (.i2l, 1) := by decide +kernel
theorem dX12_laysViews_201 : decode cX12_laysViews 201 = .ok (.aload_n 0, 1) := by decide +kernel
theorem dX12_laysViews_202 : decode cX12_laysViews 202 = .ok (.getfield 70, 3) := by decide +kernel
theorem dX12_laysViews_205 : decode cX12_laysViews 205 = .ok (.iload_n 1, 1) := by decide +kernel
theorem dX12_laysViews_206 : decode cX12_laysViews 206 = .ok (.iaload, 1) := by decide +kernel
theorem dX12_laysViews_207 : decode cX12_laysViews 207 = .ok (.i2l, 1) := by decide +kernel
theorem dX12_laysViews_208 : decode cX12_laysViews 208 = .ok (.invokestatic 161, 3) := by decide +kernel
theorem dX12_laysViews_211 : decode cX12_laysViews 211 = .ok (.ifCond .ne 6, 3) := by decide +kernel
theorem dX12_laysViews_214 : decode cX12_laysViews 214 = .ok (.goto 43, 3) := by decide +kernel
theorem dX12_laysViews_217 : decode cX12_laysViews 217 = .ok (.aload_n 0, 1) := by decide +kernel
theorem dX12_laysViews_218 : decode cX12_laysViews 218 = .ok (.iload_n 2, 1) := by decide +kernel
theorem dX12_laysViews_219 : decode cX12_laysViews 219 = .ok (.invokestatic 352, 3) := by decide +kernel
theorem dX12_laysViews_222 : decode cX12_laysViews 222 = .ok (.aload_n 0, 1) := by decide +kernel
theorem dX12_laysViews_223 : decode cX12_laysViews 223 = .ok (.getfield 64, 3) := by decide +kernel
theorem dX12_laysViews_226 : decode cX12_laysViews 226 = .ok (.iload_n 1, 1) := by decide +kernel
theorem dX12_laysViews_227 : decode cX12_laysViews 227 = .ok (.iaload, 1) := by decide +kernel
theorem dX12_laysViews_228 : decode cX12_laysViews 228 = .ok (.aload_n 0, 1) := by decide +kernel
theorem dX12_laysViews_229 : decode cX12_laysViews 229 = .ok (.getfield 88, 3) := by decide +kernel
theorem dX12_laysViews_232 : decode cX12_laysViews 232 = .ok (.iload_n 2, 1) := by decide +kernel
theorem dX12_laysViews_233 : decode cX12_laysViews 233 = .ok (.iaload, 1) := by decide +kernel
theorem dX12_laysViews_234 : decode cX12_laysViews 234 = .ok (.if_icmp .ge 13, 3) := by decide +kernel
theorem dX12_laysViews_237 : decode cX12_laysViews 237 = .ok (.aload_n 0, 1) := by decide +kernel
theorem dX12_laysViews_238 : decode cX12_laysViews 238 = .ok (.getfield 64, 3) := by decide +kernel
theorem dX12_laysViews_241 : decode cX12_laysViews 241 = .ok (.iload_n 1, 1) := by decide +kernel
theorem dX12_laysViews_242 : decode cX12_laysViews 242 = .ok (.iaload, 1) := by decide +kernel
theorem dX12_laysViews_243 : decode cX12_laysViews 243 = .ok (.i2l, 1) := by decide +kernel
theorem dX12_laysViews_244 : decode cX12_laysViews 244 = .ok (.goto 10, 3) := by decide +kernel
theorem dX12_laysViews_247 : decode cX12_laysViews 247 = .ok (.aload_n 0, 1) := by decide +kernel
theorem dX12_laysViews_248 : decode cX12_laysViews 248 = .ok (.getfield 88, 3) := by decide +kernel
theorem dX12_laysViews_251 : decode cX12_laysViews 251 = .ok (.iload_n 2, 1) := by decide +kernel
theorem dX12_laysViews_252 : decode cX12_laysViews 252 = .ok (.iaload, 1) := by decide +kernel
theorem dX12_laysViews_253 : decode cX12_laysViews 253 = .ok (.i2l, 1) := by decide +kernel
theorem dX12_laysViews_254 : decode cX12_laysViews 254 = .ok (.invokevirtual 324, 3) := by decide +kernel
theorem dX12_laysViews_257 : decode cX12_laysViews 257 = .ok (.iinc 1 1, 3) := by decide +kernel
theorem dX12_laysViews_260 : decode cX12_laysViews 260 = .ok (.goto (-102), 3) := by decide +kernel
theorem dX12_laysViews_263 : decode cX12_laysViews 263 = .ok (.iconst 0, 1) := by decide +kernel
theorem dX12_laysViews_264 : decode cX12_laysViews 264 = .ok (.istore_n 1, 1) := by decide +kernel
theorem dX12_laysViews_265 : decode cX12_laysViews 265 = .ok (.iload_n 1, 1) := by decide +kernel
theorem dX12_laysViews_266 : decode cX12_laysViews 266 = .ok (.aload_n 0, 1) := by decide +kernel
theorem dX12_laysViews_267 : decode cX12_laysViews 267 = .ok (.getfield 13, 3) := by decide +kernel
theorem dX12_laysViews_270 : decode cX12_laysViews 270 = .ok (.iconst 0, 1) := by decide +kernel
theorem dX12_laysViews_271 : decode cX12_laysViews 271 = .ok (.iaload, 1) := by decide +kernel
theorem dX12_laysViews_272 : decode cX12_laysViews 272 = .ok (.if_icmp .ge 29, 3) := by decide +kernel
theorem dX12_laysViews_275 : decode cX12_laysViews 275 = .ok (.aload_n 0, 1) := by decide +kernel
theorem dX12_laysViews_276 : decode cX12_laysViews 276 = .ok (.getfield 115, 3) := by decide +kernel
theorem dX12_laysViews_279 : decode cX12_laysViews 279 = .ok (.aload_n 0, 1) := by decide +kernel
theorem dX12_laysViews_280 : decode cX12_laysViews 280 = .ok (.getfield 103, 3) := by decide +kernel
theorem dX12_laysViews_283 : decode cX12_laysViews 283 = .ok (.iload_n 1, 1) := by decide +kernel
theorem dX12_laysViews_284 : decode cX12_laysViews 284 = .ok (.iaload, 1) := by decide +kernel
theorem dX12_laysViews_285 : decode cX12_laysViews 285 = .ok (.dup2, 1) := by decide +kernel
theorem dX12_laysViews_286 : decode cX12_laysViews 286 = .ok (.laload, 1) := by decide +kernel
theorem dX12_laysViews_287 : decode cX12_laysViews 287 = .ok (.aload_n 0, 1) := by decide +kernel
theorem dX12_laysViews_288 : decode cX12_laysViews 288 = .ok (.getfield 100, 3) := by decide +kernel
theorem dX12_laysViews_291 : decode cX12_laysViews 291 = .ok (.iload_n 1, 1) := by decide +kernel
theorem dX12_laysViews_292 : decode cX12_laysViews 292 = .ok (.laload, 1) := by decide +kernel
theorem dX12_laysViews_293 : decode cX12_laysViews 293 = .ok (.ladd, 1) := by decide +kernel
theorem dX12_laysViews_294 : decode cX12_laysViews 294 = .ok (.lastore, 1) := by decide +kernel
theorem dX12_laysViews_295 : decode cX12_laysViews 295 = .ok (.iinc 1 1, 3) := by decide +kernel
theorem dX12_laysViews_298 : decode cX12_laysViews 298 = .ok (.goto (-33), 3) := by decide +kernel
theorem dX12_laysViews_301 : decode cX12_laysViews 301 = .ok (.iconst 0, 1) := by decide +kernel
theorem dX12_laysViews_302 : decode cX12_laysViews 302 = .ok (.istore_n 1, 1) := by decide +kernel
theorem dX12_laysViews_303 : decode cX12_laysViews 303 = .ok (.iload_n 1, 1) := by decide +kernel
theorem dX12_laysViews_304 : decode cX12_laysViews 304 = .ok (.aload_n 0, 1) := by decide +kernel
theorem dX12_laysViews_305 : decode cX12_laysViews 305 = .ok (.getfield 26, 3) := by decide +kernel
theorem dX12_laysViews_308 : decode cX12_laysViews 308 = .ok (.iconst 0, 1) := by decide +kernel
theorem dX12_laysViews_309 : decode cX12_laysViews 309 = .ok (.iaload, 1) := by decide +kernel
theorem dX12_laysViews_310 : decode cX12_laysViews 310 = .ok (.if_icmp .ge 51, 3) := by decide +kernel
theorem dX12_laysViews_313 : decode cX12_laysViews 313 = .ok (.aload_n 0, 1) := by decide +kernel
theorem dX12_laysViews_314 : decode cX12_laysViews 314 = .ok (.getfield 79, 3) := by decide +kernel
theorem dX12_laysViews_317 : decode cX12_laysViews 317 = .ok (.iload_n 1, 1) := by decide +kernel
theorem dX12_laysViews_318 : decode cX12_laysViews 318 = .ok (.iaload, 1) := by decide +kernel
theorem dX12_laysViews_319 : decode cX12_laysViews 319 = .ok (.aload_n 0, 1) := by decide +kernel
theorem dX12_laysViews_320 : decode cX12_laysViews 320 = .ok (.getfield 88, 3) := by decide +kernel
theorem dX12_laysViews_323 : decode cX12_laysViews 323 = .ok (.bipush 71, 2) := by decide +kernel
theorem dX12_laysViews_325 : decode cX12_laysViews 325 = .ok (.iaload, 1) := by decide +kernel
theorem dX12_laysViews_326 : decode cX12_laysViews 326 = .ok (.if_icmp .gt 29, 3) := by decide +kernel
theorem dX12_laysViews_329 : decode cX12_laysViews 329 = .ok (.aload_n 0, 1) := by decide +kernel
theorem dX12_laysViews_330 : decode cX12_laysViews 330 = .ok (.getfield 112, 3) := by decide +kernel
theorem dX12_laysViews_333 : decode cX12_laysViews 333 = .ok (.aload_n 0, 1) := by decide +kernel
theorem dX12_laysViews_334 : decode cX12_laysViews 334 = .ok (.getfield 103, 3) := by decide +kernel
theorem dX12_laysViews_337 : decode cX12_laysViews 337 = .ok (.aload_n 0, 1) := by decide +kernel
theorem dX12_laysViews_338 : decode cX12_laysViews 338 = .ok (.getfield 73, 3) := by decide +kernel
theorem dX12_laysViews_341 : decode cX12_laysViews 341 = .ok (.iload_n 1, 1) := by decide +kernel
theorem dX12_laysViews_342 : decode cX12_laysViews 342 = .ok (.iaload, 1) := by decide +kernel
theorem dX12_laysViews_343 : decode cX12_laysViews 343 = .ok (.iaload, 1) := by decide +kernel
theorem dX12_laysViews_344 : decode cX12_laysViews 344 = .ok (.dup2, 1) := by decide +kernel
theorem dX12_laysViews_345 : decode cX12_laysViews 345 = .ok (.laload, 1) := by decide +kernel
theorem dX12_laysViews_346 : decode cX12_laysViews 346 = .ok (.aload_n 0, 1) := by decide +kernel
theorem dX12_laysViews_347 : decode cX12_laysViews 347 = .ok (.getfield 76, 3) := by decide +kernel
theorem dX12_laysViews_350 : decode cX12_laysViews 350 = .ok (.iload_n 1, 1) := by decide +kernel
theorem dX12_laysViews_351 : decode cX12_laysViews 351 = .ok (.iaload, 1) := by decide +kernel
theorem dX12_laysViews_352 : decode cX12_laysViews 352 = .ok (.i2l, 1) := by decide +kernel
theorem dX12_laysViews_353 : decode cX12_laysViews 353 = .ok (.ladd, 1) := by decide +kernel
theorem dX12_laysViews_354 : decode cX12_laysViews 354 = .ok (.lastore, 1) := by decide +kernel
theorem dX12_laysViews_355 : decode cX12_laysViews 355 = .ok (.iinc 1 1, 3) := by decide +kernel
theorem dX12_laysViews_358 : decode cX12_laysViews 358 = .ok (.goto (-55), 3) := by decide +kernel
theorem dX12_laysViews_361 : decode cX12_laysViews 361 = .ok (.return_, 1) := by decide +kernel
theorem dX12_trust_0 : decode cX12_trust 0 = .ok (.aload_n 0, 1) := by decide +kernel
theorem dX12_trust_1 : decode cX12_trust 1 = .ok (.iconst 0, 1) := by decide +kernel
theorem dX12_trust_2 : decode cX12_trust 2 = .ok (.putfield 123, 3) := by decide +kernel
theorem dX12_trust_5 : decode cX12_trust 5 = .ok (.iload_n 1, 1) := by decide +kernel
theorem dX12_trust_6 : decode cX12_trust 6 = .ok (.i2l, 1) := by decide +kernel
theorem dX12_trust_7 : decode cX12_trust 7 = .ok (.lconst 0, 1) := by decide +kernel
theorem dX12_trust_8 : decode cX12_trust 8 = .ok (.aload_n 0, 1) := by decide +kernel
theorem dX12_trust_9 : decode cX12_trust 9 = .ok (.getfield 17, 3) := by decide +kernel
theorem dX12_trust_12 : decode cX12_trust 12 = .ok (.iconst 0, 1) := by decide +kernel
theorem dX12_trust_13 : decode cX12_trust 13 = .ok (.iaload, 1) := by decide +kernel
theorem dX12_trust_14 : decode cX12_trust 14 = .ok (.iconst 1, 1) := by decide +kernel
theorem dX12_trust_15 : decode cX12_trust 15 = .ok (.isub, 1) := by decide +kernel
theorem dX12_trust_16 : decode cX12_trust 16 = .ok (.i2l, 1) := by decide +kernel
theorem dX12_trust_17 : decode cX12_trust 17 = .ok (.invokestatic 161, 3) := by decide +kernel
theorem dX12_trust_20 : decode cX12_trust 20 = .ok (.ifCond .ne 5, 3) := by decide +kernel
theorem dX12_trust_23 : decode cX12_trust 23 = .ok (.iconst (-1), 1) := by decide +kernel
theorem dX12_trust_24 : decode cX12_trust 24 = .ok (.ireturn, 1) := by decide +kernel
theorem dX12_trust_25 : decode cX12_trust 25 = .ok (.iload_n 2, 1) := by decide +kernel
theorem dX12_trust_26 : decode cX12_trust 26 = .ok (.tableswitch 63 0 3 #[30, 37, 43, 57], 30) := by decide +kernel
theorem dX12_trust_56 : decode cX12_trust 56 = .ok (.aload_n 0, 1) := by decide +kernel
theorem dX12_trust_57 : decode cX12_trust 57 = .ok (.getfield 52, 3) := by decide +kernel
theorem dX12_trust_60 : decode cX12_trust 60 = .ok (.iload_n 1, 1) := by decide +kernel
theorem dX12_trust_61 : decode cX12_trust 61 = .ok (.iaload, 1) := by decide +kernel
theorem dX12_trust_62 : decode cX12_trust 62 = .ok (.ireturn, 1) := by decide +kernel
theorem dX12_trust_63 : decode cX12_trust 63 = .ok (.aload_n 0, 1) := by decide +kernel
theorem dX12_trust_64 : decode cX12_trust 64 = .ok (.iload_n 1, 1) := by decide +kernel
theorem dX12_trust_65 : decode cX12_trust 65 = .ok (.invokevirtual 311, 3) := by decide +kernel
theorem dX12_trust_68 : decode cX12_trust 68 = .ok (.ireturn, 1) := by decide +kernel
theorem dX12_trust_69 : decode cX12_trust 69 = .ok (.aload_n 0, 1) := by decide +kernel
theorem dX12_trust_70 : decode cX12_trust 70 = .ok (.iload_n 1, 1) := by decide +kernel
theorem dX12_trust_71 : decode cX12_trust 71 = .ok (.invokevirtual 314, 3) := by decide +kernel
theorem dX12_trust_74 : decode cX12_trust 74 = .ok (.ifCond .eq 7, 3) := by decide +kernel
theorem dX12_trust_77 : decode cX12_trust 77 = .ok (.iconst 1, 1) := by decide +kernel
theorem dX12_trust_78 : decode cX12_trust 78 = .ok (.goto 4, 3) := by decide +kernel
theorem dX12_trust_81 : decode cX12_trust 81 = .ok (.iconst 0, 1) := by decide +kernel
theorem dX12_trust_82 : decode cX12_trust 82 = .ok (.ireturn, 1) := by decide +kernel
theorem dX12_trust_83 : decode cX12_trust 83 = .ok (.aload_n 0, 1) := by decide +kernel
theorem dX12_trust_84 : decode cX12_trust 84 = .ok (.iload_n 1, 1) := by decide +kernel
theorem dX12_trust_85 : decode cX12_trust 85 = .ok (.invokevirtual 317, 3) := by decide +kernel
theorem dX12_trust_88 : decode cX12_trust 88 = .ok (.ireturn, 1) := by decide +kernel
theorem dX12_trust_89 : decode cX12_trust 89 = .ok (.iconst (-1), 1) := by decide +kernel
theorem dX12_trust_90 : decode cX12_trust 90 = .ok (.ireturn, 1) := by decide +kernel
theorem dX12_account_0 : decode cX12_account 0 = .ok (.aload_n 0, 1) := by decide +kernel
theorem dX12_account_1 : decode cX12_account 1 = .ok (.iconst 0, 1) := by decide +kernel
theorem dX12_account_2 : decode cX12_account 2 = .ok (.putfield 123, 3) := by decide +kernel
theorem dX12_account_5 : decode cX12_account 5 = .ok (.aload_n 0, 1) := by decide +kernel
theorem dX12_account_6 : decode cX12_account 6 = .ok (.iload_n 1, 1) := by decide +kernel
theorem dX12_account_7 : decode cX12_account 7 = .ok (.invokevirtual 384, 3) := by decide +kernel
theorem dX12_account_10 : decode cX12_account 10 = .ok (.ifCond .ne 5, 3) := by decide +kernel
theorem dX12_account_13 : decode cX12_account 13 = .ok (.iconst (-1), 1) := by decide +kernel
theorem dX12_account_14 : decode cX12_account 14 = .ok (.ireturn, 1) := by decide +kernel
theorem dX12_account_15 : decode cX12_account 15 = .ok (.iload_n 2, 1) := by decide +kernel
theorem dX12_account_16 : decode cX12_account 16 = .ok (.tableswitch 72 0 3 #[32, 39, 49, 66], 32) := by decide +kernel
theorem dX12_account_48 : decode cX12_account 48 = .ok (.aload_n 0, 1) := by decide +kernel
theorem dX12_account_49 : decode cX12_account 49 = .ok (.getfield 88, 3) := by decide +kernel
theorem dX12_account_52 : decode cX12_account 52 = .ok (.iload_n 1, 1) := by decide +kernel
theorem dX12_account_53 : decode cX12_account 53 = .ok (.iaload, 1) := by decide +kernel
theorem dX12_account_54 : decode cX12_account 54 = .ok (.ireturn, 1) := by decide +kernel
theorem dX12_account_55 : decode cX12_account 55 = .ok (.aload_n 0, 1) := by decide +kernel
theorem dX12_account_56 : decode cX12_account 56 = .ok (.getfield 52, 3) := by decide +kernel
theorem dX12_account_59 : decode cX12_account 59 = .ok (.iload_n 1, 1) := by decide +kernel
theorem dX12_account_60 : decode cX12_account 60 = .ok (.invokestatic 352, 3) := by decide +kernel
theorem dX12_account_63 : decode cX12_account 63 = .ok (.iaload, 1) := by decide +kernel
theorem dX12_account_64 : decode cX12_account 64 = .ok (.ireturn, 1) := by decide +kernel
theorem dX12_account_65 : decode cX12_account 65 = .ok (.aload_n 0, 1) := by decide +kernel
theorem dX12_account_66 : decode cX12_account 66 = .ok (.iload_n 1, 1) := by decide +kernel
theorem dX12_account_67 : decode cX12_account 67 = .ok (.invokestatic 352, 3) := by decide +kernel
theorem dX12_account_70 : decode cX12_account 70 = .ok (.invokevirtual 314, 3) := by decide +kernel
theorem dX12_account_73 : decode cX12_account 73 = .ok (.ifCond .eq 7, 3) := by decide +kernel
theorem dX12_account_76 : decode cX12_account 76 = .ok (.iconst 1, 1) := by decide +kernel
theorem dX12_account_77 : decode cX12_account 77 = .ok (.goto 4, 3) := by decide +kernel
theorem dX12_account_80 : decode cX12_account 80 = .ok (.iconst 0, 1) := by decide +kernel
theorem dX12_account_81 : decode cX12_account 81 = .ok (.ireturn, 1) := by decide +kernel
theorem dX12_account_82 : decode cX12_account 82 = .ok (.aload_n 0, 1) := by decide +kernel
theorem dX12_account_83 : decode cX12_account 83 = .ok (.iload_n 1, 1) := by decide +kernel
theorem dX12_account_84 : decode cX12_account 84 = .ok (.invokevirtual 387, 3) := by decide +kernel
theorem dX12_account_87 : decode cX12_account 87 = .ok (.ireturn, 1) := by decide +kernel
theorem dX12_account_88 : decode cX12_account 88 = .ok (.iconst (-1), 1) := by decide +kernel
theorem dX12_account_89 : decode cX12_account 89 = .ok (.ireturn, 1) := by decide +kernel
theorem dX12_share_0 : decode cX12_share 0 = .ok (.aload_n 0, 1) := by decide +kernel
theorem dX12_share_1 : decode cX12_share 1 = .ok (.aload_n 0, 1) := by decide +kernel
theorem dX12_share_2 : decode cX12_share 2 = .ok (.iload_n 1, 1) := by decide +kernel
theorem dX12_share_3 : decode cX12_share 3 = .ok (.invokevirtual 384, 3) := by decide +kernel
theorem dX12_share_6 : decode cX12_share 6 = .ok (.ifCond .eq 15, 3) := by decide +kernel
theorem dX12_share_9 : decode cX12_share 9 = .ok (.aload_n 0, 1) := by decide +kernel
theorem dX12_share_10 : decode cX12_share 10 = .ok (.iload_n 2, 1) := by decide +kernel
theorem dX12_share_11 : decode cX12_share 11 = .ok (.invokevirtual 376, 3) := by decide +kernel
theorem dX12_share_14 : decode cX12_share 14 = .ok (.ifCond .eq 7, 3) := by decide +kernel
theorem dX12_share_17 : decode cX12_share 17 = .ok (.iconst 0, 1) := by decide +kernel
theorem dX12_share_18 : decode cX12_share 18 = .ok (.goto 4, 3) := by decide +kernel
theorem dX12_share_21 : decode cX12_share 21 = .ok (.iconst 1, 1) := by decide +kernel
theorem dX12_share_22 : decode cX12_share 22 = .ok (.putfield 123, 3) := by decide +kernel
theorem dX12_share_25 : decode cX12_share 25 = .ok (.aload_n 0, 1) := by decide +kernel
theorem dX12_share_26 : decode cX12_share 26 = .ok (.getfield 123, 3) := by decide +kernel
theorem dX12_share_29 : decode cX12_share 29 = .ok (.iconst 1, 1) := by decide +kernel
theorem dX12_share_30 : decode cX12_share 30 = .ok (.if_icmp .eq 14, 3) := by decide +kernel
theorem dX12_share_33 : decode cX12_share 33 = .ok (.aload_n 0, 1) := by decide +kernel
theorem dX12_share_34 : decode cX12_share 34 = .ok (.iload_n 1, 1) := by decide +kernel
theorem dX12_share_35 : decode cX12_share 35 = .ok (.invokestatic 352, 3) := by decide +kernel
theorem dX12_share_38 : decode cX12_share 38 = .ok (.invokevirtual 314, 3) := by decide +kernel
theorem dX12_share_41 : decode cX12_share 41 = .ok (.ifCond .eq 5, 3) := by decide +kernel
theorem dX12_share_44 : decode cX12_share 44 = .ok (.iconst 0, 1) := by decide +kernel
theorem dX12_share_45 : decode cX12_share 45 = .ok (.ireturn, 1) := by decide +kernel
theorem dX12_share_46 : decode cX12_share 46 = .ok (.aload_n 0, 1) := by decide +kernel
theorem dX12_share_47 : decode cX12_share 47 = .ok (.invokevirtual 349, 3) := by decide +kernel
theorem dX12_share_50 : decode cX12_share 50 = .ok (.aload_n 0, 1) := by decide +kernel
theorem dX12_share_51 : decode cX12_share 51 = .ok (.iload_n 1, 1) := by decide +kernel
theorem dX12_share_52 : decode cX12_share 52 = .ok (.invokestatic 352, 3) := by decide +kernel
theorem dX12_share_55 : decode cX12_share 55 = .ok (.aload_n 0, 1) := by decide +kernel
theorem dX12_share_56 : decode cX12_share 56 = .ok (.getfield 88, 3) := by decide +kernel
theorem dX12_share_59 : decode cX12_share 59 = .ok (.iload_n 1, 1) := by decide +kernel
theorem dX12_share_60 : decode cX12_share 60 = .ok (.iaload, 1) := by decide +kernel
theorem dX12_share_61 : decode cX12_share 61 = .ok (.i2l, 1) := by decide +kernel
theorem dX12_share_62 : decode cX12_share 62 = .ok (.invokevirtual 324, 3) := by decide +kernel
theorem dX12_share_65 : decode cX12_share 65 = .ok (.aload_n 0, 1) := by decide +kernel
theorem dX12_share_66 : decode cX12_share 66 = .ok (.getfield 100, 3) := by decide +kernel
theorem dX12_share_69 : decode cX12_share 69 = .ok (.iload_n 2, 1) := by decide +kernel
theorem dX12_share_70 : decode cX12_share 70 = .ok (.laload, 1) := by decide +kernel
theorem dX12_share_71 : decode cX12_share 71 = .ok (.l2i, 1) := by decide +kernel
theorem dX12_share_72 : decode cX12_share 72 = .ok (.ireturn, 1) := by decide +kernel
theorem dX12_frozen_0 : decode cX12_frozen 0 = .ok (.lconst 0, 1) := by decide +kernel
theorem dX12_frozen_1 : decode cX12_frozen 1 = .ok (.lstore_n 1, 1) := by decide +kernel
theorem dX12_frozen_2 : decode cX12_frozen 2 = .ok (.iconst 0, 1) := by decide +kernel
theorem dX12_frozen_3 : decode cX12_frozen 3 = .ok (.istore_n 3, 1) := by decide +kernel
theorem dX12_frozen_4 : decode cX12_frozen 4 = .ok (.iload_n 3, 1) := by decide +kernel
theorem dX12_frozen_5 : decode cX12_frozen 5 = .ok (.aload_n 0, 1) := by decide +kernel
theorem dX12_frozen_6 : decode cX12_frozen 6 = .ok (.getfield 20, 3) := by decide +kernel
theorem dX12_frozen_9 : decode cX12_frozen 9 = .ok (.iconst 0, 1) := by decide +kernel
theorem dX12_frozen_10 : decode cX12_frozen 10 = .ok (.iaload, 1) := by decide +kernel
theorem dX12_frozen_11 : decode cX12_frozen 11 = .ok (.if_icmp .ge 34, 3) := by decide +kernel
theorem dX12_frozen_14 : decode cX12_frozen 14 = .ok (.lload_n 1, 1) := by decide +kernel
theorem dX12_frozen_15 : decode cX12_frozen 15 = .ok (.aload_n 0, 1) := by decide +kernel
theorem dX12_frozen_16 : decode cX12_frozen 16 = .ok (.iload_n 3, 1) := by decide +kernel
theorem dX12_frozen_17 : decode cX12_frozen 17 = .ok (.invokestatic 352, 3) := by decide +kernel
theorem dX12_frozen_20 : decode cX12_frozen 20 = .ok (.invokevirtual 314, 3) := by decide +kernel
theorem dX12_frozen_23 : decode cX12_frozen 23 = .ok (.ifCond .eq 13, 3) := by decide +kernel
theorem dX12_frozen_26 : decode cX12_frozen 26 = .ok (.aload_n 0, 1) := by decide +kernel
theorem dX12_frozen_27 : decode cX12_frozen 27 = .ok (.getfield 88, 3) := by decide +kernel
theorem dX12_frozen_30 : decode cX12_frozen 30 = .ok (.iload_n 3, 1) := by decide +kernel
theorem dX12_frozen_31 : decode cX12_frozen 31 = .ok (.iaload, 1) := by decide +kernel
theorem dX12_frozen_32 : decode cX12_frozen 32 = .ok (.i2l, 1) := by decide +kernel
theorem dX12_frozen_33 : decode cX12_frozen 33 = .ok (.goto 4, 3) := by decide +kernel
theorem dX12_frozen_36 : decode cX12_frozen 36 = .ok (.lconst 0, 1) := by decide +kernel
theorem dX12_frozen_37 : decode cX12_frozen 37 = .ok (.ladd, 1) := by decide +kernel
theorem dX12_frozen_38 : decode cX12_frozen 38 = .ok (.lstore_n 1, 1) := by decide +kernel
theorem dX12_frozen_39 : decode cX12_frozen 39 = .ok (.iinc 3 1, 3) := by decide +kernel
theorem dX12_frozen_42 : decode cX12_frozen 42 = .ok (.goto (-38), 3) := by decide +kernel
theorem dX12_frozen_45 : decode cX12_frozen 45 = .ok (.lload_n 1, 1) := by decide +kernel
theorem dX12_frozen_46 : decode cX12_frozen 46 = .ok (.lreturn, 1) := by decide +kernel
theorem pq_893 : Cond.fieldLink RX12 100 "PayoutDeskModel" "got" "[J" ∈ pd_gt := pd_in 1234 (by decide +kernel) (by decide +kernel)
theorem pq_894 : Cond.fieldLink RX12 112 "PayoutDeskModel" "owes" "[J" ∈ pd_gt := pd_in 1239 (by decide +kernel) (by decide +kernel)
theorem pq_895 : Cond.fieldLink RX12 109 "PayoutDeskModel" "has" "[J" ∈ pd_gt := pd_in 1238 (by decide +kernel) (by decide +kernel)
theorem pq_896 : Cond.fieldLink RX12 115 "PayoutDeskModel" "high" "[J" ∈ pd_gt := pd_in 1240 (by decide +kernel) (by decide +kernel)
theorem pq_897 : Cond.constantLong RX12 382 (32 : Int64) ∈ pd_gt := pd_in 1572 (by decide +kernel) (by decide +kernel)
theorem pq_898 : Cond.fieldLink RX12 91 "PayoutDeskModel" "undone" "[I" ∈ pd_gt := pd_in 1230 (by decide +kernel) (by decide +kernel)
theorem pq_899 : Cond.methodLink RX12 328 yX12_isOut ∈ pd_gt := pd_in 1561 (by decide +kernel) (by decide +kernel)
theorem pq_900 : Cond.code yX12_isOut cX12_isOut 3 (some .boolean) ∈ pd_gt := pd_in 1564 (by decide +kernel) (by decide +kernel)
theorem pq_901 : Cond.initialized yX12_isOut.cls ∈ pd_gt := pd_in 111 (by decide +kernel) (by decide +kernel)
theorem pq_902 : Cond.instanceMethod yX12_isOut ∈ pd_gt := pd_in 1563 (by decide +kernel) (by decide +kernel)
theorem pq_903 : Cond.selects yX12_isOut.cls yX12_isOut yX12_isOut ∈ pd_gt := pd_in 70 (by decide +kernel) (by decide +kernel)
theorem pq_904 : Cond.methodLink RX12 355 yX12_setOff ∈ pd_gt := pd_in 1633 (by decide +kernel) (by decide +kernel)
theorem pq_905 : Cond.code yX12_setOff cX12_setOff 2 (some .long) ∈ pd_gt := pd_in 1636 (by decide +kernel) (by decide +kernel)
theorem pq_906 : Cond.initialized yX12_setOff.cls ∈ pd_gt := pd_in 111 (by decide +kernel) (by decide +kernel)
theorem pq_907 : Cond.instanceMethod yX12_setOff ∈ pd_gt := pd_in 1635 (by decide +kernel) (by decide +kernel)
theorem pq_908 : Cond.selects yX12_setOff.cls yX12_setOff yX12_setOff ∈ pd_gt := pd_in 81 (by decide +kernel) (by decide +kernel)
theorem pq_909 : Cond.methodLink RX12 442 yX12_keeps ∈ pd_gt := pd_in 1752 (by decide +kernel) (by decide +kernel)
theorem pq_910 : Cond.code yX12_keeps cX12_keeps 2 none ∈ pd_gt := pd_in 1755 (by decide +kernel) (by decide +kernel)
theorem pq_911 : Cond.initialized yX12_keeps.cls ∈ pd_gt := pd_in 111 (by decide +kernel) (by decide +kernel)
theorem pq_912 : Cond.instanceMethod yX12_keeps ∈ pd_gt := pd_in 1754 (by decide +kernel) (by decide +kernel)
theorem pq_913 : Cond.selects yX12_keeps.cls yX12_keeps yX12_keeps ∈ pd_gt := pd_in 97 (by decide +kernel) (by decide +kernel)
theorem pq_914 : Cond.constantLong RX12 415 (2 : Int64) ∈ pd_gt := pd_in 1692 (by decide +kernel) (by decide +kernel)
theorem pq_915 : Cond.constantLong RX12 440 (9999999 : Int64) ∈ pd_gt := pd_in 1751 (by decide +kernel) (by decide +kernel)
theorem pq_916 : Cond.constantLong RX12 420 (999 : Int64) ∈ pd_gt := pd_in 1697 (by decide +kernel) (by decide +kernel)
theorem pq_917 : Cond.fieldLink RX12 94 "PayoutDeskModel" "kept" "[I" ∈ pd_gt := pd_in 1232 (by decide +kernel) (by decide +kernel)
theorem pq_918 : Cond.methodLink RX12 331 yX12_haveMark ∈ pd_gt := pd_in 1557 (by decide +kernel) (by decide +kernel)
theorem pq_919 : Cond.code yX12_haveMark cX12_haveMark 4 (some .boolean) ∈ pd_gt := pd_in 1560 (by decide +kernel) (by decide +kernel)
theorem pq_920 : Cond.initialized yX12_haveMark.cls ∈ pd_gt := pd_in 111 (by decide +kernel) (by decide +kernel)
theorem pq_921 : Cond.instanceMethod yX12_haveMark ∈ pd_gt := pd_in 1559 (by decide +kernel) (by decide +kernel)
theorem pq_922 : Cond.selects yX12_haveMark.cls yX12_haveMark yX12_haveMark ∈ pd_gt := pd_in 69 (by decide +kernel) (by decide +kernel)
theorem pq_923 : Cond.methodLink RX12 334 yX12_areJoined ∈ pd_gt := pd_in 1565 (by decide +kernel) (by decide +kernel)
theorem pq_924 : Cond.code yX12_areJoined cX12_areJoined 6 (some .boolean) ∈ pd_gt := pd_in 1568 (by decide +kernel) (by decide +kernel)
theorem pq_925 : Cond.initialized yX12_areJoined.cls ∈ pd_gt := pd_in 111 (by decide +kernel) (by decide +kernel)
theorem pq_926 : Cond.instanceMethod yX12_areJoined ∈ pd_gt := pd_in 1567 (by decide +kernel) (by decide +kernel)
theorem pq_927 : Cond.selects yX12_areJoined.cls yX12_areJoined yX12_areJoined ∈ pd_gt := pd_in 71 (by decide +kernel) (by decide +kernel)
theorem pq_928 : Cond.methodLink RX12 359 yX12_net ∈ pd_gt := pd_in 1637 (by decide +kernel) (by decide +kernel)
theorem pq_929 : Cond.code yX12_net cX12_net 2 (some .long) ∈ pd_gt := pd_in 1640 (by decide +kernel) (by decide +kernel)
theorem pq_930 : Cond.initialized yX12_net.cls ∈ pd_gt := pd_in 111 (by decide +kernel) (by decide +kernel)
theorem pq_931 : Cond.instanceMethod yX12_net ∈ pd_gt := pd_in 1639 (by decide +kernel) (by decide +kernel)
theorem pq_932 : Cond.selects yX12_net.cls yX12_net yX12_net ∈ pd_gt := pd_in 82 (by decide +kernel) (by decide +kernel)
theorem pq_933 : Cond.methodLink RX12 362 yX12_limit ∈ pd_gt := pd_in 1641 (by decide +kernel) (by decide +kernel)
theorem pq_934 : Cond.code yX12_limit cX12_limit 4 (some .long) ∈ pd_gt := pd_in 1644 (by decide +kernel) (by decide +kernel)
theorem pq_935 : Cond.initialized yX12_limit.cls ∈ pd_gt := pd_in 111 (by decide +kernel) (by decide +kernel)
theorem pq_936 : Cond.instanceMethod yX12_limit ∈ pd_gt := pd_in 1643 (by decide +kernel) (by decide +kernel)
theorem pq_937 : Cond.selects yX12_limit.cls yX12_limit yX12_limit ∈ pd_gt := pd_in 83 (by decide +kernel) (by decide +kernel)
theorem pq_938 : Cond.methodLink RX12 376 yX12_isPerson ∈ pd_gt := pd_in 1541 (by decide +kernel) (by decide +kernel)
theorem pq_939 : Cond.code yX12_isPerson cX12_isPerson 2 (some .boolean) ∈ pd_gt := pd_in 1544 (by decide +kernel) (by decide +kernel)
theorem pq_940 : Cond.initialized yX12_isPerson.cls ∈ pd_gt := pd_in 111 (by decide +kernel) (by decide +kernel)
theorem pq_941 : Cond.instanceMethod yX12_isPerson ∈ pd_gt := pd_in 1543 (by decide +kernel) (by decide +kernel)
theorem pq_942 : Cond.selects yX12_isPerson.cls yX12_isPerson yX12_isPerson ∈ pd_gt := pd_in 65 (by decide +kernel) (by decide +kernel)
theorem pq_943 : Cond.methodLink RX12 384 yX12_isAccount ∈ pd_gt := pd_in 1593 (by decide +kernel) (by decide +kernel)
theorem pq_944 : Cond.code yX12_isAccount cX12_isAccount 2 (some .boolean) ∈ pd_gt := pd_in 1596 (by decide +kernel) (by decide +kernel)
theorem pq_945 : Cond.initialized yX12_isAccount.cls ∈ pd_gt := pd_in 111 (by decide +kernel) (by decide +kernel)
theorem pq_946 : Cond.instanceMethod yX12_isAccount ∈ pd_gt := pd_in 1595 (by decide +kernel) (by decide +kernel)
theorem pq_947 : Cond.selects yX12_isAccount.cls yX12_isAccount yX12_isAccount ∈ pd_gt := pd_in 75 (by decide +kernel) (by decide +kernel)
theorem pq_948 : Cond.methodLink RX12 427 yX12_isMark ∈ pd_gt := pd_in 1719 (by decide +kernel) (by decide +kernel)
theorem pq_949 : Cond.code yX12_isMark cX12_isMark 3 (some .boolean) ∈ pd_gt := pd_in 1722 (by decide +kernel) (by decide +kernel)
theorem pq_950 : Cond.initialized yX12_isMark.cls ∈ pd_gt := pd_in 111 (by decide +kernel) (by decide +kernel)
theorem pq_951 : Cond.instanceMethod yX12_isMark ∈ pd_gt := pd_in 1721 (by decide +kernel) (by decide +kernel)
theorem pq_952 : Cond.selects yX12_isMark.cls yX12_isMark yX12_isMark ∈ pd_gt := pd_in 93 (by decide +kernel) (by decide +kernel)
theorem pq_953 : Cond.methodLink RX12 430 yX12_marks ∈ pd_gt := pd_in 1723 (by decide +kernel) (by decide +kernel)
theorem pq_954 : Cond.code yX12_marks cX12_marks 5 none ∈ pd_gt := pd_in 1726 (by decide +kernel) (by decide +kernel)
theorem pq_955 : Cond.initialized yX12_marks.cls ∈ pd_gt := pd_in 111 (by decide +kernel) (by decide +kernel)
theorem pq_956 : Cond.instanceMethod yX12_marks ∈ pd_gt := pd_in 1725 (by decide +kernel) (by decide +kernel)
theorem pq_957 : Cond.selects yX12_marks.cls yX12_marks yX12_marks ∈ pd_gt := pd_in 94 (by decide +kernel) (by decide +kernel)
theorem pq_958 : Cond.fieldLink RX12 106 "PayoutDeskModel" "far" "[I" ∈ pd_gt := pd_in 1237 (by decide +kernel) (by decide +kernel)
theorem pq_959 : Cond.methodLink RX12 337 yX12_areBeside ∈ pd_gt := pd_in 1553 (by decide +kernel) (by decide +kernel)
theorem pq_960 : Cond.code yX12_areBeside cX12_areBeside 3 (some .boolean) ∈ pd_gt := pd_in 1556 (by decide +kernel) (by decide +kernel)
theorem pq_961 : Cond.initialized yX12_areBeside.cls ∈ pd_gt := pd_in 111 (by decide +kernel) (by decide +kernel)
theorem pq_962 : Cond.instanceMethod yX12_areBeside ∈ pd_gt := pd_in 1555 (by decide +kernel) (by decide +kernel)
theorem pq_963 : Cond.selects yX12_areBeside.cls yX12_areBeside yX12_areBeside ∈ pd_gt := pd_in 68 (by decide +kernel) (by decide +kernel)
theorem pq_964 : Cond.methodLink RX12 366 yX12_paid ∈ pd_gt := pd_in 1645 (by decide +kernel) (by decide +kernel)
theorem pq_965 : Cond.code yX12_paid cX12_paid 4 (some .long) ∈ pd_gt := pd_in 1648 (by decide +kernel) (by decide +kernel)
theorem pq_966 : Cond.initialized yX12_paid.cls ∈ pd_gt := pd_in 111 (by decide +kernel) (by decide +kernel)
theorem pq_967 : Cond.instanceMethod yX12_paid ∈ pd_gt := pd_in 1647 (by decide +kernel) (by decide +kernel)
theorem pq_968 : Cond.selects yX12_paid.cls yX12_paid yX12_paid ∈ pd_gt := pd_in 84 (by decide +kernel) (by decide +kernel)
theorem pq_969 : Cond.fieldLink RX12 340 "PayoutDeskModel" "depositors" "I" ∈ pd_gt := pd_in 1236 (by decide +kernel) (by decide +kernel)
theorem pq_970 : Cond.fieldLink RX12 103 "PayoutDeskModel" "depositorOf" "[I" ∈ pd_gt := pd_in 1235 (by decide +kernel) (by decide +kernel)
theorem pq_971 : Cond.methodLink RX12 343 yX12_laysFar ∈ pd_gt := pd_in 1549 (by decide +kernel) (by decide +kernel)
theorem pq_972 : Cond.code yX12_laysFar cX12_laysFar 6 none ∈ pd_gt := pd_in 1552 (by decide +kernel) (by decide +kernel)
theorem pq_973 : Cond.initialized yX12_laysFar.cls ∈ pd_gt := pd_in 111 (by decide +kernel) (by decide +kernel)
theorem pq_974 : Cond.instanceMethod yX12_laysFar ∈ pd_gt := pd_in 1551 (by decide +kernel) (by decide +kernel)
theorem pq_975 : Cond.selects yX12_laysFar.cls yX12_laysFar yX12_laysFar ∈ pd_gt := pd_in 67 (by decide +kernel) (by decide +kernel)
theorem pq_976 : Cond.methodLink RX12 392 yX12_claim ∈ pd_gt := pd_in 1649 (by decide +kernel) (by decide +kernel)
theorem pq_977 : Cond.code yX12_claim cX12_claim 2 (some .long) ∈ pd_gt := pd_in 1652 (by decide +kernel) (by decide +kernel)
theorem pq_978 : Cond.initialized yX12_claim.cls ∈ pd_gt := pd_in 111 (by decide +kernel) (by decide +kernel)
theorem pq_979 : Cond.instanceMethod yX12_claim ∈ pd_gt := pd_in 1651 (by decide +kernel) (by decide +kernel)
theorem pq_980 : Cond.selects yX12_claim.cls yX12_claim yX12_claim ∈ pd_gt := pd_in 85 (by decide +kernel) (by decide +kernel)
theorem pq_981 : Cond.fieldLink RX12 118 "PayoutDeskModel" "isIn" "[Z" ∈ pd_gt := pd_in 1241 (by decide +kernel) (by decide +kernel)
theorem pq_982 : Cond.methodLink RX12 372 yX12_paidAll ∈ pd_gt := pd_in 1680 (by decide +kernel) (by decide +kernel)
theorem pq_983 : Cond.code yX12_paidAll cX12_paidAll 6 (some .long) ∈ pd_gt := pd_in 1683 (by decide +kernel) (by decide +kernel)
theorem pq_984 : Cond.initialized yX12_paidAll.cls ∈ pd_gt := pd_in 111 (by decide +kernel) (by decide +kernel)
theorem pq_985 : Cond.instanceMethod yX12_paidAll ∈ pd_gt := pd_in 1682 (by decide +kernel) (by decide +kernel)
theorem pq_986 : Cond.selects yX12_paidAll.cls yX12_paidAll yX12_paidAll ∈ pd_gt := pd_in 89 (by decide +kernel) (by decide +kernel)
theorem pq_987 : Cond.methodLink RX12 346 yX12_laysDepositors ∈ pd_gt := pd_in 1545 (by decide +kernel) (by decide +kernel)
theorem pq_988 : Cond.code yX12_laysDepositors cX12_laysDepositors 3 none ∈ pd_gt := pd_in 1548 (by decide +kernel) (by decide +kernel)
theorem pq_989 : Cond.initialized yX12_laysDepositors.cls ∈ pd_gt := pd_in 111 (by decide +kernel) (by decide +kernel)
theorem pq_990 : Cond.instanceMethod yX12_laysDepositors ∈ pd_gt := pd_in 1547 (by decide +kernel) (by decide +kernel)
theorem pq_991 : Cond.selects yX12_laysDepositors.cls yX12_laysDepositors yX12_laysDepositors ∈ pd_gt := pd_in 66 (by decide +kernel) (by decide +kernel)
theorem pq_992 : Cond.methodLink RX12 379 yX12_firstLetter ∈ pd_gt := pd_in 1569 (by decide +kernel) (by decide +kernel)
theorem pq_993 : Cond.code yX12_firstLetter cX12_firstLetter 4 (some .int) ∈ pd_gt := pd_in 1571 (by decide +kernel) (by decide +kernel)
theorem pq_994 : Cond.initialized yX12_firstLetter.cls ∈ pd_gt := pd_in 111 (by decide +kernel) (by decide +kernel)
theorem pq_995 : Cond.static yX12_firstLetter ∈ pd_gt := pd_in 1570 (by decide +kernel) (by decide +kernel)
theorem pq_996 : Cond.methodLink RX12 404 yX12_rank ∈ pd_gt := pd_in 1676 (by decide +kernel) (by decide +kernel)
theorem pq_997 : Cond.code yX12_rank cX12_rank 5 (some .long) ∈ pd_gt := pd_in 1679 (by decide +kernel) (by decide +kernel)
theorem pq_998 : Cond.initialized yX12_rank.cls ∈ pd_gt := pd_in 111 (by decide +kernel) (by decide +kernel)
theorem pq_999 : Cond.instanceMethod yX12_rank ∈ pd_gt := pd_in 1678 (by decide +kernel) (by decide +kernel)
theorem pq_1000 : Cond.selects yX12_rank.cls yX12_rank yX12_rank ∈ pd_gt := pd_in 88 (by decide +kernel) (by decide +kernel)
theorem pq_1001 : Cond.methodLink RX12 434 yX12_isTwo ∈ pd_gt := pd_in 1731 (by decide +kernel) (by decide +kernel)
theorem pq_1002 : Cond.code yX12_isTwo cX12_isTwo 3 (some .boolean) ∈ pd_gt := pd_in 1734 (by decide +kernel) (by decide +kernel)
theorem pq_1003 : Cond.initialized yX12_isTwo.cls ∈ pd_gt := pd_in 111 (by decide +kernel) (by decide +kernel)
theorem pq_1004 : Cond.instanceMethod yX12_isTwo ∈ pd_gt := pd_in 1733 (by decide +kernel) (by decide +kernel)
theorem pq_1005 : Cond.selects yX12_isTwo.cls yX12_isTwo yX12_isTwo ∈ pd_gt := pd_in 95 (by decide +kernel) (by decide +kernel)
theorem pq_1006 : Cond.methodLink RX12 317 yX12_deepOf ∈ pd_gt := pd_in 1585 (by decide +kernel) (by decide +kernel)
theorem pq_1007 : Cond.code yX12_deepOf cX12_deepOf 6 (some .int) ∈ pd_gt := pd_in 1588 (by decide +kernel) (by decide +kernel)
theorem pq_1008 : Cond.initialized yX12_deepOf.cls ∈ pd_gt := pd_in 111 (by decide +kernel) (by decide +kernel)
theorem pq_1009 : Cond.instanceMethod yX12_deepOf ∈ pd_gt := pd_in 1587 (by decide +kernel) (by decide +kernel)
theorem pq_1010 : Cond.selects yX12_deepOf.cls yX12_deepOf yX12_deepOf ∈ pd_gt := pd_in 74 (by decide +kernel) (by decide +kernel)
theorem pq_1011 : Cond.methodLink RX12 320 yX12_waysOf ∈ pd_gt := pd_in 1604 (by decide +kernel) (by decide +kernel)
theorem pq_1012 : Cond.code yX12_waysOf cX12_waysOf 6 (some .int) ∈ pd_gt := pd_in 1607 (by decide +kernel) (by decide +kernel)
theorem pq_1013 : Cond.initialized yX12_waysOf.cls ∈ pd_gt := pd_in 111 (by decide +kernel) (by decide +kernel)
theorem pq_1014 : Cond.instanceMethod yX12_waysOf ∈ pd_gt := pd_in 1606 (by decide +kernel) (by decide +kernel)
theorem pq_1015 : Cond.selects yX12_waysOf.cls yX12_waysOf yX12_waysOf ∈ pd_gt := pd_in 77 (by decide +kernel) (by decide +kernel)
theorem pq_1016 : Cond.methodLink RX12 314 yX12_fails ∈ pd_gt := pd_in 1581 (by decide +kernel) (by decide +kernel)
theorem pq_1017 : Cond.code yX12_fails cX12_fails 3 (some .boolean) ∈ pd_gt := pd_in 1584 (by decide +kernel) (by decide +kernel)
theorem pq_1018 : Cond.initialized yX12_fails.cls ∈ pd_gt := pd_in 111 (by decide +kernel) (by decide +kernel)
theorem pq_1019 : Cond.instanceMethod yX12_fails ∈ pd_gt := pd_in 1583 (by decide +kernel) (by decide +kernel)
theorem pq_1020 : Cond.selects yX12_fails.cls yX12_fails yX12_fails ∈ pd_gt := pd_in 73 (by decide +kernel) (by decide +kernel)
theorem pq_1021 : Cond.methodLink RX12 311 yX12_weights ∈ pd_gt := pd_in 1577 (by decide +kernel) (by decide +kernel)
theorem pq_1022 : Cond.code yX12_weights cX12_weights 4 (some .int) ∈ pd_gt := pd_in 1580 (by decide +kernel) (by decide +kernel)
theorem pq_1023 : Cond.initialized yX12_weights.cls ∈ pd_gt := pd_in 111 (by decide +kernel) (by decide +kernel)
theorem pq_1024 : Cond.instanceMethod yX12_weights ∈ pd_gt := pd_in 1579 (by decide +kernel) (by decide +kernel)
theorem pq_1025 : Cond.selects yX12_weights.cls yX12_weights yX12_weights ∈ pd_gt := pd_in 72 (by decide +kernel) (by decide +kernel)
theorem pq_1026 : Cond.methodLink RX12 324 yX12_gives ∈ pd_gt := pd_in 1616 (by decide +kernel) (by decide +kernel)
theorem pq_1027 : Cond.code yX12_gives cX12_gives 12 none ∈ pd_gt := pd_in 1619 (by decide +kernel) (by decide +kernel)
theorem pq_1028 : Cond.initialized yX12_gives.cls ∈ pd_gt := pd_in 111 (by decide +kernel) (by decide +kernel)
theorem pq_1029 : Cond.instanceMethod yX12_gives ∈ pd_gt := pd_in 1618 (by decide +kernel) (by decide +kernel)
theorem pq_1030 : Cond.selects yX12_gives.cls yX12_gives yX12_gives ∈ pd_gt := pd_in 79 (by decide +kernel) (by decide +kernel)
theorem pq_1031 : Cond.methodLink RX12 352 yX12_listOf ∈ pd_gt := pd_in 1597 (by decide +kernel) (by decide +kernel)
theorem pq_1032 : Cond.code yX12_listOf cX12_listOf 1 (some .int) ∈ pd_gt := pd_in 1599 (by decide +kernel) (by decide +kernel)
theorem pq_1033 : Cond.initialized yX12_listOf.cls ∈ pd_gt := pd_in 111 (by decide +kernel) (by decide +kernel)
theorem pq_1034 : Cond.static yX12_listOf ∈ pd_gt := pd_in 1598 (by decide +kernel) (by decide +kernel)
theorem pq_1035 : Cond.methodLink RX12 349 yX12_sharesNothing ∈ pd_gt := pd_in 1612 (by decide +kernel) (by decide +kernel)
theorem pq_1036 : Cond.code yX12_sharesNothing cX12_sharesNothing 2 none ∈ pd_gt := pd_in 1615 (by decide +kernel) (by decide +kernel)
theorem pq_1037 : Cond.initialized yX12_sharesNothing.cls ∈ pd_gt := pd_in 111 (by decide +kernel) (by decide +kernel)
theorem pq_1038 : Cond.instanceMethod yX12_sharesNothing ∈ pd_gt := pd_in 1614 (by decide +kernel) (by decide +kernel)
theorem pq_1039 : Cond.selects yX12_sharesNothing.cls yX12_sharesNothing yX12_sharesNothing ∈ pd_gt := pd_in 78 (by decide +kernel) (by decide +kernel)
theorem pq_1040 : Cond.methodLink RX12 387 yX12_reaches ∈ pd_gt := pd_in 1600 (by decide +kernel) (by decide +kernel)
theorem pq_1041 : Cond.code yX12_reaches cX12_reaches 4 (some .int) ∈ pd_gt := pd_in 1603 (by decide +kernel) (by decide +kernel)
theorem pq_1042 : Cond.initialized yX12_reaches.cls ∈ pd_gt := pd_in 111 (by decide +kernel) (by decide +kernel)
theorem pq_1043 : Cond.instanceMethod yX12_reaches ∈ pd_gt := pd_in 1602 (by decide +kernel) (by decide +kernel)
theorem pq_1044 : Cond.selects yX12_reaches.cls yX12_reaches yX12_reaches ∈ pd_gt := pd_in 76 (by decide +kernel) (by decide +kernel)
def pfX12_listOf (sh : pd_S) (n : Nat) (F : pd_F) (x0 : Int) : Option (Int × pd_F) :=
  some (pd_w (5 + x0), F)
def pfX12_weights_b4 (sh : pd_S) (n : Nat)  : Nat → pd_F → Int → Int → Int → Int → Option (Int × pd_F)
  | 0, _, _, _, _, _ => none
  | k + 1, F, x0, x1, x2, x3 =>
    pd_i (pd_ob sh 12 x0 = true) <|
    pd_i (pd_ib sh 0 0 (F x0 26) x1 = true) <|
    if x3 ≥ (F (F x0 26) x1) then
      some (x2, F)
    else
      pd_i (pd_ib sh 0 0 (F x0 28) (pd_w ((pd_w (5 * x1)) + x3)) = true) <|
      pd_l (pd_w (x2 + (F (F x0 28) (pd_w ((pd_w (5 * x1)) + x3))))) fun x2_26 =>
      pd_l (pd_w (x3 + 1)) fun x3_27 =>
      pfX12_weights_b4 sh n k F x0 x1 x2_26 x3_27
def pfX12_weights (sh : pd_S) (n : Nat) (F : pd_F) (x0 : Int) (x1 : Int) : Option (Int × pd_F) :=
  pfX12_weights_b4 sh n n F x0 x1 0 0
def pfX12_sharesNothing_b2 (sh : pd_S) (n : Nat)  : Nat → pd_F → Int → Int → Option pd_F
  | 0, _, _, _ => none
  | k + 1, F, x0, x1 =>
    if x1 ≥ 12 then
      some F
    else
      pd_i (pd_ob sh 12 x0 = true) <|
      pd_i (pd_ib sh 1 0 (F x0 44) x1 = true) <|
      pd_l (pd_up F (F x0 44) x1 0) fun F3 =>
      pd_l (pd_w (x1 + 1)) fun x1_15 =>
      pfX12_sharesNothing_b2 sh n k F3 x0 x1_15
def pfX12_sharesNothing (sh : pd_S) (n : Nat) (F : pd_F) (x0 : Int) : Option pd_F :=
  pfX12_sharesNothing_b2 sh n n F x0 0
def pfX12_isOut_b2 (sh : pd_S) (n : Nat)  : Nat → pd_F → Int → Int → Int → Option (Int × pd_F)
  | 0, _, _, _, _ => none
  | k + 1, F, x0, x1, x2 =>
    pd_i (pd_ob sh 12 x0 = true) <|
    pd_i (pd_ib sh 0 0 (F x0 39) 110 = true) <|
    if x2 ≥ (F (F x0 39) 110) then
      some (0, F)
    else
      pd_i (pd_ib sh 0 0 (F x0 39) (pd_w (74 + x2)) = true) <|
      if (F (F x0 39) (pd_w (74 + x2))) ≠ x1 then
        pd_l (pd_w (x2 + 1)) fun x2_28 =>
        pfX12_isOut_b2 sh n k F x0 x1 x2_28
      else
        some (1, F)
def pfX12_isOut (sh : pd_S) (n : Nat) (F : pd_F) (x0 : Int) (x1 : Int) : Option (Int × pd_F) :=
  pfX12_isOut_b2 sh n n F x0 x1 0
def pfX12_areJoined_b67 (sh : pd_S) (n : Nat) (c2 : pd_F → Int → Int → Int → Int → Option (Int × pd_F)) (F : pd_F) (x0 : Int) (x1 : Int) (x2 : Int) (x3 : Int) : Option (Int × pd_F) :=
  pd_l (pd_w (x3 + 1)) fun x3_67 =>
  c2 F x0 x1 x2 x3_67
def pfX12_areJoined_b53 (sh : pd_S) (n : Nat) (c2 : pd_F → Int → Int → Int → Int → Option (Int × pd_F)) (F : pd_F) (x0 : Int) (x1 : Int) (x2 : Int) (x3 : Int) (x4 : Int) (x5 : Int) : Option (Int × pd_F) :=
  if x4 ≠ x2 then
    pfX12_areJoined_b67 sh n c2 F x0 x1 x2 x3
  else
    if x5 ≠ x1 then
      pfX12_areJoined_b67 sh n c2 F x0 x1 x2 x3
    else
      some (1, F)
def pfX12_areJoined_b2 (sh : pd_S) (n : Nat)  : Nat → pd_F → Int → Int → Int → Int → Option (Int × pd_F)
  | 0, _, _, _, _, _ => none
  | k + 1, F, x0, x1, x2, x3 =>
    pd_i (pd_ob sh 12 x0 = true) <|
    pd_i (pd_ib sh 0 0 (F x0 39) 70 = true) <|
    if x3 ≥ (F (F x0 39) 70) then
      some (0, F)
    else
      pd_i (pd_ib sh 0 0 (F x0 39) (pd_w (10 + (pd_w (2 * x3)))) = true) <|
      pd_l (F (F x0 39) (pd_w (10 + (pd_w (2 * x3))))) fun x4_24 =>
      pd_i (pd_ib sh 0 0 (F x0 39) (pd_w ((pd_w (10 + (pd_w (2 * x3)))) + 1)) = true) <|
      pd_l (F (F x0 39) (pd_w ((pd_w (10 + (pd_w (2 * x3)))) + 1))) fun x5_39 =>
      if x4_24 ≠ x1 then
        pfX12_areJoined_b53 sh n (pfX12_areJoined_b2 sh n k) F x0 x1 x2 x3 x4_24 x5_39
      else
        if x5_39 = x2 then
          some (1, F)
        else
          pfX12_areJoined_b53 sh n (pfX12_areJoined_b2 sh n k) F x0 x1 x2 x3 x4_24 x5_39
def pfX12_areJoined (sh : pd_S) (n : Nat) (F : pd_F) (x0 : Int) (x1 : Int) (x2 : Int) : Option (Int × pd_F) :=
  pfX12_areJoined_b2 sh n n F x0 x1 x2 0
def pfX12_setOff (sh : pd_S) (n : Nat) (F : pd_F) (x0 : Int) (x1 : Int) : Option (Int × pd_F) :=
  pd_i (pd_ob sh 12 x0 = true) <|
  pd_i (pd_ib sh 1 0 (F x0 49) x1 = true) <|
  pd_i (pd_ib sh 1 0 (F x0 48) x1 = true) <|
  if (F (F x0 49) x1) ≥ (F (F x0 48) x1) then
    some (F (F x0 48) x1, F)
  else
    some (F (F x0 49) x1, F)
def pfX12_limit (sh : pd_S) (n : Nat) (F : pd_F) (x0 : Int) (x1 : Int) (x2 : Int) : Option (Int × pd_F) :=
  pd_i (pd_ob sh 12 x0 = true) <|
  pd_i (pd_ib sh 1 0 (F x0 50) x1 = true) <|
  pd_i (pd_ib sh 0 0 (F x0 39) 73 = true) <|
  if (F (F x0 50) x1) ≥ (F (F x0 39) 73) then
    some (pd_W (x2 + (F (F x0 39) 73)), F)
  else
    some (pd_W (x2 + (F (F x0 50) x1)), F)
def pfX12_firstLetter_b2 (sh : pd_S) (n : Nat)  : Nat → pd_F → Int → Option (Int × pd_F)
  | 0, _, _ => none
  | k + 1, F, x2 =>
    if x2 < 32 then
      some (pd_w ((pd_w x2) - 1), F)
    else
      pd_l (pd_Shr x2 5) fun x2_13 =>
      pfX12_firstLetter_b2 sh n k F x2_13
def pfX12_firstLetter (sh : pd_S) (n : Nat) (F : pd_F) (x0 : Int) : Option (Int × pd_F) :=
  pfX12_firstLetter_b2 sh n n F x0
def pfX12_keeps_b83 (sh : pd_S) (n : Nat)  (F : pd_F) (x0 : Int) : Option pd_F :=
  pd_i (pd_ob sh 12 x0 = true) <|
  pd_l (pd_up F x0 41 (pd_w ((F x0 41) + 1))) fun F2 =>
  some F2
def pfX12_keeps_b51 (sh : pd_S) (n : Nat)  : Nat → pd_F → Int → Int → Option pd_F
  | 0, _, _, _ => none
  | k + 1, F, x0, x1 =>
    if x1 ≥ 111 then
      pfX12_keeps_b83 sh n F x0
    else
      pd_i (pd_ob sh 12 x0 = true) <|
      pd_i (pd_ib sh 0 0 (F x0 39) x1 = true) <|
      pd_i (pd_ib sh 0 0 (F x0 40) (pd_w ((pd_w (111 * (F x0 41))) + x1)) = true) <|
      pd_l (pd_up F (F x0 40) (pd_w ((pd_w (111 * (F x0 41))) + x1)) (F (F x0 39) x1)) fun F6 =>
      pd_l (pd_w (x1 + 1)) fun x1_77 =>
      pfX12_keeps_b51 sh n k F6 x0 x1_77
def pfX12_keeps_b49 (sh : pd_S) (n : Nat)  (F : pd_F) (x0 : Int) : Option pd_F :=
  pfX12_keeps_b51 sh n n F x0 0
def pfX12_keeps_b39 (sh : pd_S) (n : Nat)  (F : pd_F) (x0 : Int) : Option pd_F :=
  pd_i (pd_ob sh 12 x0 = true) <|
  pd_l (pd_up F x0 41 (pd_w ((F x0 41) - 1))) fun F8 =>
  pfX12_keeps_b49 sh n F8 x0
def pfX12_keeps_b11 (sh : pd_S) (n : Nat)  : Nat → pd_F → Int → Int → Option pd_F
  | 0, _, _, _ => none
  | k + 1, F, x0, x1 =>
    if x1 ≥ 1665 then
      pfX12_keeps_b39 sh n F x0
    else
      pd_i (pd_ob sh 12 x0 = true) <|
      pd_i (pd_ib sh 0 0 (F x0 40) (pd_w (x1 + 111)) = true) <|
      pd_i (pd_ib sh 0 0 (F x0 40) x1 = true) <|
      pd_l (pd_up F (F x0 40) x1 (F (F x0 40) (pd_w (x1 + 111)))) fun F12 =>
      pd_l (pd_w (x1 + 1)) fun x1_33 =>
      pfX12_keeps_b11 sh n k F12 x0 x1_33
def pfX12_keeps (sh : pd_S) (n : Nat) (F : pd_F) (x0 : Int) : Option pd_F :=
  pd_i (pd_ob sh 12 x0 = true) <|
  if (F x0 41) ≠ 16 then
    pfX12_keeps_b49 sh n F x0
  else
    pfX12_keeps_b11 sh n n F x0 0
def pfX12_undo_b26 (sh : pd_S) (n : Nat)  : Nat → pd_F → Int → Int → Option (Int × pd_F)
  | 0, _, _, _ => none
  | k + 1, F, x0, x1 =>
    if x1 ≥ 111 then
      pd_i (pd_ob sh 12 x0 = true) <|
      some (F x0 41, F)
    else
      pd_i (pd_ob sh 12 x0 = true) <|
      pd_i (pd_ib sh 0 0 (F x0 40) (pd_w ((pd_w (111 * (F x0 41))) + x1)) = true) <|
      pd_i (pd_ib sh 0 0 (F x0 39) x1 = true) <|
      pd_l (pd_up F (F x0 39) x1 (F (F x0 40) (pd_w ((pd_w (111 * (F x0 41))) + x1)))) fun F5 =>
      pd_l (pd_w (x1 + 1)) fun x1_52 =>
      pfX12_undo_b26 sh n k F5 x0 x1_52
def pfX12_undo (sh : pd_S) (n : Nat) (F : pd_F) (x0 : Int) : Option (Int × pd_F) :=
  pd_i (pd_ob sh 12 x0 = true) <|
  pd_l (pd_up F x0 0 0) fun F7 =>
  if (F7 x0 41) ≠ 0 then
    pd_l (pd_up F7 x0 41 (pd_w ((F7 x0 41) - 1))) fun F8 =>
    pfX12_undo_b26 sh n n F8 x0 0
  else
    some ((-1), F7)
def pfX12_count (sh : pd_S) (n : Nat) (F : pd_F) (x0 : Int) (x1 : Int) : Option (Int × pd_F) :=
  pd_i (pd_ob sh 12 x0 = true) <|
  pd_l (pd_up F x0 0 0) fun F2 =>
  if x1 = 0 then
    pd_i (pd_ib sh 0 0 (F2 x0 14) 0 = true) <|
    some (F2 (F2 x0 14) 0, F2)
  else
    if x1 = 1 then
      pd_i (pd_ib sh 0 0 (F2 x0 15) 0 = true) <|
      some (F2 (F2 x0 15) 0, F2)
    else
      if x1 = 2 then
        pd_i (pd_ib sh 0 0 (F2 x0 16) 0 = true) <|
        some (F2 (F2 x0 16) 0, F2)
      else
        if x1 = 3 then
          pd_i (pd_ib sh 0 0 (F2 x0 17) 0 = true) <|
          some (F2 (F2 x0 17) 0, F2)
        else
          if x1 = 4 then
            pd_i (pd_ib sh 0 0 (F2 x0 18) 0 = true) <|
            some (F2 (F2 x0 18) 0, F2)
          else
            if x1 = 5 then
              pd_i (pd_ib sh 0 0 (F2 x0 39) 71 = true) <|
              some (F2 (F2 x0 39) 71, F2)
            else
              if x1 = 6 then
                pd_i (pd_ib sh 0 0 (F2 x0 39) 72 = true) <|
                some (F2 (F2 x0 39) 72, F2)
              else
                if x1 = 7 then
                  pd_i (pd_ib sh 0 0 (F2 x0 39) 73 = true) <|
                  some (F2 (F2 x0 39) 73, F2)
                else
                  if x1 = 8 then
                    pd_i (pd_ib sh 0 0 (F2 x0 39) 70 = true) <|
                    some (F2 (F2 x0 39) 70, F2)
                  else
                    if x1 = 9 then
                      pd_i (pd_ib sh 0 0 (F2 x0 39) 110 = true) <|
                      some (F2 (F2 x0 39) 110, F2)
                    else
                      if x1 = 10 then
                        some (F2 x0 41, F2)
                      else
                        if x1 = 11 then
                          some (F2 x0 2, F2)
                        else
                          some ((-1), F2)
def pfX12_isPerson (sh : pd_S) (n : Nat) (F : pd_F) (x0 : Int) (x1 : Int) : Option (Int × pd_F) :=
  pd_i (pd_ob sh 12 x0 = true) <|
  pd_i (pd_ib sh 0 0 (F x0 14) 0 = true) <|
  Option.bind (pfX12_within sh n F x1 0 (pd_w ((F (F x0 14) 0) - 1))) fun qr4 => pd_l qr4.1 fun r4 => pd_l qr4.2 fun F3 =>
  pd_i (r4 = 0 ∨ r4 = 1) <|
  some (r4, F3)
def pfX12_isAccount (sh : pd_S) (n : Nat) (F : pd_F) (x0 : Int) (x1 : Int) : Option (Int × pd_F) :=
  pd_i (pd_ob sh 12 x0 = true) <|
  pd_i (pd_ib sh 0 0 (F x0 16) 0 = true) <|
  Option.bind (pfX12_within sh n F x1 0 (pd_w ((F (F x0 16) 0) - 1))) fun qr4 => pd_l qr4.1 fun r4 => pd_l qr4.2 fun F3 =>
  pd_i (r4 = 0 ∨ r4 = 1) <|
  some (r4, F3)
def pfX12_haveMark_b49 (sh : pd_S) (n : Nat) (c2 : pd_F → Int → Int → Int → Int → Option (Int × pd_F)) (F : pd_F) (x0 : Int) (x1 : Int) (x2 : Int) (x3 : Int) : Option (Int × pd_F) :=
  pd_l (pd_w (x3 + 1)) fun x3_49 =>
  c2 F x0 x1 x2 x3_49
def pfX12_haveMark_b2 (sh : pd_S) (n : Nat)  : Nat → pd_F → Int → Int → Int → Int → Option (Int × pd_F)
  | 0, _, _, _, _, _ => none
  | k + 1, F, x0, x1, x2, x3 =>
    pd_i (pd_ob sh 12 x0 = true) <|
    pd_i (pd_ib sh 0 0 (F x0 20) x1 = true) <|
    if x3 ≥ (F (F x0 20) x1) then
      some (0, F)
    else
      pd_i (pd_ib sh 0 0 (F x0 21) (pd_w ((pd_w (3 * x1)) + x3)) = true) <|
      Option.bind (pfX12_hasMark sh n F x0 x2 (F (F x0 21) (pd_w ((pd_w (3 * x1)) + x3)))) fun qr5 => pd_l qr5.1 fun r5 => pd_l qr5.2 fun F4 =>
      if r5 = 0 then
        pfX12_haveMark_b49 sh n (pfX12_haveMark_b2 sh n k) F4 x0 x1 x2 x3
      else
        pd_i (pd_ib sh 0 0 (F4 x0 21) (pd_w ((pd_w (3 * x1)) + x3)) = true) <|
        Option.bind (pfX12_isOut sh n F4 x0 (F4 (F4 x0 21) (pd_w ((pd_w (3 * x1)) + x3)))) fun qr8 => pd_l qr8.1 fun r8 => pd_l qr8.2 fun F7 =>
        if r8 ≠ 0 then
          pfX12_haveMark_b49 sh n (pfX12_haveMark_b2 sh n k) F7 x0 x1 x2 x3
        else
          some (1, F7)
def pfX12_haveMark (sh : pd_S) (n : Nat) (F : pd_F) (x0 : Int) (x1 : Int) (x2 : Int) : Option (Int × pd_F) :=
  pfX12_haveMark_b2 sh n n F x0 x1 x2 0
def pfX12_net (sh : pd_S) (n : Nat) (F : pd_F) (x0 : Int) (x1 : Int) : Option (Int × pd_F) :=
  pd_i (pd_ob sh 12 x0 = true) <|
  pd_i (pd_ib sh 1 0 (F x0 48) x1 = true) <|
  Option.bind (pfX12_setOff sh n F x0 x1) fun qr4 => pd_l qr4.1 fun r4 => pd_l qr4.2 fun F3 =>
  some (pd_W ((F (F x0 48) x1) - r4), F3)
def pfX12_isMark_b2 (sh : pd_S) (n : Nat)  : Nat → pd_F → Int → Int → Int → Option (Int × pd_F)
  | 0, _, _, _, _ => none
  | k + 1, F, x0, x1, x2 =>
    pd_i (pd_ob sh 12 x0 = true) <|
    pd_i (pd_ib sh 0 0 (F x0 14) 0 = true) <|
    if x2 ≥ (F (F x0 14) 0) then
      some (0, F)
    else
      Option.bind (pfX12_hasMark sh n F x0 x2 x1) fun qr4 => pd_l qr4.1 fun r4 => pd_l qr4.2 fun F3 =>
      if r4 = 0 then
        pd_l (pd_w (x2 + 1)) fun x2_23 =>
        pfX12_isMark_b2 sh n k F3 x0 x1 x2_23
      else
        some (1, F3)
def pfX12_isMark (sh : pd_S) (n : Nat) (F : pd_F) (x0 : Int) (x1 : Int) : Option (Int × pd_F) :=
  pfX12_isMark_b2 sh n n F x0 x1 0
def pfX12_marks_b77 (sh : pd_S) (n : Nat)  : Nat → pd_F → Int → Int → Option pd_F
  | 0, _, _, _ => none
  | k + 1, F, x0, x4 =>
    pd_i (pd_ob sh 12 x0 = true) <|
    pd_i (pd_ib sh 0 0 (F x0 39) 110 = true) <|
    if x4 ≥ (F (F x0 39) 110) then
      some F
    else
      pd_i (pd_ib sh 0 0 (F x0 39) (pd_w ((pd_w (74 + x4)) + 1)) = true) <|
      pd_i (pd_ib sh 0 0 (F x0 39) (pd_w (74 + x4)) = true) <|
      pd_l (pd_up F (F x0 39) (pd_w (74 + x4)) (F (F x0 39) (pd_w ((pd_w (74 + x4)) + 1)))) fun F5 =>
      pd_l (pd_w (x4 + 1)) fun x4_111 =>
      pfX12_marks_b77 sh n k F5 x0 x4_111
def pfX12_marks_b63 (sh : pd_S) (n : Nat)  (F : pd_F) (x0 : Int) (x3 : Int) : Option pd_F :=
  pd_i (pd_ob sh 12 x0 = true) <|
  pd_i (pd_ib sh 0 0 (F x0 39) 110 = true) <|
  pd_l (pd_up F (F x0 39) 110 (pd_w ((F (F x0 39) 110) - 1))) fun F8 =>
  pfX12_marks_b77 sh n n F8 x0 x3
def pfX12_marks_b44 (sh : pd_S) (n : Nat)  : Nat → pd_F → Int → Int → Int → Option pd_F
  | 0, _, _, _, _ => none
  | k + 1, F, x0, x1, x3 =>
    pd_i (pd_ob sh 12 x0 = true) <|
    pd_i (pd_ib sh 0 0 (F x0 39) (pd_w (74 + x3)) = true) <|
    if (F (F x0 39) (pd_w (74 + x3))) = x1 then
      pfX12_marks_b63 sh n F x0 x3
    else
      pd_l (pd_w (x3 + 1)) fun x3_57 =>
      pfX12_marks_b44 sh n k F x0 x1 x3_57
def pfX12_marks (sh : pd_S) (n : Nat) (F : pd_F) (x0 : Int) (x1 : Int) (x2 : Int) : Option pd_F :=
  pd_i (pd_ob sh 12 x0 = true) <|
  Option.bind (pfX12_isOut sh n F x0 x1) fun qr12 => pd_l qr12.1 fun r12 => pd_l qr12.2 fun F11 =>
  if r12 ≠ x2 then
    if x2 = 0 then
      pfX12_marks_b44 sh n n F11 x0 x1 0
    else
      pd_i (pd_ib sh 0 0 (F11 x0 39) 110 = true) <|
      pd_i (pd_ib sh 0 0 (F11 x0 39) (pd_w (74 + (F11 (F11 x0 39) 110))) = true) <|
      pd_l (pd_up F11 (F11 x0 39) (pd_w (74 + (F11 (F11 x0 39) 110))) x1) fun F16 =>
      pd_i (pd_ib sh 0 0 (F16 x0 39) 110 = true) <|
      pd_l (pd_up F16 (F16 x0 39) 110 (pd_w ((F16 (F16 x0 39) 110) + 1))) fun F18 =>
      some F18
  else
    some F11
def pfX12_tell_b40 (sh : pd_S) (n : Nat)  (F : pd_F) (x0 : Int) (x1 : Int) (x2 : Int) (t0 : Int) (t1 : Int) (t2 : Int) : Option (Int × pd_F) :=
  Option.bind (pfX12_within sh n F t2 t1 t0) fun qr2 => pd_l qr2.1 fun r2 => pd_l qr2.2 fun F1 =>
  if r2 ≠ 0 then
    pd_i (pd_ob sh 12 x0 = true) <|
    Option.bind (pfX12_keeps sh n F1 x0) fun F3 =>
    pd_i (pd_ib sh 0 0 (F3 x0 39) (pd_w (71 + x1)) = true) <|
    pd_l (F3 (F3 x0 39) (pd_w (71 + x1))) fun x3_61 =>
    pd_l (pd_up F3 (F3 x0 39) (pd_w (71 + x1)) x2) fun F6 =>
    some (x3_61, F6)
  else
    some ((-1), F1)
def pfX12_tell (sh : pd_S) (n : Nat) (F : pd_F) (x0 : Int) (x1 : Int) (x2 : Int) : Option (Int × pd_F) :=
  pd_i (pd_ob sh 12 x0 = true) <|
  pd_l (pd_up F x0 0 0) fun F8 =>
  if (F8 x0 12) = 0 then
    some ((-1), F8)
  else
    Option.bind (pfX12_within sh n F8 x1 0 2) fun qr10 => pd_l qr10.1 fun r10 => pd_l qr10.2 fun F9 =>
    if r10 = 0 then
      some ((-1), F9)
    else
      if x1 ≠ 0 then
        pfX12_tell_b40 sh n F9 x0 x1 x2 9999999 0 x2
      else
        pfX12_tell_b40 sh n F9 x0 x1 x2 999 0 x2
def pfX12_keep_b45 (sh : pd_S) (n : Nat)  : Nat → pd_F → Int → Int → Int → Option (Int × pd_F)
  | 0, _, _, _, _ => none
  | k + 1, F, x0, x1, x3 =>
    if x3 ≥ 111 then
      pd_i (pd_ob sh 12 x0 = true) <|
      pd_l (pd_up F x0 41 0) fun F2 =>
      some (1, F2)
    else
      pd_i (pd_ob sh 12 x0 = true) <|
      pd_i (pd_ib sh 0 0 (F x0 42) (pd_w ((pd_w (111 * x1)) + x3)) = true) <|
      pd_i (pd_ib sh 0 0 (F x0 39) x3 = true) <|
      pd_l (pd_up F (F x0 39) x3 (F (F x0 42) (pd_w ((pd_w (111 * x1)) + x3)))) fun F6 =>
      pd_l (pd_w (x3 + 1)) fun x3_68 =>
      pfX12_keep_b45 sh n k F6 x0 x1 x3_68
def pfX12_keep_b112 (sh : pd_S) (n : Nat)  (F : pd_F) (x0 : Int) (x1 : Int) : Option (Int × pd_F) :=
  pd_i (pd_ob sh 12 x0 = true) <|
  pd_i (pd_ib sh 0 2 (F x0 43) x1 = true) <|
  pd_l (pd_up F (F x0 43) x1 1) fun F9 =>
  some (1, F9)
def pfX12_keep_b83 (sh : pd_S) (n : Nat)  : Nat → pd_F → Int → Int → Int → Option (Int × pd_F)
  | 0, _, _, _, _ => none
  | k + 1, F, x0, x1, x3 =>
    if x3 ≥ 111 then
      pfX12_keep_b112 sh n F x0 x1
    else
      pd_i (pd_ob sh 12 x0 = true) <|
      pd_i (pd_ib sh 0 0 (F x0 39) x3 = true) <|
      pd_i (pd_ib sh 0 0 (F x0 42) (pd_w ((pd_w (111 * x1)) + x3)) = true) <|
      pd_l (pd_up F (F x0 42) (pd_w ((pd_w (111 * x1)) + x3)) (F (F x0 39) x3)) fun F13 =>
      pd_l (pd_w (x3 + 1)) fun x3_106 =>
      pfX12_keep_b83 sh n k F13 x0 x1 x3_106
def pfX12_keep_b39 (sh : pd_S) (n : Nat)  (F : pd_F) (x0 : Int) (x1 : Int) (x2 : Int) : Option (Int × pd_F) :=
  if x2 = 0 then
    pfX12_keep_b83 sh n n F x0 x1 0
  else
    pfX12_keep_b45 sh n n F x0 x1 0
def pfX12_keep (sh : pd_S) (n : Nat) (F : pd_F) (x0 : Int) (x1 : Int) (x2 : Int) : Option (Int × pd_F) :=
  pd_i (pd_ob sh 12 x0 = true) <|
  pd_l (pd_up F x0 0 0) fun F15 =>
  if (F15 x0 12) = 0 then
    some (0, F15)
  else
    Option.bind (pfX12_within sh n F15 x1 0 2) fun qr17 => pd_l qr17.1 fun r17 => pd_l qr17.2 fun F16 =>
    if r17 = 0 then
      some (0, F16)
    else
      if x2 = 0 then
        pfX12_keep_b39 sh n F16 x0 x1 x2
      else
        pd_i (pd_ib sh 0 2 (F16 x0 43) x1 = true) <|
        if (F16 (F16 x0 43) x1) ≠ 0 then
          pfX12_keep_b39 sh n F16 x0 x1 x2
        else
          some (0, F16)
def pfX12_areBeside (sh : pd_S) (n : Nat) (F : pd_F) (x0 : Int) (x1 : Int) (x2 : Int) : Option (Int × pd_F) :=
  if x1 = x2 then
    some (0, F)
  else
    pd_i (pd_ob sh 12 x0 = true) <|
    Option.bind (pfX12_haveMark sh n F x0 x1 x2) fun qr2 => pd_l qr2.1 fun r2 => pd_l qr2.2 fun F1 =>
    if r2 ≠ 0 then
      some (1, F1)
    else
      Option.bind (pfX12_areJoined sh n F1 x0 x1 x2) fun qr5 => pd_l qr5.1 fun r5 => pd_l qr5.2 fun F4 =>
      if r5 = 0 then
        some (0, F4)
      else
        some (1, F4)
def pfX12_paid (sh : pd_S) (n : Nat) (F : pd_F) (x0 : Int) (x1 : Int) (x2 : Int) : Option (Int × pd_F) :=
  pd_i (pd_ob sh 12 x0 = true) <|
  Option.bind (pfX12_net sh n F x0 x1) fun qr2 => pd_l qr2.1 fun r2 => pd_l qr2.2 fun F1 =>
  Option.bind (pfX12_limit sh n F1 x0 x1 x2) fun qr5 => pd_l qr5.1 fun r5 => pd_l qr5.2 fun F4 =>
  if r2 ≥ r5 then
    Option.bind (pfX12_limit sh n F4 x0 x1 x2) fun qr7 => pd_l qr7.1 fun r7 => pd_l qr7.2 fun F6 =>
    some (r7, F6)
  else
    Option.bind (pfX12_net sh n F4 x0 x1) fun qr9 => pd_l qr9.1 fun r9 => pd_l qr9.2 fun F8 =>
    some (r9, F8)
def pfX12_isTwo (sh : pd_S) (n : Nat) (F : pd_F) (x0 : Int) (x1 : Int) (x2 : Int) : Option (Int × pd_F) :=
  pd_i (pd_ob sh 12 x0 = true) <|
  Option.bind (pfX12_isPerson sh n F x0 x1) fun qr2 => pd_l qr2.1 fun r2 => pd_l qr2.2 fun F1 =>
  if r2 = 0 then
    some (0, F1)
  else
    Option.bind (pfX12_isPerson sh n F1 x0 x2) fun qr5 => pd_l qr5.1 fun r5 => pd_l qr5.2 fun F4 =>
    if r5 = 0 then
      some (0, F4)
    else
      if x1 = x2 then
        some (0, F4)
      else
        some (1, F4)
def pfX12_balance (sh : pd_S) (n : Nat) (F : pd_F) (x0 : Int) (x1 : Int) (x2 : Int) : Option (Int × pd_F) :=
  pd_i (pd_ob sh 12 x0 = true) <|
  pd_l (pd_up F x0 0 0) fun F2 =>
  Option.bind (pfX12_isAccount sh n F2 x0 x1) fun qr4 => pd_l qr4.1 fun r4 => pd_l qr4.2 fun F3 =>
  if r4 = 0 then
    some ((-1), F3)
  else
    Option.bind (pfX12_within sh n F3 x2 0 9999999) fun qr6 => pd_l qr6.1 fun r6 => pd_l qr6.2 fun F5 =>
    if r6 ≠ 0 then
      Option.bind (pfX12_keeps sh n F5 x0) fun F7 =>
      pd_i (pd_ib sh 0 0 (F7 x0 39) x1 = true) <|
      pd_l (F7 (F7 x0 39) x1) fun x3_37 =>
      pd_l (pd_up F7 (F7 x0 39) x1 x2) fun F9 =>
      some (x3_37, F9)
    else
      some ((-1), F5)
def pfX12_split_b136 (sh : pd_S) (n : Nat)  : Nat → pd_F → Int → Int → Int → Option (Int × pd_F)
  | 0, _, _, _, _ => none
  | k + 1, F, x0, x3, x4 =>
    pd_i (pd_ob sh 12 x0 = true) <|
    pd_i (pd_ib sh 0 0 (F x0 39) 70 = true) <|
    if x4 ≥ (pd_w (2 * (F (F x0 39) 70))) then
      some (x3, F)
    else
      pd_i (pd_ib sh 0 0 (F x0 39) (pd_w ((pd_w (10 + x4)) + 2)) = true) <|
      pd_i (pd_ib sh 0 0 (F x0 39) (pd_w (10 + x4)) = true) <|
      pd_l (pd_up F (F x0 39) (pd_w (10 + x4)) (F (F x0 39) (pd_w ((pd_w (10 + x4)) + 2)))) fun F5 =>
      pd_l (pd_w (x4 + 1)) fun x4_172 =>
      pfX12_split_b136 sh n k F5 x0 x3 x4_172
def pfX12_split_b119 (sh : pd_S) (n : Nat)  (F : pd_F) (x0 : Int) (x2 : Int) (t0 : Int) : Option (Int × pd_F) :=
  pd_i (pd_ob sh 12 x0 = true) <|
  pd_i (pd_ib sh 0 0 (F x0 39) 70 = true) <|
  pd_l (pd_up F (F x0 39) 70 (pd_w ((F (F x0 39) 70) - 1))) fun F8 =>
  pd_l (pd_w (2 * x2)) fun x4_134 =>
  pfX12_split_b136 sh n n F8 x0 t0 x4_134
def pfX12_split_b67 (sh : pd_S) (n : Nat)  (F : pd_F) (x0 : Int) (x1 : Int) (x2 : Int) : Option (Int × pd_F) :=
  if x2 ≥ 0 then
    pd_i (pd_ob sh 12 x0 = true) <|
    Option.bind (pfX12_keeps sh n F x0) fun F9 =>
    pd_i (pd_ib sh 0 0 (F9 x0 39) (pd_w (10 + (pd_w (2 * x2)))) = true) <|
    if (F9 (F9 x0 39) (pd_w (10 + (pd_w (2 * x2))))) ≠ x1 then
      pfX12_split_b119 sh n F9 x0 x2 (F9 (F9 x0 39) (pd_w (10 + (pd_w (2 * x2)))))
    else
      pd_i (pd_ib sh 0 0 (F9 x0 39) (pd_w ((pd_w (10 + (pd_w (2 * x2)))) + 1)) = true) <|
      pfX12_split_b119 sh n F9 x0 x2 (F9 (F9 x0 39) (pd_w ((pd_w (10 + (pd_w (2 * x2)))) + 1)))
  else
    some ((-1), F)
def pfX12_split_b25 (sh : pd_S) (n : Nat)  : Nat → pd_F → Int → Int → Int → Option (Int × pd_F)
  | 0, _, _, _, _ => none
  | k + 1, F, x0, x1, x2 =>
    if x2 < 0 then
      pfX12_split_b67 sh n F x0 x1 x2
    else
      pd_i (pd_ob sh 12 x0 = true) <|
      pd_i (pd_ib sh 0 0 (F x0 39) (pd_w (10 + (pd_w (2 * x2)))) = true) <|
      if (F (F x0 39) (pd_w (10 + (pd_w (2 * x2))))) = x1 then
        pfX12_split_b67 sh n F x0 x1 x2
      else
        pd_i (pd_ib sh 0 0 (F x0 39) (pd_w ((pd_w (10 + (pd_w (2 * x2)))) + 1)) = true) <|
        if (F (F x0 39) (pd_w ((pd_w (10 + (pd_w (2 * x2)))) + 1))) = x1 then
          pfX12_split_b67 sh n F x0 x1 x2
        else
          pd_l (pd_w (x2 + (-1))) fun x2_61 =>
          pfX12_split_b25 sh n k F x0 x1 x2_61
def pfX12_split (sh : pd_S) (n : Nat) (F : pd_F) (x0 : Int) (x1 : Int) : Option (Int × pd_F) :=
  pd_i (pd_ob sh 12 x0 = true) <|
  pd_l (pd_up F x0 0 0) fun F17 =>
  Option.bind (pfX12_isPerson sh n F17 x0 x1) fun qr19 => pd_l qr19.1 fun r19 => pd_l qr19.2 fun F18 =>
  if r19 ≠ 0 then
    pd_i (pd_ib sh 0 0 (F18 x0 39) 70 = true) <|
    pd_l (pd_w ((F18 (F18 x0 39) 70) - 1)) fun x2_24 =>
    pfX12_split_b25 sh n n F18 x0 x1 x2_24
  else
    some ((-1), F18)
def pfX12_mark (sh : pd_S) (n : Nat) (F : pd_F) (x0 : Int) (x1 : Int) (x2 : Int) : Option (Int × pd_F) :=
  pd_i (pd_ob sh 12 x0 = true) <|
  pd_l (pd_up F x0 0 0) fun F2 =>
  Option.bind (pfX12_isMark sh n F2 x0 x1) fun qr4 => pd_l qr4.1 fun r4 => pd_l qr4.2 fun F3 =>
  if r4 ≠ 0 then
    Option.bind (pfX12_keeps sh n F3 x0) fun F5 =>
    Option.bind (pfX12_marks sh n F5 x0 x1 x2) fun F6 =>
    some (1, F6)
  else
    some (0, F3)
def pfX12_laysFar_b113 (sh : pd_S) (n : Nat) (c32 : pd_F → Int → Int → Int → Option pd_F) (c41 : pd_F → Int → Int → Int → Int → Option pd_F) (c55 : pd_F → Int → Int → Int → Int → Int → Option pd_F) (F : pd_F) (x0 : Int) (x2 : Int) (x3 : Int) (x4 : Int) (x5 : Int) : Option pd_F :=
  pd_l (pd_w (x5 + 1)) fun x5_113 =>
  c55 F x0 x2 x3 x4 x5_113
def pfX12_laysFar_b119 (sh : pd_S) (n : Nat) (c32 : pd_F → Int → Int → Int → Option pd_F) (c41 : pd_F → Int → Int → Int → Int → Option pd_F) (F : pd_F) (x0 : Int) (x2 : Int) (x3 : Int) (x4 : Int) : Option pd_F :=
  pd_l (pd_w (x4 + 1)) fun x4_119 =>
  c41 F x0 x2 x3 x4_119
def pfX12_laysFar_b55 (sh : pd_S) (n : Nat) (c32 : pd_F → Int → Int → Int → Option pd_F) (c41 : pd_F → Int → Int → Int → Int → Option pd_F) : Nat → pd_F → Int → Int → Int → Int → Int → Option pd_F
  | 0, _, _, _, _, _, _ => none
  | k + 1, F, x0, x2, x3, x4, x5 =>
    pd_i (pd_ob sh 12 x0 = true) <|
    pd_i (pd_ib sh 0 0 (F x0 14) 0 = true) <|
    if x5 ≥ (F (F x0 14) 0) then
      pfX12_laysFar_b119 sh n c32 c41 F x0 x2 x3 x4
    else
      pd_i (pd_ib sh 0 0 (F x0 47) x4 = true) <|
      if (F (F x0 47) x4) ≠ x3 then
        pfX12_laysFar_b119 sh n c32 c41 F x0 x2 x3 x4
      else
        pd_i (pd_ib sh 0 0 (F x0 47) x5 = true) <|
        if (F (F x0 47) x5) ≥ 0 then
          pfX12_laysFar_b113 sh n c32 c41 (pfX12_laysFar_b55 sh n c32 c41 k) F x0 x2 x3 x4 x5
        else
          Option.bind (pfX12_areBeside sh n F x0 x4 x5) fun qr6 => pd_l qr6.1 fun r6 => pd_l qr6.2 fun F5 =>
          if r6 ≠ 0 then
            pd_i (pd_ib sh 0 0 (F5 x0 47) x5 = true) <|
            pd_l (pd_up F5 (F5 x0 47) x5 (pd_w (x3 + 1))) fun F8 =>
            pfX12_laysFar_b113 sh n c32 c41 (pfX12_laysFar_b55 sh n c32 c41 k) F8 x0 1 x3 x4 x5
          else
            pfX12_laysFar_b113 sh n c32 c41 (pfX12_laysFar_b55 sh n c32 c41 k) F5 x0 x2 x3 x4 x5
def pfX12_laysFar_b125 (sh : pd_S) (n : Nat) (c32 : pd_F → Int → Int → Int → Option pd_F) (F : pd_F) (x0 : Int) (x2 : Int) (x3 : Int) : Option pd_F :=
  pd_l (pd_w (x3 + 1)) fun x3_125 =>
  c32 F x0 x2 x3_125
def pfX12_laysFar_b41 (sh : pd_S) (n : Nat) (c32 : pd_F → Int → Int → Int → Option pd_F) : Nat → pd_F → Int → Int → Int → Int → Option pd_F
  | 0, _, _, _, _, _ => none
  | k + 1, F, x0, x2, x3, x4 =>
    pd_i (pd_ob sh 12 x0 = true) <|
    pd_i (pd_ib sh 0 0 (F x0 14) 0 = true) <|
    if x4 ≥ (F (F x0 14) 0) then
      pfX12_laysFar_b125 sh n c32 F x0 x2 x3
    else
      pfX12_laysFar_b55 sh n c32 (pfX12_laysFar_b41 sh n c32 k) n F x0 x2 x3 x4 0
def pfX12_laysFar_b32 (sh : pd_S) (n : Nat)  : Nat → pd_F → Int → Int → Int → Option pd_F
  | 0, _, _, _, _ => none
  | k + 1, F, x0, x2, x3 =>
    if x2 = 0 then
      some F
    else
      pfX12_laysFar_b41 sh n (pfX12_laysFar_b32 sh n k) n F x0 0 x3 0
def pfX12_laysFar_b21 (sh : pd_S) (n : Nat)  (F : pd_F) (x0 : Int) (x1 : Int) : Option pd_F :=
  pd_i (pd_ob sh 12 x0 = true) <|
  pd_i (pd_ib sh 0 0 (F x0 47) x1 = true) <|
  pd_l (pd_up F (F x0 47) x1 0) fun F13 =>
  pfX12_laysFar_b32 sh n n F13 x0 1 0
def pfX12_laysFar_b2 (sh : pd_S) (n : Nat)  : Nat → pd_F → Int → Int → Int → Option pd_F
  | 0, _, _, _, _ => none
  | k + 1, F, x0, x1, x2 =>
    if x2 ≥ 12 then
      pfX12_laysFar_b21 sh n F x0 x1
    else
      pd_i (pd_ob sh 12 x0 = true) <|
      pd_i (pd_ib sh 0 0 (F x0 47) x2 = true) <|
      pd_l (pd_up F (F x0 47) x2 (-1)) fun F16 =>
      pd_l (pd_w (x2 + 1)) fun x2_15 =>
      pfX12_laysFar_b2 sh n k F16 x0 x1 x2_15
def pfX12_laysFar (sh : pd_S) (n : Nat) (F : pd_F) (x0 : Int) (x1 : Int) : Option pd_F :=
  pfX12_laysFar_b2 sh n n F x0 x1 0
def pfX12_claim (sh : pd_S) (n : Nat) (F : pd_F) (x0 : Int) (x1 : Int) : Option (Int × pd_F) :=
  pd_i (pd_ob sh 12 x0 = true) <|
  Option.bind (pfX12_net sh n F x0 x1) fun qr2 => pd_l qr2.1 fun r2 => pd_l qr2.2 fun F1 =>
  pd_i (pd_ib sh 0 0 (F1 x0 39) 72 = true) <|
  Option.bind (pfX12_paid sh n F1 x0 x1 (F1 (F1 x0 39) 72)) fun qr6 => pd_l qr6.1 fun r6 => pd_l qr6.2 fun F5 =>
  some (pd_W (r2 - r6), F5)
def pfX12_paidAll_b5 (sh : pd_S) (n : Nat)  : Nat → pd_F → Int → Int → Int → Int → Option (Int × pd_F)
  | 0, _, _, _, _, _ => none
  | k + 1, F, x0, x1, x3, x5 =>
    pd_i (pd_ob sh 12 x0 = true) <|
    if x5 ≥ (F x0 46) then
      some (x3, F)
    else
      Option.bind (pfX12_paid sh n F x0 x5 x1) fun qr3 => pd_l qr3.1 fun r3 => pd_l qr3.2 fun F2 =>
      pd_l (pd_W (x3 + r3)) fun x3_23 =>
      pd_l (pd_w (x5 + 1)) fun x5_24 =>
      pfX12_paidAll_b5 sh n k F2 x0 x1 x3_23 x5_24
def pfX12_paidAll (sh : pd_S) (n : Nat) (F : pd_F) (x0 : Int) (x1 : Int) : Option (Int × pd_F) :=
  pfX12_paidAll_b5 sh n n F x0 x1 0 0
def pfX12_laysDepositors_b86 (sh : pd_S) (n : Nat) (c28 : pd_F → Int → Int → Option pd_F) (c57 : pd_F → Int → Int → Int → Option pd_F) (F : pd_F) (x0 : Int) (x1 : Int) (x2 : Int) : Option pd_F :=
  pd_l (pd_w (x2 + 1)) fun x2_86 =>
  c57 F x0 x1 x2_86
def pfX12_laysDepositors_b102 (sh : pd_S) (n : Nat) (c28 : pd_F → Int → Int → Option pd_F) (F : pd_F) (x0 : Int) (x1 : Int) : Option pd_F :=
  pd_l (pd_w (x1 + 1)) fun x1_102 =>
  c28 F x0 x1_102
def pfX12_laysDepositors_b92 (sh : pd_S) (n : Nat) (c28 : pd_F → Int → Int → Option pd_F) (F : pd_F) (x0 : Int) (x1 : Int) : Option pd_F :=
  pd_i (pd_ob sh 12 x0 = true) <|
  pd_l (pd_up F x0 46 (pd_w ((F x0 46) + 1))) fun F2 =>
  pfX12_laysDepositors_b102 sh n c28 F2 x0 x1
def pfX12_laysDepositors_b57 (sh : pd_S) (n : Nat) (c28 : pd_F → Int → Int → Option pd_F) : Nat → pd_F → Int → Int → Int → Option pd_F
  | 0, _, _, _, _ => none
  | k + 1, F, x0, x1, x2 =>
    pd_i (pd_ob sh 12 x0 = true) <|
    pd_i (pd_ib sh 0 0 (F x0 14) 0 = true) <|
    if x2 ≥ (F (F x0 14) 0) then
      pfX12_laysDepositors_b92 sh n c28 F x0 x1
    else
      pd_i (pd_ib sh 0 0 (F x0 47) x2 = true) <|
      if (F (F x0 47) x2) < 0 then
        pfX12_laysDepositors_b86 sh n c28 (pfX12_laysDepositors_b57 sh n c28 k) F x0 x1 x2
      else
        pd_i (pd_ib sh 0 0 (F x0 45) x2 = true) <|
        pd_l (pd_up F (F x0 45) x2 (F x0 46)) fun F7 =>
        pfX12_laysDepositors_b86 sh n c28 (pfX12_laysDepositors_b57 sh n c28 k) F7 x0 x1 x2
def pfX12_laysDepositors_b28 (sh : pd_S) (n : Nat)  : Nat → pd_F → Int → Int → Option pd_F
  | 0, _, _, _ => none
  | k + 1, F, x0, x1 =>
    pd_i (pd_ob sh 12 x0 = true) <|
    pd_i (pd_ib sh 0 0 (F x0 14) 0 = true) <|
    if x1 ≥ (F (F x0 14) 0) then
      some F
    else
      pd_i (pd_ib sh 0 0 (F x0 45) x1 = true) <|
      if (F (F x0 45) x1) < 0 then
        Option.bind (pfX12_laysFar sh n F x0 x1) fun F11 =>
        pfX12_laysDepositors_b57 sh n (pfX12_laysDepositors_b28 sh n k) n F11 x0 x1 0
      else
        pfX12_laysDepositors_b102 sh n (pfX12_laysDepositors_b28 sh n k) F x0 x1
def pfX12_laysDepositors_b26 (sh : pd_S) (n : Nat)  (F : pd_F) (x0 : Int) : Option pd_F :=
  pfX12_laysDepositors_b28 sh n n F x0 0
def pfX12_laysDepositors_b7 (sh : pd_S) (n : Nat)  : Nat → pd_F → Int → Int → Option pd_F
  | 0, _, _, _ => none
  | k + 1, F, x0, x1 =>
    if x1 ≥ 12 then
      pfX12_laysDepositors_b26 sh n F x0
    else
      pd_i (pd_ob sh 12 x0 = true) <|
      pd_i (pd_ib sh 0 0 (F x0 45) x1 = true) <|
      pd_l (pd_up F (F x0 45) x1 (-1)) fun F14 =>
      pd_l (pd_w (x1 + 1)) fun x1_20 =>
      pfX12_laysDepositors_b7 sh n k F14 x0 x1_20
def pfX12_laysDepositors (sh : pd_S) (n : Nat) (F : pd_F) (x0 : Int) : Option pd_F :=
  pd_i (pd_ob sh 12 x0 = true) <|
  pd_l (pd_up F x0 46 0) fun F16 =>
  pfX12_laysDepositors_b7 sh n n F16 x0 0
def pfX12_placeOf_b51 (sh : pd_S) (n : Nat) (c4 : pd_F → Int → Int → Int → Int → Option (Int × pd_F)) (F : pd_F) (x0 : Int) (x1 : Int) (x3 : Int) (t0 : Int) (t1 : Int) : Option (Int × pd_F) :=
  pd_l (pd_w (t1 + t0)) fun x2_52 =>
  pd_l (pd_w (x3 + 1)) fun x3_53 =>
  c4 F x0 x1 x2_52 x3_53
def pfX12_placeOf_b46 (sh : pd_S) (n : Nat) (c4 : pd_F → Int → Int → Int → Int → Option (Int × pd_F)) (F : pd_F) (x0 : Int) (x1 : Int) (x3 : Int) (t0 : Int) : Option (Int × pd_F) :=
  pfX12_placeOf_b51 sh n c4 F x0 x1 x3 1 t0
def pfX12_placeOf_b50 (sh : pd_S) (n : Nat) (c4 : pd_F → Int → Int → Int → Int → Option (Int × pd_F)) (F : pd_F) (x0 : Int) (x1 : Int) (x3 : Int) (t0 : Int) : Option (Int × pd_F) :=
  pfX12_placeOf_b51 sh n c4 F x0 x1 x3 0 t0
def pfX12_placeOf_b4 (sh : pd_S) (n : Nat)  : Nat → pd_F → Int → Int → Int → Int → Option (Int × pd_F)
  | 0, _, _, _, _, _ => none
  | k + 1, F, x0, x1, x2, x3 =>
    pd_i (pd_ob sh 12 x0 = true) <|
    if x3 ≥ (F x0 46) then
      some (x2, F)
    else
      Option.bind (pfX12_claim sh n F x0 x3) fun qr3 => pd_l qr3.1 fun r3 => pd_l qr3.2 fun F2 =>
      Option.bind (pfX12_claim sh n F2 x0 x1) fun qr5 => pd_l qr5.1 fun r5 => pd_l qr5.2 fun F4 =>
      if r3 > r5 then
        pfX12_placeOf_b46 sh n (pfX12_placeOf_b4 sh n k) F4 x0 x1 x3 x2
      else
        Option.bind (pfX12_claim sh n F4 x0 x3) fun qr7 => pd_l qr7.1 fun r7 => pd_l qr7.2 fun F6 =>
        Option.bind (pfX12_claim sh n F6 x0 x1) fun qr9 => pd_l qr9.1 fun r9 => pd_l qr9.2 fun F8 =>
        if r7 ≠ r9 then
          pfX12_placeOf_b50 sh n (pfX12_placeOf_b4 sh n k) F8 x0 x1 x3 x2
        else
          if x3 ≥ x1 then
            pfX12_placeOf_b50 sh n (pfX12_placeOf_b4 sh n k) F8 x0 x1 x3 x2
          else
            pfX12_placeOf_b46 sh n (pfX12_placeOf_b4 sh n k) F8 x0 x1 x3 x2
def pfX12_placeOf (sh : pd_S) (n : Nat) (F : pd_F) (x0 : Int) (x1 : Int) : Option (Int × pd_F) :=
  pfX12_placeOf_b4 sh n n F x0 x1 0 0
def pfX12_rank_b68 (sh : pd_S) (n : Nat) (c24 : pd_F → Int → Int → Int → Int → Option (Int × pd_F)) (F : pd_F) (x0 : Int) (x1 : Int) (x4 : Int) (t0 : Int) (t1 : Int) : Option (Int × pd_F) :=
  pd_l (pd_W (t1 + t0)) fun x2_69 =>
  pd_l (pd_w (x4 + 1)) fun x4_70 =>
  c24 F x0 x1 x2_69 x4_70
def pfX12_rank_b55 (sh : pd_S) (n : Nat) (c24 : pd_F → Int → Int → Int → Int → Option (Int × pd_F)) (F : pd_F) (x0 : Int) (x1 : Int) (x4 : Int) (t0 : Int) (t1 : Int) (t2 : Int) : Option (Int × pd_F) :=
  if t1 ≠ t0 then
    pfX12_rank_b68 sh n c24 F x0 x1 x4 0 t2
  else
    pd_i (pd_ob sh 12 x0 = true) <|
    Option.bind (pfX12_claim sh n F x0 x4) fun qr2 => pd_l qr2.1 fun r2 => pd_l qr2.2 fun F1 =>
    pfX12_rank_b68 sh n c24 F1 x0 x1 x4 r2 t2
def pfX12_rank_b24 (sh : pd_S) (n : Nat)  : Nat → pd_F → Int → Int → Int → Int → Option (Int × pd_F)
  | 0, _, _, _, _, _ => none
  | k + 1, F, x0, x1, x2, x4 =>
    pd_i (pd_ob sh 12 x0 = true) <|
    if x4 ≥ (F x0 46) then
      some (x2, F)
    else
      if x1 ≤ 0 then
        some (x2, F)
      else
        pd_i (pd_ib sh 0 2 (F x0 51) x4 = true) <|
        if x1 ≠ 2 then
          pfX12_rank_b55 sh n (pfX12_rank_b24 sh n k) F x0 x1 x4 0 (F (F x0 51) x4) x2
        else
          pfX12_rank_b55 sh n (pfX12_rank_b24 sh n k) F x0 x1 x4 1 (F (F x0 51) x4) x2
def pfX12_rank_b20 (sh : pd_S) (n : Nat)  (F : pd_F) (x0 : Int) (x1 : Int) (t0 : Int) : Option (Int × pd_F) :=
  pfX12_rank_b24 sh n n F x0 x1 t0 0
def pfX12_rank (sh : pd_S) (n : Nat) (F : pd_F) (x0 : Int) (x1 : Int) : Option (Int × pd_F) :=
  if x1 ≠ 0 then
    pfX12_rank_b20 sh n F x0 x1 0
  else
    pd_i (pd_ob sh 12 x0 = true) <|
    pd_i (pd_ib sh 0 0 (F x0 39) 72 = true) <|
    Option.bind (pfX12_paidAll sh n F x0 (F (F x0 39) 72)) fun qr9 => pd_l qr9.1 fun r9 => pd_l qr9.2 fun F8 =>
    pfX12_rank_b20 sh n F8 x0 x1 r9
def pfX12_apart (sh : pd_S) (n : Nat) (F : pd_F) (x0 : Int) (x1 : Int) (x2 : Int) : Option (Int × pd_F) :=
  pd_i (pd_ob sh 12 x0 = true) <|
  pd_l (pd_up F x0 0 0) fun F2 =>
  Option.bind (pfX12_isPerson sh n F2 x0 x1) fun qr4 => pd_l qr4.1 fun r4 => pd_l qr4.2 fun F3 =>
  if r4 = 0 then
    some ((-1), F3)
  else
    Option.bind (pfX12_isPerson sh n F3 x0 x2) fun qr6 => pd_l qr6.1 fun r6 => pd_l qr6.2 fun F5 =>
    if r6 ≠ 0 then
      Option.bind (pfX12_laysFar sh n F5 x0 x1) fun F7 =>
      pd_i (pd_ib sh 0 0 (F7 x0 47) x2 = true) <|
      some (F7 (F7 x0 47) x2, F7)
    else
      some ((-1), F5)
def pfX12_person (sh : pd_S) (n : Nat) (F : pd_F) (x0 : Int) (x1 : Int) (x2 : Int) : Option (Int × pd_F) :=
  pd_i (pd_ob sh 12 x0 = true) <|
  pd_l (pd_up F x0 0 0) fun F2 =>
  Option.bind (pfX12_isPerson sh n F2 x0 x1) fun qr4 => pd_l qr4.1 fun r4 => pd_l qr4.2 fun F3 =>
  if r4 ≠ 0 then
    Option.bind (pfX12_laysDepositors sh n F3 x0) fun F5 =>
    if x2 = 0 then
      pd_i (pd_ib sh 0 0 (F5 x0 20) x1 = true) <|
      some (F5 (F5 x0 20) x1, F5)
    else
      if x2 = 1 then
        pd_i (pd_ib sh 0 0 (F5 x0 20) x1 = true) <|
        if x2 > (F5 (F5 x0 20) x1) then
          some (0, F5)
        else
          pd_i (pd_ib sh 0 0 (F5 x0 21) (pd_w ((pd_w ((pd_w (3 * x1)) + x2)) - 1)) = true) <|
          some (F5 (F5 x0 21) (pd_w ((pd_w ((pd_w (3 * x1)) + x2)) - 1)), F5)
      else
        if x2 = 2 then
          pd_i (pd_ib sh 0 0 (F5 x0 20) x1 = true) <|
          if x2 > (F5 (F5 x0 20) x1) then
            some (0, F5)
          else
            pd_i (pd_ib sh 0 0 (F5 x0 21) (pd_w ((pd_w ((pd_w (3 * x1)) + x2)) - 1)) = true) <|
            some (F5 (F5 x0 21) (pd_w ((pd_w ((pd_w (3 * x1)) + x2)) - 1)), F5)
        else
          if x2 = 3 then
            pd_i (pd_ib sh 0 0 (F5 x0 20) x1 = true) <|
            if x2 > (F5 (F5 x0 20) x1) then
              some (0, F5)
            else
              pd_i (pd_ib sh 0 0 (F5 x0 21) (pd_w ((pd_w ((pd_w (3 * x1)) + x2)) - 1)) = true) <|
              some (F5 (F5 x0 21) (pd_w ((pd_w ((pd_w (3 * x1)) + x2)) - 1)), F5)
          else
            if x2 = 4 then
              pd_i (pd_ib sh 0 2 (F5 x0 22) x1 = true) <|
              if (F5 (F5 x0 22) x1) = 0 then
                some (0, F5)
              else
                some (1, F5)
            else
              if x2 = 5 then
                pd_i (pd_ib sh 0 0 (F5 x0 45) x1 = true) <|
                some (F5 (F5 x0 45) x1, F5)
              else
                if x2 = 6 then
                  pd_i (pd_ib sh 1 0 (F5 x0 19) x1 = true) <|
                  Option.bind (pfX12_firstLetter sh n F5 (F5 (F5 x0 19) x1)) fun qr17 => pd_l qr17.1 fun r17 => pd_l qr17.2 fun F16 =>
                  some (r17, F16)
                else
                  some ((-1), F5)
  else
    some ((-1), F3)
def pfX12_who_b59 (sh : pd_S) (n : Nat) (c31 : pd_F → Int → Int → Int → Int → Option (Int × pd_F)) (F : pd_F) (x0 : Int) (x1 : Int) (x3 : Int) (t0 : Int) (t1 : Int) : Option (Int × pd_F) :=
  pd_l (pd_or t1 t0) fun x2_60 =>
  pd_l (pd_w (x3 + 1)) fun x3_61 =>
  c31 F x0 x1 x2_60 x3_61
def pfX12_who_b31 (sh : pd_S) (n : Nat)  : Nat → pd_F → Int → Int → Int → Int → Option (Int × pd_F)
  | 0, _, _, _, _, _ => none
  | k + 1, F, x0, x1, x2, x3 =>
    pd_i (pd_ob sh 12 x0 = true) <|
    pd_i (pd_ib sh 0 0 (F x0 14) 0 = true) <|
    if x3 ≥ (F (F x0 14) 0) then
      some (x2, F)
    else
      pd_i (pd_ib sh 0 0 (F x0 45) x3 = true) <|
      if (F (F x0 45) x3) ≠ x1 then
        pfX12_who_b59 sh n (pfX12_who_b31 sh n k) F x0 x1 x3 0 x2
      else
        pfX12_who_b59 sh n (pfX12_who_b31 sh n k) F x0 x1 x3 (pd_shl 1 x3) x2
def pfX12_who (sh : pd_S) (n : Nat) (F : pd_F) (x0 : Int) (x1 : Int) : Option (Int × pd_F) :=
  pd_i (pd_ob sh 12 x0 = true) <|
  pd_l (pd_up F x0 0 0) fun F5 =>
  Option.bind (pfX12_laysDepositors sh n F5 x0) fun F6 =>
  Option.bind (pfX12_within sh n F6 x1 0 (pd_w ((F6 x0 46) - 1))) fun qr8 => pd_l qr8.1 fun r8 => pd_l qr8.2 fun F7 =>
  if r8 ≠ 0 then
    pfX12_who_b31 sh n n F7 x0 x1 0 0
  else
    some ((-1), F7)
def pfX12_estateOf_b121 (sh : pd_S) (n : Nat) (c87 : pd_F → Int → Int → Int → Int → Int → Int → Option (Int × pd_F)) (F : pd_F) (x0 : Int) (x3 : Int) (x4 : Int) (x7 : Int) (x11 : Int) (t0 : Int) (t1 : Int) : Option (Int × pd_F) :=
  pd_l (pd_W (t1 + t0)) fun x9_122 =>
  pd_l (pd_w (x11 + 1)) fun x11_124 =>
  c87 F x0 x3 x4 x7 x9_122 x11_124
def pfX12_estateOf_b130 (sh : pd_S) (n : Nat)  (F : pd_F) (x0 : Int) (x3 : Int) (x4 : Int) (x7 : Int) (x9 : Int) : Option (Int × pd_F) :=
  pd_i (pd_ob sh 12 x0 = true) <|
  Option.bind (pfX12_claim sh n F x0 x3) fun qr2 => pd_l qr2.1 fun r2 => pd_l qr2.2 fun F1 =>
  pd_i (x7 ≠ 0) <|
  some (pd_W ((pd_W (Int.tdiv (pd_W (x4 * (pd_W (x9 + r2)))) x7)) - (pd_W (Int.tdiv (pd_W (x4 * x9)) x7))), F1)
def pfX12_estateOf_b87 (sh : pd_S) (n : Nat)  : Nat → pd_F → Int → Int → Int → Int → Int → Int → Option (Int × pd_F)
  | 0, _, _, _, _, _, _, _ => none
  | k + 1, F, x0, x3, x4, x7, x9, x11 =>
    if x11 ≥ x3 then
      pfX12_estateOf_b130 sh n F x0 x3 x4 x7 x9
    else
      pd_i (pd_ob sh 12 x0 = true) <|
      pd_i (pd_ib sh 0 2 (F x0 51) x11 = true) <|
      pd_i (pd_ib sh 0 2 (F x0 51) x3 = true) <|
      if (F (F x0 51) x11) ≠ (F (F x0 51) x3) then
        pfX12_estateOf_b121 sh n (pfX12_estateOf_b87 sh n k) F x0 x3 x4 x7 x11 0 x9
      else
        Option.bind (pfX12_claim sh n F x0 x11) fun qr9 => pd_l qr9.1 fun r9 => pd_l qr9.2 fun F8 =>
        pfX12_estateOf_b121 sh n (pfX12_estateOf_b87 sh n k) F8 x0 x3 x4 x7 x11 r9 x9
def pfX12_estateOf_b50 (sh : pd_S) (n : Nat)  (F : pd_F) (x0 : Int) (x3 : Int) (x4 : Int) (x6 : Int) : Option (Int × pd_F) :=
  if x4 > 0 then
    pd_i (pd_ob sh 12 x0 = true) <|
    Option.bind (pfX12_rank sh n F x0 x6) fun qr11 => pd_l qr11.1 fun r11 => pd_l qr11.2 fun F10 =>
    if x4 < r11 then
      pfX12_estateOf_b87 sh n n F10 x0 x3 x4 r11 0 0
    else
      Option.bind (pfX12_claim sh n F10 x0 x3) fun qr14 => pd_l qr14.1 fun r14 => pd_l qr14.2 fun F13 =>
      some (r14, F13)
  else
    some (0, F)
def pfX12_estateOf_b32 (sh : pd_S) (n : Nat)  (F : pd_F) (x0 : Int) (x3 : Int) (x4 : Int) (t0 : Int) : Option (Int × pd_F) :=
  if t0 ≠ 2 then
    pfX12_estateOf_b50 sh n F x0 x3 x4 t0
  else
    pd_i (pd_ob sh 12 x0 = true) <|
    Option.bind (pfX12_rank sh n F x0 1) fun qr16 => pd_l qr16.1 fun r16 => pd_l qr16.2 fun F15 =>
    pd_l (pd_W (x4 - r16)) fun x4_48 =>
    pfX12_estateOf_b50 sh n F15 x0 x3 x4_48 t0
def pfX12_estateOf (sh : pd_S) (n : Nat) (F : pd_F) (x0 : Int) (x1 : Int) (x3 : Int) : Option (Int × pd_F) :=
  pd_i (pd_ob sh 12 x0 = true) <|
  Option.bind (pfX12_rank sh n F x0 0) fun qr19 => pd_l qr19.1 fun r19 => pd_l qr19.2 fun F18 =>
  pd_l (pd_W (x1 - r19)) fun x4_7 =>
  if x4_7 > 0 then
    pd_i (pd_ib sh 0 2 (F18 x0 51) x3 = true) <|
    if (F18 (F18 x0 51) x3) = 0 then
      pfX12_estateOf_b32 sh n F18 x0 x3 x4_7 1
    else
      pfX12_estateOf_b32 sh n F18 x0 x3 x4_7 2
  else
    some (0, F18)
def pfX12_replaceable_b7 (sh : pd_S) (n : Nat)  : Nat → pd_F → Int → Int → Int → Option (Int × pd_F)
  | 0, _, _, _, _ => none
  | k + 1, F, x0, x1, x2 =>
    if x2 ≥ 30 then
      some (0, F)
    else
      pd_i (pd_ob sh 12 x0 = true) <|
      pd_i (pd_ib sh 0 0 (F x0 39) (pd_w (10 + (pd_w (2 * x2)))) = true) <|
      pd_l (F (F x0 39) (pd_w (10 + (pd_w (2 * x2))))) fun x3_24 =>
      pd_i (pd_ib sh 0 0 (F x0 39) (pd_w ((pd_w (10 + (pd_w (2 * x2)))) + 1)) = true) <|
      pd_l (pd_up F (F x0 39) (pd_w (10 + (pd_w (2 * x2)))) (F (F x0 39) (pd_w ((pd_w (10 + (pd_w (2 * x2)))) + 1)))) fun F4 =>
      Option.bind (pfX12_laysDepositors sh n F4 x0) fun F5 =>
      pd_i (pd_ib sh 0 0 (F5 x0 39) (pd_w (10 + (pd_w (2 * x2)))) = true) <|
      pd_l (pd_up F5 (F5 x0 39) (pd_w (10 + (pd_w (2 * x2)))) x3_24) fun F7 =>
      if (F7 x0 46) ≠ x1 then
        pd_l (pd_w (x2 + 1)) fun x2_75 =>
        pfX12_replaceable_b7 sh n k F7 x0 x1 x2_75
      else
        some (x2, F7)
def pfX12_replaceable (sh : pd_S) (n : Nat) (F : pd_F) (x0 : Int) : Option (Int × pd_F) :=
  pd_i (pd_ob sh 12 x0 = true) <|
  pd_l (F x0 46) fun x1_4 =>
  pfX12_replaceable_b7 sh n n F x0 x1_4 0
def pfX12_join (sh : pd_S) (n : Nat) (F : pd_F) (x0 : Int) (x1 : Int) (x2 : Int) : Option (Int × pd_F) :=
  pd_i (pd_ob sh 12 x0 = true) <|
  pd_l (pd_up F x0 0 0) fun F2 =>
  Option.bind (pfX12_isTwo sh n F2 x0 x1 x2) fun qr4 => pd_l qr4.1 fun r4 => pd_l qr4.2 fun F3 =>
  if r4 = 0 then
    some ((-1), F3)
  else
    pd_i (pd_ib sh 0 0 (F3 x0 39) 70 = true) <|
    if (F3 (F3 x0 39) 70) ≠ 30 then
      Option.bind (pfX12_keeps sh n F3 x0) fun F6 =>
      pd_i (pd_ib sh 0 0 (F6 x0 39) 70 = true) <|
      pd_i (pd_ib sh 0 0 (F6 x0 39) (pd_w (10 + (pd_w (2 * (F6 (F6 x0 39) 70))))) = true) <|
      pd_l (pd_up F6 (F6 x0 39) (pd_w (10 + (pd_w (2 * (F6 (F6 x0 39) 70))))) x1) fun F9 =>
      pd_i (pd_ib sh 0 0 (F9 x0 39) 70 = true) <|
      pd_i (pd_ib sh 0 0 (F9 x0 39) (pd_w ((pd_w (10 + (pd_w (2 * (F9 (F9 x0 39) 70))))) + 1)) = true) <|
      pd_l (pd_up F9 (F9 x0 39) (pd_w ((pd_w (10 + (pd_w (2 * (F9 (F9 x0 39) 70))))) + 1)) x2) fun F12 =>
      pd_i (pd_ib sh 0 0 (F12 x0 39) 70 = true) <|
      pd_l (pd_up F12 (F12 x0 39) 70 (pd_w ((F12 (F12 x0 39) 70) + 1))) fun F14 =>
      Option.bind (pfX12_laysDepositors sh n F14 x0) fun F15 =>
      some (F15 x0 46, F15)
    else
      some ((-1), F3)
def pfX12_deepOf_b62 (sh : pd_S) (n : Nat) (slf : pd_F → Int → Int → Option (Int × pd_F)) (c4 : pd_F → Int → Int → Int → Int → Option (Int × pd_F)) (F : pd_F) (x0 : Int) (x1 : Int) (x3 : Int) (t0 : Int) : Option (Int × pd_F) :=
  pd_l (pd_w (x3 + 1)) fun x3_63 =>
  c4 F x0 x1 t0 x3_63
def pfX12_deepOf_b48 (sh : pd_S) (n : Nat) (slf : pd_F → Int → Int → Option (Int × pd_F)) (c4 : pd_F → Int → Int → Int → Int → Option (Int × pd_F)) (F : pd_F) (x0 : Int) (x1 : Int) (x2 : Int) (x3 : Int) (t0 : Int) : Option (Int × pd_F) :=
  if t0 ≤ x2 then
    pfX12_deepOf_b62 sh n slf c4 F x0 x1 x3 x2
  else
    pfX12_deepOf_b62 sh n slf c4 F x0 x1 x3 t0
def pfX12_deepOf_b4 (sh : pd_S) (n : Nat) (slf : pd_F → Int → Int → Option (Int × pd_F))  : Nat → pd_F → Int → Int → Int → Int → Option (Int × pd_F)
  | 0, _, _, _, _, _ => none
  | k + 1, F, x0, x1, x2, x3 =>
    pd_i (pd_ob sh 12 x0 = true) <|
    pd_i (pd_ib sh 0 0 (F x0 26) x1 = true) <|
    if x3 ≥ (F (F x0 26) x1) then
      some (x2, F)
    else
      pd_i (pd_ib sh 0 0 (F x0 27) (pd_w ((pd_w (5 * x1)) + x3)) = true) <|
      pd_l (F (F x0 27) (pd_w ((pd_w (5 * x1)) + x3))) fun x4_24 =>
      if x4_24 ≥ 16 then
        Option.bind (slf F x0 (pd_w (x4_24 - 16))) fun qr5 => pd_l qr5.1 fun r5 => pd_l qr5.2 fun F4 =>
        pfX12_deepOf_b48 sh n slf (pfX12_deepOf_b4 sh n slf k) F4 x0 x1 x2 x3 (pd_w (1 + r5))
      else
        pfX12_deepOf_b48 sh n slf (pfX12_deepOf_b4 sh n slf k) F x0 x1 x2 x3 1
def pfX12_deepOf (sh : pd_S) (n : Nat) : Nat → pd_F → Int → Int → Option (Int × pd_F)
  | 0, _, _, _ => none
  | k + 1, F, x0, x1 =>
    pd_l (pfX12_deepOf sh n k) fun slf =>
    pfX12_deepOf_b4 sh n slf n F x0 x1 1 0
def pfX12_waysOf_b61 (sh : pd_S) (n : Nat) (slf : pd_F → Int → Int → Int → Option (Int × pd_F)) (c5 : pd_F → Int → Int → Int → Int → Int → Option (Int × pd_F)) (F : pd_F) (x0 : Int) (x1 : Int) (x2 : Int) (x4 : Int) (t0 : Int) (t1 : Int) : Option (Int × pd_F) :=
  pd_l (pd_w (t1 + t0)) fun x3_62 =>
  pd_l (pd_w (x4 + 1)) fun x4_63 =>
  c5 F x0 x1 x2 x3_62 x4_63
def pfX12_waysOf_b5 (sh : pd_S) (n : Nat) (slf : pd_F → Int → Int → Int → Option (Int × pd_F))  : Nat → pd_F → Int → Int → Int → Int → Int → Option (Int × pd_F)
  | 0, _, _, _, _, _, _ => none
  | k + 1, F, x0, x1, x2, x3, x4 =>
    pd_i (pd_ob sh 12 x0 = true) <|
    pd_i (pd_ib sh 0 0 (F x0 26) x1 = true) <|
    if x4 ≥ (F (F x0 26) x1) then
      some (x3, F)
    else
      pd_i (pd_ib sh 0 0 (F x0 27) (pd_w ((pd_w (5 * x1)) + x4)) = true) <|
      pd_l (F (F x0 27) (pd_w ((pd_w (5 * x1)) + x4))) fun x5_27 =>
      if x5_27 ≠ x2 then
        if x5_27 < 16 then
          pfX12_waysOf_b61 sh n slf (pfX12_waysOf_b5 sh n slf k) F x0 x1 x2 x4 0 x3
        else
          Option.bind (slf F x0 (pd_w (x5_27 - 16)) x2) fun qr5 => pd_l qr5.1 fun r5 => pd_l qr5.2 fun F4 =>
          pfX12_waysOf_b61 sh n slf (pfX12_waysOf_b5 sh n slf k) F4 x0 x1 x2 x4 r5 x3
      else
        pfX12_waysOf_b61 sh n slf (pfX12_waysOf_b5 sh n slf k) F x0 x1 x2 x4 1 x3
def pfX12_waysOf (sh : pd_S) (n : Nat) : Nat → pd_F → Int → Int → Int → Option (Int × pd_F)
  | 0, _, _, _, _ => none
  | k + 1, F, x0, x1, x2 =>
    pd_l (pfX12_waysOf sh n k) fun slf =>
    pfX12_waysOf_b5 sh n slf n F x0 x1 x2 0 0
def pfX12_fails_b59 (sh : pd_S) (n : Nat) (slf : pd_F → Int → Int → Option (Int × pd_F)) (c12 : pd_F → Int → Int → Int → Option (Int × pd_F)) (F : pd_F) (x0 : Int) (x1 : Int) (x2 : Int) : Option (Int × pd_F) :=
  pd_l (pd_w (x2 + 1)) fun x2_59 =>
  c12 F x0 x1 x2_59
def pfX12_fails_b12 (sh : pd_S) (n : Nat) (slf : pd_F → Int → Int → Option (Int × pd_F))  : Nat → pd_F → Int → Int → Int → Option (Int × pd_F)
  | 0, _, _, _, _ => none
  | k + 1, F, x0, x1, x2 =>
    pd_i (pd_ob sh 12 x0 = true) <|
    pd_i (pd_ib sh 0 0 (F x0 26) x1 = true) <|
    if x2 ≥ (F (F x0 26) x1) then
      some (0, F)
    else
      pd_i (pd_ib sh 0 0 (F x0 27) (pd_w ((pd_w (5 * x1)) + x2)) = true) <|
      if (F (F x0 27) (pd_w ((pd_w (5 * x1)) + x2))) < 16 then
        pfX12_fails_b59 sh n slf (pfX12_fails_b12 sh n slf k) F x0 x1 x2
      else
        Option.bind (slf F x0 (pd_w ((F (F x0 27) (pd_w ((pd_w (5 * x1)) + x2))) - 16))) fun qr5 => pd_l qr5.1 fun r5 => pd_l qr5.2 fun F4 =>
        if r5 = 0 then
          pfX12_fails_b59 sh n slf (pfX12_fails_b12 sh n slf k) F4 x0 x1 x2
        else
          some (1, F4)
def pfX12_fails (sh : pd_S) (n : Nat) : Nat → pd_F → Int → Int → Option (Int × pd_F)
  | 0, _, _, _ => none
  | k + 1, F, x0, x1 =>
    pd_l (pfX12_fails sh n k) fun slf =>
    pd_i (pd_ob sh 12 x0 = true) <|
    Option.bind (pfX12_weights sh n F x0 x1) fun qr7 => pd_l qr7.1 fun r7 => pd_l qr7.2 fun F6 =>
    if r7 ≠ 0 then
      pfX12_fails_b12 sh n slf n F6 x0 x1 0
    else
      some (1, F6)
def pfX12_gives_b106 (sh : pd_S) (n : Nat) (slf : pd_F → Int → Int → Int → Option pd_F) (c16 : pd_F → Int → Int → Int → Int → Int → Int → Int → Option pd_F) (F : pd_F) (x0 : Int) (x1 : Int) (x2 : Int) (x4 : Int) (x5 : Int) (x8 : Int) (x9 : Int) : Option pd_F :=
  pd_l (pd_w (x8 + 1)) fun x8_110 =>
  c16 F x0 x1 x2 x4 x5 x9 x8_110
def pfX12_gives_b16 (sh : pd_S) (n : Nat) (slf : pd_F → Int → Int → Int → Option pd_F)  : Nat → pd_F → Int → Int → Int → Int → Int → Int → Int → Option pd_F
  | 0, _, _, _, _, _, _, _, _ => none
  | k + 1, F, x0, x1, x2, x4, x5, x6, x8 =>
    pd_i (pd_ob sh 12 x0 = true) <|
    pd_i (pd_ib sh 0 0 (F x0 26) x1 = true) <|
    if x8 ≥ (F (F x0 26) x1) then
      some F
    else
      pd_i (pd_ib sh 0 0 (F x0 28) (pd_w ((pd_w (5 * x1)) + x8)) = true) <|
      pd_l (pd_w (x5 + (F (F x0 28) (pd_w ((pd_w (5 * x1)) + x8))))) fun x5_41 =>
      pd_i (x4 ≠ 0) <|
      pd_l (pd_W (Int.tdiv (pd_W (x2 * x5_41)) x4)) fun x9_52 =>
      pd_i (pd_ib sh 0 0 (F x0 27) (pd_w ((pd_w (5 * x1)) + x8)) = true) <|
      pd_l (F (F x0 27) (pd_w ((pd_w (5 * x1)) + x8))) fun x11_65 =>
      if x11_65 < 16 then
        pd_i (pd_ib sh 1 0 (F x0 44) x11_65 = true) <|
        pd_l (pd_up F (F x0 44) x11_65 (pd_W ((F (F x0 44) x11_65) + (pd_W (x9_52 - x6))))) fun F7 =>
        pfX12_gives_b106 sh n slf (pfX12_gives_b16 sh n slf k) F7 x0 x1 x2 x4 x5_41 x8 x9_52
      else
        Option.bind (slf F x0 (pd_w (x11_65 - 16)) (pd_W (x9_52 - x6))) fun F8 =>
        pfX12_gives_b106 sh n slf (pfX12_gives_b16 sh n slf k) F8 x0 x1 x2 x4 x5_41 x8 x9_52
def pfX12_gives (sh : pd_S) (n : Nat) : Nat → pd_F → Int → Int → Int → Option pd_F
  | 0, _, _, _, _ => none
  | k + 1, F, x0, x1, x2 =>
    pd_l (pfX12_gives sh n k) fun slf =>
    pd_i (pd_ob sh 12 x0 = true) <|
    Option.bind (pfX12_weights sh n F x0 x1) fun qr10 => pd_l qr10.1 fun r10 => pd_l qr10.2 fun F9 =>
    pfX12_gives_b16 sh n slf n F9 x0 x1 x2 r10 0 0 0
def pfX12_reaches_b32 (sh : pd_S) (n : Nat) (c4 : pd_F → Int → Int → Int → Int → Option (Int × pd_F)) (F : pd_F) (x0 : Int) (x1 : Int) (x3 : Int) (t0 : Int) (t1 : Int) : Option (Int × pd_F) :=
  pd_l (pd_w (t1 + t0)) fun x2_33 =>
  pd_l (pd_w (x3 + 1)) fun x3_34 =>
  c4 F x0 x1 x2_33 x3_34
def pfX12_reaches_b4 (sh : pd_S) (n : Nat)  : Nat → pd_F → Int → Int → Int → Int → Option (Int × pd_F)
  | 0, _, _, _, _, _ => none
  | k + 1, F, x0, x1, x2, x3 =>
    pd_i (pd_ob sh 12 x0 = true) <|
    pd_i (pd_ib sh 0 0 (F x0 14) 0 = true) <|
    if x3 ≥ (F (F x0 14) 0) then
      some (x2, F)
    else
      Option.bind (pfX12_listOf sh n F x1) fun qr4 => pd_l qr4.1 fun r4 => pd_l qr4.2 fun F3 =>
      Option.bind (pfX12_waysOf sh n 8 F3 x0 r4 x3) fun qr6 => pd_l qr6.1 fun r6 => pd_l qr6.2 fun F5 =>
      if r6 ≤ 0 then
        pfX12_reaches_b32 sh n (pfX12_reaches_b4 sh n k) F5 x0 x1 x3 0 x2
      else
        pfX12_reaches_b32 sh n (pfX12_reaches_b4 sh n k) F5 x0 x1 x3 1 x2
def pfX12_reaches (sh : pd_S) (n : Nat) (F : pd_F) (x0 : Int) (x1 : Int) : Option (Int × pd_F) :=
  pfX12_reaches_b4 sh n n F x0 x1 0 0
def pfX12_ways (sh : pd_S) (n : Nat) (F : pd_F) (x0 : Int) (x1 : Int) (x2 : Int) : Option (Int × pd_F) :=
  pd_i (pd_ob sh 12 x0 = true) <|
  pd_l (pd_up F x0 0 0) fun F2 =>
  Option.bind (pfX12_isAccount sh n F2 x0 x1) fun qr4 => pd_l qr4.1 fun r4 => pd_l qr4.2 fun F3 =>
  if r4 = 0 then
    some ((-1), F3)
  else
    Option.bind (pfX12_isPerson sh n F3 x0 x2) fun qr6 => pd_l qr6.1 fun r6 => pd_l qr6.2 fun F5 =>
    if r6 = 0 then
      some ((-1), F5)
    else
      Option.bind (pfX12_listOf sh n F5 x1) fun qr8 => pd_l qr8.1 fun r8 => pd_l qr8.2 fun F7 =>
      Option.bind (pfX12_waysOf sh n 8 F7 x0 r8 x2) fun qr10 => pd_l qr10.1 fun r10 => pd_l qr10.2 fun F9 =>
      some (r10, F9)
def pfX12_laysViews_b88 (sh : pd_S) (n : Nat) (c52 : pd_F → Int → Int → Option pd_F) (F : pd_F) (x0 : Int) (x1 : Int) : Option pd_F :=
  pd_l (pd_w (x1 + 1)) fun x1_88 =>
  c52 F x0 x1_88
def pfX12_laysViews_b257 (sh : pd_S) (n : Nat) (c158 : pd_F → Int → Int → Option pd_F) (F : pd_F) (x0 : Int) (x1 : Int) : Option pd_F :=
  pd_l (pd_w (x1 + 1)) fun x1_257 =>
  c158 F x0 x1_257
def pfX12_laysViews_b254 (sh : pd_S) (n : Nat) (c158 : pd_F → Int → Int → Option pd_F) (F : pd_F) (x0 : Int) (x1 : Int) (t0 : Int) (t1 : Int) (t2 : Int) : Option pd_F :=
  pd_i (pd_ob sh 12 t2 = true) <|
  Option.bind (pfX12_gives sh n 8 F t2 t1 t0) fun F1 =>
  pfX12_laysViews_b257 sh n c158 F1 x0 x1
def pfX12_laysViews_b355 (sh : pd_S) (n : Nat) (c303 : pd_F → Int → Int → Option pd_F) (F : pd_F) (x0 : Int) (x1 : Int) : Option pd_F :=
  pd_l (pd_w (x1 + 1)) fun x1_355 =>
  c303 F x0 x1_355
def pfX12_laysViews_b303 (sh : pd_S) (n : Nat)  : Nat → pd_F → Int → Int → Option pd_F
  | 0, _, _, _ => none
  | k + 1, F, x0, x1 =>
    pd_i (pd_ob sh 12 x0 = true) <|
    pd_i (pd_ib sh 0 0 (F x0 18) 0 = true) <|
    if x1 ≥ (F (F x0 18) 0) then
      some F
    else
      pd_i (pd_ib sh 0 0 (F x0 35) x1 = true) <|
      pd_i (pd_ib sh 0 0 (F x0 39) 71 = true) <|
      if (F (F x0 35) x1) > (F (F x0 39) 71) then
        pfX12_laysViews_b355 sh n (pfX12_laysViews_b303 sh n k) F x0 x1
      else
        pd_i (pd_ib sh 0 0 (F x0 33) x1 = true) <|
        pd_i (pd_ib sh 0 0 (F x0 45) (F (F x0 33) x1) = true) <|
        pd_i (pd_ib sh 1 0 (F x0 49) (F (F x0 45) (F (F x0 33) x1)) = true) <|
        pd_i (pd_ib sh 0 0 (F x0 34) x1 = true) <|
        pd_l (pd_up F (F x0 49) (F (F x0 45) (F (F x0 33) x1)) (pd_W ((F (F x0 49) (F (F x0 45) (F (F x0 33) x1))) + (F (F x0 34) x1)))) fun F11 =>
        pfX12_laysViews_b355 sh n (pfX12_laysViews_b303 sh n k) F11 x0 x1
def pfX12_laysViews_b301 (sh : pd_S) (n : Nat)  (F : pd_F) (x0 : Int) : Option pd_F :=
  pfX12_laysViews_b303 sh n n F x0 0
def pfX12_laysViews_b265 (sh : pd_S) (n : Nat)  : Nat → pd_F → Int → Int → Option pd_F
  | 0, _, _, _ => none
  | k + 1, F, x0, x1 =>
    pd_i (pd_ob sh 12 x0 = true) <|
    pd_i (pd_ib sh 0 0 (F x0 14) 0 = true) <|
    if x1 ≥ (F (F x0 14) 0) then
      pfX12_laysViews_b301 sh n F x0
    else
      pd_i (pd_ib sh 0 0 (F x0 45) x1 = true) <|
      pd_i (pd_ib sh 1 0 (F x0 50) (F (F x0 45) x1) = true) <|
      pd_i (pd_ib sh 1 0 (F x0 44) x1 = true) <|
      pd_l (pd_up F (F x0 50) (F (F x0 45) x1) (pd_W ((F (F x0 50) (F (F x0 45) x1)) + (F (F x0 44) x1)))) fun F17 =>
      pd_l (pd_w (x1 + 1)) fun x1_295 =>
      pfX12_laysViews_b265 sh n k F17 x0 x1_295
def pfX12_laysViews_b263 (sh : pd_S) (n : Nat)  (F : pd_F) (x0 : Int) : Option pd_F :=
  pfX12_laysViews_b265 sh n n F x0 0
def pfX12_laysViews_b158 (sh : pd_S) (n : Nat)  : Nat → pd_F → Int → Int → Option pd_F
  | 0, _, _, _ => none
  | k + 1, F, x0, x1 =>
    pd_i (pd_ob sh 12 x0 = true) <|
    pd_i (pd_ib sh 0 0 (F x0 17) 0 = true) <|
    if x1 ≥ (F (F x0 17) 0) then
      pfX12_laysViews_b263 sh n F x0
    else
      pd_i (pd_ib sh 0 0 (F x0 29) x1 = true) <|
      pd_l (F (F x0 29) x1) fun x2_174 =>
      Option.bind (pfX12_listOf sh n F x2_174) fun qr22 => pd_l qr22.1 fun r22 => pd_l qr22.2 fun F21 =>
      Option.bind (pfX12_fails sh n 8 F21 x0 r22) fun qr24 => pd_l qr24.1 fun r24 => pd_l qr24.2 fun F23 =>
      if r24 ≠ 0 then
        pfX12_laysViews_b257 sh n (pfX12_laysViews_b158 sh n k) F23 x0 x1
      else
        pd_i (pd_ib sh 0 0 (F23 x0 39) 71 = true) <|
        pd_i (pd_ib sh 0 0 (F23 x0 31) x1 = true) <|
        pd_i (pd_ib sh 0 0 (F23 x0 32) x1 = true) <|
        Option.bind (pfX12_within sh n F23 (F23 (F23 x0 39) 71) (F23 (F23 x0 31) x1) (F23 (F23 x0 32) x1)) fun qr29 => pd_l qr29.1 fun r29 => pd_l qr29.2 fun F28 =>
        if r29 ≠ 0 then
          Option.bind (pfX12_listOf sh n F28 x2_174) fun qr31 => pd_l qr31.1 fun r31 => pd_l qr31.2 fun F30 =>
          pd_i (pd_ib sh 0 0 (F30 x0 30) x1 = true) <|
          pd_i (pd_ib sh 0 0 (F30 x0 39) x2_174 = true) <|
          if (F30 (F30 x0 30) x1) ≥ (F30 (F30 x0 39) x2_174) then
            pfX12_laysViews_b254 sh n (pfX12_laysViews_b158 sh n k) F30 x0 x1 (F30 (F30 x0 39) x2_174) r31 x0
          else
            pfX12_laysViews_b254 sh n (pfX12_laysViews_b158 sh n k) F30 x0 x1 (F30 (F30 x0 30) x1) r31 x0
        else
          pfX12_laysViews_b257 sh n (pfX12_laysViews_b158 sh n k) F28 x0 x1
def pfX12_laysViews_b152 (sh : pd_S) (n : Nat)  (F : pd_F) (x0 : Int) : Option pd_F :=
  pd_i (pd_ob sh 12 x0 = true) <|
  Option.bind (pfX12_sharesNothing sh n F x0) fun F34 =>
  pfX12_laysViews_b158 sh n n F34 x0 0
def pfX12_laysViews_b96 (sh : pd_S) (n : Nat)  : Nat → pd_F → Int → Int → Option pd_F
  | 0, _, _, _ => none
  | k + 1, F, x0, x1 =>
    pd_i (pd_ob sh 12 x0 = true) <|
    pd_i (pd_ib sh 0 0 (F x0 14) 0 = true) <|
    if x1 ≥ (F (F x0 14) 0) then
      pfX12_laysViews_b152 sh n F x0
    else
      pd_i (pd_ib sh 0 0 (F x0 45) x1 = true) <|
      pd_i (pd_ib sh 1 0 (F x0 48) (F (F x0 45) x1) = true) <|
      pd_i (pd_ib sh 1 0 (F x0 44) x1 = true) <|
      pd_l (pd_up F (F x0 48) (F (F x0 45) x1) (pd_W ((F (F x0 48) (F (F x0 45) x1)) + (F (F x0 44) x1)))) fun F41 =>
      pd_i (pd_ib sh 0 0 (F41 x0 45) x1 = true) <|
      pd_i (pd_ib sh 0 2 (F41 x0 51) (F41 (F41 x0 45) x1) = true) <|
      pd_i (pd_ib sh 0 2 (F41 x0 22) x1 = true) <|
      pd_i ((pd_or (F41 (F41 x0 51) (F41 (F41 x0 45) x1)) (F41 (F41 x0 22) x1)) = 0 ∨ (pd_or (F41 (F41 x0 51) (F41 (F41 x0 45) x1)) (F41 (F41 x0 22) x1)) = 1) <|
      pd_l (pd_up F41 (F41 x0 51) (F41 (F41 x0 45) x1) (pd_or (F41 (F41 x0 51) (F41 (F41 x0 45) x1)) (F41 (F41 x0 22) x1))) fun F46 =>
      pd_l (pd_w (x1 + 1)) fun x1_146 =>
      pfX12_laysViews_b96 sh n k F46 x0 x1_146
def pfX12_laysViews_b94 (sh : pd_S) (n : Nat)  (F : pd_F) (x0 : Int) : Option pd_F :=
  pfX12_laysViews_b96 sh n n F x0 0
def pfX12_laysViews_b52 (sh : pd_S) (n : Nat)  : Nat → pd_F → Int → Int → Option pd_F
  | 0, _, _, _ => none
  | k + 1, F, x0, x1 =>
    pd_i (pd_ob sh 12 x0 = true) <|
    pd_i (pd_ib sh 0 0 (F x0 16) 0 = true) <|
    if x1 ≥ (F (F x0 16) 0) then
      pfX12_laysViews_b94 sh n F x0
    else
      Option.bind (pfX12_listOf sh n F x1) fun qr50 => pd_l qr50.1 fun r50 => pd_l qr50.2 fun F49 =>
      Option.bind (pfX12_fails sh n 8 F49 x0 r50) fun qr52 => pd_l qr52.1 fun r52 => pd_l qr52.2 fun F51 =>
      if r52 ≠ 0 then
        pfX12_laysViews_b88 sh n (pfX12_laysViews_b52 sh n k) F51 x0 x1
      else
        Option.bind (pfX12_listOf sh n F51 x1) fun qr54 => pd_l qr54.1 fun r54 => pd_l qr54.2 fun F53 =>
        pd_i (pd_ib sh 0 0 (F53 x0 39) x1 = true) <|
        Option.bind (pfX12_gives sh n 8 F53 x0 r54 (F53 (F53 x0 39) x1)) fun F56 =>
        pfX12_laysViews_b88 sh n (pfX12_laysViews_b52 sh n k) F56 x0 x1
def pfX12_laysViews_b46 (sh : pd_S) (n : Nat)  (F : pd_F) (x0 : Int) : Option pd_F :=
  pd_i (pd_ob sh 12 x0 = true) <|
  Option.bind (pfX12_sharesNothing sh n F x0) fun F57 =>
  pfX12_laysViews_b52 sh n n F57 x0 0
def pfX12_laysViews_b6 (sh : pd_S) (n : Nat)  : Nat → pd_F → Int → Int → Option pd_F
  | 0, _, _, _ => none
  | k + 1, F, x0, x1 =>
    if x1 ≥ 12 then
      pfX12_laysViews_b46 sh n F x0
    else
      pd_i (pd_ob sh 12 x0 = true) <|
      pd_i (pd_ib sh 1 0 (F x0 48) x1 = true) <|
      pd_l (pd_up F (F x0 48) x1 0) fun F61 =>
      pd_i (pd_ib sh 1 0 (F61 x0 49) x1 = true) <|
      pd_l (pd_up F61 (F61 x0 49) x1 0) fun F63 =>
      pd_i (pd_ib sh 1 0 (F63 x0 50) x1 = true) <|
      pd_l (pd_up F63 (F63 x0 50) x1 0) fun F65 =>
      pd_i (pd_ib sh 0 2 (F65 x0 51) x1 = true) <|
      pd_l (pd_up F65 (F65 x0 51) x1 0) fun F67 =>
      pd_l (pd_w (x1 + 1)) fun x1_40 =>
      pfX12_laysViews_b6 sh n k F67 x0 x1_40
def pfX12_laysViews (sh : pd_S) (n : Nat) (F : pd_F) (x0 : Int) : Option pd_F :=
  pd_i (pd_ob sh 12 x0 = true) <|
  Option.bind (pfX12_laysDepositors sh n F x0) fun F68 =>
  pfX12_laysViews_b6 sh n n F68 x0 0
def pfX12_trust (sh : pd_S) (n : Nat) (F : pd_F) (x0 : Int) (x1 : Int) (x2 : Int) : Option (Int × pd_F) :=
  pd_i (pd_ob sh 12 x0 = true) <|
  pd_l (pd_up F x0 0 0) fun F2 =>
  pd_i (pd_ib sh 0 0 (F2 x0 15) 0 = true) <|
  Option.bind (pfX12_within sh n F2 x1 0 (pd_w ((F2 (F2 x0 15) 0) - 1))) fun qr5 => pd_l qr5.1 fun r5 => pd_l qr5.2 fun F4 =>
  if r5 ≠ 0 then
    if x2 = 0 then
      pd_i (pd_ib sh 0 0 (F4 x0 26) x1 = true) <|
      some (F4 (F4 x0 26) x1, F4)
    else
      if x2 = 1 then
        Option.bind (pfX12_weights sh n F4 x0 x1) fun qr8 => pd_l qr8.1 fun r8 => pd_l qr8.2 fun F7 =>
        some (r8, F7)
      else
        if x2 = 2 then
          Option.bind (pfX12_fails sh n 8 F4 x0 x1) fun qr10 => pd_l qr10.1 fun r10 => pd_l qr10.2 fun F9 =>
          if r10 = 0 then
            some (0, F9)
          else
            some (1, F9)
        else
          if x2 = 3 then
            Option.bind (pfX12_deepOf sh n 8 F4 x0 x1) fun qr12 => pd_l qr12.1 fun r12 => pd_l qr12.2 fun F11 =>
            some (r12, F11)
          else
            some ((-1), F4)
  else
    some ((-1), F4)
def pfX12_account (sh : pd_S) (n : Nat) (F : pd_F) (x0 : Int) (x1 : Int) (x2 : Int) : Option (Int × pd_F) :=
  pd_i (pd_ob sh 12 x0 = true) <|
  pd_l (pd_up F x0 0 0) fun F2 =>
  Option.bind (pfX12_isAccount sh n F2 x0 x1) fun qr4 => pd_l qr4.1 fun r4 => pd_l qr4.2 fun F3 =>
  if r4 ≠ 0 then
    if x2 = 0 then
      pd_i (pd_ib sh 0 0 (F3 x0 39) x1 = true) <|
      some (F3 (F3 x0 39) x1, F3)
    else
      if x2 = 1 then
        Option.bind (pfX12_listOf sh n F3 x1) fun qr7 => pd_l qr7.1 fun r7 => pd_l qr7.2 fun F6 =>
        pd_i (pd_ib sh 0 0 (F3 x0 26) r7 = true) <|
        some (F6 (F3 x0 26) r7, F6)
      else
        if x2 = 2 then
          Option.bind (pfX12_listOf sh n F3 x1) fun qr10 => pd_l qr10.1 fun r10 => pd_l qr10.2 fun F9 =>
          Option.bind (pfX12_fails sh n 8 F9 x0 r10) fun qr12 => pd_l qr12.1 fun r12 => pd_l qr12.2 fun F11 =>
          if r12 = 0 then
            some (0, F11)
          else
            some (1, F11)
        else
          if x2 = 3 then
            Option.bind (pfX12_reaches sh n F3 x0 x1) fun qr14 => pd_l qr14.1 fun r14 => pd_l qr14.2 fun F13 =>
            some (r14, F13)
          else
            some ((-1), F3)
  else
    some ((-1), F3)
def pfX12_share_b22 (sh : pd_S) (n : Nat)  (F : pd_F) (x0 : Int) (x1 : Int) (x2 : Int) (t0 : Int) (t1 : Int) : Option (Int × pd_F) :=
  pd_i (pd_ob sh 12 t1 = true) <|
  pd_l (pd_up F t1 0 t0) fun F2 =>
  pd_i (pd_ob sh 12 x0 = true) <|
  if (F2 x0 0) = 1 then
    some (0, F2)
  else
    Option.bind (pfX12_listOf sh n F2 x1) fun qr5 => pd_l qr5.1 fun r5 => pd_l qr5.2 fun F4 =>
    Option.bind (pfX12_fails sh n 8 F4 x0 r5) fun qr7 => pd_l qr7.1 fun r7 => pd_l qr7.2 fun F6 =>
    if r7 = 0 then
      Option.bind (pfX12_sharesNothing sh n F6 x0) fun F8 =>
      Option.bind (pfX12_listOf sh n F8 x1) fun qr10 => pd_l qr10.1 fun r10 => pd_l qr10.2 fun F9 =>
      pd_i (pd_ib sh 0 0 (F9 x0 39) x1 = true) <|
      Option.bind (pfX12_gives sh n 8 F9 x0 r10 (F9 (F9 x0 39) x1)) fun F12 =>
      pd_i (pd_ib sh 1 0 (F12 x0 44) x2 = true) <|
      some (pd_w (F12 (F12 x0 44) x2), F12)
    else
      some (0, F6)
def pfX12_share_b21 (sh : pd_S) (n : Nat)  (F : pd_F) (x0 : Int) (x1 : Int) (x2 : Int) (t0 : Int) : Option (Int × pd_F) :=
  pfX12_share_b22 sh n F x0 x1 x2 1 t0
def pfX12_share (sh : pd_S) (n : Nat) (F : pd_F) (x0 : Int) (x1 : Int) (x2 : Int) : Option (Int × pd_F) :=
  pd_i (pd_ob sh 12 x0 = true) <|
  Option.bind (pfX12_isAccount sh n F x0 x1) fun qr15 => pd_l qr15.1 fun r15 => pd_l qr15.2 fun F14 =>
  if r15 = 0 then
    pfX12_share_b21 sh n F14 x0 x1 x2 x0
  else
    Option.bind (pfX12_isPerson sh n F14 x0 x2) fun qr18 => pd_l qr18.1 fun r18 => pd_l qr18.2 fun F17 =>
    if r18 = 0 then
      pfX12_share_b21 sh n F17 x0 x1 x2 x0
    else
      pfX12_share_b22 sh n F17 x0 x1 x2 0 x0
def pfX12_frozen_b37 (sh : pd_S) (n : Nat) (c4 : pd_F → Int → Int → Int → Option (Int × pd_F)) (F : pd_F) (x0 : Int) (x3 : Int) (t0 : Int) (t1 : Int) : Option (Int × pd_F) :=
  pd_l (pd_W (t1 + t0)) fun x1_38 =>
  pd_l (pd_w (x3 + 1)) fun x3_39 =>
  c4 F x0 x1_38 x3_39
def pfX12_frozen_b4 (sh : pd_S) (n : Nat)  : Nat → pd_F → Int → Int → Int → Option (Int × pd_F)
  | 0, _, _, _, _ => none
  | k + 1, F, x0, x1, x3 =>
    pd_i (pd_ob sh 12 x0 = true) <|
    pd_i (pd_ib sh 0 0 (F x0 16) 0 = true) <|
    if x3 ≥ (F (F x0 16) 0) then
      some (x1, F)
    else
      Option.bind (pfX12_listOf sh n F x3) fun qr4 => pd_l qr4.1 fun r4 => pd_l qr4.2 fun F3 =>
      Option.bind (pfX12_fails sh n 8 F3 x0 r4) fun qr6 => pd_l qr6.1 fun r6 => pd_l qr6.2 fun F5 =>
      if r6 = 0 then
        pfX12_frozen_b37 sh n (pfX12_frozen_b4 sh n k) F5 x0 x3 0 x1
      else
        pd_i (pd_ib sh 0 0 (F5 x0 39) x3 = true) <|
        pfX12_frozen_b37 sh n (pfX12_frozen_b4 sh n k) F5 x0 x3 (F5 (F5 x0 39) x3) x1
def pfX12_frozen (sh : pd_S) (n : Nat) (F : pd_F) (x0 : Int) : Option (Int × pd_F) :=
  pfX12_frozen_b4 sh n n F x0 0 0
set_option maxHeartbeats 4000000 in
set_option maxRecDepth 100000 in
theorem pkX12_listOf (l : Launch) {sh : pd_S} {n : Nat} {F : pd_F} {x0 : Int} {ρ : Int} {Fz : pd_F} (hf : pfX12_listOf sh n F x0 = some (ρ, Fz)) : pd_C l yX12_listOf (Cond.code yX12_listOf cX12_listOf 1 (some .int) :: pd_gt) (pd_rm 1 0 0) false 0 0 sh F [pd_I x0] (some (pd_I ρ)) sh Fz := by
  unfold pfX12_listOf at hf
  refine pd_body (L := [pd_I x0]) (by decide +kernel) (Nat.le_of_ble_eq_true rfl) rfl (fun E => ?_)
  refine pd_iconst dX12_listOf_0 (by decide) ?_
  refine pd_iload_n (i := 0) dX12_listOf_1 rfl rfl ?_
  refine pd_iadd dX12_listOf_2 ?_
  obtain ⟨h1, h2⟩ := pd_inj hf
  subst h1 h2
  exact pd_iret dX12_listOf_3 rfl (Nat.le_refl 0) (Nat.le_refl 0)
set_option maxHeartbeats 4000000 in
set_option maxRecDepth 100000 in
theorem pkX12_weights_b4 (E : pd_E) (l : Launch) {sh : pd_S} {n : Nat} {ρ : Int} {Fz : pd_F}  : ∀ (k : Nat) (F : pd_F) (x0 : Int) (x1 : Int) (x2 : Int) (x3 : Int), pfX12_weights_b4 sh n  k F x0 x1 x2 x3 = some (ρ, Fz) → pd_V E l (pd_rm 1 0 0) (RX12, cX12_weights, 4, (some .int), "weights") (pd_Qm E false (some (pd_I ρ)) sh Fz 0 0) false 0 0 sh F 4 [pd_R x0, pd_I x1, pd_I x2, pd_I x3] [] := by
  intro k
  induction k with
  | zero => intro F x0 x1 x2 x3 hf; exact absurd hf (by unfold pfX12_weights_b4; exact fun h => nomatch h)
  | succ k ih =>
    intro F x0 x1 x2 x3 hf
    unfold pfX12_weights_b4 at hf
    refine pd_iload_n (i := 3) dX12_weights_4 rfl rfl ?_
    refine pd_aload_n (i := 0) dX12_weights_5 rfl rfl ?_
    obtain ⟨hg1, hf⟩ := pd_ig hf
    refine pd_get (x := pd_R (F x0 26)) 26 dX12_weights_6 (show vwCl[12]? = some (RX12, TX12, 52) from rfl) pin_12 (by decide) pq_721 hg1 rfl ?_
    refine pd_iload_n (i := 1) dX12_weights_9 rfl rfl ?_
    obtain ⟨hg2, hf⟩ := pd_ig hf
    refine pd_iald dX12_weights_10 hg2 ?_
    refine pd_icmp_ge (tgt := 33) dX12_weights_11 (by decide) (fun hc => ?_) (fun hc => ?_)
    · have hf := pd_ip hf hc
      refine pd_iload_n (i := 2) dX12_weights_33 rfl rfl ?_
      obtain ⟨h1, h2⟩ := pd_inj hf
      subst h1 h2
      exact pd_iret dX12_weights_34 rfl (Nat.le_refl 0) (Nat.le_refl 0)
    · have hf := pd_in_ hf hc
      refine pd_iload_n (i := 2) dX12_weights_14 rfl rfl ?_
      refine pd_aload_n (i := 0) dX12_weights_15 rfl rfl ?_
      refine pd_get (x := pd_R (F x0 28)) 28 dX12_weights_16 (show vwCl[12]? = some (RX12, TX12, 52) from rfl) pin_12 (by decide) pq_799 hg1 rfl ?_
      refine pd_iconst dX12_weights_19 (by decide) ?_
      refine pd_iload_n (i := 1) dX12_weights_20 rfl rfl ?_
      refine pd_imul dX12_weights_21 ?_
      refine pd_iload_n (i := 3) dX12_weights_22 rfl rfl ?_
      refine pd_iadd dX12_weights_23 ?_
      obtain ⟨hg3, hf⟩ := pd_ig hf
      refine pd_iald dX12_weights_24 hg3 ?_
      refine pd_iadd dX12_weights_25 ?_
      refine pd_topI (fun x2_26 ex2_26 => ?_)
      have hf := pd_lt hf ex2_26
      clear ex2_26
      refine pd_istore_n (L' := [pd_R x0, pd_I x1, pd_I x2_26, pd_I x3]) dX12_weights_26 rfl (by decide) rfl ?_
      refine pd_iincN (L' := fun y => [pd_R x0, pd_I x1, pd_I x2_26, pd_I y]) dX12_weights_27 rfl (by decide) (by decide) (fun _ => rfl) (fun x3_27 ex3_27 => ?_)
      have hf := pd_lt hf ex3_27
      clear ex3_27
      refine pd_goto (tgt := 4) dX12_weights_30 (by decide) ?_
      exact pd_weak (L' := [pd_R x0, pd_I x1, pd_I x2_26, pd_I x3_27]) ⟨Or.inr rfl, Or.inr rfl, Or.inr rfl, Or.inr rfl, trivial⟩ (ih _ _ _ _ _ hf)
set_option maxHeartbeats 4000000 in
set_option maxRecDepth 100000 in
theorem pkX12_weights (l : Launch) {sh : pd_S} {n : Nat} {F : pd_F} {x0 : Int} {x1 : Int} {ρ : Int} {Fz : pd_F} (hf : pfX12_weights sh n F x0 x1 = some (ρ, Fz)) : pd_C l yX12_weights (Cond.code yX12_weights cX12_weights 4 (some .int) :: pd_gt) (pd_rm 1 0 0) false 0 0 sh F [pd_R x0, pd_I x1] (some (pd_I ρ)) sh Fz := by
  unfold pfX12_weights at hf
  refine pd_body (L := [pd_R x0, pd_I x1, pd_N, pd_N]) (by decide +kernel) (Nat.le_of_ble_eq_true rfl) rfl (fun E => ?_)
  refine pd_iconst dX12_weights_0 (by decide) ?_
  refine pd_istore_n (L' := [pd_R x0, pd_I x1, pd_I 0, pd_N]) dX12_weights_1 rfl (by decide) rfl ?_
  refine pd_iconst dX12_weights_2 (by decide) ?_
  refine pd_istore_n (L' := [pd_R x0, pd_I x1, pd_I 0, pd_I 0]) dX12_weights_3 rfl (by decide) rfl ?_
  exact pd_weak (L' := [pd_R x0, pd_I x1, pd_I 0, pd_I 0]) ⟨Or.inr rfl, Or.inr rfl, Or.inr rfl, Or.inr rfl, trivial⟩ (pkX12_weights_b4 E l n _ _ _ _ _ hf)
set_option maxHeartbeats 4000000 in
set_option maxRecDepth 100000 in
theorem pkX12_sharesNothing_b2 (E : pd_E) (l : Launch) {sh : pd_S} {n : Nat} {Fz : pd_F}  : ∀ (k : Nat) (F : pd_F) (x0 : Int) (x1 : Int), pfX12_sharesNothing_b2 sh n  k F x0 x1 = some Fz → pd_V E l (pd_rm 1 0 0) (RX12, cX12_sharesNothing, 2, none, "sharesNothing") (pd_Qm E false none sh Fz 0 0) false 0 0 sh F 2 [pd_R x0, pd_I x1] [] := by
  intro k
  induction k with
  | zero => intro F x0 x1 hf; exact absurd hf (by unfold pfX12_sharesNothing_b2; exact fun h => nomatch h)
  | succ k ih =>
    intro F x0 x1 hf
    unfold pfX12_sharesNothing_b2 at hf
    refine pd_iload_n (i := 1) dX12_sharesNothing_2 rfl rfl ?_
    refine pd_bipush dX12_sharesNothing_3 (by decide) ?_
    refine pd_icmp_ge (tgt := 21) dX12_sharesNothing_5 (by decide) (fun hc => ?_) (fun hc => ?_)
    · have hf := pd_ip hf hc
      obtain h2 := pd_inj1 hf
      subst h2
      exact pd_vret dX12_sharesNothing_21 rfl (Nat.le_refl 0) (Nat.le_refl 0)
    · have hf := pd_in_ hf hc
      refine pd_aload_n (i := 0) dX12_sharesNothing_8 rfl rfl ?_
      obtain ⟨hg1, hf⟩ := pd_ig hf
      refine pd_get (x := pd_R (F x0 44)) 44 dX12_sharesNothing_9 (show vwCl[12]? = some (RX12, TX12, 52) from rfl) pin_12 (by decide) pq_893 hg1 rfl ?_
      refine pd_iload_n (i := 1) dX12_sharesNothing_12 rfl rfl ?_
      refine pd_lconst (x := 0) dX12_sharesNothing_13 (by decide) ?_
      obtain ⟨hg2, hf⟩ := pd_ig hf
      refine pd_last dX12_sharesNothing_14 hg2 ?_
      refine pd_topF (fun F3 eF3 => ?_)
      have hf := pd_lt hf eF3
      clear eF3
      refine pd_iincN (L' := fun y => [pd_R x0, pd_I y]) dX12_sharesNothing_15 rfl (by decide) (by decide) (fun _ => rfl) (fun x1_15 ex1_15 => ?_)
      have hf := pd_lt hf ex1_15
      clear ex1_15
      refine pd_goto (tgt := 2) dX12_sharesNothing_18 (by decide) ?_
      exact pd_weak (L' := [pd_R x0, pd_I x1_15]) ⟨Or.inr rfl, Or.inr rfl, trivial⟩ (ih _ _ _ hf)
set_option maxHeartbeats 4000000 in
set_option maxRecDepth 100000 in
theorem pkX12_sharesNothing (l : Launch) {sh : pd_S} {n : Nat} {F : pd_F} {x0 : Int} {Fz : pd_F} (hf : pfX12_sharesNothing sh n F x0 = some Fz) : pd_C l yX12_sharesNothing (Cond.code yX12_sharesNothing cX12_sharesNothing 2 none :: pd_gt) (pd_rm 1 0 0) false 0 0 sh F [pd_R x0] none sh Fz := by
  unfold pfX12_sharesNothing at hf
  refine pd_body (L := [pd_R x0, pd_N]) (by decide +kernel) (Nat.le_of_ble_eq_true rfl) rfl (fun E => ?_)
  refine pd_iconst dX12_sharesNothing_0 (by decide) ?_
  refine pd_istore_n (L' := [pd_R x0, pd_I 0]) dX12_sharesNothing_1 rfl (by decide) rfl ?_
  exact pd_weak (L' := [pd_R x0, pd_I 0]) ⟨Or.inr rfl, Or.inr rfl, trivial⟩ (pkX12_sharesNothing_b2 E l n _ _ _ hf)
set_option maxHeartbeats 4000000 in
set_option maxRecDepth 100000 in
theorem pkX12_isOut_b2 (E : pd_E) (l : Launch) {sh : pd_S} {n : Nat} {ρ : Int} {Fz : pd_F}  : ∀ (k : Nat) (F : pd_F) (x0 : Int) (x1 : Int) (x2 : Int), pfX12_isOut_b2 sh n  k F x0 x1 x2 = some (ρ, Fz) → pd_V E l (pd_rm 1 0 0) (RX12, cX12_isOut, 3, (some .boolean), "isOut") (pd_Qm E false (some (pd_I ρ)) sh Fz 0 0) false 0 0 sh F 2 [pd_R x0, pd_I x1, pd_I x2] [] := by
  intro k
  induction k with
  | zero => intro F x0 x1 x2 hf; exact absurd hf (by unfold pfX12_isOut_b2; exact fun h => nomatch h)
  | succ k ih =>
    intro F x0 x1 x2 hf
    unfold pfX12_isOut_b2 at hf
    refine pd_iload_n (i := 2) dX12_isOut_2 rfl rfl ?_
    refine pd_aload_n (i := 0) dX12_isOut_3 rfl rfl ?_
    obtain ⟨hg1, hf⟩ := pd_ig hf
    refine pd_get (x := pd_R (F x0 39)) 39 dX12_isOut_4 (show vwCl[12]? = some (RX12, TX12, 52) from rfl) pin_12 (by decide) pq_877 hg1 rfl ?_
    refine pd_bipush dX12_isOut_7 (by decide) ?_
    obtain ⟨hg2, hf⟩ := pd_ig hf
    refine pd_iald dX12_isOut_9 hg2 ?_
    refine pd_icmp_ge (tgt := 34) dX12_isOut_10 (by decide) (fun hc => ?_) (fun hc => ?_)
    · have hf := pd_ip hf hc
      refine pd_iconst dX12_isOut_34 (by decide) ?_
      obtain ⟨h1, h2⟩ := pd_inj hf
      subst h1 h2
      exact pd_zret dX12_isOut_35 rfl (by decide) (Nat.le_refl 0) (Nat.le_refl 0)
    · have hf := pd_in_ hf hc
      refine pd_aload_n (i := 0) dX12_isOut_13 rfl rfl ?_
      refine pd_get (x := pd_R (F x0 39)) 39 dX12_isOut_14 (show vwCl[12]? = some (RX12, TX12, 52) from rfl) pin_12 (by decide) pq_877 hg1 rfl ?_
      refine pd_bipush dX12_isOut_17 (by decide) ?_
      refine pd_iload_n (i := 2) dX12_isOut_19 rfl rfl ?_
      refine pd_iadd dX12_isOut_20 ?_
      obtain ⟨hg3, hf⟩ := pd_ig hf
      refine pd_iald dX12_isOut_21 hg3 ?_
      refine pd_iload_n (i := 1) dX12_isOut_22 rfl rfl ?_
      refine pd_icmp_ne (tgt := 28) dX12_isOut_23 (by decide) (fun hc => ?_) (fun hc => ?_)
      · have hf := pd_ip hf hc
        refine pd_iincN (L' := fun y => [pd_R x0, pd_I x1, pd_I y]) dX12_isOut_28 rfl (by decide) (by decide) (fun _ => rfl) (fun x2_28 ex2_28 => ?_)
        have hf := pd_lt hf ex2_28
        clear ex2_28
        refine pd_goto (tgt := 2) dX12_isOut_31 (by decide) ?_
        exact pd_weak (L' := [pd_R x0, pd_I x1, pd_I x2_28]) ⟨Or.inr rfl, Or.inr rfl, Or.inr rfl, trivial⟩ (ih _ _ _ _ hf)
      · have hf := pd_iq hf hc
        refine pd_iconst dX12_isOut_26 (by decide) ?_
        obtain ⟨h1, h2⟩ := pd_inj hf
        subst h1 h2
        exact pd_zret dX12_isOut_27 rfl (by decide) (Nat.le_refl 0) (Nat.le_refl 0)
set_option maxHeartbeats 4000000 in
set_option maxRecDepth 100000 in
theorem pkX12_isOut (l : Launch) {sh : pd_S} {n : Nat} {F : pd_F} {x0 : Int} {x1 : Int} {ρ : Int} {Fz : pd_F} (hf : pfX12_isOut sh n F x0 x1 = some (ρ, Fz)) : pd_C l yX12_isOut (Cond.code yX12_isOut cX12_isOut 3 (some .boolean) :: pd_gt) (pd_rm 1 0 0) false 0 0 sh F [pd_R x0, pd_I x1] (some (pd_I ρ)) sh Fz := by
  unfold pfX12_isOut at hf
  refine pd_body (L := [pd_R x0, pd_I x1, pd_N]) (by decide +kernel) (Nat.le_of_ble_eq_true rfl) rfl (fun E => ?_)
  refine pd_iconst dX12_isOut_0 (by decide) ?_
  refine pd_istore_n (L' := [pd_R x0, pd_I x1, pd_I 0]) dX12_isOut_1 rfl (by decide) rfl ?_
  exact pd_weak (L' := [pd_R x0, pd_I x1, pd_I 0]) ⟨Or.inr rfl, Or.inr rfl, Or.inr rfl, trivial⟩ (pkX12_isOut_b2 E l n _ _ _ _ hf)
set_option maxHeartbeats 4000000 in
set_option maxRecDepth 100000 in
theorem pkX12_areJoined_b67 (E : pd_E) (l : Launch) {sh : pd_S} {n : Nat} {ρ : Int} {Fz : pd_F} {c2 : pd_F → Int → Int → Int → Int → Option (Int × pd_F)} (hL2 : ∀ (F : pd_F) (x0 : Int) (x1 : Int) (x2 : Int) (x3 : Int), c2 F x0 x1 x2 x3 = some (ρ, Fz) → pd_V E l (pd_rm 1 0 0) (RX12, cX12_areJoined, 6, (some .boolean), "areJoined") (pd_Qm E false (some (pd_I ρ)) sh Fz 0 0) false 0 0 sh F 2 [pd_R x0, pd_I x1, pd_I x2, pd_I x3, pd_N, pd_N] []) (F : pd_F) (x0 : Int) (x1 : Int) (x2 : Int) (x3 : Int) (hf : pfX12_areJoined_b67 sh n c2 F x0 x1 x2 x3 = some (ρ, Fz)) : pd_V E l (pd_rm 1 0 0) (RX12, cX12_areJoined, 6, (some .boolean), "areJoined") (pd_Qm E false (some (pd_I ρ)) sh Fz 0 0) false 0 0 sh F 67 [pd_R x0, pd_I x1, pd_I x2, pd_I x3, pd_N, pd_N] [] := by
  unfold pfX12_areJoined_b67 at hf
  refine pd_iincN (L' := fun y => [pd_R x0, pd_I x1, pd_I x2, pd_I y, pd_N, pd_N]) dX12_areJoined_67 rfl (by decide) (by decide) (fun _ => rfl) (fun x3_67 ex3_67 => ?_)
  have hf := pd_lt hf ex3_67
  clear ex3_67
  refine pd_goto (tgt := 2) dX12_areJoined_70 (by decide) ?_
  exact pd_weak (L' := [pd_R x0, pd_I x1, pd_I x2, pd_I x3_67, pd_N, pd_N]) ⟨Or.inr rfl, Or.inr rfl, Or.inr rfl, Or.inr rfl, Or.inr rfl, Or.inr rfl, trivial⟩ (hL2 _ _ _ _ _ hf)
set_option maxHeartbeats 4000000 in
set_option maxRecDepth 100000 in
theorem pkX12_areJoined_b53 (E : pd_E) (l : Launch) {sh : pd_S} {n : Nat} {ρ : Int} {Fz : pd_F} {c2 : pd_F → Int → Int → Int → Int → Option (Int × pd_F)} (hL2 : ∀ (F : pd_F) (x0 : Int) (x1 : Int) (x2 : Int) (x3 : Int), c2 F x0 x1 x2 x3 = some (ρ, Fz) → pd_V E l (pd_rm 1 0 0) (RX12, cX12_areJoined, 6, (some .boolean), "areJoined") (pd_Qm E false (some (pd_I ρ)) sh Fz 0 0) false 0 0 sh F 2 [pd_R x0, pd_I x1, pd_I x2, pd_I x3, pd_N, pd_N] []) (F : pd_F) (x0 : Int) (x1 : Int) (x2 : Int) (x3 : Int) (x4 : Int) (x5 : Int) (hf : pfX12_areJoined_b53 sh n c2 F x0 x1 x2 x3 x4 x5 = some (ρ, Fz)) : pd_V E l (pd_rm 1 0 0) (RX12, cX12_areJoined, 6, (some .boolean), "areJoined") (pd_Qm E false (some (pd_I ρ)) sh Fz 0 0) false 0 0 sh F 53 [pd_R x0, pd_I x1, pd_I x2, pd_I x3, pd_I x4, pd_I x5] [] := by
  unfold pfX12_areJoined_b53 at hf
  refine pd_iload (i := 4) dX12_areJoined_53 rfl ?_
  refine pd_iload_n (i := 2) dX12_areJoined_55 rfl rfl ?_
  refine pd_icmp_ne (tgt := 67) dX12_areJoined_56 (by decide) (fun hc => ?_) (fun hc => ?_)
  · have hf := pd_ip hf hc
    exact pd_weak (L' := [pd_R x0, pd_I x1, pd_I x2, pd_I x3, pd_N, pd_N]) ⟨Or.inr rfl, Or.inr rfl, Or.inr rfl, Or.inr rfl, Or.inl rfl, Or.inl rfl, trivial⟩ (pkX12_areJoined_b67 E l hL2 _ _ _ _ _ hf)
  · have hf := pd_iq hf hc
    refine pd_iload (i := 5) dX12_areJoined_59 rfl ?_
    refine pd_iload_n (i := 1) dX12_areJoined_61 rfl rfl ?_
    refine pd_icmp_ne (tgt := 67) dX12_areJoined_62 (by decide) (fun hc => ?_) (fun hc => ?_)
    · have hf := pd_ip hf hc
      exact pd_weak (L' := [pd_R x0, pd_I x1, pd_I x2, pd_I x3, pd_N, pd_N]) ⟨Or.inr rfl, Or.inr rfl, Or.inr rfl, Or.inr rfl, Or.inl rfl, Or.inl rfl, trivial⟩ (pkX12_areJoined_b67 E l hL2 _ _ _ _ _ hf)
    · have hf := pd_iq hf hc
      refine pd_iconst dX12_areJoined_65 (by decide) ?_
      obtain ⟨h1, h2⟩ := pd_inj hf
      subst h1 h2
      exact pd_zret dX12_areJoined_66 rfl (by decide) (Nat.le_refl 0) (Nat.le_refl 0)
set_option maxHeartbeats 4000000 in
set_option maxRecDepth 100000 in
theorem pkX12_areJoined_b2 (E : pd_E) (l : Launch) {sh : pd_S} {n : Nat} {ρ : Int} {Fz : pd_F}  : ∀ (k : Nat) (F : pd_F) (x0 : Int) (x1 : Int) (x2 : Int) (x3 : Int), pfX12_areJoined_b2 sh n  k F x0 x1 x2 x3 = some (ρ, Fz) → pd_V E l (pd_rm 1 0 0) (RX12, cX12_areJoined, 6, (some .boolean), "areJoined") (pd_Qm E false (some (pd_I ρ)) sh Fz 0 0) false 0 0 sh F 2 [pd_R x0, pd_I x1, pd_I x2, pd_I x3, pd_N, pd_N] [] := by
  intro k
  induction k with
  | zero => intro F x0 x1 x2 x3 hf; exact absurd hf (by unfold pfX12_areJoined_b2; exact fun h => nomatch h)
  | succ k ih =>
    intro F x0 x1 x2 x3 hf
    unfold pfX12_areJoined_b2 at hf
    refine pd_iload_n (i := 3) dX12_areJoined_2 rfl rfl ?_
    refine pd_aload_n (i := 0) dX12_areJoined_3 rfl rfl ?_
    obtain ⟨hg1, hf⟩ := pd_ig hf
    refine pd_get (x := pd_R (F x0 39)) 39 dX12_areJoined_4 (show vwCl[12]? = some (RX12, TX12, 52) from rfl) pin_12 (by decide) pq_877 hg1 rfl ?_
    refine pd_bipush dX12_areJoined_7 (by decide) ?_
    obtain ⟨hg2, hf⟩ := pd_ig hf
    refine pd_iald dX12_areJoined_9 hg2 ?_
    refine pd_icmp_ge (tgt := 73) dX12_areJoined_10 (by decide) (fun hc => ?_) (fun hc => ?_)
    · have hf := pd_ip hf hc
      refine pd_iconst dX12_areJoined_73 (by decide) ?_
      obtain ⟨h1, h2⟩ := pd_inj hf
      subst h1 h2
      exact pd_zret dX12_areJoined_74 rfl (by decide) (Nat.le_refl 0) (Nat.le_refl 0)
    · have hf := pd_in_ hf hc
      refine pd_aload_n (i := 0) dX12_areJoined_13 rfl rfl ?_
      refine pd_get (x := pd_R (F x0 39)) 39 dX12_areJoined_14 (show vwCl[12]? = some (RX12, TX12, 52) from rfl) pin_12 (by decide) pq_877 hg1 rfl ?_
      refine pd_bipush dX12_areJoined_17 (by decide) ?_
      refine pd_iconst dX12_areJoined_19 (by decide) ?_
      refine pd_iload_n (i := 3) dX12_areJoined_20 rfl rfl ?_
      refine pd_imul dX12_areJoined_21 ?_
      refine pd_iadd dX12_areJoined_22 ?_
      obtain ⟨hg3, hf⟩ := pd_ig hf
      refine pd_iald dX12_areJoined_23 hg3 ?_
      refine pd_topI (fun x4_24 ex4_24 => ?_)
      have hf := pd_lt hf ex4_24
      clear ex4_24
      refine pd_istore (L' := [pd_R x0, pd_I x1, pd_I x2, pd_I x3, pd_I x4_24, pd_N]) dX12_areJoined_24 (by decide) rfl ?_
      refine pd_aload_n (i := 0) dX12_areJoined_26 rfl rfl ?_
      refine pd_get (x := pd_R (F x0 39)) 39 dX12_areJoined_27 (show vwCl[12]? = some (RX12, TX12, 52) from rfl) pin_12 (by decide) pq_877 hg1 rfl ?_
      refine pd_bipush dX12_areJoined_30 (by decide) ?_
      refine pd_iconst dX12_areJoined_32 (by decide) ?_
      refine pd_iload_n (i := 3) dX12_areJoined_33 rfl rfl ?_
      refine pd_imul dX12_areJoined_34 ?_
      refine pd_iadd dX12_areJoined_35 ?_
      refine pd_iconst dX12_areJoined_36 (by decide) ?_
      refine pd_iadd dX12_areJoined_37 ?_
      obtain ⟨hg4, hf⟩ := pd_ig hf
      refine pd_iald dX12_areJoined_38 hg4 ?_
      refine pd_topI (fun x5_39 ex5_39 => ?_)
      have hf := pd_lt hf ex5_39
      clear ex5_39
      refine pd_istore (L' := [pd_R x0, pd_I x1, pd_I x2, pd_I x3, pd_I x4_24, pd_I x5_39]) dX12_areJoined_39 (by decide) rfl ?_
      refine pd_iload (i := 4) dX12_areJoined_41 rfl ?_
      refine pd_iload_n (i := 1) dX12_areJoined_43 rfl rfl ?_
      refine pd_icmp_ne (tgt := 53) dX12_areJoined_44 (by decide) (fun hc => ?_) (fun hc => ?_)
      · have hf := pd_ip hf hc
        exact pd_weak (L' := [pd_R x0, pd_I x1, pd_I x2, pd_I x3, pd_I x4_24, pd_I x5_39]) ⟨Or.inr rfl, Or.inr rfl, Or.inr rfl, Or.inr rfl, Or.inr rfl, Or.inr rfl, trivial⟩ (pkX12_areJoined_b53 E l ih _ _ _ _ _ _ _ hf)
      · have hf := pd_iq hf hc
        refine pd_iload (i := 5) dX12_areJoined_47 rfl ?_
        refine pd_iload_n (i := 2) dX12_areJoined_49 rfl rfl ?_
        refine pd_icmp_eq (tgt := 65) dX12_areJoined_50 (by decide) (fun hc => ?_) (fun hc => ?_)
        · have hf := pd_ip hf hc
          refine pd_iconst dX12_areJoined_65 (by decide) ?_
          obtain ⟨h1, h2⟩ := pd_inj hf
          subst h1 h2
          exact pd_zret dX12_areJoined_66 rfl (by decide) (Nat.le_refl 0) (Nat.le_refl 0)
        · have hf := pd_in_ hf hc
          exact pd_weak (L' := [pd_R x0, pd_I x1, pd_I x2, pd_I x3, pd_I x4_24, pd_I x5_39]) ⟨Or.inr rfl, Or.inr rfl, Or.inr rfl, Or.inr rfl, Or.inr rfl, Or.inr rfl, trivial⟩ (pkX12_areJoined_b53 E l ih _ _ _ _ _ _ _ hf)
set_option maxHeartbeats 4000000 in
set_option maxRecDepth 100000 in
theorem pkX12_areJoined (l : Launch) {sh : pd_S} {n : Nat} {F : pd_F} {x0 : Int} {x1 : Int} {x2 : Int} {ρ : Int} {Fz : pd_F} (hf : pfX12_areJoined sh n F x0 x1 x2 = some (ρ, Fz)) : pd_C l yX12_areJoined (Cond.code yX12_areJoined cX12_areJoined 6 (some .boolean) :: pd_gt) (pd_rm 1 0 0) false 0 0 sh F [pd_R x0, pd_I x1, pd_I x2] (some (pd_I ρ)) sh Fz := by
  unfold pfX12_areJoined at hf
  refine pd_body (L := [pd_R x0, pd_I x1, pd_I x2, pd_N, pd_N, pd_N]) (by decide +kernel) (Nat.le_of_ble_eq_true rfl) rfl (fun E => ?_)
  refine pd_iconst dX12_areJoined_0 (by decide) ?_
  refine pd_istore_n (L' := [pd_R x0, pd_I x1, pd_I x2, pd_I 0, pd_N, pd_N]) dX12_areJoined_1 rfl (by decide) rfl ?_
  exact pd_weak (L' := [pd_R x0, pd_I x1, pd_I x2, pd_I 0, pd_N, pd_N]) ⟨Or.inr rfl, Or.inr rfl, Or.inr rfl, Or.inr rfl, Or.inr rfl, Or.inr rfl, trivial⟩ (pkX12_areJoined_b2 E l n _ _ _ _ _ hf)
set_option maxHeartbeats 4000000 in
set_option maxRecDepth 100000 in
theorem pkX12_setOff (l : Launch) {sh : pd_S} {n : Nat} {F : pd_F} {x0 : Int} {x1 : Int} {ρ : Int} {Fz : pd_F} (hf : pfX12_setOff sh n F x0 x1 = some (ρ, Fz)) : pd_C l yX12_setOff (Cond.code yX12_setOff cX12_setOff 2 (some .long) :: pd_gt) (pd_rm 1 0 0) false 0 0 sh F [pd_R x0, pd_I x1] (some (pd_J ρ)) sh Fz := by
  unfold pfX12_setOff at hf
  refine pd_body (L := [pd_R x0, pd_I x1]) (by decide +kernel) (Nat.le_of_ble_eq_true rfl) rfl (fun E => ?_)
  refine pd_aload_n (i := 0) dX12_setOff_0 rfl rfl ?_
  obtain ⟨hg1, hf⟩ := pd_ig hf
  refine pd_get (x := pd_R (F x0 49)) 49 dX12_setOff_1 (show vwCl[12]? = some (RX12, TX12, 52) from rfl) pin_12 (by decide) pq_894 hg1 rfl ?_
  refine pd_iload_n (i := 1) dX12_setOff_4 rfl rfl ?_
  obtain ⟨hg2, hf⟩ := pd_ig hf
  refine pd_lald dX12_setOff_5 hg2 ?_
  refine pd_aload_n (i := 0) dX12_setOff_6 rfl rfl ?_
  refine pd_get (x := pd_R (F x0 48)) 48 dX12_setOff_7 (show vwCl[12]? = some (RX12, TX12, 52) from rfl) pin_12 (by decide) pq_895 hg1 rfl ?_
  refine pd_iload_n (i := 1) dX12_setOff_10 rfl rfl ?_
  obtain ⟨hg3, hf⟩ := pd_ig hf
  refine pd_lald dX12_setOff_11 hg3 ?_
  refine pd_lcmp_ge (tgt := 25) dX12_setOff_12 dX12_setOff_13 (by decide) (fun hc => ?_) (fun hc => ?_)
  · have hf := pd_ip hf hc
    refine pd_aload_n (i := 0) dX12_setOff_25 rfl rfl ?_
    refine pd_get (x := pd_R (F x0 48)) 48 dX12_setOff_26 (show vwCl[12]? = some (RX12, TX12, 52) from rfl) pin_12 (by decide) pq_895 hg1 rfl ?_
    refine pd_iload_n (i := 1) dX12_setOff_29 rfl rfl ?_
    refine pd_lald dX12_setOff_30 hg3 ?_
    obtain ⟨h1, h2⟩ := pd_inj hf
    subst h1 h2
    exact pd_lret dX12_setOff_31 rfl (Nat.le_refl 0) (Nat.le_refl 0)
  · have hf := pd_in_ hf hc
    refine pd_aload_n (i := 0) dX12_setOff_16 rfl rfl ?_
    refine pd_get (x := pd_R (F x0 49)) 49 dX12_setOff_17 (show vwCl[12]? = some (RX12, TX12, 52) from rfl) pin_12 (by decide) pq_894 hg1 rfl ?_
    refine pd_iload_n (i := 1) dX12_setOff_20 rfl rfl ?_
    refine pd_lald dX12_setOff_21 hg2 ?_
    refine pd_goto (tgt := 31) dX12_setOff_22 (by decide) ?_
    obtain ⟨h1, h2⟩ := pd_inj hf
    subst h1 h2
    exact pd_lret dX12_setOff_31 rfl (Nat.le_refl 0) (Nat.le_refl 0)
set_option maxHeartbeats 4000000 in
set_option maxRecDepth 100000 in
theorem pkX12_limit (l : Launch) {sh : pd_S} {n : Nat} {F : pd_F} {x0 : Int} {x1 : Int} {x2 : Int} {ρ : Int} {Fz : pd_F} (hf : pfX12_limit sh n F x0 x1 x2 = some (ρ, Fz)) : pd_C l yX12_limit (Cond.code yX12_limit cX12_limit 4 (some .long) :: pd_gt) (pd_rm 1 0 0) false 0 0 sh F [pd_R x0, pd_I x1, pd_J x2] (some (pd_J ρ)) sh Fz := by
  unfold pfX12_limit at hf
  refine pd_body (L := [pd_R x0, pd_I x1, pd_J x2, pd_N]) (by decide +kernel) (Nat.le_of_ble_eq_true rfl) rfl (fun E => ?_)
  refine pd_lload_n (i := 2) dX12_limit_0 rfl rfl ?_
  refine pd_aload_n (i := 0) dX12_limit_1 rfl rfl ?_
  obtain ⟨hg1, hf⟩ := pd_ig hf
  refine pd_get (x := pd_R (F x0 50)) 50 dX12_limit_2 (show vwCl[12]? = some (RX12, TX12, 52) from rfl) pin_12 (by decide) pq_896 hg1 rfl ?_
  refine pd_iload_n (i := 1) dX12_limit_5 rfl rfl ?_
  obtain ⟨hg2, hf⟩ := pd_ig hf
  refine pd_lald dX12_limit_6 hg2 ?_
  refine pd_aload_n (i := 0) dX12_limit_7 rfl rfl ?_
  refine pd_get (x := pd_R (F x0 39)) 39 dX12_limit_8 (show vwCl[12]? = some (RX12, TX12, 52) from rfl) pin_12 (by decide) pq_877 hg1 rfl ?_
  refine pd_bipush dX12_limit_11 (by decide) ?_
  obtain ⟨hg3, hf⟩ := pd_ig hf
  refine pd_iald dX12_limit_13 hg3 ?_
  refine pd_i2l dX12_limit_14 ?_
  refine pd_lcmp_ge (tgt := 28) dX12_limit_15 dX12_limit_16 (by decide) (fun hc => ?_) (fun hc => ?_)
  · have hf := pd_ip hf hc
    refine pd_aload_n (i := 0) dX12_limit_28 rfl rfl ?_
    refine pd_get (x := pd_R (F x0 39)) 39 dX12_limit_29 (show vwCl[12]? = some (RX12, TX12, 52) from rfl) pin_12 (by decide) pq_877 hg1 rfl ?_
    refine pd_bipush dX12_limit_32 (by decide) ?_
    refine pd_iald dX12_limit_34 hg3 ?_
    refine pd_i2l dX12_limit_35 ?_
    refine pd_ladd dX12_limit_36 ?_
    obtain ⟨h1, h2⟩ := pd_inj hf
    subst h1 h2
    exact pd_lret dX12_limit_37 rfl (Nat.le_refl 0) (Nat.le_refl 0)
  · have hf := pd_in_ hf hc
    refine pd_aload_n (i := 0) dX12_limit_19 rfl rfl ?_
    refine pd_get (x := pd_R (F x0 50)) 50 dX12_limit_20 (show vwCl[12]? = some (RX12, TX12, 52) from rfl) pin_12 (by decide) pq_896 hg1 rfl ?_
    refine pd_iload_n (i := 1) dX12_limit_23 rfl rfl ?_
    refine pd_lald dX12_limit_24 hg2 ?_
    refine pd_goto (tgt := 36) dX12_limit_25 (by decide) ?_
    refine pd_ladd dX12_limit_36 ?_
    obtain ⟨h1, h2⟩ := pd_inj hf
    subst h1 h2
    exact pd_lret dX12_limit_37 rfl (Nat.le_refl 0) (Nat.le_refl 0)
set_option maxHeartbeats 4000000 in
set_option maxRecDepth 100000 in
theorem pkX12_firstLetter_b2 (E : pd_E) (l : Launch) {sh : pd_S} {n : Nat} {ρ : Int} {Fz : pd_F}  : ∀ (k : Nat) (F : pd_F) (x2 : Int), pfX12_firstLetter_b2 sh n  k F x2 = some (ρ, Fz) → pd_V E l (pd_rm 1 0 0) (RX12, cX12_firstLetter, 4, (some .int), "firstLetter") (pd_Qm E false (some (pd_I ρ)) sh Fz 0 0) false 0 0 sh F 2 [pd_N, pd_N, pd_J x2, pd_N] [] := by
  intro k
  induction k with
  | zero => intro F x2 hf; exact absurd hf (by unfold pfX12_firstLetter_b2; exact fun h => nomatch h)
  | succ k ih =>
    intro F x2 hf
    unfold pfX12_firstLetter_b2 at hf
    refine pd_lload_n (i := 2) dX12_firstLetter_2 rfl rfl ?_
    refine pd_ldc2 (x := 32) dX12_firstLetter_3 pq_897 (by decide +kernel) ?_
    refine pd_lcmp_lt (tgt := 17) dX12_firstLetter_6 dX12_firstLetter_7 (by decide) (fun hc => ?_) (fun hc => ?_)
    · have hf := pd_ip hf hc
      refine pd_lload_n (i := 2) dX12_firstLetter_17 rfl rfl ?_
      refine pd_l2i dX12_firstLetter_18 ?_
      refine pd_iconst dX12_firstLetter_19 (by decide) ?_
      refine pd_isub dX12_firstLetter_20 ?_
      obtain ⟨h1, h2⟩ := pd_inj hf
      subst h1 h2
      exact pd_iret dX12_firstLetter_21 rfl (Nat.le_refl 0) (Nat.le_refl 0)
    · have hf := pd_in_ hf hc
      refine pd_lload_n (i := 2) dX12_firstLetter_10 rfl rfl ?_
      refine pd_iconst dX12_firstLetter_11 (by decide) ?_
      refine pd_lshr dX12_firstLetter_12 ?_
      refine pd_topJ (fun x2_13 ex2_13 => ?_)
      have hf := pd_lt hf ex2_13
      clear ex2_13
      refine pd_lstore_n (L' := [pd_N, pd_N, pd_J x2_13, pd_N]) dX12_firstLetter_13 rfl (by decide) rfl ?_
      refine pd_goto (tgt := 2) dX12_firstLetter_14 (by decide) ?_
      exact pd_weak (L' := [pd_N, pd_N, pd_J x2_13, pd_N]) ⟨Or.inr rfl, Or.inr rfl, Or.inr rfl, Or.inr rfl, trivial⟩ (ih _ _ hf)
set_option maxHeartbeats 4000000 in
set_option maxRecDepth 100000 in
theorem pkX12_firstLetter (l : Launch) {sh : pd_S} {n : Nat} {F : pd_F} {x0 : Int} {ρ : Int} {Fz : pd_F} (hf : pfX12_firstLetter sh n F x0 = some (ρ, Fz)) : pd_C l yX12_firstLetter (Cond.code yX12_firstLetter cX12_firstLetter 4 (some .int) :: pd_gt) (pd_rm 1 0 0) false 0 0 sh F [pd_J x0] (some (pd_I ρ)) sh Fz := by
  unfold pfX12_firstLetter at hf
  refine pd_body (L := [pd_J x0, pd_N, pd_N, pd_N]) (by decide +kernel) (Nat.le_of_ble_eq_true rfl) rfl (fun E => ?_)
  refine pd_lload_n (i := 0) dX12_firstLetter_0 rfl rfl ?_
  refine pd_lstore_n (L' := [pd_J x0, pd_N, pd_J x0, pd_N]) dX12_firstLetter_1 rfl (by decide) rfl ?_
  exact pd_weak (L' := [pd_N, pd_N, pd_J x0, pd_N]) ⟨Or.inl rfl, Or.inr rfl, Or.inr rfl, Or.inr rfl, trivial⟩ (pkX12_firstLetter_b2 E l n _ _ hf)
set_option maxHeartbeats 4000000 in
set_option maxRecDepth 100000 in
theorem pkX12_keeps_b83 (E : pd_E) (l : Launch) {sh : pd_S} {n : Nat} {Fz : pd_F}  (F : pd_F) (x0 : Int) (hf : pfX12_keeps_b83 sh n  F x0 = some Fz) : pd_V E l (pd_rm 1 0 0) (RX12, cX12_keeps, 2, none, "keeps") (pd_Qm E false none sh Fz 0 0) false 0 0 sh F 83 [pd_R x0, pd_N] [] := by
  unfold pfX12_keeps_b83 at hf
  refine pd_aload_n (i := 0) dX12_keeps_83 rfl rfl ?_
  refine pd_dup dX12_keeps_84 rfl ?_
  obtain ⟨hg1, hf⟩ := pd_ig hf
  refine pd_get (x := pd_I (F x0 41)) 41 dX12_keeps_85 (show vwCl[12]? = some (RX12, TX12, 52) from rfl) pin_12 (by decide) pq_892 hg1 rfl ?_
  refine pd_iconst dX12_keeps_88 (by decide) ?_
  refine pd_iadd dX12_keeps_89 ?_
  refine pd_put (n := (pd_w ((F x0 41) + 1))) (x := pd_I (pd_w ((F x0 41) + 1))) 41 dX12_keeps_90 (show vwCl[12]? = some (RX12, TX12, 52) from rfl) pin_12 tyX12_ok nmX12 (by decide) pq_892 rfl hg1 rfl pd_nrI pd_ftI ?_
  refine pd_topF (fun F2 eF2 => ?_)
  have hf := pd_lt hf eF2
  clear eF2
  obtain h2 := pd_inj1 hf
  subst h2
  exact pd_vret dX12_keeps_93 rfl (Nat.le_refl 0) (Nat.le_refl 0)
set_option maxHeartbeats 4000000 in
set_option maxRecDepth 100000 in
theorem pkX12_keeps_b51 (E : pd_E) (l : Launch) {sh : pd_S} {n : Nat} {Fz : pd_F}  : ∀ (k : Nat) (F : pd_F) (x0 : Int) (x1 : Int), pfX12_keeps_b51 sh n  k F x0 x1 = some Fz → pd_V E l (pd_rm 1 0 0) (RX12, cX12_keeps, 2, none, "keeps") (pd_Qm E false none sh Fz 0 0) false 0 0 sh F 51 [pd_R x0, pd_I x1] [] := by
  intro k
  induction k with
  | zero => intro F x0 x1 hf; exact absurd hf (by unfold pfX12_keeps_b51; exact fun h => nomatch h)
  | succ k ih =>
    intro F x0 x1 hf
    unfold pfX12_keeps_b51 at hf
    refine pd_iload_n (i := 1) dX12_keeps_51 rfl rfl ?_
    refine pd_bipush dX12_keeps_52 (by decide) ?_
    refine pd_icmp_ge (tgt := 83) dX12_keeps_54 (by decide) (fun hc => ?_) (fun hc => ?_)
    · have hf := pd_ip hf hc
      exact pd_weak (L' := [pd_R x0, pd_N]) ⟨Or.inr rfl, Or.inl rfl, trivial⟩ (pkX12_keeps_b83 E l _ _ hf)
    · have hf := pd_in_ hf hc
      refine pd_aload_n (i := 0) dX12_keeps_57 rfl rfl ?_
      obtain ⟨hg3, hf⟩ := pd_ig hf
      refine pd_get (x := pd_R (F x0 40)) 40 dX12_keeps_58 (show vwCl[12]? = some (RX12, TX12, 52) from rfl) pin_12 (by decide) pq_898 hg3 rfl ?_
      refine pd_bipush dX12_keeps_61 (by decide) ?_
      refine pd_aload_n (i := 0) dX12_keeps_63 rfl rfl ?_
      refine pd_get (x := pd_I (F x0 41)) 41 dX12_keeps_64 (show vwCl[12]? = some (RX12, TX12, 52) from rfl) pin_12 (by decide) pq_892 hg3 rfl ?_
      refine pd_imul dX12_keeps_67 ?_
      refine pd_iload_n (i := 1) dX12_keeps_68 rfl rfl ?_
      refine pd_iadd dX12_keeps_69 ?_
      refine pd_aload_n (i := 0) dX12_keeps_70 rfl rfl ?_
      refine pd_get (x := pd_R (F x0 39)) 39 dX12_keeps_71 (show vwCl[12]? = some (RX12, TX12, 52) from rfl) pin_12 (by decide) pq_877 hg3 rfl ?_
      refine pd_iload_n (i := 1) dX12_keeps_74 rfl rfl ?_
      obtain ⟨hg4, hf⟩ := pd_ig hf
      refine pd_iald dX12_keeps_75 hg4 ?_
      obtain ⟨hg5, hf⟩ := pd_ig hf
      refine pd_iast dX12_keeps_76 hg5 ?_
      refine pd_topF (fun F6 eF6 => ?_)
      have hf := pd_lt hf eF6
      clear eF6
      refine pd_iincN (L' := fun y => [pd_R x0, pd_I y]) dX12_keeps_77 rfl (by decide) (by decide) (fun _ => rfl) (fun x1_77 ex1_77 => ?_)
      have hf := pd_lt hf ex1_77
      clear ex1_77
      refine pd_goto (tgt := 51) dX12_keeps_80 (by decide) ?_
      exact pd_weak (L' := [pd_R x0, pd_I x1_77]) ⟨Or.inr rfl, Or.inr rfl, trivial⟩ (ih _ _ _ hf)
set_option maxHeartbeats 4000000 in
set_option maxRecDepth 100000 in
theorem pkX12_keeps_b49 (E : pd_E) (l : Launch) {sh : pd_S} {n : Nat} {Fz : pd_F}  (F : pd_F) (x0 : Int) (hf : pfX12_keeps_b49 sh n  F x0 = some Fz) : pd_V E l (pd_rm 1 0 0) (RX12, cX12_keeps, 2, none, "keeps") (pd_Qm E false none sh Fz 0 0) false 0 0 sh F 49 [pd_R x0, pd_N] [] := by
  unfold pfX12_keeps_b49 at hf
  refine pd_iconst dX12_keeps_49 (by decide) ?_
  refine pd_istore_n (L' := [pd_R x0, pd_I 0]) dX12_keeps_50 rfl (by decide) rfl ?_
  exact pd_weak (L' := [pd_R x0, pd_I 0]) ⟨Or.inr rfl, Or.inr rfl, trivial⟩ (pkX12_keeps_b51 E l n _ _ _ hf)
set_option maxHeartbeats 4000000 in
set_option maxRecDepth 100000 in
theorem pkX12_keeps_b39 (E : pd_E) (l : Launch) {sh : pd_S} {n : Nat} {Fz : pd_F}  (F : pd_F) (x0 : Int) (hf : pfX12_keeps_b39 sh n  F x0 = some Fz) : pd_V E l (pd_rm 1 0 0) (RX12, cX12_keeps, 2, none, "keeps") (pd_Qm E false none sh Fz 0 0) false 0 0 sh F 39 [pd_R x0, pd_N] [] := by
  unfold pfX12_keeps_b39 at hf
  refine pd_aload_n (i := 0) dX12_keeps_39 rfl rfl ?_
  refine pd_dup dX12_keeps_40 rfl ?_
  obtain ⟨hg7, hf⟩ := pd_ig hf
  refine pd_get (x := pd_I (F x0 41)) 41 dX12_keeps_41 (show vwCl[12]? = some (RX12, TX12, 52) from rfl) pin_12 (by decide) pq_892 hg7 rfl ?_
  refine pd_iconst dX12_keeps_44 (by decide) ?_
  refine pd_isub dX12_keeps_45 ?_
  refine pd_put (n := (pd_w ((F x0 41) - 1))) (x := pd_I (pd_w ((F x0 41) - 1))) 41 dX12_keeps_46 (show vwCl[12]? = some (RX12, TX12, 52) from rfl) pin_12 tyX12_ok nmX12 (by decide) pq_892 rfl hg7 rfl pd_nrI pd_ftI ?_
  refine pd_topF (fun F8 eF8 => ?_)
  have hf := pd_lt hf eF8
  clear eF8
  exact pd_weak (L' := [pd_R x0, pd_N]) ⟨Or.inr rfl, Or.inr rfl, trivial⟩ (pkX12_keeps_b49 E l _ _ hf)
set_option maxHeartbeats 4000000 in
set_option maxRecDepth 100000 in
theorem pkX12_keeps_b11 (E : pd_E) (l : Launch) {sh : pd_S} {n : Nat} {Fz : pd_F}  : ∀ (k : Nat) (F : pd_F) (x0 : Int) (x1 : Int), pfX12_keeps_b11 sh n  k F x0 x1 = some Fz → pd_V E l (pd_rm 1 0 0) (RX12, cX12_keeps, 2, none, "keeps") (pd_Qm E false none sh Fz 0 0) false 0 0 sh F 11 [pd_R x0, pd_I x1] [] := by
  intro k
  induction k with
  | zero => intro F x0 x1 hf; exact absurd hf (by unfold pfX12_keeps_b11; exact fun h => nomatch h)
  | succ k ih =>
    intro F x0 x1 hf
    unfold pfX12_keeps_b11 at hf
    refine pd_iload_n (i := 1) dX12_keeps_11 rfl rfl ?_
    refine pd_sipush dX12_keeps_12 (by decide) ?_
    refine pd_icmp_ge (tgt := 39) dX12_keeps_15 (by decide) (fun hc => ?_) (fun hc => ?_)
    · have hf := pd_ip hf hc
      exact pd_weak (L' := [pd_R x0, pd_N]) ⟨Or.inr rfl, Or.inl rfl, trivial⟩ (pkX12_keeps_b39 E l _ _ hf)
    · have hf := pd_in_ hf hc
      refine pd_aload_n (i := 0) dX12_keeps_18 rfl rfl ?_
      obtain ⟨hg9, hf⟩ := pd_ig hf
      refine pd_get (x := pd_R (F x0 40)) 40 dX12_keeps_19 (show vwCl[12]? = some (RX12, TX12, 52) from rfl) pin_12 (by decide) pq_898 hg9 rfl ?_
      refine pd_iload_n (i := 1) dX12_keeps_22 rfl rfl ?_
      refine pd_aload_n (i := 0) dX12_keeps_23 rfl rfl ?_
      refine pd_get (x := pd_R (F x0 40)) 40 dX12_keeps_24 (show vwCl[12]? = some (RX12, TX12, 52) from rfl) pin_12 (by decide) pq_898 hg9 rfl ?_
      refine pd_iload_n (i := 1) dX12_keeps_27 rfl rfl ?_
      refine pd_bipush dX12_keeps_28 (by decide) ?_
      refine pd_iadd dX12_keeps_30 ?_
      obtain ⟨hg10, hf⟩ := pd_ig hf
      refine pd_iald dX12_keeps_31 hg10 ?_
      obtain ⟨hg11, hf⟩ := pd_ig hf
      refine pd_iast dX12_keeps_32 hg11 ?_
      refine pd_topF (fun F12 eF12 => ?_)
      have hf := pd_lt hf eF12
      clear eF12
      refine pd_iincN (L' := fun y => [pd_R x0, pd_I y]) dX12_keeps_33 rfl (by decide) (by decide) (fun _ => rfl) (fun x1_33 ex1_33 => ?_)
      have hf := pd_lt hf ex1_33
      clear ex1_33
      refine pd_goto (tgt := 11) dX12_keeps_36 (by decide) ?_
      exact pd_weak (L' := [pd_R x0, pd_I x1_33]) ⟨Or.inr rfl, Or.inr rfl, trivial⟩ (ih _ _ _ hf)
set_option maxHeartbeats 4000000 in
set_option maxRecDepth 100000 in
theorem pkX12_keeps (l : Launch) {sh : pd_S} {n : Nat} {F : pd_F} {x0 : Int} {Fz : pd_F} (hf : pfX12_keeps sh n F x0 = some Fz) : pd_C l yX12_keeps (Cond.code yX12_keeps cX12_keeps 2 none :: pd_gt) (pd_rm 1 0 0) false 0 0 sh F [pd_R x0] none sh Fz := by
  unfold pfX12_keeps at hf
  refine pd_body (L := [pd_R x0, pd_N]) (by decide +kernel) (Nat.le_of_ble_eq_true rfl) rfl (fun E => ?_)
  refine pd_aload_n (i := 0) dX12_keeps_0 rfl rfl ?_
  obtain ⟨hg13, hf⟩ := pd_ig hf
  refine pd_get (x := pd_I (F x0 41)) 41 dX12_keeps_1 (show vwCl[12]? = some (RX12, TX12, 52) from rfl) pin_12 (by decide) pq_892 hg13 rfl ?_
  refine pd_bipush dX12_keeps_4 (by decide) ?_
  refine pd_icmp_ne (tgt := 49) dX12_keeps_6 (by decide) (fun hc => ?_) (fun hc => ?_)
  · have hf := pd_ip hf hc
    exact pd_weak (L' := [pd_R x0, pd_N]) ⟨Or.inr rfl, Or.inr rfl, trivial⟩ (pkX12_keeps_b49 E l _ _ hf)
  · have hf := pd_iq hf hc
    refine pd_iconst dX12_keeps_9 (by decide) ?_
    refine pd_istore_n (L' := [pd_R x0, pd_I 0]) dX12_keeps_10 rfl (by decide) rfl ?_
    exact pd_weak (L' := [pd_R x0, pd_I 0]) ⟨Or.inr rfl, Or.inr rfl, trivial⟩ (pkX12_keeps_b11 E l n _ _ _ hf)
set_option maxHeartbeats 4000000 in
set_option maxRecDepth 100000 in
theorem pkX12_undo_b26 (E : pd_E) (l : Launch) {sh : pd_S} {n : Nat} {ρ : Int} {Fz : pd_F}  : ∀ (k : Nat) (F : pd_F) (x0 : Int) (x1 : Int), pfX12_undo_b26 sh n  k F x0 x1 = some (ρ, Fz) → pd_V E l (pd_rm 1 0 0) (RX12, cX12_undo, 2, (some .int), "undo") (pd_Qm E false (some (pd_I ρ)) sh Fz 0 0) false 0 0 sh F 26 [pd_R x0, pd_I x1] [] := by
  intro k
  induction k with
  | zero => intro F x0 x1 hf; exact absurd hf (by unfold pfX12_undo_b26; exact fun h => nomatch h)
  | succ k ih =>
    intro F x0 x1 hf
    unfold pfX12_undo_b26 at hf
    refine pd_iload_n (i := 1) dX12_undo_26 rfl rfl ?_
    refine pd_bipush dX12_undo_27 (by decide) ?_
    refine pd_icmp_ge (tgt := 58) dX12_undo_29 (by decide) (fun hc => ?_) (fun hc => ?_)
    · have hf := pd_ip hf hc
      refine pd_aload_n (i := 0) dX12_undo_58 rfl rfl ?_
      obtain ⟨hg1, hf⟩ := pd_ig hf
      refine pd_get (x := pd_I (F x0 41)) 41 dX12_undo_59 (show vwCl[12]? = some (RX12, TX12, 52) from rfl) pin_12 (by decide) pq_892 hg1 rfl ?_
      obtain ⟨h1, h2⟩ := pd_inj hf
      subst h1 h2
      exact pd_iret dX12_undo_62 rfl (Nat.le_refl 0) (Nat.le_refl 0)
    · have hf := pd_in_ hf hc
      refine pd_aload_n (i := 0) dX12_undo_32 rfl rfl ?_
      obtain ⟨hg2, hf⟩ := pd_ig hf
      refine pd_get (x := pd_R (F x0 39)) 39 dX12_undo_33 (show vwCl[12]? = some (RX12, TX12, 52) from rfl) pin_12 (by decide) pq_877 hg2 rfl ?_
      refine pd_iload_n (i := 1) dX12_undo_36 rfl rfl ?_
      refine pd_aload_n (i := 0) dX12_undo_37 rfl rfl ?_
      refine pd_get (x := pd_R (F x0 40)) 40 dX12_undo_38 (show vwCl[12]? = some (RX12, TX12, 52) from rfl) pin_12 (by decide) pq_898 hg2 rfl ?_
      refine pd_bipush dX12_undo_41 (by decide) ?_
      refine pd_aload_n (i := 0) dX12_undo_43 rfl rfl ?_
      refine pd_get (x := pd_I (F x0 41)) 41 dX12_undo_44 (show vwCl[12]? = some (RX12, TX12, 52) from rfl) pin_12 (by decide) pq_892 hg2 rfl ?_
      refine pd_imul dX12_undo_47 ?_
      refine pd_iload_n (i := 1) dX12_undo_48 rfl rfl ?_
      refine pd_iadd dX12_undo_49 ?_
      obtain ⟨hg3, hf⟩ := pd_ig hf
      refine pd_iald dX12_undo_50 hg3 ?_
      obtain ⟨hg4, hf⟩ := pd_ig hf
      refine pd_iast dX12_undo_51 hg4 ?_
      refine pd_topF (fun F5 eF5 => ?_)
      have hf := pd_lt hf eF5
      clear eF5
      refine pd_iincN (L' := fun y => [pd_R x0, pd_I y]) dX12_undo_52 rfl (by decide) (by decide) (fun _ => rfl) (fun x1_52 ex1_52 => ?_)
      have hf := pd_lt hf ex1_52
      clear ex1_52
      refine pd_goto (tgt := 26) dX12_undo_55 (by decide) ?_
      exact pd_weak (L' := [pd_R x0, pd_I x1_52]) ⟨Or.inr rfl, Or.inr rfl, trivial⟩ (ih _ _ _ hf)
set_option maxHeartbeats 4000000 in
set_option maxRecDepth 100000 in
theorem pkX12_undo (l : Launch) {sh : pd_S} {n : Nat} {F : pd_F} {x0 : Int} {ρ : Int} {Fz : pd_F} (hf : pfX12_undo sh n F x0 = some (ρ, Fz)) : pd_C l yX12_undo (Cond.code yX12_undo cX12_undo 2 (some .int) :: pd_gt) (pd_rm 1 0 0) false 0 0 sh F [pd_R x0] (some (pd_I ρ)) sh Fz := by
  unfold pfX12_undo at hf
  refine pd_body (L := [pd_R x0, pd_N]) (by decide +kernel) (Nat.le_of_ble_eq_true rfl) rfl (fun E => ?_)
  refine pd_aload_n (i := 0) dX12_undo_0 rfl rfl ?_
  refine pd_iconst dX12_undo_1 (by decide) ?_
  obtain ⟨hg6, hf⟩ := pd_ig hf
  refine pd_put (n := 0) (x := pd_I 0) 0 dX12_undo_2 (show vwCl[12]? = some (RX12, TX12, 52) from rfl) pin_12 tyX12_ok nmX12 (by decide) pq_704 rfl hg6 rfl pd_nrI pd_ftI ?_
  refine pd_topF (fun F7 eF7 => ?_)
  have hf := pd_lt hf eF7
  clear eF7
  refine pd_aload_n (i := 0) dX12_undo_5 rfl rfl ?_
  refine pd_get (x := pd_I (F7 x0 41)) 41 dX12_undo_6 (show vwCl[12]? = some (RX12, TX12, 52) from rfl) pin_12 (by decide) pq_892 hg6 rfl ?_
  refine pd_if_ne (tgt := 14) dX12_undo_9 (by decide) (fun hc => ?_) (fun hc => ?_)
  · have hf := pd_ip hf hc
    refine pd_aload_n (i := 0) dX12_undo_14 rfl rfl ?_
    refine pd_dup dX12_undo_15 rfl ?_
    refine pd_get (x := pd_I (F7 x0 41)) 41 dX12_undo_16 (show vwCl[12]? = some (RX12, TX12, 52) from rfl) pin_12 (by decide) pq_892 hg6 rfl ?_
    refine pd_iconst dX12_undo_19 (by decide) ?_
    refine pd_isub dX12_undo_20 ?_
    refine pd_put (n := (pd_w ((F7 x0 41) - 1))) (x := pd_I (pd_w ((F7 x0 41) - 1))) 41 dX12_undo_21 (show vwCl[12]? = some (RX12, TX12, 52) from rfl) pin_12 tyX12_ok nmX12 (by decide) pq_892 rfl hg6 rfl pd_nrI pd_ftI ?_
    refine pd_topF (fun F8 eF8 => ?_)
    have hf := pd_lt hf eF8
    clear eF8
    refine pd_iconst dX12_undo_24 (by decide) ?_
    refine pd_istore_n (L' := [pd_R x0, pd_I 0]) dX12_undo_25 rfl (by decide) rfl ?_
    exact pd_weak (L' := [pd_R x0, pd_I 0]) ⟨Or.inr rfl, Or.inr rfl, trivial⟩ (pkX12_undo_b26 E l n _ _ _ hf)
  · have hf := pd_iq hf hc
    refine pd_iconst dX12_undo_12 (by decide) ?_
    obtain ⟨h1, h2⟩ := pd_inj hf
    subst h1 h2
    exact pd_iret dX12_undo_13 rfl (Nat.le_refl 0) (Nat.le_refl 0)
set_option maxHeartbeats 4000000 in
set_option maxRecDepth 100000 in
theorem pkX12_count (l : Launch) {sh : pd_S} {n : Nat} {F : pd_F} {x0 : Int} {x1 : Int} {ρ : Int} {Fz : pd_F} (hf : pfX12_count sh n F x0 x1 = some (ρ, Fz)) : pd_C l yX12_count (Cond.code yX12_count cX12_count 2 (some .int) :: pd_gt) (pd_rm 1 0 0) false 0 0 sh F [pd_R x0, pd_I x1] (some (pd_I ρ)) sh Fz := by
  unfold pfX12_count at hf
  refine pd_body (L := [pd_R x0, pd_I x1]) (by decide +kernel) (Nat.le_of_ble_eq_true rfl) rfl (fun E => ?_)
  refine pd_aload_n (i := 0) dX12_count_0 rfl rfl ?_
  refine pd_iconst dX12_count_1 (by decide) ?_
  obtain ⟨hg1, hf⟩ := pd_ig hf
  refine pd_put (n := 0) (x := pd_I 0) 0 dX12_count_2 (show vwCl[12]? = some (RX12, TX12, 52) from rfl) pin_12 tyX12_ok nmX12 (by decide) pq_704 rfl hg1 rfl pd_nrI pd_ftI ?_
  refine pd_topF (fun F2 eF2 => ?_)
  have hf := pd_lt hf eF2
  clear eF2
  refine pd_iload_n (i := 1) dX12_count_5 rfl rfl ?_
  by_cases hv0 : x1 = 0
  · have hf := pd_ip hf hv0
    refine pd_tabE (v := 0) (off := 62) (tgt := 68) dX12_count_6 hv0 (by decide) (by decide) (by decide) (by decide) ?_
    refine pd_aload_n (i := 0) dX12_count_68 rfl rfl ?_
    refine pd_get (x := pd_R (F2 x0 14)) 14 dX12_count_69 (show vwCl[12]? = some (RX12, TX12, 52) from rfl) pin_12 (by decide) pq_712 hg1 rfl ?_
    refine pd_iconst dX12_count_72 (by decide) ?_
    obtain ⟨hg3, hf⟩ := pd_ig hf
    refine pd_iald dX12_count_73 hg3 ?_
    obtain ⟨h1, h2⟩ := pd_inj hf
    subst h1 h2
    exact pd_iret dX12_count_74 rfl (Nat.le_refl 0) (Nat.le_refl 0)
  · have hf := pd_in_ hf hv0
    by_cases hv1 : x1 = 1
    · have hf := pd_ip hf hv1
      refine pd_tabE (v := 1) (off := 69) (tgt := 75) dX12_count_6 hv1 (by decide) (by decide) (by decide) (by decide) ?_
      refine pd_aload_n (i := 0) dX12_count_75 rfl rfl ?_
      refine pd_get (x := pd_R (F2 x0 15)) 15 dX12_count_76 (show vwCl[12]? = some (RX12, TX12, 52) from rfl) pin_12 (by decide) pq_715 hg1 rfl ?_
      refine pd_iconst dX12_count_79 (by decide) ?_
      obtain ⟨hg4, hf⟩ := pd_ig hf
      refine pd_iald dX12_count_80 hg4 ?_
      obtain ⟨h1, h2⟩ := pd_inj hf
      subst h1 h2
      exact pd_iret dX12_count_81 rfl (Nat.le_refl 0) (Nat.le_refl 0)
    · have hf := pd_in_ hf hv1
      by_cases hv2 : x1 = 2
      · have hf := pd_ip hf hv2
        refine pd_tabE (v := 2) (off := 76) (tgt := 82) dX12_count_6 hv2 (by decide) (by decide) (by decide) (by decide) ?_
        refine pd_aload_n (i := 0) dX12_count_82 rfl rfl ?_
        refine pd_get (x := pd_R (F2 x0 16)) 16 dX12_count_83 (show vwCl[12]? = some (RX12, TX12, 52) from rfl) pin_12 (by decide) pq_717 hg1 rfl ?_
        refine pd_iconst dX12_count_86 (by decide) ?_
        obtain ⟨hg5, hf⟩ := pd_ig hf
        refine pd_iald dX12_count_87 hg5 ?_
        obtain ⟨h1, h2⟩ := pd_inj hf
        subst h1 h2
        exact pd_iret dX12_count_88 rfl (Nat.le_refl 0) (Nat.le_refl 0)
      · have hf := pd_in_ hf hv2
        by_cases hv3 : x1 = 3
        · have hf := pd_ip hf hv3
          refine pd_tabE (v := 3) (off := 83) (tgt := 89) dX12_count_6 hv3 (by decide) (by decide) (by decide) (by decide) ?_
          refine pd_aload_n (i := 0) dX12_count_89 rfl rfl ?_
          refine pd_get (x := pd_R (F2 x0 17)) 17 dX12_count_90 (show vwCl[12]? = some (RX12, TX12, 52) from rfl) pin_12 (by decide) pq_810 hg1 rfl ?_
          refine pd_iconst dX12_count_93 (by decide) ?_
          obtain ⟨hg6, hf⟩ := pd_ig hf
          refine pd_iald dX12_count_94 hg6 ?_
          obtain ⟨h1, h2⟩ := pd_inj hf
          subst h1 h2
          exact pd_iret dX12_count_95 rfl (Nat.le_refl 0) (Nat.le_refl 0)
        · have hf := pd_in_ hf hv3
          by_cases hv4 : x1 = 4
          · have hf := pd_ip hf hv4
            refine pd_tabE (v := 4) (off := 90) (tgt := 96) dX12_count_6 hv4 (by decide) (by decide) (by decide) (by decide) ?_
            refine pd_aload_n (i := 0) dX12_count_96 rfl rfl ?_
            refine pd_get (x := pd_R (F2 x0 18)) 18 dX12_count_97 (show vwCl[12]? = some (RX12, TX12, 52) from rfl) pin_12 (by decide) pq_820 hg1 rfl ?_
            refine pd_iconst dX12_count_100 (by decide) ?_
            obtain ⟨hg7, hf⟩ := pd_ig hf
            refine pd_iald dX12_count_101 hg7 ?_
            obtain ⟨h1, h2⟩ := pd_inj hf
            subst h1 h2
            exact pd_iret dX12_count_102 rfl (Nat.le_refl 0) (Nat.le_refl 0)
          · have hf := pd_in_ hf hv4
            by_cases hv5 : x1 = 5
            · have hf := pd_ip hf hv5
              refine pd_tabE (v := 5) (off := 97) (tgt := 103) dX12_count_6 hv5 (by decide) (by decide) (by decide) (by decide) ?_
              refine pd_aload_n (i := 0) dX12_count_103 rfl rfl ?_
              refine pd_get (x := pd_R (F2 x0 39)) 39 dX12_count_104 (show vwCl[12]? = some (RX12, TX12, 52) from rfl) pin_12 (by decide) pq_877 hg1 rfl ?_
              refine pd_bipush dX12_count_107 (by decide) ?_
              obtain ⟨hg8, hf⟩ := pd_ig hf
              refine pd_iald dX12_count_109 hg8 ?_
              obtain ⟨h1, h2⟩ := pd_inj hf
              subst h1 h2
              exact pd_iret dX12_count_110 rfl (Nat.le_refl 0) (Nat.le_refl 0)
            · have hf := pd_in_ hf hv5
              by_cases hv6 : x1 = 6
              · have hf := pd_ip hf hv6
                refine pd_tabE (v := 6) (off := 105) (tgt := 111) dX12_count_6 hv6 (by decide) (by decide) (by decide) (by decide) ?_
                refine pd_aload_n (i := 0) dX12_count_111 rfl rfl ?_
                refine pd_get (x := pd_R (F2 x0 39)) 39 dX12_count_112 (show vwCl[12]? = some (RX12, TX12, 52) from rfl) pin_12 (by decide) pq_877 hg1 rfl ?_
                refine pd_bipush dX12_count_115 (by decide) ?_
                obtain ⟨hg9, hf⟩ := pd_ig hf
                refine pd_iald dX12_count_117 hg9 ?_
                obtain ⟨h1, h2⟩ := pd_inj hf
                subst h1 h2
                exact pd_iret dX12_count_118 rfl (Nat.le_refl 0) (Nat.le_refl 0)
              · have hf := pd_in_ hf hv6
                by_cases hv7 : x1 = 7
                · have hf := pd_ip hf hv7
                  refine pd_tabE (v := 7) (off := 113) (tgt := 119) dX12_count_6 hv7 (by decide) (by decide) (by decide) (by decide) ?_
                  refine pd_aload_n (i := 0) dX12_count_119 rfl rfl ?_
                  refine pd_get (x := pd_R (F2 x0 39)) 39 dX12_count_120 (show vwCl[12]? = some (RX12, TX12, 52) from rfl) pin_12 (by decide) pq_877 hg1 rfl ?_
                  refine pd_bipush dX12_count_123 (by decide) ?_
                  obtain ⟨hg10, hf⟩ := pd_ig hf
                  refine pd_iald dX12_count_125 hg10 ?_
                  obtain ⟨h1, h2⟩ := pd_inj hf
                  subst h1 h2
                  exact pd_iret dX12_count_126 rfl (Nat.le_refl 0) (Nat.le_refl 0)
                · have hf := pd_in_ hf hv7
                  by_cases hv8 : x1 = 8
                  · have hf := pd_ip hf hv8
                    refine pd_tabE (v := 8) (off := 121) (tgt := 127) dX12_count_6 hv8 (by decide) (by decide) (by decide) (by decide) ?_
                    refine pd_aload_n (i := 0) dX12_count_127 rfl rfl ?_
                    refine pd_get (x := pd_R (F2 x0 39)) 39 dX12_count_128 (show vwCl[12]? = some (RX12, TX12, 52) from rfl) pin_12 (by decide) pq_877 hg1 rfl ?_
                    refine pd_bipush dX12_count_131 (by decide) ?_
                    obtain ⟨hg11, hf⟩ := pd_ig hf
                    refine pd_iald dX12_count_133 hg11 ?_
                    obtain ⟨h1, h2⟩ := pd_inj hf
                    subst h1 h2
                    exact pd_iret dX12_count_134 rfl (Nat.le_refl 0) (Nat.le_refl 0)
                  · have hf := pd_in_ hf hv8
                    by_cases hv9 : x1 = 9
                    · have hf := pd_ip hf hv9
                      refine pd_tabE (v := 9) (off := 129) (tgt := 135) dX12_count_6 hv9 (by decide) (by decide) (by decide) (by decide) ?_
                      refine pd_aload_n (i := 0) dX12_count_135 rfl rfl ?_
                      refine pd_get (x := pd_R (F2 x0 39)) 39 dX12_count_136 (show vwCl[12]? = some (RX12, TX12, 52) from rfl) pin_12 (by decide) pq_877 hg1 rfl ?_
                      refine pd_bipush dX12_count_139 (by decide) ?_
                      obtain ⟨hg12, hf⟩ := pd_ig hf
                      refine pd_iald dX12_count_141 hg12 ?_
                      obtain ⟨h1, h2⟩ := pd_inj hf
                      subst h1 h2
                      exact pd_iret dX12_count_142 rfl (Nat.le_refl 0) (Nat.le_refl 0)
                    · have hf := pd_in_ hf hv9
                      by_cases hv10 : x1 = 10
                      · have hf := pd_ip hf hv10
                        refine pd_tabE (v := 10) (off := 137) (tgt := 143) dX12_count_6 hv10 (by decide) (by decide) (by decide) (by decide) ?_
                        refine pd_aload_n (i := 0) dX12_count_143 rfl rfl ?_
                        refine pd_get (x := pd_I (F2 x0 41)) 41 dX12_count_144 (show vwCl[12]? = some (RX12, TX12, 52) from rfl) pin_12 (by decide) pq_892 hg1 rfl ?_
                        obtain ⟨h1, h2⟩ := pd_inj hf
                        subst h1 h2
                        exact pd_iret dX12_count_147 rfl (Nat.le_refl 0) (Nat.le_refl 0)
                      · have hf := pd_in_ hf hv10
                        by_cases hv11 : x1 = 11
                        · have hf := pd_ip hf hv11
                          refine pd_tabE (v := 11) (off := 142) (tgt := 148) dX12_count_6 hv11 (by decide) (by decide) (by decide) (by decide) ?_
                          refine pd_aload_n (i := 0) dX12_count_148 rfl rfl ?_
                          refine pd_get (x := pd_I (F2 x0 2)) 2 dX12_count_149 (show vwCl[12]? = some (RX12, TX12, 52) from rfl) pin_12 (by decide) pq_706 hg1 rfl ?_
                          obtain ⟨h1, h2⟩ := pd_inj hf
                          subst h1 h2
                          exact pd_iret dX12_count_152 rfl (Nat.le_refl 0) (Nat.le_refl 0)
                        · have hf := pd_in_ hf hv11
                          refine pd_tabO (tgt := 153) dX12_count_6 (by omega) (by decide) ?_
                          refine pd_iconst dX12_count_153 (by decide) ?_
                          obtain ⟨h1, h2⟩ := pd_inj hf
                          subst h1 h2
                          exact pd_iret dX12_count_154 rfl (Nat.le_refl 0) (Nat.le_refl 0)
set_option maxHeartbeats 4000000 in
set_option maxRecDepth 100000 in
theorem pkX12_isPerson (l : Launch) {sh : pd_S} {n : Nat} {F : pd_F} {x0 : Int} {x1 : Int} {ρ : Int} {Fz : pd_F} (hf : pfX12_isPerson sh n F x0 x1 = some (ρ, Fz)) : pd_C l yX12_isPerson (Cond.code yX12_isPerson cX12_isPerson 2 (some .boolean) :: pd_gt) (pd_rm 2 0 0) false 0 0 sh F [pd_R x0, pd_I x1] (some (pd_I ρ)) sh Fz := by
  unfold pfX12_isPerson at hf
  refine pd_body (L := [pd_R x0, pd_I x1]) (by decide +kernel) (Nat.le_of_ble_eq_true rfl) rfl (fun E => ?_)
  refine pd_iload_n (i := 1) dX12_isPerson_0 rfl rfl ?_
  refine pd_i2l dX12_isPerson_1 ?_
  refine pd_lconst (x := 0) dX12_isPerson_2 (by decide) ?_
  refine pd_aload_n (i := 0) dX12_isPerson_3 rfl rfl ?_
  obtain ⟨hg1, hf⟩ := pd_ig hf
  refine pd_get (x := pd_R (F x0 14)) 14 dX12_isPerson_4 (show vwCl[12]? = some (RX12, TX12, 52) from rfl) pin_12 (by decide) pq_712 hg1 rfl ?_
  refine pd_iconst dX12_isPerson_7 (by decide) ?_
  obtain ⟨hg2, hf⟩ := pd_ig hf
  refine pd_iald dX12_isPerson_8 hg2 ?_
  refine pd_iconst dX12_isPerson_9 (by decide) ?_
  refine pd_isub dX12_isPerson_10 ?_
  refine pd_i2l dX12_isPerson_11 ?_
  obtain ⟨r4, F3, hr, hf⟩ := pd_ob2 hf
  refine pd_callS (pkX12_within l hr) dX12_isPerson_12 pq_738 pq_741 (pd_okm (by omega) (by decide) pq_739 pq_740 (by decide) (show (parseMethodDescriptor yX12_within.desc).map (fun d => d.parameters.length) = some 3 from by decide +kernel)) (Nat.le_of_ble_eq_true rfl) rfl ?_
  obtain ⟨hg5, hf⟩ := pd_ig hf
  obtain ⟨h1, h2⟩ := pd_inj hf
  subst h1 h2
  exact pd_zret dX12_isPerson_15 rfl hg5 (Nat.le_refl 0) (Nat.le_refl 0)
set_option maxHeartbeats 4000000 in
set_option maxRecDepth 100000 in
theorem pkX12_isAccount (l : Launch) {sh : pd_S} {n : Nat} {F : pd_F} {x0 : Int} {x1 : Int} {ρ : Int} {Fz : pd_F} (hf : pfX12_isAccount sh n F x0 x1 = some (ρ, Fz)) : pd_C l yX12_isAccount (Cond.code yX12_isAccount cX12_isAccount 2 (some .boolean) :: pd_gt) (pd_rm 2 0 0) false 0 0 sh F [pd_R x0, pd_I x1] (some (pd_I ρ)) sh Fz := by
  unfold pfX12_isAccount at hf
  refine pd_body (L := [pd_R x0, pd_I x1]) (by decide +kernel) (Nat.le_of_ble_eq_true rfl) rfl (fun E => ?_)
  refine pd_iload_n (i := 1) dX12_isAccount_0 rfl rfl ?_
  refine pd_i2l dX12_isAccount_1 ?_
  refine pd_lconst (x := 0) dX12_isAccount_2 (by decide) ?_
  refine pd_aload_n (i := 0) dX12_isAccount_3 rfl rfl ?_
  obtain ⟨hg1, hf⟩ := pd_ig hf
  refine pd_get (x := pd_R (F x0 16)) 16 dX12_isAccount_4 (show vwCl[12]? = some (RX12, TX12, 52) from rfl) pin_12 (by decide) pq_717 hg1 rfl ?_
  refine pd_iconst dX12_isAccount_7 (by decide) ?_
  obtain ⟨hg2, hf⟩ := pd_ig hf
  refine pd_iald dX12_isAccount_8 hg2 ?_
  refine pd_iconst dX12_isAccount_9 (by decide) ?_
  refine pd_isub dX12_isAccount_10 ?_
  refine pd_i2l dX12_isAccount_11 ?_
  obtain ⟨r4, F3, hr, hf⟩ := pd_ob2 hf
  refine pd_callS (pkX12_within l hr) dX12_isAccount_12 pq_738 pq_741 (pd_okm (by omega) (by decide) pq_739 pq_740 (by decide) (show (parseMethodDescriptor yX12_within.desc).map (fun d => d.parameters.length) = some 3 from by decide +kernel)) (Nat.le_of_ble_eq_true rfl) rfl ?_
  obtain ⟨hg5, hf⟩ := pd_ig hf
  obtain ⟨h1, h2⟩ := pd_inj hf
  subst h1 h2
  exact pd_zret dX12_isAccount_15 rfl hg5 (Nat.le_refl 0) (Nat.le_refl 0)
set_option maxHeartbeats 4000000 in
set_option maxRecDepth 100000 in
theorem pkX12_haveMark_b49 (E : pd_E) (l : Launch) {sh : pd_S} {n : Nat} {ρ : Int} {Fz : pd_F} {c2 : pd_F → Int → Int → Int → Int → Option (Int × pd_F)} (hL2 : ∀ (F : pd_F) (x0 : Int) (x1 : Int) (x2 : Int) (x3 : Int), c2 F x0 x1 x2 x3 = some (ρ, Fz) → pd_V E l (pd_rm 2 0 0) (RX12, cX12_haveMark, 4, (some .boolean), "haveMark") (pd_Qm E false (some (pd_I ρ)) sh Fz 0 0) false 0 0 sh F 2 [pd_R x0, pd_I x1, pd_I x2, pd_I x3] []) (F : pd_F) (x0 : Int) (x1 : Int) (x2 : Int) (x3 : Int) (hf : pfX12_haveMark_b49 sh n c2 F x0 x1 x2 x3 = some (ρ, Fz)) : pd_V E l (pd_rm 2 0 0) (RX12, cX12_haveMark, 4, (some .boolean), "haveMark") (pd_Qm E false (some (pd_I ρ)) sh Fz 0 0) false 0 0 sh F 49 [pd_R x0, pd_I x1, pd_I x2, pd_I x3] [] := by
  unfold pfX12_haveMark_b49 at hf
  refine pd_iincN (L' := fun y => [pd_R x0, pd_I x1, pd_I x2, pd_I y]) dX12_haveMark_49 rfl (by decide) (by decide) (fun _ => rfl) (fun x3_49 ex3_49 => ?_)
  have hf := pd_lt hf ex3_49
  clear ex3_49
  refine pd_goto (tgt := 2) dX12_haveMark_52 (by decide) ?_
  exact pd_weak (L' := [pd_R x0, pd_I x1, pd_I x2, pd_I x3_49]) ⟨Or.inr rfl, Or.inr rfl, Or.inr rfl, Or.inr rfl, trivial⟩ (hL2 _ _ _ _ _ hf)
set_option maxHeartbeats 4000000 in
set_option maxRecDepth 100000 in
theorem pkX12_haveMark_b2 (E : pd_E) (l : Launch) {sh : pd_S} {n : Nat} {ρ : Int} {Fz : pd_F}  : ∀ (k : Nat) (F : pd_F) (x0 : Int) (x1 : Int) (x2 : Int) (x3 : Int), pfX12_haveMark_b2 sh n  k F x0 x1 x2 x3 = some (ρ, Fz) → pd_V E l (pd_rm 2 0 0) (RX12, cX12_haveMark, 4, (some .boolean), "haveMark") (pd_Qm E false (some (pd_I ρ)) sh Fz 0 0) false 0 0 sh F 2 [pd_R x0, pd_I x1, pd_I x2, pd_I x3] [] := by
  intro k
  induction k with
  | zero => intro F x0 x1 x2 x3 hf; exact absurd hf (by unfold pfX12_haveMark_b2; exact fun h => nomatch h)
  | succ k ih =>
    intro F x0 x1 x2 x3 hf
    unfold pfX12_haveMark_b2 at hf
    refine pd_iload_n (i := 3) dX12_haveMark_2 rfl rfl ?_
    refine pd_aload_n (i := 0) dX12_haveMark_3 rfl rfl ?_
    obtain ⟨hg1, hf⟩ := pd_ig hf
    refine pd_get (x := pd_R (F x0 20)) 20 dX12_haveMark_4 (show vwCl[12]? = some (RX12, TX12, 52) from rfl) pin_12 (by decide) pq_719 hg1 rfl ?_
    refine pd_iload_n (i := 1) dX12_haveMark_7 rfl rfl ?_
    obtain ⟨hg2, hf⟩ := pd_ig hf
    refine pd_iald dX12_haveMark_8 hg2 ?_
    refine pd_icmp_ge (tgt := 55) dX12_haveMark_9 (by decide) (fun hc => ?_) (fun hc => ?_)
    · have hf := pd_ip hf hc
      refine pd_iconst dX12_haveMark_55 (by decide) ?_
      obtain ⟨h1, h2⟩ := pd_inj hf
      subst h1 h2
      exact pd_zret dX12_haveMark_56 rfl (by decide) (Nat.le_refl 0) (Nat.le_refl 0)
    · have hf := pd_in_ hf hc
      refine pd_aload_n (i := 0) dX12_haveMark_12 rfl rfl ?_
      refine pd_iload_n (i := 2) dX12_haveMark_13 rfl rfl ?_
      refine pd_aload_n (i := 0) dX12_haveMark_14 rfl rfl ?_
      refine pd_get (x := pd_R (F x0 21)) 21 dX12_haveMark_15 (show vwCl[12]? = some (RX12, TX12, 52) from rfl) pin_12 (by decide) pq_720 hg1 rfl ?_
      refine pd_iconst dX12_haveMark_18 (by decide) ?_
      refine pd_iload_n (i := 1) dX12_haveMark_19 rfl rfl ?_
      refine pd_imul dX12_haveMark_20 ?_
      refine pd_iload_n (i := 3) dX12_haveMark_21 rfl rfl ?_
      refine pd_iadd dX12_haveMark_22 ?_
      obtain ⟨hg3, hf⟩ := pd_ig hf
      refine pd_iald dX12_haveMark_23 hg3 ?_
      obtain ⟨r5, F4, hr, hf⟩ := pd_ob2 hf
      refine pd_callV (pkX12_hasMark l hr) dX12_haveMark_24 pq_826 pq_829 pq_830 (show vwCl[12]? = some (yX12_hasMark.cls, TX12, 52) from rfl) hg1 (pd_okm (by omega) (by decide) pq_827 pq_828 (by decide) (show (parseMethodDescriptor yX12_hasMark.desc).map (fun d => d.parameters.length) = some 2 from by decide +kernel)) (Nat.le_of_ble_eq_true rfl) rfl ?_
      refine pd_if_eq (tgt := 49) dX12_haveMark_27 (by decide) (fun hc => ?_) (fun hc => ?_)
      · have hf := pd_ip hf hc
        exact pd_weak (L' := [pd_R x0, pd_I x1, pd_I x2, pd_I x3]) ⟨Or.inr rfl, Or.inr rfl, Or.inr rfl, Or.inr rfl, trivial⟩ (pkX12_haveMark_b49 E l ih _ _ _ _ _ hf)
      · have hf := pd_in_ hf hc
        refine pd_aload_n (i := 0) dX12_haveMark_30 rfl rfl ?_
        refine pd_aload_n (i := 0) dX12_haveMark_31 rfl rfl ?_
        refine pd_get (x := pd_R (F4 x0 21)) 21 dX12_haveMark_32 (show vwCl[12]? = some (RX12, TX12, 52) from rfl) pin_12 (by decide) pq_720 hg1 rfl ?_
        refine pd_iconst dX12_haveMark_35 (by decide) ?_
        refine pd_iload_n (i := 1) dX12_haveMark_36 rfl rfl ?_
        refine pd_imul dX12_haveMark_37 ?_
        refine pd_iload_n (i := 3) dX12_haveMark_38 rfl rfl ?_
        refine pd_iadd dX12_haveMark_39 ?_
        obtain ⟨hg6, hf⟩ := pd_ig hf
        refine pd_iald dX12_haveMark_40 hg6 ?_
        obtain ⟨r8, F7, hr, hf⟩ := pd_ob2 hf
        refine pd_callV (pkX12_isOut l hr) dX12_haveMark_41 pq_899 pq_902 pq_903 (show vwCl[12]? = some (yX12_isOut.cls, TX12, 52) from rfl) hg1 (pd_okm (by omega) (by decide) pq_900 pq_901 (by decide) (show (parseMethodDescriptor yX12_isOut.desc).map (fun d => d.parameters.length) = some 1 from by decide +kernel)) (Nat.le_of_ble_eq_true rfl) rfl ?_
        refine pd_if_ne (tgt := 49) dX12_haveMark_44 (by decide) (fun hc => ?_) (fun hc => ?_)
        · have hf := pd_ip hf hc
          exact pd_weak (L' := [pd_R x0, pd_I x1, pd_I x2, pd_I x3]) ⟨Or.inr rfl, Or.inr rfl, Or.inr rfl, Or.inr rfl, trivial⟩ (pkX12_haveMark_b49 E l ih _ _ _ _ _ hf)
        · have hf := pd_iq hf hc
          refine pd_iconst dX12_haveMark_47 (by decide) ?_
          obtain ⟨h1, h2⟩ := pd_inj hf
          subst h1 h2
          exact pd_zret dX12_haveMark_48 rfl (by decide) (Nat.le_refl 0) (Nat.le_refl 0)
set_option maxHeartbeats 4000000 in
set_option maxRecDepth 100000 in
theorem pkX12_haveMark (l : Launch) {sh : pd_S} {n : Nat} {F : pd_F} {x0 : Int} {x1 : Int} {x2 : Int} {ρ : Int} {Fz : pd_F} (hf : pfX12_haveMark sh n F x0 x1 x2 = some (ρ, Fz)) : pd_C l yX12_haveMark (Cond.code yX12_haveMark cX12_haveMark 4 (some .boolean) :: pd_gt) (pd_rm 2 0 0) false 0 0 sh F [pd_R x0, pd_I x1, pd_I x2] (some (pd_I ρ)) sh Fz := by
  unfold pfX12_haveMark at hf
  refine pd_body (L := [pd_R x0, pd_I x1, pd_I x2, pd_N]) (by decide +kernel) (Nat.le_of_ble_eq_true rfl) rfl (fun E => ?_)
  refine pd_iconst dX12_haveMark_0 (by decide) ?_
  refine pd_istore_n (L' := [pd_R x0, pd_I x1, pd_I x2, pd_I 0]) dX12_haveMark_1 rfl (by decide) rfl ?_
  exact pd_weak (L' := [pd_R x0, pd_I x1, pd_I x2, pd_I 0]) ⟨Or.inr rfl, Or.inr rfl, Or.inr rfl, Or.inr rfl, trivial⟩ (pkX12_haveMark_b2 E l n _ _ _ _ _ hf)
set_option maxHeartbeats 4000000 in
set_option maxRecDepth 100000 in
theorem pkX12_net (l : Launch) {sh : pd_S} {n : Nat} {F : pd_F} {x0 : Int} {x1 : Int} {ρ : Int} {Fz : pd_F} (hf : pfX12_net sh n F x0 x1 = some (ρ, Fz)) : pd_C l yX12_net (Cond.code yX12_net cX12_net 2 (some .long) :: pd_gt) (pd_rm 2 0 0) false 0 0 sh F [pd_R x0, pd_I x1] (some (pd_J ρ)) sh Fz := by
  unfold pfX12_net at hf
  refine pd_body (L := [pd_R x0, pd_I x1]) (by decide +kernel) (Nat.le_of_ble_eq_true rfl) rfl (fun E => ?_)
  refine pd_aload_n (i := 0) dX12_net_0 rfl rfl ?_
  obtain ⟨hg1, hf⟩ := pd_ig hf
  refine pd_get (x := pd_R (F x0 48)) 48 dX12_net_1 (show vwCl[12]? = some (RX12, TX12, 52) from rfl) pin_12 (by decide) pq_895 hg1 rfl ?_
  refine pd_iload_n (i := 1) dX12_net_4 rfl rfl ?_
  obtain ⟨hg2, hf⟩ := pd_ig hf
  refine pd_lald dX12_net_5 hg2 ?_
  refine pd_aload_n (i := 0) dX12_net_6 rfl rfl ?_
  refine pd_iload_n (i := 1) dX12_net_7 rfl rfl ?_
  obtain ⟨r4, F3, hr, hf⟩ := pd_ob2 hf
  refine pd_callV (pkX12_setOff l hr) dX12_net_8 pq_904 pq_907 pq_908 (show vwCl[12]? = some (yX12_setOff.cls, TX12, 52) from rfl) hg1 (pd_okm (by omega) (by decide) pq_905 pq_906 (by decide) (show (parseMethodDescriptor yX12_setOff.desc).map (fun d => d.parameters.length) = some 1 from by decide +kernel)) (Nat.le_of_ble_eq_true rfl) rfl ?_
  refine pd_lsub dX12_net_11 ?_
  obtain ⟨h1, h2⟩ := pd_inj hf
  subst h1 h2
  exact pd_lret dX12_net_12 rfl (Nat.le_refl 0) (Nat.le_refl 0)
set_option maxHeartbeats 4000000 in
set_option maxRecDepth 100000 in
theorem pkX12_isMark_b2 (E : pd_E) (l : Launch) {sh : pd_S} {n : Nat} {ρ : Int} {Fz : pd_F}  : ∀ (k : Nat) (F : pd_F) (x0 : Int) (x1 : Int) (x2 : Int), pfX12_isMark_b2 sh n  k F x0 x1 x2 = some (ρ, Fz) → pd_V E l (pd_rm 2 0 0) (RX12, cX12_isMark, 3, (some .boolean), "isMark") (pd_Qm E false (some (pd_I ρ)) sh Fz 0 0) false 0 0 sh F 2 [pd_R x0, pd_I x1, pd_I x2] [] := by
  intro k
  induction k with
  | zero => intro F x0 x1 x2 hf; exact absurd hf (by unfold pfX12_isMark_b2; exact fun h => nomatch h)
  | succ k ih =>
    intro F x0 x1 x2 hf
    unfold pfX12_isMark_b2 at hf
    refine pd_iload_n (i := 2) dX12_isMark_2 rfl rfl ?_
    refine pd_aload_n (i := 0) dX12_isMark_3 rfl rfl ?_
    obtain ⟨hg1, hf⟩ := pd_ig hf
    refine pd_get (x := pd_R (F x0 14)) 14 dX12_isMark_4 (show vwCl[12]? = some (RX12, TX12, 52) from rfl) pin_12 (by decide) pq_712 hg1 rfl ?_
    refine pd_iconst dX12_isMark_7 (by decide) ?_
    obtain ⟨hg2, hf⟩ := pd_ig hf
    refine pd_iald dX12_isMark_8 hg2 ?_
    refine pd_icmp_ge (tgt := 29) dX12_isMark_9 (by decide) (fun hc => ?_) (fun hc => ?_)
    · have hf := pd_ip hf hc
      refine pd_iconst dX12_isMark_29 (by decide) ?_
      obtain ⟨h1, h2⟩ := pd_inj hf
      subst h1 h2
      exact pd_zret dX12_isMark_30 rfl (by decide) (Nat.le_refl 0) (Nat.le_refl 0)
    · have hf := pd_in_ hf hc
      refine pd_aload_n (i := 0) dX12_isMark_12 rfl rfl ?_
      refine pd_iload_n (i := 2) dX12_isMark_13 rfl rfl ?_
      refine pd_iload_n (i := 1) dX12_isMark_14 rfl rfl ?_
      obtain ⟨r4, F3, hr, hf⟩ := pd_ob2 hf
      refine pd_callV (pkX12_hasMark l hr) dX12_isMark_15 pq_826 pq_829 pq_830 (show vwCl[12]? = some (yX12_hasMark.cls, TX12, 52) from rfl) hg1 (pd_okm (by omega) (by decide) pq_827 pq_828 (by decide) (show (parseMethodDescriptor yX12_hasMark.desc).map (fun d => d.parameters.length) = some 2 from by decide +kernel)) (Nat.le_of_ble_eq_true rfl) rfl ?_
      refine pd_if_eq (tgt := 23) dX12_isMark_18 (by decide) (fun hc => ?_) (fun hc => ?_)
      · have hf := pd_ip hf hc
        refine pd_iincN (L' := fun y => [pd_R x0, pd_I x1, pd_I y]) dX12_isMark_23 rfl (by decide) (by decide) (fun _ => rfl) (fun x2_23 ex2_23 => ?_)
        have hf := pd_lt hf ex2_23
        clear ex2_23
        refine pd_goto (tgt := 2) dX12_isMark_26 (by decide) ?_
        exact pd_weak (L' := [pd_R x0, pd_I x1, pd_I x2_23]) ⟨Or.inr rfl, Or.inr rfl, Or.inr rfl, trivial⟩ (ih _ _ _ _ hf)
      · have hf := pd_in_ hf hc
        refine pd_iconst dX12_isMark_21 (by decide) ?_
        obtain ⟨h1, h2⟩ := pd_inj hf
        subst h1 h2
        exact pd_zret dX12_isMark_22 rfl (by decide) (Nat.le_refl 0) (Nat.le_refl 0)
set_option maxHeartbeats 4000000 in
set_option maxRecDepth 100000 in
theorem pkX12_isMark (l : Launch) {sh : pd_S} {n : Nat} {F : pd_F} {x0 : Int} {x1 : Int} {ρ : Int} {Fz : pd_F} (hf : pfX12_isMark sh n F x0 x1 = some (ρ, Fz)) : pd_C l yX12_isMark (Cond.code yX12_isMark cX12_isMark 3 (some .boolean) :: pd_gt) (pd_rm 2 0 0) false 0 0 sh F [pd_R x0, pd_I x1] (some (pd_I ρ)) sh Fz := by
  unfold pfX12_isMark at hf
  refine pd_body (L := [pd_R x0, pd_I x1, pd_N]) (by decide +kernel) (Nat.le_of_ble_eq_true rfl) rfl (fun E => ?_)
  refine pd_iconst dX12_isMark_0 (by decide) ?_
  refine pd_istore_n (L' := [pd_R x0, pd_I x1, pd_I 0]) dX12_isMark_1 rfl (by decide) rfl ?_
  exact pd_weak (L' := [pd_R x0, pd_I x1, pd_I 0]) ⟨Or.inr rfl, Or.inr rfl, Or.inr rfl, trivial⟩ (pkX12_isMark_b2 E l n _ _ _ _ hf)
set_option maxHeartbeats 4000000 in
set_option maxRecDepth 100000 in
theorem pkX12_marks_b77 (E : pd_E) (l : Launch) {sh : pd_S} {n : Nat} {Fz : pd_F}  : ∀ (k : Nat) (F : pd_F) (x0 : Int) (x4 : Int), pfX12_marks_b77 sh n  k F x0 x4 = some Fz → pd_V E l (pd_rm 2 0 0) (RX12, cX12_marks, 5, none, "marks") (pd_Qm E false none sh Fz 0 0) false 0 0 sh F 77 [pd_R x0, pd_N, pd_N, pd_N, pd_I x4] [] := by
  intro k
  induction k with
  | zero => intro F x0 x4 hf; exact absurd hf (by unfold pfX12_marks_b77; exact fun h => nomatch h)
  | succ k ih =>
    intro F x0 x4 hf
    unfold pfX12_marks_b77 at hf
    refine pd_iload (i := 4) dX12_marks_77 rfl ?_
    refine pd_aload_n (i := 0) dX12_marks_79 rfl rfl ?_
    obtain ⟨hg1, hf⟩ := pd_ig hf
    refine pd_get (x := pd_R (F x0 39)) 39 dX12_marks_80 (show vwCl[12]? = some (RX12, TX12, 52) from rfl) pin_12 (by decide) pq_877 hg1 rfl ?_
    refine pd_bipush dX12_marks_83 (by decide) ?_
    obtain ⟨hg2, hf⟩ := pd_ig hf
    refine pd_iald dX12_marks_85 hg2 ?_
    refine pd_icmp_ge (tgt := 117) dX12_marks_86 (by decide) (fun hc => ?_) (fun hc => ?_)
    · have hf := pd_ip hf hc
      obtain h2 := pd_inj1 hf
      subst h2
      exact pd_vret dX12_marks_117 rfl (Nat.le_refl 0) (Nat.le_refl 0)
    · have hf := pd_in_ hf hc
      refine pd_aload_n (i := 0) dX12_marks_89 rfl rfl ?_
      refine pd_get (x := pd_R (F x0 39)) 39 dX12_marks_90 (show vwCl[12]? = some (RX12, TX12, 52) from rfl) pin_12 (by decide) pq_877 hg1 rfl ?_
      refine pd_bipush dX12_marks_93 (by decide) ?_
      refine pd_iload (i := 4) dX12_marks_95 rfl ?_
      refine pd_iadd dX12_marks_97 ?_
      refine pd_aload_n (i := 0) dX12_marks_98 rfl rfl ?_
      refine pd_get (x := pd_R (F x0 39)) 39 dX12_marks_99 (show vwCl[12]? = some (RX12, TX12, 52) from rfl) pin_12 (by decide) pq_877 hg1 rfl ?_
      refine pd_bipush dX12_marks_102 (by decide) ?_
      refine pd_iload (i := 4) dX12_marks_104 rfl ?_
      refine pd_iadd dX12_marks_106 ?_
      refine pd_iconst dX12_marks_107 (by decide) ?_
      refine pd_iadd dX12_marks_108 ?_
      obtain ⟨hg3, hf⟩ := pd_ig hf
      refine pd_iald dX12_marks_109 hg3 ?_
      obtain ⟨hg4, hf⟩ := pd_ig hf
      refine pd_iast dX12_marks_110 hg4 ?_
      refine pd_topF (fun F5 eF5 => ?_)
      have hf := pd_lt hf eF5
      clear eF5
      refine pd_iincN (L' := fun y => [pd_R x0, pd_N, pd_N, pd_N, pd_I y]) dX12_marks_111 rfl (by decide) (by decide) (fun _ => rfl) (fun x4_111 ex4_111 => ?_)
      have hf := pd_lt hf ex4_111
      clear ex4_111
      refine pd_goto (tgt := 77) dX12_marks_114 (by decide) ?_
      exact pd_weak (L' := [pd_R x0, pd_N, pd_N, pd_N, pd_I x4_111]) ⟨Or.inr rfl, Or.inr rfl, Or.inr rfl, Or.inr rfl, Or.inr rfl, trivial⟩ (ih _ _ _ hf)
set_option maxHeartbeats 4000000 in
set_option maxRecDepth 100000 in
theorem pkX12_marks_b63 (E : pd_E) (l : Launch) {sh : pd_S} {n : Nat} {Fz : pd_F}  (F : pd_F) (x0 : Int) (x3 : Int) (hf : pfX12_marks_b63 sh n  F x0 x3 = some Fz) : pd_V E l (pd_rm 2 0 0) (RX12, cX12_marks, 5, none, "marks") (pd_Qm E false none sh Fz 0 0) false 0 0 sh F 63 [pd_R x0, pd_N, pd_N, pd_I x3, pd_N] [] := by
  unfold pfX12_marks_b63 at hf
  refine pd_aload_n (i := 0) dX12_marks_63 rfl rfl ?_
  obtain ⟨hg6, hf⟩ := pd_ig hf
  refine pd_get (x := pd_R (F x0 39)) 39 dX12_marks_64 (show vwCl[12]? = some (RX12, TX12, 52) from rfl) pin_12 (by decide) pq_877 hg6 rfl ?_
  refine pd_bipush dX12_marks_67 (by decide) ?_
  refine pd_dup2 dX12_marks_69 rfl rfl ?_
  obtain ⟨hg7, hf⟩ := pd_ig hf
  refine pd_iald dX12_marks_70 hg7 ?_
  refine pd_iconst dX12_marks_71 (by decide) ?_
  refine pd_isub dX12_marks_72 ?_
  refine pd_iast dX12_marks_73 hg7 ?_
  refine pd_topF (fun F8 eF8 => ?_)
  have hf := pd_lt hf eF8
  clear eF8
  refine pd_iload_n (i := 3) dX12_marks_74 rfl rfl ?_
  refine pd_istore (L' := [pd_R x0, pd_N, pd_N, pd_I x3, pd_I x3]) dX12_marks_75 (by decide) rfl ?_
  exact pd_weak (L' := [pd_R x0, pd_N, pd_N, pd_N, pd_I x3]) ⟨Or.inr rfl, Or.inr rfl, Or.inr rfl, Or.inl rfl, Or.inr rfl, trivial⟩ (pkX12_marks_b77 E l n _ _ _ hf)
set_option maxHeartbeats 4000000 in
set_option maxRecDepth 100000 in
theorem pkX12_marks_b44 (E : pd_E) (l : Launch) {sh : pd_S} {n : Nat} {Fz : pd_F}  : ∀ (k : Nat) (F : pd_F) (x0 : Int) (x1 : Int) (x3 : Int), pfX12_marks_b44 sh n  k F x0 x1 x3 = some Fz → pd_V E l (pd_rm 2 0 0) (RX12, cX12_marks, 5, none, "marks") (pd_Qm E false none sh Fz 0 0) false 0 0 sh F 44 [pd_R x0, pd_I x1, pd_N, pd_I x3, pd_N] [] := by
  intro k
  induction k with
  | zero => intro F x0 x1 x3 hf; exact absurd hf (by unfold pfX12_marks_b44; exact fun h => nomatch h)
  | succ k ih =>
    intro F x0 x1 x3 hf
    unfold pfX12_marks_b44 at hf
    refine pd_aload_n (i := 0) dX12_marks_44 rfl rfl ?_
    obtain ⟨hg9, hf⟩ := pd_ig hf
    refine pd_get (x := pd_R (F x0 39)) 39 dX12_marks_45 (show vwCl[12]? = some (RX12, TX12, 52) from rfl) pin_12 (by decide) pq_877 hg9 rfl ?_
    refine pd_bipush dX12_marks_48 (by decide) ?_
    refine pd_iload_n (i := 3) dX12_marks_50 rfl rfl ?_
    refine pd_iadd dX12_marks_51 ?_
    obtain ⟨hg10, hf⟩ := pd_ig hf
    refine pd_iald dX12_marks_52 hg10 ?_
    refine pd_iload_n (i := 1) dX12_marks_53 rfl rfl ?_
    refine pd_icmp_eq (tgt := 63) dX12_marks_54 (by decide) (fun hc => ?_) (fun hc => ?_)
    · have hf := pd_ip hf hc
      exact pd_weak (L' := [pd_R x0, pd_N, pd_N, pd_I x3, pd_N]) ⟨Or.inr rfl, Or.inl rfl, Or.inr rfl, Or.inr rfl, Or.inr rfl, trivial⟩ (pkX12_marks_b63 E l _ _ _ hf)
    · have hf := pd_in_ hf hc
      refine pd_iincN (L' := fun y => [pd_R x0, pd_I x1, pd_N, pd_I y, pd_N]) dX12_marks_57 rfl (by decide) (by decide) (fun _ => rfl) (fun x3_57 ex3_57 => ?_)
      have hf := pd_lt hf ex3_57
      clear ex3_57
      refine pd_goto (tgt := 44) dX12_marks_60 (by decide) ?_
      exact pd_weak (L' := [pd_R x0, pd_I x1, pd_N, pd_I x3_57, pd_N]) ⟨Or.inr rfl, Or.inr rfl, Or.inr rfl, Or.inr rfl, Or.inr rfl, trivial⟩ (ih _ _ _ _ hf)
set_option maxHeartbeats 4000000 in
set_option maxRecDepth 100000 in
theorem pkX12_marks (l : Launch) {sh : pd_S} {n : Nat} {F : pd_F} {x0 : Int} {x1 : Int} {x2 : Int} {Fz : pd_F} (hf : pfX12_marks sh n F x0 x1 x2 = some Fz) : pd_C l yX12_marks (Cond.code yX12_marks cX12_marks 5 none :: pd_gt) (pd_rm 2 0 0) false 0 0 sh F [pd_R x0, pd_I x1, pd_I x2] none sh Fz := by
  unfold pfX12_marks at hf
  refine pd_body (L := [pd_R x0, pd_I x1, pd_I x2, pd_N, pd_N]) (by decide +kernel) (Nat.le_of_ble_eq_true rfl) rfl (fun E => ?_)
  refine pd_aload_n (i := 0) dX12_marks_0 rfl rfl ?_
  refine pd_iload_n (i := 1) dX12_marks_1 rfl rfl ?_
  obtain ⟨hg13, hf⟩ := pd_ig hf
  obtain ⟨r12, F11, hr, hf⟩ := pd_ob2 hf
  refine pd_callV (pkX12_isOut l hr) dX12_marks_2 pq_899 pq_902 pq_903 (show vwCl[12]? = some (yX12_isOut.cls, TX12, 52) from rfl) hg13 (pd_okm (by omega) (by decide) pq_900 pq_901 (by decide) (show (parseMethodDescriptor yX12_isOut.desc).map (fun d => d.parameters.length) = some 1 from by decide +kernel)) (Nat.le_of_ble_eq_true rfl) rfl ?_
  refine pd_iload_n (i := 2) dX12_marks_5 rfl rfl ?_
  refine pd_icmp_ne (tgt := 10) dX12_marks_6 (by decide) (fun hc => ?_) (fun hc => ?_)
  · have hf := pd_ip hf hc
    refine pd_iload_n (i := 2) dX12_marks_10 rfl rfl ?_
    refine pd_if_eq (tgt := 42) dX12_marks_11 (by decide) (fun hc => ?_) (fun hc => ?_)
    · have hf := pd_ip hf hc
      refine pd_iconst dX12_marks_42 (by decide) ?_
      refine pd_istore_n (L' := [pd_R x0, pd_I x1, pd_I x2, pd_I 0, pd_N]) dX12_marks_43 rfl (by decide) rfl ?_
      exact pd_weak (L' := [pd_R x0, pd_I x1, pd_N, pd_I 0, pd_N]) ⟨Or.inr rfl, Or.inr rfl, Or.inl rfl, Or.inr rfl, Or.inr rfl, trivial⟩ (pkX12_marks_b44 E l n _ _ _ _ hf)
    · have hf := pd_in_ hf hc
      refine pd_aload_n (i := 0) dX12_marks_14 rfl rfl ?_
      refine pd_get (x := pd_R (F11 x0 39)) 39 dX12_marks_15 (show vwCl[12]? = some (RX12, TX12, 52) from rfl) pin_12 (by decide) pq_877 hg13 rfl ?_
      refine pd_bipush dX12_marks_18 (by decide) ?_
      refine pd_aload_n (i := 0) dX12_marks_20 rfl rfl ?_
      refine pd_get (x := pd_R (F11 x0 39)) 39 dX12_marks_21 (show vwCl[12]? = some (RX12, TX12, 52) from rfl) pin_12 (by decide) pq_877 hg13 rfl ?_
      refine pd_bipush dX12_marks_24 (by decide) ?_
      obtain ⟨hg14, hf⟩ := pd_ig hf
      refine pd_iald dX12_marks_26 hg14 ?_
      refine pd_iadd dX12_marks_27 ?_
      refine pd_iload_n (i := 1) dX12_marks_28 rfl rfl ?_
      obtain ⟨hg15, hf⟩ := pd_ig hf
      refine pd_iast dX12_marks_29 hg15 ?_
      refine pd_topF (fun F16 eF16 => ?_)
      have hf := pd_lt hf eF16
      clear eF16
      refine pd_aload_n (i := 0) dX12_marks_30 rfl rfl ?_
      refine pd_get (x := pd_R (F16 x0 39)) 39 dX12_marks_31 (show vwCl[12]? = some (RX12, TX12, 52) from rfl) pin_12 (by decide) pq_877 hg13 rfl ?_
      refine pd_bipush dX12_marks_34 (by decide) ?_
      refine pd_dup2 dX12_marks_36 rfl rfl ?_
      obtain ⟨hg17, hf⟩ := pd_ig hf
      refine pd_iald dX12_marks_37 hg17 ?_
      refine pd_iconst dX12_marks_38 (by decide) ?_
      refine pd_iadd dX12_marks_39 ?_
      refine pd_iast dX12_marks_40 hg17 ?_
      refine pd_topF (fun F18 eF18 => ?_)
      have hf := pd_lt hf eF18
      clear eF18
      obtain h2 := pd_inj1 hf
      subst h2
      exact pd_vret dX12_marks_41 rfl (Nat.le_refl 0) (Nat.le_refl 0)
  · have hf := pd_iq hf hc
    obtain h2 := pd_inj1 hf
    subst h2
    exact pd_vret dX12_marks_9 rfl (Nat.le_refl 0) (Nat.le_refl 0)
set_option maxHeartbeats 4000000 in
set_option maxRecDepth 100000 in
theorem pkX12_tell_b40 (E : pd_E) (l : Launch) {sh : pd_S} {n : Nat} {ρ : Int} {Fz : pd_F}  (F : pd_F) (x0 : Int) (x1 : Int) (x2 : Int) (t0 : Int) (t1 : Int) (t2 : Int) (hf : pfX12_tell_b40 sh n  F x0 x1 x2 t0 t1 t2 = some (ρ, Fz)) : pd_V E l (pd_rm 2 0 0) (RX12, cX12_tell, 4, (some .int), "tell") (pd_Qm E false (some (pd_I ρ)) sh Fz 0 0) false 0 0 sh F 40 [pd_R x0, pd_I x1, pd_I x2, pd_N] [pd_J t0, pd_J t1, pd_J t2] := by
  unfold pfX12_tell_b40 at hf
  obtain ⟨r2, F1, hr, hf⟩ := pd_ob2 hf
  refine pd_callS (pkX12_within l hr) dX12_tell_40 pq_738 pq_741 (pd_okm (by omega) (by decide) pq_739 pq_740 (by decide) (show (parseMethodDescriptor yX12_within.desc).map (fun d => d.parameters.length) = some 3 from by decide +kernel)) (Nat.le_of_ble_eq_true rfl) rfl ?_
  refine pd_if_ne (tgt := 48) dX12_tell_43 (by decide) (fun hc => ?_) (fun hc => ?_)
  · have hf := pd_ip hf hc
    refine pd_aload_n (i := 0) dX12_tell_48 rfl rfl ?_
    obtain ⟨hg4, hf⟩ := pd_ig hf
    obtain ⟨F3, hr, hf⟩ := pd_ob1 hf
    refine pd_callV (pkX12_keeps l hr) dX12_tell_49 pq_909 pq_912 pq_913 (show vwCl[12]? = some (yX12_keeps.cls, TX12, 52) from rfl) hg4 (pd_okm (by omega) (by decide) pq_910 pq_911 (by decide) (show (parseMethodDescriptor yX12_keeps.desc).map (fun d => d.parameters.length) = some 0 from by decide +kernel)) (Nat.le_of_ble_eq_true rfl) rfl ?_
    refine pd_aload_n (i := 0) dX12_tell_52 rfl rfl ?_
    refine pd_get (x := pd_R (F3 x0 39)) 39 dX12_tell_53 (show vwCl[12]? = some (RX12, TX12, 52) from rfl) pin_12 (by decide) pq_877 hg4 rfl ?_
    refine pd_bipush dX12_tell_56 (by decide) ?_
    refine pd_iload_n (i := 1) dX12_tell_58 rfl rfl ?_
    refine pd_iadd dX12_tell_59 ?_
    obtain ⟨hg5, hf⟩ := pd_ig hf
    refine pd_iald dX12_tell_60 hg5 ?_
    refine pd_topI (fun x3_61 ex3_61 => ?_)
    have hf := pd_lt hf ex3_61
    clear ex3_61
    refine pd_istore_n (L' := [pd_R x0, pd_I x1, pd_I x2, pd_I x3_61]) dX12_tell_61 rfl (by decide) rfl ?_
    refine pd_aload_n (i := 0) dX12_tell_62 rfl rfl ?_
    refine pd_get (x := pd_R (F3 x0 39)) 39 dX12_tell_63 (show vwCl[12]? = some (RX12, TX12, 52) from rfl) pin_12 (by decide) pq_877 hg4 rfl ?_
    refine pd_bipush dX12_tell_66 (by decide) ?_
    refine pd_iload_n (i := 1) dX12_tell_68 rfl rfl ?_
    refine pd_iadd dX12_tell_69 ?_
    refine pd_iload_n (i := 2) dX12_tell_70 rfl rfl ?_
    refine pd_iast dX12_tell_71 hg5 ?_
    refine pd_topF (fun F6 eF6 => ?_)
    have hf := pd_lt hf eF6
    clear eF6
    refine pd_iload_n (i := 3) dX12_tell_72 rfl rfl ?_
    obtain ⟨h1, h2⟩ := pd_inj hf
    subst h1 h2
    exact pd_iret dX12_tell_73 rfl (Nat.le_refl 0) (Nat.le_refl 0)
  · have hf := pd_iq hf hc
    refine pd_iconst dX12_tell_46 (by decide) ?_
    obtain ⟨h1, h2⟩ := pd_inj hf
    subst h1 h2
    exact pd_iret dX12_tell_47 rfl (Nat.le_refl 0) (Nat.le_refl 0)
set_option maxHeartbeats 4000000 in
set_option maxRecDepth 100000 in
theorem pkX12_tell (l : Launch) {sh : pd_S} {n : Nat} {F : pd_F} {x0 : Int} {x1 : Int} {x2 : Int} {ρ : Int} {Fz : pd_F} (hf : pfX12_tell sh n F x0 x1 x2 = some (ρ, Fz)) : pd_C l yX12_tell (Cond.code yX12_tell cX12_tell 4 (some .int) :: pd_gt) (pd_rm 2 0 0) false 0 0 sh F [pd_R x0, pd_I x1, pd_I x2] (some (pd_I ρ)) sh Fz := by
  unfold pfX12_tell at hf
  refine pd_body (L := [pd_R x0, pd_I x1, pd_I x2, pd_N]) (by decide +kernel) (Nat.le_of_ble_eq_true rfl) rfl (fun E => ?_)
  refine pd_aload_n (i := 0) dX12_tell_0 rfl rfl ?_
  refine pd_iconst dX12_tell_1 (by decide) ?_
  obtain ⟨hg7, hf⟩ := pd_ig hf
  refine pd_put (n := 0) (x := pd_I 0) 0 dX12_tell_2 (show vwCl[12]? = some (RX12, TX12, 52) from rfl) pin_12 tyX12_ok nmX12 (by decide) pq_704 rfl hg7 rfl pd_nrI pd_ftI ?_
  refine pd_topF (fun F8 eF8 => ?_)
  have hf := pd_lt hf eF8
  clear eF8
  refine pd_aload_n (i := 0) dX12_tell_5 rfl rfl ?_
  refine pd_get (x := pd_I (F8 x0 12)) 12 dX12_tell_6 (show vwCl[12]? = some (RX12, TX12, 52) from rfl) pin_12 (by decide) pq_891 hg7 rfl ?_
  refine pd_if_eq (tgt := 46) dX12_tell_9 (by decide) (fun hc => ?_) (fun hc => ?_)
  · have hf := pd_ip hf hc
    refine pd_iconst dX12_tell_46 (by decide) ?_
    obtain ⟨h1, h2⟩ := pd_inj hf
    subst h1 h2
    exact pd_iret dX12_tell_47 rfl (Nat.le_refl 0) (Nat.le_refl 0)
  · have hf := pd_in_ hf hc
    refine pd_iload_n (i := 1) dX12_tell_12 rfl rfl ?_
    refine pd_i2l dX12_tell_13 ?_
    refine pd_lconst (x := 0) dX12_tell_14 (by decide) ?_
    refine pd_ldc2 (x := 2) dX12_tell_15 pq_914 (by decide +kernel) ?_
    obtain ⟨r10, F9, hr, hf⟩ := pd_ob2 hf
    refine pd_callS (pkX12_within l hr) dX12_tell_18 pq_738 pq_741 (pd_okm (by omega) (by decide) pq_739 pq_740 (by decide) (show (parseMethodDescriptor yX12_within.desc).map (fun d => d.parameters.length) = some 3 from by decide +kernel)) (Nat.le_of_ble_eq_true rfl) rfl ?_
    refine pd_if_eq (tgt := 46) dX12_tell_21 (by decide) (fun hc => ?_) (fun hc => ?_)
    · have hf := pd_ip hf hc
      refine pd_iconst dX12_tell_46 (by decide) ?_
      obtain ⟨h1, h2⟩ := pd_inj hf
      subst h1 h2
      exact pd_iret dX12_tell_47 rfl (Nat.le_refl 0) (Nat.le_refl 0)
    · have hf := pd_in_ hf hc
      refine pd_iload_n (i := 2) dX12_tell_24 rfl rfl ?_
      refine pd_i2l dX12_tell_25 ?_
      refine pd_lconst (x := 0) dX12_tell_26 (by decide) ?_
      refine pd_iload_n (i := 1) dX12_tell_27 rfl rfl ?_
      refine pd_if_ne (tgt := 37) dX12_tell_28 (by decide) (fun hc => ?_) (fun hc => ?_)
      · have hf := pd_ip hf hc
        refine pd_ldc2 (x := 9999999) dX12_tell_37 pq_915 (by decide +kernel) ?_
        exact pd_weak (L' := [pd_R x0, pd_I x1, pd_I x2, pd_N]) ⟨Or.inr rfl, Or.inr rfl, Or.inr rfl, Or.inr rfl, trivial⟩ (pkX12_tell_b40 E l _ _ _ _ _ _ _ hf)
      · have hf := pd_iq hf hc
        refine pd_ldc2 (x := 999) dX12_tell_31 pq_916 (by decide +kernel) ?_
        refine pd_goto (tgt := 40) dX12_tell_34 (by decide) ?_
        exact pd_weak (L' := [pd_R x0, pd_I x1, pd_I x2, pd_N]) ⟨Or.inr rfl, Or.inr rfl, Or.inr rfl, Or.inr rfl, trivial⟩ (pkX12_tell_b40 E l _ _ _ _ _ _ _ hf)
set_option maxHeartbeats 4000000 in
set_option maxRecDepth 100000 in
theorem pkX12_keep_b45 (E : pd_E) (l : Launch) {sh : pd_S} {n : Nat} {ρ : Int} {Fz : pd_F}  : ∀ (k : Nat) (F : pd_F) (x0 : Int) (x1 : Int) (x3 : Int), pfX12_keep_b45 sh n  k F x0 x1 x3 = some (ρ, Fz) → pd_V E l (pd_rm 2 0 0) (RX12, cX12_keep, 4, (some .boolean), "keep") (pd_Qm E false (some (pd_I ρ)) sh Fz 0 0) false 0 0 sh F 45 [pd_R x0, pd_I x1, pd_N, pd_I x3] [] := by
  intro k
  induction k with
  | zero => intro F x0 x1 x3 hf; exact absurd hf (by unfold pfX12_keep_b45; exact fun h => nomatch h)
  | succ k ih =>
    intro F x0 x1 x3 hf
    unfold pfX12_keep_b45 at hf
    refine pd_iload_n (i := 3) dX12_keep_45 rfl rfl ?_
    refine pd_bipush dX12_keep_46 (by decide) ?_
    refine pd_icmp_ge (tgt := 74) dX12_keep_48 (by decide) (fun hc => ?_) (fun hc => ?_)
    · have hf := pd_ip hf hc
      refine pd_aload_n (i := 0) dX12_keep_74 rfl rfl ?_
      refine pd_iconst dX12_keep_75 (by decide) ?_
      obtain ⟨hg1, hf⟩ := pd_ig hf
      refine pd_put (n := 0) (x := pd_I 0) 41 dX12_keep_76 (show vwCl[12]? = some (RX12, TX12, 52) from rfl) pin_12 tyX12_ok nmX12 (by decide) pq_892 rfl hg1 rfl pd_nrI pd_ftI ?_
      refine pd_topF (fun F2 eF2 => ?_)
      have hf := pd_lt hf eF2
      clear eF2
      refine pd_iconst dX12_keep_79 (by decide) ?_
      obtain ⟨h1, h2⟩ := pd_inj hf
      subst h1 h2
      exact pd_zret dX12_keep_80 rfl (by decide) (Nat.le_refl 0) (Nat.le_refl 0)
    · have hf := pd_in_ hf hc
      refine pd_aload_n (i := 0) dX12_keep_51 rfl rfl ?_
      obtain ⟨hg3, hf⟩ := pd_ig hf
      refine pd_get (x := pd_R (F x0 39)) 39 dX12_keep_52 (show vwCl[12]? = some (RX12, TX12, 52) from rfl) pin_12 (by decide) pq_877 hg3 rfl ?_
      refine pd_iload_n (i := 3) dX12_keep_55 rfl rfl ?_
      refine pd_aload_n (i := 0) dX12_keep_56 rfl rfl ?_
      refine pd_get (x := pd_R (F x0 42)) 42 dX12_keep_57 (show vwCl[12]? = some (RX12, TX12, 52) from rfl) pin_12 (by decide) pq_917 hg3 rfl ?_
      refine pd_bipush dX12_keep_60 (by decide) ?_
      refine pd_iload_n (i := 1) dX12_keep_62 rfl rfl ?_
      refine pd_imul dX12_keep_63 ?_
      refine pd_iload_n (i := 3) dX12_keep_64 rfl rfl ?_
      refine pd_iadd dX12_keep_65 ?_
      obtain ⟨hg4, hf⟩ := pd_ig hf
      refine pd_iald dX12_keep_66 hg4 ?_
      obtain ⟨hg5, hf⟩ := pd_ig hf
      refine pd_iast dX12_keep_67 hg5 ?_
      refine pd_topF (fun F6 eF6 => ?_)
      have hf := pd_lt hf eF6
      clear eF6
      refine pd_iincN (L' := fun y => [pd_R x0, pd_I x1, pd_N, pd_I y]) dX12_keep_68 rfl (by decide) (by decide) (fun _ => rfl) (fun x3_68 ex3_68 => ?_)
      have hf := pd_lt hf ex3_68
      clear ex3_68
      refine pd_goto (tgt := 45) dX12_keep_71 (by decide) ?_
      exact pd_weak (L' := [pd_R x0, pd_I x1, pd_N, pd_I x3_68]) ⟨Or.inr rfl, Or.inr rfl, Or.inr rfl, Or.inr rfl, trivial⟩ (ih _ _ _ _ hf)
set_option maxHeartbeats 4000000 in
set_option maxRecDepth 100000 in
theorem pkX12_keep_b112 (E : pd_E) (l : Launch) {sh : pd_S} {n : Nat} {ρ : Int} {Fz : pd_F}  (F : pd_F) (x0 : Int) (x1 : Int) (hf : pfX12_keep_b112 sh n  F x0 x1 = some (ρ, Fz)) : pd_V E l (pd_rm 2 0 0) (RX12, cX12_keep, 4, (some .boolean), "keep") (pd_Qm E false (some (pd_I ρ)) sh Fz 0 0) false 0 0 sh F 112 [pd_R x0, pd_I x1, pd_N, pd_N] [] := by
  unfold pfX12_keep_b112 at hf
  refine pd_aload_n (i := 0) dX12_keep_112 rfl rfl ?_
  obtain ⟨hg7, hf⟩ := pd_ig hf
  refine pd_get (x := pd_R (F x0 43)) 43 dX12_keep_113 (show vwCl[12]? = some (RX12, TX12, 52) from rfl) pin_12 (by decide) pq_885 hg7 rfl ?_
  refine pd_iload_n (i := 1) dX12_keep_116 rfl rfl ?_
  refine pd_iconst dX12_keep_117 (by decide) ?_
  obtain ⟨hg8, hf⟩ := pd_ig hf
  refine pd_zast (by decide) dX12_keep_118 hg8 ?_
  refine pd_topF (fun F9 eF9 => ?_)
  have hf := pd_lt hf eF9
  clear eF9
  refine pd_iconst dX12_keep_119 (by decide) ?_
  obtain ⟨h1, h2⟩ := pd_inj hf
  subst h1 h2
  exact pd_zret dX12_keep_120 rfl (by decide) (Nat.le_refl 0) (Nat.le_refl 0)
set_option maxHeartbeats 4000000 in
set_option maxRecDepth 100000 in
theorem pkX12_keep_b83 (E : pd_E) (l : Launch) {sh : pd_S} {n : Nat} {ρ : Int} {Fz : pd_F}  : ∀ (k : Nat) (F : pd_F) (x0 : Int) (x1 : Int) (x3 : Int), pfX12_keep_b83 sh n  k F x0 x1 x3 = some (ρ, Fz) → pd_V E l (pd_rm 2 0 0) (RX12, cX12_keep, 4, (some .boolean), "keep") (pd_Qm E false (some (pd_I ρ)) sh Fz 0 0) false 0 0 sh F 83 [pd_R x0, pd_I x1, pd_N, pd_I x3] [] := by
  intro k
  induction k with
  | zero => intro F x0 x1 x3 hf; exact absurd hf (by unfold pfX12_keep_b83; exact fun h => nomatch h)
  | succ k ih =>
    intro F x0 x1 x3 hf
    unfold pfX12_keep_b83 at hf
    refine pd_iload_n (i := 3) dX12_keep_83 rfl rfl ?_
    refine pd_bipush dX12_keep_84 (by decide) ?_
    refine pd_icmp_ge (tgt := 112) dX12_keep_86 (by decide) (fun hc => ?_) (fun hc => ?_)
    · have hf := pd_ip hf hc
      exact pd_weak (L' := [pd_R x0, pd_I x1, pd_N, pd_N]) ⟨Or.inr rfl, Or.inr rfl, Or.inr rfl, Or.inl rfl, trivial⟩ (pkX12_keep_b112 E l _ _ _ hf)
    · have hf := pd_in_ hf hc
      refine pd_aload_n (i := 0) dX12_keep_89 rfl rfl ?_
      obtain ⟨hg10, hf⟩ := pd_ig hf
      refine pd_get (x := pd_R (F x0 42)) 42 dX12_keep_90 (show vwCl[12]? = some (RX12, TX12, 52) from rfl) pin_12 (by decide) pq_917 hg10 rfl ?_
      refine pd_bipush dX12_keep_93 (by decide) ?_
      refine pd_iload_n (i := 1) dX12_keep_95 rfl rfl ?_
      refine pd_imul dX12_keep_96 ?_
      refine pd_iload_n (i := 3) dX12_keep_97 rfl rfl ?_
      refine pd_iadd dX12_keep_98 ?_
      refine pd_aload_n (i := 0) dX12_keep_99 rfl rfl ?_
      refine pd_get (x := pd_R (F x0 39)) 39 dX12_keep_100 (show vwCl[12]? = some (RX12, TX12, 52) from rfl) pin_12 (by decide) pq_877 hg10 rfl ?_
      refine pd_iload_n (i := 3) dX12_keep_103 rfl rfl ?_
      obtain ⟨hg11, hf⟩ := pd_ig hf
      refine pd_iald dX12_keep_104 hg11 ?_
      obtain ⟨hg12, hf⟩ := pd_ig hf
      refine pd_iast dX12_keep_105 hg12 ?_
      refine pd_topF (fun F13 eF13 => ?_)
      have hf := pd_lt hf eF13
      clear eF13
      refine pd_iincN (L' := fun y => [pd_R x0, pd_I x1, pd_N, pd_I y]) dX12_keep_106 rfl (by decide) (by decide) (fun _ => rfl) (fun x3_106 ex3_106 => ?_)
      have hf := pd_lt hf ex3_106
      clear ex3_106
      refine pd_goto (tgt := 83) dX12_keep_109 (by decide) ?_
      exact pd_weak (L' := [pd_R x0, pd_I x1, pd_N, pd_I x3_106]) ⟨Or.inr rfl, Or.inr rfl, Or.inr rfl, Or.inr rfl, trivial⟩ (ih _ _ _ _ hf)
set_option maxHeartbeats 4000000 in
set_option maxRecDepth 100000 in
theorem pkX12_keep_b39 (E : pd_E) (l : Launch) {sh : pd_S} {n : Nat} {ρ : Int} {Fz : pd_F}  (F : pd_F) (x0 : Int) (x1 : Int) (x2 : Int) (hf : pfX12_keep_b39 sh n  F x0 x1 x2 = some (ρ, Fz)) : pd_V E l (pd_rm 2 0 0) (RX12, cX12_keep, 4, (some .boolean), "keep") (pd_Qm E false (some (pd_I ρ)) sh Fz 0 0) false 0 0 sh F 39 [pd_R x0, pd_I x1, pd_I x2, pd_N] [] := by
  unfold pfX12_keep_b39 at hf
  refine pd_iload_n (i := 2) dX12_keep_39 rfl rfl ?_
  refine pd_if_eq (tgt := 81) dX12_keep_40 (by decide) (fun hc => ?_) (fun hc => ?_)
  · have hf := pd_ip hf hc
    refine pd_iconst dX12_keep_81 (by decide) ?_
    refine pd_istore_n (L' := [pd_R x0, pd_I x1, pd_I x2, pd_I 0]) dX12_keep_82 rfl (by decide) rfl ?_
    exact pd_weak (L' := [pd_R x0, pd_I x1, pd_N, pd_I 0]) ⟨Or.inr rfl, Or.inr rfl, Or.inl rfl, Or.inr rfl, trivial⟩ (pkX12_keep_b83 E l n _ _ _ _ hf)
  · have hf := pd_in_ hf hc
    refine pd_iconst dX12_keep_43 (by decide) ?_
    refine pd_istore_n (L' := [pd_R x0, pd_I x1, pd_I x2, pd_I 0]) dX12_keep_44 rfl (by decide) rfl ?_
    exact pd_weak (L' := [pd_R x0, pd_I x1, pd_N, pd_I 0]) ⟨Or.inr rfl, Or.inr rfl, Or.inl rfl, Or.inr rfl, trivial⟩ (pkX12_keep_b45 E l n _ _ _ _ hf)
set_option maxHeartbeats 4000000 in
set_option maxRecDepth 100000 in
theorem pkX12_keep (l : Launch) {sh : pd_S} {n : Nat} {F : pd_F} {x0 : Int} {x1 : Int} {x2 : Int} {ρ : Int} {Fz : pd_F} (hf : pfX12_keep sh n F x0 x1 x2 = some (ρ, Fz)) : pd_C l yX12_keep (Cond.code yX12_keep cX12_keep 4 (some .boolean) :: pd_gt) (pd_rm 2 0 0) false 0 0 sh F [pd_R x0, pd_I x1, pd_I x2] (some (pd_I ρ)) sh Fz := by
  unfold pfX12_keep at hf
  refine pd_body (L := [pd_R x0, pd_I x1, pd_I x2, pd_N]) (by decide +kernel) (Nat.le_of_ble_eq_true rfl) rfl (fun E => ?_)
  refine pd_aload_n (i := 0) dX12_keep_0 rfl rfl ?_
  refine pd_iconst dX12_keep_1 (by decide) ?_
  obtain ⟨hg14, hf⟩ := pd_ig hf
  refine pd_put (n := 0) (x := pd_I 0) 0 dX12_keep_2 (show vwCl[12]? = some (RX12, TX12, 52) from rfl) pin_12 tyX12_ok nmX12 (by decide) pq_704 rfl hg14 rfl pd_nrI pd_ftI ?_
  refine pd_topF (fun F15 eF15 => ?_)
  have hf := pd_lt hf eF15
  clear eF15
  refine pd_aload_n (i := 0) dX12_keep_5 rfl rfl ?_
  refine pd_get (x := pd_I (F15 x0 12)) 12 dX12_keep_6 (show vwCl[12]? = some (RX12, TX12, 52) from rfl) pin_12 (by decide) pq_891 hg14 rfl ?_
  refine pd_if_eq (tgt := 37) dX12_keep_9 (by decide) (fun hc => ?_) (fun hc => ?_)
  · have hf := pd_ip hf hc
    refine pd_iconst dX12_keep_37 (by decide) ?_
    obtain ⟨h1, h2⟩ := pd_inj hf
    subst h1 h2
    exact pd_zret dX12_keep_38 rfl (by decide) (Nat.le_refl 0) (Nat.le_refl 0)
  · have hf := pd_in_ hf hc
    refine pd_iload_n (i := 1) dX12_keep_12 rfl rfl ?_
    refine pd_i2l dX12_keep_13 ?_
    refine pd_lconst (x := 0) dX12_keep_14 (by decide) ?_
    refine pd_ldc2 (x := 2) dX12_keep_15 pq_914 (by decide +kernel) ?_
    obtain ⟨r17, F16, hr, hf⟩ := pd_ob2 hf
    refine pd_callS (pkX12_within l hr) dX12_keep_18 pq_738 pq_741 (pd_okm (by omega) (by decide) pq_739 pq_740 (by decide) (show (parseMethodDescriptor yX12_within.desc).map (fun d => d.parameters.length) = some 3 from by decide +kernel)) (Nat.le_of_ble_eq_true rfl) rfl ?_
    refine pd_if_eq (tgt := 37) dX12_keep_21 (by decide) (fun hc => ?_) (fun hc => ?_)
    · have hf := pd_ip hf hc
      refine pd_iconst dX12_keep_37 (by decide) ?_
      obtain ⟨h1, h2⟩ := pd_inj hf
      subst h1 h2
      exact pd_zret dX12_keep_38 rfl (by decide) (Nat.le_refl 0) (Nat.le_refl 0)
    · have hf := pd_in_ hf hc
      refine pd_iload_n (i := 2) dX12_keep_24 rfl rfl ?_
      refine pd_if_eq (tgt := 39) dX12_keep_25 (by decide) (fun hc => ?_) (fun hc => ?_)
      · have hf := pd_ip hf hc
        exact pd_weak (L' := [pd_R x0, pd_I x1, pd_I x2, pd_N]) ⟨Or.inr rfl, Or.inr rfl, Or.inr rfl, Or.inr rfl, trivial⟩ (pkX12_keep_b39 E l _ _ _ _ hf)
      · have hf := pd_in_ hf hc
        refine pd_aload_n (i := 0) dX12_keep_28 rfl rfl ?_
        refine pd_get (x := pd_R (F16 x0 43)) 43 dX12_keep_29 (show vwCl[12]? = some (RX12, TX12, 52) from rfl) pin_12 (by decide) pq_885 hg14 rfl ?_
        refine pd_iload_n (i := 1) dX12_keep_32 rfl rfl ?_
        obtain ⟨hg18, hf⟩ := pd_ig hf
        refine pd_zald dX12_keep_33 hg18 ?_
        refine pd_if_ne (tgt := 39) dX12_keep_34 (by decide) (fun hc => ?_) (fun hc => ?_)
        · have hf := pd_ip hf hc
          exact pd_weak (L' := [pd_R x0, pd_I x1, pd_I x2, pd_N]) ⟨Or.inr rfl, Or.inr rfl, Or.inr rfl, Or.inr rfl, trivial⟩ (pkX12_keep_b39 E l _ _ _ _ hf)
        · have hf := pd_iq hf hc
          refine pd_iconst dX12_keep_37 (by decide) ?_
          obtain ⟨h1, h2⟩ := pd_inj hf
          subst h1 h2
          exact pd_zret dX12_keep_38 rfl (by decide) (Nat.le_refl 0) (Nat.le_refl 0)
set_option maxHeartbeats 4000000 in
set_option maxRecDepth 100000 in
theorem pkX12_areBeside (l : Launch) {sh : pd_S} {n : Nat} {F : pd_F} {x0 : Int} {x1 : Int} {x2 : Int} {ρ : Int} {Fz : pd_F} (hf : pfX12_areBeside sh n F x0 x1 x2 = some (ρ, Fz)) : pd_C l yX12_areBeside (Cond.code yX12_areBeside cX12_areBeside 3 (some .boolean) :: pd_gt) (pd_rm 3 0 0) false 0 0 sh F [pd_R x0, pd_I x1, pd_I x2] (some (pd_I ρ)) sh Fz := by
  unfold pfX12_areBeside at hf
  refine pd_body (L := [pd_R x0, pd_I x1, pd_I x2]) (by decide +kernel) (Nat.le_of_ble_eq_true rfl) rfl (fun E => ?_)
  refine pd_iload_n (i := 1) dX12_areBeside_0 rfl rfl ?_
  refine pd_iload_n (i := 2) dX12_areBeside_1 rfl rfl ?_
  refine pd_icmp_eq (tgt := 27) dX12_areBeside_2 (by decide) (fun hc => ?_) (fun hc => ?_)
  · have hf := pd_ip hf hc
    refine pd_iconst dX12_areBeside_27 (by decide) ?_
    obtain ⟨h1, h2⟩ := pd_inj hf
    subst h1 h2
    exact pd_zret dX12_areBeside_28 rfl (by decide) (Nat.le_refl 0) (Nat.le_refl 0)
  · have hf := pd_in_ hf hc
    refine pd_aload_n (i := 0) dX12_areBeside_5 rfl rfl ?_
    refine pd_iload_n (i := 1) dX12_areBeside_6 rfl rfl ?_
    refine pd_iload_n (i := 2) dX12_areBeside_7 rfl rfl ?_
    obtain ⟨hg3, hf⟩ := pd_ig hf
    obtain ⟨r2, F1, hr, hf⟩ := pd_ob2 hf
    refine pd_callV (pkX12_haveMark l hr) dX12_areBeside_8 pq_918 pq_921 pq_922 (show vwCl[12]? = some (yX12_haveMark.cls, TX12, 52) from rfl) hg3 (pd_okm (by omega) (by decide) pq_919 pq_920 (by decide) (show (parseMethodDescriptor yX12_haveMark.desc).map (fun d => d.parameters.length) = some 2 from by decide +kernel)) (Nat.le_of_ble_eq_true rfl) rfl ?_
    refine pd_if_ne (tgt := 23) dX12_areBeside_11 (by decide) (fun hc => ?_) (fun hc => ?_)
    · have hf := pd_ip hf hc
      refine pd_iconst dX12_areBeside_23 (by decide) ?_
      refine pd_goto (tgt := 28) dX12_areBeside_24 (by decide) ?_
      obtain ⟨h1, h2⟩ := pd_inj hf
      subst h1 h2
      exact pd_zret dX12_areBeside_28 rfl (by decide) (Nat.le_refl 0) (Nat.le_refl 0)
    · have hf := pd_iq hf hc
      refine pd_aload_n (i := 0) dX12_areBeside_14 rfl rfl ?_
      refine pd_iload_n (i := 1) dX12_areBeside_15 rfl rfl ?_
      refine pd_iload_n (i := 2) dX12_areBeside_16 rfl rfl ?_
      obtain ⟨r5, F4, hr, hf⟩ := pd_ob2 hf
      refine pd_callV (pkX12_areJoined l hr) dX12_areBeside_17 pq_923 pq_926 pq_927 (show vwCl[12]? = some (yX12_areJoined.cls, TX12, 52) from rfl) hg3 (pd_okm (by omega) (by decide) pq_924 pq_925 (by decide) (show (parseMethodDescriptor yX12_areJoined.desc).map (fun d => d.parameters.length) = some 2 from by decide +kernel)) (Nat.le_of_ble_eq_true rfl) rfl ?_
      refine pd_if_eq (tgt := 27) dX12_areBeside_20 (by decide) (fun hc => ?_) (fun hc => ?_)
      · have hf := pd_ip hf hc
        refine pd_iconst dX12_areBeside_27 (by decide) ?_
        obtain ⟨h1, h2⟩ := pd_inj hf
        subst h1 h2
        exact pd_zret dX12_areBeside_28 rfl (by decide) (Nat.le_refl 0) (Nat.le_refl 0)
      · have hf := pd_in_ hf hc
        refine pd_iconst dX12_areBeside_23 (by decide) ?_
        refine pd_goto (tgt := 28) dX12_areBeside_24 (by decide) ?_
        obtain ⟨h1, h2⟩ := pd_inj hf
        subst h1 h2
        exact pd_zret dX12_areBeside_28 rfl (by decide) (Nat.le_refl 0) (Nat.le_refl 0)
set_option maxHeartbeats 4000000 in
set_option maxRecDepth 100000 in
theorem pkX12_paid (l : Launch) {sh : pd_S} {n : Nat} {F : pd_F} {x0 : Int} {x1 : Int} {x2 : Int} {ρ : Int} {Fz : pd_F} (hf : pfX12_paid sh n F x0 x1 x2 = some (ρ, Fz)) : pd_C l yX12_paid (Cond.code yX12_paid cX12_paid 4 (some .long) :: pd_gt) (pd_rm 3 0 0) false 0 0 sh F [pd_R x0, pd_I x1, pd_J x2] (some (pd_J ρ)) sh Fz := by
  unfold pfX12_paid at hf
  refine pd_body (L := [pd_R x0, pd_I x1, pd_J x2, pd_N]) (by decide +kernel) (Nat.le_of_ble_eq_true rfl) rfl (fun E => ?_)
  refine pd_aload_n (i := 0) dX12_paid_0 rfl rfl ?_
  refine pd_iload_n (i := 1) dX12_paid_1 rfl rfl ?_
  obtain ⟨hg3, hf⟩ := pd_ig hf
  obtain ⟨r2, F1, hr, hf⟩ := pd_ob2 hf
  refine pd_callV (pkX12_net l hr) dX12_paid_2 pq_928 pq_931 pq_932 (show vwCl[12]? = some (yX12_net.cls, TX12, 52) from rfl) hg3 (pd_okm (by omega) (by decide) pq_929 pq_930 (by decide) (show (parseMethodDescriptor yX12_net.desc).map (fun d => d.parameters.length) = some 1 from by decide +kernel)) (Nat.le_of_ble_eq_true rfl) rfl ?_
  refine pd_aload_n (i := 0) dX12_paid_5 rfl rfl ?_
  refine pd_iload_n (i := 1) dX12_paid_6 rfl rfl ?_
  refine pd_lload_n (i := 2) dX12_paid_7 rfl rfl ?_
  obtain ⟨r5, F4, hr, hf⟩ := pd_ob2 hf
  refine pd_callV (pkX12_limit l hr) dX12_paid_8 pq_933 pq_936 pq_937 (show vwCl[12]? = some (yX12_limit.cls, TX12, 52) from rfl) hg3 (pd_okm (by omega) (by decide) pq_934 pq_935 (by decide) (show (parseMethodDescriptor yX12_limit.desc).map (fun d => d.parameters.length) = some 2 from by decide +kernel)) (Nat.le_of_ble_eq_true rfl) rfl ?_
  refine pd_lcmp_ge (tgt := 23) dX12_paid_11 dX12_paid_12 (by decide) (fun hc => ?_) (fun hc => ?_)
  · have hf := pd_ip hf hc
    refine pd_aload_n (i := 0) dX12_paid_23 rfl rfl ?_
    refine pd_iload_n (i := 1) dX12_paid_24 rfl rfl ?_
    refine pd_lload_n (i := 2) dX12_paid_25 rfl rfl ?_
    obtain ⟨r7, F6, hr, hf⟩ := pd_ob2 hf
    refine pd_callV (pkX12_limit l hr) dX12_paid_26 pq_933 pq_936 pq_937 (show vwCl[12]? = some (yX12_limit.cls, TX12, 52) from rfl) hg3 (pd_okm (by omega) (by decide) pq_934 pq_935 (by decide) (show (parseMethodDescriptor yX12_limit.desc).map (fun d => d.parameters.length) = some 2 from by decide +kernel)) (Nat.le_of_ble_eq_true rfl) rfl ?_
    obtain ⟨h1, h2⟩ := pd_inj hf
    subst h1 h2
    exact pd_lret dX12_paid_29 rfl (Nat.le_refl 0) (Nat.le_refl 0)
  · have hf := pd_in_ hf hc
    refine pd_aload_n (i := 0) dX12_paid_15 rfl rfl ?_
    refine pd_iload_n (i := 1) dX12_paid_16 rfl rfl ?_
    obtain ⟨r9, F8, hr, hf⟩ := pd_ob2 hf
    refine pd_callV (pkX12_net l hr) dX12_paid_17 pq_928 pq_931 pq_932 (show vwCl[12]? = some (yX12_net.cls, TX12, 52) from rfl) hg3 (pd_okm (by omega) (by decide) pq_929 pq_930 (by decide) (show (parseMethodDescriptor yX12_net.desc).map (fun d => d.parameters.length) = some 1 from by decide +kernel)) (Nat.le_of_ble_eq_true rfl) rfl ?_
    refine pd_goto (tgt := 29) dX12_paid_20 (by decide) ?_
    obtain ⟨h1, h2⟩ := pd_inj hf
    subst h1 h2
    exact pd_lret dX12_paid_29 rfl (Nat.le_refl 0) (Nat.le_refl 0)
set_option maxHeartbeats 4000000 in
set_option maxRecDepth 100000 in
theorem pkX12_isTwo (l : Launch) {sh : pd_S} {n : Nat} {F : pd_F} {x0 : Int} {x1 : Int} {x2 : Int} {ρ : Int} {Fz : pd_F} (hf : pfX12_isTwo sh n F x0 x1 x2 = some (ρ, Fz)) : pd_C l yX12_isTwo (Cond.code yX12_isTwo cX12_isTwo 3 (some .boolean) :: pd_gt) (pd_rm 3 0 0) false 0 0 sh F [pd_R x0, pd_I x1, pd_I x2] (some (pd_I ρ)) sh Fz := by
  unfold pfX12_isTwo at hf
  refine pd_body (L := [pd_R x0, pd_I x1, pd_I x2]) (by decide +kernel) (Nat.le_of_ble_eq_true rfl) rfl (fun E => ?_)
  refine pd_aload_n (i := 0) dX12_isTwo_0 rfl rfl ?_
  refine pd_iload_n (i := 1) dX12_isTwo_1 rfl rfl ?_
  obtain ⟨hg3, hf⟩ := pd_ig hf
  obtain ⟨r2, F1, hr, hf⟩ := pd_ob2 hf
  refine pd_callV (pkX12_isPerson l hr) dX12_isTwo_2 pq_938 pq_941 pq_942 (show vwCl[12]? = some (yX12_isPerson.cls, TX12, 52) from rfl) hg3 (pd_okm (by omega) (by decide) pq_939 pq_940 (by decide) (show (parseMethodDescriptor yX12_isPerson.desc).map (fun d => d.parameters.length) = some 1 from by decide +kernel)) (Nat.le_of_ble_eq_true rfl) rfl ?_
  refine pd_if_eq (tgt := 25) dX12_isTwo_5 (by decide) (fun hc => ?_) (fun hc => ?_)
  · have hf := pd_ip hf hc
    refine pd_iconst dX12_isTwo_25 (by decide) ?_
    obtain ⟨h1, h2⟩ := pd_inj hf
    subst h1 h2
    exact pd_zret dX12_isTwo_26 rfl (by decide) (Nat.le_refl 0) (Nat.le_refl 0)
  · have hf := pd_in_ hf hc
    refine pd_aload_n (i := 0) dX12_isTwo_8 rfl rfl ?_
    refine pd_iload_n (i := 2) dX12_isTwo_9 rfl rfl ?_
    obtain ⟨r5, F4, hr, hf⟩ := pd_ob2 hf
    refine pd_callV (pkX12_isPerson l hr) dX12_isTwo_10 pq_938 pq_941 pq_942 (show vwCl[12]? = some (yX12_isPerson.cls, TX12, 52) from rfl) hg3 (pd_okm (by omega) (by decide) pq_939 pq_940 (by decide) (show (parseMethodDescriptor yX12_isPerson.desc).map (fun d => d.parameters.length) = some 1 from by decide +kernel)) (Nat.le_of_ble_eq_true rfl) rfl ?_
    refine pd_if_eq (tgt := 25) dX12_isTwo_13 (by decide) (fun hc => ?_) (fun hc => ?_)
    · have hf := pd_ip hf hc
      refine pd_iconst dX12_isTwo_25 (by decide) ?_
      obtain ⟨h1, h2⟩ := pd_inj hf
      subst h1 h2
      exact pd_zret dX12_isTwo_26 rfl (by decide) (Nat.le_refl 0) (Nat.le_refl 0)
    · have hf := pd_in_ hf hc
      refine pd_iload_n (i := 1) dX12_isTwo_16 rfl rfl ?_
      refine pd_iload_n (i := 2) dX12_isTwo_17 rfl rfl ?_
      refine pd_icmp_eq (tgt := 25) dX12_isTwo_18 (by decide) (fun hc => ?_) (fun hc => ?_)
      · have hf := pd_ip hf hc
        refine pd_iconst dX12_isTwo_25 (by decide) ?_
        obtain ⟨h1, h2⟩ := pd_inj hf
        subst h1 h2
        exact pd_zret dX12_isTwo_26 rfl (by decide) (Nat.le_refl 0) (Nat.le_refl 0)
      · have hf := pd_in_ hf hc
        refine pd_iconst dX12_isTwo_21 (by decide) ?_
        refine pd_goto (tgt := 26) dX12_isTwo_22 (by decide) ?_
        obtain ⟨h1, h2⟩ := pd_inj hf
        subst h1 h2
        exact pd_zret dX12_isTwo_26 rfl (by decide) (Nat.le_refl 0) (Nat.le_refl 0)
set_option maxHeartbeats 4000000 in
set_option maxRecDepth 100000 in
theorem pkX12_balance (l : Launch) {sh : pd_S} {n : Nat} {F : pd_F} {x0 : Int} {x1 : Int} {x2 : Int} {ρ : Int} {Fz : pd_F} (hf : pfX12_balance sh n F x0 x1 x2 = some (ρ, Fz)) : pd_C l yX12_balance (Cond.code yX12_balance cX12_balance 4 (some .int) :: pd_gt) (pd_rm 3 0 0) false 0 0 sh F [pd_R x0, pd_I x1, pd_I x2] (some (pd_I ρ)) sh Fz := by
  unfold pfX12_balance at hf
  refine pd_body (L := [pd_R x0, pd_I x1, pd_I x2, pd_N]) (by decide +kernel) (Nat.le_of_ble_eq_true rfl) rfl (fun E => ?_)
  refine pd_aload_n (i := 0) dX12_balance_0 rfl rfl ?_
  refine pd_iconst dX12_balance_1 (by decide) ?_
  obtain ⟨hg1, hf⟩ := pd_ig hf
  refine pd_put (n := 0) (x := pd_I 0) 0 dX12_balance_2 (show vwCl[12]? = some (RX12, TX12, 52) from rfl) pin_12 tyX12_ok nmX12 (by decide) pq_704 rfl hg1 rfl pd_nrI pd_ftI ?_
  refine pd_topF (fun F2 eF2 => ?_)
  have hf := pd_lt hf eF2
  clear eF2
  refine pd_aload_n (i := 0) dX12_balance_5 rfl rfl ?_
  refine pd_iload_n (i := 1) dX12_balance_6 rfl rfl ?_
  obtain ⟨r4, F3, hr, hf⟩ := pd_ob2 hf
  refine pd_callV (pkX12_isAccount l hr) dX12_balance_7 pq_943 pq_946 pq_947 (show vwCl[12]? = some (yX12_isAccount.cls, TX12, 52) from rfl) hg1 (pd_okm (by omega) (by decide) pq_944 pq_945 (by decide) (show (parseMethodDescriptor yX12_isAccount.desc).map (fun d => d.parameters.length) = some 1 from by decide +kernel)) (Nat.le_of_ble_eq_true rfl) rfl ?_
  refine pd_if_eq (tgt := 25) dX12_balance_10 (by decide) (fun hc => ?_) (fun hc => ?_)
  · have hf := pd_ip hf hc
    refine pd_iconst dX12_balance_25 (by decide) ?_
    obtain ⟨h1, h2⟩ := pd_inj hf
    subst h1 h2
    exact pd_iret dX12_balance_26 rfl (Nat.le_refl 0) (Nat.le_refl 0)
  · have hf := pd_in_ hf hc
    refine pd_iload_n (i := 2) dX12_balance_13 rfl rfl ?_
    refine pd_i2l dX12_balance_14 ?_
    refine pd_lconst (x := 0) dX12_balance_15 (by decide) ?_
    refine pd_ldc2 (x := 9999999) dX12_balance_16 pq_915 (by decide +kernel) ?_
    obtain ⟨r6, F5, hr, hf⟩ := pd_ob2 hf
    refine pd_callS (pkX12_within l hr) dX12_balance_19 pq_738 pq_741 (pd_okm (by omega) (by decide) pq_739 pq_740 (by decide) (show (parseMethodDescriptor yX12_within.desc).map (fun d => d.parameters.length) = some 3 from by decide +kernel)) (Nat.le_of_ble_eq_true rfl) rfl ?_
    refine pd_if_ne (tgt := 27) dX12_balance_22 (by decide) (fun hc => ?_) (fun hc => ?_)
    · have hf := pd_ip hf hc
      refine pd_aload_n (i := 0) dX12_balance_27 rfl rfl ?_
      obtain ⟨F7, hr, hf⟩ := pd_ob1 hf
      refine pd_callV (pkX12_keeps l hr) dX12_balance_28 pq_909 pq_912 pq_913 (show vwCl[12]? = some (yX12_keeps.cls, TX12, 52) from rfl) hg1 (pd_okm (by omega) (by decide) pq_910 pq_911 (by decide) (show (parseMethodDescriptor yX12_keeps.desc).map (fun d => d.parameters.length) = some 0 from by decide +kernel)) (Nat.le_of_ble_eq_true rfl) rfl ?_
      refine pd_aload_n (i := 0) dX12_balance_31 rfl rfl ?_
      refine pd_get (x := pd_R (F7 x0 39)) 39 dX12_balance_32 (show vwCl[12]? = some (RX12, TX12, 52) from rfl) pin_12 (by decide) pq_877 hg1 rfl ?_
      refine pd_iload_n (i := 1) dX12_balance_35 rfl rfl ?_
      obtain ⟨hg8, hf⟩ := pd_ig hf
      refine pd_iald dX12_balance_36 hg8 ?_
      refine pd_topI (fun x3_37 ex3_37 => ?_)
      have hf := pd_lt hf ex3_37
      clear ex3_37
      refine pd_istore_n (L' := [pd_R x0, pd_I x1, pd_I x2, pd_I x3_37]) dX12_balance_37 rfl (by decide) rfl ?_
      refine pd_aload_n (i := 0) dX12_balance_38 rfl rfl ?_
      refine pd_get (x := pd_R (F7 x0 39)) 39 dX12_balance_39 (show vwCl[12]? = some (RX12, TX12, 52) from rfl) pin_12 (by decide) pq_877 hg1 rfl ?_
      refine pd_iload_n (i := 1) dX12_balance_42 rfl rfl ?_
      refine pd_iload_n (i := 2) dX12_balance_43 rfl rfl ?_
      refine pd_iast dX12_balance_44 hg8 ?_
      refine pd_topF (fun F9 eF9 => ?_)
      have hf := pd_lt hf eF9
      clear eF9
      refine pd_iload_n (i := 3) dX12_balance_45 rfl rfl ?_
      obtain ⟨h1, h2⟩ := pd_inj hf
      subst h1 h2
      exact pd_iret dX12_balance_46 rfl (Nat.le_refl 0) (Nat.le_refl 0)
    · have hf := pd_iq hf hc
      refine pd_iconst dX12_balance_25 (by decide) ?_
      obtain ⟨h1, h2⟩ := pd_inj hf
      subst h1 h2
      exact pd_iret dX12_balance_26 rfl (Nat.le_refl 0) (Nat.le_refl 0)
set_option maxHeartbeats 4000000 in
set_option maxRecDepth 100000 in
theorem pkX12_split_b136 (E : pd_E) (l : Launch) {sh : pd_S} {n : Nat} {ρ : Int} {Fz : pd_F}  : ∀ (k : Nat) (F : pd_F) (x0 : Int) (x3 : Int) (x4 : Int), pfX12_split_b136 sh n  k F x0 x3 x4 = some (ρ, Fz) → pd_V E l (pd_rm 3 0 0) (RX12, cX12_split, 5, (some .int), "split") (pd_Qm E false (some (pd_I ρ)) sh Fz 0 0) false 0 0 sh F 136 [pd_R x0, pd_N, pd_N, pd_I x3, pd_I x4] [] := by
  intro k
  induction k with
  | zero => intro F x0 x3 x4 hf; exact absurd hf (by unfold pfX12_split_b136; exact fun h => nomatch h)
  | succ k ih =>
    intro F x0 x3 x4 hf
    unfold pfX12_split_b136 at hf
    refine pd_iload (i := 4) dX12_split_136 rfl ?_
    refine pd_iconst dX12_split_138 (by decide) ?_
    refine pd_aload_n (i := 0) dX12_split_139 rfl rfl ?_
    obtain ⟨hg1, hf⟩ := pd_ig hf
    refine pd_get (x := pd_R (F x0 39)) 39 dX12_split_140 (show vwCl[12]? = some (RX12, TX12, 52) from rfl) pin_12 (by decide) pq_877 hg1 rfl ?_
    refine pd_bipush dX12_split_143 (by decide) ?_
    obtain ⟨hg2, hf⟩ := pd_ig hf
    refine pd_iald dX12_split_145 hg2 ?_
    refine pd_imul dX12_split_146 ?_
    refine pd_icmp_ge (tgt := 178) dX12_split_147 (by decide) (fun hc => ?_) (fun hc => ?_)
    · have hf := pd_ip hf hc
      refine pd_iload_n (i := 3) dX12_split_178 rfl rfl ?_
      obtain ⟨h1, h2⟩ := pd_inj hf
      subst h1 h2
      exact pd_iret dX12_split_179 rfl (Nat.le_refl 0) (Nat.le_refl 0)
    · have hf := pd_in_ hf hc
      refine pd_aload_n (i := 0) dX12_split_150 rfl rfl ?_
      refine pd_get (x := pd_R (F x0 39)) 39 dX12_split_151 (show vwCl[12]? = some (RX12, TX12, 52) from rfl) pin_12 (by decide) pq_877 hg1 rfl ?_
      refine pd_bipush dX12_split_154 (by decide) ?_
      refine pd_iload (i := 4) dX12_split_156 rfl ?_
      refine pd_iadd dX12_split_158 ?_
      refine pd_aload_n (i := 0) dX12_split_159 rfl rfl ?_
      refine pd_get (x := pd_R (F x0 39)) 39 dX12_split_160 (show vwCl[12]? = some (RX12, TX12, 52) from rfl) pin_12 (by decide) pq_877 hg1 rfl ?_
      refine pd_bipush dX12_split_163 (by decide) ?_
      refine pd_iload (i := 4) dX12_split_165 rfl ?_
      refine pd_iadd dX12_split_167 ?_
      refine pd_iconst dX12_split_168 (by decide) ?_
      refine pd_iadd dX12_split_169 ?_
      obtain ⟨hg3, hf⟩ := pd_ig hf
      refine pd_iald dX12_split_170 hg3 ?_
      obtain ⟨hg4, hf⟩ := pd_ig hf
      refine pd_iast dX12_split_171 hg4 ?_
      refine pd_topF (fun F5 eF5 => ?_)
      have hf := pd_lt hf eF5
      clear eF5
      refine pd_iincN (L' := fun y => [pd_R x0, pd_N, pd_N, pd_I x3, pd_I y]) dX12_split_172 rfl (by decide) (by decide) (fun _ => rfl) (fun x4_172 ex4_172 => ?_)
      have hf := pd_lt hf ex4_172
      clear ex4_172
      refine pd_goto (tgt := 136) dX12_split_175 (by decide) ?_
      exact pd_weak (L' := [pd_R x0, pd_N, pd_N, pd_I x3, pd_I x4_172]) ⟨Or.inr rfl, Or.inr rfl, Or.inr rfl, Or.inr rfl, Or.inr rfl, trivial⟩ (ih _ _ _ _ hf)
set_option maxHeartbeats 4000000 in
set_option maxRecDepth 100000 in
theorem pkX12_split_b119 (E : pd_E) (l : Launch) {sh : pd_S} {n : Nat} {ρ : Int} {Fz : pd_F}  (F : pd_F) (x0 : Int) (x2 : Int) (t0 : Int) (hf : pfX12_split_b119 sh n  F x0 x2 t0 = some (ρ, Fz)) : pd_V E l (pd_rm 3 0 0) (RX12, cX12_split, 5, (some .int), "split") (pd_Qm E false (some (pd_I ρ)) sh Fz 0 0) false 0 0 sh F 119 [pd_R x0, pd_N, pd_I x2, pd_N, pd_N] [pd_I t0] := by
  unfold pfX12_split_b119 at hf
  refine pd_istore_n (L' := [pd_R x0, pd_N, pd_I x2, pd_I t0, pd_N]) dX12_split_119 rfl (by decide) rfl ?_
  refine pd_aload_n (i := 0) dX12_split_120 rfl rfl ?_
  obtain ⟨hg6, hf⟩ := pd_ig hf
  refine pd_get (x := pd_R (F x0 39)) 39 dX12_split_121 (show vwCl[12]? = some (RX12, TX12, 52) from rfl) pin_12 (by decide) pq_877 hg6 rfl ?_
  refine pd_bipush dX12_split_124 (by decide) ?_
  refine pd_dup2 dX12_split_126 rfl rfl ?_
  obtain ⟨hg7, hf⟩ := pd_ig hf
  refine pd_iald dX12_split_127 hg7 ?_
  refine pd_iconst dX12_split_128 (by decide) ?_
  refine pd_isub dX12_split_129 ?_
  refine pd_iast dX12_split_130 hg7 ?_
  refine pd_topF (fun F8 eF8 => ?_)
  have hf := pd_lt hf eF8
  clear eF8
  refine pd_iconst dX12_split_131 (by decide) ?_
  refine pd_iload_n (i := 2) dX12_split_132 rfl rfl ?_
  refine pd_imul dX12_split_133 ?_
  refine pd_topI (fun x4_134 ex4_134 => ?_)
  have hf := pd_lt hf ex4_134
  clear ex4_134
  refine pd_istore (L' := [pd_R x0, pd_N, pd_I x2, pd_I t0, pd_I x4_134]) dX12_split_134 (by decide) rfl ?_
  exact pd_weak (L' := [pd_R x0, pd_N, pd_N, pd_I t0, pd_I x4_134]) ⟨Or.inr rfl, Or.inr rfl, Or.inl rfl, Or.inr rfl, Or.inr rfl, trivial⟩ (pkX12_split_b136 E l n _ _ _ _ hf)
set_option maxHeartbeats 4000000 in
set_option maxRecDepth 100000 in
theorem pkX12_split_b67 (E : pd_E) (l : Launch) {sh : pd_S} {n : Nat} {ρ : Int} {Fz : pd_F}  (F : pd_F) (x0 : Int) (x1 : Int) (x2 : Int) (hf : pfX12_split_b67 sh n  F x0 x1 x2 = some (ρ, Fz)) : pd_V E l (pd_rm 3 0 0) (RX12, cX12_split, 5, (some .int), "split") (pd_Qm E false (some (pd_I ρ)) sh Fz 0 0) false 0 0 sh F 67 [pd_R x0, pd_I x1, pd_I x2, pd_N, pd_N] [] := by
  unfold pfX12_split_b67 at hf
  refine pd_iload_n (i := 2) dX12_split_67 rfl rfl ?_
  refine pd_if_ge (tgt := 73) dX12_split_68 (by decide) (fun hc => ?_) (fun hc => ?_)
  · have hf := pd_ip hf hc
    refine pd_aload_n (i := 0) dX12_split_73 rfl rfl ?_
    obtain ⟨hg10, hf⟩ := pd_ig hf
    obtain ⟨F9, hr, hf⟩ := pd_ob1 hf
    refine pd_callV (pkX12_keeps l hr) dX12_split_74 pq_909 pq_912 pq_913 (show vwCl[12]? = some (yX12_keeps.cls, TX12, 52) from rfl) hg10 (pd_okm (by omega) (by decide) pq_910 pq_911 (by decide) (show (parseMethodDescriptor yX12_keeps.desc).map (fun d => d.parameters.length) = some 0 from by decide +kernel)) (Nat.le_of_ble_eq_true rfl) rfl ?_
    refine pd_aload_n (i := 0) dX12_split_77 rfl rfl ?_
    refine pd_get (x := pd_R (F9 x0 39)) 39 dX12_split_78 (show vwCl[12]? = some (RX12, TX12, 52) from rfl) pin_12 (by decide) pq_877 hg10 rfl ?_
    refine pd_bipush dX12_split_81 (by decide) ?_
    refine pd_iconst dX12_split_83 (by decide) ?_
    refine pd_iload_n (i := 2) dX12_split_84 rfl rfl ?_
    refine pd_imul dX12_split_85 ?_
    refine pd_iadd dX12_split_86 ?_
    obtain ⟨hg11, hf⟩ := pd_ig hf
    refine pd_iald dX12_split_87 hg11 ?_
    refine pd_iload_n (i := 1) dX12_split_88 rfl rfl ?_
    refine pd_icmp_ne (tgt := 108) dX12_split_89 (by decide) (fun hc => ?_) (fun hc => ?_)
    · have hf := pd_ip hf hc
      refine pd_aload_n (i := 0) dX12_split_108 rfl rfl ?_
      refine pd_get (x := pd_R (F9 x0 39)) 39 dX12_split_109 (show vwCl[12]? = some (RX12, TX12, 52) from rfl) pin_12 (by decide) pq_877 hg10 rfl ?_
      refine pd_bipush dX12_split_112 (by decide) ?_
      refine pd_iconst dX12_split_114 (by decide) ?_
      refine pd_iload_n (i := 2) dX12_split_115 rfl rfl ?_
      refine pd_imul dX12_split_116 ?_
      refine pd_iadd dX12_split_117 ?_
      refine pd_iald dX12_split_118 hg11 ?_
      exact pd_weak (L' := [pd_R x0, pd_N, pd_I x2, pd_N, pd_N]) ⟨Or.inr rfl, Or.inl rfl, Or.inr rfl, Or.inr rfl, Or.inr rfl, trivial⟩ (pkX12_split_b119 E l _ _ _ _ hf)
    · have hf := pd_iq hf hc
      refine pd_aload_n (i := 0) dX12_split_92 rfl rfl ?_
      refine pd_get (x := pd_R (F9 x0 39)) 39 dX12_split_93 (show vwCl[12]? = some (RX12, TX12, 52) from rfl) pin_12 (by decide) pq_877 hg10 rfl ?_
      refine pd_bipush dX12_split_96 (by decide) ?_
      refine pd_iconst dX12_split_98 (by decide) ?_
      refine pd_iload_n (i := 2) dX12_split_99 rfl rfl ?_
      refine pd_imul dX12_split_100 ?_
      refine pd_iadd dX12_split_101 ?_
      refine pd_iconst dX12_split_102 (by decide) ?_
      refine pd_iadd dX12_split_103 ?_
      obtain ⟨hg12, hf⟩ := pd_ig hf
      refine pd_iald dX12_split_104 hg12 ?_
      refine pd_goto (tgt := 119) dX12_split_105 (by decide) ?_
      exact pd_weak (L' := [pd_R x0, pd_N, pd_I x2, pd_N, pd_N]) ⟨Or.inr rfl, Or.inl rfl, Or.inr rfl, Or.inr rfl, Or.inr rfl, trivial⟩ (pkX12_split_b119 E l _ _ _ _ hf)
  · have hf := pd_in_ hf hc
    refine pd_iconst dX12_split_71 (by decide) ?_
    obtain ⟨h1, h2⟩ := pd_inj hf
    subst h1 h2
    exact pd_iret dX12_split_72 rfl (Nat.le_refl 0) (Nat.le_refl 0)
set_option maxHeartbeats 4000000 in
set_option maxRecDepth 100000 in
theorem pkX12_split_b25 (E : pd_E) (l : Launch) {sh : pd_S} {n : Nat} {ρ : Int} {Fz : pd_F}  : ∀ (k : Nat) (F : pd_F) (x0 : Int) (x1 : Int) (x2 : Int), pfX12_split_b25 sh n  k F x0 x1 x2 = some (ρ, Fz) → pd_V E l (pd_rm 3 0 0) (RX12, cX12_split, 5, (some .int), "split") (pd_Qm E false (some (pd_I ρ)) sh Fz 0 0) false 0 0 sh F 25 [pd_R x0, pd_I x1, pd_I x2, pd_N, pd_N] [] := by
  intro k
  induction k with
  | zero => intro F x0 x1 x2 hf; exact absurd hf (by unfold pfX12_split_b25; exact fun h => nomatch h)
  | succ k ih =>
    intro F x0 x1 x2 hf
    unfold pfX12_split_b25 at hf
    refine pd_iload_n (i := 2) dX12_split_25 rfl rfl ?_
    refine pd_if_lt (tgt := 67) dX12_split_26 (by decide) (fun hc => ?_) (fun hc => ?_)
    · have hf := pd_ip hf hc
      exact pd_weak (L' := [pd_R x0, pd_I x1, pd_I x2, pd_N, pd_N]) ⟨Or.inr rfl, Or.inr rfl, Or.inr rfl, Or.inr rfl, Or.inr rfl, trivial⟩ (pkX12_split_b67 E l _ _ _ _ hf)
    · have hf := pd_in_ hf hc
      refine pd_aload_n (i := 0) dX12_split_29 rfl rfl ?_
      obtain ⟨hg13, hf⟩ := pd_ig hf
      refine pd_get (x := pd_R (F x0 39)) 39 dX12_split_30 (show vwCl[12]? = some (RX12, TX12, 52) from rfl) pin_12 (by decide) pq_877 hg13 rfl ?_
      refine pd_bipush dX12_split_33 (by decide) ?_
      refine pd_iconst dX12_split_35 (by decide) ?_
      refine pd_iload_n (i := 2) dX12_split_36 rfl rfl ?_
      refine pd_imul dX12_split_37 ?_
      refine pd_iadd dX12_split_38 ?_
      obtain ⟨hg14, hf⟩ := pd_ig hf
      refine pd_iald dX12_split_39 hg14 ?_
      refine pd_iload_n (i := 1) dX12_split_40 rfl rfl ?_
      refine pd_icmp_eq (tgt := 67) dX12_split_41 (by decide) (fun hc => ?_) (fun hc => ?_)
      · have hf := pd_ip hf hc
        exact pd_weak (L' := [pd_R x0, pd_I x1, pd_I x2, pd_N, pd_N]) ⟨Or.inr rfl, Or.inr rfl, Or.inr rfl, Or.inr rfl, Or.inr rfl, trivial⟩ (pkX12_split_b67 E l _ _ _ _ hf)
      · have hf := pd_in_ hf hc
        refine pd_aload_n (i := 0) dX12_split_44 rfl rfl ?_
        refine pd_get (x := pd_R (F x0 39)) 39 dX12_split_45 (show vwCl[12]? = some (RX12, TX12, 52) from rfl) pin_12 (by decide) pq_877 hg13 rfl ?_
        refine pd_bipush dX12_split_48 (by decide) ?_
        refine pd_iconst dX12_split_50 (by decide) ?_
        refine pd_iload_n (i := 2) dX12_split_51 rfl rfl ?_
        refine pd_imul dX12_split_52 ?_
        refine pd_iadd dX12_split_53 ?_
        refine pd_iconst dX12_split_54 (by decide) ?_
        refine pd_iadd dX12_split_55 ?_
        obtain ⟨hg15, hf⟩ := pd_ig hf
        refine pd_iald dX12_split_56 hg15 ?_
        refine pd_iload_n (i := 1) dX12_split_57 rfl rfl ?_
        refine pd_icmp_eq (tgt := 67) dX12_split_58 (by decide) (fun hc => ?_) (fun hc => ?_)
        · have hf := pd_ip hf hc
          exact pd_weak (L' := [pd_R x0, pd_I x1, pd_I x2, pd_N, pd_N]) ⟨Or.inr rfl, Or.inr rfl, Or.inr rfl, Or.inr rfl, Or.inr rfl, trivial⟩ (pkX12_split_b67 E l _ _ _ _ hf)
        · have hf := pd_in_ hf hc
          refine pd_iincN (L' := fun y => [pd_R x0, pd_I x1, pd_I y, pd_N, pd_N]) dX12_split_61 rfl (by decide) (by decide) (fun _ => rfl) (fun x2_61 ex2_61 => ?_)
          have hf := pd_lt hf ex2_61
          clear ex2_61
          refine pd_goto (tgt := 25) dX12_split_64 (by decide) ?_
          exact pd_weak (L' := [pd_R x0, pd_I x1, pd_I x2_61, pd_N, pd_N]) ⟨Or.inr rfl, Or.inr rfl, Or.inr rfl, Or.inr rfl, Or.inr rfl, trivial⟩ (ih _ _ _ _ hf)
set_option maxHeartbeats 4000000 in
set_option maxRecDepth 100000 in
theorem pkX12_split (l : Launch) {sh : pd_S} {n : Nat} {F : pd_F} {x0 : Int} {x1 : Int} {ρ : Int} {Fz : pd_F} (hf : pfX12_split sh n F x0 x1 = some (ρ, Fz)) : pd_C l yX12_split (Cond.code yX12_split cX12_split 5 (some .int) :: pd_gt) (pd_rm 3 0 0) false 0 0 sh F [pd_R x0, pd_I x1] (some (pd_I ρ)) sh Fz := by
  unfold pfX12_split at hf
  refine pd_body (L := [pd_R x0, pd_I x1, pd_N, pd_N, pd_N]) (by decide +kernel) (Nat.le_of_ble_eq_true rfl) rfl (fun E => ?_)
  refine pd_aload_n (i := 0) dX12_split_0 rfl rfl ?_
  refine pd_iconst dX12_split_1 (by decide) ?_
  obtain ⟨hg16, hf⟩ := pd_ig hf
  refine pd_put (n := 0) (x := pd_I 0) 0 dX12_split_2 (show vwCl[12]? = some (RX12, TX12, 52) from rfl) pin_12 tyX12_ok nmX12 (by decide) pq_704 rfl hg16 rfl pd_nrI pd_ftI ?_
  refine pd_topF (fun F17 eF17 => ?_)
  have hf := pd_lt hf eF17
  clear eF17
  refine pd_aload_n (i := 0) dX12_split_5 rfl rfl ?_
  refine pd_iload_n (i := 1) dX12_split_6 rfl rfl ?_
  obtain ⟨r19, F18, hr, hf⟩ := pd_ob2 hf
  refine pd_callV (pkX12_isPerson l hr) dX12_split_7 pq_938 pq_941 pq_942 (show vwCl[12]? = some (yX12_isPerson.cls, TX12, 52) from rfl) hg16 (pd_okm (by omega) (by decide) pq_939 pq_940 (by decide) (show (parseMethodDescriptor yX12_isPerson.desc).map (fun d => d.parameters.length) = some 1 from by decide +kernel)) (Nat.le_of_ble_eq_true rfl) rfl ?_
  refine pd_if_ne (tgt := 15) dX12_split_10 (by decide) (fun hc => ?_) (fun hc => ?_)
  · have hf := pd_ip hf hc
    refine pd_aload_n (i := 0) dX12_split_15 rfl rfl ?_
    refine pd_get (x := pd_R (F18 x0 39)) 39 dX12_split_16 (show vwCl[12]? = some (RX12, TX12, 52) from rfl) pin_12 (by decide) pq_877 hg16 rfl ?_
    refine pd_bipush dX12_split_19 (by decide) ?_
    obtain ⟨hg20, hf⟩ := pd_ig hf
    refine pd_iald dX12_split_21 hg20 ?_
    refine pd_iconst dX12_split_22 (by decide) ?_
    refine pd_isub dX12_split_23 ?_
    refine pd_topI (fun x2_24 ex2_24 => ?_)
    have hf := pd_lt hf ex2_24
    clear ex2_24
    refine pd_istore_n (L' := [pd_R x0, pd_I x1, pd_I x2_24, pd_N, pd_N]) dX12_split_24 rfl (by decide) rfl ?_
    exact pd_weak (L' := [pd_R x0, pd_I x1, pd_I x2_24, pd_N, pd_N]) ⟨Or.inr rfl, Or.inr rfl, Or.inr rfl, Or.inr rfl, Or.inr rfl, trivial⟩ (pkX12_split_b25 E l n _ _ _ _ hf)
  · have hf := pd_iq hf hc
    refine pd_iconst dX12_split_13 (by decide) ?_
    obtain ⟨h1, h2⟩ := pd_inj hf
    subst h1 h2
    exact pd_iret dX12_split_14 rfl (Nat.le_refl 0) (Nat.le_refl 0)
set_option maxHeartbeats 4000000 in
set_option maxRecDepth 100000 in
theorem pkX12_mark (l : Launch) {sh : pd_S} {n : Nat} {F : pd_F} {x0 : Int} {x1 : Int} {x2 : Int} {ρ : Int} {Fz : pd_F} (hf : pfX12_mark sh n F x0 x1 x2 = some (ρ, Fz)) : pd_C l yX12_mark (Cond.code yX12_mark cX12_mark 3 (some .boolean) :: pd_gt) (pd_rm 3 0 0) false 0 0 sh F [pd_R x0, pd_I x1, pd_I x2] (some (pd_I ρ)) sh Fz := by
  unfold pfX12_mark at hf
  refine pd_body (L := [pd_R x0, pd_I x1, pd_I x2]) (by decide +kernel) (Nat.le_of_ble_eq_true rfl) rfl (fun E => ?_)
  refine pd_aload_n (i := 0) dX12_mark_0 rfl rfl ?_
  refine pd_iconst dX12_mark_1 (by decide) ?_
  obtain ⟨hg1, hf⟩ := pd_ig hf
  refine pd_put (n := 0) (x := pd_I 0) 0 dX12_mark_2 (show vwCl[12]? = some (RX12, TX12, 52) from rfl) pin_12 tyX12_ok nmX12 (by decide) pq_704 rfl hg1 rfl pd_nrI pd_ftI ?_
  refine pd_topF (fun F2 eF2 => ?_)
  have hf := pd_lt hf eF2
  clear eF2
  refine pd_aload_n (i := 0) dX12_mark_5 rfl rfl ?_
  refine pd_iload_n (i := 1) dX12_mark_6 rfl rfl ?_
  obtain ⟨r4, F3, hr, hf⟩ := pd_ob2 hf
  refine pd_callV (pkX12_isMark l hr) dX12_mark_7 pq_948 pq_951 pq_952 (show vwCl[12]? = some (yX12_isMark.cls, TX12, 52) from rfl) hg1 (pd_okm (by omega) (by decide) pq_949 pq_950 (by decide) (show (parseMethodDescriptor yX12_isMark.desc).map (fun d => d.parameters.length) = some 1 from by decide +kernel)) (Nat.le_of_ble_eq_true rfl) rfl ?_
  refine pd_if_ne (tgt := 15) dX12_mark_10 (by decide) (fun hc => ?_) (fun hc => ?_)
  · have hf := pd_ip hf hc
    refine pd_aload_n (i := 0) dX12_mark_15 rfl rfl ?_
    obtain ⟨F5, hr, hf⟩ := pd_ob1 hf
    refine pd_callV (pkX12_keeps l hr) dX12_mark_16 pq_909 pq_912 pq_913 (show vwCl[12]? = some (yX12_keeps.cls, TX12, 52) from rfl) hg1 (pd_okm (by omega) (by decide) pq_910 pq_911 (by decide) (show (parseMethodDescriptor yX12_keeps.desc).map (fun d => d.parameters.length) = some 0 from by decide +kernel)) (Nat.le_of_ble_eq_true rfl) rfl ?_
    refine pd_aload_n (i := 0) dX12_mark_19 rfl rfl ?_
    refine pd_iload_n (i := 1) dX12_mark_20 rfl rfl ?_
    refine pd_iload_n (i := 2) dX12_mark_21 rfl rfl ?_
    obtain ⟨F6, hr, hf⟩ := pd_ob1 hf
    refine pd_callV (pkX12_marks l hr) dX12_mark_22 pq_953 pq_956 pq_957 (show vwCl[12]? = some (yX12_marks.cls, TX12, 52) from rfl) hg1 (pd_okm (by omega) (by decide) pq_954 pq_955 (by decide) (show (parseMethodDescriptor yX12_marks.desc).map (fun d => d.parameters.length) = some 2 from by decide +kernel)) (Nat.le_of_ble_eq_true rfl) rfl ?_
    refine pd_iconst dX12_mark_25 (by decide) ?_
    obtain ⟨h1, h2⟩ := pd_inj hf
    subst h1 h2
    exact pd_zret dX12_mark_26 rfl (by decide) (Nat.le_refl 0) (Nat.le_refl 0)
  · have hf := pd_iq hf hc
    refine pd_iconst dX12_mark_13 (by decide) ?_
    obtain ⟨h1, h2⟩ := pd_inj hf
    subst h1 h2
    exact pd_zret dX12_mark_14 rfl (by decide) (Nat.le_refl 0) (Nat.le_refl 0)
set_option maxHeartbeats 4000000 in
set_option maxRecDepth 100000 in
theorem pkX12_laysFar_b113 (E : pd_E) (l : Launch) {sh : pd_S} {n : Nat} {Fz : pd_F} {c32 : pd_F → Int → Int → Int → Option pd_F} (hL32 : ∀ (F : pd_F) (x0 : Int) (x2 : Int) (x3 : Int), c32 F x0 x2 x3 = some Fz → pd_V E l (pd_rm 4 0 0) (RX12, cX12_laysFar, 6, none, "laysFar") (pd_Qm E false none sh Fz 0 0) false 0 0 sh F 32 [pd_R x0, pd_N, pd_I x2, pd_I x3, pd_N, pd_N] []) {c41 : pd_F → Int → Int → Int → Int → Option pd_F} (hL41 : ∀ (F : pd_F) (x0 : Int) (x2 : Int) (x3 : Int) (x4 : Int), c41 F x0 x2 x3 x4 = some Fz → pd_V E l (pd_rm 4 0 0) (RX12, cX12_laysFar, 6, none, "laysFar") (pd_Qm E false none sh Fz 0 0) false 0 0 sh F 41 [pd_R x0, pd_N, pd_I x2, pd_I x3, pd_I x4, pd_N] []) {c55 : pd_F → Int → Int → Int → Int → Int → Option pd_F} (hL55 : ∀ (F : pd_F) (x0 : Int) (x2 : Int) (x3 : Int) (x4 : Int) (x5 : Int), c55 F x0 x2 x3 x4 x5 = some Fz → pd_V E l (pd_rm 4 0 0) (RX12, cX12_laysFar, 6, none, "laysFar") (pd_Qm E false none sh Fz 0 0) false 0 0 sh F 55 [pd_R x0, pd_N, pd_I x2, pd_I x3, pd_I x4, pd_I x5] []) (F : pd_F) (x0 : Int) (x2 : Int) (x3 : Int) (x4 : Int) (x5 : Int) (hf : pfX12_laysFar_b113 sh n c32 c41 c55 F x0 x2 x3 x4 x5 = some Fz) : pd_V E l (pd_rm 4 0 0) (RX12, cX12_laysFar, 6, none, "laysFar") (pd_Qm E false none sh Fz 0 0) false 0 0 sh F 113 [pd_R x0, pd_N, pd_I x2, pd_I x3, pd_I x4, pd_I x5] [] := by
  unfold pfX12_laysFar_b113 at hf
  refine pd_iincN (L' := fun y => [pd_R x0, pd_N, pd_I x2, pd_I x3, pd_I x4, pd_I y]) dX12_laysFar_113 rfl (by decide) (by decide) (fun _ => rfl) (fun x5_113 ex5_113 => ?_)
  have hf := pd_lt hf ex5_113
  clear ex5_113
  refine pd_goto (tgt := 55) dX12_laysFar_116 (by decide) ?_
  exact pd_weak (L' := [pd_R x0, pd_N, pd_I x2, pd_I x3, pd_I x4, pd_I x5_113]) ⟨Or.inr rfl, Or.inr rfl, Or.inr rfl, Or.inr rfl, Or.inr rfl, Or.inr rfl, trivial⟩ (hL55 _ _ _ _ _ _ hf)
set_option maxHeartbeats 4000000 in
set_option maxRecDepth 100000 in
theorem pkX12_laysFar_b119 (E : pd_E) (l : Launch) {sh : pd_S} {n : Nat} {Fz : pd_F} {c32 : pd_F → Int → Int → Int → Option pd_F} (hL32 : ∀ (F : pd_F) (x0 : Int) (x2 : Int) (x3 : Int), c32 F x0 x2 x3 = some Fz → pd_V E l (pd_rm 4 0 0) (RX12, cX12_laysFar, 6, none, "laysFar") (pd_Qm E false none sh Fz 0 0) false 0 0 sh F 32 [pd_R x0, pd_N, pd_I x2, pd_I x3, pd_N, pd_N] []) {c41 : pd_F → Int → Int → Int → Int → Option pd_F} (hL41 : ∀ (F : pd_F) (x0 : Int) (x2 : Int) (x3 : Int) (x4 : Int), c41 F x0 x2 x3 x4 = some Fz → pd_V E l (pd_rm 4 0 0) (RX12, cX12_laysFar, 6, none, "laysFar") (pd_Qm E false none sh Fz 0 0) false 0 0 sh F 41 [pd_R x0, pd_N, pd_I x2, pd_I x3, pd_I x4, pd_N] []) (F : pd_F) (x0 : Int) (x2 : Int) (x3 : Int) (x4 : Int) (hf : pfX12_laysFar_b119 sh n c32 c41 F x0 x2 x3 x4 = some Fz) : pd_V E l (pd_rm 4 0 0) (RX12, cX12_laysFar, 6, none, "laysFar") (pd_Qm E false none sh Fz 0 0) false 0 0 sh F 119 [pd_R x0, pd_N, pd_I x2, pd_I x3, pd_I x4, pd_N] [] := by
  unfold pfX12_laysFar_b119 at hf
  refine pd_iincN (L' := fun y => [pd_R x0, pd_N, pd_I x2, pd_I x3, pd_I y, pd_N]) dX12_laysFar_119 rfl (by decide) (by decide) (fun _ => rfl) (fun x4_119 ex4_119 => ?_)
  have hf := pd_lt hf ex4_119
  clear ex4_119
  refine pd_goto (tgt := 41) dX12_laysFar_122 (by decide) ?_
  exact pd_weak (L' := [pd_R x0, pd_N, pd_I x2, pd_I x3, pd_I x4_119, pd_N]) ⟨Or.inr rfl, Or.inr rfl, Or.inr rfl, Or.inr rfl, Or.inr rfl, Or.inr rfl, trivial⟩ (hL41 _ _ _ _ _ hf)
set_option maxHeartbeats 4000000 in
set_option maxRecDepth 100000 in
theorem pkX12_laysFar_b55 (E : pd_E) (l : Launch) {sh : pd_S} {n : Nat} {Fz : pd_F} {c32 : pd_F → Int → Int → Int → Option pd_F} (hL32 : ∀ (F : pd_F) (x0 : Int) (x2 : Int) (x3 : Int), c32 F x0 x2 x3 = some Fz → pd_V E l (pd_rm 4 0 0) (RX12, cX12_laysFar, 6, none, "laysFar") (pd_Qm E false none sh Fz 0 0) false 0 0 sh F 32 [pd_R x0, pd_N, pd_I x2, pd_I x3, pd_N, pd_N] []) {c41 : pd_F → Int → Int → Int → Int → Option pd_F} (hL41 : ∀ (F : pd_F) (x0 : Int) (x2 : Int) (x3 : Int) (x4 : Int), c41 F x0 x2 x3 x4 = some Fz → pd_V E l (pd_rm 4 0 0) (RX12, cX12_laysFar, 6, none, "laysFar") (pd_Qm E false none sh Fz 0 0) false 0 0 sh F 41 [pd_R x0, pd_N, pd_I x2, pd_I x3, pd_I x4, pd_N] []) : ∀ (k : Nat) (F : pd_F) (x0 : Int) (x2 : Int) (x3 : Int) (x4 : Int) (x5 : Int), pfX12_laysFar_b55 sh n c32 c41 k F x0 x2 x3 x4 x5 = some Fz → pd_V E l (pd_rm 4 0 0) (RX12, cX12_laysFar, 6, none, "laysFar") (pd_Qm E false none sh Fz 0 0) false 0 0 sh F 55 [pd_R x0, pd_N, pd_I x2, pd_I x3, pd_I x4, pd_I x5] [] := by
  intro k
  induction k with
  | zero => intro F x0 x2 x3 x4 x5 hf; exact absurd hf (by unfold pfX12_laysFar_b55; exact fun h => nomatch h)
  | succ k ih =>
    intro F x0 x2 x3 x4 x5 hf
    unfold pfX12_laysFar_b55 at hf
    refine pd_iload (i := 5) dX12_laysFar_55 rfl ?_
    refine pd_aload_n (i := 0) dX12_laysFar_57 rfl rfl ?_
    obtain ⟨hg1, hf⟩ := pd_ig hf
    refine pd_get (x := pd_R (F x0 14)) 14 dX12_laysFar_58 (show vwCl[12]? = some (RX12, TX12, 52) from rfl) pin_12 (by decide) pq_712 hg1 rfl ?_
    refine pd_iconst dX12_laysFar_61 (by decide) ?_
    obtain ⟨hg2, hf⟩ := pd_ig hf
    refine pd_iald dX12_laysFar_62 hg2 ?_
    refine pd_icmp_ge (tgt := 119) dX12_laysFar_63 (by decide) (fun hc => ?_) (fun hc => ?_)
    · have hf := pd_ip hf hc
      exact pd_weak (L' := [pd_R x0, pd_N, pd_I x2, pd_I x3, pd_I x4, pd_N]) ⟨Or.inr rfl, Or.inr rfl, Or.inr rfl, Or.inr rfl, Or.inr rfl, Or.inl rfl, trivial⟩ (pkX12_laysFar_b119 E l hL32 hL41 _ _ _ _ _ hf)
    · have hf := pd_in_ hf hc
      refine pd_aload_n (i := 0) dX12_laysFar_66 rfl rfl ?_
      refine pd_get (x := pd_R (F x0 47)) 47 dX12_laysFar_67 (show vwCl[12]? = some (RX12, TX12, 52) from rfl) pin_12 (by decide) pq_958 hg1 rfl ?_
      refine pd_iload (i := 4) dX12_laysFar_70 rfl ?_
      obtain ⟨hg3, hf⟩ := pd_ig hf
      refine pd_iald dX12_laysFar_72 hg3 ?_
      refine pd_iload_n (i := 3) dX12_laysFar_73 rfl rfl ?_
      refine pd_icmp_ne (tgt := 119) dX12_laysFar_74 (by decide) (fun hc => ?_) (fun hc => ?_)
      · have hf := pd_ip hf hc
        exact pd_weak (L' := [pd_R x0, pd_N, pd_I x2, pd_I x3, pd_I x4, pd_N]) ⟨Or.inr rfl, Or.inr rfl, Or.inr rfl, Or.inr rfl, Or.inr rfl, Or.inl rfl, trivial⟩ (pkX12_laysFar_b119 E l hL32 hL41 _ _ _ _ _ hf)
      · have hf := pd_iq hf hc
        refine pd_aload_n (i := 0) dX12_laysFar_77 rfl rfl ?_
        refine pd_get (x := pd_R (F x0 47)) 47 dX12_laysFar_78 (show vwCl[12]? = some (RX12, TX12, 52) from rfl) pin_12 (by decide) pq_958 hg1 rfl ?_
        refine pd_iload (i := 5) dX12_laysFar_81 rfl ?_
        obtain ⟨hg4, hf⟩ := pd_ig hf
        refine pd_iald dX12_laysFar_83 hg4 ?_
        refine pd_if_ge (tgt := 113) dX12_laysFar_84 (by decide) (fun hc => ?_) (fun hc => ?_)
        · have hf := pd_ip hf hc
          exact pd_weak (L' := [pd_R x0, pd_N, pd_I x2, pd_I x3, pd_I x4, pd_I x5]) ⟨Or.inr rfl, Or.inr rfl, Or.inr rfl, Or.inr rfl, Or.inr rfl, Or.inr rfl, trivial⟩ (pkX12_laysFar_b113 E l hL32 hL41 ih _ _ _ _ _ _ hf)
        · have hf := pd_in_ hf hc
          refine pd_aload_n (i := 0) dX12_laysFar_87 rfl rfl ?_
          refine pd_iload (i := 4) dX12_laysFar_88 rfl ?_
          refine pd_iload (i := 5) dX12_laysFar_90 rfl ?_
          obtain ⟨r6, F5, hr, hf⟩ := pd_ob2 hf
          refine pd_callV (pkX12_areBeside l hr) dX12_laysFar_92 pq_959 pq_962 pq_963 (show vwCl[12]? = some (yX12_areBeside.cls, TX12, 52) from rfl) hg1 (pd_okm (by omega) (by decide) pq_960 pq_961 (by decide) (show (parseMethodDescriptor yX12_areBeside.desc).map (fun d => d.parameters.length) = some 2 from by decide +kernel)) (Nat.le_of_ble_eq_true rfl) rfl ?_
          refine pd_if_ne (tgt := 101) dX12_laysFar_95 (by decide) (fun hc => ?_) (fun hc => ?_)
          · have hf := pd_ip hf hc
            refine pd_aload_n (i := 0) dX12_laysFar_101 rfl rfl ?_
            refine pd_get (x := pd_R (F5 x0 47)) 47 dX12_laysFar_102 (show vwCl[12]? = some (RX12, TX12, 52) from rfl) pin_12 (by decide) pq_958 hg1 rfl ?_
            refine pd_iload (i := 5) dX12_laysFar_105 rfl ?_
            refine pd_iload_n (i := 3) dX12_laysFar_107 rfl rfl ?_
            refine pd_iconst dX12_laysFar_108 (by decide) ?_
            refine pd_iadd dX12_laysFar_109 ?_
            obtain ⟨hg7, hf⟩ := pd_ig hf
            refine pd_iast dX12_laysFar_110 hg7 ?_
            refine pd_topF (fun F8 eF8 => ?_)
            have hf := pd_lt hf eF8
            clear eF8
            refine pd_iconst dX12_laysFar_111 (by decide) ?_
            refine pd_istore_n (L' := [pd_R x0, pd_N, pd_I 1, pd_I x3, pd_I x4, pd_I x5]) dX12_laysFar_112 rfl (by decide) rfl ?_
            exact pd_weak (L' := [pd_R x0, pd_N, pd_I 1, pd_I x3, pd_I x4, pd_I x5]) ⟨Or.inr rfl, Or.inr rfl, Or.inr rfl, Or.inr rfl, Or.inr rfl, Or.inr rfl, trivial⟩ (pkX12_laysFar_b113 E l hL32 hL41 ih _ _ _ _ _ _ hf)
          · have hf := pd_iq hf hc
            refine pd_goto (tgt := 113) dX12_laysFar_98 (by decide) ?_
            exact pd_weak (L' := [pd_R x0, pd_N, pd_I x2, pd_I x3, pd_I x4, pd_I x5]) ⟨Or.inr rfl, Or.inr rfl, Or.inr rfl, Or.inr rfl, Or.inr rfl, Or.inr rfl, trivial⟩ (pkX12_laysFar_b113 E l hL32 hL41 ih _ _ _ _ _ _ hf)
set_option maxHeartbeats 4000000 in
set_option maxRecDepth 100000 in
theorem pkX12_laysFar_b125 (E : pd_E) (l : Launch) {sh : pd_S} {n : Nat} {Fz : pd_F} {c32 : pd_F → Int → Int → Int → Option pd_F} (hL32 : ∀ (F : pd_F) (x0 : Int) (x2 : Int) (x3 : Int), c32 F x0 x2 x3 = some Fz → pd_V E l (pd_rm 4 0 0) (RX12, cX12_laysFar, 6, none, "laysFar") (pd_Qm E false none sh Fz 0 0) false 0 0 sh F 32 [pd_R x0, pd_N, pd_I x2, pd_I x3, pd_N, pd_N] []) (F : pd_F) (x0 : Int) (x2 : Int) (x3 : Int) (hf : pfX12_laysFar_b125 sh n c32 F x0 x2 x3 = some Fz) : pd_V E l (pd_rm 4 0 0) (RX12, cX12_laysFar, 6, none, "laysFar") (pd_Qm E false none sh Fz 0 0) false 0 0 sh F 125 [pd_R x0, pd_N, pd_I x2, pd_I x3, pd_N, pd_N] [] := by
  unfold pfX12_laysFar_b125 at hf
  refine pd_iincN (L' := fun y => [pd_R x0, pd_N, pd_I x2, pd_I y, pd_N, pd_N]) dX12_laysFar_125 rfl (by decide) (by decide) (fun _ => rfl) (fun x3_125 ex3_125 => ?_)
  have hf := pd_lt hf ex3_125
  clear ex3_125
  refine pd_goto (tgt := 32) dX12_laysFar_128 (by decide) ?_
  exact pd_weak (L' := [pd_R x0, pd_N, pd_I x2, pd_I x3_125, pd_N, pd_N]) ⟨Or.inr rfl, Or.inr rfl, Or.inr rfl, Or.inr rfl, Or.inr rfl, Or.inr rfl, trivial⟩ (hL32 _ _ _ _ hf)
set_option maxHeartbeats 4000000 in
set_option maxRecDepth 100000 in
theorem pkX12_laysFar_b41 (E : pd_E) (l : Launch) {sh : pd_S} {n : Nat} {Fz : pd_F} {c32 : pd_F → Int → Int → Int → Option pd_F} (hL32 : ∀ (F : pd_F) (x0 : Int) (x2 : Int) (x3 : Int), c32 F x0 x2 x3 = some Fz → pd_V E l (pd_rm 4 0 0) (RX12, cX12_laysFar, 6, none, "laysFar") (pd_Qm E false none sh Fz 0 0) false 0 0 sh F 32 [pd_R x0, pd_N, pd_I x2, pd_I x3, pd_N, pd_N] []) : ∀ (k : Nat) (F : pd_F) (x0 : Int) (x2 : Int) (x3 : Int) (x4 : Int), pfX12_laysFar_b41 sh n c32 k F x0 x2 x3 x4 = some Fz → pd_V E l (pd_rm 4 0 0) (RX12, cX12_laysFar, 6, none, "laysFar") (pd_Qm E false none sh Fz 0 0) false 0 0 sh F 41 [pd_R x0, pd_N, pd_I x2, pd_I x3, pd_I x4, pd_N] [] := by
  intro k
  induction k with
  | zero => intro F x0 x2 x3 x4 hf; exact absurd hf (by unfold pfX12_laysFar_b41; exact fun h => nomatch h)
  | succ k ih =>
    intro F x0 x2 x3 x4 hf
    unfold pfX12_laysFar_b41 at hf
    refine pd_iload (i := 4) dX12_laysFar_41 rfl ?_
    refine pd_aload_n (i := 0) dX12_laysFar_43 rfl rfl ?_
    obtain ⟨hg9, hf⟩ := pd_ig hf
    refine pd_get (x := pd_R (F x0 14)) 14 dX12_laysFar_44 (show vwCl[12]? = some (RX12, TX12, 52) from rfl) pin_12 (by decide) pq_712 hg9 rfl ?_
    refine pd_iconst dX12_laysFar_47 (by decide) ?_
    obtain ⟨hg10, hf⟩ := pd_ig hf
    refine pd_iald dX12_laysFar_48 hg10 ?_
    refine pd_icmp_ge (tgt := 125) dX12_laysFar_49 (by decide) (fun hc => ?_) (fun hc => ?_)
    · have hf := pd_ip hf hc
      exact pd_weak (L' := [pd_R x0, pd_N, pd_I x2, pd_I x3, pd_N, pd_N]) ⟨Or.inr rfl, Or.inr rfl, Or.inr rfl, Or.inr rfl, Or.inl rfl, Or.inr rfl, trivial⟩ (pkX12_laysFar_b125 E l hL32 _ _ _ _ hf)
    · have hf := pd_in_ hf hc
      refine pd_iconst dX12_laysFar_52 (by decide) ?_
      refine pd_istore (L' := [pd_R x0, pd_N, pd_I x2, pd_I x3, pd_I x4, pd_I 0]) dX12_laysFar_53 (by decide) rfl ?_
      exact pd_weak (L' := [pd_R x0, pd_N, pd_I x2, pd_I x3, pd_I x4, pd_I 0]) ⟨Or.inr rfl, Or.inr rfl, Or.inr rfl, Or.inr rfl, Or.inr rfl, Or.inr rfl, trivial⟩ (pkX12_laysFar_b55 E l hL32 ih n _ _ _ _ _ _ hf)
set_option maxHeartbeats 4000000 in
set_option maxRecDepth 100000 in
theorem pkX12_laysFar_b32 (E : pd_E) (l : Launch) {sh : pd_S} {n : Nat} {Fz : pd_F}  : ∀ (k : Nat) (F : pd_F) (x0 : Int) (x2 : Int) (x3 : Int), pfX12_laysFar_b32 sh n  k F x0 x2 x3 = some Fz → pd_V E l (pd_rm 4 0 0) (RX12, cX12_laysFar, 6, none, "laysFar") (pd_Qm E false none sh Fz 0 0) false 0 0 sh F 32 [pd_R x0, pd_N, pd_I x2, pd_I x3, pd_N, pd_N] [] := by
  intro k
  induction k with
  | zero => intro F x0 x2 x3 hf; exact absurd hf (by unfold pfX12_laysFar_b32; exact fun h => nomatch h)
  | succ k ih =>
    intro F x0 x2 x3 hf
    unfold pfX12_laysFar_b32 at hf
    refine pd_iload_n (i := 2) dX12_laysFar_32 rfl rfl ?_
    refine pd_if_eq (tgt := 131) dX12_laysFar_33 (by decide) (fun hc => ?_) (fun hc => ?_)
    · have hf := pd_ip hf hc
      obtain h2 := pd_inj1 hf
      subst h2
      exact pd_vret dX12_laysFar_131 rfl (Nat.le_refl 0) (Nat.le_refl 0)
    · have hf := pd_in_ hf hc
      refine pd_iconst dX12_laysFar_36 (by decide) ?_
      refine pd_istore_n (L' := [pd_R x0, pd_N, pd_I 0, pd_I x3, pd_N, pd_N]) dX12_laysFar_37 rfl (by decide) rfl ?_
      refine pd_iconst dX12_laysFar_38 (by decide) ?_
      refine pd_istore (L' := [pd_R x0, pd_N, pd_I 0, pd_I x3, pd_I 0, pd_N]) dX12_laysFar_39 (by decide) rfl ?_
      exact pd_weak (L' := [pd_R x0, pd_N, pd_I 0, pd_I x3, pd_I 0, pd_N]) ⟨Or.inr rfl, Or.inr rfl, Or.inr rfl, Or.inr rfl, Or.inr rfl, Or.inr rfl, trivial⟩ (pkX12_laysFar_b41 E l ih n _ _ _ _ _ hf)
set_option maxHeartbeats 4000000 in
set_option maxRecDepth 100000 in
theorem pkX12_laysFar_b21 (E : pd_E) (l : Launch) {sh : pd_S} {n : Nat} {Fz : pd_F}  (F : pd_F) (x0 : Int) (x1 : Int) (hf : pfX12_laysFar_b21 sh n  F x0 x1 = some Fz) : pd_V E l (pd_rm 4 0 0) (RX12, cX12_laysFar, 6, none, "laysFar") (pd_Qm E false none sh Fz 0 0) false 0 0 sh F 21 [pd_R x0, pd_I x1, pd_N, pd_N, pd_N, pd_N] [] := by
  unfold pfX12_laysFar_b21 at hf
  refine pd_aload_n (i := 0) dX12_laysFar_21 rfl rfl ?_
  obtain ⟨hg11, hf⟩ := pd_ig hf
  refine pd_get (x := pd_R (F x0 47)) 47 dX12_laysFar_22 (show vwCl[12]? = some (RX12, TX12, 52) from rfl) pin_12 (by decide) pq_958 hg11 rfl ?_
  refine pd_iload_n (i := 1) dX12_laysFar_25 rfl rfl ?_
  refine pd_iconst dX12_laysFar_26 (by decide) ?_
  obtain ⟨hg12, hf⟩ := pd_ig hf
  refine pd_iast dX12_laysFar_27 hg12 ?_
  refine pd_topF (fun F13 eF13 => ?_)
  have hf := pd_lt hf eF13
  clear eF13
  refine pd_iconst dX12_laysFar_28 (by decide) ?_
  refine pd_istore_n (L' := [pd_R x0, pd_I x1, pd_I 1, pd_N, pd_N, pd_N]) dX12_laysFar_29 rfl (by decide) rfl ?_
  refine pd_iconst dX12_laysFar_30 (by decide) ?_
  refine pd_istore_n (L' := [pd_R x0, pd_I x1, pd_I 1, pd_I 0, pd_N, pd_N]) dX12_laysFar_31 rfl (by decide) rfl ?_
  exact pd_weak (L' := [pd_R x0, pd_N, pd_I 1, pd_I 0, pd_N, pd_N]) ⟨Or.inr rfl, Or.inl rfl, Or.inr rfl, Or.inr rfl, Or.inr rfl, Or.inr rfl, trivial⟩ (pkX12_laysFar_b32 E l n _ _ _ _ hf)
set_option maxHeartbeats 4000000 in
set_option maxRecDepth 100000 in
theorem pkX12_laysFar_b2 (E : pd_E) (l : Launch) {sh : pd_S} {n : Nat} {Fz : pd_F}  : ∀ (k : Nat) (F : pd_F) (x0 : Int) (x1 : Int) (x2 : Int), pfX12_laysFar_b2 sh n  k F x0 x1 x2 = some Fz → pd_V E l (pd_rm 4 0 0) (RX12, cX12_laysFar, 6, none, "laysFar") (pd_Qm E false none sh Fz 0 0) false 0 0 sh F 2 [pd_R x0, pd_I x1, pd_I x2, pd_N, pd_N, pd_N] [] := by
  intro k
  induction k with
  | zero => intro F x0 x1 x2 hf; exact absurd hf (by unfold pfX12_laysFar_b2; exact fun h => nomatch h)
  | succ k ih =>
    intro F x0 x1 x2 hf
    unfold pfX12_laysFar_b2 at hf
    refine pd_iload_n (i := 2) dX12_laysFar_2 rfl rfl ?_
    refine pd_bipush dX12_laysFar_3 (by decide) ?_
    refine pd_icmp_ge (tgt := 21) dX12_laysFar_5 (by decide) (fun hc => ?_) (fun hc => ?_)
    · have hf := pd_ip hf hc
      exact pd_weak (L' := [pd_R x0, pd_I x1, pd_N, pd_N, pd_N, pd_N]) ⟨Or.inr rfl, Or.inr rfl, Or.inl rfl, Or.inr rfl, Or.inr rfl, Or.inr rfl, trivial⟩ (pkX12_laysFar_b21 E l _ _ _ hf)
    · have hf := pd_in_ hf hc
      refine pd_aload_n (i := 0) dX12_laysFar_8 rfl rfl ?_
      obtain ⟨hg14, hf⟩ := pd_ig hf
      refine pd_get (x := pd_R (F x0 47)) 47 dX12_laysFar_9 (show vwCl[12]? = some (RX12, TX12, 52) from rfl) pin_12 (by decide) pq_958 hg14 rfl ?_
      refine pd_iload_n (i := 2) dX12_laysFar_12 rfl rfl ?_
      refine pd_iconst dX12_laysFar_13 (by decide) ?_
      obtain ⟨hg15, hf⟩ := pd_ig hf
      refine pd_iast dX12_laysFar_14 hg15 ?_
      refine pd_topF (fun F16 eF16 => ?_)
      have hf := pd_lt hf eF16
      clear eF16
      refine pd_iincN (L' := fun y => [pd_R x0, pd_I x1, pd_I y, pd_N, pd_N, pd_N]) dX12_laysFar_15 rfl (by decide) (by decide) (fun _ => rfl) (fun x2_15 ex2_15 => ?_)
      have hf := pd_lt hf ex2_15
      clear ex2_15
      refine pd_goto (tgt := 2) dX12_laysFar_18 (by decide) ?_
      exact pd_weak (L' := [pd_R x0, pd_I x1, pd_I x2_15, pd_N, pd_N, pd_N]) ⟨Or.inr rfl, Or.inr rfl, Or.inr rfl, Or.inr rfl, Or.inr rfl, Or.inr rfl, trivial⟩ (ih _ _ _ _ hf)
set_option maxHeartbeats 4000000 in
set_option maxRecDepth 100000 in
theorem pkX12_laysFar (l : Launch) {sh : pd_S} {n : Nat} {F : pd_F} {x0 : Int} {x1 : Int} {Fz : pd_F} (hf : pfX12_laysFar sh n F x0 x1 = some Fz) : pd_C l yX12_laysFar (Cond.code yX12_laysFar cX12_laysFar 6 none :: pd_gt) (pd_rm 4 0 0) false 0 0 sh F [pd_R x0, pd_I x1] none sh Fz := by
  unfold pfX12_laysFar at hf
  refine pd_body (L := [pd_R x0, pd_I x1, pd_N, pd_N, pd_N, pd_N]) (by decide +kernel) (Nat.le_of_ble_eq_true rfl) rfl (fun E => ?_)
  refine pd_iconst dX12_laysFar_0 (by decide) ?_
  refine pd_istore_n (L' := [pd_R x0, pd_I x1, pd_I 0, pd_N, pd_N, pd_N]) dX12_laysFar_1 rfl (by decide) rfl ?_
  exact pd_weak (L' := [pd_R x0, pd_I x1, pd_I 0, pd_N, pd_N, pd_N]) ⟨Or.inr rfl, Or.inr rfl, Or.inr rfl, Or.inr rfl, Or.inr rfl, Or.inr rfl, trivial⟩ (pkX12_laysFar_b2 E l n _ _ _ _ hf)
set_option maxHeartbeats 4000000 in
set_option maxRecDepth 100000 in
theorem pkX12_claim (l : Launch) {sh : pd_S} {n : Nat} {F : pd_F} {x0 : Int} {x1 : Int} {ρ : Int} {Fz : pd_F} (hf : pfX12_claim sh n F x0 x1 = some (ρ, Fz)) : pd_C l yX12_claim (Cond.code yX12_claim cX12_claim 2 (some .long) :: pd_gt) (pd_rm 4 0 0) false 0 0 sh F [pd_R x0, pd_I x1] (some (pd_J ρ)) sh Fz := by
  unfold pfX12_claim at hf
  refine pd_body (L := [pd_R x0, pd_I x1]) (by decide +kernel) (Nat.le_of_ble_eq_true rfl) rfl (fun E => ?_)
  refine pd_aload_n (i := 0) dX12_claim_0 rfl rfl ?_
  refine pd_iload_n (i := 1) dX12_claim_1 rfl rfl ?_
  obtain ⟨hg3, hf⟩ := pd_ig hf
  obtain ⟨r2, F1, hr, hf⟩ := pd_ob2 hf
  refine pd_callV (pkX12_net l hr) dX12_claim_2 pq_928 pq_931 pq_932 (show vwCl[12]? = some (yX12_net.cls, TX12, 52) from rfl) hg3 (pd_okm (by omega) (by decide) pq_929 pq_930 (by decide) (show (parseMethodDescriptor yX12_net.desc).map (fun d => d.parameters.length) = some 1 from by decide +kernel)) (Nat.le_of_ble_eq_true rfl) rfl ?_
  refine pd_aload_n (i := 0) dX12_claim_5 rfl rfl ?_
  refine pd_iload_n (i := 1) dX12_claim_6 rfl rfl ?_
  refine pd_aload_n (i := 0) dX12_claim_7 rfl rfl ?_
  refine pd_get (x := pd_R (F1 x0 39)) 39 dX12_claim_8 (show vwCl[12]? = some (RX12, TX12, 52) from rfl) pin_12 (by decide) pq_877 hg3 rfl ?_
  refine pd_bipush dX12_claim_11 (by decide) ?_
  obtain ⟨hg4, hf⟩ := pd_ig hf
  refine pd_iald dX12_claim_13 hg4 ?_
  refine pd_i2l dX12_claim_14 ?_
  obtain ⟨r6, F5, hr, hf⟩ := pd_ob2 hf
  refine pd_callV (pkX12_paid l hr) dX12_claim_15 pq_964 pq_967 pq_968 (show vwCl[12]? = some (yX12_paid.cls, TX12, 52) from rfl) hg3 (pd_okm (by omega) (by decide) pq_965 pq_966 (by decide) (show (parseMethodDescriptor yX12_paid.desc).map (fun d => d.parameters.length) = some 2 from by decide +kernel)) (Nat.le_of_ble_eq_true rfl) rfl ?_
  refine pd_lsub dX12_claim_18 ?_
  obtain ⟨h1, h2⟩ := pd_inj hf
  subst h1 h2
  exact pd_lret dX12_claim_19 rfl (Nat.le_refl 0) (Nat.le_refl 0)
set_option maxHeartbeats 4000000 in
set_option maxRecDepth 100000 in
theorem pkX12_paidAll_b5 (E : pd_E) (l : Launch) {sh : pd_S} {n : Nat} {ρ : Int} {Fz : pd_F}  : ∀ (k : Nat) (F : pd_F) (x0 : Int) (x1 : Int) (x3 : Int) (x5 : Int), pfX12_paidAll_b5 sh n  k F x0 x1 x3 x5 = some (ρ, Fz) → pd_V E l (pd_rm 4 0 0) (RX12, cX12_paidAll, 6, (some .long), "paidAll") (pd_Qm E false (some (pd_J ρ)) sh Fz 0 0) false 0 0 sh F 5 [pd_R x0, pd_J x1, pd_N, pd_J x3, pd_N, pd_I x5] [] := by
  intro k
  induction k with
  | zero => intro F x0 x1 x3 x5 hf; exact absurd hf (by unfold pfX12_paidAll_b5; exact fun h => nomatch h)
  | succ k ih =>
    intro F x0 x1 x3 x5 hf
    unfold pfX12_paidAll_b5 at hf
    refine pd_iload (i := 5) dX12_paidAll_5 rfl ?_
    refine pd_aload_n (i := 0) dX12_paidAll_7 rfl rfl ?_
    obtain ⟨hg1, hf⟩ := pd_ig hf
    refine pd_get (x := pd_I (F x0 46)) 46 dX12_paidAll_8 (show vwCl[12]? = some (RX12, TX12, 52) from rfl) pin_12 (by decide) pq_969 hg1 rfl ?_
    refine pd_icmp_ge (tgt := 30) dX12_paidAll_11 (by decide) (fun hc => ?_) (fun hc => ?_)
    · have hf := pd_ip hf hc
      refine pd_lload_n (i := 3) dX12_paidAll_30 rfl rfl ?_
      obtain ⟨h1, h2⟩ := pd_inj hf
      subst h1 h2
      exact pd_lret dX12_paidAll_31 rfl (Nat.le_refl 0) (Nat.le_refl 0)
    · have hf := pd_in_ hf hc
      refine pd_lload_n (i := 3) dX12_paidAll_14 rfl rfl ?_
      refine pd_aload_n (i := 0) dX12_paidAll_15 rfl rfl ?_
      refine pd_iload (i := 5) dX12_paidAll_16 rfl ?_
      refine pd_lload_n (i := 1) dX12_paidAll_18 rfl rfl ?_
      obtain ⟨r3, F2, hr, hf⟩ := pd_ob2 hf
      refine pd_callV (pkX12_paid l hr) dX12_paidAll_19 pq_964 pq_967 pq_968 (show vwCl[12]? = some (yX12_paid.cls, TX12, 52) from rfl) hg1 (pd_okm (by omega) (by decide) pq_965 pq_966 (by decide) (show (parseMethodDescriptor yX12_paid.desc).map (fun d => d.parameters.length) = some 2 from by decide +kernel)) (Nat.le_of_ble_eq_true rfl) rfl ?_
      refine pd_ladd dX12_paidAll_22 ?_
      refine pd_topJ (fun x3_23 ex3_23 => ?_)
      have hf := pd_lt hf ex3_23
      clear ex3_23
      refine pd_lstore_n (L' := [pd_R x0, pd_J x1, pd_N, pd_J x3_23, pd_N, pd_I x5]) dX12_paidAll_23 rfl (by decide) rfl ?_
      refine pd_iincN (L' := fun y => [pd_R x0, pd_J x1, pd_N, pd_J x3_23, pd_N, pd_I y]) dX12_paidAll_24 rfl (by decide) (by decide) (fun _ => rfl) (fun x5_24 ex5_24 => ?_)
      have hf := pd_lt hf ex5_24
      clear ex5_24
      refine pd_goto (tgt := 5) dX12_paidAll_27 (by decide) ?_
      exact pd_weak (L' := [pd_R x0, pd_J x1, pd_N, pd_J x3_23, pd_N, pd_I x5_24]) ⟨Or.inr rfl, Or.inr rfl, Or.inr rfl, Or.inr rfl, Or.inr rfl, Or.inr rfl, trivial⟩ (ih _ _ _ _ _ hf)
set_option maxHeartbeats 4000000 in
set_option maxRecDepth 100000 in
theorem pkX12_paidAll (l : Launch) {sh : pd_S} {n : Nat} {F : pd_F} {x0 : Int} {x1 : Int} {ρ : Int} {Fz : pd_F} (hf : pfX12_paidAll sh n F x0 x1 = some (ρ, Fz)) : pd_C l yX12_paidAll (Cond.code yX12_paidAll cX12_paidAll 6 (some .long) :: pd_gt) (pd_rm 4 0 0) false 0 0 sh F [pd_R x0, pd_J x1] (some (pd_J ρ)) sh Fz := by
  unfold pfX12_paidAll at hf
  refine pd_body (L := [pd_R x0, pd_J x1, pd_N, pd_N, pd_N, pd_N]) (by decide +kernel) (Nat.le_of_ble_eq_true rfl) rfl (fun E => ?_)
  refine pd_lconst (x := 0) dX12_paidAll_0 (by decide) ?_
  refine pd_lstore_n (L' := [pd_R x0, pd_J x1, pd_N, pd_J 0, pd_N, pd_N]) dX12_paidAll_1 rfl (by decide) rfl ?_
  refine pd_iconst dX12_paidAll_2 (by decide) ?_
  refine pd_istore (L' := [pd_R x0, pd_J x1, pd_N, pd_J 0, pd_N, pd_I 0]) dX12_paidAll_3 (by decide) rfl ?_
  exact pd_weak (L' := [pd_R x0, pd_J x1, pd_N, pd_J 0, pd_N, pd_I 0]) ⟨Or.inr rfl, Or.inr rfl, Or.inr rfl, Or.inr rfl, Or.inr rfl, Or.inr rfl, trivial⟩ (pkX12_paidAll_b5 E l n _ _ _ _ _ hf)
set_option maxHeartbeats 4000000 in
set_option maxRecDepth 100000 in
theorem pkX12_laysDepositors_b86 (E : pd_E) (l : Launch) {sh : pd_S} {n : Nat} {Fz : pd_F} {c28 : pd_F → Int → Int → Option pd_F} (hL28 : ∀ (F : pd_F) (x0 : Int) (x1 : Int), c28 F x0 x1 = some Fz → pd_V E l (pd_rm 5 0 0) (RX12, cX12_laysDepositors, 3, none, "laysDepositors") (pd_Qm E false none sh Fz 0 0) false 0 0 sh F 28 [pd_R x0, pd_I x1, pd_N] []) {c57 : pd_F → Int → Int → Int → Option pd_F} (hL57 : ∀ (F : pd_F) (x0 : Int) (x1 : Int) (x2 : Int), c57 F x0 x1 x2 = some Fz → pd_V E l (pd_rm 5 0 0) (RX12, cX12_laysDepositors, 3, none, "laysDepositors") (pd_Qm E false none sh Fz 0 0) false 0 0 sh F 57 [pd_R x0, pd_I x1, pd_I x2] []) (F : pd_F) (x0 : Int) (x1 : Int) (x2 : Int) (hf : pfX12_laysDepositors_b86 sh n c28 c57 F x0 x1 x2 = some Fz) : pd_V E l (pd_rm 5 0 0) (RX12, cX12_laysDepositors, 3, none, "laysDepositors") (pd_Qm E false none sh Fz 0 0) false 0 0 sh F 86 [pd_R x0, pd_I x1, pd_I x2] [] := by
  unfold pfX12_laysDepositors_b86 at hf
  refine pd_iincN (L' := fun y => [pd_R x0, pd_I x1, pd_I y]) dX12_laysDepositors_86 rfl (by decide) (by decide) (fun _ => rfl) (fun x2_86 ex2_86 => ?_)
  have hf := pd_lt hf ex2_86
  clear ex2_86
  refine pd_goto (tgt := 57) dX12_laysDepositors_89 (by decide) ?_
  exact pd_weak (L' := [pd_R x0, pd_I x1, pd_I x2_86]) ⟨Or.inr rfl, Or.inr rfl, Or.inr rfl, trivial⟩ (hL57 _ _ _ _ hf)
set_option maxHeartbeats 4000000 in
set_option maxRecDepth 100000 in
theorem pkX12_laysDepositors_b102 (E : pd_E) (l : Launch) {sh : pd_S} {n : Nat} {Fz : pd_F} {c28 : pd_F → Int → Int → Option pd_F} (hL28 : ∀ (F : pd_F) (x0 : Int) (x1 : Int), c28 F x0 x1 = some Fz → pd_V E l (pd_rm 5 0 0) (RX12, cX12_laysDepositors, 3, none, "laysDepositors") (pd_Qm E false none sh Fz 0 0) false 0 0 sh F 28 [pd_R x0, pd_I x1, pd_N] []) (F : pd_F) (x0 : Int) (x1 : Int) (hf : pfX12_laysDepositors_b102 sh n c28 F x0 x1 = some Fz) : pd_V E l (pd_rm 5 0 0) (RX12, cX12_laysDepositors, 3, none, "laysDepositors") (pd_Qm E false none sh Fz 0 0) false 0 0 sh F 102 [pd_R x0, pd_I x1, pd_N] [] := by
  unfold pfX12_laysDepositors_b102 at hf
  refine pd_iincN (L' := fun y => [pd_R x0, pd_I y, pd_N]) dX12_laysDepositors_102 rfl (by decide) (by decide) (fun _ => rfl) (fun x1_102 ex1_102 => ?_)
  have hf := pd_lt hf ex1_102
  clear ex1_102
  refine pd_goto (tgt := 28) dX12_laysDepositors_105 (by decide) ?_
  exact pd_weak (L' := [pd_R x0, pd_I x1_102, pd_N]) ⟨Or.inr rfl, Or.inr rfl, Or.inr rfl, trivial⟩ (hL28 _ _ _ hf)
set_option maxHeartbeats 4000000 in
set_option maxRecDepth 100000 in
theorem pkX12_laysDepositors_b92 (E : pd_E) (l : Launch) {sh : pd_S} {n : Nat} {Fz : pd_F} {c28 : pd_F → Int → Int → Option pd_F} (hL28 : ∀ (F : pd_F) (x0 : Int) (x1 : Int), c28 F x0 x1 = some Fz → pd_V E l (pd_rm 5 0 0) (RX12, cX12_laysDepositors, 3, none, "laysDepositors") (pd_Qm E false none sh Fz 0 0) false 0 0 sh F 28 [pd_R x0, pd_I x1, pd_N] []) (F : pd_F) (x0 : Int) (x1 : Int) (hf : pfX12_laysDepositors_b92 sh n c28 F x0 x1 = some Fz) : pd_V E l (pd_rm 5 0 0) (RX12, cX12_laysDepositors, 3, none, "laysDepositors") (pd_Qm E false none sh Fz 0 0) false 0 0 sh F 92 [pd_R x0, pd_I x1, pd_N] [] := by
  unfold pfX12_laysDepositors_b92 at hf
  refine pd_aload_n (i := 0) dX12_laysDepositors_92 rfl rfl ?_
  refine pd_dup dX12_laysDepositors_93 rfl ?_
  obtain ⟨hg1, hf⟩ := pd_ig hf
  refine pd_get (x := pd_I (F x0 46)) 46 dX12_laysDepositors_94 (show vwCl[12]? = some (RX12, TX12, 52) from rfl) pin_12 (by decide) pq_969 hg1 rfl ?_
  refine pd_iconst dX12_laysDepositors_97 (by decide) ?_
  refine pd_iadd dX12_laysDepositors_98 ?_
  refine pd_put (n := (pd_w ((F x0 46) + 1))) (x := pd_I (pd_w ((F x0 46) + 1))) 46 dX12_laysDepositors_99 (show vwCl[12]? = some (RX12, TX12, 52) from rfl) pin_12 tyX12_ok nmX12 (by decide) pq_969 rfl hg1 rfl pd_nrI pd_ftI ?_
  refine pd_topF (fun F2 eF2 => ?_)
  have hf := pd_lt hf eF2
  clear eF2
  exact pd_weak (L' := [pd_R x0, pd_I x1, pd_N]) ⟨Or.inr rfl, Or.inr rfl, Or.inr rfl, trivial⟩ (pkX12_laysDepositors_b102 E l hL28 _ _ _ hf)
set_option maxHeartbeats 4000000 in
set_option maxRecDepth 100000 in
theorem pkX12_laysDepositors_b57 (E : pd_E) (l : Launch) {sh : pd_S} {n : Nat} {Fz : pd_F} {c28 : pd_F → Int → Int → Option pd_F} (hL28 : ∀ (F : pd_F) (x0 : Int) (x1 : Int), c28 F x0 x1 = some Fz → pd_V E l (pd_rm 5 0 0) (RX12, cX12_laysDepositors, 3, none, "laysDepositors") (pd_Qm E false none sh Fz 0 0) false 0 0 sh F 28 [pd_R x0, pd_I x1, pd_N] []) : ∀ (k : Nat) (F : pd_F) (x0 : Int) (x1 : Int) (x2 : Int), pfX12_laysDepositors_b57 sh n c28 k F x0 x1 x2 = some Fz → pd_V E l (pd_rm 5 0 0) (RX12, cX12_laysDepositors, 3, none, "laysDepositors") (pd_Qm E false none sh Fz 0 0) false 0 0 sh F 57 [pd_R x0, pd_I x1, pd_I x2] [] := by
  intro k
  induction k with
  | zero => intro F x0 x1 x2 hf; exact absurd hf (by unfold pfX12_laysDepositors_b57; exact fun h => nomatch h)
  | succ k ih =>
    intro F x0 x1 x2 hf
    unfold pfX12_laysDepositors_b57 at hf
    refine pd_iload_n (i := 2) dX12_laysDepositors_57 rfl rfl ?_
    refine pd_aload_n (i := 0) dX12_laysDepositors_58 rfl rfl ?_
    obtain ⟨hg3, hf⟩ := pd_ig hf
    refine pd_get (x := pd_R (F x0 14)) 14 dX12_laysDepositors_59 (show vwCl[12]? = some (RX12, TX12, 52) from rfl) pin_12 (by decide) pq_712 hg3 rfl ?_
    refine pd_iconst dX12_laysDepositors_62 (by decide) ?_
    obtain ⟨hg4, hf⟩ := pd_ig hf
    refine pd_iald dX12_laysDepositors_63 hg4 ?_
    refine pd_icmp_ge (tgt := 92) dX12_laysDepositors_64 (by decide) (fun hc => ?_) (fun hc => ?_)
    · have hf := pd_ip hf hc
      exact pd_weak (L' := [pd_R x0, pd_I x1, pd_N]) ⟨Or.inr rfl, Or.inr rfl, Or.inl rfl, trivial⟩ (pkX12_laysDepositors_b92 E l hL28 _ _ _ hf)
    · have hf := pd_in_ hf hc
      refine pd_aload_n (i := 0) dX12_laysDepositors_67 rfl rfl ?_
      refine pd_get (x := pd_R (F x0 47)) 47 dX12_laysDepositors_68 (show vwCl[12]? = some (RX12, TX12, 52) from rfl) pin_12 (by decide) pq_958 hg3 rfl ?_
      refine pd_iload_n (i := 2) dX12_laysDepositors_71 rfl rfl ?_
      obtain ⟨hg5, hf⟩ := pd_ig hf
      refine pd_iald dX12_laysDepositors_72 hg5 ?_
      refine pd_if_lt (tgt := 86) dX12_laysDepositors_73 (by decide) (fun hc => ?_) (fun hc => ?_)
      · have hf := pd_ip hf hc
        exact pd_weak (L' := [pd_R x0, pd_I x1, pd_I x2]) ⟨Or.inr rfl, Or.inr rfl, Or.inr rfl, trivial⟩ (pkX12_laysDepositors_b86 E l hL28 ih _ _ _ _ hf)
      · have hf := pd_in_ hf hc
        refine pd_aload_n (i := 0) dX12_laysDepositors_76 rfl rfl ?_
        refine pd_get (x := pd_R (F x0 45)) 45 dX12_laysDepositors_77 (show vwCl[12]? = some (RX12, TX12, 52) from rfl) pin_12 (by decide) pq_970 hg3 rfl ?_
        refine pd_iload_n (i := 2) dX12_laysDepositors_80 rfl rfl ?_
        refine pd_aload_n (i := 0) dX12_laysDepositors_81 rfl rfl ?_
        refine pd_get (x := pd_I (F x0 46)) 46 dX12_laysDepositors_82 (show vwCl[12]? = some (RX12, TX12, 52) from rfl) pin_12 (by decide) pq_969 hg3 rfl ?_
        obtain ⟨hg6, hf⟩ := pd_ig hf
        refine pd_iast dX12_laysDepositors_85 hg6 ?_
        refine pd_topF (fun F7 eF7 => ?_)
        have hf := pd_lt hf eF7
        clear eF7
        exact pd_weak (L' := [pd_R x0, pd_I x1, pd_I x2]) ⟨Or.inr rfl, Or.inr rfl, Or.inr rfl, trivial⟩ (pkX12_laysDepositors_b86 E l hL28 ih _ _ _ _ hf)
set_option maxHeartbeats 4000000 in
set_option maxRecDepth 100000 in
theorem pkX12_laysDepositors_b28 (E : pd_E) (l : Launch) {sh : pd_S} {n : Nat} {Fz : pd_F}  : ∀ (k : Nat) (F : pd_F) (x0 : Int) (x1 : Int), pfX12_laysDepositors_b28 sh n  k F x0 x1 = some Fz → pd_V E l (pd_rm 5 0 0) (RX12, cX12_laysDepositors, 3, none, "laysDepositors") (pd_Qm E false none sh Fz 0 0) false 0 0 sh F 28 [pd_R x0, pd_I x1, pd_N] [] := by
  intro k
  induction k with
  | zero => intro F x0 x1 hf; exact absurd hf (by unfold pfX12_laysDepositors_b28; exact fun h => nomatch h)
  | succ k ih =>
    intro F x0 x1 hf
    unfold pfX12_laysDepositors_b28 at hf
    refine pd_iload_n (i := 1) dX12_laysDepositors_28 rfl rfl ?_
    refine pd_aload_n (i := 0) dX12_laysDepositors_29 rfl rfl ?_
    obtain ⟨hg8, hf⟩ := pd_ig hf
    refine pd_get (x := pd_R (F x0 14)) 14 dX12_laysDepositors_30 (show vwCl[12]? = some (RX12, TX12, 52) from rfl) pin_12 (by decide) pq_712 hg8 rfl ?_
    refine pd_iconst dX12_laysDepositors_33 (by decide) ?_
    obtain ⟨hg9, hf⟩ := pd_ig hf
    refine pd_iald dX12_laysDepositors_34 hg9 ?_
    refine pd_icmp_ge (tgt := 108) dX12_laysDepositors_35 (by decide) (fun hc => ?_) (fun hc => ?_)
    · have hf := pd_ip hf hc
      obtain h2 := pd_inj1 hf
      subst h2
      exact pd_vret dX12_laysDepositors_108 rfl (Nat.le_refl 0) (Nat.le_refl 0)
    · have hf := pd_in_ hf hc
      refine pd_aload_n (i := 0) dX12_laysDepositors_38 rfl rfl ?_
      refine pd_get (x := pd_R (F x0 45)) 45 dX12_laysDepositors_39 (show vwCl[12]? = some (RX12, TX12, 52) from rfl) pin_12 (by decide) pq_970 hg8 rfl ?_
      refine pd_iload_n (i := 1) dX12_laysDepositors_42 rfl rfl ?_
      obtain ⟨hg10, hf⟩ := pd_ig hf
      refine pd_iald dX12_laysDepositors_43 hg10 ?_
      refine pd_if_lt (tgt := 50) dX12_laysDepositors_44 (by decide) (fun hc => ?_) (fun hc => ?_)
      · have hf := pd_ip hf hc
        refine pd_aload_n (i := 0) dX12_laysDepositors_50 rfl rfl ?_
        refine pd_iload_n (i := 1) dX12_laysDepositors_51 rfl rfl ?_
        obtain ⟨F11, hr, hf⟩ := pd_ob1 hf
        refine pd_callV (pkX12_laysFar l hr) dX12_laysDepositors_52 pq_971 pq_974 pq_975 (show vwCl[12]? = some (yX12_laysFar.cls, TX12, 52) from rfl) hg8 (pd_okm (by omega) (by decide) pq_972 pq_973 (by decide) (show (parseMethodDescriptor yX12_laysFar.desc).map (fun d => d.parameters.length) = some 1 from by decide +kernel)) (Nat.le_of_ble_eq_true rfl) rfl ?_
        refine pd_iconst dX12_laysDepositors_55 (by decide) ?_
        refine pd_istore_n (L' := [pd_R x0, pd_I x1, pd_I 0]) dX12_laysDepositors_56 rfl (by decide) rfl ?_
        exact pd_weak (L' := [pd_R x0, pd_I x1, pd_I 0]) ⟨Or.inr rfl, Or.inr rfl, Or.inr rfl, trivial⟩ (pkX12_laysDepositors_b57 E l ih n _ _ _ _ hf)
      · have hf := pd_in_ hf hc
        refine pd_goto (tgt := 102) dX12_laysDepositors_47 (by decide) ?_
        exact pd_weak (L' := [pd_R x0, pd_I x1, pd_N]) ⟨Or.inr rfl, Or.inr rfl, Or.inr rfl, trivial⟩ (pkX12_laysDepositors_b102 E l ih _ _ _ hf)
set_option maxHeartbeats 4000000 in
set_option maxRecDepth 100000 in
theorem pkX12_laysDepositors_b26 (E : pd_E) (l : Launch) {sh : pd_S} {n : Nat} {Fz : pd_F}  (F : pd_F) (x0 : Int) (hf : pfX12_laysDepositors_b26 sh n  F x0 = some Fz) : pd_V E l (pd_rm 5 0 0) (RX12, cX12_laysDepositors, 3, none, "laysDepositors") (pd_Qm E false none sh Fz 0 0) false 0 0 sh F 26 [pd_R x0, pd_N, pd_N] [] := by
  unfold pfX12_laysDepositors_b26 at hf
  refine pd_iconst dX12_laysDepositors_26 (by decide) ?_
  refine pd_istore_n (L' := [pd_R x0, pd_I 0, pd_N]) dX12_laysDepositors_27 rfl (by decide) rfl ?_
  exact pd_weak (L' := [pd_R x0, pd_I 0, pd_N]) ⟨Or.inr rfl, Or.inr rfl, Or.inr rfl, trivial⟩ (pkX12_laysDepositors_b28 E l n _ _ _ hf)
set_option maxHeartbeats 4000000 in
set_option maxRecDepth 100000 in
theorem pkX12_laysDepositors_b7 (E : pd_E) (l : Launch) {sh : pd_S} {n : Nat} {Fz : pd_F}  : ∀ (k : Nat) (F : pd_F) (x0 : Int) (x1 : Int), pfX12_laysDepositors_b7 sh n  k F x0 x1 = some Fz → pd_V E l (pd_rm 5 0 0) (RX12, cX12_laysDepositors, 3, none, "laysDepositors") (pd_Qm E false none sh Fz 0 0) false 0 0 sh F 7 [pd_R x0, pd_I x1, pd_N] [] := by
  intro k
  induction k with
  | zero => intro F x0 x1 hf; exact absurd hf (by unfold pfX12_laysDepositors_b7; exact fun h => nomatch h)
  | succ k ih =>
    intro F x0 x1 hf
    unfold pfX12_laysDepositors_b7 at hf
    refine pd_iload_n (i := 1) dX12_laysDepositors_7 rfl rfl ?_
    refine pd_bipush dX12_laysDepositors_8 (by decide) ?_
    refine pd_icmp_ge (tgt := 26) dX12_laysDepositors_10 (by decide) (fun hc => ?_) (fun hc => ?_)
    · have hf := pd_ip hf hc
      exact pd_weak (L' := [pd_R x0, pd_N, pd_N]) ⟨Or.inr rfl, Or.inl rfl, Or.inr rfl, trivial⟩ (pkX12_laysDepositors_b26 E l _ _ hf)
    · have hf := pd_in_ hf hc
      refine pd_aload_n (i := 0) dX12_laysDepositors_13 rfl rfl ?_
      obtain ⟨hg12, hf⟩ := pd_ig hf
      refine pd_get (x := pd_R (F x0 45)) 45 dX12_laysDepositors_14 (show vwCl[12]? = some (RX12, TX12, 52) from rfl) pin_12 (by decide) pq_970 hg12 rfl ?_
      refine pd_iload_n (i := 1) dX12_laysDepositors_17 rfl rfl ?_
      refine pd_iconst dX12_laysDepositors_18 (by decide) ?_
      obtain ⟨hg13, hf⟩ := pd_ig hf
      refine pd_iast dX12_laysDepositors_19 hg13 ?_
      refine pd_topF (fun F14 eF14 => ?_)
      have hf := pd_lt hf eF14
      clear eF14
      refine pd_iincN (L' := fun y => [pd_R x0, pd_I y, pd_N]) dX12_laysDepositors_20 rfl (by decide) (by decide) (fun _ => rfl) (fun x1_20 ex1_20 => ?_)
      have hf := pd_lt hf ex1_20
      clear ex1_20
      refine pd_goto (tgt := 7) dX12_laysDepositors_23 (by decide) ?_
      exact pd_weak (L' := [pd_R x0, pd_I x1_20, pd_N]) ⟨Or.inr rfl, Or.inr rfl, Or.inr rfl, trivial⟩ (ih _ _ _ hf)
set_option maxHeartbeats 4000000 in
set_option maxRecDepth 100000 in
theorem pkX12_laysDepositors (l : Launch) {sh : pd_S} {n : Nat} {F : pd_F} {x0 : Int} {Fz : pd_F} (hf : pfX12_laysDepositors sh n F x0 = some Fz) : pd_C l yX12_laysDepositors (Cond.code yX12_laysDepositors cX12_laysDepositors 3 none :: pd_gt) (pd_rm 5 0 0) false 0 0 sh F [pd_R x0] none sh Fz := by
  unfold pfX12_laysDepositors at hf
  refine pd_body (L := [pd_R x0, pd_N, pd_N]) (by decide +kernel) (Nat.le_of_ble_eq_true rfl) rfl (fun E => ?_)
  refine pd_aload_n (i := 0) dX12_laysDepositors_0 rfl rfl ?_
  refine pd_iconst dX12_laysDepositors_1 (by decide) ?_
  obtain ⟨hg15, hf⟩ := pd_ig hf
  refine pd_put (n := 0) (x := pd_I 0) 46 dX12_laysDepositors_2 (show vwCl[12]? = some (RX12, TX12, 52) from rfl) pin_12 tyX12_ok nmX12 (by decide) pq_969 rfl hg15 rfl pd_nrI pd_ftI ?_
  refine pd_topF (fun F16 eF16 => ?_)
  have hf := pd_lt hf eF16
  clear eF16
  refine pd_iconst dX12_laysDepositors_5 (by decide) ?_
  refine pd_istore_n (L' := [pd_R x0, pd_I 0, pd_N]) dX12_laysDepositors_6 rfl (by decide) rfl ?_
  exact pd_weak (L' := [pd_R x0, pd_I 0, pd_N]) ⟨Or.inr rfl, Or.inr rfl, Or.inr rfl, trivial⟩ (pkX12_laysDepositors_b7 E l n _ _ _ hf)
set_option maxHeartbeats 4000000 in
set_option maxRecDepth 100000 in
theorem pkX12_placeOf_b51 (E : pd_E) (l : Launch) {sh : pd_S} {n : Nat} {ρ : Int} {Fz : pd_F} {c4 : pd_F → Int → Int → Int → Int → Option (Int × pd_F)} (hL4 : ∀ (F : pd_F) (x0 : Int) (x1 : Int) (x2 : Int) (x3 : Int), c4 F x0 x1 x2 x3 = some (ρ, Fz) → pd_V E l (pd_rm 5 0 0) (RX12, cX12_placeOf, 4, (some .int), "placeOf") (pd_Qm E false (some (pd_I ρ)) sh Fz 0 0) false 0 0 sh F 4 [pd_R x0, pd_I x1, pd_I x2, pd_I x3] []) (F : pd_F) (x0 : Int) (x1 : Int) (x3 : Int) (t0 : Int) (t1 : Int) (hf : pfX12_placeOf_b51 sh n c4 F x0 x1 x3 t0 t1 = some (ρ, Fz)) : pd_V E l (pd_rm 5 0 0) (RX12, cX12_placeOf, 4, (some .int), "placeOf") (pd_Qm E false (some (pd_I ρ)) sh Fz 0 0) false 0 0 sh F 51 [pd_R x0, pd_I x1, pd_N, pd_I x3] [pd_I t0, pd_I t1] := by
  unfold pfX12_placeOf_b51 at hf
  refine pd_iadd dX12_placeOf_51 ?_
  refine pd_topI (fun x2_52 ex2_52 => ?_)
  have hf := pd_lt hf ex2_52
  clear ex2_52
  refine pd_istore_n (L' := [pd_R x0, pd_I x1, pd_I x2_52, pd_I x3]) dX12_placeOf_52 rfl (by decide) rfl ?_
  refine pd_iincN (L' := fun y => [pd_R x0, pd_I x1, pd_I x2_52, pd_I y]) dX12_placeOf_53 rfl (by decide) (by decide) (fun _ => rfl) (fun x3_53 ex3_53 => ?_)
  have hf := pd_lt hf ex3_53
  clear ex3_53
  refine pd_goto (tgt := 4) dX12_placeOf_56 (by decide) ?_
  exact pd_weak (L' := [pd_R x0, pd_I x1, pd_I x2_52, pd_I x3_53]) ⟨Or.inr rfl, Or.inr rfl, Or.inr rfl, Or.inr rfl, trivial⟩ (hL4 _ _ _ _ _ hf)
set_option maxHeartbeats 4000000 in
set_option maxRecDepth 100000 in
theorem pkX12_placeOf_b46 (E : pd_E) (l : Launch) {sh : pd_S} {n : Nat} {ρ : Int} {Fz : pd_F} {c4 : pd_F → Int → Int → Int → Int → Option (Int × pd_F)} (hL4 : ∀ (F : pd_F) (x0 : Int) (x1 : Int) (x2 : Int) (x3 : Int), c4 F x0 x1 x2 x3 = some (ρ, Fz) → pd_V E l (pd_rm 5 0 0) (RX12, cX12_placeOf, 4, (some .int), "placeOf") (pd_Qm E false (some (pd_I ρ)) sh Fz 0 0) false 0 0 sh F 4 [pd_R x0, pd_I x1, pd_I x2, pd_I x3] []) (F : pd_F) (x0 : Int) (x1 : Int) (x3 : Int) (t0 : Int) (hf : pfX12_placeOf_b46 sh n c4 F x0 x1 x3 t0 = some (ρ, Fz)) : pd_V E l (pd_rm 5 0 0) (RX12, cX12_placeOf, 4, (some .int), "placeOf") (pd_Qm E false (some (pd_I ρ)) sh Fz 0 0) false 0 0 sh F 46 [pd_R x0, pd_I x1, pd_N, pd_I x3] [pd_I t0] := by
  unfold pfX12_placeOf_b46 at hf
  refine pd_iconst dX12_placeOf_46 (by decide) ?_
  refine pd_goto (tgt := 51) dX12_placeOf_47 (by decide) ?_
  exact pd_weak (L' := [pd_R x0, pd_I x1, pd_N, pd_I x3]) ⟨Or.inr rfl, Or.inr rfl, Or.inr rfl, Or.inr rfl, trivial⟩ (pkX12_placeOf_b51 E l hL4 _ _ _ _ _ _ hf)
set_option maxHeartbeats 4000000 in
set_option maxRecDepth 100000 in
theorem pkX12_placeOf_b50 (E : pd_E) (l : Launch) {sh : pd_S} {n : Nat} {ρ : Int} {Fz : pd_F} {c4 : pd_F → Int → Int → Int → Int → Option (Int × pd_F)} (hL4 : ∀ (F : pd_F) (x0 : Int) (x1 : Int) (x2 : Int) (x3 : Int), c4 F x0 x1 x2 x3 = some (ρ, Fz) → pd_V E l (pd_rm 5 0 0) (RX12, cX12_placeOf, 4, (some .int), "placeOf") (pd_Qm E false (some (pd_I ρ)) sh Fz 0 0) false 0 0 sh F 4 [pd_R x0, pd_I x1, pd_I x2, pd_I x3] []) (F : pd_F) (x0 : Int) (x1 : Int) (x3 : Int) (t0 : Int) (hf : pfX12_placeOf_b50 sh n c4 F x0 x1 x3 t0 = some (ρ, Fz)) : pd_V E l (pd_rm 5 0 0) (RX12, cX12_placeOf, 4, (some .int), "placeOf") (pd_Qm E false (some (pd_I ρ)) sh Fz 0 0) false 0 0 sh F 50 [pd_R x0, pd_I x1, pd_N, pd_I x3] [pd_I t0] := by
  unfold pfX12_placeOf_b50 at hf
  refine pd_iconst dX12_placeOf_50 (by decide) ?_
  exact pd_weak (L' := [pd_R x0, pd_I x1, pd_N, pd_I x3]) ⟨Or.inr rfl, Or.inr rfl, Or.inr rfl, Or.inr rfl, trivial⟩ (pkX12_placeOf_b51 E l hL4 _ _ _ _ _ _ hf)
set_option maxHeartbeats 4000000 in
set_option maxRecDepth 100000 in
theorem pkX12_placeOf_b4 (E : pd_E) (l : Launch) {sh : pd_S} {n : Nat} {ρ : Int} {Fz : pd_F}  : ∀ (k : Nat) (F : pd_F) (x0 : Int) (x1 : Int) (x2 : Int) (x3 : Int), pfX12_placeOf_b4 sh n  k F x0 x1 x2 x3 = some (ρ, Fz) → pd_V E l (pd_rm 5 0 0) (RX12, cX12_placeOf, 4, (some .int), "placeOf") (pd_Qm E false (some (pd_I ρ)) sh Fz 0 0) false 0 0 sh F 4 [pd_R x0, pd_I x1, pd_I x2, pd_I x3] [] := by
  intro k
  induction k with
  | zero => intro F x0 x1 x2 x3 hf; exact absurd hf (by unfold pfX12_placeOf_b4; exact fun h => nomatch h)
  | succ k ih =>
    intro F x0 x1 x2 x3 hf
    unfold pfX12_placeOf_b4 at hf
    refine pd_iload_n (i := 3) dX12_placeOf_4 rfl rfl ?_
    refine pd_aload_n (i := 0) dX12_placeOf_5 rfl rfl ?_
    obtain ⟨hg1, hf⟩ := pd_ig hf
    refine pd_get (x := pd_I (F x0 46)) 46 dX12_placeOf_6 (show vwCl[12]? = some (RX12, TX12, 52) from rfl) pin_12 (by decide) pq_969 hg1 rfl ?_
    refine pd_icmp_ge (tgt := 59) dX12_placeOf_9 (by decide) (fun hc => ?_) (fun hc => ?_)
    · have hf := pd_ip hf hc
      refine pd_iload_n (i := 2) dX12_placeOf_59 rfl rfl ?_
      obtain ⟨h1, h2⟩ := pd_inj hf
      subst h1 h2
      exact pd_iret dX12_placeOf_60 rfl (Nat.le_refl 0) (Nat.le_refl 0)
    · have hf := pd_in_ hf hc
      refine pd_iload_n (i := 2) dX12_placeOf_12 rfl rfl ?_
      refine pd_aload_n (i := 0) dX12_placeOf_13 rfl rfl ?_
      refine pd_iload_n (i := 3) dX12_placeOf_14 rfl rfl ?_
      obtain ⟨r3, F2, hr, hf⟩ := pd_ob2 hf
      refine pd_callV (pkX12_claim l hr) dX12_placeOf_15 pq_976 pq_979 pq_980 (show vwCl[12]? = some (yX12_claim.cls, TX12, 52) from rfl) hg1 (pd_okm (by omega) (by decide) pq_977 pq_978 (by decide) (show (parseMethodDescriptor yX12_claim.desc).map (fun d => d.parameters.length) = some 1 from by decide +kernel)) (Nat.le_of_ble_eq_true rfl) rfl ?_
      refine pd_aload_n (i := 0) dX12_placeOf_18 rfl rfl ?_
      refine pd_iload_n (i := 1) dX12_placeOf_19 rfl rfl ?_
      obtain ⟨r5, F4, hr, hf⟩ := pd_ob2 hf
      refine pd_callV (pkX12_claim l hr) dX12_placeOf_20 pq_976 pq_979 pq_980 (show vwCl[12]? = some (yX12_claim.cls, TX12, 52) from rfl) hg1 (pd_okm (by omega) (by decide) pq_977 pq_978 (by decide) (show (parseMethodDescriptor yX12_claim.desc).map (fun d => d.parameters.length) = some 1 from by decide +kernel)) (Nat.le_of_ble_eq_true rfl) rfl ?_
      refine pd_lcmp_gt (tgt := 46) dX12_placeOf_23 dX12_placeOf_24 (by decide) (fun hc => ?_) (fun hc => ?_)
      · have hf := pd_ip hf hc
        exact pd_weak (L' := [pd_R x0, pd_I x1, pd_N, pd_I x3]) ⟨Or.inr rfl, Or.inr rfl, Or.inl rfl, Or.inr rfl, trivial⟩ (pkX12_placeOf_b46 E l ih _ _ _ _ _ hf)
      · have hf := pd_in_ hf hc
        refine pd_aload_n (i := 0) dX12_placeOf_27 rfl rfl ?_
        refine pd_iload_n (i := 3) dX12_placeOf_28 rfl rfl ?_
        obtain ⟨r7, F6, hr, hf⟩ := pd_ob2 hf
        refine pd_callV (pkX12_claim l hr) dX12_placeOf_29 pq_976 pq_979 pq_980 (show vwCl[12]? = some (yX12_claim.cls, TX12, 52) from rfl) hg1 (pd_okm (by omega) (by decide) pq_977 pq_978 (by decide) (show (parseMethodDescriptor yX12_claim.desc).map (fun d => d.parameters.length) = some 1 from by decide +kernel)) (Nat.le_of_ble_eq_true rfl) rfl ?_
        refine pd_aload_n (i := 0) dX12_placeOf_32 rfl rfl ?_
        refine pd_iload_n (i := 1) dX12_placeOf_33 rfl rfl ?_
        obtain ⟨r9, F8, hr, hf⟩ := pd_ob2 hf
        refine pd_callV (pkX12_claim l hr) dX12_placeOf_34 pq_976 pq_979 pq_980 (show vwCl[12]? = some (yX12_claim.cls, TX12, 52) from rfl) hg1 (pd_okm (by omega) (by decide) pq_977 pq_978 (by decide) (show (parseMethodDescriptor yX12_claim.desc).map (fun d => d.parameters.length) = some 1 from by decide +kernel)) (Nat.le_of_ble_eq_true rfl) rfl ?_
        refine pd_lcmp_ne (tgt := 50) dX12_placeOf_37 dX12_placeOf_38 (by decide) (fun hc => ?_) (fun hc => ?_)
        · have hf := pd_ip hf hc
          exact pd_weak (L' := [pd_R x0, pd_I x1, pd_N, pd_I x3]) ⟨Or.inr rfl, Or.inr rfl, Or.inl rfl, Or.inr rfl, trivial⟩ (pkX12_placeOf_b50 E l ih _ _ _ _ _ hf)
        · have hf := pd_iq hf hc
          refine pd_iload_n (i := 3) dX12_placeOf_41 rfl rfl ?_
          refine pd_iload_n (i := 1) dX12_placeOf_42 rfl rfl ?_
          refine pd_icmp_ge (tgt := 50) dX12_placeOf_43 (by decide) (fun hc => ?_) (fun hc => ?_)
          · have hf := pd_ip hf hc
            exact pd_weak (L' := [pd_R x0, pd_I x1, pd_N, pd_I x3]) ⟨Or.inr rfl, Or.inr rfl, Or.inl rfl, Or.inr rfl, trivial⟩ (pkX12_placeOf_b50 E l ih _ _ _ _ _ hf)
          · have hf := pd_in_ hf hc
            exact pd_weak (L' := [pd_R x0, pd_I x1, pd_N, pd_I x3]) ⟨Or.inr rfl, Or.inr rfl, Or.inl rfl, Or.inr rfl, trivial⟩ (pkX12_placeOf_b46 E l ih _ _ _ _ _ hf)
set_option maxHeartbeats 4000000 in
set_option maxRecDepth 100000 in
theorem pkX12_placeOf (l : Launch) {sh : pd_S} {n : Nat} {F : pd_F} {x0 : Int} {x1 : Int} {ρ : Int} {Fz : pd_F} (hf : pfX12_placeOf sh n F x0 x1 = some (ρ, Fz)) : pd_C l yX12_placeOf (Cond.code yX12_placeOf cX12_placeOf 4 (some .int) :: pd_gt) (pd_rm 5 0 0) false 0 0 sh F [pd_R x0, pd_I x1] (some (pd_I ρ)) sh Fz := by
  unfold pfX12_placeOf at hf
  refine pd_body (L := [pd_R x0, pd_I x1, pd_N, pd_N]) (by decide +kernel) (Nat.le_of_ble_eq_true rfl) rfl (fun E => ?_)
  refine pd_iconst dX12_placeOf_0 (by decide) ?_
  refine pd_istore_n (L' := [pd_R x0, pd_I x1, pd_I 0, pd_N]) dX12_placeOf_1 rfl (by decide) rfl ?_
  refine pd_iconst dX12_placeOf_2 (by decide) ?_
  refine pd_istore_n (L' := [pd_R x0, pd_I x1, pd_I 0, pd_I 0]) dX12_placeOf_3 rfl (by decide) rfl ?_
  exact pd_weak (L' := [pd_R x0, pd_I x1, pd_I 0, pd_I 0]) ⟨Or.inr rfl, Or.inr rfl, Or.inr rfl, Or.inr rfl, trivial⟩ (pkX12_placeOf_b4 E l n _ _ _ _ _ hf)
set_option maxHeartbeats 4000000 in
set_option maxRecDepth 100000 in
theorem pkX12_rank_b68 (E : pd_E) (l : Launch) {sh : pd_S} {n : Nat} {ρ : Int} {Fz : pd_F} {c24 : pd_F → Int → Int → Int → Int → Option (Int × pd_F)} (hL24 : ∀ (F : pd_F) (x0 : Int) (x1 : Int) (x2 : Int) (x4 : Int), c24 F x0 x1 x2 x4 = some (ρ, Fz) → pd_V E l (pd_rm 5 0 0) (RX12, cX12_rank, 5, (some .long), "rank") (pd_Qm E false (some (pd_J ρ)) sh Fz 0 0) false 0 0 sh F 24 [pd_R x0, pd_I x1, pd_J x2, pd_N, pd_I x4] []) (F : pd_F) (x0 : Int) (x1 : Int) (x4 : Int) (t0 : Int) (t1 : Int) (hf : pfX12_rank_b68 sh n c24 F x0 x1 x4 t0 t1 = some (ρ, Fz)) : pd_V E l (pd_rm 5 0 0) (RX12, cX12_rank, 5, (some .long), "rank") (pd_Qm E false (some (pd_J ρ)) sh Fz 0 0) false 0 0 sh F 68 [pd_R x0, pd_I x1, pd_N, pd_N, pd_I x4] [pd_J t0, pd_J t1] := by
  unfold pfX12_rank_b68 at hf
  refine pd_ladd dX12_rank_68 ?_
  refine pd_topJ (fun x2_69 ex2_69 => ?_)
  have hf := pd_lt hf ex2_69
  clear ex2_69
  refine pd_lstore_n (L' := [pd_R x0, pd_I x1, pd_J x2_69, pd_N, pd_I x4]) dX12_rank_69 rfl (by decide) rfl ?_
  refine pd_iincN (L' := fun y => [pd_R x0, pd_I x1, pd_J x2_69, pd_N, pd_I y]) dX12_rank_70 rfl (by decide) (by decide) (fun _ => rfl) (fun x4_70 ex4_70 => ?_)
  have hf := pd_lt hf ex4_70
  clear ex4_70
  refine pd_goto (tgt := 24) dX12_rank_73 (by decide) ?_
  exact pd_weak (L' := [pd_R x0, pd_I x1, pd_J x2_69, pd_N, pd_I x4_70]) ⟨Or.inr rfl, Or.inr rfl, Or.inr rfl, Or.inr rfl, Or.inr rfl, trivial⟩ (hL24 _ _ _ _ _ hf)
set_option maxHeartbeats 4000000 in
set_option maxRecDepth 100000 in
theorem pkX12_rank_b55 (E : pd_E) (l : Launch) {sh : pd_S} {n : Nat} {ρ : Int} {Fz : pd_F} {c24 : pd_F → Int → Int → Int → Int → Option (Int × pd_F)} (hL24 : ∀ (F : pd_F) (x0 : Int) (x1 : Int) (x2 : Int) (x4 : Int), c24 F x0 x1 x2 x4 = some (ρ, Fz) → pd_V E l (pd_rm 5 0 0) (RX12, cX12_rank, 5, (some .long), "rank") (pd_Qm E false (some (pd_J ρ)) sh Fz 0 0) false 0 0 sh F 24 [pd_R x0, pd_I x1, pd_J x2, pd_N, pd_I x4] []) (F : pd_F) (x0 : Int) (x1 : Int) (x4 : Int) (t0 : Int) (t1 : Int) (t2 : Int) (hf : pfX12_rank_b55 sh n c24 F x0 x1 x4 t0 t1 t2 = some (ρ, Fz)) : pd_V E l (pd_rm 5 0 0) (RX12, cX12_rank, 5, (some .long), "rank") (pd_Qm E false (some (pd_J ρ)) sh Fz 0 0) false 0 0 sh F 55 [pd_R x0, pd_I x1, pd_N, pd_N, pd_I x4] [pd_I t0, pd_I t1, pd_J t2] := by
  unfold pfX12_rank_b55 at hf
  refine pd_icmp_ne (tgt := 67) dX12_rank_55 (by decide) (fun hc => ?_) (fun hc => ?_)
  · have hf := pd_ip hf hc
    refine pd_lconst (x := 0) dX12_rank_67 (by decide) ?_
    exact pd_weak (L' := [pd_R x0, pd_I x1, pd_N, pd_N, pd_I x4]) ⟨Or.inr rfl, Or.inr rfl, Or.inr rfl, Or.inr rfl, Or.inr rfl, trivial⟩ (pkX12_rank_b68 E l hL24 _ _ _ _ _ _ hf)
  · have hf := pd_iq hf hc
    refine pd_aload_n (i := 0) dX12_rank_58 rfl rfl ?_
    refine pd_iload (i := 4) dX12_rank_59 rfl ?_
    obtain ⟨hg3, hf⟩ := pd_ig hf
    obtain ⟨r2, F1, hr, hf⟩ := pd_ob2 hf
    refine pd_callV (pkX12_claim l hr) dX12_rank_61 pq_976 pq_979 pq_980 (show vwCl[12]? = some (yX12_claim.cls, TX12, 52) from rfl) hg3 (pd_okm (by omega) (by decide) pq_977 pq_978 (by decide) (show (parseMethodDescriptor yX12_claim.desc).map (fun d => d.parameters.length) = some 1 from by decide +kernel)) (Nat.le_of_ble_eq_true rfl) rfl ?_
    refine pd_goto (tgt := 68) dX12_rank_64 (by decide) ?_
    exact pd_weak (L' := [pd_R x0, pd_I x1, pd_N, pd_N, pd_I x4]) ⟨Or.inr rfl, Or.inr rfl, Or.inr rfl, Or.inr rfl, Or.inr rfl, trivial⟩ (pkX12_rank_b68 E l hL24 _ _ _ _ _ _ hf)
set_option maxHeartbeats 4000000 in
set_option maxRecDepth 100000 in
theorem pkX12_rank_b24 (E : pd_E) (l : Launch) {sh : pd_S} {n : Nat} {ρ : Int} {Fz : pd_F}  : ∀ (k : Nat) (F : pd_F) (x0 : Int) (x1 : Int) (x2 : Int) (x4 : Int), pfX12_rank_b24 sh n  k F x0 x1 x2 x4 = some (ρ, Fz) → pd_V E l (pd_rm 5 0 0) (RX12, cX12_rank, 5, (some .long), "rank") (pd_Qm E false (some (pd_J ρ)) sh Fz 0 0) false 0 0 sh F 24 [pd_R x0, pd_I x1, pd_J x2, pd_N, pd_I x4] [] := by
  intro k
  induction k with
  | zero => intro F x0 x1 x2 x4 hf; exact absurd hf (by unfold pfX12_rank_b24; exact fun h => nomatch h)
  | succ k ih =>
    intro F x0 x1 x2 x4 hf
    unfold pfX12_rank_b24 at hf
    refine pd_iload (i := 4) dX12_rank_24 rfl ?_
    refine pd_aload_n (i := 0) dX12_rank_26 rfl rfl ?_
    obtain ⟨hg4, hf⟩ := pd_ig hf
    refine pd_get (x := pd_I (F x0 46)) 46 dX12_rank_27 (show vwCl[12]? = some (RX12, TX12, 52) from rfl) pin_12 (by decide) pq_969 hg4 rfl ?_
    refine pd_icmp_ge (tgt := 76) dX12_rank_30 (by decide) (fun hc => ?_) (fun hc => ?_)
    · have hf := pd_ip hf hc
      refine pd_lload_n (i := 2) dX12_rank_76 rfl rfl ?_
      obtain ⟨h1, h2⟩ := pd_inj hf
      subst h1 h2
      exact pd_lret dX12_rank_77 rfl (Nat.le_refl 0) (Nat.le_refl 0)
    · have hf := pd_in_ hf hc
      refine pd_iload_n (i := 1) dX12_rank_33 rfl rfl ?_
      refine pd_if_le (tgt := 76) dX12_rank_34 (by decide) (fun hc => ?_) (fun hc => ?_)
      · have hf := pd_ip hf hc
        refine pd_lload_n (i := 2) dX12_rank_76 rfl rfl ?_
        obtain ⟨h1, h2⟩ := pd_inj hf
        subst h1 h2
        exact pd_lret dX12_rank_77 rfl (Nat.le_refl 0) (Nat.le_refl 0)
      · have hf := pd_in_ hf hc
        refine pd_lload_n (i := 2) dX12_rank_37 rfl rfl ?_
        refine pd_aload_n (i := 0) dX12_rank_38 rfl rfl ?_
        refine pd_get (x := pd_R (F x0 51)) 51 dX12_rank_39 (show vwCl[12]? = some (RX12, TX12, 52) from rfl) pin_12 (by decide) pq_981 hg4 rfl ?_
        refine pd_iload (i := 4) dX12_rank_42 rfl ?_
        obtain ⟨hg5, hf⟩ := pd_ig hf
        refine pd_zald dX12_rank_44 hg5 ?_
        refine pd_iload_n (i := 1) dX12_rank_45 rfl rfl ?_
        refine pd_iconst dX12_rank_46 (by decide) ?_
        refine pd_icmp_ne (tgt := 54) dX12_rank_47 (by decide) (fun hc => ?_) (fun hc => ?_)
        · have hf := pd_ip hf hc
          refine pd_iconst dX12_rank_54 (by decide) ?_
          exact pd_weak (L' := [pd_R x0, pd_I x1, pd_N, pd_N, pd_I x4]) ⟨Or.inr rfl, Or.inr rfl, Or.inl rfl, Or.inr rfl, Or.inr rfl, trivial⟩ (pkX12_rank_b55 E l ih _ _ _ _ _ _ _ hf)
        · have hf := pd_iq hf hc
          refine pd_iconst dX12_rank_50 (by decide) ?_
          refine pd_goto (tgt := 55) dX12_rank_51 (by decide) ?_
          exact pd_weak (L' := [pd_R x0, pd_I x1, pd_N, pd_N, pd_I x4]) ⟨Or.inr rfl, Or.inr rfl, Or.inl rfl, Or.inr rfl, Or.inr rfl, trivial⟩ (pkX12_rank_b55 E l ih _ _ _ _ _ _ _ hf)
set_option maxHeartbeats 4000000 in
set_option maxRecDepth 100000 in
theorem pkX12_rank_b20 (E : pd_E) (l : Launch) {sh : pd_S} {n : Nat} {ρ : Int} {Fz : pd_F}  (F : pd_F) (x0 : Int) (x1 : Int) (t0 : Int) (hf : pfX12_rank_b20 sh n  F x0 x1 t0 = some (ρ, Fz)) : pd_V E l (pd_rm 5 0 0) (RX12, cX12_rank, 5, (some .long), "rank") (pd_Qm E false (some (pd_J ρ)) sh Fz 0 0) false 0 0 sh F 20 [pd_R x0, pd_I x1, pd_N, pd_N, pd_N] [pd_J t0] := by
  unfold pfX12_rank_b20 at hf
  refine pd_lstore_n (L' := [pd_R x0, pd_I x1, pd_J t0, pd_N, pd_N]) dX12_rank_20 rfl (by decide) rfl ?_
  refine pd_iconst dX12_rank_21 (by decide) ?_
  refine pd_istore (L' := [pd_R x0, pd_I x1, pd_J t0, pd_N, pd_I 0]) dX12_rank_22 (by decide) rfl ?_
  exact pd_weak (L' := [pd_R x0, pd_I x1, pd_J t0, pd_N, pd_I 0]) ⟨Or.inr rfl, Or.inr rfl, Or.inr rfl, Or.inr rfl, Or.inr rfl, trivial⟩ (pkX12_rank_b24 E l n _ _ _ _ _ hf)
set_option maxHeartbeats 4000000 in
set_option maxRecDepth 100000 in
theorem pkX12_rank (l : Launch) {sh : pd_S} {n : Nat} {F : pd_F} {x0 : Int} {x1 : Int} {ρ : Int} {Fz : pd_F} (hf : pfX12_rank sh n F x0 x1 = some (ρ, Fz)) : pd_C l yX12_rank (Cond.code yX12_rank cX12_rank 5 (some .long) :: pd_gt) (pd_rm 5 0 0) false 0 0 sh F [pd_R x0, pd_I x1] (some (pd_J ρ)) sh Fz := by
  unfold pfX12_rank at hf
  refine pd_body (L := [pd_R x0, pd_I x1, pd_N, pd_N, pd_N]) (by decide +kernel) (Nat.le_of_ble_eq_true rfl) rfl (fun E => ?_)
  refine pd_iload_n (i := 1) dX12_rank_0 rfl rfl ?_
  refine pd_if_ne (tgt := 19) dX12_rank_1 (by decide) (fun hc => ?_) (fun hc => ?_)
  · have hf := pd_ip hf hc
    refine pd_lconst (x := 0) dX12_rank_19 (by decide) ?_
    exact pd_weak (L' := [pd_R x0, pd_I x1, pd_N, pd_N, pd_N]) ⟨Or.inr rfl, Or.inr rfl, Or.inr rfl, Or.inr rfl, Or.inr rfl, trivial⟩ (pkX12_rank_b20 E l _ _ _ _ hf)
  · have hf := pd_iq hf hc
    refine pd_aload_n (i := 0) dX12_rank_4 rfl rfl ?_
    refine pd_aload_n (i := 0) dX12_rank_5 rfl rfl ?_
    obtain ⟨hg6, hf⟩ := pd_ig hf
    refine pd_get (x := pd_R (F x0 39)) 39 dX12_rank_6 (show vwCl[12]? = some (RX12, TX12, 52) from rfl) pin_12 (by decide) pq_877 hg6 rfl ?_
    refine pd_bipush dX12_rank_9 (by decide) ?_
    obtain ⟨hg7, hf⟩ := pd_ig hf
    refine pd_iald dX12_rank_11 hg7 ?_
    refine pd_i2l dX12_rank_12 ?_
    obtain ⟨r9, F8, hr, hf⟩ := pd_ob2 hf
    refine pd_callV (pkX12_paidAll l hr) dX12_rank_13 pq_982 pq_985 pq_986 (show vwCl[12]? = some (yX12_paidAll.cls, TX12, 52) from rfl) hg6 (pd_okm (by omega) (by decide) pq_983 pq_984 (by decide) (show (parseMethodDescriptor yX12_paidAll.desc).map (fun d => d.parameters.length) = some 1 from by decide +kernel)) (Nat.le_of_ble_eq_true rfl) rfl ?_
    refine pd_goto (tgt := 20) dX12_rank_16 (by decide) ?_
    exact pd_weak (L' := [pd_R x0, pd_I x1, pd_N, pd_N, pd_N]) ⟨Or.inr rfl, Or.inr rfl, Or.inr rfl, Or.inr rfl, Or.inr rfl, trivial⟩ (pkX12_rank_b20 E l _ _ _ _ hf)
set_option maxHeartbeats 4000000 in
set_option maxRecDepth 100000 in
theorem pkX12_apart (l : Launch) {sh : pd_S} {n : Nat} {F : pd_F} {x0 : Int} {x1 : Int} {x2 : Int} {ρ : Int} {Fz : pd_F} (hf : pfX12_apart sh n F x0 x1 x2 = some (ρ, Fz)) : pd_C l yX12_apart (Cond.code yX12_apart cX12_apart 3 (some .int) :: pd_gt) (pd_rm 5 0 0) false 0 0 sh F [pd_R x0, pd_I x1, pd_I x2] (some (pd_I ρ)) sh Fz := by
  unfold pfX12_apart at hf
  refine pd_body (L := [pd_R x0, pd_I x1, pd_I x2]) (by decide +kernel) (Nat.le_of_ble_eq_true rfl) rfl (fun E => ?_)
  refine pd_aload_n (i := 0) dX12_apart_0 rfl rfl ?_
  refine pd_iconst dX12_apart_1 (by decide) ?_
  obtain ⟨hg1, hf⟩ := pd_ig hf
  refine pd_put (n := 0) (x := pd_I 0) 0 dX12_apart_2 (show vwCl[12]? = some (RX12, TX12, 52) from rfl) pin_12 tyX12_ok nmX12 (by decide) pq_704 rfl hg1 rfl pd_nrI pd_ftI ?_
  refine pd_topF (fun F2 eF2 => ?_)
  have hf := pd_lt hf eF2
  clear eF2
  refine pd_aload_n (i := 0) dX12_apart_5 rfl rfl ?_
  refine pd_iload_n (i := 1) dX12_apart_6 rfl rfl ?_
  obtain ⟨r4, F3, hr, hf⟩ := pd_ob2 hf
  refine pd_callV (pkX12_isPerson l hr) dX12_apart_7 pq_938 pq_941 pq_942 (show vwCl[12]? = some (yX12_isPerson.cls, TX12, 52) from rfl) hg1 (pd_okm (by omega) (by decide) pq_939 pq_940 (by decide) (show (parseMethodDescriptor yX12_isPerson.desc).map (fun d => d.parameters.length) = some 1 from by decide +kernel)) (Nat.le_of_ble_eq_true rfl) rfl ?_
  refine pd_if_eq (tgt := 21) dX12_apart_10 (by decide) (fun hc => ?_) (fun hc => ?_)
  · have hf := pd_ip hf hc
    refine pd_iconst dX12_apart_21 (by decide) ?_
    obtain ⟨h1, h2⟩ := pd_inj hf
    subst h1 h2
    exact pd_iret dX12_apart_22 rfl (Nat.le_refl 0) (Nat.le_refl 0)
  · have hf := pd_in_ hf hc
    refine pd_aload_n (i := 0) dX12_apart_13 rfl rfl ?_
    refine pd_iload_n (i := 2) dX12_apart_14 rfl rfl ?_
    obtain ⟨r6, F5, hr, hf⟩ := pd_ob2 hf
    refine pd_callV (pkX12_isPerson l hr) dX12_apart_15 pq_938 pq_941 pq_942 (show vwCl[12]? = some (yX12_isPerson.cls, TX12, 52) from rfl) hg1 (pd_okm (by omega) (by decide) pq_939 pq_940 (by decide) (show (parseMethodDescriptor yX12_isPerson.desc).map (fun d => d.parameters.length) = some 1 from by decide +kernel)) (Nat.le_of_ble_eq_true rfl) rfl ?_
    refine pd_if_ne (tgt := 23) dX12_apart_18 (by decide) (fun hc => ?_) (fun hc => ?_)
    · have hf := pd_ip hf hc
      refine pd_aload_n (i := 0) dX12_apart_23 rfl rfl ?_
      refine pd_iload_n (i := 1) dX12_apart_24 rfl rfl ?_
      obtain ⟨F7, hr, hf⟩ := pd_ob1 hf
      refine pd_callV (pkX12_laysFar l hr) dX12_apart_25 pq_971 pq_974 pq_975 (show vwCl[12]? = some (yX12_laysFar.cls, TX12, 52) from rfl) hg1 (pd_okm (by omega) (by decide) pq_972 pq_973 (by decide) (show (parseMethodDescriptor yX12_laysFar.desc).map (fun d => d.parameters.length) = some 1 from by decide +kernel)) (Nat.le_of_ble_eq_true rfl) rfl ?_
      refine pd_aload_n (i := 0) dX12_apart_28 rfl rfl ?_
      refine pd_get (x := pd_R (F7 x0 47)) 47 dX12_apart_29 (show vwCl[12]? = some (RX12, TX12, 52) from rfl) pin_12 (by decide) pq_958 hg1 rfl ?_
      refine pd_iload_n (i := 2) dX12_apart_32 rfl rfl ?_
      obtain ⟨hg8, hf⟩ := pd_ig hf
      refine pd_iald dX12_apart_33 hg8 ?_
      obtain ⟨h1, h2⟩ := pd_inj hf
      subst h1 h2
      exact pd_iret dX12_apart_34 rfl (Nat.le_refl 0) (Nat.le_refl 0)
    · have hf := pd_iq hf hc
      refine pd_iconst dX12_apart_21 (by decide) ?_
      obtain ⟨h1, h2⟩ := pd_inj hf
      subst h1 h2
      exact pd_iret dX12_apart_22 rfl (Nat.le_refl 0) (Nat.le_refl 0)
set_option maxHeartbeats 4000000 in
set_option maxRecDepth 100000 in
theorem pkX12_person (l : Launch) {sh : pd_S} {n : Nat} {F : pd_F} {x0 : Int} {x1 : Int} {x2 : Int} {ρ : Int} {Fz : pd_F} (hf : pfX12_person sh n F x0 x1 x2 = some (ρ, Fz)) : pd_C l yX12_person (Cond.code yX12_person cX12_person 3 (some .int) :: pd_gt) (pd_rm 6 0 0) false 0 0 sh F [pd_R x0, pd_I x1, pd_I x2] (some (pd_I ρ)) sh Fz := by
  unfold pfX12_person at hf
  refine pd_body (L := [pd_R x0, pd_I x1, pd_I x2]) (by decide +kernel) (Nat.le_of_ble_eq_true rfl) rfl (fun E => ?_)
  refine pd_aload_n (i := 0) dX12_person_0 rfl rfl ?_
  refine pd_iconst dX12_person_1 (by decide) ?_
  obtain ⟨hg1, hf⟩ := pd_ig hf
  refine pd_put (n := 0) (x := pd_I 0) 0 dX12_person_2 (show vwCl[12]? = some (RX12, TX12, 52) from rfl) pin_12 tyX12_ok nmX12 (by decide) pq_704 rfl hg1 rfl pd_nrI pd_ftI ?_
  refine pd_topF (fun F2 eF2 => ?_)
  have hf := pd_lt hf eF2
  clear eF2
  refine pd_aload_n (i := 0) dX12_person_5 rfl rfl ?_
  refine pd_iload_n (i := 1) dX12_person_6 rfl rfl ?_
  obtain ⟨r4, F3, hr, hf⟩ := pd_ob2 hf
  refine pd_callV (pkX12_isPerson l hr) dX12_person_7 pq_938 pq_941 pq_942 (show vwCl[12]? = some (yX12_isPerson.cls, TX12, 52) from rfl) hg1 (pd_okm (by omega) (by decide) pq_939 pq_940 (by decide) (show (parseMethodDescriptor yX12_isPerson.desc).map (fun d => d.parameters.length) = some 1 from by decide +kernel)) (Nat.le_of_ble_eq_true rfl) rfl ?_
  refine pd_if_ne (tgt := 15) dX12_person_10 (by decide) (fun hc => ?_) (fun hc => ?_)
  · have hf := pd_ip hf hc
    refine pd_aload_n (i := 0) dX12_person_15 rfl rfl ?_
    obtain ⟨F5, hr, hf⟩ := pd_ob1 hf
    refine pd_callV (pkX12_laysDepositors l hr) dX12_person_16 pq_987 pq_990 pq_991 (show vwCl[12]? = some (yX12_laysDepositors.cls, TX12, 52) from rfl) hg1 (pd_okm (by omega) (by decide) pq_988 pq_989 (by decide) (show (parseMethodDescriptor yX12_laysDepositors.desc).map (fun d => d.parameters.length) = some 0 from by decide +kernel)) (Nat.le_of_ble_eq_true rfl) rfl ?_
    refine pd_iload_n (i := 2) dX12_person_19 rfl rfl ?_
    by_cases hv0 : x2 = 0
    · have hf := pd_ip hf hv0
      refine pd_tabE (v := 0) (off := 44) (tgt := 64) dX12_person_20 hv0 (by decide) (by decide) (by decide) (by decide) ?_
      refine pd_aload_n (i := 0) dX12_person_64 rfl rfl ?_
      refine pd_get (x := pd_R (F5 x0 20)) 20 dX12_person_65 (show vwCl[12]? = some (RX12, TX12, 52) from rfl) pin_12 (by decide) pq_719 hg1 rfl ?_
      refine pd_iload_n (i := 1) dX12_person_68 rfl rfl ?_
      obtain ⟨hg6, hf⟩ := pd_ig hf
      refine pd_iald dX12_person_69 hg6 ?_
      obtain ⟨h1, h2⟩ := pd_inj hf
      subst h1 h2
      exact pd_iret dX12_person_70 rfl (Nat.le_refl 0) (Nat.le_refl 0)
    · have hf := pd_in_ hf hv0
      by_cases hv1 : x2 = 1
      · have hf := pd_ip hf hv1
        refine pd_tabE (v := 1) (off := 51) (tgt := 71) dX12_person_20 hv1 (by decide) (by decide) (by decide) (by decide) ?_
        refine pd_iload_n (i := 2) dX12_person_71 rfl rfl ?_
        refine pd_aload_n (i := 0) dX12_person_72 rfl rfl ?_
        refine pd_get (x := pd_R (F5 x0 20)) 20 dX12_person_73 (show vwCl[12]? = some (RX12, TX12, 52) from rfl) pin_12 (by decide) pq_719 hg1 rfl ?_
        refine pd_iload_n (i := 1) dX12_person_76 rfl rfl ?_
        obtain ⟨hg7, hf⟩ := pd_ig hf
        refine pd_iald dX12_person_77 hg7 ?_
        refine pd_icmp_gt (tgt := 96) dX12_person_78 (by decide) (fun hc => ?_) (fun hc => ?_)
        · have hf := pd_ip hf hc
          refine pd_iconst dX12_person_96 (by decide) ?_
          obtain ⟨h1, h2⟩ := pd_inj hf
          subst h1 h2
          exact pd_iret dX12_person_97 rfl (Nat.le_refl 0) (Nat.le_refl 0)
        · have hf := pd_in_ hf hc
          refine pd_aload_n (i := 0) dX12_person_81 rfl rfl ?_
          refine pd_get (x := pd_R (F5 x0 21)) 21 dX12_person_82 (show vwCl[12]? = some (RX12, TX12, 52) from rfl) pin_12 (by decide) pq_720 hg1 rfl ?_
          refine pd_iconst dX12_person_85 (by decide) ?_
          refine pd_iload_n (i := 1) dX12_person_86 rfl rfl ?_
          refine pd_imul dX12_person_87 ?_
          refine pd_iload_n (i := 2) dX12_person_88 rfl rfl ?_
          refine pd_iadd dX12_person_89 ?_
          refine pd_iconst dX12_person_90 (by decide) ?_
          refine pd_isub dX12_person_91 ?_
          obtain ⟨hg8, hf⟩ := pd_ig hf
          refine pd_iald dX12_person_92 hg8 ?_
          refine pd_goto (tgt := 97) dX12_person_93 (by decide) ?_
          obtain ⟨h1, h2⟩ := pd_inj hf
          subst h1 h2
          exact pd_iret dX12_person_97 rfl (Nat.le_refl 0) (Nat.le_refl 0)
      · have hf := pd_in_ hf hv1
        by_cases hv2 : x2 = 2
        · have hf := pd_ip hf hv2
          refine pd_tabE (v := 2) (off := 51) (tgt := 71) dX12_person_20 hv2 (by decide) (by decide) (by decide) (by decide) ?_
          refine pd_iload_n (i := 2) dX12_person_71 rfl rfl ?_
          refine pd_aload_n (i := 0) dX12_person_72 rfl rfl ?_
          refine pd_get (x := pd_R (F5 x0 20)) 20 dX12_person_73 (show vwCl[12]? = some (RX12, TX12, 52) from rfl) pin_12 (by decide) pq_719 hg1 rfl ?_
          refine pd_iload_n (i := 1) dX12_person_76 rfl rfl ?_
          obtain ⟨hg9, hf⟩ := pd_ig hf
          refine pd_iald dX12_person_77 hg9 ?_
          refine pd_icmp_gt (tgt := 96) dX12_person_78 (by decide) (fun hc => ?_) (fun hc => ?_)
          · have hf := pd_ip hf hc
            refine pd_iconst dX12_person_96 (by decide) ?_
            obtain ⟨h1, h2⟩ := pd_inj hf
            subst h1 h2
            exact pd_iret dX12_person_97 rfl (Nat.le_refl 0) (Nat.le_refl 0)
          · have hf := pd_in_ hf hc
            refine pd_aload_n (i := 0) dX12_person_81 rfl rfl ?_
            refine pd_get (x := pd_R (F5 x0 21)) 21 dX12_person_82 (show vwCl[12]? = some (RX12, TX12, 52) from rfl) pin_12 (by decide) pq_720 hg1 rfl ?_
            refine pd_iconst dX12_person_85 (by decide) ?_
            refine pd_iload_n (i := 1) dX12_person_86 rfl rfl ?_
            refine pd_imul dX12_person_87 ?_
            refine pd_iload_n (i := 2) dX12_person_88 rfl rfl ?_
            refine pd_iadd dX12_person_89 ?_
            refine pd_iconst dX12_person_90 (by decide) ?_
            refine pd_isub dX12_person_91 ?_
            obtain ⟨hg10, hf⟩ := pd_ig hf
            refine pd_iald dX12_person_92 hg10 ?_
            refine pd_goto (tgt := 97) dX12_person_93 (by decide) ?_
            obtain ⟨h1, h2⟩ := pd_inj hf
            subst h1 h2
            exact pd_iret dX12_person_97 rfl (Nat.le_refl 0) (Nat.le_refl 0)
        · have hf := pd_in_ hf hv2
          by_cases hv3 : x2 = 3
          · have hf := pd_ip hf hv3
            refine pd_tabE (v := 3) (off := 51) (tgt := 71) dX12_person_20 hv3 (by decide) (by decide) (by decide) (by decide) ?_
            refine pd_iload_n (i := 2) dX12_person_71 rfl rfl ?_
            refine pd_aload_n (i := 0) dX12_person_72 rfl rfl ?_
            refine pd_get (x := pd_R (F5 x0 20)) 20 dX12_person_73 (show vwCl[12]? = some (RX12, TX12, 52) from rfl) pin_12 (by decide) pq_719 hg1 rfl ?_
            refine pd_iload_n (i := 1) dX12_person_76 rfl rfl ?_
            obtain ⟨hg11, hf⟩ := pd_ig hf
            refine pd_iald dX12_person_77 hg11 ?_
            refine pd_icmp_gt (tgt := 96) dX12_person_78 (by decide) (fun hc => ?_) (fun hc => ?_)
            · have hf := pd_ip hf hc
              refine pd_iconst dX12_person_96 (by decide) ?_
              obtain ⟨h1, h2⟩ := pd_inj hf
              subst h1 h2
              exact pd_iret dX12_person_97 rfl (Nat.le_refl 0) (Nat.le_refl 0)
            · have hf := pd_in_ hf hc
              refine pd_aload_n (i := 0) dX12_person_81 rfl rfl ?_
              refine pd_get (x := pd_R (F5 x0 21)) 21 dX12_person_82 (show vwCl[12]? = some (RX12, TX12, 52) from rfl) pin_12 (by decide) pq_720 hg1 rfl ?_
              refine pd_iconst dX12_person_85 (by decide) ?_
              refine pd_iload_n (i := 1) dX12_person_86 rfl rfl ?_
              refine pd_imul dX12_person_87 ?_
              refine pd_iload_n (i := 2) dX12_person_88 rfl rfl ?_
              refine pd_iadd dX12_person_89 ?_
              refine pd_iconst dX12_person_90 (by decide) ?_
              refine pd_isub dX12_person_91 ?_
              obtain ⟨hg12, hf⟩ := pd_ig hf
              refine pd_iald dX12_person_92 hg12 ?_
              refine pd_goto (tgt := 97) dX12_person_93 (by decide) ?_
              obtain ⟨h1, h2⟩ := pd_inj hf
              subst h1 h2
              exact pd_iret dX12_person_97 rfl (Nat.le_refl 0) (Nat.le_refl 0)
          · have hf := pd_in_ hf hv3
            by_cases hv4 : x2 = 4
            · have hf := pd_ip hf hv4
              refine pd_tabE (v := 4) (off := 78) (tgt := 98) dX12_person_20 hv4 (by decide) (by decide) (by decide) (by decide) ?_
              refine pd_aload_n (i := 0) dX12_person_98 rfl rfl ?_
              refine pd_get (x := pd_R (F5 x0 22)) 22 dX12_person_99 (show vwCl[12]? = some (RX12, TX12, 52) from rfl) pin_12 (by decide) pq_825 hg1 rfl ?_
              refine pd_iload_n (i := 1) dX12_person_102 rfl rfl ?_
              obtain ⟨hg13, hf⟩ := pd_ig hf
              refine pd_zald dX12_person_103 hg13 ?_
              refine pd_if_eq (tgt := 111) dX12_person_104 (by decide) (fun hc => ?_) (fun hc => ?_)
              · have hf := pd_ip hf hc
                refine pd_iconst dX12_person_111 (by decide) ?_
                obtain ⟨h1, h2⟩ := pd_inj hf
                subst h1 h2
                exact pd_iret dX12_person_112 rfl (Nat.le_refl 0) (Nat.le_refl 0)
              · have hf := pd_in_ hf hc
                refine pd_iconst dX12_person_107 (by decide) ?_
                refine pd_goto (tgt := 112) dX12_person_108 (by decide) ?_
                obtain ⟨h1, h2⟩ := pd_inj hf
                subst h1 h2
                exact pd_iret dX12_person_112 rfl (Nat.le_refl 0) (Nat.le_refl 0)
            · have hf := pd_in_ hf hv4
              by_cases hv5 : x2 = 5
              · have hf := pd_ip hf hv5
                refine pd_tabE (v := 5) (off := 93) (tgt := 113) dX12_person_20 hv5 (by decide) (by decide) (by decide) (by decide) ?_
                refine pd_aload_n (i := 0) dX12_person_113 rfl rfl ?_
                refine pd_get (x := pd_R (F5 x0 45)) 45 dX12_person_114 (show vwCl[12]? = some (RX12, TX12, 52) from rfl) pin_12 (by decide) pq_970 hg1 rfl ?_
                refine pd_iload_n (i := 1) dX12_person_117 rfl rfl ?_
                obtain ⟨hg14, hf⟩ := pd_ig hf
                refine pd_iald dX12_person_118 hg14 ?_
                obtain ⟨h1, h2⟩ := pd_inj hf
                subst h1 h2
                exact pd_iret dX12_person_119 rfl (Nat.le_refl 0) (Nat.le_refl 0)
              · have hf := pd_in_ hf hv5
                by_cases hv6 : x2 = 6
                · have hf := pd_ip hf hv6
                  refine pd_tabE (v := 6) (off := 100) (tgt := 120) dX12_person_20 hv6 (by decide) (by decide) (by decide) (by decide) ?_
                  refine pd_aload_n (i := 0) dX12_person_120 rfl rfl ?_
                  refine pd_get (x := pd_R (F5 x0 19)) 19 dX12_person_121 (show vwCl[12]? = some (RX12, TX12, 52) from rfl) pin_12 (by decide) pq_714 hg1 rfl ?_
                  refine pd_iload_n (i := 1) dX12_person_124 rfl rfl ?_
                  obtain ⟨hg15, hf⟩ := pd_ig hf
                  refine pd_lald dX12_person_125 hg15 ?_
                  obtain ⟨r17, F16, hr, hf⟩ := pd_ob2 hf
                  refine pd_callS (pkX12_firstLetter l hr) dX12_person_126 pq_992 pq_995 (pd_okm (by omega) (by decide) pq_993 pq_994 (by decide) (show (parseMethodDescriptor yX12_firstLetter.desc).map (fun d => d.parameters.length) = some 1 from by decide +kernel)) (Nat.le_of_ble_eq_true rfl) rfl ?_
                  obtain ⟨h1, h2⟩ := pd_inj hf
                  subst h1 h2
                  exact pd_iret dX12_person_129 rfl (Nat.le_refl 0) (Nat.le_refl 0)
                · have hf := pd_in_ hf hv6
                  refine pd_tabO (tgt := 130) dX12_person_20 (by omega) (by decide) ?_
                  refine pd_iconst dX12_person_130 (by decide) ?_
                  obtain ⟨h1, h2⟩ := pd_inj hf
                  subst h1 h2
                  exact pd_iret dX12_person_131 rfl (Nat.le_refl 0) (Nat.le_refl 0)
  · have hf := pd_iq hf hc
    refine pd_iconst dX12_person_13 (by decide) ?_
    obtain ⟨h1, h2⟩ := pd_inj hf
    subst h1 h2
    exact pd_iret dX12_person_14 rfl (Nat.le_refl 0) (Nat.le_refl 0)
set_option maxHeartbeats 4000000 in
set_option maxRecDepth 100000 in
theorem pkX12_who_b59 (E : pd_E) (l : Launch) {sh : pd_S} {n : Nat} {ρ : Int} {Fz : pd_F} {c31 : pd_F → Int → Int → Int → Int → Option (Int × pd_F)} (hL31 : ∀ (F : pd_F) (x0 : Int) (x1 : Int) (x2 : Int) (x3 : Int), c31 F x0 x1 x2 x3 = some (ρ, Fz) → pd_V E l (pd_rm 6 0 0) (RX12, cX12_who, 4, (some .int), "who") (pd_Qm E false (some (pd_I ρ)) sh Fz 0 0) false 0 0 sh F 31 [pd_R x0, pd_I x1, pd_I x2, pd_I x3] []) (F : pd_F) (x0 : Int) (x1 : Int) (x3 : Int) (t0 : Int) (t1 : Int) (hf : pfX12_who_b59 sh n c31 F x0 x1 x3 t0 t1 = some (ρ, Fz)) : pd_V E l (pd_rm 6 0 0) (RX12, cX12_who, 4, (some .int), "who") (pd_Qm E false (some (pd_I ρ)) sh Fz 0 0) false 0 0 sh F 59 [pd_R x0, pd_I x1, pd_N, pd_I x3] [pd_I t0, pd_I t1] := by
  unfold pfX12_who_b59 at hf
  refine pd_ior dX12_who_59 ?_
  refine pd_topI (fun x2_60 ex2_60 => ?_)
  have hf := pd_lt hf ex2_60
  clear ex2_60
  refine pd_istore_n (L' := [pd_R x0, pd_I x1, pd_I x2_60, pd_I x3]) dX12_who_60 rfl (by decide) rfl ?_
  refine pd_iincN (L' := fun y => [pd_R x0, pd_I x1, pd_I x2_60, pd_I y]) dX12_who_61 rfl (by decide) (by decide) (fun _ => rfl) (fun x3_61 ex3_61 => ?_)
  have hf := pd_lt hf ex3_61
  clear ex3_61
  refine pd_goto (tgt := 31) dX12_who_64 (by decide) ?_
  exact pd_weak (L' := [pd_R x0, pd_I x1, pd_I x2_60, pd_I x3_61]) ⟨Or.inr rfl, Or.inr rfl, Or.inr rfl, Or.inr rfl, trivial⟩ (hL31 _ _ _ _ _ hf)
set_option maxHeartbeats 4000000 in
set_option maxRecDepth 100000 in
theorem pkX12_who_b31 (E : pd_E) (l : Launch) {sh : pd_S} {n : Nat} {ρ : Int} {Fz : pd_F}  : ∀ (k : Nat) (F : pd_F) (x0 : Int) (x1 : Int) (x2 : Int) (x3 : Int), pfX12_who_b31 sh n  k F x0 x1 x2 x3 = some (ρ, Fz) → pd_V E l (pd_rm 6 0 0) (RX12, cX12_who, 4, (some .int), "who") (pd_Qm E false (some (pd_I ρ)) sh Fz 0 0) false 0 0 sh F 31 [pd_R x0, pd_I x1, pd_I x2, pd_I x3] [] := by
  intro k
  induction k with
  | zero => intro F x0 x1 x2 x3 hf; exact absurd hf (by unfold pfX12_who_b31; exact fun h => nomatch h)
  | succ k ih =>
    intro F x0 x1 x2 x3 hf
    unfold pfX12_who_b31 at hf
    refine pd_iload_n (i := 3) dX12_who_31 rfl rfl ?_
    refine pd_aload_n (i := 0) dX12_who_32 rfl rfl ?_
    obtain ⟨hg1, hf⟩ := pd_ig hf
    refine pd_get (x := pd_R (F x0 14)) 14 dX12_who_33 (show vwCl[12]? = some (RX12, TX12, 52) from rfl) pin_12 (by decide) pq_712 hg1 rfl ?_
    refine pd_iconst dX12_who_36 (by decide) ?_
    obtain ⟨hg2, hf⟩ := pd_ig hf
    refine pd_iald dX12_who_37 hg2 ?_
    refine pd_icmp_ge (tgt := 67) dX12_who_38 (by decide) (fun hc => ?_) (fun hc => ?_)
    · have hf := pd_ip hf hc
      refine pd_iload_n (i := 2) dX12_who_67 rfl rfl ?_
      obtain ⟨h1, h2⟩ := pd_inj hf
      subst h1 h2
      exact pd_iret dX12_who_68 rfl (Nat.le_refl 0) (Nat.le_refl 0)
    · have hf := pd_in_ hf hc
      refine pd_iload_n (i := 2) dX12_who_41 rfl rfl ?_
      refine pd_aload_n (i := 0) dX12_who_42 rfl rfl ?_
      refine pd_get (x := pd_R (F x0 45)) 45 dX12_who_43 (show vwCl[12]? = some (RX12, TX12, 52) from rfl) pin_12 (by decide) pq_970 hg1 rfl ?_
      refine pd_iload_n (i := 3) dX12_who_46 rfl rfl ?_
      obtain ⟨hg3, hf⟩ := pd_ig hf
      refine pd_iald dX12_who_47 hg3 ?_
      refine pd_iload_n (i := 1) dX12_who_48 rfl rfl ?_
      refine pd_icmp_ne (tgt := 58) dX12_who_49 (by decide) (fun hc => ?_) (fun hc => ?_)
      · have hf := pd_ip hf hc
        refine pd_iconst dX12_who_58 (by decide) ?_
        exact pd_weak (L' := [pd_R x0, pd_I x1, pd_N, pd_I x3]) ⟨Or.inr rfl, Or.inr rfl, Or.inl rfl, Or.inr rfl, trivial⟩ (pkX12_who_b59 E l ih _ _ _ _ _ _ hf)
      · have hf := pd_iq hf hc
        refine pd_iconst dX12_who_52 (by decide) ?_
        refine pd_iload_n (i := 3) dX12_who_53 rfl rfl ?_
        refine pd_ishl dX12_who_54 ?_
        refine pd_goto (tgt := 59) dX12_who_55 (by decide) ?_
        exact pd_weak (L' := [pd_R x0, pd_I x1, pd_N, pd_I x3]) ⟨Or.inr rfl, Or.inr rfl, Or.inl rfl, Or.inr rfl, trivial⟩ (pkX12_who_b59 E l ih _ _ _ _ _ _ hf)
set_option maxHeartbeats 4000000 in
set_option maxRecDepth 100000 in
theorem pkX12_who (l : Launch) {sh : pd_S} {n : Nat} {F : pd_F} {x0 : Int} {x1 : Int} {ρ : Int} {Fz : pd_F} (hf : pfX12_who sh n F x0 x1 = some (ρ, Fz)) : pd_C l yX12_who (Cond.code yX12_who cX12_who 4 (some .int) :: pd_gt) (pd_rm 6 0 0) false 0 0 sh F [pd_R x0, pd_I x1] (some (pd_I ρ)) sh Fz := by
  unfold pfX12_who at hf
  refine pd_body (L := [pd_R x0, pd_I x1, pd_N, pd_N]) (by decide +kernel) (Nat.le_of_ble_eq_true rfl) rfl (fun E => ?_)
  refine pd_aload_n (i := 0) dX12_who_0 rfl rfl ?_
  refine pd_iconst dX12_who_1 (by decide) ?_
  obtain ⟨hg4, hf⟩ := pd_ig hf
  refine pd_put (n := 0) (x := pd_I 0) 0 dX12_who_2 (show vwCl[12]? = some (RX12, TX12, 52) from rfl) pin_12 tyX12_ok nmX12 (by decide) pq_704 rfl hg4 rfl pd_nrI pd_ftI ?_
  refine pd_topF (fun F5 eF5 => ?_)
  have hf := pd_lt hf eF5
  clear eF5
  refine pd_aload_n (i := 0) dX12_who_5 rfl rfl ?_
  obtain ⟨F6, hr, hf⟩ := pd_ob1 hf
  refine pd_callV (pkX12_laysDepositors l hr) dX12_who_6 pq_987 pq_990 pq_991 (show vwCl[12]? = some (yX12_laysDepositors.cls, TX12, 52) from rfl) hg4 (pd_okm (by omega) (by decide) pq_988 pq_989 (by decide) (show (parseMethodDescriptor yX12_laysDepositors.desc).map (fun d => d.parameters.length) = some 0 from by decide +kernel)) (Nat.le_of_ble_eq_true rfl) rfl ?_
  refine pd_iload_n (i := 1) dX12_who_9 rfl rfl ?_
  refine pd_i2l dX12_who_10 ?_
  refine pd_lconst (x := 0) dX12_who_11 (by decide) ?_
  refine pd_aload_n (i := 0) dX12_who_12 rfl rfl ?_
  refine pd_get (x := pd_I (F6 x0 46)) 46 dX12_who_13 (show vwCl[12]? = some (RX12, TX12, 52) from rfl) pin_12 (by decide) pq_969 hg4 rfl ?_
  refine pd_iconst dX12_who_16 (by decide) ?_
  refine pd_isub dX12_who_17 ?_
  refine pd_i2l dX12_who_18 ?_
  obtain ⟨r8, F7, hr, hf⟩ := pd_ob2 hf
  refine pd_callS (pkX12_within l hr) dX12_who_19 pq_738 pq_741 (pd_okm (by omega) (by decide) pq_739 pq_740 (by decide) (show (parseMethodDescriptor yX12_within.desc).map (fun d => d.parameters.length) = some 3 from by decide +kernel)) (Nat.le_of_ble_eq_true rfl) rfl ?_
  refine pd_if_ne (tgt := 27) dX12_who_22 (by decide) (fun hc => ?_) (fun hc => ?_)
  · have hf := pd_ip hf hc
    refine pd_iconst dX12_who_27 (by decide) ?_
    refine pd_istore_n (L' := [pd_R x0, pd_I x1, pd_I 0, pd_N]) dX12_who_28 rfl (by decide) rfl ?_
    refine pd_iconst dX12_who_29 (by decide) ?_
    refine pd_istore_n (L' := [pd_R x0, pd_I x1, pd_I 0, pd_I 0]) dX12_who_30 rfl (by decide) rfl ?_
    exact pd_weak (L' := [pd_R x0, pd_I x1, pd_I 0, pd_I 0]) ⟨Or.inr rfl, Or.inr rfl, Or.inr rfl, Or.inr rfl, trivial⟩ (pkX12_who_b31 E l n _ _ _ _ _ hf)
  · have hf := pd_iq hf hc
    refine pd_iconst dX12_who_25 (by decide) ?_
    obtain ⟨h1, h2⟩ := pd_inj hf
    subst h1 h2
    exact pd_iret dX12_who_26 rfl (Nat.le_refl 0) (Nat.le_refl 0)
set_option maxHeartbeats 4000000 in
set_option maxRecDepth 100000 in
theorem pkX12_estateOf_b121 (E : pd_E) (l : Launch) {sh : pd_S} {n : Nat} {ρ : Int} {Fz : pd_F} {c87 : pd_F → Int → Int → Int → Int → Int → Int → Option (Int × pd_F)} (hL87 : ∀ (F : pd_F) (x0 : Int) (x3 : Int) (x4 : Int) (x7 : Int) (x9 : Int) (x11 : Int), c87 F x0 x3 x4 x7 x9 x11 = some (ρ, Fz) → pd_V E l (pd_rm 6 0 0) (RX12, cX12_estateOf, 12, (some .long), "estateOf") (pd_Qm E false (some (pd_J ρ)) sh Fz 0 0) false 0 0 sh F 87 [pd_R x0, pd_N, pd_N, pd_I x3, pd_J x4, pd_N, pd_N, pd_J x7, pd_N, pd_J x9, pd_N, pd_I x11] []) (F : pd_F) (x0 : Int) (x3 : Int) (x4 : Int) (x7 : Int) (x11 : Int) (t0 : Int) (t1 : Int) (hf : pfX12_estateOf_b121 sh n c87 F x0 x3 x4 x7 x11 t0 t1 = some (ρ, Fz)) : pd_V E l (pd_rm 6 0 0) (RX12, cX12_estateOf, 12, (some .long), "estateOf") (pd_Qm E false (some (pd_J ρ)) sh Fz 0 0) false 0 0 sh F 121 [pd_R x0, pd_N, pd_N, pd_I x3, pd_J x4, pd_N, pd_N, pd_J x7, pd_N, pd_N, pd_N, pd_I x11] [pd_J t0, pd_J t1] := by
  unfold pfX12_estateOf_b121 at hf
  refine pd_ladd dX12_estateOf_121 ?_
  refine pd_topJ (fun x9_122 ex9_122 => ?_)
  have hf := pd_lt hf ex9_122
  clear ex9_122
  refine pd_lstore (L' := [pd_R x0, pd_N, pd_N, pd_I x3, pd_J x4, pd_N, pd_N, pd_J x7, pd_N, pd_J x9_122, pd_N, pd_I x11]) dX12_estateOf_122 (by decide) rfl ?_
  refine pd_iincN (L' := fun y => [pd_R x0, pd_N, pd_N, pd_I x3, pd_J x4, pd_N, pd_N, pd_J x7, pd_N, pd_J x9_122, pd_N, pd_I y]) dX12_estateOf_124 rfl (by decide) (by decide) (fun _ => rfl) (fun x11_124 ex11_124 => ?_)
  have hf := pd_lt hf ex11_124
  clear ex11_124
  refine pd_goto (tgt := 87) dX12_estateOf_127 (by decide) ?_
  exact pd_weak (L' := [pd_R x0, pd_N, pd_N, pd_I x3, pd_J x4, pd_N, pd_N, pd_J x7, pd_N, pd_J x9_122, pd_N, pd_I x11_124]) ⟨Or.inr rfl, Or.inr rfl, Or.inr rfl, Or.inr rfl, Or.inr rfl, Or.inr rfl, Or.inr rfl, Or.inr rfl, Or.inr rfl, Or.inr rfl, Or.inr rfl, Or.inr rfl, trivial⟩ (hL87 _ _ _ _ _ _ _ hf)
set_option maxHeartbeats 4000000 in
set_option maxRecDepth 100000 in
theorem pkX12_estateOf_b130 (E : pd_E) (l : Launch) {sh : pd_S} {n : Nat} {ρ : Int} {Fz : pd_F}  (F : pd_F) (x0 : Int) (x3 : Int) (x4 : Int) (x7 : Int) (x9 : Int) (hf : pfX12_estateOf_b130 sh n  F x0 x3 x4 x7 x9 = some (ρ, Fz)) : pd_V E l (pd_rm 6 0 0) (RX12, cX12_estateOf, 12, (some .long), "estateOf") (pd_Qm E false (some (pd_J ρ)) sh Fz 0 0) false 0 0 sh F 130 [pd_R x0, pd_N, pd_N, pd_I x3, pd_J x4, pd_N, pd_N, pd_J x7, pd_N, pd_J x9, pd_N, pd_N] [] := by
  unfold pfX12_estateOf_b130 at hf
  refine pd_lload (i := 4) dX12_estateOf_130 rfl ?_
  refine pd_lload (i := 9) dX12_estateOf_132 rfl ?_
  refine pd_aload_n (i := 0) dX12_estateOf_134 rfl rfl ?_
  refine pd_iload_n (i := 3) dX12_estateOf_135 rfl rfl ?_
  obtain ⟨hg3, hf⟩ := pd_ig hf
  obtain ⟨r2, F1, hr, hf⟩ := pd_ob2 hf
  refine pd_callV (pkX12_claim l hr) dX12_estateOf_136 pq_976 pq_979 pq_980 (show vwCl[12]? = some (yX12_claim.cls, TX12, 52) from rfl) hg3 (pd_okm (by omega) (by decide) pq_977 pq_978 (by decide) (show (parseMethodDescriptor yX12_claim.desc).map (fun d => d.parameters.length) = some 1 from by decide +kernel)) (Nat.le_of_ble_eq_true rfl) rfl ?_
  refine pd_ladd dX12_estateOf_139 ?_
  refine pd_lmul dX12_estateOf_140 ?_
  refine pd_lload (i := 7) dX12_estateOf_141 rfl ?_
  obtain ⟨hg4, hf⟩ := pd_ig hf
  refine pd_ldiv dX12_estateOf_143 hg4 ?_
  refine pd_lload (i := 4) dX12_estateOf_144 rfl ?_
  refine pd_lload (i := 9) dX12_estateOf_146 rfl ?_
  refine pd_lmul dX12_estateOf_148 ?_
  refine pd_lload (i := 7) dX12_estateOf_149 rfl ?_
  refine pd_ldiv dX12_estateOf_151 hg4 ?_
  refine pd_lsub dX12_estateOf_152 ?_
  obtain ⟨h1, h2⟩ := pd_inj hf
  subst h1 h2
  exact pd_lret dX12_estateOf_153 rfl (Nat.le_refl 0) (Nat.le_refl 0)
set_option maxHeartbeats 4000000 in
set_option maxRecDepth 100000 in
theorem pkX12_estateOf_b87 (E : pd_E) (l : Launch) {sh : pd_S} {n : Nat} {ρ : Int} {Fz : pd_F}  : ∀ (k : Nat) (F : pd_F) (x0 : Int) (x3 : Int) (x4 : Int) (x7 : Int) (x9 : Int) (x11 : Int), pfX12_estateOf_b87 sh n  k F x0 x3 x4 x7 x9 x11 = some (ρ, Fz) → pd_V E l (pd_rm 6 0 0) (RX12, cX12_estateOf, 12, (some .long), "estateOf") (pd_Qm E false (some (pd_J ρ)) sh Fz 0 0) false 0 0 sh F 87 [pd_R x0, pd_N, pd_N, pd_I x3, pd_J x4, pd_N, pd_N, pd_J x7, pd_N, pd_J x9, pd_N, pd_I x11] [] := by
  intro k
  induction k with
  | zero => intro F x0 x3 x4 x7 x9 x11 hf; exact absurd hf (by unfold pfX12_estateOf_b87; exact fun h => nomatch h)
  | succ k ih =>
    intro F x0 x3 x4 x7 x9 x11 hf
    unfold pfX12_estateOf_b87 at hf
    refine pd_iload (i := 11) dX12_estateOf_87 rfl ?_
    refine pd_iload_n (i := 3) dX12_estateOf_89 rfl rfl ?_
    refine pd_icmp_ge (tgt := 130) dX12_estateOf_90 (by decide) (fun hc => ?_) (fun hc => ?_)
    · have hf := pd_ip hf hc
      exact pd_weak (L' := [pd_R x0, pd_N, pd_N, pd_I x3, pd_J x4, pd_N, pd_N, pd_J x7, pd_N, pd_J x9, pd_N, pd_N]) ⟨Or.inr rfl, Or.inr rfl, Or.inr rfl, Or.inr rfl, Or.inr rfl, Or.inr rfl, Or.inr rfl, Or.inr rfl, Or.inr rfl, Or.inr rfl, Or.inr rfl, Or.inl rfl, trivial⟩ (pkX12_estateOf_b130 E l _ _ _ _ _ _ hf)
    · have hf := pd_in_ hf hc
      refine pd_lload (i := 9) dX12_estateOf_93 rfl ?_
      refine pd_aload_n (i := 0) dX12_estateOf_95 rfl rfl ?_
      obtain ⟨hg5, hf⟩ := pd_ig hf
      refine pd_get (x := pd_R (F x0 51)) 51 dX12_estateOf_96 (show vwCl[12]? = some (RX12, TX12, 52) from rfl) pin_12 (by decide) pq_981 hg5 rfl ?_
      refine pd_iload (i := 11) dX12_estateOf_99 rfl ?_
      obtain ⟨hg6, hf⟩ := pd_ig hf
      refine pd_zald dX12_estateOf_101 hg6 ?_
      refine pd_aload_n (i := 0) dX12_estateOf_102 rfl rfl ?_
      refine pd_get (x := pd_R (F x0 51)) 51 dX12_estateOf_103 (show vwCl[12]? = some (RX12, TX12, 52) from rfl) pin_12 (by decide) pq_981 hg5 rfl ?_
      refine pd_iload_n (i := 3) dX12_estateOf_106 rfl rfl ?_
      obtain ⟨hg7, hf⟩ := pd_ig hf
      refine pd_zald dX12_estateOf_107 hg7 ?_
      refine pd_icmp_ne (tgt := 120) dX12_estateOf_108 (by decide) (fun hc => ?_) (fun hc => ?_)
      · have hf := pd_ip hf hc
        refine pd_lconst (x := 0) dX12_estateOf_120 (by decide) ?_
        exact pd_weak (L' := [pd_R x0, pd_N, pd_N, pd_I x3, pd_J x4, pd_N, pd_N, pd_J x7, pd_N, pd_N, pd_N, pd_I x11]) ⟨Or.inr rfl, Or.inr rfl, Or.inr rfl, Or.inr rfl, Or.inr rfl, Or.inr rfl, Or.inr rfl, Or.inr rfl, Or.inr rfl, Or.inl rfl, Or.inr rfl, Or.inr rfl, trivial⟩ (pkX12_estateOf_b121 E l ih _ _ _ _ _ _ _ _ hf)
      · have hf := pd_iq hf hc
        refine pd_aload_n (i := 0) dX12_estateOf_111 rfl rfl ?_
        refine pd_iload (i := 11) dX12_estateOf_112 rfl ?_
        obtain ⟨r9, F8, hr, hf⟩ := pd_ob2 hf
        refine pd_callV (pkX12_claim l hr) dX12_estateOf_114 pq_976 pq_979 pq_980 (show vwCl[12]? = some (yX12_claim.cls, TX12, 52) from rfl) hg5 (pd_okm (by omega) (by decide) pq_977 pq_978 (by decide) (show (parseMethodDescriptor yX12_claim.desc).map (fun d => d.parameters.length) = some 1 from by decide +kernel)) (Nat.le_of_ble_eq_true rfl) rfl ?_
        refine pd_goto (tgt := 121) dX12_estateOf_117 (by decide) ?_
        exact pd_weak (L' := [pd_R x0, pd_N, pd_N, pd_I x3, pd_J x4, pd_N, pd_N, pd_J x7, pd_N, pd_N, pd_N, pd_I x11]) ⟨Or.inr rfl, Or.inr rfl, Or.inr rfl, Or.inr rfl, Or.inr rfl, Or.inr rfl, Or.inr rfl, Or.inr rfl, Or.inr rfl, Or.inl rfl, Or.inr rfl, Or.inr rfl, trivial⟩ (pkX12_estateOf_b121 E l ih _ _ _ _ _ _ _ _ hf)
set_option maxHeartbeats 4000000 in
set_option maxRecDepth 100000 in
theorem pkX12_estateOf_b50 (E : pd_E) (l : Launch) {sh : pd_S} {n : Nat} {ρ : Int} {Fz : pd_F}  (F : pd_F) (x0 : Int) (x3 : Int) (x4 : Int) (x6 : Int) (hf : pfX12_estateOf_b50 sh n  F x0 x3 x4 x6 = some (ρ, Fz)) : pd_V E l (pd_rm 6 0 0) (RX12, cX12_estateOf, 12, (some .long), "estateOf") (pd_Qm E false (some (pd_J ρ)) sh Fz 0 0) false 0 0 sh F 50 [pd_R x0, pd_N, pd_N, pd_I x3, pd_J x4, pd_N, pd_I x6, pd_N, pd_N, pd_N, pd_N, pd_N] [] := by
  unfold pfX12_estateOf_b50 at hf
  refine pd_lload (i := 4) dX12_estateOf_50 rfl ?_
  refine pd_lconst (x := 0) dX12_estateOf_52 (by decide) ?_
  refine pd_lcmp_gt (tgt := 59) dX12_estateOf_53 dX12_estateOf_54 (by decide) (fun hc => ?_) (fun hc => ?_)
  · have hf := pd_ip hf hc
    refine pd_aload_n (i := 0) dX12_estateOf_59 rfl rfl ?_
    refine pd_iload (i := 6) dX12_estateOf_60 rfl ?_
    obtain ⟨hg12, hf⟩ := pd_ig hf
    obtain ⟨r11, F10, hr, hf⟩ := pd_ob2 hf
    refine pd_callV (pkX12_rank l hr) dX12_estateOf_62 pq_996 pq_999 pq_1000 (show vwCl[12]? = some (yX12_rank.cls, TX12, 52) from rfl) hg12 (pd_okm (by omega) (by decide) pq_997 pq_998 (by decide) (show (parseMethodDescriptor yX12_rank.desc).map (fun d => d.parameters.length) = some 1 from by decide +kernel)) (Nat.le_of_ble_eq_true rfl) rfl ?_
    refine pd_lstore (L' := [pd_R x0, pd_N, pd_N, pd_I x3, pd_J x4, pd_N, pd_I x6, pd_J r11, pd_N, pd_N, pd_N, pd_N]) dX12_estateOf_65 (by decide) rfl ?_
    refine pd_lload (i := 4) dX12_estateOf_67 rfl ?_
    refine pd_lload (i := 7) dX12_estateOf_69 rfl ?_
    refine pd_lcmp_lt (tgt := 81) dX12_estateOf_71 dX12_estateOf_72 (by decide) (fun hc => ?_) (fun hc => ?_)
    · have hf := pd_ip hf hc
      refine pd_lconst (x := 0) dX12_estateOf_81 (by decide) ?_
      refine pd_lstore (L' := [pd_R x0, pd_N, pd_N, pd_I x3, pd_J x4, pd_N, pd_I x6, pd_J r11, pd_N, pd_J 0, pd_N, pd_N]) dX12_estateOf_82 (by decide) rfl ?_
      refine pd_iconst dX12_estateOf_84 (by decide) ?_
      refine pd_istore (L' := [pd_R x0, pd_N, pd_N, pd_I x3, pd_J x4, pd_N, pd_I x6, pd_J r11, pd_N, pd_J 0, pd_N, pd_I 0]) dX12_estateOf_85 (by decide) rfl ?_
      exact pd_weak (L' := [pd_R x0, pd_N, pd_N, pd_I x3, pd_J x4, pd_N, pd_N, pd_J r11, pd_N, pd_J 0, pd_N, pd_I 0]) ⟨Or.inr rfl, Or.inr rfl, Or.inr rfl, Or.inr rfl, Or.inr rfl, Or.inr rfl, Or.inl rfl, Or.inr rfl, Or.inr rfl, Or.inr rfl, Or.inr rfl, Or.inr rfl, trivial⟩ (pkX12_estateOf_b87 E l n _ _ _ _ _ _ _ hf)
    · have hf := pd_in_ hf hc
      refine pd_aload_n (i := 0) dX12_estateOf_75 rfl rfl ?_
      refine pd_iload_n (i := 3) dX12_estateOf_76 rfl rfl ?_
      obtain ⟨r14, F13, hr, hf⟩ := pd_ob2 hf
      refine pd_callV (pkX12_claim l hr) dX12_estateOf_77 pq_976 pq_979 pq_980 (show vwCl[12]? = some (yX12_claim.cls, TX12, 52) from rfl) hg12 (pd_okm (by omega) (by decide) pq_977 pq_978 (by decide) (show (parseMethodDescriptor yX12_claim.desc).map (fun d => d.parameters.length) = some 1 from by decide +kernel)) (Nat.le_of_ble_eq_true rfl) rfl ?_
      obtain ⟨h1, h2⟩ := pd_inj hf
      subst h1 h2
      exact pd_lret dX12_estateOf_80 rfl (Nat.le_refl 0) (Nat.le_refl 0)
  · have hf := pd_in_ hf hc
    refine pd_lconst (x := 0) dX12_estateOf_57 (by decide) ?_
    obtain ⟨h1, h2⟩ := pd_inj hf
    subst h1 h2
    exact pd_lret dX12_estateOf_58 rfl (Nat.le_refl 0) (Nat.le_refl 0)
set_option maxHeartbeats 4000000 in
set_option maxRecDepth 100000 in
theorem pkX12_estateOf_b32 (E : pd_E) (l : Launch) {sh : pd_S} {n : Nat} {ρ : Int} {Fz : pd_F}  (F : pd_F) (x0 : Int) (x3 : Int) (x4 : Int) (t0 : Int) (hf : pfX12_estateOf_b32 sh n  F x0 x3 x4 t0 = some (ρ, Fz)) : pd_V E l (pd_rm 6 0 0) (RX12, cX12_estateOf, 12, (some .long), "estateOf") (pd_Qm E false (some (pd_J ρ)) sh Fz 0 0) false 0 0 sh F 32 [pd_R x0, pd_N, pd_N, pd_I x3, pd_J x4, pd_N, pd_N, pd_N, pd_N, pd_N, pd_N, pd_N] [pd_I t0] := by
  unfold pfX12_estateOf_b32 at hf
  refine pd_istore (L' := [pd_R x0, pd_N, pd_N, pd_I x3, pd_J x4, pd_N, pd_I t0, pd_N, pd_N, pd_N, pd_N, pd_N]) dX12_estateOf_32 (by decide) rfl ?_
  refine pd_iload (i := 6) dX12_estateOf_34 rfl ?_
  refine pd_iconst dX12_estateOf_36 (by decide) ?_
  refine pd_icmp_ne (tgt := 50) dX12_estateOf_37 (by decide) (fun hc => ?_) (fun hc => ?_)
  · have hf := pd_ip hf hc
    exact pd_weak (L' := [pd_R x0, pd_N, pd_N, pd_I x3, pd_J x4, pd_N, pd_I t0, pd_N, pd_N, pd_N, pd_N, pd_N]) ⟨Or.inr rfl, Or.inr rfl, Or.inr rfl, Or.inr rfl, Or.inr rfl, Or.inr rfl, Or.inr rfl, Or.inr rfl, Or.inr rfl, Or.inr rfl, Or.inr rfl, Or.inr rfl, trivial⟩ (pkX12_estateOf_b50 E l _ _ _ _ _ hf)
  · have hf := pd_iq hf hc
    refine pd_lload (i := 4) dX12_estateOf_40 rfl ?_
    refine pd_aload_n (i := 0) dX12_estateOf_42 rfl rfl ?_
    refine pd_iconst dX12_estateOf_43 (by decide) ?_
    obtain ⟨hg17, hf⟩ := pd_ig hf
    obtain ⟨r16, F15, hr, hf⟩ := pd_ob2 hf
    refine pd_callV (pkX12_rank l hr) dX12_estateOf_44 pq_996 pq_999 pq_1000 (show vwCl[12]? = some (yX12_rank.cls, TX12, 52) from rfl) hg17 (pd_okm (by omega) (by decide) pq_997 pq_998 (by decide) (show (parseMethodDescriptor yX12_rank.desc).map (fun d => d.parameters.length) = some 1 from by decide +kernel)) (Nat.le_of_ble_eq_true rfl) rfl ?_
    refine pd_lsub dX12_estateOf_47 ?_
    refine pd_topJ (fun x4_48 ex4_48 => ?_)
    have hf := pd_lt hf ex4_48
    clear ex4_48
    refine pd_lstore (L' := [pd_R x0, pd_N, pd_N, pd_I x3, pd_J x4_48, pd_N, pd_I t0, pd_N, pd_N, pd_N, pd_N, pd_N]) dX12_estateOf_48 (by decide) rfl ?_
    exact pd_weak (L' := [pd_R x0, pd_N, pd_N, pd_I x3, pd_J x4_48, pd_N, pd_I t0, pd_N, pd_N, pd_N, pd_N, pd_N]) ⟨Or.inr rfl, Or.inr rfl, Or.inr rfl, Or.inr rfl, Or.inr rfl, Or.inr rfl, Or.inr rfl, Or.inr rfl, Or.inr rfl, Or.inr rfl, Or.inr rfl, Or.inr rfl, trivial⟩ (pkX12_estateOf_b50 E l _ _ _ _ _ hf)
set_option maxHeartbeats 4000000 in
set_option maxRecDepth 100000 in
theorem pkX12_estateOf (l : Launch) {sh : pd_S} {n : Nat} {F : pd_F} {x0 : Int} {x1 : Int} {x3 : Int} {ρ : Int} {Fz : pd_F} (hf : pfX12_estateOf sh n F x0 x1 x3 = some (ρ, Fz)) : pd_C l yX12_estateOf (Cond.code yX12_estateOf cX12_estateOf 12 (some .long) :: pd_gt) (pd_rm 6 0 0) false 0 0 sh F [pd_R x0, pd_J x1, pd_I x3] (some (pd_J ρ)) sh Fz := by
  unfold pfX12_estateOf at hf
  refine pd_body (L := [pd_R x0, pd_J x1, pd_N, pd_I x3, pd_N, pd_N, pd_N, pd_N, pd_N, pd_N, pd_N, pd_N]) (by decide +kernel) (Nat.le_of_ble_eq_true rfl) rfl (fun E => ?_)
  refine pd_lload_n (i := 1) dX12_estateOf_0 rfl rfl ?_
  refine pd_aload_n (i := 0) dX12_estateOf_1 rfl rfl ?_
  refine pd_iconst dX12_estateOf_2 (by decide) ?_
  obtain ⟨hg20, hf⟩ := pd_ig hf
  obtain ⟨r19, F18, hr, hf⟩ := pd_ob2 hf
  refine pd_callV (pkX12_rank l hr) dX12_estateOf_3 pq_996 pq_999 pq_1000 (show vwCl[12]? = some (yX12_rank.cls, TX12, 52) from rfl) hg20 (pd_okm (by omega) (by decide) pq_997 pq_998 (by decide) (show (parseMethodDescriptor yX12_rank.desc).map (fun d => d.parameters.length) = some 1 from by decide +kernel)) (Nat.le_of_ble_eq_true rfl) rfl ?_
  refine pd_lsub dX12_estateOf_6 ?_
  refine pd_topJ (fun x4_7 ex4_7 => ?_)
  have hf := pd_lt hf ex4_7
  clear ex4_7
  refine pd_lstore (L' := [pd_R x0, pd_J x1, pd_N, pd_I x3, pd_J x4_7, pd_N, pd_N, pd_N, pd_N, pd_N, pd_N, pd_N]) dX12_estateOf_7 (by decide) rfl ?_
  refine pd_lload (i := 4) dX12_estateOf_9 rfl ?_
  refine pd_lconst (x := 0) dX12_estateOf_11 (by decide) ?_
  refine pd_lcmp_gt (tgt := 18) dX12_estateOf_12 dX12_estateOf_13 (by decide) (fun hc => ?_) (fun hc => ?_)
  · have hf := pd_ip hf hc
    refine pd_aload_n (i := 0) dX12_estateOf_18 rfl rfl ?_
    refine pd_get (x := pd_R (F18 x0 51)) 51 dX12_estateOf_19 (show vwCl[12]? = some (RX12, TX12, 52) from rfl) pin_12 (by decide) pq_981 hg20 rfl ?_
    refine pd_iload_n (i := 3) dX12_estateOf_22 rfl rfl ?_
    obtain ⟨hg21, hf⟩ := pd_ig hf
    refine pd_zald dX12_estateOf_23 hg21 ?_
    refine pd_if_eq (tgt := 31) dX12_estateOf_24 (by decide) (fun hc => ?_) (fun hc => ?_)
    · have hf := pd_ip hf hc
      refine pd_iconst dX12_estateOf_31 (by decide) ?_
      exact pd_weak (L' := [pd_R x0, pd_N, pd_N, pd_I x3, pd_J x4_7, pd_N, pd_N, pd_N, pd_N, pd_N, pd_N, pd_N]) ⟨Or.inr rfl, Or.inl rfl, Or.inr rfl, Or.inr rfl, Or.inr rfl, Or.inr rfl, Or.inr rfl, Or.inr rfl, Or.inr rfl, Or.inr rfl, Or.inr rfl, Or.inr rfl, trivial⟩ (pkX12_estateOf_b32 E l _ _ _ _ _ hf)
    · have hf := pd_in_ hf hc
      refine pd_iconst dX12_estateOf_27 (by decide) ?_
      refine pd_goto (tgt := 32) dX12_estateOf_28 (by decide) ?_
      exact pd_weak (L' := [pd_R x0, pd_N, pd_N, pd_I x3, pd_J x4_7, pd_N, pd_N, pd_N, pd_N, pd_N, pd_N, pd_N]) ⟨Or.inr rfl, Or.inl rfl, Or.inr rfl, Or.inr rfl, Or.inr rfl, Or.inr rfl, Or.inr rfl, Or.inr rfl, Or.inr rfl, Or.inr rfl, Or.inr rfl, Or.inr rfl, trivial⟩ (pkX12_estateOf_b32 E l _ _ _ _ _ hf)
  · have hf := pd_in_ hf hc
    refine pd_lconst (x := 0) dX12_estateOf_16 (by decide) ?_
    obtain ⟨h1, h2⟩ := pd_inj hf
    subst h1 h2
    exact pd_lret dX12_estateOf_17 rfl (Nat.le_refl 0) (Nat.le_refl 0)
set_option maxHeartbeats 4000000 in
set_option maxRecDepth 100000 in
theorem pkX12_replaceable_b7 (E : pd_E) (l : Launch) {sh : pd_S} {n : Nat} {ρ : Int} {Fz : pd_F}  : ∀ (k : Nat) (F : pd_F) (x0 : Int) (x1 : Int) (x2 : Int), pfX12_replaceable_b7 sh n  k F x0 x1 x2 = some (ρ, Fz) → pd_V E l (pd_rm 6 0 0) (RX12, cX12_replaceable, 4, (some .int), "replaceable") (pd_Qm E false (some (pd_I ρ)) sh Fz 0 0) false 0 0 sh F 7 [pd_R x0, pd_I x1, pd_I x2, pd_N] [] := by
  intro k
  induction k with
  | zero => intro F x0 x1 x2 hf; exact absurd hf (by unfold pfX12_replaceable_b7; exact fun h => nomatch h)
  | succ k ih =>
    intro F x0 x1 x2 hf
    unfold pfX12_replaceable_b7 at hf
    refine pd_iload_n (i := 2) dX12_replaceable_7 rfl rfl ?_
    refine pd_bipush dX12_replaceable_8 (by decide) ?_
    refine pd_icmp_ge (tgt := 81) dX12_replaceable_10 (by decide) (fun hc => ?_) (fun hc => ?_)
    · have hf := pd_ip hf hc
      refine pd_iconst dX12_replaceable_81 (by decide) ?_
      obtain ⟨h1, h2⟩ := pd_inj hf
      subst h1 h2
      exact pd_iret dX12_replaceable_82 rfl (Nat.le_refl 0) (Nat.le_refl 0)
    · have hf := pd_in_ hf hc
      refine pd_aload_n (i := 0) dX12_replaceable_13 rfl rfl ?_
      obtain ⟨hg1, hf⟩ := pd_ig hf
      refine pd_get (x := pd_R (F x0 39)) 39 dX12_replaceable_14 (show vwCl[12]? = some (RX12, TX12, 52) from rfl) pin_12 (by decide) pq_877 hg1 rfl ?_
      refine pd_bipush dX12_replaceable_17 (by decide) ?_
      refine pd_iconst dX12_replaceable_19 (by decide) ?_
      refine pd_iload_n (i := 2) dX12_replaceable_20 rfl rfl ?_
      refine pd_imul dX12_replaceable_21 ?_
      refine pd_iadd dX12_replaceable_22 ?_
      obtain ⟨hg2, hf⟩ := pd_ig hf
      refine pd_iald dX12_replaceable_23 hg2 ?_
      refine pd_topI (fun x3_24 ex3_24 => ?_)
      have hf := pd_lt hf ex3_24
      clear ex3_24
      refine pd_istore_n (L' := [pd_R x0, pd_I x1, pd_I x2, pd_I x3_24]) dX12_replaceable_24 rfl (by decide) rfl ?_
      refine pd_aload_n (i := 0) dX12_replaceable_25 rfl rfl ?_
      refine pd_get (x := pd_R (F x0 39)) 39 dX12_replaceable_26 (show vwCl[12]? = some (RX12, TX12, 52) from rfl) pin_12 (by decide) pq_877 hg1 rfl ?_
      refine pd_bipush dX12_replaceable_29 (by decide) ?_
      refine pd_iconst dX12_replaceable_31 (by decide) ?_
      refine pd_iload_n (i := 2) dX12_replaceable_32 rfl rfl ?_
      refine pd_imul dX12_replaceable_33 ?_
      refine pd_iadd dX12_replaceable_34 ?_
      refine pd_aload_n (i := 0) dX12_replaceable_35 rfl rfl ?_
      refine pd_get (x := pd_R (F x0 39)) 39 dX12_replaceable_36 (show vwCl[12]? = some (RX12, TX12, 52) from rfl) pin_12 (by decide) pq_877 hg1 rfl ?_
      refine pd_bipush dX12_replaceable_39 (by decide) ?_
      refine pd_iconst dX12_replaceable_41 (by decide) ?_
      refine pd_iload_n (i := 2) dX12_replaceable_42 rfl rfl ?_
      refine pd_imul dX12_replaceable_43 ?_
      refine pd_iadd dX12_replaceable_44 ?_
      refine pd_iconst dX12_replaceable_45 (by decide) ?_
      refine pd_iadd dX12_replaceable_46 ?_
      obtain ⟨hg3, hf⟩ := pd_ig hf
      refine pd_iald dX12_replaceable_47 hg3 ?_
      refine pd_iast dX12_replaceable_48 hg2 ?_
      refine pd_topF (fun F4 eF4 => ?_)
      have hf := pd_lt hf eF4
      clear eF4
      refine pd_aload_n (i := 0) dX12_replaceable_49 rfl rfl ?_
      obtain ⟨F5, hr, hf⟩ := pd_ob1 hf
      refine pd_callV (pkX12_laysDepositors l hr) dX12_replaceable_50 pq_987 pq_990 pq_991 (show vwCl[12]? = some (yX12_laysDepositors.cls, TX12, 52) from rfl) hg1 (pd_okm (by omega) (by decide) pq_988 pq_989 (by decide) (show (parseMethodDescriptor yX12_laysDepositors.desc).map (fun d => d.parameters.length) = some 0 from by decide +kernel)) (Nat.le_of_ble_eq_true rfl) rfl ?_
      refine pd_aload_n (i := 0) dX12_replaceable_53 rfl rfl ?_
      refine pd_get (x := pd_R (F5 x0 39)) 39 dX12_replaceable_54 (show vwCl[12]? = some (RX12, TX12, 52) from rfl) pin_12 (by decide) pq_877 hg1 rfl ?_
      refine pd_bipush dX12_replaceable_57 (by decide) ?_
      refine pd_iconst dX12_replaceable_59 (by decide) ?_
      refine pd_iload_n (i := 2) dX12_replaceable_60 rfl rfl ?_
      refine pd_imul dX12_replaceable_61 ?_
      refine pd_iadd dX12_replaceable_62 ?_
      refine pd_iload_n (i := 3) dX12_replaceable_63 rfl rfl ?_
      obtain ⟨hg6, hf⟩ := pd_ig hf
      refine pd_iast dX12_replaceable_64 hg6 ?_
      refine pd_topF (fun F7 eF7 => ?_)
      have hf := pd_lt hf eF7
      clear eF7
      refine pd_aload_n (i := 0) dX12_replaceable_65 rfl rfl ?_
      refine pd_get (x := pd_I (F7 x0 46)) 46 dX12_replaceable_66 (show vwCl[12]? = some (RX12, TX12, 52) from rfl) pin_12 (by decide) pq_969 hg1 rfl ?_
      refine pd_iload_n (i := 1) dX12_replaceable_69 rfl rfl ?_
      refine pd_icmp_ne (tgt := 75) dX12_replaceable_70 (by decide) (fun hc => ?_) (fun hc => ?_)
      · have hf := pd_ip hf hc
        refine pd_iincN (L' := fun y => [pd_R x0, pd_I x1, pd_I y, pd_I x3_24]) dX12_replaceable_75 rfl (by decide) (by decide) (fun _ => rfl) (fun x2_75 ex2_75 => ?_)
        have hf := pd_lt hf ex2_75
        clear ex2_75
        refine pd_goto (tgt := 7) dX12_replaceable_78 (by decide) ?_
        exact pd_weak (L' := [pd_R x0, pd_I x1, pd_I x2_75, pd_N]) ⟨Or.inr rfl, Or.inr rfl, Or.inr rfl, Or.inl rfl, trivial⟩ (ih _ _ _ _ hf)
      · have hf := pd_iq hf hc
        refine pd_iload_n (i := 2) dX12_replaceable_73 rfl rfl ?_
        obtain ⟨h1, h2⟩ := pd_inj hf
        subst h1 h2
        exact pd_iret dX12_replaceable_74 rfl (Nat.le_refl 0) (Nat.le_refl 0)
set_option maxHeartbeats 4000000 in
set_option maxRecDepth 100000 in
theorem pkX12_replaceable (l : Launch) {sh : pd_S} {n : Nat} {F : pd_F} {x0 : Int} {ρ : Int} {Fz : pd_F} (hf : pfX12_replaceable sh n F x0 = some (ρ, Fz)) : pd_C l yX12_replaceable (Cond.code yX12_replaceable cX12_replaceable 4 (some .int) :: pd_gt) (pd_rm 6 0 0) false 0 0 sh F [pd_R x0] (some (pd_I ρ)) sh Fz := by
  unfold pfX12_replaceable at hf
  refine pd_body (L := [pd_R x0, pd_N, pd_N, pd_N]) (by decide +kernel) (Nat.le_of_ble_eq_true rfl) rfl (fun E => ?_)
  refine pd_aload_n (i := 0) dX12_replaceable_0 rfl rfl ?_
  obtain ⟨hg8, hf⟩ := pd_ig hf
  refine pd_get (x := pd_I (F x0 46)) 46 dX12_replaceable_1 (show vwCl[12]? = some (RX12, TX12, 52) from rfl) pin_12 (by decide) pq_969 hg8 rfl ?_
  refine pd_topI (fun x1_4 ex1_4 => ?_)
  have hf := pd_lt hf ex1_4
  clear ex1_4
  refine pd_istore_n (L' := [pd_R x0, pd_I x1_4, pd_N, pd_N]) dX12_replaceable_4 rfl (by decide) rfl ?_
  refine pd_iconst dX12_replaceable_5 (by decide) ?_
  refine pd_istore_n (L' := [pd_R x0, pd_I x1_4, pd_I 0, pd_N]) dX12_replaceable_6 rfl (by decide) rfl ?_
  exact pd_weak (L' := [pd_R x0, pd_I x1_4, pd_I 0, pd_N]) ⟨Or.inr rfl, Or.inr rfl, Or.inr rfl, Or.inr rfl, trivial⟩ (pkX12_replaceable_b7 E l n _ _ _ _ hf)
set_option maxHeartbeats 4000000 in
set_option maxRecDepth 100000 in
theorem pkX12_join (l : Launch) {sh : pd_S} {n : Nat} {F : pd_F} {x0 : Int} {x1 : Int} {x2 : Int} {ρ : Int} {Fz : pd_F} (hf : pfX12_join sh n F x0 x1 x2 = some (ρ, Fz)) : pd_C l yX12_join (Cond.code yX12_join cX12_join 3 (some .int) :: pd_gt) (pd_rm 6 0 0) false 0 0 sh F [pd_R x0, pd_I x1, pd_I x2] (some (pd_I ρ)) sh Fz := by
  unfold pfX12_join at hf
  refine pd_body (L := [pd_R x0, pd_I x1, pd_I x2]) (by decide +kernel) (Nat.le_of_ble_eq_true rfl) rfl (fun E => ?_)
  refine pd_aload_n (i := 0) dX12_join_0 rfl rfl ?_
  refine pd_iconst dX12_join_1 (by decide) ?_
  obtain ⟨hg1, hf⟩ := pd_ig hf
  refine pd_put (n := 0) (x := pd_I 0) 0 dX12_join_2 (show vwCl[12]? = some (RX12, TX12, 52) from rfl) pin_12 tyX12_ok nmX12 (by decide) pq_704 rfl hg1 rfl pd_nrI pd_ftI ?_
  refine pd_topF (fun F2 eF2 => ?_)
  have hf := pd_lt hf eF2
  clear eF2
  refine pd_aload_n (i := 0) dX12_join_5 rfl rfl ?_
  refine pd_iload_n (i := 1) dX12_join_6 rfl rfl ?_
  refine pd_iload_n (i := 2) dX12_join_7 rfl rfl ?_
  obtain ⟨r4, F3, hr, hf⟩ := pd_ob2 hf
  refine pd_callV (pkX12_isTwo l hr) dX12_join_8 pq_1001 pq_1004 pq_1005 (show vwCl[12]? = some (yX12_isTwo.cls, TX12, 52) from rfl) hg1 (pd_okm (by omega) (by decide) pq_1002 pq_1003 (by decide) (show (parseMethodDescriptor yX12_isTwo.desc).map (fun d => d.parameters.length) = some 2 from by decide +kernel)) (Nat.le_of_ble_eq_true rfl) rfl ?_
  refine pd_if_eq (tgt := 26) dX12_join_11 (by decide) (fun hc => ?_) (fun hc => ?_)
  · have hf := pd_ip hf hc
    refine pd_iconst dX12_join_26 (by decide) ?_
    obtain ⟨h1, h2⟩ := pd_inj hf
    subst h1 h2
    exact pd_iret dX12_join_27 rfl (Nat.le_refl 0) (Nat.le_refl 0)
  · have hf := pd_in_ hf hc
    refine pd_aload_n (i := 0) dX12_join_14 rfl rfl ?_
    refine pd_get (x := pd_R (F3 x0 39)) 39 dX12_join_15 (show vwCl[12]? = some (RX12, TX12, 52) from rfl) pin_12 (by decide) pq_877 hg1 rfl ?_
    refine pd_bipush dX12_join_18 (by decide) ?_
    obtain ⟨hg5, hf⟩ := pd_ig hf
    refine pd_iald dX12_join_20 hg5 ?_
    refine pd_bipush dX12_join_21 (by decide) ?_
    refine pd_icmp_ne (tgt := 28) dX12_join_23 (by decide) (fun hc => ?_) (fun hc => ?_)
    · have hf := pd_ip hf hc
      refine pd_aload_n (i := 0) dX12_join_28 rfl rfl ?_
      obtain ⟨F6, hr, hf⟩ := pd_ob1 hf
      refine pd_callV (pkX12_keeps l hr) dX12_join_29 pq_909 pq_912 pq_913 (show vwCl[12]? = some (yX12_keeps.cls, TX12, 52) from rfl) hg1 (pd_okm (by omega) (by decide) pq_910 pq_911 (by decide) (show (parseMethodDescriptor yX12_keeps.desc).map (fun d => d.parameters.length) = some 0 from by decide +kernel)) (Nat.le_of_ble_eq_true rfl) rfl ?_
      refine pd_aload_n (i := 0) dX12_join_32 rfl rfl ?_
      refine pd_get (x := pd_R (F6 x0 39)) 39 dX12_join_33 (show vwCl[12]? = some (RX12, TX12, 52) from rfl) pin_12 (by decide) pq_877 hg1 rfl ?_
      refine pd_bipush dX12_join_36 (by decide) ?_
      refine pd_iconst dX12_join_38 (by decide) ?_
      refine pd_aload_n (i := 0) dX12_join_39 rfl rfl ?_
      refine pd_get (x := pd_R (F6 x0 39)) 39 dX12_join_40 (show vwCl[12]? = some (RX12, TX12, 52) from rfl) pin_12 (by decide) pq_877 hg1 rfl ?_
      refine pd_bipush dX12_join_43 (by decide) ?_
      obtain ⟨hg7, hf⟩ := pd_ig hf
      refine pd_iald dX12_join_45 hg7 ?_
      refine pd_imul dX12_join_46 ?_
      refine pd_iadd dX12_join_47 ?_
      refine pd_iload_n (i := 1) dX12_join_48 rfl rfl ?_
      obtain ⟨hg8, hf⟩ := pd_ig hf
      refine pd_iast dX12_join_49 hg8 ?_
      refine pd_topF (fun F9 eF9 => ?_)
      have hf := pd_lt hf eF9
      clear eF9
      refine pd_aload_n (i := 0) dX12_join_50 rfl rfl ?_
      refine pd_get (x := pd_R (F9 x0 39)) 39 dX12_join_51 (show vwCl[12]? = some (RX12, TX12, 52) from rfl) pin_12 (by decide) pq_877 hg1 rfl ?_
      refine pd_bipush dX12_join_54 (by decide) ?_
      refine pd_iconst dX12_join_56 (by decide) ?_
      refine pd_aload_n (i := 0) dX12_join_57 rfl rfl ?_
      refine pd_get (x := pd_R (F9 x0 39)) 39 dX12_join_58 (show vwCl[12]? = some (RX12, TX12, 52) from rfl) pin_12 (by decide) pq_877 hg1 rfl ?_
      refine pd_bipush dX12_join_61 (by decide) ?_
      obtain ⟨hg10, hf⟩ := pd_ig hf
      refine pd_iald dX12_join_63 hg10 ?_
      refine pd_imul dX12_join_64 ?_
      refine pd_iadd dX12_join_65 ?_
      refine pd_iconst dX12_join_66 (by decide) ?_
      refine pd_iadd dX12_join_67 ?_
      refine pd_iload_n (i := 2) dX12_join_68 rfl rfl ?_
      obtain ⟨hg11, hf⟩ := pd_ig hf
      refine pd_iast dX12_join_69 hg11 ?_
      refine pd_topF (fun F12 eF12 => ?_)
      have hf := pd_lt hf eF12
      clear eF12
      refine pd_aload_n (i := 0) dX12_join_70 rfl rfl ?_
      refine pd_get (x := pd_R (F12 x0 39)) 39 dX12_join_71 (show vwCl[12]? = some (RX12, TX12, 52) from rfl) pin_12 (by decide) pq_877 hg1 rfl ?_
      refine pd_bipush dX12_join_74 (by decide) ?_
      refine pd_dup2 dX12_join_76 rfl rfl ?_
      obtain ⟨hg13, hf⟩ := pd_ig hf
      refine pd_iald dX12_join_77 hg13 ?_
      refine pd_iconst dX12_join_78 (by decide) ?_
      refine pd_iadd dX12_join_79 ?_
      refine pd_iast dX12_join_80 hg13 ?_
      refine pd_topF (fun F14 eF14 => ?_)
      have hf := pd_lt hf eF14
      clear eF14
      refine pd_aload_n (i := 0) dX12_join_81 rfl rfl ?_
      obtain ⟨F15, hr, hf⟩ := pd_ob1 hf
      refine pd_callV (pkX12_laysDepositors l hr) dX12_join_82 pq_987 pq_990 pq_991 (show vwCl[12]? = some (yX12_laysDepositors.cls, TX12, 52) from rfl) hg1 (pd_okm (by omega) (by decide) pq_988 pq_989 (by decide) (show (parseMethodDescriptor yX12_laysDepositors.desc).map (fun d => d.parameters.length) = some 0 from by decide +kernel)) (Nat.le_of_ble_eq_true rfl) rfl ?_
      refine pd_aload_n (i := 0) dX12_join_85 rfl rfl ?_
      refine pd_get (x := pd_I (F15 x0 46)) 46 dX12_join_86 (show vwCl[12]? = some (RX12, TX12, 52) from rfl) pin_12 (by decide) pq_969 hg1 rfl ?_
      obtain ⟨h1, h2⟩ := pd_inj hf
      subst h1 h2
      exact pd_iret dX12_join_89 rfl (Nat.le_refl 0) (Nat.le_refl 0)
    · have hf := pd_iq hf hc
      refine pd_iconst dX12_join_26 (by decide) ?_
      obtain ⟨h1, h2⟩ := pd_inj hf
      subst h1 h2
      exact pd_iret dX12_join_27 rfl (Nat.le_refl 0) (Nat.le_refl 0)
set_option maxHeartbeats 4000000 in
set_option maxRecDepth 100000 in
theorem pkX12_deepOf_b62 (E : pd_E) (l : Launch) {sh : pd_S} {n : Nat} {ρ : Int} {Fz : pd_F} {dd : Nat} (hdd : 1 ≤ dd) {slf : pd_F → Int → Int → Option (Int × pd_F)} (hslf : ∀ (F : pd_F) (o0 a0 : Int) {ρ : Int} {Fz : pd_F}, slf F o0 a0 = some (ρ, Fz) → pd_C l yX12_deepOf (Cond.code yX12_deepOf cX12_deepOf 6 (some .int) :: pd_gt) (pd_rm dd 0 0) false 0 0 sh F [pd_R o0, pd_I a0] (some (pd_I ρ)) sh Fz) {c4 : pd_F → Int → Int → Int → Int → Option (Int × pd_F)} (hL4 : ∀ (F : pd_F) (x0 : Int) (x1 : Int) (x2 : Int) (x3 : Int), c4 F x0 x1 x2 x3 = some (ρ, Fz) → pd_V E l (pd_rm (dd + 1) 0 0) (RX12, cX12_deepOf, 6, (some .int), "deepOf") (pd_Qm E false (some (pd_I ρ)) sh Fz 0 0) false 0 0 sh F 4 [pd_R x0, pd_I x1, pd_I x2, pd_I x3, pd_N, pd_N] []) (F : pd_F) (x0 : Int) (x1 : Int) (x3 : Int) (t0 : Int) (hf : pfX12_deepOf_b62 sh n slf c4 F x0 x1 x3 t0 = some (ρ, Fz)) : pd_V E l (pd_rm (dd + 1) 0 0) (RX12, cX12_deepOf, 6, (some .int), "deepOf") (pd_Qm E false (some (pd_I ρ)) sh Fz 0 0) false 0 0 sh F 62 [pd_R x0, pd_I x1, pd_N, pd_I x3, pd_N, pd_N] [pd_I t0] := by
  unfold pfX12_deepOf_b62 at hf
  refine pd_istore_n (L' := [pd_R x0, pd_I x1, pd_I t0, pd_I x3, pd_N, pd_N]) dX12_deepOf_62 rfl (by decide) rfl ?_
  refine pd_iincN (L' := fun y => [pd_R x0, pd_I x1, pd_I t0, pd_I y, pd_N, pd_N]) dX12_deepOf_63 rfl (by decide) (by decide) (fun _ => rfl) (fun x3_63 ex3_63 => ?_)
  have hf := pd_lt hf ex3_63
  clear ex3_63
  refine pd_goto (tgt := 4) dX12_deepOf_66 (by decide) ?_
  exact pd_weak (L' := [pd_R x0, pd_I x1, pd_I t0, pd_I x3_63, pd_N, pd_N]) ⟨Or.inr rfl, Or.inr rfl, Or.inr rfl, Or.inr rfl, Or.inr rfl, Or.inr rfl, trivial⟩ (hL4 _ _ _ _ _ hf)
set_option maxHeartbeats 4000000 in
set_option maxRecDepth 100000 in
theorem pkX12_deepOf_b48 (E : pd_E) (l : Launch) {sh : pd_S} {n : Nat} {ρ : Int} {Fz : pd_F} {dd : Nat} (hdd : 1 ≤ dd) {slf : pd_F → Int → Int → Option (Int × pd_F)} (hslf : ∀ (F : pd_F) (o0 a0 : Int) {ρ : Int} {Fz : pd_F}, slf F o0 a0 = some (ρ, Fz) → pd_C l yX12_deepOf (Cond.code yX12_deepOf cX12_deepOf 6 (some .int) :: pd_gt) (pd_rm dd 0 0) false 0 0 sh F [pd_R o0, pd_I a0] (some (pd_I ρ)) sh Fz) {c4 : pd_F → Int → Int → Int → Int → Option (Int × pd_F)} (hL4 : ∀ (F : pd_F) (x0 : Int) (x1 : Int) (x2 : Int) (x3 : Int), c4 F x0 x1 x2 x3 = some (ρ, Fz) → pd_V E l (pd_rm (dd + 1) 0 0) (RX12, cX12_deepOf, 6, (some .int), "deepOf") (pd_Qm E false (some (pd_I ρ)) sh Fz 0 0) false 0 0 sh F 4 [pd_R x0, pd_I x1, pd_I x2, pd_I x3, pd_N, pd_N] []) (F : pd_F) (x0 : Int) (x1 : Int) (x2 : Int) (x3 : Int) (t0 : Int) (hf : pfX12_deepOf_b48 sh n slf c4 F x0 x1 x2 x3 t0 = some (ρ, Fz)) : pd_V E l (pd_rm (dd + 1) 0 0) (RX12, cX12_deepOf, 6, (some .int), "deepOf") (pd_Qm E false (some (pd_I ρ)) sh Fz 0 0) false 0 0 sh F 48 [pd_R x0, pd_I x1, pd_I x2, pd_I x3, pd_N, pd_N] [pd_I t0] := by
  unfold pfX12_deepOf_b48 at hf
  refine pd_istore (L' := [pd_R x0, pd_I x1, pd_I x2, pd_I x3, pd_N, pd_I t0]) dX12_deepOf_48 (by decide) rfl ?_
  refine pd_iload (i := 5) dX12_deepOf_50 rfl ?_
  refine pd_iload_n (i := 2) dX12_deepOf_52 rfl rfl ?_
  refine pd_icmp_le (tgt := 61) dX12_deepOf_53 (by decide) (fun hc => ?_) (fun hc => ?_)
  · have hf := pd_ip hf hc
    refine pd_iload_n (i := 2) dX12_deepOf_61 rfl rfl ?_
    exact pd_weak (L' := [pd_R x0, pd_I x1, pd_N, pd_I x3, pd_N, pd_N]) ⟨Or.inr rfl, Or.inr rfl, Or.inl rfl, Or.inr rfl, Or.inr rfl, Or.inl rfl, trivial⟩ (pkX12_deepOf_b62 E l hdd hslf hL4 _ _ _ _ _ hf)
  · have hf := pd_in_ hf hc
    refine pd_iload (i := 5) dX12_deepOf_56 rfl ?_
    refine pd_goto (tgt := 62) dX12_deepOf_58 (by decide) ?_
    exact pd_weak (L' := [pd_R x0, pd_I x1, pd_N, pd_I x3, pd_N, pd_N]) ⟨Or.inr rfl, Or.inr rfl, Or.inl rfl, Or.inr rfl, Or.inr rfl, Or.inl rfl, trivial⟩ (pkX12_deepOf_b62 E l hdd hslf hL4 _ _ _ _ _ hf)
set_option maxHeartbeats 4000000 in
set_option maxRecDepth 100000 in
theorem pkX12_deepOf_b4 (E : pd_E) (l : Launch) {sh : pd_S} {n : Nat} {ρ : Int} {Fz : pd_F} {dd : Nat} (hdd : 1 ≤ dd) {slf : pd_F → Int → Int → Option (Int × pd_F)} (hslf : ∀ (F : pd_F) (o0 a0 : Int) {ρ : Int} {Fz : pd_F}, slf F o0 a0 = some (ρ, Fz) → pd_C l yX12_deepOf (Cond.code yX12_deepOf cX12_deepOf 6 (some .int) :: pd_gt) (pd_rm dd 0 0) false 0 0 sh F [pd_R o0, pd_I a0] (some (pd_I ρ)) sh Fz)  : ∀ (k : Nat) (F : pd_F) (x0 : Int) (x1 : Int) (x2 : Int) (x3 : Int), pfX12_deepOf_b4 sh n slf  k F x0 x1 x2 x3 = some (ρ, Fz) → pd_V E l (pd_rm (dd + 1) 0 0) (RX12, cX12_deepOf, 6, (some .int), "deepOf") (pd_Qm E false (some (pd_I ρ)) sh Fz 0 0) false 0 0 sh F 4 [pd_R x0, pd_I x1, pd_I x2, pd_I x3, pd_N, pd_N] [] := by
  intro k
  induction k with
  | zero => intro F x0 x1 x2 x3 hf; exact absurd hf (by unfold pfX12_deepOf_b4; exact fun h => nomatch h)
  | succ k ih =>
    intro F x0 x1 x2 x3 hf
    unfold pfX12_deepOf_b4 at hf
    refine pd_iload_n (i := 3) dX12_deepOf_4 rfl rfl ?_
    refine pd_aload_n (i := 0) dX12_deepOf_5 rfl rfl ?_
    obtain ⟨hg1, hf⟩ := pd_ig hf
    refine pd_get (x := pd_R (F x0 26)) 26 dX12_deepOf_6 (show vwCl[12]? = some (RX12, TX12, 52) from rfl) pin_12 (by decide) pq_721 hg1 rfl ?_
    refine pd_iload_n (i := 1) dX12_deepOf_9 rfl rfl ?_
    obtain ⟨hg2, hf⟩ := pd_ig hf
    refine pd_iald dX12_deepOf_10 hg2 ?_
    refine pd_icmp_ge (tgt := 69) dX12_deepOf_11 (by decide) (fun hc => ?_) (fun hc => ?_)
    · have hf := pd_ip hf hc
      refine pd_iload_n (i := 2) dX12_deepOf_69 rfl rfl ?_
      obtain ⟨h1, h2⟩ := pd_inj hf
      subst h1 h2
      exact pd_iret dX12_deepOf_70 rfl (Nat.le_refl 0) (Nat.le_refl 0)
    · have hf := pd_in_ hf hc
      refine pd_aload_n (i := 0) dX12_deepOf_14 rfl rfl ?_
      refine pd_get (x := pd_R (F x0 27)) 27 dX12_deepOf_15 (show vwCl[12]? = some (RX12, TX12, 52) from rfl) pin_12 (by decide) pq_722 hg1 rfl ?_
      refine pd_iconst dX12_deepOf_18 (by decide) ?_
      refine pd_iload_n (i := 1) dX12_deepOf_19 rfl rfl ?_
      refine pd_imul dX12_deepOf_20 ?_
      refine pd_iload_n (i := 3) dX12_deepOf_21 rfl rfl ?_
      refine pd_iadd dX12_deepOf_22 ?_
      obtain ⟨hg3, hf⟩ := pd_ig hf
      refine pd_iald dX12_deepOf_23 hg3 ?_
      refine pd_topI (fun x4_24 ex4_24 => ?_)
      have hf := pd_lt hf ex4_24
      clear ex4_24
      refine pd_istore (L' := [pd_R x0, pd_I x1, pd_I x2, pd_I x3, pd_I x4_24, pd_N]) dX12_deepOf_24 (by decide) rfl ?_
      refine pd_iload (i := 4) dX12_deepOf_26 rfl ?_
      refine pd_bipush dX12_deepOf_28 (by decide) ?_
      refine pd_icmp_ge (tgt := 37) dX12_deepOf_30 (by decide) (fun hc => ?_) (fun hc => ?_)
      · have hf := pd_ip hf hc
        refine pd_iconst dX12_deepOf_37 (by decide) ?_
        refine pd_aload_n (i := 0) dX12_deepOf_38 rfl rfl ?_
        refine pd_iload (i := 4) dX12_deepOf_39 rfl ?_
        refine pd_bipush dX12_deepOf_41 (by decide) ?_
        refine pd_isub dX12_deepOf_43 ?_
        obtain ⟨r5, F4, hr, hf⟩ := pd_ob2 hf
        refine pd_callV (hslf _ _ _ hr) dX12_deepOf_44 pq_1006 pq_1009 pq_1010 (show vwCl[12]? = some (yX12_deepOf.cls, TX12, 52) from rfl) hg1 (pd_okm (by omega) (by decide) pq_1007 pq_1008 (by decide) (show (parseMethodDescriptor yX12_deepOf.desc).map (fun d => d.parameters.length) = some 1 from by decide +kernel)) (Nat.le_of_ble_eq_true rfl) rfl ?_
        refine pd_iadd dX12_deepOf_47 ?_
        exact pd_weak (L' := [pd_R x0, pd_I x1, pd_I x2, pd_I x3, pd_N, pd_N]) ⟨Or.inr rfl, Or.inr rfl, Or.inr rfl, Or.inr rfl, Or.inl rfl, Or.inr rfl, trivial⟩ (pkX12_deepOf_b48 E l hdd hslf ih _ _ _ _ _ _ hf)
      · have hf := pd_in_ hf hc
        refine pd_iconst dX12_deepOf_33 (by decide) ?_
        refine pd_goto (tgt := 48) dX12_deepOf_34 (by decide) ?_
        exact pd_weak (L' := [pd_R x0, pd_I x1, pd_I x2, pd_I x3, pd_N, pd_N]) ⟨Or.inr rfl, Or.inr rfl, Or.inr rfl, Or.inr rfl, Or.inl rfl, Or.inr rfl, trivial⟩ (pkX12_deepOf_b48 E l hdd hslf ih _ _ _ _ _ _ hf)
set_option maxHeartbeats 4000000 in
set_option maxRecDepth 100000 in
theorem pkX12_deepOf_r (l : Launch) {sh : pd_S} {n : Nat} : ∀ (k : Nat) (F : pd_F) (x0 : Int) (x1 : Int) {ρ : Int} {Fz : pd_F}, pfX12_deepOf sh n k F x0 x1 = some (ρ, Fz) → pd_C l yX12_deepOf (Cond.code yX12_deepOf cX12_deepOf 6 (some .int) :: pd_gt) (pd_rm (1 + k) 0 0) false 0 0 sh F [pd_R x0, pd_I x1] (some (pd_I ρ)) sh Fz := by
  intro k
  induction k with
  | zero => intro F x0 x1 ρ Fz hf; exact absurd hf (by unfold pfX12_deepOf; exact fun h => nomatch h)
  | succ k ih =>
    intro F x0 x1 ρ Fz hf
    unfold pfX12_deepOf at hf
    have hdd : 1 ≤ 1 + k := by omega
    have hslf := @ih
    generalize hsl : pfX12_deepOf sh n k = slf at hf hslf
    have hf := pd_lt0 hf
    refine pd_body (L := [pd_R x0, pd_I x1, pd_N, pd_N, pd_N, pd_N]) (by decide +kernel) (Nat.le_of_ble_eq_true rfl) rfl (fun E => ?_)
    refine pd_iconst dX12_deepOf_0 (by decide) ?_
    refine pd_istore_n (L' := [pd_R x0, pd_I x1, pd_I 1, pd_N, pd_N, pd_N]) dX12_deepOf_1 rfl (by decide) rfl ?_
    refine pd_iconst dX12_deepOf_2 (by decide) ?_
    refine pd_istore_n (L' := [pd_R x0, pd_I x1, pd_I 1, pd_I 0, pd_N, pd_N]) dX12_deepOf_3 rfl (by decide) rfl ?_
    exact pd_weak (L' := [pd_R x0, pd_I x1, pd_I 1, pd_I 0, pd_N, pd_N]) ⟨Or.inr rfl, Or.inr rfl, Or.inr rfl, Or.inr rfl, Or.inr rfl, Or.inr rfl, trivial⟩ (pkX12_deepOf_b4 E l hdd hslf n _ _ _ _ _ hf)
theorem pkX12_deepOf (l : Launch) {sh : pd_S} {n : Nat} {F : pd_F} {x0 : Int} {x1 : Int} {ρ : Int} {Fz : pd_F} (hf : pfX12_deepOf sh n 8 F x0 x1 = some (ρ, Fz)) : pd_C l yX12_deepOf (Cond.code yX12_deepOf cX12_deepOf 6 (some .int) :: pd_gt) (pd_rm 9 0 0) false 0 0 sh F [pd_R x0, pd_I x1] (some (pd_I ρ)) sh Fz := pkX12_deepOf_r l 8 F x0 x1 hf
set_option maxHeartbeats 4000000 in
set_option maxRecDepth 100000 in
theorem pkX12_waysOf_b61 (E : pd_E) (l : Launch) {sh : pd_S} {n : Nat} {ρ : Int} {Fz : pd_F} {dd : Nat} (hdd : 1 ≤ dd) {slf : pd_F → Int → Int → Int → Option (Int × pd_F)} (hslf : ∀ (F : pd_F) (o0 a0 a1 : Int) {ρ : Int} {Fz : pd_F}, slf F o0 a0 a1 = some (ρ, Fz) → pd_C l yX12_waysOf (Cond.code yX12_waysOf cX12_waysOf 6 (some .int) :: pd_gt) (pd_rm dd 0 0) false 0 0 sh F [pd_R o0, pd_I a0, pd_I a1] (some (pd_I ρ)) sh Fz) {c5 : pd_F → Int → Int → Int → Int → Int → Option (Int × pd_F)} (hL5 : ∀ (F : pd_F) (x0 : Int) (x1 : Int) (x2 : Int) (x3 : Int) (x4 : Int), c5 F x0 x1 x2 x3 x4 = some (ρ, Fz) → pd_V E l (pd_rm (dd + 1) 0 0) (RX12, cX12_waysOf, 6, (some .int), "waysOf") (pd_Qm E false (some (pd_I ρ)) sh Fz 0 0) false 0 0 sh F 5 [pd_R x0, pd_I x1, pd_I x2, pd_I x3, pd_I x4, pd_N] []) (F : pd_F) (x0 : Int) (x1 : Int) (x2 : Int) (x4 : Int) (t0 : Int) (t1 : Int) (hf : pfX12_waysOf_b61 sh n slf c5 F x0 x1 x2 x4 t0 t1 = some (ρ, Fz)) : pd_V E l (pd_rm (dd + 1) 0 0) (RX12, cX12_waysOf, 6, (some .int), "waysOf") (pd_Qm E false (some (pd_I ρ)) sh Fz 0 0) false 0 0 sh F 61 [pd_R x0, pd_I x1, pd_I x2, pd_N, pd_I x4, pd_N] [pd_I t0, pd_I t1] := by
  unfold pfX12_waysOf_b61 at hf
  refine pd_iadd dX12_waysOf_61 ?_
  refine pd_topI (fun x3_62 ex3_62 => ?_)
  have hf := pd_lt hf ex3_62
  clear ex3_62
  refine pd_istore_n (L' := [pd_R x0, pd_I x1, pd_I x2, pd_I x3_62, pd_I x4, pd_N]) dX12_waysOf_62 rfl (by decide) rfl ?_
  refine pd_iincN (L' := fun y => [pd_R x0, pd_I x1, pd_I x2, pd_I x3_62, pd_I y, pd_N]) dX12_waysOf_63 rfl (by decide) (by decide) (fun _ => rfl) (fun x4_63 ex4_63 => ?_)
  have hf := pd_lt hf ex4_63
  clear ex4_63
  refine pd_goto (tgt := 5) dX12_waysOf_66 (by decide) ?_
  exact pd_weak (L' := [pd_R x0, pd_I x1, pd_I x2, pd_I x3_62, pd_I x4_63, pd_N]) ⟨Or.inr rfl, Or.inr rfl, Or.inr rfl, Or.inr rfl, Or.inr rfl, Or.inr rfl, trivial⟩ (hL5 _ _ _ _ _ _ hf)
set_option maxHeartbeats 4000000 in
set_option maxRecDepth 100000 in
theorem pkX12_waysOf_b5 (E : pd_E) (l : Launch) {sh : pd_S} {n : Nat} {ρ : Int} {Fz : pd_F} {dd : Nat} (hdd : 1 ≤ dd) {slf : pd_F → Int → Int → Int → Option (Int × pd_F)} (hslf : ∀ (F : pd_F) (o0 a0 a1 : Int) {ρ : Int} {Fz : pd_F}, slf F o0 a0 a1 = some (ρ, Fz) → pd_C l yX12_waysOf (Cond.code yX12_waysOf cX12_waysOf 6 (some .int) :: pd_gt) (pd_rm dd 0 0) false 0 0 sh F [pd_R o0, pd_I a0, pd_I a1] (some (pd_I ρ)) sh Fz)  : ∀ (k : Nat) (F : pd_F) (x0 : Int) (x1 : Int) (x2 : Int) (x3 : Int) (x4 : Int), pfX12_waysOf_b5 sh n slf  k F x0 x1 x2 x3 x4 = some (ρ, Fz) → pd_V E l (pd_rm (dd + 1) 0 0) (RX12, cX12_waysOf, 6, (some .int), "waysOf") (pd_Qm E false (some (pd_I ρ)) sh Fz 0 0) false 0 0 sh F 5 [pd_R x0, pd_I x1, pd_I x2, pd_I x3, pd_I x4, pd_N] [] := by
  intro k
  induction k with
  | zero => intro F x0 x1 x2 x3 x4 hf; exact absurd hf (by unfold pfX12_waysOf_b5; exact fun h => nomatch h)
  | succ k ih =>
    intro F x0 x1 x2 x3 x4 hf
    unfold pfX12_waysOf_b5 at hf
    refine pd_iload (i := 4) dX12_waysOf_5 rfl ?_
    refine pd_aload_n (i := 0) dX12_waysOf_7 rfl rfl ?_
    obtain ⟨hg1, hf⟩ := pd_ig hf
    refine pd_get (x := pd_R (F x0 26)) 26 dX12_waysOf_8 (show vwCl[12]? = some (RX12, TX12, 52) from rfl) pin_12 (by decide) pq_721 hg1 rfl ?_
    refine pd_iload_n (i := 1) dX12_waysOf_11 rfl rfl ?_
    obtain ⟨hg2, hf⟩ := pd_ig hf
    refine pd_iald dX12_waysOf_12 hg2 ?_
    refine pd_icmp_ge (tgt := 69) dX12_waysOf_13 (by decide) (fun hc => ?_) (fun hc => ?_)
    · have hf := pd_ip hf hc
      refine pd_iload_n (i := 3) dX12_waysOf_69 rfl rfl ?_
      obtain ⟨h1, h2⟩ := pd_inj hf
      subst h1 h2
      exact pd_iret dX12_waysOf_70 rfl (Nat.le_refl 0) (Nat.le_refl 0)
    · have hf := pd_in_ hf hc
      refine pd_aload_n (i := 0) dX12_waysOf_16 rfl rfl ?_
      refine pd_get (x := pd_R (F x0 27)) 27 dX12_waysOf_17 (show vwCl[12]? = some (RX12, TX12, 52) from rfl) pin_12 (by decide) pq_722 hg1 rfl ?_
      refine pd_iconst dX12_waysOf_20 (by decide) ?_
      refine pd_iload_n (i := 1) dX12_waysOf_21 rfl rfl ?_
      refine pd_imul dX12_waysOf_22 ?_
      refine pd_iload (i := 4) dX12_waysOf_23 rfl ?_
      refine pd_iadd dX12_waysOf_25 ?_
      obtain ⟨hg3, hf⟩ := pd_ig hf
      refine pd_iald dX12_waysOf_26 hg3 ?_
      refine pd_topI (fun x5_27 ex5_27 => ?_)
      have hf := pd_lt hf ex5_27
      clear ex5_27
      refine pd_istore (L' := [pd_R x0, pd_I x1, pd_I x2, pd_I x3, pd_I x4, pd_I x5_27]) dX12_waysOf_27 (by decide) rfl ?_
      refine pd_iload_n (i := 3) dX12_waysOf_29 rfl rfl ?_
      refine pd_iload (i := 5) dX12_waysOf_30 rfl ?_
      refine pd_iload_n (i := 2) dX12_waysOf_32 rfl rfl ?_
      refine pd_icmp_ne (tgt := 40) dX12_waysOf_33 (by decide) (fun hc => ?_) (fun hc => ?_)
      · have hf := pd_ip hf hc
        refine pd_iload (i := 5) dX12_waysOf_40 rfl ?_
        refine pd_bipush dX12_waysOf_42 (by decide) ?_
        refine pd_icmp_lt (tgt := 60) dX12_waysOf_44 (by decide) (fun hc => ?_) (fun hc => ?_)
        · have hf := pd_ip hf hc
          refine pd_iconst dX12_waysOf_60 (by decide) ?_
          exact pd_weak (L' := [pd_R x0, pd_I x1, pd_I x2, pd_N, pd_I x4, pd_N]) ⟨Or.inr rfl, Or.inr rfl, Or.inr rfl, Or.inl rfl, Or.inr rfl, Or.inl rfl, trivial⟩ (pkX12_waysOf_b61 E l hdd hslf ih _ _ _ _ _ _ _ hf)
        · have hf := pd_in_ hf hc
          refine pd_aload_n (i := 0) dX12_waysOf_47 rfl rfl ?_
          refine pd_iload (i := 5) dX12_waysOf_48 rfl ?_
          refine pd_bipush dX12_waysOf_50 (by decide) ?_
          refine pd_isub dX12_waysOf_52 ?_
          refine pd_iload_n (i := 2) dX12_waysOf_53 rfl rfl ?_
          obtain ⟨r5, F4, hr, hf⟩ := pd_ob2 hf
          refine pd_callV (hslf _ _ _ _ hr) dX12_waysOf_54 pq_1011 pq_1014 pq_1015 (show vwCl[12]? = some (yX12_waysOf.cls, TX12, 52) from rfl) hg1 (pd_okm (by omega) (by decide) pq_1012 pq_1013 (by decide) (show (parseMethodDescriptor yX12_waysOf.desc).map (fun d => d.parameters.length) = some 2 from by decide +kernel)) (Nat.le_of_ble_eq_true rfl) rfl ?_
          refine pd_goto (tgt := 61) dX12_waysOf_57 (by decide) ?_
          exact pd_weak (L' := [pd_R x0, pd_I x1, pd_I x2, pd_N, pd_I x4, pd_N]) ⟨Or.inr rfl, Or.inr rfl, Or.inr rfl, Or.inl rfl, Or.inr rfl, Or.inl rfl, trivial⟩ (pkX12_waysOf_b61 E l hdd hslf ih _ _ _ _ _ _ _ hf)
      · have hf := pd_iq hf hc
        refine pd_iconst dX12_waysOf_36 (by decide) ?_
        refine pd_goto (tgt := 61) dX12_waysOf_37 (by decide) ?_
        exact pd_weak (L' := [pd_R x0, pd_I x1, pd_I x2, pd_N, pd_I x4, pd_N]) ⟨Or.inr rfl, Or.inr rfl, Or.inr rfl, Or.inl rfl, Or.inr rfl, Or.inl rfl, trivial⟩ (pkX12_waysOf_b61 E l hdd hslf ih _ _ _ _ _ _ _ hf)
set_option maxHeartbeats 4000000 in
set_option maxRecDepth 100000 in
theorem pkX12_waysOf_r (l : Launch) {sh : pd_S} {n : Nat} : ∀ (k : Nat) (F : pd_F) (x0 : Int) (x1 : Int) (x2 : Int) {ρ : Int} {Fz : pd_F}, pfX12_waysOf sh n k F x0 x1 x2 = some (ρ, Fz) → pd_C l yX12_waysOf (Cond.code yX12_waysOf cX12_waysOf 6 (some .int) :: pd_gt) (pd_rm (1 + k) 0 0) false 0 0 sh F [pd_R x0, pd_I x1, pd_I x2] (some (pd_I ρ)) sh Fz := by
  intro k
  induction k with
  | zero => intro F x0 x1 x2 ρ Fz hf; exact absurd hf (by unfold pfX12_waysOf; exact fun h => nomatch h)
  | succ k ih =>
    intro F x0 x1 x2 ρ Fz hf
    unfold pfX12_waysOf at hf
    have hdd : 1 ≤ 1 + k := by omega
    have hslf := @ih
    generalize hsl : pfX12_waysOf sh n k = slf at hf hslf
    have hf := pd_lt0 hf
    refine pd_body (L := [pd_R x0, pd_I x1, pd_I x2, pd_N, pd_N, pd_N]) (by decide +kernel) (Nat.le_of_ble_eq_true rfl) rfl (fun E => ?_)
    refine pd_iconst dX12_waysOf_0 (by decide) ?_
    refine pd_istore_n (L' := [pd_R x0, pd_I x1, pd_I x2, pd_I 0, pd_N, pd_N]) dX12_waysOf_1 rfl (by decide) rfl ?_
    refine pd_iconst dX12_waysOf_2 (by decide) ?_
    refine pd_istore (L' := [pd_R x0, pd_I x1, pd_I x2, pd_I 0, pd_I 0, pd_N]) dX12_waysOf_3 (by decide) rfl ?_
    exact pd_weak (L' := [pd_R x0, pd_I x1, pd_I x2, pd_I 0, pd_I 0, pd_N]) ⟨Or.inr rfl, Or.inr rfl, Or.inr rfl, Or.inr rfl, Or.inr rfl, Or.inr rfl, trivial⟩ (pkX12_waysOf_b5 E l hdd hslf n _ _ _ _ _ _ hf)
theorem pkX12_waysOf (l : Launch) {sh : pd_S} {n : Nat} {F : pd_F} {x0 : Int} {x1 : Int} {x2 : Int} {ρ : Int} {Fz : pd_F} (hf : pfX12_waysOf sh n 8 F x0 x1 x2 = some (ρ, Fz)) : pd_C l yX12_waysOf (Cond.code yX12_waysOf cX12_waysOf 6 (some .int) :: pd_gt) (pd_rm 9 0 0) false 0 0 sh F [pd_R x0, pd_I x1, pd_I x2] (some (pd_I ρ)) sh Fz := pkX12_waysOf_r l 8 F x0 x1 x2 hf
set_option maxHeartbeats 4000000 in
set_option maxRecDepth 100000 in
theorem pkX12_fails_b59 (E : pd_E) (l : Launch) {sh : pd_S} {n : Nat} {ρ : Int} {Fz : pd_F} {dd : Nat} (hdd : 2 ≤ dd) {slf : pd_F → Int → Int → Option (Int × pd_F)} (hslf : ∀ (F : pd_F) (o0 a0 : Int) {ρ : Int} {Fz : pd_F}, slf F o0 a0 = some (ρ, Fz) → pd_C l yX12_fails (Cond.code yX12_fails cX12_fails 3 (some .boolean) :: pd_gt) (pd_rm dd 0 0) false 0 0 sh F [pd_R o0, pd_I a0] (some (pd_I ρ)) sh Fz) {c12 : pd_F → Int → Int → Int → Option (Int × pd_F)} (hL12 : ∀ (F : pd_F) (x0 : Int) (x1 : Int) (x2 : Int), c12 F x0 x1 x2 = some (ρ, Fz) → pd_V E l (pd_rm (dd + 1) 0 0) (RX12, cX12_fails, 3, (some .boolean), "fails") (pd_Qm E false (some (pd_I ρ)) sh Fz 0 0) false 0 0 sh F 12 [pd_R x0, pd_I x1, pd_I x2] []) (F : pd_F) (x0 : Int) (x1 : Int) (x2 : Int) (hf : pfX12_fails_b59 sh n slf c12 F x0 x1 x2 = some (ρ, Fz)) : pd_V E l (pd_rm (dd + 1) 0 0) (RX12, cX12_fails, 3, (some .boolean), "fails") (pd_Qm E false (some (pd_I ρ)) sh Fz 0 0) false 0 0 sh F 59 [pd_R x0, pd_I x1, pd_I x2] [] := by
  unfold pfX12_fails_b59 at hf
  refine pd_iincN (L' := fun y => [pd_R x0, pd_I x1, pd_I y]) dX12_fails_59 rfl (by decide) (by decide) (fun _ => rfl) (fun x2_59 ex2_59 => ?_)
  have hf := pd_lt hf ex2_59
  clear ex2_59
  refine pd_goto (tgt := 12) dX12_fails_62 (by decide) ?_
  exact pd_weak (L' := [pd_R x0, pd_I x1, pd_I x2_59]) ⟨Or.inr rfl, Or.inr rfl, Or.inr rfl, trivial⟩ (hL12 _ _ _ _ hf)
set_option maxHeartbeats 4000000 in
set_option maxRecDepth 100000 in
theorem pkX12_fails_b12 (E : pd_E) (l : Launch) {sh : pd_S} {n : Nat} {ρ : Int} {Fz : pd_F} {dd : Nat} (hdd : 2 ≤ dd) {slf : pd_F → Int → Int → Option (Int × pd_F)} (hslf : ∀ (F : pd_F) (o0 a0 : Int) {ρ : Int} {Fz : pd_F}, slf F o0 a0 = some (ρ, Fz) → pd_C l yX12_fails (Cond.code yX12_fails cX12_fails 3 (some .boolean) :: pd_gt) (pd_rm dd 0 0) false 0 0 sh F [pd_R o0, pd_I a0] (some (pd_I ρ)) sh Fz)  : ∀ (k : Nat) (F : pd_F) (x0 : Int) (x1 : Int) (x2 : Int), pfX12_fails_b12 sh n slf  k F x0 x1 x2 = some (ρ, Fz) → pd_V E l (pd_rm (dd + 1) 0 0) (RX12, cX12_fails, 3, (some .boolean), "fails") (pd_Qm E false (some (pd_I ρ)) sh Fz 0 0) false 0 0 sh F 12 [pd_R x0, pd_I x1, pd_I x2] [] := by
  intro k
  induction k with
  | zero => intro F x0 x1 x2 hf; exact absurd hf (by unfold pfX12_fails_b12; exact fun h => nomatch h)
  | succ k ih =>
    intro F x0 x1 x2 hf
    unfold pfX12_fails_b12 at hf
    refine pd_iload_n (i := 2) dX12_fails_12 rfl rfl ?_
    refine pd_aload_n (i := 0) dX12_fails_13 rfl rfl ?_
    obtain ⟨hg1, hf⟩ := pd_ig hf
    refine pd_get (x := pd_R (F x0 26)) 26 dX12_fails_14 (show vwCl[12]? = some (RX12, TX12, 52) from rfl) pin_12 (by decide) pq_721 hg1 rfl ?_
    refine pd_iload_n (i := 1) dX12_fails_17 rfl rfl ?_
    obtain ⟨hg2, hf⟩ := pd_ig hf
    refine pd_iald dX12_fails_18 hg2 ?_
    refine pd_icmp_ge (tgt := 65) dX12_fails_19 (by decide) (fun hc => ?_) (fun hc => ?_)
    · have hf := pd_ip hf hc
      refine pd_iconst dX12_fails_65 (by decide) ?_
      obtain ⟨h1, h2⟩ := pd_inj hf
      subst h1 h2
      exact pd_zret dX12_fails_66 rfl (by decide) (Nat.le_refl 0) (Nat.le_refl 0)
    · have hf := pd_in_ hf hc
      refine pd_aload_n (i := 0) dX12_fails_22 rfl rfl ?_
      refine pd_get (x := pd_R (F x0 27)) 27 dX12_fails_23 (show vwCl[12]? = some (RX12, TX12, 52) from rfl) pin_12 (by decide) pq_722 hg1 rfl ?_
      refine pd_iconst dX12_fails_26 (by decide) ?_
      refine pd_iload_n (i := 1) dX12_fails_27 rfl rfl ?_
      refine pd_imul dX12_fails_28 ?_
      refine pd_iload_n (i := 2) dX12_fails_29 rfl rfl ?_
      refine pd_iadd dX12_fails_30 ?_
      obtain ⟨hg3, hf⟩ := pd_ig hf
      refine pd_iald dX12_fails_31 hg3 ?_
      refine pd_bipush dX12_fails_32 (by decide) ?_
      refine pd_icmp_lt (tgt := 59) dX12_fails_34 (by decide) (fun hc => ?_) (fun hc => ?_)
      · have hf := pd_ip hf hc
        exact pd_weak (L' := [pd_R x0, pd_I x1, pd_I x2]) ⟨Or.inr rfl, Or.inr rfl, Or.inr rfl, trivial⟩ (pkX12_fails_b59 E l hdd hslf ih _ _ _ _ hf)
      · have hf := pd_in_ hf hc
        refine pd_aload_n (i := 0) dX12_fails_37 rfl rfl ?_
        refine pd_aload_n (i := 0) dX12_fails_38 rfl rfl ?_
        refine pd_get (x := pd_R (F x0 27)) 27 dX12_fails_39 (show vwCl[12]? = some (RX12, TX12, 52) from rfl) pin_12 (by decide) pq_722 hg1 rfl ?_
        refine pd_iconst dX12_fails_42 (by decide) ?_
        refine pd_iload_n (i := 1) dX12_fails_43 rfl rfl ?_
        refine pd_imul dX12_fails_44 ?_
        refine pd_iload_n (i := 2) dX12_fails_45 rfl rfl ?_
        refine pd_iadd dX12_fails_46 ?_
        refine pd_iald dX12_fails_47 hg3 ?_
        refine pd_bipush dX12_fails_48 (by decide) ?_
        refine pd_isub dX12_fails_50 ?_
        obtain ⟨r5, F4, hr, hf⟩ := pd_ob2 hf
        refine pd_callV (hslf _ _ _ hr) dX12_fails_51 pq_1016 pq_1019 pq_1020 (show vwCl[12]? = some (yX12_fails.cls, TX12, 52) from rfl) hg1 (pd_okm (by omega) (by decide) pq_1017 pq_1018 (by decide) (show (parseMethodDescriptor yX12_fails.desc).map (fun d => d.parameters.length) = some 1 from by decide +kernel)) (Nat.le_of_ble_eq_true rfl) rfl ?_
        refine pd_if_eq (tgt := 59) dX12_fails_54 (by decide) (fun hc => ?_) (fun hc => ?_)
        · have hf := pd_ip hf hc
          exact pd_weak (L' := [pd_R x0, pd_I x1, pd_I x2]) ⟨Or.inr rfl, Or.inr rfl, Or.inr rfl, trivial⟩ (pkX12_fails_b59 E l hdd hslf ih _ _ _ _ hf)
        · have hf := pd_in_ hf hc
          refine pd_iconst dX12_fails_57 (by decide) ?_
          obtain ⟨h1, h2⟩ := pd_inj hf
          subst h1 h2
          exact pd_zret dX12_fails_58 rfl (by decide) (Nat.le_refl 0) (Nat.le_refl 0)
set_option maxHeartbeats 4000000 in
set_option maxRecDepth 100000 in
theorem pkX12_fails_r (l : Launch) {sh : pd_S} {n : Nat} : ∀ (k : Nat) (F : pd_F) (x0 : Int) (x1 : Int) {ρ : Int} {Fz : pd_F}, pfX12_fails sh n k F x0 x1 = some (ρ, Fz) → pd_C l yX12_fails (Cond.code yX12_fails cX12_fails 3 (some .boolean) :: pd_gt) (pd_rm (2 + k) 0 0) false 0 0 sh F [pd_R x0, pd_I x1] (some (pd_I ρ)) sh Fz := by
  intro k
  induction k with
  | zero => intro F x0 x1 ρ Fz hf; exact absurd hf (by unfold pfX12_fails; exact fun h => nomatch h)
  | succ k ih =>
    intro F x0 x1 ρ Fz hf
    unfold pfX12_fails at hf
    have hdd : 2 ≤ 2 + k := by omega
    have hslf := @ih
    generalize hsl : pfX12_fails sh n k = slf at hf hslf
    have hf := pd_lt0 hf
    refine pd_body (L := [pd_R x0, pd_I x1, pd_N]) (by decide +kernel) (Nat.le_of_ble_eq_true rfl) rfl (fun E => ?_)
    refine pd_aload_n (i := 0) dX12_fails_0 rfl rfl ?_
    refine pd_iload_n (i := 1) dX12_fails_1 rfl rfl ?_
    obtain ⟨hg8, hf⟩ := pd_ig hf
    obtain ⟨r7, F6, hr, hf⟩ := pd_ob2 hf
    refine pd_callV (pkX12_weights l hr) dX12_fails_2 pq_1021 pq_1024 pq_1025 (show vwCl[12]? = some (yX12_weights.cls, TX12, 52) from rfl) hg8 (pd_okm (by omega) (by decide) pq_1022 pq_1023 (by decide) (show (parseMethodDescriptor yX12_weights.desc).map (fun d => d.parameters.length) = some 1 from by decide +kernel)) (Nat.le_of_ble_eq_true rfl) rfl ?_
    refine pd_if_ne (tgt := 10) dX12_fails_5 (by decide) (fun hc => ?_) (fun hc => ?_)
    · have hf := pd_ip hf hc
      refine pd_iconst dX12_fails_10 (by decide) ?_
      refine pd_istore_n (L' := [pd_R x0, pd_I x1, pd_I 0]) dX12_fails_11 rfl (by decide) rfl ?_
      exact pd_weak (L' := [pd_R x0, pd_I x1, pd_I 0]) ⟨Or.inr rfl, Or.inr rfl, Or.inr rfl, trivial⟩ (pkX12_fails_b12 E l hdd hslf n _ _ _ _ hf)
    · have hf := pd_iq hf hc
      refine pd_iconst dX12_fails_8 (by decide) ?_
      obtain ⟨h1, h2⟩ := pd_inj hf
      subst h1 h2
      exact pd_zret dX12_fails_9 rfl (by decide) (Nat.le_refl 0) (Nat.le_refl 0)
theorem pkX12_fails (l : Launch) {sh : pd_S} {n : Nat} {F : pd_F} {x0 : Int} {x1 : Int} {ρ : Int} {Fz : pd_F} (hf : pfX12_fails sh n 8 F x0 x1 = some (ρ, Fz)) : pd_C l yX12_fails (Cond.code yX12_fails cX12_fails 3 (some .boolean) :: pd_gt) (pd_rm 10 0 0) false 0 0 sh F [pd_R x0, pd_I x1] (some (pd_I ρ)) sh Fz := pkX12_fails_r l 8 F x0 x1 hf
set_option maxHeartbeats 4000000 in
set_option maxRecDepth 100000 in
theorem pkX12_gives_b106 (E : pd_E) (l : Launch) {sh : pd_S} {n : Nat} {Fz : pd_F} {dd : Nat} (hdd : 2 ≤ dd) {slf : pd_F → Int → Int → Int → Option pd_F} (hslf : ∀ (F : pd_F) (o0 a0 a1 : Int) {Fz : pd_F}, slf F o0 a0 a1 = some Fz → pd_C l yX12_gives (Cond.code yX12_gives cX12_gives 12 none :: pd_gt) (pd_rm dd 0 0) false 0 0 sh F [pd_R o0, pd_I a0, pd_J a1] none sh Fz) {c16 : pd_F → Int → Int → Int → Int → Int → Int → Int → Option pd_F} (hL16 : ∀ (F : pd_F) (x0 : Int) (x1 : Int) (x2 : Int) (x4 : Int) (x5 : Int) (x6 : Int) (x8 : Int), c16 F x0 x1 x2 x4 x5 x6 x8 = some Fz → pd_V E l (pd_rm (dd + 1) 0 0) (RX12, cX12_gives, 12, none, "gives") (pd_Qm E false none sh Fz 0 0) false 0 0 sh F 16 [pd_R x0, pd_I x1, pd_J x2, pd_N, pd_I x4, pd_I x5, pd_J x6, pd_N, pd_I x8, pd_N, pd_N, pd_N] []) (F : pd_F) (x0 : Int) (x1 : Int) (x2 : Int) (x4 : Int) (x5 : Int) (x8 : Int) (x9 : Int) (hf : pfX12_gives_b106 sh n slf c16 F x0 x1 x2 x4 x5 x8 x9 = some Fz) : pd_V E l (pd_rm (dd + 1) 0 0) (RX12, cX12_gives, 12, none, "gives") (pd_Qm E false none sh Fz 0 0) false 0 0 sh F 106 [pd_R x0, pd_I x1, pd_J x2, pd_N, pd_I x4, pd_I x5, pd_N, pd_N, pd_I x8, pd_J x9, pd_N, pd_N] [] := by
  unfold pfX12_gives_b106 at hf
  refine pd_lload (i := 9) dX12_gives_106 rfl ?_
  refine pd_lstore (L' := [pd_R x0, pd_I x1, pd_J x2, pd_N, pd_I x4, pd_I x5, pd_J x9, pd_N, pd_I x8, pd_J x9, pd_N, pd_N]) dX12_gives_108 (by decide) rfl ?_
  refine pd_iincN (L' := fun y => [pd_R x0, pd_I x1, pd_J x2, pd_N, pd_I x4, pd_I x5, pd_J x9, pd_N, pd_I y, pd_J x9, pd_N, pd_N]) dX12_gives_110 rfl (by decide) (by decide) (fun _ => rfl) (fun x8_110 ex8_110 => ?_)
  have hf := pd_lt hf ex8_110
  clear ex8_110
  refine pd_goto (tgt := 16) dX12_gives_113 (by decide) ?_
  exact pd_weak (L' := [pd_R x0, pd_I x1, pd_J x2, pd_N, pd_I x4, pd_I x5, pd_J x9, pd_N, pd_I x8_110, pd_N, pd_N, pd_N]) ⟨Or.inr rfl, Or.inr rfl, Or.inr rfl, Or.inr rfl, Or.inr rfl, Or.inr rfl, Or.inr rfl, Or.inr rfl, Or.inr rfl, Or.inl rfl, Or.inr rfl, Or.inr rfl, trivial⟩ (hL16 _ _ _ _ _ _ _ _ hf)
set_option maxHeartbeats 4000000 in
set_option maxRecDepth 100000 in
theorem pkX12_gives_b16 (E : pd_E) (l : Launch) {sh : pd_S} {n : Nat} {Fz : pd_F} {dd : Nat} (hdd : 2 ≤ dd) {slf : pd_F → Int → Int → Int → Option pd_F} (hslf : ∀ (F : pd_F) (o0 a0 a1 : Int) {Fz : pd_F}, slf F o0 a0 a1 = some Fz → pd_C l yX12_gives (Cond.code yX12_gives cX12_gives 12 none :: pd_gt) (pd_rm dd 0 0) false 0 0 sh F [pd_R o0, pd_I a0, pd_J a1] none sh Fz)  : ∀ (k : Nat) (F : pd_F) (x0 : Int) (x1 : Int) (x2 : Int) (x4 : Int) (x5 : Int) (x6 : Int) (x8 : Int), pfX12_gives_b16 sh n slf  k F x0 x1 x2 x4 x5 x6 x8 = some Fz → pd_V E l (pd_rm (dd + 1) 0 0) (RX12, cX12_gives, 12, none, "gives") (pd_Qm E false none sh Fz 0 0) false 0 0 sh F 16 [pd_R x0, pd_I x1, pd_J x2, pd_N, pd_I x4, pd_I x5, pd_J x6, pd_N, pd_I x8, pd_N, pd_N, pd_N] [] := by
  intro k
  induction k with
  | zero => intro F x0 x1 x2 x4 x5 x6 x8 hf; exact absurd hf (by unfold pfX12_gives_b16; exact fun h => nomatch h)
  | succ k ih =>
    intro F x0 x1 x2 x4 x5 x6 x8 hf
    unfold pfX12_gives_b16 at hf
    refine pd_iload (i := 8) dX12_gives_16 rfl ?_
    refine pd_aload_n (i := 0) dX12_gives_18 rfl rfl ?_
    obtain ⟨hg1, hf⟩ := pd_ig hf
    refine pd_get (x := pd_R (F x0 26)) 26 dX12_gives_19 (show vwCl[12]? = some (RX12, TX12, 52) from rfl) pin_12 (by decide) pq_721 hg1 rfl ?_
    refine pd_iload_n (i := 1) dX12_gives_22 rfl rfl ?_
    obtain ⟨hg2, hf⟩ := pd_ig hf
    refine pd_iald dX12_gives_23 hg2 ?_
    refine pd_icmp_ge (tgt := 116) dX12_gives_24 (by decide) (fun hc => ?_) (fun hc => ?_)
    · have hf := pd_ip hf hc
      obtain h2 := pd_inj1 hf
      subst h2
      exact pd_vret dX12_gives_116 rfl (Nat.le_refl 0) (Nat.le_refl 0)
    · have hf := pd_in_ hf hc
      refine pd_iload (i := 5) dX12_gives_27 rfl ?_
      refine pd_aload_n (i := 0) dX12_gives_29 rfl rfl ?_
      refine pd_get (x := pd_R (F x0 28)) 28 dX12_gives_30 (show vwCl[12]? = some (RX12, TX12, 52) from rfl) pin_12 (by decide) pq_799 hg1 rfl ?_
      refine pd_iconst dX12_gives_33 (by decide) ?_
      refine pd_iload_n (i := 1) dX12_gives_34 rfl rfl ?_
      refine pd_imul dX12_gives_35 ?_
      refine pd_iload (i := 8) dX12_gives_36 rfl ?_
      refine pd_iadd dX12_gives_38 ?_
      obtain ⟨hg3, hf⟩ := pd_ig hf
      refine pd_iald dX12_gives_39 hg3 ?_
      refine pd_iadd dX12_gives_40 ?_
      refine pd_topI (fun x5_41 ex5_41 => ?_)
      have hf := pd_lt hf ex5_41
      clear ex5_41
      refine pd_istore (L' := [pd_R x0, pd_I x1, pd_J x2, pd_N, pd_I x4, pd_I x5_41, pd_J x6, pd_N, pd_I x8, pd_N, pd_N, pd_N]) dX12_gives_41 (by decide) rfl ?_
      refine pd_lload_n (i := 2) dX12_gives_43 rfl rfl ?_
      refine pd_iload (i := 5) dX12_gives_44 rfl ?_
      refine pd_i2l dX12_gives_46 ?_
      refine pd_lmul dX12_gives_47 ?_
      refine pd_iload (i := 4) dX12_gives_48 rfl ?_
      refine pd_i2l dX12_gives_50 ?_
      obtain ⟨hg4, hf⟩ := pd_ig hf
      refine pd_ldiv dX12_gives_51 hg4 ?_
      refine pd_topJ (fun x9_52 ex9_52 => ?_)
      have hf := pd_lt hf ex9_52
      clear ex9_52
      refine pd_lstore (L' := [pd_R x0, pd_I x1, pd_J x2, pd_N, pd_I x4, pd_I x5_41, pd_J x6, pd_N, pd_I x8, pd_J x9_52, pd_N, pd_N]) dX12_gives_52 (by decide) rfl ?_
      refine pd_aload_n (i := 0) dX12_gives_54 rfl rfl ?_
      refine pd_get (x := pd_R (F x0 27)) 27 dX12_gives_55 (show vwCl[12]? = some (RX12, TX12, 52) from rfl) pin_12 (by decide) pq_722 hg1 rfl ?_
      refine pd_iconst dX12_gives_58 (by decide) ?_
      refine pd_iload_n (i := 1) dX12_gives_59 rfl rfl ?_
      refine pd_imul dX12_gives_60 ?_
      refine pd_iload (i := 8) dX12_gives_61 rfl ?_
      refine pd_iadd dX12_gives_63 ?_
      obtain ⟨hg5, hf⟩ := pd_ig hf
      refine pd_iald dX12_gives_64 hg5 ?_
      refine pd_topI (fun x11_65 ex11_65 => ?_)
      have hf := pd_lt hf ex11_65
      clear ex11_65
      refine pd_istore (L' := [pd_R x0, pd_I x1, pd_J x2, pd_N, pd_I x4, pd_I x5_41, pd_J x6, pd_N, pd_I x8, pd_J x9_52, pd_N, pd_I x11_65]) dX12_gives_65 (by decide) rfl ?_
      refine pd_iload (i := 11) dX12_gives_67 rfl ?_
      refine pd_bipush dX12_gives_69 (by decide) ?_
      refine pd_icmp_lt (tgt := 91) dX12_gives_71 (by decide) (fun hc => ?_) (fun hc => ?_)
      · have hf := pd_ip hf hc
        refine pd_aload_n (i := 0) dX12_gives_91 rfl rfl ?_
        refine pd_get (x := pd_R (F x0 44)) 44 dX12_gives_92 (show vwCl[12]? = some (RX12, TX12, 52) from rfl) pin_12 (by decide) pq_893 hg1 rfl ?_
        refine pd_iload (i := 11) dX12_gives_95 rfl ?_
        refine pd_dup2 dX12_gives_97 rfl rfl ?_
        obtain ⟨hg6, hf⟩ := pd_ig hf
        refine pd_lald dX12_gives_98 hg6 ?_
        refine pd_lload (i := 9) dX12_gives_99 rfl ?_
        refine pd_lload (i := 6) dX12_gives_101 rfl ?_
        refine pd_lsub dX12_gives_103 ?_
        refine pd_ladd dX12_gives_104 ?_
        refine pd_last dX12_gives_105 hg6 ?_
        refine pd_topF (fun F7 eF7 => ?_)
        have hf := pd_lt hf eF7
        clear eF7
        exact pd_weak (L' := [pd_R x0, pd_I x1, pd_J x2, pd_N, pd_I x4, pd_I x5_41, pd_N, pd_N, pd_I x8, pd_J x9_52, pd_N, pd_N]) ⟨Or.inr rfl, Or.inr rfl, Or.inr rfl, Or.inr rfl, Or.inr rfl, Or.inr rfl, Or.inl rfl, Or.inr rfl, Or.inr rfl, Or.inr rfl, Or.inr rfl, Or.inl rfl, trivial⟩ (pkX12_gives_b106 E l hdd hslf ih _ _ _ _ _ _ _ _ hf)
      · have hf := pd_in_ hf hc
        refine pd_aload_n (i := 0) dX12_gives_74 rfl rfl ?_
        refine pd_iload (i := 11) dX12_gives_75 rfl ?_
        refine pd_bipush dX12_gives_77 (by decide) ?_
        refine pd_isub dX12_gives_79 ?_
        refine pd_lload (i := 9) dX12_gives_80 rfl ?_
        refine pd_lload (i := 6) dX12_gives_82 rfl ?_
        refine pd_lsub dX12_gives_84 ?_
        obtain ⟨F8, hr, hf⟩ := pd_ob1 hf
        refine pd_callV (hslf _ _ _ _ hr) dX12_gives_85 pq_1026 pq_1029 pq_1030 (show vwCl[12]? = some (yX12_gives.cls, TX12, 52) from rfl) hg1 (pd_okm (by omega) (by decide) pq_1027 pq_1028 (by decide) (show (parseMethodDescriptor yX12_gives.desc).map (fun d => d.parameters.length) = some 2 from by decide +kernel)) (Nat.le_of_ble_eq_true rfl) rfl ?_
        refine pd_goto (tgt := 106) dX12_gives_88 (by decide) ?_
        exact pd_weak (L' := [pd_R x0, pd_I x1, pd_J x2, pd_N, pd_I x4, pd_I x5_41, pd_N, pd_N, pd_I x8, pd_J x9_52, pd_N, pd_N]) ⟨Or.inr rfl, Or.inr rfl, Or.inr rfl, Or.inr rfl, Or.inr rfl, Or.inr rfl, Or.inl rfl, Or.inr rfl, Or.inr rfl, Or.inr rfl, Or.inr rfl, Or.inl rfl, trivial⟩ (pkX12_gives_b106 E l hdd hslf ih _ _ _ _ _ _ _ _ hf)
set_option maxHeartbeats 4000000 in
set_option maxRecDepth 100000 in
theorem pkX12_gives_r (l : Launch) {sh : pd_S} {n : Nat} : ∀ (k : Nat) (F : pd_F) (x0 : Int) (x1 : Int) (x2 : Int) {Fz : pd_F}, pfX12_gives sh n k F x0 x1 x2 = some Fz → pd_C l yX12_gives (Cond.code yX12_gives cX12_gives 12 none :: pd_gt) (pd_rm (2 + k) 0 0) false 0 0 sh F [pd_R x0, pd_I x1, pd_J x2] none sh Fz := by
  intro k
  induction k with
  | zero => intro F x0 x1 x2  Fz hf; exact absurd hf (by unfold pfX12_gives; exact fun h => nomatch h)
  | succ k ih =>
    intro F x0 x1 x2  Fz hf
    unfold pfX12_gives at hf
    have hdd : 2 ≤ 2 + k := by omega
    have hslf := @ih
    generalize hsl : pfX12_gives sh n k = slf at hf hslf
    have hf := pd_lt0 hf
    refine pd_body (L := [pd_R x0, pd_I x1, pd_J x2, pd_N, pd_N, pd_N, pd_N, pd_N, pd_N, pd_N, pd_N, pd_N]) (by decide +kernel) (Nat.le_of_ble_eq_true rfl) rfl (fun E => ?_)
    refine pd_aload_n (i := 0) dX12_gives_0 rfl rfl ?_
    refine pd_iload_n (i := 1) dX12_gives_1 rfl rfl ?_
    obtain ⟨hg11, hf⟩ := pd_ig hf
    obtain ⟨r10, F9, hr, hf⟩ := pd_ob2 hf
    refine pd_callV (pkX12_weights l hr) dX12_gives_2 pq_1021 pq_1024 pq_1025 (show vwCl[12]? = some (yX12_weights.cls, TX12, 52) from rfl) hg11 (pd_okm (by omega) (by decide) pq_1022 pq_1023 (by decide) (show (parseMethodDescriptor yX12_weights.desc).map (fun d => d.parameters.length) = some 1 from by decide +kernel)) (Nat.le_of_ble_eq_true rfl) rfl ?_
    refine pd_istore (L' := [pd_R x0, pd_I x1, pd_J x2, pd_N, pd_I r10, pd_N, pd_N, pd_N, pd_N, pd_N, pd_N, pd_N]) dX12_gives_5 (by decide) rfl ?_
    refine pd_iconst dX12_gives_7 (by decide) ?_
    refine pd_istore (L' := [pd_R x0, pd_I x1, pd_J x2, pd_N, pd_I r10, pd_I 0, pd_N, pd_N, pd_N, pd_N, pd_N, pd_N]) dX12_gives_8 (by decide) rfl ?_
    refine pd_lconst (x := 0) dX12_gives_10 (by decide) ?_
    refine pd_lstore (L' := [pd_R x0, pd_I x1, pd_J x2, pd_N, pd_I r10, pd_I 0, pd_J 0, pd_N, pd_N, pd_N, pd_N, pd_N]) dX12_gives_11 (by decide) rfl ?_
    refine pd_iconst dX12_gives_13 (by decide) ?_
    refine pd_istore (L' := [pd_R x0, pd_I x1, pd_J x2, pd_N, pd_I r10, pd_I 0, pd_J 0, pd_N, pd_I 0, pd_N, pd_N, pd_N]) dX12_gives_14 (by decide) rfl ?_
    exact pd_weak (L' := [pd_R x0, pd_I x1, pd_J x2, pd_N, pd_I r10, pd_I 0, pd_J 0, pd_N, pd_I 0, pd_N, pd_N, pd_N]) ⟨Or.inr rfl, Or.inr rfl, Or.inr rfl, Or.inr rfl, Or.inr rfl, Or.inr rfl, Or.inr rfl, Or.inr rfl, Or.inr rfl, Or.inr rfl, Or.inr rfl, Or.inr rfl, trivial⟩ (pkX12_gives_b16 E l hdd hslf n _ _ _ _ _ _ _ _ hf)
theorem pkX12_gives (l : Launch) {sh : pd_S} {n : Nat} {F : pd_F} {x0 : Int} {x1 : Int} {x2 : Int} {Fz : pd_F} (hf : pfX12_gives sh n 8 F x0 x1 x2 = some Fz) : pd_C l yX12_gives (Cond.code yX12_gives cX12_gives 12 none :: pd_gt) (pd_rm 10 0 0) false 0 0 sh F [pd_R x0, pd_I x1, pd_J x2] none sh Fz := pkX12_gives_r l 8 F x0 x1 x2 hf
set_option maxHeartbeats 4000000 in
set_option maxRecDepth 100000 in
theorem pkX12_reaches_b32 (E : pd_E) (l : Launch) {sh : pd_S} {n : Nat} {ρ : Int} {Fz : pd_F} {c4 : pd_F → Int → Int → Int → Int → Option (Int × pd_F)} (hL4 : ∀ (F : pd_F) (x0 : Int) (x1 : Int) (x2 : Int) (x3 : Int), c4 F x0 x1 x2 x3 = some (ρ, Fz) → pd_V E l (pd_rm 10 0 0) (RX12, cX12_reaches, 4, (some .int), "reaches") (pd_Qm E false (some (pd_I ρ)) sh Fz 0 0) false 0 0 sh F 4 [pd_R x0, pd_I x1, pd_I x2, pd_I x3] []) (F : pd_F) (x0 : Int) (x1 : Int) (x3 : Int) (t0 : Int) (t1 : Int) (hf : pfX12_reaches_b32 sh n c4 F x0 x1 x3 t0 t1 = some (ρ, Fz)) : pd_V E l (pd_rm 10 0 0) (RX12, cX12_reaches, 4, (some .int), "reaches") (pd_Qm E false (some (pd_I ρ)) sh Fz 0 0) false 0 0 sh F 32 [pd_R x0, pd_I x1, pd_N, pd_I x3] [pd_I t0, pd_I t1] := by
  unfold pfX12_reaches_b32 at hf
  refine pd_iadd dX12_reaches_32 ?_
  refine pd_topI (fun x2_33 ex2_33 => ?_)
  have hf := pd_lt hf ex2_33
  clear ex2_33
  refine pd_istore_n (L' := [pd_R x0, pd_I x1, pd_I x2_33, pd_I x3]) dX12_reaches_33 rfl (by decide) rfl ?_
  refine pd_iincN (L' := fun y => [pd_R x0, pd_I x1, pd_I x2_33, pd_I y]) dX12_reaches_34 rfl (by decide) (by decide) (fun _ => rfl) (fun x3_34 ex3_34 => ?_)
  have hf := pd_lt hf ex3_34
  clear ex3_34
  refine pd_goto (tgt := 4) dX12_reaches_37 (by decide) ?_
  exact pd_weak (L' := [pd_R x0, pd_I x1, pd_I x2_33, pd_I x3_34]) ⟨Or.inr rfl, Or.inr rfl, Or.inr rfl, Or.inr rfl, trivial⟩ (hL4 _ _ _ _ _ hf)
set_option maxHeartbeats 4000000 in
set_option maxRecDepth 100000 in
theorem pkX12_reaches_b4 (E : pd_E) (l : Launch) {sh : pd_S} {n : Nat} {ρ : Int} {Fz : pd_F}  : ∀ (k : Nat) (F : pd_F) (x0 : Int) (x1 : Int) (x2 : Int) (x3 : Int), pfX12_reaches_b4 sh n  k F x0 x1 x2 x3 = some (ρ, Fz) → pd_V E l (pd_rm 10 0 0) (RX12, cX12_reaches, 4, (some .int), "reaches") (pd_Qm E false (some (pd_I ρ)) sh Fz 0 0) false 0 0 sh F 4 [pd_R x0, pd_I x1, pd_I x2, pd_I x3] [] := by
  intro k
  induction k with
  | zero => intro F x0 x1 x2 x3 hf; exact absurd hf (by unfold pfX12_reaches_b4; exact fun h => nomatch h)
  | succ k ih =>
    intro F x0 x1 x2 x3 hf
    unfold pfX12_reaches_b4 at hf
    refine pd_iload_n (i := 3) dX12_reaches_4 rfl rfl ?_
    refine pd_aload_n (i := 0) dX12_reaches_5 rfl rfl ?_
    obtain ⟨hg1, hf⟩ := pd_ig hf
    refine pd_get (x := pd_R (F x0 14)) 14 dX12_reaches_6 (show vwCl[12]? = some (RX12, TX12, 52) from rfl) pin_12 (by decide) pq_712 hg1 rfl ?_
    refine pd_iconst dX12_reaches_9 (by decide) ?_
    obtain ⟨hg2, hf⟩ := pd_ig hf
    refine pd_iald dX12_reaches_10 hg2 ?_
    refine pd_icmp_ge (tgt := 40) dX12_reaches_11 (by decide) (fun hc => ?_) (fun hc => ?_)
    · have hf := pd_ip hf hc
      refine pd_iload_n (i := 2) dX12_reaches_40 rfl rfl ?_
      obtain ⟨h1, h2⟩ := pd_inj hf
      subst h1 h2
      exact pd_iret dX12_reaches_41 rfl (Nat.le_refl 0) (Nat.le_refl 0)
    · have hf := pd_in_ hf hc
      refine pd_iload_n (i := 2) dX12_reaches_14 rfl rfl ?_
      refine pd_aload_n (i := 0) dX12_reaches_15 rfl rfl ?_
      refine pd_iload_n (i := 1) dX12_reaches_16 rfl rfl ?_
      obtain ⟨r4, F3, hr, hf⟩ := pd_ob2 hf
      refine pd_callS (pkX12_listOf l hr) dX12_reaches_17 pq_1031 pq_1034 (pd_okm (by omega) (by decide) pq_1032 pq_1033 (by decide) (show (parseMethodDescriptor yX12_listOf.desc).map (fun d => d.parameters.length) = some 1 from by decide +kernel)) (Nat.le_of_ble_eq_true rfl) rfl ?_
      refine pd_iload_n (i := 3) dX12_reaches_20 rfl rfl ?_
      obtain ⟨r6, F5, hr, hf⟩ := pd_ob2 hf
      refine pd_callV (pkX12_waysOf l hr) dX12_reaches_21 pq_1011 pq_1014 pq_1015 (show vwCl[12]? = some (yX12_waysOf.cls, TX12, 52) from rfl) hg1 (pd_okm (by omega) (by decide) pq_1012 pq_1013 (by decide) (show (parseMethodDescriptor yX12_waysOf.desc).map (fun d => d.parameters.length) = some 2 from by decide +kernel)) (Nat.le_of_ble_eq_true rfl) rfl ?_
      refine pd_if_le (tgt := 31) dX12_reaches_24 (by decide) (fun hc => ?_) (fun hc => ?_)
      · have hf := pd_ip hf hc
        refine pd_iconst dX12_reaches_31 (by decide) ?_
        exact pd_weak (L' := [pd_R x0, pd_I x1, pd_N, pd_I x3]) ⟨Or.inr rfl, Or.inr rfl, Or.inl rfl, Or.inr rfl, trivial⟩ (pkX12_reaches_b32 E l ih _ _ _ _ _ _ hf)
      · have hf := pd_in_ hf hc
        refine pd_iconst dX12_reaches_27 (by decide) ?_
        refine pd_goto (tgt := 32) dX12_reaches_28 (by decide) ?_
        exact pd_weak (L' := [pd_R x0, pd_I x1, pd_N, pd_I x3]) ⟨Or.inr rfl, Or.inr rfl, Or.inl rfl, Or.inr rfl, trivial⟩ (pkX12_reaches_b32 E l ih _ _ _ _ _ _ hf)
set_option maxHeartbeats 4000000 in
set_option maxRecDepth 100000 in
theorem pkX12_reaches (l : Launch) {sh : pd_S} {n : Nat} {F : pd_F} {x0 : Int} {x1 : Int} {ρ : Int} {Fz : pd_F} (hf : pfX12_reaches sh n F x0 x1 = some (ρ, Fz)) : pd_C l yX12_reaches (Cond.code yX12_reaches cX12_reaches 4 (some .int) :: pd_gt) (pd_rm 10 0 0) false 0 0 sh F [pd_R x0, pd_I x1] (some (pd_I ρ)) sh Fz := by
  unfold pfX12_reaches at hf
  refine pd_body (L := [pd_R x0, pd_I x1, pd_N, pd_N]) (by decide +kernel) (Nat.le_of_ble_eq_true rfl) rfl (fun E => ?_)
  refine pd_iconst dX12_reaches_0 (by decide) ?_
  refine pd_istore_n (L' := [pd_R x0, pd_I x1, pd_I 0, pd_N]) dX12_reaches_1 rfl (by decide) rfl ?_
  refine pd_iconst dX12_reaches_2 (by decide) ?_
  refine pd_istore_n (L' := [pd_R x0, pd_I x1, pd_I 0, pd_I 0]) dX12_reaches_3 rfl (by decide) rfl ?_
  exact pd_weak (L' := [pd_R x0, pd_I x1, pd_I 0, pd_I 0]) ⟨Or.inr rfl, Or.inr rfl, Or.inr rfl, Or.inr rfl, trivial⟩ (pkX12_reaches_b4 E l n _ _ _ _ _ hf)
set_option maxHeartbeats 4000000 in
set_option maxRecDepth 100000 in
theorem pkX12_ways (l : Launch) {sh : pd_S} {n : Nat} {F : pd_F} {x0 : Int} {x1 : Int} {x2 : Int} {ρ : Int} {Fz : pd_F} (hf : pfX12_ways sh n F x0 x1 x2 = some (ρ, Fz)) : pd_C l yX12_ways (Cond.code yX12_ways cX12_ways 3 (some .int) :: pd_gt) (pd_rm 10 0 0) false 0 0 sh F [pd_R x0, pd_I x1, pd_I x2] (some (pd_I ρ)) sh Fz := by
  unfold pfX12_ways at hf
  refine pd_body (L := [pd_R x0, pd_I x1, pd_I x2]) (by decide +kernel) (Nat.le_of_ble_eq_true rfl) rfl (fun E => ?_)
  refine pd_aload_n (i := 0) dX12_ways_0 rfl rfl ?_
  refine pd_iconst dX12_ways_1 (by decide) ?_
  obtain ⟨hg1, hf⟩ := pd_ig hf
  refine pd_put (n := 0) (x := pd_I 0) 0 dX12_ways_2 (show vwCl[12]? = some (RX12, TX12, 52) from rfl) pin_12 tyX12_ok nmX12 (by decide) pq_704 rfl hg1 rfl pd_nrI pd_ftI ?_
  refine pd_topF (fun F2 eF2 => ?_)
  have hf := pd_lt hf eF2
  clear eF2
  refine pd_aload_n (i := 0) dX12_ways_5 rfl rfl ?_
  refine pd_iload_n (i := 1) dX12_ways_6 rfl rfl ?_
  obtain ⟨r4, F3, hr, hf⟩ := pd_ob2 hf
  refine pd_callV (pkX12_isAccount l hr) dX12_ways_7 pq_943 pq_946 pq_947 (show vwCl[12]? = some (yX12_isAccount.cls, TX12, 52) from rfl) hg1 (pd_okm (by omega) (by decide) pq_944 pq_945 (by decide) (show (parseMethodDescriptor yX12_isAccount.desc).map (fun d => d.parameters.length) = some 1 from by decide +kernel)) (Nat.le_of_ble_eq_true rfl) rfl ?_
  refine pd_if_eq (tgt := 33) dX12_ways_10 (by decide) (fun hc => ?_) (fun hc => ?_)
  · have hf := pd_ip hf hc
    refine pd_iconst dX12_ways_33 (by decide) ?_
    obtain ⟨h1, h2⟩ := pd_inj hf
    subst h1 h2
    exact pd_iret dX12_ways_34 rfl (Nat.le_refl 0) (Nat.le_refl 0)
  · have hf := pd_in_ hf hc
    refine pd_aload_n (i := 0) dX12_ways_13 rfl rfl ?_
    refine pd_iload_n (i := 2) dX12_ways_14 rfl rfl ?_
    obtain ⟨r6, F5, hr, hf⟩ := pd_ob2 hf
    refine pd_callV (pkX12_isPerson l hr) dX12_ways_15 pq_938 pq_941 pq_942 (show vwCl[12]? = some (yX12_isPerson.cls, TX12, 52) from rfl) hg1 (pd_okm (by omega) (by decide) pq_939 pq_940 (by decide) (show (parseMethodDescriptor yX12_isPerson.desc).map (fun d => d.parameters.length) = some 1 from by decide +kernel)) (Nat.le_of_ble_eq_true rfl) rfl ?_
    refine pd_if_eq (tgt := 33) dX12_ways_18 (by decide) (fun hc => ?_) (fun hc => ?_)
    · have hf := pd_ip hf hc
      refine pd_iconst dX12_ways_33 (by decide) ?_
      obtain ⟨h1, h2⟩ := pd_inj hf
      subst h1 h2
      exact pd_iret dX12_ways_34 rfl (Nat.le_refl 0) (Nat.le_refl 0)
    · have hf := pd_in_ hf hc
      refine pd_aload_n (i := 0) dX12_ways_21 rfl rfl ?_
      refine pd_iload_n (i := 1) dX12_ways_22 rfl rfl ?_
      obtain ⟨r8, F7, hr, hf⟩ := pd_ob2 hf
      refine pd_callS (pkX12_listOf l hr) dX12_ways_23 pq_1031 pq_1034 (pd_okm (by omega) (by decide) pq_1032 pq_1033 (by decide) (show (parseMethodDescriptor yX12_listOf.desc).map (fun d => d.parameters.length) = some 1 from by decide +kernel)) (Nat.le_of_ble_eq_true rfl) rfl ?_
      refine pd_iload_n (i := 2) dX12_ways_26 rfl rfl ?_
      obtain ⟨r10, F9, hr, hf⟩ := pd_ob2 hf
      refine pd_callV (pkX12_waysOf l hr) dX12_ways_27 pq_1011 pq_1014 pq_1015 (show vwCl[12]? = some (yX12_waysOf.cls, TX12, 52) from rfl) hg1 (pd_okm (by omega) (by decide) pq_1012 pq_1013 (by decide) (show (parseMethodDescriptor yX12_waysOf.desc).map (fun d => d.parameters.length) = some 2 from by decide +kernel)) (Nat.le_of_ble_eq_true rfl) rfl ?_
      refine pd_goto (tgt := 34) dX12_ways_30 (by decide) ?_
      obtain ⟨h1, h2⟩ := pd_inj hf
      subst h1 h2
      exact pd_iret dX12_ways_34 rfl (Nat.le_refl 0) (Nat.le_refl 0)
set_option maxHeartbeats 4000000 in
set_option maxRecDepth 100000 in
theorem pkX12_laysViews_b88 (E : pd_E) (l : Launch) {sh : pd_S} {n : Nat} {Fz : pd_F} {c52 : pd_F → Int → Int → Option pd_F} (hL52 : ∀ (F : pd_F) (x0 : Int) (x1 : Int), c52 F x0 x1 = some Fz → pd_V E l (pd_rm 11 0 0) (RX12, cX12_laysViews, 3, none, "laysViews") (pd_Qm E false none sh Fz 0 0) false 0 0 sh F 52 [pd_R x0, pd_I x1, pd_N] []) (F : pd_F) (x0 : Int) (x1 : Int) (hf : pfX12_laysViews_b88 sh n c52 F x0 x1 = some Fz) : pd_V E l (pd_rm 11 0 0) (RX12, cX12_laysViews, 3, none, "laysViews") (pd_Qm E false none sh Fz 0 0) false 0 0 sh F 88 [pd_R x0, pd_I x1, pd_N] [] := by
  unfold pfX12_laysViews_b88 at hf
  refine pd_iincN (L' := fun y => [pd_R x0, pd_I y, pd_N]) dX12_laysViews_88 rfl (by decide) (by decide) (fun _ => rfl) (fun x1_88 ex1_88 => ?_)
  have hf := pd_lt hf ex1_88
  clear ex1_88
  refine pd_goto (tgt := 52) dX12_laysViews_91 (by decide) ?_
  exact pd_weak (L' := [pd_R x0, pd_I x1_88, pd_N]) ⟨Or.inr rfl, Or.inr rfl, Or.inr rfl, trivial⟩ (hL52 _ _ _ hf)
set_option maxHeartbeats 4000000 in
set_option maxRecDepth 100000 in
theorem pkX12_laysViews_b257 (E : pd_E) (l : Launch) {sh : pd_S} {n : Nat} {Fz : pd_F} {c158 : pd_F → Int → Int → Option pd_F} (hL158 : ∀ (F : pd_F) (x0 : Int) (x1 : Int), c158 F x0 x1 = some Fz → pd_V E l (pd_rm 11 0 0) (RX12, cX12_laysViews, 3, none, "laysViews") (pd_Qm E false none sh Fz 0 0) false 0 0 sh F 158 [pd_R x0, pd_I x1, pd_N] []) (F : pd_F) (x0 : Int) (x1 : Int) (hf : pfX12_laysViews_b257 sh n c158 F x0 x1 = some Fz) : pd_V E l (pd_rm 11 0 0) (RX12, cX12_laysViews, 3, none, "laysViews") (pd_Qm E false none sh Fz 0 0) false 0 0 sh F 257 [pd_R x0, pd_I x1, pd_N] [] := by
  unfold pfX12_laysViews_b257 at hf
  refine pd_iincN (L' := fun y => [pd_R x0, pd_I y, pd_N]) dX12_laysViews_257 rfl (by decide) (by decide) (fun _ => rfl) (fun x1_257 ex1_257 => ?_)
  have hf := pd_lt hf ex1_257
  clear ex1_257
  refine pd_goto (tgt := 158) dX12_laysViews_260 (by decide) ?_
  exact pd_weak (L' := [pd_R x0, pd_I x1_257, pd_N]) ⟨Or.inr rfl, Or.inr rfl, Or.inr rfl, trivial⟩ (hL158 _ _ _ hf)
set_option maxHeartbeats 4000000 in
set_option maxRecDepth 100000 in
theorem pkX12_laysViews_b254 (E : pd_E) (l : Launch) {sh : pd_S} {n : Nat} {Fz : pd_F} {c158 : pd_F → Int → Int → Option pd_F} (hL158 : ∀ (F : pd_F) (x0 : Int) (x1 : Int), c158 F x0 x1 = some Fz → pd_V E l (pd_rm 11 0 0) (RX12, cX12_laysViews, 3, none, "laysViews") (pd_Qm E false none sh Fz 0 0) false 0 0 sh F 158 [pd_R x0, pd_I x1, pd_N] []) (F : pd_F) (x0 : Int) (x1 : Int) (t0 : Int) (t1 : Int) (t2 : Int) (hf : pfX12_laysViews_b254 sh n c158 F x0 x1 t0 t1 t2 = some Fz) : pd_V E l (pd_rm 11 0 0) (RX12, cX12_laysViews, 3, none, "laysViews") (pd_Qm E false none sh Fz 0 0) false 0 0 sh F 254 [pd_R x0, pd_I x1, pd_N] [pd_J t0, pd_I t1, pd_R t2] := by
  unfold pfX12_laysViews_b254 at hf
  obtain ⟨hg2, hf⟩ := pd_ig hf
  obtain ⟨F1, hr, hf⟩ := pd_ob1 hf
  refine pd_callV (pkX12_gives l hr) dX12_laysViews_254 pq_1026 pq_1029 pq_1030 (show vwCl[12]? = some (yX12_gives.cls, TX12, 52) from rfl) hg2 (pd_okm (by omega) (by decide) pq_1027 pq_1028 (by decide) (show (parseMethodDescriptor yX12_gives.desc).map (fun d => d.parameters.length) = some 2 from by decide +kernel)) (Nat.le_of_ble_eq_true rfl) rfl ?_
  exact pd_weak (L' := [pd_R x0, pd_I x1, pd_N]) ⟨Or.inr rfl, Or.inr rfl, Or.inr rfl, trivial⟩ (pkX12_laysViews_b257 E l hL158 _ _ _ hf)
set_option maxHeartbeats 4000000 in
set_option maxRecDepth 100000 in
theorem pkX12_laysViews_b355 (E : pd_E) (l : Launch) {sh : pd_S} {n : Nat} {Fz : pd_F} {c303 : pd_F → Int → Int → Option pd_F} (hL303 : ∀ (F : pd_F) (x0 : Int) (x1 : Int), c303 F x0 x1 = some Fz → pd_V E l (pd_rm 11 0 0) (RX12, cX12_laysViews, 3, none, "laysViews") (pd_Qm E false none sh Fz 0 0) false 0 0 sh F 303 [pd_R x0, pd_I x1, pd_N] []) (F : pd_F) (x0 : Int) (x1 : Int) (hf : pfX12_laysViews_b355 sh n c303 F x0 x1 = some Fz) : pd_V E l (pd_rm 11 0 0) (RX12, cX12_laysViews, 3, none, "laysViews") (pd_Qm E false none sh Fz 0 0) false 0 0 sh F 355 [pd_R x0, pd_I x1, pd_N] [] := by
  unfold pfX12_laysViews_b355 at hf
  refine pd_iincN (L' := fun y => [pd_R x0, pd_I y, pd_N]) dX12_laysViews_355 rfl (by decide) (by decide) (fun _ => rfl) (fun x1_355 ex1_355 => ?_)
  have hf := pd_lt hf ex1_355
  clear ex1_355
  refine pd_goto (tgt := 303) dX12_laysViews_358 (by decide) ?_
  exact pd_weak (L' := [pd_R x0, pd_I x1_355, pd_N]) ⟨Or.inr rfl, Or.inr rfl, Or.inr rfl, trivial⟩ (hL303 _ _ _ hf)
set_option maxHeartbeats 4000000 in
set_option maxRecDepth 100000 in
theorem pkX12_laysViews_b303 (E : pd_E) (l : Launch) {sh : pd_S} {n : Nat} {Fz : pd_F}  : ∀ (k : Nat) (F : pd_F) (x0 : Int) (x1 : Int), pfX12_laysViews_b303 sh n  k F x0 x1 = some Fz → pd_V E l (pd_rm 11 0 0) (RX12, cX12_laysViews, 3, none, "laysViews") (pd_Qm E false none sh Fz 0 0) false 0 0 sh F 303 [pd_R x0, pd_I x1, pd_N] [] := by
  intro k
  induction k with
  | zero => intro F x0 x1 hf; exact absurd hf (by unfold pfX12_laysViews_b303; exact fun h => nomatch h)
  | succ k ih =>
    intro F x0 x1 hf
    unfold pfX12_laysViews_b303 at hf
    refine pd_iload_n (i := 1) dX12_laysViews_303 rfl rfl ?_
    refine pd_aload_n (i := 0) dX12_laysViews_304 rfl rfl ?_
    obtain ⟨hg3, hf⟩ := pd_ig hf
    refine pd_get (x := pd_R (F x0 18)) 18 dX12_laysViews_305 (show vwCl[12]? = some (RX12, TX12, 52) from rfl) pin_12 (by decide) pq_820 hg3 rfl ?_
    refine pd_iconst dX12_laysViews_308 (by decide) ?_
    obtain ⟨hg4, hf⟩ := pd_ig hf
    refine pd_iald dX12_laysViews_309 hg4 ?_
    refine pd_icmp_ge (tgt := 361) dX12_laysViews_310 (by decide) (fun hc => ?_) (fun hc => ?_)
    · have hf := pd_ip hf hc
      obtain h2 := pd_inj1 hf
      subst h2
      exact pd_vret dX12_laysViews_361 rfl (Nat.le_refl 0) (Nat.le_refl 0)
    · have hf := pd_in_ hf hc
      refine pd_aload_n (i := 0) dX12_laysViews_313 rfl rfl ?_
      refine pd_get (x := pd_R (F x0 35)) 35 dX12_laysViews_314 (show vwCl[12]? = some (RX12, TX12, 52) from rfl) pin_12 (by decide) pq_823 hg3 rfl ?_
      refine pd_iload_n (i := 1) dX12_laysViews_317 rfl rfl ?_
      obtain ⟨hg5, hf⟩ := pd_ig hf
      refine pd_iald dX12_laysViews_318 hg5 ?_
      refine pd_aload_n (i := 0) dX12_laysViews_319 rfl rfl ?_
      refine pd_get (x := pd_R (F x0 39)) 39 dX12_laysViews_320 (show vwCl[12]? = some (RX12, TX12, 52) from rfl) pin_12 (by decide) pq_877 hg3 rfl ?_
      refine pd_bipush dX12_laysViews_323 (by decide) ?_
      obtain ⟨hg6, hf⟩ := pd_ig hf
      refine pd_iald dX12_laysViews_325 hg6 ?_
      refine pd_icmp_gt (tgt := 355) dX12_laysViews_326 (by decide) (fun hc => ?_) (fun hc => ?_)
      · have hf := pd_ip hf hc
        exact pd_weak (L' := [pd_R x0, pd_I x1, pd_N]) ⟨Or.inr rfl, Or.inr rfl, Or.inr rfl, trivial⟩ (pkX12_laysViews_b355 E l ih _ _ _ hf)
      · have hf := pd_in_ hf hc
        refine pd_aload_n (i := 0) dX12_laysViews_329 rfl rfl ?_
        refine pd_get (x := pd_R (F x0 49)) 49 dX12_laysViews_330 (show vwCl[12]? = some (RX12, TX12, 52) from rfl) pin_12 (by decide) pq_894 hg3 rfl ?_
        refine pd_aload_n (i := 0) dX12_laysViews_333 rfl rfl ?_
        refine pd_get (x := pd_R (F x0 45)) 45 dX12_laysViews_334 (show vwCl[12]? = some (RX12, TX12, 52) from rfl) pin_12 (by decide) pq_970 hg3 rfl ?_
        refine pd_aload_n (i := 0) dX12_laysViews_337 rfl rfl ?_
        refine pd_get (x := pd_R (F x0 33)) 33 dX12_laysViews_338 (show vwCl[12]? = some (RX12, TX12, 52) from rfl) pin_12 (by decide) pq_821 hg3 rfl ?_
        refine pd_iload_n (i := 1) dX12_laysViews_341 rfl rfl ?_
        obtain ⟨hg7, hf⟩ := pd_ig hf
        refine pd_iald dX12_laysViews_342 hg7 ?_
        obtain ⟨hg8, hf⟩ := pd_ig hf
        refine pd_iald dX12_laysViews_343 hg8 ?_
        refine pd_dup2 dX12_laysViews_344 rfl rfl ?_
        obtain ⟨hg9, hf⟩ := pd_ig hf
        refine pd_lald dX12_laysViews_345 hg9 ?_
        refine pd_aload_n (i := 0) dX12_laysViews_346 rfl rfl ?_
        refine pd_get (x := pd_R (F x0 34)) 34 dX12_laysViews_347 (show vwCl[12]? = some (RX12, TX12, 52) from rfl) pin_12 (by decide) pq_822 hg3 rfl ?_
        refine pd_iload_n (i := 1) dX12_laysViews_350 rfl rfl ?_
        obtain ⟨hg10, hf⟩ := pd_ig hf
        refine pd_iald dX12_laysViews_351 hg10 ?_
        refine pd_i2l dX12_laysViews_352 ?_
        refine pd_ladd dX12_laysViews_353 ?_
        refine pd_last dX12_laysViews_354 hg9 ?_
        refine pd_topF (fun F11 eF11 => ?_)
        have hf := pd_lt hf eF11
        clear eF11
        exact pd_weak (L' := [pd_R x0, pd_I x1, pd_N]) ⟨Or.inr rfl, Or.inr rfl, Or.inr rfl, trivial⟩ (pkX12_laysViews_b355 E l ih _ _ _ hf)
set_option maxHeartbeats 4000000 in
set_option maxRecDepth 100000 in
theorem pkX12_laysViews_b301 (E : pd_E) (l : Launch) {sh : pd_S} {n : Nat} {Fz : pd_F}  (F : pd_F) (x0 : Int) (hf : pfX12_laysViews_b301 sh n  F x0 = some Fz) : pd_V E l (pd_rm 11 0 0) (RX12, cX12_laysViews, 3, none, "laysViews") (pd_Qm E false none sh Fz 0 0) false 0 0 sh F 301 [pd_R x0, pd_N, pd_N] [] := by
  unfold pfX12_laysViews_b301 at hf
  refine pd_iconst dX12_laysViews_301 (by decide) ?_
  refine pd_istore_n (L' := [pd_R x0, pd_I 0, pd_N]) dX12_laysViews_302 rfl (by decide) rfl ?_
  exact pd_weak (L' := [pd_R x0, pd_I 0, pd_N]) ⟨Or.inr rfl, Or.inr rfl, Or.inr rfl, trivial⟩ (pkX12_laysViews_b303 E l n _ _ _ hf)
set_option maxHeartbeats 4000000 in
set_option maxRecDepth 100000 in
theorem pkX12_laysViews_b265 (E : pd_E) (l : Launch) {sh : pd_S} {n : Nat} {Fz : pd_F}  : ∀ (k : Nat) (F : pd_F) (x0 : Int) (x1 : Int), pfX12_laysViews_b265 sh n  k F x0 x1 = some Fz → pd_V E l (pd_rm 11 0 0) (RX12, cX12_laysViews, 3, none, "laysViews") (pd_Qm E false none sh Fz 0 0) false 0 0 sh F 265 [pd_R x0, pd_I x1, pd_N] [] := by
  intro k
  induction k with
  | zero => intro F x0 x1 hf; exact absurd hf (by unfold pfX12_laysViews_b265; exact fun h => nomatch h)
  | succ k ih =>
    intro F x0 x1 hf
    unfold pfX12_laysViews_b265 at hf
    refine pd_iload_n (i := 1) dX12_laysViews_265 rfl rfl ?_
    refine pd_aload_n (i := 0) dX12_laysViews_266 rfl rfl ?_
    obtain ⟨hg12, hf⟩ := pd_ig hf
    refine pd_get (x := pd_R (F x0 14)) 14 dX12_laysViews_267 (show vwCl[12]? = some (RX12, TX12, 52) from rfl) pin_12 (by decide) pq_712 hg12 rfl ?_
    refine pd_iconst dX12_laysViews_270 (by decide) ?_
    obtain ⟨hg13, hf⟩ := pd_ig hf
    refine pd_iald dX12_laysViews_271 hg13 ?_
    refine pd_icmp_ge (tgt := 301) dX12_laysViews_272 (by decide) (fun hc => ?_) (fun hc => ?_)
    · have hf := pd_ip hf hc
      exact pd_weak (L' := [pd_R x0, pd_N, pd_N]) ⟨Or.inr rfl, Or.inl rfl, Or.inr rfl, trivial⟩ (pkX12_laysViews_b301 E l _ _ hf)
    · have hf := pd_in_ hf hc
      refine pd_aload_n (i := 0) dX12_laysViews_275 rfl rfl ?_
      refine pd_get (x := pd_R (F x0 50)) 50 dX12_laysViews_276 (show vwCl[12]? = some (RX12, TX12, 52) from rfl) pin_12 (by decide) pq_896 hg12 rfl ?_
      refine pd_aload_n (i := 0) dX12_laysViews_279 rfl rfl ?_
      refine pd_get (x := pd_R (F x0 45)) 45 dX12_laysViews_280 (show vwCl[12]? = some (RX12, TX12, 52) from rfl) pin_12 (by decide) pq_970 hg12 rfl ?_
      refine pd_iload_n (i := 1) dX12_laysViews_283 rfl rfl ?_
      obtain ⟨hg14, hf⟩ := pd_ig hf
      refine pd_iald dX12_laysViews_284 hg14 ?_
      refine pd_dup2 dX12_laysViews_285 rfl rfl ?_
      obtain ⟨hg15, hf⟩ := pd_ig hf
      refine pd_lald dX12_laysViews_286 hg15 ?_
      refine pd_aload_n (i := 0) dX12_laysViews_287 rfl rfl ?_
      refine pd_get (x := pd_R (F x0 44)) 44 dX12_laysViews_288 (show vwCl[12]? = some (RX12, TX12, 52) from rfl) pin_12 (by decide) pq_893 hg12 rfl ?_
      refine pd_iload_n (i := 1) dX12_laysViews_291 rfl rfl ?_
      obtain ⟨hg16, hf⟩ := pd_ig hf
      refine pd_lald dX12_laysViews_292 hg16 ?_
      refine pd_ladd dX12_laysViews_293 ?_
      refine pd_last dX12_laysViews_294 hg15 ?_
      refine pd_topF (fun F17 eF17 => ?_)
      have hf := pd_lt hf eF17
      clear eF17
      refine pd_iincN (L' := fun y => [pd_R x0, pd_I y, pd_N]) dX12_laysViews_295 rfl (by decide) (by decide) (fun _ => rfl) (fun x1_295 ex1_295 => ?_)
      have hf := pd_lt hf ex1_295
      clear ex1_295
      refine pd_goto (tgt := 265) dX12_laysViews_298 (by decide) ?_
      exact pd_weak (L' := [pd_R x0, pd_I x1_295, pd_N]) ⟨Or.inr rfl, Or.inr rfl, Or.inr rfl, trivial⟩ (ih _ _ _ hf)
set_option maxHeartbeats 4000000 in
set_option maxRecDepth 100000 in
theorem pkX12_laysViews_b263 (E : pd_E) (l : Launch) {sh : pd_S} {n : Nat} {Fz : pd_F}  (F : pd_F) (x0 : Int) (hf : pfX12_laysViews_b263 sh n  F x0 = some Fz) : pd_V E l (pd_rm 11 0 0) (RX12, cX12_laysViews, 3, none, "laysViews") (pd_Qm E false none sh Fz 0 0) false 0 0 sh F 263 [pd_R x0, pd_N, pd_N] [] := by
  unfold pfX12_laysViews_b263 at hf
  refine pd_iconst dX12_laysViews_263 (by decide) ?_
  refine pd_istore_n (L' := [pd_R x0, pd_I 0, pd_N]) dX12_laysViews_264 rfl (by decide) rfl ?_
  exact pd_weak (L' := [pd_R x0, pd_I 0, pd_N]) ⟨Or.inr rfl, Or.inr rfl, Or.inr rfl, trivial⟩ (pkX12_laysViews_b265 E l n _ _ _ hf)
set_option maxHeartbeats 4000000 in
set_option maxRecDepth 100000 in
theorem pkX12_laysViews_b158 (E : pd_E) (l : Launch) {sh : pd_S} {n : Nat} {Fz : pd_F}  : ∀ (k : Nat) (F : pd_F) (x0 : Int) (x1 : Int), pfX12_laysViews_b158 sh n  k F x0 x1 = some Fz → pd_V E l (pd_rm 11 0 0) (RX12, cX12_laysViews, 3, none, "laysViews") (pd_Qm E false none sh Fz 0 0) false 0 0 sh F 158 [pd_R x0, pd_I x1, pd_N] [] := by
  intro k
  induction k with
  | zero => intro F x0 x1 hf; exact absurd hf (by unfold pfX12_laysViews_b158; exact fun h => nomatch h)
  | succ k ih =>
    intro F x0 x1 hf
    unfold pfX12_laysViews_b158 at hf
    refine pd_iload_n (i := 1) dX12_laysViews_158 rfl rfl ?_
    refine pd_aload_n (i := 0) dX12_laysViews_159 rfl rfl ?_
    obtain ⟨hg18, hf⟩ := pd_ig hf
    refine pd_get (x := pd_R (F x0 17)) 17 dX12_laysViews_160 (show vwCl[12]? = some (RX12, TX12, 52) from rfl) pin_12 (by decide) pq_810 hg18 rfl ?_
    refine pd_iconst dX12_laysViews_163 (by decide) ?_
    obtain ⟨hg19, hf⟩ := pd_ig hf
    refine pd_iald dX12_laysViews_164 hg19 ?_
    refine pd_icmp_ge (tgt := 263) dX12_laysViews_165 (by decide) (fun hc => ?_) (fun hc => ?_)
    · have hf := pd_ip hf hc
      exact pd_weak (L' := [pd_R x0, pd_N, pd_N]) ⟨Or.inr rfl, Or.inl rfl, Or.inr rfl, trivial⟩ (pkX12_laysViews_b263 E l _ _ hf)
    · have hf := pd_in_ hf hc
      refine pd_aload_n (i := 0) dX12_laysViews_168 rfl rfl ?_
      refine pd_get (x := pd_R (F x0 29)) 29 dX12_laysViews_169 (show vwCl[12]? = some (RX12, TX12, 52) from rfl) pin_12 (by decide) pq_811 hg18 rfl ?_
      refine pd_iload_n (i := 1) dX12_laysViews_172 rfl rfl ?_
      obtain ⟨hg20, hf⟩ := pd_ig hf
      refine pd_iald dX12_laysViews_173 hg20 ?_
      refine pd_topI (fun x2_174 ex2_174 => ?_)
      have hf := pd_lt hf ex2_174
      clear ex2_174
      refine pd_istore_n (L' := [pd_R x0, pd_I x1, pd_I x2_174]) dX12_laysViews_174 rfl (by decide) rfl ?_
      refine pd_aload_n (i := 0) dX12_laysViews_175 rfl rfl ?_
      refine pd_iload_n (i := 2) dX12_laysViews_176 rfl rfl ?_
      obtain ⟨r22, F21, hr, hf⟩ := pd_ob2 hf
      refine pd_callS (pkX12_listOf l hr) dX12_laysViews_177 pq_1031 pq_1034 (pd_okm (by omega) (by decide) pq_1032 pq_1033 (by decide) (show (parseMethodDescriptor yX12_listOf.desc).map (fun d => d.parameters.length) = some 1 from by decide +kernel)) (Nat.le_of_ble_eq_true rfl) rfl ?_
      obtain ⟨r24, F23, hr, hf⟩ := pd_ob2 hf
      refine pd_callV (pkX12_fails l hr) dX12_laysViews_180 pq_1016 pq_1019 pq_1020 (show vwCl[12]? = some (yX12_fails.cls, TX12, 52) from rfl) hg18 (pd_okm (by omega) (by decide) pq_1017 pq_1018 (by decide) (show (parseMethodDescriptor yX12_fails.desc).map (fun d => d.parameters.length) = some 1 from by decide +kernel)) (Nat.le_of_ble_eq_true rfl) rfl ?_
      refine pd_if_ne (tgt := 257) dX12_laysViews_183 (by decide) (fun hc => ?_) (fun hc => ?_)
      · have hf := pd_ip hf hc
        exact pd_weak (L' := [pd_R x0, pd_I x1, pd_N]) ⟨Or.inr rfl, Or.inr rfl, Or.inl rfl, trivial⟩ (pkX12_laysViews_b257 E l ih _ _ _ hf)
      · have hf := pd_iq hf hc
        refine pd_aload_n (i := 0) dX12_laysViews_186 rfl rfl ?_
        refine pd_get (x := pd_R (F23 x0 39)) 39 dX12_laysViews_187 (show vwCl[12]? = some (RX12, TX12, 52) from rfl) pin_12 (by decide) pq_877 hg18 rfl ?_
        refine pd_bipush dX12_laysViews_190 (by decide) ?_
        obtain ⟨hg25, hf⟩ := pd_ig hf
        refine pd_iald dX12_laysViews_192 hg25 ?_
        refine pd_i2l dX12_laysViews_193 ?_
        refine pd_aload_n (i := 0) dX12_laysViews_194 rfl rfl ?_
        refine pd_get (x := pd_R (F23 x0 31)) 31 dX12_laysViews_195 (show vwCl[12]? = some (RX12, TX12, 52) from rfl) pin_12 (by decide) pq_818 hg18 rfl ?_
        refine pd_iload_n (i := 1) dX12_laysViews_198 rfl rfl ?_
        obtain ⟨hg26, hf⟩ := pd_ig hf
        refine pd_iald dX12_laysViews_199 hg26 ?_
        refine pd_i2l dX12_laysViews_200 ?_
        refine pd_aload_n (i := 0) dX12_laysViews_201 rfl rfl ?_
        refine pd_get (x := pd_R (F23 x0 32)) 32 dX12_laysViews_202 (show vwCl[12]? = some (RX12, TX12, 52) from rfl) pin_12 (by decide) pq_819 hg18 rfl ?_
        refine pd_iload_n (i := 1) dX12_laysViews_205 rfl rfl ?_
        obtain ⟨hg27, hf⟩ := pd_ig hf
        refine pd_iald dX12_laysViews_206 hg27 ?_
        refine pd_i2l dX12_laysViews_207 ?_
        obtain ⟨r29, F28, hr, hf⟩ := pd_ob2 hf
        refine pd_callS (pkX12_within l hr) dX12_laysViews_208 pq_738 pq_741 (pd_okm (by omega) (by decide) pq_739 pq_740 (by decide) (show (parseMethodDescriptor yX12_within.desc).map (fun d => d.parameters.length) = some 3 from by decide +kernel)) (Nat.le_of_ble_eq_true rfl) rfl ?_
        refine pd_if_ne (tgt := 217) dX12_laysViews_211 (by decide) (fun hc => ?_) (fun hc => ?_)
        · have hf := pd_ip hf hc
          refine pd_aload_n (i := 0) dX12_laysViews_217 rfl rfl ?_
          refine pd_iload_n (i := 2) dX12_laysViews_218 rfl rfl ?_
          obtain ⟨r31, F30, hr, hf⟩ := pd_ob2 hf
          refine pd_callS (pkX12_listOf l hr) dX12_laysViews_219 pq_1031 pq_1034 (pd_okm (by omega) (by decide) pq_1032 pq_1033 (by decide) (show (parseMethodDescriptor yX12_listOf.desc).map (fun d => d.parameters.length) = some 1 from by decide +kernel)) (Nat.le_of_ble_eq_true rfl) rfl ?_
          refine pd_aload_n (i := 0) dX12_laysViews_222 rfl rfl ?_
          refine pd_get (x := pd_R (F30 x0 30)) 30 dX12_laysViews_223 (show vwCl[12]? = some (RX12, TX12, 52) from rfl) pin_12 (by decide) pq_812 hg18 rfl ?_
          refine pd_iload_n (i := 1) dX12_laysViews_226 rfl rfl ?_
          obtain ⟨hg32, hf⟩ := pd_ig hf
          refine pd_iald dX12_laysViews_227 hg32 ?_
          refine pd_aload_n (i := 0) dX12_laysViews_228 rfl rfl ?_
          refine pd_get (x := pd_R (F30 x0 39)) 39 dX12_laysViews_229 (show vwCl[12]? = some (RX12, TX12, 52) from rfl) pin_12 (by decide) pq_877 hg18 rfl ?_
          refine pd_iload_n (i := 2) dX12_laysViews_232 rfl rfl ?_
          obtain ⟨hg33, hf⟩ := pd_ig hf
          refine pd_iald dX12_laysViews_233 hg33 ?_
          refine pd_icmp_ge (tgt := 247) dX12_laysViews_234 (by decide) (fun hc => ?_) (fun hc => ?_)
          · have hf := pd_ip hf hc
            refine pd_aload_n (i := 0) dX12_laysViews_247 rfl rfl ?_
            refine pd_get (x := pd_R (F30 x0 39)) 39 dX12_laysViews_248 (show vwCl[12]? = some (RX12, TX12, 52) from rfl) pin_12 (by decide) pq_877 hg18 rfl ?_
            refine pd_iload_n (i := 2) dX12_laysViews_251 rfl rfl ?_
            refine pd_iald dX12_laysViews_252 hg33 ?_
            refine pd_i2l dX12_laysViews_253 ?_
            exact pd_weak (L' := [pd_R x0, pd_I x1, pd_N]) ⟨Or.inr rfl, Or.inr rfl, Or.inl rfl, trivial⟩ (pkX12_laysViews_b254 E l ih _ _ _ _ _ _ hf)
          · have hf := pd_in_ hf hc
            refine pd_aload_n (i := 0) dX12_laysViews_237 rfl rfl ?_
            refine pd_get (x := pd_R (F30 x0 30)) 30 dX12_laysViews_238 (show vwCl[12]? = some (RX12, TX12, 52) from rfl) pin_12 (by decide) pq_812 hg18 rfl ?_
            refine pd_iload_n (i := 1) dX12_laysViews_241 rfl rfl ?_
            refine pd_iald dX12_laysViews_242 hg32 ?_
            refine pd_i2l dX12_laysViews_243 ?_
            refine pd_goto (tgt := 254) dX12_laysViews_244 (by decide) ?_
            exact pd_weak (L' := [pd_R x0, pd_I x1, pd_N]) ⟨Or.inr rfl, Or.inr rfl, Or.inl rfl, trivial⟩ (pkX12_laysViews_b254 E l ih _ _ _ _ _ _ hf)
        · have hf := pd_iq hf hc
          refine pd_goto (tgt := 257) dX12_laysViews_214 (by decide) ?_
          exact pd_weak (L' := [pd_R x0, pd_I x1, pd_N]) ⟨Or.inr rfl, Or.inr rfl, Or.inl rfl, trivial⟩ (pkX12_laysViews_b257 E l ih _ _ _ hf)
set_option maxHeartbeats 4000000 in
set_option maxRecDepth 100000 in
theorem pkX12_laysViews_b152 (E : pd_E) (l : Launch) {sh : pd_S} {n : Nat} {Fz : pd_F}  (F : pd_F) (x0 : Int) (hf : pfX12_laysViews_b152 sh n  F x0 = some Fz) : pd_V E l (pd_rm 11 0 0) (RX12, cX12_laysViews, 3, none, "laysViews") (pd_Qm E false none sh Fz 0 0) false 0 0 sh F 152 [pd_R x0, pd_N, pd_N] [] := by
  unfold pfX12_laysViews_b152 at hf
  refine pd_aload_n (i := 0) dX12_laysViews_152 rfl rfl ?_
  obtain ⟨hg35, hf⟩ := pd_ig hf
  obtain ⟨F34, hr, hf⟩ := pd_ob1 hf
  refine pd_callV (pkX12_sharesNothing l hr) dX12_laysViews_153 pq_1035 pq_1038 pq_1039 (show vwCl[12]? = some (yX12_sharesNothing.cls, TX12, 52) from rfl) hg35 (pd_okm (by omega) (by decide) pq_1036 pq_1037 (by decide) (show (parseMethodDescriptor yX12_sharesNothing.desc).map (fun d => d.parameters.length) = some 0 from by decide +kernel)) (Nat.le_of_ble_eq_true rfl) rfl ?_
  refine pd_iconst dX12_laysViews_156 (by decide) ?_
  refine pd_istore_n (L' := [pd_R x0, pd_I 0, pd_N]) dX12_laysViews_157 rfl (by decide) rfl ?_
  exact pd_weak (L' := [pd_R x0, pd_I 0, pd_N]) ⟨Or.inr rfl, Or.inr rfl, Or.inr rfl, trivial⟩ (pkX12_laysViews_b158 E l n _ _ _ hf)
set_option maxHeartbeats 4000000 in
set_option maxRecDepth 100000 in
theorem pkX12_laysViews_b96 (E : pd_E) (l : Launch) {sh : pd_S} {n : Nat} {Fz : pd_F}  : ∀ (k : Nat) (F : pd_F) (x0 : Int) (x1 : Int), pfX12_laysViews_b96 sh n  k F x0 x1 = some Fz → pd_V E l (pd_rm 11 0 0) (RX12, cX12_laysViews, 3, none, "laysViews") (pd_Qm E false none sh Fz 0 0) false 0 0 sh F 96 [pd_R x0, pd_I x1, pd_N] [] := by
  intro k
  induction k with
  | zero => intro F x0 x1 hf; exact absurd hf (by unfold pfX12_laysViews_b96; exact fun h => nomatch h)
  | succ k ih =>
    intro F x0 x1 hf
    unfold pfX12_laysViews_b96 at hf
    refine pd_iload_n (i := 1) dX12_laysViews_96 rfl rfl ?_
    refine pd_aload_n (i := 0) dX12_laysViews_97 rfl rfl ?_
    obtain ⟨hg36, hf⟩ := pd_ig hf
    refine pd_get (x := pd_R (F x0 14)) 14 dX12_laysViews_98 (show vwCl[12]? = some (RX12, TX12, 52) from rfl) pin_12 (by decide) pq_712 hg36 rfl ?_
    refine pd_iconst dX12_laysViews_101 (by decide) ?_
    obtain ⟨hg37, hf⟩ := pd_ig hf
    refine pd_iald dX12_laysViews_102 hg37 ?_
    refine pd_icmp_ge (tgt := 152) dX12_laysViews_103 (by decide) (fun hc => ?_) (fun hc => ?_)
    · have hf := pd_ip hf hc
      exact pd_weak (L' := [pd_R x0, pd_N, pd_N]) ⟨Or.inr rfl, Or.inl rfl, Or.inr rfl, trivial⟩ (pkX12_laysViews_b152 E l _ _ hf)
    · have hf := pd_in_ hf hc
      refine pd_aload_n (i := 0) dX12_laysViews_106 rfl rfl ?_
      refine pd_get (x := pd_R (F x0 48)) 48 dX12_laysViews_107 (show vwCl[12]? = some (RX12, TX12, 52) from rfl) pin_12 (by decide) pq_895 hg36 rfl ?_
      refine pd_aload_n (i := 0) dX12_laysViews_110 rfl rfl ?_
      refine pd_get (x := pd_R (F x0 45)) 45 dX12_laysViews_111 (show vwCl[12]? = some (RX12, TX12, 52) from rfl) pin_12 (by decide) pq_970 hg36 rfl ?_
      refine pd_iload_n (i := 1) dX12_laysViews_114 rfl rfl ?_
      obtain ⟨hg38, hf⟩ := pd_ig hf
      refine pd_iald dX12_laysViews_115 hg38 ?_
      refine pd_dup2 dX12_laysViews_116 rfl rfl ?_
      obtain ⟨hg39, hf⟩ := pd_ig hf
      refine pd_lald dX12_laysViews_117 hg39 ?_
      refine pd_aload_n (i := 0) dX12_laysViews_118 rfl rfl ?_
      refine pd_get (x := pd_R (F x0 44)) 44 dX12_laysViews_119 (show vwCl[12]? = some (RX12, TX12, 52) from rfl) pin_12 (by decide) pq_893 hg36 rfl ?_
      refine pd_iload_n (i := 1) dX12_laysViews_122 rfl rfl ?_
      obtain ⟨hg40, hf⟩ := pd_ig hf
      refine pd_lald dX12_laysViews_123 hg40 ?_
      refine pd_ladd dX12_laysViews_124 ?_
      refine pd_last dX12_laysViews_125 hg39 ?_
      refine pd_topF (fun F41 eF41 => ?_)
      have hf := pd_lt hf eF41
      clear eF41
      refine pd_aload_n (i := 0) dX12_laysViews_126 rfl rfl ?_
      refine pd_get (x := pd_R (F41 x0 51)) 51 dX12_laysViews_127 (show vwCl[12]? = some (RX12, TX12, 52) from rfl) pin_12 (by decide) pq_981 hg36 rfl ?_
      refine pd_aload_n (i := 0) dX12_laysViews_130 rfl rfl ?_
      refine pd_get (x := pd_R (F41 x0 45)) 45 dX12_laysViews_131 (show vwCl[12]? = some (RX12, TX12, 52) from rfl) pin_12 (by decide) pq_970 hg36 rfl ?_
      refine pd_iload_n (i := 1) dX12_laysViews_134 rfl rfl ?_
      obtain ⟨hg42, hf⟩ := pd_ig hf
      refine pd_iald dX12_laysViews_135 hg42 ?_
      refine pd_dup2 dX12_laysViews_136 rfl rfl ?_
      obtain ⟨hg43, hf⟩ := pd_ig hf
      refine pd_zald dX12_laysViews_137 hg43 ?_
      refine pd_aload_n (i := 0) dX12_laysViews_138 rfl rfl ?_
      refine pd_get (x := pd_R (F41 x0 22)) 22 dX12_laysViews_139 (show vwCl[12]? = some (RX12, TX12, 52) from rfl) pin_12 (by decide) pq_825 hg36 rfl ?_
      refine pd_iload_n (i := 1) dX12_laysViews_142 rfl rfl ?_
      obtain ⟨hg44, hf⟩ := pd_ig hf
      refine pd_zald dX12_laysViews_143 hg44 ?_
      refine pd_ior dX12_laysViews_144 ?_
      obtain ⟨hg45, hf⟩ := pd_ig hf
      refine pd_zast hg45 dX12_laysViews_145 hg43 ?_
      refine pd_topF (fun F46 eF46 => ?_)
      have hf := pd_lt hf eF46
      clear eF46
      refine pd_iincN (L' := fun y => [pd_R x0, pd_I y, pd_N]) dX12_laysViews_146 rfl (by decide) (by decide) (fun _ => rfl) (fun x1_146 ex1_146 => ?_)
      have hf := pd_lt hf ex1_146
      clear ex1_146
      refine pd_goto (tgt := 96) dX12_laysViews_149 (by decide) ?_
      exact pd_weak (L' := [pd_R x0, pd_I x1_146, pd_N]) ⟨Or.inr rfl, Or.inr rfl, Or.inr rfl, trivial⟩ (ih _ _ _ hf)
set_option maxHeartbeats 4000000 in
set_option maxRecDepth 100000 in
theorem pkX12_laysViews_b94 (E : pd_E) (l : Launch) {sh : pd_S} {n : Nat} {Fz : pd_F}  (F : pd_F) (x0 : Int) (hf : pfX12_laysViews_b94 sh n  F x0 = some Fz) : pd_V E l (pd_rm 11 0 0) (RX12, cX12_laysViews, 3, none, "laysViews") (pd_Qm E false none sh Fz 0 0) false 0 0 sh F 94 [pd_R x0, pd_N, pd_N] [] := by
  unfold pfX12_laysViews_b94 at hf
  refine pd_iconst dX12_laysViews_94 (by decide) ?_
  refine pd_istore_n (L' := [pd_R x0, pd_I 0, pd_N]) dX12_laysViews_95 rfl (by decide) rfl ?_
  exact pd_weak (L' := [pd_R x0, pd_I 0, pd_N]) ⟨Or.inr rfl, Or.inr rfl, Or.inr rfl, trivial⟩ (pkX12_laysViews_b96 E l n _ _ _ hf)
set_option maxHeartbeats 4000000 in
set_option maxRecDepth 100000 in
theorem pkX12_laysViews_b52 (E : pd_E) (l : Launch) {sh : pd_S} {n : Nat} {Fz : pd_F}  : ∀ (k : Nat) (F : pd_F) (x0 : Int) (x1 : Int), pfX12_laysViews_b52 sh n  k F x0 x1 = some Fz → pd_V E l (pd_rm 11 0 0) (RX12, cX12_laysViews, 3, none, "laysViews") (pd_Qm E false none sh Fz 0 0) false 0 0 sh F 52 [pd_R x0, pd_I x1, pd_N] [] := by
  intro k
  induction k with
  | zero => intro F x0 x1 hf; exact absurd hf (by unfold pfX12_laysViews_b52; exact fun h => nomatch h)
  | succ k ih =>
    intro F x0 x1 hf
    unfold pfX12_laysViews_b52 at hf
    refine pd_iload_n (i := 1) dX12_laysViews_52 rfl rfl ?_
    refine pd_aload_n (i := 0) dX12_laysViews_53 rfl rfl ?_
    obtain ⟨hg47, hf⟩ := pd_ig hf
    refine pd_get (x := pd_R (F x0 16)) 16 dX12_laysViews_54 (show vwCl[12]? = some (RX12, TX12, 52) from rfl) pin_12 (by decide) pq_717 hg47 rfl ?_
    refine pd_iconst dX12_laysViews_57 (by decide) ?_
    obtain ⟨hg48, hf⟩ := pd_ig hf
    refine pd_iald dX12_laysViews_58 hg48 ?_
    refine pd_icmp_ge (tgt := 94) dX12_laysViews_59 (by decide) (fun hc => ?_) (fun hc => ?_)
    · have hf := pd_ip hf hc
      exact pd_weak (L' := [pd_R x0, pd_N, pd_N]) ⟨Or.inr rfl, Or.inl rfl, Or.inr rfl, trivial⟩ (pkX12_laysViews_b94 E l _ _ hf)
    · have hf := pd_in_ hf hc
      refine pd_aload_n (i := 0) dX12_laysViews_62 rfl rfl ?_
      refine pd_iload_n (i := 1) dX12_laysViews_63 rfl rfl ?_
      obtain ⟨r50, F49, hr, hf⟩ := pd_ob2 hf
      refine pd_callS (pkX12_listOf l hr) dX12_laysViews_64 pq_1031 pq_1034 (pd_okm (by omega) (by decide) pq_1032 pq_1033 (by decide) (show (parseMethodDescriptor yX12_listOf.desc).map (fun d => d.parameters.length) = some 1 from by decide +kernel)) (Nat.le_of_ble_eq_true rfl) rfl ?_
      obtain ⟨r52, F51, hr, hf⟩ := pd_ob2 hf
      refine pd_callV (pkX12_fails l hr) dX12_laysViews_67 pq_1016 pq_1019 pq_1020 (show vwCl[12]? = some (yX12_fails.cls, TX12, 52) from rfl) hg47 (pd_okm (by omega) (by decide) pq_1017 pq_1018 (by decide) (show (parseMethodDescriptor yX12_fails.desc).map (fun d => d.parameters.length) = some 1 from by decide +kernel)) (Nat.le_of_ble_eq_true rfl) rfl ?_
      refine pd_if_ne (tgt := 88) dX12_laysViews_70 (by decide) (fun hc => ?_) (fun hc => ?_)
      · have hf := pd_ip hf hc
        exact pd_weak (L' := [pd_R x0, pd_I x1, pd_N]) ⟨Or.inr rfl, Or.inr rfl, Or.inr rfl, trivial⟩ (pkX12_laysViews_b88 E l ih _ _ _ hf)
      · have hf := pd_iq hf hc
        refine pd_aload_n (i := 0) dX12_laysViews_73 rfl rfl ?_
        refine pd_iload_n (i := 1) dX12_laysViews_74 rfl rfl ?_
        obtain ⟨r54, F53, hr, hf⟩ := pd_ob2 hf
        refine pd_callS (pkX12_listOf l hr) dX12_laysViews_75 pq_1031 pq_1034 (pd_okm (by omega) (by decide) pq_1032 pq_1033 (by decide) (show (parseMethodDescriptor yX12_listOf.desc).map (fun d => d.parameters.length) = some 1 from by decide +kernel)) (Nat.le_of_ble_eq_true rfl) rfl ?_
        refine pd_aload_n (i := 0) dX12_laysViews_78 rfl rfl ?_
        refine pd_get (x := pd_R (F53 x0 39)) 39 dX12_laysViews_79 (show vwCl[12]? = some (RX12, TX12, 52) from rfl) pin_12 (by decide) pq_877 hg47 rfl ?_
        refine pd_iload_n (i := 1) dX12_laysViews_82 rfl rfl ?_
        obtain ⟨hg55, hf⟩ := pd_ig hf
        refine pd_iald dX12_laysViews_83 hg55 ?_
        refine pd_i2l dX12_laysViews_84 ?_
        obtain ⟨F56, hr, hf⟩ := pd_ob1 hf
        refine pd_callV (pkX12_gives l hr) dX12_laysViews_85 pq_1026 pq_1029 pq_1030 (show vwCl[12]? = some (yX12_gives.cls, TX12, 52) from rfl) hg47 (pd_okm (by omega) (by decide) pq_1027 pq_1028 (by decide) (show (parseMethodDescriptor yX12_gives.desc).map (fun d => d.parameters.length) = some 2 from by decide +kernel)) (Nat.le_of_ble_eq_true rfl) rfl ?_
        exact pd_weak (L' := [pd_R x0, pd_I x1, pd_N]) ⟨Or.inr rfl, Or.inr rfl, Or.inr rfl, trivial⟩ (pkX12_laysViews_b88 E l ih _ _ _ hf)
set_option maxHeartbeats 4000000 in
set_option maxRecDepth 100000 in
theorem pkX12_laysViews_b46 (E : pd_E) (l : Launch) {sh : pd_S} {n : Nat} {Fz : pd_F}  (F : pd_F) (x0 : Int) (hf : pfX12_laysViews_b46 sh n  F x0 = some Fz) : pd_V E l (pd_rm 11 0 0) (RX12, cX12_laysViews, 3, none, "laysViews") (pd_Qm E false none sh Fz 0 0) false 0 0 sh F 46 [pd_R x0, pd_N, pd_N] [] := by
  unfold pfX12_laysViews_b46 at hf
  refine pd_aload_n (i := 0) dX12_laysViews_46 rfl rfl ?_
  obtain ⟨hg58, hf⟩ := pd_ig hf
  obtain ⟨F57, hr, hf⟩ := pd_ob1 hf
  refine pd_callV (pkX12_sharesNothing l hr) dX12_laysViews_47 pq_1035 pq_1038 pq_1039 (show vwCl[12]? = some (yX12_sharesNothing.cls, TX12, 52) from rfl) hg58 (pd_okm (by omega) (by decide) pq_1036 pq_1037 (by decide) (show (parseMethodDescriptor yX12_sharesNothing.desc).map (fun d => d.parameters.length) = some 0 from by decide +kernel)) (Nat.le_of_ble_eq_true rfl) rfl ?_
  refine pd_iconst dX12_laysViews_50 (by decide) ?_
  refine pd_istore_n (L' := [pd_R x0, pd_I 0, pd_N]) dX12_laysViews_51 rfl (by decide) rfl ?_
  exact pd_weak (L' := [pd_R x0, pd_I 0, pd_N]) ⟨Or.inr rfl, Or.inr rfl, Or.inr rfl, trivial⟩ (pkX12_laysViews_b52 E l n _ _ _ hf)
set_option maxHeartbeats 4000000 in
set_option maxRecDepth 100000 in
theorem pkX12_laysViews_b6 (E : pd_E) (l : Launch) {sh : pd_S} {n : Nat} {Fz : pd_F}  : ∀ (k : Nat) (F : pd_F) (x0 : Int) (x1 : Int), pfX12_laysViews_b6 sh n  k F x0 x1 = some Fz → pd_V E l (pd_rm 11 0 0) (RX12, cX12_laysViews, 3, none, "laysViews") (pd_Qm E false none sh Fz 0 0) false 0 0 sh F 6 [pd_R x0, pd_I x1, pd_N] [] := by
  intro k
  induction k with
  | zero => intro F x0 x1 hf; exact absurd hf (by unfold pfX12_laysViews_b6; exact fun h => nomatch h)
  | succ k ih =>
    intro F x0 x1 hf
    unfold pfX12_laysViews_b6 at hf
    refine pd_iload_n (i := 1) dX12_laysViews_6 rfl rfl ?_
    refine pd_bipush dX12_laysViews_7 (by decide) ?_
    refine pd_icmp_ge (tgt := 46) dX12_laysViews_9 (by decide) (fun hc => ?_) (fun hc => ?_)
    · have hf := pd_ip hf hc
      exact pd_weak (L' := [pd_R x0, pd_N, pd_N]) ⟨Or.inr rfl, Or.inl rfl, Or.inr rfl, trivial⟩ (pkX12_laysViews_b46 E l _ _ hf)
    · have hf := pd_in_ hf hc
      refine pd_aload_n (i := 0) dX12_laysViews_12 rfl rfl ?_
      obtain ⟨hg59, hf⟩ := pd_ig hf
      refine pd_get (x := pd_R (F x0 48)) 48 dX12_laysViews_13 (show vwCl[12]? = some (RX12, TX12, 52) from rfl) pin_12 (by decide) pq_895 hg59 rfl ?_
      refine pd_iload_n (i := 1) dX12_laysViews_16 rfl rfl ?_
      refine pd_lconst (x := 0) dX12_laysViews_17 (by decide) ?_
      obtain ⟨hg60, hf⟩ := pd_ig hf
      refine pd_last dX12_laysViews_18 hg60 ?_
      refine pd_topF (fun F61 eF61 => ?_)
      have hf := pd_lt hf eF61
      clear eF61
      refine pd_aload_n (i := 0) dX12_laysViews_19 rfl rfl ?_
      refine pd_get (x := pd_R (F61 x0 49)) 49 dX12_laysViews_20 (show vwCl[12]? = some (RX12, TX12, 52) from rfl) pin_12 (by decide) pq_894 hg59 rfl ?_
      refine pd_iload_n (i := 1) dX12_laysViews_23 rfl rfl ?_
      refine pd_lconst (x := 0) dX12_laysViews_24 (by decide) ?_
      obtain ⟨hg62, hf⟩ := pd_ig hf
      refine pd_last dX12_laysViews_25 hg62 ?_
      refine pd_topF (fun F63 eF63 => ?_)
      have hf := pd_lt hf eF63
      clear eF63
      refine pd_aload_n (i := 0) dX12_laysViews_26 rfl rfl ?_
      refine pd_get (x := pd_R (F63 x0 50)) 50 dX12_laysViews_27 (show vwCl[12]? = some (RX12, TX12, 52) from rfl) pin_12 (by decide) pq_896 hg59 rfl ?_
      refine pd_iload_n (i := 1) dX12_laysViews_30 rfl rfl ?_
      refine pd_lconst (x := 0) dX12_laysViews_31 (by decide) ?_
      obtain ⟨hg64, hf⟩ := pd_ig hf
      refine pd_last dX12_laysViews_32 hg64 ?_
      refine pd_topF (fun F65 eF65 => ?_)
      have hf := pd_lt hf eF65
      clear eF65
      refine pd_aload_n (i := 0) dX12_laysViews_33 rfl rfl ?_
      refine pd_get (x := pd_R (F65 x0 51)) 51 dX12_laysViews_34 (show vwCl[12]? = some (RX12, TX12, 52) from rfl) pin_12 (by decide) pq_981 hg59 rfl ?_
      refine pd_iload_n (i := 1) dX12_laysViews_37 rfl rfl ?_
      refine pd_iconst dX12_laysViews_38 (by decide) ?_
      obtain ⟨hg66, hf⟩ := pd_ig hf
      refine pd_zast (by decide) dX12_laysViews_39 hg66 ?_
      refine pd_topF (fun F67 eF67 => ?_)
      have hf := pd_lt hf eF67
      clear eF67
      refine pd_iincN (L' := fun y => [pd_R x0, pd_I y, pd_N]) dX12_laysViews_40 rfl (by decide) (by decide) (fun _ => rfl) (fun x1_40 ex1_40 => ?_)
      have hf := pd_lt hf ex1_40
      clear ex1_40
      refine pd_goto (tgt := 6) dX12_laysViews_43 (by decide) ?_
      exact pd_weak (L' := [pd_R x0, pd_I x1_40, pd_N]) ⟨Or.inr rfl, Or.inr rfl, Or.inr rfl, trivial⟩ (ih _ _ _ hf)
set_option maxHeartbeats 4000000 in
set_option maxRecDepth 100000 in
theorem pkX12_laysViews (l : Launch) {sh : pd_S} {n : Nat} {F : pd_F} {x0 : Int} {Fz : pd_F} (hf : pfX12_laysViews sh n F x0 = some Fz) : pd_C l yX12_laysViews (Cond.code yX12_laysViews cX12_laysViews 3 none :: pd_gt) (pd_rm 11 0 0) false 0 0 sh F [pd_R x0] none sh Fz := by
  unfold pfX12_laysViews at hf
  refine pd_body (L := [pd_R x0, pd_N, pd_N]) (by decide +kernel) (Nat.le_of_ble_eq_true rfl) rfl (fun E => ?_)
  refine pd_aload_n (i := 0) dX12_laysViews_0 rfl rfl ?_
  obtain ⟨hg69, hf⟩ := pd_ig hf
  obtain ⟨F68, hr, hf⟩ := pd_ob1 hf
  refine pd_callV (pkX12_laysDepositors l hr) dX12_laysViews_1 pq_987 pq_990 pq_991 (show vwCl[12]? = some (yX12_laysDepositors.cls, TX12, 52) from rfl) hg69 (pd_okm (by omega) (by decide) pq_988 pq_989 (by decide) (show (parseMethodDescriptor yX12_laysDepositors.desc).map (fun d => d.parameters.length) = some 0 from by decide +kernel)) (Nat.le_of_ble_eq_true rfl) rfl ?_
  refine pd_iconst dX12_laysViews_4 (by decide) ?_
  refine pd_istore_n (L' := [pd_R x0, pd_I 0, pd_N]) dX12_laysViews_5 rfl (by decide) rfl ?_
  exact pd_weak (L' := [pd_R x0, pd_I 0, pd_N]) ⟨Or.inr rfl, Or.inr rfl, Or.inr rfl, trivial⟩ (pkX12_laysViews_b6 E l n _ _ _ hf)
set_option maxHeartbeats 4000000 in
set_option maxRecDepth 100000 in
theorem pkX12_trust (l : Launch) {sh : pd_S} {n : Nat} {F : pd_F} {x0 : Int} {x1 : Int} {x2 : Int} {ρ : Int} {Fz : pd_F} (hf : pfX12_trust sh n F x0 x1 x2 = some (ρ, Fz)) : pd_C l yX12_trust (Cond.code yX12_trust cX12_trust 3 (some .int) :: pd_gt) (pd_rm 11 0 0) false 0 0 sh F [pd_R x0, pd_I x1, pd_I x2] (some (pd_I ρ)) sh Fz := by
  unfold pfX12_trust at hf
  refine pd_body (L := [pd_R x0, pd_I x1, pd_I x2]) (by decide +kernel) (Nat.le_of_ble_eq_true rfl) rfl (fun E => ?_)
  refine pd_aload_n (i := 0) dX12_trust_0 rfl rfl ?_
  refine pd_iconst dX12_trust_1 (by decide) ?_
  obtain ⟨hg1, hf⟩ := pd_ig hf
  refine pd_put (n := 0) (x := pd_I 0) 0 dX12_trust_2 (show vwCl[12]? = some (RX12, TX12, 52) from rfl) pin_12 tyX12_ok nmX12 (by decide) pq_704 rfl hg1 rfl pd_nrI pd_ftI ?_
  refine pd_topF (fun F2 eF2 => ?_)
  have hf := pd_lt hf eF2
  clear eF2
  refine pd_iload_n (i := 1) dX12_trust_5 rfl rfl ?_
  refine pd_i2l dX12_trust_6 ?_
  refine pd_lconst (x := 0) dX12_trust_7 (by decide) ?_
  refine pd_aload_n (i := 0) dX12_trust_8 rfl rfl ?_
  refine pd_get (x := pd_R (F2 x0 15)) 15 dX12_trust_9 (show vwCl[12]? = some (RX12, TX12, 52) from rfl) pin_12 (by decide) pq_715 hg1 rfl ?_
  refine pd_iconst dX12_trust_12 (by decide) ?_
  obtain ⟨hg3, hf⟩ := pd_ig hf
  refine pd_iald dX12_trust_13 hg3 ?_
  refine pd_iconst dX12_trust_14 (by decide) ?_
  refine pd_isub dX12_trust_15 ?_
  refine pd_i2l dX12_trust_16 ?_
  obtain ⟨r5, F4, hr, hf⟩ := pd_ob2 hf
  refine pd_callS (pkX12_within l hr) dX12_trust_17 pq_738 pq_741 (pd_okm (by omega) (by decide) pq_739 pq_740 (by decide) (show (parseMethodDescriptor yX12_within.desc).map (fun d => d.parameters.length) = some 3 from by decide +kernel)) (Nat.le_of_ble_eq_true rfl) rfl ?_
  refine pd_if_ne (tgt := 25) dX12_trust_20 (by decide) (fun hc => ?_) (fun hc => ?_)
  · have hf := pd_ip hf hc
    refine pd_iload_n (i := 2) dX12_trust_25 rfl rfl ?_
    by_cases hv0 : x2 = 0
    · have hf := pd_ip hf hv0
      refine pd_tabE (v := 0) (off := 30) (tgt := 56) dX12_trust_26 hv0 (by decide) (by decide) (by decide) (by decide) ?_
      refine pd_aload_n (i := 0) dX12_trust_56 rfl rfl ?_
      refine pd_get (x := pd_R (F4 x0 26)) 26 dX12_trust_57 (show vwCl[12]? = some (RX12, TX12, 52) from rfl) pin_12 (by decide) pq_721 hg1 rfl ?_
      refine pd_iload_n (i := 1) dX12_trust_60 rfl rfl ?_
      obtain ⟨hg6, hf⟩ := pd_ig hf
      refine pd_iald dX12_trust_61 hg6 ?_
      obtain ⟨h1, h2⟩ := pd_inj hf
      subst h1 h2
      exact pd_iret dX12_trust_62 rfl (Nat.le_refl 0) (Nat.le_refl 0)
    · have hf := pd_in_ hf hv0
      by_cases hv1 : x2 = 1
      · have hf := pd_ip hf hv1
        refine pd_tabE (v := 1) (off := 37) (tgt := 63) dX12_trust_26 hv1 (by decide) (by decide) (by decide) (by decide) ?_
        refine pd_aload_n (i := 0) dX12_trust_63 rfl rfl ?_
        refine pd_iload_n (i := 1) dX12_trust_64 rfl rfl ?_
        obtain ⟨r8, F7, hr, hf⟩ := pd_ob2 hf
        refine pd_callV (pkX12_weights l hr) dX12_trust_65 pq_1021 pq_1024 pq_1025 (show vwCl[12]? = some (yX12_weights.cls, TX12, 52) from rfl) hg1 (pd_okm (by omega) (by decide) pq_1022 pq_1023 (by decide) (show (parseMethodDescriptor yX12_weights.desc).map (fun d => d.parameters.length) = some 1 from by decide +kernel)) (Nat.le_of_ble_eq_true rfl) rfl ?_
        obtain ⟨h1, h2⟩ := pd_inj hf
        subst h1 h2
        exact pd_iret dX12_trust_68 rfl (Nat.le_refl 0) (Nat.le_refl 0)
      · have hf := pd_in_ hf hv1
        by_cases hv2 : x2 = 2
        · have hf := pd_ip hf hv2
          refine pd_tabE (v := 2) (off := 43) (tgt := 69) dX12_trust_26 hv2 (by decide) (by decide) (by decide) (by decide) ?_
          refine pd_aload_n (i := 0) dX12_trust_69 rfl rfl ?_
          refine pd_iload_n (i := 1) dX12_trust_70 rfl rfl ?_
          obtain ⟨r10, F9, hr, hf⟩ := pd_ob2 hf
          refine pd_callV (pkX12_fails l hr) dX12_trust_71 pq_1016 pq_1019 pq_1020 (show vwCl[12]? = some (yX12_fails.cls, TX12, 52) from rfl) hg1 (pd_okm (by omega) (by decide) pq_1017 pq_1018 (by decide) (show (parseMethodDescriptor yX12_fails.desc).map (fun d => d.parameters.length) = some 1 from by decide +kernel)) (Nat.le_of_ble_eq_true rfl) rfl ?_
          refine pd_if_eq (tgt := 81) dX12_trust_74 (by decide) (fun hc => ?_) (fun hc => ?_)
          · have hf := pd_ip hf hc
            refine pd_iconst dX12_trust_81 (by decide) ?_
            obtain ⟨h1, h2⟩ := pd_inj hf
            subst h1 h2
            exact pd_iret dX12_trust_82 rfl (Nat.le_refl 0) (Nat.le_refl 0)
          · have hf := pd_in_ hf hc
            refine pd_iconst dX12_trust_77 (by decide) ?_
            refine pd_goto (tgt := 82) dX12_trust_78 (by decide) ?_
            obtain ⟨h1, h2⟩ := pd_inj hf
            subst h1 h2
            exact pd_iret dX12_trust_82 rfl (Nat.le_refl 0) (Nat.le_refl 0)
        · have hf := pd_in_ hf hv2
          by_cases hv3 : x2 = 3
          · have hf := pd_ip hf hv3
            refine pd_tabE (v := 3) (off := 57) (tgt := 83) dX12_trust_26 hv3 (by decide) (by decide) (by decide) (by decide) ?_
            refine pd_aload_n (i := 0) dX12_trust_83 rfl rfl ?_
            refine pd_iload_n (i := 1) dX12_trust_84 rfl rfl ?_
            obtain ⟨r12, F11, hr, hf⟩ := pd_ob2 hf
            refine pd_callV (pkX12_deepOf l hr) dX12_trust_85 pq_1006 pq_1009 pq_1010 (show vwCl[12]? = some (yX12_deepOf.cls, TX12, 52) from rfl) hg1 (pd_okm (by omega) (by decide) pq_1007 pq_1008 (by decide) (show (parseMethodDescriptor yX12_deepOf.desc).map (fun d => d.parameters.length) = some 1 from by decide +kernel)) (Nat.le_of_ble_eq_true rfl) rfl ?_
            obtain ⟨h1, h2⟩ := pd_inj hf
            subst h1 h2
            exact pd_iret dX12_trust_88 rfl (Nat.le_refl 0) (Nat.le_refl 0)
          · have hf := pd_in_ hf hv3
            refine pd_tabO (tgt := 89) dX12_trust_26 (by omega) (by decide) ?_
            refine pd_iconst dX12_trust_89 (by decide) ?_
            obtain ⟨h1, h2⟩ := pd_inj hf
            subst h1 h2
            exact pd_iret dX12_trust_90 rfl (Nat.le_refl 0) (Nat.le_refl 0)
  · have hf := pd_iq hf hc
    refine pd_iconst dX12_trust_23 (by decide) ?_
    obtain ⟨h1, h2⟩ := pd_inj hf
    subst h1 h2
    exact pd_iret dX12_trust_24 rfl (Nat.le_refl 0) (Nat.le_refl 0)
set_option maxHeartbeats 4000000 in
set_option maxRecDepth 100000 in
theorem pkX12_account (l : Launch) {sh : pd_S} {n : Nat} {F : pd_F} {x0 : Int} {x1 : Int} {x2 : Int} {ρ : Int} {Fz : pd_F} (hf : pfX12_account sh n F x0 x1 x2 = some (ρ, Fz)) : pd_C l yX12_account (Cond.code yX12_account cX12_account 3 (some .int) :: pd_gt) (pd_rm 11 0 0) false 0 0 sh F [pd_R x0, pd_I x1, pd_I x2] (some (pd_I ρ)) sh Fz := by
  unfold pfX12_account at hf
  refine pd_body (L := [pd_R x0, pd_I x1, pd_I x2]) (by decide +kernel) (Nat.le_of_ble_eq_true rfl) rfl (fun E => ?_)
  refine pd_aload_n (i := 0) dX12_account_0 rfl rfl ?_
  refine pd_iconst dX12_account_1 (by decide) ?_
  obtain ⟨hg1, hf⟩ := pd_ig hf
  refine pd_put (n := 0) (x := pd_I 0) 0 dX12_account_2 (show vwCl[12]? = some (RX12, TX12, 52) from rfl) pin_12 tyX12_ok nmX12 (by decide) pq_704 rfl hg1 rfl pd_nrI pd_ftI ?_
  refine pd_topF (fun F2 eF2 => ?_)
  have hf := pd_lt hf eF2
  clear eF2
  refine pd_aload_n (i := 0) dX12_account_5 rfl rfl ?_
  refine pd_iload_n (i := 1) dX12_account_6 rfl rfl ?_
  obtain ⟨r4, F3, hr, hf⟩ := pd_ob2 hf
  refine pd_callV (pkX12_isAccount l hr) dX12_account_7 pq_943 pq_946 pq_947 (show vwCl[12]? = some (yX12_isAccount.cls, TX12, 52) from rfl) hg1 (pd_okm (by omega) (by decide) pq_944 pq_945 (by decide) (show (parseMethodDescriptor yX12_isAccount.desc).map (fun d => d.parameters.length) = some 1 from by decide +kernel)) (Nat.le_of_ble_eq_true rfl) rfl ?_
  refine pd_if_ne (tgt := 15) dX12_account_10 (by decide) (fun hc => ?_) (fun hc => ?_)
  · have hf := pd_ip hf hc
    refine pd_iload_n (i := 2) dX12_account_15 rfl rfl ?_
    by_cases hv0 : x2 = 0
    · have hf := pd_ip hf hv0
      refine pd_tabE (v := 0) (off := 32) (tgt := 48) dX12_account_16 hv0 (by decide) (by decide) (by decide) (by decide) ?_
      refine pd_aload_n (i := 0) dX12_account_48 rfl rfl ?_
      refine pd_get (x := pd_R (F3 x0 39)) 39 dX12_account_49 (show vwCl[12]? = some (RX12, TX12, 52) from rfl) pin_12 (by decide) pq_877 hg1 rfl ?_
      refine pd_iload_n (i := 1) dX12_account_52 rfl rfl ?_
      obtain ⟨hg5, hf⟩ := pd_ig hf
      refine pd_iald dX12_account_53 hg5 ?_
      obtain ⟨h1, h2⟩ := pd_inj hf
      subst h1 h2
      exact pd_iret dX12_account_54 rfl (Nat.le_refl 0) (Nat.le_refl 0)
    · have hf := pd_in_ hf hv0
      by_cases hv1 : x2 = 1
      · have hf := pd_ip hf hv1
        refine pd_tabE (v := 1) (off := 39) (tgt := 55) dX12_account_16 hv1 (by decide) (by decide) (by decide) (by decide) ?_
        refine pd_aload_n (i := 0) dX12_account_55 rfl rfl ?_
        refine pd_get (x := pd_R (F3 x0 26)) 26 dX12_account_56 (show vwCl[12]? = some (RX12, TX12, 52) from rfl) pin_12 (by decide) pq_721 hg1 rfl ?_
        refine pd_iload_n (i := 1) dX12_account_59 rfl rfl ?_
        obtain ⟨r7, F6, hr, hf⟩ := pd_ob2 hf
        refine pd_callS (pkX12_listOf l hr) dX12_account_60 pq_1031 pq_1034 (pd_okm (by omega) (by decide) pq_1032 pq_1033 (by decide) (show (parseMethodDescriptor yX12_listOf.desc).map (fun d => d.parameters.length) = some 1 from by decide +kernel)) (Nat.le_of_ble_eq_true rfl) rfl ?_
        obtain ⟨hg8, hf⟩ := pd_ig hf
        refine pd_iald dX12_account_63 hg8 ?_
        obtain ⟨h1, h2⟩ := pd_inj hf
        subst h1 h2
        exact pd_iret dX12_account_64 rfl (Nat.le_refl 0) (Nat.le_refl 0)
      · have hf := pd_in_ hf hv1
        by_cases hv2 : x2 = 2
        · have hf := pd_ip hf hv2
          refine pd_tabE (v := 2) (off := 49) (tgt := 65) dX12_account_16 hv2 (by decide) (by decide) (by decide) (by decide) ?_
          refine pd_aload_n (i := 0) dX12_account_65 rfl rfl ?_
          refine pd_iload_n (i := 1) dX12_account_66 rfl rfl ?_
          obtain ⟨r10, F9, hr, hf⟩ := pd_ob2 hf
          refine pd_callS (pkX12_listOf l hr) dX12_account_67 pq_1031 pq_1034 (pd_okm (by omega) (by decide) pq_1032 pq_1033 (by decide) (show (parseMethodDescriptor yX12_listOf.desc).map (fun d => d.parameters.length) = some 1 from by decide +kernel)) (Nat.le_of_ble_eq_true rfl) rfl ?_
          obtain ⟨r12, F11, hr, hf⟩ := pd_ob2 hf
          refine pd_callV (pkX12_fails l hr) dX12_account_70 pq_1016 pq_1019 pq_1020 (show vwCl[12]? = some (yX12_fails.cls, TX12, 52) from rfl) hg1 (pd_okm (by omega) (by decide) pq_1017 pq_1018 (by decide) (show (parseMethodDescriptor yX12_fails.desc).map (fun d => d.parameters.length) = some 1 from by decide +kernel)) (Nat.le_of_ble_eq_true rfl) rfl ?_
          refine pd_if_eq (tgt := 80) dX12_account_73 (by decide) (fun hc => ?_) (fun hc => ?_)
          · have hf := pd_ip hf hc
            refine pd_iconst dX12_account_80 (by decide) ?_
            obtain ⟨h1, h2⟩ := pd_inj hf
            subst h1 h2
            exact pd_iret dX12_account_81 rfl (Nat.le_refl 0) (Nat.le_refl 0)
          · have hf := pd_in_ hf hc
            refine pd_iconst dX12_account_76 (by decide) ?_
            refine pd_goto (tgt := 81) dX12_account_77 (by decide) ?_
            obtain ⟨h1, h2⟩ := pd_inj hf
            subst h1 h2
            exact pd_iret dX12_account_81 rfl (Nat.le_refl 0) (Nat.le_refl 0)
        · have hf := pd_in_ hf hv2
          by_cases hv3 : x2 = 3
          · have hf := pd_ip hf hv3
            refine pd_tabE (v := 3) (off := 66) (tgt := 82) dX12_account_16 hv3 (by decide) (by decide) (by decide) (by decide) ?_
            refine pd_aload_n (i := 0) dX12_account_82 rfl rfl ?_
            refine pd_iload_n (i := 1) dX12_account_83 rfl rfl ?_
            obtain ⟨r14, F13, hr, hf⟩ := pd_ob2 hf
            refine pd_callV (pkX12_reaches l hr) dX12_account_84 pq_1040 pq_1043 pq_1044 (show vwCl[12]? = some (yX12_reaches.cls, TX12, 52) from rfl) hg1 (pd_okm (by omega) (by decide) pq_1041 pq_1042 (by decide) (show (parseMethodDescriptor yX12_reaches.desc).map (fun d => d.parameters.length) = some 1 from by decide +kernel)) (Nat.le_of_ble_eq_true rfl) rfl ?_
            obtain ⟨h1, h2⟩ := pd_inj hf
            subst h1 h2
            exact pd_iret dX12_account_87 rfl (Nat.le_refl 0) (Nat.le_refl 0)
          · have hf := pd_in_ hf hv3
            refine pd_tabO (tgt := 88) dX12_account_16 (by omega) (by decide) ?_
            refine pd_iconst dX12_account_88 (by decide) ?_
            obtain ⟨h1, h2⟩ := pd_inj hf
            subst h1 h2
            exact pd_iret dX12_account_89 rfl (Nat.le_refl 0) (Nat.le_refl 0)
  · have hf := pd_iq hf hc
    refine pd_iconst dX12_account_13 (by decide) ?_
    obtain ⟨h1, h2⟩ := pd_inj hf
    subst h1 h2
    exact pd_iret dX12_account_14 rfl (Nat.le_refl 0) (Nat.le_refl 0)
set_option maxHeartbeats 4000000 in
set_option maxRecDepth 100000 in
theorem pkX12_share_b22 (E : pd_E) (l : Launch) {sh : pd_S} {n : Nat} {ρ : Int} {Fz : pd_F}  (F : pd_F) (x0 : Int) (x1 : Int) (x2 : Int) (t0 : Int) (t1 : Int) (hf : pfX12_share_b22 sh n  F x0 x1 x2 t0 t1 = some (ρ, Fz)) : pd_V E l (pd_rm 11 0 0) (RX12, cX12_share, 3, (some .int), "share") (pd_Qm E false (some (pd_I ρ)) sh Fz 0 0) false 0 0 sh F 22 [pd_R x0, pd_I x1, pd_I x2] [pd_I t0, pd_R t1] := by
  unfold pfX12_share_b22 at hf
  obtain ⟨hg1, hf⟩ := pd_ig hf
  refine pd_put (n := t0) (x := pd_I t0) 0 dX12_share_22 (show vwCl[12]? = some (RX12, TX12, 52) from rfl) pin_12 tyX12_ok nmX12 (by decide) pq_704 rfl hg1 rfl pd_nrI pd_ftI ?_
  refine pd_topF (fun F2 eF2 => ?_)
  have hf := pd_lt hf eF2
  clear eF2
  refine pd_aload_n (i := 0) dX12_share_25 rfl rfl ?_
  obtain ⟨hg3, hf⟩ := pd_ig hf
  refine pd_get (x := pd_I (F2 x0 0)) 0 dX12_share_26 (show vwCl[12]? = some (RX12, TX12, 52) from rfl) pin_12 (by decide) pq_704 hg3 rfl ?_
  refine pd_iconst dX12_share_29 (by decide) ?_
  refine pd_icmp_eq (tgt := 44) dX12_share_30 (by decide) (fun hc => ?_) (fun hc => ?_)
  · have hf := pd_ip hf hc
    refine pd_iconst dX12_share_44 (by decide) ?_
    obtain ⟨h1, h2⟩ := pd_inj hf
    subst h1 h2
    exact pd_iret dX12_share_45 rfl (Nat.le_refl 0) (Nat.le_refl 0)
  · have hf := pd_in_ hf hc
    refine pd_aload_n (i := 0) dX12_share_33 rfl rfl ?_
    refine pd_iload_n (i := 1) dX12_share_34 rfl rfl ?_
    obtain ⟨r5, F4, hr, hf⟩ := pd_ob2 hf
    refine pd_callS (pkX12_listOf l hr) dX12_share_35 pq_1031 pq_1034 (pd_okm (by omega) (by decide) pq_1032 pq_1033 (by decide) (show (parseMethodDescriptor yX12_listOf.desc).map (fun d => d.parameters.length) = some 1 from by decide +kernel)) (Nat.le_of_ble_eq_true rfl) rfl ?_
    obtain ⟨r7, F6, hr, hf⟩ := pd_ob2 hf
    refine pd_callV (pkX12_fails l hr) dX12_share_38 pq_1016 pq_1019 pq_1020 (show vwCl[12]? = some (yX12_fails.cls, TX12, 52) from rfl) hg3 (pd_okm (by omega) (by decide) pq_1017 pq_1018 (by decide) (show (parseMethodDescriptor yX12_fails.desc).map (fun d => d.parameters.length) = some 1 from by decide +kernel)) (Nat.le_of_ble_eq_true rfl) rfl ?_
    refine pd_if_eq (tgt := 46) dX12_share_41 (by decide) (fun hc => ?_) (fun hc => ?_)
    · have hf := pd_ip hf hc
      refine pd_aload_n (i := 0) dX12_share_46 rfl rfl ?_
      obtain ⟨F8, hr, hf⟩ := pd_ob1 hf
      refine pd_callV (pkX12_sharesNothing l hr) dX12_share_47 pq_1035 pq_1038 pq_1039 (show vwCl[12]? = some (yX12_sharesNothing.cls, TX12, 52) from rfl) hg3 (pd_okm (by omega) (by decide) pq_1036 pq_1037 (by decide) (show (parseMethodDescriptor yX12_sharesNothing.desc).map (fun d => d.parameters.length) = some 0 from by decide +kernel)) (Nat.le_of_ble_eq_true rfl) rfl ?_
      refine pd_aload_n (i := 0) dX12_share_50 rfl rfl ?_
      refine pd_iload_n (i := 1) dX12_share_51 rfl rfl ?_
      obtain ⟨r10, F9, hr, hf⟩ := pd_ob2 hf
      refine pd_callS (pkX12_listOf l hr) dX12_share_52 pq_1031 pq_1034 (pd_okm (by omega) (by decide) pq_1032 pq_1033 (by decide) (show (parseMethodDescriptor yX12_listOf.desc).map (fun d => d.parameters.length) = some 1 from by decide +kernel)) (Nat.le_of_ble_eq_true rfl) rfl ?_
      refine pd_aload_n (i := 0) dX12_share_55 rfl rfl ?_
      refine pd_get (x := pd_R (F9 x0 39)) 39 dX12_share_56 (show vwCl[12]? = some (RX12, TX12, 52) from rfl) pin_12 (by decide) pq_877 hg3 rfl ?_
      refine pd_iload_n (i := 1) dX12_share_59 rfl rfl ?_
      obtain ⟨hg11, hf⟩ := pd_ig hf
      refine pd_iald dX12_share_60 hg11 ?_
      refine pd_i2l dX12_share_61 ?_
      obtain ⟨F12, hr, hf⟩ := pd_ob1 hf
      refine pd_callV (pkX12_gives l hr) dX12_share_62 pq_1026 pq_1029 pq_1030 (show vwCl[12]? = some (yX12_gives.cls, TX12, 52) from rfl) hg3 (pd_okm (by omega) (by decide) pq_1027 pq_1028 (by decide) (show (parseMethodDescriptor yX12_gives.desc).map (fun d => d.parameters.length) = some 2 from by decide +kernel)) (Nat.le_of_ble_eq_true rfl) rfl ?_
      refine pd_aload_n (i := 0) dX12_share_65 rfl rfl ?_
      refine pd_get (x := pd_R (F12 x0 44)) 44 dX12_share_66 (show vwCl[12]? = some (RX12, TX12, 52) from rfl) pin_12 (by decide) pq_893 hg3 rfl ?_
      refine pd_iload_n (i := 2) dX12_share_69 rfl rfl ?_
      obtain ⟨hg13, hf⟩ := pd_ig hf
      refine pd_lald dX12_share_70 hg13 ?_
      refine pd_l2i dX12_share_71 ?_
      obtain ⟨h1, h2⟩ := pd_inj hf
      subst h1 h2
      exact pd_iret dX12_share_72 rfl (Nat.le_refl 0) (Nat.le_refl 0)
    · have hf := pd_in_ hf hc
      refine pd_iconst dX12_share_44 (by decide) ?_
      obtain ⟨h1, h2⟩ := pd_inj hf
      subst h1 h2
      exact pd_iret dX12_share_45 rfl (Nat.le_refl 0) (Nat.le_refl 0)
set_option maxHeartbeats 4000000 in
set_option maxRecDepth 100000 in
theorem pkX12_share_b21 (E : pd_E) (l : Launch) {sh : pd_S} {n : Nat} {ρ : Int} {Fz : pd_F}  (F : pd_F) (x0 : Int) (x1 : Int) (x2 : Int) (t0 : Int) (hf : pfX12_share_b21 sh n  F x0 x1 x2 t0 = some (ρ, Fz)) : pd_V E l (pd_rm 11 0 0) (RX12, cX12_share, 3, (some .int), "share") (pd_Qm E false (some (pd_I ρ)) sh Fz 0 0) false 0 0 sh F 21 [pd_R x0, pd_I x1, pd_I x2] [pd_R t0] := by
  unfold pfX12_share_b21 at hf
  refine pd_iconst dX12_share_21 (by decide) ?_
  exact pd_weak (L' := [pd_R x0, pd_I x1, pd_I x2]) ⟨Or.inr rfl, Or.inr rfl, Or.inr rfl, trivial⟩ (pkX12_share_b22 E l _ _ _ _ _ _ hf)
set_option maxHeartbeats 4000000 in
set_option maxRecDepth 100000 in
theorem pkX12_share (l : Launch) {sh : pd_S} {n : Nat} {F : pd_F} {x0 : Int} {x1 : Int} {x2 : Int} {ρ : Int} {Fz : pd_F} (hf : pfX12_share sh n F x0 x1 x2 = some (ρ, Fz)) : pd_C l yX12_share (Cond.code yX12_share cX12_share 3 (some .int) :: pd_gt) (pd_rm 11 0 0) false 0 0 sh F [pd_R x0, pd_I x1, pd_I x2] (some (pd_I ρ)) sh Fz := by
  unfold pfX12_share at hf
  refine pd_body (L := [pd_R x0, pd_I x1, pd_I x2]) (by decide +kernel) (Nat.le_of_ble_eq_true rfl) rfl (fun E => ?_)
  refine pd_aload_n (i := 0) dX12_share_0 rfl rfl ?_
  refine pd_aload_n (i := 0) dX12_share_1 rfl rfl ?_
  refine pd_iload_n (i := 1) dX12_share_2 rfl rfl ?_
  obtain ⟨hg16, hf⟩ := pd_ig hf
  obtain ⟨r15, F14, hr, hf⟩ := pd_ob2 hf
  refine pd_callV (pkX12_isAccount l hr) dX12_share_3 pq_943 pq_946 pq_947 (show vwCl[12]? = some (yX12_isAccount.cls, TX12, 52) from rfl) hg16 (pd_okm (by omega) (by decide) pq_944 pq_945 (by decide) (show (parseMethodDescriptor yX12_isAccount.desc).map (fun d => d.parameters.length) = some 1 from by decide +kernel)) (Nat.le_of_ble_eq_true rfl) rfl ?_
  refine pd_if_eq (tgt := 21) dX12_share_6 (by decide) (fun hc => ?_) (fun hc => ?_)
  · have hf := pd_ip hf hc
    exact pd_weak (L' := [pd_R x0, pd_I x1, pd_I x2]) ⟨Or.inr rfl, Or.inr rfl, Or.inr rfl, trivial⟩ (pkX12_share_b21 E l _ _ _ _ _ hf)
  · have hf := pd_in_ hf hc
    refine pd_aload_n (i := 0) dX12_share_9 rfl rfl ?_
    refine pd_iload_n (i := 2) dX12_share_10 rfl rfl ?_
    obtain ⟨r18, F17, hr, hf⟩ := pd_ob2 hf
    refine pd_callV (pkX12_isPerson l hr) dX12_share_11 pq_938 pq_941 pq_942 (show vwCl[12]? = some (yX12_isPerson.cls, TX12, 52) from rfl) hg16 (pd_okm (by omega) (by decide) pq_939 pq_940 (by decide) (show (parseMethodDescriptor yX12_isPerson.desc).map (fun d => d.parameters.length) = some 1 from by decide +kernel)) (Nat.le_of_ble_eq_true rfl) rfl ?_
    refine pd_if_eq (tgt := 21) dX12_share_14 (by decide) (fun hc => ?_) (fun hc => ?_)
    · have hf := pd_ip hf hc
      exact pd_weak (L' := [pd_R x0, pd_I x1, pd_I x2]) ⟨Or.inr rfl, Or.inr rfl, Or.inr rfl, trivial⟩ (pkX12_share_b21 E l _ _ _ _ _ hf)
    · have hf := pd_in_ hf hc
      refine pd_iconst dX12_share_17 (by decide) ?_
      refine pd_goto (tgt := 22) dX12_share_18 (by decide) ?_
      exact pd_weak (L' := [pd_R x0, pd_I x1, pd_I x2]) ⟨Or.inr rfl, Or.inr rfl, Or.inr rfl, trivial⟩ (pkX12_share_b22 E l _ _ _ _ _ _ hf)
set_option maxHeartbeats 4000000 in
set_option maxRecDepth 100000 in
theorem pkX12_frozen_b37 (E : pd_E) (l : Launch) {sh : pd_S} {n : Nat} {ρ : Int} {Fz : pd_F} {c4 : pd_F → Int → Int → Int → Option (Int × pd_F)} (hL4 : ∀ (F : pd_F) (x0 : Int) (x1 : Int) (x3 : Int), c4 F x0 x1 x3 = some (ρ, Fz) → pd_V E l (pd_rm 11 0 0) (RX12, cX12_frozen, 4, (some .long), "frozen") (pd_Qm E false (some (pd_J ρ)) sh Fz 0 0) false 0 0 sh F 4 [pd_R x0, pd_J x1, pd_N, pd_I x3] []) (F : pd_F) (x0 : Int) (x3 : Int) (t0 : Int) (t1 : Int) (hf : pfX12_frozen_b37 sh n c4 F x0 x3 t0 t1 = some (ρ, Fz)) : pd_V E l (pd_rm 11 0 0) (RX12, cX12_frozen, 4, (some .long), "frozen") (pd_Qm E false (some (pd_J ρ)) sh Fz 0 0) false 0 0 sh F 37 [pd_R x0, pd_N, pd_N, pd_I x3] [pd_J t0, pd_J t1] := by
  unfold pfX12_frozen_b37 at hf
  refine pd_ladd dX12_frozen_37 ?_
  refine pd_topJ (fun x1_38 ex1_38 => ?_)
  have hf := pd_lt hf ex1_38
  clear ex1_38
  refine pd_lstore_n (L' := [pd_R x0, pd_J x1_38, pd_N, pd_I x3]) dX12_frozen_38 rfl (by decide) rfl ?_
  refine pd_iincN (L' := fun y => [pd_R x0, pd_J x1_38, pd_N, pd_I y]) dX12_frozen_39 rfl (by decide) (by decide) (fun _ => rfl) (fun x3_39 ex3_39 => ?_)
  have hf := pd_lt hf ex3_39
  clear ex3_39
  refine pd_goto (tgt := 4) dX12_frozen_42 (by decide) ?_
  exact pd_weak (L' := [pd_R x0, pd_J x1_38, pd_N, pd_I x3_39]) ⟨Or.inr rfl, Or.inr rfl, Or.inr rfl, Or.inr rfl, trivial⟩ (hL4 _ _ _ _ hf)
set_option maxHeartbeats 4000000 in
set_option maxRecDepth 100000 in
theorem pkX12_frozen_b4 (E : pd_E) (l : Launch) {sh : pd_S} {n : Nat} {ρ : Int} {Fz : pd_F}  : ∀ (k : Nat) (F : pd_F) (x0 : Int) (x1 : Int) (x3 : Int), pfX12_frozen_b4 sh n  k F x0 x1 x3 = some (ρ, Fz) → pd_V E l (pd_rm 11 0 0) (RX12, cX12_frozen, 4, (some .long), "frozen") (pd_Qm E false (some (pd_J ρ)) sh Fz 0 0) false 0 0 sh F 4 [pd_R x0, pd_J x1, pd_N, pd_I x3] [] := by
  intro k
  induction k with
  | zero => intro F x0 x1 x3 hf; exact absurd hf (by unfold pfX12_frozen_b4; exact fun h => nomatch h)
  | succ k ih =>
    intro F x0 x1 x3 hf
    unfold pfX12_frozen_b4 at hf
    refine pd_iload_n (i := 3) dX12_frozen_4 rfl rfl ?_
    refine pd_aload_n (i := 0) dX12_frozen_5 rfl rfl ?_
    obtain ⟨hg1, hf⟩ := pd_ig hf
    refine pd_get (x := pd_R (F x0 16)) 16 dX12_frozen_6 (show vwCl[12]? = some (RX12, TX12, 52) from rfl) pin_12 (by decide) pq_717 hg1 rfl ?_
    refine pd_iconst dX12_frozen_9 (by decide) ?_
    obtain ⟨hg2, hf⟩ := pd_ig hf
    refine pd_iald dX12_frozen_10 hg2 ?_
    refine pd_icmp_ge (tgt := 45) dX12_frozen_11 (by decide) (fun hc => ?_) (fun hc => ?_)
    · have hf := pd_ip hf hc
      refine pd_lload_n (i := 1) dX12_frozen_45 rfl rfl ?_
      obtain ⟨h1, h2⟩ := pd_inj hf
      subst h1 h2
      exact pd_lret dX12_frozen_46 rfl (Nat.le_refl 0) (Nat.le_refl 0)
    · have hf := pd_in_ hf hc
      refine pd_lload_n (i := 1) dX12_frozen_14 rfl rfl ?_
      refine pd_aload_n (i := 0) dX12_frozen_15 rfl rfl ?_
      refine pd_iload_n (i := 3) dX12_frozen_16 rfl rfl ?_
      obtain ⟨r4, F3, hr, hf⟩ := pd_ob2 hf
      refine pd_callS (pkX12_listOf l hr) dX12_frozen_17 pq_1031 pq_1034 (pd_okm (by omega) (by decide) pq_1032 pq_1033 (by decide) (show (parseMethodDescriptor yX12_listOf.desc).map (fun d => d.parameters.length) = some 1 from by decide +kernel)) (Nat.le_of_ble_eq_true rfl) rfl ?_
      obtain ⟨r6, F5, hr, hf⟩ := pd_ob2 hf
      refine pd_callV (pkX12_fails l hr) dX12_frozen_20 pq_1016 pq_1019 pq_1020 (show vwCl[12]? = some (yX12_fails.cls, TX12, 52) from rfl) hg1 (pd_okm (by omega) (by decide) pq_1017 pq_1018 (by decide) (show (parseMethodDescriptor yX12_fails.desc).map (fun d => d.parameters.length) = some 1 from by decide +kernel)) (Nat.le_of_ble_eq_true rfl) rfl ?_
      refine pd_if_eq (tgt := 36) dX12_frozen_23 (by decide) (fun hc => ?_) (fun hc => ?_)
      · have hf := pd_ip hf hc
        refine pd_lconst (x := 0) dX12_frozen_36 (by decide) ?_
        exact pd_weak (L' := [pd_R x0, pd_N, pd_N, pd_I x3]) ⟨Or.inr rfl, Or.inl rfl, Or.inr rfl, Or.inr rfl, trivial⟩ (pkX12_frozen_b37 E l ih _ _ _ _ _ hf)
      · have hf := pd_in_ hf hc
        refine pd_aload_n (i := 0) dX12_frozen_26 rfl rfl ?_
        refine pd_get (x := pd_R (F5 x0 39)) 39 dX12_frozen_27 (show vwCl[12]? = some (RX12, TX12, 52) from rfl) pin_12 (by decide) pq_877 hg1 rfl ?_
        refine pd_iload_n (i := 3) dX12_frozen_30 rfl rfl ?_
        obtain ⟨hg7, hf⟩ := pd_ig hf
        refine pd_iald dX12_frozen_31 hg7 ?_
        refine pd_i2l dX12_frozen_32 ?_
        refine pd_goto (tgt := 37) dX12_frozen_33 (by decide) ?_
        exact pd_weak (L' := [pd_R x0, pd_N, pd_N, pd_I x3]) ⟨Or.inr rfl, Or.inl rfl, Or.inr rfl, Or.inr rfl, trivial⟩ (pkX12_frozen_b37 E l ih _ _ _ _ _ hf)
set_option maxHeartbeats 4000000 in
set_option maxRecDepth 100000 in
theorem pkX12_frozen (l : Launch) {sh : pd_S} {n : Nat} {F : pd_F} {x0 : Int} {ρ : Int} {Fz : pd_F} (hf : pfX12_frozen sh n F x0 = some (ρ, Fz)) : pd_C l yX12_frozen (Cond.code yX12_frozen cX12_frozen 4 (some .long) :: pd_gt) (pd_rm 11 0 0) false 0 0 sh F [pd_R x0] (some (pd_J ρ)) sh Fz := by
  unfold pfX12_frozen at hf
  refine pd_body (L := [pd_R x0, pd_N, pd_N, pd_N]) (by decide +kernel) (Nat.le_of_ble_eq_true rfl) rfl (fun E => ?_)
  refine pd_lconst (x := 0) dX12_frozen_0 (by decide) ?_
  refine pd_lstore_n (L' := [pd_R x0, pd_J 0, pd_N, pd_N]) dX12_frozen_1 rfl (by decide) rfl ?_
  refine pd_iconst dX12_frozen_2 (by decide) ?_
  refine pd_istore_n (L' := [pd_R x0, pd_J 0, pd_N, pd_I 0]) dX12_frozen_3 rfl (by decide) rfl ?_
  exact pd_weak (L' := [pd_R x0, pd_J 0, pd_N, pd_I 0]) ⟨Or.inr rfl, Or.inr rfl, Or.inr rfl, Or.inr rfl, trivial⟩ (pkX12_frozen_b4 E l n _ _ _ _ hf)
