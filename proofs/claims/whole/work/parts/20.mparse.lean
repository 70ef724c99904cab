theorem dX12_thrown_0 : decode cX12_thrown 0 = .ok (.aload_n 0, 1) := by decide +kernel
theorem dX12_thrown_1 : decode cX12_thrown 1 = .ok (.getfield 123, 3) := by decide +kernel
theorem dX12_thrown_4 : decode cX12_thrown 4 = .ok (.ireturn, 1) := by decide +kernel
theorem dX12_within_0 : decode cX12_within 0 = .ok (.lload_n 0, 1) := by decide +kernel
theorem dX12_within_1 : decode cX12_within 1 = .ok (.lload_n 2, 1) := by decide +kernel
theorem dX12_within_2 : decode cX12_within 2 = .ok (.lcmp, 1) := by decide +kernel
theorem dX12_within_3 : decode cX12_within 3 = .ok (.ifCond .lt 14, 3) := by decide +kernel
theorem dX12_within_6 : decode cX12_within 6 = .ok (.lload_n 0, 1) := by decide +kernel
theorem dX12_within_7 : decode cX12_within 7 = .ok (.lload 4, 2) := by decide +kernel
theorem dX12_within_9 : decode cX12_within 9 = .ok (.lcmp, 1) := by decide +kernel
theorem dX12_within_10 : decode cX12_within 10 = .ok (.ifCond .gt 7, 3) := by decide +kernel
theorem dX12_within_13 : decode cX12_within 13 = .ok (.iconst 1, 1) := by decide +kernel
theorem dX12_within_14 : decode cX12_within 14 = .ok (.goto 4, 3) := by decide +kernel
theorem dX12_within_17 : decode cX12_within 17 = .ok (.iconst 0, 1) := by decide +kernel
theorem dX12_within_18 : decode cX12_within 18 = .ok (.ireturn, 1) := by decide +kernel
theorem dX12_puts_0 : decode cX12_puts 0 = .ok (.bipush 24, 2) := by decide +kernel
theorem dX12_puts_2 : decode cX12_puts 2 = .ok (.istore_n 2, 1) := by decide +kernel
theorem dX12_puts_3 : decode cX12_puts 3 = .ok (.iload_n 2, 1) := by decide +kernel
theorem dX12_puts_4 : decode cX12_puts 4 = .ok (.ifCond .lt 32, 3) := by decide +kernel
theorem dX12_puts_7 : decode cX12_puts 7 = .ok (.aload_n 0, 1) := by decide +kernel
theorem dX12_puts_8 : decode cX12_puts 8 = .ok (.getfield 7, 3) := by decide +kernel
theorem dX12_puts_11 : decode cX12_puts 11 = .ok (.aload_n 0, 1) := by decide +kernel
theorem dX12_puts_12 : decode cX12_puts 12 = .ok (.getfield 127, 3) := by decide +kernel
theorem dX12_puts_15 : decode cX12_puts 15 = .ok (.iload_n 1, 1) := by decide +kernel
theorem dX12_puts_16 : decode cX12_puts 16 = .ok (.iload_n 2, 1) := by decide +kernel
theorem dX12_puts_17 : decode cX12_puts 17 = .ok (.ishr, 1) := by decide +kernel
theorem dX12_puts_18 : decode cX12_puts 18 = .ok (.i2b, 1) := by decide +kernel
theorem dX12_puts_19 : decode cX12_puts 19 = .ok (.bastore, 1) := by decide +kernel
theorem dX12_puts_20 : decode cX12_puts 20 = .ok (.aload_n 0, 1) := by decide +kernel
theorem dX12_puts_21 : decode cX12_puts 21 = .ok (.dup, 1) := by decide +kernel
theorem dX12_puts_22 : decode cX12_puts 22 = .ok (.getfield 127, 3) := by decide +kernel
theorem dX12_puts_25 : decode cX12_puts 25 = .ok (.iconst 1, 1) := by decide +kernel
theorem dX12_puts_26 : decode cX12_puts 26 = .ok (.iadd, 1) := by decide +kernel
theorem dX12_puts_27 : decode cX12_puts 27 = .ok (.putfield 127, 3) := by decide +kernel
theorem dX12_puts_30 : decode cX12_puts 30 = .ok (.iinc 2 (-8), 3) := by decide +kernel
theorem dX12_puts_33 : decode cX12_puts 33 = .ok (.goto (-30), 3) := by decide +kernel
theorem dX12_puts_36 : decode cX12_puts 36 = .ok (.return_, 1) := by decide +kernel
theorem dX12_see_0 : decode cX12_see 0 = .ok (.iload_n 1, 1) := by decide +kernel
theorem dX12_see_1 : decode cX12_see 1 = .ok (.aload_n 0, 1) := by decide +kernel
theorem dX12_see_2 : decode cX12_see 2 = .ok (.getfield 134, 3) := by decide +kernel
theorem dX12_see_5 : decode cX12_see 5 = .ok (.if_icmp .ge 16, 3) := by decide +kernel
theorem dX12_see_8 : decode cX12_see 8 = .ok (.aload_n 0, 1) := by decide +kernel
theorem dX12_see_9 : decode cX12_see 9 = .ok (.getfield 7, 3) := by decide +kernel
theorem dX12_see_12 : decode cX12_see 12 = .ok (.iload_n 1, 1) := by decide +kernel
theorem dX12_see_13 : decode cX12_see 13 = .ok (.baload, 1) := by decide +kernel
theorem dX12_see_14 : decode cX12_see 14 = .ok (.sipush 255, 3) := by decide +kernel
theorem dX12_see_17 : decode cX12_see 17 = .ok (.iand, 1) := by decide +kernel
theorem dX12_see_18 : decode cX12_see 18 = .ok (.goto 4, 3) := by decide +kernel
theorem dX12_see_21 : decode cX12_see 21 = .ok (.iconst (-1), 1) := by decide +kernel
theorem dX12_see_22 : decode cX12_see 22 = .ok (.ireturn, 1) := by decide +kernel
theorem dX12_must_0 : decode cX12_must 0 = .ok (.aload_n 0, 1) := by decide +kernel
theorem dX12_must_1 : decode cX12_must 1 = .ok (.getfield 171, 3) := by decide +kernel
theorem dX12_must_4 : decode cX12_must 4 = .ok (.ifCond .ne 20, 3) := by decide +kernel
theorem dX12_must_7 : decode cX12_must 7 = .ok (.iload_n 1, 1) := by decide +kernel
theorem dX12_must_8 : decode cX12_must 8 = .ok (.ifCond .ne 16, 3) := by decide +kernel
theorem dX12_must_11 : decode cX12_must 11 = .ok (.aload_n 0, 1) := by decide +kernel
theorem dX12_must_12 : decode cX12_must 12 = .ok (.iload_n 2, 1) := by decide +kernel
theorem dX12_must_13 : decode cX12_must 13 = .ok (.putfield 171, 3) := by decide +kernel
theorem dX12_must_16 : decode cX12_must 16 = .ok (.aload_n 0, 1) := by decide +kernel
theorem dX12_must_17 : decode cX12_must 17 = .ok (.aload_n 0, 1) := by decide +kernel
theorem dX12_must_18 : decode cX12_must 18 = .ok (.getfield 140, 3) := by decide +kernel
theorem dX12_must_21 : decode cX12_must 21 = .ok (.putfield 174, 3) := by decide +kernel
theorem dX12_must_24 : decode cX12_must 24 = .ok (.aload_n 0, 1) := by decide +kernel
theorem dX12_must_25 : decode cX12_must 25 = .ok (.getfield 171, 3) := by decide +kernel
theorem dX12_must_28 : decode cX12_must 28 = .ok (.ifCond .ne 7, 3) := by decide +kernel
theorem dX12_must_31 : decode cX12_must 31 = .ok (.iconst 1, 1) := by decide +kernel
theorem dX12_must_32 : decode cX12_must 32 = .ok (.goto 4, 3) := by decide +kernel
theorem dX12_must_35 : decode cX12_must 35 = .ok (.iconst 0, 1) := by decide +kernel
theorem dX12_must_36 : decode cX12_must 36 = .ok (.ireturn, 1) := by decide +kernel
theorem dX12_spelled_0 : decode cX12_spelled 0 = .ok (.lconst 0, 1) := by decide +kernel
theorem dX12_spelled_1 : decode cX12_spelled 1 = .ok (.lstore_n 1, 1) := by decide +kernel
theorem dX12_spelled_2 : decode cX12_spelled 2 = .ok (.iconst 0, 1) := by decide +kernel
theorem dX12_spelled_3 : decode cX12_spelled 3 = .ok (.istore_n 3, 1) := by decide +kernel
theorem dX12_spelled_4 : decode cX12_spelled 4 = .ok (.iload_n 3, 1) := by decide +kernel
theorem dX12_spelled_5 : decode cX12_spelled 5 = .ok (.aload_n 0, 1) := by decide +kernel
theorem dX12_spelled_6 : decode cX12_spelled 6 = .ok (.invokevirtual 177, 3) := by decide +kernel
theorem dX12_spelled_9 : decode cX12_spelled 9 = .ok (.if_icmp .ge 24, 3) := by decide +kernel
theorem dX12_spelled_12 : decode cX12_spelled 12 = .ok (.lload_n 1, 1) := by decide +kernel
theorem dX12_spelled_13 : decode cX12_spelled 13 = .ok (.iconst 5, 1) := by decide +kernel
theorem dX12_spelled_14 : decode cX12_spelled 14 = .ok (.lshl, 1) := by decide +kernel
theorem dX12_spelled_15 : decode cX12_spelled 15 = .ok (.aload_n 0, 1) := by decide +kernel
theorem dX12_spelled_16 : decode cX12_spelled 16 = .ok (.iload_n 3, 1) := by decide +kernel
theorem dX12_spelled_17 : decode cX12_spelled 17 = .ok (.invokevirtual 183, 3) := by decide +kernel
theorem dX12_spelled_20 : decode cX12_spelled 20 = .ok (.i2l, 1) := by decide +kernel
theorem dX12_spelled_21 : decode cX12_spelled 21 = .ok (.ldc2_w 165, 3) := by decide +kernel
theorem dX12_spelled_24 : decode cX12_spelled 24 = .ok (.lsub, 1) := by decide +kernel
theorem dX12_spelled_25 : decode cX12_spelled 25 = .ok (.lor, 1) := by decide +kernel
theorem dX12_spelled_26 : decode cX12_spelled 26 = .ok (.lstore_n 1, 1) := by decide +kernel
theorem dX12_spelled_27 : decode cX12_spelled 27 = .ok (.iinc 3 1, 3) := by decide +kernel
theorem dX12_spelled_30 : decode cX12_spelled 30 = .ok (.goto (-26), 3) := by decide +kernel
theorem dX12_spelled_33 : decode cX12_spelled 33 = .ok (.lload_n 1, 1) := by decide +kernel
theorem dX12_spelled_34 : decode cX12_spelled 34 = .ok (.lreturn, 1) := by decide +kernel
theorem dX12_personNamed_0 : decode cX12_personNamed 0 = .ok (.iconst 0, 1) := by decide +kernel
theorem dX12_personNamed_1 : decode cX12_personNamed 1 = .ok (.istore_n 3, 1) := by decide +kernel
theorem dX12_personNamed_2 : decode cX12_personNamed 2 = .ok (.iload_n 3, 1) := by decide +kernel
theorem dX12_personNamed_3 : decode cX12_personNamed 3 = .ok (.aload_n 0, 1) := by decide +kernel
theorem dX12_personNamed_4 : decode cX12_personNamed 4 = .ok (.getfield 13, 3) := by decide +kernel
theorem dX12_personNamed_7 : decode cX12_personNamed 7 = .ok (.aload_n 0, 1) := by decide +kernel
theorem dX12_personNamed_8 : decode cX12_personNamed 8 = .ok (.getfield 232, 3) := by decide +kernel
theorem dX12_personNamed_11 : decode cX12_personNamed 11 = .ok (.iaload, 1) := by decide +kernel
theorem dX12_personNamed_12 : decode cX12_personNamed 12 = .ok (.if_icmp .ge 30, 3) := by decide +kernel
theorem dX12_personNamed_15 : decode cX12_personNamed 15 = .ok (.aload_n 0, 1) := by decide +kernel
theorem dX12_personNamed_16 : decode cX12_personNamed 16 = .ok (.getfield 29, 3) := by decide +kernel
theorem dX12_personNamed_19 : decode cX12_personNamed 19 = .ok (.bipush 12, 2) := by decide +kernel
theorem dX12_personNamed_21 : decode cX12_personNamed 21 = .ok (.aload_n 0, 1) := by decide +kernel
theorem dX12_personNamed_22 : decode cX12_personNamed 22 = .ok (.getfield 232, 3) := by decide +kernel
theorem dX12_personNamed_25 : decode cX12_personNamed 25 = .ok (.imul, 1) := by decide +kernel
theorem dX12_personNamed_26 : decode cX12_personNamed 26 = .ok (.iload_n 3, 1) := by decide +kernel
theorem dX12_personNamed_27 : decode cX12_personNamed 27 = .ok (.iadd, 1) := by decide +kernel
theorem dX12_personNamed_28 : decode cX12_personNamed 28 = .ok (.laload, 1) := by decide +kernel
theorem dX12_personNamed_29 : decode cX12_personNamed 29 = .ok (.lload_n 1, 1) := by decide +kernel
theorem dX12_personNamed_30 : decode cX12_personNamed 30 = .ok (.lcmp, 1) := by decide +kernel
theorem dX12_personNamed_31 : decode cX12_personNamed 31 = .ok (.ifCond .ne 5, 3) := by decide +kernel
theorem dX12_personNamed_34 : decode cX12_personNamed 34 = .ok (.iload_n 3, 1) := by decide +kernel
theorem dX12_personNamed_35 : decode cX12_personNamed 35 = .ok (.ireturn, 1) := by decide +kernel
theorem dX12_personNamed_36 : decode cX12_personNamed 36 = .ok (.iinc 3 1, 3) := by decide +kernel
theorem dX12_personNamed_39 : decode cX12_personNamed 39 = .ok (.goto (-37), 3) := by decide +kernel
theorem dX12_personNamed_42 : decode cX12_personNamed 42 = .ok (.iconst (-1), 1) := by decide +kernel
theorem dX12_personNamed_43 : decode cX12_personNamed 43 = .ok (.ireturn, 1) := by decide +kernel
theorem dX12_trustNamed_0 : decode cX12_trustNamed 0 = .ok (.iconst 0, 1) := by decide +kernel
theorem dX12_trustNamed_1 : decode cX12_trustNamed 1 = .ok (.istore_n 3, 1) := by decide +kernel
theorem dX12_trustNamed_2 : decode cX12_trustNamed 2 = .ok (.iload_n 3, 1) := by decide +kernel
theorem dX12_trustNamed_3 : decode cX12_trustNamed 3 = .ok (.aload_n 0, 1) := by decide +kernel
theorem dX12_trustNamed_4 : decode cX12_trustNamed 4 = .ok (.getfield 17, 3) := by decide +kernel
theorem dX12_trustNamed_7 : decode cX12_trustNamed 7 = .ok (.aload_n 0, 1) := by decide +kernel
theorem dX12_trustNamed_8 : decode cX12_trustNamed 8 = .ok (.getfield 232, 3) := by decide +kernel
theorem dX12_trustNamed_11 : decode cX12_trustNamed 11 = .ok (.iaload, 1) := by decide +kernel
theorem dX12_trustNamed_12 : decode cX12_trustNamed 12 = .ok (.if_icmp .ge 29, 3) := by decide +kernel
theorem dX12_trustNamed_15 : decode cX12_trustNamed 15 = .ok (.aload_n 0, 1) := by decide +kernel
theorem dX12_trustNamed_16 : decode cX12_trustNamed 16 = .ok (.getfield 43, 3) := by decide +kernel
theorem dX12_trustNamed_19 : decode cX12_trustNamed 19 = .ok (.iconst 5, 1) := by decide +kernel
theorem dX12_trustNamed_20 : decode cX12_trustNamed 20 = .ok (.aload_n 0, 1) := by decide +kernel
theorem dX12_trustNamed_21 : decode cX12_trustNamed 21 = .ok (.getfield 232, 3) := by decide +kernel
theorem dX12_trustNamed_24 : decode cX12_trustNamed 24 = .ok (.imul, 1) := by decide +kernel
theorem dX12_trustNamed_25 : decode cX12_trustNamed 25 = .ok (.iload_n 3, 1) := by decide +kernel
theorem dX12_trustNamed_26 : decode cX12_trustNamed 26 = .ok (.iadd, 1) := by decide +kernel
theorem dX12_trustNamed_27 : decode cX12_trustNamed 27 = .ok (.laload, 1) := by decide +kernel
theorem dX12_trustNamed_28 : decode cX12_trustNamed 28 = .ok (.lload_n 1, 1) := by decide +kernel
theorem dX12_trustNamed_29 : decode cX12_trustNamed 29 = .ok (.lcmp, 1) := by decide +kernel
theorem dX12_trustNamed_30 : decode cX12_trustNamed 30 = .ok (.ifCond .ne 5, 3) := by decide +kernel
theorem dX12_trustNamed_33 : decode cX12_trustNamed 33 = .ok (.iload_n 3, 1) := by decide +kernel
theorem dX12_trustNamed_34 : decode cX12_trustNamed 34 = .ok (.ireturn, 1) := by decide +kernel
theorem dX12_trustNamed_35 : decode cX12_trustNamed 35 = .ok (.iinc 3 1, 3) := by decide +kernel
theorem dX12_trustNamed_38 : decode cX12_trustNamed 38 = .ok (.goto (-36), 3) := by decide +kernel
theorem dX12_trustNamed_41 : decode cX12_trustNamed 41 = .ok (.iconst (-1), 1) := by decide +kernel
theorem dX12_trustNamed_42 : decode cX12_trustNamed 42 = .ok (.ireturn, 1) := by decide +kernel
theorem dX12_accountNamed_0 : decode cX12_accountNamed 0 = .ok (.iconst 0, 1) := by decide +kernel
theorem dX12_accountNamed_1 : decode cX12_accountNamed 1 = .ok (.istore_n 3, 1) := by decide +kernel
theorem dX12_accountNamed_2 : decode cX12_accountNamed 2 = .ok (.iload_n 3, 1) := by decide +kernel
theorem dX12_accountNamed_3 : decode cX12_accountNamed 3 = .ok (.aload_n 0, 1) := by decide +kernel
theorem dX12_accountNamed_4 : decode cX12_accountNamed 4 = .ok (.getfield 20, 3) := by decide +kernel
theorem dX12_accountNamed_7 : decode cX12_accountNamed 7 = .ok (.aload_n 0, 1) := by decide +kernel
theorem dX12_accountNamed_8 : decode cX12_accountNamed 8 = .ok (.getfield 232, 3) := by decide +kernel
theorem dX12_accountNamed_11 : decode cX12_accountNamed 11 = .ok (.iaload, 1) := by decide +kernel
theorem dX12_accountNamed_12 : decode cX12_accountNamed 12 = .ok (.if_icmp .ge 30, 3) := by decide +kernel
theorem dX12_accountNamed_15 : decode cX12_accountNamed 15 = .ok (.aload_n 0, 1) := by decide +kernel
theorem dX12_accountNamed_16 : decode cX12_accountNamed 16 = .ok (.getfield 46, 3) := by decide +kernel
theorem dX12_accountNamed_19 : decode cX12_accountNamed 19 = .ok (.bipush 10, 2) := by decide +kernel
theorem dX12_accountNamed_21 : decode cX12_accountNamed 21 = .ok (.aload_n 0, 1) := by decide +kernel
theorem dX12_accountNamed_22 : decode cX12_accountNamed 22 = .ok (.getfield 232, 3) := by decide +kernel
theorem dX12_accountNamed_25 : decode cX12_accountNamed 25 = .ok (.imul, 1) := by decide +kernel
theorem dX12_accountNamed_26 : decode cX12_accountNamed 26 = .ok (.iload_n 3, 1) := by decide +kernel
theorem dX12_accountNamed_27 : decode cX12_accountNamed 27 = .ok (.iadd, 1) := by decide +kernel
theorem dX12_accountNamed_28 : decode cX12_accountNamed 28 = .ok (.laload, 1) := by decide +kernel
theorem dX12_accountNamed_29 : decode cX12_accountNamed 29 = .ok (.lload_n 1, 1) := by decide +kernel
theorem dX12_accountNamed_30 : decode cX12_accountNamed 30 = .ok (.lcmp, 1) := by decide +kernel
theorem dX12_accountNamed_31 : decode cX12_accountNamed 31 = .ok (.ifCond .ne 5, 3) := by decide +kernel
theorem dX12_accountNamed_34 : decode cX12_accountNamed 34 = .ok (.iload_n 3, 1) := by decide +kernel
theorem dX12_accountNamed_35 : decode cX12_accountNamed 35 = .ok (.ireturn, 1) := by decide +kernel
theorem dX12_accountNamed_36 : decode cX12_accountNamed 36 = .ok (.iinc 3 1, 3) := by decide +kernel
theorem dX12_accountNamed_39 : decode cX12_accountNamed 39 = .ok (.goto (-37), 3) := by decide +kernel
theorem dX12_accountNamed_42 : decode cX12_accountNamed 42 = .ok (.iconst (-1), 1) := by decide +kernel
theorem dX12_accountNamed_43 : decode cX12_accountNamed 43 = .ok (.ireturn, 1) := by decide +kernel
theorem dX12_hasMark_0 : decode cX12_hasMark 0 = .ok (.iconst 0, 1) := by decide +kernel
theorem dX12_hasMark_1 : decode cX12_hasMark 1 = .ok (.istore_n 3, 1) := by decide +kernel
theorem dX12_hasMark_2 : decode cX12_hasMark 2 = .ok (.iload_n 3, 1) := by decide +kernel
theorem dX12_hasMark_3 : decode cX12_hasMark 3 = .ok (.aload_n 0, 1) := by decide +kernel
theorem dX12_hasMark_4 : decode cX12_hasMark 4 = .ok (.getfield 33, 3) := by decide +kernel
theorem dX12_hasMark_7 : decode cX12_hasMark 7 = .ok (.iload_n 1, 1) := by decide +kernel
theorem dX12_hasMark_8 : decode cX12_hasMark 8 = .ok (.iaload, 1) := by decide +kernel
theorem dX12_hasMark_9 : decode cX12_hasMark 9 = .ok (.if_icmp .ge 25, 3) := by decide +kernel
theorem dX12_hasMark_12 : decode cX12_hasMark 12 = .ok (.aload_n 0, 1) := by decide +kernel
theorem dX12_hasMark_13 : decode cX12_hasMark 13 = .ok (.getfield 36, 3) := by decide +kernel
theorem dX12_hasMark_16 : decode cX12_hasMark 16 = .ok (.iconst 3, 1) := by decide +kernel
theorem dX12_hasMark_17 : decode cX12_hasMark 17 = .ok (.iload_n 1, 1) := by decide +kernel
theorem dX12_hasMark_18 : decode cX12_hasMark 18 = .ok (.imul, 1) := by decide +kernel
theorem dX12_hasMark_19 : decode cX12_hasMark 19 = .ok (.iload_n 3, 1) := by decide +kernel
theorem dX12_hasMark_20 : decode cX12_hasMark 20 = .ok (.iadd, 1) := by decide +kernel
theorem dX12_hasMark_21 : decode cX12_hasMark 21 = .ok (.iaload, 1) := by decide +kernel
theorem dX12_hasMark_22 : decode cX12_hasMark 22 = .ok (.iload_n 2, 1) := by decide +kernel
theorem dX12_hasMark_23 : decode cX12_hasMark 23 = .ok (.if_icmp .ne 5, 3) := by decide +kernel
theorem dX12_hasMark_26 : decode cX12_hasMark 26 = .ok (.iconst 1, 1) := by decide +kernel
theorem dX12_hasMark_27 : decode cX12_hasMark 27 = .ok (.ireturn, 1) := by decide +kernel
theorem dX12_hasMark_28 : decode cX12_hasMark 28 = .ok (.iinc 3 1, 3) := by decide +kernel
theorem dX12_hasMark_31 : decode cX12_hasMark 31 = .ok (.goto (-29), 3) := by decide +kernel
theorem dX12_hasMark_34 : decode cX12_hasMark 34 = .ok (.iconst 0, 1) := by decide +kernel
theorem dX12_hasMark_35 : decode cX12_hasMark 35 = .ok (.ireturn, 1) := by decide +kernel
theorem dX12_isPart_0 : decode cX12_isPart 0 = .ok (.iconst 0, 1) := by decide +kernel
theorem dX12_isPart_1 : decode cX12_isPart 1 = .ok (.istore_n 3, 1) := by decide +kernel
theorem dX12_isPart_2 : decode cX12_isPart 2 = .ok (.iload_n 3, 1) := by decide +kernel
theorem dX12_isPart_3 : decode cX12_isPart 3 = .ok (.aload_n 0, 1) := by decide +kernel
theorem dX12_isPart_4 : decode cX12_isPart 4 = .ok (.getfield 52, 3) := by decide +kernel
theorem dX12_isPart_7 : decode cX12_isPart 7 = .ok (.iload_n 1, 1) := by decide +kernel
theorem dX12_isPart_8 : decode cX12_isPart 8 = .ok (.iaload, 1) := by decide +kernel
theorem dX12_isPart_9 : decode cX12_isPart 9 = .ok (.if_icmp .ge 25, 3) := by decide +kernel
theorem dX12_isPart_12 : decode cX12_isPart 12 = .ok (.aload_n 0, 1) := by decide +kernel
theorem dX12_isPart_13 : decode cX12_isPart 13 = .ok (.getfield 55, 3) := by decide +kernel
theorem dX12_isPart_16 : decode cX12_isPart 16 = .ok (.iconst 5, 1) := by decide +kernel
theorem dX12_isPart_17 : decode cX12_isPart 17 = .ok (.iload_n 1, 1) := by decide +kernel
theorem dX12_isPart_18 : decode cX12_isPart 18 = .ok (.imul, 1) := by decide +kernel
theorem dX12_isPart_19 : decode cX12_isPart 19 = .ok (.iload_n 3, 1) := by decide +kernel
theorem dX12_isPart_20 : decode cX12_isPart 20 = .ok (.iadd, 1) := by decide +kernel
theorem dX12_isPart_21 : decode cX12_isPart 21 = .ok (.iaload, 1) := by decide +kernel
theorem dX12_isPart_22 : decode cX12_isPart 22 = .ok (.iload_n 2, 1) := by decide +kernel
theorem dX12_isPart_23 : decode cX12_isPart 23 = .ok (.if_icmp .ne 5, 3) := by decide +kernel
theorem dX12_isPart_26 : decode cX12_isPart 26 = .ok (.iconst 1, 1) := by decide +kernel
theorem dX12_isPart_27 : decode cX12_isPart 27 = .ok (.ireturn, 1) := by decide +kernel
theorem dX12_isPart_28 : decode cX12_isPart 28 = .ok (.iinc 3 1, 3) := by decide +kernel
theorem dX12_isPart_31 : decode cX12_isPart 31 = .ok (.goto (-29), 3) := by decide +kernel
theorem dX12_isPart_34 : decode cX12_isPart 34 = .ok (.iconst 0, 1) := by decide +kernel
theorem dX12_isPart_35 : decode cX12_isPart 35 = .ok (.ireturn, 1) := by decide +kernel
theorem dX12_feed_0 : decode cX12_feed 0 = .ok (.aload_n 0, 1) := by decide +kernel
theorem dX12_feed_1 : decode cX12_feed 1 = .ok (.iconst 0, 1) := by decide +kernel
theorem dX12_feed_2 : decode cX12_feed 2 = .ok (.putfield 123, 3) := by decide +kernel
theorem dX12_feed_5 : decode cX12_feed 5 = .ok (.aload_n 0, 1) := by decide +kernel
theorem dX12_feed_6 : decode cX12_feed 6 = .ok (.getfield 127, 3) := by decide +kernel
theorem dX12_feed_9 : decode cX12_feed 9 = .ok (.bipush 20, 2) := by decide +kernel
theorem dX12_feed_11 : decode cX12_feed 11 = .ok (.iadd, 1) := by decide +kernel
theorem dX12_feed_12 : decode cX12_feed 12 = .ok (.sipush 1000, 3) := by decide +kernel
theorem dX12_feed_15 : decode cX12_feed 15 = .ok (.if_icmp .le 5, 3) := by decide +kernel
theorem dX12_feed_18 : decode cX12_feed 18 = .ok (.iconst (-1), 1) := by decide +kernel
theorem dX12_feed_19 : decode cX12_feed 19 = .ok (.ireturn, 1) := by decide +kernel
theorem dX12_feed_20 : decode cX12_feed 20 = .ok (.aload_n 0, 1) := by decide +kernel
theorem dX12_feed_21 : decode cX12_feed 21 = .ok (.iload_n 1, 1) := by decide +kernel
theorem dX12_feed_22 : decode cX12_feed 22 = .ok (.invokevirtual 130, 3) := by decide +kernel
theorem dX12_feed_25 : decode cX12_feed 25 = .ok (.aload_n 0, 1) := by decide +kernel
theorem dX12_feed_26 : decode cX12_feed 26 = .ok (.iload_n 2, 1) := by decide +kernel
theorem dX12_feed_27 : decode cX12_feed 27 = .ok (.invokevirtual 130, 3) := by decide +kernel
theorem dX12_feed_30 : decode cX12_feed 30 = .ok (.aload_n 0, 1) := by decide +kernel
theorem dX12_feed_31 : decode cX12_feed 31 = .ok (.iload_n 3, 1) := by decide +kernel
theorem dX12_feed_32 : decode cX12_feed 32 = .ok (.invokevirtual 130, 3) := by decide +kernel
theorem dX12_feed_35 : decode cX12_feed 35 = .ok (.aload_n 0, 1) := by decide +kernel
theorem dX12_feed_36 : decode cX12_feed 36 = .ok (.iload 4, 2) := by decide +kernel
theorem dX12_feed_38 : decode cX12_feed 38 = .ok (.invokevirtual 130, 3) := by decide +kernel
theorem dX12_feed_41 : decode cX12_feed 41 = .ok (.aload_n 0, 1) := by decide +kernel
theorem dX12_feed_42 : decode cX12_feed 42 = .ok (.iload 5, 2) := by decide +kernel
theorem dX12_feed_44 : decode cX12_feed 44 = .ok (.invokevirtual 130, 3) := by decide +kernel
theorem dX12_feed_47 : decode cX12_feed 47 = .ok (.aload_n 0, 1) := by decide +kernel
theorem dX12_feed_48 : decode cX12_feed 48 = .ok (.getfield 127, 3) := by decide +kernel
theorem dX12_feed_51 : decode cX12_feed 51 = .ok (.ireturn, 1) := by decide +kernel
theorem dX12_steps_0 : decode cX12_steps 0 = .ok (.aload_n 0, 1) := by decide +kernel
theorem dX12_steps_1 : decode cX12_steps 1 = .ok (.aload_n 0, 1) := by decide +kernel
theorem dX12_steps_2 : decode cX12_steps 2 = .ok (.getfield 137, 3) := by decide +kernel
theorem dX12_steps_5 : decode cX12_steps 5 = .ok (.putfield 140, 3) := by decide +kernel
theorem dX12_steps_8 : decode cX12_steps 8 = .ok (.aload_n 0, 1) := by decide +kernel
theorem dX12_steps_9 : decode cX12_steps 9 = .ok (.aload_n 0, 1) := by decide +kernel
theorem dX12_steps_10 : decode cX12_steps 10 = .ok (.getfield 140, 3) := by decide +kernel
theorem dX12_steps_13 : decode cX12_steps 13 = .ok (.invokevirtual 143, 3) := by decide +kernel
theorem dX12_steps_16 : decode cX12_steps 16 = .ok (.bipush 32, 2) := by decide +kernel
theorem dX12_steps_18 : decode cX12_steps 18 = .ok (.if_icmp .eq 16, 3) := by decide +kernel
theorem dX12_steps_21 : decode cX12_steps 21 = .ok (.aload_n 0, 1) := by decide +kernel
theorem dX12_steps_22 : decode cX12_steps 22 = .ok (.aload_n 0, 1) := by decide +kernel
theorem dX12_steps_23 : decode cX12_steps 23 = .ok (.getfield 140, 3) := by decide +kernel
theorem dX12_steps_26 : decode cX12_steps 26 = .ok (.invokevirtual 143, 3) := by decide +kernel
theorem dX12_steps_29 : decode cX12_steps 29 = .ok (.bipush 10, 2) := by decide +kernel
theorem dX12_steps_31 : decode cX12_steps 31 = .ok (.if_icmp .ne 16, 3) := by decide +kernel
theorem dX12_steps_34 : decode cX12_steps 34 = .ok (.aload_n 0, 1) := by decide +kernel
theorem dX12_steps_35 : decode cX12_steps 35 = .ok (.dup, 1) := by decide +kernel
theorem dX12_steps_36 : decode cX12_steps 36 = .ok (.getfield 140, 3) := by decide +kernel
theorem dX12_steps_39 : decode cX12_steps 39 = .ok (.iconst 1, 1) := by decide +kernel
theorem dX12_steps_40 : decode cX12_steps 40 = .ok (.iadd, 1) := by decide +kernel
theorem dX12_steps_41 : decode cX12_steps 41 = .ok (.putfield 140, 3) := by decide +kernel
theorem dX12_steps_44 : decode cX12_steps 44 = .ok (.goto (-36), 3) := by decide +kernel
theorem dX12_steps_47 : decode cX12_steps 47 = .ok (.aload_n 0, 1) := by decide +kernel
theorem dX12_steps_48 : decode cX12_steps 48 = .ok (.aload_n 0, 1) := by decide +kernel
theorem dX12_steps_49 : decode cX12_steps 49 = .ok (.getfield 140, 3) := by decide +kernel
theorem dX12_steps_52 : decode cX12_steps 52 = .ok (.invokevirtual 143, 3) := by decide +kernel
theorem dX12_steps_55 : decode cX12_steps 55 = .ok (.istore_n 1, 1) := by decide +kernel
theorem dX12_steps_56 : decode cX12_steps 56 = .ok (.aload_n 0, 1) := by decide +kernel
theorem dX12_steps_57 : decode cX12_steps 57 = .ok (.aload_n 0, 1) := by decide +kernel
theorem dX12_steps_58 : decode cX12_steps 58 = .ok (.getfield 140, 3) := by decide +kernel
theorem dX12_steps_61 : decode cX12_steps 61 = .ok (.iconst 1, 1) := by decide +kernel
theorem dX12_steps_62 : decode cX12_steps 62 = .ok (.iadd, 1) := by decide +kernel
theorem dX12_steps_63 : decode cX12_steps 63 = .ok (.putfield 137, 3) := by decide +kernel
theorem dX12_steps_66 : decode cX12_steps 66 = .ok (.aload_n 0, 1) := by decide +kernel
theorem dX12_steps_67 : decode cX12_steps 67 = .ok (.iconst 4, 1) := by decide +kernel
theorem dX12_steps_68 : decode cX12_steps 68 = .ok (.putfield 147, 3) := by decide +kernel
theorem dX12_steps_71 : decode cX12_steps 71 = .ok (.aload_n 0, 1) := by decide +kernel
theorem dX12_steps_72 : decode cX12_steps 72 = .ok (.iconst 0, 1) := by decide +kernel
theorem dX12_steps_73 : decode cX12_steps 73 = .ok (.putfield 150, 3) := by decide +kernel
theorem dX12_steps_76 : decode cX12_steps 76 = .ok (.aload_n 0, 1) := by decide +kernel
theorem dX12_steps_77 : decode cX12_steps 77 = .ok (.lconst 0, 1) := by decide +kernel
theorem dX12_steps_78 : decode cX12_steps 78 = .ok (.putfield 153, 3) := by decide +kernel
theorem dX12_steps_81 : decode cX12_steps 81 = .ok (.iload_n 1, 1) := by decide +kernel
theorem dX12_steps_82 : decode cX12_steps 82 = .ok (.iconst (-1), 1) := by decide +kernel
theorem dX12_steps_83 : decode cX12_steps 83 = .ok (.if_icmp .ne 19, 3) := by decide +kernel
theorem dX12_steps_86 : decode cX12_steps 86 = .ok (.aload_n 0, 1) := by decide +kernel
theorem dX12_steps_87 : decode cX12_steps 87 = .ok (.aload_n 0, 1) := by decide +kernel
theorem dX12_steps_88 : decode cX12_steps 88 = .ok (.getfield 140, 3) := by decide +kernel
theorem dX12_steps_91 : decode cX12_steps 91 = .ok (.putfield 137, 3) := by decide +kernel
theorem dX12_steps_94 : decode cX12_steps 94 = .ok (.aload_n 0, 1) := by decide +kernel
theorem dX12_steps_95 : decode cX12_steps 95 = .ok (.iconst 0, 1) := by decide +kernel
theorem dX12_steps_96 : decode cX12_steps 96 = .ok (.putfield 147, 3) := by decide +kernel
theorem dX12_steps_99 : decode cX12_steps 99 = .ok (.goto 267, 3) := by decide +kernel
theorem dX12_steps_102 : decode cX12_steps 102 = .ok (.iload_n 1, 1) := by decide +kernel
theorem dX12_steps_103 : decode cX12_steps 103 = .ok (.bipush 59, 2) := by decide +kernel
theorem dX12_steps_105 : decode cX12_steps 105 = .ok (.if_icmp .ne 11, 3) := by decide +kernel
theorem dX12_steps_108 : decode cX12_steps 108 = .ok (.aload_n 0, 1) := by decide +kernel
theorem dX12_steps_109 : decode cX12_steps 109 = .ok (.iconst 3, 1) := by decide +kernel
theorem dX12_steps_110 : decode cX12_steps 110 = .ok (.putfield 147, 3) := by decide +kernel
theorem dX12_steps_113 : decode cX12_steps 113 = .ok (.goto 253, 3) := by decide +kernel
theorem dX12_steps_116 : decode cX12_steps 116 = .ok (.iload_n 1, 1) := by decide +kernel
theorem dX12_steps_117 : decode cX12_steps 117 = .ok (.i2l, 1) := by decide +kernel
theorem dX12_steps_118 : decode cX12_steps 118 = .ok (.ldc2_w 157, 3) := by decide +kernel
theorem dX12_steps_121 : decode cX12_steps 121 = .ok (.ldc2_w 159, 3) := by decide +kernel
theorem dX12_steps_124 : decode cX12_steps 124 = .ok (.invokestatic 161, 3) := by decide +kernel
theorem dX12_steps_127 : decode cX12_steps 127 = .ok (.ifCond .eq 116, 3) := by decide +kernel
theorem dX12_steps_130 : decode cX12_steps 130 = .ok (.aload_n 0, 1) := by decide +kernel
theorem dX12_steps_131 : decode cX12_steps 131 = .ok (.aload_n 0, 1) := by decide +kernel
theorem dX12_steps_132 : decode cX12_steps 132 = .ok (.getfield 140, 3) := by decide +kernel
theorem dX12_steps_135 : decode cX12_steps 135 = .ok (.putfield 137, 3) := by decide +kernel
theorem dX12_steps_138 : decode cX12_steps 138 = .ok (.aload_n 0, 1) := by decide +kernel
theorem dX12_steps_139 : decode cX12_steps 139 = .ok (.aload_n 0, 1) := by decide +kernel
theorem dX12_steps_140 : decode cX12_steps 140 = .ok (.getfield 137, 3) := by decide +kernel
theorem dX12_steps_143 : decode cX12_steps 143 = .ok (.invokevirtual 143, 3) := by decide +kernel
theorem dX12_steps_146 : decode cX12_steps 146 = .ok (.i2l, 1) := by decide +kernel
theorem dX12_steps_147 : decode cX12_steps 147 = .ok (.ldc2_w 157, 3) := by decide +kernel
theorem dX12_steps_150 : decode cX12_steps 150 = .ok (.ldc2_w 159, 3) := by decide +kernel
theorem dX12_steps_153 : decode cX12_steps 153 = .ok (.invokestatic 161, 3) := by decide +kernel
theorem dX12_steps_156 : decode cX12_steps 156 = .ok (.ifCond .eq 61, 3) := by decide +kernel
theorem dX12_steps_159 : decode cX12_steps 159 = .ok (.aload_n 0, 1) := by decide +kernel
theorem dX12_steps_160 : decode cX12_steps 160 = .ok (.aload_n 0, 1) := by decide +kernel
theorem dX12_steps_161 : decode cX12_steps 161 = .ok (.getfield 137, 3) := by decide +kernel
theorem dX12_steps_164 : decode cX12_steps 164 = .ok (.aload_n 0, 1) := by decide +kernel
theorem dX12_steps_165 : decode cX12_steps 165 = .ok (.getfield 140, 3) := by decide +kernel
theorem dX12_steps_168 : decode cX12_steps 168 = .ok (.isub, 1) := by decide +kernel
theorem dX12_steps_169 : decode cX12_steps 169 = .ok (.bipush 8, 2) := by decide +kernel
theorem dX12_steps_171 : decode cX12_steps 171 = .ok (.if_icmp .ge 26, 3) := by decide +kernel
theorem dX12_steps_174 : decode cX12_steps 174 = .ok (.aload_n 0, 1) := by decide +kernel
theorem dX12_steps_175 : decode cX12_steps 175 = .ok (.getfield 153, 3) := by decide +kernel
theorem dX12_steps_178 : decode cX12_steps 178 = .ok (.iconst 5, 1) := by decide +kernel
theorem dX12_steps_179 : decode cX12_steps 179 = .ok (.lshl, 1) := by decide +kernel
theorem dX12_steps_180 : decode cX12_steps 180 = .ok (.aload_n 0, 1) := by decide +kernel
theorem dX12_steps_181 : decode cX12_steps 181 = .ok (.aload_n 0, 1) := by decide +kernel
theorem dX12_steps_182 : decode cX12_steps 182 = .ok (.getfield 137, 3) := by decide +kernel
theorem dX12_steps_185 : decode cX12_steps 185 = .ok (.invokevirtual 143, 3) := by decide +kernel
theorem dX12_steps_188 : decode cX12_steps 188 = .ok (.i2l, 1) := by decide +kernel
theorem dX12_steps_189 : decode cX12_steps 189 = .ok (.ldc2_w 165, 3) := by decide +kernel
theorem dX12_steps_192 : decode cX12_steps 192 = .ok (.lsub, 1) := by decide +kernel
theorem dX12_steps_193 : decode cX12_steps 193 = .ok (.lor, 1) := by decide +kernel
theorem dX12_steps_194 : decode cX12_steps 194 = .ok (.goto 7, 3) := by decide +kernel
theorem dX12_steps_197 : decode cX12_steps 197 = .ok (.aload_n 0, 1) := by decide +kernel
theorem dX12_steps_198 : decode cX12_steps 198 = .ok (.getfield 153, 3) := by decide +kernel
theorem dX12_steps_201 : decode cX12_steps 201 = .ok (.putfield 153, 3) := by decide +kernel
theorem dX12_steps_204 : decode cX12_steps 204 = .ok (.aload_n 0, 1) := by decide +kernel
theorem dX12_steps_205 : decode cX12_steps 205 = .ok (.dup, 1) := by decide +kernel
theorem dX12_steps_206 : decode cX12_steps 206 = .ok (.getfield 137, 3) := by decide +kernel
theorem dX12_steps_209 : decode cX12_steps 209 = .ok (.iconst 1, 1) := by decide +kernel
theorem dX12_steps_210 : decode cX12_steps 210 = .ok (.iadd, 1) := by decide +kernel
theorem dX12_steps_211 : decode cX12_steps 211 = .ok (.putfield 137, 3) := by decide +kernel
theorem dX12_steps_214 : decode cX12_steps 214 = .ok (.goto (-76), 3) := by decide +kernel
theorem dX12_steps_217 : decode cX12_steps 217 = .ok (.aload_n 0, 1) := by decide +kernel
theorem dX12_steps_218 : decode cX12_steps 218 = .ok (.aload_n 0, 1) := by decide +kernel
theorem dX12_steps_219 : decode cX12_steps 219 = .ok (.getfield 137, 3) := by decide +kernel
theorem dX12_steps_222 : decode cX12_steps 222 = .ok (.aload_n 0, 1) := by decide +kernel
theorem dX12_steps_223 : decode cX12_steps 223 = .ok (.getfield 140, 3) := by decide +kernel
theorem dX12_steps_226 : decode cX12_steps 226 = .ok (.isub, 1) := by decide +kernel
theorem dX12_steps_227 : decode cX12_steps 227 = .ok (.bipush 9, 2) := by decide +kernel
theorem dX12_steps_229 : decode cX12_steps 229 = .ok (.if_icmp .ge 7, 3) := by decide +kernel
theorem dX12_steps_232 : decode cX12_steps 232 = .ok (.iconst 1, 1) := by decide +kernel
theorem dX12_steps_233 : decode cX12_steps 233 = .ok (.goto 4, 3) := by decide +kernel
theorem dX12_steps_236 : decode cX12_steps 236 = .ok (.iconst 4, 1) := by decide +kernel
theorem dX12_steps_237 : decode cX12_steps 237 = .ok (.putfield 147, 3) := by decide +kernel
theorem dX12_steps_240 : decode cX12_steps 240 = .ok (.goto 126, 3) := by decide +kernel
theorem dX12_steps_243 : decode cX12_steps 243 = .ok (.iload_n 1, 1) := by decide +kernel
theorem dX12_steps_244 : decode cX12_steps 244 = .ok (.i2l, 1) := by decide +kernel
theorem dX12_steps_245 : decode cX12_steps 245 = .ok (.ldc2_w 167, 3) := by decide +kernel
theorem dX12_steps_248 : decode cX12_steps 248 = .ok (.ldc2_w 169, 3) := by decide +kernel
theorem dX12_steps_251 : decode cX12_steps 251 = .ok (.invokestatic 161, 3) := by decide +kernel
theorem dX12_steps_254 : decode cX12_steps 254 = .ok (.ifCond .eq 112, 3) := by decide +kernel
theorem dX12_steps_257 : decode cX12_steps 257 = .ok (.aload_n 0, 1) := by decide +kernel
theorem dX12_steps_258 : decode cX12_steps 258 = .ok (.aload_n 0, 1) := by decide +kernel
theorem dX12_steps_259 : decode cX12_steps 259 = .ok (.getfield 140, 3) := by decide +kernel
theorem dX12_steps_262 : decode cX12_steps 262 = .ok (.putfield 137, 3) := by decide +kernel
theorem dX12_steps_265 : decode cX12_steps 265 = .ok (.aload_n 0, 1) := by decide +kernel
theorem dX12_steps_266 : decode cX12_steps 266 = .ok (.aload_n 0, 1) := by decide +kernel
theorem dX12_steps_267 : decode cX12_steps 267 = .ok (.getfield 137, 3) := by decide +kernel
theorem dX12_steps_270 : decode cX12_steps 270 = .ok (.invokevirtual 143, 3) := by decide +kernel
theorem dX12_steps_273 : decode cX12_steps 273 = .ok (.i2l, 1) := by decide +kernel
theorem dX12_steps_274 : decode cX12_steps 274 = .ok (.ldc2_w 167, 3) := by decide +kernel
theorem dX12_steps_277 : decode cX12_steps 277 = .ok (.ldc2_w 169, 3) := by decide +kernel
theorem dX12_steps_280 : decode cX12_steps 280 = .ok (.invokestatic 161, 3) := by decide +kernel
theorem dX12_steps_283 : decode cX12_steps 283 = .ok (.ifCond .eq 60, 3) := by decide +kernel
theorem dX12_steps_286 : decode cX12_steps 286 = .ok (.aload_n 0, 1) := by decide +kernel
theorem dX12_steps_287 : decode cX12_steps 287 = .ok (.aload_n 0, 1) := by decide +kernel
theorem dX12_steps_288 : decode cX12_steps 288 = .ok (.getfield 137, 3) := by decide +kernel
theorem dX12_steps_291 : decode cX12_steps 291 = .ok (.aload_n 0, 1) := by decide +kernel
theorem dX12_steps_292 : decode cX12_steps 292 = .ok (.getfield 140, 3) := by decide +kernel
theorem dX12_steps_295 : decode cX12_steps 295 = .ok (.isub, 1) := by decide +kernel
theorem dX12_steps_296 : decode cX12_steps 296 = .ok (.bipush 7, 2) := by decide +kernel
theorem dX12_steps_298 : decode cX12_steps 298 = .ok (.if_icmp .ge 25, 3) := by decide +kernel
theorem dX12_steps_301 : decode cX12_steps 301 = .ok (.bipush 10, 2) := by decide +kernel
theorem dX12_steps_303 : decode cX12_steps 303 = .ok (.aload_n 0, 1) := by decide +kernel
theorem dX12_steps_304 : decode cX12_steps 304 = .ok (.getfield 150, 3) := by decide +kernel
theorem dX12_steps_307 : decode cX12_steps 307 = .ok (.imul, 1) := by decide +kernel
theorem dX12_steps_308 : decode cX12_steps 308 = .ok (.aload_n 0, 1) := by decide +kernel
theorem dX12_steps_309 : decode cX12_steps 309 = .ok (.aload_n 0, 1) := by decide +kernel
theorem dX12_steps_310 : decode cX12_steps 310 = .ok (.getfield 137, 3) := by decide +kernel
theorem dX12_steps_313 : decode cX12_steps 313 = .ok (.invokevirtual 143, 3) := by decide +kernel
theorem dX12_steps_316 : decode cX12_steps 316 = .ok (.iadd, 1) := by decide +kernel
theorem dX12_steps_317 : decode cX12_steps 317 = .ok (.bipush 48, 2) := by decide +kernel
theorem dX12_steps_319 : decode cX12_steps 319 = .ok (.isub, 1) := by decide +kernel
theorem dX12_steps_320 : decode cX12_steps 320 = .ok (.goto 7, 3) := by decide +kernel
theorem dX12_steps_323 : decode cX12_steps 323 = .ok (.aload_n 0, 1) := by decide +kernel
theorem dX12_steps_324 : decode cX12_steps 324 = .ok (.getfield 150, 3) := by decide +kernel
theorem dX12_steps_327 : decode cX12_steps 327 = .ok (.putfield 150, 3) := by decide +kernel
theorem dX12_steps_330 : decode cX12_steps 330 = .ok (.aload_n 0, 1) := by decide +kernel
theorem dX12_steps_331 : decode cX12_steps 331 = .ok (.dup, 1) := by decide +kernel
theorem dX12_steps_332 : decode cX12_steps 332 = .ok (.getfield 137, 3) := by decide +kernel
theorem dX12_steps_335 : decode cX12_steps 335 = .ok (.iconst 1, 1) := by decide +kernel
theorem dX12_steps_336 : decode cX12_steps 336 = .ok (.iadd, 1) := by decide +kernel
theorem dX12_steps_337 : decode cX12_steps 337 = .ok (.putfield 137, 3) := by decide +kernel
theorem dX12_steps_340 : decode cX12_steps 340 = .ok (.goto (-75), 3) := by decide +kernel
theorem dX12_steps_343 : decode cX12_steps 343 = .ok (.aload_n 0, 1) := by decide +kernel
theorem dX12_steps_344 : decode cX12_steps 344 = .ok (.aload_n 0, 1) := by decide +kernel
theorem dX12_steps_345 : decode cX12_steps 345 = .ok (.getfield 137, 3) := by decide +kernel
theorem dX12_steps_348 : decode cX12_steps 348 = .ok (.aload_n 0, 1) := by decide +kernel
theorem dX12_steps_349 : decode cX12_steps 349 = .ok (.getfield 140, 3) := by decide +kernel
theorem dX12_steps_352 : decode cX12_steps 352 = .ok (.isub, 1) := by decide +kernel
theorem dX12_steps_353 : decode cX12_steps 353 = .ok (.bipush 8, 2) := by decide +kernel
theorem dX12_steps_355 : decode cX12_steps 355 = .ok (.if_icmp .ge 7, 3) := by decide +kernel
theorem dX12_steps_358 : decode cX12_steps 358 = .ok (.iconst 2, 1) := by decide +kernel
theorem dX12_steps_359 : decode cX12_steps 359 = .ok (.goto 4, 3) := by decide +kernel
theorem dX12_steps_362 : decode cX12_steps 362 = .ok (.iconst 4, 1) := by decide +kernel
theorem dX12_steps_363 : decode cX12_steps 363 = .ok (.putfield 147, 3) := by decide +kernel
theorem dX12_steps_366 : decode cX12_steps 366 = .ok (.return_, 1) := by decide +kernel
theorem dX12_is_0 : decode cX12_is 0 = .ok (.aload_n 0, 1) := by decide +kernel
theorem dX12_is_1 : decode cX12_is 1 = .ok (.getfield 147, 3) := by decide +kernel
theorem dX12_is_4 : decode cX12_is 4 = .ok (.iconst 1, 1) := by decide +kernel
theorem dX12_is_5 : decode cX12_is 5 = .ok (.if_icmp .ne 19, 3) := by decide +kernel
theorem dX12_is_8 : decode cX12_is 8 = .ok (.aload_n 0, 1) := by decide +kernel
theorem dX12_is_9 : decode cX12_is 9 = .ok (.getfield 153, 3) := by decide +kernel
theorem dX12_is_12 : decode cX12_is 12 = .ok (.aload_n 1, 1) := by decide +kernel
theorem dX12_is_13 : decode cX12_is 13 = .ok (.invokestatic 187, 3) := by decide +kernel
theorem dX12_is_16 : decode cX12_is 16 = .ok (.lcmp, 1) := by decide +kernel
theorem dX12_is_17 : decode cX12_is 17 = .ok (.ifCond .ne 7, 3) := by decide +kernel
theorem dX12_is_20 : decode cX12_is 20 = .ok (.iconst 1, 1) := by decide +kernel
theorem dX12_is_21 : decode cX12_is 21 = .ok (.goto 4, 3) := by decide +kernel
theorem dX12_is_24 : decode cX12_is 24 = .ok (.iconst 0, 1) := by decide +kernel
theorem dX12_is_25 : decode cX12_is 25 = .ok (.ireturn, 1) := by decide +kernel
theorem dX12_partNamed_0 : decode cX12_partNamed 0 = .ok (.aload_n 0, 1) := by decide +kernel
theorem dX12_partNamed_1 : decode cX12_partNamed 1 = .ok (.aload_n 0, 1) := by decide +kernel
theorem dX12_partNamed_2 : decode cX12_partNamed 2 = .ok (.getfield 153, 3) := by decide +kernel
theorem dX12_partNamed_5 : decode cX12_partNamed 5 = .ok (.invokevirtual 238, 3) := by decide +kernel
theorem dX12_partNamed_8 : decode cX12_partNamed 8 = .ok (.ifCond .lt 14, 3) := by decide +kernel
theorem dX12_partNamed_11 : decode cX12_partNamed 11 = .ok (.aload_n 0, 1) := by decide +kernel
theorem dX12_partNamed_12 : decode cX12_partNamed 12 = .ok (.aload_n 0, 1) := by decide +kernel
theorem dX12_partNamed_13 : decode cX12_partNamed 13 = .ok (.getfield 153, 3) := by decide +kernel
theorem dX12_partNamed_16 : decode cX12_partNamed 16 = .ok (.invokevirtual 238, 3) := by decide +kernel
theorem dX12_partNamed_19 : decode cX12_partNamed 19 = .ok (.goto 29, 3) := by decide +kernel
theorem dX12_partNamed_22 : decode cX12_partNamed 22 = .ok (.aload_n 0, 1) := by decide +kernel
theorem dX12_partNamed_23 : decode cX12_partNamed 23 = .ok (.aload_n 0, 1) := by decide +kernel
theorem dX12_partNamed_24 : decode cX12_partNamed 24 = .ok (.getfield 153, 3) := by decide +kernel
theorem dX12_partNamed_27 : decode cX12_partNamed 27 = .ok (.invokevirtual 242, 3) := by decide +kernel
theorem dX12_partNamed_30 : decode cX12_partNamed 30 = .ok (.ifCond .lt 17, 3) := by decide +kernel
theorem dX12_partNamed_33 : decode cX12_partNamed 33 = .ok (.bipush 16, 2) := by decide +kernel
theorem dX12_partNamed_35 : decode cX12_partNamed 35 = .ok (.aload_n 0, 1) := by decide +kernel
theorem dX12_partNamed_36 : decode cX12_partNamed 36 = .ok (.aload_n 0, 1) := by decide +kernel
theorem dX12_partNamed_37 : decode cX12_partNamed 37 = .ok (.getfield 153, 3) := by decide +kernel
theorem dX12_partNamed_40 : decode cX12_partNamed 40 = .ok (.invokevirtual 242, 3) := by decide +kernel
theorem dX12_partNamed_43 : decode cX12_partNamed 43 = .ok (.iadd, 1) := by decide +kernel
theorem dX12_partNamed_44 : decode cX12_partNamed 44 = .ok (.goto 4, 3) := by decide +kernel
theorem dX12_partNamed_47 : decode cX12_partNamed 47 = .ok (.iconst (-1), 1) := by decide +kernel
theorem dX12_partNamed_48 : decode cX12_partNamed 48 = .ok (.ireturn, 1) := by decide +kernel
theorem dX12_isOwn_0 : decode cX12_isOwn 0 = .ok (.aload_n 0, 1) := by decide +kernel
theorem dX12_isOwn_1 : decode cX12_isOwn 1 = .ok (.ldc 191, 2) := by decide +kernel
theorem dX12_isOwn_3 : decode cX12_isOwn 3 = .ok (.invokevirtual 193, 3) := by decide +kernel
theorem dX12_isOwn_6 : decode cX12_isOwn 6 = .ok (.ifCond .ne 111, 3) := by decide +kernel
theorem dX12_isOwn_9 : decode cX12_isOwn 9 = .ok (.aload_n 0, 1) := by decide +kernel
theorem dX12_isOwn_10 : decode cX12_isOwn 10 = .ok (.ldc 197, 2) := by decide +kernel
theorem dX12_isOwn_12 : decode cX12_isOwn 12 = .ok (.invokevirtual 193, 3) := by decide +kernel
theorem dX12_isOwn_15 : decode cX12_isOwn 15 = .ok (.ifCond .ne 102, 3) := by decide +kernel
theorem dX12_isOwn_18 : decode cX12_isOwn 18 = .ok (.aload_n 0, 1) := by decide +kernel
theorem dX12_isOwn_19 : decode cX12_isOwn 19 = .ok (.ldc 199, 2) := by decide +kernel
theorem dX12_isOwn_21 : decode cX12_isOwn 21 = .ok (.invokevirtual 193, 3) := by decide +kernel
theorem dX12_isOwn_24 : decode cX12_isOwn 24 = .ok (.ifCond .ne 93, 3) := by decide +kernel
theorem dX12_isOwn_27 : decode cX12_isOwn 27 = .ok (.aload_n 0, 1) := by decide +kernel
theorem dX12_isOwn_28 : decode cX12_isOwn 28 = .ok (.ldc 201, 2) := by decide +kernel
theorem dX12_isOwn_30 : decode cX12_isOwn 30 = .ok (.invokevirtual 193, 3) := by decide +kernel
theorem dX12_isOwn_33 : decode cX12_isOwn 33 = .ok (.ifCond .ne 84, 3) := by decide +kernel
theorem dX12_isOwn_36 : decode cX12_isOwn 36 = .ok (.aload_n 0, 1) := by decide +kernel
theorem dX12_isOwn_37 : decode cX12_isOwn 37 = .ok (.ldc 203, 2) := by decide +kernel
theorem dX12_isOwn_39 : decode cX12_isOwn 39 = .ok (.invokevirtual 193, 3) := by decide +kernel
theorem dX12_isOwn_42 : decode cX12_isOwn 42 = .ok (.ifCond .ne 75, 3) := by decide +kernel
theorem dX12_isOwn_45 : decode cX12_isOwn 45 = .ok (.aload_n 0, 1) := by decide +kernel
theorem dX12_isOwn_46 : decode cX12_isOwn 46 = .ok (.ldc 205, 2) := by decide +kernel
theorem dX12_isOwn_48 : decode cX12_isOwn 48 = .ok (.invokevirtual 193, 3) := by decide +kernel
theorem dX12_isOwn_51 : decode cX12_isOwn 51 = .ok (.ifCond .ne 66, 3) := by decide +kernel
theorem dX12_isOwn_54 : decode cX12_isOwn 54 = .ok (.aload_n 0, 1) := by decide +kernel
theorem dX12_isOwn_55 : decode cX12_isOwn 55 = .ok (.ldc 206, 2) := by decide +kernel
theorem dX12_isOwn_57 : decode cX12_isOwn 57 = .ok (.invokevirtual 193, 3) := by decide +kernel
theorem dX12_isOwn_60 : decode cX12_isOwn 60 = .ok (.ifCond .ne 57, 3) := by decide +kernel
theorem dX12_isOwn_63 : decode cX12_isOwn 63 = .ok (.aload_n 0, 1) := by decide +kernel
theorem dX12_isOwn_64 : decode cX12_isOwn 64 = .ok (.ldc 207, 2) := by decide +kernel
theorem dX12_isOwn_66 : decode cX12_isOwn 66 = .ok (.invokevirtual 193, 3) := by decide +kernel
theorem dX12_isOwn_69 : decode cX12_isOwn 69 = .ok (.ifCond .ne 48, 3) := by decide +kernel
theorem dX12_isOwn_72 : decode cX12_isOwn 72 = .ok (.aload_n 0, 1) := by decide +kernel
theorem dX12_isOwn_73 : decode cX12_isOwn 73 = .ok (.ldc 208, 2) := by decide +kernel
theorem dX12_isOwn_75 : decode cX12_isOwn 75 = .ok (.invokevirtual 193, 3) := by decide +kernel
theorem dX12_isOwn_78 : decode cX12_isOwn 78 = .ok (.ifCond .ne 39, 3) := by decide +kernel
theorem dX12_isOwn_81 : decode cX12_isOwn 81 = .ok (.aload_n 0, 1) := by decide +kernel
theorem dX12_isOwn_82 : decode cX12_isOwn 82 = .ok (.ldc 210, 2) := by decide +kernel
theorem dX12_isOwn_84 : decode cX12_isOwn 84 = .ok (.invokevirtual 193, 3) := by decide +kernel
theorem dX12_isOwn_87 : decode cX12_isOwn 87 = .ok (.ifCond .ne 30, 3) := by decide +kernel
theorem dX12_isOwn_90 : decode cX12_isOwn 90 = .ok (.aload_n 0, 1) := by decide +kernel
theorem dX12_isOwn_91 : decode cX12_isOwn 91 = .ok (.ldc 212, 2) := by decide +kernel
theorem dX12_isOwn_93 : decode cX12_isOwn 93 = .ok (.invokevirtual 193, 3) := by decide +kernel
theorem dX12_isOwn_96 : decode cX12_isOwn 96 = .ok (.ifCond .ne 21, 3) := by decide +kernel
theorem dX12_isOwn_99 : decode cX12_isOwn 99 = .ok (.aload_n 0, 1) := by decide +kernel
theorem dX12_isOwn_100 : decode cX12_isOwn 100 = .ok (.ldc 214, 2) := by decide +kernel
theorem dX12_isOwn_102 : decode cX12_isOwn 102 = .ok (.invokevirtual 193, 3) := by decide +kernel
theorem dX12_isOwn_105 : decode cX12_isOwn 105 = .ok (.ifCond .ne 12, 3) := by decide +kernel
theorem dX12_isOwn_108 : decode cX12_isOwn 108 = .ok (.aload_n 0, 1) := by decide +kernel
theorem dX12_isOwn_109 : decode cX12_isOwn 109 = .ok (.ldc 216, 2) := by decide +kernel
theorem dX12_isOwn_111 : decode cX12_isOwn 111 = .ok (.invokevirtual 193, 3) := by decide +kernel
theorem dX12_isOwn_114 : decode cX12_isOwn 114 = .ok (.ifCond .eq 7, 3) := by decide +kernel
theorem dX12_isOwn_117 : decode cX12_isOwn 117 = .ok (.iconst 1, 1) := by decide +kernel
theorem dX12_isOwn_118 : decode cX12_isOwn 118 = .ok (.goto 4, 3) := by decide +kernel
theorem dX12_isOwn_121 : decode cX12_isOwn 121 = .ok (.iconst 0, 1) := by decide +kernel
theorem dX12_isOwn_122 : decode cX12_isOwn 122 = .ok (.ireturn, 1) := by decide +kernel
theorem dX12_takes_0 : decode cX12_takes 0 = .ok (.aload_n 0, 1) := by decide +kernel
theorem dX12_takes_1 : decode cX12_takes 1 = .ok (.aload_n 0, 1) := by decide +kernel
theorem dX12_takes_2 : decode cX12_takes 2 = .ok (.aload_n 1, 1) := by decide +kernel
theorem dX12_takes_3 : decode cX12_takes 3 = .ok (.invokevirtual 193, 3) := by decide +kernel
theorem dX12_takes_6 : decode cX12_takes 6 = .ok (.iconst 1, 1) := by decide +kernel
theorem dX12_takes_7 : decode cX12_takes 7 = .ok (.invokevirtual 222, 3) := by decide +kernel
theorem dX12_takes_10 : decode cX12_takes 10 = .ok (.ifCond .ne 5, 3) := by decide +kernel
theorem dX12_takes_13 : decode cX12_takes 13 = .ok (.iconst 0, 1) := by decide +kernel
theorem dX12_takes_14 : decode cX12_takes 14 = .ok (.ireturn, 1) := by decide +kernel
theorem dX12_takes_15 : decode cX12_takes 15 = .ok (.aload_n 0, 1) := by decide +kernel
theorem dX12_takes_16 : decode cX12_takes 16 = .ok (.invokevirtual 226, 3) := by decide +kernel
theorem dX12_takes_19 : decode cX12_takes 19 = .ok (.iconst 1, 1) := by decide +kernel
theorem dX12_takes_20 : decode cX12_takes 20 = .ok (.ireturn, 1) := by decide +kernel
theorem dX12_takesNumber_0 : decode cX12_takesNumber 0 = .ok (.aload_n 0, 1) := by decide +kernel
theorem dX12_takesNumber_1 : decode cX12_takesNumber 1 = .ok (.aload_n 0, 1) := by decide +kernel
theorem dX12_takesNumber_2 : decode cX12_takesNumber 2 = .ok (.getfield 147, 3) := by decide +kernel
theorem dX12_takesNumber_5 : decode cX12_takesNumber 5 = .ok (.iconst 2, 1) := by decide +kernel
theorem dX12_takesNumber_6 : decode cX12_takesNumber 6 = .ok (.if_icmp .ne 7, 3) := by decide +kernel
theorem dX12_takesNumber_9 : decode cX12_takesNumber 9 = .ok (.iconst 1, 1) := by decide +kernel
theorem dX12_takesNumber_10 : decode cX12_takesNumber 10 = .ok (.goto 4, 3) := by decide +kernel
theorem dX12_takesNumber_13 : decode cX12_takesNumber 13 = .ok (.iconst 0, 1) := by decide +kernel
theorem dX12_takesNumber_14 : decode cX12_takesNumber 14 = .ok (.iconst 1, 1) := by decide +kernel
theorem dX12_takesNumber_15 : decode cX12_takesNumber 15 = .ok (.invokevirtual 222, 3) := by decide +kernel
theorem dX12_takesNumber_18 : decode cX12_takesNumber 18 = .ok (.ifCond .eq 23, 3) := by decide +kernel
theorem dX12_takesNumber_21 : decode cX12_takesNumber 21 = .ok (.aload_n 0, 1) := by decide +kernel
theorem dX12_takesNumber_22 : decode cX12_takesNumber 22 = .ok (.aload_n 0, 1) := by decide +kernel
theorem dX12_takesNumber_23 : decode cX12_takesNumber 23 = .ok (.getfield 150, 3) := by decide +kernel
theorem dX12_takesNumber_26 : decode cX12_takesNumber 26 = .ok (.i2l, 1) := by decide +kernel
theorem dX12_takesNumber_27 : decode cX12_takesNumber 27 = .ok (.iload_n 1, 1) := by decide +kernel
theorem dX12_takesNumber_28 : decode cX12_takesNumber 28 = .ok (.i2l, 1) := by decide +kernel
theorem dX12_takesNumber_29 : decode cX12_takesNumber 29 = .ok (.iload_n 2, 1) := by decide +kernel
theorem dX12_takesNumber_30 : decode cX12_takesNumber 30 = .ok (.i2l, 1) := by decide +kernel
theorem dX12_takesNumber_31 : decode cX12_takesNumber 31 = .ok (.invokestatic 161, 3) := by decide +kernel
theorem dX12_takesNumber_34 : decode cX12_takesNumber 34 = .ok (.iconst 4, 1) := by decide +kernel
theorem dX12_takesNumber_35 : decode cX12_takesNumber 35 = .ok (.invokevirtual 222, 3) := by decide +kernel
theorem dX12_takesNumber_38 : decode cX12_takesNumber 38 = .ok (.ifCond .ne 5, 3) := by decide +kernel
theorem dX12_takesNumber_41 : decode cX12_takesNumber 41 = .ok (.iconst 0, 1) := by decide +kernel
theorem dX12_takesNumber_42 : decode cX12_takesNumber 42 = .ok (.ireturn, 1) := by decide +kernel
theorem dX12_takesNumber_43 : decode cX12_takesNumber 43 = .ok (.aload_n 0, 1) := by decide +kernel
theorem dX12_takesNumber_44 : decode cX12_takesNumber 44 = .ok (.aload_n 0, 1) := by decide +kernel
theorem dX12_takesNumber_45 : decode cX12_takesNumber 45 = .ok (.getfield 150, 3) := by decide +kernel
theorem dX12_takesNumber_48 : decode cX12_takesNumber 48 = .ok (.putfield 229, 3) := by decide +kernel
theorem dX12_takesNumber_51 : decode cX12_takesNumber 51 = .ok (.aload_n 0, 1) := by decide +kernel
theorem dX12_takesNumber_52 : decode cX12_takesNumber 52 = .ok (.invokevirtual 226, 3) := by decide +kernel
theorem dX12_takesNumber_55 : decode cX12_takesNumber 55 = .ok (.iconst 1, 1) := by decide +kernel
theorem dX12_takesNumber_56 : decode cX12_takesNumber 56 = .ok (.ireturn, 1) := by decide +kernel
theorem dX12_isName_0 : decode cX12_isName 0 = .ok (.aload_n 0, 1) := by decide +kernel
theorem dX12_isName_1 : decode cX12_isName 1 = .ok (.getfield 147, 3) := by decide +kernel
theorem dX12_isName_4 : decode cX12_isName 4 = .ok (.iconst 1, 1) := by decide +kernel
theorem dX12_isName_5 : decode cX12_isName 5 = .ok (.if_icmp .ne 14, 3) := by decide +kernel
theorem dX12_isName_8 : decode cX12_isName 8 = .ok (.aload_n 0, 1) := by decide +kernel
theorem dX12_isName_9 : decode cX12_isName 9 = .ok (.invokevirtual 218, 3) := by decide +kernel
theorem dX12_isName_12 : decode cX12_isName 12 = .ok (.ifCond .ne 7, 3) := by decide +kernel
theorem dX12_isName_15 : decode cX12_isName 15 = .ok (.iconst 1, 1) := by decide +kernel
theorem dX12_isName_16 : decode cX12_isName 16 = .ok (.goto 4, 3) := by decide +kernel
theorem dX12_isName_19 : decode cX12_isName 19 = .ok (.iconst 0, 1) := by decide +kernel
theorem dX12_isName_20 : decode cX12_isName 20 = .ok (.ireturn, 1) := by decide +kernel
theorem dX12_onceLine_0 : decode cX12_onceLine 0 = .ok (.aload_n 0, 1) := by decide +kernel
theorem dX12_onceLine_1 : decode cX12_onceLine 1 = .ok (.aload_n 0, 1) := by decide +kernel
theorem dX12_onceLine_2 : decode cX12_onceLine 2 = .ok (.getfield 85, 3) := by decide +kernel
theorem dX12_onceLine_5 : decode cX12_onceLine 5 = .ok (.iload_n 1, 1) := by decide +kernel
theorem dX12_onceLine_6 : decode cX12_onceLine 6 = .ok (.baload, 1) := by decide +kernel
theorem dX12_onceLine_7 : decode cX12_onceLine 7 = .ok (.ifCond .ne 7, 3) := by decide +kernel
theorem dX12_onceLine_10 : decode cX12_onceLine 10 = .ok (.iconst 1, 1) := by decide +kernel
theorem dX12_onceLine_11 : decode cX12_onceLine 11 = .ok (.goto 4, 3) := by decide +kernel
theorem dX12_onceLine_14 : decode cX12_onceLine 14 = .ok (.iconst 0, 1) := by decide +kernel
theorem dX12_onceLine_15 : decode cX12_onceLine 15 = .ok (.iconst 2, 1) := by decide +kernel
theorem dX12_onceLine_16 : decode cX12_onceLine 16 = .ok (.invokevirtual 222, 3) := by decide +kernel
theorem dX12_onceLine_19 : decode cX12_onceLine 19 = .ok (.ifCond .ne 5, 3) := by decide +kernel
theorem dX12_onceLine_22 : decode cX12_onceLine 22 = .ok (.iconst 0, 1) := by decide +kernel
theorem dX12_onceLine_23 : decode cX12_onceLine 23 = .ok (.ireturn, 1) := by decide +kernel
theorem dX12_onceLine_24 : decode cX12_onceLine 24 = .ok (.aload_n 0, 1) := by decide +kernel
theorem dX12_onceLine_25 : decode cX12_onceLine 25 = .ok (.getfield 85, 3) := by decide +kernel
theorem dX12_onceLine_28 : decode cX12_onceLine 28 = .ok (.iload_n 1, 1) := by decide +kernel
theorem dX12_onceLine_29 : decode cX12_onceLine 29 = .ok (.iconst 1, 1) := by decide +kernel
theorem dX12_onceLine_30 : decode cX12_onceLine 30 = .ok (.bastore, 1) := by decide +kernel
theorem dX12_onceLine_31 : decode cX12_onceLine 31 = .ok (.aload_n 0, 1) := by decide +kernel
theorem dX12_onceLine_32 : decode cX12_onceLine 32 = .ok (.invokevirtual 226, 3) := by decide +kernel
theorem dX12_onceLine_35 : decode cX12_onceLine 35 = .ok (.aload_n 0, 1) := by decide +kernel
theorem dX12_onceLine_36 : decode cX12_onceLine 36 = .ok (.iconst 0, 1) := by decide +kernel
theorem dX12_onceLine_37 : decode cX12_onceLine 37 = .ok (.iload_n 1, 1) := by decide +kernel
theorem dX12_onceLine_38 : decode cX12_onceLine 38 = .ok (.ifCond .ne 9, 3) := by decide +kernel
theorem dX12_onceLine_41 : decode cX12_onceLine 41 = .ok (.sipush 999, 3) := by decide +kernel
theorem dX12_onceLine_44 : decode cX12_onceLine 44 = .ok (.goto 6, 3) := by decide +kernel
theorem dX12_onceLine_47 : decode cX12_onceLine 47 = .ok (.ldc_w 276, 3) := by decide +kernel
theorem dX12_onceLine_50 : decode cX12_onceLine 50 = .ok (.invokevirtual 266, 3) := by decide +kernel
theorem dX12_onceLine_53 : decode cX12_onceLine 53 = .ok (.ifCond .ne 5, 3) := by decide +kernel
theorem dX12_onceLine_56 : decode cX12_onceLine 56 = .ok (.iconst 0, 1) := by decide +kernel
theorem dX12_onceLine_57 : decode cX12_onceLine 57 = .ok (.ireturn, 1) := by decide +kernel
theorem dX12_onceLine_58 : decode cX12_onceLine 58 = .ok (.aload_n 0, 1) := by decide +kernel
theorem dX12_onceLine_59 : decode cX12_onceLine 59 = .ok (.getfield 82, 3) := by decide +kernel
theorem dX12_onceLine_62 : decode cX12_onceLine 62 = .ok (.iload_n 1, 1) := by decide +kernel
theorem dX12_onceLine_63 : decode cX12_onceLine 63 = .ok (.aload_n 0, 1) := by decide +kernel
theorem dX12_onceLine_64 : decode cX12_onceLine 64 = .ok (.getfield 229, 3) := by decide +kernel
theorem dX12_onceLine_67 : decode cX12_onceLine 67 = .ok (.iastore, 1) := by decide +kernel
theorem dX12_onceLine_68 : decode cX12_onceLine 68 = .ok (.iconst 1, 1) := by decide +kernel
theorem dX12_onceLine_69 : decode cX12_onceLine 69 = .ok (.ireturn, 1) := by decide +kernel
theorem dX12_newName_0 : decode cX12_newName 0 = .ok (.aload_n 0, 1) := by decide +kernel
theorem dX12_newName_1 : decode cX12_newName 1 = .ok (.aload_n 0, 1) := by decide +kernel
theorem dX12_newName_2 : decode cX12_newName 2 = .ok (.invokevirtual 235, 3) := by decide +kernel
theorem dX12_newName_5 : decode cX12_newName 5 = .ok (.iconst 1, 1) := by decide +kernel
theorem dX12_newName_6 : decode cX12_newName 6 = .ok (.invokevirtual 222, 3) := by decide +kernel
theorem dX12_newName_9 : decode cX12_newName 9 = .ok (.ifCond .eq 49, 3) := by decide +kernel
theorem dX12_newName_12 : decode cX12_newName 12 = .ok (.aload_n 0, 1) := by decide +kernel
theorem dX12_newName_13 : decode cX12_newName 13 = .ok (.aload_n 0, 1) := by decide +kernel
theorem dX12_newName_14 : decode cX12_newName 14 = .ok (.aload_n 0, 1) := by decide +kernel
theorem dX12_newName_15 : decode cX12_newName 15 = .ok (.getfield 153, 3) := by decide +kernel
theorem dX12_newName_18 : decode cX12_newName 18 = .ok (.invokevirtual 238, 3) := by decide +kernel
theorem dX12_newName_21 : decode cX12_newName 21 = .ok (.ifCond .ge 29, 3) := by decide +kernel
theorem dX12_newName_24 : decode cX12_newName 24 = .ok (.aload_n 0, 1) := by decide +kernel
theorem dX12_newName_25 : decode cX12_newName 25 = .ok (.aload_n 0, 1) := by decide +kernel
theorem dX12_newName_26 : decode cX12_newName 26 = .ok (.getfield 153, 3) := by decide +kernel
theorem dX12_newName_29 : decode cX12_newName 29 = .ok (.invokevirtual 242, 3) := by decide +kernel
theorem dX12_newName_32 : decode cX12_newName 32 = .ok (.ifCond .ge 18, 3) := by decide +kernel
theorem dX12_newName_35 : decode cX12_newName 35 = .ok (.aload_n 0, 1) := by decide +kernel
theorem dX12_newName_36 : decode cX12_newName 36 = .ok (.aload_n 0, 1) := by decide +kernel
theorem dX12_newName_37 : decode cX12_newName 37 = .ok (.getfield 153, 3) := by decide +kernel
theorem dX12_newName_40 : decode cX12_newName 40 = .ok (.invokevirtual 245, 3) := by decide +kernel
theorem dX12_newName_43 : decode cX12_newName 43 = .ok (.ifCond .ge 7, 3) := by decide +kernel
theorem dX12_newName_46 : decode cX12_newName 46 = .ok (.iconst 1, 1) := by decide +kernel
theorem dX12_newName_47 : decode cX12_newName 47 = .ok (.goto 4, 3) := by decide +kernel
theorem dX12_newName_50 : decode cX12_newName 50 = .ok (.iconst 0, 1) := by decide +kernel
theorem dX12_newName_51 : decode cX12_newName 51 = .ok (.iconst 2, 1) := by decide +kernel
theorem dX12_newName_52 : decode cX12_newName 52 = .ok (.invokevirtual 222, 3) := by decide +kernel
theorem dX12_newName_55 : decode cX12_newName 55 = .ok (.ifCond .ne 5, 3) := by decide +kernel
theorem dX12_newName_58 : decode cX12_newName 58 = .ok (.iconst 0, 1) := by decide +kernel
theorem dX12_newName_59 : decode cX12_newName 59 = .ok (.ireturn, 1) := by decide +kernel
theorem dX12_newName_60 : decode cX12_newName 60 = .ok (.aload_n 0, 1) := by decide +kernel
theorem dX12_newName_61 : decode cX12_newName 61 = .ok (.aload_n 0, 1) := by decide +kernel
theorem dX12_newName_62 : decode cX12_newName 62 = .ok (.getfield 153, 3) := by decide +kernel
theorem dX12_newName_65 : decode cX12_newName 65 = .ok (.putfield 248, 3) := by decide +kernel
theorem dX12_newName_68 : decode cX12_newName 68 = .ok (.aload_n 0, 1) := by decide +kernel
theorem dX12_newName_69 : decode cX12_newName 69 = .ok (.invokevirtual 226, 3) := by decide +kernel
theorem dX12_newName_72 : decode cX12_newName 72 = .ok (.iconst 1, 1) := by decide +kernel
theorem dX12_newName_73 : decode cX12_newName 73 = .ok (.ireturn, 1) := by decide +kernel
theorem dX12_partsHere_0 : decode cX12_partsHere 0 = .ok (.aload_n 0, 1) := by decide +kernel
theorem dX12_partsHere_1 : decode cX12_partsHere 1 = .ok (.getfield 52, 3) := by decide +kernel
theorem dX12_partsHere_4 : decode cX12_partsHere 4 = .ok (.iload_n 1, 1) := by decide +kernel
theorem dX12_partsHere_5 : decode cX12_partsHere 5 = .ok (.iconst 0, 1) := by decide +kernel
theorem dX12_partsHere_6 : decode cX12_partsHere 6 = .ok (.iastore, 1) := by decide +kernel
theorem dX12_partsHere_7 : decode cX12_partsHere 7 = .ok (.aload_n 0, 1) := by decide +kernel
theorem dX12_partsHere_8 : decode cX12_partsHere 8 = .ok (.getfield 147, 3) := by decide +kernel
theorem dX12_partsHere_11 : decode cX12_partsHere 11 = .ok (.iconst 1, 1) := by decide +kernel
theorem dX12_partsHere_12 : decode cX12_partsHere 12 = .ok (.if_icmp .ne 147, 3) := by decide +kernel
theorem dX12_partsHere_15 : decode cX12_partsHere 15 = .ok (.aload_n 0, 1) := by decide +kernel
theorem dX12_partsHere_16 : decode cX12_partsHere 16 = .ok (.aload_n 0, 1) := by decide +kernel
theorem dX12_partsHere_17 : decode cX12_partsHere 17 = .ok (.invokevirtual 235, 3) := by decide +kernel
theorem dX12_partsHere_20 : decode cX12_partsHere 20 = .ok (.iconst 1, 1) := by decide +kernel
theorem dX12_partsHere_21 : decode cX12_partsHere 21 = .ok (.invokevirtual 222, 3) := by decide +kernel
theorem dX12_partsHere_24 : decode cX12_partsHere 24 = .ok (.ifCond .ne 5, 3) := by decide +kernel
theorem dX12_partsHere_27 : decode cX12_partsHere 27 = .ok (.iconst 0, 1) := by decide +kernel
theorem dX12_partsHere_28 : decode cX12_partsHere 28 = .ok (.ireturn, 1) := by decide +kernel
theorem dX12_partsHere_29 : decode cX12_partsHere 29 = .ok (.aload_n 0, 1) := by decide +kernel
theorem dX12_partsHere_30 : decode cX12_partsHere 30 = .ok (.invokevirtual 260, 3) := by decide +kernel
theorem dX12_partsHere_33 : decode cX12_partsHere 33 = .ok (.istore_n 2, 1) := by decide +kernel
theorem dX12_partsHere_34 : decode cX12_partsHere 34 = .ok (.aload_n 0, 1) := by decide +kernel
theorem dX12_partsHere_35 : decode cX12_partsHere 35 = .ok (.iload_n 2, 1) := by decide +kernel
theorem dX12_partsHere_36 : decode cX12_partsHere 36 = .ok (.ifCond .lt 12, 3) := by decide +kernel
theorem dX12_partsHere_39 : decode cX12_partsHere 39 = .ok (.aload_n 0, 1) := by decide +kernel
theorem dX12_partsHere_40 : decode cX12_partsHere 40 = .ok (.iload_n 1, 1) := by decide +kernel
theorem dX12_partsHere_41 : decode cX12_partsHere 41 = .ok (.iload_n 2, 1) := by decide +kernel
theorem dX12_partsHere_42 : decode cX12_partsHere 42 = .ok (.invokevirtual 263, 3) := by decide +kernel
theorem dX12_partsHere_45 : decode cX12_partsHere 45 = .ok (.ifCond .ne 7, 3) := by decide +kernel
theorem dX12_partsHere_48 : decode cX12_partsHere 48 = .ok (.iconst 1, 1) := by decide +kernel
theorem dX12_partsHere_49 : decode cX12_partsHere 49 = .ok (.goto 4, 3) := by decide +kernel
theorem dX12_partsHere_52 : decode cX12_partsHere 52 = .ok (.iconst 0, 1) := by decide +kernel
theorem dX12_partsHere_53 : decode cX12_partsHere 53 = .ok (.iconst 2, 1) := by decide +kernel
theorem dX12_partsHere_54 : decode cX12_partsHere 54 = .ok (.invokevirtual 222, 3) := by decide +kernel
theorem dX12_partsHere_57 : decode cX12_partsHere 57 = .ok (.ifCond .eq 43, 3) := by decide +kernel
theorem dX12_partsHere_60 : decode cX12_partsHere 60 = .ok (.aload_n 0, 1) := by decide +kernel
theorem dX12_partsHere_61 : decode cX12_partsHere 61 = .ok (.iload_n 2, 1) := by decide +kernel
theorem dX12_partsHere_62 : decode cX12_partsHere 62 = .ok (.ifCond .lt 7, 3) := by decide +kernel
theorem dX12_partsHere_65 : decode cX12_partsHere 65 = .ok (.iconst 1, 1) := by decide +kernel
theorem dX12_partsHere_66 : decode cX12_partsHere 66 = .ok (.goto 4, 3) := by decide +kernel
theorem dX12_partsHere_69 : decode cX12_partsHere 69 = .ok (.iconst 0, 1) := by decide +kernel
theorem dX12_partsHere_70 : decode cX12_partsHere 70 = .ok (.iconst 3, 1) := by decide +kernel
theorem dX12_partsHere_71 : decode cX12_partsHere 71 = .ok (.invokevirtual 222, 3) := by decide +kernel
theorem dX12_partsHere_74 : decode cX12_partsHere 74 = .ok (.ifCond .eq 26, 3) := by decide +kernel
theorem dX12_partsHere_77 : decode cX12_partsHere 77 = .ok (.aload_n 0, 1) := by decide +kernel
theorem dX12_partsHere_78 : decode cX12_partsHere 78 = .ok (.aload_n 0, 1) := by decide +kernel
theorem dX12_partsHere_79 : decode cX12_partsHere 79 = .ok (.getfield 52, 3) := by decide +kernel
theorem dX12_partsHere_82 : decode cX12_partsHere 82 = .ok (.iload_n 1, 1) := by decide +kernel
theorem dX12_partsHere_83 : decode cX12_partsHere 83 = .ok (.iaload, 1) := by decide +kernel
theorem dX12_partsHere_84 : decode cX12_partsHere 84 = .ok (.iconst 5, 1) := by decide +kernel
theorem dX12_partsHere_85 : decode cX12_partsHere 85 = .ok (.if_icmp .ge 7, 3) := by decide +kernel
theorem dX12_partsHere_88 : decode cX12_partsHere 88 = .ok (.iconst 1, 1) := by decide +kernel
theorem dX12_partsHere_89 : decode cX12_partsHere 89 = .ok (.goto 4, 3) := by decide +kernel
theorem dX12_partsHere_92 : decode cX12_partsHere 92 = .ok (.iconst 0, 1) := by decide +kernel
theorem dX12_partsHere_93 : decode cX12_partsHere 93 = .ok (.iconst 5, 1) := by decide +kernel
theorem dX12_partsHere_94 : decode cX12_partsHere 94 = .ok (.invokevirtual 222, 3) := by decide +kernel
theorem dX12_partsHere_97 : decode cX12_partsHere 97 = .ok (.ifCond .ne 5, 3) := by decide +kernel
theorem dX12_partsHere_100 : decode cX12_partsHere 100 = .ok (.iconst 0, 1) := by decide +kernel
theorem dX12_partsHere_101 : decode cX12_partsHere 101 = .ok (.ireturn, 1) := by decide +kernel
theorem dX12_partsHere_102 : decode cX12_partsHere 102 = .ok (.aload_n 0, 1) := by decide +kernel
theorem dX12_partsHere_103 : decode cX12_partsHere 103 = .ok (.invokevirtual 226, 3) := by decide +kernel
theorem dX12_partsHere_106 : decode cX12_partsHere 106 = .ok (.aload_n 0, 1) := by decide +kernel
theorem dX12_partsHere_107 : decode cX12_partsHere 107 = .ok (.iconst 0, 1) := by decide +kernel
theorem dX12_partsHere_108 : decode cX12_partsHere 108 = .ok (.bipush 99, 2) := by decide +kernel
theorem dX12_partsHere_110 : decode cX12_partsHere 110 = .ok (.invokevirtual 266, 3) := by decide +kernel
theorem dX12_partsHere_113 : decode cX12_partsHere 113 = .ok (.ifCond .ne 5, 3) := by decide +kernel
theorem dX12_partsHere_116 : decode cX12_partsHere 116 = .ok (.iconst 0, 1) := by decide +kernel
theorem dX12_partsHere_117 : decode cX12_partsHere 117 = .ok (.ireturn, 1) := by decide +kernel
theorem dX12_partsHere_118 : decode cX12_partsHere 118 = .ok (.iconst 5, 1) := by decide +kernel
theorem dX12_partsHere_119 : decode cX12_partsHere 119 = .ok (.iload_n 1, 1) := by decide +kernel
theorem dX12_partsHere_120 : decode cX12_partsHere 120 = .ok (.imul, 1) := by decide +kernel
theorem dX12_partsHere_121 : decode cX12_partsHere 121 = .ok (.aload_n 0, 1) := by decide +kernel
theorem dX12_partsHere_122 : decode cX12_partsHere 122 = .ok (.getfield 52, 3) := by decide +kernel
theorem dX12_partsHere_125 : decode cX12_partsHere 125 = .ok (.iload_n 1, 1) := by decide +kernel
theorem dX12_partsHere_126 : decode cX12_partsHere 126 = .ok (.iaload, 1) := by decide +kernel
theorem dX12_partsHere_127 : decode cX12_partsHere 127 = .ok (.iadd, 1) := by decide +kernel
theorem dX12_partsHere_128 : decode cX12_partsHere 128 = .ok (.istore_n 3, 1) := by decide +kernel
theorem dX12_partsHere_129 : decode cX12_partsHere 129 = .ok (.aload_n 0, 1) := by decide +kernel
theorem dX12_partsHere_130 : decode cX12_partsHere 130 = .ok (.getfield 55, 3) := by decide +kernel
theorem dX12_partsHere_133 : decode cX12_partsHere 133 = .ok (.iload_n 3, 1) := by decide +kernel
theorem dX12_partsHere_134 : decode cX12_partsHere 134 = .ok (.iload_n 2, 1) := by decide +kernel
theorem dX12_partsHere_135 : decode cX12_partsHere 135 = .ok (.iastore, 1) := by decide +kernel
theorem dX12_partsHere_136 : decode cX12_partsHere 136 = .ok (.aload_n 0, 1) := by decide +kernel
theorem dX12_partsHere_137 : decode cX12_partsHere 137 = .ok (.getfield 58, 3) := by decide +kernel
theorem dX12_partsHere_140 : decode cX12_partsHere 140 = .ok (.iload_n 3, 1) := by decide +kernel
theorem dX12_partsHere_141 : decode cX12_partsHere 141 = .ok (.aload_n 0, 1) := by decide +kernel
theorem dX12_partsHere_142 : decode cX12_partsHere 142 = .ok (.getfield 229, 3) := by decide +kernel
theorem dX12_partsHere_145 : decode cX12_partsHere 145 = .ok (.iastore, 1) := by decide +kernel
theorem dX12_partsHere_146 : decode cX12_partsHere 146 = .ok (.aload_n 0, 1) := by decide +kernel
theorem dX12_partsHere_147 : decode cX12_partsHere 147 = .ok (.getfield 52, 3) := by decide +kernel
theorem dX12_partsHere_150 : decode cX12_partsHere 150 = .ok (.iload_n 1, 1) := by decide +kernel
theorem dX12_partsHere_151 : decode cX12_partsHere 151 = .ok (.dup2, 1) := by decide +kernel
theorem dX12_partsHere_152 : decode cX12_partsHere 152 = .ok (.iaload, 1) := by decide +kernel
theorem dX12_partsHere_153 : decode cX12_partsHere 153 = .ok (.iconst 1, 1) := by decide +kernel
theorem dX12_partsHere_154 : decode cX12_partsHere 154 = .ok (.iadd, 1) := by decide +kernel
theorem dX12_partsHere_155 : decode cX12_partsHere 155 = .ok (.iastore, 1) := by decide +kernel
theorem dX12_partsHere_156 : decode cX12_partsHere 156 = .ok (.goto (-149), 3) := by decide +kernel
theorem dX12_partsHere_159 : decode cX12_partsHere 159 = .ok (.iconst 1, 1) := by decide +kernel
theorem dX12_partsHere_160 : decode cX12_partsHere 160 = .ok (.ireturn, 1) := by decide +kernel
theorem dX12_highLine_0 : decode cX12_highLine 0 = .ok (.aload_n 0, 1) := by decide +kernel
theorem dX12_highLine_1 : decode cX12_highLine 1 = .ok (.aload_n 0, 1) := by decide +kernel
theorem dX12_highLine_2 : decode cX12_highLine 2 = .ok (.getfield 153, 3) := by decide +kernel
theorem dX12_highLine_5 : decode cX12_highLine 5 = .ok (.invokevirtual 245, 3) := by decide +kernel
theorem dX12_highLine_8 : decode cX12_highLine 8 = .ok (.istore_n 1, 1) := by decide +kernel
theorem dX12_highLine_9 : decode cX12_highLine 9 = .ok (.aload_n 0, 1) := by decide +kernel
theorem dX12_highLine_10 : decode cX12_highLine 10 = .ok (.aload_n 0, 1) := by decide +kernel
theorem dX12_highLine_11 : decode cX12_highLine 11 = .ok (.invokevirtual 235, 3) := by decide +kernel
theorem dX12_highLine_14 : decode cX12_highLine 14 = .ok (.iconst 1, 1) := by decide +kernel
theorem dX12_highLine_15 : decode cX12_highLine 15 = .ok (.invokevirtual 222, 3) := by decide +kernel
theorem dX12_highLine_18 : decode cX12_highLine 18 = .ok (.ifCond .eq 20, 3) := by decide +kernel
theorem dX12_highLine_21 : decode cX12_highLine 21 = .ok (.aload_n 0, 1) := by decide +kernel
theorem dX12_highLine_22 : decode cX12_highLine 22 = .ok (.iload_n 1, 1) := by decide +kernel
theorem dX12_highLine_23 : decode cX12_highLine 23 = .ok (.ifCond .lt 7, 3) := by decide +kernel
theorem dX12_highLine_26 : decode cX12_highLine 26 = .ok (.iconst 1, 1) := by decide +kernel
theorem dX12_highLine_27 : decode cX12_highLine 27 = .ok (.goto 4, 3) := by decide +kernel
theorem dX12_highLine_30 : decode cX12_highLine 30 = .ok (.iconst 0, 1) := by decide +kernel
theorem dX12_highLine_31 : decode cX12_highLine 31 = .ok (.iconst 3, 1) := by decide +kernel
theorem dX12_highLine_32 : decode cX12_highLine 32 = .ok (.invokevirtual 222, 3) := by decide +kernel
theorem dX12_highLine_35 : decode cX12_highLine 35 = .ok (.ifCond .ne 5, 3) := by decide +kernel
theorem dX12_highLine_38 : decode cX12_highLine 38 = .ok (.iconst 0, 1) := by decide +kernel
theorem dX12_highLine_39 : decode cX12_highLine 39 = .ok (.ireturn, 1) := by decide +kernel
theorem dX12_highLine_40 : decode cX12_highLine 40 = .ok (.bipush 6, 2) := by decide +kernel
theorem dX12_highLine_42 : decode cX12_highLine 42 = .ok (.aload_n 0, 1) := by decide +kernel
theorem dX12_highLine_43 : decode cX12_highLine 43 = .ok (.getfield 232, 3) := by decide +kernel
theorem dX12_highLine_46 : decode cX12_highLine 46 = .ok (.imul, 1) := by decide +kernel
theorem dX12_highLine_47 : decode cX12_highLine 47 = .ok (.aload_n 0, 1) := by decide +kernel
theorem dX12_highLine_48 : decode cX12_highLine 48 = .ok (.getfield 23, 3) := by decide +kernel
theorem dX12_highLine_51 : decode cX12_highLine 51 = .ok (.aload_n 0, 1) := by decide +kernel
theorem dX12_highLine_52 : decode cX12_highLine 52 = .ok (.getfield 232, 3) := by decide +kernel
theorem dX12_highLine_55 : decode cX12_highLine 55 = .ok (.iaload, 1) := by decide +kernel
theorem dX12_highLine_56 : decode cX12_highLine 56 = .ok (.iadd, 1) := by decide +kernel
theorem dX12_highLine_57 : decode cX12_highLine 57 = .ok (.istore_n 2, 1) := by decide +kernel
theorem dX12_highLine_58 : decode cX12_highLine 58 = .ok (.aload_n 0, 1) := by decide +kernel
theorem dX12_highLine_59 : decode cX12_highLine 59 = .ok (.getfield 61, 3) := by decide +kernel
theorem dX12_highLine_62 : decode cX12_highLine 62 = .ok (.iload_n 2, 1) := by decide +kernel
theorem dX12_highLine_63 : decode cX12_highLine 63 = .ok (.iload_n 1, 1) := by decide +kernel
theorem dX12_highLine_64 : decode cX12_highLine 64 = .ok (.iastore, 1) := by decide +kernel
theorem dX12_highLine_65 : decode cX12_highLine 65 = .ok (.aload_n 0, 1) := by decide +kernel
theorem dX12_highLine_66 : decode cX12_highLine 66 = .ok (.invokevirtual 226, 3) := by decide +kernel
theorem dX12_highLine_69 : decode cX12_highLine 69 = .ok (.aload_n 0, 1) := by decide +kernel
theorem dX12_highLine_70 : decode cX12_highLine 70 = .ok (.iconst 0, 1) := by decide +kernel
theorem dX12_highLine_71 : decode cX12_highLine 71 = .ok (.ldc_w 276, 3) := by decide +kernel
theorem dX12_highLine_74 : decode cX12_highLine 74 = .ok (.invokevirtual 266, 3) := by decide +kernel
theorem dX12_highLine_77 : decode cX12_highLine 77 = .ok (.ifCond .ne 5, 3) := by decide +kernel
theorem dX12_highLine_80 : decode cX12_highLine 80 = .ok (.iconst 0, 1) := by decide +kernel
theorem dX12_highLine_81 : decode cX12_highLine 81 = .ok (.ireturn, 1) := by decide +kernel
theorem dX12_highLine_82 : decode cX12_highLine 82 = .ok (.aload_n 0, 1) := by decide +kernel
theorem dX12_highLine_83 : decode cX12_highLine 83 = .ok (.getfield 64, 3) := by decide +kernel
theorem dX12_highLine_86 : decode cX12_highLine 86 = .ok (.iload_n 2, 1) := by decide +kernel
theorem dX12_highLine_87 : decode cX12_highLine 87 = .ok (.aload_n 0, 1) := by decide +kernel
theorem dX12_highLine_88 : decode cX12_highLine 88 = .ok (.getfield 229, 3) := by decide +kernel
theorem dX12_highLine_91 : decode cX12_highLine 91 = .ok (.iastore, 1) := by decide +kernel
theorem dX12_highLine_92 : decode cX12_highLine 92 = .ok (.aload_n 0, 1) := by decide +kernel
theorem dX12_highLine_93 : decode cX12_highLine 93 = .ok (.ldc 206, 2) := by decide +kernel
theorem dX12_highLine_95 : decode cX12_highLine 95 = .ok (.invokevirtual 273, 3) := by decide +kernel
theorem dX12_highLine_98 : decode cX12_highLine 98 = .ok (.ifCond .eq 14, 3) := by decide +kernel
theorem dX12_highLine_101 : decode cX12_highLine 101 = .ok (.aload_n 0, 1) := by decide +kernel
theorem dX12_highLine_102 : decode cX12_highLine 102 = .ok (.iconst 0, 1) := by decide +kernel
theorem dX12_highLine_103 : decode cX12_highLine 103 = .ok (.sipush 999, 3) := by decide +kernel
theorem dX12_highLine_106 : decode cX12_highLine 106 = .ok (.invokevirtual 266, 3) := by decide +kernel
theorem dX12_highLine_109 : decode cX12_highLine 109 = .ok (.ifCond .ne 5, 3) := by decide +kernel
theorem dX12_highLine_112 : decode cX12_highLine 112 = .ok (.iconst 0, 1) := by decide +kernel
theorem dX12_highLine_113 : decode cX12_highLine 113 = .ok (.ireturn, 1) := by decide +kernel
theorem dX12_highLine_114 : decode cX12_highLine 114 = .ok (.aload_n 0, 1) := by decide +kernel
theorem dX12_highLine_115 : decode cX12_highLine 115 = .ok (.getfield 67, 3) := by decide +kernel
theorem dX12_highLine_118 : decode cX12_highLine 118 = .ok (.iload_n 2, 1) := by decide +kernel
theorem dX12_highLine_119 : decode cX12_highLine 119 = .ok (.aload_n 0, 1) := by decide +kernel
theorem dX12_highLine_120 : decode cX12_highLine 120 = .ok (.getfield 229, 3) := by decide +kernel
theorem dX12_highLine_123 : decode cX12_highLine 123 = .ok (.iastore, 1) := by decide +kernel
theorem dX12_highLine_124 : decode cX12_highLine 124 = .ok (.aload_n 0, 1) := by decide +kernel
theorem dX12_highLine_125 : decode cX12_highLine 125 = .ok (.ldc 207, 2) := by decide +kernel
theorem dX12_highLine_127 : decode cX12_highLine 127 = .ok (.invokevirtual 273, 3) := by decide +kernel
theorem dX12_highLine_130 : decode cX12_highLine 130 = .ok (.ifCond .eq 19, 3) := by decide +kernel
theorem dX12_highLine_133 : decode cX12_highLine 133 = .ok (.aload_n 0, 1) := by decide +kernel
theorem dX12_highLine_134 : decode cX12_highLine 134 = .ok (.aload_n 0, 1) := by decide +kernel
theorem dX12_highLine_135 : decode cX12_highLine 135 = .ok (.getfield 67, 3) := by decide +kernel
theorem dX12_highLine_138 : decode cX12_highLine 138 = .ok (.iload_n 2, 1) := by decide +kernel
theorem dX12_highLine_139 : decode cX12_highLine 139 = .ok (.iaload, 1) := by decide +kernel
theorem dX12_highLine_140 : decode cX12_highLine 140 = .ok (.sipush 999, 3) := by decide +kernel
theorem dX12_highLine_143 : decode cX12_highLine 143 = .ok (.invokevirtual 266, 3) := by decide +kernel
theorem dX12_highLine_146 : decode cX12_highLine 146 = .ok (.ifCond .ne 5, 3) := by decide +kernel
theorem dX12_highLine_149 : decode cX12_highLine 149 = .ok (.iconst 0, 1) := by decide +kernel
theorem dX12_highLine_150 : decode cX12_highLine 150 = .ok (.ireturn, 1) := by decide +kernel
theorem dX12_highLine_151 : decode cX12_highLine 151 = .ok (.aload_n 0, 1) := by decide +kernel
theorem dX12_highLine_152 : decode cX12_highLine 152 = .ok (.getfield 70, 3) := by decide +kernel
theorem dX12_highLine_155 : decode cX12_highLine 155 = .ok (.iload_n 2, 1) := by decide +kernel
theorem dX12_highLine_156 : decode cX12_highLine 156 = .ok (.aload_n 0, 1) := by decide +kernel
theorem dX12_highLine_157 : decode cX12_highLine 157 = .ok (.getfield 229, 3) := by decide +kernel
theorem dX12_highLine_160 : decode cX12_highLine 160 = .ok (.iastore, 1) := by decide +kernel
theorem dX12_highLine_161 : decode cX12_highLine 161 = .ok (.aload_n 0, 1) := by decide +kernel
theorem dX12_highLine_162 : decode cX12_highLine 162 = .ok (.getfield 23, 3) := by decide +kernel
theorem dX12_highLine_165 : decode cX12_highLine 165 = .ok (.aload_n 0, 1) := by decide +kernel
theorem dX12_highLine_166 : decode cX12_highLine 166 = .ok (.getfield 232, 3) := by decide +kernel
theorem dX12_highLine_169 : decode cX12_highLine 169 = .ok (.dup2, 1) := by decide +kernel
theorem dX12_highLine_170 : decode cX12_highLine 170 = .ok (.iaload, 1) := by decide +kernel
theorem dX12_highLine_171 : decode cX12_highLine 171 = .ok (.iconst 1, 1) := by decide +kernel
theorem dX12_highLine_172 : decode cX12_highLine 172 = .ok (.iadd, 1) := by decide +kernel
theorem dX12_highLine_173 : decode cX12_highLine 173 = .ok (.iastore, 1) := by decide +kernel
theorem dX12_highLine_174 : decode cX12_highLine 174 = .ok (.iconst 1, 1) := by decide +kernel
theorem dX12_highLine_175 : decode cX12_highLine 175 = .ok (.ireturn, 1) := by decide +kernel
theorem dX12_loanLine_0 : decode cX12_loanLine 0 = .ok (.aload_n 0, 1) := by decide +kernel
theorem dX12_loanLine_1 : decode cX12_loanLine 1 = .ok (.aload_n 0, 1) := by decide +kernel
theorem dX12_loanLine_2 : decode cX12_loanLine 2 = .ok (.getfield 153, 3) := by decide +kernel
theorem dX12_loanLine_5 : decode cX12_loanLine 5 = .ok (.invokevirtual 238, 3) := by decide +kernel
theorem dX12_loanLine_8 : decode cX12_loanLine 8 = .ok (.istore_n 1, 1) := by decide +kernel
theorem dX12_loanLine_9 : decode cX12_loanLine 9 = .ok (.aload_n 0, 1) := by decide +kernel
theorem dX12_loanLine_10 : decode cX12_loanLine 10 = .ok (.aload_n 0, 1) := by decide +kernel
theorem dX12_loanLine_11 : decode cX12_loanLine 11 = .ok (.invokevirtual 235, 3) := by decide +kernel
theorem dX12_loanLine_14 : decode cX12_loanLine 14 = .ok (.iconst 1, 1) := by decide +kernel
theorem dX12_loanLine_15 : decode cX12_loanLine 15 = .ok (.invokevirtual 222, 3) := by decide +kernel
theorem dX12_loanLine_18 : decode cX12_loanLine 18 = .ok (.ifCond .eq 20, 3) := by decide +kernel
theorem dX12_loanLine_21 : decode cX12_loanLine 21 = .ok (.aload_n 0, 1) := by decide +kernel
theorem dX12_loanLine_22 : decode cX12_loanLine 22 = .ok (.iload_n 1, 1) := by decide +kernel
theorem dX12_loanLine_23 : decode cX12_loanLine 23 = .ok (.ifCond .lt 7, 3) := by decide +kernel
theorem dX12_loanLine_26 : decode cX12_loanLine 26 = .ok (.iconst 1, 1) := by decide +kernel
theorem dX12_loanLine_27 : decode cX12_loanLine 27 = .ok (.goto 4, 3) := by decide +kernel
theorem dX12_loanLine_30 : decode cX12_loanLine 30 = .ok (.iconst 0, 1) := by decide +kernel
theorem dX12_loanLine_31 : decode cX12_loanLine 31 = .ok (.iconst 3, 1) := by decide +kernel
theorem dX12_loanLine_32 : decode cX12_loanLine 32 = .ok (.invokevirtual 222, 3) := by decide +kernel
theorem dX12_loanLine_35 : decode cX12_loanLine 35 = .ok (.ifCond .ne 5, 3) := by decide +kernel
theorem dX12_loanLine_38 : decode cX12_loanLine 38 = .ok (.iconst 0, 1) := by decide +kernel
theorem dX12_loanLine_39 : decode cX12_loanLine 39 = .ok (.ireturn, 1) := by decide +kernel
theorem dX12_loanLine_40 : decode cX12_loanLine 40 = .ok (.bipush 8, 2) := by decide +kernel
theorem dX12_loanLine_42 : decode cX12_loanLine 42 = .ok (.aload_n 0, 1) := by decide +kernel
theorem dX12_loanLine_43 : decode cX12_loanLine 43 = .ok (.getfield 232, 3) := by decide +kernel
theorem dX12_loanLine_46 : decode cX12_loanLine 46 = .ok (.imul, 1) := by decide +kernel
theorem dX12_loanLine_47 : decode cX12_loanLine 47 = .ok (.aload_n 0, 1) := by decide +kernel
theorem dX12_loanLine_48 : decode cX12_loanLine 48 = .ok (.getfield 26, 3) := by decide +kernel
theorem dX12_loanLine_51 : decode cX12_loanLine 51 = .ok (.aload_n 0, 1) := by decide +kernel
theorem dX12_loanLine_52 : decode cX12_loanLine 52 = .ok (.getfield 232, 3) := by decide +kernel
theorem dX12_loanLine_55 : decode cX12_loanLine 55 = .ok (.iaload, 1) := by decide +kernel
theorem dX12_loanLine_56 : decode cX12_loanLine 56 = .ok (.iadd, 1) := by decide +kernel
theorem dX12_loanLine_57 : decode cX12_loanLine 57 = .ok (.istore_n 2, 1) := by decide +kernel
theorem dX12_loanLine_58 : decode cX12_loanLine 58 = .ok (.aload_n 0, 1) := by decide +kernel
theorem dX12_loanLine_59 : decode cX12_loanLine 59 = .ok (.getfield 73, 3) := by decide +kernel
theorem dX12_loanLine_62 : decode cX12_loanLine 62 = .ok (.iload_n 2, 1) := by decide +kernel
theorem dX12_loanLine_63 : decode cX12_loanLine 63 = .ok (.iload_n 1, 1) := by decide +kernel
theorem dX12_loanLine_64 : decode cX12_loanLine 64 = .ok (.iastore, 1) := by decide +kernel
theorem dX12_loanLine_65 : decode cX12_loanLine 65 = .ok (.aload_n 0, 1) := by decide +kernel
theorem dX12_loanLine_66 : decode cX12_loanLine 66 = .ok (.invokevirtual 226, 3) := by decide +kernel
theorem dX12_loanLine_69 : decode cX12_loanLine 69 = .ok (.aload_n 0, 1) := by decide +kernel
theorem dX12_loanLine_70 : decode cX12_loanLine 70 = .ok (.iconst 0, 1) := by decide +kernel
theorem dX12_loanLine_71 : decode cX12_loanLine 71 = .ok (.ldc_w 276, 3) := by decide +kernel
theorem dX12_loanLine_74 : decode cX12_loanLine 74 = .ok (.invokevirtual 266, 3) := by decide +kernel
theorem dX12_loanLine_77 : decode cX12_loanLine 77 = .ok (.ifCond .ne 5, 3) := by decide +kernel
theorem dX12_loanLine_80 : decode cX12_loanLine 80 = .ok (.iconst 0, 1) := by decide +kernel
theorem dX12_loanLine_81 : decode cX12_loanLine 81 = .ok (.ireturn, 1) := by decide +kernel
theorem dX12_loanLine_82 : decode cX12_loanLine 82 = .ok (.aload_n 0, 1) := by decide +kernel
theorem dX12_loanLine_83 : decode cX12_loanLine 83 = .ok (.getfield 76, 3) := by decide +kernel
theorem dX12_loanLine_86 : decode cX12_loanLine 86 = .ok (.iload_n 2, 1) := by decide +kernel
theorem dX12_loanLine_87 : decode cX12_loanLine 87 = .ok (.aload_n 0, 1) := by decide +kernel
theorem dX12_loanLine_88 : decode cX12_loanLine 88 = .ok (.getfield 229, 3) := by decide +kernel
theorem dX12_loanLine_91 : decode cX12_loanLine 91 = .ok (.iastore, 1) := by decide +kernel
theorem dX12_loanLine_92 : decode cX12_loanLine 92 = .ok (.aload_n 0, 1) := by decide +kernel
theorem dX12_loanLine_93 : decode cX12_loanLine 93 = .ok (.ldc 210, 2) := by decide +kernel
theorem dX12_loanLine_95 : decode cX12_loanLine 95 = .ok (.invokevirtual 273, 3) := by decide +kernel
theorem dX12_loanLine_98 : decode cX12_loanLine 98 = .ok (.ifCond .eq 14, 3) := by decide +kernel
theorem dX12_loanLine_101 : decode cX12_loanLine 101 = .ok (.aload_n 0, 1) := by decide +kernel
theorem dX12_loanLine_102 : decode cX12_loanLine 102 = .ok (.iconst 0, 1) := by decide +kernel
theorem dX12_loanLine_103 : decode cX12_loanLine 103 = .ok (.sipush 999, 3) := by decide +kernel
theorem dX12_loanLine_106 : decode cX12_loanLine 106 = .ok (.invokevirtual 266, 3) := by decide +kernel
theorem dX12_loanLine_109 : decode cX12_loanLine 109 = .ok (.ifCond .ne 5, 3) := by decide +kernel
theorem dX12_loanLine_112 : decode cX12_loanLine 112 = .ok (.iconst 0, 1) := by decide +kernel
theorem dX12_loanLine_113 : decode cX12_loanLine 113 = .ok (.ireturn, 1) := by decide +kernel
theorem dX12_loanLine_114 : decode cX12_loanLine 114 = .ok (.aload_n 0, 1) := by decide +kernel
theorem dX12_loanLine_115 : decode cX12_loanLine 115 = .ok (.getfield 79, 3) := by decide +kernel
theorem dX12_loanLine_118 : decode cX12_loanLine 118 = .ok (.iload_n 2, 1) := by decide +kernel
theorem dX12_loanLine_119 : decode cX12_loanLine 119 = .ok (.aload_n 0, 1) := by decide +kernel
theorem dX12_loanLine_120 : decode cX12_loanLine 120 = .ok (.getfield 229, 3) := by decide +kernel
theorem dX12_loanLine_123 : decode cX12_loanLine 123 = .ok (.iastore, 1) := by decide +kernel
theorem dX12_loanLine_124 : decode cX12_loanLine 124 = .ok (.aload_n 0, 1) := by decide +kernel
theorem dX12_loanLine_125 : decode cX12_loanLine 125 = .ok (.getfield 26, 3) := by decide +kernel
theorem dX12_loanLine_128 : decode cX12_loanLine 128 = .ok (.aload_n 0, 1) := by decide +kernel
theorem dX12_loanLine_129 : decode cX12_loanLine 129 = .ok (.getfield 232, 3) := by decide +kernel
theorem dX12_loanLine_132 : decode cX12_loanLine 132 = .ok (.dup2, 1) := by decide +kernel
theorem dX12_loanLine_133 : decode cX12_loanLine 133 = .ok (.iaload, 1) := by decide +kernel
theorem dX12_loanLine_134 : decode cX12_loanLine 134 = .ok (.iconst 1, 1) := by decide +kernel
theorem dX12_loanLine_135 : decode cX12_loanLine 135 = .ok (.iadd, 1) := by decide +kernel
theorem dX12_loanLine_136 : decode cX12_loanLine 136 = .ok (.iastore, 1) := by decide +kernel
theorem dX12_loanLine_137 : decode cX12_loanLine 137 = .ok (.iconst 1, 1) := by decide +kernel
theorem dX12_loanLine_138 : decode cX12_loanLine 138 = .ok (.ireturn, 1) := by decide +kernel
theorem dX12_personLine_0 : decode cX12_personLine 0 = .ok (.aload_n 0, 1) := by decide +kernel
theorem dX12_personLine_1 : decode cX12_personLine 1 = .ok (.invokevirtual 251, 3) := by decide +kernel
theorem dX12_personLine_4 : decode cX12_personLine 4 = .ok (.ifCond .ne 5, 3) := by decide +kernel
theorem dX12_personLine_7 : decode cX12_personLine 7 = .ok (.iconst 0, 1) := by decide +kernel
theorem dX12_personLine_8 : decode cX12_personLine 8 = .ok (.ireturn, 1) := by decide +kernel
theorem dX12_personLine_9 : decode cX12_personLine 9 = .ok (.bipush 12, 2) := by decide +kernel
theorem dX12_personLine_11 : decode cX12_personLine 11 = .ok (.aload_n 0, 1) := by decide +kernel
theorem dX12_personLine_12 : decode cX12_personLine 12 = .ok (.getfield 232, 3) := by decide +kernel
theorem dX12_personLine_15 : decode cX12_personLine 15 = .ok (.imul, 1) := by decide +kernel
theorem dX12_personLine_16 : decode cX12_personLine 16 = .ok (.aload_n 0, 1) := by decide +kernel
theorem dX12_personLine_17 : decode cX12_personLine 17 = .ok (.getfield 13, 3) := by decide +kernel
theorem dX12_personLine_20 : decode cX12_personLine 20 = .ok (.aload_n 0, 1) := by decide +kernel
theorem dX12_personLine_21 : decode cX12_personLine 21 = .ok (.getfield 232, 3) := by decide +kernel
theorem dX12_personLine_24 : decode cX12_personLine 24 = .ok (.iaload, 1) := by decide +kernel
theorem dX12_personLine_25 : decode cX12_personLine 25 = .ok (.iadd, 1) := by decide +kernel
theorem dX12_personLine_26 : decode cX12_personLine 26 = .ok (.istore_n 1, 1) := by decide +kernel
theorem dX12_personLine_27 : decode cX12_personLine 27 = .ok (.aload_n 0, 1) := by decide +kernel
theorem dX12_personLine_28 : decode cX12_personLine 28 = .ok (.getfield 29, 3) := by decide +kernel
theorem dX12_personLine_31 : decode cX12_personLine 31 = .ok (.iload_n 1, 1) := by decide +kernel
theorem dX12_personLine_32 : decode cX12_personLine 32 = .ok (.aload_n 0, 1) := by decide +kernel
theorem dX12_personLine_33 : decode cX12_personLine 33 = .ok (.getfield 248, 3) := by decide +kernel
theorem dX12_personLine_36 : decode cX12_personLine 36 = .ok (.lastore, 1) := by decide +kernel
theorem dX12_personLine_37 : decode cX12_personLine 37 = .ok (.aload_n 0, 1) := by decide +kernel
theorem dX12_personLine_38 : decode cX12_personLine 38 = .ok (.getfield 33, 3) := by decide +kernel
theorem dX12_personLine_41 : decode cX12_personLine 41 = .ok (.iload_n 1, 1) := by decide +kernel
theorem dX12_personLine_42 : decode cX12_personLine 42 = .ok (.iconst 0, 1) := by decide +kernel
theorem dX12_personLine_43 : decode cX12_personLine 43 = .ok (.iastore, 1) := by decide +kernel
theorem dX12_personLine_44 : decode cX12_personLine 44 = .ok (.aload_n 0, 1) := by decide +kernel
theorem dX12_personLine_45 : decode cX12_personLine 45 = .ok (.getfield 39, 3) := by decide +kernel
theorem dX12_personLine_48 : decode cX12_personLine 48 = .ok (.iload_n 1, 1) := by decide +kernel
theorem dX12_personLine_49 : decode cX12_personLine 49 = .ok (.iconst 0, 1) := by decide +kernel
theorem dX12_personLine_50 : decode cX12_personLine 50 = .ok (.bastore, 1) := by decide +kernel
theorem dX12_personLine_51 : decode cX12_personLine 51 = .ok (.aload_n 0, 1) := by decide +kernel
theorem dX12_personLine_52 : decode cX12_personLine 52 = .ok (.getfield 147, 3) := by decide +kernel
theorem dX12_personLine_55 : decode cX12_personLine 55 = .ok (.iconst 2, 1) := by decide +kernel
theorem dX12_personLine_56 : decode cX12_personLine 56 = .ok (.if_icmp .ne 109, 3) := by decide +kernel
theorem dX12_personLine_59 : decode cX12_personLine 59 = .ok (.aload_n 0, 1) := by decide +kernel
theorem dX12_personLine_60 : decode cX12_personLine 60 = .ok (.aload_n 0, 1) := by decide +kernel
theorem dX12_personLine_61 : decode cX12_personLine 61 = .ok (.iload_n 1, 1) := by decide +kernel
theorem dX12_personLine_62 : decode cX12_personLine 62 = .ok (.aload_n 0, 1) := by decide +kernel
theorem dX12_personLine_63 : decode cX12_personLine 63 = .ok (.getfield 150, 3) := by decide +kernel
theorem dX12_personLine_66 : decode cX12_personLine 66 = .ok (.invokevirtual 254, 3) := by decide +kernel
theorem dX12_personLine_69 : decode cX12_personLine 69 = .ok (.ifCond .ne 7, 3) := by decide +kernel
theorem dX12_personLine_72 : decode cX12_personLine 72 = .ok (.iconst 1, 1) := by decide +kernel
theorem dX12_personLine_73 : decode cX12_personLine 73 = .ok (.goto 4, 3) := by decide +kernel
theorem dX12_personLine_76 : decode cX12_personLine 76 = .ok (.iconst 0, 1) := by decide +kernel
theorem dX12_personLine_77 : decode cX12_personLine 77 = .ok (.iconst 2, 1) := by decide +kernel
theorem dX12_personLine_78 : decode cX12_personLine 78 = .ok (.invokevirtual 222, 3) := by decide +kernel
theorem dX12_personLine_81 : decode cX12_personLine 81 = .ok (.ifCond .eq 46, 3) := by decide +kernel
theorem dX12_personLine_84 : decode cX12_personLine 84 = .ok (.aload_n 0, 1) := by decide +kernel
theorem dX12_personLine_85 : decode cX12_personLine 85 = .ok (.aload_n 0, 1) := by decide +kernel
theorem dX12_personLine_86 : decode cX12_personLine 86 = .ok (.getfield 150, 3) := by decide +kernel
theorem dX12_personLine_89 : decode cX12_personLine 89 = .ok (.i2l, 1) := by decide +kernel
theorem dX12_personLine_90 : decode cX12_personLine 90 = .ok (.lconst 1, 1) := by decide +kernel
theorem dX12_personLine_91 : decode cX12_personLine 91 = .ok (.ldc2_w 258, 3) := by decide +kernel
theorem dX12_personLine_94 : decode cX12_personLine 94 = .ok (.invokestatic 161, 3) := by decide +kernel
theorem dX12_personLine_97 : decode cX12_personLine 97 = .ok (.iconst 4, 1) := by decide +kernel
theorem dX12_personLine_98 : decode cX12_personLine 98 = .ok (.invokevirtual 222, 3) := by decide +kernel
theorem dX12_personLine_101 : decode cX12_personLine 101 = .ok (.ifCond .eq 26, 3) := by decide +kernel
theorem dX12_personLine_104 : decode cX12_personLine 104 = .ok (.aload_n 0, 1) := by decide +kernel
theorem dX12_personLine_105 : decode cX12_personLine 105 = .ok (.aload_n 0, 1) := by decide +kernel
theorem dX12_personLine_106 : decode cX12_personLine 106 = .ok (.getfield 33, 3) := by decide +kernel
theorem dX12_personLine_109 : decode cX12_personLine 109 = .ok (.iload_n 1, 1) := by decide +kernel
theorem dX12_personLine_110 : decode cX12_personLine 110 = .ok (.iaload, 1) := by decide +kernel
theorem dX12_personLine_111 : decode cX12_personLine 111 = .ok (.iconst 3, 1) := by decide +kernel
theorem dX12_personLine_112 : decode cX12_personLine 112 = .ok (.if_icmp .ge 7, 3) := by decide +kernel
theorem dX12_personLine_115 : decode cX12_personLine 115 = .ok (.iconst 1, 1) := by decide +kernel
theorem dX12_personLine_116 : decode cX12_personLine 116 = .ok (.goto 4, 3) := by decide +kernel
theorem dX12_personLine_119 : decode cX12_personLine 119 = .ok (.iconst 0, 1) := by decide +kernel
theorem dX12_personLine_120 : decode cX12_personLine 120 = .ok (.iconst 5, 1) := by decide +kernel
theorem dX12_personLine_121 : decode cX12_personLine 121 = .ok (.invokevirtual 222, 3) := by decide +kernel
theorem dX12_personLine_124 : decode cX12_personLine 124 = .ok (.ifCond .ne 5, 3) := by decide +kernel
theorem dX12_personLine_127 : decode cX12_personLine 127 = .ok (.iconst 0, 1) := by decide +kernel
theorem dX12_personLine_128 : decode cX12_personLine 128 = .ok (.ireturn, 1) := by decide +kernel
theorem dX12_personLine_129 : decode cX12_personLine 129 = .ok (.aload_n 0, 1) := by decide +kernel
theorem dX12_personLine_130 : decode cX12_personLine 130 = .ok (.getfield 36, 3) := by decide +kernel
theorem dX12_personLine_133 : decode cX12_personLine 133 = .ok (.iconst 3, 1) := by decide +kernel
theorem dX12_personLine_134 : decode cX12_personLine 134 = .ok (.iload_n 1, 1) := by decide +kernel
theorem dX12_personLine_135 : decode cX12_personLine 135 = .ok (.imul, 1) := by decide +kernel
theorem dX12_personLine_136 : decode cX12_personLine 136 = .ok (.aload_n 0, 1) := by decide +kernel
theorem dX12_personLine_137 : decode cX12_personLine 137 = .ok (.getfield 33, 3) := by decide +kernel
theorem dX12_personLine_140 : decode cX12_personLine 140 = .ok (.iload_n 1, 1) := by decide +kernel
theorem dX12_personLine_141 : decode cX12_personLine 141 = .ok (.iaload, 1) := by decide +kernel
theorem dX12_personLine_142 : decode cX12_personLine 142 = .ok (.iadd, 1) := by decide +kernel
theorem dX12_personLine_143 : decode cX12_personLine 143 = .ok (.aload_n 0, 1) := by decide +kernel
theorem dX12_personLine_144 : decode cX12_personLine 144 = .ok (.getfield 150, 3) := by decide +kernel
theorem dX12_personLine_147 : decode cX12_personLine 147 = .ok (.iastore, 1) := by decide +kernel
theorem dX12_personLine_148 : decode cX12_personLine 148 = .ok (.aload_n 0, 1) := by decide +kernel
theorem dX12_personLine_149 : decode cX12_personLine 149 = .ok (.getfield 33, 3) := by decide +kernel
theorem dX12_personLine_152 : decode cX12_personLine 152 = .ok (.iload_n 1, 1) := by decide +kernel
theorem dX12_personLine_153 : decode cX12_personLine 153 = .ok (.dup2, 1) := by decide +kernel
theorem dX12_personLine_154 : decode cX12_personLine 154 = .ok (.iaload, 1) := by decide +kernel
theorem dX12_personLine_155 : decode cX12_personLine 155 = .ok (.iconst 1, 1) := by decide +kernel
theorem dX12_personLine_156 : decode cX12_personLine 156 = .ok (.iadd, 1) := by decide +kernel
theorem dX12_personLine_157 : decode cX12_personLine 157 = .ok (.iastore, 1) := by decide +kernel
theorem dX12_personLine_158 : decode cX12_personLine 158 = .ok (.aload_n 0, 1) := by decide +kernel
theorem dX12_personLine_159 : decode cX12_personLine 159 = .ok (.invokevirtual 226, 3) := by decide +kernel
theorem dX12_personLine_162 : decode cX12_personLine 162 = .ok (.goto (-111), 3) := by decide +kernel
theorem dX12_personLine_165 : decode cX12_personLine 165 = .ok (.aload_n 0, 1) := by decide +kernel
theorem dX12_personLine_166 : decode cX12_personLine 166 = .ok (.ldc 197, 2) := by decide +kernel
theorem dX12_personLine_168 : decode cX12_personLine 168 = .ok (.invokevirtual 193, 3) := by decide +kernel
theorem dX12_personLine_171 : decode cX12_personLine 171 = .ok (.ifCond .eq 14, 3) := by decide +kernel
theorem dX12_personLine_174 : decode cX12_personLine 174 = .ok (.aload_n 0, 1) := by decide +kernel
theorem dX12_personLine_175 : decode cX12_personLine 175 = .ok (.getfield 39, 3) := by decide +kernel
theorem dX12_personLine_178 : decode cX12_personLine 178 = .ok (.iload_n 1, 1) := by decide +kernel
theorem dX12_personLine_179 : decode cX12_personLine 179 = .ok (.iconst 1, 1) := by decide +kernel
theorem dX12_personLine_180 : decode cX12_personLine 180 = .ok (.bastore, 1) := by decide +kernel
theorem dX12_personLine_181 : decode cX12_personLine 181 = .ok (.aload_n 0, 1) := by decide +kernel
theorem dX12_personLine_182 : decode cX12_personLine 182 = .ok (.invokevirtual 226, 3) := by decide +kernel
theorem dX12_personLine_185 : decode cX12_personLine 185 = .ok (.aload_n 0, 1) := by decide +kernel
theorem dX12_personLine_186 : decode cX12_personLine 186 = .ok (.getfield 13, 3) := by decide +kernel
theorem dX12_personLine_189 : decode cX12_personLine 189 = .ok (.aload_n 0, 1) := by decide +kernel
theorem dX12_personLine_190 : decode cX12_personLine 190 = .ok (.getfield 232, 3) := by decide +kernel
theorem dX12_personLine_193 : decode cX12_personLine 193 = .ok (.dup2, 1) := by decide +kernel
theorem dX12_personLine_194 : decode cX12_personLine 194 = .ok (.iaload, 1) := by decide +kernel
theorem dX12_personLine_195 : decode cX12_personLine 195 = .ok (.iconst 1, 1) := by decide +kernel
theorem dX12_personLine_196 : decode cX12_personLine 196 = .ok (.iadd, 1) := by decide +kernel
theorem dX12_personLine_197 : decode cX12_personLine 197 = .ok (.iastore, 1) := by decide +kernel
theorem dX12_personLine_198 : decode cX12_personLine 198 = .ok (.iconst 1, 1) := by decide +kernel
theorem dX12_personLine_199 : decode cX12_personLine 199 = .ok (.ireturn, 1) := by decide +kernel
theorem dX12_trustLine_0 : decode cX12_trustLine 0 = .ok (.aload_n 0, 1) := by decide +kernel
theorem dX12_trustLine_1 : decode cX12_trustLine 1 = .ok (.invokevirtual 251, 3) := by decide +kernel
theorem dX12_trustLine_4 : decode cX12_trustLine 4 = .ok (.ifCond .ne 5, 3) := by decide +kernel
theorem dX12_trustLine_7 : decode cX12_trustLine 7 = .ok (.iconst 0, 1) := by decide +kernel
theorem dX12_trustLine_8 : decode cX12_trustLine 8 = .ok (.ireturn, 1) := by decide +kernel
theorem dX12_trustLine_9 : decode cX12_trustLine 9 = .ok (.aload_n 0, 1) := by decide +kernel
theorem dX12_trustLine_10 : decode cX12_trustLine 10 = .ok (.getfield 17, 3) := by decide +kernel
theorem dX12_trustLine_13 : decode cX12_trustLine 13 = .ok (.aload_n 0, 1) := by decide +kernel
theorem dX12_trustLine_14 : decode cX12_trustLine 14 = .ok (.getfield 232, 3) := by decide +kernel
theorem dX12_trustLine_17 : decode cX12_trustLine 17 = .ok (.iaload, 1) := by decide +kernel
theorem dX12_trustLine_18 : decode cX12_trustLine 18 = .ok (.istore_n 1, 1) := by decide +kernel
theorem dX12_trustLine_19 : decode cX12_trustLine 19 = .ok (.aload_n 0, 1) := by decide +kernel
theorem dX12_trustLine_20 : decode cX12_trustLine 20 = .ok (.getfield 248, 3) := by decide +kernel
theorem dX12_trustLine_23 : decode cX12_trustLine 23 = .ok (.lstore_n 2, 1) := by decide +kernel
theorem dX12_trustLine_24 : decode cX12_trustLine 24 = .ok (.aload_n 0, 1) := by decide +kernel
theorem dX12_trustLine_25 : decode cX12_trustLine 25 = .ok (.bipush 15, 2) := by decide +kernel
theorem dX12_trustLine_27 : decode cX12_trustLine 27 = .ok (.aload_n 0, 1) := by decide +kernel
theorem dX12_trustLine_28 : decode cX12_trustLine 28 = .ok (.getfield 232, 3) := by decide +kernel
theorem dX12_trustLine_31 : decode cX12_trustLine 31 = .ok (.imul, 1) := by decide +kernel
theorem dX12_trustLine_32 : decode cX12_trustLine 32 = .ok (.iload_n 1, 1) := by decide +kernel
theorem dX12_trustLine_33 : decode cX12_trustLine 33 = .ok (.iadd, 1) := by decide +kernel
theorem dX12_trustLine_34 : decode cX12_trustLine 34 = .ok (.invokevirtual 269, 3) := by decide +kernel
theorem dX12_trustLine_37 : decode cX12_trustLine 37 = .ok (.ifCond .ne 5, 3) := by decide +kernel
theorem dX12_trustLine_40 : decode cX12_trustLine 40 = .ok (.iconst 0, 1) := by decide +kernel
theorem dX12_trustLine_41 : decode cX12_trustLine 41 = .ok (.ireturn, 1) := by decide +kernel
theorem dX12_trustLine_42 : decode cX12_trustLine 42 = .ok (.aload_n 0, 1) := by decide +kernel
theorem dX12_trustLine_43 : decode cX12_trustLine 43 = .ok (.getfield 43, 3) := by decide +kernel
theorem dX12_trustLine_46 : decode cX12_trustLine 46 = .ok (.iconst 5, 1) := by decide +kernel
theorem dX12_trustLine_47 : decode cX12_trustLine 47 = .ok (.aload_n 0, 1) := by decide +kernel
theorem dX12_trustLine_48 : decode cX12_trustLine 48 = .ok (.getfield 232, 3) := by decide +kernel
theorem dX12_trustLine_51 : decode cX12_trustLine 51 = .ok (.imul, 1) := by decide +kernel
theorem dX12_trustLine_52 : decode cX12_trustLine 52 = .ok (.iload_n 1, 1) := by decide +kernel
theorem dX12_trustLine_53 : decode cX12_trustLine 53 = .ok (.iadd, 1) := by decide +kernel
theorem dX12_trustLine_54 : decode cX12_trustLine 54 = .ok (.lload_n 2, 1) := by decide +kernel
theorem dX12_trustLine_55 : decode cX12_trustLine 55 = .ok (.lastore, 1) := by decide +kernel
theorem dX12_trustLine_56 : decode cX12_trustLine 56 = .ok (.aload_n 0, 1) := by decide +kernel
theorem dX12_trustLine_57 : decode cX12_trustLine 57 = .ok (.getfield 17, 3) := by decide +kernel
theorem dX12_trustLine_60 : decode cX12_trustLine 60 = .ok (.aload_n 0, 1) := by decide +kernel
theorem dX12_trustLine_61 : decode cX12_trustLine 61 = .ok (.getfield 232, 3) := by decide +kernel
theorem dX12_trustLine_64 : decode cX12_trustLine 64 = .ok (.dup2, 1) := by decide +kernel
theorem dX12_trustLine_65 : decode cX12_trustLine 65 = .ok (.iaload, 1) := by decide +kernel
theorem dX12_trustLine_66 : decode cX12_trustLine 66 = .ok (.iconst 1, 1) := by decide +kernel
theorem dX12_trustLine_67 : decode cX12_trustLine 67 = .ok (.iadd, 1) := by decide +kernel
theorem dX12_trustLine_68 : decode cX12_trustLine 68 = .ok (.iastore, 1) := by decide +kernel
theorem dX12_trustLine_69 : decode cX12_trustLine 69 = .ok (.iconst 1, 1) := by decide +kernel
theorem dX12_trustLine_70 : decode cX12_trustLine 70 = .ok (.ireturn, 1) := by decide +kernel
theorem dX12_accountLine_0 : decode cX12_accountLine 0 = .ok (.aload_n 0, 1) := by decide +kernel
theorem dX12_accountLine_1 : decode cX12_accountLine 1 = .ok (.invokevirtual 251, 3) := by decide +kernel
theorem dX12_accountLine_4 : decode cX12_accountLine 4 = .ok (.ifCond .ne 5, 3) := by decide +kernel
theorem dX12_accountLine_7 : decode cX12_accountLine 7 = .ok (.iconst 0, 1) := by decide +kernel
theorem dX12_accountLine_8 : decode cX12_accountLine 8 = .ok (.ireturn, 1) := by decide +kernel
theorem dX12_accountLine_9 : decode cX12_accountLine 9 = .ok (.aload_n 0, 1) := by decide +kernel
theorem dX12_accountLine_10 : decode cX12_accountLine 10 = .ok (.getfield 20, 3) := by decide +kernel
theorem dX12_accountLine_13 : decode cX12_accountLine 13 = .ok (.aload_n 0, 1) := by decide +kernel
theorem dX12_accountLine_14 : decode cX12_accountLine 14 = .ok (.getfield 232, 3) := by decide +kernel
theorem dX12_accountLine_17 : decode cX12_accountLine 17 = .ok (.iaload, 1) := by decide +kernel
theorem dX12_accountLine_18 : decode cX12_accountLine 18 = .ok (.istore_n 1, 1) := by decide +kernel
theorem dX12_accountLine_19 : decode cX12_accountLine 19 = .ok (.aload_n 0, 1) := by decide +kernel
theorem dX12_accountLine_20 : decode cX12_accountLine 20 = .ok (.getfield 248, 3) := by decide +kernel
theorem dX12_accountLine_23 : decode cX12_accountLine 23 = .ok (.lstore_n 2, 1) := by decide +kernel
theorem dX12_accountLine_24 : decode cX12_accountLine 24 = .ok (.aload_n 0, 1) := by decide +kernel
theorem dX12_accountLine_25 : decode cX12_accountLine 25 = .ok (.ldc 203, 2) := by decide +kernel
theorem dX12_accountLine_27 : decode cX12_accountLine 27 = .ok (.invokevirtual 273, 3) := by decide +kernel
theorem dX12_accountLine_30 : decode cX12_accountLine 30 = .ok (.ifCond .eq 14, 3) := by decide +kernel
theorem dX12_accountLine_33 : decode cX12_accountLine 33 = .ok (.aload_n 0, 1) := by decide +kernel
theorem dX12_accountLine_34 : decode cX12_accountLine 34 = .ok (.iconst 0, 1) := by decide +kernel
theorem dX12_accountLine_35 : decode cX12_accountLine 35 = .ok (.ldc_w 276, 3) := by decide +kernel
theorem dX12_accountLine_38 : decode cX12_accountLine 38 = .ok (.invokevirtual 266, 3) := by decide +kernel
theorem dX12_accountLine_41 : decode cX12_accountLine 41 = .ok (.ifCond .ne 5, 3) := by decide +kernel
theorem dX12_accountLine_44 : decode cX12_accountLine 44 = .ok (.iconst 0, 1) := by decide +kernel
theorem dX12_accountLine_45 : decode cX12_accountLine 45 = .ok (.ireturn, 1) := by decide +kernel
theorem dX12_accountLine_46 : decode cX12_accountLine 46 = .ok (.aload_n 0, 1) := by decide +kernel
theorem dX12_accountLine_47 : decode cX12_accountLine 47 = .ok (.getfield 49, 3) := by decide +kernel
theorem dX12_accountLine_50 : decode cX12_accountLine 50 = .ok (.bipush 10, 2) := by decide +kernel
theorem dX12_accountLine_52 : decode cX12_accountLine 52 = .ok (.aload_n 0, 1) := by decide +kernel
theorem dX12_accountLine_53 : decode cX12_accountLine 53 = .ok (.getfield 232, 3) := by decide +kernel
theorem dX12_accountLine_56 : decode cX12_accountLine 56 = .ok (.imul, 1) := by decide +kernel
theorem dX12_accountLine_57 : decode cX12_accountLine 57 = .ok (.iload_n 1, 1) := by decide +kernel
theorem dX12_accountLine_58 : decode cX12_accountLine 58 = .ok (.iadd, 1) := by decide +kernel
theorem dX12_accountLine_59 : decode cX12_accountLine 59 = .ok (.aload_n 0, 1) := by decide +kernel
theorem dX12_accountLine_60 : decode cX12_accountLine 60 = .ok (.getfield 229, 3) := by decide +kernel
theorem dX12_accountLine_63 : decode cX12_accountLine 63 = .ok (.iastore, 1) := by decide +kernel
theorem dX12_accountLine_64 : decode cX12_accountLine 64 = .ok (.bipush 15, 2) := by decide +kernel
theorem dX12_accountLine_66 : decode cX12_accountLine 66 = .ok (.aload_n 0, 1) := by decide +kernel
theorem dX12_accountLine_67 : decode cX12_accountLine 67 = .ok (.getfield 232, 3) := by decide +kernel
theorem dX12_accountLine_70 : decode cX12_accountLine 70 = .ok (.imul, 1) := by decide +kernel
theorem dX12_accountLine_71 : decode cX12_accountLine 71 = .ok (.iconst 5, 1) := by decide +kernel
theorem dX12_accountLine_72 : decode cX12_accountLine 72 = .ok (.iadd, 1) := by decide +kernel
theorem dX12_accountLine_73 : decode cX12_accountLine 73 = .ok (.iload_n 1, 1) := by decide +kernel
theorem dX12_accountLine_74 : decode cX12_accountLine 74 = .ok (.iadd, 1) := by decide +kernel
theorem dX12_accountLine_75 : decode cX12_accountLine 75 = .ok (.istore 4, 2) := by decide +kernel
theorem dX12_accountLine_77 : decode cX12_accountLine 77 = .ok (.aload_n 0, 1) := by decide +kernel
theorem dX12_accountLine_78 : decode cX12_accountLine 78 = .ok (.iload 4, 2) := by decide +kernel
theorem dX12_accountLine_80 : decode cX12_accountLine 80 = .ok (.invokevirtual 269, 3) := by decide +kernel
theorem dX12_accountLine_83 : decode cX12_accountLine 83 = .ok (.ifCond .eq 26, 3) := by decide +kernel
theorem dX12_accountLine_86 : decode cX12_accountLine 86 = .ok (.aload_n 0, 1) := by decide +kernel
theorem dX12_accountLine_87 : decode cX12_accountLine 87 = .ok (.aload_n 0, 1) := by decide +kernel
theorem dX12_accountLine_88 : decode cX12_accountLine 88 = .ok (.getfield 52, 3) := by decide +kernel
theorem dX12_accountLine_91 : decode cX12_accountLine 91 = .ok (.iload 4, 2) := by decide +kernel
theorem dX12_accountLine_93 : decode cX12_accountLine 93 = .ok (.iaload, 1) := by decide +kernel
theorem dX12_accountLine_94 : decode cX12_accountLine 94 = .ok (.ifCond .le 7, 3) := by decide +kernel
theorem dX12_accountLine_97 : decode cX12_accountLine 97 = .ok (.iconst 1, 1) := by decide +kernel
theorem dX12_accountLine_98 : decode cX12_accountLine 98 = .ok (.goto 4, 3) := by decide +kernel
theorem dX12_accountLine_101 : decode cX12_accountLine 101 = .ok (.iconst 0, 1) := by decide +kernel
theorem dX12_accountLine_102 : decode cX12_accountLine 102 = .ok (.iconst 1, 1) := by decide +kernel
theorem dX12_accountLine_103 : decode cX12_accountLine 103 = .ok (.invokevirtual 222, 3) := by decide +kernel
theorem dX12_accountLine_106 : decode cX12_accountLine 106 = .ok (.ifCond .ne 5, 3) := by decide +kernel
theorem dX12_accountLine_109 : decode cX12_accountLine 109 = .ok (.iconst 0, 1) := by decide +kernel
theorem dX12_accountLine_110 : decode cX12_accountLine 110 = .ok (.ireturn, 1) := by decide +kernel
theorem dX12_accountLine_111 : decode cX12_accountLine 111 = .ok (.aload_n 0, 1) := by decide +kernel
theorem dX12_accountLine_112 : decode cX12_accountLine 112 = .ok (.getfield 46, 3) := by decide +kernel
theorem dX12_accountLine_115 : decode cX12_accountLine 115 = .ok (.bipush 10, 2) := by decide +kernel
theorem dX12_accountLine_117 : decode cX12_accountLine 117 = .ok (.aload_n 0, 1) := by decide +kernel
theorem dX12_accountLine_118 : decode cX12_accountLine 118 = .ok (.getfield 232, 3) := by decide +kernel
theorem dX12_accountLine_121 : decode cX12_accountLine 121 = .ok (.imul, 1) := by decide +kernel
theorem dX12_accountLine_122 : decode cX12_accountLine 122 = .ok (.iload_n 1, 1) := by decide +kernel
theorem dX12_accountLine_123 : decode cX12_accountLine 123 = .ok (.iadd, 1) := by decide +kernel
theorem dX12_accountLine_124 : decode cX12_accountLine 124 = .ok (.lload_n 2, 1) := by decide +kernel
theorem dX12_accountLine_125 : decode cX12_accountLine 125 = .ok (.lastore, 1) := by decide +kernel
theorem dX12_accountLine_126 : decode cX12_accountLine 126 = .ok (.aload_n 0, 1) := by decide +kernel
theorem dX12_accountLine_127 : decode cX12_accountLine 127 = .ok (.getfield 20, 3) := by decide +kernel
theorem dX12_accountLine_130 : decode cX12_accountLine 130 = .ok (.aload_n 0, 1) := by decide +kernel
theorem dX12_accountLine_131 : decode cX12_accountLine 131 = .ok (.getfield 232, 3) := by decide +kernel
theorem dX12_accountLine_134 : decode cX12_accountLine 134 = .ok (.dup2, 1) := by decide +kernel
theorem dX12_accountLine_135 : decode cX12_accountLine 135 = .ok (.iaload, 1) := by decide +kernel
theorem dX12_accountLine_136 : decode cX12_accountLine 136 = .ok (.iconst 1, 1) := by decide +kernel
theorem dX12_accountLine_137 : decode cX12_accountLine 137 = .ok (.iadd, 1) := by decide +kernel
theorem dX12_accountLine_138 : decode cX12_accountLine 138 = .ok (.iastore, 1) := by decide +kernel
theorem dX12_accountLine_139 : decode cX12_accountLine 139 = .ok (.iconst 1, 1) := by decide +kernel
theorem dX12_accountLine_140 : decode cX12_accountLine 140 = .ok (.ireturn, 1) := by decide +kernel
theorem dX12_named_0 : decode cX12_named 0 = .ok (.iload_n 1, 1) := by decide +kernel
theorem dX12_named_1 : decode cX12_named 1 = .ok (.ifCond .ne 25, 3) := by decide +kernel
theorem dX12_named_4 : decode cX12_named 4 = .ok (.aload_n 0, 1) := by decide +kernel
theorem dX12_named_5 : decode cX12_named 5 = .ok (.getfield 13, 3) := by decide +kernel
theorem dX12_named_8 : decode cX12_named 8 = .ok (.aload_n 0, 1) := by decide +kernel
theorem dX12_named_9 : decode cX12_named 9 = .ok (.getfield 232, 3) := by decide +kernel
theorem dX12_named_12 : decode cX12_named 12 = .ok (.iaload, 1) := by decide +kernel
theorem dX12_named_13 : decode cX12_named 13 = .ok (.bipush 12, 2) := by decide +kernel
theorem dX12_named_15 : decode cX12_named 15 = .ok (.if_icmp .ge 7, 3) := by decide +kernel
theorem dX12_named_18 : decode cX12_named 18 = .ok (.iconst 1, 1) := by decide +kernel
theorem dX12_named_19 : decode cX12_named 19 = .ok (.goto 106, 3) := by decide +kernel
theorem dX12_named_22 : decode cX12_named 22 = .ok (.iconst 0, 1) := by decide +kernel
theorem dX12_named_23 : decode cX12_named 23 = .ok (.goto 102, 3) := by decide +kernel
theorem dX12_named_26 : decode cX12_named 26 = .ok (.iload_n 1, 1) := by decide +kernel
theorem dX12_named_27 : decode cX12_named 27 = .ok (.iconst 1, 1) := by decide +kernel
theorem dX12_named_28 : decode cX12_named 28 = .ok (.if_icmp .ne 24, 3) := by decide +kernel
theorem dX12_named_31 : decode cX12_named 31 = .ok (.aload_n 0, 1) := by decide +kernel
theorem dX12_named_32 : decode cX12_named 32 = .ok (.getfield 17, 3) := by decide +kernel
theorem dX12_named_35 : decode cX12_named 35 = .ok (.aload_n 0, 1) := by decide +kernel
theorem dX12_named_36 : decode cX12_named 36 = .ok (.getfield 232, 3) := by decide +kernel
theorem dX12_named_39 : decode cX12_named 39 = .ok (.iaload, 1) := by decide +kernel
theorem dX12_named_40 : decode cX12_named 40 = .ok (.iconst 5, 1) := by decide +kernel
theorem dX12_named_41 : decode cX12_named 41 = .ok (.if_icmp .ge 7, 3) := by decide +kernel
theorem dX12_named_44 : decode cX12_named 44 = .ok (.iconst 1, 1) := by decide +kernel
theorem dX12_named_45 : decode cX12_named 45 = .ok (.goto 80, 3) := by decide +kernel
theorem dX12_named_48 : decode cX12_named 48 = .ok (.iconst 0, 1) := by decide +kernel
theorem dX12_named_49 : decode cX12_named 49 = .ok (.goto 76, 3) := by decide +kernel
theorem dX12_named_52 : decode cX12_named 52 = .ok (.iload_n 1, 1) := by decide +kernel
theorem dX12_named_53 : decode cX12_named 53 = .ok (.iconst 2, 1) := by decide +kernel
theorem dX12_named_54 : decode cX12_named 54 = .ok (.if_icmp .ne 25, 3) := by decide +kernel
theorem dX12_named_57 : decode cX12_named 57 = .ok (.aload_n 0, 1) := by decide +kernel
theorem dX12_named_58 : decode cX12_named 58 = .ok (.getfield 20, 3) := by decide +kernel
theorem dX12_named_61 : decode cX12_named 61 = .ok (.aload_n 0, 1) := by decide +kernel
theorem dX12_named_62 : decode cX12_named 62 = .ok (.getfield 232, 3) := by decide +kernel
theorem dX12_named_65 : decode cX12_named 65 = .ok (.iaload, 1) := by decide +kernel
theorem dX12_named_66 : decode cX12_named 66 = .ok (.bipush 10, 2) := by decide +kernel
theorem dX12_named_68 : decode cX12_named 68 = .ok (.if_icmp .ge 7, 3) := by decide +kernel
theorem dX12_named_71 : decode cX12_named 71 = .ok (.iconst 1, 1) := by decide +kernel
theorem dX12_named_72 : decode cX12_named 72 = .ok (.goto 53, 3) := by decide +kernel
theorem dX12_named_75 : decode cX12_named 75 = .ok (.iconst 0, 1) := by decide +kernel
theorem dX12_named_76 : decode cX12_named 76 = .ok (.goto 49, 3) := by decide +kernel
theorem dX12_named_79 : decode cX12_named 79 = .ok (.iload_n 1, 1) := by decide +kernel
theorem dX12_named_80 : decode cX12_named 80 = .ok (.iconst 3, 1) := by decide +kernel
theorem dX12_named_81 : decode cX12_named 81 = .ok (.if_icmp .ne 25, 3) := by decide +kernel
theorem dX12_named_84 : decode cX12_named 84 = .ok (.aload_n 0, 1) := by decide +kernel
theorem dX12_named_85 : decode cX12_named 85 = .ok (.getfield 23, 3) := by decide +kernel
theorem dX12_named_88 : decode cX12_named 88 = .ok (.aload_n 0, 1) := by decide +kernel
theorem dX12_named_89 : decode cX12_named 89 = .ok (.getfield 232, 3) := by decide +kernel
theorem dX12_named_92 : decode cX12_named 92 = .ok (.iaload, 1) := by decide +kernel
theorem dX12_named_93 : decode cX12_named 93 = .ok (.bipush 6, 2) := by decide +kernel
theorem dX12_named_95 : decode cX12_named 95 = .ok (.if_icmp .ge 7, 3) := by decide +kernel
theorem dX12_named_98 : decode cX12_named 98 = .ok (.iconst 1, 1) := by decide +kernel
theorem dX12_named_99 : decode cX12_named 99 = .ok (.goto 26, 3) := by decide +kernel
theorem dX12_named_102 : decode cX12_named 102 = .ok (.iconst 0, 1) := by decide +kernel
theorem dX12_named_103 : decode cX12_named 103 = .ok (.goto 22, 3) := by decide +kernel
theorem dX12_named_106 : decode cX12_named 106 = .ok (.aload_n 0, 1) := by decide +kernel
theorem dX12_named_107 : decode cX12_named 107 = .ok (.getfield 26, 3) := by decide +kernel
theorem dX12_named_110 : decode cX12_named 110 = .ok (.aload_n 0, 1) := by decide +kernel
theorem dX12_named_111 : decode cX12_named 111 = .ok (.getfield 232, 3) := by decide +kernel
theorem dX12_named_114 : decode cX12_named 114 = .ok (.iaload, 1) := by decide +kernel
theorem dX12_named_115 : decode cX12_named 115 = .ok (.bipush 8, 2) := by decide +kernel
theorem dX12_named_117 : decode cX12_named 117 = .ok (.if_icmp .ge 7, 3) := by decide +kernel
theorem dX12_named_120 : decode cX12_named 120 = .ok (.iconst 1, 1) := by decide +kernel
theorem dX12_named_121 : decode cX12_named 121 = .ok (.goto 4, 3) := by decide +kernel
theorem dX12_named_124 : decode cX12_named 124 = .ok (.iconst 0, 1) := by decide +kernel
theorem dX12_named_125 : decode cX12_named 125 = .ok (.istore_n 2, 1) := by decide +kernel
theorem dX12_named_126 : decode cX12_named 126 = .ok (.aload_n 0, 1) := by decide +kernel
theorem dX12_named_127 : decode cX12_named 127 = .ok (.iload_n 2, 1) := by decide +kernel
theorem dX12_named_128 : decode cX12_named 128 = .ok (.iconst 5, 1) := by decide +kernel
theorem dX12_named_129 : decode cX12_named 129 = .ok (.invokevirtual 222, 3) := by decide +kernel
theorem dX12_named_132 : decode cX12_named 132 = .ok (.ifCond .ne 5, 3) := by decide +kernel
theorem dX12_named_135 : decode cX12_named 135 = .ok (.iconst 0, 1) := by decide +kernel
theorem dX12_named_136 : decode cX12_named 136 = .ok (.ireturn, 1) := by decide +kernel
theorem dX12_named_137 : decode cX12_named 137 = .ok (.aload_n 0, 1) := by decide +kernel
theorem dX12_named_138 : decode cX12_named 138 = .ok (.invokevirtual 226, 3) := by decide +kernel
theorem dX12_named_141 : decode cX12_named 141 = .ok (.iload_n 1, 1) := by decide +kernel
theorem dX12_named_142 : decode cX12_named 142 = .ok (.tableswitch 50 0 3 #[30, 35, 40, 45], 30) := by decide +kernel
theorem dX12_named_172 : decode cX12_named 172 = .ok (.aload_n 0, 1) := by decide +kernel
theorem dX12_named_173 : decode cX12_named 173 = .ok (.invokevirtual 277, 3) := by decide +kernel
theorem dX12_named_176 : decode cX12_named 176 = .ok (.ireturn, 1) := by decide +kernel
theorem dX12_named_177 : decode cX12_named 177 = .ok (.aload_n 0, 1) := by decide +kernel
theorem dX12_named_178 : decode cX12_named 178 = .ok (.invokevirtual 280, 3) := by decide +kernel
theorem dX12_named_181 : decode cX12_named 181 = .ok (.ireturn, 1) := by decide +kernel
theorem dX12_named_182 : decode cX12_named 182 = .ok (.aload_n 0, 1) := by decide +kernel
theorem dX12_named_183 : decode cX12_named 183 = .ok (.invokevirtual 283, 3) := by decide +kernel
theorem dX12_named_186 : decode cX12_named 186 = .ok (.ireturn, 1) := by decide +kernel
theorem dX12_named_187 : decode cX12_named 187 = .ok (.aload_n 0, 1) := by decide +kernel
theorem dX12_named_188 : decode cX12_named 188 = .ok (.invokevirtual 286, 3) := by decide +kernel
theorem dX12_named_191 : decode cX12_named 191 = .ok (.ireturn, 1) := by decide +kernel
theorem dX12_named_192 : decode cX12_named 192 = .ok (.aload_n 0, 1) := by decide +kernel
theorem dX12_named_193 : decode cX12_named 193 = .ok (.invokevirtual 289, 3) := by decide +kernel
theorem dX12_named_196 : decode cX12_named 196 = .ok (.ireturn, 1) := by decide +kernel
theorem dX12_lineHere_0 : decode cX12_lineHere 0 = .ok (.aload_n 0, 1) := by decide +kernel
theorem dX12_lineHere_1 : decode cX12_lineHere 1 = .ok (.ldc 191, 2) := by decide +kernel
theorem dX12_lineHere_3 : decode cX12_lineHere 3 = .ok (.invokevirtual 193, 3) := by decide +kernel
theorem dX12_lineHere_6 : decode cX12_lineHere 6 = .ok (.ifCond .eq 7, 3) := by decide +kernel
theorem dX12_lineHere_9 : decode cX12_lineHere 9 = .ok (.iconst 0, 1) := by decide +kernel
theorem dX12_lineHere_10 : decode cX12_lineHere 10 = .ok (.goto 56, 3) := by decide +kernel
theorem dX12_lineHere_13 : decode cX12_lineHere 13 = .ok (.aload_n 0, 1) := by decide +kernel
theorem dX12_lineHere_14 : decode cX12_lineHere 14 = .ok (.ldc 199, 2) := by decide +kernel
theorem dX12_lineHere_16 : decode cX12_lineHere 16 = .ok (.invokevirtual 193, 3) := by decide +kernel
theorem dX12_lineHere_19 : decode cX12_lineHere 19 = .ok (.ifCond .eq 7, 3) := by decide +kernel
theorem dX12_lineHere_22 : decode cX12_lineHere 22 = .ok (.iconst 1, 1) := by decide +kernel
theorem dX12_lineHere_23 : decode cX12_lineHere 23 = .ok (.goto 43, 3) := by decide +kernel
theorem dX12_lineHere_26 : decode cX12_lineHere 26 = .ok (.aload_n 0, 1) := by decide +kernel
theorem dX12_lineHere_27 : decode cX12_lineHere 27 = .ok (.ldc 201, 2) := by decide +kernel
theorem dX12_lineHere_29 : decode cX12_lineHere 29 = .ok (.invokevirtual 193, 3) := by decide +kernel
theorem dX12_lineHere_32 : decode cX12_lineHere 32 = .ok (.ifCond .eq 7, 3) := by decide +kernel
theorem dX12_lineHere_35 : decode cX12_lineHere 35 = .ok (.iconst 2, 1) := by decide +kernel
theorem dX12_lineHere_36 : decode cX12_lineHere 36 = .ok (.goto 30, 3) := by decide +kernel
theorem dX12_lineHere_39 : decode cX12_lineHere 39 = .ok (.aload_n 0, 1) := by decide +kernel
theorem dX12_lineHere_40 : decode cX12_lineHere 40 = .ok (.ldc 205, 2) := by decide +kernel
theorem dX12_lineHere_42 : decode cX12_lineHere 42 = .ok (.invokevirtual 193, 3) := by decide +kernel
theorem dX12_lineHere_45 : decode cX12_lineHere 45 = .ok (.ifCond .eq 7, 3) := by decide +kernel
theorem dX12_lineHere_48 : decode cX12_lineHere 48 = .ok (.iconst 3, 1) := by decide +kernel
theorem dX12_lineHere_49 : decode cX12_lineHere 49 = .ok (.goto 17, 3) := by decide +kernel
theorem dX12_lineHere_52 : decode cX12_lineHere 52 = .ok (.aload_n 0, 1) := by decide +kernel
theorem dX12_lineHere_53 : decode cX12_lineHere 53 = .ok (.ldc 208, 2) := by decide +kernel
theorem dX12_lineHere_55 : decode cX12_lineHere 55 = .ok (.invokevirtual 193, 3) := by decide +kernel
theorem dX12_lineHere_58 : decode cX12_lineHere 58 = .ok (.ifCond .eq 7, 3) := by decide +kernel
theorem dX12_lineHere_61 : decode cX12_lineHere 61 = .ok (.iconst 4, 1) := by decide +kernel
theorem dX12_lineHere_62 : decode cX12_lineHere 62 = .ok (.goto 4, 3) := by decide +kernel
theorem dX12_lineHere_65 : decode cX12_lineHere 65 = .ok (.iconst (-1), 1) := by decide +kernel
theorem dX12_lineHere_66 : decode cX12_lineHere 66 = .ok (.istore_n 1, 1) := by decide +kernel
theorem dX12_lineHere_67 : decode cX12_lineHere 67 = .ok (.aload_n 0, 1) := by decide +kernel
theorem dX12_lineHere_68 : decode cX12_lineHere 68 = .ok (.ldc 216, 2) := by decide +kernel
theorem dX12_lineHere_70 : decode cX12_lineHere 70 = .ok (.invokevirtual 193, 3) := by decide +kernel
theorem dX12_lineHere_73 : decode cX12_lineHere 73 = .ok (.ifCond .eq 7, 3) := by decide +kernel
theorem dX12_lineHere_76 : decode cX12_lineHere 76 = .ok (.iconst 0, 1) := by decide +kernel
theorem dX12_lineHere_77 : decode cX12_lineHere 77 = .ok (.goto 30, 3) := by decide +kernel
theorem dX12_lineHere_80 : decode cX12_lineHere 80 = .ok (.aload_n 0, 1) := by decide +kernel
theorem dX12_lineHere_81 : decode cX12_lineHere 81 = .ok (.ldc 212, 2) := by decide +kernel
theorem dX12_lineHere_83 : decode cX12_lineHere 83 = .ok (.invokevirtual 193, 3) := by decide +kernel
theorem dX12_lineHere_86 : decode cX12_lineHere 86 = .ok (.ifCond .eq 7, 3) := by decide +kernel
theorem dX12_lineHere_89 : decode cX12_lineHere 89 = .ok (.iconst 1, 1) := by decide +kernel
theorem dX12_lineHere_90 : decode cX12_lineHere 90 = .ok (.goto 17, 3) := by decide +kernel
theorem dX12_lineHere_93 : decode cX12_lineHere 93 = .ok (.aload_n 0, 1) := by decide +kernel
theorem dX12_lineHere_94 : decode cX12_lineHere 94 = .ok (.ldc 214, 2) := by decide +kernel
theorem dX12_lineHere_96 : decode cX12_lineHere 96 = .ok (.invokevirtual 193, 3) := by decide +kernel
theorem dX12_lineHere_99 : decode cX12_lineHere 99 = .ok (.ifCond .eq 7, 3) := by decide +kernel
theorem dX12_lineHere_102 : decode cX12_lineHere 102 = .ok (.iconst 2, 1) := by decide +kernel
theorem dX12_lineHere_103 : decode cX12_lineHere 103 = .ok (.goto 4, 3) := by decide +kernel
theorem dX12_lineHere_106 : decode cX12_lineHere 106 = .ok (.iconst (-1), 1) := by decide +kernel
theorem dX12_lineHere_107 : decode cX12_lineHere 107 = .ok (.istore_n 2, 1) := by decide +kernel
theorem dX12_lineHere_108 : decode cX12_lineHere 108 = .ok (.aload_n 0, 1) := by decide +kernel
theorem dX12_lineHere_109 : decode cX12_lineHere 109 = .ok (.iload_n 1, 1) := by decide +kernel
theorem dX12_lineHere_110 : decode cX12_lineHere 110 = .ok (.ifCond .ge 7, 3) := by decide +kernel
theorem dX12_lineHere_113 : decode cX12_lineHere 113 = .ok (.iload_n 2, 1) := by decide +kernel
theorem dX12_lineHere_114 : decode cX12_lineHere 114 = .ok (.ifCond .lt 7, 3) := by decide +kernel
theorem dX12_lineHere_117 : decode cX12_lineHere 117 = .ok (.iconst 1, 1) := by decide +kernel
theorem dX12_lineHere_118 : decode cX12_lineHere 118 = .ok (.goto 4, 3) := by decide +kernel
theorem dX12_lineHere_121 : decode cX12_lineHere 121 = .ok (.iconst 0, 1) := by decide +kernel
theorem dX12_lineHere_122 : decode cX12_lineHere 122 = .ok (.iconst 1, 1) := by decide +kernel
theorem dX12_lineHere_123 : decode cX12_lineHere 123 = .ok (.invokevirtual 222, 3) := by decide +kernel
theorem dX12_lineHere_126 : decode cX12_lineHere 126 = .ok (.ifCond .ne 5, 3) := by decide +kernel
theorem dX12_lineHere_129 : decode cX12_lineHere 129 = .ok (.iconst 0, 1) := by decide +kernel
theorem dX12_lineHere_130 : decode cX12_lineHere 130 = .ok (.ireturn, 1) := by decide +kernel
theorem dX12_lineHere_131 : decode cX12_lineHere 131 = .ok (.iload_n 1, 1) := by decide +kernel
theorem dX12_lineHere_132 : decode cX12_lineHere 132 = .ok (.ifCond .lt 14, 3) := by decide +kernel
theorem dX12_lineHere_135 : decode cX12_lineHere 135 = .ok (.aload_n 0, 1) := by decide +kernel
theorem dX12_lineHere_136 : decode cX12_lineHere 136 = .ok (.iload_n 1, 1) := by decide +kernel
theorem dX12_lineHere_137 : decode cX12_lineHere 137 = .ok (.invokevirtual 292, 3) := by decide +kernel
theorem dX12_lineHere_140 : decode cX12_lineHere 140 = .ok (.ifCond .ne 16, 3) := by decide +kernel
theorem dX12_lineHere_143 : decode cX12_lineHere 143 = .ok (.goto 11, 3) := by decide +kernel
theorem dX12_lineHere_146 : decode cX12_lineHere 146 = .ok (.aload_n 0, 1) := by decide +kernel
theorem dX12_lineHere_147 : decode cX12_lineHere 147 = .ok (.iload_n 2, 1) := by decide +kernel
theorem dX12_lineHere_148 : decode cX12_lineHere 148 = .ok (.invokevirtual 295, 3) := by decide +kernel
theorem dX12_lineHere_151 : decode cX12_lineHere 151 = .ok (.ifCond .ne 5, 3) := by decide +kernel
theorem dX12_lineHere_154 : decode cX12_lineHere 154 = .ok (.iconst 0, 1) := by decide +kernel
theorem dX12_lineHere_155 : decode cX12_lineHere 155 = .ok (.ireturn, 1) := by decide +kernel
theorem dX12_lineHere_156 : decode cX12_lineHere 156 = .ok (.aload_n 0, 1) := by decide +kernel
theorem dX12_lineHere_157 : decode cX12_lineHere 157 = .ok (.aload_n 0, 1) := by decide +kernel
theorem dX12_lineHere_158 : decode cX12_lineHere 158 = .ok (.getfield 147, 3) := by decide +kernel
theorem dX12_lineHere_161 : decode cX12_lineHere 161 = .ok (.iconst 3, 1) := by decide +kernel
theorem dX12_lineHere_162 : decode cX12_lineHere 162 = .ok (.if_icmp .ne 7, 3) := by decide +kernel
theorem dX12_lineHere_165 : decode cX12_lineHere 165 = .ok (.iconst 1, 1) := by decide +kernel
theorem dX12_lineHere_166 : decode cX12_lineHere 166 = .ok (.goto 4, 3) := by decide +kernel
theorem dX12_lineHere_169 : decode cX12_lineHere 169 = .ok (.iconst 0, 1) := by decide +kernel
theorem dX12_lineHere_170 : decode cX12_lineHere 170 = .ok (.iconst 1, 1) := by decide +kernel
theorem dX12_lineHere_171 : decode cX12_lineHere 171 = .ok (.invokevirtual 222, 3) := by decide +kernel
theorem dX12_lineHere_174 : decode cX12_lineHere 174 = .ok (.ifCond .ne 5, 3) := by decide +kernel
theorem dX12_lineHere_177 : decode cX12_lineHere 177 = .ok (.iconst 0, 1) := by decide +kernel
theorem dX12_lineHere_178 : decode cX12_lineHere 178 = .ok (.ireturn, 1) := by decide +kernel
theorem dX12_lineHere_179 : decode cX12_lineHere 179 = .ok (.aload_n 0, 1) := by decide +kernel
theorem dX12_lineHere_180 : decode cX12_lineHere 180 = .ok (.invokevirtual 226, 3) := by decide +kernel
theorem dX12_lineHere_183 : decode cX12_lineHere 183 = .ok (.iconst 1, 1) := by decide +kernel
theorem dX12_lineHere_184 : decode cX12_lineHere 184 = .ok (.ireturn, 1) := by decide +kernel
theorem pq_704 : Cond.fieldLink RX12 123 "PayoutDeskModel" "thrown" "I" ∈ pd_gt := pd_in 1190 (by decide +kernel) (by decide +kernel)
theorem pq_705 : Cond.fieldLink RX12 7 "PayoutDeskModel" "tape" "[B" ∈ pd_gt := pd_in 1191 (by decide +kernel) (by decide +kernel)
theorem pq_706 : Cond.fieldLink RX12 127 "PayoutDeskModel" "taped" "I" ∈ pd_gt := pd_in 1192 (by decide +kernel) (by decide +kernel)
theorem pq_707 : Cond.fieldLink RX12 134 "PayoutDeskModel" "size" "I" ∈ pd_gt := pd_in 1193 (by decide +kernel) (by decide +kernel)
theorem pq_708 : Cond.fieldLink RX12 171 "PayoutDeskModel" "fault" "I" ∈ pd_gt := pd_in 1199 (by decide +kernel) (by decide +kernel)
theorem pq_709 : Cond.fieldLink RX12 140 "PayoutDeskModel" "from" "I" ∈ pd_gt := pd_in 1194 (by decide +kernel) (by decide +kernel)
theorem pq_710 : Cond.fieldLink RX12 174 "PayoutDeskModel" "faultPlace" "I" ∈ pd_gt := pd_in 1200 (by decide +kernel) (by decide +kernel)
theorem pq_711 : Cond.constantLong RX12 165 (96 : Int64) ∈ pd_gt := pd_in 1376 (by decide +kernel) (by decide +kernel)
theorem pq_712 : Cond.fieldLink RX12 13 "PayoutDeskModel" "persons" "[I" ∈ pd_gt := pd_in 1204 (by decide +kernel) (by decide +kernel)
theorem pq_713 : Cond.fieldLink RX12 232 "PayoutDeskModel" "bench" "I" ∈ pd_gt := pd_in 1203 (by decide +kernel) (by decide +kernel)
theorem pq_714 : Cond.fieldLink RX12 29 "PayoutDeskModel" "personName" "[J" ∈ pd_gt := pd_in 1209 (by decide +kernel) (by decide +kernel)
theorem pq_715 : Cond.fieldLink RX12 17 "PayoutDeskModel" "trusts" "[I" ∈ pd_gt := pd_in 1205 (by decide +kernel) (by decide +kernel)
theorem pq_716 : Cond.fieldLink RX12 43 "PayoutDeskModel" "trustName" "[J" ∈ pd_gt := pd_in 1213 (by decide +kernel) (by decide +kernel)
theorem pq_717 : Cond.fieldLink RX12 20 "PayoutDeskModel" "accounts" "[I" ∈ pd_gt := pd_in 1206 (by decide +kernel) (by decide +kernel)
theorem pq_718 : Cond.fieldLink RX12 46 "PayoutDeskModel" "accountName" "[J" ∈ pd_gt := pd_in 1214 (by decide +kernel) (by decide +kernel)
theorem pq_719 : Cond.fieldLink RX12 33 "PayoutDeskModel" "markMany" "[I" ∈ pd_gt := pd_in 1210 (by decide +kernel) (by decide +kernel)
theorem pq_720 : Cond.fieldLink RX12 36 "PayoutDeskModel" "mark" "[I" ∈ pd_gt := pd_in 1211 (by decide +kernel) (by decide +kernel)
theorem pq_721 : Cond.fieldLink RX12 52 "PayoutDeskModel" "partMany" "[I" ∈ pd_gt := pd_in 1216 (by decide +kernel) (by decide +kernel)
theorem pq_722 : Cond.fieldLink RX12 55 "PayoutDeskModel" "partTo" "[I" ∈ pd_gt := pd_in 1217 (by decide +kernel) (by decide +kernel)
theorem pq_723 : Cond.methodLink RX12 130 yX12_puts ∈ pd_gt := pd_in 1355 (by decide +kernel) (by decide +kernel)
theorem pq_724 : Cond.code yX12_puts cX12_puts 3 none ∈ pd_gt := pd_in 1358 (by decide +kernel) (by decide +kernel)
theorem pq_725 : Cond.initialized yX12_puts.cls ∈ pd_gt := pd_in 111 (by decide +kernel) (by decide +kernel)
theorem pq_726 : Cond.instanceMethod yX12_puts ∈ pd_gt := pd_in 1357 (by decide +kernel) (by decide +kernel)
theorem pq_727 : Cond.selects yX12_puts.cls yX12_puts yX12_puts ∈ pd_gt := pd_in 39 (by decide +kernel) (by decide +kernel)
theorem pq_728 : Cond.fieldLink RX12 153 "PayoutDeskModel" "word" "J" ∈ pd_gt := pd_in 1198 (by decide +kernel) (by decide +kernel)
theorem pq_729 : Cond.fieldLink RX12 137 "PayoutDeskModel" "to" "I" ∈ pd_gt := pd_in 1195 (by decide +kernel) (by decide +kernel)
theorem pq_730 : Cond.fieldLink RX12 147 "PayoutDeskModel" "token" "I" ∈ pd_gt := pd_in 1196 (by decide +kernel) (by decide +kernel)
theorem pq_731 : Cond.methodLink RX12 143 yX12_see ∈ pd_gt := pd_in 1370 (by decide +kernel) (by decide +kernel)
theorem pq_732 : Cond.code yX12_see cX12_see 2 (some .int) ∈ pd_gt := pd_in 1373 (by decide +kernel) (by decide +kernel)
theorem pq_733 : Cond.initialized yX12_see.cls ∈ pd_gt := pd_in 111 (by decide +kernel) (by decide +kernel)
theorem pq_734 : Cond.instanceMethod yX12_see ∈ pd_gt := pd_in 1372 (by decide +kernel) (by decide +kernel)
theorem pq_735 : Cond.selects yX12_see.cls yX12_see yX12_see ∈ pd_gt := pd_in 41 (by decide +kernel) (by decide +kernel)
theorem pq_736 : Cond.constantLong RX12 157 (97 : Int64) ∈ pd_gt := pd_in 1374 (by decide +kernel) (by decide +kernel)
theorem pq_737 : Cond.constantLong RX12 159 (122 : Int64) ∈ pd_gt := pd_in 1375 (by decide +kernel) (by decide +kernel)
theorem pq_738 : Cond.methodLink RX12 161 yX12_within ∈ pd_gt := pd_in 1363 (by decide +kernel) (by decide +kernel)
theorem pq_739 : Cond.code yX12_within cX12_within 6 (some .boolean) ∈ pd_gt := pd_in 1365 (by decide +kernel) (by decide +kernel)
theorem pq_740 : Cond.initialized yX12_within.cls ∈ pd_gt := pd_in 111 (by decide +kernel) (by decide +kernel)
theorem pq_741 : Cond.static yX12_within ∈ pd_gt := pd_in 1364 (by decide +kernel) (by decide +kernel)
theorem pq_742 : Cond.fieldLink RX12 150 "PayoutDeskModel" "value" "I" ∈ pd_gt := pd_in 1197 (by decide +kernel) (by decide +kernel)
theorem pq_743 : Cond.constantLong RX12 167 (48 : Int64) ∈ pd_gt := pd_in 1377 (by decide +kernel) (by decide +kernel)
theorem pq_744 : Cond.constantLong RX12 169 (57 : Int64) ∈ pd_gt := pd_in 1378 (by decide +kernel) (by decide +kernel)
theorem pq_745 : Cond.methodLink RX12 187 yX12_spelled ∈ pd_gt := pd_in 1388 (by decide +kernel) (by decide +kernel)
theorem pq_746 : Cond.code yX12_spelled cX12_spelled 4 (some .long) ∈ pd_gt := pd_in 1390 (by decide +kernel) (by decide +kernel)
theorem pq_747 : Cond.initialized yX12_spelled.cls ∈ pd_gt := pd_in 111 (by decide +kernel) (by decide +kernel)
theorem pq_748 : Cond.static yX12_spelled ∈ pd_gt := pd_in 1389 (by decide +kernel) (by decide +kernel)
theorem pq_749 : Cond.methodLink RX12 238 yX12_personNamed ∈ pd_gt := pd_in 1475 (by decide +kernel) (by decide +kernel)
theorem pq_750 : Cond.code yX12_personNamed cX12_personNamed 4 (some .int) ∈ pd_gt := pd_in 1478 (by decide +kernel) (by decide +kernel)
theorem pq_751 : Cond.initialized yX12_personNamed.cls ∈ pd_gt := pd_in 111 (by decide +kernel) (by decide +kernel)
theorem pq_752 : Cond.instanceMethod yX12_personNamed ∈ pd_gt := pd_in 1477 (by decide +kernel) (by decide +kernel)
theorem pq_753 : Cond.selects yX12_personNamed.cls yX12_personNamed yX12_personNamed ∈ pd_gt := pd_in 50 (by decide +kernel) (by decide +kernel)
theorem pq_754 : Cond.methodLink RX12 242 yX12_trustNamed ∈ pd_gt := pd_in 1479 (by decide +kernel) (by decide +kernel)
theorem pq_755 : Cond.code yX12_trustNamed cX12_trustNamed 4 (some .int) ∈ pd_gt := pd_in 1482 (by decide +kernel) (by decide +kernel)
theorem pq_756 : Cond.initialized yX12_trustNamed.cls ∈ pd_gt := pd_in 111 (by decide +kernel) (by decide +kernel)
theorem pq_757 : Cond.instanceMethod yX12_trustNamed ∈ pd_gt := pd_in 1481 (by decide +kernel) (by decide +kernel)
theorem pq_758 : Cond.selects yX12_trustNamed.cls yX12_trustNamed yX12_trustNamed ∈ pd_gt := pd_in 51 (by decide +kernel) (by decide +kernel)
theorem pq_759 : Cond.methodLink RX12 193 yX12_is ∈ pd_gt := pd_in 1384 (by decide +kernel) (by decide +kernel)
theorem pq_760 : Cond.code yX12_is cX12_is 2 (some .boolean) ∈ pd_gt := pd_in 1387 (by decide +kernel) (by decide +kernel)
theorem pq_761 : Cond.initialized yX12_is.cls ∈ pd_gt := pd_in 111 (by decide +kernel) (by decide +kernel)
theorem pq_762 : Cond.instanceMethod yX12_is ∈ pd_gt := pd_in 1386 (by decide +kernel) (by decide +kernel)
theorem pq_763 : Cond.selects yX12_is.cls yX12_is yX12_is ∈ pd_gt := pd_in 43 (by decide +kernel) (by decide +kernel)
theorem pq_764 : Cond.methodLink RX12 222 yX12_must ∈ pd_gt := pd_in 1446 (by decide +kernel) (by decide +kernel)
theorem pq_765 : Cond.code yX12_must cX12_must 3 (some .boolean) ∈ pd_gt := pd_in 1449 (by decide +kernel) (by decide +kernel)
theorem pq_766 : Cond.initialized yX12_must.cls ∈ pd_gt := pd_in 111 (by decide +kernel) (by decide +kernel)
theorem pq_767 : Cond.instanceMethod yX12_must ∈ pd_gt := pd_in 1448 (by decide +kernel) (by decide +kernel)
theorem pq_768 : Cond.selects yX12_must.cls yX12_must yX12_must ∈ pd_gt := pd_in 44 (by decide +kernel) (by decide +kernel)
theorem pq_769 : Cond.methodLink RX12 226 yX12_steps ∈ pd_gt := pd_in 1366 (by decide +kernel) (by decide +kernel)
theorem pq_770 : Cond.code yX12_steps cX12_steps 2 none ∈ pd_gt := pd_in 1369 (by decide +kernel) (by decide +kernel)
theorem pq_771 : Cond.initialized yX12_steps.cls ∈ pd_gt := pd_in 111 (by decide +kernel) (by decide +kernel)
theorem pq_772 : Cond.instanceMethod yX12_steps ∈ pd_gt := pd_in 1368 (by decide +kernel) (by decide +kernel)
theorem pq_773 : Cond.selects yX12_steps.cls yX12_steps yX12_steps ∈ pd_gt := pd_in 40 (by decide +kernel) (by decide +kernel)
theorem pq_774 : Cond.fieldLink RX12 229 "PayoutDeskModel" "numberHere" "I" ∈ pd_gt := pd_in 1201 (by decide +kernel) (by decide +kernel)
theorem pq_775 : Cond.methodLink RX12 218 yX12_isOwn ∈ pd_gt := pd_in 1466 (by decide +kernel) (by decide +kernel)
theorem pq_776 : Cond.code yX12_isOwn cX12_isOwn 1 (some .boolean) ∈ pd_gt := pd_in 1469 (by decide +kernel) (by decide +kernel)
theorem pq_777 : Cond.initialized yX12_isOwn.cls ∈ pd_gt := pd_in 111 (by decide +kernel) (by decide +kernel)
theorem pq_778 : Cond.instanceMethod yX12_isOwn ∈ pd_gt := pd_in 1468 (by decide +kernel) (by decide +kernel)
theorem pq_779 : Cond.selects yX12_isOwn.cls yX12_isOwn yX12_isOwn ∈ pd_gt := pd_in 49 (by decide +kernel) (by decide +kernel)
theorem pq_780 : Cond.methodLink RX12 266 yX12_takesNumber ∈ pd_gt := pd_in 1508 (by decide +kernel) (by decide +kernel)
theorem pq_781 : Cond.code yX12_takesNumber cX12_takesNumber 3 (some .boolean) ∈ pd_gt := pd_in 1511 (by decide +kernel) (by decide +kernel)
theorem pq_782 : Cond.initialized yX12_takesNumber.cls ∈ pd_gt := pd_in 111 (by decide +kernel) (by decide +kernel)
theorem pq_783 : Cond.instanceMethod yX12_takesNumber ∈ pd_gt := pd_in 1510 (by decide +kernel) (by decide +kernel)
theorem pq_784 : Cond.selects yX12_takesNumber.cls yX12_takesNumber yX12_takesNumber ∈ pd_gt := pd_in 58 (by decide +kernel) (by decide +kernel)
theorem pq_785 : Cond.fieldLink RX12 82 "PayoutDeskModel" "toldOnce" "[I" ∈ pd_gt := pd_in 1226 (by decide +kernel) (by decide +kernel)
theorem pq_786 : Cond.fieldLink RX12 85 "PayoutDeskModel" "isOnce" "[Z" ∈ pd_gt := pd_in 1227 (by decide +kernel) (by decide +kernel)
theorem pq_787 : Cond.constant RX12 276 (9999999 : Int32) ∈ pd_gt := pd_in 1520 (by decide +kernel) (by decide +kernel)
theorem pq_788 : Cond.fieldLink RX12 248 "PayoutDeskModel" "nameHere" "J" ∈ pd_gt := pd_in 1228 (by decide +kernel) (by decide +kernel)
theorem pq_789 : Cond.methodLink RX12 235 yX12_isName ∈ pd_gt := pd_in 1462 (by decide +kernel) (by decide +kernel)
theorem pq_790 : Cond.code yX12_isName cX12_isName 1 (some .boolean) ∈ pd_gt := pd_in 1465 (by decide +kernel) (by decide +kernel)
theorem pq_791 : Cond.initialized yX12_isName.cls ∈ pd_gt := pd_in 111 (by decide +kernel) (by decide +kernel)
theorem pq_792 : Cond.instanceMethod yX12_isName ∈ pd_gt := pd_in 1464 (by decide +kernel) (by decide +kernel)
theorem pq_793 : Cond.selects yX12_isName.cls yX12_isName yX12_isName ∈ pd_gt := pd_in 48 (by decide +kernel) (by decide +kernel)
theorem pq_794 : Cond.methodLink RX12 245 yX12_accountNamed ∈ pd_gt := pd_in 1483 (by decide +kernel) (by decide +kernel)
theorem pq_795 : Cond.code yX12_accountNamed cX12_accountNamed 4 (some .int) ∈ pd_gt := pd_in 1486 (by decide +kernel) (by decide +kernel)
theorem pq_796 : Cond.initialized yX12_accountNamed.cls ∈ pd_gt := pd_in 111 (by decide +kernel) (by decide +kernel)
theorem pq_797 : Cond.instanceMethod yX12_accountNamed ∈ pd_gt := pd_in 1485 (by decide +kernel) (by decide +kernel)
theorem pq_798 : Cond.selects yX12_accountNamed.cls yX12_accountNamed yX12_accountNamed ∈ pd_gt := pd_in 52 (by decide +kernel) (by decide +kernel)
theorem pq_799 : Cond.fieldLink RX12 58 "PayoutDeskModel" "partWeight" "[I" ∈ pd_gt := pd_in 1218 (by decide +kernel) (by decide +kernel)
theorem pq_800 : Cond.methodLink RX12 260 yX12_partNamed ∈ pd_gt := pd_in 1500 (by decide +kernel) (by decide +kernel)
theorem pq_801 : Cond.code yX12_partNamed cX12_partNamed 1 (some .int) ∈ pd_gt := pd_in 1503 (by decide +kernel) (by decide +kernel)
theorem pq_802 : Cond.initialized yX12_partNamed.cls ∈ pd_gt := pd_in 111 (by decide +kernel) (by decide +kernel)
theorem pq_803 : Cond.instanceMethod yX12_partNamed ∈ pd_gt := pd_in 1502 (by decide +kernel) (by decide +kernel)
theorem pq_804 : Cond.selects yX12_partNamed.cls yX12_partNamed yX12_partNamed ∈ pd_gt := pd_in 56 (by decide +kernel) (by decide +kernel)
theorem pq_805 : Cond.methodLink RX12 263 yX12_isPart ∈ pd_gt := pd_in 1504 (by decide +kernel) (by decide +kernel)
theorem pq_806 : Cond.code yX12_isPart cX12_isPart 4 (some .boolean) ∈ pd_gt := pd_in 1507 (by decide +kernel) (by decide +kernel)
theorem pq_807 : Cond.initialized yX12_isPart.cls ∈ pd_gt := pd_in 111 (by decide +kernel) (by decide +kernel)
theorem pq_808 : Cond.instanceMethod yX12_isPart ∈ pd_gt := pd_in 1506 (by decide +kernel) (by decide +kernel)
theorem pq_809 : Cond.selects yX12_isPart.cls yX12_isPart yX12_isPart ∈ pd_gt := pd_in 57 (by decide +kernel) (by decide +kernel)
theorem pq_810 : Cond.fieldLink RX12 23 "PayoutDeskModel" "highs" "[I" ∈ pd_gt := pd_in 1207 (by decide +kernel) (by decide +kernel)
theorem pq_811 : Cond.fieldLink RX12 61 "PayoutDeskModel" "highOf" "[I" ∈ pd_gt := pd_in 1219 (by decide +kernel) (by decide +kernel)
theorem pq_812 : Cond.fieldLink RX12 64 "PayoutDeskModel" "highAmount" "[I" ∈ pd_gt := pd_in 1220 (by decide +kernel) (by decide +kernel)
theorem pq_813 : Cond.methodLink RX12 273 yX12_takes ∈ pd_gt := pd_in 1516 (by decide +kernel) (by decide +kernel)
theorem pq_814 : Cond.code yX12_takes cX12_takes 2 (some .boolean) ∈ pd_gt := pd_in 1519 (by decide +kernel) (by decide +kernel)
theorem pq_815 : Cond.initialized yX12_takes.cls ∈ pd_gt := pd_in 111 (by decide +kernel) (by decide +kernel)
theorem pq_816 : Cond.instanceMethod yX12_takes ∈ pd_gt := pd_in 1518 (by decide +kernel) (by decide +kernel)
theorem pq_817 : Cond.selects yX12_takes.cls yX12_takes yX12_takes ∈ pd_gt := pd_in 60 (by decide +kernel) (by decide +kernel)
theorem pq_818 : Cond.fieldLink RX12 67 "PayoutDeskModel" "highFrom" "[I" ∈ pd_gt := pd_in 1221 (by decide +kernel) (by decide +kernel)
theorem pq_819 : Cond.fieldLink RX12 70 "PayoutDeskModel" "highTo" "[I" ∈ pd_gt := pd_in 1222 (by decide +kernel) (by decide +kernel)
theorem pq_820 : Cond.fieldLink RX12 26 "PayoutDeskModel" "loans" "[I" ∈ pd_gt := pd_in 1208 (by decide +kernel) (by decide +kernel)
theorem pq_821 : Cond.fieldLink RX12 73 "PayoutDeskModel" "loanOf" "[I" ∈ pd_gt := pd_in 1223 (by decide +kernel) (by decide +kernel)
theorem pq_822 : Cond.fieldLink RX12 76 "PayoutDeskModel" "loanAmount" "[I" ∈ pd_gt := pd_in 1224 (by decide +kernel) (by decide +kernel)
theorem pq_823 : Cond.fieldLink RX12 79 "PayoutDeskModel" "loanDue" "[I" ∈ pd_gt := pd_in 1225 (by decide +kernel) (by decide +kernel)
theorem pq_824 : Cond.constantLong RX12 258 (9999 : Int64) ∈ pd_gt := pd_in 1491 (by decide +kernel) (by decide +kernel)
theorem pq_825 : Cond.fieldLink RX12 39 "PayoutDeskModel" "isInsider" "[Z" ∈ pd_gt := pd_in 1212 (by decide +kernel) (by decide +kernel)
theorem pq_826 : Cond.methodLink RX12 254 yX12_hasMark ∈ pd_gt := pd_in 1487 (by decide +kernel) (by decide +kernel)
theorem pq_827 : Cond.code yX12_hasMark cX12_hasMark 4 (some .boolean) ∈ pd_gt := pd_in 1490 (by decide +kernel) (by decide +kernel)
theorem pq_828 : Cond.initialized yX12_hasMark.cls ∈ pd_gt := pd_in 111 (by decide +kernel) (by decide +kernel)
theorem pq_829 : Cond.instanceMethod yX12_hasMark ∈ pd_gt := pd_in 1489 (by decide +kernel) (by decide +kernel)
theorem pq_830 : Cond.selects yX12_hasMark.cls yX12_hasMark yX12_hasMark ∈ pd_gt := pd_in 53 (by decide +kernel) (by decide +kernel)
theorem pq_831 : Cond.methodLink RX12 251 yX12_newName ∈ pd_gt := pd_in 1458 (by decide +kernel) (by decide +kernel)
theorem pq_832 : Cond.code yX12_newName cX12_newName 1 (some .boolean) ∈ pd_gt := pd_in 1461 (by decide +kernel) (by decide +kernel)
theorem pq_833 : Cond.initialized yX12_newName.cls ∈ pd_gt := pd_in 111 (by decide +kernel) (by decide +kernel)
theorem pq_834 : Cond.instanceMethod yX12_newName ∈ pd_gt := pd_in 1460 (by decide +kernel) (by decide +kernel)
theorem pq_835 : Cond.selects yX12_newName.cls yX12_newName yX12_newName ∈ pd_gt := pd_in 47 (by decide +kernel) (by decide +kernel)
theorem pq_836 : Cond.methodLink RX12 269 yX12_partsHere ∈ pd_gt := pd_in 1496 (by decide +kernel) (by decide +kernel)
theorem pq_837 : Cond.code yX12_partsHere cX12_partsHere 4 (some .boolean) ∈ pd_gt := pd_in 1499 (by decide +kernel) (by decide +kernel)
theorem pq_838 : Cond.initialized yX12_partsHere.cls ∈ pd_gt := pd_in 111 (by decide +kernel) (by decide +kernel)
theorem pq_839 : Cond.instanceMethod yX12_partsHere ∈ pd_gt := pd_in 1498 (by decide +kernel) (by decide +kernel)
theorem pq_840 : Cond.selects yX12_partsHere.cls yX12_partsHere yX12_partsHere ∈ pd_gt := pd_in 55 (by decide +kernel) (by decide +kernel)
theorem pq_841 : Cond.fieldLink RX12 49 "PayoutDeskModel" "firstBalance" "[I" ∈ pd_gt := pd_in 1215 (by decide +kernel) (by decide +kernel)
theorem pq_842 : Cond.methodLink RX12 277 yX12_personLine ∈ pd_gt := pd_in 1454 (by decide +kernel) (by decide +kernel)
theorem pq_843 : Cond.code yX12_personLine cX12_personLine 2 (some .boolean) ∈ pd_gt := pd_in 1457 (by decide +kernel) (by decide +kernel)
theorem pq_844 : Cond.initialized yX12_personLine.cls ∈ pd_gt := pd_in 111 (by decide +kernel) (by decide +kernel)
theorem pq_845 : Cond.instanceMethod yX12_personLine ∈ pd_gt := pd_in 1456 (by decide +kernel) (by decide +kernel)
theorem pq_846 : Cond.selects yX12_personLine.cls yX12_personLine yX12_personLine ∈ pd_gt := pd_in 46 (by decide +kernel) (by decide +kernel)
theorem pq_847 : Cond.methodLink RX12 280 yX12_trustLine ∈ pd_gt := pd_in 1492 (by decide +kernel) (by decide +kernel)
theorem pq_848 : Cond.code yX12_trustLine cX12_trustLine 4 (some .boolean) ∈ pd_gt := pd_in 1495 (by decide +kernel) (by decide +kernel)
theorem pq_849 : Cond.initialized yX12_trustLine.cls ∈ pd_gt := pd_in 111 (by decide +kernel) (by decide +kernel)
theorem pq_850 : Cond.instanceMethod yX12_trustLine ∈ pd_gt := pd_in 1494 (by decide +kernel) (by decide +kernel)
theorem pq_851 : Cond.selects yX12_trustLine.cls yX12_trustLine yX12_trustLine ∈ pd_gt := pd_in 54 (by decide +kernel) (by decide +kernel)
theorem pq_852 : Cond.methodLink RX12 283 yX12_accountLine ∈ pd_gt := pd_in 1512 (by decide +kernel) (by decide +kernel)
theorem pq_853 : Cond.code yX12_accountLine cX12_accountLine 5 (some .boolean) ∈ pd_gt := pd_in 1515 (by decide +kernel) (by decide +kernel)
theorem pq_854 : Cond.initialized yX12_accountLine.cls ∈ pd_gt := pd_in 111 (by decide +kernel) (by decide +kernel)
theorem pq_855 : Cond.instanceMethod yX12_accountLine ∈ pd_gt := pd_in 1514 (by decide +kernel) (by decide +kernel)
theorem pq_856 : Cond.selects yX12_accountLine.cls yX12_accountLine yX12_accountLine ∈ pd_gt := pd_in 59 (by decide +kernel) (by decide +kernel)
theorem pq_857 : Cond.methodLink RX12 286 yX12_highLine ∈ pd_gt := pd_in 1521 (by decide +kernel) (by decide +kernel)
theorem pq_858 : Cond.code yX12_highLine cX12_highLine 3 (some .boolean) ∈ pd_gt := pd_in 1524 (by decide +kernel) (by decide +kernel)
theorem pq_859 : Cond.initialized yX12_highLine.cls ∈ pd_gt := pd_in 111 (by decide +kernel) (by decide +kernel)
theorem pq_860 : Cond.instanceMethod yX12_highLine ∈ pd_gt := pd_in 1523 (by decide +kernel) (by decide +kernel)
theorem pq_861 : Cond.selects yX12_highLine.cls yX12_highLine yX12_highLine ∈ pd_gt := pd_in 61 (by decide +kernel) (by decide +kernel)
theorem pq_862 : Cond.methodLink RX12 289 yX12_loanLine ∈ pd_gt := pd_in 1525 (by decide +kernel) (by decide +kernel)
theorem pq_863 : Cond.code yX12_loanLine cX12_loanLine 3 (some .boolean) ∈ pd_gt := pd_in 1528 (by decide +kernel) (by decide +kernel)
theorem pq_864 : Cond.initialized yX12_loanLine.cls ∈ pd_gt := pd_in 111 (by decide +kernel) (by decide +kernel)
theorem pq_865 : Cond.instanceMethod yX12_loanLine ∈ pd_gt := pd_in 1527 (by decide +kernel) (by decide +kernel)
theorem pq_866 : Cond.selects yX12_loanLine.cls yX12_loanLine yX12_loanLine ∈ pd_gt := pd_in 62 (by decide +kernel) (by decide +kernel)
theorem pq_867 : Cond.methodLink RX12 295 yX12_onceLine ∈ pd_gt := pd_in 1529 (by decide +kernel) (by decide +kernel)
theorem pq_868 : Cond.code yX12_onceLine cX12_onceLine 2 (some .boolean) ∈ pd_gt := pd_in 1532 (by decide +kernel) (by decide +kernel)
theorem pq_869 : Cond.initialized yX12_onceLine.cls ∈ pd_gt := pd_in 111 (by decide +kernel) (by decide +kernel)
theorem pq_870 : Cond.instanceMethod yX12_onceLine ∈ pd_gt := pd_in 1531 (by decide +kernel) (by decide +kernel)
theorem pq_871 : Cond.selects yX12_onceLine.cls yX12_onceLine yX12_onceLine ∈ pd_gt := pd_in 63 (by decide +kernel) (by decide +kernel)
theorem pq_872 : Cond.methodLink RX12 292 yX12_named ∈ pd_gt := pd_in 1450 (by decide +kernel) (by decide +kernel)
theorem pq_873 : Cond.code yX12_named cX12_named 3 (some .boolean) ∈ pd_gt := pd_in 1453 (by decide +kernel) (by decide +kernel)
theorem pq_874 : Cond.initialized yX12_named.cls ∈ pd_gt := pd_in 111 (by decide +kernel) (by decide +kernel)
theorem pq_875 : Cond.instanceMethod yX12_named ∈ pd_gt := pd_in 1452 (by decide +kernel) (by decide +kernel)
theorem pq_876 : Cond.selects yX12_named.cls yX12_named yX12_named ∈ pd_gt := pd_in 45 (by decide +kernel) (by decide +kernel)
def pfX12_thrown (sh : pd_S) (n : Nat) (F : pd_F) (x0 : Int) : Option (Int × pd_F) :=
  pd_i (pd_ob sh 12 x0 = true) <|
  some (F x0 0, F)
def pfX12_within (sh : pd_S) (n : Nat) (F : pd_F) (x0 : Int) (x2 : Int) (x4 : Int) : Option (Int × pd_F) :=
  if x0 < x2 then
    some (0, F)
  else
    if x0 > x4 then
      some (0, F)
    else
      some (1, F)
def pfX12_puts_b3 (sh : pd_S) (n : Nat)  : Nat → pd_F → Int → Int → Int → Option pd_F
  | 0, _, _, _, _ => none
  | k + 1, F, x0, x1, x2 =>
    if x2 < 0 then
      some F
    else
      pd_i (pd_ob sh 12 x0 = true) <|
      pd_i (pd_ib sh 0 1 (F x0 1) (F x0 2) = true) <|
      pd_l (pd_up F (F x0 1) (F x0 2) (pd_b (pd_b (pd_shr x1 x2)))) fun F3 =>
      pd_l (pd_up F3 x0 2 (pd_w ((F3 x0 2) + 1))) fun F4 =>
      pd_l (pd_w (x2 + (-8))) fun x2_30 =>
      pfX12_puts_b3 sh n k F4 x0 x1 x2_30
def pfX12_puts (sh : pd_S) (n : Nat) (F : pd_F) (x0 : Int) (x1 : Int) : Option pd_F :=
  pfX12_puts_b3 sh n n F x0 x1 24
def pfX12_see (sh : pd_S) (n : Nat) (F : pd_F) (x0 : Int) (x1 : Int) : Option (Int × pd_F) :=
  pd_i (pd_ob sh 12 x0 = true) <|
  if x1 ≥ (F x0 3) then
    some ((-1), F)
  else
    pd_i (pd_ib sh 0 1 (F x0 1) x1 = true) <|
    some (pd_and (F (F x0 1) x1) 255, F)
def pfX12_must_b24 (sh : pd_S) (n : Nat)  (F : pd_F) (x0 : Int) : Option (Int × pd_F) :=
  pd_i (pd_ob sh 12 x0 = true) <|
  if (F x0 9) ≠ 0 then
    some (0, F)
  else
    some (1, F)
def pfX12_must (sh : pd_S) (n : Nat) (F : pd_F) (x0 : Int) (x1 : Int) (x2 : Int) : Option (Int × pd_F) :=
  pd_i (pd_ob sh 12 x0 = true) <|
  if (F x0 9) ≠ 0 then
    pfX12_must_b24 sh n F x0
  else
    if x1 ≠ 0 then
      pfX12_must_b24 sh n F x0
    else
      pd_l (pd_up F x0 9 x2) fun F3 =>
      pd_l (pd_up F3 x0 10 (F3 x0 4)) fun F4 =>
      pfX12_must_b24 sh n F4 x0
def pfX12_spelled_b4 (sh : pd_S) (n : Nat)  : Nat → pd_F → Int → Int → Int → Option (Int × pd_F)
  | 0, _, _, _, _ => none
  | k + 1, F, x0, x1, x3 =>
    pd_i (0 ≤ pd_slen x0) <|
    if x3 ≥ (pd_slen x0) then
      some (x1, F)
    else
      pd_i (0 ≤ x3 ∧ x3 < pd_slen x0) <|
      pd_l (pd_Or (pd_Shl x1 5) (pd_W ((pd_sch x0 x3) - 96))) fun x1_26 =>
      pd_l (pd_w (x3 + 1)) fun x3_27 =>
      pfX12_spelled_b4 sh n k F x0 x1_26 x3_27
def pfX12_spelled (sh : pd_S) (n : Nat) (F : pd_F) (x0 : Int) : Option (Int × pd_F) :=
  pfX12_spelled_b4 sh n n F x0 0 0
def pfX12_personNamed_b2 (sh : pd_S) (n : Nat)  : Nat → pd_F → Int → Int → Int → Option (Int × pd_F)
  | 0, _, _, _, _ => none
  | k + 1, F, x0, x1, x3 =>
    pd_i (pd_ob sh 12 x0 = true) <|
    pd_i (pd_ib sh 0 0 (F x0 14) (F x0 13) = true) <|
    if x3 ≥ (F (F x0 14) (F x0 13)) then
      some ((-1), F)
    else
      pd_i (pd_ib sh 1 0 (F x0 19) (pd_w ((pd_w (12 * (F x0 13))) + x3)) = true) <|
      if (F (F x0 19) (pd_w ((pd_w (12 * (F x0 13))) + x3))) ≠ x1 then
        pd_l (pd_w (x3 + 1)) fun x3_36 =>
        pfX12_personNamed_b2 sh n k F x0 x1 x3_36
      else
        some (x3, F)
def pfX12_personNamed (sh : pd_S) (n : Nat) (F : pd_F) (x0 : Int) (x1 : Int) : Option (Int × pd_F) :=
  pfX12_personNamed_b2 sh n n F x0 x1 0
def pfX12_trustNamed_b2 (sh : pd_S) (n : Nat)  : Nat → pd_F → Int → Int → Int → Option (Int × pd_F)
  | 0, _, _, _, _ => none
  | k + 1, F, x0, x1, x3 =>
    pd_i (pd_ob sh 12 x0 = true) <|
    pd_i (pd_ib sh 0 0 (F x0 15) (F x0 13) = true) <|
    if x3 ≥ (F (F x0 15) (F x0 13)) then
      some ((-1), F)
    else
      pd_i (pd_ib sh 1 0 (F x0 23) (pd_w ((pd_w (5 * (F x0 13))) + x3)) = true) <|
      if (F (F x0 23) (pd_w ((pd_w (5 * (F x0 13))) + x3))) ≠ x1 then
        pd_l (pd_w (x3 + 1)) fun x3_35 =>
        pfX12_trustNamed_b2 sh n k F x0 x1 x3_35
      else
        some (x3, F)
def pfX12_trustNamed (sh : pd_S) (n : Nat) (F : pd_F) (x0 : Int) (x1 : Int) : Option (Int × pd_F) :=
  pfX12_trustNamed_b2 sh n n F x0 x1 0
def pfX12_accountNamed_b2 (sh : pd_S) (n : Nat)  : Nat → pd_F → Int → Int → Int → Option (Int × pd_F)
  | 0, _, _, _, _ => none
  | k + 1, F, x0, x1, x3 =>
    pd_i (pd_ob sh 12 x0 = true) <|
    pd_i (pd_ib sh 0 0 (F x0 16) (F x0 13) = true) <|
    if x3 ≥ (F (F x0 16) (F x0 13)) then
      some ((-1), F)
    else
      pd_i (pd_ib sh 1 0 (F x0 24) (pd_w ((pd_w (10 * (F x0 13))) + x3)) = true) <|
      if (F (F x0 24) (pd_w ((pd_w (10 * (F x0 13))) + x3))) ≠ x1 then
        pd_l (pd_w (x3 + 1)) fun x3_36 =>
        pfX12_accountNamed_b2 sh n k F x0 x1 x3_36
      else
        some (x3, F)
def pfX12_accountNamed (sh : pd_S) (n : Nat) (F : pd_F) (x0 : Int) (x1 : Int) : Option (Int × pd_F) :=
  pfX12_accountNamed_b2 sh n n F x0 x1 0
def pfX12_hasMark_b2 (sh : pd_S) (n : Nat)  : Nat → pd_F → Int → Int → Int → Int → Option (Int × pd_F)
  | 0, _, _, _, _, _ => none
  | k + 1, F, x0, x1, x2, x3 =>
    pd_i (pd_ob sh 12 x0 = true) <|
    pd_i (pd_ib sh 0 0 (F x0 20) x1 = true) <|
    if x3 ≥ (F (F x0 20) x1) then
      some (0, F)
    else
      pd_i (pd_ib sh 0 0 (F x0 21) (pd_w ((pd_w (3 * x1)) + x3)) = true) <|
      if (F (F x0 21) (pd_w ((pd_w (3 * x1)) + x3))) ≠ x2 then
        pd_l (pd_w (x3 + 1)) fun x3_28 =>
        pfX12_hasMark_b2 sh n k F x0 x1 x2 x3_28
      else
        some (1, F)
def pfX12_hasMark (sh : pd_S) (n : Nat) (F : pd_F) (x0 : Int) (x1 : Int) (x2 : Int) : Option (Int × pd_F) :=
  pfX12_hasMark_b2 sh n n F x0 x1 x2 0
def pfX12_isPart_b2 (sh : pd_S) (n : Nat)  : Nat → pd_F → Int → Int → Int → Int → Option (Int × pd_F)
  | 0, _, _, _, _, _ => none
  | k + 1, F, x0, x1, x2, x3 =>
    pd_i (pd_ob sh 12 x0 = true) <|
    pd_i (pd_ib sh 0 0 (F x0 26) x1 = true) <|
    if x3 ≥ (F (F x0 26) x1) then
      some (0, F)
    else
      pd_i (pd_ib sh 0 0 (F x0 27) (pd_w ((pd_w (5 * x1)) + x3)) = true) <|
      if (F (F x0 27) (pd_w ((pd_w (5 * x1)) + x3))) ≠ x2 then
        pd_l (pd_w (x3 + 1)) fun x3_28 =>
        pfX12_isPart_b2 sh n k F x0 x1 x2 x3_28
      else
        some (1, F)
def pfX12_isPart (sh : pd_S) (n : Nat) (F : pd_F) (x0 : Int) (x1 : Int) (x2 : Int) : Option (Int × pd_F) :=
  pfX12_isPart_b2 sh n n F x0 x1 x2 0
def pfX12_feed (sh : pd_S) (n : Nat) (F : pd_F) (x0 : Int) (x1 : Int) (x2 : Int) (x3 : Int) (x4 : Int) (x5 : Int) : Option (Int × pd_F) :=
  pd_i (pd_ob sh 12 x0 = true) <|
  pd_l (pd_up F x0 0 0) fun F2 =>
  if (pd_w ((F2 x0 2) + 20)) ≤ 1000 then
    Option.bind (pfX12_puts sh n F2 x0 x1) fun F3 =>
    Option.bind (pfX12_puts sh n F3 x0 x2) fun F4 =>
    Option.bind (pfX12_puts sh n F4 x0 x3) fun F5 =>
    Option.bind (pfX12_puts sh n F5 x0 x4) fun F6 =>
    Option.bind (pfX12_puts sh n F6 x0 x5) fun F7 =>
    some (F7 x0 2, F7)
  else
    some ((-1), F2)
def pfX12_steps_b34 (sh : pd_S) (n : Nat) (c8 : pd_F → Int → Option pd_F) (F : pd_F) (x0 : Int) : Option pd_F :=
  pd_i (pd_ob sh 12 x0 = true) <|
  pd_l (pd_up F x0 4 (pd_w ((F x0 4) + 1))) fun F2 =>
  c8 F2 x0
def pfX12_steps_b201 (sh : pd_S) (n : Nat) (c138 : pd_F → Int → Option pd_F) (F : pd_F) (x0 : Int) (t0 : Int) (t1 : Int) : Option pd_F :=
  pd_i (pd_ob sh 12 t1 = true) <|
  pd_l (pd_up F t1 8 t0) fun F4 =>
  pd_i (pd_ob sh 12 x0 = true) <|
  pd_l (pd_up F4 x0 5 (pd_w ((F4 x0 5) + 1))) fun F6 =>
  c138 F6 x0
def pfX12_steps_b217 (sh : pd_S) (n : Nat)  (F : pd_F) (x0 : Int) : Option pd_F :=
  pd_i (pd_ob sh 12 x0 = true) <|
  if (pd_w ((F x0 5) - (F x0 4))) ≥ 9 then
    pd_l (pd_up F x0 6 4) fun F8 =>
    some F8
  else
    pd_l (pd_up F x0 6 1) fun F9 =>
    some F9
def pfX12_steps_b138 (sh : pd_S) (n : Nat)  : Nat → pd_F → Int → Option pd_F
  | 0, _, _ => none
  | k + 1, F, x0 =>
    pd_i (pd_ob sh 12 x0 = true) <|
    Option.bind (pfX12_see sh n F x0 (F x0 5)) fun qr12 => pd_l qr12.1 fun r12 => pd_l qr12.2 fun F11 =>
    Option.bind (pfX12_within sh n F11 r12 97 122) fun qr14 => pd_l qr14.1 fun r14 => pd_l qr14.2 fun F13 =>
    if r14 = 0 then
      pfX12_steps_b217 sh n F13 x0
    else
      if (pd_w ((F13 x0 5) - (F13 x0 4))) ≥ 8 then
        pfX12_steps_b201 sh n (pfX12_steps_b138 sh n k) F13 x0 (F13 x0 8) x0
      else
        Option.bind (pfX12_see sh n F13 x0 (F13 x0 5)) fun qr16 => pd_l qr16.1 fun r16 => pd_l qr16.2 fun F15 =>
        pfX12_steps_b201 sh n (pfX12_steps_b138 sh n k) F15 x0 (pd_Or (pd_Shl (F13 x0 8) 5) (pd_W (r16 - 96))) x0
def pfX12_steps_b327 (sh : pd_S) (n : Nat) (c265 : pd_F → Int → Option pd_F) (F : pd_F) (x0 : Int) (t0 : Int) (t1 : Int) : Option pd_F :=
  pd_i (pd_ob sh 12 t1 = true) <|
  pd_l (pd_up F t1 7 t0) fun F18 =>
  pd_i (pd_ob sh 12 x0 = true) <|
  pd_l (pd_up F18 x0 5 (pd_w ((F18 x0 5) + 1))) fun F20 =>
  c265 F20 x0
def pfX12_steps_b343 (sh : pd_S) (n : Nat)  (F : pd_F) (x0 : Int) : Option pd_F :=
  pd_i (pd_ob sh 12 x0 = true) <|
  if (pd_w ((F x0 5) - (F x0 4))) ≥ 8 then
    pd_l (pd_up F x0 6 4) fun F22 =>
    some F22
  else
    pd_l (pd_up F x0 6 2) fun F23 =>
    some F23
def pfX12_steps_b265 (sh : pd_S) (n : Nat)  : Nat → pd_F → Int → Option pd_F
  | 0, _, _ => none
  | k + 1, F, x0 =>
    pd_i (pd_ob sh 12 x0 = true) <|
    Option.bind (pfX12_see sh n F x0 (F x0 5)) fun qr26 => pd_l qr26.1 fun r26 => pd_l qr26.2 fun F25 =>
    Option.bind (pfX12_within sh n F25 r26 48 57) fun qr28 => pd_l qr28.1 fun r28 => pd_l qr28.2 fun F27 =>
    if r28 = 0 then
      pfX12_steps_b343 sh n F27 x0
    else
      if (pd_w ((F27 x0 5) - (F27 x0 4))) ≥ 7 then
        pfX12_steps_b327 sh n (pfX12_steps_b265 sh n k) F27 x0 (F27 x0 7) x0
      else
        Option.bind (pfX12_see sh n F27 x0 (F27 x0 5)) fun qr30 => pd_l qr30.1 fun r30 => pd_l qr30.2 fun F29 =>
        pfX12_steps_b327 sh n (pfX12_steps_b265 sh n k) F29 x0 (pd_w ((pd_w ((pd_w (10 * (F27 x0 7))) + r30)) - 48)) x0
def pfX12_steps_b47 (sh : pd_S) (n : Nat)  (F : pd_F) (x0 : Int) : Option pd_F :=
  pd_i (pd_ob sh 12 x0 = true) <|
  Option.bind (pfX12_see sh n F x0 (F x0 4)) fun qr33 => pd_l qr33.1 fun r33 => pd_l qr33.2 fun F32 =>
  pd_l (pd_up F32 x0 5 (pd_w ((F32 x0 4) + 1))) fun F34 =>
  pd_l (pd_up F34 x0 6 4) fun F35 =>
  pd_l (pd_up F35 x0 7 0) fun F36 =>
  pd_l (pd_up F36 x0 8 0) fun F37 =>
  if r33 ≠ (-1) then
    if r33 ≠ 59 then
      Option.bind (pfX12_within sh n F37 r33 97 122) fun qr39 => pd_l qr39.1 fun r39 => pd_l qr39.2 fun F38 =>
      if r39 = 0 then
        Option.bind (pfX12_within sh n F38 r33 48 57) fun qr41 => pd_l qr41.1 fun r41 => pd_l qr41.2 fun F40 =>
        if r41 = 0 then
          some F40
        else
          pd_l (pd_up F40 x0 5 (F40 x0 4)) fun F42 =>
          pfX12_steps_b265 sh n n F42 x0
      else
        pd_l (pd_up F38 x0 5 (F38 x0 4)) fun F43 =>
        pfX12_steps_b138 sh n n F43 x0
    else
      pd_l (pd_up F37 x0 6 3) fun F44 =>
      some F44
  else
    pd_l (pd_up F37 x0 5 (F37 x0 4)) fun F45 =>
    pd_l (pd_up F45 x0 6 0) fun F46 =>
    some F46
def pfX12_steps_b8 (sh : pd_S) (n : Nat)  : Nat → pd_F → Int → Option pd_F
  | 0, _, _ => none
  | k + 1, F, x0 =>
    pd_i (pd_ob sh 12 x0 = true) <|
    Option.bind (pfX12_see sh n F x0 (F x0 4)) fun qr49 => pd_l qr49.1 fun r49 => pd_l qr49.2 fun F48 =>
    if r49 = 32 then
      pfX12_steps_b34 sh n (pfX12_steps_b8 sh n k) F48 x0
    else
      Option.bind (pfX12_see sh n F48 x0 (F48 x0 4)) fun qr51 => pd_l qr51.1 fun r51 => pd_l qr51.2 fun F50 =>
      if r51 ≠ 10 then
        pfX12_steps_b47 sh n F50 x0
      else
        pfX12_steps_b34 sh n (pfX12_steps_b8 sh n k) F50 x0
def pfX12_steps (sh : pd_S) (n : Nat) (F : pd_F) (x0 : Int) : Option pd_F :=
  pd_i (pd_ob sh 12 x0 = true) <|
  pd_l (pd_up F x0 4 (F x0 5)) fun F53 =>
  pfX12_steps_b8 sh n n F53 x0
def pfX12_is (sh : pd_S) (n : Nat) (F : pd_F) (x0 : Int) (x1 : Int) : Option (Int × pd_F) :=
  pd_i (pd_ob sh 12 x0 = true) <|
  if (F x0 6) ≠ 1 then
    some (0, F)
  else
    Option.bind (pfX12_spelled sh n F x1) fun qr3 => pd_l qr3.1 fun r3 => pd_l qr3.2 fun F2 =>
    if (F x0 8) ≠ r3 then
      some (0, F2)
    else
      some (1, F2)
def pfX12_partNamed (sh : pd_S) (n : Nat) (F : pd_F) (x0 : Int) : Option (Int × pd_F) :=
  pd_i (pd_ob sh 12 x0 = true) <|
  Option.bind (pfX12_personNamed sh n F x0 (F x0 8)) fun qr3 => pd_l qr3.1 fun r3 => pd_l qr3.2 fun F2 =>
  if r3 < 0 then
    Option.bind (pfX12_trustNamed sh n F2 x0 (F2 x0 8)) fun qr5 => pd_l qr5.1 fun r5 => pd_l qr5.2 fun F4 =>
    if r5 < 0 then
      some ((-1), F4)
    else
      Option.bind (pfX12_trustNamed sh n F4 x0 (F4 x0 8)) fun qr7 => pd_l qr7.1 fun r7 => pd_l qr7.2 fun F6 =>
      some (pd_w (16 + r7), F6)
  else
    Option.bind (pfX12_personNamed sh n F2 x0 (F2 x0 8)) fun qr9 => pd_l qr9.1 fun r9 => pd_l qr9.2 fun F8 =>
    some (r9, F8)
def pfX12_isOwn (sh : pd_S) (n : Nat) (F : pd_F) (x0 : Int) : Option (Int × pd_F) :=
  pd_i (pd_ob sh 12 x0 = true) <|
  Option.bind (pfX12_is sh n F x0 (-4)) fun qr2 => pd_l qr2.1 fun r2 => pd_l qr2.2 fun F1 =>
  if r2 ≠ 0 then
    some (1, F1)
  else
    Option.bind (pfX12_is sh n F1 x0 (-12)) fun qr5 => pd_l qr5.1 fun r5 => pd_l qr5.2 fun F4 =>
    if r5 ≠ 0 then
      some (1, F4)
    else
      Option.bind (pfX12_is sh n F4 x0 (-5)) fun qr7 => pd_l qr7.1 fun r7 => pd_l qr7.2 fun F6 =>
      if r7 ≠ 0 then
        some (1, F6)
      else
        Option.bind (pfX12_is sh n F6 x0 (-6)) fun qr9 => pd_l qr9.1 fun r9 => pd_l qr9.2 fun F8 =>
        if r9 ≠ 0 then
          some (1, F8)
        else
          Option.bind (pfX12_is sh n F8 x0 (-13)) fun qr11 => pd_l qr11.1 fun r11 => pd_l qr11.2 fun F10 =>
          if r11 ≠ 0 then
            some (1, F10)
          else
            Option.bind (pfX12_is sh n F10 x0 (-7)) fun qr13 => pd_l qr13.1 fun r13 => pd_l qr13.2 fun F12 =>
            if r13 ≠ 0 then
              some (1, F12)
            else
              Option.bind (pfX12_is sh n F12 x0 (-14)) fun qr15 => pd_l qr15.1 fun r15 => pd_l qr15.2 fun F14 =>
              if r15 ≠ 0 then
                some (1, F14)
              else
                Option.bind (pfX12_is sh n F14 x0 (-15)) fun qr17 => pd_l qr17.1 fun r17 => pd_l qr17.2 fun F16 =>
                if r17 ≠ 0 then
                  some (1, F16)
                else
                  Option.bind (pfX12_is sh n F16 x0 (-8)) fun qr19 => pd_l qr19.1 fun r19 => pd_l qr19.2 fun F18 =>
                  if r19 ≠ 0 then
                    some (1, F18)
                  else
                    Option.bind (pfX12_is sh n F18 x0 (-16)) fun qr21 => pd_l qr21.1 fun r21 => pd_l qr21.2 fun F20 =>
                    if r21 ≠ 0 then
                      some (1, F20)
                    else
                      Option.bind (pfX12_is sh n F20 x0 (-10)) fun qr23 => pd_l qr23.1 fun r23 => pd_l qr23.2 fun F22 =>
                      if r23 ≠ 0 then
                        some (1, F22)
                      else
                        Option.bind (pfX12_is sh n F22 x0 (-11)) fun qr25 => pd_l qr25.1 fun r25 => pd_l qr25.2 fun F24 =>
                        if r25 ≠ 0 then
                          some (1, F24)
                        else
                          Option.bind (pfX12_is sh n F24 x0 (-9)) fun qr27 => pd_l qr27.1 fun r27 => pd_l qr27.2 fun F26 =>
                          if r27 = 0 then
                            some (0, F26)
                          else
                            some (1, F26)
def pfX12_takes (sh : pd_S) (n : Nat) (F : pd_F) (x0 : Int) (x1 : Int) : Option (Int × pd_F) :=
  pd_i (pd_ob sh 12 x0 = true) <|
  Option.bind (pfX12_is sh n F x0 x1) fun qr2 => pd_l qr2.1 fun r2 => pd_l qr2.2 fun F1 =>
  Option.bind (pfX12_must sh n F1 x0 r2 1) fun qr5 => pd_l qr5.1 fun r5 => pd_l qr5.2 fun F4 =>
  if r5 ≠ 0 then
    Option.bind (pfX12_steps sh n F4 x0) fun F6 =>
    some (1, F6)
  else
    some (0, F4)
def pfX12_takesNumber_b14 (sh : pd_S) (n : Nat)  (F : pd_F) (x0 : Int) (x1 : Int) (x2 : Int) (t0 : Int) (t1 : Int) : Option (Int × pd_F) :=
  pd_i (pd_ob sh 12 t1 = true) <|
  Option.bind (pfX12_must sh n F t1 t0 1) fun qr2 => pd_l qr2.1 fun r2 => pd_l qr2.2 fun F1 =>
  if r2 = 0 then
    some (0, F1)
  else
    pd_i (pd_ob sh 12 x0 = true) <|
    Option.bind (pfX12_within sh n F1 (F1 x0 7) x1 x2) fun qr6 => pd_l qr6.1 fun r6 => pd_l qr6.2 fun F5 =>
    Option.bind (pfX12_must sh n F5 x0 r6 4) fun qr8 => pd_l qr8.1 fun r8 => pd_l qr8.2 fun F7 =>
    if r8 ≠ 0 then
      pd_l (pd_up F7 x0 11 (F7 x0 7)) fun F9 =>
      Option.bind (pfX12_steps sh n F9 x0) fun F10 =>
      some (1, F10)
    else
      some (0, F7)
def pfX12_takesNumber (sh : pd_S) (n : Nat) (F : pd_F) (x0 : Int) (x1 : Int) (x2 : Int) : Option (Int × pd_F) :=
  pd_i (pd_ob sh 12 x0 = true) <|
  if (F x0 6) ≠ 2 then
    pfX12_takesNumber_b14 sh n F x0 x1 x2 0 x0
  else
    pfX12_takesNumber_b14 sh n F x0 x1 x2 1 x0
def pfX12_isName (sh : pd_S) (n : Nat) (F : pd_F) (x0 : Int) : Option (Int × pd_F) :=
  pd_i (pd_ob sh 12 x0 = true) <|
  if (F x0 6) ≠ 1 then
    some (0, F)
  else
    Option.bind (pfX12_isOwn sh n F x0) fun qr3 => pd_l qr3.1 fun r3 => pd_l qr3.2 fun F2 =>
    if r3 ≠ 0 then
      some (0, F2)
    else
      some (1, F2)
def pfX12_onceLine_b50 (sh : pd_S) (n : Nat)  (F : pd_F) (x0 : Int) (x1 : Int) (t0 : Int) (t1 : Int) (t2 : Int) : Option (Int × pd_F) :=
  pd_i (pd_ob sh 12 t2 = true) <|
  Option.bind (pfX12_takesNumber sh n F t2 t1 t0) fun qr2 => pd_l qr2.1 fun r2 => pd_l qr2.2 fun F1 =>
  if r2 ≠ 0 then
    pd_i (pd_ob sh 12 x0 = true) <|
    pd_i (pd_ib sh 0 0 (F1 x0 36) x1 = true) <|
    pd_l (pd_up F1 (F1 x0 36) x1 (F1 x0 11)) fun F6 =>
    some (1, F6)
  else
    some (0, F1)
def pfX12_onceLine_b15 (sh : pd_S) (n : Nat)  (F : pd_F) (x0 : Int) (x1 : Int) (t0 : Int) (t1 : Int) : Option (Int × pd_F) :=
  pd_i (pd_ob sh 12 t1 = true) <|
  Option.bind (pfX12_must sh n F t1 t0 2) fun qr8 => pd_l qr8.1 fun r8 => pd_l qr8.2 fun F7 =>
  if r8 ≠ 0 then
    pd_i (pd_ob sh 12 x0 = true) <|
    pd_i (pd_ib sh 0 2 (F7 x0 37) x1 = true) <|
    pd_l (pd_up F7 (F7 x0 37) x1 1) fun F12 =>
    Option.bind (pfX12_steps sh n F12 x0) fun F13 =>
    if x1 ≠ 0 then
      pfX12_onceLine_b50 sh n F13 x0 x1 9999999 0 x0
    else
      pfX12_onceLine_b50 sh n F13 x0 x1 999 0 x0
  else
    some (0, F7)
def pfX12_onceLine (sh : pd_S) (n : Nat) (F : pd_F) (x0 : Int) (x1 : Int) : Option (Int × pd_F) :=
  pd_i (pd_ob sh 12 x0 = true) <|
  pd_i (pd_ib sh 0 2 (F x0 37) x1 = true) <|
  if (F (F x0 37) x1) ≠ 0 then
    pfX12_onceLine_b15 sh n F x0 x1 0 x0
  else
    pfX12_onceLine_b15 sh n F x0 x1 1 x0
def pfX12_newName_b51 (sh : pd_S) (n : Nat)  (F : pd_F) (x0 : Int) (t0 : Int) (t1 : Int) : Option (Int × pd_F) :=
  pd_i (pd_ob sh 12 t1 = true) <|
  Option.bind (pfX12_must sh n F t1 t0 2) fun qr2 => pd_l qr2.1 fun r2 => pd_l qr2.2 fun F1 =>
  if r2 ≠ 0 then
    pd_i (pd_ob sh 12 x0 = true) <|
    pd_l (pd_up F1 x0 38 (F1 x0 8)) fun F5 =>
    Option.bind (pfX12_steps sh n F5 x0) fun F6 =>
    some (1, F6)
  else
    some (0, F1)
def pfX12_newName_b50 (sh : pd_S) (n : Nat)  (F : pd_F) (x0 : Int) (t0 : Int) : Option (Int × pd_F) :=
  pfX12_newName_b51 sh n F x0 0 t0
def pfX12_newName (sh : pd_S) (n : Nat) (F : pd_F) (x0 : Int) : Option (Int × pd_F) :=
  pd_i (pd_ob sh 12 x0 = true) <|
  Option.bind (pfX12_isName sh n F x0) fun qr8 => pd_l qr8.1 fun r8 => pd_l qr8.2 fun F7 =>
  Option.bind (pfX12_must sh n F7 x0 r8 1) fun qr11 => pd_l qr11.1 fun r11 => pd_l qr11.2 fun F10 =>
  if r11 = 0 then
    some (0, F10)
  else
    Option.bind (pfX12_personNamed sh n F10 x0 (F10 x0 8)) fun qr13 => pd_l qr13.1 fun r13 => pd_l qr13.2 fun F12 =>
    if r13 ≥ 0 then
      pfX12_newName_b50 sh n F12 x0 x0
    else
      Option.bind (pfX12_trustNamed sh n F12 x0 (F12 x0 8)) fun qr15 => pd_l qr15.1 fun r15 => pd_l qr15.2 fun F14 =>
      if r15 ≥ 0 then
        pfX12_newName_b50 sh n F14 x0 x0
      else
        Option.bind (pfX12_accountNamed sh n F14 x0 (F14 x0 8)) fun qr17 => pd_l qr17.1 fun r17 => pd_l qr17.2 fun F16 =>
        if r17 ≥ 0 then
          pfX12_newName_b50 sh n F16 x0 x0
        else
          pfX12_newName_b51 sh n F16 x0 1 x0
def pfX12_partsHere_b93 (sh : pd_S) (n : Nat) (c7 : pd_F → Int → Int → Option (Int × pd_F)) (F : pd_F) (x0 : Int) (x1 : Int) (x2 : Int) (t0 : Int) (t1 : Int) : Option (Int × pd_F) :=
  pd_i (pd_ob sh 12 t1 = true) <|
  Option.bind (pfX12_must sh n F t1 t0 5) fun qr2 => pd_l qr2.1 fun r2 => pd_l qr2.2 fun F1 =>
  if r2 ≠ 0 then
    pd_i (pd_ob sh 12 x0 = true) <|
    Option.bind (pfX12_steps sh n F1 x0) fun F4 =>
    Option.bind (pfX12_takesNumber sh n F4 x0 0 99) fun qr7 => pd_l qr7.1 fun r7 => pd_l qr7.2 fun F6 =>
    if r7 ≠ 0 then
      pd_i (pd_ib sh 0 0 (F6 x0 26) x1 = true) <|
      pd_l (pd_w ((pd_w (5 * x1)) + (F6 (F6 x0 26) x1))) fun x3_128 =>
      pd_i (pd_ib sh 0 0 (F6 x0 27) x3_128 = true) <|
      pd_l (pd_up F6 (F6 x0 27) x3_128 x2) fun F10 =>
      pd_i (pd_ib sh 0 0 (F10 x0 28) x3_128 = true) <|
      pd_l (pd_up F10 (F10 x0 28) x3_128 (F10 x0 11)) fun F12 =>
      pd_i (pd_ib sh 0 0 (F12 x0 26) x1 = true) <|
      pd_l (pd_up F12 (F12 x0 26) x1 (pd_w ((F12 (F12 x0 26) x1) + 1))) fun F14 =>
      c7 F14 x0 x1
    else
      some (0, F6)
  else
    some (0, F1)
def pfX12_partsHere_b70 (sh : pd_S) (n : Nat) (c7 : pd_F → Int → Int → Option (Int × pd_F)) (F : pd_F) (x0 : Int) (x1 : Int) (x2 : Int) (t0 : Int) (t1 : Int) : Option (Int × pd_F) :=
  pd_i (pd_ob sh 12 t1 = true) <|
  Option.bind (pfX12_must sh n F t1 t0 3) fun qr16 => pd_l qr16.1 fun r16 => pd_l qr16.2 fun F15 =>
  if r16 = 0 then
    some (0, F15)
  else
    pd_i (pd_ob sh 12 x0 = true) <|
    pd_i (pd_ib sh 0 0 (F15 x0 26) x1 = true) <|
    if (F15 (F15 x0 26) x1) ≥ 5 then
      pfX12_partsHere_b93 sh n c7 F15 x0 x1 x2 0 x0
    else
      pfX12_partsHere_b93 sh n c7 F15 x0 x1 x2 1 x0
def pfX12_partsHere_b53 (sh : pd_S) (n : Nat) (c7 : pd_F → Int → Int → Option (Int × pd_F)) (F : pd_F) (x0 : Int) (x1 : Int) (x2 : Int) (t0 : Int) (t1 : Int) : Option (Int × pd_F) :=
  pd_i (pd_ob sh 12 t1 = true) <|
  Option.bind (pfX12_must sh n F t1 t0 2) fun qr21 => pd_l qr21.1 fun r21 => pd_l qr21.2 fun F20 =>
  if r21 = 0 then
    some (0, F20)
  else
    if x2 < 0 then
      pfX12_partsHere_b70 sh n c7 F20 x0 x1 x2 0 x0
    else
      pfX12_partsHere_b70 sh n c7 F20 x0 x1 x2 1 x0
def pfX12_partsHere_b48 (sh : pd_S) (n : Nat) (c7 : pd_F → Int → Int → Option (Int × pd_F)) (F : pd_F) (x0 : Int) (x1 : Int) (x2 : Int) (t0 : Int) : Option (Int × pd_F) :=
  pfX12_partsHere_b53 sh n c7 F x0 x1 x2 1 t0
def pfX12_partsHere_b7 (sh : pd_S) (n : Nat)  : Nat → pd_F → Int → Int → Option (Int × pd_F)
  | 0, _, _, _ => none
  | k + 1, F, x0, x1 =>
    pd_i (pd_ob sh 12 x0 = true) <|
    if (F x0 6) ≠ 1 then
      some (1, F)
    else
      Option.bind (pfX12_isName sh n F x0) fun qr25 => pd_l qr25.1 fun r25 => pd_l qr25.2 fun F24 =>
      Option.bind (pfX12_must sh n F24 x0 r25 1) fun qr27 => pd_l qr27.1 fun r27 => pd_l qr27.2 fun F26 =>
      if r27 ≠ 0 then
        Option.bind (pfX12_partNamed sh n F26 x0) fun qr29 => pd_l qr29.1 fun r29 => pd_l qr29.2 fun F28 =>
        if r29 < 0 then
          pfX12_partsHere_b48 sh n (pfX12_partsHere_b7 sh n k) F28 x0 x1 r29 x0
        else
          Option.bind (pfX12_isPart sh n F28 x0 x1 r29) fun qr31 => pd_l qr31.1 fun r31 => pd_l qr31.2 fun F30 =>
          if r31 ≠ 0 then
            pfX12_partsHere_b53 sh n (pfX12_partsHere_b7 sh n k) F30 x0 x1 r29 0 x0
          else
            pfX12_partsHere_b48 sh n (pfX12_partsHere_b7 sh n k) F30 x0 x1 r29 x0
      else
        some (0, F26)
def pfX12_partsHere (sh : pd_S) (n : Nat) (F : pd_F) (x0 : Int) (x1 : Int) : Option (Int × pd_F) :=
  pd_i (pd_ob sh 12 x0 = true) <|
  pd_i (pd_ib sh 0 0 (F x0 26) x1 = true) <|
  pd_l (pd_up F (F x0 26) x1 0) fun F34 =>
  pfX12_partsHere_b7 sh n n F34 x0 x1
def pfX12_highLine_b31 (sh : pd_S) (n : Nat)  (F : pd_F) (x0 : Int) (x1 : Int) (t0 : Int) (t1 : Int) : Option (Int × pd_F) :=
  pd_i (pd_ob sh 12 t1 = true) <|
  Option.bind (pfX12_must sh n F t1 t0 3) fun qr2 => pd_l qr2.1 fun r2 => pd_l qr2.2 fun F1 =>
  if r2 ≠ 0 then
    pd_i (pd_ob sh 12 x0 = true) <|
    pd_i (pd_ib sh 0 0 (F1 x0 17) (F1 x0 13) = true) <|
    pd_l (pd_w ((pd_w (6 * (F1 x0 13))) + (F1 (F1 x0 17) (F1 x0 13)))) fun x2_57 =>
    pd_i (pd_ib sh 0 0 (F1 x0 29) x2_57 = true) <|
    pd_l (pd_up F1 (F1 x0 29) x2_57 x1) fun F7 =>
    Option.bind (pfX12_steps sh n F7 x0) fun F8 =>
    Option.bind (pfX12_takesNumber sh n F8 x0 0 9999999) fun qr10 => pd_l qr10.1 fun r10 => pd_l qr10.2 fun F9 =>
    if r10 ≠ 0 then
      pd_i (pd_ib sh 0 0 (F9 x0 30) x2_57 = true) <|
      pd_l (pd_up F9 (F9 x0 30) x2_57 (F9 x0 11)) fun F12 =>
      Option.bind (pfX12_takes sh n F12 x0 (-14)) fun qr14 => pd_l qr14.1 fun r14 => pd_l qr14.2 fun F13 =>
      if r14 = 0 then
        some (0, F13)
      else
        Option.bind (pfX12_takesNumber sh n F13 x0 0 999) fun qr16 => pd_l qr16.1 fun r16 => pd_l qr16.2 fun F15 =>
        if r16 ≠ 0 then
          pd_i (pd_ib sh 0 0 (F15 x0 31) x2_57 = true) <|
          pd_l (pd_up F15 (F15 x0 31) x2_57 (F15 x0 11)) fun F18 =>
          Option.bind (pfX12_takes sh n F18 x0 (-15)) fun qr20 => pd_l qr20.1 fun r20 => pd_l qr20.2 fun F19 =>
          if r20 = 0 then
            some (0, F19)
          else
            pd_i (pd_ib sh 0 0 (F19 x0 31) x2_57 = true) <|
            Option.bind (pfX12_takesNumber sh n F19 x0 (F19 (F19 x0 31) x2_57) 999) fun qr23 => pd_l qr23.1 fun r23 => pd_l qr23.2 fun F22 =>
            if r23 ≠ 0 then
              pd_i (pd_ib sh 0 0 (F22 x0 32) x2_57 = true) <|
              pd_l (pd_up F22 (F22 x0 32) x2_57 (F22 x0 11)) fun F25 =>
              pd_i (pd_ib sh 0 0 (F25 x0 17) (F25 x0 13) = true) <|
              pd_l (pd_up F25 (F25 x0 17) (F25 x0 13) (pd_w ((F25 (F25 x0 17) (F25 x0 13)) + 1))) fun F27 =>
              some (1, F27)
            else
              some (0, F22)
        else
          some (0, F15)
    else
      some (0, F9)
  else
    some (0, F1)
def pfX12_highLine (sh : pd_S) (n : Nat) (F : pd_F) (x0 : Int) : Option (Int × pd_F) :=
  pd_i (pd_ob sh 12 x0 = true) <|
  Option.bind (pfX12_accountNamed sh n F x0 (F x0 8)) fun qr30 => pd_l qr30.1 fun r30 => pd_l qr30.2 fun F29 =>
  Option.bind (pfX12_isName sh n F29 x0) fun qr32 => pd_l qr32.1 fun r32 => pd_l qr32.2 fun F31 =>
  Option.bind (pfX12_must sh n F31 x0 r32 1) fun qr34 => pd_l qr34.1 fun r34 => pd_l qr34.2 fun F33 =>
  if r34 = 0 then
    some (0, F33)
  else
    if r30 < 0 then
      pfX12_highLine_b31 sh n F33 x0 r30 0 x0
    else
      pfX12_highLine_b31 sh n F33 x0 r30 1 x0
def pfX12_loanLine_b31 (sh : pd_S) (n : Nat)  (F : pd_F) (x0 : Int) (x1 : Int) (t0 : Int) (t1 : Int) : Option (Int × pd_F) :=
  pd_i (pd_ob sh 12 t1 = true) <|
  Option.bind (pfX12_must sh n F t1 t0 3) fun qr2 => pd_l qr2.1 fun r2 => pd_l qr2.2 fun F1 =>
  if r2 ≠ 0 then
    pd_i (pd_ob sh 12 x0 = true) <|
    pd_i (pd_ib sh 0 0 (F1 x0 18) (F1 x0 13) = true) <|
    pd_l (pd_w ((pd_w (8 * (F1 x0 13))) + (F1 (F1 x0 18) (F1 x0 13)))) fun x2_57 =>
    pd_i (pd_ib sh 0 0 (F1 x0 33) x2_57 = true) <|
    pd_l (pd_up F1 (F1 x0 33) x2_57 x1) fun F7 =>
    Option.bind (pfX12_steps sh n F7 x0) fun F8 =>
    Option.bind (pfX12_takesNumber sh n F8 x0 0 9999999) fun qr10 => pd_l qr10.1 fun r10 => pd_l qr10.2 fun F9 =>
    if r10 ≠ 0 then
      pd_i (pd_ib sh 0 0 (F9 x0 34) x2_57 = true) <|
      pd_l (pd_up F9 (F9 x0 34) x2_57 (F9 x0 11)) fun F12 =>
      Option.bind (pfX12_takes sh n F12 x0 (-16)) fun qr14 => pd_l qr14.1 fun r14 => pd_l qr14.2 fun F13 =>
      if r14 = 0 then
        some (0, F13)
      else
        Option.bind (pfX12_takesNumber sh n F13 x0 0 999) fun qr16 => pd_l qr16.1 fun r16 => pd_l qr16.2 fun F15 =>
        if r16 ≠ 0 then
          pd_i (pd_ib sh 0 0 (F15 x0 35) x2_57 = true) <|
          pd_l (pd_up F15 (F15 x0 35) x2_57 (F15 x0 11)) fun F18 =>
          pd_i (pd_ib sh 0 0 (F18 x0 18) (F18 x0 13) = true) <|
          pd_l (pd_up F18 (F18 x0 18) (F18 x0 13) (pd_w ((F18 (F18 x0 18) (F18 x0 13)) + 1))) fun F20 =>
          some (1, F20)
        else
          some (0, F15)
    else
      some (0, F9)
  else
    some (0, F1)
def pfX12_loanLine (sh : pd_S) (n : Nat) (F : pd_F) (x0 : Int) : Option (Int × pd_F) :=
  pd_i (pd_ob sh 12 x0 = true) <|
  Option.bind (pfX12_personNamed sh n F x0 (F x0 8)) fun qr23 => pd_l qr23.1 fun r23 => pd_l qr23.2 fun F22 =>
  Option.bind (pfX12_isName sh n F22 x0) fun qr25 => pd_l qr25.1 fun r25 => pd_l qr25.2 fun F24 =>
  Option.bind (pfX12_must sh n F24 x0 r25 1) fun qr27 => pd_l qr27.1 fun r27 => pd_l qr27.2 fun F26 =>
  if r27 = 0 then
    some (0, F26)
  else
    if r23 < 0 then
      pfX12_loanLine_b31 sh n F26 x0 r23 0 x0
    else
      pfX12_loanLine_b31 sh n F26 x0 r23 1 x0
def pfX12_personLine_b120 (sh : pd_S) (n : Nat) (c51 : pd_F → Int → Int → Option (Int × pd_F)) (F : pd_F) (x0 : Int) (x1 : Int) (t0 : Int) (t1 : Int) : Option (Int × pd_F) :=
  pd_i (pd_ob sh 12 t1 = true) <|
  Option.bind (pfX12_must sh n F t1 t0 5) fun qr2 => pd_l qr2.1 fun r2 => pd_l qr2.2 fun F1 =>
  if r2 ≠ 0 then
    pd_i (pd_ob sh 12 x0 = true) <|
    pd_i (pd_ib sh 0 0 (F1 x0 20) x1 = true) <|
    pd_i (pd_ib sh 0 0 (F1 x0 21) (pd_w ((pd_w (3 * x1)) + (F1 (F1 x0 20) x1))) = true) <|
    pd_l (pd_up F1 (F1 x0 21) (pd_w ((pd_w (3 * x1)) + (F1 (F1 x0 20) x1))) (F1 x0 7)) fun F7 =>
    pd_i (pd_ib sh 0 0 (F7 x0 20) x1 = true) <|
    pd_l (pd_up F7 (F7 x0 20) x1 (pd_w ((F7 (F7 x0 20) x1) + 1))) fun F9 =>
    Option.bind (pfX12_steps sh n F9 x0) fun F10 =>
    c51 F10 x0 x1
  else
    some (0, F1)
def pfX12_personLine_b77 (sh : pd_S) (n : Nat) (c51 : pd_F → Int → Int → Option (Int × pd_F)) (F : pd_F) (x0 : Int) (x1 : Int) (t0 : Int) (t1 : Int) : Option (Int × pd_F) :=
  pd_i (pd_ob sh 12 t1 = true) <|
  Option.bind (pfX12_must sh n F t1 t0 2) fun qr12 => pd_l qr12.1 fun r12 => pd_l qr12.2 fun F11 =>
  if r12 = 0 then
    some (0, F11)
  else
    pd_i (pd_ob sh 12 x0 = true) <|
    Option.bind (pfX12_within sh n F11 (F11 x0 7) 1 9999) fun qr16 => pd_l qr16.1 fun r16 => pd_l qr16.2 fun F15 =>
    Option.bind (pfX12_must sh n F15 x0 r16 4) fun qr18 => pd_l qr18.1 fun r18 => pd_l qr18.2 fun F17 =>
    if r18 = 0 then
      some (0, F17)
    else
      pd_i (pd_ib sh 0 0 (F17 x0 20) x1 = true) <|
      if (F17 (F17 x0 20) x1) ≥ 3 then
        pfX12_personLine_b120 sh n c51 F17 x0 x1 0 x0
      else
        pfX12_personLine_b120 sh n c51 F17 x0 x1 1 x0
def pfX12_personLine_b185 (sh : pd_S) (n : Nat)  (F : pd_F) (x0 : Int) : Option (Int × pd_F) :=
  pd_i (pd_ob sh 12 x0 = true) <|
  pd_i (pd_ib sh 0 0 (F x0 14) (F x0 13) = true) <|
  pd_l (pd_up F (F x0 14) (F x0 13) (pd_w ((F (F x0 14) (F x0 13)) + 1))) fun F22 =>
  some (1, F22)
def pfX12_personLine_b165 (sh : pd_S) (n : Nat)  (F : pd_F) (x0 : Int) (x1 : Int) : Option (Int × pd_F) :=
  pd_i (pd_ob sh 12 x0 = true) <|
  Option.bind (pfX12_is sh n F x0 (-12)) fun qr24 => pd_l qr24.1 fun r24 => pd_l qr24.2 fun F23 =>
  if r24 = 0 then
    pfX12_personLine_b185 sh n F23 x0
  else
    pd_i (pd_ib sh 0 2 (F23 x0 22) x1 = true) <|
    pd_l (pd_up F23 (F23 x0 22) x1 1) fun F27 =>
    Option.bind (pfX12_steps sh n F27 x0) fun F28 =>
    pfX12_personLine_b185 sh n F28 x0
def pfX12_personLine_b51 (sh : pd_S) (n : Nat)  : Nat → pd_F → Int → Int → Option (Int × pd_F)
  | 0, _, _, _ => none
  | k + 1, F, x0, x1 =>
    pd_i (pd_ob sh 12 x0 = true) <|
    if (F x0 6) ≠ 2 then
      pfX12_personLine_b165 sh n F x0 x1
    else
      Option.bind (pfX12_hasMark sh n F x0 x1 (F x0 7)) fun qr31 => pd_l qr31.1 fun r31 => pd_l qr31.2 fun F30 =>
      if r31 ≠ 0 then
        pfX12_personLine_b77 sh n (pfX12_personLine_b51 sh n k) F30 x0 x1 0 x0
      else
        pfX12_personLine_b77 sh n (pfX12_personLine_b51 sh n k) F30 x0 x1 1 x0
def pfX12_personLine (sh : pd_S) (n : Nat) (F : pd_F) (x0 : Int) : Option (Int × pd_F) :=
  pd_i (pd_ob sh 12 x0 = true) <|
  Option.bind (pfX12_newName sh n F x0) fun qr33 => pd_l qr33.1 fun r33 => pd_l qr33.2 fun F32 =>
  if r33 ≠ 0 then
    pd_i (pd_ib sh 0 0 (F32 x0 14) (F32 x0 13) = true) <|
    pd_l (pd_w ((pd_w (12 * (F32 x0 13))) + (F32 (F32 x0 14) (F32 x0 13)))) fun x1_26 =>
    pd_i (pd_ib sh 1 0 (F32 x0 19) x1_26 = true) <|
    pd_l (pd_up F32 (F32 x0 19) x1_26 (F32 x0 38)) fun F37 =>
    pd_i (pd_ib sh 0 0 (F37 x0 20) x1_26 = true) <|
    pd_l (pd_up F37 (F37 x0 20) x1_26 0) fun F39 =>
    pd_i (pd_ib sh 0 2 (F39 x0 22) x1_26 = true) <|
    pd_l (pd_up F39 (F39 x0 22) x1_26 0) fun F41 =>
    pfX12_personLine_b51 sh n n F41 x0 x1_26
  else
    some (0, F32)
def pfX12_trustLine (sh : pd_S) (n : Nat) (F : pd_F) (x0 : Int) : Option (Int × pd_F) :=
  pd_i (pd_ob sh 12 x0 = true) <|
  Option.bind (pfX12_newName sh n F x0) fun qr2 => pd_l qr2.1 fun r2 => pd_l qr2.2 fun F1 =>
  if r2 ≠ 0 then
    pd_i (pd_ib sh 0 0 (F1 x0 15) (F1 x0 13) = true) <|
    pd_l (F1 (F1 x0 15) (F1 x0 13)) fun x1_18 =>
    pd_l (F1 x0 38) fun x2_23 =>
    Option.bind (pfX12_partsHere sh n F1 x0 (pd_w ((pd_w (15 * (F1 x0 13))) + x1_18))) fun qr6 => pd_l qr6.1 fun r6 => pd_l qr6.2 fun F5 =>
    if r6 ≠ 0 then
      pd_i (pd_ib sh 1 0 (F5 x0 23) (pd_w ((pd_w (5 * (F5 x0 13))) + x1_18)) = true) <|
      pd_l (pd_up F5 (F5 x0 23) (pd_w ((pd_w (5 * (F5 x0 13))) + x1_18)) x2_23) fun F8 =>
      pd_i (pd_ib sh 0 0 (F8 x0 15) (F8 x0 13) = true) <|
      pd_l (pd_up F8 (F8 x0 15) (F8 x0 13) (pd_w ((F8 (F8 x0 15) (F8 x0 13)) + 1))) fun F10 =>
      some (1, F10)
    else
      some (0, F5)
  else
    some (0, F1)
def pfX12_accountLine_b102 (sh : pd_S) (n : Nat)  (F : pd_F) (x0 : Int) (x1 : Int) (x2 : Int) (t0 : Int) (t1 : Int) : Option (Int × pd_F) :=
  pd_i (pd_ob sh 12 t1 = true) <|
  Option.bind (pfX12_must sh n F t1 t0 1) fun qr2 => pd_l qr2.1 fun r2 => pd_l qr2.2 fun F1 =>
  if r2 ≠ 0 then
    pd_i (pd_ob sh 12 x0 = true) <|
    pd_i (pd_ib sh 1 0 (F1 x0 24) (pd_w ((pd_w (10 * (F1 x0 13))) + x1)) = true) <|
    pd_l (pd_up F1 (F1 x0 24) (pd_w ((pd_w (10 * (F1 x0 13))) + x1)) x2) fun F6 =>
    pd_i (pd_ib sh 0 0 (F6 x0 16) (F6 x0 13) = true) <|
    pd_l (pd_up F6 (F6 x0 16) (F6 x0 13) (pd_w ((F6 (F6 x0 16) (F6 x0 13)) + 1))) fun F8 =>
    some (1, F8)
  else
    some (0, F1)
def pfX12_accountLine (sh : pd_S) (n : Nat) (F : pd_F) (x0 : Int) : Option (Int × pd_F) :=
  pd_i (pd_ob sh 12 x0 = true) <|
  Option.bind (pfX12_newName sh n F x0) fun qr10 => pd_l qr10.1 fun r10 => pd_l qr10.2 fun F9 =>
  if r10 ≠ 0 then
    pd_i (pd_ib sh 0 0 (F9 x0 16) (F9 x0 13) = true) <|
    pd_l (F9 (F9 x0 16) (F9 x0 13)) fun x1_18 =>
    pd_l (F9 x0 38) fun x2_23 =>
    Option.bind (pfX12_takes sh n F9 x0 (-13)) fun qr14 => pd_l qr14.1 fun r14 => pd_l qr14.2 fun F13 =>
    if r14 = 0 then
      some (0, F13)
    else
      Option.bind (pfX12_takesNumber sh n F13 x0 0 9999999) fun qr16 => pd_l qr16.1 fun r16 => pd_l qr16.2 fun F15 =>
      if r16 ≠ 0 then
        pd_i (pd_ib sh 0 0 (F15 x0 25) (pd_w ((pd_w (10 * (F15 x0 13))) + x1_18)) = true) <|
        pd_l (pd_up F15 (F15 x0 25) (pd_w ((pd_w (10 * (F15 x0 13))) + x1_18)) (F15 x0 11)) fun F18 =>
        pd_l (pd_w ((pd_w ((pd_w (15 * (F18 x0 13))) + 5)) + x1_18)) fun x4_75 =>
        Option.bind (pfX12_partsHere sh n F18 x0 x4_75) fun qr20 => pd_l qr20.1 fun r20 => pd_l qr20.2 fun F19 =>
        if r20 = 0 then
          some (0, F19)
        else
          pd_i (pd_ib sh 0 0 (F19 x0 26) x4_75 = true) <|
          if (F19 (F19 x0 26) x4_75) ≤ 0 then
            pfX12_accountLine_b102 sh n F19 x0 x1_18 x2_23 0 x0
          else
            pfX12_accountLine_b102 sh n F19 x0 x1_18 x2_23 1 x0
      else
        some (0, F15)
  else
    some (0, F9)
def pfX12_named_b125 (sh : pd_S) (n : Nat)  (F : pd_F) (x0 : Int) (x1 : Int) (t0 : Int) : Option (Int × pd_F) :=
  pd_i (pd_ob sh 12 x0 = true) <|
  Option.bind (pfX12_must sh n F x0 t0 5) fun qr2 => pd_l qr2.1 fun r2 => pd_l qr2.2 fun F1 =>
  if r2 ≠ 0 then
    Option.bind (pfX12_steps sh n F1 x0) fun F4 =>
    if x1 = 0 then
      Option.bind (pfX12_personLine sh n F4 x0) fun qr6 => pd_l qr6.1 fun r6 => pd_l qr6.2 fun F5 =>
      pd_i (r6 = 0 ∨ r6 = 1) <|
      some (r6, F5)
    else
      if x1 = 1 then
        Option.bind (pfX12_trustLine sh n F4 x0) fun qr9 => pd_l qr9.1 fun r9 => pd_l qr9.2 fun F8 =>
        pd_i (r9 = 0 ∨ r9 = 1) <|
        some (r9, F8)
      else
        if x1 = 2 then
          Option.bind (pfX12_accountLine sh n F4 x0) fun qr12 => pd_l qr12.1 fun r12 => pd_l qr12.2 fun F11 =>
          pd_i (r12 = 0 ∨ r12 = 1) <|
          some (r12, F11)
        else
          if x1 = 3 then
            Option.bind (pfX12_highLine sh n F4 x0) fun qr15 => pd_l qr15.1 fun r15 => pd_l qr15.2 fun F14 =>
            pd_i (r15 = 0 ∨ r15 = 1) <|
            some (r15, F14)
          else
            Option.bind (pfX12_loanLine sh n F4 x0) fun qr18 => pd_l qr18.1 fun r18 => pd_l qr18.2 fun F17 =>
            pd_i (r18 = 0 ∨ r18 = 1) <|
            some (r18, F17)
  else
    some (0, F1)
def pfX12_named (sh : pd_S) (n : Nat) (F : pd_F) (x0 : Int) (x1 : Int) : Option (Int × pd_F) :=
  if x1 ≠ 0 then
    if x1 ≠ 1 then
      if x1 ≠ 2 then
        if x1 ≠ 3 then
          pd_i (pd_ob sh 12 x0 = true) <|
          pd_i (pd_ib sh 0 0 (F x0 18) (F x0 13) = true) <|
          if (F (F x0 18) (F x0 13)) ≥ 8 then
            pfX12_named_b125 sh n F x0 x1 0
          else
            pfX12_named_b125 sh n F x0 x1 1
        else
          pd_i (pd_ob sh 12 x0 = true) <|
          pd_i (pd_ib sh 0 0 (F x0 17) (F x0 13) = true) <|
          if (F (F x0 17) (F x0 13)) ≥ 6 then
            pfX12_named_b125 sh n F x0 x1 0
          else
            pfX12_named_b125 sh n F x0 x1 1
      else
        pd_i (pd_ob sh 12 x0 = true) <|
        pd_i (pd_ib sh 0 0 (F x0 16) (F x0 13) = true) <|
        if (F (F x0 16) (F x0 13)) ≥ 10 then
          pfX12_named_b125 sh n F x0 x1 0
        else
          pfX12_named_b125 sh n F x0 x1 1
    else
      pd_i (pd_ob sh 12 x0 = true) <|
      pd_i (pd_ib sh 0 0 (F x0 15) (F x0 13) = true) <|
      if (F (F x0 15) (F x0 13)) ≥ 5 then
        pfX12_named_b125 sh n F x0 x1 0
      else
        pfX12_named_b125 sh n F x0 x1 1
  else
    pd_i (pd_ob sh 12 x0 = true) <|
    pd_i (pd_ib sh 0 0 (F x0 14) (F x0 13) = true) <|
    if (F (F x0 14) (F x0 13)) ≥ 12 then
      pfX12_named_b125 sh n F x0 x1 0
    else
      pfX12_named_b125 sh n F x0 x1 1
def pfX12_lineHere_b170 (sh : pd_S) (n : Nat)  (F : pd_F) (x0 : Int) (t0 : Int) (t1 : Int) : Option (Int × pd_F) :=
  pd_i (pd_ob sh 12 t1 = true) <|
  Option.bind (pfX12_must sh n F t1 t0 1) fun qr2 => pd_l qr2.1 fun r2 => pd_l qr2.2 fun F1 =>
  if r2 ≠ 0 then
    pd_i (pd_ob sh 12 x0 = true) <|
    Option.bind (pfX12_steps sh n F1 x0) fun F4 =>
    some (1, F4)
  else
    some (0, F1)
def pfX12_lineHere_b156 (sh : pd_S) (n : Nat)  (F : pd_F) (x0 : Int) : Option (Int × pd_F) :=
  pd_i (pd_ob sh 12 x0 = true) <|
  if (F x0 6) ≠ 3 then
    pfX12_lineHere_b170 sh n F x0 0 x0
  else
    pfX12_lineHere_b170 sh n F x0 1 x0
def pfX12_lineHere_b122 (sh : pd_S) (n : Nat)  (F : pd_F) (x0 : Int) (x1 : Int) (x2 : Int) (t0 : Int) (t1 : Int) : Option (Int × pd_F) :=
  pd_i (pd_ob sh 12 t1 = true) <|
  Option.bind (pfX12_must sh n F t1 t0 1) fun qr8 => pd_l qr8.1 fun r8 => pd_l qr8.2 fun F7 =>
  if r8 ≠ 0 then
    if x1 < 0 then
      pd_i (pd_ob sh 12 x0 = true) <|
      Option.bind (pfX12_onceLine sh n F7 x0 x2) fun qr11 => pd_l qr11.1 fun r11 => pd_l qr11.2 fun F10 =>
      if r11 ≠ 0 then
        pfX12_lineHere_b156 sh n F10 x0
      else
        some (0, F10)
    else
      pd_i (pd_ob sh 12 x0 = true) <|
      Option.bind (pfX12_named sh n F7 x0 x1) fun qr14 => pd_l qr14.1 fun r14 => pd_l qr14.2 fun F13 =>
      if r14 ≠ 0 then
        pfX12_lineHere_b156 sh n F13 x0
      else
        some (0, F13)
  else
    some (0, F7)
def pfX12_lineHere_b117 (sh : pd_S) (n : Nat)  (F : pd_F) (x0 : Int) (x1 : Int) (x2 : Int) (t0 : Int) : Option (Int × pd_F) :=
  pfX12_lineHere_b122 sh n F x0 x1 x2 1 t0
def pfX12_lineHere_b107 (sh : pd_S) (n : Nat)  (F : pd_F) (x0 : Int) (x1 : Int) (t0 : Int) : Option (Int × pd_F) :=
  if x1 ≥ 0 then
    pfX12_lineHere_b117 sh n F x0 x1 t0 x0
  else
    if t0 < 0 then
      pfX12_lineHere_b122 sh n F x0 x1 t0 0 x0
    else
      pfX12_lineHere_b117 sh n F x0 x1 t0 x0
def pfX12_lineHere_b66 (sh : pd_S) (n : Nat)  (F : pd_F) (x0 : Int) (t0 : Int) : Option (Int × pd_F) :=
  pd_i (pd_ob sh 12 x0 = true) <|
  Option.bind (pfX12_is sh n F x0 (-9)) fun qr17 => pd_l qr17.1 fun r17 => pd_l qr17.2 fun F16 =>
  if r17 = 0 then
    Option.bind (pfX12_is sh n F16 x0 (-10)) fun qr20 => pd_l qr20.1 fun r20 => pd_l qr20.2 fun F19 =>
    if r20 = 0 then
      Option.bind (pfX12_is sh n F19 x0 (-11)) fun qr22 => pd_l qr22.1 fun r22 => pd_l qr22.2 fun F21 =>
      if r22 = 0 then
        pfX12_lineHere_b107 sh n F21 x0 t0 (-1)
      else
        pfX12_lineHere_b107 sh n F21 x0 t0 2
    else
      pfX12_lineHere_b107 sh n F19 x0 t0 1
  else
    pfX12_lineHere_b107 sh n F16 x0 t0 0
def pfX12_lineHere (sh : pd_S) (n : Nat) (F : pd_F) (x0 : Int) : Option (Int × pd_F) :=
  pd_i (pd_ob sh 12 x0 = true) <|
  Option.bind (pfX12_is sh n F x0 (-4)) fun qr24 => pd_l qr24.1 fun r24 => pd_l qr24.2 fun F23 =>
  if r24 = 0 then
    Option.bind (pfX12_is sh n F23 x0 (-5)) fun qr27 => pd_l qr27.1 fun r27 => pd_l qr27.2 fun F26 =>
    if r27 = 0 then
      Option.bind (pfX12_is sh n F26 x0 (-6)) fun qr29 => pd_l qr29.1 fun r29 => pd_l qr29.2 fun F28 =>
      if r29 = 0 then
        Option.bind (pfX12_is sh n F28 x0 (-7)) fun qr31 => pd_l qr31.1 fun r31 => pd_l qr31.2 fun F30 =>
        if r31 = 0 then
          Option.bind (pfX12_is sh n F30 x0 (-8)) fun qr33 => pd_l qr33.1 fun r33 => pd_l qr33.2 fun F32 =>
          if r33 = 0 then
            pfX12_lineHere_b66 sh n F32 x0 (-1)
          else
            pfX12_lineHere_b66 sh n F32 x0 4
        else
          pfX12_lineHere_b66 sh n F30 x0 3
      else
        pfX12_lineHere_b66 sh n F28 x0 2
    else
      pfX12_lineHere_b66 sh n F26 x0 1
  else
    pfX12_lineHere_b66 sh n F23 x0 0
set_option maxHeartbeats 4000000 in
set_option maxRecDepth 100000 in
theorem pkX12_thrown (l : Launch) {sh : pd_S} {n : Nat} {F : pd_F} {x0 : Int} {ρ : Int} {Fz : pd_F} (hf : pfX12_thrown sh n F x0 = some (ρ, Fz)) : pd_C l yX12_thrown (Cond.code yX12_thrown cX12_thrown 1 (some .int) :: pd_gt) (pd_rm 1 0 0) false 0 0 sh F [pd_R x0] (some (pd_I ρ)) sh Fz := by
  unfold pfX12_thrown at hf
  refine pd_body (L := [pd_R x0]) (by decide +kernel) (Nat.le_of_ble_eq_true rfl) rfl (fun E => ?_)
  refine pd_aload_n (i := 0) dX12_thrown_0 rfl rfl ?_
  obtain ⟨hg1, hf⟩ := pd_ig hf
  refine pd_get (x := pd_I (F x0 0)) 0 dX12_thrown_1 (show vwCl[12]? = some (RX12, TX12, 52) from rfl) pin_12 (by decide) pq_704 hg1 rfl ?_
  obtain ⟨h1, h2⟩ := pd_inj hf
  subst h1 h2
  exact pd_iret dX12_thrown_4 rfl (Nat.le_refl 0) (Nat.le_refl 0)
set_option maxHeartbeats 4000000 in
set_option maxRecDepth 100000 in
theorem pkX12_within (l : Launch) {sh : pd_S} {n : Nat} {F : pd_F} {x0 : Int} {x2 : Int} {x4 : Int} {ρ : Int} {Fz : pd_F} (hf : pfX12_within sh n F x0 x2 x4 = some (ρ, Fz)) : pd_C l yX12_within (Cond.code yX12_within cX12_within 6 (some .boolean) :: pd_gt) (pd_rm 1 0 0) false 0 0 sh F [pd_J x0, pd_J x2, pd_J x4] (some (pd_I ρ)) sh Fz := by
  unfold pfX12_within at hf
  refine pd_body (L := [pd_J x0, pd_N, pd_J x2, pd_N, pd_J x4, pd_N]) (by decide +kernel) (Nat.le_of_ble_eq_true rfl) rfl (fun E => ?_)
  refine pd_lload_n (i := 0) dX12_within_0 rfl rfl ?_
  refine pd_lload_n (i := 2) dX12_within_1 rfl rfl ?_
  refine pd_lcmp_lt (tgt := 17) dX12_within_2 dX12_within_3 (by decide) (fun hc => ?_) (fun hc => ?_)
  · have hf := pd_ip hf hc
    refine pd_iconst dX12_within_17 (by decide) ?_
    obtain ⟨h1, h2⟩ := pd_inj hf
    subst h1 h2
    exact pd_zret dX12_within_18 rfl (by decide) (Nat.le_refl 0) (Nat.le_refl 0)
  · have hf := pd_in_ hf hc
    refine pd_lload_n (i := 0) dX12_within_6 rfl rfl ?_
    refine pd_lload (i := 4) dX12_within_7 rfl ?_
    refine pd_lcmp_gt (tgt := 17) dX12_within_9 dX12_within_10 (by decide) (fun hc => ?_) (fun hc => ?_)
    · have hf := pd_ip hf hc
      refine pd_iconst dX12_within_17 (by decide) ?_
      obtain ⟨h1, h2⟩ := pd_inj hf
      subst h1 h2
      exact pd_zret dX12_within_18 rfl (by decide) (Nat.le_refl 0) (Nat.le_refl 0)
    · have hf := pd_in_ hf hc
      refine pd_iconst dX12_within_13 (by decide) ?_
      refine pd_goto (tgt := 18) dX12_within_14 (by decide) ?_
      obtain ⟨h1, h2⟩ := pd_inj hf
      subst h1 h2
      exact pd_zret dX12_within_18 rfl (by decide) (Nat.le_refl 0) (Nat.le_refl 0)
set_option maxHeartbeats 4000000 in
set_option maxRecDepth 100000 in
theorem pkX12_puts_b3 (E : pd_E) (l : Launch) {sh : pd_S} {n : Nat} {Fz : pd_F}  : ∀ (k : Nat) (F : pd_F) (x0 : Int) (x1 : Int) (x2 : Int), pfX12_puts_b3 sh n  k F x0 x1 x2 = some Fz → pd_V E l (pd_rm 1 0 0) (RX12, cX12_puts, 3, none, "puts") (pd_Qm E false none sh Fz 0 0) false 0 0 sh F 3 [pd_R x0, pd_I x1, pd_I x2] [] := by
  intro k
  induction k with
  | zero => intro F x0 x1 x2 hf; exact absurd hf (by unfold pfX12_puts_b3; exact fun h => nomatch h)
  | succ k ih =>
    intro F x0 x1 x2 hf
    unfold pfX12_puts_b3 at hf
    refine pd_iload_n (i := 2) dX12_puts_3 rfl rfl ?_
    refine pd_if_lt (tgt := 36) dX12_puts_4 (by decide) (fun hc => ?_) (fun hc => ?_)
    · have hf := pd_ip hf hc
      obtain h2 := pd_inj1 hf
      subst h2
      exact pd_vret dX12_puts_36 rfl (Nat.le_refl 0) (Nat.le_refl 0)
    · have hf := pd_in_ hf hc
      refine pd_aload_n (i := 0) dX12_puts_7 rfl rfl ?_
      obtain ⟨hg1, hf⟩ := pd_ig hf
      refine pd_get (x := pd_R (F x0 1)) 1 dX12_puts_8 (show vwCl[12]? = some (RX12, TX12, 52) from rfl) pin_12 (by decide) pq_705 hg1 rfl ?_
      refine pd_aload_n (i := 0) dX12_puts_11 rfl rfl ?_
      refine pd_get (x := pd_I (F x0 2)) 2 dX12_puts_12 (show vwCl[12]? = some (RX12, TX12, 52) from rfl) pin_12 (by decide) pq_706 hg1 rfl ?_
      refine pd_iload_n (i := 1) dX12_puts_15 rfl rfl ?_
      refine pd_iload_n (i := 2) dX12_puts_16 rfl rfl ?_
      refine pd_ishr dX12_puts_17 ?_
      refine pd_i2b dX12_puts_18 ?_
      obtain ⟨hg2, hf⟩ := pd_ig hf
      refine pd_bast dX12_puts_19 hg2 ?_
      refine pd_topF (fun F3 eF3 => ?_)
      have hf := pd_lt hf eF3
      clear eF3
      refine pd_aload_n (i := 0) dX12_puts_20 rfl rfl ?_
      refine pd_dup dX12_puts_21 rfl ?_
      refine pd_get (x := pd_I (F3 x0 2)) 2 dX12_puts_22 (show vwCl[12]? = some (RX12, TX12, 52) from rfl) pin_12 (by decide) pq_706 hg1 rfl ?_
      refine pd_iconst dX12_puts_25 (by decide) ?_
      refine pd_iadd dX12_puts_26 ?_
      refine pd_put (n := (pd_w ((F3 x0 2) + 1))) (x := pd_I (pd_w ((F3 x0 2) + 1))) 2 dX12_puts_27 (show vwCl[12]? = some (RX12, TX12, 52) from rfl) pin_12 tyX12_ok nmX12 (by decide) pq_706 rfl hg1 rfl pd_nrI pd_ftI ?_
      refine pd_topF (fun F4 eF4 => ?_)
      have hf := pd_lt hf eF4
      clear eF4
      refine pd_iincN (L' := fun y => [pd_R x0, pd_I x1, pd_I y]) dX12_puts_30 rfl (by decide) (by decide) (fun _ => rfl) (fun x2_30 ex2_30 => ?_)
      have hf := pd_lt hf ex2_30
      clear ex2_30
      refine pd_goto (tgt := 3) dX12_puts_33 (by decide) ?_
      exact pd_weak (L' := [pd_R x0, pd_I x1, pd_I x2_30]) ⟨Or.inr rfl, Or.inr rfl, Or.inr rfl, trivial⟩ (ih _ _ _ _ hf)
set_option maxHeartbeats 4000000 in
set_option maxRecDepth 100000 in
theorem pkX12_puts (l : Launch) {sh : pd_S} {n : Nat} {F : pd_F} {x0 : Int} {x1 : Int} {Fz : pd_F} (hf : pfX12_puts sh n F x0 x1 = some Fz) : pd_C l yX12_puts (Cond.code yX12_puts cX12_puts 3 none :: pd_gt) (pd_rm 1 0 0) false 0 0 sh F [pd_R x0, pd_I x1] none sh Fz := by
  unfold pfX12_puts at hf
  refine pd_body (L := [pd_R x0, pd_I x1, pd_N]) (by decide +kernel) (Nat.le_of_ble_eq_true rfl) rfl (fun E => ?_)
  refine pd_bipush dX12_puts_0 (by decide) ?_
  refine pd_istore_n (L' := [pd_R x0, pd_I x1, pd_I 24]) dX12_puts_2 rfl (by decide) rfl ?_
  exact pd_weak (L' := [pd_R x0, pd_I x1, pd_I 24]) ⟨Or.inr rfl, Or.inr rfl, Or.inr rfl, trivial⟩ (pkX12_puts_b3 E l n _ _ _ _ hf)
set_option maxHeartbeats 4000000 in
set_option maxRecDepth 100000 in
theorem pkX12_see (l : Launch) {sh : pd_S} {n : Nat} {F : pd_F} {x0 : Int} {x1 : Int} {ρ : Int} {Fz : pd_F} (hf : pfX12_see sh n F x0 x1 = some (ρ, Fz)) : pd_C l yX12_see (Cond.code yX12_see cX12_see 2 (some .int) :: pd_gt) (pd_rm 1 0 0) false 0 0 sh F [pd_R x0, pd_I x1] (some (pd_I ρ)) sh Fz := by
  unfold pfX12_see at hf
  refine pd_body (L := [pd_R x0, pd_I x1]) (by decide +kernel) (Nat.le_of_ble_eq_true rfl) rfl (fun E => ?_)
  refine pd_iload_n (i := 1) dX12_see_0 rfl rfl ?_
  refine pd_aload_n (i := 0) dX12_see_1 rfl rfl ?_
  obtain ⟨hg1, hf⟩ := pd_ig hf
  refine pd_get (x := pd_I (F x0 3)) 3 dX12_see_2 (show vwCl[12]? = some (RX12, TX12, 52) from rfl) pin_12 (by decide) pq_707 hg1 rfl ?_
  refine pd_icmp_ge (tgt := 21) dX12_see_5 (by decide) (fun hc => ?_) (fun hc => ?_)
  · have hf := pd_ip hf hc
    refine pd_iconst dX12_see_21 (by decide) ?_
    obtain ⟨h1, h2⟩ := pd_inj hf
    subst h1 h2
    exact pd_iret dX12_see_22 rfl (Nat.le_refl 0) (Nat.le_refl 0)
  · have hf := pd_in_ hf hc
    refine pd_aload_n (i := 0) dX12_see_8 rfl rfl ?_
    refine pd_get (x := pd_R (F x0 1)) 1 dX12_see_9 (show vwCl[12]? = some (RX12, TX12, 52) from rfl) pin_12 (by decide) pq_705 hg1 rfl ?_
    refine pd_iload_n (i := 1) dX12_see_12 rfl rfl ?_
    obtain ⟨hg2, hf⟩ := pd_ig hf
    refine pd_bald dX12_see_13 hg2 ?_
    refine pd_sipush dX12_see_14 (by decide) ?_
    refine pd_iand dX12_see_17 ?_
    refine pd_goto (tgt := 22) dX12_see_18 (by decide) ?_
    obtain ⟨h1, h2⟩ := pd_inj hf
    subst h1 h2
    exact pd_iret dX12_see_22 rfl (Nat.le_refl 0) (Nat.le_refl 0)
set_option maxHeartbeats 4000000 in
set_option maxRecDepth 100000 in
theorem pkX12_must_b24 (E : pd_E) (l : Launch) {sh : pd_S} {n : Nat} {ρ : Int} {Fz : pd_F}  (F : pd_F) (x0 : Int) (hf : pfX12_must_b24 sh n  F x0 = some (ρ, Fz)) : pd_V E l (pd_rm 1 0 0) (RX12, cX12_must, 3, (some .boolean), "must") (pd_Qm E false (some (pd_I ρ)) sh Fz 0 0) false 0 0 sh F 24 [pd_R x0, pd_N, pd_N] [] := by
  unfold pfX12_must_b24 at hf
  refine pd_aload_n (i := 0) dX12_must_24 rfl rfl ?_
  obtain ⟨hg1, hf⟩ := pd_ig hf
  refine pd_get (x := pd_I (F x0 9)) 9 dX12_must_25 (show vwCl[12]? = some (RX12, TX12, 52) from rfl) pin_12 (by decide) pq_708 hg1 rfl ?_
  refine pd_if_ne (tgt := 35) dX12_must_28 (by decide) (fun hc => ?_) (fun hc => ?_)
  · have hf := pd_ip hf hc
    refine pd_iconst dX12_must_35 (by decide) ?_
    obtain ⟨h1, h2⟩ := pd_inj hf
    subst h1 h2
    exact pd_zret dX12_must_36 rfl (by decide) (Nat.le_refl 0) (Nat.le_refl 0)
  · have hf := pd_iq hf hc
    refine pd_iconst dX12_must_31 (by decide) ?_
    refine pd_goto (tgt := 36) dX12_must_32 (by decide) ?_
    obtain ⟨h1, h2⟩ := pd_inj hf
    subst h1 h2
    exact pd_zret dX12_must_36 rfl (by decide) (Nat.le_refl 0) (Nat.le_refl 0)
set_option maxHeartbeats 4000000 in
set_option maxRecDepth 100000 in
theorem pkX12_must (l : Launch) {sh : pd_S} {n : Nat} {F : pd_F} {x0 : Int} {x1 : Int} {x2 : Int} {ρ : Int} {Fz : pd_F} (hf : pfX12_must sh n F x0 x1 x2 = some (ρ, Fz)) : pd_C l yX12_must (Cond.code yX12_must cX12_must 3 (some .boolean) :: pd_gt) (pd_rm 1 0 0) false 0 0 sh F [pd_R x0, pd_I x1, pd_I x2] (some (pd_I ρ)) sh Fz := by
  unfold pfX12_must at hf
  refine pd_body (L := [pd_R x0, pd_I x1, pd_I x2]) (by decide +kernel) (Nat.le_of_ble_eq_true rfl) rfl (fun E => ?_)
  refine pd_aload_n (i := 0) dX12_must_0 rfl rfl ?_
  obtain ⟨hg2, hf⟩ := pd_ig hf
  refine pd_get (x := pd_I (F x0 9)) 9 dX12_must_1 (show vwCl[12]? = some (RX12, TX12, 52) from rfl) pin_12 (by decide) pq_708 hg2 rfl ?_
  refine pd_if_ne (tgt := 24) dX12_must_4 (by decide) (fun hc => ?_) (fun hc => ?_)
  · have hf := pd_ip hf hc
    exact pd_weak (L' := [pd_R x0, pd_N, pd_N]) ⟨Or.inr rfl, Or.inl rfl, Or.inl rfl, trivial⟩ (pkX12_must_b24 E l _ _ hf)
  · have hf := pd_iq hf hc
    refine pd_iload_n (i := 1) dX12_must_7 rfl rfl ?_
    refine pd_if_ne (tgt := 24) dX12_must_8 (by decide) (fun hc => ?_) (fun hc => ?_)
    · have hf := pd_ip hf hc
      exact pd_weak (L' := [pd_R x0, pd_N, pd_N]) ⟨Or.inr rfl, Or.inl rfl, Or.inl rfl, trivial⟩ (pkX12_must_b24 E l _ _ hf)
    · have hf := pd_iq hf hc
      refine pd_aload_n (i := 0) dX12_must_11 rfl rfl ?_
      refine pd_iload_n (i := 2) dX12_must_12 rfl rfl ?_
      refine pd_put (n := x2) (x := pd_I x2) 9 dX12_must_13 (show vwCl[12]? = some (RX12, TX12, 52) from rfl) pin_12 tyX12_ok nmX12 (by decide) pq_708 rfl hg2 rfl pd_nrI pd_ftI ?_
      refine pd_topF (fun F3 eF3 => ?_)
      have hf := pd_lt hf eF3
      clear eF3
      refine pd_aload_n (i := 0) dX12_must_16 rfl rfl ?_
      refine pd_aload_n (i := 0) dX12_must_17 rfl rfl ?_
      refine pd_get (x := pd_I (F3 x0 4)) 4 dX12_must_18 (show vwCl[12]? = some (RX12, TX12, 52) from rfl) pin_12 (by decide) pq_709 hg2 rfl ?_
      refine pd_put (n := (F3 x0 4)) (x := pd_I (F3 x0 4)) 10 dX12_must_21 (show vwCl[12]? = some (RX12, TX12, 52) from rfl) pin_12 tyX12_ok nmX12 (by decide) pq_710 rfl hg2 rfl pd_nrI pd_ftI ?_
      refine pd_topF (fun F4 eF4 => ?_)
      have hf := pd_lt hf eF4
      clear eF4
      exact pd_weak (L' := [pd_R x0, pd_N, pd_N]) ⟨Or.inr rfl, Or.inl rfl, Or.inl rfl, trivial⟩ (pkX12_must_b24 E l _ _ hf)
set_option maxHeartbeats 4000000 in
set_option maxRecDepth 100000 in
theorem pkX12_spelled_b4 (E : pd_E) (l : Launch) {sh : pd_S} {n : Nat} {ρ : Int} {Fz : pd_F}  : ∀ (k : Nat) (F : pd_F) (x0 : Int) (x1 : Int) (x3 : Int), pfX12_spelled_b4 sh n  k F x0 x1 x3 = some (ρ, Fz) → pd_V E l (pd_rm 5 0 0) (RX12, cX12_spelled, 4, (some .long), "spelled") (pd_Qm E false (some (pd_J ρ)) sh Fz 0 0) false 0 0 sh F 4 [pd_R x0, pd_J x1, pd_N, pd_I x3] [] := by
  intro k
  induction k with
  | zero => intro F x0 x1 x3 hf; exact absurd hf (by unfold pfX12_spelled_b4; exact fun h => nomatch h)
  | succ k ih =>
    intro F x0 x1 x3 hf
    unfold pfX12_spelled_b4 at hf
    refine pd_iload_n (i := 3) dX12_spelled_4 rfl rfl ?_
    refine pd_aload_n (i := 0) dX12_spelled_5 rfl rfl ?_
    obtain ⟨hg1, hf⟩ := pd_ig hf
    refine pd_rslen dX12_spelled_6 hg1 (by omega) (Nat.le_of_ble_eq_true rfl) ?_
    refine pd_icmp_ge (tgt := 33) dX12_spelled_9 (by decide) (fun hc => ?_) (fun hc => ?_)
    · have hf := pd_ip hf hc
      refine pd_lload_n (i := 1) dX12_spelled_33 rfl rfl ?_
      obtain ⟨h1, h2⟩ := pd_inj hf
      subst h1 h2
      exact pd_lret dX12_spelled_34 rfl (Nat.le_refl 0) (Nat.le_refl 0)
    · have hf := pd_in_ hf hc
      refine pd_lload_n (i := 1) dX12_spelled_12 rfl rfl ?_
      refine pd_iconst dX12_spelled_13 (by decide) ?_
      refine pd_lshl dX12_spelled_14 ?_
      refine pd_aload_n (i := 0) dX12_spelled_15 rfl rfl ?_
      refine pd_iload_n (i := 3) dX12_spelled_16 rfl rfl ?_
      obtain ⟨hg2, hf⟩ := pd_ig hf
      refine pd_rsch dX12_spelled_17 hg2 (by omega) (Nat.le_of_ble_eq_true rfl) ?_
      refine pd_i2l dX12_spelled_20 ?_
      refine pd_ldc2 (x := 96) dX12_spelled_21 pq_711 (by decide +kernel) ?_
      refine pd_lsub dX12_spelled_24 ?_
      refine pd_lor dX12_spelled_25 ?_
      refine pd_topJ (fun x1_26 ex1_26 => ?_)
      have hf := pd_lt hf ex1_26
      clear ex1_26
      refine pd_lstore_n (L' := [pd_R x0, pd_J x1_26, pd_N, pd_I x3]) dX12_spelled_26 rfl (by decide) rfl ?_
      refine pd_iincN (L' := fun y => [pd_R x0, pd_J x1_26, pd_N, pd_I y]) dX12_spelled_27 rfl (by decide) (by decide) (fun _ => rfl) (fun x3_27 ex3_27 => ?_)
      have hf := pd_lt hf ex3_27
      clear ex3_27
      refine pd_goto (tgt := 4) dX12_spelled_30 (by decide) ?_
      exact pd_weak (L' := [pd_R x0, pd_J x1_26, pd_N, pd_I x3_27]) ⟨Or.inr rfl, Or.inr rfl, Or.inr rfl, Or.inr rfl, trivial⟩ (ih _ _ _ _ hf)
set_option maxHeartbeats 4000000 in
set_option maxRecDepth 100000 in
theorem pkX12_spelled (l : Launch) {sh : pd_S} {n : Nat} {F : pd_F} {x0 : Int} {ρ : Int} {Fz : pd_F} (hf : pfX12_spelled sh n F x0 = some (ρ, Fz)) : pd_C l yX12_spelled (Cond.code yX12_spelled cX12_spelled 4 (some .long) :: pd_gt) (pd_rm 5 0 0) false 0 0 sh F [pd_R x0] (some (pd_J ρ)) sh Fz := by
  unfold pfX12_spelled at hf
  refine pd_body (L := [pd_R x0, pd_N, pd_N, pd_N]) (by decide +kernel) (Nat.le_of_ble_eq_true rfl) rfl (fun E => ?_)
  refine pd_lconst (x := 0) dX12_spelled_0 (by decide) ?_
  refine pd_lstore_n (L' := [pd_R x0, pd_J 0, pd_N, pd_N]) dX12_spelled_1 rfl (by decide) rfl ?_
  refine pd_iconst dX12_spelled_2 (by decide) ?_
  refine pd_istore_n (L' := [pd_R x0, pd_J 0, pd_N, pd_I 0]) dX12_spelled_3 rfl (by decide) rfl ?_
  exact pd_weak (L' := [pd_R x0, pd_J 0, pd_N, pd_I 0]) ⟨Or.inr rfl, Or.inr rfl, Or.inr rfl, Or.inr rfl, trivial⟩ (pkX12_spelled_b4 E l n _ _ _ _ hf)
set_option maxHeartbeats 4000000 in
set_option maxRecDepth 100000 in
theorem pkX12_personNamed_b2 (E : pd_E) (l : Launch) {sh : pd_S} {n : Nat} {ρ : Int} {Fz : pd_F}  : ∀ (k : Nat) (F : pd_F) (x0 : Int) (x1 : Int) (x3 : Int), pfX12_personNamed_b2 sh n  k F x0 x1 x3 = some (ρ, Fz) → pd_V E l (pd_rm 1 0 0) (RX12, cX12_personNamed, 4, (some .int), "personNamed") (pd_Qm E false (some (pd_I ρ)) sh Fz 0 0) false 0 0 sh F 2 [pd_R x0, pd_J x1, pd_N, pd_I x3] [] := by
  intro k
  induction k with
  | zero => intro F x0 x1 x3 hf; exact absurd hf (by unfold pfX12_personNamed_b2; exact fun h => nomatch h)
  | succ k ih =>
    intro F x0 x1 x3 hf
    unfold pfX12_personNamed_b2 at hf
    refine pd_iload_n (i := 3) dX12_personNamed_2 rfl rfl ?_
    refine pd_aload_n (i := 0) dX12_personNamed_3 rfl rfl ?_
    obtain ⟨hg1, hf⟩ := pd_ig hf
    refine pd_get (x := pd_R (F x0 14)) 14 dX12_personNamed_4 (show vwCl[12]? = some (RX12, TX12, 52) from rfl) pin_12 (by decide) pq_712 hg1 rfl ?_
    refine pd_aload_n (i := 0) dX12_personNamed_7 rfl rfl ?_
    refine pd_get (x := pd_I (F x0 13)) 13 dX12_personNamed_8 (show vwCl[12]? = some (RX12, TX12, 52) from rfl) pin_12 (by decide) pq_713 hg1 rfl ?_
    obtain ⟨hg2, hf⟩ := pd_ig hf
    refine pd_iald dX12_personNamed_11 hg2 ?_
    refine pd_icmp_ge (tgt := 42) dX12_personNamed_12 (by decide) (fun hc => ?_) (fun hc => ?_)
    · have hf := pd_ip hf hc
      refine pd_iconst dX12_personNamed_42 (by decide) ?_
      obtain ⟨h1, h2⟩ := pd_inj hf
      subst h1 h2
      exact pd_iret dX12_personNamed_43 rfl (Nat.le_refl 0) (Nat.le_refl 0)
    · have hf := pd_in_ hf hc
      refine pd_aload_n (i := 0) dX12_personNamed_15 rfl rfl ?_
      refine pd_get (x := pd_R (F x0 19)) 19 dX12_personNamed_16 (show vwCl[12]? = some (RX12, TX12, 52) from rfl) pin_12 (by decide) pq_714 hg1 rfl ?_
      refine pd_bipush dX12_personNamed_19 (by decide) ?_
      refine pd_aload_n (i := 0) dX12_personNamed_21 rfl rfl ?_
      refine pd_get (x := pd_I (F x0 13)) 13 dX12_personNamed_22 (show vwCl[12]? = some (RX12, TX12, 52) from rfl) pin_12 (by decide) pq_713 hg1 rfl ?_
      refine pd_imul dX12_personNamed_25 ?_
      refine pd_iload_n (i := 3) dX12_personNamed_26 rfl rfl ?_
      refine pd_iadd dX12_personNamed_27 ?_
      obtain ⟨hg3, hf⟩ := pd_ig hf
      refine pd_lald dX12_personNamed_28 hg3 ?_
      refine pd_lload_n (i := 1) dX12_personNamed_29 rfl rfl ?_
      refine pd_lcmp_ne (tgt := 36) dX12_personNamed_30 dX12_personNamed_31 (by decide) (fun hc => ?_) (fun hc => ?_)
      · have hf := pd_ip hf hc
        refine pd_iincN (L' := fun y => [pd_R x0, pd_J x1, pd_N, pd_I y]) dX12_personNamed_36 rfl (by decide) (by decide) (fun _ => rfl) (fun x3_36 ex3_36 => ?_)
        have hf := pd_lt hf ex3_36
        clear ex3_36
        refine pd_goto (tgt := 2) dX12_personNamed_39 (by decide) ?_
        exact pd_weak (L' := [pd_R x0, pd_J x1, pd_N, pd_I x3_36]) ⟨Or.inr rfl, Or.inr rfl, Or.inr rfl, Or.inr rfl, trivial⟩ (ih _ _ _ _ hf)
      · have hf := pd_iq hf hc
        refine pd_iload_n (i := 3) dX12_personNamed_34 rfl rfl ?_
        obtain ⟨h1, h2⟩ := pd_inj hf
        subst h1 h2
        exact pd_iret dX12_personNamed_35 rfl (Nat.le_refl 0) (Nat.le_refl 0)
set_option maxHeartbeats 4000000 in
set_option maxRecDepth 100000 in
theorem pkX12_personNamed (l : Launch) {sh : pd_S} {n : Nat} {F : pd_F} {x0 : Int} {x1 : Int} {ρ : Int} {Fz : pd_F} (hf : pfX12_personNamed sh n F x0 x1 = some (ρ, Fz)) : pd_C l yX12_personNamed (Cond.code yX12_personNamed cX12_personNamed 4 (some .int) :: pd_gt) (pd_rm 1 0 0) false 0 0 sh F [pd_R x0, pd_J x1] (some (pd_I ρ)) sh Fz := by
  unfold pfX12_personNamed at hf
  refine pd_body (L := [pd_R x0, pd_J x1, pd_N, pd_N]) (by decide +kernel) (Nat.le_of_ble_eq_true rfl) rfl (fun E => ?_)
  refine pd_iconst dX12_personNamed_0 (by decide) ?_
  refine pd_istore_n (L' := [pd_R x0, pd_J x1, pd_N, pd_I 0]) dX12_personNamed_1 rfl (by decide) rfl ?_
  exact pd_weak (L' := [pd_R x0, pd_J x1, pd_N, pd_I 0]) ⟨Or.inr rfl, Or.inr rfl, Or.inr rfl, Or.inr rfl, trivial⟩ (pkX12_personNamed_b2 E l n _ _ _ _ hf)
set_option maxHeartbeats 4000000 in
set_option maxRecDepth 100000 in
theorem pkX12_trustNamed_b2 (E : pd_E) (l : Launch) {sh : pd_S} {n : Nat} {ρ : Int} {Fz : pd_F}  : ∀ (k : Nat) (F : pd_F) (x0 : Int) (x1 : Int) (x3 : Int), pfX12_trustNamed_b2 sh n  k F x0 x1 x3 = some (ρ, Fz) → pd_V E l (pd_rm 1 0 0) (RX12, cX12_trustNamed, 4, (some .int), "trustNamed") (pd_Qm E false (some (pd_I ρ)) sh Fz 0 0) false 0 0 sh F 2 [pd_R x0, pd_J x1, pd_N, pd_I x3] [] := by
  intro k
  induction k with
  | zero => intro F x0 x1 x3 hf; exact absurd hf (by unfold pfX12_trustNamed_b2; exact fun h => nomatch h)
  | succ k ih =>
    intro F x0 x1 x3 hf
    unfold pfX12_trustNamed_b2 at hf
    refine pd_iload_n (i := 3) dX12_trustNamed_2 rfl rfl ?_
    refine pd_aload_n (i := 0) dX12_trustNamed_3 rfl rfl ?_
    obtain ⟨hg1, hf⟩ := pd_ig hf
    refine pd_get (x := pd_R (F x0 15)) 15 dX12_trustNamed_4 (show vwCl[12]? = some (RX12, TX12, 52) from rfl) pin_12 (by decide) pq_715 hg1 rfl ?_
    refine pd_aload_n (i := 0) dX12_trustNamed_7 rfl rfl ?_
    refine pd_get (x := pd_I (F x0 13)) 13 dX12_trustNamed_8 (show vwCl[12]? = some (RX12, TX12, 52) from rfl) pin_12 (by decide) pq_713 hg1 rfl ?_
    obtain ⟨hg2, hf⟩ := pd_ig hf
    refine pd_iald dX12_trustNamed_11 hg2 ?_
    refine pd_icmp_ge (tgt := 41) dX12_trustNamed_12 (by decide) (fun hc => ?_) (fun hc => ?_)
    · have hf := pd_ip hf hc
      refine pd_iconst dX12_trustNamed_41 (by decide) ?_
      obtain ⟨h1, h2⟩ := pd_inj hf
      subst h1 h2
      exact pd_iret dX12_trustNamed_42 rfl (Nat.le_refl 0) (Nat.le_refl 0)
    · have hf := pd_in_ hf hc
      refine pd_aload_n (i := 0) dX12_trustNamed_15 rfl rfl ?_
      refine pd_get (x := pd_R (F x0 23)) 23 dX12_trustNamed_16 (show vwCl[12]? = some (RX12, TX12, 52) from rfl) pin_12 (by decide) pq_716 hg1 rfl ?_
      refine pd_iconst dX12_trustNamed_19 (by decide) ?_
      refine pd_aload_n (i := 0) dX12_trustNamed_20 rfl rfl ?_
      refine pd_get (x := pd_I (F x0 13)) 13 dX12_trustNamed_21 (show vwCl[12]? = some (RX12, TX12, 52) from rfl) pin_12 (by decide) pq_713 hg1 rfl ?_
      refine pd_imul dX12_trustNamed_24 ?_
      refine pd_iload_n (i := 3) dX12_trustNamed_25 rfl rfl ?_
      refine pd_iadd dX12_trustNamed_26 ?_
      obtain ⟨hg3, hf⟩ := pd_ig hf
      refine pd_lald dX12_trustNamed_27 hg3 ?_
      refine pd_lload_n (i := 1) dX12_trustNamed_28 rfl rfl ?_
      refine pd_lcmp_ne (tgt := 35) dX12_trustNamed_29 dX12_trustNamed_30 (by decide) (fun hc => ?_) (fun hc => ?_)
      · have hf := pd_ip hf hc
        refine pd_iincN (L' := fun y => [pd_R x0, pd_J x1, pd_N, pd_I y]) dX12_trustNamed_35 rfl (by decide) (by decide) (fun _ => rfl) (fun x3_35 ex3_35 => ?_)
        have hf := pd_lt hf ex3_35
        clear ex3_35
        refine pd_goto (tgt := 2) dX12_trustNamed_38 (by decide) ?_
        exact pd_weak (L' := [pd_R x0, pd_J x1, pd_N, pd_I x3_35]) ⟨Or.inr rfl, Or.inr rfl, Or.inr rfl, Or.inr rfl, trivial⟩ (ih _ _ _ _ hf)
      · have hf := pd_iq hf hc
        refine pd_iload_n (i := 3) dX12_trustNamed_33 rfl rfl ?_
        obtain ⟨h1, h2⟩ := pd_inj hf
        subst h1 h2
        exact pd_iret dX12_trustNamed_34 rfl (Nat.le_refl 0) (Nat.le_refl 0)
set_option maxHeartbeats 4000000 in
set_option maxRecDepth 100000 in
theorem pkX12_trustNamed (l : Launch) {sh : pd_S} {n : Nat} {F : pd_F} {x0 : Int} {x1 : Int} {ρ : Int} {Fz : pd_F} (hf : pfX12_trustNamed sh n F x0 x1 = some (ρ, Fz)) : pd_C l yX12_trustNamed (Cond.code yX12_trustNamed cX12_trustNamed 4 (some .int) :: pd_gt) (pd_rm 1 0 0) false 0 0 sh F [pd_R x0, pd_J x1] (some (pd_I ρ)) sh Fz := by
  unfold pfX12_trustNamed at hf
  refine pd_body (L := [pd_R x0, pd_J x1, pd_N, pd_N]) (by decide +kernel) (Nat.le_of_ble_eq_true rfl) rfl (fun E => ?_)
  refine pd_iconst dX12_trustNamed_0 (by decide) ?_
  refine pd_istore_n (L' := [pd_R x0, pd_J x1, pd_N, pd_I 0]) dX12_trustNamed_1 rfl (by decide) rfl ?_
  exact pd_weak (L' := [pd_R x0, pd_J x1, pd_N, pd_I 0]) ⟨Or.inr rfl, Or.inr rfl, Or.inr rfl, Or.inr rfl, trivial⟩ (pkX12_trustNamed_b2 E l n _ _ _ _ hf)
set_option maxHeartbeats 4000000 in
set_option maxRecDepth 100000 in
theorem pkX12_accountNamed_b2 (E : pd_E) (l : Launch) {sh : pd_S} {n : Nat} {ρ : Int} {Fz : pd_F}  : ∀ (k : Nat) (F : pd_F) (x0 : Int) (x1 : Int) (x3 : Int), pfX12_accountNamed_b2 sh n  k F x0 x1 x3 = some (ρ, Fz) → pd_V E l (pd_rm 1 0 0) (RX12, cX12_accountNamed, 4, (some .int), "accountNamed") (pd_Qm E false (some (pd_I ρ)) sh Fz 0 0) false 0 0 sh F 2 [pd_R x0, pd_J x1, pd_N, pd_I x3] [] := by
  intro k
  induction k with
  | zero => intro F x0 x1 x3 hf; exact absurd hf (by unfold pfX12_accountNamed_b2; exact fun h => nomatch h)
  | succ k ih =>
    intro F x0 x1 x3 hf
    unfold pfX12_accountNamed_b2 at hf
    refine pd_iload_n (i := 3) dX12_accountNamed_2 rfl rfl ?_
    refine pd_aload_n (i := 0) dX12_accountNamed_3 rfl rfl ?_
    obtain ⟨hg1, hf⟩ := pd_ig hf
    refine pd_get (x := pd_R (F x0 16)) 16 dX12_accountNamed_4 (show vwCl[12]? = some (RX12, TX12, 52) from rfl) pin_12 (by decide) pq_717 hg1 rfl ?_
    refine pd_aload_n (i := 0) dX12_accountNamed_7 rfl rfl ?_
    refine pd_get (x := pd_I (F x0 13)) 13 dX12_accountNamed_8 (show vwCl[12]? = some (RX12, TX12, 52) from rfl) pin_12 (by decide) pq_713 hg1 rfl ?_
    obtain ⟨hg2, hf⟩ := pd_ig hf
    refine pd_iald dX12_accountNamed_11 hg2 ?_
    refine pd_icmp_ge (tgt := 42) dX12_accountNamed_12 (by decide) (fun hc => ?_) (fun hc => ?_)
    · have hf := pd_ip hf hc
      refine pd_iconst dX12_accountNamed_42 (by decide) ?_
      obtain ⟨h1, h2⟩ := pd_inj hf
      subst h1 h2
      exact pd_iret dX12_accountNamed_43 rfl (Nat.le_refl 0) (Nat.le_refl 0)
    · have hf := pd_in_ hf hc
      refine pd_aload_n (i := 0) dX12_accountNamed_15 rfl rfl ?_
      refine pd_get (x := pd_R (F x0 24)) 24 dX12_accountNamed_16 (show vwCl[12]? = some (RX12, TX12, 52) from rfl) pin_12 (by decide) pq_718 hg1 rfl ?_
      refine pd_bipush dX12_accountNamed_19 (by decide) ?_
      refine pd_aload_n (i := 0) dX12_accountNamed_21 rfl rfl ?_
      refine pd_get (x := pd_I (F x0 13)) 13 dX12_accountNamed_22 (show vwCl[12]? = some (RX12, TX12, 52) from rfl) pin_12 (by decide) pq_713 hg1 rfl ?_
      refine pd_imul dX12_accountNamed_25 ?_
      refine pd_iload_n (i := 3) dX12_accountNamed_26 rfl rfl ?_
      refine pd_iadd dX12_accountNamed_27 ?_
      obtain ⟨hg3, hf⟩ := pd_ig hf
      refine pd_lald dX12_accountNamed_28 hg3 ?_
      refine pd_lload_n (i := 1) dX12_accountNamed_29 rfl rfl ?_
      refine pd_lcmp_ne (tgt := 36) dX12_accountNamed_30 dX12_accountNamed_31 (by decide) (fun hc => ?_) (fun hc => ?_)
      · have hf := pd_ip hf hc
        refine pd_iincN (L' := fun y => [pd_R x0, pd_J x1, pd_N, pd_I y]) dX12_accountNamed_36 rfl (by decide) (by decide) (fun _ => rfl) (fun x3_36 ex3_36 => ?_)
        have hf := pd_lt hf ex3_36
        clear ex3_36
        refine pd_goto (tgt := 2) dX12_accountNamed_39 (by decide) ?_
        exact pd_weak (L' := [pd_R x0, pd_J x1, pd_N, pd_I x3_36]) ⟨Or.inr rfl, Or.inr rfl, Or.inr rfl, Or.inr rfl, trivial⟩ (ih _ _ _ _ hf)
      · have hf := pd_iq hf hc
        refine pd_iload_n (i := 3) dX12_accountNamed_34 rfl rfl ?_
        obtain ⟨h1, h2⟩ := pd_inj hf
        subst h1 h2
        exact pd_iret dX12_accountNamed_35 rfl (Nat.le_refl 0) (Nat.le_refl 0)
set_option maxHeartbeats 4000000 in
set_option maxRecDepth 100000 in
theorem pkX12_accountNamed (l : Launch) {sh : pd_S} {n : Nat} {F : pd_F} {x0 : Int} {x1 : Int} {ρ : Int} {Fz : pd_F} (hf : pfX12_accountNamed sh n F x0 x1 = some (ρ, Fz)) : pd_C l yX12_accountNamed (Cond.code yX12_accountNamed cX12_accountNamed 4 (some .int) :: pd_gt) (pd_rm 1 0 0) false 0 0 sh F [pd_R x0, pd_J x1] (some (pd_I ρ)) sh Fz := by
  unfold pfX12_accountNamed at hf
  refine pd_body (L := [pd_R x0, pd_J x1, pd_N, pd_N]) (by decide +kernel) (Nat.le_of_ble_eq_true rfl) rfl (fun E => ?_)
  refine pd_iconst dX12_accountNamed_0 (by decide) ?_
  refine pd_istore_n (L' := [pd_R x0, pd_J x1, pd_N, pd_I 0]) dX12_accountNamed_1 rfl (by decide) rfl ?_
  exact pd_weak (L' := [pd_R x0, pd_J x1, pd_N, pd_I 0]) ⟨Or.inr rfl, Or.inr rfl, Or.inr rfl, Or.inr rfl, trivial⟩ (pkX12_accountNamed_b2 E l n _ _ _ _ hf)
set_option maxHeartbeats 4000000 in
set_option maxRecDepth 100000 in
theorem pkX12_hasMark_b2 (E : pd_E) (l : Launch) {sh : pd_S} {n : Nat} {ρ : Int} {Fz : pd_F}  : ∀ (k : Nat) (F : pd_F) (x0 : Int) (x1 : Int) (x2 : Int) (x3 : Int), pfX12_hasMark_b2 sh n  k F x0 x1 x2 x3 = some (ρ, Fz) → pd_V E l (pd_rm 1 0 0) (RX12, cX12_hasMark, 4, (some .boolean), "hasMark") (pd_Qm E false (some (pd_I ρ)) sh Fz 0 0) false 0 0 sh F 2 [pd_R x0, pd_I x1, pd_I x2, pd_I x3] [] := by
  intro k
  induction k with
  | zero => intro F x0 x1 x2 x3 hf; exact absurd hf (by unfold pfX12_hasMark_b2; exact fun h => nomatch h)
  | succ k ih =>
    intro F x0 x1 x2 x3 hf
    unfold pfX12_hasMark_b2 at hf
    refine pd_iload_n (i := 3) dX12_hasMark_2 rfl rfl ?_
    refine pd_aload_n (i := 0) dX12_hasMark_3 rfl rfl ?_
    obtain ⟨hg1, hf⟩ := pd_ig hf
    refine pd_get (x := pd_R (F x0 20)) 20 dX12_hasMark_4 (show vwCl[12]? = some (RX12, TX12, 52) from rfl) pin_12 (by decide) pq_719 hg1 rfl ?_
    refine pd_iload_n (i := 1) dX12_hasMark_7 rfl rfl ?_
    obtain ⟨hg2, hf⟩ := pd_ig hf
    refine pd_iald dX12_hasMark_8 hg2 ?_
    refine pd_icmp_ge (tgt := 34) dX12_hasMark_9 (by decide) (fun hc => ?_) (fun hc => ?_)
    · have hf := pd_ip hf hc
      refine pd_iconst dX12_hasMark_34 (by decide) ?_
      obtain ⟨h1, h2⟩ := pd_inj hf
      subst h1 h2
      exact pd_zret dX12_hasMark_35 rfl (by decide) (Nat.le_refl 0) (Nat.le_refl 0)
    · have hf := pd_in_ hf hc
      refine pd_aload_n (i := 0) dX12_hasMark_12 rfl rfl ?_
      refine pd_get (x := pd_R (F x0 21)) 21 dX12_hasMark_13 (show vwCl[12]? = some (RX12, TX12, 52) from rfl) pin_12 (by decide) pq_720 hg1 rfl ?_
      refine pd_iconst dX12_hasMark_16 (by decide) ?_
      refine pd_iload_n (i := 1) dX12_hasMark_17 rfl rfl ?_
      refine pd_imul dX12_hasMark_18 ?_
      refine pd_iload_n (i := 3) dX12_hasMark_19 rfl rfl ?_
      refine pd_iadd dX12_hasMark_20 ?_
      obtain ⟨hg3, hf⟩ := pd_ig hf
      refine pd_iald dX12_hasMark_21 hg3 ?_
      refine pd_iload_n (i := 2) dX12_hasMark_22 rfl rfl ?_
      refine pd_icmp_ne (tgt := 28) dX12_hasMark_23 (by decide) (fun hc => ?_) (fun hc => ?_)
      · have hf := pd_ip hf hc
        refine pd_iincN (L' := fun y => [pd_R x0, pd_I x1, pd_I x2, pd_I y]) dX12_hasMark_28 rfl (by decide) (by decide) (fun _ => rfl) (fun x3_28 ex3_28 => ?_)
        have hf := pd_lt hf ex3_28
        clear ex3_28
        refine pd_goto (tgt := 2) dX12_hasMark_31 (by decide) ?_
        exact pd_weak (L' := [pd_R x0, pd_I x1, pd_I x2, pd_I x3_28]) ⟨Or.inr rfl, Or.inr rfl, Or.inr rfl, Or.inr rfl, trivial⟩ (ih _ _ _ _ _ hf)
      · have hf := pd_iq hf hc
        refine pd_iconst dX12_hasMark_26 (by decide) ?_
        obtain ⟨h1, h2⟩ := pd_inj hf
        subst h1 h2
        exact pd_zret dX12_hasMark_27 rfl (by decide) (Nat.le_refl 0) (Nat.le_refl 0)
set_option maxHeartbeats 4000000 in
set_option maxRecDepth 100000 in
theorem pkX12_hasMark (l : Launch) {sh : pd_S} {n : Nat} {F : pd_F} {x0 : Int} {x1 : Int} {x2 : Int} {ρ : Int} {Fz : pd_F} (hf : pfX12_hasMark sh n F x0 x1 x2 = some (ρ, Fz)) : pd_C l yX12_hasMark (Cond.code yX12_hasMark cX12_hasMark 4 (some .boolean) :: pd_gt) (pd_rm 1 0 0) false 0 0 sh F [pd_R x0, pd_I x1, pd_I x2] (some (pd_I ρ)) sh Fz := by
  unfold pfX12_hasMark at hf
  refine pd_body (L := [pd_R x0, pd_I x1, pd_I x2, pd_N]) (by decide +kernel) (Nat.le_of_ble_eq_true rfl) rfl (fun E => ?_)
  refine pd_iconst dX12_hasMark_0 (by decide) ?_
  refine pd_istore_n (L' := [pd_R x0, pd_I x1, pd_I x2, pd_I 0]) dX12_hasMark_1 rfl (by decide) rfl ?_
  exact pd_weak (L' := [pd_R x0, pd_I x1, pd_I x2, pd_I 0]) ⟨Or.inr rfl, Or.inr rfl, Or.inr rfl, Or.inr rfl, trivial⟩ (pkX12_hasMark_b2 E l n _ _ _ _ _ hf)
set_option maxHeartbeats 4000000 in
set_option maxRecDepth 100000 in
theorem pkX12_isPart_b2 (E : pd_E) (l : Launch) {sh : pd_S} {n : Nat} {ρ : Int} {Fz : pd_F}  : ∀ (k : Nat) (F : pd_F) (x0 : Int) (x1 : Int) (x2 : Int) (x3 : Int), pfX12_isPart_b2 sh n  k F x0 x1 x2 x3 = some (ρ, Fz) → pd_V E l (pd_rm 1 0 0) (RX12, cX12_isPart, 4, (some .boolean), "isPart") (pd_Qm E false (some (pd_I ρ)) sh Fz 0 0) false 0 0 sh F 2 [pd_R x0, pd_I x1, pd_I x2, pd_I x3] [] := by
  intro k
  induction k with
  | zero => intro F x0 x1 x2 x3 hf; exact absurd hf (by unfold pfX12_isPart_b2; exact fun h => nomatch h)
  | succ k ih =>
    intro F x0 x1 x2 x3 hf
    unfold pfX12_isPart_b2 at hf
    refine pd_iload_n (i := 3) dX12_isPart_2 rfl rfl ?_
    refine pd_aload_n (i := 0) dX12_isPart_3 rfl rfl ?_
    obtain ⟨hg1, hf⟩ := pd_ig hf
    refine pd_get (x := pd_R (F x0 26)) 26 dX12_isPart_4 (show vwCl[12]? = some (RX12, TX12, 52) from rfl) pin_12 (by decide) pq_721 hg1 rfl ?_
    refine pd_iload_n (i := 1) dX12_isPart_7 rfl rfl ?_
    obtain ⟨hg2, hf⟩ := pd_ig hf
    refine pd_iald dX12_isPart_8 hg2 ?_
    refine pd_icmp_ge (tgt := 34) dX12_isPart_9 (by decide) (fun hc => ?_) (fun hc => ?_)
    · have hf := pd_ip hf hc
      refine pd_iconst dX12_isPart_34 (by decide) ?_
      obtain ⟨h1, h2⟩ := pd_inj hf
      subst h1 h2
      exact pd_zret dX12_isPart_35 rfl (by decide) (Nat.le_refl 0) (Nat.le_refl 0)
    · have hf := pd_in_ hf hc
      refine pd_aload_n (i := 0) dX12_isPart_12 rfl rfl ?_
      refine pd_get (x := pd_R (F x0 27)) 27 dX12_isPart_13 (show vwCl[12]? = some (RX12, TX12, 52) from rfl) pin_12 (by decide) pq_722 hg1 rfl ?_
      refine pd_iconst dX12_isPart_16 (by decide) ?_
      refine pd_iload_n (i := 1) dX12_isPart_17 rfl rfl ?_
      refine pd_imul dX12_isPart_18 ?_
      refine pd_iload_n (i := 3) dX12_isPart_19 rfl rfl ?_
      refine pd_iadd dX12_isPart_20 ?_
      obtain ⟨hg3, hf⟩ := pd_ig hf
      refine pd_iald dX12_isPart_21 hg3 ?_
      refine pd_iload_n (i := 2) dX12_isPart_22 rfl rfl ?_
      refine pd_icmp_ne (tgt := 28) dX12_isPart_23 (by decide) (fun hc => ?_) (fun hc => ?_)
      · have hf := pd_ip hf hc
        refine pd_iincN (L' := fun y => [pd_R x0, pd_I x1, pd_I x2, pd_I y]) dX12_isPart_28 rfl (by decide) (by decide) (fun _ => rfl) (fun x3_28 ex3_28 => ?_)
        have hf := pd_lt hf ex3_28
        clear ex3_28
        refine pd_goto (tgt := 2) dX12_isPart_31 (by decide) ?_
        exact pd_weak (L' := [pd_R x0, pd_I x1, pd_I x2, pd_I x3_28]) ⟨Or.inr rfl, Or.inr rfl, Or.inr rfl, Or.inr rfl, trivial⟩ (ih _ _ _ _ _ hf)
      · have hf := pd_iq hf hc
        refine pd_iconst dX12_isPart_26 (by decide) ?_
        obtain ⟨h1, h2⟩ := pd_inj hf
        subst h1 h2
        exact pd_zret dX12_isPart_27 rfl (by decide) (Nat.le_refl 0) (Nat.le_refl 0)
set_option maxHeartbeats 4000000 in
set_option maxRecDepth 100000 in
theorem pkX12_isPart (l : Launch) {sh : pd_S} {n : Nat} {F : pd_F} {x0 : Int} {x1 : Int} {x2 : Int} {ρ : Int} {Fz : pd_F} (hf : pfX12_isPart sh n F x0 x1 x2 = some (ρ, Fz)) : pd_C l yX12_isPart (Cond.code yX12_isPart cX12_isPart 4 (some .boolean) :: pd_gt) (pd_rm 1 0 0) false 0 0 sh F [pd_R x0, pd_I x1, pd_I x2] (some (pd_I ρ)) sh Fz := by
  unfold pfX12_isPart at hf
  refine pd_body (L := [pd_R x0, pd_I x1, pd_I x2, pd_N]) (by decide +kernel) (Nat.le_of_ble_eq_true rfl) rfl (fun E => ?_)
  refine pd_iconst dX12_isPart_0 (by decide) ?_
  refine pd_istore_n (L' := [pd_R x0, pd_I x1, pd_I x2, pd_I 0]) dX12_isPart_1 rfl (by decide) rfl ?_
  exact pd_weak (L' := [pd_R x0, pd_I x1, pd_I x2, pd_I 0]) ⟨Or.inr rfl, Or.inr rfl, Or.inr rfl, Or.inr rfl, trivial⟩ (pkX12_isPart_b2 E l n _ _ _ _ _ hf)
set_option maxHeartbeats 4000000 in
set_option maxRecDepth 100000 in
theorem pkX12_feed (l : Launch) {sh : pd_S} {n : Nat} {F : pd_F} {x0 : Int} {x1 : Int} {x2 : Int} {x3 : Int} {x4 : Int} {x5 : Int} {ρ : Int} {Fz : pd_F} (hf : pfX12_feed sh n F x0 x1 x2 x3 x4 x5 = some (ρ, Fz)) : pd_C l yX12_feed (Cond.code yX12_feed cX12_feed 6 (some .int) :: pd_gt) (pd_rm 2 0 0) false 0 0 sh F [pd_R x0, pd_I x1, pd_I x2, pd_I x3, pd_I x4, pd_I x5] (some (pd_I ρ)) sh Fz := by
  unfold pfX12_feed at hf
  refine pd_body (L := [pd_R x0, pd_I x1, pd_I x2, pd_I x3, pd_I x4, pd_I x5]) (by decide +kernel) (Nat.le_of_ble_eq_true rfl) rfl (fun E => ?_)
  refine pd_aload_n (i := 0) dX12_feed_0 rfl rfl ?_
  refine pd_iconst dX12_feed_1 (by decide) ?_
  obtain ⟨hg1, hf⟩ := pd_ig hf
  refine pd_put (n := 0) (x := pd_I 0) 0 dX12_feed_2 (show vwCl[12]? = some (RX12, TX12, 52) from rfl) pin_12 tyX12_ok nmX12 (by decide) pq_704 rfl hg1 rfl pd_nrI pd_ftI ?_
  refine pd_topF (fun F2 eF2 => ?_)
  have hf := pd_lt hf eF2
  clear eF2
  refine pd_aload_n (i := 0) dX12_feed_5 rfl rfl ?_
  refine pd_get (x := pd_I (F2 x0 2)) 2 dX12_feed_6 (show vwCl[12]? = some (RX12, TX12, 52) from rfl) pin_12 (by decide) pq_706 hg1 rfl ?_
  refine pd_bipush dX12_feed_9 (by decide) ?_
  refine pd_iadd dX12_feed_11 ?_
  refine pd_sipush dX12_feed_12 (by decide) ?_
  refine pd_icmp_le (tgt := 20) dX12_feed_15 (by decide) (fun hc => ?_) (fun hc => ?_)
  · have hf := pd_ip hf hc
    refine pd_aload_n (i := 0) dX12_feed_20 rfl rfl ?_
    refine pd_iload_n (i := 1) dX12_feed_21 rfl rfl ?_
    obtain ⟨F3, hr, hf⟩ := pd_ob1 hf
    refine pd_callV (pkX12_puts l hr) dX12_feed_22 pq_723 pq_726 pq_727 (show vwCl[12]? = some (yX12_puts.cls, TX12, 52) from rfl) hg1 (pd_okm (by omega) (by decide) pq_724 pq_725 (by decide) (show (parseMethodDescriptor yX12_puts.desc).map (fun d => d.parameters.length) = some 1 from by decide +kernel)) (Nat.le_of_ble_eq_true rfl) rfl ?_
    refine pd_aload_n (i := 0) dX12_feed_25 rfl rfl ?_
    refine pd_iload_n (i := 2) dX12_feed_26 rfl rfl ?_
    obtain ⟨F4, hr, hf⟩ := pd_ob1 hf
    refine pd_callV (pkX12_puts l hr) dX12_feed_27 pq_723 pq_726 pq_727 (show vwCl[12]? = some (yX12_puts.cls, TX12, 52) from rfl) hg1 (pd_okm (by omega) (by decide) pq_724 pq_725 (by decide) (show (parseMethodDescriptor yX12_puts.desc).map (fun d => d.parameters.length) = some 1 from by decide +kernel)) (Nat.le_of_ble_eq_true rfl) rfl ?_
    refine pd_aload_n (i := 0) dX12_feed_30 rfl rfl ?_
    refine pd_iload_n (i := 3) dX12_feed_31 rfl rfl ?_
    obtain ⟨F5, hr, hf⟩ := pd_ob1 hf
    refine pd_callV (pkX12_puts l hr) dX12_feed_32 pq_723 pq_726 pq_727 (show vwCl[12]? = some (yX12_puts.cls, TX12, 52) from rfl) hg1 (pd_okm (by omega) (by decide) pq_724 pq_725 (by decide) (show (parseMethodDescriptor yX12_puts.desc).map (fun d => d.parameters.length) = some 1 from by decide +kernel)) (Nat.le_of_ble_eq_true rfl) rfl ?_
    refine pd_aload_n (i := 0) dX12_feed_35 rfl rfl ?_
    refine pd_iload (i := 4) dX12_feed_36 rfl ?_
    obtain ⟨F6, hr, hf⟩ := pd_ob1 hf
    refine pd_callV (pkX12_puts l hr) dX12_feed_38 pq_723 pq_726 pq_727 (show vwCl[12]? = some (yX12_puts.cls, TX12, 52) from rfl) hg1 (pd_okm (by omega) (by decide) pq_724 pq_725 (by decide) (show (parseMethodDescriptor yX12_puts.desc).map (fun d => d.parameters.length) = some 1 from by decide +kernel)) (Nat.le_of_ble_eq_true rfl) rfl ?_
    refine pd_aload_n (i := 0) dX12_feed_41 rfl rfl ?_
    refine pd_iload (i := 5) dX12_feed_42 rfl ?_
    obtain ⟨F7, hr, hf⟩ := pd_ob1 hf
    refine pd_callV (pkX12_puts l hr) dX12_feed_44 pq_723 pq_726 pq_727 (show vwCl[12]? = some (yX12_puts.cls, TX12, 52) from rfl) hg1 (pd_okm (by omega) (by decide) pq_724 pq_725 (by decide) (show (parseMethodDescriptor yX12_puts.desc).map (fun d => d.parameters.length) = some 1 from by decide +kernel)) (Nat.le_of_ble_eq_true rfl) rfl ?_
    refine pd_aload_n (i := 0) dX12_feed_47 rfl rfl ?_
    refine pd_get (x := pd_I (F7 x0 2)) 2 dX12_feed_48 (show vwCl[12]? = some (RX12, TX12, 52) from rfl) pin_12 (by decide) pq_706 hg1 rfl ?_
    obtain ⟨h1, h2⟩ := pd_inj hf
    subst h1 h2
    exact pd_iret dX12_feed_51 rfl (Nat.le_refl 0) (Nat.le_refl 0)
  · have hf := pd_in_ hf hc
    refine pd_iconst dX12_feed_18 (by decide) ?_
    obtain ⟨h1, h2⟩ := pd_inj hf
    subst h1 h2
    exact pd_iret dX12_feed_19 rfl (Nat.le_refl 0) (Nat.le_refl 0)
set_option maxHeartbeats 4000000 in
set_option maxRecDepth 100000 in
theorem pkX12_steps_b34 (E : pd_E) (l : Launch) {sh : pd_S} {n : Nat} {Fz : pd_F} {c8 : pd_F → Int → Option pd_F} (hL8 : ∀ (F : pd_F) (x0 : Int), c8 F x0 = some Fz → pd_V E l (pd_rm 2 0 0) (RX12, cX12_steps, 2, none, "steps") (pd_Qm E false none sh Fz 0 0) false 0 0 sh F 8 [pd_R x0, pd_N] []) (F : pd_F) (x0 : Int) (hf : pfX12_steps_b34 sh n c8 F x0 = some Fz) : pd_V E l (pd_rm 2 0 0) (RX12, cX12_steps, 2, none, "steps") (pd_Qm E false none sh Fz 0 0) false 0 0 sh F 34 [pd_R x0, pd_N] [] := by
  unfold pfX12_steps_b34 at hf
  refine pd_aload_n (i := 0) dX12_steps_34 rfl rfl ?_
  refine pd_dup dX12_steps_35 rfl ?_
  obtain ⟨hg1, hf⟩ := pd_ig hf
  refine pd_get (x := pd_I (F x0 4)) 4 dX12_steps_36 (show vwCl[12]? = some (RX12, TX12, 52) from rfl) pin_12 (by decide) pq_709 hg1 rfl ?_
  refine pd_iconst dX12_steps_39 (by decide) ?_
  refine pd_iadd dX12_steps_40 ?_
  refine pd_put (n := (pd_w ((F x0 4) + 1))) (x := pd_I (pd_w ((F x0 4) + 1))) 4 dX12_steps_41 (show vwCl[12]? = some (RX12, TX12, 52) from rfl) pin_12 tyX12_ok nmX12 (by decide) pq_709 rfl hg1 rfl pd_nrI pd_ftI ?_
  refine pd_topF (fun F2 eF2 => ?_)
  have hf := pd_lt hf eF2
  clear eF2
  refine pd_goto (tgt := 8) dX12_steps_44 (by decide) ?_
  exact pd_weak (L' := [pd_R x0, pd_N]) ⟨Or.inr rfl, Or.inr rfl, trivial⟩ (hL8 _ _ hf)
set_option maxHeartbeats 4000000 in
set_option maxRecDepth 100000 in
theorem pkX12_steps_b201 (E : pd_E) (l : Launch) {sh : pd_S} {n : Nat} {Fz : pd_F} {c138 : pd_F → Int → Option pd_F} (hL138 : ∀ (F : pd_F) (x0 : Int), c138 F x0 = some Fz → pd_V E l (pd_rm 2 0 0) (RX12, cX12_steps, 2, none, "steps") (pd_Qm E false none sh Fz 0 0) false 0 0 sh F 138 [pd_R x0, pd_N] []) (F : pd_F) (x0 : Int) (t0 : Int) (t1 : Int) (hf : pfX12_steps_b201 sh n c138 F x0 t0 t1 = some Fz) : pd_V E l (pd_rm 2 0 0) (RX12, cX12_steps, 2, none, "steps") (pd_Qm E false none sh Fz 0 0) false 0 0 sh F 201 [pd_R x0, pd_N] [pd_J t0, pd_R t1] := by
  unfold pfX12_steps_b201 at hf
  obtain ⟨hg3, hf⟩ := pd_ig hf
  refine pd_put (n := t0) (x := pd_J t0) 8 dX12_steps_201 (show vwCl[12]? = some (RX12, TX12, 52) from rfl) pin_12 tyX12_ok nmX12 (by decide) pq_728 rfl hg3 rfl pd_nrJ pd_ftJ ?_
  refine pd_topF (fun F4 eF4 => ?_)
  have hf := pd_lt hf eF4
  clear eF4
  refine pd_aload_n (i := 0) dX12_steps_204 rfl rfl ?_
  refine pd_dup dX12_steps_205 rfl ?_
  obtain ⟨hg5, hf⟩ := pd_ig hf
  refine pd_get (x := pd_I (F4 x0 5)) 5 dX12_steps_206 (show vwCl[12]? = some (RX12, TX12, 52) from rfl) pin_12 (by decide) pq_729 hg5 rfl ?_
  refine pd_iconst dX12_steps_209 (by decide) ?_
  refine pd_iadd dX12_steps_210 ?_
  refine pd_put (n := (pd_w ((F4 x0 5) + 1))) (x := pd_I (pd_w ((F4 x0 5) + 1))) 5 dX12_steps_211 (show vwCl[12]? = some (RX12, TX12, 52) from rfl) pin_12 tyX12_ok nmX12 (by decide) pq_729 rfl hg5 rfl pd_nrI pd_ftI ?_
  refine pd_topF (fun F6 eF6 => ?_)
  have hf := pd_lt hf eF6
  clear eF6
  refine pd_goto (tgt := 138) dX12_steps_214 (by decide) ?_
  exact pd_weak (L' := [pd_R x0, pd_N]) ⟨Or.inr rfl, Or.inr rfl, trivial⟩ (hL138 _ _ hf)
set_option maxHeartbeats 4000000 in
set_option maxRecDepth 100000 in
theorem pkX12_steps_b217 (E : pd_E) (l : Launch) {sh : pd_S} {n : Nat} {Fz : pd_F}  (F : pd_F) (x0 : Int) (hf : pfX12_steps_b217 sh n  F x0 = some Fz) : pd_V E l (pd_rm 2 0 0) (RX12, cX12_steps, 2, none, "steps") (pd_Qm E false none sh Fz 0 0) false 0 0 sh F 217 [pd_R x0, pd_N] [] := by
  unfold pfX12_steps_b217 at hf
  refine pd_aload_n (i := 0) dX12_steps_217 rfl rfl ?_
  refine pd_aload_n (i := 0) dX12_steps_218 rfl rfl ?_
  obtain ⟨hg7, hf⟩ := pd_ig hf
  refine pd_get (x := pd_I (F x0 5)) 5 dX12_steps_219 (show vwCl[12]? = some (RX12, TX12, 52) from rfl) pin_12 (by decide) pq_729 hg7 rfl ?_
  refine pd_aload_n (i := 0) dX12_steps_222 rfl rfl ?_
  refine pd_get (x := pd_I (F x0 4)) 4 dX12_steps_223 (show vwCl[12]? = some (RX12, TX12, 52) from rfl) pin_12 (by decide) pq_709 hg7 rfl ?_
  refine pd_isub dX12_steps_226 ?_
  refine pd_bipush dX12_steps_227 (by decide) ?_
  refine pd_icmp_ge (tgt := 236) dX12_steps_229 (by decide) (fun hc => ?_) (fun hc => ?_)
  · have hf := pd_ip hf hc
    refine pd_iconst dX12_steps_236 (by decide) ?_
    refine pd_put (n := 4) (x := pd_I 4) 6 dX12_steps_237 (show vwCl[12]? = some (RX12, TX12, 52) from rfl) pin_12 tyX12_ok nmX12 (by decide) pq_730 rfl hg7 rfl pd_nrI pd_ftI ?_
    refine pd_topF (fun F8 eF8 => ?_)
    have hf := pd_lt hf eF8
    clear eF8
    refine pd_goto (tgt := 366) dX12_steps_240 (by decide) ?_
    obtain h2 := pd_inj1 hf
    subst h2
    exact pd_vret dX12_steps_366 rfl (Nat.le_refl 0) (Nat.le_refl 0)
  · have hf := pd_in_ hf hc
    refine pd_iconst dX12_steps_232 (by decide) ?_
    refine pd_goto (tgt := 237) dX12_steps_233 (by decide) ?_
    refine pd_put (n := 1) (x := pd_I 1) 6 dX12_steps_237 (show vwCl[12]? = some (RX12, TX12, 52) from rfl) pin_12 tyX12_ok nmX12 (by decide) pq_730 rfl hg7 rfl pd_nrI pd_ftI ?_
    refine pd_topF (fun F9 eF9 => ?_)
    have hf := pd_lt hf eF9
    clear eF9
    refine pd_goto (tgt := 366) dX12_steps_240 (by decide) ?_
    obtain h2 := pd_inj1 hf
    subst h2
    exact pd_vret dX12_steps_366 rfl (Nat.le_refl 0) (Nat.le_refl 0)
set_option maxHeartbeats 4000000 in
set_option maxRecDepth 100000 in
theorem pkX12_steps_b138 (E : pd_E) (l : Launch) {sh : pd_S} {n : Nat} {Fz : pd_F}  : ∀ (k : Nat) (F : pd_F) (x0 : Int), pfX12_steps_b138 sh n  k F x0 = some Fz → pd_V E l (pd_rm 2 0 0) (RX12, cX12_steps, 2, none, "steps") (pd_Qm E false none sh Fz 0 0) false 0 0 sh F 138 [pd_R x0, pd_N] [] := by
  intro k
  induction k with
  | zero => intro F x0 hf; exact absurd hf (by unfold pfX12_steps_b138; exact fun h => nomatch h)
  | succ k ih =>
    intro F x0 hf
    unfold pfX12_steps_b138 at hf
    refine pd_aload_n (i := 0) dX12_steps_138 rfl rfl ?_
    refine pd_aload_n (i := 0) dX12_steps_139 rfl rfl ?_
    obtain ⟨hg10, hf⟩ := pd_ig hf
    refine pd_get (x := pd_I (F x0 5)) 5 dX12_steps_140 (show vwCl[12]? = some (RX12, TX12, 52) from rfl) pin_12 (by decide) pq_729 hg10 rfl ?_
    obtain ⟨r12, F11, hr, hf⟩ := pd_ob2 hf
    refine pd_callV (pkX12_see l hr) dX12_steps_143 pq_731 pq_734 pq_735 (show vwCl[12]? = some (yX12_see.cls, TX12, 52) from rfl) hg10 (pd_okm (by omega) (by decide) pq_732 pq_733 (by decide) (show (parseMethodDescriptor yX12_see.desc).map (fun d => d.parameters.length) = some 1 from by decide +kernel)) (Nat.le_of_ble_eq_true rfl) rfl ?_
    refine pd_i2l dX12_steps_146 ?_
    refine pd_ldc2 (x := 97) dX12_steps_147 pq_736 (by decide +kernel) ?_
    refine pd_ldc2 (x := 122) dX12_steps_150 pq_737 (by decide +kernel) ?_
    obtain ⟨r14, F13, hr, hf⟩ := pd_ob2 hf
    refine pd_callS (pkX12_within l hr) dX12_steps_153 pq_738 pq_741 (pd_okm (by omega) (by decide) pq_739 pq_740 (by decide) (show (parseMethodDescriptor yX12_within.desc).map (fun d => d.parameters.length) = some 3 from by decide +kernel)) (Nat.le_of_ble_eq_true rfl) rfl ?_
    refine pd_if_eq (tgt := 217) dX12_steps_156 (by decide) (fun hc => ?_) (fun hc => ?_)
    · have hf := pd_ip hf hc
      exact pd_weak (L' := [pd_R x0, pd_N]) ⟨Or.inr rfl, Or.inr rfl, trivial⟩ (pkX12_steps_b217 E l _ _ hf)
    · have hf := pd_in_ hf hc
      refine pd_aload_n (i := 0) dX12_steps_159 rfl rfl ?_
      refine pd_aload_n (i := 0) dX12_steps_160 rfl rfl ?_
      refine pd_get (x := pd_I (F13 x0 5)) 5 dX12_steps_161 (show vwCl[12]? = some (RX12, TX12, 52) from rfl) pin_12 (by decide) pq_729 hg10 rfl ?_
      refine pd_aload_n (i := 0) dX12_steps_164 rfl rfl ?_
      refine pd_get (x := pd_I (F13 x0 4)) 4 dX12_steps_165 (show vwCl[12]? = some (RX12, TX12, 52) from rfl) pin_12 (by decide) pq_709 hg10 rfl ?_
      refine pd_isub dX12_steps_168 ?_
      refine pd_bipush dX12_steps_169 (by decide) ?_
      refine pd_icmp_ge (tgt := 197) dX12_steps_171 (by decide) (fun hc => ?_) (fun hc => ?_)
      · have hf := pd_ip hf hc
        refine pd_aload_n (i := 0) dX12_steps_197 rfl rfl ?_
        refine pd_get (x := pd_J (F13 x0 8)) 8 dX12_steps_198 (show vwCl[12]? = some (RX12, TX12, 52) from rfl) pin_12 (by decide) pq_728 hg10 rfl ?_
        exact pd_weak (L' := [pd_R x0, pd_N]) ⟨Or.inr rfl, Or.inr rfl, trivial⟩ (pkX12_steps_b201 E l ih _ _ _ _ hf)
      · have hf := pd_in_ hf hc
        refine pd_aload_n (i := 0) dX12_steps_174 rfl rfl ?_
        refine pd_get (x := pd_J (F13 x0 8)) 8 dX12_steps_175 (show vwCl[12]? = some (RX12, TX12, 52) from rfl) pin_12 (by decide) pq_728 hg10 rfl ?_
        refine pd_iconst dX12_steps_178 (by decide) ?_
        refine pd_lshl dX12_steps_179 ?_
        refine pd_aload_n (i := 0) dX12_steps_180 rfl rfl ?_
        refine pd_aload_n (i := 0) dX12_steps_181 rfl rfl ?_
        refine pd_get (x := pd_I (F13 x0 5)) 5 dX12_steps_182 (show vwCl[12]? = some (RX12, TX12, 52) from rfl) pin_12 (by decide) pq_729 hg10 rfl ?_
        obtain ⟨r16, F15, hr, hf⟩ := pd_ob2 hf
        refine pd_callV (pkX12_see l hr) dX12_steps_185 pq_731 pq_734 pq_735 (show vwCl[12]? = some (yX12_see.cls, TX12, 52) from rfl) hg10 (pd_okm (by omega) (by decide) pq_732 pq_733 (by decide) (show (parseMethodDescriptor yX12_see.desc).map (fun d => d.parameters.length) = some 1 from by decide +kernel)) (Nat.le_of_ble_eq_true rfl) rfl ?_
        refine pd_i2l dX12_steps_188 ?_
        refine pd_ldc2 (x := 96) dX12_steps_189 pq_711 (by decide +kernel) ?_
        refine pd_lsub dX12_steps_192 ?_
        refine pd_lor dX12_steps_193 ?_
        refine pd_goto (tgt := 201) dX12_steps_194 (by decide) ?_
        exact pd_weak (L' := [pd_R x0, pd_N]) ⟨Or.inr rfl, Or.inr rfl, trivial⟩ (pkX12_steps_b201 E l ih _ _ _ _ hf)
set_option maxHeartbeats 4000000 in
set_option maxRecDepth 100000 in
theorem pkX12_steps_b327 (E : pd_E) (l : Launch) {sh : pd_S} {n : Nat} {Fz : pd_F} {c265 : pd_F → Int → Option pd_F} (hL265 : ∀ (F : pd_F) (x0 : Int), c265 F x0 = some Fz → pd_V E l (pd_rm 2 0 0) (RX12, cX12_steps, 2, none, "steps") (pd_Qm E false none sh Fz 0 0) false 0 0 sh F 265 [pd_R x0, pd_N] []) (F : pd_F) (x0 : Int) (t0 : Int) (t1 : Int) (hf : pfX12_steps_b327 sh n c265 F x0 t0 t1 = some Fz) : pd_V E l (pd_rm 2 0 0) (RX12, cX12_steps, 2, none, "steps") (pd_Qm E false none sh Fz 0 0) false 0 0 sh F 327 [pd_R x0, pd_N] [pd_I t0, pd_R t1] := by
  unfold pfX12_steps_b327 at hf
  obtain ⟨hg17, hf⟩ := pd_ig hf
  refine pd_put (n := t0) (x := pd_I t0) 7 dX12_steps_327 (show vwCl[12]? = some (RX12, TX12, 52) from rfl) pin_12 tyX12_ok nmX12 (by decide) pq_742 rfl hg17 rfl pd_nrI pd_ftI ?_
  refine pd_topF (fun F18 eF18 => ?_)
  have hf := pd_lt hf eF18
  clear eF18
  refine pd_aload_n (i := 0) dX12_steps_330 rfl rfl ?_
  refine pd_dup dX12_steps_331 rfl ?_
  obtain ⟨hg19, hf⟩ := pd_ig hf
  refine pd_get (x := pd_I (F18 x0 5)) 5 dX12_steps_332 (show vwCl[12]? = some (RX12, TX12, 52) from rfl) pin_12 (by decide) pq_729 hg19 rfl ?_
  refine pd_iconst dX12_steps_335 (by decide) ?_
  refine pd_iadd dX12_steps_336 ?_
  refine pd_put (n := (pd_w ((F18 x0 5) + 1))) (x := pd_I (pd_w ((F18 x0 5) + 1))) 5 dX12_steps_337 (show vwCl[12]? = some (RX12, TX12, 52) from rfl) pin_12 tyX12_ok nmX12 (by decide) pq_729 rfl hg19 rfl pd_nrI pd_ftI ?_
  refine pd_topF (fun F20 eF20 => ?_)
  have hf := pd_lt hf eF20
  clear eF20
  refine pd_goto (tgt := 265) dX12_steps_340 (by decide) ?_
  exact pd_weak (L' := [pd_R x0, pd_N]) ⟨Or.inr rfl, Or.inr rfl, trivial⟩ (hL265 _ _ hf)
set_option maxHeartbeats 4000000 in
set_option maxRecDepth 100000 in
theorem pkX12_steps_b343 (E : pd_E) (l : Launch) {sh : pd_S} {n : Nat} {Fz : pd_F}  (F : pd_F) (x0 : Int) (hf : pfX12_steps_b343 sh n  F x0 = some Fz) : pd_V E l (pd_rm 2 0 0) (RX12, cX12_steps, 2, none, "steps") (pd_Qm E false none sh Fz 0 0) false 0 0 sh F 343 [pd_R x0, pd_N] [] := by
  unfold pfX12_steps_b343 at hf
  refine pd_aload_n (i := 0) dX12_steps_343 rfl rfl ?_
  refine pd_aload_n (i := 0) dX12_steps_344 rfl rfl ?_
  obtain ⟨hg21, hf⟩ := pd_ig hf
  refine pd_get (x := pd_I (F x0 5)) 5 dX12_steps_345 (show vwCl[12]? = some (RX12, TX12, 52) from rfl) pin_12 (by decide) pq_729 hg21 rfl ?_
  refine pd_aload_n (i := 0) dX12_steps_348 rfl rfl ?_
  refine pd_get (x := pd_I (F x0 4)) 4 dX12_steps_349 (show vwCl[12]? = some (RX12, TX12, 52) from rfl) pin_12 (by decide) pq_709 hg21 rfl ?_
  refine pd_isub dX12_steps_352 ?_
  refine pd_bipush dX12_steps_353 (by decide) ?_
  refine pd_icmp_ge (tgt := 362) dX12_steps_355 (by decide) (fun hc => ?_) (fun hc => ?_)
  · have hf := pd_ip hf hc
    refine pd_iconst dX12_steps_362 (by decide) ?_
    refine pd_put (n := 4) (x := pd_I 4) 6 dX12_steps_363 (show vwCl[12]? = some (RX12, TX12, 52) from rfl) pin_12 tyX12_ok nmX12 (by decide) pq_730 rfl hg21 rfl pd_nrI pd_ftI ?_
    refine pd_topF (fun F22 eF22 => ?_)
    have hf := pd_lt hf eF22
    clear eF22
    obtain h2 := pd_inj1 hf
    subst h2
    exact pd_vret dX12_steps_366 rfl (Nat.le_refl 0) (Nat.le_refl 0)
  · have hf := pd_in_ hf hc
    refine pd_iconst dX12_steps_358 (by decide) ?_
    refine pd_goto (tgt := 363) dX12_steps_359 (by decide) ?_
    refine pd_put (n := 2) (x := pd_I 2) 6 dX12_steps_363 (show vwCl[12]? = some (RX12, TX12, 52) from rfl) pin_12 tyX12_ok nmX12 (by decide) pq_730 rfl hg21 rfl pd_nrI pd_ftI ?_
    refine pd_topF (fun F23 eF23 => ?_)
    have hf := pd_lt hf eF23
    clear eF23
    obtain h2 := pd_inj1 hf
    subst h2
    exact pd_vret dX12_steps_366 rfl (Nat.le_refl 0) (Nat.le_refl 0)
set_option maxHeartbeats 4000000 in
set_option maxRecDepth 100000 in
theorem pkX12_steps_b265 (E : pd_E) (l : Launch) {sh : pd_S} {n : Nat} {Fz : pd_F}  : ∀ (k : Nat) (F : pd_F) (x0 : Int), pfX12_steps_b265 sh n  k F x0 = some Fz → pd_V E l (pd_rm 2 0 0) (RX12, cX12_steps, 2, none, "steps") (pd_Qm E false none sh Fz 0 0) false 0 0 sh F 265 [pd_R x0, pd_N] [] := by
  intro k
  induction k with
  | zero => intro F x0 hf; exact absurd hf (by unfold pfX12_steps_b265; exact fun h => nomatch h)
  | succ k ih =>
    intro F x0 hf
    unfold pfX12_steps_b265 at hf
    refine pd_aload_n (i := 0) dX12_steps_265 rfl rfl ?_
    refine pd_aload_n (i := 0) dX12_steps_266 rfl rfl ?_
    obtain ⟨hg24, hf⟩ := pd_ig hf
    refine pd_get (x := pd_I (F x0 5)) 5 dX12_steps_267 (show vwCl[12]? = some (RX12, TX12, 52) from rfl) pin_12 (by decide) pq_729 hg24 rfl ?_
    obtain ⟨r26, F25, hr, hf⟩ := pd_ob2 hf
    refine pd_callV (pkX12_see l hr) dX12_steps_270 pq_731 pq_734 pq_735 (show vwCl[12]? = some (yX12_see.cls, TX12, 52) from rfl) hg24 (pd_okm (by omega) (by decide) pq_732 pq_733 (by decide) (show (parseMethodDescriptor yX12_see.desc).map (fun d => d.parameters.length) = some 1 from by decide +kernel)) (Nat.le_of_ble_eq_true rfl) rfl ?_
    refine pd_i2l dX12_steps_273 ?_
    refine pd_ldc2 (x := 48) dX12_steps_274 pq_743 (by decide +kernel) ?_
    refine pd_ldc2 (x := 57) dX12_steps_277 pq_744 (by decide +kernel) ?_
    obtain ⟨r28, F27, hr, hf⟩ := pd_ob2 hf
    refine pd_callS (pkX12_within l hr) dX12_steps_280 pq_738 pq_741 (pd_okm (by omega) (by decide) pq_739 pq_740 (by decide) (show (parseMethodDescriptor yX12_within.desc).map (fun d => d.parameters.length) = some 3 from by decide +kernel)) (Nat.le_of_ble_eq_true rfl) rfl ?_
    refine pd_if_eq (tgt := 343) dX12_steps_283 (by decide) (fun hc => ?_) (fun hc => ?_)
    · have hf := pd_ip hf hc
      exact pd_weak (L' := [pd_R x0, pd_N]) ⟨Or.inr rfl, Or.inr rfl, trivial⟩ (pkX12_steps_b343 E l _ _ hf)
    · have hf := pd_in_ hf hc
      refine pd_aload_n (i := 0) dX12_steps_286 rfl rfl ?_
      refine pd_aload_n (i := 0) dX12_steps_287 rfl rfl ?_
      refine pd_get (x := pd_I (F27 x0 5)) 5 dX12_steps_288 (show vwCl[12]? = some (RX12, TX12, 52) from rfl) pin_12 (by decide) pq_729 hg24 rfl ?_
      refine pd_aload_n (i := 0) dX12_steps_291 rfl rfl ?_
      refine pd_get (x := pd_I (F27 x0 4)) 4 dX12_steps_292 (show vwCl[12]? = some (RX12, TX12, 52) from rfl) pin_12 (by decide) pq_709 hg24 rfl ?_
      refine pd_isub dX12_steps_295 ?_
      refine pd_bipush dX12_steps_296 (by decide) ?_
      refine pd_icmp_ge (tgt := 323) dX12_steps_298 (by decide) (fun hc => ?_) (fun hc => ?_)
      · have hf := pd_ip hf hc
        refine pd_aload_n (i := 0) dX12_steps_323 rfl rfl ?_
        refine pd_get (x := pd_I (F27 x0 7)) 7 dX12_steps_324 (show vwCl[12]? = some (RX12, TX12, 52) from rfl) pin_12 (by decide) pq_742 hg24 rfl ?_
        exact pd_weak (L' := [pd_R x0, pd_N]) ⟨Or.inr rfl, Or.inr rfl, trivial⟩ (pkX12_steps_b327 E l ih _ _ _ _ hf)
      · have hf := pd_in_ hf hc
        refine pd_bipush dX12_steps_301 (by decide) ?_
        refine pd_aload_n (i := 0) dX12_steps_303 rfl rfl ?_
        refine pd_get (x := pd_I (F27 x0 7)) 7 dX12_steps_304 (show vwCl[12]? = some (RX12, TX12, 52) from rfl) pin_12 (by decide) pq_742 hg24 rfl ?_
        refine pd_imul dX12_steps_307 ?_
        refine pd_aload_n (i := 0) dX12_steps_308 rfl rfl ?_
        refine pd_aload_n (i := 0) dX12_steps_309 rfl rfl ?_
        refine pd_get (x := pd_I (F27 x0 5)) 5 dX12_steps_310 (show vwCl[12]? = some (RX12, TX12, 52) from rfl) pin_12 (by decide) pq_729 hg24 rfl ?_
        obtain ⟨r30, F29, hr, hf⟩ := pd_ob2 hf
        refine pd_callV (pkX12_see l hr) dX12_steps_313 pq_731 pq_734 pq_735 (show vwCl[12]? = some (yX12_see.cls, TX12, 52) from rfl) hg24 (pd_okm (by omega) (by decide) pq_732 pq_733 (by decide) (show (parseMethodDescriptor yX12_see.desc).map (fun d => d.parameters.length) = some 1 from by decide +kernel)) (Nat.le_of_ble_eq_true rfl) rfl ?_
        refine pd_iadd dX12_steps_316 ?_
        refine pd_bipush dX12_steps_317 (by decide) ?_
        refine pd_isub dX12_steps_319 ?_
        refine pd_goto (tgt := 327) dX12_steps_320 (by decide) ?_
        exact pd_weak (L' := [pd_R x0, pd_N]) ⟨Or.inr rfl, Or.inr rfl, trivial⟩ (pkX12_steps_b327 E l ih _ _ _ _ hf)
set_option maxHeartbeats 4000000 in
set_option maxRecDepth 100000 in
theorem pkX12_steps_b47 (E : pd_E) (l : Launch) {sh : pd_S} {n : Nat} {Fz : pd_F}  (F : pd_F) (x0 : Int) (hf : pfX12_steps_b47 sh n  F x0 = some Fz) : pd_V E l (pd_rm 2 0 0) (RX12, cX12_steps, 2, none, "steps") (pd_Qm E false none sh Fz 0 0) false 0 0 sh F 47 [pd_R x0, pd_N] [] := by
  unfold pfX12_steps_b47 at hf
  refine pd_aload_n (i := 0) dX12_steps_47 rfl rfl ?_
  refine pd_aload_n (i := 0) dX12_steps_48 rfl rfl ?_
  obtain ⟨hg31, hf⟩ := pd_ig hf
  refine pd_get (x := pd_I (F x0 4)) 4 dX12_steps_49 (show vwCl[12]? = some (RX12, TX12, 52) from rfl) pin_12 (by decide) pq_709 hg31 rfl ?_
  obtain ⟨r33, F32, hr, hf⟩ := pd_ob2 hf
  refine pd_callV (pkX12_see l hr) dX12_steps_52 pq_731 pq_734 pq_735 (show vwCl[12]? = some (yX12_see.cls, TX12, 52) from rfl) hg31 (pd_okm (by omega) (by decide) pq_732 pq_733 (by decide) (show (parseMethodDescriptor yX12_see.desc).map (fun d => d.parameters.length) = some 1 from by decide +kernel)) (Nat.le_of_ble_eq_true rfl) rfl ?_
  refine pd_istore_n (L' := [pd_R x0, pd_I r33]) dX12_steps_55 rfl (by decide) rfl ?_
  refine pd_aload_n (i := 0) dX12_steps_56 rfl rfl ?_
  refine pd_aload_n (i := 0) dX12_steps_57 rfl rfl ?_
  refine pd_get (x := pd_I (F32 x0 4)) 4 dX12_steps_58 (show vwCl[12]? = some (RX12, TX12, 52) from rfl) pin_12 (by decide) pq_709 hg31 rfl ?_
  refine pd_iconst dX12_steps_61 (by decide) ?_
  refine pd_iadd dX12_steps_62 ?_
  refine pd_put (n := (pd_w ((F32 x0 4) + 1))) (x := pd_I (pd_w ((F32 x0 4) + 1))) 5 dX12_steps_63 (show vwCl[12]? = some (RX12, TX12, 52) from rfl) pin_12 tyX12_ok nmX12 (by decide) pq_729 rfl hg31 rfl pd_nrI pd_ftI ?_
  refine pd_topF (fun F34 eF34 => ?_)
  have hf := pd_lt hf eF34
  clear eF34
  refine pd_aload_n (i := 0) dX12_steps_66 rfl rfl ?_
  refine pd_iconst dX12_steps_67 (by decide) ?_
  refine pd_put (n := 4) (x := pd_I 4) 6 dX12_steps_68 (show vwCl[12]? = some (RX12, TX12, 52) from rfl) pin_12 tyX12_ok nmX12 (by decide) pq_730 rfl hg31 rfl pd_nrI pd_ftI ?_
  refine pd_topF (fun F35 eF35 => ?_)
  have hf := pd_lt hf eF35
  clear eF35
  refine pd_aload_n (i := 0) dX12_steps_71 rfl rfl ?_
  refine pd_iconst dX12_steps_72 (by decide) ?_
  refine pd_put (n := 0) (x := pd_I 0) 7 dX12_steps_73 (show vwCl[12]? = some (RX12, TX12, 52) from rfl) pin_12 tyX12_ok nmX12 (by decide) pq_742 rfl hg31 rfl pd_nrI pd_ftI ?_
  refine pd_topF (fun F36 eF36 => ?_)
  have hf := pd_lt hf eF36
  clear eF36
  refine pd_aload_n (i := 0) dX12_steps_76 rfl rfl ?_
  refine pd_lconst (x := 0) dX12_steps_77 (by decide) ?_
  refine pd_put (n := 0) (x := pd_J 0) 8 dX12_steps_78 (show vwCl[12]? = some (RX12, TX12, 52) from rfl) pin_12 tyX12_ok nmX12 (by decide) pq_728 rfl hg31 rfl pd_nrJ pd_ftJ ?_
  refine pd_topF (fun F37 eF37 => ?_)
  have hf := pd_lt hf eF37
  clear eF37
  refine pd_iload_n (i := 1) dX12_steps_81 rfl rfl ?_
  refine pd_iconst dX12_steps_82 (by decide) ?_
  refine pd_icmp_ne (tgt := 102) dX12_steps_83 (by decide) (fun hc => ?_) (fun hc => ?_)
  · have hf := pd_ip hf hc
    refine pd_iload_n (i := 1) dX12_steps_102 rfl rfl ?_
    refine pd_bipush dX12_steps_103 (by decide) ?_
    refine pd_icmp_ne (tgt := 116) dX12_steps_105 (by decide) (fun hc => ?_) (fun hc => ?_)
    · have hf := pd_ip hf hc
      refine pd_iload_n (i := 1) dX12_steps_116 rfl rfl ?_
      refine pd_i2l dX12_steps_117 ?_
      refine pd_ldc2 (x := 97) dX12_steps_118 pq_736 (by decide +kernel) ?_
      refine pd_ldc2 (x := 122) dX12_steps_121 pq_737 (by decide +kernel) ?_
      obtain ⟨r39, F38, hr, hf⟩ := pd_ob2 hf
      refine pd_callS (pkX12_within l hr) dX12_steps_124 pq_738 pq_741 (pd_okm (by omega) (by decide) pq_739 pq_740 (by decide) (show (parseMethodDescriptor yX12_within.desc).map (fun d => d.parameters.length) = some 3 from by decide +kernel)) (Nat.le_of_ble_eq_true rfl) rfl ?_
      refine pd_if_eq (tgt := 243) dX12_steps_127 (by decide) (fun hc => ?_) (fun hc => ?_)
      · have hf := pd_ip hf hc
        refine pd_iload_n (i := 1) dX12_steps_243 rfl rfl ?_
        refine pd_i2l dX12_steps_244 ?_
        refine pd_ldc2 (x := 48) dX12_steps_245 pq_743 (by decide +kernel) ?_
        refine pd_ldc2 (x := 57) dX12_steps_248 pq_744 (by decide +kernel) ?_
        obtain ⟨r41, F40, hr, hf⟩ := pd_ob2 hf
        refine pd_callS (pkX12_within l hr) dX12_steps_251 pq_738 pq_741 (pd_okm (by omega) (by decide) pq_739 pq_740 (by decide) (show (parseMethodDescriptor yX12_within.desc).map (fun d => d.parameters.length) = some 3 from by decide +kernel)) (Nat.le_of_ble_eq_true rfl) rfl ?_
        refine pd_if_eq (tgt := 366) dX12_steps_254 (by decide) (fun hc => ?_) (fun hc => ?_)
        · have hf := pd_ip hf hc
          obtain h2 := pd_inj1 hf
          subst h2
          exact pd_vret dX12_steps_366 rfl (Nat.le_refl 0) (Nat.le_refl 0)
        · have hf := pd_in_ hf hc
          refine pd_aload_n (i := 0) dX12_steps_257 rfl rfl ?_
          refine pd_aload_n (i := 0) dX12_steps_258 rfl rfl ?_
          refine pd_get (x := pd_I (F40 x0 4)) 4 dX12_steps_259 (show vwCl[12]? = some (RX12, TX12, 52) from rfl) pin_12 (by decide) pq_709 hg31 rfl ?_
          refine pd_put (n := (F40 x0 4)) (x := pd_I (F40 x0 4)) 5 dX12_steps_262 (show vwCl[12]? = some (RX12, TX12, 52) from rfl) pin_12 tyX12_ok nmX12 (by decide) pq_729 rfl hg31 rfl pd_nrI pd_ftI ?_
          refine pd_topF (fun F42 eF42 => ?_)
          have hf := pd_lt hf eF42
          clear eF42
          exact pd_weak (L' := [pd_R x0, pd_N]) ⟨Or.inr rfl, Or.inl rfl, trivial⟩ (pkX12_steps_b265 E l n _ _ hf)
      · have hf := pd_in_ hf hc
        refine pd_aload_n (i := 0) dX12_steps_130 rfl rfl ?_
        refine pd_aload_n (i := 0) dX12_steps_131 rfl rfl ?_
        refine pd_get (x := pd_I (F38 x0 4)) 4 dX12_steps_132 (show vwCl[12]? = some (RX12, TX12, 52) from rfl) pin_12 (by decide) pq_709 hg31 rfl ?_
        refine pd_put (n := (F38 x0 4)) (x := pd_I (F38 x0 4)) 5 dX12_steps_135 (show vwCl[12]? = some (RX12, TX12, 52) from rfl) pin_12 tyX12_ok nmX12 (by decide) pq_729 rfl hg31 rfl pd_nrI pd_ftI ?_
        refine pd_topF (fun F43 eF43 => ?_)
        have hf := pd_lt hf eF43
        clear eF43
        exact pd_weak (L' := [pd_R x0, pd_N]) ⟨Or.inr rfl, Or.inl rfl, trivial⟩ (pkX12_steps_b138 E l n _ _ hf)
    · have hf := pd_iq hf hc
      refine pd_aload_n (i := 0) dX12_steps_108 rfl rfl ?_
      refine pd_iconst dX12_steps_109 (by decide) ?_
      refine pd_put (n := 3) (x := pd_I 3) 6 dX12_steps_110 (show vwCl[12]? = some (RX12, TX12, 52) from rfl) pin_12 tyX12_ok nmX12 (by decide) pq_730 rfl hg31 rfl pd_nrI pd_ftI ?_
      refine pd_topF (fun F44 eF44 => ?_)
      have hf := pd_lt hf eF44
      clear eF44
      refine pd_goto (tgt := 366) dX12_steps_113 (by decide) ?_
      obtain h2 := pd_inj1 hf
      subst h2
      exact pd_vret dX12_steps_366 rfl (Nat.le_refl 0) (Nat.le_refl 0)
  · have hf := pd_iq hf hc
    refine pd_aload_n (i := 0) dX12_steps_86 rfl rfl ?_
    refine pd_aload_n (i := 0) dX12_steps_87 rfl rfl ?_
    refine pd_get (x := pd_I (F37 x0 4)) 4 dX12_steps_88 (show vwCl[12]? = some (RX12, TX12, 52) from rfl) pin_12 (by decide) pq_709 hg31 rfl ?_
    refine pd_put (n := (F37 x0 4)) (x := pd_I (F37 x0 4)) 5 dX12_steps_91 (show vwCl[12]? = some (RX12, TX12, 52) from rfl) pin_12 tyX12_ok nmX12 (by decide) pq_729 rfl hg31 rfl pd_nrI pd_ftI ?_
    refine pd_topF (fun F45 eF45 => ?_)
    have hf := pd_lt hf eF45
    clear eF45
    refine pd_aload_n (i := 0) dX12_steps_94 rfl rfl ?_
    refine pd_iconst dX12_steps_95 (by decide) ?_
    refine pd_put (n := 0) (x := pd_I 0) 6 dX12_steps_96 (show vwCl[12]? = some (RX12, TX12, 52) from rfl) pin_12 tyX12_ok nmX12 (by decide) pq_730 rfl hg31 rfl pd_nrI pd_ftI ?_
    refine pd_topF (fun F46 eF46 => ?_)
    have hf := pd_lt hf eF46
    clear eF46
    refine pd_goto (tgt := 366) dX12_steps_99 (by decide) ?_
    obtain h2 := pd_inj1 hf
    subst h2
    exact pd_vret dX12_steps_366 rfl (Nat.le_refl 0) (Nat.le_refl 0)
set_option maxHeartbeats 4000000 in
set_option maxRecDepth 100000 in
theorem pkX12_steps_b8 (E : pd_E) (l : Launch) {sh : pd_S} {n : Nat} {Fz : pd_F}  : ∀ (k : Nat) (F : pd_F) (x0 : Int), pfX12_steps_b8 sh n  k F x0 = some Fz → pd_V E l (pd_rm 2 0 0) (RX12, cX12_steps, 2, none, "steps") (pd_Qm E false none sh Fz 0 0) false 0 0 sh F 8 [pd_R x0, pd_N] [] := by
  intro k
  induction k with
  | zero => intro F x0 hf; exact absurd hf (by unfold pfX12_steps_b8; exact fun h => nomatch h)
  | succ k ih =>
    intro F x0 hf
    unfold pfX12_steps_b8 at hf
    refine pd_aload_n (i := 0) dX12_steps_8 rfl rfl ?_
    refine pd_aload_n (i := 0) dX12_steps_9 rfl rfl ?_
    obtain ⟨hg47, hf⟩ := pd_ig hf
    refine pd_get (x := pd_I (F x0 4)) 4 dX12_steps_10 (show vwCl[12]? = some (RX12, TX12, 52) from rfl) pin_12 (by decide) pq_709 hg47 rfl ?_
    obtain ⟨r49, F48, hr, hf⟩ := pd_ob2 hf
    refine pd_callV (pkX12_see l hr) dX12_steps_13 pq_731 pq_734 pq_735 (show vwCl[12]? = some (yX12_see.cls, TX12, 52) from rfl) hg47 (pd_okm (by omega) (by decide) pq_732 pq_733 (by decide) (show (parseMethodDescriptor yX12_see.desc).map (fun d => d.parameters.length) = some 1 from by decide +kernel)) (Nat.le_of_ble_eq_true rfl) rfl ?_
    refine pd_bipush dX12_steps_16 (by decide) ?_
    refine pd_icmp_eq (tgt := 34) dX12_steps_18 (by decide) (fun hc => ?_) (fun hc => ?_)
    · have hf := pd_ip hf hc
      exact pd_weak (L' := [pd_R x0, pd_N]) ⟨Or.inr rfl, Or.inr rfl, trivial⟩ (pkX12_steps_b34 E l ih _ _ hf)
    · have hf := pd_in_ hf hc
      refine pd_aload_n (i := 0) dX12_steps_21 rfl rfl ?_
      refine pd_aload_n (i := 0) dX12_steps_22 rfl rfl ?_
      refine pd_get (x := pd_I (F48 x0 4)) 4 dX12_steps_23 (show vwCl[12]? = some (RX12, TX12, 52) from rfl) pin_12 (by decide) pq_709 hg47 rfl ?_
      obtain ⟨r51, F50, hr, hf⟩ := pd_ob2 hf
      refine pd_callV (pkX12_see l hr) dX12_steps_26 pq_731 pq_734 pq_735 (show vwCl[12]? = some (yX12_see.cls, TX12, 52) from rfl) hg47 (pd_okm (by omega) (by decide) pq_732 pq_733 (by decide) (show (parseMethodDescriptor yX12_see.desc).map (fun d => d.parameters.length) = some 1 from by decide +kernel)) (Nat.le_of_ble_eq_true rfl) rfl ?_
      refine pd_bipush dX12_steps_29 (by decide) ?_
      refine pd_icmp_ne (tgt := 47) dX12_steps_31 (by decide) (fun hc => ?_) (fun hc => ?_)
      · have hf := pd_ip hf hc
        exact pd_weak (L' := [pd_R x0, pd_N]) ⟨Or.inr rfl, Or.inr rfl, trivial⟩ (pkX12_steps_b47 E l _ _ hf)
      · have hf := pd_iq hf hc
        exact pd_weak (L' := [pd_R x0, pd_N]) ⟨Or.inr rfl, Or.inr rfl, trivial⟩ (pkX12_steps_b34 E l ih _ _ hf)
set_option maxHeartbeats 4000000 in
set_option maxRecDepth 100000 in
theorem pkX12_steps (l : Launch) {sh : pd_S} {n : Nat} {F : pd_F} {x0 : Int} {Fz : pd_F} (hf : pfX12_steps sh n F x0 = some Fz) : pd_C l yX12_steps (Cond.code yX12_steps cX12_steps 2 none :: pd_gt) (pd_rm 2 0 0) false 0 0 sh F [pd_R x0] none sh Fz := by
  unfold pfX12_steps at hf
  refine pd_body (L := [pd_R x0, pd_N]) (by decide +kernel) (Nat.le_of_ble_eq_true rfl) rfl (fun E => ?_)
  refine pd_aload_n (i := 0) dX12_steps_0 rfl rfl ?_
  refine pd_aload_n (i := 0) dX12_steps_1 rfl rfl ?_
  obtain ⟨hg52, hf⟩ := pd_ig hf
  refine pd_get (x := pd_I (F x0 5)) 5 dX12_steps_2 (show vwCl[12]? = some (RX12, TX12, 52) from rfl) pin_12 (by decide) pq_729 hg52 rfl ?_
  refine pd_put (n := (F x0 5)) (x := pd_I (F x0 5)) 4 dX12_steps_5 (show vwCl[12]? = some (RX12, TX12, 52) from rfl) pin_12 tyX12_ok nmX12 (by decide) pq_709 rfl hg52 rfl pd_nrI pd_ftI ?_
  refine pd_topF (fun F53 eF53 => ?_)
  have hf := pd_lt hf eF53
  clear eF53
  exact pd_weak (L' := [pd_R x0, pd_N]) ⟨Or.inr rfl, Or.inr rfl, trivial⟩ (pkX12_steps_b8 E l n _ _ hf)
set_option maxHeartbeats 4000000 in
set_option maxRecDepth 100000 in
theorem pkX12_is (l : Launch) {sh : pd_S} {n : Nat} {F : pd_F} {x0 : Int} {x1 : Int} {ρ : Int} {Fz : pd_F} (hf : pfX12_is sh n F x0 x1 = some (ρ, Fz)) : pd_C l yX12_is (Cond.code yX12_is cX12_is 2 (some .boolean) :: pd_gt) (pd_rm 6 0 0) false 0 0 sh F [pd_R x0, pd_R x1] (some (pd_I ρ)) sh Fz := by
  unfold pfX12_is at hf
  refine pd_body (L := [pd_R x0, pd_R x1]) (by decide +kernel) (Nat.le_of_ble_eq_true rfl) rfl (fun E => ?_)
  refine pd_aload_n (i := 0) dX12_is_0 rfl rfl ?_
  obtain ⟨hg1, hf⟩ := pd_ig hf
  refine pd_get (x := pd_I (F x0 6)) 6 dX12_is_1 (show vwCl[12]? = some (RX12, TX12, 52) from rfl) pin_12 (by decide) pq_730 hg1 rfl ?_
  refine pd_iconst dX12_is_4 (by decide) ?_
  refine pd_icmp_ne (tgt := 24) dX12_is_5 (by decide) (fun hc => ?_) (fun hc => ?_)
  · have hf := pd_ip hf hc
    refine pd_iconst dX12_is_24 (by decide) ?_
    obtain ⟨h1, h2⟩ := pd_inj hf
    subst h1 h2
    exact pd_zret dX12_is_25 rfl (by decide) (Nat.le_refl 0) (Nat.le_refl 0)
  · have hf := pd_iq hf hc
    refine pd_aload_n (i := 0) dX12_is_8 rfl rfl ?_
    refine pd_get (x := pd_J (F x0 8)) 8 dX12_is_9 (show vwCl[12]? = some (RX12, TX12, 52) from rfl) pin_12 (by decide) pq_728 hg1 rfl ?_
    refine pd_aload_n (i := 1) dX12_is_12 rfl rfl ?_
    obtain ⟨r3, F2, hr, hf⟩ := pd_ob2 hf
    refine pd_callS (pkX12_spelled l hr) dX12_is_13 pq_745 pq_748 (pd_okm (by omega) (by decide) pq_746 pq_747 (by decide) (show (parseMethodDescriptor yX12_spelled.desc).map (fun d => d.parameters.length) = some 1 from by decide +kernel)) (Nat.le_of_ble_eq_true rfl) rfl ?_
    refine pd_lcmp_ne (tgt := 24) dX12_is_16 dX12_is_17 (by decide) (fun hc => ?_) (fun hc => ?_)
    · have hf := pd_ip hf hc
      refine pd_iconst dX12_is_24 (by decide) ?_
      obtain ⟨h1, h2⟩ := pd_inj hf
      subst h1 h2
      exact pd_zret dX12_is_25 rfl (by decide) (Nat.le_refl 0) (Nat.le_refl 0)
    · have hf := pd_iq hf hc
      refine pd_iconst dX12_is_20 (by decide) ?_
      refine pd_goto (tgt := 25) dX12_is_21 (by decide) ?_
      obtain ⟨h1, h2⟩ := pd_inj hf
      subst h1 h2
      exact pd_zret dX12_is_25 rfl (by decide) (Nat.le_refl 0) (Nat.le_refl 0)
set_option maxHeartbeats 4000000 in
set_option maxRecDepth 100000 in
theorem pkX12_partNamed (l : Launch) {sh : pd_S} {n : Nat} {F : pd_F} {x0 : Int} {ρ : Int} {Fz : pd_F} (hf : pfX12_partNamed sh n F x0 = some (ρ, Fz)) : pd_C l yX12_partNamed (Cond.code yX12_partNamed cX12_partNamed 1 (some .int) :: pd_gt) (pd_rm 2 0 0) false 0 0 sh F [pd_R x0] (some (pd_I ρ)) sh Fz := by
  unfold pfX12_partNamed at hf
  refine pd_body (L := [pd_R x0]) (by decide +kernel) (Nat.le_of_ble_eq_true rfl) rfl (fun E => ?_)
  refine pd_aload_n (i := 0) dX12_partNamed_0 rfl rfl ?_
  refine pd_aload_n (i := 0) dX12_partNamed_1 rfl rfl ?_
  obtain ⟨hg1, hf⟩ := pd_ig hf
  refine pd_get (x := pd_J (F x0 8)) 8 dX12_partNamed_2 (show vwCl[12]? = some (RX12, TX12, 52) from rfl) pin_12 (by decide) pq_728 hg1 rfl ?_
  obtain ⟨r3, F2, hr, hf⟩ := pd_ob2 hf
  refine pd_callV (pkX12_personNamed l hr) dX12_partNamed_5 pq_749 pq_752 pq_753 (show vwCl[12]? = some (yX12_personNamed.cls, TX12, 52) from rfl) hg1 (pd_okm (by omega) (by decide) pq_750 pq_751 (by decide) (show (parseMethodDescriptor yX12_personNamed.desc).map (fun d => d.parameters.length) = some 1 from by decide +kernel)) (Nat.le_of_ble_eq_true rfl) rfl ?_
  refine pd_if_lt (tgt := 22) dX12_partNamed_8 (by decide) (fun hc => ?_) (fun hc => ?_)
  · have hf := pd_ip hf hc
    refine pd_aload_n (i := 0) dX12_partNamed_22 rfl rfl ?_
    refine pd_aload_n (i := 0) dX12_partNamed_23 rfl rfl ?_
    refine pd_get (x := pd_J (F2 x0 8)) 8 dX12_partNamed_24 (show vwCl[12]? = some (RX12, TX12, 52) from rfl) pin_12 (by decide) pq_728 hg1 rfl ?_
    obtain ⟨r5, F4, hr, hf⟩ := pd_ob2 hf
    refine pd_callV (pkX12_trustNamed l hr) dX12_partNamed_27 pq_754 pq_757 pq_758 (show vwCl[12]? = some (yX12_trustNamed.cls, TX12, 52) from rfl) hg1 (pd_okm (by omega) (by decide) pq_755 pq_756 (by decide) (show (parseMethodDescriptor yX12_trustNamed.desc).map (fun d => d.parameters.length) = some 1 from by decide +kernel)) (Nat.le_of_ble_eq_true rfl) rfl ?_
    refine pd_if_lt (tgt := 47) dX12_partNamed_30 (by decide) (fun hc => ?_) (fun hc => ?_)
    · have hf := pd_ip hf hc
      refine pd_iconst dX12_partNamed_47 (by decide) ?_
      obtain ⟨h1, h2⟩ := pd_inj hf
      subst h1 h2
      exact pd_iret dX12_partNamed_48 rfl (Nat.le_refl 0) (Nat.le_refl 0)
    · have hf := pd_in_ hf hc
      refine pd_bipush dX12_partNamed_33 (by decide) ?_
      refine pd_aload_n (i := 0) dX12_partNamed_35 rfl rfl ?_
      refine pd_aload_n (i := 0) dX12_partNamed_36 rfl rfl ?_
      refine pd_get (x := pd_J (F4 x0 8)) 8 dX12_partNamed_37 (show vwCl[12]? = some (RX12, TX12, 52) from rfl) pin_12 (by decide) pq_728 hg1 rfl ?_
      obtain ⟨r7, F6, hr, hf⟩ := pd_ob2 hf
      refine pd_callV (pkX12_trustNamed l hr) dX12_partNamed_40 pq_754 pq_757 pq_758 (show vwCl[12]? = some (yX12_trustNamed.cls, TX12, 52) from rfl) hg1 (pd_okm (by omega) (by decide) pq_755 pq_756 (by decide) (show (parseMethodDescriptor yX12_trustNamed.desc).map (fun d => d.parameters.length) = some 1 from by decide +kernel)) (Nat.le_of_ble_eq_true rfl) rfl ?_
      refine pd_iadd dX12_partNamed_43 ?_
      refine pd_goto (tgt := 48) dX12_partNamed_44 (by decide) ?_
      obtain ⟨h1, h2⟩ := pd_inj hf
      subst h1 h2
      exact pd_iret dX12_partNamed_48 rfl (Nat.le_refl 0) (Nat.le_refl 0)
  · have hf := pd_in_ hf hc
    refine pd_aload_n (i := 0) dX12_partNamed_11 rfl rfl ?_
    refine pd_aload_n (i := 0) dX12_partNamed_12 rfl rfl ?_
    refine pd_get (x := pd_J (F2 x0 8)) 8 dX12_partNamed_13 (show vwCl[12]? = some (RX12, TX12, 52) from rfl) pin_12 (by decide) pq_728 hg1 rfl ?_
    obtain ⟨r9, F8, hr, hf⟩ := pd_ob2 hf
    refine pd_callV (pkX12_personNamed l hr) dX12_partNamed_16 pq_749 pq_752 pq_753 (show vwCl[12]? = some (yX12_personNamed.cls, TX12, 52) from rfl) hg1 (pd_okm (by omega) (by decide) pq_750 pq_751 (by decide) (show (parseMethodDescriptor yX12_personNamed.desc).map (fun d => d.parameters.length) = some 1 from by decide +kernel)) (Nat.le_of_ble_eq_true rfl) rfl ?_
    refine pd_goto (tgt := 48) dX12_partNamed_19 (by decide) ?_
    obtain ⟨h1, h2⟩ := pd_inj hf
    subst h1 h2
    exact pd_iret dX12_partNamed_48 rfl (Nat.le_refl 0) (Nat.le_refl 0)
set_option maxHeartbeats 4000000 in
set_option maxRecDepth 100000 in
theorem pkX12_isOwn (l : Launch) {sh : pd_S} {n : Nat} {F : pd_F} {x0 : Int} {ρ : Int} {Fz : pd_F} (hf : pfX12_isOwn sh n F x0 = some (ρ, Fz)) : pd_C l yX12_isOwn (Cond.code yX12_isOwn cX12_isOwn 1 (some .boolean) :: pd_gt) (pd_rm 7 0 0) false 0 0 sh F [pd_R x0] (some (pd_I ρ)) sh Fz := by
  unfold pfX12_isOwn at hf
  refine pd_body (L := [pd_R x0]) (by decide +kernel) (Nat.le_of_ble_eq_true rfl) rfl (fun E => ?_)
  refine pd_aload_n (i := 0) dX12_isOwn_0 rfl rfl ?_
  refine pd_ldcS (k0 := 3) dX12_isOwn_1 rfl ?_
  obtain ⟨hg3, hf⟩ := pd_ig hf
  obtain ⟨r2, F1, hr, hf⟩ := pd_ob2 hf
  refine pd_callV (pkX12_is l hr) dX12_isOwn_3 pq_759 pq_762 pq_763 (show vwCl[12]? = some (yX12_is.cls, TX12, 52) from rfl) hg3 (pd_okm (by omega) (by decide) pq_760 pq_761 (by decide) (show (parseMethodDescriptor yX12_is.desc).map (fun d => d.parameters.length) = some 1 from by decide +kernel)) (Nat.le_of_ble_eq_true rfl) rfl ?_
  refine pd_if_ne (tgt := 117) dX12_isOwn_6 (by decide) (fun hc => ?_) (fun hc => ?_)
  · have hf := pd_ip hf hc
    refine pd_iconst dX12_isOwn_117 (by decide) ?_
    refine pd_goto (tgt := 122) dX12_isOwn_118 (by decide) ?_
    obtain ⟨h1, h2⟩ := pd_inj hf
    subst h1 h2
    exact pd_zret dX12_isOwn_122 rfl (by decide) (Nat.le_refl 0) (Nat.le_refl 0)
  · have hf := pd_iq hf hc
    refine pd_aload_n (i := 0) dX12_isOwn_9 rfl rfl ?_
    refine pd_ldcS (k0 := 11) dX12_isOwn_10 rfl ?_
    obtain ⟨r5, F4, hr, hf⟩ := pd_ob2 hf
    refine pd_callV (pkX12_is l hr) dX12_isOwn_12 pq_759 pq_762 pq_763 (show vwCl[12]? = some (yX12_is.cls, TX12, 52) from rfl) hg3 (pd_okm (by omega) (by decide) pq_760 pq_761 (by decide) (show (parseMethodDescriptor yX12_is.desc).map (fun d => d.parameters.length) = some 1 from by decide +kernel)) (Nat.le_of_ble_eq_true rfl) rfl ?_
    refine pd_if_ne (tgt := 117) dX12_isOwn_15 (by decide) (fun hc => ?_) (fun hc => ?_)
    · have hf := pd_ip hf hc
      refine pd_iconst dX12_isOwn_117 (by decide) ?_
      refine pd_goto (tgt := 122) dX12_isOwn_118 (by decide) ?_
      obtain ⟨h1, h2⟩ := pd_inj hf
      subst h1 h2
      exact pd_zret dX12_isOwn_122 rfl (by decide) (Nat.le_refl 0) (Nat.le_refl 0)
    · have hf := pd_iq hf hc
      refine pd_aload_n (i := 0) dX12_isOwn_18 rfl rfl ?_
      refine pd_ldcS (k0 := 4) dX12_isOwn_19 rfl ?_
      obtain ⟨r7, F6, hr, hf⟩ := pd_ob2 hf
      refine pd_callV (pkX12_is l hr) dX12_isOwn_21 pq_759 pq_762 pq_763 (show vwCl[12]? = some (yX12_is.cls, TX12, 52) from rfl) hg3 (pd_okm (by omega) (by decide) pq_760 pq_761 (by decide) (show (parseMethodDescriptor yX12_is.desc).map (fun d => d.parameters.length) = some 1 from by decide +kernel)) (Nat.le_of_ble_eq_true rfl) rfl ?_
      refine pd_if_ne (tgt := 117) dX12_isOwn_24 (by decide) (fun hc => ?_) (fun hc => ?_)
      · have hf := pd_ip hf hc
        refine pd_iconst dX12_isOwn_117 (by decide) ?_
        refine pd_goto (tgt := 122) dX12_isOwn_118 (by decide) ?_
        obtain ⟨h1, h2⟩ := pd_inj hf
        subst h1 h2
        exact pd_zret dX12_isOwn_122 rfl (by decide) (Nat.le_refl 0) (Nat.le_refl 0)
      · have hf := pd_iq hf hc
        refine pd_aload_n (i := 0) dX12_isOwn_27 rfl rfl ?_
        refine pd_ldcS (k0 := 5) dX12_isOwn_28 rfl ?_
        obtain ⟨r9, F8, hr, hf⟩ := pd_ob2 hf
        refine pd_callV (pkX12_is l hr) dX12_isOwn_30 pq_759 pq_762 pq_763 (show vwCl[12]? = some (yX12_is.cls, TX12, 52) from rfl) hg3 (pd_okm (by omega) (by decide) pq_760 pq_761 (by decide) (show (parseMethodDescriptor yX12_is.desc).map (fun d => d.parameters.length) = some 1 from by decide +kernel)) (Nat.le_of_ble_eq_true rfl) rfl ?_
        refine pd_if_ne (tgt := 117) dX12_isOwn_33 (by decide) (fun hc => ?_) (fun hc => ?_)
        · have hf := pd_ip hf hc
          refine pd_iconst dX12_isOwn_117 (by decide) ?_
          refine pd_goto (tgt := 122) dX12_isOwn_118 (by decide) ?_
          obtain ⟨h1, h2⟩ := pd_inj hf
          subst h1 h2
          exact pd_zret dX12_isOwn_122 rfl (by decide) (Nat.le_refl 0) (Nat.le_refl 0)
        · have hf := pd_iq hf hc
          refine pd_aload_n (i := 0) dX12_isOwn_36 rfl rfl ?_
          refine pd_ldcS (k0 := 12) dX12_isOwn_37 rfl ?_
          obtain ⟨r11, F10, hr, hf⟩ := pd_ob2 hf
          refine pd_callV (pkX12_is l hr) dX12_isOwn_39 pq_759 pq_762 pq_763 (show vwCl[12]? = some (yX12_is.cls, TX12, 52) from rfl) hg3 (pd_okm (by omega) (by decide) pq_760 pq_761 (by decide) (show (parseMethodDescriptor yX12_is.desc).map (fun d => d.parameters.length) = some 1 from by decide +kernel)) (Nat.le_of_ble_eq_true rfl) rfl ?_
          refine pd_if_ne (tgt := 117) dX12_isOwn_42 (by decide) (fun hc => ?_) (fun hc => ?_)
          · have hf := pd_ip hf hc
            refine pd_iconst dX12_isOwn_117 (by decide) ?_
            refine pd_goto (tgt := 122) dX12_isOwn_118 (by decide) ?_
            obtain ⟨h1, h2⟩ := pd_inj hf
            subst h1 h2
            exact pd_zret dX12_isOwn_122 rfl (by decide) (Nat.le_refl 0) (Nat.le_refl 0)
          · have hf := pd_iq hf hc
            refine pd_aload_n (i := 0) dX12_isOwn_45 rfl rfl ?_
            refine pd_ldcS (k0 := 6) dX12_isOwn_46 rfl ?_
            obtain ⟨r13, F12, hr, hf⟩ := pd_ob2 hf
            refine pd_callV (pkX12_is l hr) dX12_isOwn_48 pq_759 pq_762 pq_763 (show vwCl[12]? = some (yX12_is.cls, TX12, 52) from rfl) hg3 (pd_okm (by omega) (by decide) pq_760 pq_761 (by decide) (show (parseMethodDescriptor yX12_is.desc).map (fun d => d.parameters.length) = some 1 from by decide +kernel)) (Nat.le_of_ble_eq_true rfl) rfl ?_
            refine pd_if_ne (tgt := 117) dX12_isOwn_51 (by decide) (fun hc => ?_) (fun hc => ?_)
            · have hf := pd_ip hf hc
              refine pd_iconst dX12_isOwn_117 (by decide) ?_
              refine pd_goto (tgt := 122) dX12_isOwn_118 (by decide) ?_
              obtain ⟨h1, h2⟩ := pd_inj hf
              subst h1 h2
              exact pd_zret dX12_isOwn_122 rfl (by decide) (Nat.le_refl 0) (Nat.le_refl 0)
            · have hf := pd_iq hf hc
              refine pd_aload_n (i := 0) dX12_isOwn_54 rfl rfl ?_
              refine pd_ldcS (k0 := 13) dX12_isOwn_55 rfl ?_
              obtain ⟨r15, F14, hr, hf⟩ := pd_ob2 hf
              refine pd_callV (pkX12_is l hr) dX12_isOwn_57 pq_759 pq_762 pq_763 (show vwCl[12]? = some (yX12_is.cls, TX12, 52) from rfl) hg3 (pd_okm (by omega) (by decide) pq_760 pq_761 (by decide) (show (parseMethodDescriptor yX12_is.desc).map (fun d => d.parameters.length) = some 1 from by decide +kernel)) (Nat.le_of_ble_eq_true rfl) rfl ?_
              refine pd_if_ne (tgt := 117) dX12_isOwn_60 (by decide) (fun hc => ?_) (fun hc => ?_)
              · have hf := pd_ip hf hc
                refine pd_iconst dX12_isOwn_117 (by decide) ?_
                refine pd_goto (tgt := 122) dX12_isOwn_118 (by decide) ?_
                obtain ⟨h1, h2⟩ := pd_inj hf
                subst h1 h2
                exact pd_zret dX12_isOwn_122 rfl (by decide) (Nat.le_refl 0) (Nat.le_refl 0)
              · have hf := pd_iq hf hc
                refine pd_aload_n (i := 0) dX12_isOwn_63 rfl rfl ?_
                refine pd_ldcS (k0 := 14) dX12_isOwn_64 rfl ?_
                obtain ⟨r17, F16, hr, hf⟩ := pd_ob2 hf
                refine pd_callV (pkX12_is l hr) dX12_isOwn_66 pq_759 pq_762 pq_763 (show vwCl[12]? = some (yX12_is.cls, TX12, 52) from rfl) hg3 (pd_okm (by omega) (by decide) pq_760 pq_761 (by decide) (show (parseMethodDescriptor yX12_is.desc).map (fun d => d.parameters.length) = some 1 from by decide +kernel)) (Nat.le_of_ble_eq_true rfl) rfl ?_
                refine pd_if_ne (tgt := 117) dX12_isOwn_69 (by decide) (fun hc => ?_) (fun hc => ?_)
                · have hf := pd_ip hf hc
                  refine pd_iconst dX12_isOwn_117 (by decide) ?_
                  refine pd_goto (tgt := 122) dX12_isOwn_118 (by decide) ?_
                  obtain ⟨h1, h2⟩ := pd_inj hf
                  subst h1 h2
                  exact pd_zret dX12_isOwn_122 rfl (by decide) (Nat.le_refl 0) (Nat.le_refl 0)
                · have hf := pd_iq hf hc
                  refine pd_aload_n (i := 0) dX12_isOwn_72 rfl rfl ?_
                  refine pd_ldcS (k0 := 7) dX12_isOwn_73 rfl ?_
                  obtain ⟨r19, F18, hr, hf⟩ := pd_ob2 hf
                  refine pd_callV (pkX12_is l hr) dX12_isOwn_75 pq_759 pq_762 pq_763 (show vwCl[12]? = some (yX12_is.cls, TX12, 52) from rfl) hg3 (pd_okm (by omega) (by decide) pq_760 pq_761 (by decide) (show (parseMethodDescriptor yX12_is.desc).map (fun d => d.parameters.length) = some 1 from by decide +kernel)) (Nat.le_of_ble_eq_true rfl) rfl ?_
                  refine pd_if_ne (tgt := 117) dX12_isOwn_78 (by decide) (fun hc => ?_) (fun hc => ?_)
                  · have hf := pd_ip hf hc
                    refine pd_iconst dX12_isOwn_117 (by decide) ?_
                    refine pd_goto (tgt := 122) dX12_isOwn_118 (by decide) ?_
                    obtain ⟨h1, h2⟩ := pd_inj hf
                    subst h1 h2
                    exact pd_zret dX12_isOwn_122 rfl (by decide) (Nat.le_refl 0) (Nat.le_refl 0)
                  · have hf := pd_iq hf hc
                    refine pd_aload_n (i := 0) dX12_isOwn_81 rfl rfl ?_
                    refine pd_ldcS (k0 := 15) dX12_isOwn_82 rfl ?_
                    obtain ⟨r21, F20, hr, hf⟩ := pd_ob2 hf
                    refine pd_callV (pkX12_is l hr) dX12_isOwn_84 pq_759 pq_762 pq_763 (show vwCl[12]? = some (yX12_is.cls, TX12, 52) from rfl) hg3 (pd_okm (by omega) (by decide) pq_760 pq_761 (by decide) (show (parseMethodDescriptor yX12_is.desc).map (fun d => d.parameters.length) = some 1 from by decide +kernel)) (Nat.le_of_ble_eq_true rfl) rfl ?_
                    refine pd_if_ne (tgt := 117) dX12_isOwn_87 (by decide) (fun hc => ?_) (fun hc => ?_)
                    · have hf := pd_ip hf hc
                      refine pd_iconst dX12_isOwn_117 (by decide) ?_
                      refine pd_goto (tgt := 122) dX12_isOwn_118 (by decide) ?_
                      obtain ⟨h1, h2⟩ := pd_inj hf
                      subst h1 h2
                      exact pd_zret dX12_isOwn_122 rfl (by decide) (Nat.le_refl 0) (Nat.le_refl 0)
                    · have hf := pd_iq hf hc
                      refine pd_aload_n (i := 0) dX12_isOwn_90 rfl rfl ?_
                      refine pd_ldcS (k0 := 9) dX12_isOwn_91 rfl ?_
                      obtain ⟨r23, F22, hr, hf⟩ := pd_ob2 hf
                      refine pd_callV (pkX12_is l hr) dX12_isOwn_93 pq_759 pq_762 pq_763 (show vwCl[12]? = some (yX12_is.cls, TX12, 52) from rfl) hg3 (pd_okm (by omega) (by decide) pq_760 pq_761 (by decide) (show (parseMethodDescriptor yX12_is.desc).map (fun d => d.parameters.length) = some 1 from by decide +kernel)) (Nat.le_of_ble_eq_true rfl) rfl ?_
                      refine pd_if_ne (tgt := 117) dX12_isOwn_96 (by decide) (fun hc => ?_) (fun hc => ?_)
                      · have hf := pd_ip hf hc
                        refine pd_iconst dX12_isOwn_117 (by decide) ?_
                        refine pd_goto (tgt := 122) dX12_isOwn_118 (by decide) ?_
                        obtain ⟨h1, h2⟩ := pd_inj hf
                        subst h1 h2
                        exact pd_zret dX12_isOwn_122 rfl (by decide) (Nat.le_refl 0) (Nat.le_refl 0)
                      · have hf := pd_iq hf hc
                        refine pd_aload_n (i := 0) dX12_isOwn_99 rfl rfl ?_
                        refine pd_ldcS (k0 := 10) dX12_isOwn_100 rfl ?_
                        obtain ⟨r25, F24, hr, hf⟩ := pd_ob2 hf
                        refine pd_callV (pkX12_is l hr) dX12_isOwn_102 pq_759 pq_762 pq_763 (show vwCl[12]? = some (yX12_is.cls, TX12, 52) from rfl) hg3 (pd_okm (by omega) (by decide) pq_760 pq_761 (by decide) (show (parseMethodDescriptor yX12_is.desc).map (fun d => d.parameters.length) = some 1 from by decide +kernel)) (Nat.le_of_ble_eq_true rfl) rfl ?_
                        refine pd_if_ne (tgt := 117) dX12_isOwn_105 (by decide) (fun hc => ?_) (fun hc => ?_)
                        · have hf := pd_ip hf hc
                          refine pd_iconst dX12_isOwn_117 (by decide) ?_
                          refine pd_goto (tgt := 122) dX12_isOwn_118 (by decide) ?_
                          obtain ⟨h1, h2⟩ := pd_inj hf
                          subst h1 h2
                          exact pd_zret dX12_isOwn_122 rfl (by decide) (Nat.le_refl 0) (Nat.le_refl 0)
                        · have hf := pd_iq hf hc
                          refine pd_aload_n (i := 0) dX12_isOwn_108 rfl rfl ?_
                          refine pd_ldcS (k0 := 8) dX12_isOwn_109 rfl ?_
                          obtain ⟨r27, F26, hr, hf⟩ := pd_ob2 hf
                          refine pd_callV (pkX12_is l hr) dX12_isOwn_111 pq_759 pq_762 pq_763 (show vwCl[12]? = some (yX12_is.cls, TX12, 52) from rfl) hg3 (pd_okm (by omega) (by decide) pq_760 pq_761 (by decide) (show (parseMethodDescriptor yX12_is.desc).map (fun d => d.parameters.length) = some 1 from by decide +kernel)) (Nat.le_of_ble_eq_true rfl) rfl ?_
                          refine pd_if_eq (tgt := 121) dX12_isOwn_114 (by decide) (fun hc => ?_) (fun hc => ?_)
                          · have hf := pd_ip hf hc
                            refine pd_iconst dX12_isOwn_121 (by decide) ?_
                            obtain ⟨h1, h2⟩ := pd_inj hf
                            subst h1 h2
                            exact pd_zret dX12_isOwn_122 rfl (by decide) (Nat.le_refl 0) (Nat.le_refl 0)
                          · have hf := pd_in_ hf hc
                            refine pd_iconst dX12_isOwn_117 (by decide) ?_
                            refine pd_goto (tgt := 122) dX12_isOwn_118 (by decide) ?_
                            obtain ⟨h1, h2⟩ := pd_inj hf
                            subst h1 h2
                            exact pd_zret dX12_isOwn_122 rfl (by decide) (Nat.le_refl 0) (Nat.le_refl 0)
set_option maxHeartbeats 4000000 in
set_option maxRecDepth 100000 in
theorem pkX12_takes (l : Launch) {sh : pd_S} {n : Nat} {F : pd_F} {x0 : Int} {x1 : Int} {ρ : Int} {Fz : pd_F} (hf : pfX12_takes sh n F x0 x1 = some (ρ, Fz)) : pd_C l yX12_takes (Cond.code yX12_takes cX12_takes 2 (some .boolean) :: pd_gt) (pd_rm 7 0 0) false 0 0 sh F [pd_R x0, pd_R x1] (some (pd_I ρ)) sh Fz := by
  unfold pfX12_takes at hf
  refine pd_body (L := [pd_R x0, pd_R x1]) (by decide +kernel) (Nat.le_of_ble_eq_true rfl) rfl (fun E => ?_)
  refine pd_aload_n (i := 0) dX12_takes_0 rfl rfl ?_
  refine pd_aload_n (i := 0) dX12_takes_1 rfl rfl ?_
  refine pd_aload_n (i := 1) dX12_takes_2 rfl rfl ?_
  obtain ⟨hg3, hf⟩ := pd_ig hf
  obtain ⟨r2, F1, hr, hf⟩ := pd_ob2 hf
  refine pd_callV (pkX12_is l hr) dX12_takes_3 pq_759 pq_762 pq_763 (show vwCl[12]? = some (yX12_is.cls, TX12, 52) from rfl) hg3 (pd_okm (by omega) (by decide) pq_760 pq_761 (by decide) (show (parseMethodDescriptor yX12_is.desc).map (fun d => d.parameters.length) = some 1 from by decide +kernel)) (Nat.le_of_ble_eq_true rfl) rfl ?_
  refine pd_iconst dX12_takes_6 (by decide) ?_
  obtain ⟨r5, F4, hr, hf⟩ := pd_ob2 hf
  refine pd_callV (pkX12_must l hr) dX12_takes_7 pq_764 pq_767 pq_768 (show vwCl[12]? = some (yX12_must.cls, TX12, 52) from rfl) hg3 (pd_okm (by omega) (by decide) pq_765 pq_766 (by decide) (show (parseMethodDescriptor yX12_must.desc).map (fun d => d.parameters.length) = some 2 from by decide +kernel)) (Nat.le_of_ble_eq_true rfl) rfl ?_
  refine pd_if_ne (tgt := 15) dX12_takes_10 (by decide) (fun hc => ?_) (fun hc => ?_)
  · have hf := pd_ip hf hc
    refine pd_aload_n (i := 0) dX12_takes_15 rfl rfl ?_
    obtain ⟨F6, hr, hf⟩ := pd_ob1 hf
    refine pd_callV (pkX12_steps l hr) dX12_takes_16 pq_769 pq_772 pq_773 (show vwCl[12]? = some (yX12_steps.cls, TX12, 52) from rfl) hg3 (pd_okm (by omega) (by decide) pq_770 pq_771 (by decide) (show (parseMethodDescriptor yX12_steps.desc).map (fun d => d.parameters.length) = some 0 from by decide +kernel)) (Nat.le_of_ble_eq_true rfl) rfl ?_
    refine pd_iconst dX12_takes_19 (by decide) ?_
    obtain ⟨h1, h2⟩ := pd_inj hf
    subst h1 h2
    exact pd_zret dX12_takes_20 rfl (by decide) (Nat.le_refl 0) (Nat.le_refl 0)
  · have hf := pd_iq hf hc
    refine pd_iconst dX12_takes_13 (by decide) ?_
    obtain ⟨h1, h2⟩ := pd_inj hf
    subst h1 h2
    exact pd_zret dX12_takes_14 rfl (by decide) (Nat.le_refl 0) (Nat.le_refl 0)
set_option maxHeartbeats 4000000 in
set_option maxRecDepth 100000 in
theorem pkX12_takesNumber_b14 (E : pd_E) (l : Launch) {sh : pd_S} {n : Nat} {ρ : Int} {Fz : pd_F}  (F : pd_F) (x0 : Int) (x1 : Int) (x2 : Int) (t0 : Int) (t1 : Int) (hf : pfX12_takesNumber_b14 sh n  F x0 x1 x2 t0 t1 = some (ρ, Fz)) : pd_V E l (pd_rm 3 0 0) (RX12, cX12_takesNumber, 3, (some .boolean), "takesNumber") (pd_Qm E false (some (pd_I ρ)) sh Fz 0 0) false 0 0 sh F 14 [pd_R x0, pd_I x1, pd_I x2] [pd_I t0, pd_R t1] := by
  unfold pfX12_takesNumber_b14 at hf
  refine pd_iconst dX12_takesNumber_14 (by decide) ?_
  obtain ⟨hg3, hf⟩ := pd_ig hf
  obtain ⟨r2, F1, hr, hf⟩ := pd_ob2 hf
  refine pd_callV (pkX12_must l hr) dX12_takesNumber_15 pq_764 pq_767 pq_768 (show vwCl[12]? = some (yX12_must.cls, TX12, 52) from rfl) hg3 (pd_okm (by omega) (by decide) pq_765 pq_766 (by decide) (show (parseMethodDescriptor yX12_must.desc).map (fun d => d.parameters.length) = some 2 from by decide +kernel)) (Nat.le_of_ble_eq_true rfl) rfl ?_
  refine pd_if_eq (tgt := 41) dX12_takesNumber_18 (by decide) (fun hc => ?_) (fun hc => ?_)
  · have hf := pd_ip hf hc
    refine pd_iconst dX12_takesNumber_41 (by decide) ?_
    obtain ⟨h1, h2⟩ := pd_inj hf
    subst h1 h2
    exact pd_zret dX12_takesNumber_42 rfl (by decide) (Nat.le_refl 0) (Nat.le_refl 0)
  · have hf := pd_in_ hf hc
    refine pd_aload_n (i := 0) dX12_takesNumber_21 rfl rfl ?_
    refine pd_aload_n (i := 0) dX12_takesNumber_22 rfl rfl ?_
    obtain ⟨hg4, hf⟩ := pd_ig hf
    refine pd_get (x := pd_I (F1 x0 7)) 7 dX12_takesNumber_23 (show vwCl[12]? = some (RX12, TX12, 52) from rfl) pin_12 (by decide) pq_742 hg4 rfl ?_
    refine pd_i2l dX12_takesNumber_26 ?_
    refine pd_iload_n (i := 1) dX12_takesNumber_27 rfl rfl ?_
    refine pd_i2l dX12_takesNumber_28 ?_
    refine pd_iload_n (i := 2) dX12_takesNumber_29 rfl rfl ?_
    refine pd_i2l dX12_takesNumber_30 ?_
    obtain ⟨r6, F5, hr, hf⟩ := pd_ob2 hf
    refine pd_callS (pkX12_within l hr) dX12_takesNumber_31 pq_738 pq_741 (pd_okm (by omega) (by decide) pq_739 pq_740 (by decide) (show (parseMethodDescriptor yX12_within.desc).map (fun d => d.parameters.length) = some 3 from by decide +kernel)) (Nat.le_of_ble_eq_true rfl) rfl ?_
    refine pd_iconst dX12_takesNumber_34 (by decide) ?_
    obtain ⟨r8, F7, hr, hf⟩ := pd_ob2 hf
    refine pd_callV (pkX12_must l hr) dX12_takesNumber_35 pq_764 pq_767 pq_768 (show vwCl[12]? = some (yX12_must.cls, TX12, 52) from rfl) hg4 (pd_okm (by omega) (by decide) pq_765 pq_766 (by decide) (show (parseMethodDescriptor yX12_must.desc).map (fun d => d.parameters.length) = some 2 from by decide +kernel)) (Nat.le_of_ble_eq_true rfl) rfl ?_
    refine pd_if_ne (tgt := 43) dX12_takesNumber_38 (by decide) (fun hc => ?_) (fun hc => ?_)
    · have hf := pd_ip hf hc
      refine pd_aload_n (i := 0) dX12_takesNumber_43 rfl rfl ?_
      refine pd_aload_n (i := 0) dX12_takesNumber_44 rfl rfl ?_
      refine pd_get (x := pd_I (F7 x0 7)) 7 dX12_takesNumber_45 (show vwCl[12]? = some (RX12, TX12, 52) from rfl) pin_12 (by decide) pq_742 hg4 rfl ?_
      refine pd_put (n := (F7 x0 7)) (x := pd_I (F7 x0 7)) 11 dX12_takesNumber_48 (show vwCl[12]? = some (RX12, TX12, 52) from rfl) pin_12 tyX12_ok nmX12 (by decide) pq_774 rfl hg4 rfl pd_nrI pd_ftI ?_
      refine pd_topF (fun F9 eF9 => ?_)
      have hf := pd_lt hf eF9
      clear eF9
      refine pd_aload_n (i := 0) dX12_takesNumber_51 rfl rfl ?_
      obtain ⟨F10, hr, hf⟩ := pd_ob1 hf
      refine pd_callV (pkX12_steps l hr) dX12_takesNumber_52 pq_769 pq_772 pq_773 (show vwCl[12]? = some (yX12_steps.cls, TX12, 52) from rfl) hg4 (pd_okm (by omega) (by decide) pq_770 pq_771 (by decide) (show (parseMethodDescriptor yX12_steps.desc).map (fun d => d.parameters.length) = some 0 from by decide +kernel)) (Nat.le_of_ble_eq_true rfl) rfl ?_
      refine pd_iconst dX12_takesNumber_55 (by decide) ?_
      obtain ⟨h1, h2⟩ := pd_inj hf
      subst h1 h2
      exact pd_zret dX12_takesNumber_56 rfl (by decide) (Nat.le_refl 0) (Nat.le_refl 0)
    · have hf := pd_iq hf hc
      refine pd_iconst dX12_takesNumber_41 (by decide) ?_
      obtain ⟨h1, h2⟩ := pd_inj hf
      subst h1 h2
      exact pd_zret dX12_takesNumber_42 rfl (by decide) (Nat.le_refl 0) (Nat.le_refl 0)
set_option maxHeartbeats 4000000 in
set_option maxRecDepth 100000 in
theorem pkX12_takesNumber (l : Launch) {sh : pd_S} {n : Nat} {F : pd_F} {x0 : Int} {x1 : Int} {x2 : Int} {ρ : Int} {Fz : pd_F} (hf : pfX12_takesNumber sh n F x0 x1 x2 = some (ρ, Fz)) : pd_C l yX12_takesNumber (Cond.code yX12_takesNumber cX12_takesNumber 3 (some .boolean) :: pd_gt) (pd_rm 3 0 0) false 0 0 sh F [pd_R x0, pd_I x1, pd_I x2] (some (pd_I ρ)) sh Fz := by
  unfold pfX12_takesNumber at hf
  refine pd_body (L := [pd_R x0, pd_I x1, pd_I x2]) (by decide +kernel) (Nat.le_of_ble_eq_true rfl) rfl (fun E => ?_)
  refine pd_aload_n (i := 0) dX12_takesNumber_0 rfl rfl ?_
  refine pd_aload_n (i := 0) dX12_takesNumber_1 rfl rfl ?_
  obtain ⟨hg11, hf⟩ := pd_ig hf
  refine pd_get (x := pd_I (F x0 6)) 6 dX12_takesNumber_2 (show vwCl[12]? = some (RX12, TX12, 52) from rfl) pin_12 (by decide) pq_730 hg11 rfl ?_
  refine pd_iconst dX12_takesNumber_5 (by decide) ?_
  refine pd_icmp_ne (tgt := 13) dX12_takesNumber_6 (by decide) (fun hc => ?_) (fun hc => ?_)
  · have hf := pd_ip hf hc
    refine pd_iconst dX12_takesNumber_13 (by decide) ?_
    exact pd_weak (L' := [pd_R x0, pd_I x1, pd_I x2]) ⟨Or.inr rfl, Or.inr rfl, Or.inr rfl, trivial⟩ (pkX12_takesNumber_b14 E l _ _ _ _ _ _ hf)
  · have hf := pd_iq hf hc
    refine pd_iconst dX12_takesNumber_9 (by decide) ?_
    refine pd_goto (tgt := 14) dX12_takesNumber_10 (by decide) ?_
    exact pd_weak (L' := [pd_R x0, pd_I x1, pd_I x2]) ⟨Or.inr rfl, Or.inr rfl, Or.inr rfl, trivial⟩ (pkX12_takesNumber_b14 E l _ _ _ _ _ _ hf)
set_option maxHeartbeats 4000000 in
set_option maxRecDepth 100000 in
theorem pkX12_isName (l : Launch) {sh : pd_S} {n : Nat} {F : pd_F} {x0 : Int} {ρ : Int} {Fz : pd_F} (hf : pfX12_isName sh n F x0 = some (ρ, Fz)) : pd_C l yX12_isName (Cond.code yX12_isName cX12_isName 1 (some .boolean) :: pd_gt) (pd_rm 8 0 0) false 0 0 sh F [pd_R x0] (some (pd_I ρ)) sh Fz := by
  unfold pfX12_isName at hf
  refine pd_body (L := [pd_R x0]) (by decide +kernel) (Nat.le_of_ble_eq_true rfl) rfl (fun E => ?_)
  refine pd_aload_n (i := 0) dX12_isName_0 rfl rfl ?_
  obtain ⟨hg1, hf⟩ := pd_ig hf
  refine pd_get (x := pd_I (F x0 6)) 6 dX12_isName_1 (show vwCl[12]? = some (RX12, TX12, 52) from rfl) pin_12 (by decide) pq_730 hg1 rfl ?_
  refine pd_iconst dX12_isName_4 (by decide) ?_
  refine pd_icmp_ne (tgt := 19) dX12_isName_5 (by decide) (fun hc => ?_) (fun hc => ?_)
  · have hf := pd_ip hf hc
    refine pd_iconst dX12_isName_19 (by decide) ?_
    obtain ⟨h1, h2⟩ := pd_inj hf
    subst h1 h2
    exact pd_zret dX12_isName_20 rfl (by decide) (Nat.le_refl 0) (Nat.le_refl 0)
  · have hf := pd_iq hf hc
    refine pd_aload_n (i := 0) dX12_isName_8 rfl rfl ?_
    obtain ⟨r3, F2, hr, hf⟩ := pd_ob2 hf
    refine pd_callV (pkX12_isOwn l hr) dX12_isName_9 pq_775 pq_778 pq_779 (show vwCl[12]? = some (yX12_isOwn.cls, TX12, 52) from rfl) hg1 (pd_okm (by omega) (by decide) pq_776 pq_777 (by decide) (show (parseMethodDescriptor yX12_isOwn.desc).map (fun d => d.parameters.length) = some 0 from by decide +kernel)) (Nat.le_of_ble_eq_true rfl) rfl ?_
    refine pd_if_ne (tgt := 19) dX12_isName_12 (by decide) (fun hc => ?_) (fun hc => ?_)
    · have hf := pd_ip hf hc
      refine pd_iconst dX12_isName_19 (by decide) ?_
      obtain ⟨h1, h2⟩ := pd_inj hf
      subst h1 h2
      exact pd_zret dX12_isName_20 rfl (by decide) (Nat.le_refl 0) (Nat.le_refl 0)
    · have hf := pd_iq hf hc
      refine pd_iconst dX12_isName_15 (by decide) ?_
      refine pd_goto (tgt := 20) dX12_isName_16 (by decide) ?_
      obtain ⟨h1, h2⟩ := pd_inj hf
      subst h1 h2
      exact pd_zret dX12_isName_20 rfl (by decide) (Nat.le_refl 0) (Nat.le_refl 0)
set_option maxHeartbeats 4000000 in
set_option maxRecDepth 100000 in
theorem pkX12_onceLine_b50 (E : pd_E) (l : Launch) {sh : pd_S} {n : Nat} {ρ : Int} {Fz : pd_F}  (F : pd_F) (x0 : Int) (x1 : Int) (t0 : Int) (t1 : Int) (t2 : Int) (hf : pfX12_onceLine_b50 sh n  F x0 x1 t0 t1 t2 = some (ρ, Fz)) : pd_V E l (pd_rm 4 0 0) (RX12, cX12_onceLine, 2, (some .boolean), "onceLine") (pd_Qm E false (some (pd_I ρ)) sh Fz 0 0) false 0 0 sh F 50 [pd_R x0, pd_I x1] [pd_I t0, pd_I t1, pd_R t2] := by
  unfold pfX12_onceLine_b50 at hf
  obtain ⟨hg3, hf⟩ := pd_ig hf
  obtain ⟨r2, F1, hr, hf⟩ := pd_ob2 hf
  refine pd_callV (pkX12_takesNumber l hr) dX12_onceLine_50 pq_780 pq_783 pq_784 (show vwCl[12]? = some (yX12_takesNumber.cls, TX12, 52) from rfl) hg3 (pd_okm (by omega) (by decide) pq_781 pq_782 (by decide) (show (parseMethodDescriptor yX12_takesNumber.desc).map (fun d => d.parameters.length) = some 2 from by decide +kernel)) (Nat.le_of_ble_eq_true rfl) rfl ?_
  refine pd_if_ne (tgt := 58) dX12_onceLine_53 (by decide) (fun hc => ?_) (fun hc => ?_)
  · have hf := pd_ip hf hc
    refine pd_aload_n (i := 0) dX12_onceLine_58 rfl rfl ?_
    obtain ⟨hg4, hf⟩ := pd_ig hf
    refine pd_get (x := pd_R (F1 x0 36)) 36 dX12_onceLine_59 (show vwCl[12]? = some (RX12, TX12, 52) from rfl) pin_12 (by decide) pq_785 hg4 rfl ?_
    refine pd_iload_n (i := 1) dX12_onceLine_62 rfl rfl ?_
    refine pd_aload_n (i := 0) dX12_onceLine_63 rfl rfl ?_
    refine pd_get (x := pd_I (F1 x0 11)) 11 dX12_onceLine_64 (show vwCl[12]? = some (RX12, TX12, 52) from rfl) pin_12 (by decide) pq_774 hg4 rfl ?_
    obtain ⟨hg5, hf⟩ := pd_ig hf
    refine pd_iast dX12_onceLine_67 hg5 ?_
    refine pd_topF (fun F6 eF6 => ?_)
    have hf := pd_lt hf eF6
    clear eF6
    refine pd_iconst dX12_onceLine_68 (by decide) ?_
    obtain ⟨h1, h2⟩ := pd_inj hf
    subst h1 h2
    exact pd_zret dX12_onceLine_69 rfl (by decide) (Nat.le_refl 0) (Nat.le_refl 0)
  · have hf := pd_iq hf hc
    refine pd_iconst dX12_onceLine_56 (by decide) ?_
    obtain ⟨h1, h2⟩ := pd_inj hf
    subst h1 h2
    exact pd_zret dX12_onceLine_57 rfl (by decide) (Nat.le_refl 0) (Nat.le_refl 0)
set_option maxHeartbeats 4000000 in
set_option maxRecDepth 100000 in
theorem pkX12_onceLine_b15 (E : pd_E) (l : Launch) {sh : pd_S} {n : Nat} {ρ : Int} {Fz : pd_F}  (F : pd_F) (x0 : Int) (x1 : Int) (t0 : Int) (t1 : Int) (hf : pfX12_onceLine_b15 sh n  F x0 x1 t0 t1 = some (ρ, Fz)) : pd_V E l (pd_rm 4 0 0) (RX12, cX12_onceLine, 2, (some .boolean), "onceLine") (pd_Qm E false (some (pd_I ρ)) sh Fz 0 0) false 0 0 sh F 15 [pd_R x0, pd_I x1] [pd_I t0, pd_R t1] := by
  unfold pfX12_onceLine_b15 at hf
  refine pd_iconst dX12_onceLine_15 (by decide) ?_
  obtain ⟨hg9, hf⟩ := pd_ig hf
  obtain ⟨r8, F7, hr, hf⟩ := pd_ob2 hf
  refine pd_callV (pkX12_must l hr) dX12_onceLine_16 pq_764 pq_767 pq_768 (show vwCl[12]? = some (yX12_must.cls, TX12, 52) from rfl) hg9 (pd_okm (by omega) (by decide) pq_765 pq_766 (by decide) (show (parseMethodDescriptor yX12_must.desc).map (fun d => d.parameters.length) = some 2 from by decide +kernel)) (Nat.le_of_ble_eq_true rfl) rfl ?_
  refine pd_if_ne (tgt := 24) dX12_onceLine_19 (by decide) (fun hc => ?_) (fun hc => ?_)
  · have hf := pd_ip hf hc
    refine pd_aload_n (i := 0) dX12_onceLine_24 rfl rfl ?_
    obtain ⟨hg10, hf⟩ := pd_ig hf
    refine pd_get (x := pd_R (F7 x0 37)) 37 dX12_onceLine_25 (show vwCl[12]? = some (RX12, TX12, 52) from rfl) pin_12 (by decide) pq_786 hg10 rfl ?_
    refine pd_iload_n (i := 1) dX12_onceLine_28 rfl rfl ?_
    refine pd_iconst dX12_onceLine_29 (by decide) ?_
    obtain ⟨hg11, hf⟩ := pd_ig hf
    refine pd_zast (by decide) dX12_onceLine_30 hg11 ?_
    refine pd_topF (fun F12 eF12 => ?_)
    have hf := pd_lt hf eF12
    clear eF12
    refine pd_aload_n (i := 0) dX12_onceLine_31 rfl rfl ?_
    obtain ⟨F13, hr, hf⟩ := pd_ob1 hf
    refine pd_callV (pkX12_steps l hr) dX12_onceLine_32 pq_769 pq_772 pq_773 (show vwCl[12]? = some (yX12_steps.cls, TX12, 52) from rfl) hg10 (pd_okm (by omega) (by decide) pq_770 pq_771 (by decide) (show (parseMethodDescriptor yX12_steps.desc).map (fun d => d.parameters.length) = some 0 from by decide +kernel)) (Nat.le_of_ble_eq_true rfl) rfl ?_
    refine pd_aload_n (i := 0) dX12_onceLine_35 rfl rfl ?_
    refine pd_iconst dX12_onceLine_36 (by decide) ?_
    refine pd_iload_n (i := 1) dX12_onceLine_37 rfl rfl ?_
    refine pd_if_ne (tgt := 47) dX12_onceLine_38 (by decide) (fun hc => ?_) (fun hc => ?_)
    · have hf := pd_ip hf hc
      refine pd_ldcw (x := 9999999) dX12_onceLine_47 pq_787 (by decide +kernel) ?_
      exact pd_weak (L' := [pd_R x0, pd_I x1]) ⟨Or.inr rfl, Or.inr rfl, trivial⟩ (pkX12_onceLine_b50 E l _ _ _ _ _ _ hf)
    · have hf := pd_iq hf hc
      refine pd_sipush dX12_onceLine_41 (by decide) ?_
      refine pd_goto (tgt := 50) dX12_onceLine_44 (by decide) ?_
      exact pd_weak (L' := [pd_R x0, pd_I x1]) ⟨Or.inr rfl, Or.inr rfl, trivial⟩ (pkX12_onceLine_b50 E l _ _ _ _ _ _ hf)
  · have hf := pd_iq hf hc
    refine pd_iconst dX12_onceLine_22 (by decide) ?_
    obtain ⟨h1, h2⟩ := pd_inj hf
    subst h1 h2
    exact pd_zret dX12_onceLine_23 rfl (by decide) (Nat.le_refl 0) (Nat.le_refl 0)
set_option maxHeartbeats 4000000 in
set_option maxRecDepth 100000 in
theorem pkX12_onceLine (l : Launch) {sh : pd_S} {n : Nat} {F : pd_F} {x0 : Int} {x1 : Int} {ρ : Int} {Fz : pd_F} (hf : pfX12_onceLine sh n F x0 x1 = some (ρ, Fz)) : pd_C l yX12_onceLine (Cond.code yX12_onceLine cX12_onceLine 2 (some .boolean) :: pd_gt) (pd_rm 4 0 0) false 0 0 sh F [pd_R x0, pd_I x1] (some (pd_I ρ)) sh Fz := by
  unfold pfX12_onceLine at hf
  refine pd_body (L := [pd_R x0, pd_I x1]) (by decide +kernel) (Nat.le_of_ble_eq_true rfl) rfl (fun E => ?_)
  refine pd_aload_n (i := 0) dX12_onceLine_0 rfl rfl ?_
  refine pd_aload_n (i := 0) dX12_onceLine_1 rfl rfl ?_
  obtain ⟨hg14, hf⟩ := pd_ig hf
  refine pd_get (x := pd_R (F x0 37)) 37 dX12_onceLine_2 (show vwCl[12]? = some (RX12, TX12, 52) from rfl) pin_12 (by decide) pq_786 hg14 rfl ?_
  refine pd_iload_n (i := 1) dX12_onceLine_5 rfl rfl ?_
  obtain ⟨hg15, hf⟩ := pd_ig hf
  refine pd_zald dX12_onceLine_6 hg15 ?_
  refine pd_if_ne (tgt := 14) dX12_onceLine_7 (by decide) (fun hc => ?_) (fun hc => ?_)
  · have hf := pd_ip hf hc
    refine pd_iconst dX12_onceLine_14 (by decide) ?_
    exact pd_weak (L' := [pd_R x0, pd_I x1]) ⟨Or.inr rfl, Or.inr rfl, trivial⟩ (pkX12_onceLine_b15 E l _ _ _ _ _ hf)
  · have hf := pd_iq hf hc
    refine pd_iconst dX12_onceLine_10 (by decide) ?_
    refine pd_goto (tgt := 15) dX12_onceLine_11 (by decide) ?_
    exact pd_weak (L' := [pd_R x0, pd_I x1]) ⟨Or.inr rfl, Or.inr rfl, trivial⟩ (pkX12_onceLine_b15 E l _ _ _ _ _ hf)
set_option maxHeartbeats 4000000 in
set_option maxRecDepth 100000 in
theorem pkX12_newName_b51 (E : pd_E) (l : Launch) {sh : pd_S} {n : Nat} {ρ : Int} {Fz : pd_F}  (F : pd_F) (x0 : Int) (t0 : Int) (t1 : Int) (hf : pfX12_newName_b51 sh n  F x0 t0 t1 = some (ρ, Fz)) : pd_V E l (pd_rm 9 0 0) (RX12, cX12_newName, 1, (some .boolean), "newName") (pd_Qm E false (some (pd_I ρ)) sh Fz 0 0) false 0 0 sh F 51 [pd_R x0] [pd_I t0, pd_R t1] := by
  unfold pfX12_newName_b51 at hf
  refine pd_iconst dX12_newName_51 (by decide) ?_
  obtain ⟨hg3, hf⟩ := pd_ig hf
  obtain ⟨r2, F1, hr, hf⟩ := pd_ob2 hf
  refine pd_callV (pkX12_must l hr) dX12_newName_52 pq_764 pq_767 pq_768 (show vwCl[12]? = some (yX12_must.cls, TX12, 52) from rfl) hg3 (pd_okm (by omega) (by decide) pq_765 pq_766 (by decide) (show (parseMethodDescriptor yX12_must.desc).map (fun d => d.parameters.length) = some 2 from by decide +kernel)) (Nat.le_of_ble_eq_true rfl) rfl ?_
  refine pd_if_ne (tgt := 60) dX12_newName_55 (by decide) (fun hc => ?_) (fun hc => ?_)
  · have hf := pd_ip hf hc
    refine pd_aload_n (i := 0) dX12_newName_60 rfl rfl ?_
    refine pd_aload_n (i := 0) dX12_newName_61 rfl rfl ?_
    obtain ⟨hg4, hf⟩ := pd_ig hf
    refine pd_get (x := pd_J (F1 x0 8)) 8 dX12_newName_62 (show vwCl[12]? = some (RX12, TX12, 52) from rfl) pin_12 (by decide) pq_728 hg4 rfl ?_
    refine pd_put (n := (F1 x0 8)) (x := pd_J (F1 x0 8)) 38 dX12_newName_65 (show vwCl[12]? = some (RX12, TX12, 52) from rfl) pin_12 tyX12_ok nmX12 (by decide) pq_788 rfl hg4 rfl pd_nrJ pd_ftJ ?_
    refine pd_topF (fun F5 eF5 => ?_)
    have hf := pd_lt hf eF5
    clear eF5
    refine pd_aload_n (i := 0) dX12_newName_68 rfl rfl ?_
    obtain ⟨F6, hr, hf⟩ := pd_ob1 hf
    refine pd_callV (pkX12_steps l hr) dX12_newName_69 pq_769 pq_772 pq_773 (show vwCl[12]? = some (yX12_steps.cls, TX12, 52) from rfl) hg4 (pd_okm (by omega) (by decide) pq_770 pq_771 (by decide) (show (parseMethodDescriptor yX12_steps.desc).map (fun d => d.parameters.length) = some 0 from by decide +kernel)) (Nat.le_of_ble_eq_true rfl) rfl ?_
    refine pd_iconst dX12_newName_72 (by decide) ?_
    obtain ⟨h1, h2⟩ := pd_inj hf
    subst h1 h2
    exact pd_zret dX12_newName_73 rfl (by decide) (Nat.le_refl 0) (Nat.le_refl 0)
  · have hf := pd_iq hf hc
    refine pd_iconst dX12_newName_58 (by decide) ?_
    obtain ⟨h1, h2⟩ := pd_inj hf
    subst h1 h2
    exact pd_zret dX12_newName_59 rfl (by decide) (Nat.le_refl 0) (Nat.le_refl 0)
set_option maxHeartbeats 4000000 in
set_option maxRecDepth 100000 in
theorem pkX12_newName_b50 (E : pd_E) (l : Launch) {sh : pd_S} {n : Nat} {ρ : Int} {Fz : pd_F}  (F : pd_F) (x0 : Int) (t0 : Int) (hf : pfX12_newName_b50 sh n  F x0 t0 = some (ρ, Fz)) : pd_V E l (pd_rm 9 0 0) (RX12, cX12_newName, 1, (some .boolean), "newName") (pd_Qm E false (some (pd_I ρ)) sh Fz 0 0) false 0 0 sh F 50 [pd_R x0] [pd_R t0] := by
  unfold pfX12_newName_b50 at hf
  refine pd_iconst dX12_newName_50 (by decide) ?_
  exact pd_weak (L' := [pd_R x0]) ⟨Or.inr rfl, trivial⟩ (pkX12_newName_b51 E l _ _ _ _ hf)
set_option maxHeartbeats 4000000 in
set_option maxRecDepth 100000 in
theorem pkX12_newName (l : Launch) {sh : pd_S} {n : Nat} {F : pd_F} {x0 : Int} {ρ : Int} {Fz : pd_F} (hf : pfX12_newName sh n F x0 = some (ρ, Fz)) : pd_C l yX12_newName (Cond.code yX12_newName cX12_newName 1 (some .boolean) :: pd_gt) (pd_rm 9 0 0) false 0 0 sh F [pd_R x0] (some (pd_I ρ)) sh Fz := by
  unfold pfX12_newName at hf
  refine pd_body (L := [pd_R x0]) (by decide +kernel) (Nat.le_of_ble_eq_true rfl) rfl (fun E => ?_)
  refine pd_aload_n (i := 0) dX12_newName_0 rfl rfl ?_
  refine pd_aload_n (i := 0) dX12_newName_1 rfl rfl ?_
  obtain ⟨hg9, hf⟩ := pd_ig hf
  obtain ⟨r8, F7, hr, hf⟩ := pd_ob2 hf
  refine pd_callV (pkX12_isName l hr) dX12_newName_2 pq_789 pq_792 pq_793 (show vwCl[12]? = some (yX12_isName.cls, TX12, 52) from rfl) hg9 (pd_okm (by omega) (by decide) pq_790 pq_791 (by decide) (show (parseMethodDescriptor yX12_isName.desc).map (fun d => d.parameters.length) = some 0 from by decide +kernel)) (Nat.le_of_ble_eq_true rfl) rfl ?_
  refine pd_iconst dX12_newName_5 (by decide) ?_
  obtain ⟨r11, F10, hr, hf⟩ := pd_ob2 hf
  refine pd_callV (pkX12_must l hr) dX12_newName_6 pq_764 pq_767 pq_768 (show vwCl[12]? = some (yX12_must.cls, TX12, 52) from rfl) hg9 (pd_okm (by omega) (by decide) pq_765 pq_766 (by decide) (show (parseMethodDescriptor yX12_must.desc).map (fun d => d.parameters.length) = some 2 from by decide +kernel)) (Nat.le_of_ble_eq_true rfl) rfl ?_
  refine pd_if_eq (tgt := 58) dX12_newName_9 (by decide) (fun hc => ?_) (fun hc => ?_)
  · have hf := pd_ip hf hc
    refine pd_iconst dX12_newName_58 (by decide) ?_
    obtain ⟨h1, h2⟩ := pd_inj hf
    subst h1 h2
    exact pd_zret dX12_newName_59 rfl (by decide) (Nat.le_refl 0) (Nat.le_refl 0)
  · have hf := pd_in_ hf hc
    refine pd_aload_n (i := 0) dX12_newName_12 rfl rfl ?_
    refine pd_aload_n (i := 0) dX12_newName_13 rfl rfl ?_
    refine pd_aload_n (i := 0) dX12_newName_14 rfl rfl ?_
    refine pd_get (x := pd_J (F10 x0 8)) 8 dX12_newName_15 (show vwCl[12]? = some (RX12, TX12, 52) from rfl) pin_12 (by decide) pq_728 hg9 rfl ?_
    obtain ⟨r13, F12, hr, hf⟩ := pd_ob2 hf
    refine pd_callV (pkX12_personNamed l hr) dX12_newName_18 pq_749 pq_752 pq_753 (show vwCl[12]? = some (yX12_personNamed.cls, TX12, 52) from rfl) hg9 (pd_okm (by omega) (by decide) pq_750 pq_751 (by decide) (show (parseMethodDescriptor yX12_personNamed.desc).map (fun d => d.parameters.length) = some 1 from by decide +kernel)) (Nat.le_of_ble_eq_true rfl) rfl ?_
    refine pd_if_ge (tgt := 50) dX12_newName_21 (by decide) (fun hc => ?_) (fun hc => ?_)
    · have hf := pd_ip hf hc
      exact pd_weak (L' := [pd_R x0]) ⟨Or.inr rfl, trivial⟩ (pkX12_newName_b50 E l _ _ _ hf)
    · have hf := pd_in_ hf hc
      refine pd_aload_n (i := 0) dX12_newName_24 rfl rfl ?_
      refine pd_aload_n (i := 0) dX12_newName_25 rfl rfl ?_
      refine pd_get (x := pd_J (F12 x0 8)) 8 dX12_newName_26 (show vwCl[12]? = some (RX12, TX12, 52) from rfl) pin_12 (by decide) pq_728 hg9 rfl ?_
      obtain ⟨r15, F14, hr, hf⟩ := pd_ob2 hf
      refine pd_callV (pkX12_trustNamed l hr) dX12_newName_29 pq_754 pq_757 pq_758 (show vwCl[12]? = some (yX12_trustNamed.cls, TX12, 52) from rfl) hg9 (pd_okm (by omega) (by decide) pq_755 pq_756 (by decide) (show (parseMethodDescriptor yX12_trustNamed.desc).map (fun d => d.parameters.length) = some 1 from by decide +kernel)) (Nat.le_of_ble_eq_true rfl) rfl ?_
      refine pd_if_ge (tgt := 50) dX12_newName_32 (by decide) (fun hc => ?_) (fun hc => ?_)
      · have hf := pd_ip hf hc
        exact pd_weak (L' := [pd_R x0]) ⟨Or.inr rfl, trivial⟩ (pkX12_newName_b50 E l _ _ _ hf)
      · have hf := pd_in_ hf hc
        refine pd_aload_n (i := 0) dX12_newName_35 rfl rfl ?_
        refine pd_aload_n (i := 0) dX12_newName_36 rfl rfl ?_
        refine pd_get (x := pd_J (F14 x0 8)) 8 dX12_newName_37 (show vwCl[12]? = some (RX12, TX12, 52) from rfl) pin_12 (by decide) pq_728 hg9 rfl ?_
        obtain ⟨r17, F16, hr, hf⟩ := pd_ob2 hf
        refine pd_callV (pkX12_accountNamed l hr) dX12_newName_40 pq_794 pq_797 pq_798 (show vwCl[12]? = some (yX12_accountNamed.cls, TX12, 52) from rfl) hg9 (pd_okm (by omega) (by decide) pq_795 pq_796 (by decide) (show (parseMethodDescriptor yX12_accountNamed.desc).map (fun d => d.parameters.length) = some 1 from by decide +kernel)) (Nat.le_of_ble_eq_true rfl) rfl ?_
        refine pd_if_ge (tgt := 50) dX12_newName_43 (by decide) (fun hc => ?_) (fun hc => ?_)
        · have hf := pd_ip hf hc
          exact pd_weak (L' := [pd_R x0]) ⟨Or.inr rfl, trivial⟩ (pkX12_newName_b50 E l _ _ _ hf)
        · have hf := pd_in_ hf hc
          refine pd_iconst dX12_newName_46 (by decide) ?_
          refine pd_goto (tgt := 51) dX12_newName_47 (by decide) ?_
          exact pd_weak (L' := [pd_R x0]) ⟨Or.inr rfl, trivial⟩ (pkX12_newName_b51 E l _ _ _ _ hf)
set_option maxHeartbeats 4000000 in
set_option maxRecDepth 100000 in
theorem pkX12_partsHere_b93 (E : pd_E) (l : Launch) {sh : pd_S} {n : Nat} {ρ : Int} {Fz : pd_F} {c7 : pd_F → Int → Int → Option (Int × pd_F)} (hL7 : ∀ (F : pd_F) (x0 : Int) (x1 : Int), c7 F x0 x1 = some (ρ, Fz) → pd_V E l (pd_rm 9 0 0) (RX12, cX12_partsHere, 4, (some .boolean), "partsHere") (pd_Qm E false (some (pd_I ρ)) sh Fz 0 0) false 0 0 sh F 7 [pd_R x0, pd_I x1, pd_N, pd_N] []) (F : pd_F) (x0 : Int) (x1 : Int) (x2 : Int) (t0 : Int) (t1 : Int) (hf : pfX12_partsHere_b93 sh n c7 F x0 x1 x2 t0 t1 = some (ρ, Fz)) : pd_V E l (pd_rm 9 0 0) (RX12, cX12_partsHere, 4, (some .boolean), "partsHere") (pd_Qm E false (some (pd_I ρ)) sh Fz 0 0) false 0 0 sh F 93 [pd_R x0, pd_I x1, pd_I x2, pd_N] [pd_I t0, pd_R t1] := by
  unfold pfX12_partsHere_b93 at hf
  refine pd_iconst dX12_partsHere_93 (by decide) ?_
  obtain ⟨hg3, hf⟩ := pd_ig hf
  obtain ⟨r2, F1, hr, hf⟩ := pd_ob2 hf
  refine pd_callV (pkX12_must l hr) dX12_partsHere_94 pq_764 pq_767 pq_768 (show vwCl[12]? = some (yX12_must.cls, TX12, 52) from rfl) hg3 (pd_okm (by omega) (by decide) pq_765 pq_766 (by decide) (show (parseMethodDescriptor yX12_must.desc).map (fun d => d.parameters.length) = some 2 from by decide +kernel)) (Nat.le_of_ble_eq_true rfl) rfl ?_
  refine pd_if_ne (tgt := 102) dX12_partsHere_97 (by decide) (fun hc => ?_) (fun hc => ?_)
  · have hf := pd_ip hf hc
    refine pd_aload_n (i := 0) dX12_partsHere_102 rfl rfl ?_
    obtain ⟨hg5, hf⟩ := pd_ig hf
    obtain ⟨F4, hr, hf⟩ := pd_ob1 hf
    refine pd_callV (pkX12_steps l hr) dX12_partsHere_103 pq_769 pq_772 pq_773 (show vwCl[12]? = some (yX12_steps.cls, TX12, 52) from rfl) hg5 (pd_okm (by omega) (by decide) pq_770 pq_771 (by decide) (show (parseMethodDescriptor yX12_steps.desc).map (fun d => d.parameters.length) = some 0 from by decide +kernel)) (Nat.le_of_ble_eq_true rfl) rfl ?_
    refine pd_aload_n (i := 0) dX12_partsHere_106 rfl rfl ?_
    refine pd_iconst dX12_partsHere_107 (by decide) ?_
    refine pd_bipush dX12_partsHere_108 (by decide) ?_
    obtain ⟨r7, F6, hr, hf⟩ := pd_ob2 hf
    refine pd_callV (pkX12_takesNumber l hr) dX12_partsHere_110 pq_780 pq_783 pq_784 (show vwCl[12]? = some (yX12_takesNumber.cls, TX12, 52) from rfl) hg5 (pd_okm (by omega) (by decide) pq_781 pq_782 (by decide) (show (parseMethodDescriptor yX12_takesNumber.desc).map (fun d => d.parameters.length) = some 2 from by decide +kernel)) (Nat.le_of_ble_eq_true rfl) rfl ?_
    refine pd_if_ne (tgt := 118) dX12_partsHere_113 (by decide) (fun hc => ?_) (fun hc => ?_)
    · have hf := pd_ip hf hc
      refine pd_iconst dX12_partsHere_118 (by decide) ?_
      refine pd_iload_n (i := 1) dX12_partsHere_119 rfl rfl ?_
      refine pd_imul dX12_partsHere_120 ?_
      refine pd_aload_n (i := 0) dX12_partsHere_121 rfl rfl ?_
      refine pd_get (x := pd_R (F6 x0 26)) 26 dX12_partsHere_122 (show vwCl[12]? = some (RX12, TX12, 52) from rfl) pin_12 (by decide) pq_721 hg5 rfl ?_
      refine pd_iload_n (i := 1) dX12_partsHere_125 rfl rfl ?_
      obtain ⟨hg8, hf⟩ := pd_ig hf
      refine pd_iald dX12_partsHere_126 hg8 ?_
      refine pd_iadd dX12_partsHere_127 ?_
      refine pd_topI (fun x3_128 ex3_128 => ?_)
      have hf := pd_lt hf ex3_128
      clear ex3_128
      refine pd_istore_n (L' := [pd_R x0, pd_I x1, pd_I x2, pd_I x3_128]) dX12_partsHere_128 rfl (by decide) rfl ?_
      refine pd_aload_n (i := 0) dX12_partsHere_129 rfl rfl ?_
      refine pd_get (x := pd_R (F6 x0 27)) 27 dX12_partsHere_130 (show vwCl[12]? = some (RX12, TX12, 52) from rfl) pin_12 (by decide) pq_722 hg5 rfl ?_
      refine pd_iload_n (i := 3) dX12_partsHere_133 rfl rfl ?_
      refine pd_iload_n (i := 2) dX12_partsHere_134 rfl rfl ?_
      obtain ⟨hg9, hf⟩ := pd_ig hf
      refine pd_iast dX12_partsHere_135 hg9 ?_
      refine pd_topF (fun F10 eF10 => ?_)
      have hf := pd_lt hf eF10
      clear eF10
      refine pd_aload_n (i := 0) dX12_partsHere_136 rfl rfl ?_
      refine pd_get (x := pd_R (F10 x0 28)) 28 dX12_partsHere_137 (show vwCl[12]? = some (RX12, TX12, 52) from rfl) pin_12 (by decide) pq_799 hg5 rfl ?_
      refine pd_iload_n (i := 3) dX12_partsHere_140 rfl rfl ?_
      refine pd_aload_n (i := 0) dX12_partsHere_141 rfl rfl ?_
      refine pd_get (x := pd_I (F10 x0 11)) 11 dX12_partsHere_142 (show vwCl[12]? = some (RX12, TX12, 52) from rfl) pin_12 (by decide) pq_774 hg5 rfl ?_
      obtain ⟨hg11, hf⟩ := pd_ig hf
      refine pd_iast dX12_partsHere_145 hg11 ?_
      refine pd_topF (fun F12 eF12 => ?_)
      have hf := pd_lt hf eF12
      clear eF12
      refine pd_aload_n (i := 0) dX12_partsHere_146 rfl rfl ?_
      refine pd_get (x := pd_R (F12 x0 26)) 26 dX12_partsHere_147 (show vwCl[12]? = some (RX12, TX12, 52) from rfl) pin_12 (by decide) pq_721 hg5 rfl ?_
      refine pd_iload_n (i := 1) dX12_partsHere_150 rfl rfl ?_
      refine pd_dup2 dX12_partsHere_151 rfl rfl ?_
      obtain ⟨hg13, hf⟩ := pd_ig hf
      refine pd_iald dX12_partsHere_152 hg13 ?_
      refine pd_iconst dX12_partsHere_153 (by decide) ?_
      refine pd_iadd dX12_partsHere_154 ?_
      refine pd_iast dX12_partsHere_155 hg13 ?_
      refine pd_topF (fun F14 eF14 => ?_)
      have hf := pd_lt hf eF14
      clear eF14
      refine pd_goto (tgt := 7) dX12_partsHere_156 (by decide) ?_
      exact pd_weak (L' := [pd_R x0, pd_I x1, pd_N, pd_N]) ⟨Or.inr rfl, Or.inr rfl, Or.inl rfl, Or.inl rfl, trivial⟩ (hL7 _ _ _ hf)
    · have hf := pd_iq hf hc
      refine pd_iconst dX12_partsHere_116 (by decide) ?_
      obtain ⟨h1, h2⟩ := pd_inj hf
      subst h1 h2
      exact pd_zret dX12_partsHere_117 rfl (by decide) (Nat.le_refl 0) (Nat.le_refl 0)
  · have hf := pd_iq hf hc
    refine pd_iconst dX12_partsHere_100 (by decide) ?_
    obtain ⟨h1, h2⟩ := pd_inj hf
    subst h1 h2
    exact pd_zret dX12_partsHere_101 rfl (by decide) (Nat.le_refl 0) (Nat.le_refl 0)
set_option maxHeartbeats 4000000 in
set_option maxRecDepth 100000 in
theorem pkX12_partsHere_b70 (E : pd_E) (l : Launch) {sh : pd_S} {n : Nat} {ρ : Int} {Fz : pd_F} {c7 : pd_F → Int → Int → Option (Int × pd_F)} (hL7 : ∀ (F : pd_F) (x0 : Int) (x1 : Int), c7 F x0 x1 = some (ρ, Fz) → pd_V E l (pd_rm 9 0 0) (RX12, cX12_partsHere, 4, (some .boolean), "partsHere") (pd_Qm E false (some (pd_I ρ)) sh Fz 0 0) false 0 0 sh F 7 [pd_R x0, pd_I x1, pd_N, pd_N] []) (F : pd_F) (x0 : Int) (x1 : Int) (x2 : Int) (t0 : Int) (t1 : Int) (hf : pfX12_partsHere_b70 sh n c7 F x0 x1 x2 t0 t1 = some (ρ, Fz)) : pd_V E l (pd_rm 9 0 0) (RX12, cX12_partsHere, 4, (some .boolean), "partsHere") (pd_Qm E false (some (pd_I ρ)) sh Fz 0 0) false 0 0 sh F 70 [pd_R x0, pd_I x1, pd_I x2, pd_N] [pd_I t0, pd_R t1] := by
  unfold pfX12_partsHere_b70 at hf
  refine pd_iconst dX12_partsHere_70 (by decide) ?_
  obtain ⟨hg17, hf⟩ := pd_ig hf
  obtain ⟨r16, F15, hr, hf⟩ := pd_ob2 hf
  refine pd_callV (pkX12_must l hr) dX12_partsHere_71 pq_764 pq_767 pq_768 (show vwCl[12]? = some (yX12_must.cls, TX12, 52) from rfl) hg17 (pd_okm (by omega) (by decide) pq_765 pq_766 (by decide) (show (parseMethodDescriptor yX12_must.desc).map (fun d => d.parameters.length) = some 2 from by decide +kernel)) (Nat.le_of_ble_eq_true rfl) rfl ?_
  refine pd_if_eq (tgt := 100) dX12_partsHere_74 (by decide) (fun hc => ?_) (fun hc => ?_)
  · have hf := pd_ip hf hc
    refine pd_iconst dX12_partsHere_100 (by decide) ?_
    obtain ⟨h1, h2⟩ := pd_inj hf
    subst h1 h2
    exact pd_zret dX12_partsHere_101 rfl (by decide) (Nat.le_refl 0) (Nat.le_refl 0)
  · have hf := pd_in_ hf hc
    refine pd_aload_n (i := 0) dX12_partsHere_77 rfl rfl ?_
    refine pd_aload_n (i := 0) dX12_partsHere_78 rfl rfl ?_
    obtain ⟨hg18, hf⟩ := pd_ig hf
    refine pd_get (x := pd_R (F15 x0 26)) 26 dX12_partsHere_79 (show vwCl[12]? = some (RX12, TX12, 52) from rfl) pin_12 (by decide) pq_721 hg18 rfl ?_
    refine pd_iload_n (i := 1) dX12_partsHere_82 rfl rfl ?_
    obtain ⟨hg19, hf⟩ := pd_ig hf
    refine pd_iald dX12_partsHere_83 hg19 ?_
    refine pd_iconst dX12_partsHere_84 (by decide) ?_
    refine pd_icmp_ge (tgt := 92) dX12_partsHere_85 (by decide) (fun hc => ?_) (fun hc => ?_)
    · have hf := pd_ip hf hc
      refine pd_iconst dX12_partsHere_92 (by decide) ?_
      exact pd_weak (L' := [pd_R x0, pd_I x1, pd_I x2, pd_N]) ⟨Or.inr rfl, Or.inr rfl, Or.inr rfl, Or.inr rfl, trivial⟩ (pkX12_partsHere_b93 E l hL7 _ _ _ _ _ _ hf)
    · have hf := pd_in_ hf hc
      refine pd_iconst dX12_partsHere_88 (by decide) ?_
      refine pd_goto (tgt := 93) dX12_partsHere_89 (by decide) ?_
      exact pd_weak (L' := [pd_R x0, pd_I x1, pd_I x2, pd_N]) ⟨Or.inr rfl, Or.inr rfl, Or.inr rfl, Or.inr rfl, trivial⟩ (pkX12_partsHere_b93 E l hL7 _ _ _ _ _ _ hf)
set_option maxHeartbeats 4000000 in
set_option maxRecDepth 100000 in
theorem pkX12_partsHere_b53 (E : pd_E) (l : Launch) {sh : pd_S} {n : Nat} {ρ : Int} {Fz : pd_F} {c7 : pd_F → Int → Int → Option (Int × pd_F)} (hL7 : ∀ (F : pd_F) (x0 : Int) (x1 : Int), c7 F x0 x1 = some (ρ, Fz) → pd_V E l (pd_rm 9 0 0) (RX12, cX12_partsHere, 4, (some .boolean), "partsHere") (pd_Qm E false (some (pd_I ρ)) sh Fz 0 0) false 0 0 sh F 7 [pd_R x0, pd_I x1, pd_N, pd_N] []) (F : pd_F) (x0 : Int) (x1 : Int) (x2 : Int) (t0 : Int) (t1 : Int) (hf : pfX12_partsHere_b53 sh n c7 F x0 x1 x2 t0 t1 = some (ρ, Fz)) : pd_V E l (pd_rm 9 0 0) (RX12, cX12_partsHere, 4, (some .boolean), "partsHere") (pd_Qm E false (some (pd_I ρ)) sh Fz 0 0) false 0 0 sh F 53 [pd_R x0, pd_I x1, pd_I x2, pd_N] [pd_I t0, pd_R t1] := by
  unfold pfX12_partsHere_b53 at hf
  refine pd_iconst dX12_partsHere_53 (by decide) ?_
  obtain ⟨hg22, hf⟩ := pd_ig hf
  obtain ⟨r21, F20, hr, hf⟩ := pd_ob2 hf
  refine pd_callV (pkX12_must l hr) dX12_partsHere_54 pq_764 pq_767 pq_768 (show vwCl[12]? = some (yX12_must.cls, TX12, 52) from rfl) hg22 (pd_okm (by omega) (by decide) pq_765 pq_766 (by decide) (show (parseMethodDescriptor yX12_must.desc).map (fun d => d.parameters.length) = some 2 from by decide +kernel)) (Nat.le_of_ble_eq_true rfl) rfl ?_
  refine pd_if_eq (tgt := 100) dX12_partsHere_57 (by decide) (fun hc => ?_) (fun hc => ?_)
  · have hf := pd_ip hf hc
    refine pd_iconst dX12_partsHere_100 (by decide) ?_
    obtain ⟨h1, h2⟩ := pd_inj hf
    subst h1 h2
    exact pd_zret dX12_partsHere_101 rfl (by decide) (Nat.le_refl 0) (Nat.le_refl 0)
  · have hf := pd_in_ hf hc
    refine pd_aload_n (i := 0) dX12_partsHere_60 rfl rfl ?_
    refine pd_iload_n (i := 2) dX12_partsHere_61 rfl rfl ?_
    refine pd_if_lt (tgt := 69) dX12_partsHere_62 (by decide) (fun hc => ?_) (fun hc => ?_)
    · have hf := pd_ip hf hc
      refine pd_iconst dX12_partsHere_69 (by decide) ?_
      exact pd_weak (L' := [pd_R x0, pd_I x1, pd_I x2, pd_N]) ⟨Or.inr rfl, Or.inr rfl, Or.inr rfl, Or.inr rfl, trivial⟩ (pkX12_partsHere_b70 E l hL7 _ _ _ _ _ _ hf)
    · have hf := pd_in_ hf hc
      refine pd_iconst dX12_partsHere_65 (by decide) ?_
      refine pd_goto (tgt := 70) dX12_partsHere_66 (by decide) ?_
      exact pd_weak (L' := [pd_R x0, pd_I x1, pd_I x2, pd_N]) ⟨Or.inr rfl, Or.inr rfl, Or.inr rfl, Or.inr rfl, trivial⟩ (pkX12_partsHere_b70 E l hL7 _ _ _ _ _ _ hf)
set_option maxHeartbeats 4000000 in
set_option maxRecDepth 100000 in
theorem pkX12_partsHere_b48 (E : pd_E) (l : Launch) {sh : pd_S} {n : Nat} {ρ : Int} {Fz : pd_F} {c7 : pd_F → Int → Int → Option (Int × pd_F)} (hL7 : ∀ (F : pd_F) (x0 : Int) (x1 : Int), c7 F x0 x1 = some (ρ, Fz) → pd_V E l (pd_rm 9 0 0) (RX12, cX12_partsHere, 4, (some .boolean), "partsHere") (pd_Qm E false (some (pd_I ρ)) sh Fz 0 0) false 0 0 sh F 7 [pd_R x0, pd_I x1, pd_N, pd_N] []) (F : pd_F) (x0 : Int) (x1 : Int) (x2 : Int) (t0 : Int) (hf : pfX12_partsHere_b48 sh n c7 F x0 x1 x2 t0 = some (ρ, Fz)) : pd_V E l (pd_rm 9 0 0) (RX12, cX12_partsHere, 4, (some .boolean), "partsHere") (pd_Qm E false (some (pd_I ρ)) sh Fz 0 0) false 0 0 sh F 48 [pd_R x0, pd_I x1, pd_I x2, pd_N] [pd_R t0] := by
  unfold pfX12_partsHere_b48 at hf
  refine pd_iconst dX12_partsHere_48 (by decide) ?_
  refine pd_goto (tgt := 53) dX12_partsHere_49 (by decide) ?_
  exact pd_weak (L' := [pd_R x0, pd_I x1, pd_I x2, pd_N]) ⟨Or.inr rfl, Or.inr rfl, Or.inr rfl, Or.inr rfl, trivial⟩ (pkX12_partsHere_b53 E l hL7 _ _ _ _ _ _ hf)
set_option maxHeartbeats 4000000 in
set_option maxRecDepth 100000 in
theorem pkX12_partsHere_b7 (E : pd_E) (l : Launch) {sh : pd_S} {n : Nat} {ρ : Int} {Fz : pd_F}  : ∀ (k : Nat) (F : pd_F) (x0 : Int) (x1 : Int), pfX12_partsHere_b7 sh n  k F x0 x1 = some (ρ, Fz) → pd_V E l (pd_rm 9 0 0) (RX12, cX12_partsHere, 4, (some .boolean), "partsHere") (pd_Qm E false (some (pd_I ρ)) sh Fz 0 0) false 0 0 sh F 7 [pd_R x0, pd_I x1, pd_N, pd_N] [] := by
  intro k
  induction k with
  | zero => intro F x0 x1 hf; exact absurd hf (by unfold pfX12_partsHere_b7; exact fun h => nomatch h)
  | succ k ih =>
    intro F x0 x1 hf
    unfold pfX12_partsHere_b7 at hf
    refine pd_aload_n (i := 0) dX12_partsHere_7 rfl rfl ?_
    obtain ⟨hg23, hf⟩ := pd_ig hf
    refine pd_get (x := pd_I (F x0 6)) 6 dX12_partsHere_8 (show vwCl[12]? = some (RX12, TX12, 52) from rfl) pin_12 (by decide) pq_730 hg23 rfl ?_
    refine pd_iconst dX12_partsHere_11 (by decide) ?_
    refine pd_icmp_ne (tgt := 159) dX12_partsHere_12 (by decide) (fun hc => ?_) (fun hc => ?_)
    · have hf := pd_ip hf hc
      refine pd_iconst dX12_partsHere_159 (by decide) ?_
      obtain ⟨h1, h2⟩ := pd_inj hf
      subst h1 h2
      exact pd_zret dX12_partsHere_160 rfl (by decide) (Nat.le_refl 0) (Nat.le_refl 0)
    · have hf := pd_iq hf hc
      refine pd_aload_n (i := 0) dX12_partsHere_15 rfl rfl ?_
      refine pd_aload_n (i := 0) dX12_partsHere_16 rfl rfl ?_
      obtain ⟨r25, F24, hr, hf⟩ := pd_ob2 hf
      refine pd_callV (pkX12_isName l hr) dX12_partsHere_17 pq_789 pq_792 pq_793 (show vwCl[12]? = some (yX12_isName.cls, TX12, 52) from rfl) hg23 (pd_okm (by omega) (by decide) pq_790 pq_791 (by decide) (show (parseMethodDescriptor yX12_isName.desc).map (fun d => d.parameters.length) = some 0 from by decide +kernel)) (Nat.le_of_ble_eq_true rfl) rfl ?_
      refine pd_iconst dX12_partsHere_20 (by decide) ?_
      obtain ⟨r27, F26, hr, hf⟩ := pd_ob2 hf
      refine pd_callV (pkX12_must l hr) dX12_partsHere_21 pq_764 pq_767 pq_768 (show vwCl[12]? = some (yX12_must.cls, TX12, 52) from rfl) hg23 (pd_okm (by omega) (by decide) pq_765 pq_766 (by decide) (show (parseMethodDescriptor yX12_must.desc).map (fun d => d.parameters.length) = some 2 from by decide +kernel)) (Nat.le_of_ble_eq_true rfl) rfl ?_
      refine pd_if_ne (tgt := 29) dX12_partsHere_24 (by decide) (fun hc => ?_) (fun hc => ?_)
      · have hf := pd_ip hf hc
        refine pd_aload_n (i := 0) dX12_partsHere_29 rfl rfl ?_
        obtain ⟨r29, F28, hr, hf⟩ := pd_ob2 hf
        refine pd_callV (pkX12_partNamed l hr) dX12_partsHere_30 pq_800 pq_803 pq_804 (show vwCl[12]? = some (yX12_partNamed.cls, TX12, 52) from rfl) hg23 (pd_okm (by omega) (by decide) pq_801 pq_802 (by decide) (show (parseMethodDescriptor yX12_partNamed.desc).map (fun d => d.parameters.length) = some 0 from by decide +kernel)) (Nat.le_of_ble_eq_true rfl) rfl ?_
        refine pd_istore_n (L' := [pd_R x0, pd_I x1, pd_I r29, pd_N]) dX12_partsHere_33 rfl (by decide) rfl ?_
        refine pd_aload_n (i := 0) dX12_partsHere_34 rfl rfl ?_
        refine pd_iload_n (i := 2) dX12_partsHere_35 rfl rfl ?_
        refine pd_if_lt (tgt := 48) dX12_partsHere_36 (by decide) (fun hc => ?_) (fun hc => ?_)
        · have hf := pd_ip hf hc
          exact pd_weak (L' := [pd_R x0, pd_I x1, pd_I r29, pd_N]) ⟨Or.inr rfl, Or.inr rfl, Or.inr rfl, Or.inr rfl, trivial⟩ (pkX12_partsHere_b48 E l ih _ _ _ _ _ hf)
        · have hf := pd_in_ hf hc
          refine pd_aload_n (i := 0) dX12_partsHere_39 rfl rfl ?_
          refine pd_iload_n (i := 1) dX12_partsHere_40 rfl rfl ?_
          refine pd_iload_n (i := 2) dX12_partsHere_41 rfl rfl ?_
          obtain ⟨r31, F30, hr, hf⟩ := pd_ob2 hf
          refine pd_callV (pkX12_isPart l hr) dX12_partsHere_42 pq_805 pq_808 pq_809 (show vwCl[12]? = some (yX12_isPart.cls, TX12, 52) from rfl) hg23 (pd_okm (by omega) (by decide) pq_806 pq_807 (by decide) (show (parseMethodDescriptor yX12_isPart.desc).map (fun d => d.parameters.length) = some 2 from by decide +kernel)) (Nat.le_of_ble_eq_true rfl) rfl ?_
          refine pd_if_ne (tgt := 52) dX12_partsHere_45 (by decide) (fun hc => ?_) (fun hc => ?_)
          · have hf := pd_ip hf hc
            refine pd_iconst dX12_partsHere_52 (by decide) ?_
            exact pd_weak (L' := [pd_R x0, pd_I x1, pd_I r29, pd_N]) ⟨Or.inr rfl, Or.inr rfl, Or.inr rfl, Or.inr rfl, trivial⟩ (pkX12_partsHere_b53 E l ih _ _ _ _ _ _ hf)
          · have hf := pd_iq hf hc
            exact pd_weak (L' := [pd_R x0, pd_I x1, pd_I r29, pd_N]) ⟨Or.inr rfl, Or.inr rfl, Or.inr rfl, Or.inr rfl, trivial⟩ (pkX12_partsHere_b48 E l ih _ _ _ _ _ hf)
      · have hf := pd_iq hf hc
        refine pd_iconst dX12_partsHere_27 (by decide) ?_
        obtain ⟨h1, h2⟩ := pd_inj hf
        subst h1 h2
        exact pd_zret dX12_partsHere_28 rfl (by decide) (Nat.le_refl 0) (Nat.le_refl 0)
set_option maxHeartbeats 4000000 in
set_option maxRecDepth 100000 in
theorem pkX12_partsHere (l : Launch) {sh : pd_S} {n : Nat} {F : pd_F} {x0 : Int} {x1 : Int} {ρ : Int} {Fz : pd_F} (hf : pfX12_partsHere sh n F x0 x1 = some (ρ, Fz)) : pd_C l yX12_partsHere (Cond.code yX12_partsHere cX12_partsHere 4 (some .boolean) :: pd_gt) (pd_rm 9 0 0) false 0 0 sh F [pd_R x0, pd_I x1] (some (pd_I ρ)) sh Fz := by
  unfold pfX12_partsHere at hf
  refine pd_body (L := [pd_R x0, pd_I x1, pd_N, pd_N]) (by decide +kernel) (Nat.le_of_ble_eq_true rfl) rfl (fun E => ?_)
  refine pd_aload_n (i := 0) dX12_partsHere_0 rfl rfl ?_
  obtain ⟨hg32, hf⟩ := pd_ig hf
  refine pd_get (x := pd_R (F x0 26)) 26 dX12_partsHere_1 (show vwCl[12]? = some (RX12, TX12, 52) from rfl) pin_12 (by decide) pq_721 hg32 rfl ?_
  refine pd_iload_n (i := 1) dX12_partsHere_4 rfl rfl ?_
  refine pd_iconst dX12_partsHere_5 (by decide) ?_
  obtain ⟨hg33, hf⟩ := pd_ig hf
  refine pd_iast dX12_partsHere_6 hg33 ?_
  refine pd_topF (fun F34 eF34 => ?_)
  have hf := pd_lt hf eF34
  clear eF34
  exact pd_weak (L' := [pd_R x0, pd_I x1, pd_N, pd_N]) ⟨Or.inr rfl, Or.inr rfl, Or.inr rfl, Or.inr rfl, trivial⟩ (pkX12_partsHere_b7 E l n _ _ _ hf)
set_option maxHeartbeats 4000000 in
set_option maxRecDepth 100000 in
theorem pkX12_highLine_b31 (E : pd_E) (l : Launch) {sh : pd_S} {n : Nat} {ρ : Int} {Fz : pd_F}  (F : pd_F) (x0 : Int) (x1 : Int) (t0 : Int) (t1 : Int) (hf : pfX12_highLine_b31 sh n  F x0 x1 t0 t1 = some (ρ, Fz)) : pd_V E l (pd_rm 9 0 0) (RX12, cX12_highLine, 3, (some .boolean), "highLine") (pd_Qm E false (some (pd_I ρ)) sh Fz 0 0) false 0 0 sh F 31 [pd_R x0, pd_I x1, pd_N] [pd_I t0, pd_R t1] := by
  unfold pfX12_highLine_b31 at hf
  refine pd_iconst dX12_highLine_31 (by decide) ?_
  obtain ⟨hg3, hf⟩ := pd_ig hf
  obtain ⟨r2, F1, hr, hf⟩ := pd_ob2 hf
  refine pd_callV (pkX12_must l hr) dX12_highLine_32 pq_764 pq_767 pq_768 (show vwCl[12]? = some (yX12_must.cls, TX12, 52) from rfl) hg3 (pd_okm (by omega) (by decide) pq_765 pq_766 (by decide) (show (parseMethodDescriptor yX12_must.desc).map (fun d => d.parameters.length) = some 2 from by decide +kernel)) (Nat.le_of_ble_eq_true rfl) rfl ?_
  refine pd_if_ne (tgt := 40) dX12_highLine_35 (by decide) (fun hc => ?_) (fun hc => ?_)
  · have hf := pd_ip hf hc
    refine pd_bipush dX12_highLine_40 (by decide) ?_
    refine pd_aload_n (i := 0) dX12_highLine_42 rfl rfl ?_
    obtain ⟨hg4, hf⟩ := pd_ig hf
    refine pd_get (x := pd_I (F1 x0 13)) 13 dX12_highLine_43 (show vwCl[12]? = some (RX12, TX12, 52) from rfl) pin_12 (by decide) pq_713 hg4 rfl ?_
    refine pd_imul dX12_highLine_46 ?_
    refine pd_aload_n (i := 0) dX12_highLine_47 rfl rfl ?_
    refine pd_get (x := pd_R (F1 x0 17)) 17 dX12_highLine_48 (show vwCl[12]? = some (RX12, TX12, 52) from rfl) pin_12 (by decide) pq_810 hg4 rfl ?_
    refine pd_aload_n (i := 0) dX12_highLine_51 rfl rfl ?_
    refine pd_get (x := pd_I (F1 x0 13)) 13 dX12_highLine_52 (show vwCl[12]? = some (RX12, TX12, 52) from rfl) pin_12 (by decide) pq_713 hg4 rfl ?_
    obtain ⟨hg5, hf⟩ := pd_ig hf
    refine pd_iald dX12_highLine_55 hg5 ?_
    refine pd_iadd dX12_highLine_56 ?_
    refine pd_topI (fun x2_57 ex2_57 => ?_)
    have hf := pd_lt hf ex2_57
    clear ex2_57
    refine pd_istore_n (L' := [pd_R x0, pd_I x1, pd_I x2_57]) dX12_highLine_57 rfl (by decide) rfl ?_
    refine pd_aload_n (i := 0) dX12_highLine_58 rfl rfl ?_
    refine pd_get (x := pd_R (F1 x0 29)) 29 dX12_highLine_59 (show vwCl[12]? = some (RX12, TX12, 52) from rfl) pin_12 (by decide) pq_811 hg4 rfl ?_
    refine pd_iload_n (i := 2) dX12_highLine_62 rfl rfl ?_
    refine pd_iload_n (i := 1) dX12_highLine_63 rfl rfl ?_
    obtain ⟨hg6, hf⟩ := pd_ig hf
    refine pd_iast dX12_highLine_64 hg6 ?_
    refine pd_topF (fun F7 eF7 => ?_)
    have hf := pd_lt hf eF7
    clear eF7
    refine pd_aload_n (i := 0) dX12_highLine_65 rfl rfl ?_
    obtain ⟨F8, hr, hf⟩ := pd_ob1 hf
    refine pd_callV (pkX12_steps l hr) dX12_highLine_66 pq_769 pq_772 pq_773 (show vwCl[12]? = some (yX12_steps.cls, TX12, 52) from rfl) hg4 (pd_okm (by omega) (by decide) pq_770 pq_771 (by decide) (show (parseMethodDescriptor yX12_steps.desc).map (fun d => d.parameters.length) = some 0 from by decide +kernel)) (Nat.le_of_ble_eq_true rfl) rfl ?_
    refine pd_aload_n (i := 0) dX12_highLine_69 rfl rfl ?_
    refine pd_iconst dX12_highLine_70 (by decide) ?_
    refine pd_ldcw (x := 9999999) dX12_highLine_71 pq_787 (by decide +kernel) ?_
    obtain ⟨r10, F9, hr, hf⟩ := pd_ob2 hf
    refine pd_callV (pkX12_takesNumber l hr) dX12_highLine_74 pq_780 pq_783 pq_784 (show vwCl[12]? = some (yX12_takesNumber.cls, TX12, 52) from rfl) hg4 (pd_okm (by omega) (by decide) pq_781 pq_782 (by decide) (show (parseMethodDescriptor yX12_takesNumber.desc).map (fun d => d.parameters.length) = some 2 from by decide +kernel)) (Nat.le_of_ble_eq_true rfl) rfl ?_
    refine pd_if_ne (tgt := 82) dX12_highLine_77 (by decide) (fun hc => ?_) (fun hc => ?_)
    · have hf := pd_ip hf hc
      refine pd_aload_n (i := 0) dX12_highLine_82 rfl rfl ?_
      refine pd_get (x := pd_R (F9 x0 30)) 30 dX12_highLine_83 (show vwCl[12]? = some (RX12, TX12, 52) from rfl) pin_12 (by decide) pq_812 hg4 rfl ?_
      refine pd_iload_n (i := 2) dX12_highLine_86 rfl rfl ?_
      refine pd_aload_n (i := 0) dX12_highLine_87 rfl rfl ?_
      refine pd_get (x := pd_I (F9 x0 11)) 11 dX12_highLine_88 (show vwCl[12]? = some (RX12, TX12, 52) from rfl) pin_12 (by decide) pq_774 hg4 rfl ?_
      obtain ⟨hg11, hf⟩ := pd_ig hf
      refine pd_iast dX12_highLine_91 hg11 ?_
      refine pd_topF (fun F12 eF12 => ?_)
      have hf := pd_lt hf eF12
      clear eF12
      refine pd_aload_n (i := 0) dX12_highLine_92 rfl rfl ?_
      refine pd_ldcS (k0 := 13) dX12_highLine_93 rfl ?_
      obtain ⟨r14, F13, hr, hf⟩ := pd_ob2 hf
      refine pd_callV (pkX12_takes l hr) dX12_highLine_95 pq_813 pq_816 pq_817 (show vwCl[12]? = some (yX12_takes.cls, TX12, 52) from rfl) hg4 (pd_okm (by omega) (by decide) pq_814 pq_815 (by decide) (show (parseMethodDescriptor yX12_takes.desc).map (fun d => d.parameters.length) = some 1 from by decide +kernel)) (Nat.le_of_ble_eq_true rfl) rfl ?_
      refine pd_if_eq (tgt := 112) dX12_highLine_98 (by decide) (fun hc => ?_) (fun hc => ?_)
      · have hf := pd_ip hf hc
        refine pd_iconst dX12_highLine_112 (by decide) ?_
        obtain ⟨h1, h2⟩ := pd_inj hf
        subst h1 h2
        exact pd_zret dX12_highLine_113 rfl (by decide) (Nat.le_refl 0) (Nat.le_refl 0)
      · have hf := pd_in_ hf hc
        refine pd_aload_n (i := 0) dX12_highLine_101 rfl rfl ?_
        refine pd_iconst dX12_highLine_102 (by decide) ?_
        refine pd_sipush dX12_highLine_103 (by decide) ?_
        obtain ⟨r16, F15, hr, hf⟩ := pd_ob2 hf
        refine pd_callV (pkX12_takesNumber l hr) dX12_highLine_106 pq_780 pq_783 pq_784 (show vwCl[12]? = some (yX12_takesNumber.cls, TX12, 52) from rfl) hg4 (pd_okm (by omega) (by decide) pq_781 pq_782 (by decide) (show (parseMethodDescriptor yX12_takesNumber.desc).map (fun d => d.parameters.length) = some 2 from by decide +kernel)) (Nat.le_of_ble_eq_true rfl) rfl ?_
        refine pd_if_ne (tgt := 114) dX12_highLine_109 (by decide) (fun hc => ?_) (fun hc => ?_)
        · have hf := pd_ip hf hc
          refine pd_aload_n (i := 0) dX12_highLine_114 rfl rfl ?_
          refine pd_get (x := pd_R (F15 x0 31)) 31 dX12_highLine_115 (show vwCl[12]? = some (RX12, TX12, 52) from rfl) pin_12 (by decide) pq_818 hg4 rfl ?_
          refine pd_iload_n (i := 2) dX12_highLine_118 rfl rfl ?_
          refine pd_aload_n (i := 0) dX12_highLine_119 rfl rfl ?_
          refine pd_get (x := pd_I (F15 x0 11)) 11 dX12_highLine_120 (show vwCl[12]? = some (RX12, TX12, 52) from rfl) pin_12 (by decide) pq_774 hg4 rfl ?_
          obtain ⟨hg17, hf⟩ := pd_ig hf
          refine pd_iast dX12_highLine_123 hg17 ?_
          refine pd_topF (fun F18 eF18 => ?_)
          have hf := pd_lt hf eF18
          clear eF18
          refine pd_aload_n (i := 0) dX12_highLine_124 rfl rfl ?_
          refine pd_ldcS (k0 := 14) dX12_highLine_125 rfl ?_
          obtain ⟨r20, F19, hr, hf⟩ := pd_ob2 hf
          refine pd_callV (pkX12_takes l hr) dX12_highLine_127 pq_813 pq_816 pq_817 (show vwCl[12]? = some (yX12_takes.cls, TX12, 52) from rfl) hg4 (pd_okm (by omega) (by decide) pq_814 pq_815 (by decide) (show (parseMethodDescriptor yX12_takes.desc).map (fun d => d.parameters.length) = some 1 from by decide +kernel)) (Nat.le_of_ble_eq_true rfl) rfl ?_
          refine pd_if_eq (tgt := 149) dX12_highLine_130 (by decide) (fun hc => ?_) (fun hc => ?_)
          · have hf := pd_ip hf hc
            refine pd_iconst dX12_highLine_149 (by decide) ?_
            obtain ⟨h1, h2⟩ := pd_inj hf
            subst h1 h2
            exact pd_zret dX12_highLine_150 rfl (by decide) (Nat.le_refl 0) (Nat.le_refl 0)
          · have hf := pd_in_ hf hc
            refine pd_aload_n (i := 0) dX12_highLine_133 rfl rfl ?_
            refine pd_aload_n (i := 0) dX12_highLine_134 rfl rfl ?_
            refine pd_get (x := pd_R (F19 x0 31)) 31 dX12_highLine_135 (show vwCl[12]? = some (RX12, TX12, 52) from rfl) pin_12 (by decide) pq_818 hg4 rfl ?_
            refine pd_iload_n (i := 2) dX12_highLine_138 rfl rfl ?_
            obtain ⟨hg21, hf⟩ := pd_ig hf
            refine pd_iald dX12_highLine_139 hg21 ?_
            refine pd_sipush dX12_highLine_140 (by decide) ?_
            obtain ⟨r23, F22, hr, hf⟩ := pd_ob2 hf
            refine pd_callV (pkX12_takesNumber l hr) dX12_highLine_143 pq_780 pq_783 pq_784 (show vwCl[12]? = some (yX12_takesNumber.cls, TX12, 52) from rfl) hg4 (pd_okm (by omega) (by decide) pq_781 pq_782 (by decide) (show (parseMethodDescriptor yX12_takesNumber.desc).map (fun d => d.parameters.length) = some 2 from by decide +kernel)) (Nat.le_of_ble_eq_true rfl) rfl ?_
            refine pd_if_ne (tgt := 151) dX12_highLine_146 (by decide) (fun hc => ?_) (fun hc => ?_)
            · have hf := pd_ip hf hc
              refine pd_aload_n (i := 0) dX12_highLine_151 rfl rfl ?_
              refine pd_get (x := pd_R (F22 x0 32)) 32 dX12_highLine_152 (show vwCl[12]? = some (RX12, TX12, 52) from rfl) pin_12 (by decide) pq_819 hg4 rfl ?_
              refine pd_iload_n (i := 2) dX12_highLine_155 rfl rfl ?_
              refine pd_aload_n (i := 0) dX12_highLine_156 rfl rfl ?_
              refine pd_get (x := pd_I (F22 x0 11)) 11 dX12_highLine_157 (show vwCl[12]? = some (RX12, TX12, 52) from rfl) pin_12 (by decide) pq_774 hg4 rfl ?_
              obtain ⟨hg24, hf⟩ := pd_ig hf
              refine pd_iast dX12_highLine_160 hg24 ?_
              refine pd_topF (fun F25 eF25 => ?_)
              have hf := pd_lt hf eF25
              clear eF25
              refine pd_aload_n (i := 0) dX12_highLine_161 rfl rfl ?_
              refine pd_get (x := pd_R (F25 x0 17)) 17 dX12_highLine_162 (show vwCl[12]? = some (RX12, TX12, 52) from rfl) pin_12 (by decide) pq_810 hg4 rfl ?_
              refine pd_aload_n (i := 0) dX12_highLine_165 rfl rfl ?_
              refine pd_get (x := pd_I (F25 x0 13)) 13 dX12_highLine_166 (show vwCl[12]? = some (RX12, TX12, 52) from rfl) pin_12 (by decide) pq_713 hg4 rfl ?_
              refine pd_dup2 dX12_highLine_169 rfl rfl ?_
              obtain ⟨hg26, hf⟩ := pd_ig hf
              refine pd_iald dX12_highLine_170 hg26 ?_
              refine pd_iconst dX12_highLine_171 (by decide) ?_
              refine pd_iadd dX12_highLine_172 ?_
              refine pd_iast dX12_highLine_173 hg26 ?_
              refine pd_topF (fun F27 eF27 => ?_)
              have hf := pd_lt hf eF27
              clear eF27
              refine pd_iconst dX12_highLine_174 (by decide) ?_
              obtain ⟨h1, h2⟩ := pd_inj hf
              subst h1 h2
              exact pd_zret dX12_highLine_175 rfl (by decide) (Nat.le_refl 0) (Nat.le_refl 0)
            · have hf := pd_iq hf hc
              refine pd_iconst dX12_highLine_149 (by decide) ?_
              obtain ⟨h1, h2⟩ := pd_inj hf
              subst h1 h2
              exact pd_zret dX12_highLine_150 rfl (by decide) (Nat.le_refl 0) (Nat.le_refl 0)
        · have hf := pd_iq hf hc
          refine pd_iconst dX12_highLine_112 (by decide) ?_
          obtain ⟨h1, h2⟩ := pd_inj hf
          subst h1 h2
          exact pd_zret dX12_highLine_113 rfl (by decide) (Nat.le_refl 0) (Nat.le_refl 0)
    · have hf := pd_iq hf hc
      refine pd_iconst dX12_highLine_80 (by decide) ?_
      obtain ⟨h1, h2⟩ := pd_inj hf
      subst h1 h2
      exact pd_zret dX12_highLine_81 rfl (by decide) (Nat.le_refl 0) (Nat.le_refl 0)
  · have hf := pd_iq hf hc
    refine pd_iconst dX12_highLine_38 (by decide) ?_
    obtain ⟨h1, h2⟩ := pd_inj hf
    subst h1 h2
    exact pd_zret dX12_highLine_39 rfl (by decide) (Nat.le_refl 0) (Nat.le_refl 0)
set_option maxHeartbeats 4000000 in
set_option maxRecDepth 100000 in
theorem pkX12_highLine (l : Launch) {sh : pd_S} {n : Nat} {F : pd_F} {x0 : Int} {ρ : Int} {Fz : pd_F} (hf : pfX12_highLine sh n F x0 = some (ρ, Fz)) : pd_C l yX12_highLine (Cond.code yX12_highLine cX12_highLine 3 (some .boolean) :: pd_gt) (pd_rm 9 0 0) false 0 0 sh F [pd_R x0] (some (pd_I ρ)) sh Fz := by
  unfold pfX12_highLine at hf
  refine pd_body (L := [pd_R x0, pd_N, pd_N]) (by decide +kernel) (Nat.le_of_ble_eq_true rfl) rfl (fun E => ?_)
  refine pd_aload_n (i := 0) dX12_highLine_0 rfl rfl ?_
  refine pd_aload_n (i := 0) dX12_highLine_1 rfl rfl ?_
  obtain ⟨hg28, hf⟩ := pd_ig hf
  refine pd_get (x := pd_J (F x0 8)) 8 dX12_highLine_2 (show vwCl[12]? = some (RX12, TX12, 52) from rfl) pin_12 (by decide) pq_728 hg28 rfl ?_
  obtain ⟨r30, F29, hr, hf⟩ := pd_ob2 hf
  refine pd_callV (pkX12_accountNamed l hr) dX12_highLine_5 pq_794 pq_797 pq_798 (show vwCl[12]? = some (yX12_accountNamed.cls, TX12, 52) from rfl) hg28 (pd_okm (by omega) (by decide) pq_795 pq_796 (by decide) (show (parseMethodDescriptor yX12_accountNamed.desc).map (fun d => d.parameters.length) = some 1 from by decide +kernel)) (Nat.le_of_ble_eq_true rfl) rfl ?_
  refine pd_istore_n (L' := [pd_R x0, pd_I r30, pd_N]) dX12_highLine_8 rfl (by decide) rfl ?_
  refine pd_aload_n (i := 0) dX12_highLine_9 rfl rfl ?_
  refine pd_aload_n (i := 0) dX12_highLine_10 rfl rfl ?_
  obtain ⟨r32, F31, hr, hf⟩ := pd_ob2 hf
  refine pd_callV (pkX12_isName l hr) dX12_highLine_11 pq_789 pq_792 pq_793 (show vwCl[12]? = some (yX12_isName.cls, TX12, 52) from rfl) hg28 (pd_okm (by omega) (by decide) pq_790 pq_791 (by decide) (show (parseMethodDescriptor yX12_isName.desc).map (fun d => d.parameters.length) = some 0 from by decide +kernel)) (Nat.le_of_ble_eq_true rfl) rfl ?_
  refine pd_iconst dX12_highLine_14 (by decide) ?_
  obtain ⟨r34, F33, hr, hf⟩ := pd_ob2 hf
  refine pd_callV (pkX12_must l hr) dX12_highLine_15 pq_764 pq_767 pq_768 (show vwCl[12]? = some (yX12_must.cls, TX12, 52) from rfl) hg28 (pd_okm (by omega) (by decide) pq_765 pq_766 (by decide) (show (parseMethodDescriptor yX12_must.desc).map (fun d => d.parameters.length) = some 2 from by decide +kernel)) (Nat.le_of_ble_eq_true rfl) rfl ?_
  refine pd_if_eq (tgt := 38) dX12_highLine_18 (by decide) (fun hc => ?_) (fun hc => ?_)
  · have hf := pd_ip hf hc
    refine pd_iconst dX12_highLine_38 (by decide) ?_
    obtain ⟨h1, h2⟩ := pd_inj hf
    subst h1 h2
    exact pd_zret dX12_highLine_39 rfl (by decide) (Nat.le_refl 0) (Nat.le_refl 0)
  · have hf := pd_in_ hf hc
    refine pd_aload_n (i := 0) dX12_highLine_21 rfl rfl ?_
    refine pd_iload_n (i := 1) dX12_highLine_22 rfl rfl ?_
    refine pd_if_lt (tgt := 30) dX12_highLine_23 (by decide) (fun hc => ?_) (fun hc => ?_)
    · have hf := pd_ip hf hc
      refine pd_iconst dX12_highLine_30 (by decide) ?_
      exact pd_weak (L' := [pd_R x0, pd_I r30, pd_N]) ⟨Or.inr rfl, Or.inr rfl, Or.inr rfl, trivial⟩ (pkX12_highLine_b31 E l _ _ _ _ _ hf)
    · have hf := pd_in_ hf hc
      refine pd_iconst dX12_highLine_26 (by decide) ?_
      refine pd_goto (tgt := 31) dX12_highLine_27 (by decide) ?_
      exact pd_weak (L' := [pd_R x0, pd_I r30, pd_N]) ⟨Or.inr rfl, Or.inr rfl, Or.inr rfl, trivial⟩ (pkX12_highLine_b31 E l _ _ _ _ _ hf)
set_option maxHeartbeats 4000000 in
set_option maxRecDepth 100000 in
theorem pkX12_loanLine_b31 (E : pd_E) (l : Launch) {sh : pd_S} {n : Nat} {ρ : Int} {Fz : pd_F}  (F : pd_F) (x0 : Int) (x1 : Int) (t0 : Int) (t1 : Int) (hf : pfX12_loanLine_b31 sh n  F x0 x1 t0 t1 = some (ρ, Fz)) : pd_V E l (pd_rm 9 0 0) (RX12, cX12_loanLine, 3, (some .boolean), "loanLine") (pd_Qm E false (some (pd_I ρ)) sh Fz 0 0) false 0 0 sh F 31 [pd_R x0, pd_I x1, pd_N] [pd_I t0, pd_R t1] := by
  unfold pfX12_loanLine_b31 at hf
  refine pd_iconst dX12_loanLine_31 (by decide) ?_
  obtain ⟨hg3, hf⟩ := pd_ig hf
  obtain ⟨r2, F1, hr, hf⟩ := pd_ob2 hf
  refine pd_callV (pkX12_must l hr) dX12_loanLine_32 pq_764 pq_767 pq_768 (show vwCl[12]? = some (yX12_must.cls, TX12, 52) from rfl) hg3 (pd_okm (by omega) (by decide) pq_765 pq_766 (by decide) (show (parseMethodDescriptor yX12_must.desc).map (fun d => d.parameters.length) = some 2 from by decide +kernel)) (Nat.le_of_ble_eq_true rfl) rfl ?_
  refine pd_if_ne (tgt := 40) dX12_loanLine_35 (by decide) (fun hc => ?_) (fun hc => ?_)
  · have hf := pd_ip hf hc
    refine pd_bipush dX12_loanLine_40 (by decide) ?_
    refine pd_aload_n (i := 0) dX12_loanLine_42 rfl rfl ?_
    obtain ⟨hg4, hf⟩ := pd_ig hf
    refine pd_get (x := pd_I (F1 x0 13)) 13 dX12_loanLine_43 (show vwCl[12]? = some (RX12, TX12, 52) from rfl) pin_12 (by decide) pq_713 hg4 rfl ?_
    refine pd_imul dX12_loanLine_46 ?_
    refine pd_aload_n (i := 0) dX12_loanLine_47 rfl rfl ?_
    refine pd_get (x := pd_R (F1 x0 18)) 18 dX12_loanLine_48 (show vwCl[12]? = some (RX12, TX12, 52) from rfl) pin_12 (by decide) pq_820 hg4 rfl ?_
    refine pd_aload_n (i := 0) dX12_loanLine_51 rfl rfl ?_
    refine pd_get (x := pd_I (F1 x0 13)) 13 dX12_loanLine_52 (show vwCl[12]? = some (RX12, TX12, 52) from rfl) pin_12 (by decide) pq_713 hg4 rfl ?_
    obtain ⟨hg5, hf⟩ := pd_ig hf
    refine pd_iald dX12_loanLine_55 hg5 ?_
    refine pd_iadd dX12_loanLine_56 ?_
    refine pd_topI (fun x2_57 ex2_57 => ?_)
    have hf := pd_lt hf ex2_57
    clear ex2_57
    refine pd_istore_n (L' := [pd_R x0, pd_I x1, pd_I x2_57]) dX12_loanLine_57 rfl (by decide) rfl ?_
    refine pd_aload_n (i := 0) dX12_loanLine_58 rfl rfl ?_
    refine pd_get (x := pd_R (F1 x0 33)) 33 dX12_loanLine_59 (show vwCl[12]? = some (RX12, TX12, 52) from rfl) pin_12 (by decide) pq_821 hg4 rfl ?_
    refine pd_iload_n (i := 2) dX12_loanLine_62 rfl rfl ?_
    refine pd_iload_n (i := 1) dX12_loanLine_63 rfl rfl ?_
    obtain ⟨hg6, hf⟩ := pd_ig hf
    refine pd_iast dX12_loanLine_64 hg6 ?_
    refine pd_topF (fun F7 eF7 => ?_)
    have hf := pd_lt hf eF7
    clear eF7
    refine pd_aload_n (i := 0) dX12_loanLine_65 rfl rfl ?_
    obtain ⟨F8, hr, hf⟩ := pd_ob1 hf
    refine pd_callV (pkX12_steps l hr) dX12_loanLine_66 pq_769 pq_772 pq_773 (show vwCl[12]? = some (yX12_steps.cls, TX12, 52) from rfl) hg4 (pd_okm (by omega) (by decide) pq_770 pq_771 (by decide) (show (parseMethodDescriptor yX12_steps.desc).map (fun d => d.parameters.length) = some 0 from by decide +kernel)) (Nat.le_of_ble_eq_true rfl) rfl ?_
    refine pd_aload_n (i := 0) dX12_loanLine_69 rfl rfl ?_
    refine pd_iconst dX12_loanLine_70 (by decide) ?_
    refine pd_ldcw (x := 9999999) dX12_loanLine_71 pq_787 (by decide +kernel) ?_
    obtain ⟨r10, F9, hr, hf⟩ := pd_ob2 hf
    refine pd_callV (pkX12_takesNumber l hr) dX12_loanLine_74 pq_780 pq_783 pq_784 (show vwCl[12]? = some (yX12_takesNumber.cls, TX12, 52) from rfl) hg4 (pd_okm (by omega) (by decide) pq_781 pq_782 (by decide) (show (parseMethodDescriptor yX12_takesNumber.desc).map (fun d => d.parameters.length) = some 2 from by decide +kernel)) (Nat.le_of_ble_eq_true rfl) rfl ?_
    refine pd_if_ne (tgt := 82) dX12_loanLine_77 (by decide) (fun hc => ?_) (fun hc => ?_)
    · have hf := pd_ip hf hc
      refine pd_aload_n (i := 0) dX12_loanLine_82 rfl rfl ?_
      refine pd_get (x := pd_R (F9 x0 34)) 34 dX12_loanLine_83 (show vwCl[12]? = some (RX12, TX12, 52) from rfl) pin_12 (by decide) pq_822 hg4 rfl ?_
      refine pd_iload_n (i := 2) dX12_loanLine_86 rfl rfl ?_
      refine pd_aload_n (i := 0) dX12_loanLine_87 rfl rfl ?_
      refine pd_get (x := pd_I (F9 x0 11)) 11 dX12_loanLine_88 (show vwCl[12]? = some (RX12, TX12, 52) from rfl) pin_12 (by decide) pq_774 hg4 rfl ?_
      obtain ⟨hg11, hf⟩ := pd_ig hf
      refine pd_iast dX12_loanLine_91 hg11 ?_
      refine pd_topF (fun F12 eF12 => ?_)
      have hf := pd_lt hf eF12
      clear eF12
      refine pd_aload_n (i := 0) dX12_loanLine_92 rfl rfl ?_
      refine pd_ldcS (k0 := 15) dX12_loanLine_93 rfl ?_
      obtain ⟨r14, F13, hr, hf⟩ := pd_ob2 hf
      refine pd_callV (pkX12_takes l hr) dX12_loanLine_95 pq_813 pq_816 pq_817 (show vwCl[12]? = some (yX12_takes.cls, TX12, 52) from rfl) hg4 (pd_okm (by omega) (by decide) pq_814 pq_815 (by decide) (show (parseMethodDescriptor yX12_takes.desc).map (fun d => d.parameters.length) = some 1 from by decide +kernel)) (Nat.le_of_ble_eq_true rfl) rfl ?_
      refine pd_if_eq (tgt := 112) dX12_loanLine_98 (by decide) (fun hc => ?_) (fun hc => ?_)
      · have hf := pd_ip hf hc
        refine pd_iconst dX12_loanLine_112 (by decide) ?_
        obtain ⟨h1, h2⟩ := pd_inj hf
        subst h1 h2
        exact pd_zret dX12_loanLine_113 rfl (by decide) (Nat.le_refl 0) (Nat.le_refl 0)
      · have hf := pd_in_ hf hc
        refine pd_aload_n (i := 0) dX12_loanLine_101 rfl rfl ?_
        refine pd_iconst dX12_loanLine_102 (by decide) ?_
        refine pd_sipush dX12_loanLine_103 (by decide) ?_
        obtain ⟨r16, F15, hr, hf⟩ := pd_ob2 hf
        refine pd_callV (pkX12_takesNumber l hr) dX12_loanLine_106 pq_780 pq_783 pq_784 (show vwCl[12]? = some (yX12_takesNumber.cls, TX12, 52) from rfl) hg4 (pd_okm (by omega) (by decide) pq_781 pq_782 (by decide) (show (parseMethodDescriptor yX12_takesNumber.desc).map (fun d => d.parameters.length) = some 2 from by decide +kernel)) (Nat.le_of_ble_eq_true rfl) rfl ?_
        refine pd_if_ne (tgt := 114) dX12_loanLine_109 (by decide) (fun hc => ?_) (fun hc => ?_)
        · have hf := pd_ip hf hc
          refine pd_aload_n (i := 0) dX12_loanLine_114 rfl rfl ?_
          refine pd_get (x := pd_R (F15 x0 35)) 35 dX12_loanLine_115 (show vwCl[12]? = some (RX12, TX12, 52) from rfl) pin_12 (by decide) pq_823 hg4 rfl ?_
          refine pd_iload_n (i := 2) dX12_loanLine_118 rfl rfl ?_
          refine pd_aload_n (i := 0) dX12_loanLine_119 rfl rfl ?_
          refine pd_get (x := pd_I (F15 x0 11)) 11 dX12_loanLine_120 (show vwCl[12]? = some (RX12, TX12, 52) from rfl) pin_12 (by decide) pq_774 hg4 rfl ?_
          obtain ⟨hg17, hf⟩ := pd_ig hf
          refine pd_iast dX12_loanLine_123 hg17 ?_
          refine pd_topF (fun F18 eF18 => ?_)
          have hf := pd_lt hf eF18
          clear eF18
          refine pd_aload_n (i := 0) dX12_loanLine_124 rfl rfl ?_
          refine pd_get (x := pd_R (F18 x0 18)) 18 dX12_loanLine_125 (show vwCl[12]? = some (RX12, TX12, 52) from rfl) pin_12 (by decide) pq_820 hg4 rfl ?_
          refine pd_aload_n (i := 0) dX12_loanLine_128 rfl rfl ?_
          refine pd_get (x := pd_I (F18 x0 13)) 13 dX12_loanLine_129 (show vwCl[12]? = some (RX12, TX12, 52) from rfl) pin_12 (by decide) pq_713 hg4 rfl ?_
          refine pd_dup2 dX12_loanLine_132 rfl rfl ?_
          obtain ⟨hg19, hf⟩ := pd_ig hf
          refine pd_iald dX12_loanLine_133 hg19 ?_
          refine pd_iconst dX12_loanLine_134 (by decide) ?_
          refine pd_iadd dX12_loanLine_135 ?_
          refine pd_iast dX12_loanLine_136 hg19 ?_
          refine pd_topF (fun F20 eF20 => ?_)
          have hf := pd_lt hf eF20
          clear eF20
          refine pd_iconst dX12_loanLine_137 (by decide) ?_
          obtain ⟨h1, h2⟩ := pd_inj hf
          subst h1 h2
          exact pd_zret dX12_loanLine_138 rfl (by decide) (Nat.le_refl 0) (Nat.le_refl 0)
        · have hf := pd_iq hf hc
          refine pd_iconst dX12_loanLine_112 (by decide) ?_
          obtain ⟨h1, h2⟩ := pd_inj hf
          subst h1 h2
          exact pd_zret dX12_loanLine_113 rfl (by decide) (Nat.le_refl 0) (Nat.le_refl 0)
    · have hf := pd_iq hf hc
      refine pd_iconst dX12_loanLine_80 (by decide) ?_
      obtain ⟨h1, h2⟩ := pd_inj hf
      subst h1 h2
      exact pd_zret dX12_loanLine_81 rfl (by decide) (Nat.le_refl 0) (Nat.le_refl 0)
  · have hf := pd_iq hf hc
    refine pd_iconst dX12_loanLine_38 (by decide) ?_
    obtain ⟨h1, h2⟩ := pd_inj hf
    subst h1 h2
    exact pd_zret dX12_loanLine_39 rfl (by decide) (Nat.le_refl 0) (Nat.le_refl 0)
set_option maxHeartbeats 4000000 in
set_option maxRecDepth 100000 in
theorem pkX12_loanLine (l : Launch) {sh : pd_S} {n : Nat} {F : pd_F} {x0 : Int} {ρ : Int} {Fz : pd_F} (hf : pfX12_loanLine sh n F x0 = some (ρ, Fz)) : pd_C l yX12_loanLine (Cond.code yX12_loanLine cX12_loanLine 3 (some .boolean) :: pd_gt) (pd_rm 9 0 0) false 0 0 sh F [pd_R x0] (some (pd_I ρ)) sh Fz := by
  unfold pfX12_loanLine at hf
  refine pd_body (L := [pd_R x0, pd_N, pd_N]) (by decide +kernel) (Nat.le_of_ble_eq_true rfl) rfl (fun E => ?_)
  refine pd_aload_n (i := 0) dX12_loanLine_0 rfl rfl ?_
  refine pd_aload_n (i := 0) dX12_loanLine_1 rfl rfl ?_
  obtain ⟨hg21, hf⟩ := pd_ig hf
  refine pd_get (x := pd_J (F x0 8)) 8 dX12_loanLine_2 (show vwCl[12]? = some (RX12, TX12, 52) from rfl) pin_12 (by decide) pq_728 hg21 rfl ?_
  obtain ⟨r23, F22, hr, hf⟩ := pd_ob2 hf
  refine pd_callV (pkX12_personNamed l hr) dX12_loanLine_5 pq_749 pq_752 pq_753 (show vwCl[12]? = some (yX12_personNamed.cls, TX12, 52) from rfl) hg21 (pd_okm (by omega) (by decide) pq_750 pq_751 (by decide) (show (parseMethodDescriptor yX12_personNamed.desc).map (fun d => d.parameters.length) = some 1 from by decide +kernel)) (Nat.le_of_ble_eq_true rfl) rfl ?_
  refine pd_istore_n (L' := [pd_R x0, pd_I r23, pd_N]) dX12_loanLine_8 rfl (by decide) rfl ?_
  refine pd_aload_n (i := 0) dX12_loanLine_9 rfl rfl ?_
  refine pd_aload_n (i := 0) dX12_loanLine_10 rfl rfl ?_
  obtain ⟨r25, F24, hr, hf⟩ := pd_ob2 hf
  refine pd_callV (pkX12_isName l hr) dX12_loanLine_11 pq_789 pq_792 pq_793 (show vwCl[12]? = some (yX12_isName.cls, TX12, 52) from rfl) hg21 (pd_okm (by omega) (by decide) pq_790 pq_791 (by decide) (show (parseMethodDescriptor yX12_isName.desc).map (fun d => d.parameters.length) = some 0 from by decide +kernel)) (Nat.le_of_ble_eq_true rfl) rfl ?_
  refine pd_iconst dX12_loanLine_14 (by decide) ?_
  obtain ⟨r27, F26, hr, hf⟩ := pd_ob2 hf
  refine pd_callV (pkX12_must l hr) dX12_loanLine_15 pq_764 pq_767 pq_768 (show vwCl[12]? = some (yX12_must.cls, TX12, 52) from rfl) hg21 (pd_okm (by omega) (by decide) pq_765 pq_766 (by decide) (show (parseMethodDescriptor yX12_must.desc).map (fun d => d.parameters.length) = some 2 from by decide +kernel)) (Nat.le_of_ble_eq_true rfl) rfl ?_
  refine pd_if_eq (tgt := 38) dX12_loanLine_18 (by decide) (fun hc => ?_) (fun hc => ?_)
  · have hf := pd_ip hf hc
    refine pd_iconst dX12_loanLine_38 (by decide) ?_
    obtain ⟨h1, h2⟩ := pd_inj hf
    subst h1 h2
    exact pd_zret dX12_loanLine_39 rfl (by decide) (Nat.le_refl 0) (Nat.le_refl 0)
  · have hf := pd_in_ hf hc
    refine pd_aload_n (i := 0) dX12_loanLine_21 rfl rfl ?_
    refine pd_iload_n (i := 1) dX12_loanLine_22 rfl rfl ?_
    refine pd_if_lt (tgt := 30) dX12_loanLine_23 (by decide) (fun hc => ?_) (fun hc => ?_)
    · have hf := pd_ip hf hc
      refine pd_iconst dX12_loanLine_30 (by decide) ?_
      exact pd_weak (L' := [pd_R x0, pd_I r23, pd_N]) ⟨Or.inr rfl, Or.inr rfl, Or.inr rfl, trivial⟩ (pkX12_loanLine_b31 E l _ _ _ _ _ hf)
    · have hf := pd_in_ hf hc
      refine pd_iconst dX12_loanLine_26 (by decide) ?_
      refine pd_goto (tgt := 31) dX12_loanLine_27 (by decide) ?_
      exact pd_weak (L' := [pd_R x0, pd_I r23, pd_N]) ⟨Or.inr rfl, Or.inr rfl, Or.inr rfl, trivial⟩ (pkX12_loanLine_b31 E l _ _ _ _ _ hf)
set_option maxHeartbeats 4000000 in
set_option maxRecDepth 100000 in
theorem pkX12_personLine_b120 (E : pd_E) (l : Launch) {sh : pd_S} {n : Nat} {ρ : Int} {Fz : pd_F} {c51 : pd_F → Int → Int → Option (Int × pd_F)} (hL51 : ∀ (F : pd_F) (x0 : Int) (x1 : Int), c51 F x0 x1 = some (ρ, Fz) → pd_V E l (pd_rm 10 0 0) (RX12, cX12_personLine, 2, (some .boolean), "personLine") (pd_Qm E false (some (pd_I ρ)) sh Fz 0 0) false 0 0 sh F 51 [pd_R x0, pd_I x1] []) (F : pd_F) (x0 : Int) (x1 : Int) (t0 : Int) (t1 : Int) (hf : pfX12_personLine_b120 sh n c51 F x0 x1 t0 t1 = some (ρ, Fz)) : pd_V E l (pd_rm 10 0 0) (RX12, cX12_personLine, 2, (some .boolean), "personLine") (pd_Qm E false (some (pd_I ρ)) sh Fz 0 0) false 0 0 sh F 120 [pd_R x0, pd_I x1] [pd_I t0, pd_R t1] := by
  unfold pfX12_personLine_b120 at hf
  refine pd_iconst dX12_personLine_120 (by decide) ?_
  obtain ⟨hg3, hf⟩ := pd_ig hf
  obtain ⟨r2, F1, hr, hf⟩ := pd_ob2 hf
  refine pd_callV (pkX12_must l hr) dX12_personLine_121 pq_764 pq_767 pq_768 (show vwCl[12]? = some (yX12_must.cls, TX12, 52) from rfl) hg3 (pd_okm (by omega) (by decide) pq_765 pq_766 (by decide) (show (parseMethodDescriptor yX12_must.desc).map (fun d => d.parameters.length) = some 2 from by decide +kernel)) (Nat.le_of_ble_eq_true rfl) rfl ?_
  refine pd_if_ne (tgt := 129) dX12_personLine_124 (by decide) (fun hc => ?_) (fun hc => ?_)
  · have hf := pd_ip hf hc
    refine pd_aload_n (i := 0) dX12_personLine_129 rfl rfl ?_
    obtain ⟨hg4, hf⟩ := pd_ig hf
    refine pd_get (x := pd_R (F1 x0 21)) 21 dX12_personLine_130 (show vwCl[12]? = some (RX12, TX12, 52) from rfl) pin_12 (by decide) pq_720 hg4 rfl ?_
    refine pd_iconst dX12_personLine_133 (by decide) ?_
    refine pd_iload_n (i := 1) dX12_personLine_134 rfl rfl ?_
    refine pd_imul dX12_personLine_135 ?_
    refine pd_aload_n (i := 0) dX12_personLine_136 rfl rfl ?_
    refine pd_get (x := pd_R (F1 x0 20)) 20 dX12_personLine_137 (show vwCl[12]? = some (RX12, TX12, 52) from rfl) pin_12 (by decide) pq_719 hg4 rfl ?_
    refine pd_iload_n (i := 1) dX12_personLine_140 rfl rfl ?_
    obtain ⟨hg5, hf⟩ := pd_ig hf
    refine pd_iald dX12_personLine_141 hg5 ?_
    refine pd_iadd dX12_personLine_142 ?_
    refine pd_aload_n (i := 0) dX12_personLine_143 rfl rfl ?_
    refine pd_get (x := pd_I (F1 x0 7)) 7 dX12_personLine_144 (show vwCl[12]? = some (RX12, TX12, 52) from rfl) pin_12 (by decide) pq_742 hg4 rfl ?_
    obtain ⟨hg6, hf⟩ := pd_ig hf
    refine pd_iast dX12_personLine_147 hg6 ?_
    refine pd_topF (fun F7 eF7 => ?_)
    have hf := pd_lt hf eF7
    clear eF7
    refine pd_aload_n (i := 0) dX12_personLine_148 rfl rfl ?_
    refine pd_get (x := pd_R (F7 x0 20)) 20 dX12_personLine_149 (show vwCl[12]? = some (RX12, TX12, 52) from rfl) pin_12 (by decide) pq_719 hg4 rfl ?_
    refine pd_iload_n (i := 1) dX12_personLine_152 rfl rfl ?_
    refine pd_dup2 dX12_personLine_153 rfl rfl ?_
    obtain ⟨hg8, hf⟩ := pd_ig hf
    refine pd_iald dX12_personLine_154 hg8 ?_
    refine pd_iconst dX12_personLine_155 (by decide) ?_
    refine pd_iadd dX12_personLine_156 ?_
    refine pd_iast dX12_personLine_157 hg8 ?_
    refine pd_topF (fun F9 eF9 => ?_)
    have hf := pd_lt hf eF9
    clear eF9
    refine pd_aload_n (i := 0) dX12_personLine_158 rfl rfl ?_
    obtain ⟨F10, hr, hf⟩ := pd_ob1 hf
    refine pd_callV (pkX12_steps l hr) dX12_personLine_159 pq_769 pq_772 pq_773 (show vwCl[12]? = some (yX12_steps.cls, TX12, 52) from rfl) hg4 (pd_okm (by omega) (by decide) pq_770 pq_771 (by decide) (show (parseMethodDescriptor yX12_steps.desc).map (fun d => d.parameters.length) = some 0 from by decide +kernel)) (Nat.le_of_ble_eq_true rfl) rfl ?_
    refine pd_goto (tgt := 51) dX12_personLine_162 (by decide) ?_
    exact pd_weak (L' := [pd_R x0, pd_I x1]) ⟨Or.inr rfl, Or.inr rfl, trivial⟩ (hL51 _ _ _ hf)
  · have hf := pd_iq hf hc
    refine pd_iconst dX12_personLine_127 (by decide) ?_
    obtain ⟨h1, h2⟩ := pd_inj hf
    subst h1 h2
    exact pd_zret dX12_personLine_128 rfl (by decide) (Nat.le_refl 0) (Nat.le_refl 0)
set_option maxHeartbeats 4000000 in
set_option maxRecDepth 100000 in
theorem pkX12_personLine_b77 (E : pd_E) (l : Launch) {sh : pd_S} {n : Nat} {ρ : Int} {Fz : pd_F} {c51 : pd_F → Int → Int → Option (Int × pd_F)} (hL51 : ∀ (F : pd_F) (x0 : Int) (x1 : Int), c51 F x0 x1 = some (ρ, Fz) → pd_V E l (pd_rm 10 0 0) (RX12, cX12_personLine, 2, (some .boolean), "personLine") (pd_Qm E false (some (pd_I ρ)) sh Fz 0 0) false 0 0 sh F 51 [pd_R x0, pd_I x1] []) (F : pd_F) (x0 : Int) (x1 : Int) (t0 : Int) (t1 : Int) (hf : pfX12_personLine_b77 sh n c51 F x0 x1 t0 t1 = some (ρ, Fz)) : pd_V E l (pd_rm 10 0 0) (RX12, cX12_personLine, 2, (some .boolean), "personLine") (pd_Qm E false (some (pd_I ρ)) sh Fz 0 0) false 0 0 sh F 77 [pd_R x0, pd_I x1] [pd_I t0, pd_R t1] := by
  unfold pfX12_personLine_b77 at hf
  refine pd_iconst dX12_personLine_77 (by decide) ?_
  obtain ⟨hg13, hf⟩ := pd_ig hf
  obtain ⟨r12, F11, hr, hf⟩ := pd_ob2 hf
  refine pd_callV (pkX12_must l hr) dX12_personLine_78 pq_764 pq_767 pq_768 (show vwCl[12]? = some (yX12_must.cls, TX12, 52) from rfl) hg13 (pd_okm (by omega) (by decide) pq_765 pq_766 (by decide) (show (parseMethodDescriptor yX12_must.desc).map (fun d => d.parameters.length) = some 2 from by decide +kernel)) (Nat.le_of_ble_eq_true rfl) rfl ?_
  refine pd_if_eq (tgt := 127) dX12_personLine_81 (by decide) (fun hc => ?_) (fun hc => ?_)
  · have hf := pd_ip hf hc
    refine pd_iconst dX12_personLine_127 (by decide) ?_
    obtain ⟨h1, h2⟩ := pd_inj hf
    subst h1 h2
    exact pd_zret dX12_personLine_128 rfl (by decide) (Nat.le_refl 0) (Nat.le_refl 0)
  · have hf := pd_in_ hf hc
    refine pd_aload_n (i := 0) dX12_personLine_84 rfl rfl ?_
    refine pd_aload_n (i := 0) dX12_personLine_85 rfl rfl ?_
    obtain ⟨hg14, hf⟩ := pd_ig hf
    refine pd_get (x := pd_I (F11 x0 7)) 7 dX12_personLine_86 (show vwCl[12]? = some (RX12, TX12, 52) from rfl) pin_12 (by decide) pq_742 hg14 rfl ?_
    refine pd_i2l dX12_personLine_89 ?_
    refine pd_lconst (x := 1) dX12_personLine_90 (by decide) ?_
    refine pd_ldc2 (x := 9999) dX12_personLine_91 pq_824 (by decide +kernel) ?_
    obtain ⟨r16, F15, hr, hf⟩ := pd_ob2 hf
    refine pd_callS (pkX12_within l hr) dX12_personLine_94 pq_738 pq_741 (pd_okm (by omega) (by decide) pq_739 pq_740 (by decide) (show (parseMethodDescriptor yX12_within.desc).map (fun d => d.parameters.length) = some 3 from by decide +kernel)) (Nat.le_of_ble_eq_true rfl) rfl ?_
    refine pd_iconst dX12_personLine_97 (by decide) ?_
    obtain ⟨r18, F17, hr, hf⟩ := pd_ob2 hf
    refine pd_callV (pkX12_must l hr) dX12_personLine_98 pq_764 pq_767 pq_768 (show vwCl[12]? = some (yX12_must.cls, TX12, 52) from rfl) hg14 (pd_okm (by omega) (by decide) pq_765 pq_766 (by decide) (show (parseMethodDescriptor yX12_must.desc).map (fun d => d.parameters.length) = some 2 from by decide +kernel)) (Nat.le_of_ble_eq_true rfl) rfl ?_
    refine pd_if_eq (tgt := 127) dX12_personLine_101 (by decide) (fun hc => ?_) (fun hc => ?_)
    · have hf := pd_ip hf hc
      refine pd_iconst dX12_personLine_127 (by decide) ?_
      obtain ⟨h1, h2⟩ := pd_inj hf
      subst h1 h2
      exact pd_zret dX12_personLine_128 rfl (by decide) (Nat.le_refl 0) (Nat.le_refl 0)
    · have hf := pd_in_ hf hc
      refine pd_aload_n (i := 0) dX12_personLine_104 rfl rfl ?_
      refine pd_aload_n (i := 0) dX12_personLine_105 rfl rfl ?_
      refine pd_get (x := pd_R (F17 x0 20)) 20 dX12_personLine_106 (show vwCl[12]? = some (RX12, TX12, 52) from rfl) pin_12 (by decide) pq_719 hg14 rfl ?_
      refine pd_iload_n (i := 1) dX12_personLine_109 rfl rfl ?_
      obtain ⟨hg19, hf⟩ := pd_ig hf
      refine pd_iald dX12_personLine_110 hg19 ?_
      refine pd_iconst dX12_personLine_111 (by decide) ?_
      refine pd_icmp_ge (tgt := 119) dX12_personLine_112 (by decide) (fun hc => ?_) (fun hc => ?_)
      · have hf := pd_ip hf hc
        refine pd_iconst dX12_personLine_119 (by decide) ?_
        exact pd_weak (L' := [pd_R x0, pd_I x1]) ⟨Or.inr rfl, Or.inr rfl, trivial⟩ (pkX12_personLine_b120 E l hL51 _ _ _ _ _ hf)
      · have hf := pd_in_ hf hc
        refine pd_iconst dX12_personLine_115 (by decide) ?_
        refine pd_goto (tgt := 120) dX12_personLine_116 (by decide) ?_
        exact pd_weak (L' := [pd_R x0, pd_I x1]) ⟨Or.inr rfl, Or.inr rfl, trivial⟩ (pkX12_personLine_b120 E l hL51 _ _ _ _ _ hf)
set_option maxHeartbeats 4000000 in
set_option maxRecDepth 100000 in
theorem pkX12_personLine_b185 (E : pd_E) (l : Launch) {sh : pd_S} {n : Nat} {ρ : Int} {Fz : pd_F}  (F : pd_F) (x0 : Int) (hf : pfX12_personLine_b185 sh n  F x0 = some (ρ, Fz)) : pd_V E l (pd_rm 10 0 0) (RX12, cX12_personLine, 2, (some .boolean), "personLine") (pd_Qm E false (some (pd_I ρ)) sh Fz 0 0) false 0 0 sh F 185 [pd_R x0, pd_N] [] := by
  unfold pfX12_personLine_b185 at hf
  refine pd_aload_n (i := 0) dX12_personLine_185 rfl rfl ?_
  obtain ⟨hg20, hf⟩ := pd_ig hf
  refine pd_get (x := pd_R (F x0 14)) 14 dX12_personLine_186 (show vwCl[12]? = some (RX12, TX12, 52) from rfl) pin_12 (by decide) pq_712 hg20 rfl ?_
  refine pd_aload_n (i := 0) dX12_personLine_189 rfl rfl ?_
  refine pd_get (x := pd_I (F x0 13)) 13 dX12_personLine_190 (show vwCl[12]? = some (RX12, TX12, 52) from rfl) pin_12 (by decide) pq_713 hg20 rfl ?_
  refine pd_dup2 dX12_personLine_193 rfl rfl ?_
  obtain ⟨hg21, hf⟩ := pd_ig hf
  refine pd_iald dX12_personLine_194 hg21 ?_
  refine pd_iconst dX12_personLine_195 (by decide) ?_
  refine pd_iadd dX12_personLine_196 ?_
  refine pd_iast dX12_personLine_197 hg21 ?_
  refine pd_topF (fun F22 eF22 => ?_)
  have hf := pd_lt hf eF22
  clear eF22
  refine pd_iconst dX12_personLine_198 (by decide) ?_
  obtain ⟨h1, h2⟩ := pd_inj hf
  subst h1 h2
  exact pd_zret dX12_personLine_199 rfl (by decide) (Nat.le_refl 0) (Nat.le_refl 0)
set_option maxHeartbeats 4000000 in
set_option maxRecDepth 100000 in
theorem pkX12_personLine_b165 (E : pd_E) (l : Launch) {sh : pd_S} {n : Nat} {ρ : Int} {Fz : pd_F}  (F : pd_F) (x0 : Int) (x1 : Int) (hf : pfX12_personLine_b165 sh n  F x0 x1 = some (ρ, Fz)) : pd_V E l (pd_rm 10 0 0) (RX12, cX12_personLine, 2, (some .boolean), "personLine") (pd_Qm E false (some (pd_I ρ)) sh Fz 0 0) false 0 0 sh F 165 [pd_R x0, pd_I x1] [] := by
  unfold pfX12_personLine_b165 at hf
  refine pd_aload_n (i := 0) dX12_personLine_165 rfl rfl ?_
  refine pd_ldcS (k0 := 11) dX12_personLine_166 rfl ?_
  obtain ⟨hg25, hf⟩ := pd_ig hf
  obtain ⟨r24, F23, hr, hf⟩ := pd_ob2 hf
  refine pd_callV (pkX12_is l hr) dX12_personLine_168 pq_759 pq_762 pq_763 (show vwCl[12]? = some (yX12_is.cls, TX12, 52) from rfl) hg25 (pd_okm (by omega) (by decide) pq_760 pq_761 (by decide) (show (parseMethodDescriptor yX12_is.desc).map (fun d => d.parameters.length) = some 1 from by decide +kernel)) (Nat.le_of_ble_eq_true rfl) rfl ?_
  refine pd_if_eq (tgt := 185) dX12_personLine_171 (by decide) (fun hc => ?_) (fun hc => ?_)
  · have hf := pd_ip hf hc
    exact pd_weak (L' := [pd_R x0, pd_N]) ⟨Or.inr rfl, Or.inl rfl, trivial⟩ (pkX12_personLine_b185 E l _ _ hf)
  · have hf := pd_in_ hf hc
    refine pd_aload_n (i := 0) dX12_personLine_174 rfl rfl ?_
    refine pd_get (x := pd_R (F23 x0 22)) 22 dX12_personLine_175 (show vwCl[12]? = some (RX12, TX12, 52) from rfl) pin_12 (by decide) pq_825 hg25 rfl ?_
    refine pd_iload_n (i := 1) dX12_personLine_178 rfl rfl ?_
    refine pd_iconst dX12_personLine_179 (by decide) ?_
    obtain ⟨hg26, hf⟩ := pd_ig hf
    refine pd_zast (by decide) dX12_personLine_180 hg26 ?_
    refine pd_topF (fun F27 eF27 => ?_)
    have hf := pd_lt hf eF27
    clear eF27
    refine pd_aload_n (i := 0) dX12_personLine_181 rfl rfl ?_
    obtain ⟨F28, hr, hf⟩ := pd_ob1 hf
    refine pd_callV (pkX12_steps l hr) dX12_personLine_182 pq_769 pq_772 pq_773 (show vwCl[12]? = some (yX12_steps.cls, TX12, 52) from rfl) hg25 (pd_okm (by omega) (by decide) pq_770 pq_771 (by decide) (show (parseMethodDescriptor yX12_steps.desc).map (fun d => d.parameters.length) = some 0 from by decide +kernel)) (Nat.le_of_ble_eq_true rfl) rfl ?_
    exact pd_weak (L' := [pd_R x0, pd_N]) ⟨Or.inr rfl, Or.inl rfl, trivial⟩ (pkX12_personLine_b185 E l _ _ hf)
set_option maxHeartbeats 4000000 in
set_option maxRecDepth 100000 in
theorem pkX12_personLine_b51 (E : pd_E) (l : Launch) {sh : pd_S} {n : Nat} {ρ : Int} {Fz : pd_F}  : ∀ (k : Nat) (F : pd_F) (x0 : Int) (x1 : Int), pfX12_personLine_b51 sh n  k F x0 x1 = some (ρ, Fz) → pd_V E l (pd_rm 10 0 0) (RX12, cX12_personLine, 2, (some .boolean), "personLine") (pd_Qm E false (some (pd_I ρ)) sh Fz 0 0) false 0 0 sh F 51 [pd_R x0, pd_I x1] [] := by
  intro k
  induction k with
  | zero => intro F x0 x1 hf; exact absurd hf (by unfold pfX12_personLine_b51; exact fun h => nomatch h)
  | succ k ih =>
    intro F x0 x1 hf
    unfold pfX12_personLine_b51 at hf
    refine pd_aload_n (i := 0) dX12_personLine_51 rfl rfl ?_
    obtain ⟨hg29, hf⟩ := pd_ig hf
    refine pd_get (x := pd_I (F x0 6)) 6 dX12_personLine_52 (show vwCl[12]? = some (RX12, TX12, 52) from rfl) pin_12 (by decide) pq_730 hg29 rfl ?_
    refine pd_iconst dX12_personLine_55 (by decide) ?_
    refine pd_icmp_ne (tgt := 165) dX12_personLine_56 (by decide) (fun hc => ?_) (fun hc => ?_)
    · have hf := pd_ip hf hc
      exact pd_weak (L' := [pd_R x0, pd_I x1]) ⟨Or.inr rfl, Or.inr rfl, trivial⟩ (pkX12_personLine_b165 E l _ _ _ hf)
    · have hf := pd_iq hf hc
      refine pd_aload_n (i := 0) dX12_personLine_59 rfl rfl ?_
      refine pd_aload_n (i := 0) dX12_personLine_60 rfl rfl ?_
      refine pd_iload_n (i := 1) dX12_personLine_61 rfl rfl ?_
      refine pd_aload_n (i := 0) dX12_personLine_62 rfl rfl ?_
      refine pd_get (x := pd_I (F x0 7)) 7 dX12_personLine_63 (show vwCl[12]? = some (RX12, TX12, 52) from rfl) pin_12 (by decide) pq_742 hg29 rfl ?_
      obtain ⟨r31, F30, hr, hf⟩ := pd_ob2 hf
      refine pd_callV (pkX12_hasMark l hr) dX12_personLine_66 pq_826 pq_829 pq_830 (show vwCl[12]? = some (yX12_hasMark.cls, TX12, 52) from rfl) hg29 (pd_okm (by omega) (by decide) pq_827 pq_828 (by decide) (show (parseMethodDescriptor yX12_hasMark.desc).map (fun d => d.parameters.length) = some 2 from by decide +kernel)) (Nat.le_of_ble_eq_true rfl) rfl ?_
      refine pd_if_ne (tgt := 76) dX12_personLine_69 (by decide) (fun hc => ?_) (fun hc => ?_)
      · have hf := pd_ip hf hc
        refine pd_iconst dX12_personLine_76 (by decide) ?_
        exact pd_weak (L' := [pd_R x0, pd_I x1]) ⟨Or.inr rfl, Or.inr rfl, trivial⟩ (pkX12_personLine_b77 E l ih _ _ _ _ _ hf)
      · have hf := pd_iq hf hc
        refine pd_iconst dX12_personLine_72 (by decide) ?_
        refine pd_goto (tgt := 77) dX12_personLine_73 (by decide) ?_
        exact pd_weak (L' := [pd_R x0, pd_I x1]) ⟨Or.inr rfl, Or.inr rfl, trivial⟩ (pkX12_personLine_b77 E l ih _ _ _ _ _ hf)
set_option maxHeartbeats 4000000 in
set_option maxRecDepth 100000 in
theorem pkX12_personLine (l : Launch) {sh : pd_S} {n : Nat} {F : pd_F} {x0 : Int} {ρ : Int} {Fz : pd_F} (hf : pfX12_personLine sh n F x0 = some (ρ, Fz)) : pd_C l yX12_personLine (Cond.code yX12_personLine cX12_personLine 2 (some .boolean) :: pd_gt) (pd_rm 10 0 0) false 0 0 sh F [pd_R x0] (some (pd_I ρ)) sh Fz := by
  unfold pfX12_personLine at hf
  refine pd_body (L := [pd_R x0, pd_N]) (by decide +kernel) (Nat.le_of_ble_eq_true rfl) rfl (fun E => ?_)
  refine pd_aload_n (i := 0) dX12_personLine_0 rfl rfl ?_
  obtain ⟨hg34, hf⟩ := pd_ig hf
  obtain ⟨r33, F32, hr, hf⟩ := pd_ob2 hf
  refine pd_callV (pkX12_newName l hr) dX12_personLine_1 pq_831 pq_834 pq_835 (show vwCl[12]? = some (yX12_newName.cls, TX12, 52) from rfl) hg34 (pd_okm (by omega) (by decide) pq_832 pq_833 (by decide) (show (parseMethodDescriptor yX12_newName.desc).map (fun d => d.parameters.length) = some 0 from by decide +kernel)) (Nat.le_of_ble_eq_true rfl) rfl ?_
  refine pd_if_ne (tgt := 9) dX12_personLine_4 (by decide) (fun hc => ?_) (fun hc => ?_)
  · have hf := pd_ip hf hc
    refine pd_bipush dX12_personLine_9 (by decide) ?_
    refine pd_aload_n (i := 0) dX12_personLine_11 rfl rfl ?_
    refine pd_get (x := pd_I (F32 x0 13)) 13 dX12_personLine_12 (show vwCl[12]? = some (RX12, TX12, 52) from rfl) pin_12 (by decide) pq_713 hg34 rfl ?_
    refine pd_imul dX12_personLine_15 ?_
    refine pd_aload_n (i := 0) dX12_personLine_16 rfl rfl ?_
    refine pd_get (x := pd_R (F32 x0 14)) 14 dX12_personLine_17 (show vwCl[12]? = some (RX12, TX12, 52) from rfl) pin_12 (by decide) pq_712 hg34 rfl ?_
    refine pd_aload_n (i := 0) dX12_personLine_20 rfl rfl ?_
    refine pd_get (x := pd_I (F32 x0 13)) 13 dX12_personLine_21 (show vwCl[12]? = some (RX12, TX12, 52) from rfl) pin_12 (by decide) pq_713 hg34 rfl ?_
    obtain ⟨hg35, hf⟩ := pd_ig hf
    refine pd_iald dX12_personLine_24 hg35 ?_
    refine pd_iadd dX12_personLine_25 ?_
    refine pd_topI (fun x1_26 ex1_26 => ?_)
    have hf := pd_lt hf ex1_26
    clear ex1_26
    refine pd_istore_n (L' := [pd_R x0, pd_I x1_26]) dX12_personLine_26 rfl (by decide) rfl ?_
    refine pd_aload_n (i := 0) dX12_personLine_27 rfl rfl ?_
    refine pd_get (x := pd_R (F32 x0 19)) 19 dX12_personLine_28 (show vwCl[12]? = some (RX12, TX12, 52) from rfl) pin_12 (by decide) pq_714 hg34 rfl ?_
    refine pd_iload_n (i := 1) dX12_personLine_31 rfl rfl ?_
    refine pd_aload_n (i := 0) dX12_personLine_32 rfl rfl ?_
    refine pd_get (x := pd_J (F32 x0 38)) 38 dX12_personLine_33 (show vwCl[12]? = some (RX12, TX12, 52) from rfl) pin_12 (by decide) pq_788 hg34 rfl ?_
    obtain ⟨hg36, hf⟩ := pd_ig hf
    refine pd_last dX12_personLine_36 hg36 ?_
    refine pd_topF (fun F37 eF37 => ?_)
    have hf := pd_lt hf eF37
    clear eF37
    refine pd_aload_n (i := 0) dX12_personLine_37 rfl rfl ?_
    refine pd_get (x := pd_R (F37 x0 20)) 20 dX12_personLine_38 (show vwCl[12]? = some (RX12, TX12, 52) from rfl) pin_12 (by decide) pq_719 hg34 rfl ?_
    refine pd_iload_n (i := 1) dX12_personLine_41 rfl rfl ?_
    refine pd_iconst dX12_personLine_42 (by decide) ?_
    obtain ⟨hg38, hf⟩ := pd_ig hf
    refine pd_iast dX12_personLine_43 hg38 ?_
    refine pd_topF (fun F39 eF39 => ?_)
    have hf := pd_lt hf eF39
    clear eF39
    refine pd_aload_n (i := 0) dX12_personLine_44 rfl rfl ?_
    refine pd_get (x := pd_R (F39 x0 22)) 22 dX12_personLine_45 (show vwCl[12]? = some (RX12, TX12, 52) from rfl) pin_12 (by decide) pq_825 hg34 rfl ?_
    refine pd_iload_n (i := 1) dX12_personLine_48 rfl rfl ?_
    refine pd_iconst dX12_personLine_49 (by decide) ?_
    obtain ⟨hg40, hf⟩ := pd_ig hf
    refine pd_zast (by decide) dX12_personLine_50 hg40 ?_
    refine pd_topF (fun F41 eF41 => ?_)
    have hf := pd_lt hf eF41
    clear eF41
    exact pd_weak (L' := [pd_R x0, pd_I x1_26]) ⟨Or.inr rfl, Or.inr rfl, trivial⟩ (pkX12_personLine_b51 E l n _ _ _ hf)
  · have hf := pd_iq hf hc
    refine pd_iconst dX12_personLine_7 (by decide) ?_
    obtain ⟨h1, h2⟩ := pd_inj hf
    subst h1 h2
    exact pd_zret dX12_personLine_8 rfl (by decide) (Nat.le_refl 0) (Nat.le_refl 0)
set_option maxHeartbeats 4000000 in
set_option maxRecDepth 100000 in
theorem pkX12_trustLine (l : Launch) {sh : pd_S} {n : Nat} {F : pd_F} {x0 : Int} {ρ : Int} {Fz : pd_F} (hf : pfX12_trustLine sh n F x0 = some (ρ, Fz)) : pd_C l yX12_trustLine (Cond.code yX12_trustLine cX12_trustLine 4 (some .boolean) :: pd_gt) (pd_rm 10 0 0) false 0 0 sh F [pd_R x0] (some (pd_I ρ)) sh Fz := by
  unfold pfX12_trustLine at hf
  refine pd_body (L := [pd_R x0, pd_N, pd_N, pd_N]) (by decide +kernel) (Nat.le_of_ble_eq_true rfl) rfl (fun E => ?_)
  refine pd_aload_n (i := 0) dX12_trustLine_0 rfl rfl ?_
  obtain ⟨hg3, hf⟩ := pd_ig hf
  obtain ⟨r2, F1, hr, hf⟩ := pd_ob2 hf
  refine pd_callV (pkX12_newName l hr) dX12_trustLine_1 pq_831 pq_834 pq_835 (show vwCl[12]? = some (yX12_newName.cls, TX12, 52) from rfl) hg3 (pd_okm (by omega) (by decide) pq_832 pq_833 (by decide) (show (parseMethodDescriptor yX12_newName.desc).map (fun d => d.parameters.length) = some 0 from by decide +kernel)) (Nat.le_of_ble_eq_true rfl) rfl ?_
  refine pd_if_ne (tgt := 9) dX12_trustLine_4 (by decide) (fun hc => ?_) (fun hc => ?_)
  · have hf := pd_ip hf hc
    refine pd_aload_n (i := 0) dX12_trustLine_9 rfl rfl ?_
    refine pd_get (x := pd_R (F1 x0 15)) 15 dX12_trustLine_10 (show vwCl[12]? = some (RX12, TX12, 52) from rfl) pin_12 (by decide) pq_715 hg3 rfl ?_
    refine pd_aload_n (i := 0) dX12_trustLine_13 rfl rfl ?_
    refine pd_get (x := pd_I (F1 x0 13)) 13 dX12_trustLine_14 (show vwCl[12]? = some (RX12, TX12, 52) from rfl) pin_12 (by decide) pq_713 hg3 rfl ?_
    obtain ⟨hg4, hf⟩ := pd_ig hf
    refine pd_iald dX12_trustLine_17 hg4 ?_
    refine pd_topI (fun x1_18 ex1_18 => ?_)
    have hf := pd_lt hf ex1_18
    clear ex1_18
    refine pd_istore_n (L' := [pd_R x0, pd_I x1_18, pd_N, pd_N]) dX12_trustLine_18 rfl (by decide) rfl ?_
    refine pd_aload_n (i := 0) dX12_trustLine_19 rfl rfl ?_
    refine pd_get (x := pd_J (F1 x0 38)) 38 dX12_trustLine_20 (show vwCl[12]? = some (RX12, TX12, 52) from rfl) pin_12 (by decide) pq_788 hg3 rfl ?_
    refine pd_topJ (fun x2_23 ex2_23 => ?_)
    have hf := pd_lt hf ex2_23
    clear ex2_23
    refine pd_lstore_n (L' := [pd_R x0, pd_I x1_18, pd_J x2_23, pd_N]) dX12_trustLine_23 rfl (by decide) rfl ?_
    refine pd_aload_n (i := 0) dX12_trustLine_24 rfl rfl ?_
    refine pd_bipush dX12_trustLine_25 (by decide) ?_
    refine pd_aload_n (i := 0) dX12_trustLine_27 rfl rfl ?_
    refine pd_get (x := pd_I (F1 x0 13)) 13 dX12_trustLine_28 (show vwCl[12]? = some (RX12, TX12, 52) from rfl) pin_12 (by decide) pq_713 hg3 rfl ?_
    refine pd_imul dX12_trustLine_31 ?_
    refine pd_iload_n (i := 1) dX12_trustLine_32 rfl rfl ?_
    refine pd_iadd dX12_trustLine_33 ?_
    obtain ⟨r6, F5, hr, hf⟩ := pd_ob2 hf
    refine pd_callV (pkX12_partsHere l hr) dX12_trustLine_34 pq_836 pq_839 pq_840 (show vwCl[12]? = some (yX12_partsHere.cls, TX12, 52) from rfl) hg3 (pd_okm (by omega) (by decide) pq_837 pq_838 (by decide) (show (parseMethodDescriptor yX12_partsHere.desc).map (fun d => d.parameters.length) = some 1 from by decide +kernel)) (Nat.le_of_ble_eq_true rfl) rfl ?_
    refine pd_if_ne (tgt := 42) dX12_trustLine_37 (by decide) (fun hc => ?_) (fun hc => ?_)
    · have hf := pd_ip hf hc
      refine pd_aload_n (i := 0) dX12_trustLine_42 rfl rfl ?_
      refine pd_get (x := pd_R (F5 x0 23)) 23 dX12_trustLine_43 (show vwCl[12]? = some (RX12, TX12, 52) from rfl) pin_12 (by decide) pq_716 hg3 rfl ?_
      refine pd_iconst dX12_trustLine_46 (by decide) ?_
      refine pd_aload_n (i := 0) dX12_trustLine_47 rfl rfl ?_
      refine pd_get (x := pd_I (F5 x0 13)) 13 dX12_trustLine_48 (show vwCl[12]? = some (RX12, TX12, 52) from rfl) pin_12 (by decide) pq_713 hg3 rfl ?_
      refine pd_imul dX12_trustLine_51 ?_
      refine pd_iload_n (i := 1) dX12_trustLine_52 rfl rfl ?_
      refine pd_iadd dX12_trustLine_53 ?_
      refine pd_lload_n (i := 2) dX12_trustLine_54 rfl rfl ?_
      obtain ⟨hg7, hf⟩ := pd_ig hf
      refine pd_last dX12_trustLine_55 hg7 ?_
      refine pd_topF (fun F8 eF8 => ?_)
      have hf := pd_lt hf eF8
      clear eF8
      refine pd_aload_n (i := 0) dX12_trustLine_56 rfl rfl ?_
      refine pd_get (x := pd_R (F8 x0 15)) 15 dX12_trustLine_57 (show vwCl[12]? = some (RX12, TX12, 52) from rfl) pin_12 (by decide) pq_715 hg3 rfl ?_
      refine pd_aload_n (i := 0) dX12_trustLine_60 rfl rfl ?_
      refine pd_get (x := pd_I (F8 x0 13)) 13 dX12_trustLine_61 (show vwCl[12]? = some (RX12, TX12, 52) from rfl) pin_12 (by decide) pq_713 hg3 rfl ?_
      refine pd_dup2 dX12_trustLine_64 rfl rfl ?_
      obtain ⟨hg9, hf⟩ := pd_ig hf
      refine pd_iald dX12_trustLine_65 hg9 ?_
      refine pd_iconst dX12_trustLine_66 (by decide) ?_
      refine pd_iadd dX12_trustLine_67 ?_
      refine pd_iast dX12_trustLine_68 hg9 ?_
      refine pd_topF (fun F10 eF10 => ?_)
      have hf := pd_lt hf eF10
      clear eF10
      refine pd_iconst dX12_trustLine_69 (by decide) ?_
      obtain ⟨h1, h2⟩ := pd_inj hf
      subst h1 h2
      exact pd_zret dX12_trustLine_70 rfl (by decide) (Nat.le_refl 0) (Nat.le_refl 0)
    · have hf := pd_iq hf hc
      refine pd_iconst dX12_trustLine_40 (by decide) ?_
      obtain ⟨h1, h2⟩ := pd_inj hf
      subst h1 h2
      exact pd_zret dX12_trustLine_41 rfl (by decide) (Nat.le_refl 0) (Nat.le_refl 0)
  · have hf := pd_iq hf hc
    refine pd_iconst dX12_trustLine_7 (by decide) ?_
    obtain ⟨h1, h2⟩ := pd_inj hf
    subst h1 h2
    exact pd_zret dX12_trustLine_8 rfl (by decide) (Nat.le_refl 0) (Nat.le_refl 0)
set_option maxHeartbeats 4000000 in
set_option maxRecDepth 100000 in
theorem pkX12_accountLine_b102 (E : pd_E) (l : Launch) {sh : pd_S} {n : Nat} {ρ : Int} {Fz : pd_F}  (F : pd_F) (x0 : Int) (x1 : Int) (x2 : Int) (t0 : Int) (t1 : Int) (hf : pfX12_accountLine_b102 sh n  F x0 x1 x2 t0 t1 = some (ρ, Fz)) : pd_V E l (pd_rm 10 0 0) (RX12, cX12_accountLine, 5, (some .boolean), "accountLine") (pd_Qm E false (some (pd_I ρ)) sh Fz 0 0) false 0 0 sh F 102 [pd_R x0, pd_I x1, pd_J x2, pd_N, pd_N] [pd_I t0, pd_R t1] := by
  unfold pfX12_accountLine_b102 at hf
  refine pd_iconst dX12_accountLine_102 (by decide) ?_
  obtain ⟨hg3, hf⟩ := pd_ig hf
  obtain ⟨r2, F1, hr, hf⟩ := pd_ob2 hf
  refine pd_callV (pkX12_must l hr) dX12_accountLine_103 pq_764 pq_767 pq_768 (show vwCl[12]? = some (yX12_must.cls, TX12, 52) from rfl) hg3 (pd_okm (by omega) (by decide) pq_765 pq_766 (by decide) (show (parseMethodDescriptor yX12_must.desc).map (fun d => d.parameters.length) = some 2 from by decide +kernel)) (Nat.le_of_ble_eq_true rfl) rfl ?_
  refine pd_if_ne (tgt := 111) dX12_accountLine_106 (by decide) (fun hc => ?_) (fun hc => ?_)
  · have hf := pd_ip hf hc
    refine pd_aload_n (i := 0) dX12_accountLine_111 rfl rfl ?_
    obtain ⟨hg4, hf⟩ := pd_ig hf
    refine pd_get (x := pd_R (F1 x0 24)) 24 dX12_accountLine_112 (show vwCl[12]? = some (RX12, TX12, 52) from rfl) pin_12 (by decide) pq_718 hg4 rfl ?_
    refine pd_bipush dX12_accountLine_115 (by decide) ?_
    refine pd_aload_n (i := 0) dX12_accountLine_117 rfl rfl ?_
    refine pd_get (x := pd_I (F1 x0 13)) 13 dX12_accountLine_118 (show vwCl[12]? = some (RX12, TX12, 52) from rfl) pin_12 (by decide) pq_713 hg4 rfl ?_
    refine pd_imul dX12_accountLine_121 ?_
    refine pd_iload_n (i := 1) dX12_accountLine_122 rfl rfl ?_
    refine pd_iadd dX12_accountLine_123 ?_
    refine pd_lload_n (i := 2) dX12_accountLine_124 rfl rfl ?_
    obtain ⟨hg5, hf⟩ := pd_ig hf
    refine pd_last dX12_accountLine_125 hg5 ?_
    refine pd_topF (fun F6 eF6 => ?_)
    have hf := pd_lt hf eF6
    clear eF6
    refine pd_aload_n (i := 0) dX12_accountLine_126 rfl rfl ?_
    refine pd_get (x := pd_R (F6 x0 16)) 16 dX12_accountLine_127 (show vwCl[12]? = some (RX12, TX12, 52) from rfl) pin_12 (by decide) pq_717 hg4 rfl ?_
    refine pd_aload_n (i := 0) dX12_accountLine_130 rfl rfl ?_
    refine pd_get (x := pd_I (F6 x0 13)) 13 dX12_accountLine_131 (show vwCl[12]? = some (RX12, TX12, 52) from rfl) pin_12 (by decide) pq_713 hg4 rfl ?_
    refine pd_dup2 dX12_accountLine_134 rfl rfl ?_
    obtain ⟨hg7, hf⟩ := pd_ig hf
    refine pd_iald dX12_accountLine_135 hg7 ?_
    refine pd_iconst dX12_accountLine_136 (by decide) ?_
    refine pd_iadd dX12_accountLine_137 ?_
    refine pd_iast dX12_accountLine_138 hg7 ?_
    refine pd_topF (fun F8 eF8 => ?_)
    have hf := pd_lt hf eF8
    clear eF8
    refine pd_iconst dX12_accountLine_139 (by decide) ?_
    obtain ⟨h1, h2⟩ := pd_inj hf
    subst h1 h2
    exact pd_zret dX12_accountLine_140 rfl (by decide) (Nat.le_refl 0) (Nat.le_refl 0)
  · have hf := pd_iq hf hc
    refine pd_iconst dX12_accountLine_109 (by decide) ?_
    obtain ⟨h1, h2⟩ := pd_inj hf
    subst h1 h2
    exact pd_zret dX12_accountLine_110 rfl (by decide) (Nat.le_refl 0) (Nat.le_refl 0)
set_option maxHeartbeats 4000000 in
set_option maxRecDepth 100000 in
theorem pkX12_accountLine (l : Launch) {sh : pd_S} {n : Nat} {F : pd_F} {x0 : Int} {ρ : Int} {Fz : pd_F} (hf : pfX12_accountLine sh n F x0 = some (ρ, Fz)) : pd_C l yX12_accountLine (Cond.code yX12_accountLine cX12_accountLine 5 (some .boolean) :: pd_gt) (pd_rm 10 0 0) false 0 0 sh F [pd_R x0] (some (pd_I ρ)) sh Fz := by
  unfold pfX12_accountLine at hf
  refine pd_body (L := [pd_R x0, pd_N, pd_N, pd_N, pd_N]) (by decide +kernel) (Nat.le_of_ble_eq_true rfl) rfl (fun E => ?_)
  refine pd_aload_n (i := 0) dX12_accountLine_0 rfl rfl ?_
  obtain ⟨hg11, hf⟩ := pd_ig hf
  obtain ⟨r10, F9, hr, hf⟩ := pd_ob2 hf
  refine pd_callV (pkX12_newName l hr) dX12_accountLine_1 pq_831 pq_834 pq_835 (show vwCl[12]? = some (yX12_newName.cls, TX12, 52) from rfl) hg11 (pd_okm (by omega) (by decide) pq_832 pq_833 (by decide) (show (parseMethodDescriptor yX12_newName.desc).map (fun d => d.parameters.length) = some 0 from by decide +kernel)) (Nat.le_of_ble_eq_true rfl) rfl ?_
  refine pd_if_ne (tgt := 9) dX12_accountLine_4 (by decide) (fun hc => ?_) (fun hc => ?_)
  · have hf := pd_ip hf hc
    refine pd_aload_n (i := 0) dX12_accountLine_9 rfl rfl ?_
    refine pd_get (x := pd_R (F9 x0 16)) 16 dX12_accountLine_10 (show vwCl[12]? = some (RX12, TX12, 52) from rfl) pin_12 (by decide) pq_717 hg11 rfl ?_
    refine pd_aload_n (i := 0) dX12_accountLine_13 rfl rfl ?_
    refine pd_get (x := pd_I (F9 x0 13)) 13 dX12_accountLine_14 (show vwCl[12]? = some (RX12, TX12, 52) from rfl) pin_12 (by decide) pq_713 hg11 rfl ?_
    obtain ⟨hg12, hf⟩ := pd_ig hf
    refine pd_iald dX12_accountLine_17 hg12 ?_
    refine pd_topI (fun x1_18 ex1_18 => ?_)
    have hf := pd_lt hf ex1_18
    clear ex1_18
    refine pd_istore_n (L' := [pd_R x0, pd_I x1_18, pd_N, pd_N, pd_N]) dX12_accountLine_18 rfl (by decide) rfl ?_
    refine pd_aload_n (i := 0) dX12_accountLine_19 rfl rfl ?_
    refine pd_get (x := pd_J (F9 x0 38)) 38 dX12_accountLine_20 (show vwCl[12]? = some (RX12, TX12, 52) from rfl) pin_12 (by decide) pq_788 hg11 rfl ?_
    refine pd_topJ (fun x2_23 ex2_23 => ?_)
    have hf := pd_lt hf ex2_23
    clear ex2_23
    refine pd_lstore_n (L' := [pd_R x0, pd_I x1_18, pd_J x2_23, pd_N, pd_N]) dX12_accountLine_23 rfl (by decide) rfl ?_
    refine pd_aload_n (i := 0) dX12_accountLine_24 rfl rfl ?_
    refine pd_ldcS (k0 := 12) dX12_accountLine_25 rfl ?_
    obtain ⟨r14, F13, hr, hf⟩ := pd_ob2 hf
    refine pd_callV (pkX12_takes l hr) dX12_accountLine_27 pq_813 pq_816 pq_817 (show vwCl[12]? = some (yX12_takes.cls, TX12, 52) from rfl) hg11 (pd_okm (by omega) (by decide) pq_814 pq_815 (by decide) (show (parseMethodDescriptor yX12_takes.desc).map (fun d => d.parameters.length) = some 1 from by decide +kernel)) (Nat.le_of_ble_eq_true rfl) rfl ?_
    refine pd_if_eq (tgt := 44) dX12_accountLine_30 (by decide) (fun hc => ?_) (fun hc => ?_)
    · have hf := pd_ip hf hc
      refine pd_iconst dX12_accountLine_44 (by decide) ?_
      obtain ⟨h1, h2⟩ := pd_inj hf
      subst h1 h2
      exact pd_zret dX12_accountLine_45 rfl (by decide) (Nat.le_refl 0) (Nat.le_refl 0)
    · have hf := pd_in_ hf hc
      refine pd_aload_n (i := 0) dX12_accountLine_33 rfl rfl ?_
      refine pd_iconst dX12_accountLine_34 (by decide) ?_
      refine pd_ldcw (x := 9999999) dX12_accountLine_35 pq_787 (by decide +kernel) ?_
      obtain ⟨r16, F15, hr, hf⟩ := pd_ob2 hf
      refine pd_callV (pkX12_takesNumber l hr) dX12_accountLine_38 pq_780 pq_783 pq_784 (show vwCl[12]? = some (yX12_takesNumber.cls, TX12, 52) from rfl) hg11 (pd_okm (by omega) (by decide) pq_781 pq_782 (by decide) (show (parseMethodDescriptor yX12_takesNumber.desc).map (fun d => d.parameters.length) = some 2 from by decide +kernel)) (Nat.le_of_ble_eq_true rfl) rfl ?_
      refine pd_if_ne (tgt := 46) dX12_accountLine_41 (by decide) (fun hc => ?_) (fun hc => ?_)
      · have hf := pd_ip hf hc
        refine pd_aload_n (i := 0) dX12_accountLine_46 rfl rfl ?_
        refine pd_get (x := pd_R (F15 x0 25)) 25 dX12_accountLine_47 (show vwCl[12]? = some (RX12, TX12, 52) from rfl) pin_12 (by decide) pq_841 hg11 rfl ?_
        refine pd_bipush dX12_accountLine_50 (by decide) ?_
        refine pd_aload_n (i := 0) dX12_accountLine_52 rfl rfl ?_
        refine pd_get (x := pd_I (F15 x0 13)) 13 dX12_accountLine_53 (show vwCl[12]? = some (RX12, TX12, 52) from rfl) pin_12 (by decide) pq_713 hg11 rfl ?_
        refine pd_imul dX12_accountLine_56 ?_
        refine pd_iload_n (i := 1) dX12_accountLine_57 rfl rfl ?_
        refine pd_iadd dX12_accountLine_58 ?_
        refine pd_aload_n (i := 0) dX12_accountLine_59 rfl rfl ?_
        refine pd_get (x := pd_I (F15 x0 11)) 11 dX12_accountLine_60 (show vwCl[12]? = some (RX12, TX12, 52) from rfl) pin_12 (by decide) pq_774 hg11 rfl ?_
        obtain ⟨hg17, hf⟩ := pd_ig hf
        refine pd_iast dX12_accountLine_63 hg17 ?_
        refine pd_topF (fun F18 eF18 => ?_)
        have hf := pd_lt hf eF18
        clear eF18
        refine pd_bipush dX12_accountLine_64 (by decide) ?_
        refine pd_aload_n (i := 0) dX12_accountLine_66 rfl rfl ?_
        refine pd_get (x := pd_I (F18 x0 13)) 13 dX12_accountLine_67 (show vwCl[12]? = some (RX12, TX12, 52) from rfl) pin_12 (by decide) pq_713 hg11 rfl ?_
        refine pd_imul dX12_accountLine_70 ?_
        refine pd_iconst dX12_accountLine_71 (by decide) ?_
        refine pd_iadd dX12_accountLine_72 ?_
        refine pd_iload_n (i := 1) dX12_accountLine_73 rfl rfl ?_
        refine pd_iadd dX12_accountLine_74 ?_
        refine pd_topI (fun x4_75 ex4_75 => ?_)
        have hf := pd_lt hf ex4_75
        clear ex4_75
        refine pd_istore (L' := [pd_R x0, pd_I x1_18, pd_J x2_23, pd_N, pd_I x4_75]) dX12_accountLine_75 (by decide) rfl ?_
        refine pd_aload_n (i := 0) dX12_accountLine_77 rfl rfl ?_
        refine pd_iload (i := 4) dX12_accountLine_78 rfl ?_
        obtain ⟨r20, F19, hr, hf⟩ := pd_ob2 hf
        refine pd_callV (pkX12_partsHere l hr) dX12_accountLine_80 pq_836 pq_839 pq_840 (show vwCl[12]? = some (yX12_partsHere.cls, TX12, 52) from rfl) hg11 (pd_okm (by omega) (by decide) pq_837 pq_838 (by decide) (show (parseMethodDescriptor yX12_partsHere.desc).map (fun d => d.parameters.length) = some 1 from by decide +kernel)) (Nat.le_of_ble_eq_true rfl) rfl ?_
        refine pd_if_eq (tgt := 109) dX12_accountLine_83 (by decide) (fun hc => ?_) (fun hc => ?_)
        · have hf := pd_ip hf hc
          refine pd_iconst dX12_accountLine_109 (by decide) ?_
          obtain ⟨h1, h2⟩ := pd_inj hf
          subst h1 h2
          exact pd_zret dX12_accountLine_110 rfl (by decide) (Nat.le_refl 0) (Nat.le_refl 0)
        · have hf := pd_in_ hf hc
          refine pd_aload_n (i := 0) dX12_accountLine_86 rfl rfl ?_
          refine pd_aload_n (i := 0) dX12_accountLine_87 rfl rfl ?_
          refine pd_get (x := pd_R (F19 x0 26)) 26 dX12_accountLine_88 (show vwCl[12]? = some (RX12, TX12, 52) from rfl) pin_12 (by decide) pq_721 hg11 rfl ?_
          refine pd_iload (i := 4) dX12_accountLine_91 rfl ?_
          obtain ⟨hg21, hf⟩ := pd_ig hf
          refine pd_iald dX12_accountLine_93 hg21 ?_
          refine pd_if_le (tgt := 101) dX12_accountLine_94 (by decide) (fun hc => ?_) (fun hc => ?_)
          · have hf := pd_ip hf hc
            refine pd_iconst dX12_accountLine_101 (by decide) ?_
            exact pd_weak (L' := [pd_R x0, pd_I x1_18, pd_J x2_23, pd_N, pd_N]) ⟨Or.inr rfl, Or.inr rfl, Or.inr rfl, Or.inr rfl, Or.inl rfl, trivial⟩ (pkX12_accountLine_b102 E l _ _ _ _ _ _ hf)
          · have hf := pd_in_ hf hc
            refine pd_iconst dX12_accountLine_97 (by decide) ?_
            refine pd_goto (tgt := 102) dX12_accountLine_98 (by decide) ?_
            exact pd_weak (L' := [pd_R x0, pd_I x1_18, pd_J x2_23, pd_N, pd_N]) ⟨Or.inr rfl, Or.inr rfl, Or.inr rfl, Or.inr rfl, Or.inl rfl, trivial⟩ (pkX12_accountLine_b102 E l _ _ _ _ _ _ hf)
      · have hf := pd_iq hf hc
        refine pd_iconst dX12_accountLine_44 (by decide) ?_
        obtain ⟨h1, h2⟩ := pd_inj hf
        subst h1 h2
        exact pd_zret dX12_accountLine_45 rfl (by decide) (Nat.le_refl 0) (Nat.le_refl 0)
  · have hf := pd_iq hf hc
    refine pd_iconst dX12_accountLine_7 (by decide) ?_
    obtain ⟨h1, h2⟩ := pd_inj hf
    subst h1 h2
    exact pd_zret dX12_accountLine_8 rfl (by decide) (Nat.le_refl 0) (Nat.le_refl 0)
set_option maxHeartbeats 4000000 in
set_option maxRecDepth 100000 in
theorem pkX12_named_b125 (E : pd_E) (l : Launch) {sh : pd_S} {n : Nat} {ρ : Int} {Fz : pd_F}  (F : pd_F) (x0 : Int) (x1 : Int) (t0 : Int) (hf : pfX12_named_b125 sh n  F x0 x1 t0 = some (ρ, Fz)) : pd_V E l (pd_rm 11 0 0) (RX12, cX12_named, 3, (some .boolean), "named") (pd_Qm E false (some (pd_I ρ)) sh Fz 0 0) false 0 0 sh F 125 [pd_R x0, pd_I x1, pd_N] [pd_I t0] := by
  unfold pfX12_named_b125 at hf
  refine pd_istore_n (L' := [pd_R x0, pd_I x1, pd_I t0]) dX12_named_125 rfl (by decide) rfl ?_
  refine pd_aload_n (i := 0) dX12_named_126 rfl rfl ?_
  refine pd_iload_n (i := 2) dX12_named_127 rfl rfl ?_
  refine pd_iconst dX12_named_128 (by decide) ?_
  obtain ⟨hg3, hf⟩ := pd_ig hf
  obtain ⟨r2, F1, hr, hf⟩ := pd_ob2 hf
  refine pd_callV (pkX12_must l hr) dX12_named_129 pq_764 pq_767 pq_768 (show vwCl[12]? = some (yX12_must.cls, TX12, 52) from rfl) hg3 (pd_okm (by omega) (by decide) pq_765 pq_766 (by decide) (show (parseMethodDescriptor yX12_must.desc).map (fun d => d.parameters.length) = some 2 from by decide +kernel)) (Nat.le_of_ble_eq_true rfl) rfl ?_
  refine pd_if_ne (tgt := 137) dX12_named_132 (by decide) (fun hc => ?_) (fun hc => ?_)
  · have hf := pd_ip hf hc
    refine pd_aload_n (i := 0) dX12_named_137 rfl rfl ?_
    obtain ⟨F4, hr, hf⟩ := pd_ob1 hf
    refine pd_callV (pkX12_steps l hr) dX12_named_138 pq_769 pq_772 pq_773 (show vwCl[12]? = some (yX12_steps.cls, TX12, 52) from rfl) hg3 (pd_okm (by omega) (by decide) pq_770 pq_771 (by decide) (show (parseMethodDescriptor yX12_steps.desc).map (fun d => d.parameters.length) = some 0 from by decide +kernel)) (Nat.le_of_ble_eq_true rfl) rfl ?_
    refine pd_iload_n (i := 1) dX12_named_141 rfl rfl ?_
    by_cases hv0 : x1 = 0
    · have hf := pd_ip hf hv0
      refine pd_tabE (v := 0) (off := 30) (tgt := 172) dX12_named_142 hv0 (by decide) (by decide) (by decide) (by decide) ?_
      refine pd_aload_n (i := 0) dX12_named_172 rfl rfl ?_
      obtain ⟨r6, F5, hr, hf⟩ := pd_ob2 hf
      refine pd_callV (pkX12_personLine l hr) dX12_named_173 pq_842 pq_845 pq_846 (show vwCl[12]? = some (yX12_personLine.cls, TX12, 52) from rfl) hg3 (pd_okm (by omega) (by decide) pq_843 pq_844 (by decide) (show (parseMethodDescriptor yX12_personLine.desc).map (fun d => d.parameters.length) = some 0 from by decide +kernel)) (Nat.le_of_ble_eq_true rfl) rfl ?_
      obtain ⟨hg7, hf⟩ := pd_ig hf
      obtain ⟨h1, h2⟩ := pd_inj hf
      subst h1 h2
      exact pd_zret dX12_named_176 rfl hg7 (Nat.le_refl 0) (Nat.le_refl 0)
    · have hf := pd_in_ hf hv0
      by_cases hv1 : x1 = 1
      · have hf := pd_ip hf hv1
        refine pd_tabE (v := 1) (off := 35) (tgt := 177) dX12_named_142 hv1 (by decide) (by decide) (by decide) (by decide) ?_
        refine pd_aload_n (i := 0) dX12_named_177 rfl rfl ?_
        obtain ⟨r9, F8, hr, hf⟩ := pd_ob2 hf
        refine pd_callV (pkX12_trustLine l hr) dX12_named_178 pq_847 pq_850 pq_851 (show vwCl[12]? = some (yX12_trustLine.cls, TX12, 52) from rfl) hg3 (pd_okm (by omega) (by decide) pq_848 pq_849 (by decide) (show (parseMethodDescriptor yX12_trustLine.desc).map (fun d => d.parameters.length) = some 0 from by decide +kernel)) (Nat.le_of_ble_eq_true rfl) rfl ?_
        obtain ⟨hg10, hf⟩ := pd_ig hf
        obtain ⟨h1, h2⟩ := pd_inj hf
        subst h1 h2
        exact pd_zret dX12_named_181 rfl hg10 (Nat.le_refl 0) (Nat.le_refl 0)
      · have hf := pd_in_ hf hv1
        by_cases hv2 : x1 = 2
        · have hf := pd_ip hf hv2
          refine pd_tabE (v := 2) (off := 40) (tgt := 182) dX12_named_142 hv2 (by decide) (by decide) (by decide) (by decide) ?_
          refine pd_aload_n (i := 0) dX12_named_182 rfl rfl ?_
          obtain ⟨r12, F11, hr, hf⟩ := pd_ob2 hf
          refine pd_callV (pkX12_accountLine l hr) dX12_named_183 pq_852 pq_855 pq_856 (show vwCl[12]? = some (yX12_accountLine.cls, TX12, 52) from rfl) hg3 (pd_okm (by omega) (by decide) pq_853 pq_854 (by decide) (show (parseMethodDescriptor yX12_accountLine.desc).map (fun d => d.parameters.length) = some 0 from by decide +kernel)) (Nat.le_of_ble_eq_true rfl) rfl ?_
          obtain ⟨hg13, hf⟩ := pd_ig hf
          obtain ⟨h1, h2⟩ := pd_inj hf
          subst h1 h2
          exact pd_zret dX12_named_186 rfl hg13 (Nat.le_refl 0) (Nat.le_refl 0)
        · have hf := pd_in_ hf hv2
          by_cases hv3 : x1 = 3
          · have hf := pd_ip hf hv3
            refine pd_tabE (v := 3) (off := 45) (tgt := 187) dX12_named_142 hv3 (by decide) (by decide) (by decide) (by decide) ?_
            refine pd_aload_n (i := 0) dX12_named_187 rfl rfl ?_
            obtain ⟨r15, F14, hr, hf⟩ := pd_ob2 hf
            refine pd_callV (pkX12_highLine l hr) dX12_named_188 pq_857 pq_860 pq_861 (show vwCl[12]? = some (yX12_highLine.cls, TX12, 52) from rfl) hg3 (pd_okm (by omega) (by decide) pq_858 pq_859 (by decide) (show (parseMethodDescriptor yX12_highLine.desc).map (fun d => d.parameters.length) = some 0 from by decide +kernel)) (Nat.le_of_ble_eq_true rfl) rfl ?_
            obtain ⟨hg16, hf⟩ := pd_ig hf
            obtain ⟨h1, h2⟩ := pd_inj hf
            subst h1 h2
            exact pd_zret dX12_named_191 rfl hg16 (Nat.le_refl 0) (Nat.le_refl 0)
          · have hf := pd_in_ hf hv3
            refine pd_tabO (tgt := 192) dX12_named_142 (by omega) (by decide) ?_
            refine pd_aload_n (i := 0) dX12_named_192 rfl rfl ?_
            obtain ⟨r18, F17, hr, hf⟩ := pd_ob2 hf
            refine pd_callV (pkX12_loanLine l hr) dX12_named_193 pq_862 pq_865 pq_866 (show vwCl[12]? = some (yX12_loanLine.cls, TX12, 52) from rfl) hg3 (pd_okm (by omega) (by decide) pq_863 pq_864 (by decide) (show (parseMethodDescriptor yX12_loanLine.desc).map (fun d => d.parameters.length) = some 0 from by decide +kernel)) (Nat.le_of_ble_eq_true rfl) rfl ?_
            obtain ⟨hg19, hf⟩ := pd_ig hf
            obtain ⟨h1, h2⟩ := pd_inj hf
            subst h1 h2
            exact pd_zret dX12_named_196 rfl hg19 (Nat.le_refl 0) (Nat.le_refl 0)
  · have hf := pd_iq hf hc
    refine pd_iconst dX12_named_135 (by decide) ?_
    obtain ⟨h1, h2⟩ := pd_inj hf
    subst h1 h2
    exact pd_zret dX12_named_136 rfl (by decide) (Nat.le_refl 0) (Nat.le_refl 0)
set_option maxHeartbeats 4000000 in
set_option maxRecDepth 100000 in
theorem pkX12_named (l : Launch) {sh : pd_S} {n : Nat} {F : pd_F} {x0 : Int} {x1 : Int} {ρ : Int} {Fz : pd_F} (hf : pfX12_named sh n F x0 x1 = some (ρ, Fz)) : pd_C l yX12_named (Cond.code yX12_named cX12_named 3 (some .boolean) :: pd_gt) (pd_rm 11 0 0) false 0 0 sh F [pd_R x0, pd_I x1] (some (pd_I ρ)) sh Fz := by
  unfold pfX12_named at hf
  refine pd_body (L := [pd_R x0, pd_I x1, pd_N]) (by decide +kernel) (Nat.le_of_ble_eq_true rfl) rfl (fun E => ?_)
  refine pd_iload_n (i := 1) dX12_named_0 rfl rfl ?_
  refine pd_if_ne (tgt := 26) dX12_named_1 (by decide) (fun hc => ?_) (fun hc => ?_)
  · have hf := pd_ip hf hc
    refine pd_iload_n (i := 1) dX12_named_26 rfl rfl ?_
    refine pd_iconst dX12_named_27 (by decide) ?_
    refine pd_icmp_ne (tgt := 52) dX12_named_28 (by decide) (fun hc => ?_) (fun hc => ?_)
    · have hf := pd_ip hf hc
      refine pd_iload_n (i := 1) dX12_named_52 rfl rfl ?_
      refine pd_iconst dX12_named_53 (by decide) ?_
      refine pd_icmp_ne (tgt := 79) dX12_named_54 (by decide) (fun hc => ?_) (fun hc => ?_)
      · have hf := pd_ip hf hc
        refine pd_iload_n (i := 1) dX12_named_79 rfl rfl ?_
        refine pd_iconst dX12_named_80 (by decide) ?_
        refine pd_icmp_ne (tgt := 106) dX12_named_81 (by decide) (fun hc => ?_) (fun hc => ?_)
        · have hf := pd_ip hf hc
          refine pd_aload_n (i := 0) dX12_named_106 rfl rfl ?_
          obtain ⟨hg20, hf⟩ := pd_ig hf
          refine pd_get (x := pd_R (F x0 18)) 18 dX12_named_107 (show vwCl[12]? = some (RX12, TX12, 52) from rfl) pin_12 (by decide) pq_820 hg20 rfl ?_
          refine pd_aload_n (i := 0) dX12_named_110 rfl rfl ?_
          refine pd_get (x := pd_I (F x0 13)) 13 dX12_named_111 (show vwCl[12]? = some (RX12, TX12, 52) from rfl) pin_12 (by decide) pq_713 hg20 rfl ?_
          obtain ⟨hg21, hf⟩ := pd_ig hf
          refine pd_iald dX12_named_114 hg21 ?_
          refine pd_bipush dX12_named_115 (by decide) ?_
          refine pd_icmp_ge (tgt := 124) dX12_named_117 (by decide) (fun hc => ?_) (fun hc => ?_)
          · have hf := pd_ip hf hc
            refine pd_iconst dX12_named_124 (by decide) ?_
            exact pd_weak (L' := [pd_R x0, pd_I x1, pd_N]) ⟨Or.inr rfl, Or.inr rfl, Or.inr rfl, trivial⟩ (pkX12_named_b125 E l _ _ _ _ hf)
          · have hf := pd_in_ hf hc
            refine pd_iconst dX12_named_120 (by decide) ?_
            refine pd_goto (tgt := 125) dX12_named_121 (by decide) ?_
            exact pd_weak (L' := [pd_R x0, pd_I x1, pd_N]) ⟨Or.inr rfl, Or.inr rfl, Or.inr rfl, trivial⟩ (pkX12_named_b125 E l _ _ _ _ hf)
        · have hf := pd_iq hf hc
          refine pd_aload_n (i := 0) dX12_named_84 rfl rfl ?_
          obtain ⟨hg22, hf⟩ := pd_ig hf
          refine pd_get (x := pd_R (F x0 17)) 17 dX12_named_85 (show vwCl[12]? = some (RX12, TX12, 52) from rfl) pin_12 (by decide) pq_810 hg22 rfl ?_
          refine pd_aload_n (i := 0) dX12_named_88 rfl rfl ?_
          refine pd_get (x := pd_I (F x0 13)) 13 dX12_named_89 (show vwCl[12]? = some (RX12, TX12, 52) from rfl) pin_12 (by decide) pq_713 hg22 rfl ?_
          obtain ⟨hg23, hf⟩ := pd_ig hf
          refine pd_iald dX12_named_92 hg23 ?_
          refine pd_bipush dX12_named_93 (by decide) ?_
          refine pd_icmp_ge (tgt := 102) dX12_named_95 (by decide) (fun hc => ?_) (fun hc => ?_)
          · have hf := pd_ip hf hc
            refine pd_iconst dX12_named_102 (by decide) ?_
            refine pd_goto (tgt := 125) dX12_named_103 (by decide) ?_
            exact pd_weak (L' := [pd_R x0, pd_I x1, pd_N]) ⟨Or.inr rfl, Or.inr rfl, Or.inr rfl, trivial⟩ (pkX12_named_b125 E l _ _ _ _ hf)
          · have hf := pd_in_ hf hc
            refine pd_iconst dX12_named_98 (by decide) ?_
            refine pd_goto (tgt := 125) dX12_named_99 (by decide) ?_
            exact pd_weak (L' := [pd_R x0, pd_I x1, pd_N]) ⟨Or.inr rfl, Or.inr rfl, Or.inr rfl, trivial⟩ (pkX12_named_b125 E l _ _ _ _ hf)
      · have hf := pd_iq hf hc
        refine pd_aload_n (i := 0) dX12_named_57 rfl rfl ?_
        obtain ⟨hg24, hf⟩ := pd_ig hf
        refine pd_get (x := pd_R (F x0 16)) 16 dX12_named_58 (show vwCl[12]? = some (RX12, TX12, 52) from rfl) pin_12 (by decide) pq_717 hg24 rfl ?_
        refine pd_aload_n (i := 0) dX12_named_61 rfl rfl ?_
        refine pd_get (x := pd_I (F x0 13)) 13 dX12_named_62 (show vwCl[12]? = some (RX12, TX12, 52) from rfl) pin_12 (by decide) pq_713 hg24 rfl ?_
        obtain ⟨hg25, hf⟩ := pd_ig hf
        refine pd_iald dX12_named_65 hg25 ?_
        refine pd_bipush dX12_named_66 (by decide) ?_
        refine pd_icmp_ge (tgt := 75) dX12_named_68 (by decide) (fun hc => ?_) (fun hc => ?_)
        · have hf := pd_ip hf hc
          refine pd_iconst dX12_named_75 (by decide) ?_
          refine pd_goto (tgt := 125) dX12_named_76 (by decide) ?_
          exact pd_weak (L' := [pd_R x0, pd_I x1, pd_N]) ⟨Or.inr rfl, Or.inr rfl, Or.inr rfl, trivial⟩ (pkX12_named_b125 E l _ _ _ _ hf)
        · have hf := pd_in_ hf hc
          refine pd_iconst dX12_named_71 (by decide) ?_
          refine pd_goto (tgt := 125) dX12_named_72 (by decide) ?_
          exact pd_weak (L' := [pd_R x0, pd_I x1, pd_N]) ⟨Or.inr rfl, Or.inr rfl, Or.inr rfl, trivial⟩ (pkX12_named_b125 E l _ _ _ _ hf)
    · have hf := pd_iq hf hc
      refine pd_aload_n (i := 0) dX12_named_31 rfl rfl ?_
      obtain ⟨hg26, hf⟩ := pd_ig hf
      refine pd_get (x := pd_R (F x0 15)) 15 dX12_named_32 (show vwCl[12]? = some (RX12, TX12, 52) from rfl) pin_12 (by decide) pq_715 hg26 rfl ?_
      refine pd_aload_n (i := 0) dX12_named_35 rfl rfl ?_
      refine pd_get (x := pd_I (F x0 13)) 13 dX12_named_36 (show vwCl[12]? = some (RX12, TX12, 52) from rfl) pin_12 (by decide) pq_713 hg26 rfl ?_
      obtain ⟨hg27, hf⟩ := pd_ig hf
      refine pd_iald dX12_named_39 hg27 ?_
      refine pd_iconst dX12_named_40 (by decide) ?_
      refine pd_icmp_ge (tgt := 48) dX12_named_41 (by decide) (fun hc => ?_) (fun hc => ?_)
      · have hf := pd_ip hf hc
        refine pd_iconst dX12_named_48 (by decide) ?_
        refine pd_goto (tgt := 125) dX12_named_49 (by decide) ?_
        exact pd_weak (L' := [pd_R x0, pd_I x1, pd_N]) ⟨Or.inr rfl, Or.inr rfl, Or.inr rfl, trivial⟩ (pkX12_named_b125 E l _ _ _ _ hf)
      · have hf := pd_in_ hf hc
        refine pd_iconst dX12_named_44 (by decide) ?_
        refine pd_goto (tgt := 125) dX12_named_45 (by decide) ?_
        exact pd_weak (L' := [pd_R x0, pd_I x1, pd_N]) ⟨Or.inr rfl, Or.inr rfl, Or.inr rfl, trivial⟩ (pkX12_named_b125 E l _ _ _ _ hf)
  · have hf := pd_iq hf hc
    refine pd_aload_n (i := 0) dX12_named_4 rfl rfl ?_
    obtain ⟨hg28, hf⟩ := pd_ig hf
    refine pd_get (x := pd_R (F x0 14)) 14 dX12_named_5 (show vwCl[12]? = some (RX12, TX12, 52) from rfl) pin_12 (by decide) pq_712 hg28 rfl ?_
    refine pd_aload_n (i := 0) dX12_named_8 rfl rfl ?_
    refine pd_get (x := pd_I (F x0 13)) 13 dX12_named_9 (show vwCl[12]? = some (RX12, TX12, 52) from rfl) pin_12 (by decide) pq_713 hg28 rfl ?_
    obtain ⟨hg29, hf⟩ := pd_ig hf
    refine pd_iald dX12_named_12 hg29 ?_
    refine pd_bipush dX12_named_13 (by decide) ?_
    refine pd_icmp_ge (tgt := 22) dX12_named_15 (by decide) (fun hc => ?_) (fun hc => ?_)
    · have hf := pd_ip hf hc
      refine pd_iconst dX12_named_22 (by decide) ?_
      refine pd_goto (tgt := 125) dX12_named_23 (by decide) ?_
      exact pd_weak (L' := [pd_R x0, pd_I x1, pd_N]) ⟨Or.inr rfl, Or.inr rfl, Or.inr rfl, trivial⟩ (pkX12_named_b125 E l _ _ _ _ hf)
    · have hf := pd_in_ hf hc
      refine pd_iconst dX12_named_18 (by decide) ?_
      refine pd_goto (tgt := 125) dX12_named_19 (by decide) ?_
      exact pd_weak (L' := [pd_R x0, pd_I x1, pd_N]) ⟨Or.inr rfl, Or.inr rfl, Or.inr rfl, trivial⟩ (pkX12_named_b125 E l _ _ _ _ hf)
set_option maxHeartbeats 4000000 in
set_option maxRecDepth 100000 in
theorem pkX12_lineHere_b170 (E : pd_E) (l : Launch) {sh : pd_S} {n : Nat} {ρ : Int} {Fz : pd_F}  (F : pd_F) (x0 : Int) (t0 : Int) (t1 : Int) (hf : pfX12_lineHere_b170 sh n  F x0 t0 t1 = some (ρ, Fz)) : pd_V E l (pd_rm 12 0 0) (RX12, cX12_lineHere, 3, (some .boolean), "lineHere") (pd_Qm E false (some (pd_I ρ)) sh Fz 0 0) false 0 0 sh F 170 [pd_R x0, pd_N, pd_N] [pd_I t0, pd_R t1] := by
  unfold pfX12_lineHere_b170 at hf
  refine pd_iconst dX12_lineHere_170 (by decide) ?_
  obtain ⟨hg3, hf⟩ := pd_ig hf
  obtain ⟨r2, F1, hr, hf⟩ := pd_ob2 hf
  refine pd_callV (pkX12_must l hr) dX12_lineHere_171 pq_764 pq_767 pq_768 (show vwCl[12]? = some (yX12_must.cls, TX12, 52) from rfl) hg3 (pd_okm (by omega) (by decide) pq_765 pq_766 (by decide) (show (parseMethodDescriptor yX12_must.desc).map (fun d => d.parameters.length) = some 2 from by decide +kernel)) (Nat.le_of_ble_eq_true rfl) rfl ?_
  refine pd_if_ne (tgt := 179) dX12_lineHere_174 (by decide) (fun hc => ?_) (fun hc => ?_)
  · have hf := pd_ip hf hc
    refine pd_aload_n (i := 0) dX12_lineHere_179 rfl rfl ?_
    obtain ⟨hg5, hf⟩ := pd_ig hf
    obtain ⟨F4, hr, hf⟩ := pd_ob1 hf
    refine pd_callV (pkX12_steps l hr) dX12_lineHere_180 pq_769 pq_772 pq_773 (show vwCl[12]? = some (yX12_steps.cls, TX12, 52) from rfl) hg5 (pd_okm (by omega) (by decide) pq_770 pq_771 (by decide) (show (parseMethodDescriptor yX12_steps.desc).map (fun d => d.parameters.length) = some 0 from by decide +kernel)) (Nat.le_of_ble_eq_true rfl) rfl ?_
    refine pd_iconst dX12_lineHere_183 (by decide) ?_
    obtain ⟨h1, h2⟩ := pd_inj hf
    subst h1 h2
    exact pd_zret dX12_lineHere_184 rfl (by decide) (Nat.le_refl 0) (Nat.le_refl 0)
  · have hf := pd_iq hf hc
    refine pd_iconst dX12_lineHere_177 (by decide) ?_
    obtain ⟨h1, h2⟩ := pd_inj hf
    subst h1 h2
    exact pd_zret dX12_lineHere_178 rfl (by decide) (Nat.le_refl 0) (Nat.le_refl 0)
set_option maxHeartbeats 4000000 in
set_option maxRecDepth 100000 in
theorem pkX12_lineHere_b156 (E : pd_E) (l : Launch) {sh : pd_S} {n : Nat} {ρ : Int} {Fz : pd_F}  (F : pd_F) (x0 : Int) (hf : pfX12_lineHere_b156 sh n  F x0 = some (ρ, Fz)) : pd_V E l (pd_rm 12 0 0) (RX12, cX12_lineHere, 3, (some .boolean), "lineHere") (pd_Qm E false (some (pd_I ρ)) sh Fz 0 0) false 0 0 sh F 156 [pd_R x0, pd_N, pd_N] [] := by
  unfold pfX12_lineHere_b156 at hf
  refine pd_aload_n (i := 0) dX12_lineHere_156 rfl rfl ?_
  refine pd_aload_n (i := 0) dX12_lineHere_157 rfl rfl ?_
  obtain ⟨hg6, hf⟩ := pd_ig hf
  refine pd_get (x := pd_I (F x0 6)) 6 dX12_lineHere_158 (show vwCl[12]? = some (RX12, TX12, 52) from rfl) pin_12 (by decide) pq_730 hg6 rfl ?_
  refine pd_iconst dX12_lineHere_161 (by decide) ?_
  refine pd_icmp_ne (tgt := 169) dX12_lineHere_162 (by decide) (fun hc => ?_) (fun hc => ?_)
  · have hf := pd_ip hf hc
    refine pd_iconst dX12_lineHere_169 (by decide) ?_
    exact pd_weak (L' := [pd_R x0, pd_N, pd_N]) ⟨Or.inr rfl, Or.inr rfl, Or.inr rfl, trivial⟩ (pkX12_lineHere_b170 E l _ _ _ _ hf)
  · have hf := pd_iq hf hc
    refine pd_iconst dX12_lineHere_165 (by decide) ?_
    refine pd_goto (tgt := 170) dX12_lineHere_166 (by decide) ?_
    exact pd_weak (L' := [pd_R x0, pd_N, pd_N]) ⟨Or.inr rfl, Or.inr rfl, Or.inr rfl, trivial⟩ (pkX12_lineHere_b170 E l _ _ _ _ hf)
set_option maxHeartbeats 4000000 in
set_option maxRecDepth 100000 in
theorem pkX12_lineHere_b122 (E : pd_E) (l : Launch) {sh : pd_S} {n : Nat} {ρ : Int} {Fz : pd_F}  (F : pd_F) (x0 : Int) (x1 : Int) (x2 : Int) (t0 : Int) (t1 : Int) (hf : pfX12_lineHere_b122 sh n  F x0 x1 x2 t0 t1 = some (ρ, Fz)) : pd_V E l (pd_rm 12 0 0) (RX12, cX12_lineHere, 3, (some .boolean), "lineHere") (pd_Qm E false (some (pd_I ρ)) sh Fz 0 0) false 0 0 sh F 122 [pd_R x0, pd_I x1, pd_I x2] [pd_I t0, pd_R t1] := by
  unfold pfX12_lineHere_b122 at hf
  refine pd_iconst dX12_lineHere_122 (by decide) ?_
  obtain ⟨hg9, hf⟩ := pd_ig hf
  obtain ⟨r8, F7, hr, hf⟩ := pd_ob2 hf
  refine pd_callV (pkX12_must l hr) dX12_lineHere_123 pq_764 pq_767 pq_768 (show vwCl[12]? = some (yX12_must.cls, TX12, 52) from rfl) hg9 (pd_okm (by omega) (by decide) pq_765 pq_766 (by decide) (show (parseMethodDescriptor yX12_must.desc).map (fun d => d.parameters.length) = some 2 from by decide +kernel)) (Nat.le_of_ble_eq_true rfl) rfl ?_
  refine pd_if_ne (tgt := 131) dX12_lineHere_126 (by decide) (fun hc => ?_) (fun hc => ?_)
  · have hf := pd_ip hf hc
    refine pd_iload_n (i := 1) dX12_lineHere_131 rfl rfl ?_
    refine pd_if_lt (tgt := 146) dX12_lineHere_132 (by decide) (fun hc => ?_) (fun hc => ?_)
    · have hf := pd_ip hf hc
      refine pd_aload_n (i := 0) dX12_lineHere_146 rfl rfl ?_
      refine pd_iload_n (i := 2) dX12_lineHere_147 rfl rfl ?_
      obtain ⟨hg12, hf⟩ := pd_ig hf
      obtain ⟨r11, F10, hr, hf⟩ := pd_ob2 hf
      refine pd_callV (pkX12_onceLine l hr) dX12_lineHere_148 pq_867 pq_870 pq_871 (show vwCl[12]? = some (yX12_onceLine.cls, TX12, 52) from rfl) hg12 (pd_okm (by omega) (by decide) pq_868 pq_869 (by decide) (show (parseMethodDescriptor yX12_onceLine.desc).map (fun d => d.parameters.length) = some 1 from by decide +kernel)) (Nat.le_of_ble_eq_true rfl) rfl ?_
      refine pd_if_ne (tgt := 156) dX12_lineHere_151 (by decide) (fun hc => ?_) (fun hc => ?_)
      · have hf := pd_ip hf hc
        exact pd_weak (L' := [pd_R x0, pd_N, pd_N]) ⟨Or.inr rfl, Or.inl rfl, Or.inl rfl, trivial⟩ (pkX12_lineHere_b156 E l _ _ hf)
      · have hf := pd_iq hf hc
        refine pd_iconst dX12_lineHere_154 (by decide) ?_
        obtain ⟨h1, h2⟩ := pd_inj hf
        subst h1 h2
        exact pd_zret dX12_lineHere_155 rfl (by decide) (Nat.le_refl 0) (Nat.le_refl 0)
    · have hf := pd_in_ hf hc
      refine pd_aload_n (i := 0) dX12_lineHere_135 rfl rfl ?_
      refine pd_iload_n (i := 1) dX12_lineHere_136 rfl rfl ?_
      obtain ⟨hg15, hf⟩ := pd_ig hf
      obtain ⟨r14, F13, hr, hf⟩ := pd_ob2 hf
      refine pd_callV (pkX12_named l hr) dX12_lineHere_137 pq_872 pq_875 pq_876 (show vwCl[12]? = some (yX12_named.cls, TX12, 52) from rfl) hg15 (pd_okm (by omega) (by decide) pq_873 pq_874 (by decide) (show (parseMethodDescriptor yX12_named.desc).map (fun d => d.parameters.length) = some 1 from by decide +kernel)) (Nat.le_of_ble_eq_true rfl) rfl ?_
      refine pd_if_ne (tgt := 156) dX12_lineHere_140 (by decide) (fun hc => ?_) (fun hc => ?_)
      · have hf := pd_ip hf hc
        exact pd_weak (L' := [pd_R x0, pd_N, pd_N]) ⟨Or.inr rfl, Or.inl rfl, Or.inl rfl, trivial⟩ (pkX12_lineHere_b156 E l _ _ hf)
      · have hf := pd_iq hf hc
        refine pd_goto (tgt := 154) dX12_lineHere_143 (by decide) ?_
        refine pd_iconst dX12_lineHere_154 (by decide) ?_
        obtain ⟨h1, h2⟩ := pd_inj hf
        subst h1 h2
        exact pd_zret dX12_lineHere_155 rfl (by decide) (Nat.le_refl 0) (Nat.le_refl 0)
  · have hf := pd_iq hf hc
    refine pd_iconst dX12_lineHere_129 (by decide) ?_
    obtain ⟨h1, h2⟩ := pd_inj hf
    subst h1 h2
    exact pd_zret dX12_lineHere_130 rfl (by decide) (Nat.le_refl 0) (Nat.le_refl 0)
set_option maxHeartbeats 4000000 in
set_option maxRecDepth 100000 in
theorem pkX12_lineHere_b117 (E : pd_E) (l : Launch) {sh : pd_S} {n : Nat} {ρ : Int} {Fz : pd_F}  (F : pd_F) (x0 : Int) (x1 : Int) (x2 : Int) (t0 : Int) (hf : pfX12_lineHere_b117 sh n  F x0 x1 x2 t0 = some (ρ, Fz)) : pd_V E l (pd_rm 12 0 0) (RX12, cX12_lineHere, 3, (some .boolean), "lineHere") (pd_Qm E false (some (pd_I ρ)) sh Fz 0 0) false 0 0 sh F 117 [pd_R x0, pd_I x1, pd_I x2] [pd_R t0] := by
  unfold pfX12_lineHere_b117 at hf
  refine pd_iconst dX12_lineHere_117 (by decide) ?_
  refine pd_goto (tgt := 122) dX12_lineHere_118 (by decide) ?_
  exact pd_weak (L' := [pd_R x0, pd_I x1, pd_I x2]) ⟨Or.inr rfl, Or.inr rfl, Or.inr rfl, trivial⟩ (pkX12_lineHere_b122 E l _ _ _ _ _ _ hf)
set_option maxHeartbeats 4000000 in
set_option maxRecDepth 100000 in
theorem pkX12_lineHere_b107 (E : pd_E) (l : Launch) {sh : pd_S} {n : Nat} {ρ : Int} {Fz : pd_F}  (F : pd_F) (x0 : Int) (x1 : Int) (t0 : Int) (hf : pfX12_lineHere_b107 sh n  F x0 x1 t0 = some (ρ, Fz)) : pd_V E l (pd_rm 12 0 0) (RX12, cX12_lineHere, 3, (some .boolean), "lineHere") (pd_Qm E false (some (pd_I ρ)) sh Fz 0 0) false 0 0 sh F 107 [pd_R x0, pd_I x1, pd_N] [pd_I t0] := by
  unfold pfX12_lineHere_b107 at hf
  refine pd_istore_n (L' := [pd_R x0, pd_I x1, pd_I t0]) dX12_lineHere_107 rfl (by decide) rfl ?_
  refine pd_aload_n (i := 0) dX12_lineHere_108 rfl rfl ?_
  refine pd_iload_n (i := 1) dX12_lineHere_109 rfl rfl ?_
  refine pd_if_ge (tgt := 117) dX12_lineHere_110 (by decide) (fun hc => ?_) (fun hc => ?_)
  · have hf := pd_ip hf hc
    exact pd_weak (L' := [pd_R x0, pd_I x1, pd_I t0]) ⟨Or.inr rfl, Or.inr rfl, Or.inr rfl, trivial⟩ (pkX12_lineHere_b117 E l _ _ _ _ _ hf)
  · have hf := pd_in_ hf hc
    refine pd_iload_n (i := 2) dX12_lineHere_113 rfl rfl ?_
    refine pd_if_lt (tgt := 121) dX12_lineHere_114 (by decide) (fun hc => ?_) (fun hc => ?_)
    · have hf := pd_ip hf hc
      refine pd_iconst dX12_lineHere_121 (by decide) ?_
      exact pd_weak (L' := [pd_R x0, pd_I x1, pd_I t0]) ⟨Or.inr rfl, Or.inr rfl, Or.inr rfl, trivial⟩ (pkX12_lineHere_b122 E l _ _ _ _ _ _ hf)
    · have hf := pd_in_ hf hc
      exact pd_weak (L' := [pd_R x0, pd_I x1, pd_I t0]) ⟨Or.inr rfl, Or.inr rfl, Or.inr rfl, trivial⟩ (pkX12_lineHere_b117 E l _ _ _ _ _ hf)
set_option maxHeartbeats 4000000 in
set_option maxRecDepth 100000 in
theorem pkX12_lineHere_b66 (E : pd_E) (l : Launch) {sh : pd_S} {n : Nat} {ρ : Int} {Fz : pd_F}  (F : pd_F) (x0 : Int) (t0 : Int) (hf : pfX12_lineHere_b66 sh n  F x0 t0 = some (ρ, Fz)) : pd_V E l (pd_rm 12 0 0) (RX12, cX12_lineHere, 3, (some .boolean), "lineHere") (pd_Qm E false (some (pd_I ρ)) sh Fz 0 0) false 0 0 sh F 66 [pd_R x0, pd_N, pd_N] [pd_I t0] := by
  unfold pfX12_lineHere_b66 at hf
  refine pd_istore_n (L' := [pd_R x0, pd_I t0, pd_N]) dX12_lineHere_66 rfl (by decide) rfl ?_
  refine pd_aload_n (i := 0) dX12_lineHere_67 rfl rfl ?_
  refine pd_ldcS (k0 := 8) dX12_lineHere_68 rfl ?_
  obtain ⟨hg18, hf⟩ := pd_ig hf
  obtain ⟨r17, F16, hr, hf⟩ := pd_ob2 hf
  refine pd_callV (pkX12_is l hr) dX12_lineHere_70 pq_759 pq_762 pq_763 (show vwCl[12]? = some (yX12_is.cls, TX12, 52) from rfl) hg18 (pd_okm (by omega) (by decide) pq_760 pq_761 (by decide) (show (parseMethodDescriptor yX12_is.desc).map (fun d => d.parameters.length) = some 1 from by decide +kernel)) (Nat.le_of_ble_eq_true rfl) rfl ?_
  refine pd_if_eq (tgt := 80) dX12_lineHere_73 (by decide) (fun hc => ?_) (fun hc => ?_)
  · have hf := pd_ip hf hc
    refine pd_aload_n (i := 0) dX12_lineHere_80 rfl rfl ?_
    refine pd_ldcS (k0 := 9) dX12_lineHere_81 rfl ?_
    obtain ⟨r20, F19, hr, hf⟩ := pd_ob2 hf
    refine pd_callV (pkX12_is l hr) dX12_lineHere_83 pq_759 pq_762 pq_763 (show vwCl[12]? = some (yX12_is.cls, TX12, 52) from rfl) hg18 (pd_okm (by omega) (by decide) pq_760 pq_761 (by decide) (show (parseMethodDescriptor yX12_is.desc).map (fun d => d.parameters.length) = some 1 from by decide +kernel)) (Nat.le_of_ble_eq_true rfl) rfl ?_
    refine pd_if_eq (tgt := 93) dX12_lineHere_86 (by decide) (fun hc => ?_) (fun hc => ?_)
    · have hf := pd_ip hf hc
      refine pd_aload_n (i := 0) dX12_lineHere_93 rfl rfl ?_
      refine pd_ldcS (k0 := 10) dX12_lineHere_94 rfl ?_
      obtain ⟨r22, F21, hr, hf⟩ := pd_ob2 hf
      refine pd_callV (pkX12_is l hr) dX12_lineHere_96 pq_759 pq_762 pq_763 (show vwCl[12]? = some (yX12_is.cls, TX12, 52) from rfl) hg18 (pd_okm (by omega) (by decide) pq_760 pq_761 (by decide) (show (parseMethodDescriptor yX12_is.desc).map (fun d => d.parameters.length) = some 1 from by decide +kernel)) (Nat.le_of_ble_eq_true rfl) rfl ?_
      refine pd_if_eq (tgt := 106) dX12_lineHere_99 (by decide) (fun hc => ?_) (fun hc => ?_)
      · have hf := pd_ip hf hc
        refine pd_iconst dX12_lineHere_106 (by decide) ?_
        exact pd_weak (L' := [pd_R x0, pd_I t0, pd_N]) ⟨Or.inr rfl, Or.inr rfl, Or.inr rfl, trivial⟩ (pkX12_lineHere_b107 E l _ _ _ _ hf)
      · have hf := pd_in_ hf hc
        refine pd_iconst dX12_lineHere_102 (by decide) ?_
        refine pd_goto (tgt := 107) dX12_lineHere_103 (by decide) ?_
        exact pd_weak (L' := [pd_R x0, pd_I t0, pd_N]) ⟨Or.inr rfl, Or.inr rfl, Or.inr rfl, trivial⟩ (pkX12_lineHere_b107 E l _ _ _ _ hf)
    · have hf := pd_in_ hf hc
      refine pd_iconst dX12_lineHere_89 (by decide) ?_
      refine pd_goto (tgt := 107) dX12_lineHere_90 (by decide) ?_
      exact pd_weak (L' := [pd_R x0, pd_I t0, pd_N]) ⟨Or.inr rfl, Or.inr rfl, Or.inr rfl, trivial⟩ (pkX12_lineHere_b107 E l _ _ _ _ hf)
  · have hf := pd_in_ hf hc
    refine pd_iconst dX12_lineHere_76 (by decide) ?_
    refine pd_goto (tgt := 107) dX12_lineHere_77 (by decide) ?_
    exact pd_weak (L' := [pd_R x0, pd_I t0, pd_N]) ⟨Or.inr rfl, Or.inr rfl, Or.inr rfl, trivial⟩ (pkX12_lineHere_b107 E l _ _ _ _ hf)
set_option maxHeartbeats 4000000 in
set_option maxRecDepth 100000 in
theorem pkX12_lineHere (l : Launch) {sh : pd_S} {n : Nat} {F : pd_F} {x0 : Int} {ρ : Int} {Fz : pd_F} (hf : pfX12_lineHere sh n F x0 = some (ρ, Fz)) : pd_C l yX12_lineHere (Cond.code yX12_lineHere cX12_lineHere 3 (some .boolean) :: pd_gt) (pd_rm 12 0 0) false 0 0 sh F [pd_R x0] (some (pd_I ρ)) sh Fz := by
  unfold pfX12_lineHere at hf
  refine pd_body (L := [pd_R x0, pd_N, pd_N]) (by decide +kernel) (Nat.le_of_ble_eq_true rfl) rfl (fun E => ?_)
  refine pd_aload_n (i := 0) dX12_lineHere_0 rfl rfl ?_
  refine pd_ldcS (k0 := 3) dX12_lineHere_1 rfl ?_
  obtain ⟨hg25, hf⟩ := pd_ig hf
  obtain ⟨r24, F23, hr, hf⟩ := pd_ob2 hf
  refine pd_callV (pkX12_is l hr) dX12_lineHere_3 pq_759 pq_762 pq_763 (show vwCl[12]? = some (yX12_is.cls, TX12, 52) from rfl) hg25 (pd_okm (by omega) (by decide) pq_760 pq_761 (by decide) (show (parseMethodDescriptor yX12_is.desc).map (fun d => d.parameters.length) = some 1 from by decide +kernel)) (Nat.le_of_ble_eq_true rfl) rfl ?_
  refine pd_if_eq (tgt := 13) dX12_lineHere_6 (by decide) (fun hc => ?_) (fun hc => ?_)
  · have hf := pd_ip hf hc
    refine pd_aload_n (i := 0) dX12_lineHere_13 rfl rfl ?_
    refine pd_ldcS (k0 := 4) dX12_lineHere_14 rfl ?_
    obtain ⟨r27, F26, hr, hf⟩ := pd_ob2 hf
    refine pd_callV (pkX12_is l hr) dX12_lineHere_16 pq_759 pq_762 pq_763 (show vwCl[12]? = some (yX12_is.cls, TX12, 52) from rfl) hg25 (pd_okm (by omega) (by decide) pq_760 pq_761 (by decide) (show (parseMethodDescriptor yX12_is.desc).map (fun d => d.parameters.length) = some 1 from by decide +kernel)) (Nat.le_of_ble_eq_true rfl) rfl ?_
    refine pd_if_eq (tgt := 26) dX12_lineHere_19 (by decide) (fun hc => ?_) (fun hc => ?_)
    · have hf := pd_ip hf hc
      refine pd_aload_n (i := 0) dX12_lineHere_26 rfl rfl ?_
      refine pd_ldcS (k0 := 5) dX12_lineHere_27 rfl ?_
      obtain ⟨r29, F28, hr, hf⟩ := pd_ob2 hf
      refine pd_callV (pkX12_is l hr) dX12_lineHere_29 pq_759 pq_762 pq_763 (show vwCl[12]? = some (yX12_is.cls, TX12, 52) from rfl) hg25 (pd_okm (by omega) (by decide) pq_760 pq_761 (by decide) (show (parseMethodDescriptor yX12_is.desc).map (fun d => d.parameters.length) = some 1 from by decide +kernel)) (Nat.le_of_ble_eq_true rfl) rfl ?_
      refine pd_if_eq (tgt := 39) dX12_lineHere_32 (by decide) (fun hc => ?_) (fun hc => ?_)
      · have hf := pd_ip hf hc
        refine pd_aload_n (i := 0) dX12_lineHere_39 rfl rfl ?_
        refine pd_ldcS (k0 := 6) dX12_lineHere_40 rfl ?_
        obtain ⟨r31, F30, hr, hf⟩ := pd_ob2 hf
        refine pd_callV (pkX12_is l hr) dX12_lineHere_42 pq_759 pq_762 pq_763 (show vwCl[12]? = some (yX12_is.cls, TX12, 52) from rfl) hg25 (pd_okm (by omega) (by decide) pq_760 pq_761 (by decide) (show (parseMethodDescriptor yX12_is.desc).map (fun d => d.parameters.length) = some 1 from by decide +kernel)) (Nat.le_of_ble_eq_true rfl) rfl ?_
        refine pd_if_eq (tgt := 52) dX12_lineHere_45 (by decide) (fun hc => ?_) (fun hc => ?_)
        · have hf := pd_ip hf hc
          refine pd_aload_n (i := 0) dX12_lineHere_52 rfl rfl ?_
          refine pd_ldcS (k0 := 7) dX12_lineHere_53 rfl ?_
          obtain ⟨r33, F32, hr, hf⟩ := pd_ob2 hf
          refine pd_callV (pkX12_is l hr) dX12_lineHere_55 pq_759 pq_762 pq_763 (show vwCl[12]? = some (yX12_is.cls, TX12, 52) from rfl) hg25 (pd_okm (by omega) (by decide) pq_760 pq_761 (by decide) (show (parseMethodDescriptor yX12_is.desc).map (fun d => d.parameters.length) = some 1 from by decide +kernel)) (Nat.le_of_ble_eq_true rfl) rfl ?_
          refine pd_if_eq (tgt := 65) dX12_lineHere_58 (by decide) (fun hc => ?_) (fun hc => ?_)
          · have hf := pd_ip hf hc
            refine pd_iconst dX12_lineHere_65 (by decide) ?_
            exact pd_weak (L' := [pd_R x0, pd_N, pd_N]) ⟨Or.inr rfl, Or.inr rfl, Or.inr rfl, trivial⟩ (pkX12_lineHere_b66 E l _ _ _ hf)
          · have hf := pd_in_ hf hc
            refine pd_iconst dX12_lineHere_61 (by decide) ?_
            refine pd_goto (tgt := 66) dX12_lineHere_62 (by decide) ?_
            exact pd_weak (L' := [pd_R x0, pd_N, pd_N]) ⟨Or.inr rfl, Or.inr rfl, Or.inr rfl, trivial⟩ (pkX12_lineHere_b66 E l _ _ _ hf)
        · have hf := pd_in_ hf hc
          refine pd_iconst dX12_lineHere_48 (by decide) ?_
          refine pd_goto (tgt := 66) dX12_lineHere_49 (by decide) ?_
          exact pd_weak (L' := [pd_R x0, pd_N, pd_N]) ⟨Or.inr rfl, Or.inr rfl, Or.inr rfl, trivial⟩ (pkX12_lineHere_b66 E l _ _ _ hf)
      · have hf := pd_in_ hf hc
        refine pd_iconst dX12_lineHere_35 (by decide) ?_
        refine pd_goto (tgt := 66) dX12_lineHere_36 (by decide) ?_
        exact pd_weak (L' := [pd_R x0, pd_N, pd_N]) ⟨Or.inr rfl, Or.inr rfl, Or.inr rfl, trivial⟩ (pkX12_lineHere_b66 E l _ _ _ hf)
    · have hf := pd_in_ hf hc
      refine pd_iconst dX12_lineHere_22 (by decide) ?_
      refine pd_goto (tgt := 66) dX12_lineHere_23 (by decide) ?_
      exact pd_weak (L' := [pd_R x0, pd_N, pd_N]) ⟨Or.inr rfl, Or.inr rfl, Or.inr rfl, trivial⟩ (pkX12_lineHere_b66 E l _ _ _ hf)
  · have hf := pd_in_ hf hc
    refine pd_iconst dX12_lineHere_9 (by decide) ?_
    refine pd_goto (tgt := 66) dX12_lineHere_10 (by decide) ?_
    exact pd_weak (L' := [pd_R x0, pd_N, pd_N]) ⟨Or.inr rfl, Or.inr rfl, Or.inr rfl, trivial⟩ (pkX12_lineHere_b66 E l _ _ _ hf)
