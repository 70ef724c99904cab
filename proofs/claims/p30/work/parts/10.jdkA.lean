theorem dJ13_bitCount_95d88_0 : decode cJ13_bitCount_95d88 0 = .ok (.lload_n 0, 1) := by decide +kernel
theorem dJ13_bitCount_95d88_1 : decode cJ13_bitCount_95d88 1 = .ok (.lload_n 0, 1) := by decide +kernel
theorem dJ13_bitCount_95d88_2 : decode cJ13_bitCount_95d88 2 = .ok (.iconst 1, 1) := by decide +kernel
theorem dJ13_bitCount_95d88_3 : decode cJ13_bitCount_95d88 3 = .ok (.lushr, 1) := by decide +kernel
theorem dJ13_bitCount_95d88_4 : decode cJ13_bitCount_95d88 4 = .ok (.ldc2_w 314, 3) := by decide +kernel
theorem dJ13_bitCount_95d88_7 : decode cJ13_bitCount_95d88 7 = .ok (.land, 1) := by decide +kernel
theorem dJ13_bitCount_95d88_8 : decode cJ13_bitCount_95d88 8 = .ok (.lsub, 1) := by decide +kernel
theorem dJ13_bitCount_95d88_9 : decode cJ13_bitCount_95d88 9 = .ok (.lstore_n 0, 1) := by decide +kernel
theorem dJ13_bitCount_95d88_10 : decode cJ13_bitCount_95d88 10 = .ok (.lload_n 0, 1) := by decide +kernel
theorem dJ13_bitCount_95d88_11 : decode cJ13_bitCount_95d88 11 = .ok (.ldc2_w 316, 3) := by decide +kernel
theorem dJ13_bitCount_95d88_14 : decode cJ13_bitCount_95d88 14 = .ok (.land, 1) := by decide +kernel
theorem dJ13_bitCount_95d88_15 : decode cJ13_bitCount_95d88 15 = .ok (.lload_n 0, 1) := by decide +kernel
theorem dJ13_bitCount_95d88_16 : decode cJ13_bitCount_95d88 16 = .ok (.iconst 2, 1) := by decide +kernel
theorem dJ13_bitCount_95d88_17 : decode cJ13_bitCount_95d88 17 = .ok (.lushr, 1) := by decide +kernel
theorem dJ13_bitCount_95d88_18 : decode cJ13_bitCount_95d88 18 = .ok (.ldc2_w 316, 3) := by decide +kernel
theorem dJ13_bitCount_95d88_21 : decode cJ13_bitCount_95d88 21 = .ok (.land, 1) := by decide +kernel
theorem dJ13_bitCount_95d88_22 : decode cJ13_bitCount_95d88 22 = .ok (.ladd, 1) := by decide +kernel
theorem dJ13_bitCount_95d88_23 : decode cJ13_bitCount_95d88 23 = .ok (.lstore_n 0, 1) := by decide +kernel
theorem dJ13_bitCount_95d88_24 : decode cJ13_bitCount_95d88 24 = .ok (.lload_n 0, 1) := by decide +kernel
theorem dJ13_bitCount_95d88_25 : decode cJ13_bitCount_95d88 25 = .ok (.lload_n 0, 1) := by decide +kernel
theorem dJ13_bitCount_95d88_26 : decode cJ13_bitCount_95d88 26 = .ok (.iconst 4, 1) := by decide +kernel
theorem dJ13_bitCount_95d88_27 : decode cJ13_bitCount_95d88 27 = .ok (.lushr, 1) := by decide +kernel
theorem dJ13_bitCount_95d88_28 : decode cJ13_bitCount_95d88 28 = .ok (.ladd, 1) := by decide +kernel
theorem dJ13_bitCount_95d88_29 : decode cJ13_bitCount_95d88 29 = .ok (.ldc2_w 318, 3) := by decide +kernel
theorem dJ13_bitCount_95d88_32 : decode cJ13_bitCount_95d88 32 = .ok (.land, 1) := by decide +kernel
theorem dJ13_bitCount_95d88_33 : decode cJ13_bitCount_95d88 33 = .ok (.lstore_n 0, 1) := by decide +kernel
theorem dJ13_bitCount_95d88_34 : decode cJ13_bitCount_95d88 34 = .ok (.lload_n 0, 1) := by decide +kernel
theorem dJ13_bitCount_95d88_35 : decode cJ13_bitCount_95d88 35 = .ok (.lload_n 0, 1) := by decide +kernel
theorem dJ13_bitCount_95d88_36 : decode cJ13_bitCount_95d88 36 = .ok (.bipush 8, 2) := by decide +kernel
theorem dJ13_bitCount_95d88_38 : decode cJ13_bitCount_95d88 38 = .ok (.lushr, 1) := by decide +kernel
theorem dJ13_bitCount_95d88_39 : decode cJ13_bitCount_95d88 39 = .ok (.ladd, 1) := by decide +kernel
theorem dJ13_bitCount_95d88_40 : decode cJ13_bitCount_95d88 40 = .ok (.lstore_n 0, 1) := by decide +kernel
theorem dJ13_bitCount_95d88_41 : decode cJ13_bitCount_95d88 41 = .ok (.lload_n 0, 1) := by decide +kernel
theorem dJ13_bitCount_95d88_42 : decode cJ13_bitCount_95d88 42 = .ok (.lload_n 0, 1) := by decide +kernel
theorem dJ13_bitCount_95d88_43 : decode cJ13_bitCount_95d88 43 = .ok (.bipush 16, 2) := by decide +kernel
theorem dJ13_bitCount_95d88_45 : decode cJ13_bitCount_95d88 45 = .ok (.lushr, 1) := by decide +kernel
theorem dJ13_bitCount_95d88_46 : decode cJ13_bitCount_95d88 46 = .ok (.ladd, 1) := by decide +kernel
theorem dJ13_bitCount_95d88_47 : decode cJ13_bitCount_95d88 47 = .ok (.lstore_n 0, 1) := by decide +kernel
theorem dJ13_bitCount_95d88_48 : decode cJ13_bitCount_95d88 48 = .ok (.lload_n 0, 1) := by decide +kernel
theorem dJ13_bitCount_95d88_49 : decode cJ13_bitCount_95d88 49 = .ok (.lload_n 0, 1) := by decide +kernel
theorem dJ13_bitCount_95d88_50 : decode cJ13_bitCount_95d88 50 = .ok (.bipush 32, 2) := by decide +kernel
theorem dJ13_bitCount_95d88_52 : decode cJ13_bitCount_95d88 52 = .ok (.lushr, 1) := by decide +kernel
theorem dJ13_bitCount_95d88_53 : decode cJ13_bitCount_95d88 53 = .ok (.ladd, 1) := by decide +kernel
theorem dJ13_bitCount_95d88_54 : decode cJ13_bitCount_95d88 54 = .ok (.lstore_n 0, 1) := by decide +kernel
theorem dJ13_bitCount_95d88_55 : decode cJ13_bitCount_95d88 55 = .ok (.lload_n 0, 1) := by decide +kernel
theorem dJ13_bitCount_95d88_56 : decode cJ13_bitCount_95d88 56 = .ok (.l2i, 1) := by decide +kernel
theorem dJ13_bitCount_95d88_57 : decode cJ13_bitCount_95d88 57 = .ok (.bipush 127, 2) := by decide +kernel
theorem dJ13_bitCount_95d88_59 : decode cJ13_bitCount_95d88 59 = .ok (.iand, 1) := by decide +kernel
theorem dJ13_bitCount_95d88_60 : decode cJ13_bitCount_95d88 60 = .ok (.ireturn, 1) := by decide +kernel
theorem dJ0_coder_7d493_0 : decode cJ0_coder_7d493 0 = .ok (.getstatic 38, 3) := by decide +kernel
theorem dJ0_coder_7d493_3 : decode cJ0_coder_7d493 3 = .ok (.ifCond .eq 10, 3) := by decide +kernel
theorem dJ0_coder_7d493_6 : decode cJ0_coder_7d493 6 = .ok (.aload_n 0, 1) := by decide +kernel
theorem dJ0_coder_7d493_7 : decode cJ0_coder_7d493 7 = .ok (.getfield 15, 3) := by decide +kernel
theorem dJ0_coder_7d493_10 : decode cJ0_coder_7d493 10 = .ok (.goto 4, 3) := by decide +kernel
theorem dJ0_coder_7d493_13 : decode cJ0_coder_7d493 13 = .ok (.iconst 1, 1) := by decide +kernel
theorem dJ0_coder_7d493_14 : decode cJ0_coder_7d493 14 = .ok (.ireturn, 1) := by decide +kernel
theorem dJ0_length_8abf5_0 : decode cJ0_length_8abf5 0 = .ok (.aload_n 0, 1) := by decide +kernel
theorem dJ0_length_8abf5_1 : decode cJ0_length_8abf5 1 = .ok (.getfield 9, 3) := by decide +kernel
theorem dJ0_length_8abf5_4 : decode cJ0_length_8abf5 4 = .ok (.arraylength, 1) := by decide +kernel
theorem dJ0_length_8abf5_5 : decode cJ0_length_8abf5 5 = .ok (.aload_n 0, 1) := by decide +kernel
theorem dJ0_length_8abf5_6 : decode cJ0_length_8abf5 6 = .ok (.invokevirtual 335, 3) := by decide +kernel
theorem dJ0_length_8abf5_9 : decode cJ0_length_8abf5 9 = .ok (.ishr, 1) := by decide +kernel
theorem dJ0_length_8abf5_10 : decode cJ0_length_8abf5 10 = .ok (.ireturn, 1) := by decide +kernel
theorem dJ0_isLatin1_aae02_0 : decode cJ0_isLatin1_aae02 0 = .ok (.getstatic 38, 3) := by decide +kernel
theorem dJ0_isLatin1_aae02_3 : decode cJ0_isLatin1_aae02 3 = .ok (.ifCond .eq 14, 3) := by decide +kernel
theorem dJ0_isLatin1_aae02_6 : decode cJ0_isLatin1_aae02 6 = .ok (.aload_n 0, 1) := by decide +kernel
theorem dJ0_isLatin1_aae02_7 : decode cJ0_isLatin1_aae02 7 = .ok (.getfield 15, 3) := by decide +kernel
theorem dJ0_isLatin1_aae02_10 : decode cJ0_isLatin1_aae02 10 = .ok (.ifCond .ne 7, 3) := by decide +kernel
theorem dJ0_isLatin1_aae02_13 : decode cJ0_isLatin1_aae02 13 = .ok (.iconst 1, 1) := by decide +kernel
theorem dJ0_isLatin1_aae02_14 : decode cJ0_isLatin1_aae02 14 = .ok (.goto 4, 3) := by decide +kernel
theorem dJ0_isLatin1_aae02_17 : decode cJ0_isLatin1_aae02 17 = .ok (.iconst 0, 1) := by decide +kernel
theorem dJ0_isLatin1_aae02_18 : decode cJ0_isLatin1_aae02 18 = .ok (.ireturn, 1) := by decide +kernel
theorem dJ1_charAt_3b067_0 : decode cJ1_charAt_3b067 0 = .ok (.iload_n 1, 1) := by decide +kernel
theorem dJ1_charAt_3b067_1 : decode cJ1_charAt_3b067 1 = .ok (.aload_n 0, 1) := by decide +kernel
theorem dJ1_charAt_3b067_2 : decode cJ1_charAt_3b067 2 = .ok (.arraylength, 1) := by decide +kernel
theorem dJ1_charAt_3b067_3 : decode cJ1_charAt_3b067 3 = .ok (.invokestatic 9, 3) := by decide +kernel
theorem dJ1_charAt_3b067_6 : decode cJ1_charAt_3b067 6 = .ok (.aload_n 0, 1) := by decide +kernel
theorem dJ1_charAt_3b067_7 : decode cJ1_charAt_3b067 7 = .ok (.iload_n 1, 1) := by decide +kernel
theorem dJ1_charAt_3b067_8 : decode cJ1_charAt_3b067 8 = .ok (.baload, 1) := by decide +kernel
theorem dJ1_charAt_3b067_9 : decode cJ1_charAt_3b067 9 = .ok (.sipush 255, 3) := by decide +kernel
theorem dJ1_charAt_3b067_12 : decode cJ1_charAt_3b067 12 = .ok (.iand, 1) := by decide +kernel
theorem dJ1_charAt_3b067_13 : decode cJ1_charAt_3b067 13 = .ok (.i2c, 1) := by decide +kernel
theorem dJ1_charAt_3b067_14 : decode cJ1_charAt_3b067 14 = .ok (.ireturn, 1) := by decide +kernel
theorem dJ0_charAt_5068e_0 : decode cJ0_charAt_5068e 0 = .ok (.aload_n 0, 1) := by decide +kernel
theorem dJ0_charAt_5068e_1 : decode cJ0_charAt_5068e 1 = .ok (.invokevirtual 492, 3) := by decide +kernel
theorem dJ0_charAt_5068e_4 : decode cJ0_charAt_5068e 4 = .ok (.ifCond .eq 12, 3) := by decide +kernel
theorem dJ0_charAt_5068e_7 : decode cJ0_charAt_5068e 7 = .ok (.aload_n 0, 1) := by decide +kernel
theorem dJ0_charAt_5068e_8 : decode cJ0_charAt_5068e 8 = .ok (.getfield 9, 3) := by decide +kernel
theorem dJ0_charAt_5068e_11 : decode cJ0_charAt_5068e 11 = .ok (.iload_n 1, 1) := by decide +kernel
theorem dJ0_charAt_5068e_12 : decode cJ0_charAt_5068e 12 = .ok (.invokestatic 495, 3) := by decide +kernel
theorem dJ0_charAt_5068e_15 : decode cJ0_charAt_5068e 15 = .ok (.ireturn, 1) := by decide +kernel
theorem dJ0_charAt_5068e_16 : decode cJ0_charAt_5068e 16 = .ok (.aload_n 0, 1) := by decide +kernel
theorem dJ0_charAt_5068e_17 : decode cJ0_charAt_5068e 17 = .ok (.getfield 9, 3) := by decide +kernel
theorem dJ0_charAt_5068e_20 : decode cJ0_charAt_5068e 20 = .ok (.iload_n 1, 1) := by decide +kernel
theorem dJ0_charAt_5068e_21 : decode cJ0_charAt_5068e 21 = .ok (.invokestatic 498, 3) := by decide +kernel
theorem dJ0_charAt_5068e_24 : decode cJ0_charAt_5068e 24 = .ok (.ireturn, 1) := by decide +kernel
theorem dJ0_getBytes_840e7_0 : decode cJ0_getBytes_840e7 0 = .ok (.aload_n 0, 1) := by decide +kernel
theorem dJ0_getBytes_840e7_1 : decode cJ0_getBytes_840e7 1 = .ok (.invokevirtual 335, 3) := by decide +kernel
theorem dJ0_getBytes_840e7_4 : decode cJ0_getBytes_840e7 4 = .ok (.iload_n 3, 1) := by decide +kernel
theorem dJ0_getBytes_840e7_5 : decode cJ0_getBytes_840e7 5 = .ok (.if_icmp .ne 23, 3) := by decide +kernel
theorem dJ0_getBytes_840e7_8 : decode cJ0_getBytes_840e7 8 = .ok (.aload_n 0, 1) := by decide +kernel
theorem dJ0_getBytes_840e7_9 : decode cJ0_getBytes_840e7 9 = .ok (.getfield 9, 3) := by decide +kernel
theorem dJ0_getBytes_840e7_12 : decode cJ0_getBytes_840e7 12 = .ok (.iconst 0, 1) := by decide +kernel
theorem dJ0_getBytes_840e7_13 : decode cJ0_getBytes_840e7 13 = .ok (.aload_n 1, 1) := by decide +kernel
theorem dJ0_getBytes_840e7_14 : decode cJ0_getBytes_840e7 14 = .ok (.iload_n 2, 1) := by decide +kernel
theorem dJ0_getBytes_840e7_15 : decode cJ0_getBytes_840e7 15 = .ok (.iload_n 3, 1) := by decide +kernel
theorem dJ0_getBytes_840e7_16 : decode cJ0_getBytes_840e7 16 = .ok (.ishl, 1) := by decide +kernel
theorem dJ0_getBytes_840e7_17 : decode cJ0_getBytes_840e7 17 = .ok (.aload_n 0, 1) := by decide +kernel
theorem dJ0_getBytes_840e7_18 : decode cJ0_getBytes_840e7 18 = .ok (.getfield 9, 3) := by decide +kernel
theorem dJ0_getBytes_840e7_21 : decode cJ0_getBytes_840e7 21 = .ok (.arraylength, 1) := by decide +kernel
theorem dJ0_getBytes_840e7_22 : decode cJ0_getBytes_840e7 22 = .ok (.invokestatic 212, 3) := by decide +kernel
theorem dJ0_getBytes_840e7_25 : decode cJ0_getBytes_840e7 25 = .ok (.goto 18, 3) := by decide +kernel
theorem dJ0_getBytes_840e7_28 : decode cJ0_getBytes_840e7 28 = .ok (.aload_n 0, 1) := by decide +kernel
theorem dJ0_getBytes_840e7_29 : decode cJ0_getBytes_840e7 29 = .ok (.getfield 9, 3) := by decide +kernel
theorem dJ0_getBytes_840e7_32 : decode cJ0_getBytes_840e7 32 = .ok (.iconst 0, 1) := by decide +kernel
theorem dJ0_getBytes_840e7_33 : decode cJ0_getBytes_840e7 33 = .ok (.aload_n 1, 1) := by decide +kernel
theorem dJ0_getBytes_840e7_34 : decode cJ0_getBytes_840e7 34 = .ok (.iload_n 2, 1) := by decide +kernel
theorem dJ0_getBytes_840e7_35 : decode cJ0_getBytes_840e7 35 = .ok (.aload_n 0, 1) := by decide +kernel
theorem dJ0_getBytes_840e7_36 : decode cJ0_getBytes_840e7 36 = .ok (.getfield 9, 3) := by decide +kernel
theorem dJ0_getBytes_840e7_39 : decode cJ0_getBytes_840e7 39 = .ok (.arraylength, 1) := by decide +kernel
theorem dJ0_getBytes_840e7_40 : decode cJ0_getBytes_840e7 40 = .ok (.invokestatic 106, 3) := by decide +kernel
theorem dJ0_getBytes_840e7_43 : decode cJ0_getBytes_840e7 43 = .ok (.return_, 1) := by decide +kernel
theorem dJ1_canEncode_fc78d_0 : decode cJ1_canEncode_fc78d 0 = .ok (.iload_n 0, 1) := by decide +kernel
theorem dJ1_canEncode_fc78d_1 : decode cJ1_canEncode_fc78d 1 = .ok (.sipush 255, 3) := by decide +kernel
theorem dJ1_canEncode_fc78d_4 : decode cJ1_canEncode_fc78d 4 = .ok (.if_icmp .gt 7, 3) := by decide +kernel
theorem dJ1_canEncode_fc78d_7 : decode cJ1_canEncode_fc78d 7 = .ok (.iconst 1, 1) := by decide +kernel
theorem dJ1_canEncode_fc78d_8 : decode cJ1_canEncode_fc78d 8 = .ok (.goto 4, 3) := by decide +kernel
theorem dJ1_canEncode_fc78d_11 : decode cJ1_canEncode_fc78d 11 = .ok (.iconst 0, 1) := by decide +kernel
theorem dJ1_canEncode_fc78d_12 : decode cJ1_canEncode_fc78d 12 = .ok (.ireturn, 1) := by decide +kernel
theorem dJ5_length_8abf5_0 : decode cJ5_length_8abf5 0 = .ok (.aload_n 0, 1) := by decide +kernel
theorem dJ5_length_8abf5_1 : decode cJ5_length_8abf5 1 = .ok (.getfield 79, 3) := by decide +kernel
theorem dJ5_length_8abf5_4 : decode cJ5_length_8abf5 4 = .ok (.ireturn, 1) := by decide +kernel
theorem dJ4_length_8abf5_0 : decode cJ4_length_8abf5 0 = .ok (.aload_n 0, 1) := by decide +kernel
theorem dJ4_length_8abf5_1 : decode cJ4_length_8abf5 1 = .ok (.invokespecial 343, 3) := by decide +kernel
theorem dJ4_length_8abf5_4 : decode cJ4_length_8abf5 4 = .ok (.ireturn, 1) := by decide +kernel
theorem dJ5_getValue_6d5f1_0 : decode cJ5_getValue_6d5f1 0 = .ok (.aload_n 0, 1) := by decide +kernel
theorem dJ5_getValue_6d5f1_1 : decode cJ5_getValue_6d5f1 1 = .ok (.getfield 15, 3) := by decide +kernel
theorem dJ5_getValue_6d5f1_4 : decode cJ5_getValue_6d5f1 4 = .ok (.areturn, 1) := by decide +kernel
theorem dJ5_isLatin1_aae02_0 : decode cJ5_isLatin1_aae02 0 = .ok (.getstatic 18, 3) := by decide +kernel
theorem dJ5_isLatin1_aae02_3 : decode cJ5_isLatin1_aae02 3 = .ok (.ifCond .eq 14, 3) := by decide +kernel
theorem dJ5_isLatin1_aae02_6 : decode cJ5_isLatin1_aae02 6 = .ok (.aload_n 0, 1) := by decide +kernel
theorem dJ5_isLatin1_aae02_7 : decode cJ5_isLatin1_aae02 7 = .ok (.getfield 22, 3) := by decide +kernel
theorem dJ5_isLatin1_aae02_10 : decode cJ5_isLatin1_aae02 10 = .ok (.ifCond .ne 7, 3) := by decide +kernel
theorem dJ5_isLatin1_aae02_13 : decode cJ5_isLatin1_aae02 13 = .ok (.iconst 1, 1) := by decide +kernel
theorem dJ5_isLatin1_aae02_14 : decode cJ5_isLatin1_aae02 14 = .ok (.goto 4, 3) := by decide +kernel
theorem dJ5_isLatin1_aae02_17 : decode cJ5_isLatin1_aae02 17 = .ok (.iconst 0, 1) := by decide +kernel
theorem dJ5_isLatin1_aae02_18 : decode cJ5_isLatin1_aae02 18 = .ok (.ireturn, 1) := by decide +kernel
theorem dJ7_checkLength_df160_0 : decode cJ7_checkLength_df160 0 = .ok (.iload_n 1, 1) := by decide +kernel
theorem dJ7_checkLength_df160_1 : decode cJ7_checkLength_df160 1 = .ok (.iload_n 0, 1) := by decide +kernel
theorem dJ7_checkLength_df160_2 : decode cJ7_checkLength_df160 2 = .ok (.if_icmp .ge 35, 3) := by decide +kernel
theorem dJ7_checkLength_df160_5 : decode cJ7_checkLength_df160 5 = .ok (.new 43, 3) := by decide +kernel
theorem dJ7_checkLength_df160_8 : decode cJ7_checkLength_df160 8 = .ok (.dup, 1) := by decide +kernel
theorem dJ7_checkLength_df160_9 : decode cJ7_checkLength_df160 9 = .ok (.new 45, 3) := by decide +kernel
theorem dJ7_checkLength_df160_12 : decode cJ7_checkLength_df160 12 = .ok (.dup, 1) := by decide +kernel
theorem dJ7_checkLength_df160_13 : decode cJ7_checkLength_df160 13 = .ok (.invokespecial 47, 3) := by decide +kernel
theorem dJ7_checkLength_df160_16 : decode cJ7_checkLength_df160 16 = .ok (.iload_n 0, 1) := by decide +kernel
theorem dJ7_checkLength_df160_17 : decode cJ7_checkLength_df160 17 = .ok (.invokevirtual 54, 3) := by decide +kernel
theorem dJ7_checkLength_df160_20 : decode cJ7_checkLength_df160 20 = .ok (.ldc_w 337, 3) := by decide +kernel
theorem dJ7_checkLength_df160_23 : decode cJ7_checkLength_df160 23 = .ok (.invokevirtual 50, 3) := by decide +kernel
theorem dJ7_checkLength_df160_26 : decode cJ7_checkLength_df160 26 = .ok (.iload_n 1, 1) := by decide +kernel
theorem dJ7_checkLength_df160_27 : decode cJ7_checkLength_df160 27 = .ok (.invokevirtual 54, 3) := by decide +kernel
theorem dJ7_checkLength_df160_30 : decode cJ7_checkLength_df160 30 = .ok (.invokevirtual 61, 3) := by decide +kernel
theorem dJ7_checkLength_df160_33 : decode cJ7_checkLength_df160 33 = .ok (.invokespecial 65, 3) := by decide +kernel
theorem dJ7_checkLength_df160_36 : decode cJ7_checkLength_df160 36 = .ok (.athrow, 1) := by decide +kernel
theorem dJ7_checkLength_df160_37 : decode cJ7_checkLength_df160 37 = .ok (.return_, 1) := by decide +kernel
theorem dJ8_newLength_cabcc_0 : decode cJ8_newLength_cabcc 0 = .ok (.iload_n 0, 1) := by decide +kernel
theorem dJ8_newLength_cabcc_1 : decode cJ8_newLength_cabcc 1 = .ok (.iload_n 1, 1) := by decide +kernel
theorem dJ8_newLength_cabcc_2 : decode cJ8_newLength_cabcc 2 = .ok (.iload_n 2, 1) := by decide +kernel
theorem dJ8_newLength_cabcc_3 : decode cJ8_newLength_cabcc 3 = .ok (.invokestatic 194, 3) := by decide +kernel
theorem dJ8_newLength_cabcc_6 : decode cJ8_newLength_cabcc 6 = .ok (.iadd, 1) := by decide +kernel
theorem dJ8_newLength_cabcc_7 : decode cJ8_newLength_cabcc 7 = .ok (.istore_n 3, 1) := by decide +kernel
theorem dJ8_newLength_cabcc_8 : decode cJ8_newLength_cabcc 8 = .ok (.iconst 0, 1) := by decide +kernel
theorem dJ8_newLength_cabcc_9 : decode cJ8_newLength_cabcc 9 = .ok (.iload_n 3, 1) := by decide +kernel
theorem dJ8_newLength_cabcc_10 : decode cJ8_newLength_cabcc 10 = .ok (.if_icmp .ge 11, 3) := by decide +kernel
theorem dJ8_newLength_cabcc_13 : decode cJ8_newLength_cabcc 13 = .ok (.iload_n 3, 1) := by decide +kernel
theorem dJ8_newLength_cabcc_14 : decode cJ8_newLength_cabcc 14 = .ok (.ldc 200, 2) := by decide +kernel
theorem dJ8_newLength_cabcc_16 : decode cJ8_newLength_cabcc 16 = .ok (.if_icmp .gt 5, 3) := by decide +kernel
theorem dJ8_newLength_cabcc_19 : decode cJ8_newLength_cabcc 19 = .ok (.iload_n 3, 1) := by decide +kernel
theorem dJ8_newLength_cabcc_20 : decode cJ8_newLength_cabcc 20 = .ok (.ireturn, 1) := by decide +kernel
theorem dJ8_newLength_cabcc_21 : decode cJ8_newLength_cabcc 21 = .ok (.iload_n 0, 1) := by decide +kernel
theorem dJ8_newLength_cabcc_22 : decode cJ8_newLength_cabcc 22 = .ok (.iload_n 1, 1) := by decide +kernel
theorem dJ8_newLength_cabcc_23 : decode cJ8_newLength_cabcc 23 = .ok (.invokestatic 201, 3) := by decide +kernel
theorem dJ8_newLength_cabcc_26 : decode cJ8_newLength_cabcc 26 = .ok (.ireturn, 1) := by decide +kernel
theorem dJ5_newCapacity_0f7a4_0 : decode cJ5_newCapacity_0f7a4 0 = .ok (.aload_n 0, 1) := by decide +kernel
theorem dJ5_newCapacity_0f7a4_1 : decode cJ5_newCapacity_0f7a4 1 = .ok (.getfield 15, 3) := by decide +kernel
theorem dJ5_newCapacity_0f7a4_4 : decode cJ5_newCapacity_0f7a4 4 = .ok (.arraylength, 1) := by decide +kernel
theorem dJ5_newCapacity_0f7a4_5 : decode cJ5_newCapacity_0f7a4 5 = .ok (.istore_n 2, 1) := by decide +kernel
theorem dJ5_newCapacity_0f7a4_6 : decode cJ5_newCapacity_0f7a4 6 = .ok (.iload_n 1, 1) := by decide +kernel
theorem dJ5_newCapacity_0f7a4_7 : decode cJ5_newCapacity_0f7a4 7 = .ok (.aload_n 0, 1) := by decide +kernel
theorem dJ5_newCapacity_0f7a4_8 : decode cJ5_newCapacity_0f7a4 8 = .ok (.getfield 22, 3) := by decide +kernel
theorem dJ5_newCapacity_0f7a4_11 : decode cJ5_newCapacity_0f7a4 11 = .ok (.ishl, 1) := by decide +kernel
theorem dJ5_newCapacity_0f7a4_12 : decode cJ5_newCapacity_0f7a4 12 = .ok (.istore_n 3, 1) := by decide +kernel
theorem dJ5_newCapacity_0f7a4_13 : decode cJ5_newCapacity_0f7a4 13 = .ok (.iload_n 3, 1) := by decide +kernel
theorem dJ5_newCapacity_0f7a4_14 : decode cJ5_newCapacity_0f7a4 14 = .ok (.iload_n 2, 1) := by decide +kernel
theorem dJ5_newCapacity_0f7a4_15 : decode cJ5_newCapacity_0f7a4 15 = .ok (.isub, 1) := by decide +kernel
theorem dJ5_newCapacity_0f7a4_16 : decode cJ5_newCapacity_0f7a4 16 = .ok (.istore 4, 2) := by decide +kernel
theorem dJ5_newCapacity_0f7a4_18 : decode cJ5_newCapacity_0f7a4 18 = .ok (.iload_n 2, 1) := by decide +kernel
theorem dJ5_newCapacity_0f7a4_19 : decode cJ5_newCapacity_0f7a4 19 = .ok (.iload 4, 2) := by decide +kernel
theorem dJ5_newCapacity_0f7a4_21 : decode cJ5_newCapacity_0f7a4 21 = .ok (.iload_n 2, 1) := by decide +kernel
theorem dJ5_newCapacity_0f7a4_22 : decode cJ5_newCapacity_0f7a4 22 = .ok (.iconst 2, 1) := by decide +kernel
theorem dJ5_newCapacity_0f7a4_23 : decode cJ5_newCapacity_0f7a4 23 = .ok (.aload_n 0, 1) := by decide +kernel
theorem dJ5_newCapacity_0f7a4_24 : decode cJ5_newCapacity_0f7a4 24 = .ok (.getfield 22, 3) := by decide +kernel
theorem dJ5_newCapacity_0f7a4_27 : decode cJ5_newCapacity_0f7a4 27 = .ok (.ishl, 1) := by decide +kernel
theorem dJ5_newCapacity_0f7a4_28 : decode cJ5_newCapacity_0f7a4 28 = .ok (.iadd, 1) := by decide +kernel
theorem dJ5_newCapacity_0f7a4_29 : decode cJ5_newCapacity_0f7a4 29 = .ok (.invokestatic 114, 3) := by decide +kernel
theorem dJ5_newCapacity_0f7a4_32 : decode cJ5_newCapacity_0f7a4 32 = .ok (.istore 5, 2) := by decide +kernel
theorem dJ5_newCapacity_0f7a4_34 : decode cJ5_newCapacity_0f7a4 34 = .ok (.iload 5, 2) := by decide +kernel
theorem dJ5_newCapacity_0f7a4_36 : decode cJ5_newCapacity_0f7a4 36 = .ok (.ldc 39, 2) := by decide +kernel
theorem dJ5_newCapacity_0f7a4_38 : decode cJ5_newCapacity_0f7a4 38 = .ok (.if_icmp .ne 13, 3) := by decide +kernel
theorem dJ5_newCapacity_0f7a4_41 : decode cJ5_newCapacity_0f7a4 41 = .ok (.new 120, 3) := by decide +kernel
theorem dJ5_newCapacity_0f7a4_44 : decode cJ5_newCapacity_0f7a4 44 = .ok (.dup, 1) := by decide +kernel
theorem dJ5_newCapacity_0f7a4_45 : decode cJ5_newCapacity_0f7a4 45 = .ok (.ldc 122, 2) := by decide +kernel
theorem dJ5_newCapacity_0f7a4_47 : decode cJ5_newCapacity_0f7a4 47 = .ok (.invokespecial 124, 3) := by decide +kernel
theorem dJ5_newCapacity_0f7a4_50 : decode cJ5_newCapacity_0f7a4 50 = .ok (.athrow, 1) := by decide +kernel
theorem dJ5_newCapacity_0f7a4_51 : decode cJ5_newCapacity_0f7a4 51 = .ok (.iload 5, 2) := by decide +kernel
theorem dJ5_newCapacity_0f7a4_53 : decode cJ5_newCapacity_0f7a4 53 = .ok (.aload_n 0, 1) := by decide +kernel
theorem dJ5_newCapacity_0f7a4_54 : decode cJ5_newCapacity_0f7a4 54 = .ok (.getfield 22, 3) := by decide +kernel
theorem dJ5_newCapacity_0f7a4_57 : decode cJ5_newCapacity_0f7a4 57 = .ok (.ishr, 1) := by decide +kernel
theorem dJ5_newCapacity_0f7a4_58 : decode cJ5_newCapacity_0f7a4 58 = .ok (.ireturn, 1) := by decide +kernel
theorem dJ6_stringSize_0f7a4_0 : decode cJ6_stringSize_0f7a4 0 = .ok (.iconst 1, 1) := by decide +kernel
theorem dJ6_stringSize_0f7a4_1 : decode cJ6_stringSize_0f7a4 1 = .ok (.istore_n 1, 1) := by decide +kernel
theorem dJ6_stringSize_0f7a4_2 : decode cJ6_stringSize_0f7a4 2 = .ok (.iload_n 0, 1) := by decide +kernel
theorem dJ6_stringSize_0f7a4_3 : decode cJ6_stringSize_0f7a4 3 = .ok (.ifCond .lt 8, 3) := by decide +kernel
theorem dJ6_stringSize_0f7a4_6 : decode cJ6_stringSize_0f7a4 6 = .ok (.iconst 0, 1) := by decide +kernel
theorem dJ6_stringSize_0f7a4_7 : decode cJ6_stringSize_0f7a4 7 = .ok (.istore_n 1, 1) := by decide +kernel
theorem dJ6_stringSize_0f7a4_8 : decode cJ6_stringSize_0f7a4 8 = .ok (.iload_n 0, 1) := by decide +kernel
theorem dJ6_stringSize_0f7a4_9 : decode cJ6_stringSize_0f7a4 9 = .ok (.ineg, 1) := by decide +kernel
theorem dJ6_stringSize_0f7a4_10 : decode cJ6_stringSize_0f7a4 10 = .ok (.istore_n 0, 1) := by decide +kernel
theorem dJ6_stringSize_0f7a4_11 : decode cJ6_stringSize_0f7a4 11 = .ok (.bipush (-10), 2) := by decide +kernel
theorem dJ6_stringSize_0f7a4_13 : decode cJ6_stringSize_0f7a4 13 = .ok (.istore_n 2, 1) := by decide +kernel
theorem dJ6_stringSize_0f7a4_14 : decode cJ6_stringSize_0f7a4 14 = .ok (.iconst 1, 1) := by decide +kernel
theorem dJ6_stringSize_0f7a4_15 : decode cJ6_stringSize_0f7a4 15 = .ok (.istore_n 3, 1) := by decide +kernel
theorem dJ6_stringSize_0f7a4_16 : decode cJ6_stringSize_0f7a4 16 = .ok (.iload_n 3, 1) := by decide +kernel
theorem dJ6_stringSize_0f7a4_17 : decode cJ6_stringSize_0f7a4 17 = .ok (.bipush 10, 2) := by decide +kernel
theorem dJ6_stringSize_0f7a4_19 : decode cJ6_stringSize_0f7a4 19 = .ok (.if_icmp .ge 23, 3) := by decide +kernel
theorem dJ6_stringSize_0f7a4_22 : decode cJ6_stringSize_0f7a4 22 = .ok (.iload_n 0, 1) := by decide +kernel
theorem dJ6_stringSize_0f7a4_23 : decode cJ6_stringSize_0f7a4 23 = .ok (.iload_n 2, 1) := by decide +kernel
theorem dJ6_stringSize_0f7a4_24 : decode cJ6_stringSize_0f7a4 24 = .ok (.if_icmp .le 7, 3) := by decide +kernel
theorem dJ6_stringSize_0f7a4_27 : decode cJ6_stringSize_0f7a4 27 = .ok (.iload_n 3, 1) := by decide +kernel
theorem dJ6_stringSize_0f7a4_28 : decode cJ6_stringSize_0f7a4 28 = .ok (.iload_n 1, 1) := by decide +kernel
theorem dJ6_stringSize_0f7a4_29 : decode cJ6_stringSize_0f7a4 29 = .ok (.iadd, 1) := by decide +kernel
theorem dJ6_stringSize_0f7a4_30 : decode cJ6_stringSize_0f7a4 30 = .ok (.ireturn, 1) := by decide +kernel
theorem dJ6_stringSize_0f7a4_31 : decode cJ6_stringSize_0f7a4 31 = .ok (.bipush 10, 2) := by decide +kernel
theorem dJ6_stringSize_0f7a4_33 : decode cJ6_stringSize_0f7a4 33 = .ok (.iload_n 2, 1) := by decide +kernel
theorem dJ6_stringSize_0f7a4_34 : decode cJ6_stringSize_0f7a4 34 = .ok (.imul, 1) := by decide +kernel
theorem dJ6_stringSize_0f7a4_35 : decode cJ6_stringSize_0f7a4 35 = .ok (.istore_n 2, 1) := by decide +kernel
theorem dJ6_stringSize_0f7a4_36 : decode cJ6_stringSize_0f7a4 36 = .ok (.iinc 3 1, 3) := by decide +kernel
theorem dJ6_stringSize_0f7a4_39 : decode cJ6_stringSize_0f7a4 39 = .ok (.goto (-23), 3) := by decide +kernel
theorem dJ6_stringSize_0f7a4_42 : decode cJ6_stringSize_0f7a4 42 = .ok (.bipush 10, 2) := by decide +kernel
theorem dJ6_stringSize_0f7a4_44 : decode cJ6_stringSize_0f7a4 44 = .ok (.iload_n 1, 1) := by decide +kernel
theorem dJ6_stringSize_0f7a4_45 : decode cJ6_stringSize_0f7a4 45 = .ok (.iadd, 1) := by decide +kernel
theorem dJ6_stringSize_0f7a4_46 : decode cJ6_stringSize_0f7a4 46 = .ok (.ireturn, 1) := by decide +kernel
theorem dJ6_getChars_ba4f3_0 : decode cJ6_getChars_ba4f3 0 = .ok (.iload_n 1, 1) := by decide +kernel
theorem dJ6_getChars_ba4f3_1 : decode cJ6_getChars_ba4f3 1 = .ok (.istore 5, 2) := by decide +kernel
theorem dJ6_getChars_ba4f3_3 : decode cJ6_getChars_ba4f3 3 = .ok (.iload_n 0, 1) := by decide +kernel
theorem dJ6_getChars_ba4f3_4 : decode cJ6_getChars_ba4f3 4 = .ok (.ifCond .ge 7, 3) := by decide +kernel
theorem dJ6_getChars_ba4f3_7 : decode cJ6_getChars_ba4f3 7 = .ok (.iconst 1, 1) := by decide +kernel
theorem dJ6_getChars_ba4f3_8 : decode cJ6_getChars_ba4f3 8 = .ok (.goto 4, 3) := by decide +kernel
theorem dJ6_getChars_ba4f3_11 : decode cJ6_getChars_ba4f3 11 = .ok (.iconst 0, 1) := by decide +kernel
theorem dJ6_getChars_ba4f3_12 : decode cJ6_getChars_ba4f3 12 = .ok (.istore 6, 2) := by decide +kernel
theorem dJ6_getChars_ba4f3_14 : decode cJ6_getChars_ba4f3 14 = .ok (.iload 6, 2) := by decide +kernel
theorem dJ6_getChars_ba4f3_16 : decode cJ6_getChars_ba4f3 16 = .ok (.ifCond .ne 6, 3) := by decide +kernel
theorem dJ6_getChars_ba4f3_19 : decode cJ6_getChars_ba4f3 19 = .ok (.iload_n 0, 1) := by decide +kernel
theorem dJ6_getChars_ba4f3_20 : decode cJ6_getChars_ba4f3 20 = .ok (.ineg, 1) := by decide +kernel
theorem dJ6_getChars_ba4f3_21 : decode cJ6_getChars_ba4f3 21 = .ok (.istore_n 0, 1) := by decide +kernel
theorem dJ6_getChars_ba4f3_22 : decode cJ6_getChars_ba4f3 22 = .ok (.iload_n 0, 1) := by decide +kernel
theorem dJ6_getChars_ba4f3_23 : decode cJ6_getChars_ba4f3 23 = .ok (.bipush (-100), 2) := by decide +kernel
theorem dJ6_getChars_ba4f3_25 : decode cJ6_getChars_ba4f3 25 = .ok (.if_icmp .gt 47, 3) := by decide +kernel
theorem dJ6_getChars_ba4f3_28 : decode cJ6_getChars_ba4f3 28 = .ok (.iload_n 0, 1) := by decide +kernel
theorem dJ6_getChars_ba4f3_29 : decode cJ6_getChars_ba4f3 29 = .ok (.bipush 100, 2) := by decide +kernel
theorem dJ6_getChars_ba4f3_31 : decode cJ6_getChars_ba4f3 31 = .ok (.idiv, 1) := by decide +kernel
theorem dJ6_getChars_ba4f3_32 : decode cJ6_getChars_ba4f3 32 = .ok (.istore_n 3, 1) := by decide +kernel
theorem dJ6_getChars_ba4f3_33 : decode cJ6_getChars_ba4f3 33 = .ok (.iload_n 3, 1) := by decide +kernel
theorem dJ6_getChars_ba4f3_34 : decode cJ6_getChars_ba4f3 34 = .ok (.bipush 100, 2) := by decide +kernel
theorem dJ6_getChars_ba4f3_36 : decode cJ6_getChars_ba4f3 36 = .ok (.imul, 1) := by decide +kernel
theorem dJ6_getChars_ba4f3_37 : decode cJ6_getChars_ba4f3 37 = .ok (.iload_n 0, 1) := by decide +kernel
theorem dJ6_getChars_ba4f3_38 : decode cJ6_getChars_ba4f3 38 = .ok (.isub, 1) := by decide +kernel
theorem dJ6_getChars_ba4f3_39 : decode cJ6_getChars_ba4f3 39 = .ok (.istore 4, 2) := by decide +kernel
theorem dJ6_getChars_ba4f3_41 : decode cJ6_getChars_ba4f3 41 = .ok (.iload_n 3, 1) := by decide +kernel
theorem dJ6_getChars_ba4f3_42 : decode cJ6_getChars_ba4f3 42 = .ok (.istore_n 0, 1) := by decide +kernel
theorem dJ6_getChars_ba4f3_43 : decode cJ6_getChars_ba4f3 43 = .ok (.aload_n 2, 1) := by decide +kernel
theorem dJ6_getChars_ba4f3_44 : decode cJ6_getChars_ba4f3 44 = .ok (.iinc 5 (-1), 3) := by decide +kernel
theorem dJ6_getChars_ba4f3_47 : decode cJ6_getChars_ba4f3 47 = .ok (.iload 5, 2) := by decide +kernel
theorem dJ6_getChars_ba4f3_49 : decode cJ6_getChars_ba4f3 49 = .ok (.getstatic 83, 3) := by decide +kernel
theorem dJ6_getChars_ba4f3_52 : decode cJ6_getChars_ba4f3 52 = .ok (.iload 4, 2) := by decide +kernel
theorem dJ6_getChars_ba4f3_54 : decode cJ6_getChars_ba4f3 54 = .ok (.baload, 1) := by decide +kernel
theorem dJ6_getChars_ba4f3_55 : decode cJ6_getChars_ba4f3 55 = .ok (.bastore, 1) := by decide +kernel
theorem dJ6_getChars_ba4f3_56 : decode cJ6_getChars_ba4f3 56 = .ok (.aload_n 2, 1) := by decide +kernel
theorem dJ6_getChars_ba4f3_57 : decode cJ6_getChars_ba4f3 57 = .ok (.iinc 5 (-1), 3) := by decide +kernel
theorem dJ6_getChars_ba4f3_60 : decode cJ6_getChars_ba4f3 60 = .ok (.iload 5, 2) := by decide +kernel
theorem dJ6_getChars_ba4f3_62 : decode cJ6_getChars_ba4f3 62 = .ok (.getstatic 87, 3) := by decide +kernel
theorem dJ6_getChars_ba4f3_65 : decode cJ6_getChars_ba4f3 65 = .ok (.iload 4, 2) := by decide +kernel
theorem dJ6_getChars_ba4f3_67 : decode cJ6_getChars_ba4f3 67 = .ok (.baload, 1) := by decide +kernel
theorem dJ6_getChars_ba4f3_68 : decode cJ6_getChars_ba4f3 68 = .ok (.bastore, 1) := by decide +kernel
theorem dJ6_getChars_ba4f3_69 : decode cJ6_getChars_ba4f3 69 = .ok (.goto (-47), 3) := by decide +kernel
theorem dJ6_getChars_ba4f3_72 : decode cJ6_getChars_ba4f3 72 = .ok (.aload_n 2, 1) := by decide +kernel
theorem dJ6_getChars_ba4f3_73 : decode cJ6_getChars_ba4f3 73 = .ok (.iinc 5 (-1), 3) := by decide +kernel
theorem dJ6_getChars_ba4f3_76 : decode cJ6_getChars_ba4f3 76 = .ok (.iload 5, 2) := by decide +kernel
theorem dJ6_getChars_ba4f3_78 : decode cJ6_getChars_ba4f3 78 = .ok (.getstatic 83, 3) := by decide +kernel
theorem dJ6_getChars_ba4f3_81 : decode cJ6_getChars_ba4f3 81 = .ok (.iload_n 0, 1) := by decide +kernel
theorem dJ6_getChars_ba4f3_82 : decode cJ6_getChars_ba4f3 82 = .ok (.ineg, 1) := by decide +kernel
theorem dJ6_getChars_ba4f3_83 : decode cJ6_getChars_ba4f3 83 = .ok (.baload, 1) := by decide +kernel
theorem dJ6_getChars_ba4f3_84 : decode cJ6_getChars_ba4f3 84 = .ok (.bastore, 1) := by decide +kernel
theorem dJ6_getChars_ba4f3_85 : decode cJ6_getChars_ba4f3 85 = .ok (.iload_n 0, 1) := by decide +kernel
theorem dJ6_getChars_ba4f3_86 : decode cJ6_getChars_ba4f3 86 = .ok (.bipush (-9), 2) := by decide +kernel
theorem dJ6_getChars_ba4f3_88 : decode cJ6_getChars_ba4f3 88 = .ok (.if_icmp .ge 16, 3) := by decide +kernel
theorem dJ6_getChars_ba4f3_91 : decode cJ6_getChars_ba4f3 91 = .ok (.aload_n 2, 1) := by decide +kernel
theorem dJ6_getChars_ba4f3_92 : decode cJ6_getChars_ba4f3 92 = .ok (.iinc 5 (-1), 3) := by decide +kernel
theorem dJ6_getChars_ba4f3_95 : decode cJ6_getChars_ba4f3 95 = .ok (.iload 5, 2) := by decide +kernel
theorem dJ6_getChars_ba4f3_97 : decode cJ6_getChars_ba4f3 97 = .ok (.getstatic 87, 3) := by decide +kernel
theorem dJ6_getChars_ba4f3_100 : decode cJ6_getChars_ba4f3 100 = .ok (.iload_n 0, 1) := by decide +kernel
theorem dJ6_getChars_ba4f3_101 : decode cJ6_getChars_ba4f3 101 = .ok (.ineg, 1) := by decide +kernel
theorem dJ6_getChars_ba4f3_102 : decode cJ6_getChars_ba4f3 102 = .ok (.baload, 1) := by decide +kernel
theorem dJ6_getChars_ba4f3_103 : decode cJ6_getChars_ba4f3 103 = .ok (.bastore, 1) := by decide +kernel
theorem dJ6_getChars_ba4f3_104 : decode cJ6_getChars_ba4f3 104 = .ok (.iload 6, 2) := by decide +kernel
theorem dJ6_getChars_ba4f3_106 : decode cJ6_getChars_ba4f3 106 = .ok (.ifCond .eq 12, 3) := by decide +kernel
theorem dJ6_getChars_ba4f3_109 : decode cJ6_getChars_ba4f3 109 = .ok (.aload_n 2, 1) := by decide +kernel
theorem dJ6_getChars_ba4f3_110 : decode cJ6_getChars_ba4f3 110 = .ok (.iinc 5 (-1), 3) := by decide +kernel
theorem dJ6_getChars_ba4f3_113 : decode cJ6_getChars_ba4f3 113 = .ok (.iload 5, 2) := by decide +kernel
theorem dJ6_getChars_ba4f3_115 : decode cJ6_getChars_ba4f3 115 = .ok (.bipush 45, 2) := by decide +kernel
theorem dJ6_getChars_ba4f3_117 : decode cJ6_getChars_ba4f3 117 = .ok (.bastore, 1) := by decide +kernel
theorem dJ6_getChars_ba4f3_118 : decode cJ6_getChars_ba4f3 118 = .ok (.iload 5, 2) := by decide +kernel
theorem dJ6_getChars_ba4f3_120 : decode cJ6_getChars_ba4f3 120 = .ok (.ireturn, 1) := by decide +kernel
theorem pq_0 : Cond.constantLong RJ13 314 (6148914691236517205 : Int64) ∈ pd_gt := pd_in 756 (by decide +kernel) (by decide +kernel)
theorem pq_1 : Cond.constantLong RJ13 316 (3689348814741910323 : Int64) ∈ pd_gt := pd_in 757 (by decide +kernel) (by decide +kernel)
theorem pq_2 : Cond.constantLong RJ13 318 (1085102592571150095 : Int64) ∈ pd_gt := pd_in 758 (by decide +kernel) (by decide +kernel)
theorem pq_3 : Cond.fieldLink RJ0 38 "java/lang/String" "COMPACT_STRINGS" "Z" ∈ pd_gt := pd_in 883 (by decide +kernel) (by decide +kernel)
theorem pq_4 : Cond.fieldLink RJ0 15 "java/lang/String" "coder" "B" ∈ pd_gt := pd_in 996 (by decide +kernel) (by decide +kernel)
theorem pq_5 : Cond.fieldLink RJ0 9 "java/lang/String" "value" "[B" ∈ pd_gt := pd_in 995 (by decide +kernel) (by decide +kernel)
theorem pq_6 : Cond.methodLink RJ0 335 yJ0_coder_7d493 ∈ pd_gt := pd_in 879 (by decide +kernel) (by decide +kernel)
theorem pq_7 : Cond.code yJ0_coder_7d493 cJ0_coder_7d493 1 (some .byte) ∈ pd_gt := pd_in 882 (by decide +kernel) (by decide +kernel)
theorem pq_8 : Cond.initialized yJ0_coder_7d493.cls ∈ pd_gt := pd_in 53 (by decide +kernel) (by decide +kernel)
theorem pq_9 : Cond.instanceMethod yJ0_coder_7d493 ∈ pd_gt := pd_in 880 (by decide +kernel) (by decide +kernel)
theorem pq_10 : Cond.selects yJ0_coder_7d493.cls yJ0_coder_7d493 yJ0_coder_7d493 ∈ pd_gt := pd_in 881 (by decide +kernel) (by decide +kernel)
theorem pq_11 : Cond.methodLink RJ1 9 yJ0_checkIndex_df160 ∈ pd_gt := pd_in 1065 (by decide +kernel) (by decide +kernel)
theorem pq_12 : Cond.static yJ0_checkIndex_df160 ∈ pd_gt := pd_in 1028 (by decide +kernel) (by decide +kernel)
theorem pq_13 : Cond.code yJ0_checkIndex_df160 cJ0_checkIndex_df160 2 none ∈ pd_gt := pd_in 1029 (by decide +kernel) (by decide +kernel)
theorem pq_14 : Cond.initialized yJ0_checkIndex_df160.cls ∈ pd_gt := pd_in 53 (by decide +kernel) (by decide +kernel)
theorem pq_15 : Cond.methodLink RJ0 492 yJ0_isLatin1_aae02 ∈ pd_gt := pd_in 1058 (by decide +kernel) (by decide +kernel)
theorem pq_16 : Cond.code yJ0_isLatin1_aae02 cJ0_isLatin1_aae02 1 (some .boolean) ∈ pd_gt := pd_in 1061 (by decide +kernel) (by decide +kernel)
theorem pq_17 : Cond.initialized yJ0_isLatin1_aae02.cls ∈ pd_gt := pd_in 53 (by decide +kernel) (by decide +kernel)
theorem pq_18 : Cond.instanceMethod yJ0_isLatin1_aae02 ∈ pd_gt := pd_in 1059 (by decide +kernel) (by decide +kernel)
theorem pq_19 : Cond.selects yJ0_isLatin1_aae02.cls yJ0_isLatin1_aae02 yJ0_isLatin1_aae02 ∈ pd_gt := pd_in 1060 (by decide +kernel) (by decide +kernel)
theorem pq_20 : Cond.methodLink RJ0 495 yJ1_charAt_3b067 ∈ pd_gt := pd_in 1062 (by decide +kernel) (by decide +kernel)
theorem pq_21 : Cond.code yJ1_charAt_3b067 cJ1_charAt_3b067 2 (some .char) ∈ pd_gt := pd_in 1064 (by decide +kernel) (by decide +kernel)
theorem pq_22 : Cond.initialized yJ1_charAt_3b067.cls ∈ pd_gt := pd_in 58 (by decide +kernel) (by decide +kernel)
theorem pq_23 : Cond.static yJ1_charAt_3b067 ∈ pd_gt := pd_in 1063 (by decide +kernel) (by decide +kernel)
theorem pq_24 : Cond.methodLink RJ0 212 arraycopyName ∈ pd_gt := pd_in 916 (by decide +kernel) (by decide +kernel)
theorem pq_25 : Cond.native arraycopyName ∈ pd_gt := pd_in 683 (by decide +kernel) (by decide +kernel)
theorem pq_26 : Cond.static arraycopyName ∈ pd_gt := pd_in 682 (by decide +kernel) (by decide +kernel)
theorem pq_27 : Cond.initialized "java/lang/System" ∈ pd_gt := pd_in 50 (by decide +kernel) (by decide +kernel)
theorem pq_28 : Cond.fieldLink RJ5 79 "java/lang/AbstractStringBuilder" "count" "I" ∈ pd_gt := pd_in 791 (by decide +kernel) (by decide +kernel)
theorem pq_29 : Cond.methodLink RJ4 343 yJ5_length_8abf5 ∈ pd_gt := pd_in 970 (by decide +kernel) (by decide +kernel)
theorem pq_30 : Cond.code yJ5_length_8abf5 cJ5_length_8abf5 1 (some .int) ∈ pd_gt := pd_in 971 (by decide +kernel) (by decide +kernel)
theorem pq_31 : Cond.initialized yJ5_length_8abf5.cls ∈ pd_gt := pd_in 51 (by decide +kernel) (by decide +kernel)
theorem pq_32 : Cond.instanceMethod yJ5_length_8abf5 ∈ pd_gt := pd_in 965 (by decide +kernel) (by decide +kernel)
theorem pq_33 : Cond.sameMethod yJ5_length_8abf5.cls yJ5_length_8abf5.cls yJ5_length_8abf5.name yJ5_length_8abf5.desc ∈ pd_gt := pd_in 966 (by decide +kernel) (by decide +kernel)
theorem pq_34 : Cond.superclass RJ4 yJ5_length_8abf5.cls ∈ pd_gt := pd_in 800 (by decide +kernel) (by decide +kernel)
theorem pq_35 : Cond.fieldLink RJ5 15 "java/lang/AbstractStringBuilder" "value" "[B" ∈ pd_gt := pd_in 788 (by decide +kernel) (by decide +kernel)
theorem pq_36 : Cond.fieldLink RJ5 18 "java/lang/String" "COMPACT_STRINGS" "Z" ∈ pd_gt := pd_in 779 (by decide +kernel) (by decide +kernel)
theorem pq_37 : Cond.fieldLink RJ5 22 "java/lang/AbstractStringBuilder" "coder" "B" ∈ pd_gt := pd_in 789 (by decide +kernel) (by decide +kernel)
theorem pq_38 : Cond.methodLink RJ8 194 Lib.Math.max.name ∈ pd_gt := pd_in 824 (by decide +kernel) (by decide +kernel)
theorem pq_39 : Cond.static Lib.Math.max.name ∈ pd_gt := pd_in 825 (by decide +kernel) (by decide +kernel)
theorem pq_40 : Cond.initialized "java/lang/Math" ∈ pd_gt := pd_in 49 (by decide +kernel) (by decide +kernel)
theorem pq_41 : Cond.code Lib.Math.max.name Lib.Math.max.code 2 (some .int) ∈ pd_gt := pd_in 826 (by decide +kernel) (by decide +kernel)
theorem pq_42 : Cond.constant RJ8 200 (2147483639 : Int32) ∈ pd_gt := pd_in 827 (by decide +kernel) (by decide +kernel)
theorem pq_43 : Cond.methodLink RJ5 114 yJ8_newLength_cabcc ∈ pd_gt := pd_in 821 (by decide +kernel) (by decide +kernel)
theorem pq_44 : Cond.code yJ8_newLength_cabcc cJ8_newLength_cabcc 4 (some .int) ∈ pd_gt := pd_in 823 (by decide +kernel) (by decide +kernel)
theorem pq_45 : Cond.initialized yJ8_newLength_cabcc.cls ∈ pd_gt := pd_in 55 (by decide +kernel) (by decide +kernel)
theorem pq_46 : Cond.static yJ8_newLength_cabcc ∈ pd_gt := pd_in 822 (by decide +kernel) (by decide +kernel)
theorem pq_47 : Cond.constant RJ5 39 (2147483647 : Int32) ∈ pd_gt := pd_in 831 (by decide +kernel) (by decide +kernel)
theorem pq_48 : Cond.fieldLink RJ6 83 "java/lang/Integer" "DigitOnes" "[B" ∈ pd_gt := pd_in 931 (by decide +kernel) (by decide +kernel)
theorem pq_49 : Cond.fieldLink RJ6 87 "java/lang/Integer" "DigitTens" "[B" ∈ pd_gt := pd_in 933 (by decide +kernel) (by decide +kernel)
def pfJ13_bitCount_95d88 (sh : pd_S) (n : Nat) (F : pd_F) (x0 : Int) : Option (Int × pd_F) :=
  pd_l (pd_W (x0 - (pd_And (pd_Ushr x0 1) 6148914691236517205))) fun x0_9 =>
  pd_l (pd_W ((pd_And x0_9 3689348814741910323) + (pd_And (pd_Ushr x0_9 2) 3689348814741910323))) fun x0_23 =>
  pd_l (pd_And (pd_W (x0_23 + (pd_Ushr x0_23 4))) 1085102592571150095) fun x0_33 =>
  pd_l (pd_W (x0_33 + (pd_Ushr x0_33 8))) fun x0_40 =>
  pd_l (pd_W (x0_40 + (pd_Ushr x0_40 16))) fun x0_47 =>
  pd_l (pd_W (x0_47 + (pd_Ushr x0_47 32))) fun x0_54 =>
  some (pd_and (pd_w x0_54) 127, F)
def pfJ0_coder_7d493 (sh : pd_S) (n : Nat) (F : pd_F) (x0 : Int) : Option (Int × pd_F) :=
  if (1 : Int) = 0 then
    pd_i (pd_b 1 = 1) <|
    some (1, F)
  else
    pd_i (pd_ob sh 12 x0 = true) <|
    pd_i (pd_b (F x0 1) = (F x0 1)) <|
    some (F x0 1, F)
def pfJ0_length_8abf5 (sh : pd_S) (n : Nat) (F : pd_F) (x0 : Int) : Option (Int × pd_F) :=
  pd_i (pd_ob sh 12 x0 = true) <|
  pd_i (0 ≤ pd_ln sh 0 1 (F x0 0)) <|
  Option.bind (pfJ0_coder_7d493 sh n F x0) fun qr4 => pd_l qr4.1 fun r4 => pd_l qr4.2 fun F3 =>
  some (pd_shr (pd_ln sh 0 1 (F x0 0)) r4, F3)
def pfJ0_isLatin1_aae02 (sh : pd_S) (n : Nat) (F : pd_F) (x0 : Int) : Option (Int × pd_F) :=
  if (1 : Int) = 0 then
    some (0, F)
  else
    pd_i (pd_ob sh 12 x0 = true) <|
    if (F x0 1) ≠ 0 then
      some (0, F)
    else
      some (1, F)
def pfJ1_charAt_3b067 (sh : pd_S) (n : Nat) (F : pd_F) (x0 : Int) (x1 : Int) : Option (Int × pd_F) :=
  pd_i (0 ≤ pd_ln sh 0 1 x0) <|
  pd_i (0 ≤ x1 ∧ x1 < (pd_ln sh 0 1 x0)) <|
  pd_i (pd_ib sh 0 1 x0 x1 = true) <|
  pd_i (pd_c (pd_c (pd_and (F x0 x1) 255)) = (pd_c (pd_and (F x0 x1) 255))) <|
  some (pd_c (pd_and (F x0 x1) 255), F)
def pfJ0_charAt_5068e (sh : pd_S) (n : Nat) (F : pd_F) (x0 : Int) (x1 : Int) : Option (Int × pd_F) :=
  pd_i (pd_ob sh 12 x0 = true) <|
  Option.bind (pfJ0_isLatin1_aae02 sh n F x0) fun qr3 => pd_l qr3.1 fun r3 => pd_l qr3.2 fun F1 =>
  if r3 = 0 then
    none
  else
    Option.bind (pfJ1_charAt_3b067 sh n F1 (F1 x0 0) x1) fun qr5 => pd_l qr5.1 fun r5 => pd_l qr5.2 fun F4 =>
    pd_i (pd_c r5 = r5) <|
    some (r5, F4)
def pfJ0_getBytes_840e7 (sh : pd_S) (n : Nat) (F : pd_F) (x0 : Int) (x1 : Int) (x2 : Int) (x3 : Int) : Option pd_F :=
  pd_i (pd_ob sh 12 x0 = true) <|
  Option.bind (pfJ0_coder_7d493 sh n F x0) fun qr3 => pd_l qr3.1 fun r3 => pd_l qr3.2 fun F1 =>
  if r3 ≠ x3 then
    pd_i (0 ≤ pd_ln sh 0 1 (F1 x0 0)) <|
    none
  else
    pd_i (0 ≤ pd_ln sh 0 1 (F1 x0 0)) <|
    pd_i (pd_cgk sh 1 (F1 x0 0) 0 x1 (pd_shl x2 x3) (pd_ln sh 0 1 (F1 x0 0)) = true) <|
    pd_i (pd_by F1 (F1 x0 0) 0 (pd_ln sh 0 1 (F1 x0 0)) = true) <|
    pd_l (pd_cp F1 (F1 x0 0) 0 x1 (pd_shl x2 x3) (pd_ln sh 0 1 (F1 x0 0))) fun F8 =>
    some F8
def pfJ1_canEncode_fc78d (sh : pd_S) (n : Nat) (F : pd_F) (x0 : Int) : Option (Int × pd_F) :=
  if x0 > 255 then
    some (0, F)
  else
    some (1, F)
def pfJ5_length_8abf5 (sh : pd_S) (n : Nat) (F : pd_F) (x0 : Int) : Option (Int × pd_F) :=
  pd_i (pd_ob sh 13 x0 = true) <|
  some (F x0 3, F)
def pfJ4_length_8abf5 (sh : pd_S) (n : Nat) (F : pd_F) (x0 : Int) : Option (Int × pd_F) :=
  pd_i (pd_ob sh 13 x0 = true) <|
  Option.bind (pfJ5_length_8abf5 sh n F x0) fun qr3 => pd_l qr3.1 fun r3 => pd_l qr3.2 fun F1 =>
  some (r3, F1)
def pfJ5_getValue_6d5f1 (sh : pd_S) (n : Nat) (F : pd_F) (x0 : Int) : Option (Int × pd_F) :=
  pd_i (pd_ob sh 13 x0 = true) <|
  some (F x0 0, F)
def pfJ5_isLatin1_aae02 (sh : pd_S) (n : Nat) (F : pd_F) (x0 : Int) : Option (Int × pd_F) :=
  if (1 : Int) = 0 then
    some (0, F)
  else
    pd_i (pd_ob sh 13 x0 = true) <|
    if (F x0 1) ≠ 0 then
      some (0, F)
    else
      some (1, F)
def pfJ7_checkLength_df160 (sh : pd_S) (n : Nat) (F : pd_F) (x0 : Int) (x1 : Int) : Option pd_F :=
  if x1 ≥ x0 then
    some F
  else
    none
def pfJ8_newLength_cabcc_b21 (sh : pd_S) (n : Nat)  (F : pd_F) (x0 : Int) (x1 : Int) : Option (Int × pd_F) :=
  none
def pfJ8_newLength_cabcc (sh : pd_S) (n : Nat) (F : pd_F) (x0 : Int) (x1 : Int) (x2 : Int) : Option (Int × pd_F) :=
  pd_l (pd_w (x0 + (max x1 x2))) fun x3_7 =>
  if 0 ≥ x3_7 then
    pfJ8_newLength_cabcc_b21 sh n F x0 x1
  else
    if x3_7 > 2147483639 then
      pfJ8_newLength_cabcc_b21 sh n F x0 x1
    else
      some (x3_7, F)
def pfJ5_newCapacity_0f7a4 (sh : pd_S) (n : Nat) (F : pd_F) (x0 : Int) (x1 : Int) : Option (Int × pd_F) :=
  pd_i (pd_ob sh 13 x0 = true) <|
  pd_i (0 ≤ pd_ln sh 0 1 (F x0 0)) <|
  pd_l (pd_ln sh 0 1 (F x0 0)) fun x2_5 =>
  pd_l (pd_shl x1 (F x0 1)) fun x3_12 =>
  pd_l (pd_w (x3_12 - x2_5)) fun x4_16 =>
  Option.bind (pfJ8_newLength_cabcc sh n F x2_5 x4_16 (pd_w (x2_5 + (pd_shl 2 (F x0 1))))) fun qr4 => pd_l qr4.1 fun r4 => pd_l qr4.2 fun F3 =>
  if r4 ≠ 2147483647 then
    some (pd_shr r4 (F3 x0 1), F3)
  else
    none
def pfJ6_stringSize_0f7a4_b16 (sh : pd_S) (n : Nat)  : Nat → pd_F → Int → Int → Int → Int → Option (Int × pd_F)
  | 0, _, _, _, _, _ => none
  | k + 1, F, x0, x1, x2, x3 =>
    if x3 ≥ 10 then
      some (pd_w (10 + x1), F)
    else
      if x0 ≤ x2 then
        pd_l (pd_w (10 * x2)) fun x2_35 =>
        pd_l (pd_w (x3 + 1)) fun x3_36 =>
        pfJ6_stringSize_0f7a4_b16 sh n k F x0 x1 x2_35 x3_36
      else
        some (pd_w (x3 + x1), F)
def pfJ6_stringSize_0f7a4_b11 (sh : pd_S) (n : Nat)  (F : pd_F) (x0 : Int) (x1 : Int) : Option (Int × pd_F) :=
  pfJ6_stringSize_0f7a4_b16 sh n n F x0 x1 (-10) 1
def pfJ6_stringSize_0f7a4 (sh : pd_S) (n : Nat) (F : pd_F) (x0 : Int) : Option (Int × pd_F) :=
  if x0 < 0 then
    pfJ6_stringSize_0f7a4_b11 sh n F x0 1
  else
    pd_l (pd_w (-x0)) fun x0_10 =>
    pfJ6_stringSize_0f7a4_b11 sh n F x0_10 0
def pfJ6_getChars_ba4f3_b104 (sh : pd_S) (n : Nat)  (F : pd_F) (x2 : Int) (x5 : Int) (x6 : Int) : Option (Int × pd_F) :=
  if x6 = 0 then
    some (x5, F)
  else
    pd_l (pd_w (x5 + (-1))) fun x5_110 =>
    pd_i (pd_ib sh 0 1 x2 x5_110 = true) <|
    pd_l (pd_up F x2 x5_110 (pd_b 45)) fun F2 =>
    some (x5_110, F2)
def pfJ6_getChars_ba4f3_b72 (sh : pd_S) (n : Nat)  (F : pd_F) (x0 : Int) (x2 : Int) (x5 : Int) (x6 : Int) : Option (Int × pd_F) :=
  pd_l (pd_w (x5 + (-1))) fun x5_73 =>
  pd_i (0 ≤ (pd_w (-x0)) ∧ (pd_w (-x0)) < 100) <|
  pd_i (pd_ib sh 0 1 x2 x5_73 = true) <|
  pd_l (pd_up F x2 x5_73 (pd_b (48 + (pd_w (-x0)) % 10))) fun F5 =>
  if x0 ≥ (-9) then
    pfJ6_getChars_ba4f3_b104 sh n F5 x2 x5_73 x6
  else
    pd_l (pd_w (x5_73 + (-1))) fun x5_92 =>
    pd_i (pd_ib sh 0 1 x2 x5_92 = true) <|
    pd_l (pd_up F5 x2 x5_92 (pd_b (48 + (pd_w (-x0)) / 10))) fun F7 =>
    pfJ6_getChars_ba4f3_b104 sh n F7 x2 x5_92 x6
def pfJ6_getChars_ba4f3_b22 (sh : pd_S) (n : Nat)  : Nat → pd_F → Int → Int → Int → Int → Option (Int × pd_F)
  | 0, _, _, _, _, _ => none
  | k + 1, F, x0, x2, x5, x6 =>
    if x0 > (-100) then
      pfJ6_getChars_ba4f3_b72 sh n F x0 x2 x5 x6
    else
      pd_l (pd_w (Int.tdiv x0 100)) fun x3_32 =>
      pd_l (pd_w ((pd_w (x3_32 * 100)) - x0)) fun x4_39 =>
      pd_l (pd_w (x5 + (-1))) fun x5_44 =>
      pd_i (0 ≤ x4_39 ∧ x4_39 < 100) <|
      pd_i (pd_ib sh 0 1 x2 x5_44 = true) <|
      pd_l (pd_up F x2 x5_44 (pd_b (48 + x4_39 % 10))) fun F10 =>
      pd_l (pd_w (x5_44 + (-1))) fun x5_57 =>
      pd_i (pd_ib sh 0 1 x2 x5_57 = true) <|
      pd_l (pd_up F10 x2 x5_57 (pd_b (48 + x4_39 / 10))) fun F12 =>
      pfJ6_getChars_ba4f3_b22 sh n k F12 x3_32 x2 x5_57 x6
def pfJ6_getChars_ba4f3_b12 (sh : pd_S) (n : Nat)  (F : pd_F) (x0 : Int) (x2 : Int) (x5 : Int) (t0 : Int) : Option (Int × pd_F) :=
  if t0 ≠ 0 then
    pfJ6_getChars_ba4f3_b22 sh n n F x0 x2 x5 t0
  else
    pd_l (pd_w (-x0)) fun x0_21 =>
    pfJ6_getChars_ba4f3_b22 sh n n F x0_21 x2 x5 t0
def pfJ6_getChars_ba4f3 (sh : pd_S) (n : Nat) (F : pd_F) (x0 : Int) (x1 : Int) (x2 : Int) : Option (Int × pd_F) :=
  if x0 ≥ 0 then
    pfJ6_getChars_ba4f3_b12 sh n F x0 x2 x1 0
  else
    pfJ6_getChars_ba4f3_b12 sh n F x0 x2 x1 1
set_option maxHeartbeats 4000000 in
set_option maxRecDepth 100000 in
theorem pkJ13_bitCount_95d88 (l : Launch) {al : Bool} {sh : pd_S} {n : Nat} {F : pd_F} {x0 : Int} {ρ : Int} {Fz : pd_F} (hf : pfJ13_bitCount_95d88 sh n F x0 = some (ρ, Fz)) : pd_C l yJ13_bitCount_95d88 (Cond.code yJ13_bitCount_95d88 cJ13_bitCount_95d88 2 (some .int) :: pd_gt) (pd_rm 1 0 0) al 0 0 sh F [pd_J x0] (some (pd_I ρ)) sh Fz := by
  unfold pfJ13_bitCount_95d88 at hf
  refine pd_body (L := [pd_J x0, pd_N]) (by decide +kernel) (Nat.le_of_ble_eq_true rfl) rfl (fun E => ?_)
  refine pd_lload_n (i := 0) dJ13_bitCount_95d88_0 rfl rfl ?_
  refine pd_lload_n (i := 0) dJ13_bitCount_95d88_1 rfl rfl ?_
  refine pd_iconst dJ13_bitCount_95d88_2 (by decide) ?_
  refine pd_lushr dJ13_bitCount_95d88_3 ?_
  refine pd_ldc2 (x := 6148914691236517205) dJ13_bitCount_95d88_4 pq_0 (by decide +kernel) ?_
  refine pd_land dJ13_bitCount_95d88_7 ?_
  refine pd_lsub dJ13_bitCount_95d88_8 ?_
  refine pd_topJ (fun x0_9 ex0_9 => ?_)
  have hf := pd_lt hf ex0_9
  clear ex0_9
  refine pd_lstore_n (L' := [pd_J x0_9, pd_N]) dJ13_bitCount_95d88_9 rfl (by decide) rfl ?_
  refine pd_lload_n (i := 0) dJ13_bitCount_95d88_10 rfl rfl ?_
  refine pd_ldc2 (x := 3689348814741910323) dJ13_bitCount_95d88_11 pq_1 (by decide +kernel) ?_
  refine pd_land dJ13_bitCount_95d88_14 ?_
  refine pd_lload_n (i := 0) dJ13_bitCount_95d88_15 rfl rfl ?_
  refine pd_iconst dJ13_bitCount_95d88_16 (by decide) ?_
  refine pd_lushr dJ13_bitCount_95d88_17 ?_
  refine pd_ldc2 (x := 3689348814741910323) dJ13_bitCount_95d88_18 pq_1 (by decide +kernel) ?_
  refine pd_land dJ13_bitCount_95d88_21 ?_
  refine pd_ladd dJ13_bitCount_95d88_22 ?_
  refine pd_topJ (fun x0_23 ex0_23 => ?_)
  have hf := pd_lt hf ex0_23
  clear ex0_23
  refine pd_lstore_n (L' := [pd_J x0_23, pd_N]) dJ13_bitCount_95d88_23 rfl (by decide) rfl ?_
  refine pd_lload_n (i := 0) dJ13_bitCount_95d88_24 rfl rfl ?_
  refine pd_lload_n (i := 0) dJ13_bitCount_95d88_25 rfl rfl ?_
  refine pd_iconst dJ13_bitCount_95d88_26 (by decide) ?_
  refine pd_lushr dJ13_bitCount_95d88_27 ?_
  refine pd_ladd dJ13_bitCount_95d88_28 ?_
  refine pd_ldc2 (x := 1085102592571150095) dJ13_bitCount_95d88_29 pq_2 (by decide +kernel) ?_
  refine pd_land dJ13_bitCount_95d88_32 ?_
  refine pd_topJ (fun x0_33 ex0_33 => ?_)
  have hf := pd_lt hf ex0_33
  clear ex0_33
  refine pd_lstore_n (L' := [pd_J x0_33, pd_N]) dJ13_bitCount_95d88_33 rfl (by decide) rfl ?_
  refine pd_lload_n (i := 0) dJ13_bitCount_95d88_34 rfl rfl ?_
  refine pd_lload_n (i := 0) dJ13_bitCount_95d88_35 rfl rfl ?_
  refine pd_bipush dJ13_bitCount_95d88_36 (by decide) ?_
  refine pd_lushr dJ13_bitCount_95d88_38 ?_
  refine pd_ladd dJ13_bitCount_95d88_39 ?_
  refine pd_topJ (fun x0_40 ex0_40 => ?_)
  have hf := pd_lt hf ex0_40
  clear ex0_40
  refine pd_lstore_n (L' := [pd_J x0_40, pd_N]) dJ13_bitCount_95d88_40 rfl (by decide) rfl ?_
  refine pd_lload_n (i := 0) dJ13_bitCount_95d88_41 rfl rfl ?_
  refine pd_lload_n (i := 0) dJ13_bitCount_95d88_42 rfl rfl ?_
  refine pd_bipush dJ13_bitCount_95d88_43 (by decide) ?_
  refine pd_lushr dJ13_bitCount_95d88_45 ?_
  refine pd_ladd dJ13_bitCount_95d88_46 ?_
  refine pd_topJ (fun x0_47 ex0_47 => ?_)
  have hf := pd_lt hf ex0_47
  clear ex0_47
  refine pd_lstore_n (L' := [pd_J x0_47, pd_N]) dJ13_bitCount_95d88_47 rfl (by decide) rfl ?_
  refine pd_lload_n (i := 0) dJ13_bitCount_95d88_48 rfl rfl ?_
  refine pd_lload_n (i := 0) dJ13_bitCount_95d88_49 rfl rfl ?_
  refine pd_bipush dJ13_bitCount_95d88_50 (by decide) ?_
  refine pd_lushr dJ13_bitCount_95d88_52 ?_
  refine pd_ladd dJ13_bitCount_95d88_53 ?_
  refine pd_topJ (fun x0_54 ex0_54 => ?_)
  have hf := pd_lt hf ex0_54
  clear ex0_54
  refine pd_lstore_n (L' := [pd_J x0_54, pd_N]) dJ13_bitCount_95d88_54 rfl (by decide) rfl ?_
  refine pd_lload_n (i := 0) dJ13_bitCount_95d88_55 rfl rfl ?_
  refine pd_l2i dJ13_bitCount_95d88_56 ?_
  refine pd_bipush dJ13_bitCount_95d88_57 (by decide) ?_
  refine pd_iand dJ13_bitCount_95d88_59 ?_
  obtain ⟨h1, h2⟩ := pd_inj hf
  subst h1 h2
  exact pd_iret dJ13_bitCount_95d88_60 rfl (Nat.le_refl 0) (Nat.le_refl 0)
set_option maxHeartbeats 4000000 in
set_option maxRecDepth 100000 in
theorem pkJ0_coder_7d493 (l : Launch) {al : Bool} {sh : pd_S} {n : Nat} {F : pd_F} {x0 : Int} {ρ : Int} {Fz : pd_F} (hf : pfJ0_coder_7d493 sh n F x0 = some (ρ, Fz)) : pd_C l yJ0_coder_7d493 (Cond.code yJ0_coder_7d493 cJ0_coder_7d493 1 (some .byte) :: pd_gt) (pd_rm 1 0 0) al 0 0 sh F [pd_R x0] (some (pd_I ρ)) sh Fz := by
  unfold pfJ0_coder_7d493 at hf
  refine pd_body (L := [pd_R x0]) (by decide +kernel) (Nat.le_of_ble_eq_true rfl) rfl (fun E => ?_)
  refine pd_gsC dJ0_coder_7d493_0 pq_3 ?_
  refine pd_if_eq (tgt := 13) dJ0_coder_7d493_3 (by decide) (fun hc => ?_) (fun hc => ?_)
  · have hf := pd_ip hf hc
    refine pd_iconst dJ0_coder_7d493_13 (by decide) ?_
    obtain ⟨hg1, hf⟩ := pd_ig hf
    obtain ⟨h1, h2⟩ := pd_inj hf
    subst h1 h2
    exact pd_bret dJ0_coder_7d493_14 rfl hg1 (Nat.le_refl 0) (Nat.le_refl 0)
  · have hf := pd_in_ hf hc
    refine pd_aload_n (i := 0) dJ0_coder_7d493_6 rfl rfl ?_
    obtain ⟨hg2, hf⟩ := pd_ig hf
    refine pd_get (x := pd_I (F x0 1)) 1 dJ0_coder_7d493_7 (show vwCl[12]? = some (RX12, TX12, 4) from rfl) pin_12 (by decide) pq_4 hg2 rfl ?_
    refine pd_goto (tgt := 14) dJ0_coder_7d493_10 (by decide) ?_
    obtain ⟨hg3, hf⟩ := pd_ig hf
    obtain ⟨h1, h2⟩ := pd_inj hf
    subst h1 h2
    exact pd_bret dJ0_coder_7d493_14 rfl hg3 (Nat.le_refl 0) (Nat.le_refl 0)
set_option maxHeartbeats 4000000 in
set_option maxRecDepth 100000 in
theorem pkJ0_length_8abf5 (l : Launch) {al : Bool} {sh : pd_S} {n : Nat} {F : pd_F} {x0 : Int} {ρ : Int} {Fz : pd_F} (hf : pfJ0_length_8abf5 sh n F x0 = some (ρ, Fz)) : pd_C l yJ0_length_8abf5 (Cond.code yJ0_length_8abf5 cJ0_length_8abf5 1 (some .int) :: pd_gt) (pd_rm 2 0 0) al 0 0 sh F [pd_R x0] (some (pd_I ρ)) sh Fz := by
  unfold pfJ0_length_8abf5 at hf
  refine pd_body (L := [pd_R x0]) (by decide +kernel) (Nat.le_of_ble_eq_true rfl) rfl (fun E => ?_)
  refine pd_aload_n (i := 0) dJ0_length_8abf5_0 rfl rfl ?_
  obtain ⟨hg1, hf⟩ := pd_ig hf
  refine pd_get (x := pd_R (F x0 0)) 0 dJ0_length_8abf5_1 (show vwCl[12]? = some (RX12, TX12, 4) from rfl) pin_12 (by decide) pq_5 hg1 rfl ?_
  obtain ⟨hg2, hf⟩ := pd_ig hf
  refine pd_alen dJ0_length_8abf5_4 (by decide) hg2 ?_
  refine pd_aload_n (i := 0) dJ0_length_8abf5_5 rfl rfl ?_
  obtain ⟨r4, F3, hr, hf⟩ := pd_ob2 hf
  refine pd_callV (pkJ0_coder_7d493 l hr) dJ0_length_8abf5_6 pq_6 pq_9 pq_10 (show vwCl[12]? = some (yJ0_coder_7d493.cls, TX12, 4) from rfl) hg1 (pd_okm (by omega) (by decide) pq_7 pq_8 (by decide) (show (parseMethodDescriptor yJ0_coder_7d493.desc).map (fun d => d.parameters.length) = some 0 from by decide +kernel)) (Nat.le_of_ble_eq_true rfl) rfl ?_
  refine pd_ishr dJ0_length_8abf5_9 ?_
  obtain ⟨h1, h2⟩ := pd_inj hf
  subst h1 h2
  exact pd_iret dJ0_length_8abf5_10 rfl (Nat.le_refl 0) (Nat.le_refl 0)
set_option maxHeartbeats 4000000 in
set_option maxRecDepth 100000 in
theorem pkJ0_isLatin1_aae02 (l : Launch) {al : Bool} {sh : pd_S} {n : Nat} {F : pd_F} {x0 : Int} {ρ : Int} {Fz : pd_F} (hf : pfJ0_isLatin1_aae02 sh n F x0 = some (ρ, Fz)) : pd_C l yJ0_isLatin1_aae02 (Cond.code yJ0_isLatin1_aae02 cJ0_isLatin1_aae02 1 (some .boolean) :: pd_gt) (pd_rm 1 0 0) al 0 0 sh F [pd_R x0] (some (pd_I ρ)) sh Fz := by
  unfold pfJ0_isLatin1_aae02 at hf
  refine pd_body (L := [pd_R x0]) (by decide +kernel) (Nat.le_of_ble_eq_true rfl) rfl (fun E => ?_)
  refine pd_gsC dJ0_isLatin1_aae02_0 pq_3 ?_
  refine pd_if_eq (tgt := 17) dJ0_isLatin1_aae02_3 (by decide) (fun hc => ?_) (fun hc => ?_)
  · have hf := pd_ip hf hc
    refine pd_iconst dJ0_isLatin1_aae02_17 (by decide) ?_
    obtain ⟨h1, h2⟩ := pd_inj hf
    subst h1 h2
    exact pd_zret dJ0_isLatin1_aae02_18 rfl (by decide) (Nat.le_refl 0) (Nat.le_refl 0)
  · have hf := pd_in_ hf hc
    refine pd_aload_n (i := 0) dJ0_isLatin1_aae02_6 rfl rfl ?_
    obtain ⟨hg1, hf⟩ := pd_ig hf
    refine pd_get (x := pd_I (F x0 1)) 1 dJ0_isLatin1_aae02_7 (show vwCl[12]? = some (RX12, TX12, 4) from rfl) pin_12 (by decide) pq_4 hg1 rfl ?_
    refine pd_if_ne (tgt := 17) dJ0_isLatin1_aae02_10 (by decide) (fun hc => ?_) (fun hc => ?_)
    · have hf := pd_ip hf hc
      refine pd_iconst dJ0_isLatin1_aae02_17 (by decide) ?_
      obtain ⟨h1, h2⟩ := pd_inj hf
      subst h1 h2
      exact pd_zret dJ0_isLatin1_aae02_18 rfl (by decide) (Nat.le_refl 0) (Nat.le_refl 0)
    · have hf := pd_iq hf hc
      refine pd_iconst dJ0_isLatin1_aae02_13 (by decide) ?_
      refine pd_goto (tgt := 18) dJ0_isLatin1_aae02_14 (by decide) ?_
      obtain ⟨h1, h2⟩ := pd_inj hf
      subst h1 h2
      exact pd_zret dJ0_isLatin1_aae02_18 rfl (by decide) (Nat.le_refl 0) (Nat.le_refl 0)
set_option maxHeartbeats 4000000 in
set_option maxRecDepth 100000 in
theorem pkJ1_charAt_3b067 (l : Launch) {al : Bool} {sh : pd_S} {n : Nat} {F : pd_F} {x0 : Int} {x1 : Int} {ρ : Int} {Fz : pd_F} (hf : pfJ1_charAt_3b067 sh n F x0 x1 = some (ρ, Fz)) : pd_C l yJ1_charAt_3b067 (Cond.code yJ1_charAt_3b067 cJ1_charAt_3b067 2 (some .char) :: pd_gt) (pd_rm 3 0 0) al 0 0 sh F [pd_R x0, pd_I x1] (some (pd_I ρ)) sh Fz := by
  unfold pfJ1_charAt_3b067 at hf
  refine pd_body (L := [pd_R x0, pd_I x1]) (by decide +kernel) (Nat.le_of_ble_eq_true rfl) rfl (fun E => ?_)
  refine pd_iload_n (i := 1) dJ1_charAt_3b067_0 rfl rfl ?_
  refine pd_aload_n (i := 0) dJ1_charAt_3b067_1 rfl rfl ?_
  obtain ⟨hg1, hf⟩ := pd_ig hf
  refine pd_alen dJ1_charAt_3b067_2 (by decide) hg1 ?_
  obtain ⟨hg2, hf⟩ := pd_ig hf
  refine pd_callS (xs := [pd_I x1, pd_I (pd_ln sh 0 1 x0)]) (jk_scheck hg2) dJ1_charAt_3b067_3 pq_11 pq_12 (pd_okm (by omega) (by decide) pq_13 pq_14 (by decide) (show (parseMethodDescriptor yJ0_checkIndex_df160.desc).map (fun d => d.parameters.length) = some 2 from by decide +kernel)) (Nat.le_of_ble_eq_true rfl) rfl ?_
  refine pd_aload_n (i := 0) dJ1_charAt_3b067_6 rfl rfl ?_
  refine pd_iload_n (i := 1) dJ1_charAt_3b067_7 rfl rfl ?_
  obtain ⟨hg3, hf⟩ := pd_ig hf
  refine pd_bald dJ1_charAt_3b067_8 hg3 ?_
  refine pd_sipush dJ1_charAt_3b067_9 (by decide) ?_
  refine pd_iand dJ1_charAt_3b067_12 ?_
  refine pd_i2c dJ1_charAt_3b067_13 ?_
  obtain ⟨hg4, hf⟩ := pd_ig hf
  obtain ⟨h1, h2⟩ := pd_inj hf
  subst h1 h2
  exact pd_cret dJ1_charAt_3b067_14 rfl hg4 (Nat.le_refl 0) (Nat.le_refl 0)
set_option maxHeartbeats 4000000 in
set_option maxRecDepth 100000 in
theorem pkJ0_charAt_5068e (l : Launch) {al : Bool} {sh : pd_S} {n : Nat} {F : pd_F} {x0 : Int} {x1 : Int} {ρ : Int} {Fz : pd_F} (hf : pfJ0_charAt_5068e sh n F x0 x1 = some (ρ, Fz)) : pd_C l yJ0_charAt_5068e (Cond.code yJ0_charAt_5068e cJ0_charAt_5068e 2 (some .char) :: pd_gt) (pd_rm 4 0 0) al 0 0 sh F [pd_R x0, pd_I x1] (some (pd_I ρ)) sh Fz := by
  unfold pfJ0_charAt_5068e at hf
  refine pd_body (L := [pd_R x0, pd_I x1]) (by decide +kernel) (Nat.le_of_ble_eq_true rfl) rfl (fun E => ?_)
  refine pd_aload_n (i := 0) dJ0_charAt_5068e_0 rfl rfl ?_
  obtain ⟨hg2, hf⟩ := pd_ig hf
  obtain ⟨r3, F1, hr, hf⟩ := pd_ob2 hf
  refine pd_callV (pkJ0_isLatin1_aae02 l hr) dJ0_charAt_5068e_1 pq_15 pq_18 pq_19 (show vwCl[12]? = some (yJ0_isLatin1_aae02.cls, TX12, 4) from rfl) hg2 (pd_okm (by omega) (by decide) pq_16 pq_17 (by decide) (show (parseMethodDescriptor yJ0_isLatin1_aae02.desc).map (fun d => d.parameters.length) = some 0 from by decide +kernel)) (Nat.le_of_ble_eq_true rfl) rfl ?_
  refine pd_if_eq (tgt := 16) dJ0_charAt_5068e_4 (by decide) (fun hc => ?_) (fun hc => ?_)
  · have hf := pd_ip hf hc
    refine pd_aload_n (i := 0) dJ0_charAt_5068e_16 rfl rfl ?_
    refine pd_get (x := pd_R (F1 x0 0)) 0 dJ0_charAt_5068e_17 (show vwCl[12]? = some (RX12, TX12, 4) from rfl) pin_12 (by decide) pq_5 hg2 rfl ?_
    refine pd_iload_n (i := 1) dJ0_charAt_5068e_20 rfl rfl ?_
    exact absurd hf (fun h => nomatch h)
  · have hf := pd_in_ hf hc
    refine pd_aload_n (i := 0) dJ0_charAt_5068e_7 rfl rfl ?_
    refine pd_get (x := pd_R (F1 x0 0)) 0 dJ0_charAt_5068e_8 (show vwCl[12]? = some (RX12, TX12, 4) from rfl) pin_12 (by decide) pq_5 hg2 rfl ?_
    refine pd_iload_n (i := 1) dJ0_charAt_5068e_11 rfl rfl ?_
    obtain ⟨r5, F4, hr, hf⟩ := pd_ob2 hf
    refine pd_callS (pkJ1_charAt_3b067 l hr) dJ0_charAt_5068e_12 pq_20 pq_23 (pd_okm (by omega) (by decide) pq_21 pq_22 (by decide) (show (parseMethodDescriptor yJ1_charAt_3b067.desc).map (fun d => d.parameters.length) = some 2 from by decide +kernel)) (Nat.le_of_ble_eq_true rfl) rfl ?_
    obtain ⟨hg6, hf⟩ := pd_ig hf
    obtain ⟨h1, h2⟩ := pd_inj hf
    subst h1 h2
    exact pd_cret dJ0_charAt_5068e_15 rfl hg6 (Nat.le_refl 0) (Nat.le_refl 0)
set_option maxHeartbeats 4000000 in
set_option maxRecDepth 100000 in
theorem pkJ0_getBytes_840e7 (l : Launch) {al : Bool} {sh : pd_S} {n : Nat} {F : pd_F} {x0 : Int} {x1 : Int} {x2 : Int} {x3 : Int} {Fz : pd_F} (hf : pfJ0_getBytes_840e7 sh n F x0 x1 x2 x3 = some Fz) : pd_C l yJ0_getBytes_840e7 (Cond.code yJ0_getBytes_840e7 cJ0_getBytes_840e7 4 none :: pd_gt) (pd_rm 2 0 0) al 0 0 sh F [pd_R x0, pd_R x1, pd_I x2, pd_I x3] none sh Fz := by
  unfold pfJ0_getBytes_840e7 at hf
  refine pd_body (L := [pd_R x0, pd_R x1, pd_I x2, pd_I x3]) (by decide +kernel) (Nat.le_of_ble_eq_true rfl) rfl (fun E => ?_)
  refine pd_aload_n (i := 0) dJ0_getBytes_840e7_0 rfl rfl ?_
  obtain ⟨hg2, hf⟩ := pd_ig hf
  obtain ⟨r3, F1, hr, hf⟩ := pd_ob2 hf
  refine pd_callV (pkJ0_coder_7d493 l hr) dJ0_getBytes_840e7_1 pq_6 pq_9 pq_10 (show vwCl[12]? = some (yJ0_coder_7d493.cls, TX12, 4) from rfl) hg2 (pd_okm (by omega) (by decide) pq_7 pq_8 (by decide) (show (parseMethodDescriptor yJ0_coder_7d493.desc).map (fun d => d.parameters.length) = some 0 from by decide +kernel)) (Nat.le_of_ble_eq_true rfl) rfl ?_
  refine pd_iload_n (i := 3) dJ0_getBytes_840e7_4 rfl rfl ?_
  refine pd_icmp_ne (tgt := 28) dJ0_getBytes_840e7_5 (by decide) (fun hc => ?_) (fun hc => ?_)
  · have hf := pd_ip hf hc
    refine pd_aload_n (i := 0) dJ0_getBytes_840e7_28 rfl rfl ?_
    refine pd_get (x := pd_R (F1 x0 0)) 0 dJ0_getBytes_840e7_29 (show vwCl[12]? = some (RX12, TX12, 4) from rfl) pin_12 (by decide) pq_5 hg2 rfl ?_
    refine pd_iconst dJ0_getBytes_840e7_32 (by decide) ?_
    refine pd_aload_n (i := 1) dJ0_getBytes_840e7_33 rfl rfl ?_
    refine pd_iload_n (i := 2) dJ0_getBytes_840e7_34 rfl rfl ?_
    refine pd_aload_n (i := 0) dJ0_getBytes_840e7_35 rfl rfl ?_
    refine pd_get (x := pd_R (F1 x0 0)) 0 dJ0_getBytes_840e7_36 (show vwCl[12]? = some (RX12, TX12, 4) from rfl) pin_12 (by decide) pq_5 hg2 rfl ?_
    obtain ⟨hg4, hf⟩ := pd_ig hf
    refine pd_alen dJ0_getBytes_840e7_39 (by decide) hg4 ?_
    exact absurd hf (fun h => nomatch h)
  · have hf := pd_iq hf hc
    refine pd_aload_n (i := 0) dJ0_getBytes_840e7_8 rfl rfl ?_
    refine pd_get (x := pd_R (F1 x0 0)) 0 dJ0_getBytes_840e7_9 (show vwCl[12]? = some (RX12, TX12, 4) from rfl) pin_12 (by decide) pq_5 hg2 rfl ?_
    refine pd_iconst dJ0_getBytes_840e7_12 (by decide) ?_
    refine pd_aload_n (i := 1) dJ0_getBytes_840e7_13 rfl rfl ?_
    refine pd_iload_n (i := 2) dJ0_getBytes_840e7_14 rfl rfl ?_
    refine pd_iload_n (i := 3) dJ0_getBytes_840e7_15 rfl rfl ?_
    refine pd_ishl dJ0_getBytes_840e7_16 ?_
    refine pd_aload_n (i := 0) dJ0_getBytes_840e7_17 rfl rfl ?_
    refine pd_get (x := pd_R (F1 x0 0)) 0 dJ0_getBytes_840e7_18 (show vwCl[12]? = some (RX12, TX12, 4) from rfl) pin_12 (by decide) pq_5 hg2 rfl ?_
    obtain ⟨hg5, hf⟩ := pd_ig hf
    refine pd_alen dJ0_getBytes_840e7_21 (by decide) hg5 ?_
    obtain ⟨hg6, hf⟩ := pd_ig hf
    obtain ⟨hg7, hf⟩ := pd_ig hf
    refine pd_copyk (kk := 1) dJ0_getBytes_840e7_22 pq_24 pq_25 pq_26 pq_27 pd_rmR2 (Nat.le_of_ble_eq_true rfl) hg6 (Or.inr ⟨rfl, hg7⟩) ?_
    refine pd_topF (fun F8 eF8 => ?_)
    have hf := pd_lt hf eF8
    clear eF8
    refine pd_goto (tgt := 43) dJ0_getBytes_840e7_25 (by decide) ?_
    obtain h2 := pd_inj1 hf
    subst h2
    exact pd_vret dJ0_getBytes_840e7_43 rfl (Nat.le_refl 0) (Nat.le_refl 0)
set_option maxHeartbeats 4000000 in
set_option maxRecDepth 100000 in
theorem pkJ1_canEncode_fc78d (l : Launch) {al : Bool} {sh : pd_S} {n : Nat} {F : pd_F} {x0 : Int} {ρ : Int} {Fz : pd_F} (hf : pfJ1_canEncode_fc78d sh n F x0 = some (ρ, Fz)) : pd_C l yJ1_canEncode_fc78d (Cond.code yJ1_canEncode_fc78d cJ1_canEncode_fc78d 1 (some .boolean) :: pd_gt) (pd_rm 1 0 0) al 0 0 sh F [pd_I x0] (some (pd_I ρ)) sh Fz := by
  unfold pfJ1_canEncode_fc78d at hf
  refine pd_body (L := [pd_I x0]) (by decide +kernel) (Nat.le_of_ble_eq_true rfl) rfl (fun E => ?_)
  refine pd_iload_n (i := 0) dJ1_canEncode_fc78d_0 rfl rfl ?_
  refine pd_sipush dJ1_canEncode_fc78d_1 (by decide) ?_
  refine pd_icmp_gt (tgt := 11) dJ1_canEncode_fc78d_4 (by decide) (fun hc => ?_) (fun hc => ?_)
  · have hf := pd_ip hf hc
    refine pd_iconst dJ1_canEncode_fc78d_11 (by decide) ?_
    obtain ⟨h1, h2⟩ := pd_inj hf
    subst h1 h2
    exact pd_zret dJ1_canEncode_fc78d_12 rfl (by decide) (Nat.le_refl 0) (Nat.le_refl 0)
  · have hf := pd_in_ hf hc
    refine pd_iconst dJ1_canEncode_fc78d_7 (by decide) ?_
    refine pd_goto (tgt := 12) dJ1_canEncode_fc78d_8 (by decide) ?_
    obtain ⟨h1, h2⟩ := pd_inj hf
    subst h1 h2
    exact pd_zret dJ1_canEncode_fc78d_12 rfl (by decide) (Nat.le_refl 0) (Nat.le_refl 0)
set_option maxHeartbeats 4000000 in
set_option maxRecDepth 100000 in
theorem pkJ5_length_8abf5 (l : Launch) {al : Bool} {sh : pd_S} {n : Nat} {F : pd_F} {x0 : Int} {ρ : Int} {Fz : pd_F} (hf : pfJ5_length_8abf5 sh n F x0 = some (ρ, Fz)) : pd_C l yJ5_length_8abf5 (Cond.code yJ5_length_8abf5 cJ5_length_8abf5 1 (some .int) :: pd_gt) (pd_rm 1 0 0) al 0 0 sh F [pd_R x0] (some (pd_I ρ)) sh Fz := by
  unfold pfJ5_length_8abf5 at hf
  refine pd_body (L := [pd_R x0]) (by decide +kernel) (Nat.le_of_ble_eq_true rfl) rfl (fun E => ?_)
  refine pd_aload_n (i := 0) dJ5_length_8abf5_0 rfl rfl ?_
  obtain ⟨hg1, hf⟩ := pd_ig hf
  refine pd_get (x := pd_I (F x0 3)) 3 dJ5_length_8abf5_1 (show vwCl[13]? = some (RX13, TX13, 4) from rfl) pin_13 (by decide) pq_28 hg1 rfl ?_
  obtain ⟨h1, h2⟩ := pd_inj hf
  subst h1 h2
  exact pd_iret dJ5_length_8abf5_4 rfl (Nat.le_refl 0) (Nat.le_refl 0)
set_option maxHeartbeats 4000000 in
set_option maxRecDepth 100000 in
theorem pkJ4_length_8abf5 (l : Launch) {al : Bool} {sh : pd_S} {n : Nat} {F : pd_F} {x0 : Int} {ρ : Int} {Fz : pd_F} (hf : pfJ4_length_8abf5 sh n F x0 = some (ρ, Fz)) : pd_C l yJ4_length_8abf5 (Cond.code yJ4_length_8abf5 cJ4_length_8abf5 1 (some .int) :: pd_gt) (pd_rm 2 0 0) al 0 0 sh F [pd_R x0] (some (pd_I ρ)) sh Fz := by
  unfold pfJ4_length_8abf5 at hf
  refine pd_body (L := [pd_R x0]) (by decide +kernel) (Nat.le_of_ble_eq_true rfl) rfl (fun E => ?_)
  refine pd_aload_n (i := 0) dJ4_length_8abf5_0 rfl rfl ?_
  obtain ⟨hg2, hf⟩ := pd_ig hf
  obtain ⟨r3, F1, hr, hf⟩ := pd_ob2 hf
  refine pd_callSU (Cn := RX13) (pkJ5_length_8abf5 l hr) dJ4_length_8abf5_1 pq_29 pq_32 pq_33 pq_34 (by decide) (show vwCl[13]? = some (RX13, TX13, 4) from rfl) hg2 (pd_okm (by omega) (by decide) pq_30 pq_31 (by decide) (show (parseMethodDescriptor yJ5_length_8abf5.desc).map (fun d => d.parameters.length) = some 0 from by decide +kernel)) (Nat.le_of_ble_eq_true rfl) rfl ?_
  obtain ⟨h1, h2⟩ := pd_inj hf
  subst h1 h2
  exact pd_iret dJ4_length_8abf5_4 rfl (Nat.le_refl 0) (Nat.le_refl 0)
set_option maxHeartbeats 4000000 in
set_option maxRecDepth 100000 in
theorem pkJ5_getValue_6d5f1 (l : Launch) {al : Bool} {sh : pd_S} {n : Nat} {F : pd_F} {x0 : Int} {ρ : Int} {Fz : pd_F} (hf : pfJ5_getValue_6d5f1 sh n F x0 = some (ρ, Fz)) : pd_C l yJ5_getValue_6d5f1 (Cond.code yJ5_getValue_6d5f1 cJ5_getValue_6d5f1 1 (some (.array .byte)) :: pd_gt) (pd_rm 1 0 0) al 0 0 sh F [pd_R x0] (some (pd_R ρ)) sh Fz := by
  unfold pfJ5_getValue_6d5f1 at hf
  refine pd_body (L := [pd_R x0]) (by decide +kernel) (Nat.le_of_ble_eq_true rfl) rfl (fun E => ?_)
  refine pd_aload_n (i := 0) dJ5_getValue_6d5f1_0 rfl rfl ?_
  obtain ⟨hg1, hf⟩ := pd_ig hf
  refine pd_get (x := pd_R (F x0 0)) 0 dJ5_getValue_6d5f1_1 (show vwCl[13]? = some (RX13, TX13, 4) from rfl) pin_13 (by decide) pq_35 hg1 rfl ?_
  obtain ⟨h1, h2⟩ := pd_inj hf
  subst h1 h2
  exact pd_aret dJ5_getValue_6d5f1_4 rfl (by first | exact Or.inl ⟨_, rfl⟩ | exact Or.inr ⟨_, rfl⟩) (Nat.le_refl 0) (Nat.le_refl 0)
set_option maxHeartbeats 4000000 in
set_option maxRecDepth 100000 in
theorem pkJ5_isLatin1_aae02 (l : Launch) {al : Bool} {sh : pd_S} {n : Nat} {F : pd_F} {x0 : Int} {ρ : Int} {Fz : pd_F} (hf : pfJ5_isLatin1_aae02 sh n F x0 = some (ρ, Fz)) : pd_C l yJ5_isLatin1_aae02 (Cond.code yJ5_isLatin1_aae02 cJ5_isLatin1_aae02 1 (some .boolean) :: pd_gt) (pd_rm 1 0 0) al 0 0 sh F [pd_R x0] (some (pd_I ρ)) sh Fz := by
  unfold pfJ5_isLatin1_aae02 at hf
  refine pd_body (L := [pd_R x0]) (by decide +kernel) (Nat.le_of_ble_eq_true rfl) rfl (fun E => ?_)
  refine pd_gsC dJ5_isLatin1_aae02_0 pq_36 ?_
  refine pd_if_eq (tgt := 17) dJ5_isLatin1_aae02_3 (by decide) (fun hc => ?_) (fun hc => ?_)
  · have hf := pd_ip hf hc
    refine pd_iconst dJ5_isLatin1_aae02_17 (by decide) ?_
    obtain ⟨h1, h2⟩ := pd_inj hf
    subst h1 h2
    exact pd_zret dJ5_isLatin1_aae02_18 rfl (by decide) (Nat.le_refl 0) (Nat.le_refl 0)
  · have hf := pd_in_ hf hc
    refine pd_aload_n (i := 0) dJ5_isLatin1_aae02_6 rfl rfl ?_
    obtain ⟨hg1, hf⟩ := pd_ig hf
    refine pd_get (x := pd_I (F x0 1)) 1 dJ5_isLatin1_aae02_7 (show vwCl[13]? = some (RX13, TX13, 4) from rfl) pin_13 (by decide) pq_37 hg1 rfl ?_
    refine pd_if_ne (tgt := 17) dJ5_isLatin1_aae02_10 (by decide) (fun hc => ?_) (fun hc => ?_)
    · have hf := pd_ip hf hc
      refine pd_iconst dJ5_isLatin1_aae02_17 (by decide) ?_
      obtain ⟨h1, h2⟩ := pd_inj hf
      subst h1 h2
      exact pd_zret dJ5_isLatin1_aae02_18 rfl (by decide) (Nat.le_refl 0) (Nat.le_refl 0)
    · have hf := pd_iq hf hc
      refine pd_iconst dJ5_isLatin1_aae02_13 (by decide) ?_
      refine pd_goto (tgt := 18) dJ5_isLatin1_aae02_14 (by decide) ?_
      obtain ⟨h1, h2⟩ := pd_inj hf
      subst h1 h2
      exact pd_zret dJ5_isLatin1_aae02_18 rfl (by decide) (Nat.le_refl 0) (Nat.le_refl 0)
set_option maxHeartbeats 4000000 in
set_option maxRecDepth 100000 in
theorem pkJ7_checkLength_df160 (l : Launch) {al : Bool} {sh : pd_S} {n : Nat} {F : pd_F} {x0 : Int} {x1 : Int} {Fz : pd_F} (hf : pfJ7_checkLength_df160 sh n F x0 x1 = some Fz) : pd_C l yJ7_checkLength_df160 (Cond.code yJ7_checkLength_df160 cJ7_checkLength_df160 2 none :: pd_gt) (pd_rm 1 0 0) al 0 0 sh F [pd_I x0, pd_I x1] none sh Fz := by
  unfold pfJ7_checkLength_df160 at hf
  refine pd_body (L := [pd_I x0, pd_I x1]) (by decide +kernel) (Nat.le_of_ble_eq_true rfl) rfl (fun E => ?_)
  refine pd_iload_n (i := 1) dJ7_checkLength_df160_0 rfl rfl ?_
  refine pd_iload_n (i := 0) dJ7_checkLength_df160_1 rfl rfl ?_
  refine pd_icmp_ge (tgt := 37) dJ7_checkLength_df160_2 (by decide) (fun hc => ?_) (fun hc => ?_)
  · have hf := pd_ip hf hc
    obtain h2 := pd_inj1 hf
    subst h2
    exact pd_vret dJ7_checkLength_df160_37 rfl (Nat.le_refl 0) (Nat.le_refl 0)
  · have hf := pd_in_ hf hc
    exact absurd hf (fun h => nomatch h)
set_option maxHeartbeats 4000000 in
set_option maxRecDepth 100000 in
theorem pkJ8_newLength_cabcc_b21 (E : pd_E) (l : Launch) {al : Bool} {sh : pd_S} {n : Nat} {ρ : Int} {Fz : pd_F}  (F : pd_F) (x0 : Int) (x1 : Int) (hf : pfJ8_newLength_cabcc_b21 sh n  F x0 x1 = some (ρ, Fz)) : pd_V E l (pd_rm 1 0 0) (RJ8, cJ8_newLength_cabcc, 4, (some .int), "newLength") (pd_Qm E al (some (pd_I ρ)) sh Fz 0 0) al 0 0 sh F 21 [pd_I x0, pd_I x1, pd_N, pd_N] [] := by
  unfold pfJ8_newLength_cabcc_b21 at hf
  refine pd_iload_n (i := 0) dJ8_newLength_cabcc_21 rfl rfl ?_
  refine pd_iload_n (i := 1) dJ8_newLength_cabcc_22 rfl rfl ?_
  exact absurd hf (fun h => nomatch h)
set_option maxHeartbeats 4000000 in
set_option maxRecDepth 100000 in
theorem pkJ8_newLength_cabcc (l : Launch) {al : Bool} {sh : pd_S} {n : Nat} {F : pd_F} {x0 : Int} {x1 : Int} {x2 : Int} {ρ : Int} {Fz : pd_F} (hf : pfJ8_newLength_cabcc sh n F x0 x1 x2 = some (ρ, Fz)) : pd_C l yJ8_newLength_cabcc (Cond.code yJ8_newLength_cabcc cJ8_newLength_cabcc 4 (some .int) :: pd_gt) (pd_rm 1 0 0) al 0 0 sh F [pd_I x0, pd_I x1, pd_I x2] (some (pd_I ρ)) sh Fz := by
  unfold pfJ8_newLength_cabcc at hf
  refine pd_body (L := [pd_I x0, pd_I x1, pd_I x2, pd_N]) (by decide +kernel) (Nat.le_of_ble_eq_true rfl) rfl (fun E => ?_)
  refine pd_iload_n (i := 0) dJ8_newLength_cabcc_0 rfl rfl ?_
  refine pd_iload_n (i := 1) dJ8_newLength_cabcc_1 rfl rfl ?_
  refine pd_iload_n (i := 2) dJ8_newLength_cabcc_2 rfl rfl ?_
  refine pd_mmax dJ8_newLength_cabcc_3 pq_38 pq_39 pq_40 pq_41 pd_rmR (Nat.le_of_ble_eq_true rfl) ?_
  refine pd_iadd dJ8_newLength_cabcc_6 ?_
  refine pd_topI (fun x3_7 ex3_7 => ?_)
  have hf := pd_lt hf ex3_7
  clear ex3_7
  refine pd_istore_n (L' := [pd_I x0, pd_I x1, pd_I x2, pd_I x3_7]) dJ8_newLength_cabcc_7 rfl (by decide) rfl ?_
  refine pd_iconst dJ8_newLength_cabcc_8 (by decide) ?_
  refine pd_iload_n (i := 3) dJ8_newLength_cabcc_9 rfl rfl ?_
  refine pd_icmp_ge (tgt := 21) dJ8_newLength_cabcc_10 (by decide) (fun hc => ?_) (fun hc => ?_)
  · have hf := pd_ip hf hc
    exact pd_weak (L' := [pd_I x0, pd_I x1, pd_N, pd_N]) ⟨Or.inr rfl, Or.inr rfl, Or.inl rfl, Or.inl rfl, trivial⟩ (pkJ8_newLength_cabcc_b21 E l _ _ _ hf)
  · have hf := pd_in_ hf hc
    refine pd_iload_n (i := 3) dJ8_newLength_cabcc_13 rfl rfl ?_
    refine pd_ldc (x := 2147483639) dJ8_newLength_cabcc_14 pq_42 (by decide +kernel) ?_
    refine pd_icmp_gt (tgt := 21) dJ8_newLength_cabcc_16 (by decide) (fun hc => ?_) (fun hc => ?_)
    · have hf := pd_ip hf hc
      exact pd_weak (L' := [pd_I x0, pd_I x1, pd_N, pd_N]) ⟨Or.inr rfl, Or.inr rfl, Or.inl rfl, Or.inl rfl, trivial⟩ (pkJ8_newLength_cabcc_b21 E l _ _ _ hf)
    · have hf := pd_in_ hf hc
      refine pd_iload_n (i := 3) dJ8_newLength_cabcc_19 rfl rfl ?_
      obtain ⟨h1, h2⟩ := pd_inj hf
      subst h1 h2
      exact pd_iret dJ8_newLength_cabcc_20 rfl (Nat.le_refl 0) (Nat.le_refl 0)
set_option maxHeartbeats 4000000 in
set_option maxRecDepth 100000 in
theorem pkJ5_newCapacity_0f7a4 (l : Launch) {al : Bool} {sh : pd_S} {n : Nat} {F : pd_F} {x0 : Int} {x1 : Int} {ρ : Int} {Fz : pd_F} (hf : pfJ5_newCapacity_0f7a4 sh n F x0 x1 = some (ρ, Fz)) : pd_C l yJ5_newCapacity_0f7a4 (Cond.code yJ5_newCapacity_0f7a4 cJ5_newCapacity_0f7a4 6 (some .int) :: pd_gt) (pd_rm 2 0 0) al 0 0 sh F [pd_R x0, pd_I x1] (some (pd_I ρ)) sh Fz := by
  unfold pfJ5_newCapacity_0f7a4 at hf
  refine pd_body (L := [pd_R x0, pd_I x1, pd_N, pd_N, pd_N, pd_N]) (by decide +kernel) (Nat.le_of_ble_eq_true rfl) rfl (fun E => ?_)
  refine pd_aload_n (i := 0) dJ5_newCapacity_0f7a4_0 rfl rfl ?_
  obtain ⟨hg1, hf⟩ := pd_ig hf
  refine pd_get (x := pd_R (F x0 0)) 0 dJ5_newCapacity_0f7a4_1 (show vwCl[13]? = some (RX13, TX13, 4) from rfl) pin_13 (by decide) pq_35 hg1 rfl ?_
  obtain ⟨hg2, hf⟩ := pd_ig hf
  refine pd_alen dJ5_newCapacity_0f7a4_4 (by decide) hg2 ?_
  refine pd_topI (fun x2_5 ex2_5 => ?_)
  have hf := pd_lt hf ex2_5
  clear ex2_5
  refine pd_istore_n (L' := [pd_R x0, pd_I x1, pd_I x2_5, pd_N, pd_N, pd_N]) dJ5_newCapacity_0f7a4_5 rfl (by decide) rfl ?_
  refine pd_iload_n (i := 1) dJ5_newCapacity_0f7a4_6 rfl rfl ?_
  refine pd_aload_n (i := 0) dJ5_newCapacity_0f7a4_7 rfl rfl ?_
  refine pd_get (x := pd_I (F x0 1)) 1 dJ5_newCapacity_0f7a4_8 (show vwCl[13]? = some (RX13, TX13, 4) from rfl) pin_13 (by decide) pq_37 hg1 rfl ?_
  refine pd_ishl dJ5_newCapacity_0f7a4_11 ?_
  refine pd_topI (fun x3_12 ex3_12 => ?_)
  have hf := pd_lt hf ex3_12
  clear ex3_12
  refine pd_istore_n (L' := [pd_R x0, pd_I x1, pd_I x2_5, pd_I x3_12, pd_N, pd_N]) dJ5_newCapacity_0f7a4_12 rfl (by decide) rfl ?_
  refine pd_iload_n (i := 3) dJ5_newCapacity_0f7a4_13 rfl rfl ?_
  refine pd_iload_n (i := 2) dJ5_newCapacity_0f7a4_14 rfl rfl ?_
  refine pd_isub dJ5_newCapacity_0f7a4_15 ?_
  refine pd_topI (fun x4_16 ex4_16 => ?_)
  have hf := pd_lt hf ex4_16
  clear ex4_16
  refine pd_istore (L' := [pd_R x0, pd_I x1, pd_I x2_5, pd_I x3_12, pd_I x4_16, pd_N]) dJ5_newCapacity_0f7a4_16 (by decide) rfl ?_
  refine pd_iload_n (i := 2) dJ5_newCapacity_0f7a4_18 rfl rfl ?_
  refine pd_iload (i := 4) dJ5_newCapacity_0f7a4_19 rfl ?_
  refine pd_iload_n (i := 2) dJ5_newCapacity_0f7a4_21 rfl rfl ?_
  refine pd_iconst dJ5_newCapacity_0f7a4_22 (by decide) ?_
  refine pd_aload_n (i := 0) dJ5_newCapacity_0f7a4_23 rfl rfl ?_
  refine pd_get (x := pd_I (F x0 1)) 1 dJ5_newCapacity_0f7a4_24 (show vwCl[13]? = some (RX13, TX13, 4) from rfl) pin_13 (by decide) pq_37 hg1 rfl ?_
  refine pd_ishl dJ5_newCapacity_0f7a4_27 ?_
  refine pd_iadd dJ5_newCapacity_0f7a4_28 ?_
  obtain ⟨r4, F3, hr, hf⟩ := pd_ob2 hf
  refine pd_callS (pkJ8_newLength_cabcc l hr) dJ5_newCapacity_0f7a4_29 pq_43 pq_46 (pd_okm (by omega) (by decide) pq_44 pq_45 (by decide) (show (parseMethodDescriptor yJ8_newLength_cabcc.desc).map (fun d => d.parameters.length) = some 3 from by decide +kernel)) (Nat.le_of_ble_eq_true rfl) rfl ?_
  refine pd_istore (L' := [pd_R x0, pd_I x1, pd_I x2_5, pd_I x3_12, pd_I x4_16, pd_I r4]) dJ5_newCapacity_0f7a4_32 (by decide) rfl ?_
  refine pd_iload (i := 5) dJ5_newCapacity_0f7a4_34 rfl ?_
  refine pd_ldc (x := 2147483647) dJ5_newCapacity_0f7a4_36 pq_47 (by decide +kernel) ?_
  refine pd_icmp_ne (tgt := 51) dJ5_newCapacity_0f7a4_38 (by decide) (fun hc => ?_) (fun hc => ?_)
  · have hf := pd_ip hf hc
    refine pd_iload (i := 5) dJ5_newCapacity_0f7a4_51 rfl ?_
    refine pd_aload_n (i := 0) dJ5_newCapacity_0f7a4_53 rfl rfl ?_
    refine pd_get (x := pd_I (F3 x0 1)) 1 dJ5_newCapacity_0f7a4_54 (show vwCl[13]? = some (RX13, TX13, 4) from rfl) pin_13 (by decide) pq_37 hg1 rfl ?_
    refine pd_ishr dJ5_newCapacity_0f7a4_57 ?_
    obtain ⟨h1, h2⟩ := pd_inj hf
    subst h1 h2
    exact pd_iret dJ5_newCapacity_0f7a4_58 rfl (Nat.le_refl 0) (Nat.le_refl 0)
  · have hf := pd_iq hf hc
    exact absurd hf (fun h => nomatch h)
set_option maxHeartbeats 4000000 in
set_option maxRecDepth 100000 in
theorem pkJ6_stringSize_0f7a4_b16 (E : pd_E) (l : Launch) {al : Bool} {sh : pd_S} {n : Nat} {ρ : Int} {Fz : pd_F}  : ∀ (k : Nat) (F : pd_F) (x0 : Int) (x1 : Int) (x2 : Int) (x3 : Int), pfJ6_stringSize_0f7a4_b16 sh n  k F x0 x1 x2 x3 = some (ρ, Fz) → pd_V E l (pd_rm 1 0 0) (RJ6, cJ6_stringSize_0f7a4, 4, (some .int), "stringSize") (pd_Qm E al (some (pd_I ρ)) sh Fz 0 0) al 0 0 sh F 16 [pd_I x0, pd_I x1, pd_I x2, pd_I x3] [] := by
  intro k
  induction k with
  | zero => intro F x0 x1 x2 x3 hf; exact absurd hf (by unfold pfJ6_stringSize_0f7a4_b16; exact fun h => nomatch h)
  | succ k ih =>
    intro F x0 x1 x2 x3 hf
    unfold pfJ6_stringSize_0f7a4_b16 at hf
    refine pd_iload_n (i := 3) dJ6_stringSize_0f7a4_16 rfl rfl ?_
    refine pd_bipush dJ6_stringSize_0f7a4_17 (by decide) ?_
    refine pd_icmp_ge (tgt := 42) dJ6_stringSize_0f7a4_19 (by decide) (fun hc => ?_) (fun hc => ?_)
    · have hf := pd_ip hf hc
      refine pd_bipush dJ6_stringSize_0f7a4_42 (by decide) ?_
      refine pd_iload_n (i := 1) dJ6_stringSize_0f7a4_44 rfl rfl ?_
      refine pd_iadd dJ6_stringSize_0f7a4_45 ?_
      obtain ⟨h1, h2⟩ := pd_inj hf
      subst h1 h2
      exact pd_iret dJ6_stringSize_0f7a4_46 rfl (Nat.le_refl 0) (Nat.le_refl 0)
    · have hf := pd_in_ hf hc
      refine pd_iload_n (i := 0) dJ6_stringSize_0f7a4_22 rfl rfl ?_
      refine pd_iload_n (i := 2) dJ6_stringSize_0f7a4_23 rfl rfl ?_
      refine pd_icmp_le (tgt := 31) dJ6_stringSize_0f7a4_24 (by decide) (fun hc => ?_) (fun hc => ?_)
      · have hf := pd_ip hf hc
        refine pd_bipush dJ6_stringSize_0f7a4_31 (by decide) ?_
        refine pd_iload_n (i := 2) dJ6_stringSize_0f7a4_33 rfl rfl ?_
        refine pd_imul dJ6_stringSize_0f7a4_34 ?_
        refine pd_topI (fun x2_35 ex2_35 => ?_)
        have hf := pd_lt hf ex2_35
        clear ex2_35
        refine pd_istore_n (L' := [pd_I x0, pd_I x1, pd_I x2_35, pd_I x3]) dJ6_stringSize_0f7a4_35 rfl (by decide) rfl ?_
        refine pd_iincN (L' := fun y => [pd_I x0, pd_I x1, pd_I x2_35, pd_I y]) dJ6_stringSize_0f7a4_36 rfl (by decide) (by decide) (fun _ => rfl) (fun x3_36 ex3_36 => ?_)
        have hf := pd_lt hf ex3_36
        clear ex3_36
        refine pd_goto (tgt := 16) dJ6_stringSize_0f7a4_39 (by decide) ?_
        exact pd_weak (L' := [pd_I x0, pd_I x1, pd_I x2_35, pd_I x3_36]) ⟨Or.inr rfl, Or.inr rfl, Or.inr rfl, Or.inr rfl, trivial⟩ (ih _ _ _ _ _ hf)
      · have hf := pd_in_ hf hc
        refine pd_iload_n (i := 3) dJ6_stringSize_0f7a4_27 rfl rfl ?_
        refine pd_iload_n (i := 1) dJ6_stringSize_0f7a4_28 rfl rfl ?_
        refine pd_iadd dJ6_stringSize_0f7a4_29 ?_
        obtain ⟨h1, h2⟩ := pd_inj hf
        subst h1 h2
        exact pd_iret dJ6_stringSize_0f7a4_30 rfl (Nat.le_refl 0) (Nat.le_refl 0)
set_option maxHeartbeats 4000000 in
set_option maxRecDepth 100000 in
theorem pkJ6_stringSize_0f7a4_b11 (E : pd_E) (l : Launch) {al : Bool} {sh : pd_S} {n : Nat} {ρ : Int} {Fz : pd_F}  (F : pd_F) (x0 : Int) (x1 : Int) (hf : pfJ6_stringSize_0f7a4_b11 sh n  F x0 x1 = some (ρ, Fz)) : pd_V E l (pd_rm 1 0 0) (RJ6, cJ6_stringSize_0f7a4, 4, (some .int), "stringSize") (pd_Qm E al (some (pd_I ρ)) sh Fz 0 0) al 0 0 sh F 11 [pd_I x0, pd_I x1, pd_N, pd_N] [] := by
  unfold pfJ6_stringSize_0f7a4_b11 at hf
  refine pd_bipush dJ6_stringSize_0f7a4_11 (by decide) ?_
  refine pd_istore_n (L' := [pd_I x0, pd_I x1, pd_I (-10), pd_N]) dJ6_stringSize_0f7a4_13 rfl (by decide) rfl ?_
  refine pd_iconst dJ6_stringSize_0f7a4_14 (by decide) ?_
  refine pd_istore_n (L' := [pd_I x0, pd_I x1, pd_I (-10), pd_I 1]) dJ6_stringSize_0f7a4_15 rfl (by decide) rfl ?_
  exact pd_weak (L' := [pd_I x0, pd_I x1, pd_I (-10), pd_I 1]) ⟨Or.inr rfl, Or.inr rfl, Or.inr rfl, Or.inr rfl, trivial⟩ (pkJ6_stringSize_0f7a4_b16 E l n _ _ _ _ _ hf)
set_option maxHeartbeats 4000000 in
set_option maxRecDepth 100000 in
theorem pkJ6_stringSize_0f7a4 (l : Launch) {al : Bool} {sh : pd_S} {n : Nat} {F : pd_F} {x0 : Int} {ρ : Int} {Fz : pd_F} (hf : pfJ6_stringSize_0f7a4 sh n F x0 = some (ρ, Fz)) : pd_C l yJ6_stringSize_0f7a4 (Cond.code yJ6_stringSize_0f7a4 cJ6_stringSize_0f7a4 4 (some .int) :: pd_gt) (pd_rm 1 0 0) al 0 0 sh F [pd_I x0] (some (pd_I ρ)) sh Fz := by
  unfold pfJ6_stringSize_0f7a4 at hf
  refine pd_body (L := [pd_I x0, pd_N, pd_N, pd_N]) (by decide +kernel) (Nat.le_of_ble_eq_true rfl) rfl (fun E => ?_)
  refine pd_iconst dJ6_stringSize_0f7a4_0 (by decide) ?_
  refine pd_istore_n (L' := [pd_I x0, pd_I 1, pd_N, pd_N]) dJ6_stringSize_0f7a4_1 rfl (by decide) rfl ?_
  refine pd_iload_n (i := 0) dJ6_stringSize_0f7a4_2 rfl rfl ?_
  refine pd_if_lt (tgt := 11) dJ6_stringSize_0f7a4_3 (by decide) (fun hc => ?_) (fun hc => ?_)
  · have hf := pd_ip hf hc
    exact pd_weak (L' := [pd_I x0, pd_I 1, pd_N, pd_N]) ⟨Or.inr rfl, Or.inr rfl, Or.inr rfl, Or.inr rfl, trivial⟩ (pkJ6_stringSize_0f7a4_b11 E l _ _ _ hf)
  · have hf := pd_in_ hf hc
    refine pd_iconst dJ6_stringSize_0f7a4_6 (by decide) ?_
    refine pd_istore_n (L' := [pd_I x0, pd_I 0, pd_N, pd_N]) dJ6_stringSize_0f7a4_7 rfl (by decide) rfl ?_
    refine pd_iload_n (i := 0) dJ6_stringSize_0f7a4_8 rfl rfl ?_
    refine pd_ineg dJ6_stringSize_0f7a4_9 ?_
    refine pd_topI (fun x0_10 ex0_10 => ?_)
    have hf := pd_lt hf ex0_10
    clear ex0_10
    refine pd_istore_n (L' := [pd_I x0_10, pd_I 0, pd_N, pd_N]) dJ6_stringSize_0f7a4_10 rfl (by decide) rfl ?_
    exact pd_weak (L' := [pd_I x0_10, pd_I 0, pd_N, pd_N]) ⟨Or.inr rfl, Or.inr rfl, Or.inr rfl, Or.inr rfl, trivial⟩ (pkJ6_stringSize_0f7a4_b11 E l _ _ _ hf)
set_option maxHeartbeats 4000000 in
set_option maxRecDepth 100000 in
theorem pkJ6_getChars_ba4f3_b104 (E : pd_E) (l : Launch) {al : Bool} {sh : pd_S} {n : Nat} {ρ : Int} {Fz : pd_F}  (F : pd_F) (x2 : Int) (x5 : Int) (x6 : Int) (hf : pfJ6_getChars_ba4f3_b104 sh n  F x2 x5 x6 = some (ρ, Fz)) : pd_V E l (pd_rm 1 0 0) (RJ6, cJ6_getChars_ba4f3, 7, (some .int), "getChars") (pd_Qm E al (some (pd_I ρ)) sh Fz 0 0) al 0 0 sh F 104 [pd_N, pd_N, pd_R x2, pd_N, pd_N, pd_I x5, pd_I x6] [] := by
  unfold pfJ6_getChars_ba4f3_b104 at hf
  refine pd_iload (i := 6) dJ6_getChars_ba4f3_104 rfl ?_
  refine pd_if_eq (tgt := 118) dJ6_getChars_ba4f3_106 (by decide) (fun hc => ?_) (fun hc => ?_)
  · have hf := pd_ip hf hc
    refine pd_iload (i := 5) dJ6_getChars_ba4f3_118 rfl ?_
    obtain ⟨h1, h2⟩ := pd_inj hf
    subst h1 h2
    exact pd_iret dJ6_getChars_ba4f3_120 rfl (Nat.le_refl 0) (Nat.le_refl 0)
  · have hf := pd_in_ hf hc
    refine pd_aload_n (i := 2) dJ6_getChars_ba4f3_109 rfl rfl ?_
    refine pd_iincN (L' := fun y => [pd_N, pd_N, pd_R x2, pd_N, pd_N, pd_I y, pd_I x6]) dJ6_getChars_ba4f3_110 rfl (by decide) (by decide) (fun _ => rfl) (fun x5_110 ex5_110 => ?_)
    have hf := pd_lt hf ex5_110
    clear ex5_110
    refine pd_iload (i := 5) dJ6_getChars_ba4f3_113 rfl ?_
    refine pd_bipush dJ6_getChars_ba4f3_115 (by decide) ?_
    obtain ⟨hg1, hf⟩ := pd_ig hf
    refine pd_bast dJ6_getChars_ba4f3_117 hg1 ?_
    refine pd_topF (fun F2 eF2 => ?_)
    have hf := pd_lt hf eF2
    clear eF2
    refine pd_iload (i := 5) dJ6_getChars_ba4f3_118 rfl ?_
    obtain ⟨h1, h2⟩ := pd_inj hf
    subst h1 h2
    exact pd_iret dJ6_getChars_ba4f3_120 rfl (Nat.le_refl 0) (Nat.le_refl 0)
set_option maxHeartbeats 4000000 in
set_option maxRecDepth 100000 in
theorem pkJ6_getChars_ba4f3_b72 (E : pd_E) (l : Launch) {al : Bool} {sh : pd_S} {n : Nat} {ρ : Int} {Fz : pd_F}  (F : pd_F) (x0 : Int) (x2 : Int) (x5 : Int) (x6 : Int) (hf : pfJ6_getChars_ba4f3_b72 sh n  F x0 x2 x5 x6 = some (ρ, Fz)) : pd_V E l (pd_rm 1 0 0) (RJ6, cJ6_getChars_ba4f3, 7, (some .int), "getChars") (pd_Qm E al (some (pd_I ρ)) sh Fz 0 0) al 0 0 sh F 72 [pd_I x0, pd_N, pd_R x2, pd_N, pd_N, pd_I x5, pd_I x6] [] := by
  unfold pfJ6_getChars_ba4f3_b72 at hf
  refine pd_aload_n (i := 2) dJ6_getChars_ba4f3_72 rfl rfl ?_
  refine pd_iincN (L' := fun y => [pd_I x0, pd_N, pd_R x2, pd_N, pd_N, pd_I y, pd_I x6]) dJ6_getChars_ba4f3_73 rfl (by decide) (by decide) (fun _ => rfl) (fun x5_73 ex5_73 => ?_)
  have hf := pd_lt hf ex5_73
  clear ex5_73
  refine pd_iload (i := 5) dJ6_getChars_ba4f3_76 rfl ?_
  refine pd_gsDO dJ6_getChars_ba4f3_78 pq_48 ?_
  refine pd_iload_n (i := 0) dJ6_getChars_ba4f3_81 rfl rfl ?_
  refine pd_ineg dJ6_getChars_ba4f3_82 ?_
  obtain ⟨hg3, hf⟩ := pd_ig hf
  refine pd_dldO dJ6_getChars_ba4f3_83 hg3 ?_
  obtain ⟨hg4, hf⟩ := pd_ig hf
  refine pd_bast dJ6_getChars_ba4f3_84 hg4 ?_
  refine pd_topF (fun F5 eF5 => ?_)
  have hf := pd_lt hf eF5
  clear eF5
  refine pd_iload_n (i := 0) dJ6_getChars_ba4f3_85 rfl rfl ?_
  refine pd_bipush dJ6_getChars_ba4f3_86 (by decide) ?_
  refine pd_icmp_ge (tgt := 104) dJ6_getChars_ba4f3_88 (by decide) (fun hc => ?_) (fun hc => ?_)
  · have hf := pd_ip hf hc
    exact pd_weak (L' := [pd_N, pd_N, pd_R x2, pd_N, pd_N, pd_I x5_73, pd_I x6]) ⟨Or.inl rfl, Or.inr rfl, Or.inr rfl, Or.inr rfl, Or.inr rfl, Or.inr rfl, Or.inr rfl, trivial⟩ (pkJ6_getChars_ba4f3_b104 E l _ _ _ _ hf)
  · have hf := pd_in_ hf hc
    refine pd_aload_n (i := 2) dJ6_getChars_ba4f3_91 rfl rfl ?_
    refine pd_iincN (L' := fun y => [pd_I x0, pd_N, pd_R x2, pd_N, pd_N, pd_I y, pd_I x6]) dJ6_getChars_ba4f3_92 rfl (by decide) (by decide) (fun _ => rfl) (fun x5_92 ex5_92 => ?_)
    have hf := pd_lt hf ex5_92
    clear ex5_92
    refine pd_iload (i := 5) dJ6_getChars_ba4f3_95 rfl ?_
    refine pd_gsDT dJ6_getChars_ba4f3_97 pq_49 ?_
    refine pd_iload_n (i := 0) dJ6_getChars_ba4f3_100 rfl rfl ?_
    refine pd_ineg dJ6_getChars_ba4f3_101 ?_
    refine pd_dldT dJ6_getChars_ba4f3_102 hg3 ?_
    obtain ⟨hg6, hf⟩ := pd_ig hf
    refine pd_bast dJ6_getChars_ba4f3_103 hg6 ?_
    refine pd_topF (fun F7 eF7 => ?_)
    have hf := pd_lt hf eF7
    clear eF7
    exact pd_weak (L' := [pd_N, pd_N, pd_R x2, pd_N, pd_N, pd_I x5_92, pd_I x6]) ⟨Or.inl rfl, Or.inr rfl, Or.inr rfl, Or.inr rfl, Or.inr rfl, Or.inr rfl, Or.inr rfl, trivial⟩ (pkJ6_getChars_ba4f3_b104 E l _ _ _ _ hf)
set_option maxHeartbeats 4000000 in
set_option maxRecDepth 100000 in
theorem pkJ6_getChars_ba4f3_b22 (E : pd_E) (l : Launch) {al : Bool} {sh : pd_S} {n : Nat} {ρ : Int} {Fz : pd_F}  : ∀ (k : Nat) (F : pd_F) (x0 : Int) (x2 : Int) (x5 : Int) (x6 : Int), pfJ6_getChars_ba4f3_b22 sh n  k F x0 x2 x5 x6 = some (ρ, Fz) → pd_V E l (pd_rm 1 0 0) (RJ6, cJ6_getChars_ba4f3, 7, (some .int), "getChars") (pd_Qm E al (some (pd_I ρ)) sh Fz 0 0) al 0 0 sh F 22 [pd_I x0, pd_N, pd_R x2, pd_N, pd_N, pd_I x5, pd_I x6] [] := by
  intro k
  induction k with
  | zero => intro F x0 x2 x5 x6 hf; exact absurd hf (by unfold pfJ6_getChars_ba4f3_b22; exact fun h => nomatch h)
  | succ k ih =>
    intro F x0 x2 x5 x6 hf
    unfold pfJ6_getChars_ba4f3_b22 at hf
    refine pd_iload_n (i := 0) dJ6_getChars_ba4f3_22 rfl rfl ?_
    refine pd_bipush dJ6_getChars_ba4f3_23 (by decide) ?_
    refine pd_icmp_gt (tgt := 72) dJ6_getChars_ba4f3_25 (by decide) (fun hc => ?_) (fun hc => ?_)
    · have hf := pd_ip hf hc
      exact pd_weak (L' := [pd_I x0, pd_N, pd_R x2, pd_N, pd_N, pd_I x5, pd_I x6]) ⟨Or.inr rfl, Or.inr rfl, Or.inr rfl, Or.inr rfl, Or.inr rfl, Or.inr rfl, Or.inr rfl, trivial⟩ (pkJ6_getChars_ba4f3_b72 E l _ _ _ _ _ hf)
    · have hf := pd_in_ hf hc
      refine pd_iload_n (i := 0) dJ6_getChars_ba4f3_28 rfl rfl ?_
      refine pd_bipush dJ6_getChars_ba4f3_29 (by decide) ?_
      refine pd_idiv dJ6_getChars_ba4f3_31 (by decide) ?_
      refine pd_topI (fun x3_32 ex3_32 => ?_)
      have hf := pd_lt hf ex3_32
      clear ex3_32
      refine pd_istore_n (L' := [pd_I x0, pd_N, pd_R x2, pd_I x3_32, pd_N, pd_I x5, pd_I x6]) dJ6_getChars_ba4f3_32 rfl (by decide) rfl ?_
      refine pd_iload_n (i := 3) dJ6_getChars_ba4f3_33 rfl rfl ?_
      refine pd_bipush dJ6_getChars_ba4f3_34 (by decide) ?_
      refine pd_imul dJ6_getChars_ba4f3_36 ?_
      refine pd_iload_n (i := 0) dJ6_getChars_ba4f3_37 rfl rfl ?_
      refine pd_isub dJ6_getChars_ba4f3_38 ?_
      refine pd_topI (fun x4_39 ex4_39 => ?_)
      have hf := pd_lt hf ex4_39
      clear ex4_39
      refine pd_istore (L' := [pd_I x0, pd_N, pd_R x2, pd_I x3_32, pd_I x4_39, pd_I x5, pd_I x6]) dJ6_getChars_ba4f3_39 (by decide) rfl ?_
      refine pd_iload_n (i := 3) dJ6_getChars_ba4f3_41 rfl rfl ?_
      refine pd_istore_n (L' := [pd_I x3_32, pd_N, pd_R x2, pd_I x3_32, pd_I x4_39, pd_I x5, pd_I x6]) dJ6_getChars_ba4f3_42 rfl (by decide) rfl ?_
      refine pd_aload_n (i := 2) dJ6_getChars_ba4f3_43 rfl rfl ?_
      refine pd_iincN (L' := fun y => [pd_I x3_32, pd_N, pd_R x2, pd_I x3_32, pd_I x4_39, pd_I y, pd_I x6]) dJ6_getChars_ba4f3_44 rfl (by decide) (by decide) (fun _ => rfl) (fun x5_44 ex5_44 => ?_)
      have hf := pd_lt hf ex5_44
      clear ex5_44
      refine pd_iload (i := 5) dJ6_getChars_ba4f3_47 rfl ?_
      refine pd_gsDO dJ6_getChars_ba4f3_49 pq_48 ?_
      refine pd_iload (i := 4) dJ6_getChars_ba4f3_52 rfl ?_
      obtain ⟨hg8, hf⟩ := pd_ig hf
      refine pd_dldO dJ6_getChars_ba4f3_54 hg8 ?_
      obtain ⟨hg9, hf⟩ := pd_ig hf
      refine pd_bast dJ6_getChars_ba4f3_55 hg9 ?_
      refine pd_topF (fun F10 eF10 => ?_)
      have hf := pd_lt hf eF10
      clear eF10
      refine pd_aload_n (i := 2) dJ6_getChars_ba4f3_56 rfl rfl ?_
      refine pd_iincN (L' := fun y => [pd_I x3_32, pd_N, pd_R x2, pd_I x3_32, pd_I x4_39, pd_I y, pd_I x6]) dJ6_getChars_ba4f3_57 rfl (by decide) (by decide) (fun _ => rfl) (fun x5_57 ex5_57 => ?_)
      have hf := pd_lt hf ex5_57
      clear ex5_57
      refine pd_iload (i := 5) dJ6_getChars_ba4f3_60 rfl ?_
      refine pd_gsDT dJ6_getChars_ba4f3_62 pq_49 ?_
      refine pd_iload (i := 4) dJ6_getChars_ba4f3_65 rfl ?_
      refine pd_dldT dJ6_getChars_ba4f3_67 hg8 ?_
      obtain ⟨hg11, hf⟩ := pd_ig hf
      refine pd_bast dJ6_getChars_ba4f3_68 hg11 ?_
      refine pd_topF (fun F12 eF12 => ?_)
      have hf := pd_lt hf eF12
      clear eF12
      refine pd_goto (tgt := 22) dJ6_getChars_ba4f3_69 (by decide) ?_
      exact pd_weak (L' := [pd_I x3_32, pd_N, pd_R x2, pd_N, pd_N, pd_I x5_57, pd_I x6]) ⟨Or.inr rfl, Or.inr rfl, Or.inr rfl, Or.inl rfl, Or.inl rfl, Or.inr rfl, Or.inr rfl, trivial⟩ (ih _ _ _ _ _ hf)
set_option maxHeartbeats 4000000 in
set_option maxRecDepth 100000 in
theorem pkJ6_getChars_ba4f3_b12 (E : pd_E) (l : Launch) {al : Bool} {sh : pd_S} {n : Nat} {ρ : Int} {Fz : pd_F}  (F : pd_F) (x0 : Int) (x2 : Int) (x5 : Int) (t0 : Int) (hf : pfJ6_getChars_ba4f3_b12 sh n  F x0 x2 x5 t0 = some (ρ, Fz)) : pd_V E l (pd_rm 1 0 0) (RJ6, cJ6_getChars_ba4f3, 7, (some .int), "getChars") (pd_Qm E al (some (pd_I ρ)) sh Fz 0 0) al 0 0 sh F 12 [pd_I x0, pd_N, pd_R x2, pd_N, pd_N, pd_I x5, pd_N] [pd_I t0] := by
  unfold pfJ6_getChars_ba4f3_b12 at hf
  refine pd_istore (L' := [pd_I x0, pd_N, pd_R x2, pd_N, pd_N, pd_I x5, pd_I t0]) dJ6_getChars_ba4f3_12 (by decide) rfl ?_
  refine pd_iload (i := 6) dJ6_getChars_ba4f3_14 rfl ?_
  refine pd_if_ne (tgt := 22) dJ6_getChars_ba4f3_16 (by decide) (fun hc => ?_) (fun hc => ?_)
  · have hf := pd_ip hf hc
    exact pd_weak (L' := [pd_I x0, pd_N, pd_R x2, pd_N, pd_N, pd_I x5, pd_I t0]) ⟨Or.inr rfl, Or.inr rfl, Or.inr rfl, Or.inr rfl, Or.inr rfl, Or.inr rfl, Or.inr rfl, trivial⟩ (pkJ6_getChars_ba4f3_b22 E l n _ _ _ _ _ hf)
  · have hf := pd_iq hf hc
    refine pd_iload_n (i := 0) dJ6_getChars_ba4f3_19 rfl rfl ?_
    refine pd_ineg dJ6_getChars_ba4f3_20 ?_
    refine pd_topI (fun x0_21 ex0_21 => ?_)
    have hf := pd_lt hf ex0_21
    clear ex0_21
    refine pd_istore_n (L' := [pd_I x0_21, pd_N, pd_R x2, pd_N, pd_N, pd_I x5, pd_I t0]) dJ6_getChars_ba4f3_21 rfl (by decide) rfl ?_
    exact pd_weak (L' := [pd_I x0_21, pd_N, pd_R x2, pd_N, pd_N, pd_I x5, pd_I t0]) ⟨Or.inr rfl, Or.inr rfl, Or.inr rfl, Or.inr rfl, Or.inr rfl, Or.inr rfl, Or.inr rfl, trivial⟩ (pkJ6_getChars_ba4f3_b22 E l n _ _ _ _ _ hf)
set_option maxHeartbeats 4000000 in
set_option maxRecDepth 100000 in
theorem pkJ6_getChars_ba4f3 (l : Launch) {al : Bool} {sh : pd_S} {n : Nat} {F : pd_F} {x0 : Int} {x1 : Int} {x2 : Int} {ρ : Int} {Fz : pd_F} (hf : pfJ6_getChars_ba4f3 sh n F x0 x1 x2 = some (ρ, Fz)) : pd_C l yJ6_getChars_ba4f3 (Cond.code yJ6_getChars_ba4f3 cJ6_getChars_ba4f3 7 (some .int) :: pd_gt) (pd_rm 1 0 0) al 0 0 sh F [pd_I x0, pd_I x1, pd_R x2] (some (pd_I ρ)) sh Fz := by
  unfold pfJ6_getChars_ba4f3 at hf
  refine pd_body (L := [pd_I x0, pd_I x1, pd_R x2, pd_N, pd_N, pd_N, pd_N]) (by decide +kernel) (Nat.le_of_ble_eq_true rfl) rfl (fun E => ?_)
  refine pd_iload_n (i := 1) dJ6_getChars_ba4f3_0 rfl rfl ?_
  refine pd_istore (L' := [pd_I x0, pd_I x1, pd_R x2, pd_N, pd_N, pd_I x1, pd_N]) dJ6_getChars_ba4f3_1 (by decide) rfl ?_
  refine pd_iload_n (i := 0) dJ6_getChars_ba4f3_3 rfl rfl ?_
  refine pd_if_ge (tgt := 11) dJ6_getChars_ba4f3_4 (by decide) (fun hc => ?_) (fun hc => ?_)
  · have hf := pd_ip hf hc
    refine pd_iconst dJ6_getChars_ba4f3_11 (by decide) ?_
    exact pd_weak (L' := [pd_I x0, pd_N, pd_R x2, pd_N, pd_N, pd_I x1, pd_N]) ⟨Or.inr rfl, Or.inl rfl, Or.inr rfl, Or.inr rfl, Or.inr rfl, Or.inr rfl, Or.inr rfl, trivial⟩ (pkJ6_getChars_ba4f3_b12 E l _ _ _ _ _ hf)
  · have hf := pd_in_ hf hc
    refine pd_iconst dJ6_getChars_ba4f3_7 (by decide) ?_
    refine pd_goto (tgt := 12) dJ6_getChars_ba4f3_8 (by decide) ?_
    exact pd_weak (L' := [pd_I x0, pd_N, pd_R x2, pd_N, pd_N, pd_I x1, pd_N]) ⟨Or.inr rfl, Or.inl rfl, Or.inr rfl, Or.inr rfl, Or.inr rfl, Or.inr rfl, Or.inr rfl, trivial⟩ (pkJ6_getChars_ba4f3_b12 E l _ _ _ _ _ hf)
