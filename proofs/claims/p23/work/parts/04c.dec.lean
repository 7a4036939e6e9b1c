theorem dJ0_length_8abf5_0 : decode cJ0_length_8abf5 0 = .ok (.aload_n 0, 1) := by decide +kernel
theorem dJ0_length_8abf5_1 : decode cJ0_length_8abf5 1 = .ok (.getfield 9, 3) := by decide +kernel
theorem dJ0_length_8abf5_4 : decode cJ0_length_8abf5 4 = .ok (.arraylength, 1) := by decide +kernel
theorem dJ0_length_8abf5_5 : decode cJ0_length_8abf5 5 = .ok (.aload_n 0, 1) := by decide +kernel
theorem dJ0_length_8abf5_6 : decode cJ0_length_8abf5 6 = .ok (.invokevirtual 335, 3) := by decide +kernel
theorem dJ0_length_8abf5_9 : decode cJ0_length_8abf5 9 = .ok (.ishr, 1) := by decide +kernel
theorem dJ0_length_8abf5_10 : decode cJ0_length_8abf5 10 = .ok (.ireturn, 1) := by decide +kernel
theorem dJ0_charAt_5068e_0 : decode cJ0_charAt_5068e 0 = .ok (.aload_n 0, 1) := by decide +kernel
theorem dJ0_charAt_5068e_1 : decode cJ0_charAt_5068e 1 = .ok (.invokevirtual 492, 3) := by decide +kernel
theorem dJ0_charAt_5068e_4 : decode cJ0_charAt_5068e 4 = .ok (.ifCond .eq 12, 3) := by decide +kernel
theorem dJ0_charAt_5068e_7 : decode cJ0_charAt_5068e 7 = .ok (.aload_n 0, 1) := by decide +kernel
theorem dJ0_charAt_5068e_8 : decode cJ0_charAt_5068e 8 = .ok (.getfield 9, 3) := by decide +kernel
theorem dJ0_charAt_5068e_11 : decode cJ0_charAt_5068e 11 = .ok (.iload_n 1, 1) := by decide +kernel
theorem dJ0_charAt_5068e_12 : decode cJ0_charAt_5068e 12 = .ok (.invokestatic 495, 3) := by decide +kernel
theorem dJ0_charAt_5068e_15 : decode cJ0_charAt_5068e 15 = .ok (.ireturn, 1) := by decide +kernel
theorem dJ0_charAt_5068e_16 : decode cJ0_charAt_5068e 16 = .ok (.aload_n 0, 1) := by decide +kernel
theorem dJ0_charAt_5068e_17 : decode cJ0_charAt_5068e 17 = .ok (.getfield 9, 3) := by decide +kernel
theorem dJ0_charAt_5068e_20 : decode cJ0_charAt_5068e 20 = .ok (.iload_n 1, 1) := by decide +kernel
theorem dJ0_charAt_5068e_21 : decode cJ0_charAt_5068e 21 = .ok (.invokestatic 498, 3) := by decide +kernel
theorem dJ0_charAt_5068e_24 : decode cJ0_charAt_5068e 24 = .ok (.ireturn, 1) := by decide +kernel
theorem dJ0_indexOf_0f7a4_0 : decode cJ0_indexOf_0f7a4 0 = .ok (.aload_n 0, 1) := by decide +kernel
theorem dJ0_indexOf_0f7a4_1 : decode cJ0_indexOf_0f7a4 1 = .ok (.iload_n 1, 1) := by decide +kernel
theorem dJ0_indexOf_0f7a4_2 : decode cJ0_indexOf_0f7a4 2 = .ok (.iconst 0, 1) := by decide +kernel
theorem dJ0_indexOf_0f7a4_3 : decode cJ0_indexOf_0f7a4 3 = .ok (.invokevirtual 633, 3) := by decide +kernel
theorem dJ0_indexOf_0f7a4_6 : decode cJ0_indexOf_0f7a4 6 = .ok (.ireturn, 1) := by decide +kernel
theorem dJ0_indexOf_7cf53_0 : decode cJ0_indexOf_7cf53 0 = .ok (.aload_n 0, 1) := by decide +kernel
theorem dJ0_indexOf_7cf53_1 : decode cJ0_indexOf_7cf53 1 = .ok (.invokevirtual 492, 3) := by decide +kernel
theorem dJ0_indexOf_7cf53_4 : decode cJ0_indexOf_7cf53 4 = .ok (.ifCond .eq 19, 3) := by decide +kernel
theorem dJ0_indexOf_7cf53_7 : decode cJ0_indexOf_7cf53 7 = .ok (.aload_n 0, 1) := by decide +kernel
theorem dJ0_indexOf_7cf53_8 : decode cJ0_indexOf_7cf53 8 = .ok (.getfield 9, 3) := by decide +kernel
theorem dJ0_indexOf_7cf53_11 : decode cJ0_indexOf_7cf53 11 = .ok (.iload_n 1, 1) := by decide +kernel
theorem dJ0_indexOf_7cf53_12 : decode cJ0_indexOf_7cf53 12 = .ok (.iload_n 2, 1) := by decide +kernel
theorem dJ0_indexOf_7cf53_13 : decode cJ0_indexOf_7cf53 13 = .ok (.aload_n 0, 1) := by decide +kernel
theorem dJ0_indexOf_7cf53_14 : decode cJ0_indexOf_7cf53 14 = .ok (.invokevirtual 505, 3) := by decide +kernel
theorem dJ0_indexOf_7cf53_17 : decode cJ0_indexOf_7cf53 17 = .ok (.invokestatic 637, 3) := by decide +kernel
theorem dJ0_indexOf_7cf53_20 : decode cJ0_indexOf_7cf53 20 = .ok (.goto 16, 3) := by decide +kernel
theorem dJ0_indexOf_7cf53_23 : decode cJ0_indexOf_7cf53 23 = .ok (.aload_n 0, 1) := by decide +kernel
theorem dJ0_indexOf_7cf53_24 : decode cJ0_indexOf_7cf53 24 = .ok (.getfield 9, 3) := by decide +kernel
theorem dJ0_indexOf_7cf53_27 : decode cJ0_indexOf_7cf53 27 = .ok (.iload_n 1, 1) := by decide +kernel
theorem dJ0_indexOf_7cf53_28 : decode cJ0_indexOf_7cf53 28 = .ok (.iload_n 2, 1) := by decide +kernel
theorem dJ0_indexOf_7cf53_29 : decode cJ0_indexOf_7cf53 29 = .ok (.aload_n 0, 1) := by decide +kernel
theorem dJ0_indexOf_7cf53_30 : decode cJ0_indexOf_7cf53 30 = .ok (.invokevirtual 505, 3) := by decide +kernel
theorem dJ0_indexOf_7cf53_33 : decode cJ0_indexOf_7cf53 33 = .ok (.invokestatic 640, 3) := by decide +kernel
theorem dJ0_indexOf_7cf53_36 : decode cJ0_indexOf_7cf53 36 = .ok (.ireturn, 1) := by decide +kernel
theorem dJ0_coder_7d493_0 : decode cJ0_coder_7d493 0 = .ok (.getstatic 38, 3) := by decide +kernel
theorem dJ0_coder_7d493_3 : decode cJ0_coder_7d493 3 = .ok (.ifCond .eq 10, 3) := by decide +kernel
theorem dJ0_coder_7d493_6 : decode cJ0_coder_7d493 6 = .ok (.aload_n 0, 1) := by decide +kernel
theorem dJ0_coder_7d493_7 : decode cJ0_coder_7d493 7 = .ok (.getfield 15, 3) := by decide +kernel
theorem dJ0_coder_7d493_10 : decode cJ0_coder_7d493 10 = .ok (.goto 4, 3) := by decide +kernel
theorem dJ0_coder_7d493_13 : decode cJ0_coder_7d493 13 = .ok (.iconst 1, 1) := by decide +kernel
theorem dJ0_coder_7d493_14 : decode cJ0_coder_7d493 14 = .ok (.ireturn, 1) := by decide +kernel
theorem dJ0_isLatin1_aae02_0 : decode cJ0_isLatin1_aae02 0 = .ok (.getstatic 38, 3) := by decide +kernel
theorem dJ0_isLatin1_aae02_3 : decode cJ0_isLatin1_aae02 3 = .ok (.ifCond .eq 14, 3) := by decide +kernel
theorem dJ0_isLatin1_aae02_6 : decode cJ0_isLatin1_aae02 6 = .ok (.aload_n 0, 1) := by decide +kernel
theorem dJ0_isLatin1_aae02_7 : decode cJ0_isLatin1_aae02 7 = .ok (.getfield 15, 3) := by decide +kernel
theorem dJ0_isLatin1_aae02_10 : decode cJ0_isLatin1_aae02 10 = .ok (.ifCond .ne 7, 3) := by decide +kernel
theorem dJ0_isLatin1_aae02_13 : decode cJ0_isLatin1_aae02 13 = .ok (.iconst 1, 1) := by decide +kernel
theorem dJ0_isLatin1_aae02_14 : decode cJ0_isLatin1_aae02 14 = .ok (.goto 4, 3) := by decide +kernel
theorem dJ0_isLatin1_aae02_17 : decode cJ0_isLatin1_aae02 17 = .ok (.iconst 0, 1) := by decide +kernel
theorem dJ0_isLatin1_aae02_18 : decode cJ0_isLatin1_aae02 18 = .ok (.ireturn, 1) := by decide +kernel
theorem dJ0_checkIndex_df160_0 : decode cJ0_checkIndex_df160 0 = .ok (.iload_n 0, 1) := by decide +kernel
theorem dJ0_checkIndex_df160_1 : decode cJ0_checkIndex_df160 1 = .ok (.iload_n 1, 1) := by decide +kernel
theorem dJ0_checkIndex_df160_2 : decode cJ0_checkIndex_df160 2 = .ok (.getstatic 1053, 3) := by decide +kernel
theorem dJ0_checkIndex_df160_5 : decode cJ0_checkIndex_df160 5 = .ok (.invokestatic 1059, 3) := by decide +kernel
theorem dJ0_checkIndex_df160_8 : decode cJ0_checkIndex_df160 8 = .ok (.pop, 1) := by decide +kernel
theorem dJ0_checkIndex_df160_9 : decode cJ0_checkIndex_df160 9 = .ok (.return_, 1) := by decide +kernel
theorem dJ0_checkBoundsBeginEnd_23922_0 : decode cJ0_checkBoundsBeginEnd_23922 0 = .ok (.iload_n 0, 1) := by decide +kernel
theorem dJ0_checkBoundsBeginEnd_23922_1 : decode cJ0_checkBoundsBeginEnd_23922 1 = .ok (.iload_n 1, 1) := by decide +kernel
theorem dJ0_checkBoundsBeginEnd_23922_2 : decode cJ0_checkBoundsBeginEnd_23922 2 = .ok (.iload_n 2, 1) := by decide +kernel
theorem dJ0_checkBoundsBeginEnd_23922_3 : decode cJ0_checkBoundsBeginEnd_23922 3 = .ok (.getstatic 1053, 3) := by decide +kernel
theorem dJ0_checkBoundsBeginEnd_23922_6 : decode cJ0_checkBoundsBeginEnd_23922 6 = .ok (.invokestatic 1062, 3) := by decide +kernel
theorem dJ0_checkBoundsBeginEnd_23922_9 : decode cJ0_checkBoundsBeginEnd_23922 9 = .ok (.pop, 1) := by decide +kernel
theorem dJ0_checkBoundsBeginEnd_23922_10 : decode cJ0_checkBoundsBeginEnd_23922 10 = .ok (.return_, 1) := by decide +kernel
theorem dJ1_charAt_3b067_0 : decode cJ1_charAt_3b067 0 = .ok (.iload_n 1, 1) := by decide +kernel
theorem dJ1_charAt_3b067_1 : decode cJ1_charAt_3b067 1 = .ok (.aload_n 0, 1) := by decide +kernel
theorem dJ1_charAt_3b067_2 : decode cJ1_charAt_3b067 2 = .ok (.arraylength, 1) := by decide +kernel
theorem dJ1_charAt_3b067_3 : decode cJ1_charAt_3b067 3 = .ok (.invokestatic 9, 3) := by decide +kernel
theorem dJ1_charAt_3b067_6 : decode cJ1_charAt_3b067 6 = .ok (.aload_n 0, 1) := by decide +kernel
theorem dJ1_charAt_3b067_7 : decode cJ1_charAt_3b067 7 = .ok (.iload_n 1, 1) := by decide +kernel
theorem dJ1_charAt_3b067_8 : decode cJ1_charAt_3b067 8 = .ok (.baload, 1) := by decide +kernel
theorem dJ1_charAt_3b067_9 : decode cJ1_charAt_3b067 9 = .ok (.sipush 255, 3) := by decide +kernel
theorem dJ1_charAt_3b067_12 : decode cJ1_charAt_3b067 12 = .ok (.iand, 1) := by decide +kernel
theorem dJ1_charAt_3b067_13 : decode cJ1_charAt_3b067 13 = .ok (.i2c, 1) := by decide +kernel
theorem dJ1_charAt_3b067_14 : decode cJ1_charAt_3b067 14 = .ok (.ireturn, 1) := by decide +kernel
theorem dJ1_canEncode_9a6ad_0 : decode cJ1_canEncode_9a6ad 0 = .ok (.iload_n 0, 1) := by decide +kernel
theorem dJ1_canEncode_9a6ad_1 : decode cJ1_canEncode_9a6ad 1 = .ok (.ifCond .lt 14, 3) := by decide +kernel
theorem dJ1_canEncode_9a6ad_4 : decode cJ1_canEncode_9a6ad 4 = .ok (.iload_n 0, 1) := by decide +kernel
theorem dJ1_canEncode_9a6ad_5 : decode cJ1_canEncode_9a6ad 5 = .ok (.sipush 255, 3) := by decide +kernel
theorem dJ1_canEncode_9a6ad_8 : decode cJ1_canEncode_9a6ad 8 = .ok (.if_icmp .gt 7, 3) := by decide +kernel
theorem dJ1_canEncode_9a6ad_11 : decode cJ1_canEncode_9a6ad 11 = .ok (.iconst 1, 1) := by decide +kernel
theorem dJ1_canEncode_9a6ad_12 : decode cJ1_canEncode_9a6ad 12 = .ok (.goto 4, 3) := by decide +kernel
theorem dJ1_canEncode_9a6ad_15 : decode cJ1_canEncode_9a6ad 15 = .ok (.iconst 0, 1) := by decide +kernel
theorem dJ1_canEncode_9a6ad_16 : decode cJ1_canEncode_9a6ad 16 = .ok (.ireturn, 1) := by decide +kernel
theorem dJ1_indexOf_4cfef_0 : decode cJ1_indexOf_4cfef 0 = .ok (.iload_n 1, 1) := by decide +kernel
theorem dJ1_indexOf_4cfef_1 : decode cJ1_indexOf_4cfef 1 = .ok (.invokestatic 88, 3) := by decide +kernel
theorem dJ1_indexOf_4cfef_4 : decode cJ1_indexOf_4cfef 4 = .ok (.ifCond .ne 5, 3) := by decide +kernel
theorem dJ1_indexOf_4cfef_7 : decode cJ1_indexOf_4cfef 7 = .ok (.iconst (-1), 1) := by decide +kernel
theorem dJ1_indexOf_4cfef_8 : decode cJ1_indexOf_4cfef 8 = .ok (.ireturn, 1) := by decide +kernel
theorem dJ1_indexOf_4cfef_9 : decode cJ1_indexOf_4cfef 9 = .ok (.iload_n 2, 1) := by decide +kernel
theorem dJ1_indexOf_4cfef_10 : decode cJ1_indexOf_4cfef 10 = .ok (.iconst 0, 1) := by decide +kernel
theorem dJ1_indexOf_4cfef_11 : decode cJ1_indexOf_4cfef 11 = .ok (.invokestatic 92, 3) := by decide +kernel
theorem dJ1_indexOf_4cfef_14 : decode cJ1_indexOf_4cfef 14 = .ok (.istore_n 2, 1) := by decide +kernel
theorem dJ1_indexOf_4cfef_15 : decode cJ1_indexOf_4cfef 15 = .ok (.iload_n 3, 1) := by decide +kernel
theorem dJ1_indexOf_4cfef_16 : decode cJ1_indexOf_4cfef 16 = .ok (.aload_n 0, 1) := by decide +kernel
theorem dJ1_indexOf_4cfef_17 : decode cJ1_indexOf_4cfef 17 = .ok (.arraylength, 1) := by decide +kernel
theorem dJ1_indexOf_4cfef_18 : decode cJ1_indexOf_4cfef 18 = .ok (.invokestatic 38, 3) := by decide +kernel
theorem dJ1_indexOf_4cfef_21 : decode cJ1_indexOf_4cfef 21 = .ok (.istore_n 3, 1) := by decide +kernel
theorem dJ1_indexOf_4cfef_22 : decode cJ1_indexOf_4cfef 22 = .ok (.iload_n 2, 1) := by decide +kernel
theorem dJ1_indexOf_4cfef_23 : decode cJ1_indexOf_4cfef 23 = .ok (.iload_n 3, 1) := by decide +kernel
theorem dJ1_indexOf_4cfef_24 : decode cJ1_indexOf_4cfef 24 = .ok (.if_icmp .lt 5, 3) := by decide +kernel
theorem dJ1_indexOf_4cfef_27 : decode cJ1_indexOf_4cfef 27 = .ok (.iconst (-1), 1) := by decide +kernel
theorem dJ1_indexOf_4cfef_28 : decode cJ1_indexOf_4cfef 28 = .ok (.ireturn, 1) := by decide +kernel
theorem dJ1_indexOf_4cfef_29 : decode cJ1_indexOf_4cfef 29 = .ok (.aload_n 0, 1) := by decide +kernel
theorem dJ1_indexOf_4cfef_30 : decode cJ1_indexOf_4cfef 30 = .ok (.iload_n 1, 1) := by decide +kernel
theorem dJ1_indexOf_4cfef_31 : decode cJ1_indexOf_4cfef 31 = .ok (.iload_n 2, 1) := by decide +kernel
theorem dJ1_indexOf_4cfef_32 : decode cJ1_indexOf_4cfef 32 = .ok (.iload_n 3, 1) := by decide +kernel
theorem dJ1_indexOf_4cfef_33 : decode cJ1_indexOf_4cfef 33 = .ok (.invokestatic 95, 3) := by decide +kernel
theorem dJ1_indexOf_4cfef_36 : decode cJ1_indexOf_4cfef 36 = .ok (.ireturn, 1) := by decide +kernel
theorem dJ1_indexOfChar_4cfef_0 : decode cJ1_indexOfChar_4cfef 0 = .ok (.iload_n 1, 1) := by decide +kernel
theorem dJ1_indexOfChar_4cfef_1 : decode cJ1_indexOfChar_4cfef 1 = .ok (.i2b, 1) := by decide +kernel
theorem dJ1_indexOfChar_4cfef_2 : decode cJ1_indexOfChar_4cfef 2 = .ok (.istore 4, 2) := by decide +kernel
theorem dJ1_indexOfChar_4cfef_4 : decode cJ1_indexOfChar_4cfef 4 = .ok (.iload_n 2, 1) := by decide +kernel
theorem dJ1_indexOfChar_4cfef_5 : decode cJ1_indexOfChar_4cfef 5 = .ok (.istore 5, 2) := by decide +kernel
theorem dJ1_indexOfChar_4cfef_7 : decode cJ1_indexOfChar_4cfef 7 = .ok (.iload 5, 2) := by decide +kernel
theorem dJ1_indexOfChar_4cfef_9 : decode cJ1_indexOfChar_4cfef 9 = .ok (.iload_n 3, 1) := by decide +kernel
theorem dJ1_indexOfChar_4cfef_10 : decode cJ1_indexOfChar_4cfef 10 = .ok (.if_icmp .ge 21, 3) := by decide +kernel
theorem dJ1_indexOfChar_4cfef_13 : decode cJ1_indexOfChar_4cfef 13 = .ok (.aload_n 0, 1) := by decide +kernel
theorem dJ1_indexOfChar_4cfef_14 : decode cJ1_indexOfChar_4cfef 14 = .ok (.iload 5, 2) := by decide +kernel
theorem dJ1_indexOfChar_4cfef_16 : decode cJ1_indexOfChar_4cfef 16 = .ok (.baload, 1) := by decide +kernel
theorem dJ1_indexOfChar_4cfef_17 : decode cJ1_indexOfChar_4cfef 17 = .ok (.iload 4, 2) := by decide +kernel
theorem dJ1_indexOfChar_4cfef_19 : decode cJ1_indexOfChar_4cfef 19 = .ok (.if_icmp .ne 6, 3) := by decide +kernel
theorem dJ1_indexOfChar_4cfef_22 : decode cJ1_indexOfChar_4cfef 22 = .ok (.iload 5, 2) := by decide +kernel
theorem dJ1_indexOfChar_4cfef_24 : decode cJ1_indexOfChar_4cfef 24 = .ok (.ireturn, 1) := by decide +kernel
theorem dJ1_indexOfChar_4cfef_25 : decode cJ1_indexOfChar_4cfef 25 = .ok (.iinc 5 1, 3) := by decide +kernel
theorem dJ1_indexOfChar_4cfef_28 : decode cJ1_indexOfChar_4cfef 28 = .ok (.goto (-21), 3) := by decide +kernel
theorem dJ1_indexOfChar_4cfef_31 : decode cJ1_indexOfChar_4cfef 31 = .ok (.iconst (-1), 1) := by decide +kernel
theorem dJ1_indexOfChar_4cfef_32 : decode cJ1_indexOfChar_4cfef 32 = .ok (.ireturn, 1) := by decide +kernel
theorem dJ3_checkIndex_8e157_0 : decode cJ3_checkIndex_8e157 0 = .ok (.iload_n 0, 1) := by decide +kernel
theorem dJ3_checkIndex_8e157_1 : decode cJ3_checkIndex_8e157 1 = .ok (.ifCond .lt 8, 3) := by decide +kernel
theorem dJ3_checkIndex_8e157_4 : decode cJ3_checkIndex_8e157 4 = .ok (.iload_n 0, 1) := by decide +kernel
theorem dJ3_checkIndex_8e157_5 : decode cJ3_checkIndex_8e157 5 = .ok (.iload_n 1, 1) := by decide +kernel
theorem dJ3_checkIndex_8e157_6 : decode cJ3_checkIndex_8e157 6 = .ok (.if_icmp .lt 10, 3) := by decide +kernel
theorem dJ3_checkIndex_8e157_9 : decode cJ3_checkIndex_8e157 9 = .ok (.aload_n 2, 1) := by decide +kernel
theorem dJ3_checkIndex_8e157_10 : decode cJ3_checkIndex_8e157 10 = .ok (.iload_n 0, 1) := by decide +kernel
theorem dJ3_checkIndex_8e157_11 : decode cJ3_checkIndex_8e157 11 = .ok (.iload_n 1, 1) := by decide +kernel
theorem dJ3_checkIndex_8e157_12 : decode cJ3_checkIndex_8e157 12 = .ok (.invokestatic 95, 3) := by decide +kernel
theorem dJ3_checkIndex_8e157_15 : decode cJ3_checkIndex_8e157 15 = .ok (.athrow, 1) := by decide +kernel
theorem dJ3_checkIndex_8e157_16 : decode cJ3_checkIndex_8e157 16 = .ok (.iload_n 0, 1) := by decide +kernel
theorem dJ3_checkIndex_8e157_17 : decode cJ3_checkIndex_8e157 17 = .ok (.ireturn, 1) := by decide +kernel
theorem dJ3_checkFromToIndex_8c36e_0 : decode cJ3_checkFromToIndex_8c36e 0 = .ok (.iload_n 0, 1) := by decide +kernel
theorem dJ3_checkFromToIndex_8c36e_1 : decode cJ3_checkFromToIndex_8c36e 1 = .ok (.ifCond .lt 13, 3) := by decide +kernel
theorem dJ3_checkFromToIndex_8c36e_4 : decode cJ3_checkFromToIndex_8c36e 4 = .ok (.iload_n 0, 1) := by decide +kernel
theorem dJ3_checkFromToIndex_8c36e_5 : decode cJ3_checkFromToIndex_8c36e 5 = .ok (.iload_n 1, 1) := by decide +kernel
theorem dJ3_checkFromToIndex_8c36e_6 : decode cJ3_checkFromToIndex_8c36e 6 = .ok (.if_icmp .gt 8, 3) := by decide +kernel
theorem dJ3_checkFromToIndex_8c36e_9 : decode cJ3_checkFromToIndex_8c36e 9 = .ok (.iload_n 1, 1) := by decide +kernel
theorem dJ3_checkFromToIndex_8c36e_10 : decode cJ3_checkFromToIndex_8c36e 10 = .ok (.iload_n 2, 1) := by decide +kernel
theorem dJ3_checkFromToIndex_8c36e_11 : decode cJ3_checkFromToIndex_8c36e 11 = .ok (.if_icmp .le 11, 3) := by decide +kernel
theorem dJ3_checkFromToIndex_8c36e_14 : decode cJ3_checkFromToIndex_8c36e 14 = .ok (.aload_n 3, 1) := by decide +kernel
theorem dJ3_checkFromToIndex_8c36e_15 : decode cJ3_checkFromToIndex_8c36e 15 = .ok (.iload_n 0, 1) := by decide +kernel
theorem dJ3_checkFromToIndex_8c36e_16 : decode cJ3_checkFromToIndex_8c36e 16 = .ok (.iload_n 1, 1) := by decide +kernel
theorem dJ3_checkFromToIndex_8c36e_17 : decode cJ3_checkFromToIndex_8c36e 17 = .ok (.iload_n 2, 1) := by decide +kernel
theorem dJ3_checkFromToIndex_8c36e_18 : decode cJ3_checkFromToIndex_8c36e 18 = .ok (.invokestatic 99, 3) := by decide +kernel
theorem dJ3_checkFromToIndex_8c36e_21 : decode cJ3_checkFromToIndex_8c36e 21 = .ok (.athrow, 1) := by decide +kernel
theorem dJ3_checkFromToIndex_8c36e_22 : decode cJ3_checkFromToIndex_8c36e 22 = .ok (.iload_n 0, 1) := by decide +kernel
theorem dJ3_checkFromToIndex_8c36e_23 : decode cJ3_checkFromToIndex_8c36e 23 = .ok (.ireturn, 1) := by decide +kernel
theorem dL_cell_0 : decode cL_cell 0 = .ok (.iload_n 1, 1) := by decide +kernel
theorem dL_cell_1 : decode cL_cell 1 = .ok (.aload_n 0, 1) := by decide +kernel
theorem dL_cell_2 : decode cL_cell 2 = .ok (.arraylength, 1) := by decide +kernel
theorem dL_cell_3 : decode cL_cell 3 = .ok (.if_icmp .ge 9, 3) := by decide +kernel
theorem dL_cell_6 : decode cL_cell 6 = .ok (.aload_n 0, 1) := by decide +kernel
theorem dL_cell_7 : decode cL_cell 7 = .ok (.iload_n 1, 1) := by decide +kernel
theorem dL_cell_8 : decode cL_cell 8 = .ok (.iaload, 1) := by decide +kernel
theorem dL_cell_9 : decode cL_cell 9 = .ok (.goto 11, 3) := by decide +kernel
theorem dL_cell_12 : decode cL_cell 12 = .ok (.ldc 7, 2) := by decide +kernel
theorem dL_cell_14 : decode cL_cell 14 = .ok (.iload_n 1, 1) := by decide +kernel
theorem dL_cell_15 : decode cL_cell 15 = .ok (.imul, 1) := by decide +kernel
theorem dL_cell_16 : decode cL_cell 16 = .ok (.sipush 859, 3) := by decide +kernel
theorem dL_cell_19 : decode cL_cell 19 = .ok (.iadd, 1) := by decide +kernel
theorem dL_cell_20 : decode cL_cell 20 = .ok (.ireturn, 1) := by decide +kernel
theorem dL_low_0 : decode cL_low 0 = .ok (.iload_n 0, 1) := by decide +kernel
theorem dL_low_1 : decode cL_low 1 = .ok (.ldc 8, 2) := by decide +kernel
theorem dL_low_3 : decode cL_low 3 = .ok (.iand, 1) := by decide +kernel
theorem dL_low_4 : decode cL_low 4 = .ok (.iload_n 1, 1) := by decide +kernel
theorem dL_low_5 : decode cL_low 5 = .ok (.irem, 1) := by decide +kernel
theorem dL_low_6 : decode cL_low 6 = .ok (.ireturn, 1) := by decide +kernel
theorem dL_sign_0 : decode cL_sign 0 = .ok (.iload_n 0, 1) := by decide +kernel
theorem dL_sign_1 : decode cL_sign 1 = .ok (.iconst 4, 1) := by decide +kernel
theorem dL_sign_2 : decode cL_sign 2 = .ok (.ishr, 1) := by decide +kernel
theorem dL_sign_3 : decode cL_sign 3 = .ok (.bipush 26, 2) := by decide +kernel
theorem dL_sign_5 : decode cL_sign 5 = .ok (.invokestatic 9, 3) := by decide +kernel
theorem dL_sign_8 : decode cL_sign 8 = .ok (.istore_n 1, 1) := by decide +kernel
theorem dL_sign_9 : decode cL_sign 9 = .ok (.iload_n 0, 1) := by decide +kernel
theorem dL_sign_10 : decode cL_sign 10 = .ok (.bipush 15, 2) := by decide +kernel
theorem dL_sign_12 : decode cL_sign 12 = .ok (.iand, 1) := by decide +kernel
theorem dL_sign_13 : decode cL_sign 13 = .ok (.tableswitch 151 0 4 #[35, 41, 66, 91, 138], 35) := by decide +kernel
theorem dL_sign_48 : decode cL_sign 48 = .ok (.bipush 65, 2) := by decide +kernel
theorem dL_sign_50 : decode cL_sign 50 = .ok (.iload_n 1, 1) := by decide +kernel
theorem dL_sign_51 : decode cL_sign 51 = .ok (.iadd, 1) := by decide +kernel
theorem dL_sign_52 : decode cL_sign 52 = .ok (.i2c, 1) := by decide +kernel
theorem dL_sign_53 : decode cL_sign 53 = .ok (.ireturn, 1) := by decide +kernel
theorem dL_sign_54 : decode cL_sign 54 = .ok (.iload_n 1, 1) := by decide +kernel
theorem dL_sign_55 : decode cL_sign 55 = .ok (.bipush 9, 2) := by decide +kernel
theorem dL_sign_57 : decode cL_sign 57 = .ok (.if_icmp .ge 8, 3) := by decide +kernel
theorem dL_sign_60 : decode cL_sign 60 = .ok (.bipush 46, 2) := by decide +kernel
theorem dL_sign_62 : decode cL_sign 62 = .ok (.goto 16, 3) := by decide +kernel
theorem dL_sign_65 : decode cL_sign 65 = .ok (.iload_n 1, 1) := by decide +kernel
theorem dL_sign_66 : decode cL_sign 66 = .ok (.bipush 18, 2) := by decide +kernel
theorem dL_sign_68 : decode cL_sign 68 = .ok (.if_icmp .ge 8, 3) := by decide +kernel
theorem dL_sign_71 : decode cL_sign 71 = .ok (.bipush 33, 2) := by decide +kernel
theorem dL_sign_73 : decode cL_sign 73 = .ok (.goto 5, 3) := by decide +kernel
theorem dL_sign_76 : decode cL_sign 76 = .ok (.bipush 63, 2) := by decide +kernel
theorem dL_sign_78 : decode cL_sign 78 = .ok (.ireturn, 1) := by decide +kernel
theorem dL_sign_79 : decode cL_sign 79 = .ok (.iload_n 1, 1) := by decide +kernel
theorem dL_sign_80 : decode cL_sign 80 = .ok (.bipush 9, 2) := by decide +kernel
theorem dL_sign_82 : decode cL_sign 82 = .ok (.if_icmp .ge 8, 3) := by decide +kernel
theorem dL_sign_85 : decode cL_sign 85 = .ok (.bipush 44, 2) := by decide +kernel
theorem dL_sign_87 : decode cL_sign 87 = .ok (.goto 16, 3) := by decide +kernel
theorem dL_sign_90 : decode cL_sign 90 = .ok (.iload_n 1, 1) := by decide +kernel
theorem dL_sign_91 : decode cL_sign 91 = .ok (.bipush 18, 2) := by decide +kernel
theorem dL_sign_93 : decode cL_sign 93 = .ok (.if_icmp .ge 8, 3) := by decide +kernel
theorem dL_sign_96 : decode cL_sign 96 = .ok (.bipush 59, 2) := by decide +kernel
theorem dL_sign_98 : decode cL_sign 98 = .ok (.goto 5, 3) := by decide +kernel
theorem dL_sign_101 : decode cL_sign 101 = .ok (.bipush 58, 2) := by decide +kernel
theorem dL_sign_103 : decode cL_sign 103 = .ok (.ireturn, 1) := by decide +kernel
theorem dL_sign_104 : decode cL_sign 104 = .ok (.iload_n 1, 1) := by decide +kernel
theorem dL_sign_105 : decode cL_sign 105 = .ok (.bipush 6, 2) := by decide +kernel
theorem dL_sign_107 : decode cL_sign 107 = .ok (.if_icmp .ge 8, 3) := by decide +kernel
theorem dL_sign_110 : decode cL_sign 110 = .ok (.bipush 45, 2) := by decide +kernel
theorem dL_sign_112 : decode cL_sign 112 = .ok (.goto 38, 3) := by decide +kernel
theorem dL_sign_115 : decode cL_sign 115 = .ok (.iload_n 1, 1) := by decide +kernel
theorem dL_sign_116 : decode cL_sign 116 = .ok (.bipush 12, 2) := by decide +kernel
theorem dL_sign_118 : decode cL_sign 118 = .ok (.if_icmp .ge 8, 3) := by decide +kernel
theorem dL_sign_121 : decode cL_sign 121 = .ok (.bipush 39, 2) := by decide +kernel
theorem dL_sign_123 : decode cL_sign 123 = .ok (.goto 27, 3) := by decide +kernel
theorem dL_sign_126 : decode cL_sign 126 = .ok (.iload_n 1, 1) := by decide +kernel
theorem dL_sign_127 : decode cL_sign 127 = .ok (.bipush 18, 2) := by decide +kernel
theorem dL_sign_129 : decode cL_sign 129 = .ok (.if_icmp .ge 8, 3) := by decide +kernel
theorem dL_sign_132 : decode cL_sign 132 = .ok (.bipush 34, 2) := by decide +kernel
theorem dL_sign_134 : decode cL_sign 134 = .ok (.goto 16, 3) := by decide +kernel
theorem dL_sign_137 : decode cL_sign 137 = .ok (.iload_n 1, 1) := by decide +kernel
theorem dL_sign_138 : decode cL_sign 138 = .ok (.bipush 22, 2) := by decide +kernel
theorem dL_sign_140 : decode cL_sign 140 = .ok (.if_icmp .ge 8, 3) := by decide +kernel
theorem dL_sign_143 : decode cL_sign 143 = .ok (.bipush 40, 2) := by decide +kernel
theorem dL_sign_145 : decode cL_sign 145 = .ok (.goto 5, 3) := by decide +kernel
theorem dL_sign_148 : decode cL_sign 148 = .ok (.bipush 41, 2) := by decide +kernel
theorem dL_sign_150 : decode cL_sign 150 = .ok (.ireturn, 1) := by decide +kernel
theorem dL_sign_151 : decode cL_sign 151 = .ok (.bipush 48, 2) := by decide +kernel
theorem dL_sign_153 : decode cL_sign 153 = .ok (.iload_n 0, 1) := by decide +kernel
theorem dL_sign_154 : decode cL_sign 154 = .ok (.iconst 4, 1) := by decide +kernel
theorem dL_sign_155 : decode cL_sign 155 = .ok (.ishr, 1) := by decide +kernel
theorem dL_sign_156 : decode cL_sign 156 = .ok (.bipush 10, 2) := by decide +kernel
theorem dL_sign_158 : decode cL_sign 158 = .ok (.invokestatic 9, 3) := by decide +kernel
theorem dL_sign_161 : decode cL_sign 161 = .ok (.iadd, 1) := by decide +kernel
theorem dL_sign_162 : decode cL_sign 162 = .ok (.i2c, 1) := by decide +kernel
theorem dL_sign_163 : decode cL_sign 163 = .ok (.ireturn, 1) := by decide +kernel
theorem dL_sign_164 : decode cL_sign 164 = .ok (.bipush 97, 2) := by decide +kernel
theorem dL_sign_166 : decode cL_sign 166 = .ok (.iload_n 1, 1) := by decide +kernel
theorem dL_sign_167 : decode cL_sign 167 = .ok (.iadd, 1) := by decide +kernel
theorem dL_sign_168 : decode cL_sign 168 = .ok (.i2c, 1) := by decide +kernel
theorem dL_sign_169 : decode cL_sign 169 = .ok (.ireturn, 1) := by decide +kernel
theorem dL_reads_0 : decode cL_reads 0 = .ok (.aload_n 0, 1) := by decide +kernel
theorem dL_reads_1 : decode cL_reads 1 = .ok (.invokevirtual 15, 3) := by decide +kernel
theorem dL_reads_4 : decode cL_reads 4 = .ok (.pop, 1) := by decide +kernel
theorem dL_reads_5 : decode cL_reads 5 = .ok (.iconst 0, 1) := by decide +kernel
theorem dL_reads_6 : decode cL_reads 6 = .ok (.istore_n 3, 1) := by decide +kernel
theorem dL_reads_7 : decode cL_reads 7 = .ok (.iconst 0, 1) := by decide +kernel
theorem dL_reads_8 : decode cL_reads 8 = .ok (.istore 4, 2) := by decide +kernel
theorem dL_reads_10 : decode cL_reads 10 = .ok (.bipush 20, 2) := by decide +kernel
theorem dL_reads_12 : decode cL_reads 12 = .ok (.aload_n 1, 1) := by decide +kernel
theorem dL_reads_13 : decode cL_reads 13 = .ok (.iload_n 2, 1) := by decide +kernel
theorem dL_reads_14 : decode cL_reads 14 = .ok (.invokestatic 21, 3) := by decide +kernel
theorem dL_reads_17 : decode cL_reads 17 = .ok (.bipush 95, 2) := by decide +kernel
theorem dL_reads_19 : decode cL_reads 19 = .ok (.invokestatic 9, 3) := by decide +kernel
theorem dL_reads_22 : decode cL_reads 22 = .ok (.iadd, 1) := by decide +kernel
theorem dL_reads_23 : decode cL_reads 23 = .ok (.istore 5, 2) := by decide +kernel
theorem dL_reads_25 : decode cL_reads 25 = .ok (.iconst 1, 1) := by decide +kernel
theorem dL_reads_26 : decode cL_reads 26 = .ok (.istore 6, 2) := by decide +kernel
theorem dL_reads_28 : decode cL_reads 28 = .ok (.iconst 0, 1) := by decide +kernel
theorem dL_reads_29 : decode cL_reads 29 = .ok (.istore 7, 2) := by decide +kernel
theorem dL_reads_31 : decode cL_reads 31 = .ok (.iload 7, 2) := by decide +kernel
theorem dL_reads_33 : decode cL_reads 33 = .ok (.iload 5, 2) := by decide +kernel
theorem dL_reads_35 : decode cL_reads 35 = .ok (.if_icmp .ge 96, 3) := by decide +kernel
theorem dL_reads_38 : decode cL_reads 38 = .ok (.aload_n 1, 1) := by decide +kernel
theorem dL_reads_39 : decode cL_reads 39 = .ok (.iload_n 2, 1) := by decide +kernel
theorem dL_reads_40 : decode cL_reads 40 = .ok (.iload 7, 2) := by decide +kernel
theorem dL_reads_42 : decode cL_reads 42 = .ok (.iadd, 1) := by decide +kernel
theorem dL_reads_43 : decode cL_reads 43 = .ok (.invokestatic 21, 3) := by decide +kernel
theorem dL_reads_46 : decode cL_reads 46 = .ok (.istore 8, 2) := by decide +kernel
theorem dL_reads_48 : decode cL_reads 48 = .ok (.iload 6, 2) := by decide +kernel
theorem dL_reads_50 : decode cL_reads 50 = .ok (.ifCond .ne 10, 3) := by decide +kernel
theorem dL_reads_53 : decode cL_reads 53 = .ok (.iload 8, 2) := by decide +kernel
theorem dL_reads_55 : decode cL_reads 55 = .ok (.iconst 3, 1) := by decide +kernel
theorem dL_reads_56 : decode cL_reads 56 = .ok (.iand, 1) := by decide +kernel
theorem dL_reads_57 : decode cL_reads 57 = .ok (.ifCond .eq 16, 3) := by decide +kernel
theorem dL_reads_60 : decode cL_reads 60 = .ok (.iload 7, 2) := by decide +kernel
theorem dL_reads_62 : decode cL_reads 62 = .ok (.ifCond .ne 15, 3) := by decide +kernel
theorem dL_reads_65 : decode cL_reads 65 = .ok (.iload 8, 2) := by decide +kernel
theorem dL_reads_67 : decode cL_reads 67 = .ok (.bipush 7, 2) := by decide +kernel
theorem dL_reads_69 : decode cL_reads 69 = .ok (.iand, 1) := by decide +kernel
theorem dL_reads_70 : decode cL_reads 70 = .ok (.ifCond .ne 7, 3) := by decide +kernel
theorem dL_reads_73 : decode cL_reads 73 = .ok (.iconst 1, 1) := by decide +kernel
theorem dL_reads_74 : decode cL_reads 74 = .ok (.goto 4, 3) := by decide +kernel
theorem dL_reads_77 : decode cL_reads 77 = .ok (.iconst 0, 1) := by decide +kernel
theorem dL_reads_78 : decode cL_reads 78 = .ok (.istore 9, 2) := by decide +kernel
theorem dL_reads_80 : decode cL_reads 80 = .ok (.iload_n 3, 1) := by decide +kernel
theorem dL_reads_81 : decode cL_reads 81 = .ok (.iload 6, 2) := by decide +kernel
theorem dL_reads_83 : decode cL_reads 83 = .ok (.ifCond .eq 12, 3) := by decide +kernel
theorem dL_reads_86 : decode cL_reads 86 = .ok (.iload 9, 2) := by decide +kernel
theorem dL_reads_88 : decode cL_reads 88 = .ok (.ifCond .ne 7, 3) := by decide +kernel
theorem dL_reads_91 : decode cL_reads 91 = .ok (.iconst 1, 1) := by decide +kernel
theorem dL_reads_92 : decode cL_reads 92 = .ok (.goto 4, 3) := by decide +kernel
theorem dL_reads_95 : decode cL_reads 95 = .ok (.iconst 0, 1) := by decide +kernel
theorem dL_reads_96 : decode cL_reads 96 = .ok (.iadd, 1) := by decide +kernel
theorem dL_reads_97 : decode cL_reads 97 = .ok (.istore_n 3, 1) := by decide +kernel
theorem dL_reads_98 : decode cL_reads 98 = .ok (.iload 9, 2) := by decide +kernel
theorem dL_reads_100 : decode cL_reads 100 = .ok (.istore 6, 2) := by decide +kernel
theorem dL_reads_102 : decode cL_reads 102 = .ok (.aload_n 0, 1) := by decide +kernel
theorem dL_reads_103 : decode cL_reads 103 = .ok (.iload 9, 2) := by decide +kernel
theorem dL_reads_105 : decode cL_reads 105 = .ok (.ifCond .eq 8, 3) := by decide +kernel
theorem dL_reads_108 : decode cL_reads 108 = .ok (.bipush 32, 2) := by decide +kernel
theorem dL_reads_110 : decode cL_reads 110 = .ok (.goto 10, 3) := by decide +kernel
theorem dL_reads_113 : decode cL_reads 113 = .ok (.iload 8, 2) := by decide +kernel
theorem dL_reads_115 : decode cL_reads 115 = .ok (.iconst 3, 1) := by decide +kernel
theorem dL_reads_116 : decode cL_reads 116 = .ok (.ishr, 1) := by decide +kernel
theorem dL_reads_117 : decode cL_reads 117 = .ok (.invokestatic 25, 3) := by decide +kernel
theorem dL_reads_120 : decode cL_reads 120 = .ok (.invokevirtual 29, 3) := by decide +kernel
theorem dL_reads_123 : decode cL_reads 123 = .ok (.istore 4, 2) := by decide +kernel
theorem dL_reads_125 : decode cL_reads 125 = .ok (.iinc 7 1, 3) := by decide +kernel
theorem dL_reads_128 : decode cL_reads 128 = .ok (.goto (-97), 3) := by decide +kernel
theorem dL_reads_131 : decode cL_reads 131 = .ok (.aload_n 0, 1) := by decide +kernel
theorem dL_reads_132 : decode cL_reads 132 = .ok (.invokevirtual 33, 3) := by decide +kernel
theorem dL_reads_135 : decode cL_reads 135 = .ok (.iload_n 3, 1) := by decide +kernel
theorem dL_reads_136 : decode cL_reads 136 = .ok (.if_icmp .ne 31, 3) := by decide +kernel
theorem dL_reads_139 : decode cL_reads 139 = .ok (.aload_n 0, 1) := by decide +kernel
theorem dL_reads_140 : decode cL_reads 140 = .ok (.iconst 0, 1) := by decide +kernel
theorem dL_reads_141 : decode cL_reads 141 = .ok (.invokevirtual 36, 3) := by decide +kernel
theorem dL_reads_144 : decode cL_reads 144 = .ok (.iload_n 3, 1) := by decide +kernel
theorem dL_reads_145 : decode cL_reads 145 = .ok (.if_icmp .ne 22, 3) := by decide +kernel
theorem dL_reads_148 : decode cL_reads 148 = .ok (.iload 4, 2) := by decide +kernel
theorem dL_reads_150 : decode cL_reads 150 = .ok (.iload 5, 2) := by decide +kernel
theorem dL_reads_152 : decode cL_reads 152 = .ok (.if_icmp .ne 15, 3) := by decide +kernel
theorem dL_reads_155 : decode cL_reads 155 = .ok (.aload_n 0, 1) := by decide +kernel
theorem dL_reads_156 : decode cL_reads 156 = .ok (.iload_n 3, 1) := by decide +kernel
theorem dL_reads_157 : decode cL_reads 157 = .ok (.iconst 0, 1) := by decide +kernel
theorem dL_reads_158 : decode cL_reads 158 = .ok (.invokevirtual 40, 3) := by decide +kernel
theorem dL_reads_161 : decode cL_reads 161 = .ok (.sipush (-1001), 3) := by decide +kernel
theorem dL_reads_164 : decode cL_reads 164 = .ok (.if_icmp .eq 5, 3) := by decide +kernel
theorem dL_reads_167 : decode cL_reads 167 = .ok (.iconst 0, 1) := by decide +kernel
theorem dL_reads_168 : decode cL_reads 168 = .ok (.ireturn, 1) := by decide +kernel
theorem dL_reads_169 : decode cL_reads 169 = .ok (.iload 5, 2) := by decide +kernel
theorem dL_reads_171 : decode cL_reads 171 = .ok (.bipush 119, 2) := by decide +kernel
theorem dL_reads_173 : decode cL_reads 173 = .ok (.if_icmp .ge 33, 3) := by decide +kernel
theorem dL_reads_176 : decode cL_reads 176 = .ok (.aload_n 0, 1) := by decide +kernel
theorem dL_reads_177 : decode cL_reads 177 = .ok (.bipush 42, 2) := by decide +kernel
theorem dL_reads_179 : decode cL_reads 179 = .ok (.invokevirtual 29, 3) := by decide +kernel
theorem dL_reads_182 : decode cL_reads 182 = .ok (.pop, 1) := by decide +kernel
theorem dL_reads_183 : decode cL_reads 183 = .ok (.aload_n 0, 1) := by decide +kernel
theorem dL_reads_184 : decode cL_reads 184 = .ok (.invokevirtual 33, 3) := by decide +kernel
theorem dL_reads_187 : decode cL_reads 187 = .ok (.bipush (-100), 2) := by decide +kernel
theorem dL_reads_189 : decode cL_reads 189 = .ok (.iload 5, 2) := by decide +kernel
theorem dL_reads_191 : decode cL_reads 191 = .ok (.isub, 1) := by decide +kernel
theorem dL_reads_192 : decode cL_reads 192 = .ok (.if_icmp .ne 12, 3) := by decide +kernel
theorem dL_reads_195 : decode cL_reads 195 = .ok (.aload_n 0, 1) := by decide +kernel
theorem dL_reads_196 : decode cL_reads 196 = .ok (.iconst 0, 1) := by decide +kernel
theorem dL_reads_197 : decode cL_reads 197 = .ok (.invokevirtual 36, 3) := by decide +kernel
theorem dL_reads_200 : decode cL_reads 200 = .ok (.iload_n 3, 1) := by decide +kernel
theorem dL_reads_201 : decode cL_reads 201 = .ok (.if_icmp .eq 5, 3) := by decide +kernel
theorem dL_reads_204 : decode cL_reads 204 = .ok (.iconst 0, 1) := by decide +kernel
theorem dL_reads_205 : decode cL_reads 205 = .ok (.ireturn, 1) := by decide +kernel
theorem dL_reads_206 : decode cL_reads 206 = .ok (.iconst 1, 1) := by decide +kernel
theorem dL_reads_207 : decode cL_reads 207 = .ok (.ireturn, 1) := by decide +kernel
theorem dL_lines_0 : decode cL_lines 0 = .ok (.aload_n 0, 1) := by decide +kernel
theorem dL_lines_1 : decode cL_lines 1 = .ok (.iconst 1, 1) := by decide +kernel
theorem dL_lines_2 : decode cL_lines 2 = .ok (.invokevirtual 36, 3) := by decide +kernel
theorem dL_lines_5 : decode cL_lines 5 = .ok (.istore_n 1, 1) := by decide +kernel
theorem dL_lines_6 : decode cL_lines 6 = .ok (.aload_n 0, 1) := by decide +kernel
theorem dL_lines_7 : decode cL_lines 7 = .ok (.iconst 0, 1) := by decide +kernel
theorem dL_lines_8 : decode cL_lines 8 = .ok (.invokevirtual 36, 3) := by decide +kernel
theorem dL_lines_11 : decode cL_lines 11 = .ok (.istore_n 2, 1) := by decide +kernel
theorem dL_lines_12 : decode cL_lines 12 = .ok (.iconst 0, 1) := by decide +kernel
theorem dL_lines_13 : decode cL_lines 13 = .ok (.istore_n 3, 1) := by decide +kernel
theorem dL_lines_14 : decode cL_lines 14 = .ok (.iconst 0, 1) := by decide +kernel
theorem dL_lines_15 : decode cL_lines 15 = .ok (.istore 4, 2) := by decide +kernel
theorem dL_lines_17 : decode cL_lines 17 = .ok (.iconst 0, 1) := by decide +kernel
theorem dL_lines_18 : decode cL_lines 18 = .ok (.istore 5, 2) := by decide +kernel
theorem dL_lines_20 : decode cL_lines 20 = .ok (.iload 5, 2) := by decide +kernel
theorem dL_lines_22 : decode cL_lines 22 = .ok (.iload_n 1, 1) := by decide +kernel
theorem dL_lines_23 : decode cL_lines 23 = .ok (.if_icmp .ge 667, 3) := by decide +kernel
theorem dL_lines_26 : decode cL_lines 26 = .ok (.aload_n 0, 1) := by decide +kernel
theorem dL_lines_27 : decode cL_lines 27 = .ok (.iload 5, 2) := by decide +kernel
theorem dL_lines_29 : decode cL_lines 29 = .ok (.iconst 0, 1) := by decide +kernel
theorem dL_lines_30 : decode cL_lines 30 = .ok (.invokevirtual 43, 3) := by decide +kernel
theorem dL_lines_33 : decode cL_lines 33 = .ok (.istore 6, 2) := by decide +kernel
theorem dL_lines_35 : decode cL_lines 35 = .ok (.aload_n 0, 1) := by decide +kernel
theorem dL_lines_36 : decode cL_lines 36 = .ok (.iload 5, 2) := by decide +kernel
theorem dL_lines_38 : decode cL_lines 38 = .ok (.iconst 1, 1) := by decide +kernel
theorem dL_lines_39 : decode cL_lines 39 = .ok (.invokevirtual 43, 3) := by decide +kernel
theorem dL_lines_42 : decode cL_lines 42 = .ok (.istore 7, 2) := by decide +kernel
theorem dL_lines_44 : decode cL_lines 44 = .ok (.iload 7, 2) := by decide +kernel
theorem dL_lines_46 : decode cL_lines 46 = .ok (.iload_n 2, 1) := by decide +kernel
theorem dL_lines_47 : decode cL_lines 47 = .ok (.iconst 1, 1) := by decide +kernel
theorem dL_lines_48 : decode cL_lines 48 = .ok (.isub, 1) := by decide +kernel
theorem dL_lines_49 : decode cL_lines 49 = .ok (.if_icmp .ne 7, 3) := by decide +kernel
theorem dL_lines_52 : decode cL_lines 52 = .ok (.iconst 1, 1) := by decide +kernel
theorem dL_lines_53 : decode cL_lines 53 = .ok (.goto 4, 3) := by decide +kernel
theorem dL_lines_56 : decode cL_lines 56 = .ok (.iconst 0, 1) := by decide +kernel
theorem dL_lines_57 : decode cL_lines 57 = .ok (.istore 8, 2) := by decide +kernel
theorem dL_lines_59 : decode cL_lines 59 = .ok (.aload_n 0, 1) := by decide +kernel
theorem dL_lines_60 : decode cL_lines 60 = .ok (.iload 5, 2) := by decide +kernel
theorem dL_lines_62 : decode cL_lines 62 = .ok (.iconst 3, 1) := by decide +kernel
theorem dL_lines_63 : decode cL_lines 63 = .ok (.invokevirtual 43, 3) := by decide +kernel
theorem dL_lines_66 : decode cL_lines 66 = .ok (.istore 9, 2) := by decide +kernel
theorem dL_lines_68 : decode cL_lines 68 = .ok (.aload_n 0, 1) := by decide +kernel
theorem dL_lines_69 : decode cL_lines 69 = .ok (.iload 5, 2) := by decide +kernel
theorem dL_lines_71 : decode cL_lines 71 = .ok (.iconst 4, 1) := by decide +kernel
theorem dL_lines_72 : decode cL_lines 72 = .ok (.invokevirtual 43, 3) := by decide +kernel
theorem dL_lines_75 : decode cL_lines 75 = .ok (.istore 10, 2) := by decide +kernel
theorem dL_lines_77 : decode cL_lines 77 = .ok (.aload_n 0, 1) := by decide +kernel
theorem dL_lines_78 : decode cL_lines 78 = .ok (.iload 5, 2) := by decide +kernel
theorem dL_lines_80 : decode cL_lines 80 = .ok (.bipush 6, 2) := by decide +kernel
theorem dL_lines_82 : decode cL_lines 82 = .ok (.invokevirtual 43, 3) := by decide +kernel
theorem dL_lines_85 : decode cL_lines 85 = .ok (.ineg, 1) := by decide +kernel
theorem dL_lines_86 : decode cL_lines 86 = .ok (.aload_n 0, 1) := by decide +kernel
theorem dL_lines_87 : decode cL_lines 87 = .ok (.iload 5, 2) := by decide +kernel
theorem dL_lines_89 : decode cL_lines 89 = .ok (.bipush 7, 2) := by decide +kernel
theorem dL_lines_91 : decode cL_lines 91 = .ok (.invokevirtual 43, 3) := by decide +kernel
theorem dL_lines_94 : decode cL_lines 94 = .ok (.isub, 1) := by decide +kernel
theorem dL_lines_95 : decode cL_lines 95 = .ok (.istore 11, 2) := by decide +kernel
theorem dL_lines_97 : decode cL_lines 97 = .ok (.iload 11, 2) := by decide +kernel
theorem dL_lines_99 : decode cL_lines 99 = .ok (.istore 12, 2) := by decide +kernel
theorem dL_lines_101 : decode cL_lines 101 = .ok (.aload_n 0, 1) := by decide +kernel
theorem dL_lines_102 : decode cL_lines 102 = .ok (.iload 5, 2) := by decide +kernel
theorem dL_lines_104 : decode cL_lines 104 = .ok (.bipush 6, 2) := by decide +kernel
theorem dL_lines_106 : decode cL_lines 106 = .ok (.invokevirtual 43, 3) := by decide +kernel
theorem dL_lines_109 : decode cL_lines 109 = .ok (.ineg, 1) := by decide +kernel
theorem dL_lines_110 : decode cL_lines 110 = .ok (.istore 13, 2) := by decide +kernel
theorem dL_lines_112 : decode cL_lines 112 = .ok (.iconst 0, 1) := by decide +kernel
theorem dL_lines_113 : decode cL_lines 113 = .ok (.istore 14, 2) := by decide +kernel
theorem dL_lines_115 : decode cL_lines 115 = .ok (.iconst 0, 1) := by decide +kernel
theorem dL_lines_116 : decode cL_lines 116 = .ok (.istore 15, 2) := by decide +kernel
theorem dL_lines_118 : decode cL_lines 118 = .ok (.iload 6, 2) := by decide +kernel
theorem dL_lines_120 : decode cL_lines 120 = .ok (.iload_n 3, 1) := by decide +kernel
theorem dL_lines_121 : decode cL_lines 121 = .ok (.if_icmp .ne 43, 3) := by decide +kernel
theorem dL_lines_124 : decode cL_lines 124 = .ok (.iload 7, 2) := by decide +kernel
theorem dL_lines_126 : decode cL_lines 126 = .ok (.iload 6, 2) := by decide +kernel
theorem dL_lines_128 : decode cL_lines 128 = .ok (.if_icmp .lt 36, 3) := by decide +kernel
theorem dL_lines_131 : decode cL_lines 131 = .ok (.aload_n 0, 1) := by decide +kernel
theorem dL_lines_132 : decode cL_lines 132 = .ok (.iload 5, 2) := by decide +kernel
theorem dL_lines_134 : decode cL_lines 134 = .ok (.iconst 2, 1) := by decide +kernel
theorem dL_lines_135 : decode cL_lines 135 = .ok (.invokevirtual 43, 3) := by decide +kernel
theorem dL_lines_138 : decode cL_lines 138 = .ok (.iload 9, 2) := by decide +kernel
theorem dL_lines_140 : decode cL_lines 140 = .ok (.iadd, 1) := by decide +kernel
theorem dL_lines_141 : decode cL_lines 141 = .ok (.aload_n 0, 1) := by decide +kernel
theorem dL_lines_142 : decode cL_lines 142 = .ok (.bipush 7, 2) := by decide +kernel
theorem dL_lines_144 : decode cL_lines 144 = .ok (.invokevirtual 36, 3) := by decide +kernel
theorem dL_lines_147 : decode cL_lines 147 = .ok (.if_icmp .ne 17, 3) := by decide +kernel
theorem dL_lines_150 : decode cL_lines 150 = .ok (.aload_n 0, 1) := by decide +kernel
theorem dL_lines_151 : decode cL_lines 151 = .ok (.iload 5, 2) := by decide +kernel
theorem dL_lines_153 : decode cL_lines 153 = .ok (.bipush 9, 2) := by decide +kernel
theorem dL_lines_155 : decode cL_lines 155 = .ok (.invokevirtual 43, 3) := by decide +kernel
theorem dL_lines_158 : decode cL_lines 158 = .ok (.sipush (-1002), 3) := by decide +kernel
theorem dL_lines_161 : decode cL_lines 161 = .ok (.if_icmp .eq 5, 3) := by decide +kernel
theorem dL_lines_164 : decode cL_lines 164 = .ok (.iconst 0, 1) := by decide +kernel
theorem dL_lines_165 : decode cL_lines 165 = .ok (.ireturn, 1) := by decide +kernel
theorem dL_lines_166 : decode cL_lines 166 = .ok (.iload 6, 2) := by decide +kernel
theorem dL_lines_168 : decode cL_lines 168 = .ok (.istore 16, 2) := by decide +kernel
theorem dL_lines_170 : decode cL_lines 170 = .ok (.iload 16, 2) := by decide +kernel
theorem dL_lines_172 : decode cL_lines 172 = .ok (.iload 7, 2) := by decide +kernel
theorem dL_lines_174 : decode cL_lines 174 = .ok (.if_icmp .gt 282, 3) := by decide +kernel
theorem dL_lines_177 : decode cL_lines 177 = .ok (.iload 11, 2) := by decide +kernel
theorem dL_lines_179 : decode cL_lines 179 = .ok (.aload_n 0, 1) := by decide +kernel
theorem dL_lines_180 : decode cL_lines 180 = .ok (.iload 16, 2) := by decide +kernel
theorem dL_lines_182 : decode cL_lines 182 = .ok (.iconst 0, 1) := by decide +kernel
theorem dL_lines_183 : decode cL_lines 183 = .ok (.invokevirtual 40, 3) := by decide +kernel
theorem dL_lines_186 : decode cL_lines 186 = .ok (.iadd, 1) := by decide +kernel
theorem dL_lines_187 : decode cL_lines 187 = .ok (.istore 11, 2) := by decide +kernel
theorem dL_lines_189 : decode cL_lines 189 = .ok (.iload 12, 2) := by decide +kernel
theorem dL_lines_191 : decode cL_lines 191 = .ok (.aload_n 0, 1) := by decide +kernel
theorem dL_lines_192 : decode cL_lines 192 = .ok (.iload 16, 2) := by decide +kernel
theorem dL_lines_194 : decode cL_lines 194 = .ok (.iconst 0, 1) := by decide +kernel
theorem dL_lines_195 : decode cL_lines 195 = .ok (.invokevirtual 40, 3) := by decide +kernel
theorem dL_lines_198 : decode cL_lines 198 = .ok (.iadd, 1) := by decide +kernel
theorem dL_lines_199 : decode cL_lines 199 = .ok (.istore 12, 2) := by decide +kernel
theorem dL_lines_201 : decode cL_lines 201 = .ok (.aload_n 0, 1) := by decide +kernel
theorem dL_lines_202 : decode cL_lines 202 = .ok (.iload 16, 2) := by decide +kernel
theorem dL_lines_204 : decode cL_lines 204 = .ok (.invokevirtual 46, 3) := by decide +kernel
theorem dL_lines_207 : decode cL_lines 207 = .ok (.iload 13, 2) := by decide +kernel
theorem dL_lines_209 : decode cL_lines 209 = .ok (.if_icmp .ne 15, 3) := by decide +kernel
theorem dL_lines_212 : decode cL_lines 212 = .ok (.aload_n 0, 1) := by decide +kernel
theorem dL_lines_213 : decode cL_lines 213 = .ok (.iload 16, 2) := by decide +kernel
theorem dL_lines_215 : decode cL_lines 215 = .ok (.iconst 3, 1) := by decide +kernel
theorem dL_lines_216 : decode cL_lines 216 = .ok (.invokevirtual 40, 3) := by decide +kernel
theorem dL_lines_219 : decode cL_lines 219 = .ok (.iload 5, 2) := by decide +kernel
theorem dL_lines_221 : decode cL_lines 221 = .ok (.if_icmp .eq 5, 3) := by decide +kernel
theorem dL_lines_224 : decode cL_lines 224 = .ok (.iconst 0, 1) := by decide +kernel
theorem dL_lines_225 : decode cL_lines 225 = .ok (.ireturn, 1) := by decide +kernel
theorem dL_lines_226 : decode cL_lines 226 = .ok (.iload 13, 2) := by decide +kernel
theorem dL_lines_228 : decode cL_lines 228 = .ok (.aload_n 0, 1) := by decide +kernel
theorem dL_lines_229 : decode cL_lines 229 = .ok (.iload 16, 2) := by decide +kernel
theorem dL_lines_231 : decode cL_lines 231 = .ok (.iconst 0, 1) := by decide +kernel
theorem dL_lines_232 : decode cL_lines 232 = .ok (.invokevirtual 40, 3) := by decide +kernel
theorem dL_lines_235 : decode cL_lines 235 = .ok (.iadd, 1) := by decide +kernel
theorem dL_lines_236 : decode cL_lines 236 = .ok (.istore 13, 2) := by decide +kernel
theorem dL_lines_238 : decode cL_lines 238 = .ok (.iload 16, 2) := by decide +kernel
theorem dL_lines_240 : decode cL_lines 240 = .ok (.iload 7, 2) := by decide +kernel
theorem dL_lines_242 : decode cL_lines 242 = .ok (.if_icmp .ge 208, 3) := by decide +kernel
theorem dL_lines_245 : decode cL_lines 245 = .ok (.aload_n 0, 1) := by decide +kernel
theorem dL_lines_246 : decode cL_lines 246 = .ok (.iload 16, 2) := by decide +kernel
theorem dL_lines_248 : decode cL_lines 248 = .ok (.iconst 2, 1) := by decide +kernel
theorem dL_lines_249 : decode cL_lines 249 = .ok (.invokevirtual 40, 3) := by decide +kernel
theorem dL_lines_252 : decode cL_lines 252 = .ok (.istore 17, 2) := by decide +kernel
theorem dL_lines_254 : decode cL_lines 254 = .ok (.aload_n 0, 1) := by decide +kernel
theorem dL_lines_255 : decode cL_lines 255 = .ok (.iload 5, 2) := by decide +kernel
theorem dL_lines_257 : decode cL_lines 257 = .ok (.iload 16, 2) := by decide +kernel
theorem dL_lines_259 : decode cL_lines 259 = .ok (.iload 6, 2) := by decide +kernel
theorem dL_lines_261 : decode cL_lines 261 = .ok (.isub, 1) := by decide +kernel
theorem dL_lines_262 : decode cL_lines 262 = .ok (.iconst 0, 1) := by decide +kernel
theorem dL_lines_263 : decode cL_lines 263 = .ok (.invokevirtual 49, 3) := by decide +kernel
theorem dL_lines_266 : decode cL_lines 266 = .ok (.istore 18, 2) := by decide +kernel
theorem dL_lines_268 : decode cL_lines 268 = .ok (.aload_n 0, 1) := by decide +kernel
theorem dL_lines_269 : decode cL_lines 269 = .ok (.iload 5, 2) := by decide +kernel
theorem dL_lines_271 : decode cL_lines 271 = .ok (.iload 16, 2) := by decide +kernel
theorem dL_lines_273 : decode cL_lines 273 = .ok (.iload 6, 2) := by decide +kernel
theorem dL_lines_275 : decode cL_lines 275 = .ok (.isub, 1) := by decide +kernel
theorem dL_lines_276 : decode cL_lines 276 = .ok (.iconst 1, 1) := by decide +kernel
theorem dL_lines_277 : decode cL_lines 277 = .ok (.invokevirtual 49, 3) := by decide +kernel
theorem dL_lines_280 : decode cL_lines 280 = .ok (.iload 13, 2) := by decide +kernel
theorem dL_lines_282 : decode cL_lines 282 = .ok (.if_icmp .ne 100, 3) := by decide +kernel
theorem dL_lines_285 : decode cL_lines 285 = .ok (.aload_n 0, 1) := by decide +kernel
theorem dL_lines_286 : decode cL_lines 286 = .ok (.iload 5, 2) := by decide +kernel
theorem dL_lines_288 : decode cL_lines 288 = .ok (.iload 16, 2) := by decide +kernel
theorem dL_lines_290 : decode cL_lines 290 = .ok (.iload 6, 2) := by decide +kernel
theorem dL_lines_292 : decode cL_lines 292 = .ok (.isub, 1) := by decide +kernel
theorem dL_lines_293 : decode cL_lines 293 = .ok (.iconst 2, 1) := by decide +kernel
theorem dL_lines_294 : decode cL_lines 294 = .ok (.invokevirtual 49, 3) := by decide +kernel
theorem dL_lines_297 : decode cL_lines 297 = .ok (.iload 17, 2) := by decide +kernel
theorem dL_lines_299 : decode cL_lines 299 = .ok (.if_icmp .ne 83, 3) := by decide +kernel
theorem dL_lines_302 : decode cL_lines 302 = .ok (.iload 18, 2) := by decide +kernel
theorem dL_lines_304 : decode cL_lines 304 = .ok (.aload_n 0, 1) := by decide +kernel
theorem dL_lines_305 : decode cL_lines 305 = .ok (.iload 17, 2) := by decide +kernel
theorem dL_lines_307 : decode cL_lines 307 = .ok (.iconst 0, 1) := by decide +kernel
theorem dL_lines_308 : decode cL_lines 308 = .ok (.invokevirtual 53, 3) := by decide +kernel
theorem dL_lines_311 : decode cL_lines 311 = .ok (.if_icmp .lt 71, 3) := by decide +kernel
theorem dL_lines_314 : decode cL_lines 314 = .ok (.iload 18, 2) := by decide +kernel
theorem dL_lines_316 : decode cL_lines 316 = .ok (.aload_n 0, 1) := by decide +kernel
theorem dL_lines_317 : decode cL_lines 317 = .ok (.iload 17, 2) := by decide +kernel
theorem dL_lines_319 : decode cL_lines 319 = .ok (.iconst 2, 1) := by decide +kernel
theorem dL_lines_320 : decode cL_lines 320 = .ok (.invokevirtual 53, 3) := by decide +kernel
theorem dL_lines_323 : decode cL_lines 323 = .ok (.if_icmp .gt 59, 3) := by decide +kernel
theorem dL_lines_326 : decode cL_lines 326 = .ok (.iload 9, 2) := by decide +kernel
theorem dL_lines_328 : decode cL_lines 328 = .ok (.ifCond .le 15, 3) := by decide +kernel
theorem dL_lines_331 : decode cL_lines 331 = .ok (.iload 18, 2) := by decide +kernel
theorem dL_lines_333 : decode cL_lines 333 = .ok (.aload_n 0, 1) := by decide +kernel
theorem dL_lines_334 : decode cL_lines 334 = .ok (.iload 17, 2) := by decide +kernel
theorem dL_lines_336 : decode cL_lines 336 = .ok (.iconst 1, 1) := by decide +kernel
theorem dL_lines_337 : decode cL_lines 337 = .ok (.invokevirtual 53, 3) := by decide +kernel
theorem dL_lines_340 : decode cL_lines 340 = .ok (.if_icmp .lt 42, 3) := by decide +kernel
theorem dL_lines_343 : decode cL_lines 343 = .ok (.iload 9, 2) := by decide +kernel
theorem dL_lines_345 : decode cL_lines 345 = .ok (.ifCond .ge 15, 3) := by decide +kernel
theorem dL_lines_348 : decode cL_lines 348 = .ok (.iload 18, 2) := by decide +kernel
theorem dL_lines_350 : decode cL_lines 350 = .ok (.aload_n 0, 1) := by decide +kernel
theorem dL_lines_351 : decode cL_lines 351 = .ok (.iload 17, 2) := by decide +kernel
theorem dL_lines_353 : decode cL_lines 353 = .ok (.iconst 1, 1) := by decide +kernel
theorem dL_lines_354 : decode cL_lines 354 = .ok (.invokevirtual 53, 3) := by decide +kernel
theorem dL_lines_357 : decode cL_lines 357 = .ok (.if_icmp .gt 25, 3) := by decide +kernel
theorem dL_lines_360 : decode cL_lines 360 = .ok (.iload 8, 2) := by decide +kernel
theorem dL_lines_362 : decode cL_lines 362 = .ok (.ifCond .eq 22, 3) := by decide +kernel
theorem dL_lines_365 : decode cL_lines 365 = .ok (.iload 9, 2) := by decide +kernel
theorem dL_lines_367 : decode cL_lines 367 = .ok (.ifCond .lt 17, 3) := by decide +kernel
theorem dL_lines_370 : decode cL_lines 370 = .ok (.iload 18, 2) := by decide +kernel
theorem dL_lines_372 : decode cL_lines 372 = .ok (.aload_n 0, 1) := by decide +kernel
theorem dL_lines_373 : decode cL_lines 373 = .ok (.iload 17, 2) := by decide +kernel
theorem dL_lines_375 : decode cL_lines 375 = .ok (.iconst 1, 1) := by decide +kernel
theorem dL_lines_376 : decode cL_lines 376 = .ok (.invokevirtual 53, 3) := by decide +kernel
theorem dL_lines_379 : decode cL_lines 379 = .ok (.if_icmp .eq 5, 3) := by decide +kernel
theorem dL_lines_382 : decode cL_lines 382 = .ok (.iconst 0, 1) := by decide +kernel
theorem dL_lines_383 : decode cL_lines 383 = .ok (.ireturn, 1) := by decide +kernel
theorem dL_lines_384 : decode cL_lines 384 = .ok (.iload 11, 2) := by decide +kernel
theorem dL_lines_386 : decode cL_lines 386 = .ok (.aload_n 0, 1) := by decide +kernel
theorem dL_lines_387 : decode cL_lines 387 = .ok (.iload 17, 2) := by decide +kernel
theorem dL_lines_389 : decode cL_lines 389 = .ok (.iconst 1, 1) := by decide +kernel
theorem dL_lines_390 : decode cL_lines 390 = .ok (.invokevirtual 53, 3) := by decide +kernel
theorem dL_lines_393 : decode cL_lines 393 = .ok (.iadd, 1) := by decide +kernel
theorem dL_lines_394 : decode cL_lines 394 = .ok (.istore 11, 2) := by decide +kernel
theorem dL_lines_396 : decode cL_lines 396 = .ok (.iload 12, 2) := by decide +kernel
theorem dL_lines_398 : decode cL_lines 398 = .ok (.iload 18, 2) := by decide +kernel
theorem dL_lines_400 : decode cL_lines 400 = .ok (.iadd, 1) := by decide +kernel
theorem dL_lines_401 : decode cL_lines 401 = .ok (.istore 12, 2) := by decide +kernel
theorem dL_lines_403 : decode cL_lines 403 = .ok (.iload 13, 2) := by decide +kernel
theorem dL_lines_405 : decode cL_lines 405 = .ok (.iload 18, 2) := by decide +kernel
theorem dL_lines_407 : decode cL_lines 407 = .ok (.iadd, 1) := by decide +kernel
theorem dL_lines_408 : decode cL_lines 408 = .ok (.istore 13, 2) := by decide +kernel
theorem dL_lines_410 : decode cL_lines 410 = .ok (.iload 14, 2) := by decide +kernel
theorem dL_lines_412 : decode cL_lines 412 = .ok (.aload_n 0, 1) := by decide +kernel
theorem dL_lines_413 : decode cL_lines 413 = .ok (.iload 17, 2) := by decide +kernel
theorem dL_lines_415 : decode cL_lines 415 = .ok (.iconst 2, 1) := by decide +kernel
theorem dL_lines_416 : decode cL_lines 416 = .ok (.invokevirtual 53, 3) := by decide +kernel
theorem dL_lines_419 : decode cL_lines 419 = .ok (.aload_n 0, 1) := by decide +kernel
theorem dL_lines_420 : decode cL_lines 420 = .ok (.iload 17, 2) := by decide +kernel
theorem dL_lines_422 : decode cL_lines 422 = .ok (.iconst 1, 1) := by decide +kernel
theorem dL_lines_423 : decode cL_lines 423 = .ok (.invokevirtual 53, 3) := by decide +kernel
theorem dL_lines_426 : decode cL_lines 426 = .ok (.isub, 1) := by decide +kernel
theorem dL_lines_427 : decode cL_lines 427 = .ok (.iadd, 1) := by decide +kernel
theorem dL_lines_428 : decode cL_lines 428 = .ok (.istore 14, 2) := by decide +kernel
theorem dL_lines_430 : decode cL_lines 430 = .ok (.iload 15, 2) := by decide +kernel
theorem dL_lines_432 : decode cL_lines 432 = .ok (.aload_n 0, 1) := by decide +kernel
theorem dL_lines_433 : decode cL_lines 433 = .ok (.iload 17, 2) := by decide +kernel
theorem dL_lines_435 : decode cL_lines 435 = .ok (.iconst 1, 1) := by decide +kernel
theorem dL_lines_436 : decode cL_lines 436 = .ok (.invokevirtual 53, 3) := by decide +kernel
theorem dL_lines_439 : decode cL_lines 439 = .ok (.aload_n 0, 1) := by decide +kernel
theorem dL_lines_440 : decode cL_lines 440 = .ok (.iload 17, 2) := by decide +kernel
theorem dL_lines_442 : decode cL_lines 442 = .ok (.iconst 0, 1) := by decide +kernel
theorem dL_lines_443 : decode cL_lines 443 = .ok (.invokevirtual 53, 3) := by decide +kernel
theorem dL_lines_446 : decode cL_lines 446 = .ok (.isub, 1) := by decide +kernel
theorem dL_lines_447 : decode cL_lines 447 = .ok (.iadd, 1) := by decide +kernel
theorem dL_lines_448 : decode cL_lines 448 = .ok (.istore 15, 2) := by decide +kernel
theorem dL_lines_450 : decode cL_lines 450 = .ok (.iinc 16 1, 3) := by decide +kernel
theorem dL_lines_453 : decode cL_lines 453 = .ok (.goto (-283), 3) := by decide +kernel
theorem dL_lines_456 : decode cL_lines 456 = .ok (.iload 9, 2) := by decide +kernel
theorem dL_lines_458 : decode cL_lines 458 = .ok (.ifCond .le 8, 3) := by decide +kernel
theorem dL_lines_461 : decode cL_lines 461 = .ok (.iload 14, 2) := by decide +kernel
theorem dL_lines_463 : decode cL_lines 463 = .ok (.goto 5, 3) := by decide +kernel
theorem dL_lines_466 : decode cL_lines 466 = .ok (.iload 15, 2) := by decide +kernel
theorem dL_lines_468 : decode cL_lines 468 = .ok (.istore 16, 2) := by decide +kernel
theorem dL_lines_470 : decode cL_lines 470 = .ok (.iload 9, 2) := by decide +kernel
theorem dL_lines_472 : decode cL_lines 472 = .ok (.ifCond .eq 13, 3) := by decide +kernel
theorem dL_lines_475 : decode cL_lines 475 = .ok (.iload 9, 2) := by decide +kernel
theorem dL_lines_477 : decode cL_lines 477 = .ok (.ifCond .le 12, 3) := by decide +kernel
theorem dL_lines_480 : decode cL_lines 480 = .ok (.iload 8, 2) := by decide +kernel
theorem dL_lines_482 : decode cL_lines 482 = .ok (.ifCond .eq 7, 3) := by decide +kernel
theorem dL_lines_485 : decode cL_lines 485 = .ok (.iconst 0, 1) := by decide +kernel
theorem dL_lines_486 : decode cL_lines 486 = .ok (.goto 26, 3) := by decide +kernel
theorem dL_lines_489 : decode cL_lines 489 = .ok (.iload 16, 2) := by decide +kernel
theorem dL_lines_491 : decode cL_lines 491 = .ok (.ifCond .ne 7, 3) := by decide +kernel
theorem dL_lines_494 : decode cL_lines 494 = .ok (.iconst (-1), 1) := by decide +kernel
theorem dL_lines_495 : decode cL_lines 495 = .ok (.goto 17, 3) := by decide +kernel
theorem dL_lines_498 : decode cL_lines 498 = .ok (.bipush 100, 2) := by decide +kernel
theorem dL_lines_500 : decode cL_lines 500 = .ok (.iload 9, 2) := by decide +kernel
theorem dL_lines_502 : decode cL_lines 502 = .ok (.imul, 1) := by decide +kernel
theorem dL_lines_503 : decode cL_lines 503 = .ok (.iload 9, 2) := by decide +kernel
theorem dL_lines_505 : decode cL_lines 505 = .ok (.imul, 1) := by decide +kernel
theorem dL_lines_506 : decode cL_lines 506 = .ok (.iload 16, 2) := by decide +kernel
theorem dL_lines_508 : decode cL_lines 508 = .ok (.iload 16, 2) := by decide +kernel
theorem dL_lines_510 : decode cL_lines 510 = .ok (.imul, 1) := by decide +kernel
theorem dL_lines_511 : decode cL_lines 511 = .ok (.idiv, 1) := by decide +kernel
theorem dL_lines_512 : decode cL_lines 512 = .ok (.istore 17, 2) := by decide +kernel
theorem dL_lines_514 : decode cL_lines 514 = .ok (.iload 8, 2) := by decide +kernel
theorem dL_lines_516 : decode cL_lines 516 = .ok (.ifCond .ne 19, 3) := by decide +kernel
theorem dL_lines_519 : decode cL_lines 519 = .ok (.aload_n 0, 1) := by decide +kernel
theorem dL_lines_520 : decode cL_lines 520 = .ok (.iload 7, 2) := by decide +kernel
theorem dL_lines_522 : decode cL_lines 522 = .ok (.iconst 1, 1) := by decide +kernel
theorem dL_lines_523 : decode cL_lines 523 = .ok (.invokevirtual 40, 3) := by decide +kernel
theorem dL_lines_526 : decode cL_lines 526 = .ok (.iconst 2, 1) := by decide +kernel
theorem dL_lines_527 : decode cL_lines 527 = .ok (.if_icmp .gt 8, 3) := by decide +kernel
theorem dL_lines_530 : decode cL_lines 530 = .ok (.bipush 100, 2) := by decide +kernel
theorem dL_lines_532 : decode cL_lines 532 = .ok (.goto 4, 3) := by decide +kernel
theorem dL_lines_535 : decode cL_lines 535 = .ok (.iconst 0, 1) := by decide +kernel
theorem dL_lines_536 : decode cL_lines 536 = .ok (.istore 18, 2) := by decide +kernel
theorem dL_lines_538 : decode cL_lines 538 = .ok (.iload 11, 2) := by decide +kernel
theorem dL_lines_540 : decode cL_lines 540 = .ok (.aload_n 0, 1) := by decide +kernel
theorem dL_lines_541 : decode cL_lines 541 = .ok (.iload 5, 2) := by decide +kernel
theorem dL_lines_543 : decode cL_lines 543 = .ok (.iconst 2, 1) := by decide +kernel
theorem dL_lines_544 : decode cL_lines 544 = .ok (.invokevirtual 43, 3) := by decide +kernel
theorem dL_lines_547 : decode cL_lines 547 = .ok (.if_icmp .ne 118, 3) := by decide +kernel
theorem dL_lines_550 : decode cL_lines 550 = .ok (.iload 12, 2) := by decide +kernel
theorem dL_lines_552 : decode cL_lines 552 = .ok (.aload_n 0, 1) := by decide +kernel
theorem dL_lines_553 : decode cL_lines 553 = .ok (.iload 5, 2) := by decide +kernel
theorem dL_lines_555 : decode cL_lines 555 = .ok (.bipush 8, 2) := by decide +kernel
theorem dL_lines_557 : decode cL_lines 557 = .ok (.invokevirtual 43, 3) := by decide +kernel
theorem dL_lines_560 : decode cL_lines 560 = .ok (.if_icmp .ne 105, 3) := by decide +kernel
theorem dL_lines_563 : decode cL_lines 563 = .ok (.iload 12, 2) := by decide +kernel
theorem dL_lines_565 : decode cL_lines 565 = .ok (.iload 8, 2) := by decide +kernel
theorem dL_lines_567 : decode cL_lines 567 = .ok (.ifCond .eq 20, 3) := by decide +kernel
theorem dL_lines_570 : decode cL_lines 570 = .ok (.iload 9, 2) := by decide +kernel
theorem dL_lines_572 : decode cL_lines 572 = .ok (.ifCond .le 15, 3) := by decide +kernel
theorem dL_lines_575 : decode cL_lines 575 = .ok (.aload_n 0, 1) := by decide +kernel
theorem dL_lines_576 : decode cL_lines 576 = .ok (.bipush 7, 2) := by decide +kernel
theorem dL_lines_578 : decode cL_lines 578 = .ok (.invokevirtual 36, 3) := by decide +kernel
theorem dL_lines_581 : decode cL_lines 581 = .ok (.iload 9, 2) := by decide +kernel
theorem dL_lines_583 : decode cL_lines 583 = .ok (.isub, 1) := by decide +kernel
theorem dL_lines_584 : decode cL_lines 584 = .ok (.goto 9, 3) := by decide +kernel
theorem dL_lines_587 : decode cL_lines 587 = .ok (.aload_n 0, 1) := by decide +kernel
theorem dL_lines_588 : decode cL_lines 588 = .ok (.bipush 7, 2) := by decide +kernel
theorem dL_lines_590 : decode cL_lines 590 = .ok (.invokevirtual 36, 3) := by decide +kernel
theorem dL_lines_593 : decode cL_lines 593 = .ok (.if_icmp .ne 72, 3) := by decide +kernel
theorem dL_lines_596 : decode cL_lines 596 = .ok (.iload 10, 2) := by decide +kernel
theorem dL_lines_598 : decode cL_lines 598 = .ok (.iload 17, 2) := by decide +kernel
theorem dL_lines_600 : decode cL_lines 600 = .ok (.if_icmp .ne 65, 3) := by decide +kernel
theorem dL_lines_603 : decode cL_lines 603 = .ok (.aload_n 0, 1) := by decide +kernel
theorem dL_lines_604 : decode cL_lines 604 = .ok (.iload 5, 2) := by decide +kernel
theorem dL_lines_606 : decode cL_lines 606 = .ok (.iconst 5, 1) := by decide +kernel
theorem dL_lines_607 : decode cL_lines 607 = .ok (.invokevirtual 43, 3) := by decide +kernel
theorem dL_lines_610 : decode cL_lines 610 = .ok (.bipush 10, 2) := by decide +kernel
theorem dL_lines_612 : decode cL_lines 612 = .ok (.iload 17, 2) := by decide +kernel
theorem dL_lines_614 : decode cL_lines 614 = .ok (.iadd, 1) := by decide +kernel
theorem dL_lines_615 : decode cL_lines 615 = .ok (.bipush 10, 2) := by decide +kernel
theorem dL_lines_617 : decode cL_lines 617 = .ok (.iload 17, 2) := by decide +kernel
theorem dL_lines_619 : decode cL_lines 619 = .ok (.iadd, 1) := by decide +kernel
theorem dL_lines_620 : decode cL_lines 620 = .ok (.imul, 1) := by decide +kernel
theorem dL_lines_621 : decode cL_lines 621 = .ok (.iload 18, 2) := by decide +kernel
theorem dL_lines_623 : decode cL_lines 623 = .ok (.iadd, 1) := by decide +kernel
theorem dL_lines_624 : decode cL_lines 624 = .ok (.if_icmp .ne 41, 3) := by decide +kernel
theorem dL_lines_627 : decode cL_lines 627 = .ok (.iload 9, 2) := by decide +kernel
theorem dL_lines_629 : decode cL_lines 629 = .ok (.iload 15, 2) := by decide +kernel
theorem dL_lines_631 : decode cL_lines 631 = .ok (.ineg, 1) := by decide +kernel
theorem dL_lines_632 : decode cL_lines 632 = .ok (.if_icmp .lt 33, 3) := by decide +kernel
theorem dL_lines_635 : decode cL_lines 635 = .ok (.iload 9, 2) := by decide +kernel
theorem dL_lines_637 : decode cL_lines 637 = .ok (.iload 14, 2) := by decide +kernel
theorem dL_lines_639 : decode cL_lines 639 = .ok (.if_icmp .le 8, 3) := by decide +kernel
theorem dL_lines_642 : decode cL_lines 642 = .ok (.iload 8, 2) := by decide +kernel
theorem dL_lines_644 : decode cL_lines 644 = .ok (.ifCond .eq 21, 3) := by decide +kernel
theorem dL_lines_647 : decode cL_lines 647 = .ok (.aload_n 0, 1) := by decide +kernel
theorem dL_lines_648 : decode cL_lines 648 = .ok (.iload 5, 2) := by decide +kernel
theorem dL_lines_650 : decode cL_lines 650 = .ok (.iload 7, 2) := by decide +kernel
theorem dL_lines_652 : decode cL_lines 652 = .ok (.iload 6, 2) := by decide +kernel
theorem dL_lines_654 : decode cL_lines 654 = .ok (.isub, 1) := by decide +kernel
theorem dL_lines_655 : decode cL_lines 655 = .ok (.iconst 0, 1) := by decide +kernel
theorem dL_lines_656 : decode cL_lines 656 = .ok (.invokevirtual 49, 3) := by decide +kernel
theorem dL_lines_659 : decode cL_lines 659 = .ok (.sipush (-1001), 3) := by decide +kernel
theorem dL_lines_662 : decode cL_lines 662 = .ok (.if_icmp .eq 5, 3) := by decide +kernel
theorem dL_lines_665 : decode cL_lines 665 = .ok (.iconst 0, 1) := by decide +kernel
theorem dL_lines_666 : decode cL_lines 666 = .ok (.ireturn, 1) := by decide +kernel
theorem dL_lines_667 : decode cL_lines 667 = .ok (.iload 4, 2) := by decide +kernel
theorem dL_lines_669 : decode cL_lines 669 = .ok (.aload_n 0, 1) := by decide +kernel
theorem dL_lines_670 : decode cL_lines 670 = .ok (.iload 5, 2) := by decide +kernel
theorem dL_lines_672 : decode cL_lines 672 = .ok (.iconst 5, 1) := by decide +kernel
theorem dL_lines_673 : decode cL_lines 673 = .ok (.invokevirtual 43, 3) := by decide +kernel
theorem dL_lines_676 : decode cL_lines 676 = .ok (.iadd, 1) := by decide +kernel
theorem dL_lines_677 : decode cL_lines 677 = .ok (.istore 4, 2) := by decide +kernel
theorem dL_lines_679 : decode cL_lines 679 = .ok (.iload 7, 2) := by decide +kernel
theorem dL_lines_681 : decode cL_lines 681 = .ok (.iconst 1, 1) := by decide +kernel
theorem dL_lines_682 : decode cL_lines 682 = .ok (.iadd, 1) := by decide +kernel
theorem dL_lines_683 : decode cL_lines 683 = .ok (.istore_n 3, 1) := by decide +kernel
theorem dL_lines_684 : decode cL_lines 684 = .ok (.iinc 5 1, 3) := by decide +kernel
theorem dL_lines_687 : decode cL_lines 687 = .ok (.goto (-667), 3) := by decide +kernel
theorem dL_lines_690 : decode cL_lines 690 = .ok (.iload_n 1, 1) := by decide +kernel
theorem dL_lines_691 : decode cL_lines 691 = .ok (.ifCond .eq 8, 3) := by decide +kernel
theorem dL_lines_694 : decode cL_lines 694 = .ok (.iload_n 3, 1) := by decide +kernel
theorem dL_lines_695 : decode cL_lines 695 = .ok (.iload_n 2, 1) := by decide +kernel
theorem dL_lines_696 : decode cL_lines 696 = .ok (.if_icmp .ne 106, 3) := by decide +kernel
theorem dL_lines_699 : decode cL_lines 699 = .ok (.aload_n 0, 1) := by decide +kernel
theorem dL_lines_700 : decode cL_lines 700 = .ok (.iconst 2, 1) := by decide +kernel
theorem dL_lines_701 : decode cL_lines 701 = .ok (.invokevirtual 36, 3) := by decide +kernel
theorem dL_lines_704 : decode cL_lines 704 = .ok (.iload 4, 2) := by decide +kernel
theorem dL_lines_706 : decode cL_lines 706 = .ok (.if_icmp .ne 96, 3) := by decide +kernel
theorem dL_lines_709 : decode cL_lines 709 = .ok (.aload_n 0, 1) := by decide +kernel
theorem dL_lines_710 : decode cL_lines 710 = .ok (.iconst 3, 1) := by decide +kernel
theorem dL_lines_711 : decode cL_lines 711 = .ok (.invokevirtual 36, 3) := by decide +kernel
theorem dL_lines_714 : decode cL_lines 714 = .ok (.iload 4, 2) := by decide +kernel
theorem dL_lines_716 : decode cL_lines 716 = .ok (.if_icmp .gt 86, 3) := by decide +kernel
theorem dL_lines_719 : decode cL_lines 719 = .ok (.aload_n 0, 1) := by decide +kernel
theorem dL_lines_720 : decode cL_lines 720 = .ok (.iload_n 1, 1) := by decide +kernel
theorem dL_lines_721 : decode cL_lines 721 = .ok (.iconst 0, 1) := by decide +kernel
theorem dL_lines_722 : decode cL_lines 722 = .ok (.invokevirtual 43, 3) := by decide +kernel
theorem dL_lines_725 : decode cL_lines 725 = .ok (.sipush (-1001), 3) := by decide +kernel
theorem dL_lines_728 : decode cL_lines 728 = .ok (.if_icmp .ne 74, 3) := by decide +kernel
theorem dL_lines_731 : decode cL_lines 731 = .ok (.aload_n 0, 1) := by decide +kernel
theorem dL_lines_732 : decode cL_lines 732 = .ok (.iload_n 1, 1) := by decide +kernel
theorem dL_lines_733 : decode cL_lines 733 = .ok (.iconst 0, 1) := by decide +kernel
theorem dL_lines_734 : decode cL_lines 734 = .ok (.invokevirtual 56, 3) := by decide +kernel
theorem dL_lines_737 : decode cL_lines 737 = .ok (.sipush (-1001), 3) := by decide +kernel
theorem dL_lines_740 : decode cL_lines 740 = .ok (.if_icmp .ne 62, 3) := by decide +kernel
theorem dL_lines_743 : decode cL_lines 743 = .ok (.aload_n 0, 1) := by decide +kernel
theorem dL_lines_744 : decode cL_lines 744 = .ok (.iload_n 1, 1) := by decide +kernel
theorem dL_lines_745 : decode cL_lines 745 = .ok (.invokevirtual 59, 3) := by decide +kernel
theorem dL_lines_748 : decode cL_lines 748 = .ok (.sipush (-1001), 3) := by decide +kernel
theorem dL_lines_751 : decode cL_lines 751 = .ok (.if_icmp .ne 51, 3) := by decide +kernel
theorem dL_lines_754 : decode cL_lines 754 = .ok (.aload_n 0, 1) := by decide +kernel
theorem dL_lines_755 : decode cL_lines 755 = .ok (.iload_n 1, 1) := by decide +kernel
theorem dL_lines_756 : decode cL_lines 756 = .ok (.iconst 0, 1) := by decide +kernel
theorem dL_lines_757 : decode cL_lines 757 = .ok (.iconst 0, 1) := by decide +kernel
theorem dL_lines_758 : decode cL_lines 758 = .ok (.invokevirtual 49, 3) := by decide +kernel
theorem dL_lines_761 : decode cL_lines 761 = .ok (.sipush (-1001), 3) := by decide +kernel
theorem dL_lines_764 : decode cL_lines 764 = .ok (.if_icmp .ne 38, 3) := by decide +kernel
theorem dL_lines_767 : decode cL_lines 767 = .ok (.iload_n 1, 1) := by decide +kernel
theorem dL_lines_768 : decode cL_lines 768 = .ok (.ifCond .gt 30, 3) := by decide +kernel
theorem dL_lines_771 : decode cL_lines 771 = .ok (.iload_n 2, 1) := by decide +kernel
theorem dL_lines_772 : decode cL_lines 772 = .ok (.ifCond .eq 26, 3) := by decide +kernel
theorem dL_lines_775 : decode cL_lines 775 = .ok (.aload_n 0, 1) := by decide +kernel
theorem dL_lines_776 : decode cL_lines 776 = .ok (.iconst 0, 1) := by decide +kernel
theorem dL_lines_777 : decode cL_lines 777 = .ok (.invokevirtual 46, 3) := by decide +kernel
theorem dL_lines_780 : decode cL_lines 780 = .ok (.sipush (-1004), 3) := by decide +kernel
theorem dL_lines_783 : decode cL_lines 783 = .ok (.if_icmp .ne 19, 3) := by decide +kernel
theorem dL_lines_786 : decode cL_lines 786 = .ok (.aload_n 0, 1) := by decide +kernel
theorem dL_lines_787 : decode cL_lines 787 = .ok (.iconst 0, 1) := by decide +kernel
theorem dL_lines_788 : decode cL_lines 788 = .ok (.iconst 3, 1) := by decide +kernel
theorem dL_lines_789 : decode cL_lines 789 = .ok (.invokevirtual 40, 3) := by decide +kernel
theorem dL_lines_792 : decode cL_lines 792 = .ok (.sipush (-1004), 3) := by decide +kernel
theorem dL_lines_795 : decode cL_lines 795 = .ok (.if_icmp .ne 7, 3) := by decide +kernel
theorem dL_lines_798 : decode cL_lines 798 = .ok (.iconst 1, 1) := by decide +kernel
theorem dL_lines_799 : decode cL_lines 799 = .ok (.goto 4, 3) := by decide +kernel
theorem dL_lines_802 : decode cL_lines 802 = .ok (.iconst 0, 1) := by decide +kernel
theorem dL_lines_803 : decode cL_lines 803 = .ok (.ireturn, 1) := by decide +kernel
theorem dL_rivers_0 : decode cL_rivers 0 = .ok (.aload_n 0, 1) := by decide +kernel
theorem dL_rivers_1 : decode cL_rivers 1 = .ok (.iconst 1, 1) := by decide +kernel
theorem dL_rivers_2 : decode cL_rivers 2 = .ok (.invokevirtual 36, 3) := by decide +kernel
theorem dL_rivers_5 : decode cL_rivers 5 = .ok (.istore_n 1, 1) := by decide +kernel
theorem dL_rivers_6 : decode cL_rivers 6 = .ok (.iconst 0, 1) := by decide +kernel
theorem dL_rivers_7 : decode cL_rivers 7 = .ok (.istore_n 2, 1) := by decide +kernel
theorem dL_rivers_8 : decode cL_rivers 8 = .ok (.iconst 0, 1) := by decide +kernel
theorem dL_rivers_9 : decode cL_rivers 9 = .ok (.istore_n 3, 1) := by decide +kernel
theorem dL_rivers_10 : decode cL_rivers 10 = .ok (.iconst 0, 1) := by decide +kernel
theorem dL_rivers_11 : decode cL_rivers 11 = .ok (.istore 4, 2) := by decide +kernel
theorem dL_rivers_13 : decode cL_rivers 13 = .ok (.iconst 2, 1) := by decide +kernel
theorem dL_rivers_14 : decode cL_rivers 14 = .ok (.aload_n 0, 1) := by decide +kernel
theorem dL_rivers_15 : decode cL_rivers 15 = .ok (.bipush 9, 2) := by decide +kernel
theorem dL_rivers_17 : decode cL_rivers 17 = .ok (.invokevirtual 36, 3) := by decide +kernel
theorem dL_rivers_20 : decode cL_rivers 20 = .ok (.imul, 1) := by decide +kernel
theorem dL_rivers_21 : decode cL_rivers 21 = .ok (.istore 5, 2) := by decide +kernel
theorem dL_rivers_23 : decode cL_rivers 23 = .ok (.iconst 0, 1) := by decide +kernel
theorem dL_rivers_24 : decode cL_rivers 24 = .ok (.istore 6, 2) := by decide +kernel
theorem dL_rivers_26 : decode cL_rivers 26 = .ok (.iload 6, 2) := by decide +kernel
theorem dL_rivers_28 : decode cL_rivers 28 = .ok (.iload_n 1, 1) := by decide +kernel
theorem dL_rivers_29 : decode cL_rivers 29 = .ok (.if_icmp .ge 468, 3) := by decide +kernel
theorem dL_rivers_32 : decode cL_rivers 32 = .ok (.aload_n 0, 1) := by decide +kernel
theorem dL_rivers_33 : decode cL_rivers 33 = .ok (.iload 6, 2) := by decide +kernel
theorem dL_rivers_35 : decode cL_rivers 35 = .ok (.iconst 1, 1) := by decide +kernel
theorem dL_rivers_36 : decode cL_rivers 36 = .ok (.invokevirtual 43, 3) := by decide +kernel
theorem dL_rivers_39 : decode cL_rivers 39 = .ok (.aload_n 0, 1) := by decide +kernel
theorem dL_rivers_40 : decode cL_rivers 40 = .ok (.iload 6, 2) := by decide +kernel
theorem dL_rivers_42 : decode cL_rivers 42 = .ok (.iconst 0, 1) := by decide +kernel
theorem dL_rivers_43 : decode cL_rivers 43 = .ok (.invokevirtual 43, 3) := by decide +kernel
theorem dL_rivers_46 : decode cL_rivers 46 = .ok (.isub, 1) := by decide +kernel
theorem dL_rivers_47 : decode cL_rivers 47 = .ok (.istore 7, 2) := by decide +kernel
theorem dL_rivers_49 : decode cL_rivers 49 = .ok (.iconst 0, 1) := by decide +kernel
theorem dL_rivers_50 : decode cL_rivers 50 = .ok (.istore 8, 2) := by decide +kernel
theorem dL_rivers_52 : decode cL_rivers 52 = .ok (.iload 8, 2) := by decide +kernel
theorem dL_rivers_54 : decode cL_rivers 54 = .ok (.iload 7, 2) := by decide +kernel
theorem dL_rivers_56 : decode cL_rivers 56 = .ok (.if_icmp .ge 435, 3) := by decide +kernel
theorem dL_rivers_59 : decode cL_rivers 59 = .ok (.iconst 2, 1) := by decide +kernel
theorem dL_rivers_60 : decode cL_rivers 60 = .ok (.aload_n 0, 1) := by decide +kernel
theorem dL_rivers_61 : decode cL_rivers 61 = .ok (.iload 6, 2) := by decide +kernel
theorem dL_rivers_63 : decode cL_rivers 63 = .ok (.iload 8, 2) := by decide +kernel
theorem dL_rivers_65 : decode cL_rivers 65 = .ok (.iconst 1, 1) := by decide +kernel
theorem dL_rivers_66 : decode cL_rivers 66 = .ok (.invokevirtual 49, 3) := by decide +kernel
theorem dL_rivers_69 : decode cL_rivers 69 = .ok (.imul, 1) := by decide +kernel
theorem dL_rivers_70 : decode cL_rivers 70 = .ok (.aload_n 0, 1) := by decide +kernel
theorem dL_rivers_71 : decode cL_rivers 71 = .ok (.iload 6, 2) := by decide +kernel
theorem dL_rivers_73 : decode cL_rivers 73 = .ok (.iload 8, 2) := by decide +kernel
theorem dL_rivers_75 : decode cL_rivers 75 = .ok (.iconst 0, 1) := by decide +kernel
theorem dL_rivers_76 : decode cL_rivers 76 = .ok (.invokevirtual 49, 3) := by decide +kernel
theorem dL_rivers_79 : decode cL_rivers 79 = .ok (.iadd, 1) := by decide +kernel
theorem dL_rivers_80 : decode cL_rivers 80 = .ok (.istore 9, 2) := by decide +kernel
theorem dL_rivers_82 : decode cL_rivers 82 = .ok (.iconst 0, 1) := by decide +kernel
theorem dL_rivers_83 : decode cL_rivers 83 = .ok (.istore 10, 2) := by decide +kernel
theorem dL_rivers_85 : decode cL_rivers 85 = .ok (.iconst (-1), 1) := by decide +kernel
theorem dL_rivers_86 : decode cL_rivers 86 = .ok (.istore 11, 2) := by decide +kernel
theorem dL_rivers_88 : decode cL_rivers 88 = .ok (.iconst 0, 1) := by decide +kernel
theorem dL_rivers_89 : decode cL_rivers 89 = .ok (.istore 12, 2) := by decide +kernel
theorem dL_rivers_91 : decode cL_rivers 91 = .ok (.iconst 0, 1) := by decide +kernel
theorem dL_rivers_92 : decode cL_rivers 92 = .ok (.istore 13, 2) := by decide +kernel
theorem dL_rivers_94 : decode cL_rivers 94 = .ok (.iload 6, 2) := by decide +kernel
theorem dL_rivers_96 : decode cL_rivers 96 = .ok (.ifCond .le 154, 3) := by decide +kernel
theorem dL_rivers_99 : decode cL_rivers 99 = .ok (.iload 13, 2) := by decide +kernel
theorem dL_rivers_101 : decode cL_rivers 101 = .ok (.aload_n 0, 1) := by decide +kernel
theorem dL_rivers_102 : decode cL_rivers 102 = .ok (.iload 6, 2) := by decide +kernel
theorem dL_rivers_104 : decode cL_rivers 104 = .ok (.iconst 1, 1) := by decide +kernel
theorem dL_rivers_105 : decode cL_rivers 105 = .ok (.isub, 1) := by decide +kernel
theorem dL_rivers_106 : decode cL_rivers 106 = .ok (.iconst 1, 1) := by decide +kernel
theorem dL_rivers_107 : decode cL_rivers 107 = .ok (.invokevirtual 43, 3) := by decide +kernel
theorem dL_rivers_110 : decode cL_rivers 110 = .ok (.aload_n 0, 1) := by decide +kernel
theorem dL_rivers_111 : decode cL_rivers 111 = .ok (.iload 6, 2) := by decide +kernel
theorem dL_rivers_113 : decode cL_rivers 113 = .ok (.iconst 1, 1) := by decide +kernel
theorem dL_rivers_114 : decode cL_rivers 114 = .ok (.isub, 1) := by decide +kernel
theorem dL_rivers_115 : decode cL_rivers 115 = .ok (.iconst 0, 1) := by decide +kernel
theorem dL_rivers_116 : decode cL_rivers 116 = .ok (.invokevirtual 43, 3) := by decide +kernel
theorem dL_rivers_119 : decode cL_rivers 119 = .ok (.isub, 1) := by decide +kernel
theorem dL_rivers_120 : decode cL_rivers 120 = .ok (.if_icmp .ge 130, 3) := by decide +kernel
theorem dL_rivers_123 : decode cL_rivers 123 = .ok (.iconst 2, 1) := by decide +kernel
theorem dL_rivers_124 : decode cL_rivers 124 = .ok (.aload_n 0, 1) := by decide +kernel
theorem dL_rivers_125 : decode cL_rivers 125 = .ok (.iload 6, 2) := by decide +kernel
theorem dL_rivers_127 : decode cL_rivers 127 = .ok (.iconst 1, 1) := by decide +kernel
theorem dL_rivers_128 : decode cL_rivers 128 = .ok (.isub, 1) := by decide +kernel
theorem dL_rivers_129 : decode cL_rivers 129 = .ok (.iload 13, 2) := by decide +kernel
theorem dL_rivers_131 : decode cL_rivers 131 = .ok (.iconst 1, 1) := by decide +kernel
theorem dL_rivers_132 : decode cL_rivers 132 = .ok (.invokevirtual 49, 3) := by decide +kernel
theorem dL_rivers_135 : decode cL_rivers 135 = .ok (.imul, 1) := by decide +kernel
theorem dL_rivers_136 : decode cL_rivers 136 = .ok (.aload_n 0, 1) := by decide +kernel
theorem dL_rivers_137 : decode cL_rivers 137 = .ok (.iload 6, 2) := by decide +kernel
theorem dL_rivers_139 : decode cL_rivers 139 = .ok (.iconst 1, 1) := by decide +kernel
theorem dL_rivers_140 : decode cL_rivers 140 = .ok (.isub, 1) := by decide +kernel
theorem dL_rivers_141 : decode cL_rivers 141 = .ok (.iload 13, 2) := by decide +kernel
theorem dL_rivers_143 : decode cL_rivers 143 = .ok (.iconst 0, 1) := by decide +kernel
theorem dL_rivers_144 : decode cL_rivers 144 = .ok (.invokevirtual 49, 3) := by decide +kernel
theorem dL_rivers_147 : decode cL_rivers 147 = .ok (.iadd, 1) := by decide +kernel
theorem dL_rivers_148 : decode cL_rivers 148 = .ok (.iload 9, 2) := by decide +kernel
theorem dL_rivers_150 : decode cL_rivers 150 = .ok (.isub, 1) := by decide +kernel
theorem dL_rivers_151 : decode cL_rivers 151 = .ok (.istore 14, 2) := by decide +kernel
theorem dL_rivers_153 : decode cL_rivers 153 = .ok (.iload 14, 2) := by decide +kernel
theorem dL_rivers_155 : decode cL_rivers 155 = .ok (.iload 5, 2) := by decide +kernel
theorem dL_rivers_157 : decode cL_rivers 157 = .ok (.if_icmp .gt 15, 3) := by decide +kernel
theorem dL_rivers_160 : decode cL_rivers 160 = .ok (.iload 14, 2) := by decide +kernel
theorem dL_rivers_162 : decode cL_rivers 162 = .ok (.iload 5, 2) := by decide +kernel
theorem dL_rivers_164 : decode cL_rivers 164 = .ok (.ineg, 1) := by decide +kernel
theorem dL_rivers_165 : decode cL_rivers 165 = .ok (.if_icmp .lt 7, 3) := by decide +kernel
theorem dL_rivers_168 : decode cL_rivers 168 = .ok (.iconst 1, 1) := by decide +kernel
theorem dL_rivers_169 : decode cL_rivers 169 = .ok (.goto 4, 3) := by decide +kernel
theorem dL_rivers_172 : decode cL_rivers 172 = .ok (.iconst 0, 1) := by decide +kernel
theorem dL_rivers_173 : decode cL_rivers 173 = .ok (.istore 15, 2) := by decide +kernel
theorem dL_rivers_175 : decode cL_rivers 175 = .ok (.iload 15, 2) := by decide +kernel
theorem dL_rivers_177 : decode cL_rivers 177 = .ok (.ifCond .eq 24, 3) := by decide +kernel
theorem dL_rivers_180 : decode cL_rivers 180 = .ok (.aload_n 0, 1) := by decide +kernel
theorem dL_rivers_181 : decode cL_rivers 181 = .ok (.iload 6, 2) := by decide +kernel
theorem dL_rivers_183 : decode cL_rivers 183 = .ok (.iconst 1, 1) := by decide +kernel
theorem dL_rivers_184 : decode cL_rivers 184 = .ok (.isub, 1) := by decide +kernel
theorem dL_rivers_185 : decode cL_rivers 185 = .ok (.iload 13, 2) := by decide +kernel
theorem dL_rivers_187 : decode cL_rivers 187 = .ok (.iconst 3, 1) := by decide +kernel
theorem dL_rivers_188 : decode cL_rivers 188 = .ok (.invokevirtual 49, 3) := by decide +kernel
theorem dL_rivers_191 : decode cL_rivers 191 = .ok (.iload 10, 2) := by decide +kernel
theorem dL_rivers_193 : decode cL_rivers 193 = .ok (.if_icmp .le 8, 3) := by decide +kernel
theorem dL_rivers_196 : decode cL_rivers 196 = .ok (.iload 13, 2) := by decide +kernel
theorem dL_rivers_198 : decode cL_rivers 198 = .ok (.goto 5, 3) := by decide +kernel
theorem dL_rivers_201 : decode cL_rivers 201 = .ok (.iload 11, 2) := by decide +kernel
theorem dL_rivers_203 : decode cL_rivers 203 = .ok (.istore 11, 2) := by decide +kernel
theorem dL_rivers_205 : decode cL_rivers 205 = .ok (.iload 15, 2) := by decide +kernel
theorem dL_rivers_207 : decode cL_rivers 207 = .ok (.ifCond .eq 33, 3) := by decide +kernel
theorem dL_rivers_210 : decode cL_rivers 210 = .ok (.aload_n 0, 1) := by decide +kernel
theorem dL_rivers_211 : decode cL_rivers 211 = .ok (.iload 6, 2) := by decide +kernel
theorem dL_rivers_213 : decode cL_rivers 213 = .ok (.iconst 1, 1) := by decide +kernel
theorem dL_rivers_214 : decode cL_rivers 214 = .ok (.isub, 1) := by decide +kernel
theorem dL_rivers_215 : decode cL_rivers 215 = .ok (.iload 13, 2) := by decide +kernel
theorem dL_rivers_217 : decode cL_rivers 217 = .ok (.iconst 3, 1) := by decide +kernel
theorem dL_rivers_218 : decode cL_rivers 218 = .ok (.invokevirtual 49, 3) := by decide +kernel
theorem dL_rivers_221 : decode cL_rivers 221 = .ok (.iload 10, 2) := by decide +kernel
theorem dL_rivers_223 : decode cL_rivers 223 = .ok (.if_icmp .le 17, 3) := by decide +kernel
theorem dL_rivers_226 : decode cL_rivers 226 = .ok (.aload_n 0, 1) := by decide +kernel
theorem dL_rivers_227 : decode cL_rivers 227 = .ok (.iload 6, 2) := by decide +kernel
theorem dL_rivers_229 : decode cL_rivers 229 = .ok (.iconst 1, 1) := by decide +kernel
theorem dL_rivers_230 : decode cL_rivers 230 = .ok (.isub, 1) := by decide +kernel
theorem dL_rivers_231 : decode cL_rivers 231 = .ok (.iload 13, 2) := by decide +kernel
theorem dL_rivers_233 : decode cL_rivers 233 = .ok (.iconst 3, 1) := by decide +kernel
theorem dL_rivers_234 : decode cL_rivers 234 = .ok (.invokevirtual 49, 3) := by decide +kernel
theorem dL_rivers_237 : decode cL_rivers 237 = .ok (.goto 5, 3) := by decide +kernel
theorem dL_rivers_240 : decode cL_rivers 240 = .ok (.iload 10, 2) := by decide +kernel
theorem dL_rivers_242 : decode cL_rivers 242 = .ok (.istore 10, 2) := by decide +kernel
theorem dL_rivers_244 : decode cL_rivers 244 = .ok (.iinc 13 1, 3) := by decide +kernel
theorem dL_rivers_247 : decode cL_rivers 247 = .ok (.goto (-153), 3) := by decide +kernel
theorem dL_rivers_250 : decode cL_rivers 250 = .ok (.iconst 0, 1) := by decide +kernel
theorem dL_rivers_251 : decode cL_rivers 251 = .ok (.istore 13, 2) := by decide +kernel
theorem dL_rivers_253 : decode cL_rivers 253 = .ok (.iload 6, 2) := by decide +kernel
theorem dL_rivers_255 : decode cL_rivers 255 = .ok (.iconst 1, 1) := by decide +kernel
theorem dL_rivers_256 : decode cL_rivers 256 = .ok (.iadd, 1) := by decide +kernel
theorem dL_rivers_257 : decode cL_rivers 257 = .ok (.iload_n 1, 1) := by decide +kernel
theorem dL_rivers_258 : decode cL_rivers 258 = .ok (.if_icmp .ge 90, 3) := by decide +kernel
theorem dL_rivers_261 : decode cL_rivers 261 = .ok (.iload 13, 2) := by decide +kernel
theorem dL_rivers_263 : decode cL_rivers 263 = .ok (.aload_n 0, 1) := by decide +kernel
theorem dL_rivers_264 : decode cL_rivers 264 = .ok (.iload 6, 2) := by decide +kernel
theorem dL_rivers_266 : decode cL_rivers 266 = .ok (.iconst 1, 1) := by decide +kernel
theorem dL_rivers_267 : decode cL_rivers 267 = .ok (.iadd, 1) := by decide +kernel
theorem dL_rivers_268 : decode cL_rivers 268 = .ok (.iconst 1, 1) := by decide +kernel
theorem dL_rivers_269 : decode cL_rivers 269 = .ok (.invokevirtual 43, 3) := by decide +kernel
theorem dL_rivers_272 : decode cL_rivers 272 = .ok (.aload_n 0, 1) := by decide +kernel
theorem dL_rivers_273 : decode cL_rivers 273 = .ok (.iload 6, 2) := by decide +kernel
theorem dL_rivers_275 : decode cL_rivers 275 = .ok (.iconst 1, 1) := by decide +kernel
theorem dL_rivers_276 : decode cL_rivers 276 = .ok (.iadd, 1) := by decide +kernel
theorem dL_rivers_277 : decode cL_rivers 277 = .ok (.iconst 0, 1) := by decide +kernel
theorem dL_rivers_278 : decode cL_rivers 278 = .ok (.invokevirtual 43, 3) := by decide +kernel
theorem dL_rivers_281 : decode cL_rivers 281 = .ok (.isub, 1) := by decide +kernel
theorem dL_rivers_282 : decode cL_rivers 282 = .ok (.if_icmp .ge 66, 3) := by decide +kernel
theorem dL_rivers_285 : decode cL_rivers 285 = .ok (.iconst 2, 1) := by decide +kernel
theorem dL_rivers_286 : decode cL_rivers 286 = .ok (.aload_n 0, 1) := by decide +kernel
theorem dL_rivers_287 : decode cL_rivers 287 = .ok (.iload 6, 2) := by decide +kernel
theorem dL_rivers_289 : decode cL_rivers 289 = .ok (.iconst 1, 1) := by decide +kernel
theorem dL_rivers_290 : decode cL_rivers 290 = .ok (.iadd, 1) := by decide +kernel
theorem dL_rivers_291 : decode cL_rivers 291 = .ok (.iload 13, 2) := by decide +kernel
theorem dL_rivers_293 : decode cL_rivers 293 = .ok (.iconst 1, 1) := by decide +kernel
theorem dL_rivers_294 : decode cL_rivers 294 = .ok (.invokevirtual 49, 3) := by decide +kernel
theorem dL_rivers_297 : decode cL_rivers 297 = .ok (.imul, 1) := by decide +kernel
theorem dL_rivers_298 : decode cL_rivers 298 = .ok (.aload_n 0, 1) := by decide +kernel
theorem dL_rivers_299 : decode cL_rivers 299 = .ok (.iload 6, 2) := by decide +kernel
theorem dL_rivers_301 : decode cL_rivers 301 = .ok (.iconst 1, 1) := by decide +kernel
theorem dL_rivers_302 : decode cL_rivers 302 = .ok (.iadd, 1) := by decide +kernel
theorem dL_rivers_303 : decode cL_rivers 303 = .ok (.iload 13, 2) := by decide +kernel
theorem dL_rivers_305 : decode cL_rivers 305 = .ok (.iconst 0, 1) := by decide +kernel
theorem dL_rivers_306 : decode cL_rivers 306 = .ok (.invokevirtual 49, 3) := by decide +kernel
theorem dL_rivers_309 : decode cL_rivers 309 = .ok (.iadd, 1) := by decide +kernel
theorem dL_rivers_310 : decode cL_rivers 310 = .ok (.iload 9, 2) := by decide +kernel
theorem dL_rivers_312 : decode cL_rivers 312 = .ok (.isub, 1) := by decide +kernel
theorem dL_rivers_313 : decode cL_rivers 313 = .ok (.istore 14, 2) := by decide +kernel
theorem dL_rivers_315 : decode cL_rivers 315 = .ok (.iload 12, 2) := by decide +kernel
theorem dL_rivers_317 : decode cL_rivers 317 = .ok (.ifCond .ne 18, 3) := by decide +kernel
theorem dL_rivers_320 : decode cL_rivers 320 = .ok (.iload 14, 2) := by decide +kernel
theorem dL_rivers_322 : decode cL_rivers 322 = .ok (.iload 5, 2) := by decide +kernel
theorem dL_rivers_324 : decode cL_rivers 324 = .ok (.if_icmp .gt 15, 3) := by decide +kernel
theorem dL_rivers_327 : decode cL_rivers 327 = .ok (.iload 14, 2) := by decide +kernel
theorem dL_rivers_329 : decode cL_rivers 329 = .ok (.iload 5, 2) := by decide +kernel
theorem dL_rivers_331 : decode cL_rivers 331 = .ok (.ineg, 1) := by decide +kernel
theorem dL_rivers_332 : decode cL_rivers 332 = .ok (.if_icmp .lt 7, 3) := by decide +kernel
theorem dL_rivers_335 : decode cL_rivers 335 = .ok (.iconst 1, 1) := by decide +kernel
theorem dL_rivers_336 : decode cL_rivers 336 = .ok (.goto 4, 3) := by decide +kernel
theorem dL_rivers_339 : decode cL_rivers 339 = .ok (.iconst 0, 1) := by decide +kernel
theorem dL_rivers_340 : decode cL_rivers 340 = .ok (.istore 12, 2) := by decide +kernel
theorem dL_rivers_342 : decode cL_rivers 342 = .ok (.iinc 13 1, 3) := by decide +kernel
theorem dL_rivers_345 : decode cL_rivers 345 = .ok (.goto (-92), 3) := by decide +kernel
theorem dL_rivers_348 : decode cL_rivers 348 = .ok (.aload_n 0, 1) := by decide +kernel
theorem dL_rivers_349 : decode cL_rivers 349 = .ok (.iload 6, 2) := by decide +kernel
theorem dL_rivers_351 : decode cL_rivers 351 = .ok (.iload 8, 2) := by decide +kernel
theorem dL_rivers_353 : decode cL_rivers 353 = .ok (.iconst 3, 1) := by decide +kernel
theorem dL_rivers_354 : decode cL_rivers 354 = .ok (.invokevirtual 49, 3) := by decide +kernel
theorem dL_rivers_357 : decode cL_rivers 357 = .ok (.istore 13, 2) := by decide +kernel
theorem dL_rivers_359 : decode cL_rivers 359 = .ok (.iload 13, 2) := by decide +kernel
theorem dL_rivers_361 : decode cL_rivers 361 = .ok (.iload 10, 2) := by decide +kernel
theorem dL_rivers_363 : decode cL_rivers 363 = .ok (.iconst 1, 1) := by decide +kernel
theorem dL_rivers_364 : decode cL_rivers 364 = .ok (.iadd, 1) := by decide +kernel
theorem dL_rivers_365 : decode cL_rivers 365 = .ok (.if_icmp .eq 5, 3) := by decide +kernel
theorem dL_rivers_368 : decode cL_rivers 368 = .ok (.iconst 0, 1) := by decide +kernel
theorem dL_rivers_369 : decode cL_rivers 369 = .ok (.ireturn, 1) := by decide +kernel
theorem dL_rivers_370 : decode cL_rivers 370 = .ok (.iload 13, 2) := by decide +kernel
theorem dL_rivers_372 : decode cL_rivers 372 = .ok (.iload_n 2, 1) := by decide +kernel
theorem dL_rivers_373 : decode cL_rivers 373 = .ok (.if_icmp .le 8, 3) := by decide +kernel
theorem dL_rivers_376 : decode cL_rivers 376 = .ok (.iload 13, 2) := by decide +kernel
theorem dL_rivers_378 : decode cL_rivers 378 = .ok (.goto 4, 3) := by decide +kernel
theorem dL_rivers_381 : decode cL_rivers 381 = .ok (.iload_n 2, 1) := by decide +kernel
theorem dL_rivers_382 : decode cL_rivers 382 = .ok (.istore_n 2, 1) := by decide +kernel
theorem dL_rivers_383 : decode cL_rivers 383 = .ok (.iload 13, 2) := by decide +kernel
theorem dL_rivers_385 : decode cL_rivers 385 = .ok (.iconst 3, 1) := by decide +kernel
theorem dL_rivers_386 : decode cL_rivers 386 = .ok (.if_icmp .lt 99, 3) := by decide +kernel
theorem dL_rivers_389 : decode cL_rivers 389 = .ok (.iload 12, 2) := by decide +kernel
theorem dL_rivers_391 : decode cL_rivers 391 = .ok (.ifCond .ne 94, 3) := by decide +kernel
theorem dL_rivers_394 : decode cL_rivers 394 = .ok (.iload_n 3, 1) := by decide +kernel
theorem dL_rivers_395 : decode cL_rivers 395 = .ok (.iload 13, 2) := by decide +kernel
theorem dL_rivers_397 : decode cL_rivers 397 = .ok (.iconst 2, 1) := by decide +kernel
theorem dL_rivers_398 : decode cL_rivers 398 = .ok (.isub, 1) := by decide +kernel
theorem dL_rivers_399 : decode cL_rivers 399 = .ok (.iadd, 1) := by decide +kernel
theorem dL_rivers_400 : decode cL_rivers 400 = .ok (.istore_n 3, 1) := by decide +kernel
theorem dL_rivers_401 : decode cL_rivers 401 = .ok (.aload_n 0, 1) := by decide +kernel
theorem dL_rivers_402 : decode cL_rivers 402 = .ok (.iload 4, 2) := by decide +kernel
theorem dL_rivers_404 : decode cL_rivers 404 = .ok (.iconst 0, 1) := by decide +kernel
theorem dL_rivers_405 : decode cL_rivers 405 = .ok (.invokevirtual 62, 3) := by decide +kernel
theorem dL_rivers_408 : decode cL_rivers 408 = .ok (.bipush 100, 2) := by decide +kernel
theorem dL_rivers_410 : decode cL_rivers 410 = .ok (.iload 6, 2) := by decide +kernel
theorem dL_rivers_412 : decode cL_rivers 412 = .ok (.imul, 1) := by decide +kernel
theorem dL_rivers_413 : decode cL_rivers 413 = .ok (.iload 8, 2) := by decide +kernel
theorem dL_rivers_415 : decode cL_rivers 415 = .ok (.iadd, 1) := by decide +kernel
theorem dL_rivers_416 : decode cL_rivers 416 = .ok (.if_icmp .ne 64, 3) := by decide +kernel
theorem dL_rivers_419 : decode cL_rivers 419 = .ok (.aload_n 0, 1) := by decide +kernel
theorem dL_rivers_420 : decode cL_rivers 420 = .ok (.iload 4, 2) := by decide +kernel
theorem dL_rivers_422 : decode cL_rivers 422 = .ok (.iconst 1, 1) := by decide +kernel
theorem dL_rivers_423 : decode cL_rivers 423 = .ok (.invokevirtual 62, 3) := by decide +kernel
theorem dL_rivers_426 : decode cL_rivers 426 = .ok (.bipush 100, 2) := by decide +kernel
theorem dL_rivers_428 : decode cL_rivers 428 = .ok (.iload 6, 2) := by decide +kernel
theorem dL_rivers_430 : decode cL_rivers 430 = .ok (.imul, 1) := by decide +kernel
theorem dL_rivers_431 : decode cL_rivers 431 = .ok (.bipush 100, 2) := by decide +kernel
theorem dL_rivers_433 : decode cL_rivers 433 = .ok (.isub, 1) := by decide +kernel
theorem dL_rivers_434 : decode cL_rivers 434 = .ok (.iload 11, 2) := by decide +kernel
theorem dL_rivers_436 : decode cL_rivers 436 = .ok (.iadd, 1) := by decide +kernel
theorem dL_rivers_437 : decode cL_rivers 437 = .ok (.if_icmp .ne 43, 3) := by decide +kernel
theorem dL_rivers_440 : decode cL_rivers 440 = .ok (.aload_n 0, 1) := by decide +kernel
theorem dL_rivers_441 : decode cL_rivers 441 = .ok (.iload 4, 2) := by decide +kernel
theorem dL_rivers_443 : decode cL_rivers 443 = .ok (.iload 13, 2) := by decide +kernel
theorem dL_rivers_445 : decode cL_rivers 445 = .ok (.iconst 1, 1) := by decide +kernel
theorem dL_rivers_446 : decode cL_rivers 446 = .ok (.isub, 1) := by decide +kernel
theorem dL_rivers_447 : decode cL_rivers 447 = .ok (.invokevirtual 62, 3) := by decide +kernel
theorem dL_rivers_450 : decode cL_rivers 450 = .ok (.ifCond .lt 30, 3) := by decide +kernel
theorem dL_rivers_453 : decode cL_rivers 453 = .ok (.aload_n 0, 1) := by decide +kernel
theorem dL_rivers_454 : decode cL_rivers 454 = .ok (.iload 4, 2) := by decide +kernel
theorem dL_rivers_456 : decode cL_rivers 456 = .ok (.iload 13, 2) := by decide +kernel
theorem dL_rivers_458 : decode cL_rivers 458 = .ok (.invokevirtual 62, 3) := by decide +kernel
theorem dL_rivers_461 : decode cL_rivers 461 = .ok (.sipush (-1004), 3) := by decide +kernel
theorem dL_rivers_464 : decode cL_rivers 464 = .ok (.if_icmp .ne 16, 3) := by decide +kernel
theorem dL_rivers_467 : decode cL_rivers 467 = .ok (.aload_n 0, 1) := by decide +kernel
theorem dL_rivers_468 : decode cL_rivers 468 = .ok (.iload 4, 2) := by decide +kernel
theorem dL_rivers_470 : decode cL_rivers 470 = .ok (.iconst (-1), 1) := by decide +kernel
theorem dL_rivers_471 : decode cL_rivers 471 = .ok (.invokevirtual 62, 3) := by decide +kernel
theorem dL_rivers_474 : decode cL_rivers 474 = .ok (.sipush (-1002), 3) := by decide +kernel
theorem dL_rivers_477 : decode cL_rivers 477 = .ok (.if_icmp .eq 5, 3) := by decide +kernel
theorem dL_rivers_480 : decode cL_rivers 480 = .ok (.iconst 0, 1) := by decide +kernel
theorem dL_rivers_481 : decode cL_rivers 481 = .ok (.ireturn, 1) := by decide +kernel
theorem dL_rivers_482 : decode cL_rivers 482 = .ok (.iinc 4 1, 3) := by decide +kernel
theorem dL_rivers_485 : decode cL_rivers 485 = .ok (.iinc 8 1, 3) := by decide +kernel
theorem dL_rivers_488 : decode cL_rivers 488 = .ok (.goto (-436), 3) := by decide +kernel
theorem dL_rivers_491 : decode cL_rivers 491 = .ok (.iinc 6 1, 3) := by decide +kernel
theorem dL_rivers_494 : decode cL_rivers 494 = .ok (.goto (-468), 3) := by decide +kernel
theorem dL_rivers_497 : decode cL_rivers 497 = .ok (.sipush 1000, 3) := by decide +kernel
theorem dL_rivers_500 : decode cL_rivers 500 = .ok (.istore 6, 2) := by decide +kernel
theorem dL_rivers_502 : decode cL_rivers 502 = .ok (.iconst 0, 1) := by decide +kernel
theorem dL_rivers_503 : decode cL_rivers 503 = .ok (.istore 7, 2) := by decide +kernel
theorem dL_rivers_505 : decode cL_rivers 505 = .ok (.iconst 0, 1) := by decide +kernel
theorem dL_rivers_506 : decode cL_rivers 506 = .ok (.istore 8, 2) := by decide +kernel
theorem dL_rivers_508 : decode cL_rivers 508 = .ok (.iload 8, 2) := by decide +kernel
theorem dL_rivers_510 : decode cL_rivers 510 = .ok (.iload_n 1, 1) := by decide +kernel
theorem dL_rivers_511 : decode cL_rivers 511 = .ok (.if_icmp .ge 58, 3) := by decide +kernel
theorem dL_rivers_514 : decode cL_rivers 514 = .ok (.aload_n 0, 1) := by decide +kernel
theorem dL_rivers_515 : decode cL_rivers 515 = .ok (.iload 8, 2) := by decide +kernel
theorem dL_rivers_517 : decode cL_rivers 517 = .ok (.invokevirtual 65, 3) := by decide +kernel
theorem dL_rivers_520 : decode cL_rivers 520 = .ok (.istore 9, 2) := by decide +kernel
theorem dL_rivers_522 : decode cL_rivers 522 = .ok (.iload 9, 2) := by decide +kernel
theorem dL_rivers_524 : decode cL_rivers 524 = .ok (.ifCond .lt 21, 3) := by decide +kernel
theorem dL_rivers_527 : decode cL_rivers 527 = .ok (.iload 9, 2) := by decide +kernel
theorem dL_rivers_529 : decode cL_rivers 529 = .ok (.iload_n 1, 1) := by decide +kernel
theorem dL_rivers_530 : decode cL_rivers 530 = .ok (.if_icmp .ge 15, 3) := by decide +kernel
theorem dL_rivers_533 : decode cL_rivers 533 = .ok (.aload_n 0, 1) := by decide +kernel
theorem dL_rivers_534 : decode cL_rivers 534 = .ok (.iload 9, 2) := by decide +kernel
theorem dL_rivers_536 : decode cL_rivers 536 = .ok (.iconst 4, 1) := by decide +kernel
theorem dL_rivers_537 : decode cL_rivers 537 = .ok (.invokevirtual 43, 3) := by decide +kernel
theorem dL_rivers_540 : decode cL_rivers 540 = .ok (.iload 6, 2) := by decide +kernel
theorem dL_rivers_542 : decode cL_rivers 542 = .ok (.if_icmp .le 5, 3) := by decide +kernel
theorem dL_rivers_545 : decode cL_rivers 545 = .ok (.iconst 0, 1) := by decide +kernel
theorem dL_rivers_546 : decode cL_rivers 546 = .ok (.ireturn, 1) := by decide +kernel
theorem dL_rivers_547 : decode cL_rivers 547 = .ok (.aload_n 0, 1) := by decide +kernel
theorem dL_rivers_548 : decode cL_rivers 548 = .ok (.iload 9, 2) := by decide +kernel
theorem dL_rivers_550 : decode cL_rivers 550 = .ok (.iconst 4, 1) := by decide +kernel
theorem dL_rivers_551 : decode cL_rivers 551 = .ok (.invokevirtual 43, 3) := by decide +kernel
theorem dL_rivers_554 : decode cL_rivers 554 = .ok (.istore 6, 2) := by decide +kernel
theorem dL_rivers_556 : decode cL_rivers 556 = .ok (.iload 7, 2) := by decide +kernel
theorem dL_rivers_558 : decode cL_rivers 558 = .ok (.iload 9, 2) := by decide +kernel
theorem dL_rivers_560 : decode cL_rivers 560 = .ok (.iadd, 1) := by decide +kernel
theorem dL_rivers_561 : decode cL_rivers 561 = .ok (.istore 7, 2) := by decide +kernel
theorem dL_rivers_563 : decode cL_rivers 563 = .ok (.iinc 8 1, 3) := by decide +kernel
theorem dL_rivers_566 : decode cL_rivers 566 = .ok (.goto (-58), 3) := by decide +kernel
theorem dL_rivers_569 : decode cL_rivers 569 = .ok (.iload 7, 2) := by decide +kernel
theorem dL_rivers_571 : decode cL_rivers 571 = .ok (.iload_n 1, 1) := by decide +kernel
theorem dL_rivers_572 : decode cL_rivers 572 = .ok (.iload_n 1, 1) := by decide +kernel
theorem dL_rivers_573 : decode cL_rivers 573 = .ok (.iconst 1, 1) := by decide +kernel
theorem dL_rivers_574 : decode cL_rivers 574 = .ok (.isub, 1) := by decide +kernel
theorem dL_rivers_575 : decode cL_rivers 575 = .ok (.imul, 1) := by decide +kernel
theorem dL_rivers_576 : decode cL_rivers 576 = .ok (.iconst 2, 1) := by decide +kernel
theorem dL_rivers_577 : decode cL_rivers 577 = .ok (.idiv, 1) := by decide +kernel
theorem dL_rivers_578 : decode cL_rivers 578 = .ok (.if_icmp .ne 83, 3) := by decide +kernel
theorem dL_rivers_581 : decode cL_rivers 581 = .ok (.aload_n 0, 1) := by decide +kernel
theorem dL_rivers_582 : decode cL_rivers 582 = .ok (.iload_n 1, 1) := by decide +kernel
theorem dL_rivers_583 : decode cL_rivers 583 = .ok (.invokevirtual 65, 3) := by decide +kernel
theorem dL_rivers_586 : decode cL_rivers 586 = .ok (.sipush (-1004), 3) := by decide +kernel
theorem dL_rivers_589 : decode cL_rivers 589 = .ok (.if_icmp .ne 72, 3) := by decide +kernel
theorem dL_rivers_592 : decode cL_rivers 592 = .ok (.aload_n 0, 1) := by decide +kernel
theorem dL_rivers_593 : decode cL_rivers 593 = .ok (.iconst (-1), 1) := by decide +kernel
theorem dL_rivers_594 : decode cL_rivers 594 = .ok (.invokevirtual 65, 3) := by decide +kernel
theorem dL_rivers_597 : decode cL_rivers 597 = .ok (.sipush (-1002), 3) := by decide +kernel
theorem dL_rivers_600 : decode cL_rivers 600 = .ok (.if_icmp .ne 61, 3) := by decide +kernel
theorem dL_rivers_603 : decode cL_rivers 603 = .ok (.aload_n 0, 1) := by decide +kernel
theorem dL_rivers_604 : decode cL_rivers 604 = .ok (.iconst 4, 1) := by decide +kernel
theorem dL_rivers_605 : decode cL_rivers 605 = .ok (.invokevirtual 36, 3) := by decide +kernel
theorem dL_rivers_608 : decode cL_rivers 608 = .ok (.iload 4, 2) := by decide +kernel
theorem dL_rivers_610 : decode cL_rivers 610 = .ok (.if_icmp .ne 51, 3) := by decide +kernel
theorem dL_rivers_613 : decode cL_rivers 613 = .ok (.aload_n 0, 1) := by decide +kernel
theorem dL_rivers_614 : decode cL_rivers 614 = .ok (.iconst 5, 1) := by decide +kernel
theorem dL_rivers_615 : decode cL_rivers 615 = .ok (.invokevirtual 36, 3) := by decide +kernel
theorem dL_rivers_618 : decode cL_rivers 618 = .ok (.iload_n 2, 1) := by decide +kernel
theorem dL_rivers_619 : decode cL_rivers 619 = .ok (.if_icmp .ne 42, 3) := by decide +kernel
theorem dL_rivers_622 : decode cL_rivers 622 = .ok (.aload_n 0, 1) := by decide +kernel
theorem dL_rivers_623 : decode cL_rivers 623 = .ok (.bipush 6, 2) := by decide +kernel
theorem dL_rivers_625 : decode cL_rivers 625 = .ok (.invokevirtual 36, 3) := by decide +kernel
theorem dL_rivers_628 : decode cL_rivers 628 = .ok (.iload_n 3, 1) := by decide +kernel
theorem dL_rivers_629 : decode cL_rivers 629 = .ok (.if_icmp .ne 32, 3) := by decide +kernel
theorem dL_rivers_632 : decode cL_rivers 632 = .ok (.aload_n 0, 1) := by decide +kernel
theorem dL_rivers_633 : decode cL_rivers 633 = .ok (.iload 4, 2) := by decide +kernel
theorem dL_rivers_635 : decode cL_rivers 635 = .ok (.iconst 0, 1) := by decide +kernel
theorem dL_rivers_636 : decode cL_rivers 636 = .ok (.invokevirtual 62, 3) := by decide +kernel
theorem dL_rivers_639 : decode cL_rivers 639 = .ok (.sipush (-1001), 3) := by decide +kernel
theorem dL_rivers_642 : decode cL_rivers 642 = .ok (.if_icmp .ne 19, 3) := by decide +kernel
theorem dL_rivers_645 : decode cL_rivers 645 = .ok (.aload_n 0, 1) := by decide +kernel
theorem dL_rivers_646 : decode cL_rivers 646 = .ok (.iconst (-1), 1) := by decide +kernel
theorem dL_rivers_647 : decode cL_rivers 647 = .ok (.iconst 0, 1) := by decide +kernel
theorem dL_rivers_648 : decode cL_rivers 648 = .ok (.invokevirtual 62, 3) := by decide +kernel
theorem dL_rivers_651 : decode cL_rivers 651 = .ok (.sipush (-1001), 3) := by decide +kernel
theorem dL_rivers_654 : decode cL_rivers 654 = .ok (.if_icmp .ne 7, 3) := by decide +kernel
theorem dL_rivers_657 : decode cL_rivers 657 = .ok (.iconst 1, 1) := by decide +kernel
theorem dL_rivers_658 : decode cL_rivers 658 = .ok (.goto 4, 3) := by decide +kernel
theorem dL_rivers_661 : decode cL_rivers 661 = .ok (.iconst 0, 1) := by decide +kernel
theorem dL_rivers_662 : decode cL_rivers 662 = .ok (.ireturn, 1) := by decide +kernel
theorem dL_seconds_0 : decode cL_seconds 0 = .ok (.aload_n 0, 1) := by decide +kernel
theorem dL_seconds_1 : decode cL_seconds 1 = .ok (.iconst 1, 1) := by decide +kernel
theorem dL_seconds_2 : decode cL_seconds 2 = .ok (.invokevirtual 36, 3) := by decide +kernel
theorem dL_seconds_5 : decode cL_seconds 5 = .ok (.istore_n 2, 1) := by decide +kernel
theorem dL_seconds_6 : decode cL_seconds 6 = .ok (.aload_n 0, 1) := by decide +kernel
theorem dL_seconds_7 : decode cL_seconds 7 = .ok (.iconst 3, 1) := by decide +kernel
theorem dL_seconds_8 : decode cL_seconds 8 = .ok (.invokevirtual 36, 3) := by decide +kernel
theorem dL_seconds_11 : decode cL_seconds 11 = .ok (.istore_n 3, 1) := by decide +kernel
theorem dL_seconds_12 : decode cL_seconds 12 = .ok (.iload_n 2, 1) := by decide +kernel
theorem dL_seconds_13 : decode cL_seconds 13 = .ok (.ifCond .ne 26, 3) := by decide +kernel
theorem dL_seconds_16 : decode cL_seconds 16 = .ok (.aload_n 0, 1) := by decide +kernel
theorem dL_seconds_17 : decode cL_seconds 17 = .ok (.invokevirtual 68, 3) := by decide +kernel
theorem dL_seconds_20 : decode cL_seconds 20 = .ok (.sipush (-1004), 3) := by decide +kernel
theorem dL_seconds_23 : decode cL_seconds 23 = .ok (.if_icmp .ne 14, 3) := by decide +kernel
theorem dL_seconds_26 : decode cL_seconds 26 = .ok (.aload_n 0, 1) := by decide +kernel
theorem dL_seconds_27 : decode cL_seconds 27 = .ok (.invokevirtual 71, 3) := by decide +kernel
theorem dL_seconds_30 : decode cL_seconds 30 = .ok (.ifCond .ne 7, 3) := by decide +kernel
theorem dL_seconds_33 : decode cL_seconds 33 = .ok (.iconst 1, 1) := by decide +kernel
theorem dL_seconds_34 : decode cL_seconds 34 = .ok (.goto 4, 3) := by decide +kernel
theorem dL_seconds_37 : decode cL_seconds 37 = .ok (.iconst 0, 1) := by decide +kernel
theorem dL_seconds_38 : decode cL_seconds 38 = .ok (.ireturn, 1) := by decide +kernel
theorem dL_seconds_39 : decode cL_seconds 39 = .ok (.iload_n 1, 1) := by decide +kernel
theorem dL_seconds_40 : decode cL_seconds 40 = .ok (.iload_n 2, 1) := by decide +kernel
theorem dL_seconds_41 : decode cL_seconds 41 = .ok (.invokestatic 9, 3) := by decide +kernel
theorem dL_seconds_44 : decode cL_seconds 44 = .ok (.istore 4, 2) := by decide +kernel
theorem dL_seconds_46 : decode cL_seconds 46 = .ok (.aload_n 0, 1) := by decide +kernel
theorem dL_seconds_47 : decode cL_seconds 47 = .ok (.iload 4, 2) := by decide +kernel
theorem dL_seconds_49 : decode cL_seconds 49 = .ok (.iconst 0, 1) := by decide +kernel
theorem dL_seconds_50 : decode cL_seconds 50 = .ok (.invokevirtual 56, 3) := by decide +kernel
theorem dL_seconds_53 : decode cL_seconds 53 = .ok (.istore 5, 2) := by decide +kernel
theorem dL_seconds_55 : decode cL_seconds 55 = .ok (.aload_n 0, 1) := by decide +kernel
theorem dL_seconds_56 : decode cL_seconds 56 = .ok (.iload 4, 2) := by decide +kernel
theorem dL_seconds_58 : decode cL_seconds 58 = .ok (.iconst 1, 1) := by decide +kernel
theorem dL_seconds_59 : decode cL_seconds 59 = .ok (.invokevirtual 56, 3) := by decide +kernel
theorem dL_seconds_62 : decode cL_seconds 62 = .ok (.istore 6, 2) := by decide +kernel
theorem dL_seconds_64 : decode cL_seconds 64 = .ok (.aload_n 0, 1) := by decide +kernel
theorem dL_seconds_65 : decode cL_seconds 65 = .ok (.iload 4, 2) := by decide +kernel
theorem dL_seconds_67 : decode cL_seconds 67 = .ok (.iconst 0, 1) := by decide +kernel
theorem dL_seconds_68 : decode cL_seconds 68 = .ok (.invokevirtual 43, 3) := by decide +kernel
theorem dL_seconds_71 : decode cL_seconds 71 = .ok (.istore 7, 2) := by decide +kernel
theorem dL_seconds_73 : decode cL_seconds 73 = .ok (.aload_n 0, 1) := by decide +kernel
theorem dL_seconds_74 : decode cL_seconds 74 = .ok (.iload 4, 2) := by decide +kernel
theorem dL_seconds_76 : decode cL_seconds 76 = .ok (.iconst 1, 1) := by decide +kernel
theorem dL_seconds_77 : decode cL_seconds 77 = .ok (.invokevirtual 43, 3) := by decide +kernel
theorem dL_seconds_80 : decode cL_seconds 80 = .ok (.istore 8, 2) := by decide +kernel
theorem dL_seconds_82 : decode cL_seconds 82 = .ok (.aload_n 0, 1) := by decide +kernel
theorem dL_seconds_83 : decode cL_seconds 83 = .ok (.iload 4, 2) := by decide +kernel
theorem dL_seconds_85 : decode cL_seconds 85 = .ok (.iconst 2, 1) := by decide +kernel
theorem dL_seconds_86 : decode cL_seconds 86 = .ok (.invokevirtual 56, 3) := by decide +kernel
theorem dL_seconds_89 : decode cL_seconds 89 = .ok (.sipush (-1002), 3) := by decide +kernel
theorem dL_seconds_92 : decode cL_seconds 92 = .ok (.if_icmp .eq 5, 3) := by decide +kernel
theorem dL_seconds_95 : decode cL_seconds 95 = .ok (.iconst 0, 1) := by decide +kernel
theorem dL_seconds_96 : decode cL_seconds 96 = .ok (.ireturn, 1) := by decide +kernel
theorem dL_seconds_97 : decode cL_seconds 97 = .ok (.iload 5, 2) := by decide +kernel
theorem dL_seconds_99 : decode cL_seconds 99 = .ok (.ifCond .ge 29, 3) := by decide +kernel
theorem dL_seconds_102 : decode cL_seconds 102 = .ok (.iload 6, 2) := by decide +kernel
theorem dL_seconds_104 : decode cL_seconds 104 = .ok (.sipush (-1004), 3) := by decide +kernel
theorem dL_seconds_107 : decode cL_seconds 107 = .ok (.if_icmp .ne 19, 3) := by decide +kernel
theorem dL_seconds_110 : decode cL_seconds 110 = .ok (.aload_n 0, 1) := by decide +kernel
theorem dL_seconds_111 : decode cL_seconds 111 = .ok (.iload 4, 2) := by decide +kernel
theorem dL_seconds_113 : decode cL_seconds 113 = .ok (.invokevirtual 59, 3) := by decide +kernel
theorem dL_seconds_116 : decode cL_seconds 116 = .ok (.sipush (-1004), 3) := by decide +kernel
theorem dL_seconds_119 : decode cL_seconds 119 = .ok (.if_icmp .ne 7, 3) := by decide +kernel
theorem dL_seconds_122 : decode cL_seconds 122 = .ok (.iconst 1, 1) := by decide +kernel
theorem dL_seconds_123 : decode cL_seconds 123 = .ok (.goto 4, 3) := by decide +kernel
theorem dL_seconds_126 : decode cL_seconds 126 = .ok (.iconst 0, 1) := by decide +kernel
theorem dL_seconds_127 : decode cL_seconds 127 = .ok (.ireturn, 1) := by decide +kernel
theorem dL_seconds_128 : decode cL_seconds 128 = .ok (.iload 5, 2) := by decide +kernel
theorem dL_seconds_130 : decode cL_seconds 130 = .ok (.iload 8, 2) := by decide +kernel
theorem dL_seconds_132 : decode cL_seconds 132 = .ok (.if_icmp .eq 71, 3) := by decide +kernel
theorem dL_seconds_135 : decode cL_seconds 135 = .ok (.iload 5, 2) := by decide +kernel
theorem dL_seconds_137 : decode cL_seconds 137 = .ok (.iload 7, 2) := by decide +kernel
theorem dL_seconds_139 : decode cL_seconds 139 = .ok (.if_icmp .lt 64, 3) := by decide +kernel
theorem dL_seconds_142 : decode cL_seconds 142 = .ok (.iload 6, 2) := by decide +kernel
theorem dL_seconds_144 : decode cL_seconds 144 = .ok (.iload_n 3, 1) := by decide +kernel
theorem dL_seconds_145 : decode cL_seconds 145 = .ok (.if_icmp .lt 58, 3) := by decide +kernel
theorem dL_seconds_148 : decode cL_seconds 148 = .ok (.aload_n 0, 1) := by decide +kernel
theorem dL_seconds_149 : decode cL_seconds 149 = .ok (.iload 4, 2) := by decide +kernel
theorem dL_seconds_151 : decode cL_seconds 151 = .ok (.invokevirtual 59, 3) := by decide +kernel
theorem dL_seconds_154 : decode cL_seconds 154 = .ok (.aload_n 0, 1) := by decide +kernel
theorem dL_seconds_155 : decode cL_seconds 155 = .ok (.iconst 1, 1) := by decide +kernel
theorem dL_seconds_156 : decode cL_seconds 156 = .ok (.invokevirtual 36, 3) := by decide +kernel
theorem dL_seconds_159 : decode cL_seconds 159 = .ok (.if_icmp .ne 44, 3) := by decide +kernel
theorem dL_seconds_162 : decode cL_seconds 162 = .ok (.aload_n 0, 1) := by decide +kernel
theorem dL_seconds_163 : decode cL_seconds 163 = .ok (.iload 4, 2) := by decide +kernel
theorem dL_seconds_165 : decode cL_seconds 165 = .ok (.iconst 0, 1) := by decide +kernel
theorem dL_seconds_166 : decode cL_seconds 166 = .ok (.invokevirtual 43, 3) := by decide +kernel
theorem dL_seconds_169 : decode cL_seconds 169 = .ok (.iload 7, 2) := by decide +kernel
theorem dL_seconds_171 : decode cL_seconds 171 = .ok (.if_icmp .ne 32, 3) := by decide +kernel
theorem dL_seconds_174 : decode cL_seconds 174 = .ok (.aload_n 0, 1) := by decide +kernel
theorem dL_seconds_175 : decode cL_seconds 175 = .ok (.iload 4, 2) := by decide +kernel
theorem dL_seconds_177 : decode cL_seconds 177 = .ok (.iconst 1, 1) := by decide +kernel
theorem dL_seconds_178 : decode cL_seconds 178 = .ok (.invokevirtual 43, 3) := by decide +kernel
theorem dL_seconds_181 : decode cL_seconds 181 = .ok (.iload 5, 2) := by decide +kernel
theorem dL_seconds_183 : decode cL_seconds 183 = .ok (.if_icmp .ne 20, 3) := by decide +kernel
theorem dL_seconds_186 : decode cL_seconds 186 = .ok (.aload_n 0, 1) := by decide +kernel
theorem dL_seconds_187 : decode cL_seconds 187 = .ok (.iconst 2, 1) := by decide +kernel
theorem dL_seconds_188 : decode cL_seconds 188 = .ok (.invokevirtual 36, 3) := by decide +kernel
theorem dL_seconds_191 : decode cL_seconds 191 = .ok (.iload 6, 2) := by decide +kernel
theorem dL_seconds_193 : decode cL_seconds 193 = .ok (.if_icmp .ne 10, 3) := by decide +kernel
theorem dL_seconds_196 : decode cL_seconds 196 = .ok (.aload_n 0, 1) := by decide +kernel
theorem dL_seconds_197 : decode cL_seconds 197 = .ok (.invokestatic 74, 3) := by decide +kernel
theorem dL_seconds_200 : decode cL_seconds 200 = .ok (.ifCond .ne 5, 3) := by decide +kernel
theorem dL_seconds_203 : decode cL_seconds 203 = .ok (.iconst 0, 1) := by decide +kernel
theorem dL_seconds_204 : decode cL_seconds 204 = .ok (.ireturn, 1) := by decide +kernel
theorem dL_seconds_205 : decode cL_seconds 205 = .ok (.iload_n 1, 1) := by decide +kernel
theorem dL_seconds_206 : decode cL_seconds 206 = .ok (.bipush 8, 2) := by decide +kernel
theorem dL_seconds_208 : decode cL_seconds 208 = .ok (.ishr, 1) := by decide +kernel
theorem dL_seconds_209 : decode cL_seconds 209 = .ok (.iconst 1, 1) := by decide +kernel
theorem dL_seconds_210 : decode cL_seconds 210 = .ok (.iand, 1) := by decide +kernel
theorem dL_seconds_211 : decode cL_seconds 211 = .ok (.ifCond .ne 65, 3) := by decide +kernel
theorem dL_seconds_214 : decode cL_seconds 214 = .ok (.aload_n 0, 1) := by decide +kernel
theorem dL_seconds_215 : decode cL_seconds 215 = .ok (.bipush 6, 2) := by decide +kernel
theorem dL_seconds_217 : decode cL_seconds 217 = .ok (.invokevirtual 36, 3) := by decide +kernel
theorem dL_seconds_220 : decode cL_seconds 220 = .ok (.istore 9, 2) := by decide +kernel
theorem dL_seconds_222 : decode cL_seconds 222 = .ok (.aload_n 0, 1) := by decide +kernel
theorem dL_seconds_223 : decode cL_seconds 223 = .ok (.invokevirtual 71, 3) := by decide +kernel
theorem dL_seconds_226 : decode cL_seconds 226 = .ok (.istore 10, 2) := by decide +kernel
theorem dL_seconds_228 : decode cL_seconds 228 = .ok (.iload 10, 2) := by decide +kernel
theorem dL_seconds_230 : decode cL_seconds 230 = .ok (.ifCond .lt 44, 3) := by decide +kernel
theorem dL_seconds_233 : decode cL_seconds 233 = .ok (.iload 10, 2) := by decide +kernel
theorem dL_seconds_235 : decode cL_seconds 235 = .ok (.bipush 10, 2) := by decide +kernel
theorem dL_seconds_237 : decode cL_seconds 237 = .ok (.if_icmp .gt 37, 3) := by decide +kernel
theorem dL_seconds_240 : decode cL_seconds 240 = .ok (.iload 10, 2) := by decide +kernel
theorem dL_seconds_242 : decode cL_seconds 242 = .ok (.ifCond .ne 17, 3) := by decide +kernel
theorem dL_seconds_245 : decode cL_seconds 245 = .ok (.aload_n 0, 1) := by decide +kernel
theorem dL_seconds_246 : decode cL_seconds 246 = .ok (.bipush 6, 2) := by decide +kernel
theorem dL_seconds_248 : decode cL_seconds 248 = .ok (.invokevirtual 36, 3) := by decide +kernel
theorem dL_seconds_251 : decode cL_seconds 251 = .ok (.iload 9, 2) := by decide +kernel
theorem dL_seconds_253 : decode cL_seconds 253 = .ok (.if_icmp .ne 21, 3) := by decide +kernel
theorem dL_seconds_256 : decode cL_seconds 256 = .ok (.goto 14, 3) := by decide +kernel
theorem dL_seconds_259 : decode cL_seconds 259 = .ok (.aload_n 0, 1) := by decide +kernel
theorem dL_seconds_260 : decode cL_seconds 260 = .ok (.bipush 6, 2) := by decide +kernel
theorem dL_seconds_262 : decode cL_seconds 262 = .ok (.invokevirtual 36, 3) := by decide +kernel
theorem dL_seconds_265 : decode cL_seconds 265 = .ok (.iload 9, 2) := by decide +kernel
theorem dL_seconds_267 : decode cL_seconds 267 = .ok (.if_icmp .ge 7, 3) := by decide +kernel
theorem dL_seconds_270 : decode cL_seconds 270 = .ok (.iconst 1, 1) := by decide +kernel
theorem dL_seconds_271 : decode cL_seconds 271 = .ok (.goto 4, 3) := by decide +kernel
theorem dL_seconds_274 : decode cL_seconds 274 = .ok (.iconst 0, 1) := by decide +kernel
theorem dL_seconds_275 : decode cL_seconds 275 = .ok (.ireturn, 1) := by decide +kernel
theorem dL_seconds_276 : decode cL_seconds 276 = .ok (.aload_n 0, 1) := by decide +kernel
theorem dL_seconds_277 : decode cL_seconds 277 = .ok (.invokevirtual 68, 3) := by decide +kernel
theorem dL_seconds_280 : decode cL_seconds 280 = .ok (.aload_n 0, 1) := by decide +kernel
theorem dL_seconds_281 : decode cL_seconds 281 = .ok (.iconst 1, 1) := by decide +kernel
theorem dL_seconds_282 : decode cL_seconds 282 = .ok (.invokevirtual 36, 3) := by decide +kernel
theorem dL_seconds_285 : decode cL_seconds 285 = .ok (.if_icmp .ne 16, 3) := by decide +kernel
theorem dL_seconds_288 : decode cL_seconds 288 = .ok (.aload_n 0, 1) := by decide +kernel
theorem dL_seconds_289 : decode cL_seconds 289 = .ok (.iconst 2, 1) := by decide +kernel
theorem dL_seconds_290 : decode cL_seconds 290 = .ok (.invokevirtual 36, 3) := by decide +kernel
theorem dL_seconds_293 : decode cL_seconds 293 = .ok (.iload_n 3, 1) := by decide +kernel
theorem dL_seconds_294 : decode cL_seconds 294 = .ok (.if_icmp .ne 7, 3) := by decide +kernel
theorem dL_seconds_297 : decode cL_seconds 297 = .ok (.iconst 1, 1) := by decide +kernel
theorem dL_seconds_298 : decode cL_seconds 298 = .ok (.goto 4, 3) := by decide +kernel
theorem dL_seconds_301 : decode cL_seconds 301 = .ok (.iconst 0, 1) := by decide +kernel
theorem dL_seconds_302 : decode cL_seconds 302 = .ok (.ireturn, 1) := by decide +kernel
theorem dL_number_0 : decode cL_number 0 = .ok (.aload_n 0, 1) := by decide +kernel
theorem dL_number_1 : decode cL_number 1 = .ok (.bipush 32, 2) := by decide +kernel
theorem dL_number_3 : decode cL_number 3 = .ok (.invokevirtual 29, 3) := by decide +kernel
theorem dL_number_6 : decode cL_number 6 = .ok (.pop, 1) := by decide +kernel
theorem dL_number_7 : decode cL_number 7 = .ok (.iload_n 1, 1) := by decide +kernel
theorem dL_number_8 : decode cL_number 8 = .ok (.bipush 99, 2) := by decide +kernel
theorem dL_number_10 : decode cL_number 10 = .ok (.if_icmp .le 16, 3) := by decide +kernel
theorem dL_number_13 : decode cL_number 13 = .ok (.aload_n 0, 1) := by decide +kernel
theorem dL_number_14 : decode cL_number 14 = .ok (.bipush 48, 2) := by decide +kernel
theorem dL_number_16 : decode cL_number 16 = .ok (.iload_n 1, 1) := by decide +kernel
theorem dL_number_17 : decode cL_number 17 = .ok (.bipush 100, 2) := by decide +kernel
theorem dL_number_19 : decode cL_number 19 = .ok (.idiv, 1) := by decide +kernel
theorem dL_number_20 : decode cL_number 20 = .ok (.iadd, 1) := by decide +kernel
theorem dL_number_21 : decode cL_number 21 = .ok (.i2c, 1) := by decide +kernel
theorem dL_number_22 : decode cL_number 22 = .ok (.invokevirtual 29, 3) := by decide +kernel
theorem dL_number_25 : decode cL_number 25 = .ok (.pop, 1) := by decide +kernel
theorem dL_number_26 : decode cL_number 26 = .ok (.iload_n 1, 1) := by decide +kernel
theorem dL_number_27 : decode cL_number 27 = .ok (.bipush 9, 2) := by decide +kernel
theorem dL_number_29 : decode cL_number 29 = .ok (.if_icmp .le 19, 3) := by decide +kernel
theorem dL_number_32 : decode cL_number 32 = .ok (.aload_n 0, 1) := by decide +kernel
theorem dL_number_33 : decode cL_number 33 = .ok (.bipush 48, 2) := by decide +kernel
theorem dL_number_35 : decode cL_number 35 = .ok (.iload_n 1, 1) := by decide +kernel
theorem dL_number_36 : decode cL_number 36 = .ok (.bipush 10, 2) := by decide +kernel
theorem dL_number_38 : decode cL_number 38 = .ok (.idiv, 1) := by decide +kernel
theorem dL_number_39 : decode cL_number 39 = .ok (.bipush 10, 2) := by decide +kernel
theorem dL_number_41 : decode cL_number 41 = .ok (.irem, 1) := by decide +kernel
theorem dL_number_42 : decode cL_number 42 = .ok (.iadd, 1) := by decide +kernel
theorem dL_number_43 : decode cL_number 43 = .ok (.i2c, 1) := by decide +kernel
theorem dL_number_44 : decode cL_number 44 = .ok (.invokevirtual 29, 3) := by decide +kernel
theorem dL_number_47 : decode cL_number 47 = .ok (.pop, 1) := by decide +kernel
theorem dL_number_48 : decode cL_number 48 = .ok (.aload_n 0, 1) := by decide +kernel
theorem dL_number_49 : decode cL_number 49 = .ok (.bipush 48, 2) := by decide +kernel
theorem dL_number_51 : decode cL_number 51 = .ok (.iload_n 1, 1) := by decide +kernel
theorem dL_number_52 : decode cL_number 52 = .ok (.bipush 10, 2) := by decide +kernel
theorem dL_number_54 : decode cL_number 54 = .ok (.irem, 1) := by decide +kernel
theorem dL_number_55 : decode cL_number 55 = .ok (.iadd, 1) := by decide +kernel
theorem dL_number_56 : decode cL_number 56 = .ok (.i2c, 1) := by decide +kernel
theorem dL_number_57 : decode cL_number 57 = .ok (.invokevirtual 29, 3) := by decide +kernel
theorem dL_number_60 : decode cL_number 60 = .ok (.pop, 1) := by decide +kernel
theorem dL_number_61 : decode cL_number 61 = .ok (.return_, 1) := by decide +kernel
theorem dL_word_0 : decode cL_word 0 = .ok (.aload_n 0, 1) := by decide +kernel
theorem dL_word_1 : decode cL_word 1 = .ok (.invokevirtual 15, 3) := by decide +kernel
theorem dL_word_4 : decode cL_word 4 = .ok (.pop, 1) := by decide +kernel
theorem dL_word_5 : decode cL_word 5 = .ok (.aload_n 0, 1) := by decide +kernel
theorem dL_word_6 : decode cL_word 6 = .ok (.iload_n 1, 1) := by decide +kernel
theorem dL_word_7 : decode cL_word 7 = .ok (.ifCond .ne 8, 3) := by decide +kernel
theorem dL_word_10 : decode cL_word 10 = .ok (.bipush 109, 2) := by decide +kernel
theorem dL_word_12 : decode cL_word 12 = .ok (.goto 25, 3) := by decide +kernel
theorem dL_word_15 : decode cL_word 15 = .ok (.iload_n 1, 1) := by decide +kernel
theorem dL_word_16 : decode cL_word 16 = .ok (.iconst 1, 1) := by decide +kernel
theorem dL_word_17 : decode cL_word 17 = .ok (.if_icmp .ne 8, 3) := by decide +kernel
theorem dL_word_20 : decode cL_word 20 = .ok (.bipush 104, 2) := by decide +kernel
theorem dL_word_22 : decode cL_word 22 = .ok (.goto 15, 3) := by decide +kernel
theorem dL_word_25 : decode cL_word 25 = .ok (.iload_n 1, 1) := by decide +kernel
theorem dL_word_26 : decode cL_word 26 = .ok (.iconst 2, 1) := by decide +kernel
theorem dL_word_27 : decode cL_word 27 = .ok (.if_icmp .ne 8, 3) := by decide +kernel
theorem dL_word_30 : decode cL_word 30 = .ok (.bipush 114, 2) := by decide +kernel
theorem dL_word_32 : decode cL_word 32 = .ok (.goto 5, 3) := by decide +kernel
theorem dL_word_35 : decode cL_word 35 = .ok (.bipush 115, 2) := by decide +kernel
theorem dL_word_37 : decode cL_word 37 = .ok (.invokevirtual 29, 3) := by decide +kernel
theorem dL_word_40 : decode cL_word 40 = .ok (.pop, 1) := by decide +kernel
theorem dL_word_41 : decode cL_word 41 = .ok (.aload_n 0, 1) := by decide +kernel
theorem dL_word_42 : decode cL_word 42 = .ok (.iload_n 1, 1) := by decide +kernel
theorem dL_word_43 : decode cL_word 43 = .ok (.ifCond .ne 8, 3) := by decide +kernel
theorem dL_word_46 : decode cL_word 46 = .ok (.bipush 101, 2) := by decide +kernel
theorem dL_word_48 : decode cL_word 48 = .ok (.goto 25, 3) := by decide +kernel
theorem dL_word_51 : decode cL_word 51 = .ok (.iload_n 1, 1) := by decide +kernel
theorem dL_word_52 : decode cL_word 52 = .ok (.iconst 1, 1) := by decide +kernel
theorem dL_word_53 : decode cL_word 53 = .ok (.if_icmp .ne 8, 3) := by decide +kernel
theorem dL_word_56 : decode cL_word 56 = .ok (.bipush 97, 2) := by decide +kernel
theorem dL_word_58 : decode cL_word 58 = .ok (.goto 15, 3) := by decide +kernel
theorem dL_word_61 : decode cL_word 61 = .ok (.iload_n 1, 1) := by decide +kernel
theorem dL_word_62 : decode cL_word 62 = .ok (.iconst 2, 1) := by decide +kernel
theorem dL_word_63 : decode cL_word 63 = .ok (.if_icmp .ne 8, 3) := by decide +kernel
theorem dL_word_66 : decode cL_word 66 = .ok (.bipush 105, 2) := by decide +kernel
theorem dL_word_68 : decode cL_word 68 = .ok (.goto 5, 3) := by decide +kernel
theorem dL_word_71 : decode cL_word 71 = .ok (.bipush 112, 2) := by decide +kernel
theorem dL_word_73 : decode cL_word 73 = .ok (.invokevirtual 29, 3) := by decide +kernel
theorem dL_word_76 : decode cL_word 76 = .ok (.pop, 1) := by decide +kernel
theorem dL_word_77 : decode cL_word 77 = .ok (.aload_n 0, 1) := by decide +kernel
theorem dL_word_78 : decode cL_word 78 = .ok (.iload_n 1, 1) := by decide +kernel
theorem dL_word_79 : decode cL_word 79 = .ok (.ifCond .ne 8, 3) := by decide +kernel
theorem dL_word_82 : decode cL_word 82 = .ok (.bipush 97, 2) := by decide +kernel
theorem dL_word_84 : decode cL_word 84 = .ok (.goto 25, 3) := by decide +kernel
theorem dL_word_87 : decode cL_word 87 = .ok (.iload_n 1, 1) := by decide +kernel
theorem dL_word_88 : decode cL_word 88 = .ok (.iconst 1, 1) := by decide +kernel
theorem dL_word_89 : decode cL_word 89 = .ok (.if_icmp .ne 8, 3) := by decide +kernel
theorem dL_word_92 : decode cL_word 92 = .ok (.bipush 110, 2) := by decide +kernel
theorem dL_word_94 : decode cL_word 94 = .ok (.goto 15, 3) := by decide +kernel
theorem dL_word_97 : decode cL_word 97 = .ok (.iload_n 1, 1) := by decide +kernel
theorem dL_word_98 : decode cL_word 98 = .ok (.iconst 2, 1) := by decide +kernel
theorem dL_word_99 : decode cL_word 99 = .ok (.if_icmp .ne 8, 3) := by decide +kernel
theorem dL_word_102 : decode cL_word 102 = .ok (.bipush 118, 2) := by decide +kernel
theorem dL_word_104 : decode cL_word 104 = .ok (.goto 5, 3) := by decide +kernel
theorem dL_word_107 : decode cL_word 107 = .ok (.bipush 97, 2) := by decide +kernel
theorem dL_word_109 : decode cL_word 109 = .ok (.invokevirtual 29, 3) := by decide +kernel
theorem dL_word_112 : decode cL_word 112 = .ok (.pop, 1) := by decide +kernel
theorem dL_word_113 : decode cL_word 113 = .ok (.aload_n 0, 1) := by decide +kernel
theorem dL_word_114 : decode cL_word 114 = .ok (.iload_n 1, 1) := by decide +kernel
theorem dL_word_115 : decode cL_word 115 = .ok (.ifCond .ne 8, 3) := by decide +kernel
theorem dL_word_118 : decode cL_word 118 = .ok (.bipush 115, 2) := by decide +kernel
theorem dL_word_120 : decode cL_word 120 = .ok (.goto 25, 3) := by decide +kernel
theorem dL_word_123 : decode cL_word 123 = .ok (.iload_n 1, 1) := by decide +kernel
theorem dL_word_124 : decode cL_word 124 = .ok (.iconst 1, 1) := by decide +kernel
theorem dL_word_125 : decode cL_word 125 = .ok (.if_icmp .ne 8, 3) := by decide +kernel
theorem dL_word_128 : decode cL_word 128 = .ok (.bipush 103, 2) := by decide +kernel
theorem dL_word_130 : decode cL_word 130 = .ok (.goto 15, 3) := by decide +kernel
theorem dL_word_133 : decode cL_word 133 = .ok (.iload_n 1, 1) := by decide +kernel
theorem dL_word_134 : decode cL_word 134 = .ok (.iconst 2, 1) := by decide +kernel
theorem dL_word_135 : decode cL_word 135 = .ok (.if_icmp .ne 8, 3) := by decide +kernel
theorem dL_word_138 : decode cL_word 138 = .ok (.bipush 101, 2) := by decide +kernel
theorem dL_word_140 : decode cL_word 140 = .ok (.goto 5, 3) := by decide +kernel
theorem dL_word_143 : decode cL_word 143 = .ok (.bipush 99, 2) := by decide +kernel
theorem dL_word_145 : decode cL_word 145 = .ok (.invokevirtual 29, 3) := by decide +kernel
theorem dL_word_148 : decode cL_word 148 = .ok (.pop, 1) := by decide +kernel
theorem dL_word_149 : decode cL_word 149 = .ok (.iload_n 1, 1) := by decide +kernel
theorem dL_word_150 : decode cL_word 150 = .ok (.ifCond .ne 27, 3) := by decide +kernel
theorem dL_word_153 : decode cL_word 153 = .ok (.aload_n 0, 1) := by decide +kernel
theorem dL_word_154 : decode cL_word 154 = .ok (.bipush 117, 2) := by decide +kernel
theorem dL_word_156 : decode cL_word 156 = .ok (.invokevirtual 29, 3) := by decide +kernel
theorem dL_word_159 : decode cL_word 159 = .ok (.pop, 1) := by decide +kernel
theorem dL_word_160 : decode cL_word 160 = .ok (.aload_n 0, 1) := by decide +kernel
theorem dL_word_161 : decode cL_word 161 = .ok (.bipush 114, 2) := by decide +kernel
theorem dL_word_163 : decode cL_word 163 = .ok (.invokevirtual 29, 3) := by decide +kernel
theorem dL_word_166 : decode cL_word 166 = .ok (.pop, 1) := by decide +kernel
theorem dL_word_167 : decode cL_word 167 = .ok (.aload_n 0, 1) := by decide +kernel
theorem dL_word_168 : decode cL_word 168 = .ok (.bipush 101, 2) := by decide +kernel
theorem dL_word_170 : decode cL_word 170 = .ok (.invokevirtual 29, 3) := by decide +kernel
theorem dL_word_173 : decode cL_word 173 = .ok (.pop, 1) := by decide +kernel
theorem dL_word_174 : decode cL_word 174 = .ok (.goto 25, 3) := by decide +kernel
theorem dL_word_177 : decode cL_word 177 = .ok (.iload_n 1, 1) := by decide +kernel
theorem dL_word_178 : decode cL_word 178 = .ok (.iconst 1, 1) := by decide +kernel
theorem dL_word_179 : decode cL_word 179 = .ok (.if_icmp .le 20, 3) := by decide +kernel
theorem dL_word_182 : decode cL_word 182 = .ok (.aload_n 0, 1) := by decide +kernel
theorem dL_word_183 : decode cL_word 183 = .ok (.iload_n 1, 1) := by decide +kernel
theorem dL_word_184 : decode cL_word 184 = .ok (.iconst 2, 1) := by decide +kernel
theorem dL_word_185 : decode cL_word 185 = .ok (.if_icmp .ne 8, 3) := by decide +kernel
theorem dL_word_188 : decode cL_word 188 = .ok (.bipush 114, 2) := by decide +kernel
theorem dL_word_190 : decode cL_word 190 = .ok (.goto 5, 3) := by decide +kernel
theorem dL_word_193 : decode cL_word 193 = .ok (.bipush 101, 2) := by decide +kernel
theorem dL_word_195 : decode cL_word 195 = .ok (.invokevirtual 29, 3) := by decide +kernel
theorem dL_word_198 : decode cL_word 198 = .ok (.pop, 1) := by decide +kernel
theorem dL_word_199 : decode cL_word 199 = .ok (.return_, 1) := by decide +kernel
theorem dL_commands_0 : decode cL_commands 0 = .ok (.iload_n 1, 1) := by decide +kernel
theorem dL_commands_1 : decode cL_commands 1 = .ok (.iconst 4, 1) := by decide +kernel
theorem dL_commands_2 : decode cL_commands 2 = .ok (.invokestatic 9, 3) := by decide +kernel
theorem dL_commands_5 : decode cL_commands 5 = .ok (.istore_n 3, 1) := by decide +kernel
theorem dL_commands_6 : decode cL_commands 6 = .ok (.iload_n 3, 1) := by decide +kernel
theorem dL_commands_7 : decode cL_commands 7 = .ok (.ifCond .ne 8, 3) := by decide +kernel
theorem dL_commands_10 : decode cL_commands 10 = .ok (.bipush 7, 2) := by decide +kernel
theorem dL_commands_12 : decode cL_commands 12 = .ok (.goto 13, 3) := by decide +kernel
theorem dL_commands_15 : decode cL_commands 15 = .ok (.iload_n 3, 1) := by decide +kernel
theorem dL_commands_16 : decode cL_commands 16 = .ok (.iconst 1, 1) := by decide +kernel
theorem dL_commands_17 : decode cL_commands 17 = .ok (.if_icmp .ne 7, 3) := by decide +kernel
theorem dL_commands_20 : decode cL_commands 20 = .ok (.iconst 4, 1) := by decide +kernel
theorem dL_commands_21 : decode cL_commands 21 = .ok (.goto 4, 3) := by decide +kernel
theorem dL_commands_24 : decode cL_commands 24 = .ok (.iconst 5, 1) := by decide +kernel
theorem dL_commands_25 : decode cL_commands 25 = .ok (.istore 4, 2) := by decide +kernel
theorem dL_commands_27 : decode cL_commands 27 = .ok (.aload_n 0, 1) := by decide +kernel
theorem dL_commands_28 : decode cL_commands 28 = .ok (.iload_n 3, 1) := by decide +kernel
theorem dL_commands_29 : decode cL_commands 29 = .ok (.invokestatic 78, 3) := by decide +kernel
theorem dL_commands_32 : decode cL_commands 32 = .ok (.aload_n 0, 1) := by decide +kernel
theorem dL_commands_33 : decode cL_commands 33 = .ok (.invokevirtual 81, 3) := by decide +kernel
theorem dL_commands_36 : decode cL_commands 36 = .ok (.bipush (-100), 2) := by decide +kernel
theorem dL_commands_38 : decode cL_commands 38 = .ok (.iload 4, 2) := by decide +kernel
theorem dL_commands_40 : decode cL_commands 40 = .ok (.isub, 1) := by decide +kernel
theorem dL_commands_41 : decode cL_commands 41 = .ok (.if_icmp .eq 5, 3) := by decide +kernel
theorem dL_commands_44 : decode cL_commands 44 = .ok (.iconst 0, 1) := by decide +kernel
theorem dL_commands_45 : decode cL_commands 45 = .ok (.ireturn, 1) := by decide +kernel
theorem dL_commands_46 : decode cL_commands 46 = .ok (.iload_n 3, 1) := by decide +kernel
theorem dL_commands_47 : decode cL_commands 47 = .ok (.iconst 3, 1) := by decide +kernel
theorem dL_commands_48 : decode cL_commands 48 = .ok (.if_icmp .ne 233, 3) := by decide +kernel
theorem dL_commands_51 : decode cL_commands 51 = .ok (.aload_n 0, 1) := by decide +kernel
theorem dL_commands_52 : decode cL_commands 52 = .ok (.bipush 32, 2) := by decide +kernel
theorem dL_commands_54 : decode cL_commands 54 = .ok (.invokevirtual 29, 3) := by decide +kernel
theorem dL_commands_57 : decode cL_commands 57 = .ok (.pop, 1) := by decide +kernel
theorem dL_commands_58 : decode cL_commands 58 = .ok (.aload_n 0, 1) := by decide +kernel
theorem dL_commands_59 : decode cL_commands 59 = .ok (.bipush 119, 2) := by decide +kernel
theorem dL_commands_61 : decode cL_commands 61 = .ok (.invokevirtual 29, 3) := by decide +kernel
theorem dL_commands_64 : decode cL_commands 64 = .ok (.pop, 1) := by decide +kernel
theorem dL_commands_65 : decode cL_commands 65 = .ok (.aload_n 0, 1) := by decide +kernel
theorem dL_commands_66 : decode cL_commands 66 = .ok (.bipush 111, 2) := by decide +kernel
theorem dL_commands_68 : decode cL_commands 68 = .ok (.invokevirtual 29, 3) := by decide +kernel
theorem dL_commands_71 : decode cL_commands 71 = .ok (.pop, 1) := by decide +kernel
theorem dL_commands_72 : decode cL_commands 72 = .ok (.aload_n 0, 1) := by decide +kernel
theorem dL_commands_73 : decode cL_commands 73 = .ok (.bipush 114, 2) := by decide +kernel
theorem dL_commands_75 : decode cL_commands 75 = .ok (.invokevirtual 29, 3) := by decide +kernel
theorem dL_commands_78 : decode cL_commands 78 = .ok (.pop, 1) := by decide +kernel
theorem dL_commands_79 : decode cL_commands 79 = .ok (.aload_n 0, 1) := by decide +kernel
theorem dL_commands_80 : decode cL_commands 80 = .ok (.invokevirtual 81, 3) := by decide +kernel
theorem dL_commands_83 : decode cL_commands 83 = .ok (.bipush (-106), 2) := by decide +kernel
theorem dL_commands_85 : decode cL_commands 85 = .ok (.if_icmp .eq 5, 3) := by decide +kernel
theorem dL_commands_88 : decode cL_commands 88 = .ok (.iconst 0, 1) := by decide +kernel
theorem dL_commands_89 : decode cL_commands 89 = .ok (.ireturn, 1) := by decide +kernel
theorem dL_commands_90 : decode cL_commands 90 = .ok (.aload_n 0, 1) := by decide +kernel
theorem dL_commands_91 : decode cL_commands 91 = .ok (.bipush 100, 2) := by decide +kernel
theorem dL_commands_93 : decode cL_commands 93 = .ok (.invokevirtual 29, 3) := by decide +kernel
theorem dL_commands_96 : decode cL_commands 96 = .ok (.pop, 1) := by decide +kernel
theorem dL_commands_97 : decode cL_commands 97 = .ok (.iconst 1, 1) := by decide +kernel
theorem dL_commands_98 : decode cL_commands 98 = .ok (.iload_n 2, 1) := by decide +kernel
theorem dL_commands_99 : decode cL_commands 99 = .ok (.iconst 3, 1) := by decide +kernel
theorem dL_commands_100 : decode cL_commands 100 = .ok (.invokestatic 9, 3) := by decide +kernel
theorem dL_commands_103 : decode cL_commands 103 = .ok (.iadd, 1) := by decide +kernel
theorem dL_commands_104 : decode cL_commands 104 = .ok (.istore 5, 2) := by decide +kernel
theorem dL_commands_106 : decode cL_commands 106 = .ok (.iload 5, 2) := by decide +kernel
theorem dL_commands_108 : decode cL_commands 108 = .ok (.iload_n 2, 1) := by decide +kernel
theorem dL_commands_109 : decode cL_commands 109 = .ok (.iconst 4, 1) := by decide +kernel
theorem dL_commands_110 : decode cL_commands 110 = .ok (.ishr, 1) := by decide +kernel
theorem dL_commands_111 : decode cL_commands 111 = .ok (.iconst 3, 1) := by decide +kernel
theorem dL_commands_112 : decode cL_commands 112 = .ok (.invokestatic 9, 3) := by decide +kernel
theorem dL_commands_115 : decode cL_commands 115 = .ok (.iadd, 1) := by decide +kernel
theorem dL_commands_116 : decode cL_commands 116 = .ok (.istore 6, 2) := by decide +kernel
theorem dL_commands_118 : decode cL_commands 118 = .ok (.iload 6, 2) := by decide +kernel
theorem dL_commands_120 : decode cL_commands 120 = .ok (.iload_n 2, 1) := by decide +kernel
theorem dL_commands_121 : decode cL_commands 121 = .ok (.bipush 8, 2) := by decide +kernel
theorem dL_commands_123 : decode cL_commands 123 = .ok (.ishr, 1) := by decide +kernel
theorem dL_commands_124 : decode cL_commands 124 = .ok (.iconst 4, 1) := by decide +kernel
theorem dL_commands_125 : decode cL_commands 125 = .ok (.invokestatic 9, 3) := by decide +kernel
theorem dL_commands_128 : decode cL_commands 128 = .ok (.iadd, 1) := by decide +kernel
theorem dL_commands_129 : decode cL_commands 129 = .ok (.istore 7, 2) := by decide +kernel
theorem dL_commands_131 : decode cL_commands 131 = .ok (.aload_n 0, 1) := by decide +kernel
theorem dL_commands_132 : decode cL_commands 132 = .ok (.iload 5, 2) := by decide +kernel
theorem dL_commands_134 : decode cL_commands 134 = .ok (.invokestatic 84, 3) := by decide +kernel
theorem dL_commands_137 : decode cL_commands 137 = .ok (.aload_n 0, 1) := by decide +kernel
theorem dL_commands_138 : decode cL_commands 138 = .ok (.iload 6, 2) := by decide +kernel
theorem dL_commands_140 : decode cL_commands 140 = .ok (.invokestatic 84, 3) := by decide +kernel
theorem dL_commands_143 : decode cL_commands 143 = .ok (.aload_n 0, 1) := by decide +kernel
theorem dL_commands_144 : decode cL_commands 144 = .ok (.invokevirtual 81, 3) := by decide +kernel
theorem dL_commands_147 : decode cL_commands 147 = .ok (.bipush (-111), 2) := by decide +kernel
theorem dL_commands_149 : decode cL_commands 149 = .ok (.if_icmp .le 5, 3) := by decide +kernel
theorem dL_commands_152 : decode cL_commands 152 = .ok (.iconst 0, 1) := by decide +kernel
theorem dL_commands_153 : decode cL_commands 153 = .ok (.ireturn, 1) := by decide +kernel
theorem dL_commands_154 : decode cL_commands 154 = .ok (.aload_n 0, 1) := by decide +kernel
theorem dL_commands_155 : decode cL_commands 155 = .ok (.iload 7, 2) := by decide +kernel
theorem dL_commands_157 : decode cL_commands 157 = .ok (.invokestatic 84, 3) := by decide +kernel
theorem dL_commands_160 : decode cL_commands 160 = .ok (.aload_n 0, 1) := by decide +kernel
theorem dL_commands_161 : decode cL_commands 161 = .ok (.invokevirtual 81, 3) := by decide +kernel
theorem dL_commands_164 : decode cL_commands 164 = .ok (.istore 8, 2) := by decide +kernel
theorem dL_commands_166 : decode cL_commands 166 = .ok (.iload 8, 2) := by decide +kernel
theorem dL_commands_168 : decode cL_commands 168 = .ok (.aload_n 0, 1) := by decide +kernel
theorem dL_commands_169 : decode cL_commands 169 = .ok (.iconst 1, 1) := by decide +kernel
theorem dL_commands_170 : decode cL_commands 170 = .ok (.invokevirtual 36, 3) := by decide +kernel
theorem dL_commands_173 : decode cL_commands 173 = .ok (.if_icmp .ne 106, 3) := by decide +kernel
theorem dL_commands_176 : decode cL_commands 176 = .ok (.aload_n 0, 1) := by decide +kernel
theorem dL_commands_177 : decode cL_commands 177 = .ok (.iconst 0, 1) := by decide +kernel
theorem dL_commands_178 : decode cL_commands 178 = .ok (.iconst 0, 1) := by decide +kernel
theorem dL_commands_179 : decode cL_commands 179 = .ok (.invokevirtual 53, 3) := by decide +kernel
theorem dL_commands_182 : decode cL_commands 182 = .ok (.iload 5, 2) := by decide +kernel
theorem dL_commands_184 : decode cL_commands 184 = .ok (.if_icmp .ne 95, 3) := by decide +kernel
theorem dL_commands_187 : decode cL_commands 187 = .ok (.aload_n 0, 1) := by decide +kernel
theorem dL_commands_188 : decode cL_commands 188 = .ok (.iconst 0, 1) := by decide +kernel
theorem dL_commands_189 : decode cL_commands 189 = .ok (.iconst 1, 1) := by decide +kernel
theorem dL_commands_190 : decode cL_commands 190 = .ok (.invokevirtual 53, 3) := by decide +kernel
theorem dL_commands_193 : decode cL_commands 193 = .ok (.iload 6, 2) := by decide +kernel
theorem dL_commands_195 : decode cL_commands 195 = .ok (.if_icmp .ne 84, 3) := by decide +kernel
theorem dL_commands_198 : decode cL_commands 198 = .ok (.aload_n 0, 1) := by decide +kernel
theorem dL_commands_199 : decode cL_commands 199 = .ok (.iconst 0, 1) := by decide +kernel
theorem dL_commands_200 : decode cL_commands 200 = .ok (.iconst 2, 1) := by decide +kernel
theorem dL_commands_201 : decode cL_commands 201 = .ok (.invokevirtual 53, 3) := by decide +kernel
theorem dL_commands_204 : decode cL_commands 204 = .ok (.iload 7, 2) := by decide +kernel
theorem dL_commands_206 : decode cL_commands 206 = .ok (.if_icmp .ne 73, 3) := by decide +kernel
theorem dL_commands_209 : decode cL_commands 209 = .ok (.aload_n 0, 1) := by decide +kernel
theorem dL_commands_210 : decode cL_commands 210 = .ok (.iconst 0, 1) := by decide +kernel
theorem dL_commands_211 : decode cL_commands 211 = .ok (.iconst 2, 1) := by decide +kernel
theorem dL_commands_212 : decode cL_commands 212 = .ok (.iconst 1, 1) := by decide +kernel
theorem dL_commands_213 : decode cL_commands 213 = .ok (.iconst 5, 1) := by decide +kernel
theorem dL_commands_214 : decode cL_commands 214 = .ok (.invokevirtual 87, 3) := by decide +kernel
theorem dL_commands_217 : decode cL_commands 217 = .ok (.sipush (-1002), 3) := by decide +kernel
theorem dL_commands_220 : decode cL_commands 220 = .ok (.if_icmp .ne 59, 3) := by decide +kernel
theorem dL_commands_223 : decode cL_commands 223 = .ok (.aload_n 0, 1) := by decide +kernel
theorem dL_commands_224 : decode cL_commands 224 = .ok (.iconst 3, 1) := by decide +kernel
theorem dL_commands_225 : decode cL_commands 225 = .ok (.iconst 1, 1) := by decide +kernel
theorem dL_commands_226 : decode cL_commands 226 = .ok (.iconst 1, 1) := by decide +kernel
theorem dL_commands_227 : decode cL_commands 227 = .ok (.iconst 1, 1) := by decide +kernel
theorem dL_commands_228 : decode cL_commands 228 = .ok (.invokevirtual 87, 3) := by decide +kernel
theorem dL_commands_231 : decode cL_commands 231 = .ok (.sipush (-1001), 3) := by decide +kernel
theorem dL_commands_234 : decode cL_commands 234 = .ok (.if_icmp .ne 45, 3) := by decide +kernel
theorem dL_commands_237 : decode cL_commands 237 = .ok (.aload_n 0, 1) := by decide +kernel
theorem dL_commands_238 : decode cL_commands 238 = .ok (.iconst 1, 1) := by decide +kernel
theorem dL_commands_239 : decode cL_commands 239 = .ok (.iconst 0, 1) := by decide +kernel
theorem dL_commands_240 : decode cL_commands 240 = .ok (.iconst 1, 1) := by decide +kernel
theorem dL_commands_241 : decode cL_commands 241 = .ok (.iconst 1, 1) := by decide +kernel
theorem dL_commands_242 : decode cL_commands 242 = .ok (.invokevirtual 87, 3) := by decide +kernel
theorem dL_commands_245 : decode cL_commands 245 = .ok (.sipush (-1002), 3) := by decide +kernel
theorem dL_commands_248 : decode cL_commands 248 = .ok (.if_icmp .ne 31, 3) := by decide +kernel
theorem dL_commands_251 : decode cL_commands 251 = .ok (.aload_n 0, 1) := by decide +kernel
theorem dL_commands_252 : decode cL_commands 252 = .ok (.iconst 3, 1) := by decide +kernel
theorem dL_commands_253 : decode cL_commands 253 = .ok (.iconst 0, 1) := by decide +kernel
theorem dL_commands_254 : decode cL_commands 254 = .ok (.invokevirtual 53, 3) := by decide +kernel
theorem dL_commands_257 : decode cL_commands 257 = .ok (.sipush (-1001), 3) := by decide +kernel
theorem dL_commands_260 : decode cL_commands 260 = .ok (.if_icmp .ne 19, 3) := by decide +kernel
theorem dL_commands_263 : decode cL_commands 263 = .ok (.aload_n 0, 1) := by decide +kernel
theorem dL_commands_264 : decode cL_commands 264 = .ok (.iconst 0, 1) := by decide +kernel
theorem dL_commands_265 : decode cL_commands 265 = .ok (.iconst 3, 1) := by decide +kernel
theorem dL_commands_266 : decode cL_commands 266 = .ok (.invokevirtual 53, 3) := by decide +kernel
theorem dL_commands_269 : decode cL_commands 269 = .ok (.sipush (-1002), 3) := by decide +kernel
theorem dL_commands_272 : decode cL_commands 272 = .ok (.if_icmp .ne 7, 3) := by decide +kernel
theorem dL_commands_275 : decode cL_commands 275 = .ok (.iconst 1, 1) := by decide +kernel
theorem dL_commands_276 : decode cL_commands 276 = .ok (.goto 4, 3) := by decide +kernel
theorem dL_commands_279 : decode cL_commands 279 = .ok (.iconst 0, 1) := by decide +kernel
theorem dL_commands_280 : decode cL_commands 280 = .ok (.ireturn, 1) := by decide +kernel
theorem dL_commands_281 : decode cL_commands 281 = .ok (.iload_n 3, 1) := by decide +kernel
theorem dL_commands_282 : decode cL_commands 282 = .ok (.ifCond .ne 9, 3) := by decide +kernel
theorem dL_commands_285 : decode cL_commands 285 = .ok (.sipush 200, 3) := by decide +kernel
theorem dL_commands_288 : decode cL_commands 288 = .ok (.goto 15, 3) := by decide +kernel
theorem dL_commands_291 : decode cL_commands 291 = .ok (.iload_n 3, 1) := by decide +kernel
theorem dL_commands_292 : decode cL_commands 292 = .ok (.iconst 1, 1) := by decide +kernel
theorem dL_commands_293 : decode cL_commands 293 = .ok (.if_icmp .ne 8, 3) := by decide +kernel
theorem dL_commands_296 : decode cL_commands 296 = .ok (.bipush 100, 2) := by decide +kernel
theorem dL_commands_298 : decode cL_commands 298 = .ok (.goto 5, 3) := by decide +kernel
theorem dL_commands_301 : decode cL_commands 301 = .ok (.bipush 20, 2) := by decide +kernel
theorem dL_commands_303 : decode cL_commands 303 = .ok (.istore 5, 2) := by decide +kernel
theorem dL_commands_305 : decode cL_commands 305 = .ok (.iload_n 3, 1) := by decide +kernel
theorem dL_commands_306 : decode cL_commands 306 = .ok (.ifCond .ne 16, 3) := by decide +kernel
theorem dL_commands_309 : decode cL_commands 309 = .ok (.bipush 10, 2) := by decide +kernel
theorem dL_commands_311 : decode cL_commands 311 = .ok (.iload_n 2, 1) := by decide +kernel
theorem dL_commands_312 : decode cL_commands 312 = .ok (.sipush 191, 3) := by decide +kernel
theorem dL_commands_315 : decode cL_commands 315 = .ok (.invokestatic 9, 3) := by decide +kernel
theorem dL_commands_318 : decode cL_commands 318 = .ok (.iadd, 1) := by decide +kernel
theorem dL_commands_319 : decode cL_commands 319 = .ok (.goto 11, 3) := by decide +kernel
theorem dL_commands_322 : decode cL_commands 322 = .ok (.iload_n 2, 1) := by decide +kernel
theorem dL_commands_323 : decode cL_commands 323 = .ok (.iload 5, 2) := by decide +kernel
theorem dL_commands_325 : decode cL_commands 325 = .ok (.iconst 1, 1) := by decide +kernel
theorem dL_commands_326 : decode cL_commands 326 = .ok (.iadd, 1) := by decide +kernel
theorem dL_commands_327 : decode cL_commands 327 = .ok (.invokestatic 9, 3) := by decide +kernel
theorem dL_commands_330 : decode cL_commands 330 = .ok (.istore 6, 2) := by decide +kernel
theorem dL_commands_332 : decode cL_commands 332 = .ok (.aload_n 0, 1) := by decide +kernel
theorem dL_commands_333 : decode cL_commands 333 = .ok (.bipush 7, 2) := by decide +kernel
theorem dL_commands_335 : decode cL_commands 335 = .ok (.iload_n 3, 1) := by decide +kernel
theorem dL_commands_336 : decode cL_commands 336 = .ok (.iadd, 1) := by decide +kernel
theorem dL_commands_337 : decode cL_commands 337 = .ok (.invokevirtual 36, 3) := by decide +kernel
theorem dL_commands_340 : decode cL_commands 340 = .ok (.istore 7, 2) := by decide +kernel
theorem dL_commands_342 : decode cL_commands 342 = .ok (.aload_n 0, 1) := by decide +kernel
theorem dL_commands_343 : decode cL_commands 343 = .ok (.iload 5, 2) := by decide +kernel
theorem dL_commands_345 : decode cL_commands 345 = .ok (.iconst 1, 1) := by decide +kernel
theorem dL_commands_346 : decode cL_commands 346 = .ok (.iadd, 1) := by decide +kernel
theorem dL_commands_347 : decode cL_commands 347 = .ok (.invokestatic 84, 3) := by decide +kernel
theorem dL_commands_350 : decode cL_commands 350 = .ok (.aload_n 0, 1) := by decide +kernel
theorem dL_commands_351 : decode cL_commands 351 = .ok (.invokevirtual 81, 3) := by decide +kernel
theorem dL_commands_354 : decode cL_commands 354 = .ok (.bipush (-101), 2) := by decide +kernel
theorem dL_commands_356 : decode cL_commands 356 = .ok (.iload 4, 2) := by decide +kernel
theorem dL_commands_358 : decode cL_commands 358 = .ok (.isub, 1) := by decide +kernel
theorem dL_commands_359 : decode cL_commands 359 = .ok (.if_icmp .ne 16, 3) := by decide +kernel
theorem dL_commands_362 : decode cL_commands 362 = .ok (.aload_n 0, 1) := by decide +kernel
theorem dL_commands_363 : decode cL_commands 363 = .ok (.bipush 7, 2) := by decide +kernel
theorem dL_commands_365 : decode cL_commands 365 = .ok (.iload_n 3, 1) := by decide +kernel
theorem dL_commands_366 : decode cL_commands 366 = .ok (.iadd, 1) := by decide +kernel
theorem dL_commands_367 : decode cL_commands 367 = .ok (.invokevirtual 36, 3) := by decide +kernel
theorem dL_commands_370 : decode cL_commands 370 = .ok (.iload 7, 2) := by decide +kernel
theorem dL_commands_372 : decode cL_commands 372 = .ok (.if_icmp .eq 5, 3) := by decide +kernel
theorem dL_commands_375 : decode cL_commands 375 = .ok (.iconst 0, 1) := by decide +kernel
theorem dL_commands_376 : decode cL_commands 376 = .ok (.ireturn, 1) := by decide +kernel
theorem dL_commands_377 : decode cL_commands 377 = .ok (.aload_n 0, 1) := by decide +kernel
theorem dL_commands_378 : decode cL_commands 378 = .ok (.iload_n 3, 1) := by decide +kernel
theorem dL_commands_379 : decode cL_commands 379 = .ok (.invokestatic 78, 3) := by decide +kernel
theorem dL_commands_382 : decode cL_commands 382 = .ok (.aload_n 0, 1) := by decide +kernel
theorem dL_commands_383 : decode cL_commands 383 = .ok (.iload 6, 2) := by decide +kernel
theorem dL_commands_385 : decode cL_commands 385 = .ok (.invokestatic 84, 3) := by decide +kernel
theorem dL_commands_388 : decode cL_commands 388 = .ok (.aload_n 0, 1) := by decide +kernel
theorem dL_commands_389 : decode cL_commands 389 = .ok (.invokevirtual 81, 3) := by decide +kernel
theorem dL_commands_392 : decode cL_commands 392 = .ok (.istore 8, 2) := by decide +kernel
theorem dL_commands_394 : decode cL_commands 394 = .ok (.iload 8, 2) := by decide +kernel
theorem dL_commands_396 : decode cL_commands 396 = .ok (.aload_n 0, 1) := by decide +kernel
theorem dL_commands_397 : decode cL_commands 397 = .ok (.iconst 1, 1) := by decide +kernel
theorem dL_commands_398 : decode cL_commands 398 = .ok (.invokevirtual 36, 3) := by decide +kernel
theorem dL_commands_401 : decode cL_commands 401 = .ok (.if_icmp .ne 16, 3) := by decide +kernel
theorem dL_commands_404 : decode cL_commands 404 = .ok (.aload_n 0, 1) := by decide +kernel
theorem dL_commands_405 : decode cL_commands 405 = .ok (.bipush 7, 2) := by decide +kernel
theorem dL_commands_407 : decode cL_commands 407 = .ok (.iload_n 3, 1) := by decide +kernel
theorem dL_commands_408 : decode cL_commands 408 = .ok (.iadd, 1) := by decide +kernel
theorem dL_commands_409 : decode cL_commands 409 = .ok (.invokevirtual 36, 3) := by decide +kernel
theorem dL_commands_412 : decode cL_commands 412 = .ok (.iload 6, 2) := by decide +kernel
theorem dL_commands_414 : decode cL_commands 414 = .ok (.if_icmp .eq 5, 3) := by decide +kernel
theorem dL_commands_417 : decode cL_commands 417 = .ok (.iconst 0, 1) := by decide +kernel
theorem dL_commands_418 : decode cL_commands 418 = .ok (.ireturn, 1) := by decide +kernel
theorem dL_commands_419 : decode cL_commands 419 = .ok (.aload_n 0, 1) := by decide +kernel
theorem dL_commands_420 : decode cL_commands 420 = .ok (.bipush 32, 2) := by decide +kernel
theorem dL_commands_422 : decode cL_commands 422 = .ok (.invokevirtual 29, 3) := by decide +kernel
theorem dL_commands_425 : decode cL_commands 425 = .ok (.pop, 1) := by decide +kernel
theorem dL_commands_426 : decode cL_commands 426 = .ok (.iload 6, 2) := by decide +kernel
theorem dL_commands_428 : decode cL_commands 428 = .ok (.bipush 99, 2) := by decide +kernel
theorem dL_commands_430 : decode cL_commands 430 = .ok (.if_icmp .le 7, 3) := by decide +kernel
theorem dL_commands_433 : decode cL_commands 433 = .ok (.iconst 3, 1) := by decide +kernel
theorem dL_commands_434 : decode cL_commands 434 = .ok (.goto 15, 3) := by decide +kernel
theorem dL_commands_437 : decode cL_commands 437 = .ok (.iload 6, 2) := by decide +kernel
theorem dL_commands_439 : decode cL_commands 439 = .ok (.bipush 9, 2) := by decide +kernel
theorem dL_commands_441 : decode cL_commands 441 = .ok (.if_icmp .le 7, 3) := by decide +kernel
theorem dL_commands_444 : decode cL_commands 444 = .ok (.iconst 2, 1) := by decide +kernel
theorem dL_commands_445 : decode cL_commands 445 = .ok (.goto 4, 3) := by decide +kernel
theorem dL_commands_448 : decode cL_commands 448 = .ok (.iconst 1, 1) := by decide +kernel
theorem dL_commands_449 : decode cL_commands 449 = .ok (.istore 9, 2) := by decide +kernel
theorem dL_commands_451 : decode cL_commands 451 = .ok (.aload_n 0, 1) := by decide +kernel
theorem dL_commands_452 : decode cL_commands 452 = .ok (.invokevirtual 81, 3) := by decide +kernel
theorem dL_commands_455 : decode cL_commands 455 = .ok (.bipush (-100), 2) := by decide +kernel
theorem dL_commands_457 : decode cL_commands 457 = .ok (.iload 4, 2) := by decide +kernel
theorem dL_commands_459 : decode cL_commands 459 = .ok (.isub, 1) := by decide +kernel
theorem dL_commands_460 : decode cL_commands 460 = .ok (.iconst 1, 1) := by decide +kernel
theorem dL_commands_461 : decode cL_commands 461 = .ok (.isub, 1) := by decide +kernel
theorem dL_commands_462 : decode cL_commands 462 = .ok (.iload 9, 2) := by decide +kernel
theorem dL_commands_464 : decode cL_commands 464 = .ok (.isub, 1) := by decide +kernel
theorem dL_commands_465 : decode cL_commands 465 = .ok (.iconst 1, 1) := by decide +kernel
theorem dL_commands_466 : decode cL_commands 466 = .ok (.isub, 1) := by decide +kernel
theorem dL_commands_467 : decode cL_commands 467 = .ok (.if_icmp .eq 5, 3) := by decide +kernel
theorem dL_commands_470 : decode cL_commands 470 = .ok (.iconst 0, 1) := by decide +kernel
theorem dL_commands_471 : decode cL_commands 471 = .ok (.ireturn, 1) := by decide +kernel
theorem dL_commands_472 : decode cL_commands 472 = .ok (.iload_n 3, 1) := by decide +kernel
theorem dL_commands_473 : decode cL_commands 473 = .ok (.ifCond .ne 12, 3) := by decide +kernel
theorem dL_commands_476 : decode cL_commands 476 = .ok (.aload_n 0, 1) := by decide +kernel
theorem dL_commands_477 : decode cL_commands 477 = .ok (.iload 7, 2) := by decide +kernel
theorem dL_commands_479 : decode cL_commands 479 = .ok (.invokevirtual 91, 3) := by decide +kernel
theorem dL_commands_482 : decode cL_commands 482 = .ok (.goto 23, 3) := by decide +kernel
theorem dL_commands_485 : decode cL_commands 485 = .ok (.iload_n 3, 1) := by decide +kernel
theorem dL_commands_486 : decode cL_commands 486 = .ok (.iconst 1, 1) := by decide +kernel
theorem dL_commands_487 : decode cL_commands 487 = .ok (.if_icmp .ne 12, 3) := by decide +kernel
theorem dL_commands_490 : decode cL_commands 490 = .ok (.aload_n 0, 1) := by decide +kernel
theorem dL_commands_491 : decode cL_commands 491 = .ok (.iload 7, 2) := by decide +kernel
theorem dL_commands_493 : decode cL_commands 493 = .ok (.invokevirtual 94, 3) := by decide +kernel
theorem dL_commands_496 : decode cL_commands 496 = .ok (.goto 9, 3) := by decide +kernel
theorem dL_commands_499 : decode cL_commands 499 = .ok (.aload_n 0, 1) := by decide +kernel
theorem dL_commands_500 : decode cL_commands 500 = .ok (.iload 7, 2) := by decide +kernel
theorem dL_commands_502 : decode cL_commands 502 = .ok (.invokevirtual 97, 3) := by decide +kernel
theorem dL_commands_505 : decode cL_commands 505 = .ok (.istore 10, 2) := by decide +kernel
theorem dL_commands_507 : decode cL_commands 507 = .ok (.iload 10, 2) := by decide +kernel
theorem dL_commands_509 : decode cL_commands 509 = .ok (.iload 6, 2) := by decide +kernel
theorem dL_commands_511 : decode cL_commands 511 = .ok (.if_icmp .ne 56, 3) := by decide +kernel
theorem dL_commands_514 : decode cL_commands 514 = .ok (.aload_n 0, 1) := by decide +kernel
theorem dL_commands_515 : decode cL_commands 515 = .ok (.bipush 7, 2) := by decide +kernel
theorem dL_commands_517 : decode cL_commands 517 = .ok (.iload_n 3, 1) := by decide +kernel
theorem dL_commands_518 : decode cL_commands 518 = .ok (.iadd, 1) := by decide +kernel
theorem dL_commands_519 : decode cL_commands 519 = .ok (.invokevirtual 36, 3) := by decide +kernel
theorem dL_commands_522 : decode cL_commands 522 = .ok (.iload 7, 2) := by decide +kernel
theorem dL_commands_524 : decode cL_commands 524 = .ok (.if_icmp .ne 43, 3) := by decide +kernel
theorem dL_commands_527 : decode cL_commands 527 = .ok (.aload_n 0, 1) := by decide +kernel
theorem dL_commands_528 : decode cL_commands 528 = .ok (.bipush 9, 2) := by decide +kernel
theorem dL_commands_530 : decode cL_commands 530 = .ok (.invokevirtual 91, 3) := by decide +kernel
theorem dL_commands_533 : decode cL_commands 533 = .ok (.sipush (-1002), 3) := by decide +kernel
theorem dL_commands_536 : decode cL_commands 536 = .ok (.if_icmp .ne 31, 3) := by decide +kernel
theorem dL_commands_539 : decode cL_commands 539 = .ok (.aload_n 0, 1) := by decide +kernel
theorem dL_commands_540 : decode cL_commands 540 = .ok (.bipush 101, 2) := by decide +kernel
theorem dL_commands_542 : decode cL_commands 542 = .ok (.invokevirtual 94, 3) := by decide +kernel
theorem dL_commands_545 : decode cL_commands 545 = .ok (.sipush (-1002), 3) := by decide +kernel
theorem dL_commands_548 : decode cL_commands 548 = .ok (.if_icmp .ne 19, 3) := by decide +kernel
theorem dL_commands_551 : decode cL_commands 551 = .ok (.aload_n 0, 1) := by decide +kernel
theorem dL_commands_552 : decode cL_commands 552 = .ok (.bipush 21, 2) := by decide +kernel
theorem dL_commands_554 : decode cL_commands 554 = .ok (.invokevirtual 97, 3) := by decide +kernel
theorem dL_commands_557 : decode cL_commands 557 = .ok (.sipush (-1002), 3) := by decide +kernel
theorem dL_commands_560 : decode cL_commands 560 = .ok (.if_icmp .ne 7, 3) := by decide +kernel
theorem dL_commands_563 : decode cL_commands 563 = .ok (.iconst 1, 1) := by decide +kernel
theorem dL_commands_564 : decode cL_commands 564 = .ok (.goto 4, 3) := by decide +kernel
theorem dL_commands_567 : decode cL_commands 567 = .ok (.iconst 0, 1) := by decide +kernel
theorem dL_commands_568 : decode cL_commands 568 = .ok (.ireturn, 1) := by decide +kernel
theorem dL_law_0 : decode cL_law 0 = .ok (.new 16, 3) := by decide +kernel
theorem dL_law_3 : decode cL_law 3 = .ok (.dup, 1) := by decide +kernel
theorem dL_law_4 : decode cL_law 4 = .ok (.invokespecial 100, 3) := by decide +kernel
theorem dL_law_7 : decode cL_law 7 = .ok (.astore_n 1, 1) := by decide +kernel
theorem dL_law_8 : decode cL_law 8 = .ok (.aload_n 1, 1) := by decide +kernel
theorem dL_law_9 : decode cL_law 9 = .ok (.invokevirtual 33, 3) := by decide +kernel
theorem dL_law_12 : decode cL_law 12 = .ok (.ifCond .ne 61, 3) := by decide +kernel
theorem dL_law_15 : decode cL_law 15 = .ok (.aload_n 1, 1) := by decide +kernel
theorem dL_law_16 : decode cL_law 16 = .ok (.iconst 1, 1) := by decide +kernel
theorem dL_law_17 : decode cL_law 17 = .ok (.invokevirtual 36, 3) := by decide +kernel
theorem dL_law_20 : decode cL_law 20 = .ok (.ifCond .ne 53, 3) := by decide +kernel
theorem dL_law_23 : decode cL_law 23 = .ok (.aload_n 1, 1) := by decide +kernel
theorem dL_law_24 : decode cL_law 24 = .ok (.invokevirtual 68, 3) := by decide +kernel
theorem dL_law_27 : decode cL_law 27 = .ok (.sipush (-1004), 3) := by decide +kernel
theorem dL_law_30 : decode cL_law 30 = .ok (.if_icmp .ne 43, 3) := by decide +kernel
theorem dL_law_33 : decode cL_law 33 = .ok (.aload_n 1, 1) := by decide +kernel
theorem dL_law_34 : decode cL_law 34 = .ok (.invokevirtual 81, 3) := by decide +kernel
theorem dL_law_37 : decode cL_law 37 = .ok (.bipush (-100), 2) := by decide +kernel
theorem dL_law_39 : decode cL_law 39 = .ok (.if_icmp .ne 34, 3) := by decide +kernel
theorem dL_law_42 : decode cL_law 42 = .ok (.aload_n 1, 1) := by decide +kernel
theorem dL_law_43 : decode cL_law 43 = .ok (.bipush 40, 2) := by decide +kernel
theorem dL_law_45 : decode cL_law 45 = .ok (.aload_n 0, 1) := by decide +kernel
theorem dL_law_46 : decode cL_law 46 = .ok (.iconst 0, 1) := by decide +kernel
theorem dL_law_47 : decode cL_law 47 = .ok (.invokestatic 21, 3) := by decide +kernel
theorem dL_law_50 : decode cL_law 50 = .ok (.bipush 60, 2) := by decide +kernel
theorem dL_law_52 : decode cL_law 52 = .ok (.invokestatic 9, 3) := by decide +kernel
theorem dL_law_55 : decode cL_law 55 = .ok (.iadd, 1) := by decide +kernel
theorem dL_law_56 : decode cL_law 56 = .ok (.invokevirtual 91, 3) := by decide +kernel
theorem dL_law_59 : decode cL_law 59 = .ok (.bipush 60, 2) := by decide +kernel
theorem dL_law_61 : decode cL_law 61 = .ok (.if_icmp .ne 12, 3) := by decide +kernel
theorem dL_law_64 : decode cL_law 64 = .ok (.aload_n 1, 1) := by decide +kernel
theorem dL_law_65 : decode cL_law 65 = .ok (.aload_n 0, 1) := by decide +kernel
theorem dL_law_66 : decode cL_law 66 = .ok (.iconst 1, 1) := by decide +kernel
theorem dL_law_67 : decode cL_law 67 = .ok (.invokestatic 101, 3) := by decide +kernel
theorem dL_law_70 : decode cL_law 70 = .ok (.ifCond .ne 5, 3) := by decide +kernel
theorem dL_law_73 : decode cL_law 73 = .ok (.iconst 0, 1) := by decide +kernel
theorem dL_law_74 : decode cL_law 74 = .ok (.ireturn, 1) := by decide +kernel
theorem dL_law_75 : decode cL_law 75 = .ok (.iconst 0, 1) := by decide +kernel
theorem dL_law_76 : decode cL_law 76 = .ok (.istore_n 2, 1) := by decide +kernel
theorem dL_law_77 : decode cL_law 77 = .ok (.iload_n 2, 1) := by decide +kernel
theorem dL_law_78 : decode cL_law 78 = .ok (.bipush 14, 2) := by decide +kernel
theorem dL_law_80 : decode cL_law 80 = .ok (.if_icmp .ge 211, 3) := by decide +kernel
theorem dL_law_83 : decode cL_law 83 = .ok (.aload_n 0, 1) := by decide +kernel
theorem dL_law_84 : decode cL_law 84 = .ok (.iconst 2, 1) := by decide +kernel
theorem dL_law_85 : decode cL_law 85 = .ok (.iload_n 2, 1) := by decide +kernel
theorem dL_law_86 : decode cL_law 86 = .ok (.imul, 1) := by decide +kernel
theorem dL_law_87 : decode cL_law 87 = .ok (.invokestatic 21, 3) := by decide +kernel
theorem dL_law_90 : decode cL_law 90 = .ok (.istore_n 3, 1) := by decide +kernel
theorem dL_law_91 : decode cL_law 91 = .ok (.aload_n 0, 1) := by decide +kernel
theorem dL_law_92 : decode cL_law 92 = .ok (.iconst 2, 1) := by decide +kernel
theorem dL_law_93 : decode cL_law 93 = .ok (.iload_n 2, 1) := by decide +kernel
theorem dL_law_94 : decode cL_law 94 = .ok (.imul, 1) := by decide +kernel
theorem dL_law_95 : decode cL_law 95 = .ok (.iconst 1, 1) := by decide +kernel
theorem dL_law_96 : decode cL_law 96 = .ok (.iadd, 1) := by decide +kernel
theorem dL_law_97 : decode cL_law 97 = .ok (.invokestatic 21, 3) := by decide +kernel
theorem dL_law_100 : decode cL_law 100 = .ok (.istore 4, 2) := by decide +kernel
theorem dL_law_102 : decode cL_law 102 = .ok (.iload_n 3, 1) := by decide +kernel
theorem dL_law_103 : decode cL_law 103 = .ok (.bipush 16, 2) := by decide +kernel
theorem dL_law_105 : decode cL_law 105 = .ok (.ishr, 1) := by decide +kernel
theorem dL_law_106 : decode cL_law 106 = .ok (.bipush 6, 2) := by decide +kernel
theorem dL_law_108 : decode cL_law 108 = .ok (.invokestatic 9, 3) := by decide +kernel
theorem dL_law_111 : decode cL_law 111 = .ok (.istore 5, 2) := by decide +kernel
theorem dL_law_113 : decode cL_law 113 = .ok (.iload 5, 2) := by decide +kernel
theorem dL_law_115 : decode cL_law 115 = .ok (.ifCond .ne 14, 3) := by decide +kernel
theorem dL_law_118 : decode cL_law 118 = .ok (.aload_n 1, 1) := by decide +kernel
theorem dL_law_119 : decode cL_law 119 = .ok (.aload_n 0, 1) := by decide +kernel
theorem dL_law_120 : decode cL_law 120 = .ok (.iload_n 2, 1) := by decide +kernel
theorem dL_law_121 : decode cL_law 121 = .ok (.invokestatic 101, 3) := by decide +kernel
theorem dL_law_124 : decode cL_law 124 = .ok (.ifCond .ne 133, 3) := by decide +kernel
theorem dL_law_127 : decode cL_law 127 = .ok (.iconst 0, 1) := by decide +kernel
theorem dL_law_128 : decode cL_law 128 = .ok (.ireturn, 1) := by decide +kernel
theorem dL_law_129 : decode cL_law 129 = .ok (.iload 5, 2) := by decide +kernel
theorem dL_law_131 : decode cL_law 131 = .ok (.iconst 1, 1) := by decide +kernel
theorem dL_law_132 : decode cL_law 132 = .ok (.if_icmp .ne 15, 3) := by decide +kernel
theorem dL_law_135 : decode cL_law 135 = .ok (.aload_n 1, 1) := by decide +kernel
theorem dL_law_136 : decode cL_law 136 = .ok (.iload_n 3, 1) := by decide +kernel
theorem dL_law_137 : decode cL_law 137 = .ok (.iload 4, 2) := by decide +kernel
theorem dL_law_139 : decode cL_law 139 = .ok (.invokestatic 105, 3) := by decide +kernel
theorem dL_law_142 : decode cL_law 142 = .ok (.ifCond .ne 115, 3) := by decide +kernel
theorem dL_law_145 : decode cL_law 145 = .ok (.iconst 0, 1) := by decide +kernel
theorem dL_law_146 : decode cL_law 146 = .ok (.ireturn, 1) := by decide +kernel
theorem dL_law_147 : decode cL_law 147 = .ok (.iload 5, 2) := by decide +kernel
theorem dL_law_149 : decode cL_law 149 = .ok (.iconst 2, 1) := by decide +kernel
theorem dL_law_150 : decode cL_law 150 = .ok (.if_icmp .ne 48, 3) := by decide +kernel
theorem dL_law_153 : decode cL_law 153 = .ok (.aload_n 1, 1) := by decide +kernel
theorem dL_law_154 : decode cL_law 154 = .ok (.bipush 7, 2) := by decide +kernel
theorem dL_law_156 : decode cL_law 156 = .ok (.invokevirtual 36, 3) := by decide +kernel
theorem dL_law_159 : decode cL_law 159 = .ok (.istore 6, 2) := by decide +kernel
theorem dL_law_161 : decode cL_law 161 = .ok (.aload_n 1, 1) := by decide +kernel
theorem dL_law_162 : decode cL_law 162 = .ok (.bipush 20, 2) := by decide +kernel
theorem dL_law_164 : decode cL_law 164 = .ok (.iload 4, 2) := by decide +kernel
theorem dL_law_166 : decode cL_law 166 = .ok (.bipush 90, 2) := by decide +kernel
theorem dL_law_168 : decode cL_law 168 = .ok (.invokestatic 9, 3) := by decide +kernel
theorem dL_law_171 : decode cL_law 171 = .ok (.iadd, 1) := by decide +kernel
theorem dL_law_172 : decode cL_law 172 = .ok (.invokevirtual 91, 3) := by decide +kernel
theorem dL_law_175 : decode cL_law 175 = .ok (.iload 6, 2) := by decide +kernel
theorem dL_law_177 : decode cL_law 177 = .ok (.if_icmp .ne 16, 3) := by decide +kernel
theorem dL_law_180 : decode cL_law 180 = .ok (.aload_n 1, 1) := by decide +kernel
theorem dL_law_181 : decode cL_law 181 = .ok (.iconst 2, 1) := by decide +kernel
theorem dL_law_182 : decode cL_law 182 = .ok (.invokevirtual 36, 3) := by decide +kernel
theorem dL_law_185 : decode cL_law 185 = .ok (.aload_n 1, 1) := by decide +kernel
theorem dL_law_186 : decode cL_law 186 = .ok (.iconst 3, 1) := by decide +kernel
theorem dL_law_187 : decode cL_law 187 = .ok (.invokevirtual 36, 3) := by decide +kernel
theorem dL_law_190 : decode cL_law 190 = .ok (.if_icmp .eq 5, 3) := by decide +kernel
theorem dL_law_193 : decode cL_law 193 = .ok (.iconst 0, 1) := by decide +kernel
theorem dL_law_194 : decode cL_law 194 = .ok (.ireturn, 1) := by decide +kernel
theorem dL_law_195 : decode cL_law 195 = .ok (.goto 62, 3) := by decide +kernel
theorem dL_law_198 : decode cL_law 198 = .ok (.iload 5, 2) := by decide +kernel
theorem dL_law_200 : decode cL_law 200 = .ok (.iconst 3, 1) := by decide +kernel
theorem dL_law_201 : decode cL_law 201 = .ok (.if_icmp .ne 45, 3) := by decide +kernel
theorem dL_law_204 : decode cL_law 204 = .ok (.aload_n 1, 1) := by decide +kernel
theorem dL_law_205 : decode cL_law 205 = .ok (.bipush 9, 2) := by decide +kernel
theorem dL_law_207 : decode cL_law 207 = .ok (.invokevirtual 36, 3) := by decide +kernel
theorem dL_law_210 : decode cL_law 210 = .ok (.istore 6, 2) := by decide +kernel
theorem dL_law_212 : decode cL_law 212 = .ok (.aload_n 1, 1) := by decide +kernel
theorem dL_law_213 : decode cL_law 213 = .ok (.iload 4, 2) := by decide +kernel
theorem dL_law_215 : decode cL_law 215 = .ok (.bipush 7, 2) := by decide +kernel
theorem dL_law_217 : decode cL_law 217 = .ok (.invokestatic 9, 3) := by decide +kernel
theorem dL_law_220 : decode cL_law 220 = .ok (.invokevirtual 97, 3) := by decide +kernel
theorem dL_law_223 : decode cL_law 223 = .ok (.iload 6, 2) := by decide +kernel
theorem dL_law_225 : decode cL_law 225 = .ok (.if_icmp .ne 16, 3) := by decide +kernel
theorem dL_law_228 : decode cL_law 228 = .ok (.aload_n 1, 1) := by decide +kernel
theorem dL_law_229 : decode cL_law 229 = .ok (.iconst 2, 1) := by decide +kernel
theorem dL_law_230 : decode cL_law 230 = .ok (.invokevirtual 36, 3) := by decide +kernel
theorem dL_law_233 : decode cL_law 233 = .ok (.aload_n 1, 1) := by decide +kernel
theorem dL_law_234 : decode cL_law 234 = .ok (.iconst 3, 1) := by decide +kernel
theorem dL_law_235 : decode cL_law 235 = .ok (.invokevirtual 36, 3) := by decide +kernel
theorem dL_law_238 : decode cL_law 238 = .ok (.if_icmp .eq 5, 3) := by decide +kernel
theorem dL_law_241 : decode cL_law 241 = .ok (.iconst 0, 1) := by decide +kernel
theorem dL_law_242 : decode cL_law 242 = .ok (.ireturn, 1) := by decide +kernel
theorem dL_law_243 : decode cL_law 243 = .ok (.goto 14, 3) := by decide +kernel
theorem dL_law_246 : decode cL_law 246 = .ok (.aload_n 1, 1) := by decide +kernel
theorem dL_law_247 : decode cL_law 247 = .ok (.iload 4, 2) := by decide +kernel
theorem dL_law_249 : decode cL_law 249 = .ok (.invokestatic 109, 3) := by decide +kernel
theorem dL_law_252 : decode cL_law 252 = .ok (.ifCond .ne 5, 3) := by decide +kernel
theorem dL_law_255 : decode cL_law 255 = .ok (.iconst 0, 1) := by decide +kernel
theorem dL_law_256 : decode cL_law 256 = .ok (.ireturn, 1) := by decide +kernel
theorem dL_law_257 : decode cL_law 257 = .ok (.aload_n 1, 1) := by decide +kernel
theorem dL_law_258 : decode cL_law 258 = .ok (.invokestatic 74, 3) := by decide +kernel
theorem dL_law_261 : decode cL_law 261 = .ok (.ifCond .eq 22, 3) := by decide +kernel
theorem dL_law_264 : decode cL_law 264 = .ok (.aload_n 1, 1) := by decide +kernel
theorem dL_law_265 : decode cL_law 265 = .ok (.invokestatic 113, 3) := by decide +kernel
theorem dL_law_268 : decode cL_law 268 = .ok (.ifCond .eq 15, 3) := by decide +kernel
theorem dL_law_271 : decode cL_law 271 = .ok (.aload_n 1, 1) := by decide +kernel
theorem dL_law_272 : decode cL_law 272 = .ok (.bipush 10, 2) := by decide +kernel
theorem dL_law_274 : decode cL_law 274 = .ok (.invokevirtual 36, 3) := by decide +kernel
theorem dL_law_277 : decode cL_law 277 = .ok (.sipush (-1002), 3) := by decide +kernel
theorem dL_law_280 : decode cL_law 280 = .ok (.if_icmp .eq 5, 3) := by decide +kernel
theorem dL_law_283 : decode cL_law 283 = .ok (.iconst 0, 1) := by decide +kernel
theorem dL_law_284 : decode cL_law 284 = .ok (.ireturn, 1) := by decide +kernel
theorem dL_law_285 : decode cL_law 285 = .ok (.iinc 2 1, 3) := by decide +kernel
theorem dL_law_288 : decode cL_law 288 = .ok (.goto (-211), 3) := by decide +kernel
theorem dL_law_291 : decode cL_law 291 = .ok (.iconst 1, 1) := by decide +kernel
theorem dL_law_292 : decode cL_law 292 = .ok (.ireturn, 1) := by decide +kernel
