theorem dJ2_getChars_ba4f3_106 : decode cJ2_getChars_ba4f3 106 = .ok (.iload_n 0, 1) := by decide +kernel
theorem dJ2_getChars_ba4f3_107 : decode cJ2_getChars_ba4f3 107 = .ok (.ineg, 1) := by decide +kernel
theorem dJ2_getChars_ba4f3_108 : decode cJ2_getChars_ba4f3 108 = .ok (.baload, 1) := by decide +kernel
theorem dJ2_getChars_ba4f3_109 : decode cJ2_getChars_ba4f3 109 = .ok (.invokestatic 111, 3) := by decide +kernel
theorem dJ2_getChars_ba4f3_112 : decode cJ2_getChars_ba4f3 112 = .ok (.iload 6, 2) := by decide +kernel
theorem dJ2_getChars_ba4f3_114 : decode cJ2_getChars_ba4f3 114 = .ok (.ifCond .eq 14, 3) := by decide +kernel
theorem dJ2_getChars_ba4f3_117 : decode cJ2_getChars_ba4f3 117 = .ok (.aload_n 2, 1) := by decide +kernel
theorem dJ2_getChars_ba4f3_118 : decode cJ2_getChars_ba4f3 118 = .ok (.iinc 5 (-1), 3) := by decide +kernel
theorem dJ2_getChars_ba4f3_121 : decode cJ2_getChars_ba4f3 121 = .ok (.iload 5, 2) := by decide +kernel
theorem dJ2_getChars_ba4f3_123 : decode cJ2_getChars_ba4f3 123 = .ok (.bipush 45, 2) := by decide +kernel
theorem dJ2_getChars_ba4f3_125 : decode cJ2_getChars_ba4f3 125 = .ok (.invokestatic 111, 3) := by decide +kernel
theorem dJ2_getChars_ba4f3_128 : decode cJ2_getChars_ba4f3 128 = .ok (.iload 5, 2) := by decide +kernel
theorem dJ2_getChars_ba4f3_130 : decode cJ2_getChars_ba4f3 130 = .ok (.ireturn, 1) := by decide +kernel
theorem dJ2_checkIndex_2214a_0 : decode cJ2_checkIndex_2214a 0 = .ok (.iload_n 0, 1) := by decide +kernel
theorem dJ2_checkIndex_2214a_1 : decode cJ2_checkIndex_2214a 1 = .ok (.aload_n 1, 1) := by decide +kernel
theorem dJ2_checkIndex_2214a_2 : decode cJ2_checkIndex_2214a 2 = .ok (.invokestatic 48, 3) := by decide +kernel
theorem dJ2_checkIndex_2214a_5 : decode cJ2_checkIndex_2214a 5 = .ok (.invokestatic 414, 3) := by decide +kernel
theorem dJ2_checkIndex_2214a_8 : decode cJ2_checkIndex_2214a 8 = .ok (.return_, 1) := by decide +kernel
theorem dJ2_checkBoundsBeginEnd_d044e_0 : decode cJ2_checkBoundsBeginEnd_d044e 0 = .ok (.iload_n 0, 1) := by decide +kernel
theorem dJ2_checkBoundsBeginEnd_d044e_1 : decode cJ2_checkBoundsBeginEnd_d044e 1 = .ok (.iload_n 1, 1) := by decide +kernel
theorem dJ2_checkBoundsBeginEnd_d044e_2 : decode cJ2_checkBoundsBeginEnd_d044e 2 = .ok (.aload_n 2, 1) := by decide +kernel
theorem dJ2_checkBoundsBeginEnd_d044e_3 : decode cJ2_checkBoundsBeginEnd_d044e 3 = .ok (.invokestatic 48, 3) := by decide +kernel
theorem dJ2_checkBoundsBeginEnd_d044e_6 : decode cJ2_checkBoundsBeginEnd_d044e 6 = .ok (.invokestatic 241, 3) := by decide +kernel
theorem dJ2_checkBoundsBeginEnd_d044e_9 : decode cJ2_checkBoundsBeginEnd_d044e 9 = .ok (.return_, 1) := by decide +kernel
theorem dJ2_checkBoundsOffCount_d044e_0 : decode cJ2_checkBoundsOffCount_d044e 0 = .ok (.iload_n 0, 1) := by decide +kernel
theorem dJ2_checkBoundsOffCount_d044e_1 : decode cJ2_checkBoundsOffCount_d044e 1 = .ok (.iload_n 1, 1) := by decide +kernel
theorem dJ2_checkBoundsOffCount_d044e_2 : decode cJ2_checkBoundsOffCount_d044e 2 = .ok (.aload_n 2, 1) := by decide +kernel
theorem dJ2_checkBoundsOffCount_d044e_3 : decode cJ2_checkBoundsOffCount_d044e 3 = .ok (.invokestatic 48, 3) := by decide +kernel
theorem dJ2_checkBoundsOffCount_d044e_6 : decode cJ2_checkBoundsOffCount_d044e 6 = .ok (.invokestatic 419, 3) := by decide +kernel
theorem dJ2_checkBoundsOffCount_d044e_9 : decode cJ2_checkBoundsOffCount_d044e 9 = .ok (.pop, 1) := by decide +kernel
theorem dJ2_checkBoundsOffCount_d044e_10 : decode cJ2_checkBoundsOffCount_d044e 10 = .ok (.return_, 1) := by decide +kernel
theorem dJ7_fill_53178_0 : decode cJ7_fill_53178 0 = .ok (.iconst 0, 1) := by decide +kernel
theorem dJ7_fill_53178_1 : decode cJ7_fill_53178 1 = .ok (.istore_n 2, 1) := by decide +kernel
theorem dJ7_fill_53178_2 : decode cJ7_fill_53178 2 = .ok (.aload_n 0, 1) := by decide +kernel
theorem dJ7_fill_53178_3 : decode cJ7_fill_53178 3 = .ok (.arraylength, 1) := by decide +kernel
theorem dJ7_fill_53178_4 : decode cJ7_fill_53178 4 = .ok (.istore_n 3, 1) := by decide +kernel
theorem dJ7_fill_53178_5 : decode cJ7_fill_53178 5 = .ok (.iload_n 2, 1) := by decide +kernel
theorem dJ7_fill_53178_6 : decode cJ7_fill_53178 6 = .ok (.iload_n 3, 1) := by decide +kernel
theorem dJ7_fill_53178_7 : decode cJ7_fill_53178 7 = .ok (.if_icmp .ge 13, 3) := by decide +kernel
theorem dJ7_fill_53178_10 : decode cJ7_fill_53178 10 = .ok (.aload_n 0, 1) := by decide +kernel
theorem dJ7_fill_53178_11 : decode cJ7_fill_53178 11 = .ok (.iload_n 2, 1) := by decide +kernel
theorem dJ7_fill_53178_12 : decode cJ7_fill_53178 12 = .ok (.iload_n 1, 1) := by decide +kernel
theorem dJ7_fill_53178_13 : decode cJ7_fill_53178 13 = .ok (.iastore, 1) := by decide +kernel
theorem dJ7_fill_53178_14 : decode cJ7_fill_53178 14 = .ok (.iinc 2 1, 3) := by decide +kernel
theorem dJ7_fill_53178_17 : decode cJ7_fill_53178 17 = .ok (.goto (-12), 3) := by decide +kernel
theorem dJ7_fill_53178_20 : decode cJ7_fill_53178 20 = .ok (.return_, 1) := by decide +kernel
theorem dJ7_copyOf_9075b_0 : decode cJ7_copyOf_9075b 0 = .ok (.iload_n 1, 1) := by decide +kernel
theorem dJ7_copyOf_9075b_1 : decode cJ7_copyOf_9075b 1 = .ok (.aload_n 0, 1) := by decide +kernel
theorem dJ7_copyOf_9075b_2 : decode cJ7_copyOf_9075b 2 = .ok (.arraylength, 1) := by decide +kernel
theorem dJ7_copyOf_9075b_3 : decode cJ7_copyOf_9075b 3 = .ok (.if_icmp .ne 11, 3) := by decide +kernel
theorem dJ7_copyOf_9075b_6 : decode cJ7_copyOf_9075b 6 = .ok (.aload_n 0, 1) := by decide +kernel
theorem dJ7_copyOf_9075b_7 : decode cJ7_copyOf_9075b 7 = .ok (.invokevirtual 310, 3) := by decide +kernel
theorem dJ7_copyOf_9075b_10 : decode cJ7_copyOf_9075b 10 = .ok (.checkcast 311, 3) := by decide +kernel
theorem dJ7_copyOf_9075b_13 : decode cJ7_copyOf_9075b 13 = .ok (.areturn, 1) := by decide +kernel
theorem dJ7_copyOf_9075b_14 : decode cJ7_copyOf_9075b 14 = .ok (.iload_n 1, 1) := by decide +kernel
theorem dJ7_copyOf_9075b_15 : decode cJ7_copyOf_9075b 15 = .ok (.newarray .byte, 2) := by decide +kernel
theorem dJ7_copyOf_9075b_17 : decode cJ7_copyOf_9075b 17 = .ok (.astore_n 2, 1) := by decide +kernel
theorem dJ7_copyOf_9075b_18 : decode cJ7_copyOf_9075b 18 = .ok (.aload_n 0, 1) := by decide +kernel
theorem dJ7_copyOf_9075b_19 : decode cJ7_copyOf_9075b 19 = .ok (.iconst 0, 1) := by decide +kernel
theorem dJ7_copyOf_9075b_20 : decode cJ7_copyOf_9075b 20 = .ok (.aload_n 2, 1) := by decide +kernel
theorem dJ7_copyOf_9075b_21 : decode cJ7_copyOf_9075b 21 = .ok (.iconst 0, 1) := by decide +kernel
theorem dJ7_copyOf_9075b_22 : decode cJ7_copyOf_9075b 22 = .ok (.aload_n 0, 1) := by decide +kernel
theorem dJ7_copyOf_9075b_23 : decode cJ7_copyOf_9075b 23 = .ok (.arraylength, 1) := by decide +kernel
theorem dJ7_copyOf_9075b_24 : decode cJ7_copyOf_9075b 24 = .ok (.iload_n 1, 1) := by decide +kernel
theorem dJ7_copyOf_9075b_25 : decode cJ7_copyOf_9075b 25 = .ok (.invokestatic 304, 3) := by decide +kernel
theorem dJ7_copyOf_9075b_28 : decode cJ7_copyOf_9075b 28 = .ok (.invokestatic 150, 3) := by decide +kernel
theorem dJ7_copyOf_9075b_31 : decode cJ7_copyOf_9075b 31 = .ok (.aload_n 2, 1) := by decide +kernel
theorem dJ7_copyOf_9075b_32 : decode cJ7_copyOf_9075b 32 = .ok (.areturn, 1) := by decide +kernel
theorem dJ7_checkLength_df160_0 : decode cJ7_checkLength_df160 0 = .ok (.iload_n 1, 1) := by decide +kernel
theorem dJ7_checkLength_df160_1 : decode cJ7_checkLength_df160 1 = .ok (.iload_n 0, 1) := by decide +kernel
theorem dJ7_checkLength_df160_2 : decode cJ7_checkLength_df160 2 = .ok (.if_icmp .ge 35, 3) := by decide +kernel
theorem dJ7_checkLength_df160_5 : decode cJ7_checkLength_df160 5 = .ok (.new 43, 3) := by decide +kernel
theorem dJ7_checkLength_df160_8 : decode cJ7_checkLength_df160 8 = .ok (.dup, 1) := by decide +kernel
theorem dJ7_checkLength_df160_9 : decode cJ7_checkLength_df160 9 = .ok (.new 45, 3) := by decide +kernel
theorem dJ7_checkLength_df160_12 : decode cJ7_checkLength_df160 12 = .ok (.dup, 1) := by decide +kernel
theorem dJ7_checkLength_df160_13 : decode cJ7_checkLength_df160 13 = .ok (.invokespecial 47, 3) := by decide +kernel
theorem dJ7_checkLength_df160_16 : decode cJ7_checkLength_df160 16 = .ok (.iload_n 0, 1) := by decide +kernel
theorem dJ7_checkLength_df160_17 : decode cJ7_checkLength_df160 17 = .ok (.invokevirtual 54, 3) := by decide +kernel
theorem dJ7_checkLength_df160_20 : decode cJ7_checkLength_df160 20 = .ok (.ldc_w 337, 3) := by decide +kernel
theorem dJ7_checkLength_df160_23 : decode cJ7_checkLength_df160 23 = .ok (.invokevirtual 50, 3) := by decide +kernel
theorem dJ7_checkLength_df160_26 : decode cJ7_checkLength_df160 26 = .ok (.iload_n 1, 1) := by decide +kernel
theorem dJ7_checkLength_df160_27 : decode cJ7_checkLength_df160 27 = .ok (.invokevirtual 54, 3) := by decide +kernel
theorem dJ7_checkLength_df160_30 : decode cJ7_checkLength_df160 30 = .ok (.invokevirtual 61, 3) := by decide +kernel
theorem dJ7_checkLength_df160_33 : decode cJ7_checkLength_df160 33 = .ok (.invokespecial 65, 3) := by decide +kernel
theorem dJ7_checkLength_df160_36 : decode cJ7_checkLength_df160 36 = .ok (.athrow, 1) := by decide +kernel
theorem dJ7_checkLength_df160_37 : decode cJ7_checkLength_df160 37 = .ok (.return_, 1) := by decide +kernel
theorem dJ7_copyOfRange_39247_0 : decode cJ7_copyOfRange_39247 0 = .ok (.iload_n 1, 1) := by decide +kernel
theorem dJ7_copyOfRange_39247_1 : decode cJ7_copyOfRange_39247 1 = .ok (.ifCond .ne 9, 3) := by decide +kernel
theorem dJ7_copyOfRange_39247_4 : decode cJ7_copyOfRange_39247 4 = .ok (.iload_n 2, 1) := by decide +kernel
theorem dJ7_copyOfRange_39247_5 : decode cJ7_copyOfRange_39247 5 = .ok (.aload_n 0, 1) := by decide +kernel
theorem dJ7_copyOfRange_39247_6 : decode cJ7_copyOfRange_39247 6 = .ok (.arraylength, 1) := by decide +kernel
theorem dJ7_copyOfRange_39247_7 : decode cJ7_copyOfRange_39247 7 = .ok (.if_icmp .eq 10, 3) := by decide +kernel
theorem dJ7_copyOfRange_39247_10 : decode cJ7_copyOfRange_39247 10 = .ok (.aload_n 0, 1) := by decide +kernel
theorem dJ7_copyOfRange_39247_11 : decode cJ7_copyOfRange_39247 11 = .ok (.iload_n 1, 1) := by decide +kernel
theorem dJ7_copyOfRange_39247_12 : decode cJ7_copyOfRange_39247 12 = .ok (.iload_n 2, 1) := by decide +kernel
theorem dJ7_copyOfRange_39247_13 : decode cJ7_copyOfRange_39247 13 = .ok (.invokestatic 339, 3) := by decide +kernel
theorem dJ7_copyOfRange_39247_16 : decode cJ7_copyOfRange_39247 16 = .ok (.areturn, 1) := by decide +kernel
theorem dJ7_copyOfRange_39247_17 : decode cJ7_copyOfRange_39247 17 = .ok (.aload_n 0, 1) := by decide +kernel
theorem dJ7_copyOfRange_39247_18 : decode cJ7_copyOfRange_39247 18 = .ok (.invokevirtual 310, 3) := by decide +kernel
theorem dJ7_copyOfRange_39247_21 : decode cJ7_copyOfRange_39247 21 = .ok (.checkcast 311, 3) := by decide +kernel
theorem dJ7_copyOfRange_39247_24 : decode cJ7_copyOfRange_39247 24 = .ok (.areturn, 1) := by decide +kernel
theorem dJ7_copyOfRangeByte_39247_0 : decode cJ7_copyOfRangeByte_39247 0 = .ok (.iload_n 1, 1) := by decide +kernel
theorem dJ7_copyOfRangeByte_39247_1 : decode cJ7_copyOfRangeByte_39247 1 = .ok (.iload_n 2, 1) := by decide +kernel
theorem dJ7_copyOfRangeByte_39247_2 : decode cJ7_copyOfRangeByte_39247 2 = .ok (.invokestatic 343, 3) := by decide +kernel
theorem dJ7_copyOfRangeByte_39247_5 : decode cJ7_copyOfRangeByte_39247 5 = .ok (.iload_n 2, 1) := by decide +kernel
theorem dJ7_copyOfRangeByte_39247_6 : decode cJ7_copyOfRangeByte_39247 6 = .ok (.iload_n 1, 1) := by decide +kernel
theorem dJ7_copyOfRangeByte_39247_7 : decode cJ7_copyOfRangeByte_39247 7 = .ok (.isub, 1) := by decide +kernel
theorem dJ7_copyOfRangeByte_39247_8 : decode cJ7_copyOfRangeByte_39247 8 = .ok (.istore_n 3, 1) := by decide +kernel
theorem dJ7_copyOfRangeByte_39247_9 : decode cJ7_copyOfRangeByte_39247 9 = .ok (.iload_n 3, 1) := by decide +kernel
theorem dJ7_copyOfRangeByte_39247_10 : decode cJ7_copyOfRangeByte_39247 10 = .ok (.newarray .byte, 2) := by decide +kernel
theorem dJ7_copyOfRangeByte_39247_12 : decode cJ7_copyOfRangeByte_39247 12 = .ok (.astore 4, 2) := by decide +kernel
theorem dJ7_copyOfRangeByte_39247_14 : decode cJ7_copyOfRangeByte_39247 14 = .ok (.aload_n 0, 1) := by decide +kernel
theorem dJ7_copyOfRangeByte_39247_15 : decode cJ7_copyOfRangeByte_39247 15 = .ok (.iload_n 1, 1) := by decide +kernel
theorem dJ7_copyOfRangeByte_39247_16 : decode cJ7_copyOfRangeByte_39247 16 = .ok (.aload 4, 2) := by decide +kernel
theorem dJ7_copyOfRangeByte_39247_18 : decode cJ7_copyOfRangeByte_39247 18 = .ok (.iconst 0, 1) := by decide +kernel
theorem dJ7_copyOfRangeByte_39247_19 : decode cJ7_copyOfRangeByte_39247 19 = .ok (.aload_n 0, 1) := by decide +kernel
theorem dJ7_copyOfRangeByte_39247_20 : decode cJ7_copyOfRangeByte_39247 20 = .ok (.arraylength, 1) := by decide +kernel
theorem dJ7_copyOfRangeByte_39247_21 : decode cJ7_copyOfRangeByte_39247 21 = .ok (.iload_n 1, 1) := by decide +kernel
theorem dJ7_copyOfRangeByte_39247_22 : decode cJ7_copyOfRangeByte_39247 22 = .ok (.isub, 1) := by decide +kernel
theorem dJ7_copyOfRangeByte_39247_23 : decode cJ7_copyOfRangeByte_39247 23 = .ok (.iload_n 3, 1) := by decide +kernel
theorem dJ7_copyOfRangeByte_39247_24 : decode cJ7_copyOfRangeByte_39247 24 = .ok (.invokestatic 304, 3) := by decide +kernel
theorem dJ7_copyOfRangeByte_39247_27 : decode cJ7_copyOfRangeByte_39247 27 = .ok (.invokestatic 150, 3) := by decide +kernel
theorem dJ7_copyOfRangeByte_39247_30 : decode cJ7_copyOfRangeByte_39247 30 = .ok (.aload 4, 2) := by decide +kernel
theorem dJ7_copyOfRangeByte_39247_32 : decode cJ7_copyOfRangeByte_39247 32 = .ok (.areturn, 1) := by decide +kernel
theorem dJ8_newLength_cabcc_0 : decode cJ8_newLength_cabcc 0 = .ok (.iload_n 0, 1) := by decide +kernel
theorem dJ8_newLength_cabcc_1 : decode cJ8_newLength_cabcc 1 = .ok (.iload_n 1, 1) := by decide +kernel
theorem dJ8_newLength_cabcc_2 : decode cJ8_newLength_cabcc 2 = .ok (.iload_n 2, 1) := by decide +kernel
theorem dJ8_newLength_cabcc_3 : decode cJ8_newLength_cabcc 3 = .ok (.invokestatic 194, 3) := by decide +kernel
theorem dJ8_newLength_cabcc_6 : decode cJ8_newLength_cabcc 6 = .ok (.iadd, 1) := by decide +kernel
theorem dJ8_newLength_cabcc_7 : decode cJ8_newLength_cabcc 7 = .ok (.istore_n 3, 1) := by decide +kernel
theorem dJ8_newLength_cabcc_8 : decode cJ8_newLength_cabcc 8 = .ok (.iconst 0, 1) := by decide +kernel
theorem dJ8_newLength_cabcc_9 : decode cJ8_newLength_cabcc 9 = .ok (.iload_n 3, 1) := by decide +kernel
theorem dJ8_newLength_cabcc_10 : decode cJ8_newLength_cabcc 10 = .ok (.if_icmp .ge 11, 3) := by decide +kernel
theorem dJ8_newLength_cabcc_13 : decode cJ8_newLength_cabcc 13 = .ok (.iload_n 3, 1) := by decide +kernel
theorem dJ8_newLength_cabcc_14 : decode cJ8_newLength_cabcc 14 = .ok (.ldc 200, 2) := by decide +kernel
theorem dJ8_newLength_cabcc_16 : decode cJ8_newLength_cabcc 16 = .ok (.if_icmp .gt 5, 3) := by decide +kernel
theorem dJ8_newLength_cabcc_19 : decode cJ8_newLength_cabcc 19 = .ok (.iload_n 3, 1) := by decide +kernel
theorem dJ8_newLength_cabcc_20 : decode cJ8_newLength_cabcc 20 = .ok (.ireturn, 1) := by decide +kernel
theorem dJ8_newLength_cabcc_21 : decode cJ8_newLength_cabcc 21 = .ok (.iload_n 0, 1) := by decide +kernel
theorem dJ8_newLength_cabcc_22 : decode cJ8_newLength_cabcc 22 = .ok (.iload_n 1, 1) := by decide +kernel
theorem dJ8_newLength_cabcc_23 : decode cJ8_newLength_cabcc 23 = .ok (.invokestatic 201, 3) := by decide +kernel
theorem dJ8_newLength_cabcc_26 : decode cJ8_newLength_cabcc 26 = .ok (.ireturn, 1) := by decide +kernel
theorem dJ8_hugeLength_7cf53_0 : decode cJ8_hugeLength_7cf53 0 = .ok (.iload_n 0, 1) := by decide +kernel
theorem dJ8_hugeLength_7cf53_1 : decode cJ8_hugeLength_7cf53 1 = .ok (.iload_n 1, 1) := by decide +kernel
theorem dJ8_hugeLength_7cf53_2 : decode cJ8_hugeLength_7cf53 2 = .ok (.iadd, 1) := by decide +kernel
theorem dJ8_hugeLength_7cf53_3 : decode cJ8_hugeLength_7cf53 3 = .ok (.istore_n 2, 1) := by decide +kernel
theorem dJ8_hugeLength_7cf53_4 : decode cJ8_hugeLength_7cf53 4 = .ok (.iload_n 2, 1) := by decide +kernel
theorem dJ8_hugeLength_7cf53_5 : decode cJ8_hugeLength_7cf53 5 = .ok (.ifCond .ge 44, 3) := by decide +kernel
theorem dJ8_hugeLength_7cf53_8 : decode cJ8_hugeLength_7cf53 8 = .ok (.new 204, 3) := by decide +kernel
theorem dJ8_hugeLength_7cf53_11 : decode cJ8_hugeLength_7cf53 11 = .ok (.dup, 1) := by decide +kernel
theorem dJ8_hugeLength_7cf53_12 : decode cJ8_hugeLength_7cf53 12 = .ok (.new 89, 3) := by decide +kernel
theorem dJ8_hugeLength_7cf53_15 : decode cJ8_hugeLength_7cf53 15 = .ok (.dup, 1) := by decide +kernel
theorem dJ8_hugeLength_7cf53_16 : decode cJ8_hugeLength_7cf53 16 = .ok (.invokespecial 91, 3) := by decide +kernel
theorem dJ8_hugeLength_7cf53_19 : decode cJ8_hugeLength_7cf53 19 = .ok (.ldc 206, 2) := by decide +kernel
theorem dJ8_hugeLength_7cf53_21 : decode cJ8_hugeLength_7cf53 21 = .ok (.invokevirtual 94, 3) := by decide +kernel
theorem dJ8_hugeLength_7cf53_24 : decode cJ8_hugeLength_7cf53 24 = .ok (.iload_n 0, 1) := by decide +kernel
theorem dJ8_hugeLength_7cf53_25 : decode cJ8_hugeLength_7cf53 25 = .ok (.invokevirtual 98, 3) := by decide +kernel
theorem dJ8_hugeLength_7cf53_28 : decode cJ8_hugeLength_7cf53 28 = .ok (.ldc 208, 2) := by decide +kernel
theorem dJ8_hugeLength_7cf53_30 : decode cJ8_hugeLength_7cf53 30 = .ok (.invokevirtual 94, 3) := by decide +kernel
theorem dJ8_hugeLength_7cf53_33 : decode cJ8_hugeLength_7cf53 33 = .ok (.iload_n 1, 1) := by decide +kernel
theorem dJ8_hugeLength_7cf53_34 : decode cJ8_hugeLength_7cf53 34 = .ok (.invokevirtual 98, 3) := by decide +kernel
theorem dJ8_hugeLength_7cf53_37 : decode cJ8_hugeLength_7cf53 37 = .ok (.ldc 210, 2) := by decide +kernel
theorem dJ8_hugeLength_7cf53_39 : decode cJ8_hugeLength_7cf53 39 = .ok (.invokevirtual 94, 3) := by decide +kernel
theorem dJ8_hugeLength_7cf53_42 : decode cJ8_hugeLength_7cf53 42 = .ok (.invokevirtual 101, 3) := by decide +kernel
theorem dJ8_hugeLength_7cf53_45 : decode cJ8_hugeLength_7cf53 45 = .ok (.invokespecial 212, 3) := by decide +kernel
theorem dJ8_hugeLength_7cf53_48 : decode cJ8_hugeLength_7cf53 48 = .ok (.athrow, 1) := by decide +kernel
theorem dJ8_hugeLength_7cf53_49 : decode cJ8_hugeLength_7cf53 49 = .ok (.iload_n 2, 1) := by decide +kernel
theorem dJ8_hugeLength_7cf53_50 : decode cJ8_hugeLength_7cf53 50 = .ok (.ldc 200, 2) := by decide +kernel
theorem dJ8_hugeLength_7cf53_52 : decode cJ8_hugeLength_7cf53 52 = .ok (.if_icmp .gt 6, 3) := by decide +kernel
theorem dJ8_hugeLength_7cf53_55 : decode cJ8_hugeLength_7cf53 55 = .ok (.ldc 200, 2) := by decide +kernel
theorem dJ8_hugeLength_7cf53_57 : decode cJ8_hugeLength_7cf53 57 = .ok (.ireturn, 1) := by decide +kernel
theorem dJ8_hugeLength_7cf53_58 : decode cJ8_hugeLength_7cf53 58 = .ok (.iload_n 2, 1) := by decide +kernel
theorem dJ8_hugeLength_7cf53_59 : decode cJ8_hugeLength_7cf53 59 = .ok (.ireturn, 1) := by decide +kernel
theorem dJ3_checkIndex_8e157_0 : decode cJ3_checkIndex_8e157 0 = .ok (.iload_n 0, 1) := by decide +kernel
theorem dJ3_checkIndex_8e157_1 : decode cJ3_checkIndex_8e157 1 = .ok (.ifCond .lt 8, 3) := by decide +kernel
theorem dJ3_checkIndex_8e157_4 : decode cJ3_checkIndex_8e157 4 = .ok (.iload_n 0, 1) := by decide +kernel
theorem dJ3_checkIndex_8e157_5 : decode cJ3_checkIndex_8e157 5 = .ok (.iload_n 1, 1) := by decide +kernel
theorem dJ3_checkIndex_8e157_6 : decode cJ3_checkIndex_8e157 6 = .ok (.if_icmp .lt 10, 3) := by decide +kernel
theorem dJ3_checkIndex_8e157_9 : decode cJ3_checkIndex_8e157 9 = .ok (.aload_n 2, 1) := by decide +kernel
theorem dJ3_checkIndex_8e157_10 : decode cJ3_checkIndex_8e157 10 = .ok (.iload_n 0, 1) := by decide +kernel
theorem dJ3_checkIndex_8e157_11 : decode cJ3_checkIndex_8e157 11 = .ok (.iload_n 1, 1) := by decide +kernel
theorem dJ3_checkIndex_8e157_12 : decode cJ3_checkIndex_8e157 12 = .ok (.invokestatic 95, 3) := by decide +kernel
theorem dJ3_checkIndex_8e157_15 : decode cJ3_checkIndex_8e157 15 = .ok (.athrow, 1) := by decide +kernel
theorem dJ3_checkIndex_8e157_16 : decode cJ3_checkIndex_8e157 16 = .ok (.iload_n 0, 1) := by decide +kernel
theorem dJ3_checkIndex_8e157_17 : decode cJ3_checkIndex_8e157 17 = .ok (.ireturn, 1) := by decide +kernel
theorem dJ3_checkFromToIndex_8c36e_0 : decode cJ3_checkFromToIndex_8c36e 0 = .ok (.iload_n 0, 1) := by decide +kernel
theorem dJ3_checkFromToIndex_8c36e_1 : decode cJ3_checkFromToIndex_8c36e 1 = .ok (.ifCond .lt 13, 3) := by decide +kernel
theorem dJ3_checkFromToIndex_8c36e_4 : decode cJ3_checkFromToIndex_8c36e 4 = .ok (.iload_n 0, 1) := by decide +kernel
theorem dJ3_checkFromToIndex_8c36e_5 : decode cJ3_checkFromToIndex_8c36e 5 = .ok (.iload_n 1, 1) := by decide +kernel
theorem dJ3_checkFromToIndex_8c36e_6 : decode cJ3_checkFromToIndex_8c36e 6 = .ok (.if_icmp .gt 8, 3) := by decide +kernel
theorem dJ3_checkFromToIndex_8c36e_9 : decode cJ3_checkFromToIndex_8c36e 9 = .ok (.iload_n 1, 1) := by decide +kernel
theorem dJ3_checkFromToIndex_8c36e_10 : decode cJ3_checkFromToIndex_8c36e 10 = .ok (.iload_n 2, 1) := by decide +kernel
theorem dJ3_checkFromToIndex_8c36e_11 : decode cJ3_checkFromToIndex_8c36e 11 = .ok (.if_icmp .le 11, 3) := by decide +kernel
theorem dJ3_checkFromToIndex_8c36e_14 : decode cJ3_checkFromToIndex_8c36e 14 = .ok (.aload_n 3, 1) := by decide +kernel
theorem dJ3_checkFromToIndex_8c36e_15 : decode cJ3_checkFromToIndex_8c36e 15 = .ok (.iload_n 0, 1) := by decide +kernel
theorem dJ3_checkFromToIndex_8c36e_16 : decode cJ3_checkFromToIndex_8c36e 16 = .ok (.iload_n 1, 1) := by decide +kernel
theorem dJ3_checkFromToIndex_8c36e_17 : decode cJ3_checkFromToIndex_8c36e 17 = .ok (.iload_n 2, 1) := by decide +kernel
theorem dJ3_checkFromToIndex_8c36e_18 : decode cJ3_checkFromToIndex_8c36e 18 = .ok (.invokestatic 99, 3) := by decide +kernel
theorem dJ3_checkFromToIndex_8c36e_21 : decode cJ3_checkFromToIndex_8c36e 21 = .ok (.athrow, 1) := by decide +kernel
theorem dJ3_checkFromToIndex_8c36e_22 : decode cJ3_checkFromToIndex_8c36e 22 = .ok (.iload_n 0, 1) := by decide +kernel
theorem dJ3_checkFromToIndex_8c36e_23 : decode cJ3_checkFromToIndex_8c36e 23 = .ok (.ireturn, 1) := by decide +kernel
theorem dJ3_checkFromIndexSize_8c36e_0 : decode cJ3_checkFromIndexSize_8c36e 0 = .ok (.iload_n 2, 1) := by decide +kernel
theorem dJ3_checkFromIndexSize_8c36e_1 : decode cJ3_checkFromIndexSize_8c36e 1 = .ok (.iload_n 0, 1) := by decide +kernel
theorem dJ3_checkFromIndexSize_8c36e_2 : decode cJ3_checkFromIndexSize_8c36e 2 = .ok (.ior, 1) := by decide +kernel
theorem dJ3_checkFromIndexSize_8c36e_3 : decode cJ3_checkFromIndexSize_8c36e 3 = .ok (.iload_n 1, 1) := by decide +kernel
theorem dJ3_checkFromIndexSize_8c36e_4 : decode cJ3_checkFromIndexSize_8c36e 4 = .ok (.ior, 1) := by decide +kernel
theorem dJ3_checkFromIndexSize_8c36e_5 : decode cJ3_checkFromIndexSize_8c36e 5 = .ok (.ifCond .lt 10, 3) := by decide +kernel
theorem dJ3_checkFromIndexSize_8c36e_8 : decode cJ3_checkFromIndexSize_8c36e 8 = .ok (.iload_n 1, 1) := by decide +kernel
theorem dJ3_checkFromIndexSize_8c36e_9 : decode cJ3_checkFromIndexSize_8c36e 9 = .ok (.iload_n 2, 1) := by decide +kernel
theorem dJ3_checkFromIndexSize_8c36e_10 : decode cJ3_checkFromIndexSize_8c36e 10 = .ok (.iload_n 0, 1) := by decide +kernel
theorem dJ3_checkFromIndexSize_8c36e_11 : decode cJ3_checkFromIndexSize_8c36e 11 = .ok (.isub, 1) := by decide +kernel
theorem dJ3_checkFromIndexSize_8c36e_12 : decode cJ3_checkFromIndexSize_8c36e 12 = .ok (.if_icmp .le 11, 3) := by decide +kernel
theorem dJ3_checkFromIndexSize_8c36e_15 : decode cJ3_checkFromIndexSize_8c36e 15 = .ok (.aload_n 3, 1) := by decide +kernel
theorem dJ3_checkFromIndexSize_8c36e_16 : decode cJ3_checkFromIndexSize_8c36e 16 = .ok (.iload_n 0, 1) := by decide +kernel
theorem dJ3_checkFromIndexSize_8c36e_17 : decode cJ3_checkFromIndexSize_8c36e 17 = .ok (.iload_n 1, 1) := by decide +kernel
theorem dJ3_checkFromIndexSize_8c36e_18 : decode cJ3_checkFromIndexSize_8c36e 18 = .ok (.iload_n 2, 1) := by decide +kernel
theorem dJ3_checkFromIndexSize_8c36e_19 : decode cJ3_checkFromIndexSize_8c36e 19 = .ok (.invokestatic 103, 3) := by decide +kernel
theorem dJ3_checkFromIndexSize_8c36e_22 : decode cJ3_checkFromIndexSize_8c36e 22 = .ok (.athrow, 1) := by decide +kernel
theorem dJ3_checkFromIndexSize_8c36e_23 : decode cJ3_checkFromIndexSize_8c36e 23 = .ok (.iload_n 0, 1) := by decide +kernel
theorem dJ3_checkFromIndexSize_8c36e_24 : decode cJ3_checkFromIndexSize_8c36e 24 = .ok (.ireturn, 1) := by decide +kernel
theorem dL_cell_0 : decode cL_cell 0 = .ok (.aload_n 0, 1) := by decide +kernel
theorem dL_cell_1 : decode cL_cell 1 = .ok (.arraylength, 1) := by decide +kernel
theorem dL_cell_2 : decode cL_cell 2 = .ok (.ifCond .ne 13, 3) := by decide +kernel
theorem dL_cell_5 : decode cL_cell 5 = .ok (.bipush 71, 2) := by decide +kernel
theorem dL_cell_7 : decode cL_cell 7 = .ok (.iload_n 1, 1) := by decide +kernel
theorem dL_cell_8 : decode cL_cell 8 = .ok (.imul, 1) := by decide +kernel
theorem dL_cell_9 : decode cL_cell 9 = .ok (.bipush 13, 2) := by decide +kernel
theorem dL_cell_11 : decode cL_cell 11 = .ok (.iadd, 1) := by decide +kernel
theorem dL_cell_12 : decode cL_cell 12 = .ok (.goto 19, 3) := by decide +kernel
theorem dL_cell_15 : decode cL_cell 15 = .ok (.aload_n 0, 1) := by decide +kernel
theorem dL_cell_16 : decode cL_cell 16 = .ok (.iload_n 1, 1) := by decide +kernel
theorem dL_cell_17 : decode cL_cell 17 = .ok (.aload_n 0, 1) := by decide +kernel
theorem dL_cell_18 : decode cL_cell 18 = .ok (.arraylength, 1) := by decide +kernel
theorem dL_cell_19 : decode cL_cell 19 = .ok (.irem, 1) := by decide +kernel
theorem dL_cell_20 : decode cL_cell 20 = .ok (.iaload, 1) := by decide +kernel
theorem dL_cell_21 : decode cL_cell 21 = .ok (.iconst 5, 1) := by decide +kernel
theorem dL_cell_22 : decode cL_cell 22 = .ok (.iload_n 1, 1) := by decide +kernel
theorem dL_cell_23 : decode cL_cell 23 = .ok (.aload_n 0, 1) := by decide +kernel
theorem dL_cell_24 : decode cL_cell 24 = .ok (.arraylength, 1) := by decide +kernel
theorem dL_cell_25 : decode cL_cell 25 = .ok (.idiv, 1) := by decide +kernel
theorem dL_cell_26 : decode cL_cell 26 = .ok (.imul, 1) := by decide +kernel
theorem dL_cell_27 : decode cL_cell 27 = .ok (.bipush 17, 2) := by decide +kernel
theorem dL_cell_29 : decode cL_cell 29 = .ok (.irem, 1) := by decide +kernel
theorem dL_cell_30 : decode cL_cell 30 = .ok (.iushr, 1) := by decide +kernel
theorem dL_cell_31 : decode cL_cell 31 = .ok (.ireturn, 1) := by decide +kernel
theorem dL_addFilter_0 : decode cL_addFilter 0 = .ok (.aload_n 0, 1) := by decide +kernel
theorem dL_addFilter_1 : decode cL_addFilter 1 = .ok (.iload_n 1, 1) := by decide +kernel
theorem dL_addFilter_2 : decode cL_addFilter 2 = .ok (.iload_n 2, 1) := by decide +kernel
theorem dL_addFilter_3 : decode cL_addFilter 3 = .ok (.invokevirtual 7, 3) := by decide +kernel
theorem dL_addFilter_6 : decode cL_addFilter 6 = .ok (.ireturn, 1) := by decide +kernel
theorem dL_addFilter_7 : decode cL_addFilter 7 = .ok (.astore_n 3, 1) := by decide +kernel
theorem dL_addFilter_8 : decode cL_addFilter 8 = .ok (.iconst (-1), 1) := by decide +kernel
theorem dL_addFilter_9 : decode cL_addFilter 9 = .ok (.ireturn, 1) := by decide +kernel
theorem dL_addFilter_10 : decode cL_addFilter 10 = .ok (.astore_n 3, 1) := by decide +kernel
theorem dL_addFilter_11 : decode cL_addFilter 11 = .ok (.bipush (-2), 2) := by decide +kernel
theorem dL_addFilter_13 : decode cL_addFilter 13 = .ok (.ireturn, 1) := by decide +kernel
theorem dL_insertFilter_0 : decode cL_insertFilter 0 = .ok (.aload_n 0, 1) := by decide +kernel
theorem dL_insertFilter_1 : decode cL_insertFilter 1 = .ok (.iload_n 1, 1) := by decide +kernel
theorem dL_insertFilter_2 : decode cL_insertFilter 2 = .ok (.iload_n 2, 1) := by decide +kernel
theorem dL_insertFilter_3 : decode cL_insertFilter 3 = .ok (.iload_n 3, 1) := by decide +kernel
theorem dL_insertFilter_4 : decode cL_insertFilter 4 = .ok (.invokevirtual 17, 3) := by decide +kernel
theorem dL_insertFilter_7 : decode cL_insertFilter 7 = .ok (.ireturn, 1) := by decide +kernel
theorem dL_insertFilter_8 : decode cL_insertFilter 8 = .ok (.astore 4, 2) := by decide +kernel
theorem dL_insertFilter_10 : decode cL_insertFilter 10 = .ok (.iconst (-1), 1) := by decide +kernel
theorem dL_insertFilter_11 : decode cL_insertFilter 11 = .ok (.ireturn, 1) := by decide +kernel
theorem dL_insertFilter_12 : decode cL_insertFilter 12 = .ok (.astore 4, 2) := by decide +kernel
theorem dL_insertFilter_14 : decode cL_insertFilter 14 = .ok (.bipush (-2), 2) := by decide +kernel
theorem dL_insertFilter_16 : decode cL_insertFilter 16 = .ok (.ireturn, 1) := by decide +kernel
theorem dL_insertFilter_17 : decode cL_insertFilter 17 = .ok (.astore 4, 2) := by decide +kernel
theorem dL_insertFilter_19 : decode cL_insertFilter 19 = .ok (.bipush (-3), 2) := by decide +kernel
theorem dL_insertFilter_21 : decode cL_insertFilter 21 = .ok (.ireturn, 1) := by decide +kernel
theorem dL_removeFilter_0 : decode cL_removeFilter 0 = .ok (.aload_n 0, 1) := by decide +kernel
theorem dL_removeFilter_1 : decode cL_removeFilter 1 = .ok (.iload_n 1, 1) := by decide +kernel
theorem dL_removeFilter_2 : decode cL_removeFilter 2 = .ok (.invokevirtual 23, 3) := by decide +kernel
theorem dL_removeFilter_5 : decode cL_removeFilter 5 = .ok (.ireturn, 1) := by decide +kernel
theorem dL_removeFilter_6 : decode cL_removeFilter 6 = .ok (.astore_n 2, 1) := by decide +kernel
theorem dL_removeFilter_7 : decode cL_removeFilter 7 = .ok (.iconst (-1), 1) := by decide +kernel
theorem dL_removeFilter_8 : decode cL_removeFilter 8 = .ok (.ireturn, 1) := by decide +kernel
theorem dL_swapFilters_0 : decode cL_swapFilters 0 = .ok (.aload_n 0, 1) := by decide +kernel
theorem dL_swapFilters_1 : decode cL_swapFilters 1 = .ok (.iload_n 1, 1) := by decide +kernel
theorem dL_swapFilters_2 : decode cL_swapFilters 2 = .ok (.iload_n 2, 1) := by decide +kernel
theorem dL_swapFilters_3 : decode cL_swapFilters 3 = .ok (.invokevirtual 27, 3) := by decide +kernel
theorem dL_swapFilters_6 : decode cL_swapFilters 6 = .ok (.ireturn, 1) := by decide +kernel
theorem dL_swapFilters_7 : decode cL_swapFilters 7 = .ok (.astore_n 3, 1) := by decide +kernel
theorem dL_swapFilters_8 : decode cL_swapFilters 8 = .ok (.iconst (-1), 1) := by decide +kernel
theorem dL_swapFilters_9 : decode cL_swapFilters 9 = .ok (.ireturn, 1) := by decide +kernel
theorem dL_filterKind_0 : decode cL_filterKind 0 = .ok (.aload_n 0, 1) := by decide +kernel
theorem dL_filterKind_1 : decode cL_filterKind 1 = .ok (.iload_n 1, 1) := by decide +kernel
theorem dL_filterKind_2 : decode cL_filterKind 2 = .ok (.invokevirtual 31, 3) := by decide +kernel
theorem dL_filterKind_5 : decode cL_filterKind 5 = .ok (.ireturn, 1) := by decide +kernel
theorem dL_filterKind_6 : decode cL_filterKind 6 = .ok (.astore_n 2, 1) := by decide +kernel
theorem dL_filterKind_7 : decode cL_filterKind 7 = .ok (.iconst (-1), 1) := by decide +kernel
theorem dL_filterKind_8 : decode cL_filterKind 8 = .ok (.ireturn, 1) := by decide +kernel
theorem dL_filterParameter_0 : decode cL_filterParameter 0 = .ok (.aload_n 0, 1) := by decide +kernel
theorem dL_filterParameter_1 : decode cL_filterParameter 1 = .ok (.iload_n 1, 1) := by decide +kernel
theorem dL_filterParameter_2 : decode cL_filterParameter 2 = .ok (.invokevirtual 35, 3) := by decide +kernel
theorem dL_filterParameter_5 : decode cL_filterParameter 5 = .ok (.ireturn, 1) := by decide +kernel
theorem dL_filterParameter_6 : decode cL_filterParameter 6 = .ok (.astore_n 2, 1) := by decide +kernel
theorem dL_filterParameter_7 : decode cL_filterParameter 7 = .ok (.iconst (-1), 1) := by decide +kernel
theorem dL_filterParameter_8 : decode cL_filterParameter 8 = .ok (.ireturn, 1) := by decide +kernel
theorem dL_addNote_0 : decode cL_addNote 0 = .ok (.aload_n 0, 1) := by decide +kernel
theorem dL_addNote_1 : decode cL_addNote 1 = .ok (.iload_n 1, 1) := by decide +kernel
theorem dL_addNote_2 : decode cL_addNote 2 = .ok (.iload_n 2, 1) := by decide +kernel
theorem dL_addNote_3 : decode cL_addNote 3 = .ok (.iload_n 3, 1) := by decide +kernel
theorem dL_addNote_4 : decode cL_addNote 4 = .ok (.iload 4, 2) := by decide +kernel
theorem dL_addNote_6 : decode cL_addNote 6 = .ok (.invokevirtual 38, 3) := by decide +kernel
theorem dL_addNote_9 : decode cL_addNote 9 = .ok (.ireturn, 1) := by decide +kernel
theorem dL_addNote_10 : decode cL_addNote 10 = .ok (.astore 5, 2) := by decide +kernel
theorem dL_addNote_12 : decode cL_addNote 12 = .ok (.iconst (-1), 1) := by decide +kernel
theorem dL_addNote_13 : decode cL_addNote 13 = .ok (.ireturn, 1) := by decide +kernel
theorem dL_addNote_14 : decode cL_addNote 14 = .ok (.astore 5, 2) := by decide +kernel
theorem dL_addNote_16 : decode cL_addNote 16 = .ok (.bipush (-2), 2) := by decide +kernel
theorem dL_addNote_18 : decode cL_addNote 18 = .ok (.ireturn, 1) := by decide +kernel
theorem dL_addNote_19 : decode cL_addNote 19 = .ok (.astore 5, 2) := by decide +kernel
theorem dL_addNote_21 : decode cL_addNote 21 = .ok (.bipush (-3), 2) := by decide +kernel
theorem dL_addNote_23 : decode cL_addNote 23 = .ok (.ireturn, 1) := by decide +kernel
theorem dL_removeNote_0 : decode cL_removeNote 0 = .ok (.aload_n 0, 1) := by decide +kernel
theorem dL_removeNote_1 : decode cL_removeNote 1 = .ok (.iload_n 1, 1) := by decide +kernel
theorem dL_removeNote_2 : decode cL_removeNote 2 = .ok (.invokevirtual 42, 3) := by decide +kernel
theorem dL_removeNote_5 : decode cL_removeNote 5 = .ok (.ireturn, 1) := by decide +kernel
theorem dL_removeNote_6 : decode cL_removeNote 6 = .ok (.astore_n 2, 1) := by decide +kernel
theorem dL_removeNote_7 : decode cL_removeNote 7 = .ok (.iconst (-1), 1) := by decide +kernel
theorem dL_removeNote_8 : decode cL_removeNote 8 = .ok (.ireturn, 1) := by decide +kernel
theorem dL_removeNote_9 : decode cL_removeNote 9 = .ok (.astore_n 2, 1) := by decide +kernel
theorem dL_removeNote_10 : decode cL_removeNote 10 = .ok (.bipush (-2), 2) := by decide +kernel
theorem dL_removeNote_12 : decode cL_removeNote 12 = .ok (.ireturn, 1) := by decide +kernel
theorem dL_noteCount_0 : decode cL_noteCount 0 = .ok (.aload_n 0, 1) := by decide +kernel
theorem dL_noteCount_1 : decode cL_noteCount 1 = .ok (.iload_n 1, 1) := by decide +kernel
theorem dL_noteCount_2 : decode cL_noteCount 2 = .ok (.invokevirtual 47, 3) := by decide +kernel
theorem dL_noteCount_5 : decode cL_noteCount 5 = .ok (.ireturn, 1) := by decide +kernel
theorem dL_noteCount_6 : decode cL_noteCount 6 = .ok (.astore_n 2, 1) := by decide +kernel
theorem dL_noteCount_7 : decode cL_noteCount 7 = .ok (.iconst (-1), 1) := by decide +kernel
theorem dL_noteCount_8 : decode cL_noteCount 8 = .ok (.ireturn, 1) := by decide +kernel
theorem dL_songLength_0 : decode cL_songLength 0 = .ok (.aload_n 0, 1) := by decide +kernel
theorem dL_songLength_1 : decode cL_songLength 1 = .ok (.iload_n 1, 1) := by decide +kernel
theorem dL_songLength_2 : decode cL_songLength 2 = .ok (.invokevirtual 50, 3) := by decide +kernel
theorem dL_songLength_5 : decode cL_songLength 5 = .ok (.ireturn, 1) := by decide +kernel
theorem dL_songLength_6 : decode cL_songLength 6 = .ok (.astore_n 2, 1) := by decide +kernel
theorem dL_songLength_7 : decode cL_songLength 7 = .ok (.iconst (-1), 1) := by decide +kernel
theorem dL_songLength_8 : decode cL_songLength 8 = .ok (.ireturn, 1) := by decide +kernel
theorem dL_rawSample_0 : decode cL_rawSample 0 = .ok (.aload_n 0, 1) := by decide +kernel
theorem dL_rawSample_1 : decode cL_rawSample 1 = .ok (.iload_n 1, 1) := by decide +kernel
theorem dL_rawSample_2 : decode cL_rawSample 2 = .ok (.iload_n 2, 1) := by decide +kernel
theorem dL_rawSample_3 : decode cL_rawSample 3 = .ok (.invokevirtual 53, 3) := by decide +kernel
theorem dL_rawSample_6 : decode cL_rawSample 6 = .ok (.ireturn, 1) := by decide +kernel
theorem dL_rawSample_7 : decode cL_rawSample 7 = .ok (.astore_n 3, 1) := by decide +kernel
theorem dL_rawSample_8 : decode cL_rawSample 8 = .ok (.iconst (-1), 1) := by decide +kernel
theorem dL_rawSample_9 : decode cL_rawSample 9 = .ok (.ireturn, 1) := by decide +kernel
theorem dL_rawSample_10 : decode cL_rawSample 10 = .ok (.astore_n 3, 1) := by decide +kernel
theorem dL_rawSample_11 : decode cL_rawSample 11 = .ok (.bipush (-2), 2) := by decide +kernel
theorem dL_rawSample_13 : decode cL_rawSample 13 = .ok (.ireturn, 1) := by decide +kernel
theorem dL_sample_0 : decode cL_sample 0 = .ok (.aload_n 0, 1) := by decide +kernel
theorem dL_sample_1 : decode cL_sample 1 = .ok (.iload_n 1, 1) := by decide +kernel
theorem dL_sample_2 : decode cL_sample 2 = .ok (.iload_n 2, 1) := by decide +kernel
theorem dL_sample_3 : decode cL_sample 3 = .ok (.invokevirtual 56, 3) := by decide +kernel
theorem dL_sample_6 : decode cL_sample 6 = .ok (.ireturn, 1) := by decide +kernel
theorem dL_sample_7 : decode cL_sample 7 = .ok (.astore_n 3, 1) := by decide +kernel
theorem dL_sample_8 : decode cL_sample 8 = .ok (.iconst (-1), 1) := by decide +kernel
theorem dL_sample_9 : decode cL_sample 9 = .ok (.ireturn, 1) := by decide +kernel
theorem dL_sample_10 : decode cL_sample 10 = .ok (.astore_n 3, 1) := by decide +kernel
theorem dL_sample_11 : decode cL_sample 11 = .ok (.bipush (-2), 2) := by decide +kernel
theorem dL_sample_13 : decode cL_sample 13 = .ok (.ireturn, 1) := by decide +kernel
theorem dL_sampleByFilter_0 : decode cL_sampleByFilter 0 = .ok (.aload_n 0, 1) := by decide +kernel
theorem dL_sampleByFilter_1 : decode cL_sampleByFilter 1 = .ok (.iload_n 1, 1) := by decide +kernel
theorem dL_sampleByFilter_2 : decode cL_sampleByFilter 2 = .ok (.iload_n 2, 1) := by decide +kernel
theorem dL_sampleByFilter_3 : decode cL_sampleByFilter 3 = .ok (.invokevirtual 59, 3) := by decide +kernel
theorem dL_sampleByFilter_6 : decode cL_sampleByFilter 6 = .ok (.ireturn, 1) := by decide +kernel
theorem dL_sampleByFilter_7 : decode cL_sampleByFilter 7 = .ok (.astore_n 3, 1) := by decide +kernel
theorem dL_sampleByFilter_8 : decode cL_sampleByFilter 8 = .ok (.iconst (-1), 1) := by decide +kernel
theorem dL_sampleByFilter_9 : decode cL_sampleByFilter 9 = .ok (.ireturn, 1) := by decide +kernel
theorem dL_sampleByFilter_10 : decode cL_sampleByFilter 10 = .ok (.astore_n 3, 1) := by decide +kernel
theorem dL_sampleByFilter_11 : decode cL_sampleByFilter 11 = .ok (.bipush (-2), 2) := by decide +kernel
theorem dL_sampleByFilter_13 : decode cL_sampleByFilter 13 = .ok (.ireturn, 1) := by decide +kernel
theorem dL_mixedSample_0 : decode cL_mixedSample 0 = .ok (.aload_n 0, 1) := by decide +kernel
theorem dL_mixedSample_1 : decode cL_mixedSample 1 = .ok (.iload_n 1, 1) := by decide +kernel
theorem dL_mixedSample_2 : decode cL_mixedSample 2 = .ok (.iload_n 2, 1) := by decide +kernel
theorem dL_mixedSample_3 : decode cL_mixedSample 3 = .ok (.iload_n 3, 1) := by decide +kernel
theorem dL_mixedSample_4 : decode cL_mixedSample 4 = .ok (.invokevirtual 62, 3) := by decide +kernel
theorem dL_mixedSample_7 : decode cL_mixedSample 7 = .ok (.ireturn, 1) := by decide +kernel
theorem dL_mixedSample_8 : decode cL_mixedSample 8 = .ok (.astore 4, 2) := by decide +kernel
theorem dL_mixedSample_10 : decode cL_mixedSample 10 = .ok (.iconst (-1), 1) := by decide +kernel
theorem dL_mixedSample_11 : decode cL_mixedSample 11 = .ok (.ireturn, 1) := by decide +kernel
theorem dL_mixedSample_12 : decode cL_mixedSample 12 = .ok (.astore 4, 2) := by decide +kernel
theorem dL_mixedSample_14 : decode cL_mixedSample 14 = .ok (.bipush (-2), 2) := by decide +kernel
theorem dL_mixedSample_16 : decode cL_mixedSample 16 = .ok (.ireturn, 1) := by decide +kernel
theorem dL_peak_0 : decode cL_peak 0 = .ok (.aload_n 0, 1) := by decide +kernel
theorem dL_peak_1 : decode cL_peak 1 = .ok (.iload_n 1, 1) := by decide +kernel
theorem dL_peak_2 : decode cL_peak 2 = .ok (.invokevirtual 66, 3) := by decide +kernel
theorem dL_peak_5 : decode cL_peak 5 = .ok (.ireturn, 1) := by decide +kernel
theorem dL_peak_6 : decode cL_peak 6 = .ok (.astore_n 2, 1) := by decide +kernel
theorem dL_peak_7 : decode cL_peak 7 = .ok (.iconst (-1), 1) := by decide +kernel
theorem dL_peak_8 : decode cL_peak 8 = .ok (.ireturn, 1) := by decide +kernel
theorem dL_peak_9 : decode cL_peak 9 = .ok (.astore_n 2, 1) := by decide +kernel
theorem dL_peak_10 : decode cL_peak 10 = .ok (.bipush (-2), 2) := by decide +kernel
theorem dL_peak_12 : decode cL_peak 12 = .ok (.ireturn, 1) := by decide +kernel
theorem dL_energy_0 : decode cL_energy 0 = .ok (.aload_n 0, 1) := by decide +kernel
theorem dL_energy_1 : decode cL_energy 1 = .ok (.iload_n 1, 1) := by decide +kernel
theorem dL_energy_2 : decode cL_energy 2 = .ok (.invokevirtual 69, 3) := by decide +kernel
theorem dL_energy_5 : decode cL_energy 5 = .ok (.lreturn, 1) := by decide +kernel
theorem dL_energy_6 : decode cL_energy 6 = .ok (.astore_n 2, 1) := by decide +kernel
theorem dL_energy_7 : decode cL_energy 7 = .ok (.ldc2_w 73, 3) := by decide +kernel
theorem dL_energy_10 : decode cL_energy 10 = .ok (.lreturn, 1) := by decide +kernel
theorem dL_signChanges_0 : decode cL_signChanges 0 = .ok (.aload_n 0, 1) := by decide +kernel
theorem dL_signChanges_1 : decode cL_signChanges 1 = .ok (.iload_n 1, 1) := by decide +kernel
theorem dL_signChanges_2 : decode cL_signChanges 2 = .ok (.invokevirtual 75, 3) := by decide +kernel
theorem dL_signChanges_5 : decode cL_signChanges 5 = .ok (.ireturn, 1) := by decide +kernel
theorem dL_signChanges_6 : decode cL_signChanges 6 = .ok (.astore_n 2, 1) := by decide +kernel
theorem dL_signChanges_7 : decode cL_signChanges 7 = .ok (.iconst (-1), 1) := by decide +kernel
theorem dL_signChanges_8 : decode cL_signChanges 8 = .ok (.ireturn, 1) := by decide +kernel
theorem dL_addTank_0 : decode cL_addTank 0 = .ok (.aload_n 0, 1) := by decide +kernel
theorem dL_addTank_1 : decode cL_addTank 1 = .ok (.iload_n 1, 1) := by decide +kernel
theorem dL_addTank_2 : decode cL_addTank 2 = .ok (.invokevirtual 78, 3) := by decide +kernel
theorem dL_addTank_5 : decode cL_addTank 5 = .ok (.ireturn, 1) := by decide +kernel
theorem dL_addTank_6 : decode cL_addTank 6 = .ok (.astore_n 2, 1) := by decide +kernel
theorem dL_addTank_7 : decode cL_addTank 7 = .ok (.iconst (-1), 1) := by decide +kernel
theorem dL_addTank_8 : decode cL_addTank 8 = .ok (.ireturn, 1) := by decide +kernel
theorem dL_addTank_9 : decode cL_addTank 9 = .ok (.astore_n 2, 1) := by decide +kernel
theorem dL_addTank_10 : decode cL_addTank 10 = .ok (.bipush (-2), 2) := by decide +kernel
theorem dL_addTank_12 : decode cL_addTank 12 = .ok (.ireturn, 1) := by decide +kernel
theorem dL_setTuning_0 : decode cL_setTuning 0 = .ok (.aload_n 0, 1) := by decide +kernel
theorem dL_setTuning_1 : decode cL_setTuning 1 = .ok (.iload_n 1, 1) := by decide +kernel
theorem dL_setTuning_2 : decode cL_setTuning 2 = .ok (.iload_n 2, 1) := by decide +kernel
theorem dL_setTuning_3 : decode cL_setTuning 3 = .ok (.invokevirtual 81, 3) := by decide +kernel
theorem dL_setTuning_6 : decode cL_setTuning 6 = .ok (.ireturn, 1) := by decide +kernel
theorem dL_setTuning_7 : decode cL_setTuning 7 = .ok (.astore_n 3, 1) := by decide +kernel
theorem dL_setTuning_8 : decode cL_setTuning 8 = .ok (.iconst (-1), 1) := by decide +kernel
theorem dL_setTuning_9 : decode cL_setTuning 9 = .ok (.ireturn, 1) := by decide +kernel
theorem dL_setTuning_10 : decode cL_setTuning 10 = .ok (.astore_n 3, 1) := by decide +kernel
theorem dL_setTuning_11 : decode cL_setTuning 11 = .ok (.bipush (-2), 2) := by decide +kernel
theorem dL_setTuning_13 : decode cL_setTuning 13 = .ok (.ireturn, 1) := by decide +kernel
theorem dL_pour_0 : decode cL_pour 0 = .ok (.aload_n 0, 1) := by decide +kernel
theorem dL_pour_1 : decode cL_pour 1 = .ok (.iload_n 1, 1) := by decide +kernel
theorem dL_pour_2 : decode cL_pour 2 = .ok (.invokevirtual 84, 3) := by decide +kernel
theorem dL_pour_5 : decode cL_pour 5 = .ok (.ireturn, 1) := by decide +kernel
theorem dL_pour_6 : decode cL_pour 6 = .ok (.astore_n 2, 1) := by decide +kernel
theorem dL_pour_7 : decode cL_pour 7 = .ok (.iconst (-1), 1) := by decide +kernel
theorem dL_pour_8 : decode cL_pour 8 = .ok (.ireturn, 1) := by decide +kernel
theorem dL_pour_9 : decode cL_pour 9 = .ok (.astore_n 2, 1) := by decide +kernel
theorem dL_pour_10 : decode cL_pour 10 = .ok (.bipush (-2), 2) := by decide +kernel
theorem dL_pour_12 : decode cL_pour 12 = .ok (.ireturn, 1) := by decide +kernel
theorem dL_drain_0 : decode cL_drain 0 = .ok (.aload_n 0, 1) := by decide +kernel
theorem dL_drain_1 : decode cL_drain 1 = .ok (.iload_n 1, 1) := by decide +kernel
theorem dL_drain_2 : decode cL_drain 2 = .ok (.iload_n 2, 1) := by decide +kernel
theorem dL_drain_3 : decode cL_drain 3 = .ok (.invokevirtual 87, 3) := by decide +kernel
theorem dL_drain_6 : decode cL_drain 6 = .ok (.ireturn, 1) := by decide +kernel
theorem dL_drain_7 : decode cL_drain 7 = .ok (.astore_n 3, 1) := by decide +kernel
theorem dL_drain_8 : decode cL_drain 8 = .ok (.iconst (-1), 1) := by decide +kernel
theorem dL_drain_9 : decode cL_drain 9 = .ok (.ireturn, 1) := by decide +kernel
theorem dL_drain_10 : decode cL_drain 10 = .ok (.astore_n 3, 1) := by decide +kernel
theorem dL_drain_11 : decode cL_drain 11 = .ok (.bipush (-2), 2) := by decide +kernel
theorem dL_drain_13 : decode cL_drain 13 = .ok (.ireturn, 1) := by decide +kernel
theorem dL_drain_14 : decode cL_drain 14 = .ok (.astore_n 3, 1) := by decide +kernel
theorem dL_drain_15 : decode cL_drain 15 = .ok (.bipush (-3), 2) := by decide +kernel
theorem dL_drain_17 : decode cL_drain 17 = .ok (.ireturn, 1) := by decide +kernel
theorem dL_capacity_0 : decode cL_capacity 0 = .ok (.aload_n 0, 1) := by decide +kernel
theorem dL_capacity_1 : decode cL_capacity 1 = .ok (.iload_n 1, 1) := by decide +kernel
theorem dL_capacity_2 : decode cL_capacity 2 = .ok (.invokevirtual 90, 3) := by decide +kernel
theorem dL_capacity_5 : decode cL_capacity 5 = .ok (.ireturn, 1) := by decide +kernel
theorem dL_capacity_6 : decode cL_capacity 6 = .ok (.astore_n 2, 1) := by decide +kernel
theorem dL_capacity_7 : decode cL_capacity 7 = .ok (.iconst (-1), 1) := by decide +kernel
theorem dL_capacity_8 : decode cL_capacity 8 = .ok (.ireturn, 1) := by decide +kernel
theorem dL_tuning_0 : decode cL_tuning 0 = .ok (.aload_n 0, 1) := by decide +kernel
theorem dL_tuning_1 : decode cL_tuning 1 = .ok (.iload_n 1, 1) := by decide +kernel
theorem dL_tuning_2 : decode cL_tuning 2 = .ok (.invokevirtual 93, 3) := by decide +kernel
theorem dL_tuning_5 : decode cL_tuning 5 = .ok (.ireturn, 1) := by decide +kernel
theorem dL_tuning_6 : decode cL_tuning 6 = .ok (.astore_n 2, 1) := by decide +kernel
theorem dL_tuning_7 : decode cL_tuning 7 = .ok (.iconst (-1), 1) := by decide +kernel
theorem dL_tuning_8 : decode cL_tuning 8 = .ok (.ireturn, 1) := by decide +kernel
theorem dL_level_0 : decode cL_level 0 = .ok (.aload_n 0, 1) := by decide +kernel
theorem dL_level_1 : decode cL_level 1 = .ok (.iload_n 1, 1) := by decide +kernel
theorem dL_level_2 : decode cL_level 2 = .ok (.invokevirtual 96, 3) := by decide +kernel
theorem dL_level_5 : decode cL_level 5 = .ok (.ireturn, 1) := by decide +kernel
theorem dL_level_6 : decode cL_level 6 = .ok (.astore_n 2, 1) := by decide +kernel
theorem dL_level_7 : decode cL_level 7 = .ok (.iconst (-1), 1) := by decide +kernel
theorem dL_level_8 : decode cL_level 8 = .ok (.ireturn, 1) := by decide +kernel
theorem dL_frameLoudness_0 : decode cL_frameLoudness 0 = .ok (.aload_n 0, 1) := by decide +kernel
theorem dL_frameLoudness_1 : decode cL_frameLoudness 1 = .ok (.iload_n 1, 1) := by decide +kernel
theorem dL_frameLoudness_2 : decode cL_frameLoudness 2 = .ok (.iload_n 2, 1) := by decide +kernel
theorem dL_frameLoudness_3 : decode cL_frameLoudness 3 = .ok (.invokevirtual 99, 3) := by decide +kernel
theorem dL_frameLoudness_6 : decode cL_frameLoudness 6 = .ok (.ireturn, 1) := by decide +kernel
theorem dL_frameLoudness_7 : decode cL_frameLoudness 7 = .ok (.astore_n 3, 1) := by decide +kernel
theorem dL_frameLoudness_8 : decode cL_frameLoudness 8 = .ok (.iconst (-1), 1) := by decide +kernel
theorem dL_frameLoudness_9 : decode cL_frameLoudness 9 = .ok (.ireturn, 1) := by decide +kernel
theorem dL_frameLoudness_10 : decode cL_frameLoudness 10 = .ok (.astore_n 3, 1) := by decide +kernel
theorem dL_frameLoudness_11 : decode cL_frameLoudness 11 = .ok (.bipush (-2), 2) := by decide +kernel
theorem dL_frameLoudness_13 : decode cL_frameLoudness 13 = .ok (.ireturn, 1) := by decide +kernel
theorem dL_frameCount_0 : decode cL_frameCount 0 = .ok (.aload_n 0, 1) := by decide +kernel
theorem dL_frameCount_1 : decode cL_frameCount 1 = .ok (.iload_n 1, 1) := by decide +kernel
theorem dL_frameCount_2 : decode cL_frameCount 2 = .ok (.invokevirtual 102, 3) := by decide +kernel
theorem dL_frameCount_5 : decode cL_frameCount 5 = .ok (.ireturn, 1) := by decide +kernel
theorem dL_frameCount_6 : decode cL_frameCount 6 = .ok (.astore_n 2, 1) := by decide +kernel
theorem dL_frameCount_7 : decode cL_frameCount 7 = .ok (.iconst (-1), 1) := by decide +kernel
theorem dL_frameCount_8 : decode cL_frameCount 8 = .ok (.ireturn, 1) := by decide +kernel
theorem dL_dropsFor_0 : decode cL_dropsFor 0 = .ok (.aload_n 0, 1) := by decide +kernel
theorem dL_dropsFor_1 : decode cL_dropsFor 1 = .ok (.iload_n 1, 1) := by decide +kernel
theorem dL_dropsFor_2 : decode cL_dropsFor 2 = .ok (.invokevirtual 105, 3) := by decide +kernel
theorem dL_dropsFor_5 : decode cL_dropsFor 5 = .ok (.ireturn, 1) := by decide +kernel
theorem dL_dropsFor_6 : decode cL_dropsFor 6 = .ok (.astore_n 2, 1) := by decide +kernel
theorem dL_dropsFor_7 : decode cL_dropsFor 7 = .ok (.iconst (-1), 1) := by decide +kernel
theorem dL_dropsFor_8 : decode cL_dropsFor 8 = .ok (.ireturn, 1) := by decide +kernel
theorem dL_dropsByLevels_0 : decode cL_dropsByLevels 0 = .ok (.aload_n 0, 1) := by decide +kernel
theorem dL_dropsByLevels_1 : decode cL_dropsByLevels 1 = .ok (.iload_n 1, 1) := by decide +kernel
theorem dL_dropsByLevels_2 : decode cL_dropsByLevels 2 = .ok (.invokevirtual 108, 3) := by decide +kernel
theorem dL_dropsByLevels_5 : decode cL_dropsByLevels 5 = .ok (.ireturn, 1) := by decide +kernel
theorem dL_dropsByLevels_6 : decode cL_dropsByLevels 6 = .ok (.astore_n 2, 1) := by decide +kernel
theorem dL_dropsByLevels_7 : decode cL_dropsByLevels 7 = .ok (.iconst (-1), 1) := by decide +kernel
theorem dL_dropsByLevels_8 : decode cL_dropsByLevels 8 = .ok (.ireturn, 1) := by decide +kernel
theorem dL_tankAtRank_0 : decode cL_tankAtRank 0 = .ok (.aload_n 0, 1) := by decide +kernel
theorem dL_tankAtRank_1 : decode cL_tankAtRank 1 = .ok (.iload_n 1, 1) := by decide +kernel
theorem dL_tankAtRank_2 : decode cL_tankAtRank 2 = .ok (.invokevirtual 111, 3) := by decide +kernel
theorem dL_tankAtRank_5 : decode cL_tankAtRank 5 = .ok (.ireturn, 1) := by decide +kernel
theorem dL_tankAtRank_6 : decode cL_tankAtRank 6 = .ok (.astore_n 2, 1) := by decide +kernel
theorem dL_tankAtRank_7 : decode cL_tankAtRank 7 = .ok (.iconst (-1), 1) := by decide +kernel
theorem dL_tankAtRank_8 : decode cL_tankAtRank 8 = .ok (.ireturn, 1) := by decide +kernel
theorem dL_append_0 : decode cL_append 0 = .ok (.aload_n 0, 1) := by decide +kernel
theorem dL_append_1 : decode cL_append 1 = .ok (.iload_n 1, 1) := by decide +kernel
theorem dL_append_2 : decode cL_append 2 = .ok (.invokevirtual 114, 3) := by decide +kernel
theorem dL_append_5 : decode cL_append 5 = .ok (.ireturn, 1) := by decide +kernel
theorem dL_append_6 : decode cL_append 6 = .ok (.astore_n 2, 1) := by decide +kernel
theorem dL_append_7 : decode cL_append 7 = .ok (.iconst (-1), 1) := by decide +kernel
theorem dL_append_8 : decode cL_append 8 = .ok (.ireturn, 1) := by decide +kernel
theorem dL_append_9 : decode cL_append 9 = .ok (.astore_n 2, 1) := by decide +kernel
theorem dL_append_10 : decode cL_append 10 = .ok (.bipush (-2), 2) := by decide +kernel
theorem dL_append_12 : decode cL_append 12 = .ok (.ireturn, 1) := by decide +kernel
theorem dL_run_0 : decode cL_run 0 = .ok (.aload_n 0, 1) := by decide +kernel
theorem dL_run_1 : decode cL_run 1 = .ok (.invokevirtual 118, 3) := by decide +kernel
theorem dL_run_4 : decode cL_run 4 = .ok (.ireturn, 1) := by decide +kernel
theorem dL_run_5 : decode cL_run 5 = .ok (.astore_n 1, 1) := by decide +kernel
theorem dL_run_6 : decode cL_run 6 = .ok (.iconst (-1), 1) := by decide +kernel
theorem dL_run_7 : decode cL_run 7 = .ok (.ireturn, 1) := by decide +kernel
theorem dL_run_8 : decode cL_run 8 = .ok (.astore_n 1, 1) := by decide +kernel
theorem dL_run_9 : decode cL_run 9 = .ok (.bipush (-2), 2) := by decide +kernel
theorem dL_run_11 : decode cL_run 11 = .ok (.ireturn, 1) := by decide +kernel
theorem dL_errorPosition_0 : decode cL_errorPosition 0 = .ok (.aload_n 0, 1) := by decide +kernel
theorem dL_errorPosition_1 : decode cL_errorPosition 1 = .ok (.invokevirtual 122, 3) := by decide +kernel
theorem dL_errorPosition_4 : decode cL_errorPosition 4 = .ok (.ireturn, 1) := by decide +kernel
theorem dL_errorPosition_5 : decode cL_errorPosition 5 = .ok (.astore_n 1, 1) := by decide +kernel
theorem dL_errorPosition_6 : decode cL_errorPosition 6 = .ok (.iconst (-1), 1) := by decide +kernel
theorem dL_errorPosition_7 : decode cL_errorPosition 7 = .ok (.ireturn, 1) := by decide +kernel
theorem dL_failedCommand_0 : decode cL_failedCommand 0 = .ok (.aload_n 0, 1) := by decide +kernel
theorem dL_failedCommand_1 : decode cL_failedCommand 1 = .ok (.invokevirtual 125, 3) := by decide +kernel
theorem dL_failedCommand_4 : decode cL_failedCommand 4 = .ok (.ireturn, 1) := by decide +kernel
theorem dL_failedCommand_5 : decode cL_failedCommand 5 = .ok (.astore_n 1, 1) := by decide +kernel
theorem dL_failedCommand_6 : decode cL_failedCommand 6 = .ok (.iconst (-1), 1) := by decide +kernel
theorem dL_failedCommand_7 : decode cL_failedCommand 7 = .ok (.ireturn, 1) := by decide +kernel
theorem dL_describeTank_0 : decode cL_describeTank 0 = .ok (.aload_n 0, 1) := by decide +kernel
theorem dL_describeTank_1 : decode cL_describeTank 1 = .ok (.iload_n 1, 1) := by decide +kernel
theorem dL_describeTank_2 : decode cL_describeTank 2 = .ok (.invokevirtual 128, 3) := by decide +kernel
theorem dL_describeTank_5 : decode cL_describeTank 5 = .ok (.ireturn, 1) := by decide +kernel
theorem dL_describeTank_6 : decode cL_describeTank 6 = .ok (.astore_n 2, 1) := by decide +kernel
theorem dL_describeTank_7 : decode cL_describeTank 7 = .ok (.iconst (-1), 1) := by decide +kernel
theorem dL_describeTank_8 : decode cL_describeTank 8 = .ok (.ireturn, 1) := by decide +kernel
theorem dL_lineAt_0 : decode cL_lineAt 0 = .ok (.aload_n 0, 1) := by decide +kernel
theorem dL_lineAt_1 : decode cL_lineAt 1 = .ok (.iload_n 1, 1) := by decide +kernel
theorem dL_lineAt_2 : decode cL_lineAt 2 = .ok (.invokevirtual 131, 3) := by decide +kernel
theorem dL_lineAt_5 : decode cL_lineAt 5 = .ok (.ireturn, 1) := by decide +kernel
theorem dL_lineAt_6 : decode cL_lineAt 6 = .ok (.astore_n 2, 1) := by decide +kernel
theorem dL_lineAt_7 : decode cL_lineAt 7 = .ok (.iconst (-1), 1) := by decide +kernel
theorem dL_lineAt_8 : decode cL_lineAt 8 = .ok (.ireturn, 1) := by decide +kernel
theorem dL_meanLevel_0 : decode cL_meanLevel 0 = .ok (.aload_n 0, 1) := by decide +kernel
theorem dL_meanLevel_1 : decode cL_meanLevel 1 = .ok (.iload_n 1, 1) := by decide +kernel
theorem dL_meanLevel_2 : decode cL_meanLevel 2 = .ok (.invokevirtual 134, 3) := by decide +kernel
theorem dL_meanLevel_5 : decode cL_meanLevel 5 = .ok (.dreturn, 1) := by decide +kernel
theorem dL_meanLevel_6 : decode cL_meanLevel 6 = .ok (.astore_n 2, 1) := by decide +kernel
theorem dL_meanLevel_7 : decode cL_meanLevel 7 = .ok (.ldc2_w 138, 3) := by decide +kernel
theorem dL_meanLevel_10 : decode cL_meanLevel 10 = .ok (.dreturn, 1) := by decide +kernel
theorem dL_meanLevel_11 : decode cL_meanLevel 11 = .ok (.astore_n 2, 1) := by decide +kernel
theorem dL_meanLevel_12 : decode cL_meanLevel 12 = .ok (.ldc2_w 142, 3) := by decide +kernel
theorem dL_meanLevel_15 : decode cL_meanLevel 15 = .ok (.dreturn, 1) := by decide +kernel
theorem dL_filledShare_0 : decode cL_filledShare 0 = .ok (.aload_n 0, 1) := by decide +kernel
theorem dL_filledShare_1 : decode cL_filledShare 1 = .ok (.invokevirtual 144, 3) := by decide +kernel
theorem dL_filledShare_4 : decode cL_filledShare 4 = .ok (.freturn, 1) := by decide +kernel
theorem dL_filledShare_5 : decode cL_filledShare 5 = .ok (.astore_n 1, 1) := by decide +kernel
theorem dL_filledShare_6 : decode cL_filledShare 6 = .ok (.ldc 148, 2) := by decide +kernel
theorem dL_filledShare_8 : decode cL_filledShare 8 = .ok (.freturn, 1) := by decide +kernel
theorem dL_undo_0 : decode cL_undo 0 = .ok (.aload_n 0, 1) := by decide +kernel
theorem dL_undo_1 : decode cL_undo 1 = .ok (.invokevirtual 149, 3) := by decide +kernel
theorem dL_undo_4 : decode cL_undo 4 = .ok (.ireturn, 1) := by decide +kernel
theorem dL_undo_5 : decode cL_undo 5 = .ok (.astore_n 1, 1) := by decide +kernel
theorem dL_undo_6 : decode cL_undo 6 = .ok (.iconst (-1), 1) := by decide +kernel
theorem dL_undo_7 : decode cL_undo 7 = .ok (.ireturn, 1) := by decide +kernel
theorem dL_restore_0 : decode cL_restore 0 = .ok (.aload_n 0, 1) := by decide +kernel
theorem dL_restore_1 : decode cL_restore 1 = .ok (.invokevirtual 152, 3) := by decide +kernel
theorem dL_restore_4 : decode cL_restore 4 = .ok (.ireturn, 1) := by decide +kernel
theorem dL_restore_5 : decode cL_restore 5 = .ok (.astore_n 1, 1) := by decide +kernel
theorem dL_restore_6 : decode cL_restore 6 = .ok (.iconst (-1), 1) := by decide +kernel
theorem dL_restore_7 : decode cL_restore 7 = .ok (.ireturn, 1) := by decide +kernel
theorem dL_said_0 : decode cL_said 0 = .ok (.new 155, 3) := by decide +kernel
theorem dL_said_3 : decode cL_said 3 = .ok (.dup, 1) := by decide +kernel
theorem dL_said_4 : decode cL_said 4 = .ok (.invokespecial 157, 3) := by decide +kernel
theorem dL_said_7 : decode cL_said 7 = .ok (.astore_n 2, 1) := by decide +kernel
theorem dL_said_8 : decode cL_said 8 = .ok (.iconst 0, 1) := by decide +kernel
theorem dL_said_9 : decode cL_said 9 = .ok (.istore_n 3, 1) := by decide +kernel
theorem dL_said_10 : decode cL_said 10 = .ok (.iload_n 3, 1) := by decide +kernel
theorem dL_said_11 : decode cL_said 11 = .ok (.iload_n 1, 1) := by decide +kernel
theorem dL_said_12 : decode cL_said 12 = .ok (.if_icmp .ge 20, 3) := by decide +kernel
theorem dL_said_15 : decode cL_said 15 = .ok (.aload_n 2, 1) := by decide +kernel
theorem dL_said_16 : decode cL_said 16 = .ok (.aload_n 0, 1) := by decide +kernel
theorem dL_said_17 : decode cL_said 17 = .ok (.iload_n 3, 1) := by decide +kernel
theorem dL_said_18 : decode cL_said 18 = .ok (.invokestatic 158, 3) := by decide +kernel
theorem dL_said_21 : decode cL_said 21 = .ok (.i2c, 1) := by decide +kernel
theorem dL_said_22 : decode cL_said 22 = .ok (.invokevirtual 163, 3) := by decide +kernel
theorem dL_said_25 : decode cL_said 25 = .ok (.pop, 1) := by decide +kernel
theorem dL_said_26 : decode cL_said 26 = .ok (.iinc 3 1, 3) := by decide +kernel
theorem dL_said_29 : decode cL_said 29 = .ok (.goto (-19), 3) := by decide +kernel
theorem dL_said_32 : decode cL_said 32 = .ok (.aload_n 2, 1) := by decide +kernel
theorem dL_said_33 : decode cL_said 33 = .ok (.invokevirtual 166, 3) := by decide +kernel
theorem dL_said_36 : decode cL_said 36 = .ok (.areturn, 1) := by decide +kernel
theorem dL_some_0 : decode cL_some 0 = .ok (.aload_n 0, 1) := by decide +kernel
theorem dL_some_1 : decode cL_some 1 = .ok (.bipush 25, 2) := by decide +kernel
theorem dL_some_3 : decode cL_some 3 = .ok (.invokevirtual 181, 3) := by decide +kernel
theorem dL_some_6 : decode cL_some 6 = .ok (.ifCond .ne 7, 3) := by decide +kernel
theorem dL_some_9 : decode cL_some 9 = .ok (.iload_n 1, 1) := by decide +kernel
theorem dL_some_10 : decode cL_some 10 = .ok (.goto 12, 3) := by decide +kernel
theorem dL_some_13 : decode cL_some 13 = .ok (.aload_n 0, 1) := by decide +kernel
theorem dL_some_14 : decode cL_some 14 = .ok (.iconst 1, 1) := by decide +kernel
theorem dL_some_15 : decode cL_some 15 = .ok (.iload_n 1, 1) := by decide +kernel
theorem dL_some_16 : decode cL_some 16 = .ok (.invokestatic 186, 3) := by decide +kernel
theorem dL_some_19 : decode cL_some 19 = .ok (.invokevirtual 181, 3) := by decide +kernel
theorem dL_some_22 : decode cL_some 22 = .ok (.ireturn, 1) := by decide +kernel
theorem dL_song_0 : decode cL_song 0 = .ok (.aload_n 0, 1) := by decide +kernel
theorem dL_song_1 : decode cL_song 1 = .ok (.bipush 30, 2) := by decide +kernel
theorem dL_song_3 : decode cL_song 3 = .ok (.invokevirtual 181, 3) := by decide +kernel
theorem dL_song_6 : decode cL_song 6 = .ok (.ifCond .ne 7, 3) := by decide +kernel
theorem dL_song_9 : decode cL_song 9 = .ok (.iconst 4, 1) := by decide +kernel
theorem dL_song_10 : decode cL_song 10 = .ok (.goto 20, 3) := by decide +kernel
theorem dL_song_13 : decode cL_song 13 = .ok (.aload_n 0, 1) := by decide +kernel
theorem dL_song_14 : decode cL_song 14 = .ok (.aload_n 0, 1) := by decide +kernel
theorem dL_song_15 : decode cL_song 15 = .ok (.iconst 3, 1) := by decide +kernel
theorem dL_song_16 : decode cL_song 16 = .ok (.invokevirtual 181, 3) := by decide +kernel
theorem dL_song_19 : decode cL_song 19 = .ok (.ifCond .ne 7, 3) := by decide +kernel
theorem dL_song_22 : decode cL_song 22 = .ok (.iconst 4, 1) := by decide +kernel
theorem dL_song_23 : decode cL_song 23 = .ok (.goto 4, 3) := by decide +kernel
theorem dL_song_26 : decode cL_song 26 = .ok (.iconst 2, 1) := by decide +kernel
theorem dL_song_27 : decode cL_song 27 = .ok (.invokevirtual 181, 3) := by decide +kernel
theorem dL_song_30 : decode cL_song 30 = .ok (.ireturn, 1) := by decide +kernel
theorem dL_parameter_0 : decode cL_parameter 0 = .ok (.bipush 6, 2) := by decide +kernel
theorem dL_parameter_2 : decode cL_parameter 2 = .ok (.newarray .int, 2) := by decide +kernel
theorem dL_parameter_4 : decode cL_parameter 4 = .ok (.dup, 1) := by decide +kernel
theorem dL_parameter_5 : decode cL_parameter 5 = .ok (.iconst 0, 1) := by decide +kernel
theorem dL_parameter_6 : decode cL_parameter 6 = .ok (.iconst 0, 1) := by decide +kernel
theorem dL_parameter_7 : decode cL_parameter 7 = .ok (.iastore, 1) := by decide +kernel
theorem dL_parameter_8 : decode cL_parameter 8 = .ok (.dup, 1) := by decide +kernel
theorem dL_parameter_9 : decode cL_parameter 9 = .ok (.iconst 1, 1) := by decide +kernel
theorem dL_parameter_10 : decode cL_parameter 10 = .ok (.iconst 1, 1) := by decide +kernel
theorem dL_parameter_11 : decode cL_parameter 11 = .ok (.iastore, 1) := by decide +kernel
theorem dL_parameter_12 : decode cL_parameter 12 = .ok (.dup, 1) := by decide +kernel
theorem dL_parameter_13 : decode cL_parameter 13 = .ok (.iconst 2, 1) := by decide +kernel
theorem dL_parameter_14 : decode cL_parameter 14 = .ok (.iconst 2, 1) := by decide +kernel
theorem dL_parameter_15 : decode cL_parameter 15 = .ok (.iastore, 1) := by decide +kernel
theorem dL_parameter_16 : decode cL_parameter 16 = .ok (.dup, 1) := by decide +kernel
theorem dL_parameter_17 : decode cL_parameter 17 = .ok (.iconst 3, 1) := by decide +kernel
theorem dL_parameter_18 : decode cL_parameter 18 = .ok (.iconst 1, 1) := by decide +kernel
theorem dL_parameter_19 : decode cL_parameter 19 = .ok (.iastore, 1) := by decide +kernel
theorem dL_parameter_20 : decode cL_parameter 20 = .ok (.dup, 1) := by decide +kernel
theorem dL_parameter_21 : decode cL_parameter 21 = .ok (.iconst 4, 1) := by decide +kernel
theorem dL_parameter_22 : decode cL_parameter 22 = .ok (.iconst 0, 1) := by decide +kernel
theorem dL_parameter_23 : decode cL_parameter 23 = .ok (.iastore, 1) := by decide +kernel
theorem dL_parameter_24 : decode cL_parameter 24 = .ok (.dup, 1) := by decide +kernel
theorem dL_parameter_25 : decode cL_parameter 25 = .ok (.iconst 5, 1) := by decide +kernel
theorem dL_parameter_26 : decode cL_parameter 26 = .ok (.iconst 2, 1) := by decide +kernel
theorem dL_parameter_27 : decode cL_parameter 27 = .ok (.iastore, 1) := by decide +kernel
theorem dL_parameter_28 : decode cL_parameter 28 = .ok (.astore_n 2, 1) := by decide +kernel
theorem dL_parameter_29 : decode cL_parameter 29 = .ok (.bipush 6, 2) := by decide +kernel
theorem dL_parameter_31 : decode cL_parameter 31 = .ok (.newarray .int, 2) := by decide +kernel
theorem dL_parameter_33 : decode cL_parameter 33 = .ok (.dup, 1) := by decide +kernel
theorem dL_parameter_34 : decode cL_parameter 34 = .ok (.iconst 0, 1) := by decide +kernel
theorem dL_parameter_35 : decode cL_parameter 35 = .ok (.sipush 200, 3) := by decide +kernel
theorem dL_parameter_38 : decode cL_parameter 38 = .ok (.iastore, 1) := by decide +kernel
theorem dL_parameter_39 : decode cL_parameter 39 = .ok (.dup, 1) := by decide +kernel
theorem dL_parameter_40 : decode cL_parameter 40 = .ok (.iconst 1, 1) := by decide +kernel
theorem dL_parameter_41 : decode cL_parameter 41 = .ok (.bipush 8, 2) := by decide +kernel
theorem dL_parameter_43 : decode cL_parameter 43 = .ok (.iastore, 1) := by decide +kernel
theorem dL_parameter_44 : decode cL_parameter 44 = .ok (.dup, 1) := by decide +kernel
theorem dL_parameter_45 : decode cL_parameter 45 = .ok (.iconst 2, 1) := by decide +kernel
theorem dL_parameter_46 : decode cL_parameter 46 = .ok (.bipush 7, 2) := by decide +kernel
theorem dL_parameter_48 : decode cL_parameter 48 = .ok (.iastore, 1) := by decide +kernel
theorem dL_parameter_49 : decode cL_parameter 49 = .ok (.dup, 1) := by decide +kernel
theorem dL_parameter_50 : decode cL_parameter 50 = .ok (.iconst 3, 1) := by decide +kernel
theorem dL_parameter_51 : decode cL_parameter 51 = .ok (.aload_n 1, 1) := by decide +kernel
theorem dL_parameter_52 : decode cL_parameter 52 = .ok (.iconst 2, 1) := by decide +kernel
theorem dL_parameter_53 : decode cL_parameter 53 = .ok (.invokevirtual 181, 3) := by decide +kernel
theorem dL_parameter_56 : decode cL_parameter 56 = .ok (.ifCond .ne 9, 3) := by decide +kernel
theorem dL_parameter_59 : decode cL_parameter 59 = .ok (.sipush 999, 3) := by decide +kernel
theorem dL_parameter_62 : decode cL_parameter 62 = .ok (.goto 5, 3) := by decide +kernel
theorem dL_parameter_65 : decode cL_parameter 65 = .ok (.bipush 90, 2) := by decide +kernel
theorem dL_parameter_67 : decode cL_parameter 67 = .ok (.iastore, 1) := by decide +kernel
theorem dL_parameter_68 : decode cL_parameter 68 = .ok (.dup, 1) := by decide +kernel
theorem dL_parameter_69 : decode cL_parameter 69 = .ok (.iconst 4, 1) := by decide +kernel
theorem dL_parameter_70 : decode cL_parameter 70 = .ok (.iconst 1, 1) := by decide +kernel
theorem dL_parameter_71 : decode cL_parameter 71 = .ok (.iastore, 1) := by decide +kernel
theorem dL_parameter_72 : decode cL_parameter 72 = .ok (.dup, 1) := by decide +kernel
theorem dL_parameter_73 : decode cL_parameter 73 = .ok (.iconst 5, 1) := by decide +kernel
theorem dL_parameter_74 : decode cL_parameter 74 = .ok (.bipush 98, 2) := by decide +kernel
theorem dL_parameter_76 : decode cL_parameter 76 = .ok (.iastore, 1) := by decide +kernel
theorem dL_parameter_77 : decode cL_parameter 77 = .ok (.astore_n 3, 1) := by decide +kernel
theorem dL_parameter_78 : decode cL_parameter 78 = .ok (.iconst 0, 1) := by decide +kernel
theorem dL_parameter_79 : decode cL_parameter 79 = .ok (.ldc 191, 2) := by decide +kernel
theorem dL_parameter_81 : decode cL_parameter 81 = .ok (.iload_n 0, 1) := by decide +kernel
theorem dL_parameter_82 : decode cL_parameter 82 = .ok (.invokevirtual 193, 3) := by decide +kernel
theorem dL_parameter_85 : decode cL_parameter 85 = .ok (.invokestatic 186, 3) := by decide +kernel
theorem dL_parameter_88 : decode cL_parameter 88 = .ok (.istore 4, 2) := by decide +kernel
theorem dL_parameter_90 : decode cL_parameter 90 = .ok (.aload_n 1, 1) := by decide +kernel
theorem dL_parameter_91 : decode cL_parameter 91 = .ok (.bipush 30, 2) := by decide +kernel
theorem dL_parameter_93 : decode cL_parameter 93 = .ok (.invokevirtual 181, 3) := by decide +kernel
theorem dL_parameter_96 : decode cL_parameter 96 = .ok (.ifCond .ne 9, 3) := by decide +kernel
theorem dL_parameter_99 : decode cL_parameter 99 = .ok (.sipush 1000, 3) := by decide +kernel
theorem dL_parameter_102 : decode cL_parameter 102 = .ok (.goto 16, 3) := by decide +kernel
theorem dL_parameter_105 : decode cL_parameter 105 = .ok (.aload_n 2, 1) := by decide +kernel
theorem dL_parameter_106 : decode cL_parameter 106 = .ok (.iload 4, 2) := by decide +kernel
theorem dL_parameter_108 : decode cL_parameter 108 = .ok (.iaload, 1) := by decide +kernel
theorem dL_parameter_109 : decode cL_parameter 109 = .ok (.aload_n 1, 1) := by decide +kernel
theorem dL_parameter_110 : decode cL_parameter 110 = .ok (.aload_n 3, 1) := by decide +kernel
theorem dL_parameter_111 : decode cL_parameter 111 = .ok (.iload 4, 2) := by decide +kernel
theorem dL_parameter_113 : decode cL_parameter 113 = .ok (.iaload, 1) := by decide +kernel
theorem dL_parameter_114 : decode cL_parameter 114 = .ok (.invokevirtual 181, 3) := by decide +kernel
theorem dL_parameter_117 : decode cL_parameter 117 = .ok (.iadd, 1) := by decide +kernel
theorem dL_parameter_118 : decode cL_parameter 118 = .ok (.ireturn, 1) := by decide +kernel
theorem dL_kind_0 : decode cL_kind 0 = .ok (.aload_n 0, 1) := by decide +kernel
theorem dL_kind_1 : decode cL_kind 1 = .ok (.bipush 30, 2) := by decide +kernel
theorem dL_kind_3 : decode cL_kind 3 = .ok (.invokevirtual 181, 3) := by decide +kernel
theorem dL_kind_6 : decode cL_kind 6 = .ok (.ifCond .ne 8, 3) := by decide +kernel
theorem dL_kind_9 : decode cL_kind 9 = .ok (.bipush 120, 2) := by decide +kernel
theorem dL_kind_11 : decode cL_kind 11 = .ok (.goto 14, 3) := by decide +kernel
theorem dL_kind_14 : decode cL_kind 14 = .ok (.ldc 191, 2) := by decide +kernel
theorem dL_kind_16 : decode cL_kind 16 = .ok (.aload_n 0, 1) := by decide +kernel
theorem dL_kind_17 : decode cL_kind 17 = .ok (.bipush 6, 2) := by decide +kernel
theorem dL_kind_19 : decode cL_kind 19 = .ok (.invokevirtual 181, 3) := by decide +kernel
theorem dL_kind_22 : decode cL_kind 22 = .ok (.invokevirtual 175, 3) := by decide +kernel
theorem dL_kind_25 : decode cL_kind 25 = .ok (.ireturn, 1) := by decide +kernel
theorem dL_acts_0 : decode cL_acts 0 = .ok (.aload_n 2, 1) := by decide +kernel
theorem dL_acts_1 : decode cL_acts 1 = .ok (.invokestatic 196, 3) := by decide +kernel
theorem dL_acts_4 : decode cL_acts 4 = .ok (.istore_n 3, 1) := by decide +kernel
theorem dL_acts_5 : decode cL_acts 5 = .ok (.aload_n 2, 1) := by decide +kernel
theorem dL_acts_6 : decode cL_acts 6 = .ok (.aload_n 0, 1) := by decide +kernel
theorem dL_acts_7 : decode cL_acts 7 = .ok (.invokevirtual 200, 3) := by decide +kernel
theorem dL_acts_10 : decode cL_acts 10 = .ok (.invokestatic 203, 3) := by decide +kernel
theorem dL_acts_13 : decode cL_acts 13 = .ok (.istore 4, 2) := by decide +kernel
theorem dL_acts_15 : decode cL_acts 15 = .ok (.aload_n 2, 1) := by decide +kernel
theorem dL_acts_16 : decode cL_acts 16 = .ok (.aload_n 0, 1) := by decide +kernel
theorem dL_acts_17 : decode cL_acts 17 = .ok (.invokevirtual 207, 3) := by decide +kernel
theorem dL_acts_20 : decode cL_acts 20 = .ok (.invokestatic 203, 3) := by decide +kernel
theorem dL_acts_23 : decode cL_acts 23 = .ok (.istore 5, 2) := by decide +kernel
theorem dL_acts_25 : decode cL_acts 25 = .ok (.aload_n 2, 1) := by decide +kernel
theorem dL_acts_26 : decode cL_acts 26 = .ok (.invokestatic 210, 3) := by decide +kernel
theorem dL_acts_29 : decode cL_acts 29 = .ok (.istore 6, 2) := by decide +kernel
theorem dL_acts_31 : decode cL_acts 31 = .ok (.iload_n 1, 1) := by decide +kernel
theorem dL_acts_32 : decode cL_acts 32 = .ok (.bipush 32, 2) := by decide +kernel
theorem dL_acts_34 : decode cL_acts 34 = .ok (.irem, 1) := by decide +kernel
theorem dL_acts_35 : decode cL_acts 35 = .ok (.tableswitch 342 0 23 #[109, 109, 109, 122, 122, 145, 145, 145, 152, 167, 167, 167, 167, 167, 239, 239, 245, 245, 272, 272, 315, 315, 315, 315], 109) := by decide +kernel
theorem dL_acts_144 : decode cL_acts 144 = .ok (.aload_n 0, 1) := by decide +kernel
theorem dL_acts_145 : decode cL_acts 145 = .ok (.iload 6, 2) := by decide +kernel
theorem dL_acts_147 : decode cL_acts 147 = .ok (.iload 6, 2) := by decide +kernel
theorem dL_acts_149 : decode cL_acts 149 = .ok (.aload_n 2, 1) := by decide +kernel
theorem dL_acts_150 : decode cL_acts 150 = .ok (.invokestatic 214, 3) := by decide +kernel
theorem dL_acts_153 : decode cL_acts 153 = .ok (.invokestatic 218, 3) := by decide +kernel
theorem dL_acts_156 : decode cL_acts 156 = .ok (.ireturn, 1) := by decide +kernel
theorem dL_acts_157 : decode cL_acts 157 = .ok (.aload_n 0, 1) := by decide +kernel
theorem dL_acts_158 : decode cL_acts 158 = .ok (.aload_n 2, 1) := by decide +kernel
theorem dL_acts_159 : decode cL_acts 159 = .ok (.aload_n 0, 1) := by decide +kernel
theorem dL_acts_160 : decode cL_acts 160 = .ok (.invokevirtual 207, 3) := by decide +kernel
theorem dL_acts_163 : decode cL_acts 163 = .ok (.iconst 1, 1) := by decide +kernel
theorem dL_acts_164 : decode cL_acts 164 = .ok (.iadd, 1) := by decide +kernel
theorem dL_acts_165 : decode cL_acts 165 = .ok (.invokestatic 203, 3) := by decide +kernel
theorem dL_acts_168 : decode cL_acts 168 = .ok (.iload 6, 2) := by decide +kernel
theorem dL_acts_170 : decode cL_acts 170 = .ok (.iload 6, 2) := by decide +kernel
theorem dL_acts_172 : decode cL_acts 172 = .ok (.aload_n 2, 1) := by decide +kernel
theorem dL_acts_173 : decode cL_acts 173 = .ok (.invokestatic 214, 3) := by decide +kernel
theorem dL_acts_176 : decode cL_acts 176 = .ok (.invokestatic 221, 3) := by decide +kernel
theorem dL_acts_179 : decode cL_acts 179 = .ok (.ireturn, 1) := by decide +kernel
theorem dL_acts_180 : decode cL_acts 180 = .ok (.aload_n 0, 1) := by decide +kernel
theorem dL_acts_181 : decode cL_acts 181 = .ok (.iload 5, 2) := by decide +kernel
theorem dL_acts_183 : decode cL_acts 183 = .ok (.invokestatic 224, 3) := by decide +kernel
theorem dL_acts_186 : decode cL_acts 186 = .ok (.ireturn, 1) := by decide +kernel
theorem dL_acts_187 : decode cL_acts 187 = .ok (.aload_n 0, 1) := by decide +kernel
theorem dL_acts_188 : decode cL_acts 188 = .ok (.iload 5, 2) := by decide +kernel
theorem dL_acts_190 : decode cL_acts 190 = .ok (.aload_n 2, 1) := by decide +kernel
theorem dL_acts_191 : decode cL_acts 191 = .ok (.aload_n 0, 1) := by decide +kernel
theorem dL_acts_192 : decode cL_acts 192 = .ok (.invokevirtual 207, 3) := by decide +kernel
theorem dL_acts_195 : decode cL_acts 195 = .ok (.invokestatic 203, 3) := by decide +kernel
theorem dL_acts_198 : decode cL_acts 198 = .ok (.invokestatic 226, 3) := by decide +kernel
theorem dL_acts_201 : decode cL_acts 201 = .ok (.ireturn, 1) := by decide +kernel
theorem dL_acts_202 : decode cL_acts 202 = .ok (.aload_n 0, 1) := by decide +kernel
theorem dL_acts_203 : decode cL_acts 203 = .ok (.iload_n 3, 1) := by decide +kernel
theorem dL_acts_204 : decode cL_acts 204 = .ok (.iconst 2, 1) := by decide +kernel
theorem dL_acts_205 : decode cL_acts 205 = .ok (.aload_n 2, 1) := by decide +kernel
theorem dL_acts_206 : decode cL_acts 206 = .ok (.aload_n 2, 1) := by decide +kernel
theorem dL_acts_207 : decode cL_acts 207 = .ok (.iconst 2, 1) := by decide +kernel
theorem dL_acts_208 : decode cL_acts 208 = .ok (.invokevirtual 181, 3) := by decide +kernel
theorem dL_acts_211 : decode cL_acts 211 = .ok (.ifCond .ne 8, 3) := by decide +kernel
theorem dL_acts_214 : decode cL_acts 214 = .ok (.bipush 20, 2) := by decide +kernel
theorem dL_acts_216 : decode cL_acts 216 = .ok (.goto 5, 3) := by decide +kernel
theorem dL_acts_219 : decode cL_acts 219 = .ok (.bipush 6, 2) := by decide +kernel
theorem dL_acts_221 : decode cL_acts 221 = .ok (.invokevirtual 181, 3) := by decide +kernel
theorem dL_acts_224 : decode cL_acts 224 = .ok (.iadd, 1) := by decide +kernel
theorem dL_acts_225 : decode cL_acts 225 = .ok (.aload_n 2, 1) := by decide +kernel
theorem dL_acts_226 : decode cL_acts 226 = .ok (.bipush 30, 2) := by decide +kernel
theorem dL_acts_228 : decode cL_acts 228 = .ok (.invokevirtual 181, 3) := by decide +kernel
theorem dL_acts_231 : decode cL_acts 231 = .ok (.ifCond .ne 9, 3) := by decide +kernel
theorem dL_acts_234 : decode cL_acts 234 = .ok (.sipush 1000, 3) := by decide +kernel
theorem dL_acts_237 : decode cL_acts 237 = .ok (.goto 12, 3) := by decide +kernel
theorem dL_acts_240 : decode cL_acts 240 = .ok (.iconst 1, 1) := by decide +kernel
theorem dL_acts_241 : decode cL_acts 241 = .ok (.aload_n 2, 1) := by decide +kernel
theorem dL_acts_242 : decode cL_acts 242 = .ok (.sipush 999, 3) := by decide +kernel
theorem dL_acts_245 : decode cL_acts 245 = .ok (.invokevirtual 181, 3) := by decide +kernel
theorem dL_acts_248 : decode cL_acts 248 = .ok (.iadd, 1) := by decide +kernel
theorem dL_acts_249 : decode cL_acts 249 = .ok (.iconst 1, 1) := by decide +kernel
theorem dL_acts_250 : decode cL_acts 250 = .ok (.aload_n 2, 1) := by decide +kernel
theorem dL_acts_251 : decode cL_acts 251 = .ok (.aload_n 2, 1) := by decide +kernel
theorem dL_acts_252 : decode cL_acts 252 = .ok (.iconst 3, 1) := by decide +kernel
theorem dL_acts_253 : decode cL_acts 253 = .ok (.invokevirtual 181, 3) := by decide +kernel
theorem dL_acts_256 : decode cL_acts 256 = .ok (.ifCond .ne 8, 3) := by decide +kernel
theorem dL_acts_259 : decode cL_acts 259 = .ok (.bipush 40, 2) := by decide +kernel
theorem dL_acts_261 : decode cL_acts 261 = .ok (.goto 5, 3) := by decide +kernel
theorem dL_acts_264 : decode cL_acts 264 = .ok (.bipush 12, 2) := by decide +kernel
theorem dL_acts_266 : decode cL_acts 266 = .ok (.invokevirtual 181, 3) := by decide +kernel
theorem dL_acts_269 : decode cL_acts 269 = .ok (.iadd, 1) := by decide +kernel
theorem dL_acts_270 : decode cL_acts 270 = .ok (.invokestatic 229, 3) := by decide +kernel
theorem dL_acts_273 : decode cL_acts 273 = .ok (.ireturn, 1) := by decide +kernel
theorem dL_acts_274 : decode cL_acts 274 = .ok (.aload_n 0, 1) := by decide +kernel
theorem dL_acts_275 : decode cL_acts 275 = .ok (.iload_n 3, 1) := by decide +kernel
theorem dL_acts_276 : decode cL_acts 276 = .ok (.invokestatic 232, 3) := by decide +kernel
theorem dL_acts_279 : decode cL_acts 279 = .ok (.ireturn, 1) := by decide +kernel
theorem dL_acts_280 : decode cL_acts 280 = .ok (.aload_n 0, 1) := by decide +kernel
theorem dL_acts_281 : decode cL_acts 281 = .ok (.aload_n 2, 1) := by decide +kernel
theorem dL_acts_282 : decode cL_acts 282 = .ok (.bipush 30, 2) := by decide +kernel
theorem dL_acts_284 : decode cL_acts 284 = .ok (.invokevirtual 181, 3) := by decide +kernel
theorem dL_acts_287 : decode cL_acts 287 = .ok (.ifCond .ne 8, 3) := by decide +kernel
theorem dL_acts_290 : decode cL_acts 290 = .ok (.bipush 10, 2) := by decide +kernel
theorem dL_acts_292 : decode cL_acts 292 = .ok (.goto 11, 3) := by decide +kernel
theorem dL_acts_295 : decode cL_acts 295 = .ok (.iconst 1, 1) := by decide +kernel
theorem dL_acts_296 : decode cL_acts 296 = .ok (.aload_n 2, 1) := by decide +kernel
theorem dL_acts_297 : decode cL_acts 297 = .ok (.bipush 9, 2) := by decide +kernel
theorem dL_acts_299 : decode cL_acts 299 = .ok (.invokevirtual 181, 3) := by decide +kernel
theorem dL_acts_302 : decode cL_acts 302 = .ok (.iadd, 1) := by decide +kernel
theorem dL_acts_303 : decode cL_acts 303 = .ok (.invokestatic 234, 3) := by decide +kernel
theorem dL_acts_306 : decode cL_acts 306 = .ok (.ireturn, 1) := by decide +kernel
theorem dL_acts_307 : decode cL_acts 307 = .ok (.aload_n 0, 1) := by decide +kernel
theorem dL_acts_308 : decode cL_acts 308 = .ok (.iload 4, 2) := by decide +kernel
theorem dL_acts_310 : decode cL_acts 310 = .ok (.aload_n 2, 1) := by decide +kernel
theorem dL_acts_311 : decode cL_acts 311 = .ok (.bipush 30, 2) := by decide +kernel
theorem dL_acts_313 : decode cL_acts 313 = .ok (.invokevirtual 181, 3) := by decide +kernel
theorem dL_acts_316 : decode cL_acts 316 = .ok (.ifCond .ne 9, 3) := by decide +kernel
theorem dL_acts_319 : decode cL_acts 319 = .ok (.sipush 10000, 3) := by decide +kernel
theorem dL_acts_322 : decode cL_acts 322 = .ok (.goto 24, 3) := by decide +kernel
theorem dL_acts_325 : decode cL_acts 325 = .ok (.aload_n 2, 1) := by decide +kernel
theorem dL_acts_326 : decode cL_acts 326 = .ok (.aload_n 2, 1) := by decide +kernel
theorem dL_acts_327 : decode cL_acts 327 = .ok (.iconst 3, 1) := by decide +kernel
theorem dL_acts_328 : decode cL_acts 328 = .ok (.invokevirtual 181, 3) := by decide +kernel
theorem dL_acts_331 : decode cL_acts 331 = .ok (.ifCond .ne 9, 3) := by decide +kernel
theorem dL_acts_334 : decode cL_acts 334 = .ok (.sipush 10000, 3) := by decide +kernel
theorem dL_acts_337 : decode cL_acts 337 = .ok (.goto 6, 3) := by decide +kernel
theorem dL_acts_340 : decode cL_acts 340 = .ok (.sipush 900, 3) := by decide +kernel
theorem dL_acts_343 : decode cL_acts 343 = .ok (.invokevirtual 181, 3) := by decide +kernel
theorem dL_acts_346 : decode cL_acts 346 = .ok (.invokestatic 236, 3) := by decide +kernel
theorem dL_acts_349 : decode cL_acts 349 = .ok (.ireturn, 1) := by decide +kernel
theorem dL_acts_350 : decode cL_acts 350 = .ok (.aload_n 0, 1) := by decide +kernel
theorem dL_acts_351 : decode cL_acts 351 = .ok (.iload 4, 2) := by decide +kernel
theorem dL_acts_353 : decode cL_acts 353 = .ok (.aload_n 2, 1) := by decide +kernel
theorem dL_acts_354 : decode cL_acts 354 = .ok (.bipush 30, 2) := by decide +kernel
theorem dL_acts_356 : decode cL_acts 356 = .ok (.invokevirtual 181, 3) := by decide +kernel
theorem dL_acts_359 : decode cL_acts 359 = .ok (.ifCond .ne 7, 3) := by decide +kernel
theorem dL_acts_362 : decode cL_acts 362 = .ok (.iconst 0, 1) := by decide +kernel
theorem dL_acts_363 : decode cL_acts 363 = .ok (.goto 10, 3) := by decide +kernel
theorem dL_acts_366 : decode cL_acts 366 = .ok (.iconst 1, 1) := by decide +kernel
theorem dL_acts_367 : decode cL_acts 367 = .ok (.aload_n 2, 1) := by decide +kernel
theorem dL_acts_368 : decode cL_acts 368 = .ok (.iconst 4, 1) := by decide +kernel
theorem dL_acts_369 : decode cL_acts 369 = .ok (.invokevirtual 181, 3) := by decide +kernel
theorem dL_acts_372 : decode cL_acts 372 = .ok (.iadd, 1) := by decide +kernel
theorem dL_acts_373 : decode cL_acts 373 = .ok (.invokestatic 238, 3) := by decide +kernel
theorem dL_acts_376 : decode cL_acts 376 = .ok (.ireturn, 1) := by decide +kernel
theorem dL_acts_377 : decode cL_acts 377 = .ok (.aload_n 0, 1) := by decide +kernel
theorem dL_acts_378 : decode cL_acts 378 = .ok (.iload_n 3, 1) := by decide +kernel
theorem dL_acts_379 : decode cL_acts 379 = .ok (.invokestatic 240, 3) := by decide +kernel
theorem dL_acts_382 : decode cL_acts 382 = .ok (.ireturn, 1) := by decide +kernel
theorem dL_told_0 : decode cL_told 0 = .ok (.new 155, 3) := by decide +kernel
theorem dL_told_3 : decode cL_told 3 = .ok (.dup, 1) := by decide +kernel
theorem dL_told_4 : decode cL_told 4 = .ok (.aload_n 0, 1) := by decide +kernel
theorem dL_told_5 : decode cL_told 5 = .ok (.aload_n 0, 1) := by decide +kernel
theorem dL_told_6 : decode cL_told 6 = .ok (.invokevirtual 242, 3) := by decide +kernel
theorem dL_told_9 : decode cL_told 9 = .ok (.invokestatic 245, 3) := by decide +kernel
theorem dL_told_12 : decode cL_told 12 = .ok (.invokespecial 249, 3) := by decide +kernel
theorem dL_told_15 : decode cL_told 15 = .ok (.astore_n 1, 1) := by decide +kernel
theorem dL_told_16 : decode cL_told 16 = .ok (.iconst 0, 1) := by decide +kernel
theorem dL_told_17 : decode cL_told 17 = .ok (.istore_n 2, 1) := by decide +kernel
theorem dL_told_18 : decode cL_told 18 = .ok (.iload_n 2, 1) := by decide +kernel
theorem dL_told_19 : decode cL_told 19 = .ok (.aload_n 0, 1) := by decide +kernel
theorem dL_told_20 : decode cL_told 20 = .ok (.invokevirtual 200, 3) := by decide +kernel
theorem dL_told_23 : decode cL_told 23 = .ok (.if_icmp .ge 28, 3) := by decide +kernel
theorem dL_told_26 : decode cL_told 26 = .ok (.aload_n 1, 1) := by decide +kernel
theorem dL_told_27 : decode cL_told 27 = .ok (.bipush 59, 2) := by decide +kernel
theorem dL_told_29 : decode cL_told 29 = .ok (.invokevirtual 163, 3) := by decide +kernel
theorem dL_told_32 : decode cL_told 32 = .ok (.aload_n 0, 1) := by decide +kernel
theorem dL_told_33 : decode cL_told 33 = .ok (.aload_n 0, 1) := by decide +kernel
theorem dL_told_34 : decode cL_told 34 = .ok (.iload_n 2, 1) := by decide +kernel
theorem dL_told_35 : decode cL_told 35 = .ok (.invokestatic 252, 3) := by decide +kernel
theorem dL_told_38 : decode cL_told 38 = .ok (.invokestatic 245, 3) := by decide +kernel
theorem dL_told_41 : decode cL_told 41 = .ok (.invokevirtual 254, 3) := by decide +kernel
theorem dL_told_44 : decode cL_told 44 = .ok (.pop, 1) := by decide +kernel
theorem dL_told_45 : decode cL_told 45 = .ok (.iinc 2 1, 3) := by decide +kernel
theorem dL_told_48 : decode cL_told 48 = .ok (.goto (-30), 3) := by decide +kernel
theorem dL_told_51 : decode cL_told 51 = .ok (.iconst 0, 1) := by decide +kernel
theorem dL_told_52 : decode cL_told 52 = .ok (.istore_n 2, 1) := by decide +kernel
theorem dL_told_53 : decode cL_told 53 = .ok (.iload_n 2, 1) := by decide +kernel
theorem dL_told_54 : decode cL_told 54 = .ok (.iconst 4, 1) := by decide +kernel
theorem dL_told_55 : decode cL_told 55 = .ok (.if_icmp .ge 62, 3) := by decide +kernel
theorem dL_told_58 : decode cL_told 58 = .ok (.aload_n 1, 1) := by decide +kernel
theorem dL_told_59 : decode cL_told 59 = .ok (.bipush 47, 2) := by decide +kernel
theorem dL_told_61 : decode cL_told 61 = .ok (.invokevirtual 163, 3) := by decide +kernel
theorem dL_told_64 : decode cL_told 64 = .ok (.aload_n 0, 1) := by decide +kernel
theorem dL_told_65 : decode cL_told 65 = .ok (.iload_n 2, 1) := by decide +kernel
theorem dL_told_66 : decode cL_told 66 = .ok (.invokestatic 257, 3) := by decide +kernel
theorem dL_told_69 : decode cL_told 69 = .ok (.invokevirtual 259, 3) := by decide +kernel
theorem dL_told_72 : decode cL_told 72 = .ok (.bipush 58, 2) := by decide +kernel
theorem dL_told_74 : decode cL_told 74 = .ok (.invokevirtual 163, 3) := by decide +kernel
theorem dL_told_77 : decode cL_told 77 = .ok (.pop, 1) := by decide +kernel
theorem dL_told_78 : decode cL_told 78 = .ok (.iconst 0, 1) := by decide +kernel
theorem dL_told_79 : decode cL_told 79 = .ok (.istore_n 3, 1) := by decide +kernel
theorem dL_told_80 : decode cL_told 80 = .ok (.iload_n 3, 1) := by decide +kernel
theorem dL_told_81 : decode cL_told 81 = .ok (.aload_n 0, 1) := by decide +kernel
theorem dL_told_82 : decode cL_told 82 = .ok (.iload_n 2, 1) := by decide +kernel
theorem dL_told_83 : decode cL_told 83 = .ok (.invokestatic 262, 3) := by decide +kernel
theorem dL_told_86 : decode cL_told 86 = .ok (.if_icmp .ge 25, 3) := by decide +kernel
theorem dL_told_89 : decode cL_told 89 = .ok (.aload_n 1, 1) := by decide +kernel
theorem dL_told_90 : decode cL_told 90 = .ok (.aload_n 0, 1) := by decide +kernel
theorem dL_told_91 : decode cL_told 91 = .ok (.iload_n 2, 1) := by decide +kernel
theorem dL_told_92 : decode cL_told 92 = .ok (.iload_n 3, 1) := by decide +kernel
theorem dL_told_93 : decode cL_told 93 = .ok (.invokestatic 264, 3) := by decide +kernel
theorem dL_told_96 : decode cL_told 96 = .ok (.invokevirtual 259, 3) := by decide +kernel
theorem dL_told_99 : decode cL_told 99 = .ok (.bipush 44, 2) := by decide +kernel
theorem dL_told_101 : decode cL_told 101 = .ok (.invokevirtual 163, 3) := by decide +kernel
theorem dL_told_104 : decode cL_told 104 = .ok (.pop, 1) := by decide +kernel
theorem dL_told_105 : decode cL_told 105 = .ok (.iinc 3 1, 3) := by decide +kernel
theorem dL_told_108 : decode cL_told 108 = .ok (.goto (-28), 3) := by decide +kernel
theorem dL_told_111 : decode cL_told 111 = .ok (.iinc 2 1, 3) := by decide +kernel
theorem dL_told_114 : decode cL_told 114 = .ok (.goto (-61), 3) := by decide +kernel
theorem dL_told_117 : decode cL_told 117 = .ok (.aload_n 1, 1) := by decide +kernel
theorem dL_told_118 : decode cL_told 118 = .ok (.aload_n 0, 1) := by decide +kernel
theorem dL_told_119 : decode cL_told 119 = .ok (.invokevirtual 266, 3) := by decide +kernel
theorem dL_told_122 : decode cL_told 122 = .ok (.invokevirtual 259, 3) := by decide +kernel
theorem dL_told_125 : decode cL_told 125 = .ok (.bipush 44, 2) := by decide +kernel
theorem dL_told_127 : decode cL_told 127 = .ok (.invokevirtual 163, 3) := by decide +kernel
theorem dL_told_130 : decode cL_told 130 = .ok (.aload_n 0, 1) := by decide +kernel
theorem dL_told_131 : decode cL_told 131 = .ok (.invokevirtual 269, 3) := by decide +kernel
theorem dL_told_134 : decode cL_told 134 = .ok (.invokevirtual 259, 3) := by decide +kernel
theorem dL_told_137 : decode cL_told 137 = .ok (.bipush 44, 2) := by decide +kernel
theorem dL_told_139 : decode cL_told 139 = .ok (.invokevirtual 163, 3) := by decide +kernel
theorem dL_told_142 : decode cL_told 142 = .ok (.aload_n 0, 1) := by decide +kernel
theorem dL_told_143 : decode cL_told 143 = .ok (.invokevirtual 272, 3) := by decide +kernel
theorem dL_told_146 : decode cL_told 146 = .ok (.invokevirtual 259, 3) := by decide +kernel
theorem dL_told_149 : decode cL_told 149 = .ok (.invokevirtual 166, 3) := by decide +kernel
theorem dL_told_152 : decode cL_told 152 = .ok (.areturn, 1) := by decide +kernel
theorem dL_stock_0 : decode cL_stock 0 = .ok (.aload_n 0, 1) := by decide +kernel
theorem dL_stock_1 : decode cL_stock 1 = .ok (.iconst 0, 1) := by decide +kernel
theorem dL_stock_2 : decode cL_stock 2 = .ok (.iconst 4, 1) := by decide +kernel
theorem dL_stock_3 : decode cL_stock 3 = .ok (.bipush 100, 2) := by decide +kernel
theorem dL_stock_5 : decode cL_stock 5 = .ok (.bipush 20, 2) := by decide +kernel
theorem dL_stock_7 : decode cL_stock 7 = .ok (.invokestatic 229, 3) := by decide +kernel
theorem dL_stock_10 : decode cL_stock 10 = .ok (.aload_n 0, 1) := by decide +kernel
theorem dL_stock_11 : decode cL_stock 11 = .ok (.iconst 0, 1) := by decide +kernel
theorem dL_stock_12 : decode cL_stock 12 = .ok (.bipush 6, 2) := by decide +kernel
theorem dL_stock_14 : decode cL_stock 14 = .ok (.bipush 50, 2) := by decide +kernel
theorem dL_stock_16 : decode cL_stock 16 = .ok (.bipush 10, 2) := by decide +kernel
theorem dL_stock_18 : decode cL_stock 18 = .ok (.invokestatic 229, 3) := by decide +kernel
theorem dL_stock_21 : decode cL_stock 21 = .ok (.iadd, 1) := by decide +kernel
theorem dL_stock_22 : decode cL_stock 22 = .ok (.aload_n 0, 1) := by decide +kernel
theorem dL_stock_23 : decode cL_stock 23 = .ok (.iconst 1, 1) := by decide +kernel
theorem dL_stock_24 : decode cL_stock 24 = .ok (.iconst 5, 1) := by decide +kernel
theorem dL_stock_25 : decode cL_stock 25 = .ok (.sipush 900, 3) := by decide +kernel
theorem dL_stock_28 : decode cL_stock 28 = .ok (.bipush 16, 2) := by decide +kernel
theorem dL_stock_30 : decode cL_stock 30 = .ok (.invokestatic 229, 3) := by decide +kernel
theorem dL_stock_33 : decode cL_stock 33 = .ok (.iadd, 1) := by decide +kernel
theorem dL_stock_34 : decode cL_stock 34 = .ok (.aload_n 0, 1) := by decide +kernel
theorem dL_stock_35 : decode cL_stock 35 = .ok (.bipush 103, 2) := by decide +kernel
theorem dL_stock_37 : decode cL_stock 37 = .ok (.sipush 150, 3) := by decide +kernel
theorem dL_stock_40 : decode cL_stock 40 = .ok (.invokestatic 218, 3) := by decide +kernel
theorem dL_stock_43 : decode cL_stock 43 = .ok (.iadd, 1) := by decide +kernel
theorem dL_stock_44 : decode cL_stock 44 = .ok (.aload_n 0, 1) := by decide +kernel
theorem dL_stock_45 : decode cL_stock 45 = .ok (.bipush 100, 2) := by decide +kernel
theorem dL_stock_47 : decode cL_stock 47 = .ok (.iconst 2, 1) := by decide +kernel
theorem dL_stock_48 : decode cL_stock 48 = .ok (.invokestatic 218, 3) := by decide +kernel
theorem dL_stock_51 : decode cL_stock 51 = .ok (.iadd, 1) := by decide +kernel
theorem dL_stock_52 : decode cL_stock 52 = .ok (.aload_n 0, 1) := by decide +kernel
theorem dL_stock_53 : decode cL_stock 53 = .ok (.bipush 109, 2) := by decide +kernel
theorem dL_stock_55 : decode cL_stock 55 = .ok (.iconst 3, 1) := by decide +kernel
theorem dL_stock_56 : decode cL_stock 56 = .ok (.invokestatic 218, 3) := by decide +kernel
theorem dL_stock_59 : decode cL_stock 59 = .ok (.iadd, 1) := by decide +kernel
theorem dL_stock_60 : decode cL_stock 60 = .ok (.istore_n 1, 1) := by decide +kernel
theorem dL_stock_61 : decode cL_stock 61 = .ok (.iload_n 1, 1) := by decide +kernel
theorem dL_stock_62 : decode cL_stock 62 = .ok (.aload_n 0, 1) := by decide +kernel
theorem dL_stock_63 : decode cL_stock 63 = .ok (.iconst 3, 1) := by decide +kernel
theorem dL_stock_64 : decode cL_stock 64 = .ok (.invokestatic 234, 3) := by decide +kernel
theorem dL_stock_67 : decode cL_stock 67 = .ok (.iadd, 1) := by decide +kernel
theorem dL_stock_68 : decode cL_stock 68 = .ok (.aload_n 0, 1) := by decide +kernel
theorem dL_stock_69 : decode cL_stock 69 = .ok (.iconst 5, 1) := by decide +kernel
theorem dL_stock_70 : decode cL_stock 70 = .ok (.invokestatic 234, 3) := by decide +kernel
theorem dL_stock_73 : decode cL_stock 73 = .ok (.iadd, 1) := by decide +kernel
theorem dL_stock_74 : decode cL_stock 74 = .ok (.aload_n 0, 1) := by decide +kernel
theorem dL_stock_75 : decode cL_stock 75 = .ok (.iconst 0, 1) := by decide +kernel
theorem dL_stock_76 : decode cL_stock 76 = .ok (.bipush 120, 2) := by decide +kernel
theorem dL_stock_78 : decode cL_stock 78 = .ok (.invokestatic 236, 3) := by decide +kernel
theorem dL_stock_81 : decode cL_stock 81 = .ok (.iadd, 1) := by decide +kernel
theorem dL_stock_82 : decode cL_stock 82 = .ok (.aload_n 0, 1) := by decide +kernel
theorem dL_stock_83 : decode cL_stock 83 = .ok (.iconst 0, 1) := by decide +kernel
theorem dL_stock_84 : decode cL_stock 84 = .ok (.invokestatic 240, 3) := by decide +kernel
theorem dL_stock_87 : decode cL_stock 87 = .ok (.iadd, 1) := by decide +kernel
theorem dL_stock_88 : decode cL_stock 88 = .ok (.aload_n 0, 1) := by decide +kernel
theorem dL_stock_89 : decode cL_stock 89 = .ok (.iconst 1, 1) := by decide +kernel
theorem dL_stock_90 : decode cL_stock 90 = .ok (.invokestatic 240, 3) := by decide +kernel
theorem dL_stock_93 : decode cL_stock 93 = .ok (.iadd, 1) := by decide +kernel
theorem dL_stock_94 : decode cL_stock 94 = .ok (.ireturn, 1) := by decide +kernel
theorem dL_given_0 : decode cL_given 0 = .ok (.aload_n 0, 1) := by decide +kernel
theorem dL_given_1 : decode cL_given 1 = .ok (.iload_n 1, 1) := by decide +kernel
theorem dL_given_2 : decode cL_given 2 = .ok (.iaload, 1) := by decide +kernel
theorem dL_given_3 : decode cL_given 3 = .ok (.istore 4, 2) := by decide +kernel
theorem dL_given_5 : decode cL_given 5 = .ok (.iload_n 2, 1) := by decide +kernel
theorem dL_given_6 : decode cL_given 6 = .ok (.bipush 103, 2) := by decide +kernel
theorem dL_given_8 : decode cL_given 8 = .ok (.if_icmp .ne 11, 3) := by decide +kernel
theorem dL_given_11 : decode cL_given 11 = .ok (.iload 4, 2) := by decide +kernel
theorem dL_given_13 : decode cL_given 13 = .ok (.iload_n 3, 1) := by decide +kernel
theorem dL_given_14 : decode cL_given 14 = .ok (.imul, 1) := by decide +kernel
theorem dL_given_15 : decode cL_given 15 = .ok (.bipush 100, 2) := by decide +kernel
theorem dL_given_17 : decode cL_given 17 = .ok (.idiv, 1) := by decide +kernel
theorem dL_given_18 : decode cL_given 18 = .ok (.ireturn, 1) := by decide +kernel
theorem dL_given_19 : decode cL_given 19 = .ok (.iload_n 2, 1) := by decide +kernel
theorem dL_given_20 : decode cL_given 20 = .ok (.bipush 100, 2) := by decide +kernel
theorem dL_given_22 : decode cL_given 22 = .ok (.if_icmp .ne 18, 3) := by decide +kernel
theorem dL_given_25 : decode cL_given 25 = .ok (.iload_n 1, 1) := by decide +kernel
theorem dL_given_26 : decode cL_given 26 = .ok (.iload_n 3, 1) := by decide +kernel
theorem dL_given_27 : decode cL_given 27 = .ok (.if_icmp .lt 11, 3) := by decide +kernel
theorem dL_given_30 : decode cL_given 30 = .ok (.aload_n 0, 1) := by decide +kernel
theorem dL_given_31 : decode cL_given 31 = .ok (.iload_n 1, 1) := by decide +kernel
theorem dL_given_32 : decode cL_given 32 = .ok (.iload_n 3, 1) := by decide +kernel
theorem dL_given_33 : decode cL_given 33 = .ok (.isub, 1) := by decide +kernel
theorem dL_given_34 : decode cL_given 34 = .ok (.iaload, 1) := by decide +kernel
theorem dL_given_35 : decode cL_given 35 = .ok (.goto 4, 3) := by decide +kernel
theorem dL_given_38 : decode cL_given 38 = .ok (.iconst 0, 1) := by decide +kernel
theorem dL_given_39 : decode cL_given 39 = .ok (.ireturn, 1) := by decide +kernel
theorem dL_given_40 : decode cL_given 40 = .ok (.iload_n 2, 1) := by decide +kernel
theorem dL_given_41 : decode cL_given 41 = .ok (.bipush 109, 2) := by decide +kernel
theorem dL_given_43 : decode cL_given 43 = .ok (.if_icmp .ne 43, 3) := by decide +kernel
theorem dL_given_46 : decode cL_given 46 = .ok (.iconst 0, 1) := by decide +kernel
theorem dL_given_47 : decode cL_given 47 = .ok (.istore 5, 2) := by decide +kernel
theorem dL_given_49 : decode cL_given 49 = .ok (.iconst 0, 1) := by decide +kernel
theorem dL_given_50 : decode cL_given 50 = .ok (.iload_n 1, 1) := by decide +kernel
theorem dL_given_51 : decode cL_given 51 = .ok (.iload_n 3, 1) := by decide +kernel
theorem dL_given_52 : decode cL_given 52 = .ok (.isub, 1) := by decide +kernel
theorem dL_given_53 : decode cL_given 53 = .ok (.iconst 1, 1) := by decide +kernel
theorem dL_given_54 : decode cL_given 54 = .ok (.iadd, 1) := by decide +kernel
theorem dL_given_55 : decode cL_given 55 = .ok (.invokestatic 186, 3) := by decide +kernel
theorem dL_given_58 : decode cL_given 58 = .ok (.istore 6, 2) := by decide +kernel
theorem dL_given_60 : decode cL_given 60 = .ok (.iload 6, 2) := by decide +kernel
theorem dL_given_62 : decode cL_given 62 = .ok (.iload_n 1, 1) := by decide +kernel
theorem dL_given_63 : decode cL_given 63 = .ok (.if_icmp .gt 18, 3) := by decide +kernel
theorem dL_given_66 : decode cL_given 66 = .ok (.iload 5, 2) := by decide +kernel
theorem dL_given_68 : decode cL_given 68 = .ok (.aload_n 0, 1) := by decide +kernel
theorem dL_given_69 : decode cL_given 69 = .ok (.iload 6, 2) := by decide +kernel
theorem dL_given_71 : decode cL_given 71 = .ok (.iaload, 1) := by decide +kernel
theorem dL_given_72 : decode cL_given 72 = .ok (.iadd, 1) := by decide +kernel
theorem dL_given_73 : decode cL_given 73 = .ok (.istore 5, 2) := by decide +kernel
theorem dL_given_75 : decode cL_given 75 = .ok (.iinc 6 1, 3) := by decide +kernel
theorem dL_given_78 : decode cL_given 78 = .ok (.goto (-18), 3) := by decide +kernel
theorem dL_given_81 : decode cL_given 81 = .ok (.iload 5, 2) := by decide +kernel
theorem dL_given_83 : decode cL_given 83 = .ok (.iload_n 3, 1) := by decide +kernel
theorem dL_given_84 : decode cL_given 84 = .ok (.idiv, 1) := by decide +kernel
theorem dL_given_85 : decode cL_given 85 = .ok (.ireturn, 1) := by decide +kernel
theorem dL_given_86 : decode cL_given 86 = .ok (.iload_n 2, 1) := by decide +kernel
theorem dL_given_87 : decode cL_given 87 = .ok (.bipush 99, 2) := by decide +kernel
theorem dL_given_89 : decode cL_given 89 = .ok (.if_icmp .ne 17, 3) := by decide +kernel
theorem dL_given_92 : decode cL_given 92 = .ok (.iload_n 3, 1) := by decide +kernel
theorem dL_given_93 : decode cL_given 93 = .ok (.ineg, 1) := by decide +kernel
theorem dL_given_94 : decode cL_given 94 = .ok (.iload_n 3, 1) := by decide +kernel
theorem dL_given_95 : decode cL_given 95 = .ok (.iload 4, 2) := by decide +kernel
theorem dL_given_97 : decode cL_given 97 = .ok (.invokestatic 275, 3) := by decide +kernel
theorem dL_given_100 : decode cL_given 100 = .ok (.invokestatic 186, 3) := by decide +kernel
theorem dL_given_103 : decode cL_given 103 = .ok (.goto 22, 3) := by decide +kernel
theorem dL_given_106 : decode cL_given 106 = .ok (.iload_n 2, 1) := by decide +kernel
theorem dL_given_107 : decode cL_given 107 = .ok (.bipush 102, 2) := by decide +kernel
theorem dL_given_109 : decode cL_given 109 = .ok (.if_icmp .ne 9, 3) := by decide +kernel
theorem dL_given_112 : decode cL_given 112 = .ok (.iload 4, 2) := by decide +kernel
theorem dL_given_114 : decode cL_given 114 = .ok (.ineg, 1) := by decide +kernel
theorem dL_given_115 : decode cL_given 115 = .ok (.goto 10, 3) := by decide +kernel
theorem dL_given_118 : decode cL_given 118 = .ok (.iload 4, 2) := by decide +kernel
theorem dL_given_120 : decode cL_given 120 = .ok (.iload 4, 2) := by decide +kernel
theorem dL_given_122 : decode cL_given 122 = .ok (.iload_n 3, 1) := by decide +kernel
theorem dL_given_123 : decode cL_given 123 = .ok (.irem, 1) := by decide +kernel
theorem dL_given_124 : decode cL_given 124 = .ok (.isub, 1) := by decide +kernel
theorem dL_given_125 : decode cL_given 125 = .ok (.ireturn, 1) := by decide +kernel
theorem dL_filtered_0 : decode cL_filtered 0 = .ok (.aload_n 0, 1) := by decide +kernel
theorem dL_filtered_1 : decode cL_filtered 1 = .ok (.iload_n 1, 1) := by decide +kernel
theorem dL_filtered_2 : decode cL_filtered 2 = .ok (.invokestatic 262, 3) := by decide +kernel
theorem dL_filtered_5 : decode cL_filtered 5 = .ok (.newarray .int, 2) := by decide +kernel
theorem dL_filtered_7 : decode cL_filtered 7 = .ok (.astore_n 2, 1) := by decide +kernel
theorem dL_filtered_8 : decode cL_filtered 8 = .ok (.iconst 0, 1) := by decide +kernel
theorem dL_filtered_9 : decode cL_filtered 9 = .ok (.istore_n 3, 1) := by decide +kernel
theorem dL_filtered_10 : decode cL_filtered 10 = .ok (.iload_n 3, 1) := by decide +kernel
theorem dL_filtered_11 : decode cL_filtered 11 = .ok (.aload_n 2, 1) := by decide +kernel
theorem dL_filtered_12 : decode cL_filtered 12 = .ok (.arraylength, 1) := by decide +kernel
theorem dL_filtered_13 : decode cL_filtered 13 = .ok (.if_icmp .ge 18, 3) := by decide +kernel
theorem dL_filtered_16 : decode cL_filtered 16 = .ok (.aload_n 2, 1) := by decide +kernel
theorem dL_filtered_17 : decode cL_filtered 17 = .ok (.iload_n 3, 1) := by decide +kernel
theorem dL_filtered_18 : decode cL_filtered 18 = .ok (.aload_n 0, 1) := by decide +kernel
theorem dL_filtered_19 : decode cL_filtered 19 = .ok (.iload_n 1, 1) := by decide +kernel
theorem dL_filtered_20 : decode cL_filtered 20 = .ok (.iload_n 3, 1) := by decide +kernel
theorem dL_filtered_21 : decode cL_filtered 21 = .ok (.invokestatic 264, 3) := by decide +kernel
theorem dL_filtered_24 : decode cL_filtered 24 = .ok (.iastore, 1) := by decide +kernel
theorem dL_filtered_25 : decode cL_filtered 25 = .ok (.iinc 3 1, 3) := by decide +kernel
theorem dL_filtered_28 : decode cL_filtered 28 = .ok (.goto (-18), 3) := by decide +kernel
theorem dL_filtered_31 : decode cL_filtered 31 = .ok (.iconst 0, 1) := by decide +kernel
theorem dL_filtered_32 : decode cL_filtered 32 = .ok (.istore_n 3, 1) := by decide +kernel
theorem dL_filtered_33 : decode cL_filtered 33 = .ok (.iload_n 3, 1) := by decide +kernel
theorem dL_filtered_34 : decode cL_filtered 34 = .ok (.aload_n 0, 1) := by decide +kernel
theorem dL_filtered_35 : decode cL_filtered 35 = .ok (.invokevirtual 207, 3) := by decide +kernel
theorem dL_filtered_38 : decode cL_filtered 38 = .ok (.if_icmp .ge 56, 3) := by decide +kernel
theorem dL_filtered_41 : decode cL_filtered 41 = .ok (.aload_n 2, 1) := by decide +kernel
theorem dL_filtered_42 : decode cL_filtered 42 = .ok (.arraylength, 1) := by decide +kernel
theorem dL_filtered_43 : decode cL_filtered 43 = .ok (.newarray .int, 2) := by decide +kernel
theorem dL_filtered_45 : decode cL_filtered 45 = .ok (.astore 4, 2) := by decide +kernel
theorem dL_filtered_47 : decode cL_filtered 47 = .ok (.iconst 0, 1) := by decide +kernel
theorem dL_filtered_48 : decode cL_filtered 48 = .ok (.istore 5, 2) := by decide +kernel
theorem dL_filtered_50 : decode cL_filtered 50 = .ok (.iload 5, 2) := by decide +kernel
theorem dL_filtered_52 : decode cL_filtered 52 = .ok (.aload_n 2, 1) := by decide +kernel
theorem dL_filtered_53 : decode cL_filtered 53 = .ok (.arraylength, 1) := by decide +kernel
theorem dL_filtered_54 : decode cL_filtered 54 = .ok (.if_icmp .ge 31, 3) := by decide +kernel
theorem dL_filtered_57 : decode cL_filtered 57 = .ok (.aload 4, 2) := by decide +kernel
theorem dL_filtered_59 : decode cL_filtered 59 = .ok (.iload 5, 2) := by decide +kernel
theorem dL_filtered_61 : decode cL_filtered 61 = .ok (.aload_n 2, 1) := by decide +kernel
theorem dL_filtered_62 : decode cL_filtered 62 = .ok (.iload 5, 2) := by decide +kernel
theorem dL_filtered_64 : decode cL_filtered 64 = .ok (.aload_n 0, 1) := by decide +kernel
theorem dL_filtered_65 : decode cL_filtered 65 = .ok (.iload_n 3, 1) := by decide +kernel
theorem dL_filtered_66 : decode cL_filtered 66 = .ok (.invokestatic 278, 3) := by decide +kernel
theorem dL_filtered_69 : decode cL_filtered 69 = .ok (.i2c, 1) := by decide +kernel
theorem dL_filtered_70 : decode cL_filtered 70 = .ok (.aload_n 0, 1) := by decide +kernel
theorem dL_filtered_71 : decode cL_filtered 71 = .ok (.iload_n 3, 1) := by decide +kernel
theorem dL_filtered_72 : decode cL_filtered 72 = .ok (.invokestatic 280, 3) := by decide +kernel
theorem dL_filtered_75 : decode cL_filtered 75 = .ok (.invokestatic 282, 3) := by decide +kernel
theorem dL_filtered_78 : decode cL_filtered 78 = .ok (.iastore, 1) := by decide +kernel
theorem dL_filtered_79 : decode cL_filtered 79 = .ok (.iinc 5 1, 3) := by decide +kernel
theorem dL_filtered_82 : decode cL_filtered 82 = .ok (.goto (-32), 3) := by decide +kernel
theorem dL_filtered_85 : decode cL_filtered 85 = .ok (.aload 4, 2) := by decide +kernel
theorem dL_filtered_87 : decode cL_filtered 87 = .ok (.astore_n 2, 1) := by decide +kernel
theorem dL_filtered_88 : decode cL_filtered 88 = .ok (.iinc 3 1, 3) := by decide +kernel
theorem dL_filtered_91 : decode cL_filtered 91 = .ok (.goto (-58), 3) := by decide +kernel
theorem dL_filtered_94 : decode cL_filtered 94 = .ok (.aload_n 2, 1) := by decide +kernel
theorem dL_filtered_95 : decode cL_filtered 95 = .ok (.areturn, 1) := by decide +kernel
theorem dL_samples_0 : decode cL_samples 0 = .ok (.aload_n 0, 1) := by decide +kernel
theorem dL_samples_1 : decode cL_samples 1 = .ok (.iload_n 1, 1) := by decide +kernel
theorem dL_samples_2 : decode cL_samples 2 = .ok (.invokestatic 286, 3) := by decide +kernel
theorem dL_samples_5 : decode cL_samples 5 = .ok (.astore_n 3, 1) := by decide +kernel
theorem dL_samples_6 : decode cL_samples 6 = .ok (.aload_n 3, 1) := by decide +kernel
theorem dL_samples_7 : decode cL_samples 7 = .ok (.arraylength, 1) := by decide +kernel
theorem dL_samples_8 : decode cL_samples 8 = .ok (.istore 4, 2) := by decide +kernel
theorem dL_samples_10 : decode cL_samples 10 = .ok (.aload_n 2, 1) := by decide +kernel
theorem dL_samples_11 : decode cL_samples 11 = .ok (.iconst 4, 1) := by decide +kernel
theorem dL_samples_12 : decode cL_samples 12 = .ok (.invokevirtual 181, 3) := by decide +kernel
theorem dL_samples_15 : decode cL_samples 15 = .ok (.istore 5, 2) := by decide +kernel
theorem dL_samples_17 : decode cL_samples 17 = .ok (.aload_n 0, 1) := by decide +kernel
theorem dL_samples_18 : decode cL_samples 18 = .ok (.iload 5, 2) := by decide +kernel
theorem dL_samples_20 : decode cL_samples 20 = .ok (.invokestatic 286, 3) := by decide +kernel
theorem dL_samples_23 : decode cL_samples 23 = .ok (.astore 6, 2) := by decide +kernel
theorem dL_samples_25 : decode cL_samples 25 = .ok (.iconst 0, 1) := by decide +kernel
theorem dL_samples_26 : decode cL_samples 26 = .ok (.istore 7, 2) := by decide +kernel
theorem dL_samples_28 : decode cL_samples 28 = .ok (.iconst 0, 1) := by decide +kernel
theorem dL_samples_29 : decode cL_samples 29 = .ok (.istore 8, 2) := by decide +kernel
theorem dL_samples_31 : decode cL_samples 31 = .ok (.lconst 0, 1) := by decide +kernel
theorem dL_samples_32 : decode cL_samples 32 = .ok (.lstore 9, 2) := by decide +kernel
theorem dL_samples_34 : decode cL_samples 34 = .ok (.iconst 0, 1) := by decide +kernel
theorem dL_samples_35 : decode cL_samples 35 = .ok (.istore 11, 2) := by decide +kernel
theorem dL_samples_37 : decode cL_samples 37 = .ok (.iconst 0, 1) := by decide +kernel
theorem dL_samples_38 : decode cL_samples 38 = .ok (.istore 12, 2) := by decide +kernel
theorem dL_samples_40 : decode cL_samples 40 = .ok (.aload_n 3, 1) := by decide +kernel
theorem dL_samples_41 : decode cL_samples 41 = .ok (.astore 13, 2) := by decide +kernel
theorem dL_samples_43 : decode cL_samples 43 = .ok (.aload 13, 2) := by decide +kernel
theorem dL_samples_45 : decode cL_samples 45 = .ok (.arraylength, 1) := by decide +kernel
theorem dL_samples_46 : decode cL_samples 46 = .ok (.istore 14, 2) := by decide +kernel
theorem dL_samples_48 : decode cL_samples 48 = .ok (.iconst 0, 1) := by decide +kernel
theorem dL_samples_49 : decode cL_samples 49 = .ok (.istore 15, 2) := by decide +kernel
theorem dL_samples_51 : decode cL_samples 51 = .ok (.iload 15, 2) := by decide +kernel
theorem dL_samples_53 : decode cL_samples 53 = .ok (.iload 14, 2) := by decide +kernel
theorem dL_samples_55 : decode cL_samples 55 = .ok (.if_icmp .ge 88, 3) := by decide +kernel
theorem dL_samples_58 : decode cL_samples 58 = .ok (.aload 13, 2) := by decide +kernel
theorem dL_samples_60 : decode cL_samples 60 = .ok (.iload 15, 2) := by decide +kernel
theorem dL_samples_62 : decode cL_samples 62 = .ok (.iaload, 1) := by decide +kernel
theorem dL_samples_63 : decode cL_samples 63 = .ok (.istore 16, 2) := by decide +kernel
theorem dL_samples_65 : decode cL_samples 65 = .ok (.iload 7, 2) := by decide +kernel
theorem dL_samples_67 : decode cL_samples 67 = .ok (.iload 16, 2) := by decide +kernel
theorem dL_samples_69 : decode cL_samples 69 = .ok (.invokestatic 290, 3) := by decide +kernel
theorem dL_samples_72 : decode cL_samples 72 = .ok (.invokestatic 186, 3) := by decide +kernel
theorem dL_samples_75 : decode cL_samples 75 = .ok (.istore 7, 2) := by decide +kernel
theorem dL_samples_77 : decode cL_samples 77 = .ok (.iload 8, 2) := by decide +kernel
theorem dL_samples_79 : decode cL_samples 79 = .ok (.iload 16, 2) := by decide +kernel
theorem dL_samples_81 : decode cL_samples 81 = .ok (.invokestatic 290, 3) := by decide +kernel
theorem dL_samples_84 : decode cL_samples 84 = .ok (.iadd, 1) := by decide +kernel
theorem dL_samples_85 : decode cL_samples 85 = .ok (.istore 8, 2) := by decide +kernel
theorem dL_samples_87 : decode cL_samples 87 = .ok (.lload 9, 2) := by decide +kernel
theorem dL_samples_89 : decode cL_samples 89 = .ok (.iload 16, 2) := by decide +kernel
theorem dL_samples_91 : decode cL_samples 91 = .ok (.i2l, 1) := by decide +kernel
theorem dL_samples_92 : decode cL_samples 92 = .ok (.iload 16, 2) := by decide +kernel
theorem dL_samples_94 : decode cL_samples 94 = .ok (.i2l, 1) := by decide +kernel
theorem dL_samples_95 : decode cL_samples 95 = .ok (.lmul, 1) := by decide +kernel
theorem dL_samples_96 : decode cL_samples 96 = .ok (.ladd, 1) := by decide +kernel
theorem dL_samples_97 : decode cL_samples 97 = .ok (.lstore 9, 2) := by decide +kernel
theorem dL_samples_99 : decode cL_samples 99 = .ok (.iload 11, 2) := by decide +kernel
theorem dL_samples_101 : decode cL_samples 101 = .ok (.iload 16, 2) := by decide +kernel
theorem dL_samples_103 : decode cL_samples 103 = .ok (.invokestatic 293, 3) := by decide +kernel
theorem dL_samples_106 : decode cL_samples 106 = .ok (.iload 12, 2) := by decide +kernel
theorem dL_samples_108 : decode cL_samples 108 = .ok (.invokestatic 293, 3) := by decide +kernel
theorem dL_samples_111 : decode cL_samples 111 = .ok (.imul, 1) := by decide +kernel
theorem dL_samples_112 : decode cL_samples 112 = .ok (.ifCond .ge 7, 3) := by decide +kernel
theorem dL_samples_115 : decode cL_samples 115 = .ok (.iconst 1, 1) := by decide +kernel
theorem dL_samples_116 : decode cL_samples 116 = .ok (.goto 4, 3) := by decide +kernel
theorem dL_samples_119 : decode cL_samples 119 = .ok (.iconst 0, 1) := by decide +kernel
theorem dL_samples_120 : decode cL_samples 120 = .ok (.iadd, 1) := by decide +kernel
theorem dL_samples_121 : decode cL_samples 121 = .ok (.istore 11, 2) := by decide +kernel
theorem dL_samples_123 : decode cL_samples 123 = .ok (.iload 16, 2) := by decide +kernel
theorem dL_samples_125 : decode cL_samples 125 = .ok (.ifCond .eq 8, 3) := by decide +kernel
theorem dL_samples_128 : decode cL_samples 128 = .ok (.iload 16, 2) := by decide +kernel
theorem dL_samples_130 : decode cL_samples 130 = .ok (.goto 5, 3) := by decide +kernel
theorem dL_samples_133 : decode cL_samples 133 = .ok (.iload 12, 2) := by decide +kernel
theorem dL_samples_135 : decode cL_samples 135 = .ok (.istore 12, 2) := by decide +kernel
theorem dL_samples_137 : decode cL_samples 137 = .ok (.iinc 15 1, 3) := by decide +kernel
theorem dL_samples_140 : decode cL_samples 140 = .ok (.goto (-89), 3) := by decide +kernel
theorem dL_samples_143 : decode cL_samples 143 = .ok (.iconst 0, 1) := by decide +kernel
theorem dL_samples_144 : decode cL_samples 144 = .ok (.istore 13, 2) := by decide +kernel
theorem dL_samples_146 : decode cL_samples 146 = .ok (.iload 13, 2) := by decide +kernel
theorem dL_samples_148 : decode cL_samples 148 = .ok (.bipush 12, 2) := by decide +kernel
theorem dL_samples_150 : decode cL_samples 150 = .ok (.if_icmp .ge 64, 3) := by decide +kernel
theorem dL_samples_153 : decode cL_samples 153 = .ok (.iload 4, 2) := by decide +kernel
theorem dL_samples_155 : decode cL_samples 155 = .ok (.ifCond .le 59, 3) := by decide +kernel
theorem dL_samples_158 : decode cL_samples 158 = .ok (.iload 13, 2) := by decide +kernel
theorem dL_samples_160 : decode cL_samples 160 = .ok (.ifCond .ne 10, 3) := by decide +kernel
theorem dL_samples_163 : decode cL_samples 163 = .ok (.iload 4, 2) := by decide +kernel
theorem dL_samples_165 : decode cL_samples 165 = .ok (.iconst 1, 1) := by decide +kernel
theorem dL_samples_166 : decode cL_samples 166 = .ok (.isub, 1) := by decide +kernel
theorem dL_samples_167 : decode cL_samples 167 = .ok (.goto 9, 3) := by decide +kernel
theorem dL_samples_170 : decode cL_samples 170 = .ok (.aload_n 2, 1) := by decide +kernel
theorem dL_samples_171 : decode cL_samples 171 = .ok (.iload 4, 2) := by decide +kernel
theorem dL_samples_173 : decode cL_samples 173 = .ok (.invokevirtual 181, 3) := by decide +kernel
theorem dL_samples_176 : decode cL_samples 176 = .ok (.istore 14, 2) := by decide +kernel
theorem dL_samples_178 : decode cL_samples 178 = .ok (.aload_n 0, 1) := by decide +kernel
theorem dL_samples_179 : decode cL_samples 179 = .ok (.iload_n 1, 1) := by decide +kernel
theorem dL_samples_180 : decode cL_samples 180 = .ok (.iload 14, 2) := by decide +kernel
theorem dL_samples_182 : decode cL_samples 182 = .ok (.invokestatic 298, 3) := by decide +kernel
theorem dL_samples_185 : decode cL_samples 185 = .ok (.aload_n 3, 1) := by decide +kernel
theorem dL_samples_186 : decode cL_samples 186 = .ok (.iload 14, 2) := by decide +kernel
theorem dL_samples_188 : decode cL_samples 188 = .ok (.iaload, 1) := by decide +kernel
theorem dL_samples_189 : decode cL_samples 189 = .ok (.if_icmp .ne 17, 3) := by decide +kernel
theorem dL_samples_192 : decode cL_samples 192 = .ok (.aload_n 0, 1) := by decide +kernel
theorem dL_samples_193 : decode cL_samples 193 = .ok (.iload_n 1, 1) := by decide +kernel
theorem dL_samples_194 : decode cL_samples 194 = .ok (.iload 14, 2) := by decide +kernel
theorem dL_samples_196 : decode cL_samples 196 = .ok (.invokestatic 300, 3) := by decide +kernel
theorem dL_samples_199 : decode cL_samples 199 = .ok (.aload_n 3, 1) := by decide +kernel
theorem dL_samples_200 : decode cL_samples 200 = .ok (.iload 14, 2) := by decide +kernel
theorem dL_samples_202 : decode cL_samples 202 = .ok (.iaload, 1) := by decide +kernel
theorem dL_samples_203 : decode cL_samples 203 = .ok (.if_icmp .eq 5, 3) := by decide +kernel
theorem dL_samples_206 : decode cL_samples 206 = .ok (.iconst 0, 1) := by decide +kernel
theorem dL_samples_207 : decode cL_samples 207 = .ok (.ireturn, 1) := by decide +kernel
theorem dL_samples_208 : decode cL_samples 208 = .ok (.iinc 13 1, 3) := by decide +kernel
theorem dL_samples_211 : decode cL_samples 211 = .ok (.goto (-65), 3) := by decide +kernel
theorem dL_samples_214 : decode cL_samples 214 = .ok (.iload 4, 2) := by decide +kernel
theorem dL_samples_216 : decode cL_samples 216 = .ok (.aload 6, 2) := by decide +kernel
theorem dL_samples_218 : decode cL_samples 218 = .ok (.arraylength, 1) := by decide +kernel
theorem dL_samples_219 : decode cL_samples 219 = .ok (.invokestatic 186, 3) := by decide +kernel
theorem dL_samples_222 : decode cL_samples 222 = .ok (.istore 13, 2) := by decide +kernel
theorem dL_samples_224 : decode cL_samples 224 = .ok (.iconst 0, 1) := by decide +kernel
theorem dL_samples_225 : decode cL_samples 225 = .ok (.istore 14, 2) := by decide +kernel
theorem dL_samples_227 : decode cL_samples 227 = .ok (.iload 14, 2) := by decide +kernel
theorem dL_samples_229 : decode cL_samples 229 = .ok (.iconst 4, 1) := by decide +kernel
theorem dL_samples_230 : decode cL_samples 230 = .ok (.if_icmp .ge 87, 3) := by decide +kernel
theorem dL_samples_233 : decode cL_samples 233 = .ok (.iload 13, 2) := by decide +kernel
theorem dL_samples_235 : decode cL_samples 235 = .ok (.ifCond .le 82, 3) := by decide +kernel
theorem dL_samples_238 : decode cL_samples 238 = .ok (.iload 14, 2) := by decide +kernel
theorem dL_samples_240 : decode cL_samples 240 = .ok (.ifCond .ne 10, 3) := by decide +kernel
theorem dL_samples_243 : decode cL_samples 243 = .ok (.iload 13, 2) := by decide +kernel
theorem dL_samples_245 : decode cL_samples 245 = .ok (.iconst 1, 1) := by decide +kernel
theorem dL_samples_246 : decode cL_samples 246 = .ok (.isub, 1) := by decide +kernel
theorem dL_samples_247 : decode cL_samples 247 = .ok (.goto 9, 3) := by decide +kernel
theorem dL_samples_250 : decode cL_samples 250 = .ok (.aload_n 2, 1) := by decide +kernel
theorem dL_samples_251 : decode cL_samples 251 = .ok (.iload 13, 2) := by decide +kernel
theorem dL_samples_253 : decode cL_samples 253 = .ok (.invokevirtual 181, 3) := by decide +kernel
theorem dL_samples_256 : decode cL_samples 256 = .ok (.istore 15, 2) := by decide +kernel
theorem dL_samples_258 : decode cL_samples 258 = .ok (.iload 15, 2) := by decide +kernel
theorem dL_samples_260 : decode cL_samples 260 = .ok (.iload 4, 2) := by decide +kernel
theorem dL_samples_262 : decode cL_samples 262 = .ok (.if_icmp .ge 10, 3) := by decide +kernel
theorem dL_samples_265 : decode cL_samples 265 = .ok (.aload_n 3, 1) := by decide +kernel
theorem dL_samples_266 : decode cL_samples 266 = .ok (.iload 15, 2) := by decide +kernel
theorem dL_samples_268 : decode cL_samples 268 = .ok (.iaload, 1) := by decide +kernel
theorem dL_samples_269 : decode cL_samples 269 = .ok (.goto 4, 3) := by decide +kernel
theorem dL_samples_272 : decode cL_samples 272 = .ok (.iconst 0, 1) := by decide +kernel
theorem dL_samples_273 : decode cL_samples 273 = .ok (.iload 15, 2) := by decide +kernel
theorem dL_samples_275 : decode cL_samples 275 = .ok (.aload 6, 2) := by decide +kernel
theorem dL_samples_277 : decode cL_samples 277 = .ok (.arraylength, 1) := by decide +kernel
theorem dL_samples_278 : decode cL_samples 278 = .ok (.if_icmp .ge 11, 3) := by decide +kernel
theorem dL_samples_281 : decode cL_samples 281 = .ok (.aload 6, 2) := by decide +kernel
theorem dL_samples_283 : decode cL_samples 283 = .ok (.iload 15, 2) := by decide +kernel
theorem dL_samples_285 : decode cL_samples 285 = .ok (.iaload, 1) := by decide +kernel
theorem dL_samples_286 : decode cL_samples 286 = .ok (.goto 4, 3) := by decide +kernel
theorem dL_samples_289 : decode cL_samples 289 = .ok (.iconst 0, 1) := by decide +kernel
theorem dL_samples_290 : decode cL_samples 290 = .ok (.iadd, 1) := by decide +kernel
theorem dL_samples_291 : decode cL_samples 291 = .ok (.iconst 2, 1) := by decide +kernel
theorem dL_samples_292 : decode cL_samples 292 = .ok (.idiv, 1) := by decide +kernel
theorem dL_samples_293 : decode cL_samples 293 = .ok (.istore 16, 2) := by decide +kernel
theorem dL_samples_295 : decode cL_samples 295 = .ok (.aload_n 0, 1) := by decide +kernel
theorem dL_samples_296 : decode cL_samples 296 = .ok (.iload_n 1, 1) := by decide +kernel
theorem dL_samples_297 : decode cL_samples 297 = .ok (.iload 5, 2) := by decide +kernel
theorem dL_samples_299 : decode cL_samples 299 = .ok (.iload 15, 2) := by decide +kernel
theorem dL_samples_301 : decode cL_samples 301 = .ok (.invokestatic 302, 3) := by decide +kernel
theorem dL_samples_304 : decode cL_samples 304 = .ok (.iload 16, 2) := by decide +kernel
theorem dL_samples_306 : decode cL_samples 306 = .ok (.if_icmp .eq 5, 3) := by decide +kernel
theorem dL_samples_309 : decode cL_samples 309 = .ok (.iconst 0, 1) := by decide +kernel
theorem dL_samples_310 : decode cL_samples 310 = .ok (.ireturn, 1) := by decide +kernel
theorem dL_samples_311 : decode cL_samples 311 = .ok (.iinc 14 1, 3) := by decide +kernel
theorem dL_samples_314 : decode cL_samples 314 = .ok (.goto (-87), 3) := by decide +kernel
theorem dL_samples_317 : decode cL_samples 317 = .ok (.iload 4, 2) := by decide +kernel
theorem dL_samples_319 : decode cL_samples 319 = .ok (.ifCond .ne 9, 3) := by decide +kernel
theorem dL_samples_322 : decode cL_samples 322 = .ok (.ldc2_w 142, 3) := by decide +kernel
theorem dL_samples_325 : decode cL_samples 325 = .ok (.goto 10, 3) := by decide +kernel
theorem dL_samples_328 : decode cL_samples 328 = .ok (.iload 8, 2) := by decide +kernel
theorem dL_samples_330 : decode cL_samples 330 = .ok (.i2d, 1) := by decide +kernel
theorem dL_samples_331 : decode cL_samples 331 = .ok (.iload 4, 2) := by decide +kernel
theorem dL_samples_333 : decode cL_samples 333 = .ok (.i2d, 1) := by decide +kernel
theorem dL_samples_334 : decode cL_samples 334 = .ok (.ddiv, 1) := by decide +kernel
theorem dL_samples_335 : decode cL_samples 335 = .ok (.dstore 14, 2) := by decide +kernel
theorem dL_samples_337 : decode cL_samples 337 = .ok (.aload_n 0, 1) := by decide +kernel
theorem dL_samples_338 : decode cL_samples 338 = .ok (.iload_n 1, 1) := by decide +kernel
theorem dL_samples_339 : decode cL_samples 339 = .ok (.invokestatic 305, 3) := by decide +kernel
theorem dL_samples_342 : decode cL_samples 342 = .ok (.iload 4, 2) := by decide +kernel
theorem dL_samples_344 : decode cL_samples 344 = .ok (.ifCond .ne 8, 3) := by decide +kernel
theorem dL_samples_347 : decode cL_samples 347 = .ok (.bipush (-2), 2) := by decide +kernel
theorem dL_samples_349 : decode cL_samples 349 = .ok (.goto 5, 3) := by decide +kernel
theorem dL_samples_352 : decode cL_samples 352 = .ok (.iload 7, 2) := by decide +kernel
theorem dL_samples_354 : decode cL_samples 354 = .ok (.if_icmp .ne 39, 3) := by decide +kernel
theorem dL_samples_357 : decode cL_samples 357 = .ok (.aload_n 0, 1) := by decide +kernel
theorem dL_samples_358 : decode cL_samples 358 = .ok (.iload_n 1, 1) := by decide +kernel
theorem dL_samples_359 : decode cL_samples 359 = .ok (.invokestatic 307, 3) := by decide +kernel
theorem dL_samples_362 : decode cL_samples 362 = .ok (.lload 9, 2) := by decide +kernel
theorem dL_samples_364 : decode cL_samples 364 = .ok (.lcmp, 1) := by decide +kernel
theorem dL_samples_365 : decode cL_samples 365 = .ok (.ifCond .ne 28, 3) := by decide +kernel
theorem dL_samples_368 : decode cL_samples 368 = .ok (.aload_n 0, 1) := by decide +kernel
theorem dL_samples_369 : decode cL_samples 369 = .ok (.iload_n 1, 1) := by decide +kernel
theorem dL_samples_370 : decode cL_samples 370 = .ok (.invokestatic 310, 3) := by decide +kernel
theorem dL_samples_373 : decode cL_samples 373 = .ok (.iload 11, 2) := by decide +kernel
theorem dL_samples_375 : decode cL_samples 375 = .ok (.if_icmp .ne 18, 3) := by decide +kernel
theorem dL_samples_378 : decode cL_samples 378 = .ok (.aload_n 0, 1) := by decide +kernel
theorem dL_samples_379 : decode cL_samples 379 = .ok (.iload_n 1, 1) := by decide +kernel
theorem dL_samples_380 : decode cL_samples 380 = .ok (.invokestatic 312, 3) := by decide +kernel
theorem dL_samples_383 : decode cL_samples 383 = .ok (.dload 14, 2) := by decide +kernel
theorem dL_samples_385 : decode cL_samples 385 = .ok (.dcmp .l, 1) := by decide +kernel
theorem dL_samples_386 : decode cL_samples 386 = .ok (.ifCond .ne 7, 3) := by decide +kernel
theorem dL_samples_389 : decode cL_samples 389 = .ok (.iconst 1, 1) := by decide +kernel
theorem dL_samples_390 : decode cL_samples 390 = .ok (.goto 4, 3) := by decide +kernel
theorem dL_samples_393 : decode cL_samples 393 = .ok (.iconst 0, 1) := by decide +kernel
theorem dL_samples_394 : decode cL_samples 394 = .ok (.istore 16, 2) := by decide +kernel
theorem dL_samples_396 : decode cL_samples 396 = .ok (.iload 16, 2) := by decide +kernel
theorem dL_samples_398 : decode cL_samples 398 = .ok (.ifCond .eq 71, 3) := by decide +kernel
theorem dL_samples_401 : decode cL_samples 401 = .ok (.aload_n 0, 1) := by decide +kernel
theorem dL_samples_402 : decode cL_samples 402 = .ok (.iload_n 1, 1) := by decide +kernel
theorem dL_samples_403 : decode cL_samples 403 = .ok (.invokestatic 315, 3) := by decide +kernel
theorem dL_samples_406 : decode cL_samples 406 = .ok (.iload 4, 2) := by decide +kernel
theorem dL_samples_408 : decode cL_samples 408 = .ok (.bipush 7, 2) := by decide +kernel
theorem dL_samples_410 : decode cL_samples 410 = .ok (.iadd, 1) := by decide +kernel
theorem dL_samples_411 : decode cL_samples 411 = .ok (.bipush 8, 2) := by decide +kernel
theorem dL_samples_413 : decode cL_samples 413 = .ok (.idiv, 1) := by decide +kernel
theorem dL_samples_414 : decode cL_samples 414 = .ok (.if_icmp .ne 55, 3) := by decide +kernel
theorem dL_samples_417 : decode cL_samples 417 = .ok (.aload_n 0, 1) := by decide +kernel
theorem dL_samples_418 : decode cL_samples 418 = .ok (.iload_n 1, 1) := by decide +kernel
theorem dL_samples_419 : decode cL_samples 419 = .ok (.iload 4, 2) := by decide +kernel
theorem dL_samples_421 : decode cL_samples 421 = .ok (.invokestatic 298, 3) := by decide +kernel
theorem dL_samples_424 : decode cL_samples 424 = .ok (.bipush (-2), 2) := by decide +kernel
theorem dL_samples_426 : decode cL_samples 426 = .ok (.if_icmp .ne 43, 3) := by decide +kernel
theorem dL_samples_429 : decode cL_samples 429 = .ok (.aload_n 0, 1) := by decide +kernel
theorem dL_samples_430 : decode cL_samples 430 = .ok (.iload_n 1, 1) := by decide +kernel
theorem dL_samples_431 : decode cL_samples 431 = .ok (.iload 4, 2) := by decide +kernel
theorem dL_samples_433 : decode cL_samples 433 = .ok (.invokestatic 264, 3) := by decide +kernel
theorem dL_samples_436 : decode cL_samples 436 = .ok (.bipush (-2), 2) := by decide +kernel
theorem dL_samples_438 : decode cL_samples 438 = .ok (.if_icmp .ne 31, 3) := by decide +kernel
theorem dL_samples_441 : decode cL_samples 441 = .ok (.aload_n 0, 1) := by decide +kernel
theorem dL_samples_442 : decode cL_samples 442 = .ok (.iload_n 1, 1) := by decide +kernel
theorem dL_samples_443 : decode cL_samples 443 = .ok (.iload 5, 2) := by decide +kernel
theorem dL_samples_445 : decode cL_samples 445 = .ok (.iload 13, 2) := by decide +kernel
theorem dL_samples_447 : decode cL_samples 447 = .ok (.invokestatic 302, 3) := by decide +kernel
theorem dL_samples_450 : decode cL_samples 450 = .ok (.bipush (-2), 2) := by decide +kernel
theorem dL_samples_452 : decode cL_samples 452 = .ok (.if_icmp .ne 17, 3) := by decide +kernel
theorem dL_samples_455 : decode cL_samples 455 = .ok (.aload_n 0, 1) := by decide +kernel
theorem dL_samples_456 : decode cL_samples 456 = .ok (.iconst 4, 1) := by decide +kernel
theorem dL_samples_457 : decode cL_samples 457 = .ok (.iconst 0, 1) := by decide +kernel
theorem dL_samples_458 : decode cL_samples 458 = .ok (.invokestatic 298, 3) := by decide +kernel
theorem dL_samples_461 : decode cL_samples 461 = .ok (.iconst (-1), 1) := by decide +kernel
theorem dL_samples_462 : decode cL_samples 462 = .ok (.if_icmp .ne 7, 3) := by decide +kernel
theorem dL_samples_465 : decode cL_samples 465 = .ok (.iconst 1, 1) := by decide +kernel
theorem dL_samples_466 : decode cL_samples 466 = .ok (.goto 4, 3) := by decide +kernel
theorem dL_samples_469 : decode cL_samples 469 = .ok (.iconst 0, 1) := by decide +kernel
theorem dL_samples_470 : decode cL_samples 470 = .ok (.ireturn, 1) := by decide +kernel
theorem dL_frames_0 : decode cL_frames 0 = .ok (.aload_n 0, 1) := by decide +kernel
theorem dL_frames_1 : decode cL_frames 1 = .ok (.iload_n 1, 1) := by decide +kernel
theorem dL_frames_2 : decode cL_frames 2 = .ok (.invokestatic 286, 3) := by decide +kernel
theorem dL_frames_5 : decode cL_frames 5 = .ok (.astore_n 2, 1) := by decide +kernel
theorem dL_frames_6 : decode cL_frames 6 = .ok (.aload_n 2, 1) := by decide +kernel
theorem dL_frames_7 : decode cL_frames 7 = .ok (.arraylength, 1) := by decide +kernel
theorem dL_frames_8 : decode cL_frames 8 = .ok (.bipush 7, 2) := by decide +kernel
theorem dL_frames_10 : decode cL_frames 10 = .ok (.iadd, 1) := by decide +kernel
theorem dL_frames_11 : decode cL_frames 11 = .ok (.bipush 8, 2) := by decide +kernel
theorem dL_frames_13 : decode cL_frames 13 = .ok (.idiv, 1) := by decide +kernel
theorem dL_frames_14 : decode cL_frames 14 = .ok (.newarray .int, 2) := by decide +kernel
theorem dL_frames_16 : decode cL_frames 16 = .ok (.astore_n 3, 1) := by decide +kernel
theorem dL_frames_17 : decode cL_frames 17 = .ok (.iconst 0, 1) := by decide +kernel
theorem dL_frames_18 : decode cL_frames 18 = .ok (.istore 4, 2) := by decide +kernel
theorem dL_frames_20 : decode cL_frames 20 = .ok (.iload 4, 2) := by decide +kernel
theorem dL_frames_22 : decode cL_frames 22 = .ok (.aload_n 2, 1) := by decide +kernel
theorem dL_frames_23 : decode cL_frames 23 = .ok (.arraylength, 1) := by decide +kernel
theorem dL_frames_24 : decode cL_frames 24 = .ok (.if_icmp .ge 33, 3) := by decide +kernel
theorem dL_frames_27 : decode cL_frames 27 = .ok (.aload_n 3, 1) := by decide +kernel
theorem dL_frames_28 : decode cL_frames 28 = .ok (.iload 4, 2) := by decide +kernel
theorem dL_frames_30 : decode cL_frames 30 = .ok (.bipush 8, 2) := by decide +kernel
theorem dL_frames_32 : decode cL_frames 32 = .ok (.idiv, 1) := by decide +kernel
theorem dL_frames_33 : decode cL_frames 33 = .ok (.aload_n 3, 1) := by decide +kernel
theorem dL_frames_34 : decode cL_frames 34 = .ok (.iload 4, 2) := by decide +kernel
theorem dL_frames_36 : decode cL_frames 36 = .ok (.bipush 8, 2) := by decide +kernel
theorem dL_frames_38 : decode cL_frames 38 = .ok (.idiv, 1) := by decide +kernel
theorem dL_frames_39 : decode cL_frames 39 = .ok (.iaload, 1) := by decide +kernel
theorem dL_frames_40 : decode cL_frames 40 = .ok (.aload_n 2, 1) := by decide +kernel
theorem dL_frames_41 : decode cL_frames 41 = .ok (.iload 4, 2) := by decide +kernel
theorem dL_frames_43 : decode cL_frames 43 = .ok (.iaload, 1) := by decide +kernel
theorem dL_frames_44 : decode cL_frames 44 = .ok (.invokestatic 290, 3) := by decide +kernel
theorem dL_frames_47 : decode cL_frames 47 = .ok (.invokestatic 186, 3) := by decide +kernel
theorem dL_frames_50 : decode cL_frames 50 = .ok (.iastore, 1) := by decide +kernel
theorem dL_frames_51 : decode cL_frames 51 = .ok (.iinc 4 1, 3) := by decide +kernel
theorem dL_frames_54 : decode cL_frames 54 = .ok (.goto (-34), 3) := by decide +kernel
theorem dL_frames_57 : decode cL_frames 57 = .ok (.aload_n 3, 1) := by decide +kernel
theorem dL_frames_58 : decode cL_frames 58 = .ok (.areturn, 1) := by decide +kernel
theorem dL_tanks_0 : decode cL_tanks 0 = .ok (.iconst (-1), 1) := by decide +kernel
theorem dL_tanks_1 : decode cL_tanks 1 = .ok (.istore_n 1, 1) := by decide +kernel
theorem dL_tanks_2 : decode cL_tanks 2 = .ok (.iconst 0, 1) := by decide +kernel
theorem dL_tanks_3 : decode cL_tanks 3 = .ok (.istore_n 2, 1) := by decide +kernel
theorem dL_tanks_4 : decode cL_tanks 4 = .ok (.iconst 0, 1) := by decide +kernel
theorem dL_tanks_5 : decode cL_tanks 5 = .ok (.istore_n 3, 1) := by decide +kernel
theorem dL_tanks_6 : decode cL_tanks 6 = .ok (.iconst 0, 1) := by decide +kernel
theorem dL_tanks_7 : decode cL_tanks 7 = .ok (.istore 4, 2) := by decide +kernel
theorem dL_tanks_9 : decode cL_tanks 9 = .ok (.iload 4, 2) := by decide +kernel
theorem dL_tanks_11 : decode cL_tanks 11 = .ok (.aload_n 0, 1) := by decide +kernel
theorem dL_tanks_12 : decode cL_tanks 12 = .ok (.invokevirtual 200, 3) := by decide +kernel
theorem dL_tanks_15 : decode cL_tanks 15 = .ok (.if_icmp .ge 288, 3) := by decide +kernel
theorem dL_tanks_18 : decode cL_tanks 18 = .ok (.new 155, 3) := by decide +kernel
theorem dL_tanks_21 : decode cL_tanks 21 = .ok (.dup, 1) := by decide +kernel
theorem dL_tanks_22 : decode cL_tanks 22 = .ok (.new 155, 3) := by decide +kernel
theorem dL_tanks_25 : decode cL_tanks 25 = .ok (.dup, 1) := by decide +kernel
theorem dL_tanks_26 : decode cL_tanks 26 = .ok (.invokespecial 157, 3) := by decide +kernel
theorem dL_tanks_29 : decode cL_tanks 29 = .ok (.aload_n 0, 1) := by decide +kernel
theorem dL_tanks_30 : decode cL_tanks 30 = .ok (.iload 4, 2) := by decide +kernel
theorem dL_tanks_32 : decode cL_tanks 32 = .ok (.invokestatic 317, 3) := by decide +kernel
theorem dL_tanks_35 : decode cL_tanks 35 = .ok (.invokevirtual 259, 3) := by decide +kernel
theorem dL_tanks_38 : decode cL_tanks 38 = .ok (.ldc_w 319, 3) := by decide +kernel
theorem dL_tanks_41 : decode cL_tanks 41 = .ok (.invokevirtual 254, 3) := by decide +kernel
theorem dL_tanks_44 : decode cL_tanks 44 = .ok (.aload_n 0, 1) := by decide +kernel
theorem dL_tanks_45 : decode cL_tanks 45 = .ok (.iload 4, 2) := by decide +kernel
theorem dL_tanks_47 : decode cL_tanks 47 = .ok (.invokestatic 321, 3) := by decide +kernel
theorem dL_tanks_50 : decode cL_tanks 50 = .ok (.invokevirtual 259, 3) := by decide +kernel
theorem dL_tanks_53 : decode cL_tanks 53 = .ok (.aload_n 0, 1) := by decide +kernel
theorem dL_tanks_54 : decode cL_tanks 54 = .ok (.iload 4, 2) := by decide +kernel
theorem dL_tanks_56 : decode cL_tanks 56 = .ok (.invokestatic 323, 3) := by decide +kernel
theorem dL_tanks_59 : decode cL_tanks 59 = .ok (.sipush 9999, 3) := by decide +kernel
theorem dL_tanks_62 : decode cL_tanks 62 = .ok (.if_icmp .ne 9, 3) := by decide +kernel
theorem dL_tanks_65 : decode cL_tanks 65 = .ok (.ldc_w 325, 3) := by decide +kernel
theorem dL_tanks_68 : decode cL_tanks 68 = .ok (.goto 28, 3) := by decide +kernel
theorem dL_tanks_71 : decode cL_tanks 71 = .ok (.new 155, 3) := by decide +kernel
theorem dL_tanks_74 : decode cL_tanks 74 = .ok (.dup, 1) := by decide +kernel
theorem dL_tanks_75 : decode cL_tanks 75 = .ok (.invokespecial 157, 3) := by decide +kernel
theorem dL_tanks_78 : decode cL_tanks 78 = .ok (.ldc_w 327, 3) := by decide +kernel
theorem dL_tanks_81 : decode cL_tanks 81 = .ok (.invokevirtual 254, 3) := by decide +kernel
theorem dL_tanks_84 : decode cL_tanks 84 = .ok (.aload_n 0, 1) := by decide +kernel
theorem dL_tanks_85 : decode cL_tanks 85 = .ok (.iload 4, 2) := by decide +kernel
theorem dL_tanks_87 : decode cL_tanks 87 = .ok (.invokestatic 323, 3) := by decide +kernel
theorem dL_tanks_90 : decode cL_tanks 90 = .ok (.invokevirtual 259, 3) := by decide +kernel
theorem dL_tanks_93 : decode cL_tanks 93 = .ok (.invokevirtual 166, 3) := by decide +kernel
theorem dL_tanks_96 : decode cL_tanks 96 = .ok (.invokevirtual 254, 3) := by decide +kernel
theorem dL_tanks_99 : decode cL_tanks 99 = .ok (.invokevirtual 166, 3) := by decide +kernel
theorem dL_tanks_102 : decode cL_tanks 102 = .ok (.invokespecial 249, 3) := by decide +kernel
theorem dL_tanks_105 : decode cL_tanks 105 = .ok (.astore 5, 2) := by decide +kernel
theorem dL_tanks_107 : decode cL_tanks 107 = .ok (.iconst 0, 1) := by decide +kernel
theorem dL_tanks_108 : decode cL_tanks 108 = .ok (.istore 6, 2) := by decide +kernel
theorem dL_tanks_110 : decode cL_tanks 110 = .ok (.iload 6, 2) := by decide +kernel
theorem dL_tanks_112 : decode cL_tanks 112 = .ok (.aload_n 0, 1) := by decide +kernel
theorem dL_tanks_113 : decode cL_tanks 113 = .ok (.iload 4, 2) := by decide +kernel
theorem dL_tanks_115 : decode cL_tanks 115 = .ok (.invokestatic 317, 3) := by decide +kernel
theorem dL_tanks_118 : decode cL_tanks 118 = .ok (.if_icmp .ge 28, 3) := by decide +kernel
theorem dL_tanks_121 : decode cL_tanks 121 = .ok (.aload 5, 2) := by decide +kernel
theorem dL_tanks_123 : decode cL_tanks 123 = .ok (.bipush 32, 2) := by decide +kernel
theorem dL_tanks_125 : decode cL_tanks 125 = .ok (.invokevirtual 163, 3) := by decide +kernel
theorem dL_tanks_128 : decode cL_tanks 128 = .ok (.aload_n 0, 1) := by decide +kernel
theorem dL_tanks_129 : decode cL_tanks 129 = .ok (.iload 4, 2) := by decide +kernel
theorem dL_tanks_131 : decode cL_tanks 131 = .ok (.iload 6, 2) := by decide +kernel
theorem dL_tanks_133 : decode cL_tanks 133 = .ok (.invokestatic 329, 3) := by decide +kernel
theorem dL_tanks_136 : decode cL_tanks 136 = .ok (.invokevirtual 259, 3) := by decide +kernel
theorem dL_tanks_139 : decode cL_tanks 139 = .ok (.pop, 1) := by decide +kernel
theorem dL_tanks_140 : decode cL_tanks 140 = .ok (.iinc 6 1, 3) := by decide +kernel
theorem dL_tanks_143 : decode cL_tanks 143 = .ok (.goto (-33), 3) := by decide +kernel
theorem dL_tanks_146 : decode cL_tanks 146 = .ok (.iload_n 2, 1) := by decide +kernel
theorem dL_tanks_147 : decode cL_tanks 147 = .ok (.aload_n 0, 1) := by decide +kernel
theorem dL_tanks_148 : decode cL_tanks 148 = .ok (.iload 4, 2) := by decide +kernel
theorem dL_tanks_150 : decode cL_tanks 150 = .ok (.invokestatic 317, 3) := by decide +kernel
