theorem dJ7_copyOf_6403c_27 : decode cJ7_copyOf_6403c 27 = .ok (.aload_n 3, 1) := by decide +kernel
theorem dJ7_copyOf_6403c_28 : decode cJ7_copyOf_6403c 28 = .ok (.iconst 0, 1) := by decide +kernel
theorem dJ7_copyOf_6403c_29 : decode cJ7_copyOf_6403c 29 = .ok (.aload_n 0, 1) := by decide +kernel
theorem dJ7_copyOf_6403c_30 : decode cJ7_copyOf_6403c 30 = .ok (.arraylength, 1) := by decide +kernel
theorem dJ7_copyOf_6403c_31 : decode cJ7_copyOf_6403c 31 = .ok (.iload_n 1, 1) := by decide +kernel
theorem dJ7_copyOf_6403c_32 : decode cJ7_copyOf_6403c 32 = .ok (.invokestatic 304, 3) := by decide +kernel
theorem dJ7_copyOf_6403c_35 : decode cJ7_copyOf_6403c 35 = .ok (.invokestatic 150, 3) := by decide +kernel
theorem dJ7_copyOf_6403c_38 : decode cJ7_copyOf_6403c 38 = .ok (.aload_n 3, 1) := by decide +kernel
theorem dJ7_copyOf_6403c_39 : decode cJ7_copyOf_6403c 39 = .ok (.areturn, 1) := by decide +kernel
theorem dJ15_checkIndex_7cf53_0 : decode cJ15_checkIndex_7cf53 0 = .ok (.iload_n 0, 1) := by decide +kernel
theorem dJ15_checkIndex_7cf53_1 : decode cJ15_checkIndex_7cf53 1 = .ok (.iload_n 1, 1) := by decide +kernel
theorem dJ15_checkIndex_7cf53_2 : decode cJ15_checkIndex_7cf53 2 = .ok (.aconst_null, 1) := by decide +kernel
theorem dJ15_checkIndex_7cf53_3 : decode cJ15_checkIndex_7cf53 3 = .ok (.invokestatic 105, 3) := by decide +kernel
theorem dJ15_checkIndex_7cf53_6 : decode cJ15_checkIndex_7cf53 6 = .ok (.ireturn, 1) := by decide +kernel
theorem dJ8_newLength_cabcc_0 : decode cJ8_newLength_cabcc 0 = .ok (.iload_n 0, 1) := by decide +kernel
theorem dJ8_newLength_cabcc_1 : decode cJ8_newLength_cabcc 1 = .ok (.iload_n 1, 1) := by decide +kernel
theorem dJ8_newLength_cabcc_2 : decode cJ8_newLength_cabcc 2 = .ok (.iload_n 2, 1) := by decide +kernel
theorem dJ8_newLength_cabcc_3 : decode cJ8_newLength_cabcc 3 = .ok (.invokestatic 194, 3) := by decide +kernel
theorem dJ8_newLength_cabcc_6 : decode cJ8_newLength_cabcc 6 = .ok (.iadd, 1) := by decide +kernel
theorem dJ8_newLength_cabcc_7 : decode cJ8_newLength_cabcc 7 = .ok (.istore_n 3, 1) := by decide +kernel
theorem dJ8_newLength_cabcc_8 : decode cJ8_newLength_cabcc 8 = .ok (.iconst 0, 1) := by decide +kernel
theorem dJ8_newLength_cabcc_9 : decode cJ8_newLength_cabcc 9 = .ok (.iload_n 3, 1) := by decide +kernel
theorem dJ8_newLength_cabcc_10 : decode cJ8_newLength_cabcc 10 = .ok (.if_icmp .ge 11, 3) := by decide +kernel
theorem dJ8_newLength_cabcc_13 : decode cJ8_newLength_cabcc 13 = .ok (.iload_n 3, 1) := by decide +kernel
theorem dJ8_newLength_cabcc_14 : decode cJ8_newLength_cabcc 14 = .ok (.ldc 200, 2) := by decide +kernel
theorem dJ8_newLength_cabcc_16 : decode cJ8_newLength_cabcc 16 = .ok (.if_icmp .gt 5, 3) := by decide +kernel
theorem dJ8_newLength_cabcc_19 : decode cJ8_newLength_cabcc 19 = .ok (.iload_n 3, 1) := by decide +kernel
theorem dJ8_newLength_cabcc_20 : decode cJ8_newLength_cabcc 20 = .ok (.ireturn, 1) := by decide +kernel
theorem dJ8_newLength_cabcc_21 : decode cJ8_newLength_cabcc 21 = .ok (.iload_n 0, 1) := by decide +kernel
theorem dJ8_newLength_cabcc_22 : decode cJ8_newLength_cabcc 22 = .ok (.iload_n 1, 1) := by decide +kernel
theorem dJ8_newLength_cabcc_23 : decode cJ8_newLength_cabcc 23 = .ok (.invokestatic 201, 3) := by decide +kernel
theorem dJ8_newLength_cabcc_26 : decode cJ8_newLength_cabcc 26 = .ok (.ireturn, 1) := by decide +kernel
theorem dJ8_hugeLength_7cf53_0 : decode cJ8_hugeLength_7cf53 0 = .ok (.iload_n 0, 1) := by decide +kernel
theorem dJ8_hugeLength_7cf53_1 : decode cJ8_hugeLength_7cf53 1 = .ok (.iload_n 1, 1) := by decide +kernel
theorem dJ8_hugeLength_7cf53_2 : decode cJ8_hugeLength_7cf53 2 = .ok (.iadd, 1) := by decide +kernel
theorem dJ8_hugeLength_7cf53_3 : decode cJ8_hugeLength_7cf53 3 = .ok (.istore_n 2, 1) := by decide +kernel
theorem dJ8_hugeLength_7cf53_4 : decode cJ8_hugeLength_7cf53 4 = .ok (.iload_n 2, 1) := by decide +kernel
theorem dJ8_hugeLength_7cf53_5 : decode cJ8_hugeLength_7cf53 5 = .ok (.ifCond .ge 44, 3) := by decide +kernel
theorem dJ8_hugeLength_7cf53_8 : decode cJ8_hugeLength_7cf53 8 = .ok (.new 204, 3) := by decide +kernel
theorem dJ8_hugeLength_7cf53_11 : decode cJ8_hugeLength_7cf53 11 = .ok (.dup, 1) := by decide +kernel
theorem dJ8_hugeLength_7cf53_12 : decode cJ8_hugeLength_7cf53 12 = .ok (.new 89, 3) := by decide +kernel
theorem dJ8_hugeLength_7cf53_15 : decode cJ8_hugeLength_7cf53 15 = .ok (.dup, 1) := by decide +kernel
theorem dJ8_hugeLength_7cf53_16 : decode cJ8_hugeLength_7cf53 16 = .ok (.invokespecial 91, 3) := by decide +kernel
theorem dJ8_hugeLength_7cf53_19 : decode cJ8_hugeLength_7cf53 19 = .ok (.ldc 206, 2) := by decide +kernel
theorem dJ8_hugeLength_7cf53_21 : decode cJ8_hugeLength_7cf53 21 = .ok (.invokevirtual 94, 3) := by decide +kernel
theorem dJ8_hugeLength_7cf53_24 : decode cJ8_hugeLength_7cf53 24 = .ok (.iload_n 0, 1) := by decide +kernel
theorem dJ8_hugeLength_7cf53_25 : decode cJ8_hugeLength_7cf53 25 = .ok (.invokevirtual 98, 3) := by decide +kernel
theorem dJ8_hugeLength_7cf53_28 : decode cJ8_hugeLength_7cf53 28 = .ok (.ldc 208, 2) := by decide +kernel
theorem dJ8_hugeLength_7cf53_30 : decode cJ8_hugeLength_7cf53 30 = .ok (.invokevirtual 94, 3) := by decide +kernel
theorem dJ8_hugeLength_7cf53_33 : decode cJ8_hugeLength_7cf53 33 = .ok (.iload_n 1, 1) := by decide +kernel
theorem dJ8_hugeLength_7cf53_34 : decode cJ8_hugeLength_7cf53 34 = .ok (.invokevirtual 98, 3) := by decide +kernel
theorem dJ8_hugeLength_7cf53_37 : decode cJ8_hugeLength_7cf53 37 = .ok (.ldc 210, 2) := by decide +kernel
theorem dJ8_hugeLength_7cf53_39 : decode cJ8_hugeLength_7cf53 39 = .ok (.invokevirtual 94, 3) := by decide +kernel
theorem dJ8_hugeLength_7cf53_42 : decode cJ8_hugeLength_7cf53 42 = .ok (.invokevirtual 101, 3) := by decide +kernel
theorem dJ8_hugeLength_7cf53_45 : decode cJ8_hugeLength_7cf53 45 = .ok (.invokespecial 212, 3) := by decide +kernel
theorem dJ8_hugeLength_7cf53_48 : decode cJ8_hugeLength_7cf53 48 = .ok (.athrow, 1) := by decide +kernel
theorem dJ8_hugeLength_7cf53_49 : decode cJ8_hugeLength_7cf53 49 = .ok (.iload_n 2, 1) := by decide +kernel
theorem dJ8_hugeLength_7cf53_50 : decode cJ8_hugeLength_7cf53 50 = .ok (.ldc 200, 2) := by decide +kernel
theorem dJ8_hugeLength_7cf53_52 : decode cJ8_hugeLength_7cf53 52 = .ok (.if_icmp .gt 6, 3) := by decide +kernel
theorem dJ8_hugeLength_7cf53_55 : decode cJ8_hugeLength_7cf53 55 = .ok (.ldc 200, 2) := by decide +kernel
theorem dJ8_hugeLength_7cf53_57 : decode cJ8_hugeLength_7cf53 57 = .ok (.ireturn, 1) := by decide +kernel
theorem dJ8_hugeLength_7cf53_58 : decode cJ8_hugeLength_7cf53 58 = .ok (.iload_n 2, 1) := by decide +kernel
theorem dJ8_hugeLength_7cf53_59 : decode cJ8_hugeLength_7cf53 59 = .ok (.ireturn, 1) := by decide +kernel
theorem dJ3_checkIndex_8e157_0 : decode cJ3_checkIndex_8e157 0 = .ok (.iload_n 0, 1) := by decide +kernel
theorem dJ3_checkIndex_8e157_1 : decode cJ3_checkIndex_8e157 1 = .ok (.ifCond .lt 8, 3) := by decide +kernel
theorem dJ3_checkIndex_8e157_4 : decode cJ3_checkIndex_8e157 4 = .ok (.iload_n 0, 1) := by decide +kernel
theorem dJ3_checkIndex_8e157_5 : decode cJ3_checkIndex_8e157 5 = .ok (.iload_n 1, 1) := by decide +kernel
theorem dJ3_checkIndex_8e157_6 : decode cJ3_checkIndex_8e157 6 = .ok (.if_icmp .lt 10, 3) := by decide +kernel
theorem dJ3_checkIndex_8e157_9 : decode cJ3_checkIndex_8e157 9 = .ok (.aload_n 2, 1) := by decide +kernel
theorem dJ3_checkIndex_8e157_10 : decode cJ3_checkIndex_8e157 10 = .ok (.iload_n 0, 1) := by decide +kernel
theorem dJ3_checkIndex_8e157_11 : decode cJ3_checkIndex_8e157 11 = .ok (.iload_n 1, 1) := by decide +kernel
theorem dJ3_checkIndex_8e157_12 : decode cJ3_checkIndex_8e157 12 = .ok (.invokestatic 95, 3) := by decide +kernel
theorem dJ3_checkIndex_8e157_15 : decode cJ3_checkIndex_8e157 15 = .ok (.athrow, 1) := by decide +kernel
theorem dJ3_checkIndex_8e157_16 : decode cJ3_checkIndex_8e157 16 = .ok (.iload_n 0, 1) := by decide +kernel
theorem dJ3_checkIndex_8e157_17 : decode cJ3_checkIndex_8e157 17 = .ok (.ireturn, 1) := by decide +kernel
theorem dL_cell_0 : decode cL_cell 0 = .ok (.iload_n 1, 1) := by decide +kernel
theorem dL_cell_1 : decode cL_cell 1 = .ok (.aload_n 0, 1) := by decide +kernel
theorem dL_cell_2 : decode cL_cell 2 = .ok (.arraylength, 1) := by decide +kernel
theorem dL_cell_3 : decode cL_cell 3 = .ok (.if_icmp .ge 9, 3) := by decide +kernel
theorem dL_cell_6 : decode cL_cell 6 = .ok (.aload_n 0, 1) := by decide +kernel
theorem dL_cell_7 : decode cL_cell 7 = .ok (.iload_n 1, 1) := by decide +kernel
theorem dL_cell_8 : decode cL_cell 8 = .ok (.iaload, 1) := by decide +kernel
theorem dL_cell_9 : decode cL_cell 9 = .ok (.goto 12, 3) := by decide +kernel
theorem dL_cell_12 : decode cL_cell 12 = .ok (.ldc 7, 2) := by decide +kernel
theorem dL_cell_14 : decode cL_cell 14 = .ok (.iload_n 1, 1) := by decide +kernel
theorem dL_cell_15 : decode cL_cell 15 = .ok (.iconst 1, 1) := by decide +kernel
theorem dL_cell_16 : decode cL_cell 16 = .ok (.iadd, 1) := by decide +kernel
theorem dL_cell_17 : decode cL_cell 17 = .ok (.imul, 1) := by decide +kernel
theorem dL_cell_18 : decode cL_cell 18 = .ok (.ldc 8, 2) := by decide +kernel
theorem dL_cell_20 : decode cL_cell 20 = .ok (.iadd, 1) := by decide +kernel
theorem dL_cell_21 : decode cL_cell 21 = .ok (.ireturn, 1) := by decide +kernel
theorem dL_low_0 : decode cL_low 0 = .ok (.iload_n 0, 1) := by decide +kernel
theorem dL_low_1 : decode cL_low 1 = .ok (.ldc 9, 2) := by decide +kernel
theorem dL_low_3 : decode cL_low 3 = .ok (.iand, 1) := by decide +kernel
theorem dL_low_4 : decode cL_low 4 = .ok (.iload_n 1, 1) := by decide +kernel
theorem dL_low_5 : decode cL_low 5 = .ok (.irem, 1) := by decide +kernel
theorem dL_low_6 : decode cL_low 6 = .ok (.ireturn, 1) := by decide +kernel
theorem dL_found_0 : decode cL_found 0 = .ok (.aload_n 0, 1) := by decide +kernel
theorem dL_found_1 : decode cL_found 1 = .ok (.iconst 0, 1) := by decide +kernel
theorem dL_found_2 : decode cL_found 2 = .ok (.iload_n 1, 1) := by decide +kernel
theorem dL_found_3 : decode cL_found 3 = .ok (.invokevirtual 10, 3) := by decide +kernel
theorem dL_found_6 : decode cL_found 6 = .ok (.ireturn, 1) := by decide +kernel
theorem dL_found_7 : decode cL_found 7 = .ok (.astore_n 2, 1) := by decide +kernel
theorem dL_found_8 : decode cL_found 8 = .ok (.iconst 0, 1) := by decide +kernel
theorem dL_found_9 : decode cL_found 9 = .ok (.ireturn, 1) := by decide +kernel
theorem dL_listed_0 : decode cL_listed 0 = .ok (.aload_n 0, 1) := by decide +kernel
theorem dL_listed_1 : decode cL_listed 1 = .ok (.iconst 0, 1) := by decide +kernel
theorem dL_listed_2 : decode cL_listed 2 = .ok (.iload_n 1, 1) := by decide +kernel
theorem dL_listed_3 : decode cL_listed 3 = .ok (.invokevirtual 18, 3) := by decide +kernel
theorem dL_listed_6 : decode cL_listed 6 = .ok (.ireturn, 1) := by decide +kernel
theorem dL_listed_7 : decode cL_listed 7 = .ok (.astore_n 2, 1) := by decide +kernel
theorem dL_listed_8 : decode cL_listed 8 = .ok (.iconst (-1), 1) := by decide +kernel
theorem dL_listed_9 : decode cL_listed 9 = .ok (.ireturn, 1) := by decide +kernel
theorem dL_written_0 : decode cL_written 0 = .ok (.aload_n 0, 1) := by decide +kernel
theorem dL_written_1 : decode cL_written 1 = .ok (.iload_n 1, 1) := by decide +kernel
theorem dL_written_2 : decode cL_written 2 = .ok (.iload_n 2, 1) := by decide +kernel
theorem dL_written_3 : decode cL_written 3 = .ok (.invokevirtual 21, 3) := by decide +kernel
theorem dL_written_6 : decode cL_written 6 = .ok (.ireturn, 1) := by decide +kernel
theorem dL_written_7 : decode cL_written 7 = .ok (.astore_n 3, 1) := by decide +kernel
theorem dL_written_8 : decode cL_written 8 = .ok (.iconst (-1), 1) := by decide +kernel
theorem dL_written_9 : decode cL_written 9 = .ok (.ireturn, 1) := by decide +kernel
theorem dL_whole_0 : decode cL_whole 0 = .ok (.lload_n 0, 1) := by decide +kernel
theorem dL_whole_1 : decode cL_whole 1 = .ok (.iconst 1, 1) := by decide +kernel
theorem dL_whole_2 : decode cL_whole 2 = .ok (.lshl, 1) := by decide +kernel
theorem dL_whole_3 : decode cL_whole 3 = .ok (.lconst 0, 1) := by decide +kernel
theorem dL_whole_4 : decode cL_whole 4 = .ok (.lcmp, 1) := by decide +kernel
theorem dL_whole_5 : decode cL_whole 5 = .ok (.ifCond .ne 5, 3) := by decide +kernel
theorem dL_whole_8 : decode cL_whole 8 = .ok (.lconst 0, 1) := by decide +kernel
theorem dL_whole_9 : decode cL_whole 9 = .ok (.lreturn, 1) := by decide +kernel
theorem dL_whole_10 : decode cL_whole 10 = .ok (.lload_n 0, 1) := by decide +kernel
theorem dL_whole_11 : decode cL_whole 11 = .ok (.ldc2_w 24, 3) := by decide +kernel
theorem dL_whole_14 : decode cL_whole 14 = .ok (.land, 1) := by decide +kernel
theorem dL_whole_15 : decode cL_whole 15 = .ok (.ldc2_w 26, 3) := by decide +kernel
theorem dL_whole_18 : decode cL_whole 18 = .ok (.lor, 1) := by decide +kernel
theorem dL_whole_19 : decode cL_whole 19 = .ok (.lstore_n 2, 1) := by decide +kernel
theorem dL_whole_20 : decode cL_whole 20 = .ok (.sipush 1075, 3) := by decide +kernel
theorem dL_whole_23 : decode cL_whole 23 = .ok (.lload_n 0, 1) := by decide +kernel
theorem dL_whole_24 : decode cL_whole 24 = .ok (.bipush 52, 2) := by decide +kernel
theorem dL_whole_26 : decode cL_whole 26 = .ok (.lshr, 1) := by decide +kernel
theorem dL_whole_27 : decode cL_whole 27 = .ok (.ldc2_w 28, 3) := by decide +kernel
theorem dL_whole_30 : decode cL_whole 30 = .ok (.land, 1) := by decide +kernel
theorem dL_whole_31 : decode cL_whole 31 = .ok (.l2i, 1) := by decide +kernel
theorem dL_whole_32 : decode cL_whole 32 = .ok (.isub, 1) := by decide +kernel
theorem dL_whole_33 : decode cL_whole 33 = .ok (.istore 4, 2) := by decide +kernel
theorem dL_whole_35 : decode cL_whole 35 = .ok (.iload 4, 2) := by decide +kernel
theorem dL_whole_37 : decode cL_whole 37 = .ok (.ifCond .ge 11, 3) := by decide +kernel
theorem dL_whole_40 : decode cL_whole 40 = .ok (.lload_n 2, 1) := by decide +kernel
theorem dL_whole_41 : decode cL_whole 41 = .ok (.iload 4, 2) := by decide +kernel
theorem dL_whole_43 : decode cL_whole 43 = .ok (.ineg, 1) := by decide +kernel
theorem dL_whole_44 : decode cL_whole 44 = .ok (.lshl, 1) := by decide +kernel
theorem dL_whole_45 : decode cL_whole 45 = .ok (.goto 18, 3) := by decide +kernel
theorem dL_whole_48 : decode cL_whole 48 = .ok (.iload 4, 2) := by decide +kernel
theorem dL_whole_50 : decode cL_whole 50 = .ok (.bipush 60, 2) := by decide +kernel
theorem dL_whole_52 : decode cL_whole 52 = .ok (.if_icmp .le 7, 3) := by decide +kernel
theorem dL_whole_55 : decode cL_whole 55 = .ok (.lconst 0, 1) := by decide +kernel
theorem dL_whole_56 : decode cL_whole 56 = .ok (.goto 7, 3) := by decide +kernel
theorem dL_whole_59 : decode cL_whole 59 = .ok (.lload_n 2, 1) := by decide +kernel
theorem dL_whole_60 : decode cL_whole 60 = .ok (.iload 4, 2) := by decide +kernel
theorem dL_whole_62 : decode cL_whole 62 = .ok (.lshr, 1) := by decide +kernel
theorem dL_whole_63 : decode cL_whole 63 = .ok (.lreturn, 1) := by decide +kernel
theorem dL_isWhole_0 : decode cL_isWhole 0 = .ok (.sipush 1075, 3) := by decide +kernel
theorem dL_isWhole_3 : decode cL_isWhole 3 = .ok (.lload_n 0, 1) := by decide +kernel
theorem dL_isWhole_4 : decode cL_isWhole 4 = .ok (.bipush 52, 2) := by decide +kernel
theorem dL_isWhole_6 : decode cL_isWhole 6 = .ok (.lshr, 1) := by decide +kernel
theorem dL_isWhole_7 : decode cL_isWhole 7 = .ok (.ldc2_w 28, 3) := by decide +kernel
theorem dL_isWhole_10 : decode cL_isWhole 10 = .ok (.land, 1) := by decide +kernel
theorem dL_isWhole_11 : decode cL_isWhole 11 = .ok (.l2i, 1) := by decide +kernel
theorem dL_isWhole_12 : decode cL_isWhole 12 = .ok (.isub, 1) := by decide +kernel
theorem dL_isWhole_13 : decode cL_isWhole 13 = .ok (.istore 4, 2) := by decide +kernel
theorem dL_isWhole_15 : decode cL_isWhole 15 = .ok (.lload_n 0, 1) := by decide +kernel
theorem dL_isWhole_16 : decode cL_isWhole 16 = .ok (.lconst 0, 1) := by decide +kernel
theorem dL_isWhole_17 : decode cL_isWhole 17 = .ok (.lcmp, 1) := by decide +kernel
theorem dL_isWhole_18 : decode cL_isWhole 18 = .ok (.ifCond .le 41, 3) := by decide +kernel
theorem dL_isWhole_21 : decode cL_isWhole 21 = .ok (.iload 4, 2) := by decide +kernel
theorem dL_isWhole_23 : decode cL_isWhole 23 = .ok (.ifCond .lt 36, 3) := by decide +kernel
theorem dL_isWhole_26 : decode cL_isWhole 26 = .ok (.iload 4, 2) := by decide +kernel
theorem dL_isWhole_28 : decode cL_isWhole 28 = .ok (.bipush 53, 2) := by decide +kernel
theorem dL_isWhole_30 : decode cL_isWhole 30 = .ok (.if_icmp .ge 29, 3) := by decide +kernel
theorem dL_isWhole_33 : decode cL_isWhole 33 = .ok (.lload_n 0, 1) := by decide +kernel
theorem dL_isWhole_34 : decode cL_isWhole 34 = .ok (.lconst 1, 1) := by decide +kernel
theorem dL_isWhole_35 : decode cL_isWhole 35 = .ok (.iload 4, 2) := by decide +kernel
theorem dL_isWhole_37 : decode cL_isWhole 37 = .ok (.lshl, 1) := by decide +kernel
theorem dL_isWhole_38 : decode cL_isWhole 38 = .ok (.lconst 1, 1) := by decide +kernel
theorem dL_isWhole_39 : decode cL_isWhole 39 = .ok (.lsub, 1) := by decide +kernel
theorem dL_isWhole_40 : decode cL_isWhole 40 = .ok (.land, 1) := by decide +kernel
theorem dL_isWhole_41 : decode cL_isWhole 41 = .ok (.lconst 0, 1) := by decide +kernel
theorem dL_isWhole_42 : decode cL_isWhole 42 = .ok (.lcmp, 1) := by decide +kernel
theorem dL_isWhole_43 : decode cL_isWhole 43 = .ok (.ifCond .ne 16, 3) := by decide +kernel
theorem dL_isWhole_46 : decode cL_isWhole 46 = .ok (.lload_n 0, 1) := by decide +kernel
theorem dL_isWhole_47 : decode cL_isWhole 47 = .ok (.invokestatic 30, 3) := by decide +kernel
theorem dL_isWhole_50 : decode cL_isWhole 50 = .ok (.lload_n 2, 1) := by decide +kernel
theorem dL_isWhole_51 : decode cL_isWhole 51 = .ok (.lcmp, 1) := by decide +kernel
theorem dL_isWhole_52 : decode cL_isWhole 52 = .ok (.ifCond .ne 7, 3) := by decide +kernel
theorem dL_isWhole_55 : decode cL_isWhole 55 = .ok (.iconst 1, 1) := by decide +kernel
theorem dL_isWhole_56 : decode cL_isWhole 56 = .ok (.goto 4, 3) := by decide +kernel
theorem dL_isWhole_59 : decode cL_isWhole 59 = .ok (.iconst 0, 1) := by decide +kernel
theorem dL_isWhole_60 : decode cL_isWhole 60 = .ok (.ireturn, 1) := by decide +kernel
theorem dL_light_0 : decode cL_light 0 = .ok (.aload_n 0, 1) := by decide +kernel
theorem dL_light_1 : decode cL_light 1 = .ok (.iconst 0, 1) := by decide +kernel
theorem dL_light_2 : decode cL_light 2 = .ok (.iaload, 1) := by decide +kernel
theorem dL_light_3 : decode cL_light 3 = .ok (.i2l, 1) := by decide +kernel
theorem dL_light_4 : decode cL_light 4 = .ok (.lstore_n 3, 1) := by decide +kernel
theorem dL_light_5 : decode cL_light 5 = .ok (.iconst 0, 1) := by decide +kernel
theorem dL_light_6 : decode cL_light 6 = .ok (.istore 5, 2) := by decide +kernel
theorem dL_light_8 : decode cL_light 8 = .ok (.iload 5, 2) := by decide +kernel
theorem dL_light_10 : decode cL_light 10 = .ok (.aload_n 0, 1) := by decide +kernel
theorem dL_light_11 : decode cL_light 11 = .ok (.bipush 13, 2) := by decide +kernel
theorem dL_light_13 : decode cL_light 13 = .ok (.iaload, 1) := by decide +kernel
theorem dL_light_14 : decode cL_light 14 = .ok (.if_icmp .ge 71, 3) := by decide +kernel
theorem dL_light_17 : decode cL_light 17 = .ok (.iload_n 2, 1) := by decide +kernel
theorem dL_light_18 : decode cL_light 18 = .ok (.aload_n 0, 1) := by decide +kernel
theorem dL_light_19 : decode cL_light 19 = .ok (.iconst 2, 1) := by decide +kernel
theorem dL_light_20 : decode cL_light 20 = .ok (.iconst 3, 1) := by decide +kernel
theorem dL_light_21 : decode cL_light 21 = .ok (.iload 5, 2) := by decide +kernel
theorem dL_light_23 : decode cL_light 23 = .ok (.imul, 1) := by decide +kernel
theorem dL_light_24 : decode cL_light 24 = .ok (.iadd, 1) := by decide +kernel
theorem dL_light_25 : decode cL_light 25 = .ok (.iaload, 1) := by decide +kernel
theorem dL_light_26 : decode cL_light 26 = .ok (.isub, 1) := by decide +kernel
theorem dL_light_27 : decode cL_light 27 = .ok (.aload_n 0, 1) := by decide +kernel
theorem dL_light_28 : decode cL_light 28 = .ok (.iconst 1, 1) := by decide +kernel
theorem dL_light_29 : decode cL_light 29 = .ok (.iconst 3, 1) := by decide +kernel
theorem dL_light_30 : decode cL_light 30 = .ok (.iload 5, 2) := by decide +kernel
theorem dL_light_32 : decode cL_light 32 = .ok (.imul, 1) := by decide +kernel
theorem dL_light_33 : decode cL_light 33 = .ok (.iadd, 1) := by decide +kernel
theorem dL_light_34 : decode cL_light 34 = .ok (.iaload, 1) := by decide +kernel
theorem dL_light_35 : decode cL_light 35 = .ok (.irem, 1) := by decide +kernel
theorem dL_light_36 : decode cL_light 36 = .ok (.istore 6, 2) := by decide +kernel
theorem dL_light_38 : decode cL_light 38 = .ok (.iload 6, 2) := by decide +kernel
theorem dL_light_40 : decode cL_light 40 = .ok (.ifCond .ge 16, 3) := by decide +kernel
theorem dL_light_43 : decode cL_light 43 = .ok (.iload 6, 2) := by decide +kernel
theorem dL_light_45 : decode cL_light 45 = .ok (.aload_n 0, 1) := by decide +kernel
theorem dL_light_46 : decode cL_light 46 = .ok (.iconst 1, 1) := by decide +kernel
theorem dL_light_47 : decode cL_light 47 = .ok (.iconst 3, 1) := by decide +kernel
theorem dL_light_48 : decode cL_light 48 = .ok (.iload 5, 2) := by decide +kernel
theorem dL_light_50 : decode cL_light 50 = .ok (.imul, 1) := by decide +kernel
theorem dL_light_51 : decode cL_light 51 = .ok (.iadd, 1) := by decide +kernel
theorem dL_light_52 : decode cL_light 52 = .ok (.iaload, 1) := by decide +kernel
theorem dL_light_53 : decode cL_light 53 = .ok (.iadd, 1) := by decide +kernel
theorem dL_light_54 : decode cL_light 54 = .ok (.istore 6, 2) := by decide +kernel
theorem dL_light_56 : decode cL_light 56 = .ok (.iload 6, 2) := by decide +kernel
theorem dL_light_58 : decode cL_light 58 = .ok (.aload_n 0, 1) := by decide +kernel
theorem dL_light_59 : decode cL_light 59 = .ok (.iconst 3, 1) := by decide +kernel
theorem dL_light_60 : decode cL_light 60 = .ok (.iconst 3, 1) := by decide +kernel
theorem dL_light_61 : decode cL_light 61 = .ok (.iload 5, 2) := by decide +kernel
theorem dL_light_63 : decode cL_light 63 = .ok (.imul, 1) := by decide +kernel
theorem dL_light_64 : decode cL_light 64 = .ok (.iadd, 1) := by decide +kernel
theorem dL_light_65 : decode cL_light 65 = .ok (.iaload, 1) := by decide +kernel
theorem dL_light_66 : decode cL_light 66 = .ok (.if_icmp .ge 13, 3) := by decide +kernel
theorem dL_light_69 : decode cL_light 69 = .ok (.lload_n 3, 1) := by decide +kernel
theorem dL_light_70 : decode cL_light 70 = .ok (.ldc2_w 36, 3) := by decide +kernel
theorem dL_light_73 : decode cL_light 73 = .ok (.ldiv, 1) := by decide +kernel
theorem dL_light_74 : decode cL_light 74 = .ok (.ldc2_w 38, 3) := by decide +kernel
theorem dL_light_77 : decode cL_light 77 = .ok (.lmul, 1) := by decide +kernel
theorem dL_light_78 : decode cL_light 78 = .ok (.lstore_n 3, 1) := by decide +kernel
theorem dL_light_79 : decode cL_light 79 = .ok (.iinc 5 1, 3) := by decide +kernel
theorem dL_light_82 : decode cL_light 82 = .ok (.goto (-74), 3) := by decide +kernel
theorem dL_light_85 : decode cL_light 85 = .ok (.lload_n 3, 1) := by decide +kernel
theorem dL_light_86 : decode cL_light 86 = .ok (.iload_n 1, 1) := by decide +kernel
theorem dL_light_87 : decode cL_light 87 = .ok (.i2l, 1) := by decide +kernel
theorem dL_light_88 : decode cL_light 88 = .ok (.ladd, 1) := by decide +kernel
theorem dL_light_89 : decode cL_light 89 = .ok (.lreturn, 1) := by decide +kernel
theorem dL_when_0 : decode cL_when 0 = .ok (.iconst 0, 1) := by decide +kernel
theorem dL_when_1 : decode cL_when 1 = .ok (.istore_n 2, 1) := by decide +kernel
theorem dL_when_2 : decode cL_when 2 = .ok (.iload_n 2, 1) := by decide +kernel
theorem dL_when_3 : decode cL_when 3 = .ok (.iconst 3, 1) := by decide +kernel
theorem dL_when_4 : decode cL_when 4 = .ok (.if_icmp .ge 34, 3) := by decide +kernel
theorem dL_when_7 : decode cL_when 7 = .ok (.aload_n 0, 1) := by decide +kernel
theorem dL_when_8 : decode cL_when 8 = .ok (.bipush 16, 2) := by decide +kernel
theorem dL_when_10 : decode cL_when 10 = .ok (.iload_n 2, 1) := by decide +kernel
theorem dL_when_11 : decode cL_when 11 = .ok (.imul, 1) := by decide +kernel
theorem dL_when_12 : decode cL_when 12 = .ok (.iload_n 1, 1) := by decide +kernel
theorem dL_when_13 : decode cL_when 13 = .ok (.bipush 64, 2) := by decide +kernel
theorem dL_when_15 : decode cL_when 15 = .ok (.idiv, 1) := by decide +kernel
theorem dL_when_16 : decode cL_when 16 = .ok (.iadd, 1) := by decide +kernel
theorem dL_when_17 : decode cL_when 17 = .ok (.laload, 1) := by decide +kernel
theorem dL_when_18 : decode cL_when 18 = .ok (.iload_n 1, 1) := by decide +kernel
theorem dL_when_19 : decode cL_when 19 = .ok (.bipush 64, 2) := by decide +kernel
theorem dL_when_21 : decode cL_when 21 = .ok (.irem, 1) := by decide +kernel
theorem dL_when_22 : decode cL_when 22 = .ok (.lshr, 1) := by decide +kernel
theorem dL_when_23 : decode cL_when 23 = .ok (.lconst 1, 1) := by decide +kernel
theorem dL_when_24 : decode cL_when 24 = .ok (.land, 1) := by decide +kernel
theorem dL_when_25 : decode cL_when 25 = .ok (.lconst 1, 1) := by decide +kernel
theorem dL_when_26 : decode cL_when 26 = .ok (.lcmp, 1) := by decide +kernel
theorem dL_when_27 : decode cL_when 27 = .ok (.ifCond .ne 5, 3) := by decide +kernel
theorem dL_when_30 : decode cL_when 30 = .ok (.iload_n 2, 1) := by decide +kernel
theorem dL_when_31 : decode cL_when 31 = .ok (.ireturn, 1) := by decide +kernel
theorem dL_when_32 : decode cL_when 32 = .ok (.iinc 2 1, 3) := by decide +kernel
theorem dL_when_35 : decode cL_when 35 = .ok (.goto (-33), 3) := by decide +kernel
theorem dL_when_38 : decode cL_when 38 = .ok (.iconst (-1), 1) := by decide +kernel
theorem dL_when_39 : decode cL_when 39 = .ok (.ireturn, 1) := by decide +kernel
theorem dL_many_0 : decode cL_many 0 = .ok (.iconst 0, 1) := by decide +kernel
theorem dL_many_1 : decode cL_many 1 = .ok (.istore_n 3, 1) := by decide +kernel
theorem dL_many_2 : decode cL_many 2 = .ok (.iload_n 1, 1) := by decide +kernel
theorem dL_many_3 : decode cL_many 3 = .ok (.istore 4, 2) := by decide +kernel
theorem dL_many_5 : decode cL_many 5 = .ok (.iload 4, 2) := by decide +kernel
theorem dL_many_7 : decode cL_many 7 = .ok (.sipush 1000, 3) := by decide +kernel
theorem dL_many_10 : decode cL_many 10 = .ok (.if_icmp .ge 29, 3) := by decide +kernel
theorem dL_many_13 : decode cL_many 13 = .ok (.iload_n 3, 1) := by decide +kernel
theorem dL_many_14 : decode cL_many 14 = .ok (.aload_n 0, 1) := by decide +kernel
theorem dL_many_15 : decode cL_many 15 = .ok (.iload 4, 2) := by decide +kernel
theorem dL_many_17 : decode cL_many 17 = .ok (.invokestatic 40, 3) := by decide +kernel
theorem dL_many_20 : decode cL_many 20 = .ok (.ifCond .lt 7, 3) := by decide +kernel
theorem dL_many_23 : decode cL_many 23 = .ok (.iconst 1, 1) := by decide +kernel
theorem dL_many_24 : decode cL_many 24 = .ok (.goto 4, 3) := by decide +kernel
theorem dL_many_27 : decode cL_many 27 = .ok (.iconst 0, 1) := by decide +kernel
theorem dL_many_28 : decode cL_many 28 = .ok (.iadd, 1) := by decide +kernel
theorem dL_many_29 : decode cL_many 29 = .ok (.istore_n 3, 1) := by decide +kernel
theorem dL_many_30 : decode cL_many 30 = .ok (.iload 4, 2) := by decide +kernel
theorem dL_many_32 : decode cL_many 32 = .ok (.iload_n 2, 1) := by decide +kernel
theorem dL_many_33 : decode cL_many 33 = .ok (.iadd, 1) := by decide +kernel
theorem dL_many_34 : decode cL_many 34 = .ok (.istore 4, 2) := by decide +kernel
theorem dL_many_36 : decode cL_many 36 = .ok (.goto (-31), 3) := by decide +kernel
theorem dL_many_39 : decode cL_many 39 = .ok (.iload_n 3, 1) := by decide +kernel
theorem dL_many_40 : decode cL_many 40 = .ok (.ireturn, 1) := by decide +kernel
theorem dL_sum_0 : decode cL_sum 0 = .ok (.lconst 0, 1) := by decide +kernel
theorem dL_sum_1 : decode cL_sum 1 = .ok (.lstore 5, 2) := by decide +kernel
theorem dL_sum_3 : decode cL_sum 3 = .ok (.iload_n 3, 1) := by decide +kernel
theorem dL_sum_4 : decode cL_sum 4 = .ok (.istore 7, 2) := by decide +kernel
theorem dL_sum_6 : decode cL_sum 6 = .ok (.iload 7, 2) := by decide +kernel
theorem dL_sum_8 : decode cL_sum 8 = .ok (.sipush 1000, 3) := by decide +kernel
theorem dL_sum_11 : decode cL_sum 11 = .ok (.if_icmp .ge 41, 3) := by decide +kernel
theorem dL_sum_14 : decode cL_sum 14 = .ok (.aload_n 2, 1) := by decide +kernel
theorem dL_sum_15 : decode cL_sum 15 = .ok (.iload 7, 2) := by decide +kernel
theorem dL_sum_17 : decode cL_sum 17 = .ok (.invokestatic 40, 3) := by decide +kernel
theorem dL_sum_20 : decode cL_sum 20 = .ok (.istore 8, 2) := by decide +kernel
theorem dL_sum_22 : decode cL_sum 22 = .ok (.iload 8, 2) := by decide +kernel
theorem dL_sum_24 : decode cL_sum 24 = .ok (.ifCond .lt 18, 3) := by decide +kernel
theorem dL_sum_27 : decode cL_sum 27 = .ok (.lload 5, 2) := by decide +kernel
theorem dL_sum_29 : decode cL_sum 29 = .ok (.aload_n 0, 1) := by decide +kernel
theorem dL_sum_30 : decode cL_sum 30 = .ok (.aload_n 1, 1) := by decide +kernel
theorem dL_sum_31 : decode cL_sum 31 = .ok (.iload 8, 2) := by decide +kernel
theorem dL_sum_33 : decode cL_sum 33 = .ok (.iaload, 1) := by decide +kernel
theorem dL_sum_34 : decode cL_sum 34 = .ok (.iload 7, 2) := by decide +kernel
theorem dL_sum_36 : decode cL_sum 36 = .ok (.invokestatic 44, 3) := by decide +kernel
theorem dL_sum_39 : decode cL_sum 39 = .ok (.ladd, 1) := by decide +kernel
theorem dL_sum_40 : decode cL_sum 40 = .ok (.lstore 5, 2) := by decide +kernel
theorem dL_sum_42 : decode cL_sum 42 = .ok (.iload 7, 2) := by decide +kernel
theorem dL_sum_44 : decode cL_sum 44 = .ok (.iload 4, 2) := by decide +kernel
theorem dL_sum_46 : decode cL_sum 46 = .ok (.iadd, 1) := by decide +kernel
theorem dL_sum_47 : decode cL_sum 47 = .ok (.istore 7, 2) := by decide +kernel
theorem dL_sum_49 : decode cL_sum 49 = .ok (.goto (-43), 3) := by decide +kernel
theorem dL_sum_52 : decode cL_sum 52 = .ok (.lload 5, 2) := by decide +kernel
theorem dL_sum_54 : decode cL_sum 54 = .ok (.lreturn, 1) := by decide +kernel
theorem dL_score_0 : decode cL_score 0 = .ok (.lload 5, 2) := by decide +kernel
theorem dL_score_2 : decode cL_score 2 = .ok (.aload_n 2, 1) := by decide +kernel
theorem dL_score_3 : decode cL_score 3 = .ok (.iload_n 3, 1) := by decide +kernel
theorem dL_score_4 : decode cL_score 4 = .ok (.iload 4, 2) := by decide +kernel
theorem dL_score_6 : decode cL_score 6 = .ok (.invokestatic 48, 3) := by decide +kernel
theorem dL_score_9 : decode cL_score 9 = .ok (.i2l, 1) := by decide +kernel
theorem dL_score_10 : decode cL_score 10 = .ok (.lmul, 1) := by decide +kernel
theorem dL_score_11 : decode cL_score 11 = .ok (.aload_n 0, 1) := by decide +kernel
theorem dL_score_12 : decode cL_score 12 = .ok (.aload_n 1, 1) := by decide +kernel
theorem dL_score_13 : decode cL_score 13 = .ok (.aload_n 2, 1) := by decide +kernel
theorem dL_score_14 : decode cL_score 14 = .ok (.iload_n 3, 1) := by decide +kernel
theorem dL_score_15 : decode cL_score 15 = .ok (.iload 4, 2) := by decide +kernel
theorem dL_score_17 : decode cL_score 17 = .ok (.invokestatic 52, 3) := by decide +kernel
theorem dL_score_20 : decode cL_score 20 = .ok (.iload 7, 2) := by decide +kernel
theorem dL_score_22 : decode cL_score 22 = .ok (.i2l, 1) := by decide +kernel
theorem dL_score_23 : decode cL_score 23 = .ok (.lmul, 1) := by decide +kernel
theorem dL_score_24 : decode cL_score 24 = .ok (.lsub, 1) := by decide +kernel
theorem dL_score_25 : decode cL_score 25 = .ok (.lreturn, 1) := by decide +kernel
theorem dL_most_0 : decode cL_most 0 = .ok (.ldc2_w 56, 3) := by decide +kernel
theorem dL_most_3 : decode cL_most 3 = .ok (.lstore 7, 2) := by decide +kernel
theorem dL_most_5 : decode cL_most 5 = .ok (.iconst 0, 1) := by decide +kernel
theorem dL_most_6 : decode cL_most 6 = .ok (.istore 9, 2) := by decide +kernel
theorem dL_most_8 : decode cL_most 8 = .ok (.iload 9, 2) := by decide +kernel
theorem dL_most_10 : decode cL_most 10 = .ok (.iload_n 3, 1) := by decide +kernel
theorem dL_most_11 : decode cL_most 11 = .ok (.if_icmp .ge 56, 3) := by decide +kernel
theorem dL_most_14 : decode cL_most 14 = .ok (.aload_n 2, 1) := by decide +kernel
theorem dL_most_15 : decode cL_most 15 = .ok (.iload 9, 2) := by decide +kernel
theorem dL_most_17 : decode cL_most 17 = .ok (.iload_n 3, 1) := by decide +kernel
theorem dL_most_18 : decode cL_most 18 = .ok (.invokestatic 48, 3) := by decide +kernel
theorem dL_most_21 : decode cL_most 21 = .ok (.ifCond .ne 8, 3) := by decide +kernel
theorem dL_most_24 : decode cL_most 24 = .ok (.lload 7, 2) := by decide +kernel
theorem dL_most_26 : decode cL_most 26 = .ok (.goto 16, 3) := by decide +kernel
theorem dL_most_29 : decode cL_most 29 = .ok (.aload_n 0, 1) := by decide +kernel
theorem dL_most_30 : decode cL_most 30 = .ok (.aload_n 1, 1) := by decide +kernel
theorem dL_most_31 : decode cL_most 31 = .ok (.aload_n 2, 1) := by decide +kernel
theorem dL_most_32 : decode cL_most 32 = .ok (.iload 9, 2) := by decide +kernel
theorem dL_most_34 : decode cL_most 34 = .ok (.iload_n 3, 1) := by decide +kernel
theorem dL_most_35 : decode cL_most 35 = .ok (.lload 4, 2) := by decide +kernel
theorem dL_most_37 : decode cL_most 37 = .ok (.iload 6, 2) := by decide +kernel
theorem dL_most_39 : decode cL_most 39 = .ok (.invokestatic 58, 3) := by decide +kernel
theorem dL_most_42 : decode cL_most 42 = .ok (.lstore 10, 2) := by decide +kernel
theorem dL_most_44 : decode cL_most 44 = .ok (.lload 10, 2) := by decide +kernel
theorem dL_most_46 : decode cL_most 46 = .ok (.lload 7, 2) := by decide +kernel
theorem dL_most_48 : decode cL_most 48 = .ok (.lcmp, 1) := by decide +kernel
theorem dL_most_49 : decode cL_most 49 = .ok (.ifCond .le 8, 3) := by decide +kernel
theorem dL_most_52 : decode cL_most 52 = .ok (.lload 10, 2) := by decide +kernel
theorem dL_most_54 : decode cL_most 54 = .ok (.goto 5, 3) := by decide +kernel
theorem dL_most_57 : decode cL_most 57 = .ok (.lload 7, 2) := by decide +kernel
theorem dL_most_59 : decode cL_most 59 = .ok (.lstore 7, 2) := by decide +kernel
theorem dL_most_61 : decode cL_most 61 = .ok (.iinc 9 1, 3) := by decide +kernel
theorem dL_most_64 : decode cL_most 64 = .ok (.goto (-56), 3) := by decide +kernel
theorem dL_most_67 : decode cL_most 67 = .ok (.lload 7, 2) := by decide +kernel
theorem dL_most_69 : decode cL_most 69 = .ok (.lreturn, 1) := by decide +kernel
theorem dL_isNear_0 : decode cL_isNear 0 = .ok (.lload_n 2, 1) := by decide +kernel
theorem dL_isNear_1 : decode cL_isNear 1 = .ok (.lconst 0, 1) := by decide +kernel
theorem dL_isNear_2 : decode cL_isNear 2 = .ok (.lcmp, 1) := by decide +kernel
theorem dL_isNear_3 : decode cL_isNear 3 = .ok (.ifCond .ge 8, 3) := by decide +kernel
theorem dL_isNear_6 : decode cL_isNear 6 = .ok (.lload_n 2, 1) := by decide +kernel
theorem dL_isNear_7 : decode cL_isNear 7 = .ok (.lneg, 1) := by decide +kernel
theorem dL_isNear_8 : decode cL_isNear 8 = .ok (.goto 4, 3) := by decide +kernel
theorem dL_isNear_11 : decode cL_isNear 11 = .ok (.lload_n 2, 1) := by decide +kernel
theorem dL_isNear_12 : decode cL_isNear 12 = .ok (.lstore 6, 2) := by decide +kernel
theorem dL_isNear_14 : decode cL_isNear 14 = .ok (.lload_n 0, 1) := by decide +kernel
theorem dL_isNear_15 : decode cL_isNear 15 = .ok (.lload 4, 2) := by decide +kernel
theorem dL_isNear_17 : decode cL_isNear 17 = .ok (.lmul, 1) := by decide +kernel
theorem dL_isNear_18 : decode cL_isNear 18 = .ok (.lload 6, 2) := by decide +kernel
theorem dL_isNear_20 : decode cL_isNear 20 = .ok (.lload 4, 2) := by decide +kernel
theorem dL_isNear_22 : decode cL_isNear 22 = .ok (.ladd, 1) := by decide +kernel
theorem dL_isNear_23 : decode cL_isNear 23 = .ok (.lcmp, 1) := by decide +kernel
theorem dL_isNear_24 : decode cL_isNear 24 = .ok (.ifCond .gt 21, 3) := by decide +kernel
theorem dL_isNear_27 : decode cL_isNear 27 = .ok (.lload 6, 2) := by decide +kernel
theorem dL_isNear_29 : decode cL_isNear 29 = .ok (.lload_n 0, 1) := by decide +kernel
theorem dL_isNear_30 : decode cL_isNear 30 = .ok (.ldc2_w 62, 3) := by decide +kernel
theorem dL_isNear_33 : decode cL_isNear 33 = .ok (.ladd, 1) := by decide +kernel
theorem dL_isNear_34 : decode cL_isNear 34 = .ok (.lload 4, 2) := by decide +kernel
theorem dL_isNear_36 : decode cL_isNear 36 = .ok (.lmul, 1) := by decide +kernel
theorem dL_isNear_37 : decode cL_isNear 37 = .ok (.lcmp, 1) := by decide +kernel
theorem dL_isNear_38 : decode cL_isNear 38 = .ok (.ifCond .gt 7, 3) := by decide +kernel
theorem dL_isNear_41 : decode cL_isNear 41 = .ok (.iconst 1, 1) := by decide +kernel
theorem dL_isNear_42 : decode cL_isNear 42 = .ok (.goto 4, 3) := by decide +kernel
theorem dL_isNear_45 : decode cL_isNear 45 = .ok (.iconst 0, 1) := by decide +kernel
theorem dL_isNear_46 : decode cL_isNear 46 = .ok (.ireturn, 1) := by decide +kernel
theorem dL_asked_0 : decode cL_asked 0 = .ok (.aload_n 3, 1) := by decide +kernel
theorem dL_asked_1 : decode cL_asked 1 = .ok (.iconst 0, 1) := by decide +kernel
theorem dL_asked_2 : decode cL_asked 2 = .ok (.iconst 1, 1) := by decide +kernel
theorem dL_asked_3 : decode cL_asked 3 = .ok (.invokestatic 48, 3) := by decide +kernel
theorem dL_asked_6 : decode cL_asked 6 = .ok (.istore 5, 2) := by decide +kernel
theorem dL_asked_8 : decode cL_asked 8 = .ok (.iconst 2, 1) := by decide +kernel
theorem dL_asked_9 : decode cL_asked 9 = .ok (.iload 4, 2) := by decide +kernel
theorem dL_asked_11 : decode cL_asked 11 = .ok (.bipush 59, 2) := by decide +kernel
theorem dL_asked_13 : decode cL_asked 13 = .ok (.invokestatic 64, 3) := by decide +kernel
theorem dL_asked_16 : decode cL_asked 16 = .ok (.iadd, 1) := by decide +kernel
theorem dL_asked_17 : decode cL_asked 17 = .ok (.istore 6, 2) := by decide +kernel
theorem dL_asked_19 : decode cL_asked 19 = .ok (.iload 4, 2) := by decide +kernel
theorem dL_asked_21 : decode cL_asked 21 = .ok (.bipush 8, 2) := by decide +kernel
theorem dL_asked_23 : decode cL_asked 23 = .ok (.ishr, 1) := by decide +kernel
theorem dL_asked_24 : decode cL_asked 24 = .ok (.iconst 3, 1) := by decide +kernel
theorem dL_asked_25 : decode cL_asked 25 = .ok (.invokestatic 64, 3) := by decide +kernel
theorem dL_asked_28 : decode cL_asked 28 = .ok (.ifCond .ne 16, 3) := by decide +kernel
theorem dL_asked_31 : decode cL_asked 31 = .ok (.iload 4, 2) := by decide +kernel
theorem dL_asked_33 : decode cL_asked 33 = .ok (.bipush 11, 2) := by decide +kernel
theorem dL_asked_35 : decode cL_asked 35 = .ok (.ishr, 1) := by decide +kernel
theorem dL_asked_36 : decode cL_asked 36 = .ok (.ldc 67, 2) := by decide +kernel
theorem dL_asked_38 : decode cL_asked 38 = .ok (.invokestatic 64, 3) := by decide +kernel
theorem dL_asked_41 : decode cL_asked 41 = .ok (.goto 13, 3) := by decide +kernel
theorem dL_asked_44 : decode cL_asked 44 = .ok (.iload 4, 2) := by decide +kernel
theorem dL_asked_46 : decode cL_asked 46 = .ok (.bipush 11, 2) := by decide +kernel
theorem dL_asked_48 : decode cL_asked 48 = .ok (.ishr, 1) := by decide +kernel
theorem dL_asked_49 : decode cL_asked 49 = .ok (.ldc 68, 2) := by decide +kernel
theorem dL_asked_51 : decode cL_asked 51 = .ok (.invokestatic 64, 3) := by decide +kernel
theorem dL_asked_54 : decode cL_asked 54 = .ok (.istore 7, 2) := by decide +kernel
theorem dL_asked_56 : decode cL_asked 56 = .ok (.iload 5, 2) := by decide +kernel
theorem dL_asked_58 : decode cL_asked 58 = .ok (.bipush 20, 2) := by decide +kernel
theorem dL_asked_60 : decode cL_asked 60 = .ok (.if_icmp .ge 29, 3) := by decide +kernel
theorem dL_asked_63 : decode cL_asked 63 = .ok (.aload_n 0, 1) := by decide +kernel
theorem dL_asked_64 : decode cL_asked 64 = .ok (.iconst 0, 1) := by decide +kernel
theorem dL_asked_65 : decode cL_asked 65 = .ok (.iload 7, 2) := by decide +kernel
theorem dL_asked_67 : decode cL_asked 67 = .ok (.invokevirtual 69, 3) := by decide +kernel
theorem dL_asked_70 : decode cL_asked 70 = .ok (.iconst 1, 1) := by decide +kernel
theorem dL_asked_71 : decode cL_asked 71 = .ok (.if_icmp .ne 16, 3) := by decide +kernel
theorem dL_asked_74 : decode cL_asked 74 = .ok (.aload_n 0, 1) := by decide +kernel
theorem dL_asked_75 : decode cL_asked 75 = .ok (.iload 7, 2) := by decide +kernel
theorem dL_asked_77 : decode cL_asked 77 = .ok (.invokestatic 72, 3) := by decide +kernel
theorem dL_asked_80 : decode cL_asked 80 = .ok (.ifCond .ne 7, 3) := by decide +kernel
theorem dL_asked_83 : decode cL_asked 83 = .ok (.iconst 1, 1) := by decide +kernel
theorem dL_asked_84 : decode cL_asked 84 = .ok (.goto 4, 3) := by decide +kernel
theorem dL_asked_87 : decode cL_asked 87 = .ok (.iconst 0, 1) := by decide +kernel
theorem dL_asked_88 : decode cL_asked 88 = .ok (.ireturn, 1) := by decide +kernel
theorem dL_asked_89 : decode cL_asked 89 = .ok (.aload_n 1, 1) := by decide +kernel
theorem dL_asked_90 : decode cL_asked 90 = .ok (.aload_n 2, 1) := by decide +kernel
theorem dL_asked_91 : decode cL_asked 91 = .ok (.aload_n 3, 1) := by decide +kernel
theorem dL_asked_92 : decode cL_asked 92 = .ok (.iconst 0, 1) := by decide +kernel
theorem dL_asked_93 : decode cL_asked 93 = .ok (.iconst 1, 1) := by decide +kernel
theorem dL_asked_94 : decode cL_asked 94 = .ok (.invokestatic 52, 3) := by decide +kernel
theorem dL_asked_97 : decode cL_asked 97 = .ok (.lstore 8, 2) := by decide +kernel
theorem dL_asked_99 : decode cL_asked 99 = .ok (.aload_n 0, 1) := by decide +kernel
theorem dL_asked_100 : decode cL_asked 100 = .ok (.iconst 0, 1) := by decide +kernel
theorem dL_asked_101 : decode cL_asked 101 = .ok (.iload 6, 2) := by decide +kernel
theorem dL_asked_103 : decode cL_asked 103 = .ok (.invokevirtual 76, 3) := by decide +kernel
theorem dL_asked_106 : decode cL_asked 106 = .ok (.istore 10, 2) := by decide +kernel
theorem dL_asked_108 : decode cL_asked 108 = .ok (.iload 10, 2) := by decide +kernel
theorem dL_asked_110 : decode cL_asked 110 = .ok (.ifCond .lt 21, 3) := by decide +kernel
theorem dL_asked_113 : decode cL_asked 113 = .ok (.iload 10, 2) := by decide +kernel
theorem dL_asked_115 : decode cL_asked 115 = .ok (.iload 6, 2) := by decide +kernel
theorem dL_asked_117 : decode cL_asked 117 = .ok (.if_icmp .ge 14, 3) := by decide +kernel
theorem dL_asked_120 : decode cL_asked 120 = .ok (.aload_n 3, 1) := by decide +kernel
theorem dL_asked_121 : decode cL_asked 121 = .ok (.iload 10, 2) := by decide +kernel
theorem dL_asked_123 : decode cL_asked 123 = .ok (.iload 6, 2) := by decide +kernel
theorem dL_asked_125 : decode cL_asked 125 = .ok (.invokestatic 48, 3) := by decide +kernel
theorem dL_asked_128 : decode cL_asked 128 = .ok (.ifCond .ne 5, 3) := by decide +kernel
theorem dL_asked_131 : decode cL_asked 131 = .ok (.iconst 0, 1) := by decide +kernel
theorem dL_asked_132 : decode cL_asked 132 = .ok (.ireturn, 1) := by decide +kernel
theorem dL_asked_133 : decode cL_asked 133 = .ok (.aload_n 1, 1) := by decide +kernel
theorem dL_asked_134 : decode cL_asked 134 = .ok (.aload_n 2, 1) := by decide +kernel
theorem dL_asked_135 : decode cL_asked 135 = .ok (.aload_n 3, 1) := by decide +kernel
theorem dL_asked_136 : decode cL_asked 136 = .ok (.iload 10, 2) := by decide +kernel
theorem dL_asked_138 : decode cL_asked 138 = .ok (.iload 6, 2) := by decide +kernel
theorem dL_asked_140 : decode cL_asked 140 = .ok (.lload 8, 2) := by decide +kernel
theorem dL_asked_142 : decode cL_asked 142 = .ok (.iload 5, 2) := by decide +kernel
theorem dL_asked_144 : decode cL_asked 144 = .ok (.invokestatic 58, 3) := by decide +kernel
theorem dL_asked_147 : decode cL_asked 147 = .ok (.lstore 11, 2) := by decide +kernel
theorem dL_asked_149 : decode cL_asked 149 = .ok (.lload 11, 2) := by decide +kernel
theorem dL_asked_151 : decode cL_asked 151 = .ok (.aload_n 1, 1) := by decide +kernel
theorem dL_asked_152 : decode cL_asked 152 = .ok (.aload_n 2, 1) := by decide +kernel
theorem dL_asked_153 : decode cL_asked 153 = .ok (.aload_n 3, 1) := by decide +kernel
theorem dL_asked_154 : decode cL_asked 154 = .ok (.iload 6, 2) := by decide +kernel
theorem dL_asked_156 : decode cL_asked 156 = .ok (.lload 8, 2) := by decide +kernel
theorem dL_asked_158 : decode cL_asked 158 = .ok (.iload 5, 2) := by decide +kernel
theorem dL_asked_160 : decode cL_asked 160 = .ok (.invokestatic 79, 3) := by decide +kernel
theorem dL_asked_163 : decode cL_asked 163 = .ok (.lcmp, 1) := by decide +kernel
theorem dL_asked_164 : decode cL_asked 164 = .ok (.ifCond .ne 24, 3) := by decide +kernel
theorem dL_asked_167 : decode cL_asked 167 = .ok (.aload_n 0, 1) := by decide +kernel
theorem dL_asked_168 : decode cL_asked 168 = .ok (.iconst 0, 1) := by decide +kernel
theorem dL_asked_169 : decode cL_asked 169 = .ok (.iload 6, 2) := by decide +kernel
theorem dL_asked_171 : decode cL_asked 171 = .ok (.invokevirtual 83, 3) := by decide +kernel
theorem dL_asked_174 : decode cL_asked 174 = .ok (.invokestatic 30, 3) := by decide +kernel
theorem dL_asked_177 : decode cL_asked 177 = .ok (.lload 11, 2) := by decide +kernel
theorem dL_asked_179 : decode cL_asked 179 = .ok (.iload 5, 2) := by decide +kernel
theorem dL_asked_181 : decode cL_asked 181 = .ok (.i2l, 1) := by decide +kernel
theorem dL_asked_182 : decode cL_asked 182 = .ok (.invokestatic 86, 3) := by decide +kernel
theorem dL_asked_185 : decode cL_asked 185 = .ok (.ifCond .ne 5, 3) := by decide +kernel
theorem dL_asked_188 : decode cL_asked 188 = .ok (.iconst 0, 1) := by decide +kernel
theorem dL_asked_189 : decode cL_asked 189 = .ok (.ireturn, 1) := by decide +kernel
theorem dL_asked_190 : decode cL_asked 190 = .ok (.aload_n 3, 1) := by decide +kernel
theorem dL_asked_191 : decode cL_asked 191 = .ok (.iload 10, 2) := by decide +kernel
theorem dL_asked_193 : decode cL_asked 193 = .ok (.iconst 2, 1) := by decide +kernel
theorem dL_asked_194 : decode cL_asked 194 = .ok (.iload 6, 2) := by decide +kernel
theorem dL_asked_196 : decode cL_asked 196 = .ok (.imul, 1) := by decide +kernel
theorem dL_asked_197 : decode cL_asked 197 = .ok (.invokestatic 48, 3) := by decide +kernel
theorem dL_asked_200 : decode cL_asked 200 = .ok (.i2l, 1) := by decide +kernel
theorem dL_asked_201 : decode cL_asked 201 = .ok (.lstore 13, 2) := by decide +kernel
theorem dL_asked_203 : decode cL_asked 203 = .ok (.aload_n 3, 1) := by decide +kernel
theorem dL_asked_204 : decode cL_asked 204 = .ok (.iload 10, 2) := by decide +kernel
theorem dL_asked_206 : decode cL_asked 206 = .ok (.iload 6, 2) := by decide +kernel
theorem dL_asked_208 : decode cL_asked 208 = .ok (.iadd, 1) := by decide +kernel
theorem dL_asked_209 : decode cL_asked 209 = .ok (.iconst 2, 1) := by decide +kernel
theorem dL_asked_210 : decode cL_asked 210 = .ok (.iload 6, 2) := by decide +kernel
theorem dL_asked_212 : decode cL_asked 212 = .ok (.imul, 1) := by decide +kernel
theorem dL_asked_213 : decode cL_asked 213 = .ok (.invokestatic 48, 3) := by decide +kernel
theorem dL_asked_216 : decode cL_asked 216 = .ok (.i2l, 1) := by decide +kernel
theorem dL_asked_217 : decode cL_asked 217 = .ok (.lstore 15, 2) := by decide +kernel
theorem dL_asked_219 : decode cL_asked 219 = .ok (.lload 13, 2) := by decide +kernel
theorem dL_asked_221 : decode cL_asked 221 = .ok (.lconst 0, 1) := by decide +kernel
theorem dL_asked_222 : decode cL_asked 222 = .ok (.lcmp, 1) := by decide +kernel
theorem dL_asked_223 : decode cL_asked 223 = .ok (.ifCond .eq 10, 3) := by decide +kernel
theorem dL_asked_226 : decode cL_asked 226 = .ok (.lload 15, 2) := by decide +kernel
theorem dL_asked_228 : decode cL_asked 228 = .ok (.lconst 0, 1) := by decide +kernel
theorem dL_asked_229 : decode cL_asked 229 = .ok (.lcmp, 1) := by decide +kernel
theorem dL_asked_230 : decode cL_asked 230 = .ok (.ifCond .ne 7, 3) := by decide +kernel
theorem dL_asked_233 : decode cL_asked 233 = .ok (.lconst 0, 1) := by decide +kernel
theorem dL_asked_234 : decode cL_asked 234 = .ok (.goto 37, 3) := by decide +kernel
theorem dL_asked_237 : decode cL_asked 237 = .ok (.aload_n 1, 1) := by decide +kernel
theorem dL_asked_238 : decode cL_asked 238 = .ok (.aload_n 2, 1) := by decide +kernel
theorem dL_asked_239 : decode cL_asked 239 = .ok (.aload_n 3, 1) := by decide +kernel
theorem dL_asked_240 : decode cL_asked 240 = .ok (.iload 10, 2) := by decide +kernel
theorem dL_asked_242 : decode cL_asked 242 = .ok (.iconst 2, 1) := by decide +kernel
theorem dL_asked_243 : decode cL_asked 243 = .ok (.iload 6, 2) := by decide +kernel
theorem dL_asked_245 : decode cL_asked 245 = .ok (.imul, 1) := by decide +kernel
theorem dL_asked_246 : decode cL_asked 246 = .ok (.invokestatic 52, 3) := by decide +kernel
theorem dL_asked_249 : decode cL_asked 249 = .ok (.lload 15, 2) := by decide +kernel
theorem dL_asked_251 : decode cL_asked 251 = .ok (.lmul, 1) := by decide +kernel
theorem dL_asked_252 : decode cL_asked 252 = .ok (.aload_n 1, 1) := by decide +kernel
theorem dL_asked_253 : decode cL_asked 253 = .ok (.aload_n 2, 1) := by decide +kernel
theorem dL_asked_254 : decode cL_asked 254 = .ok (.aload_n 3, 1) := by decide +kernel
theorem dL_asked_255 : decode cL_asked 255 = .ok (.iload 10, 2) := by decide +kernel
theorem dL_asked_257 : decode cL_asked 257 = .ok (.iload 6, 2) := by decide +kernel
theorem dL_asked_259 : decode cL_asked 259 = .ok (.iadd, 1) := by decide +kernel
theorem dL_asked_260 : decode cL_asked 260 = .ok (.iconst 2, 1) := by decide +kernel
theorem dL_asked_261 : decode cL_asked 261 = .ok (.iload 6, 2) := by decide +kernel
theorem dL_asked_263 : decode cL_asked 263 = .ok (.imul, 1) := by decide +kernel
theorem dL_asked_264 : decode cL_asked 264 = .ok (.invokestatic 52, 3) := by decide +kernel
theorem dL_asked_267 : decode cL_asked 267 = .ok (.lload 13, 2) := by decide +kernel
theorem dL_asked_269 : decode cL_asked 269 = .ok (.lmul, 1) := by decide +kernel
theorem dL_asked_270 : decode cL_asked 270 = .ok (.lsub, 1) := by decide +kernel
theorem dL_asked_271 : decode cL_asked 271 = .ok (.lstore 17, 2) := by decide +kernel
theorem dL_asked_273 : decode cL_asked 273 = .ok (.lload 13, 2) := by decide +kernel
theorem dL_asked_275 : decode cL_asked 275 = .ok (.lconst 0, 1) := by decide +kernel
theorem dL_asked_276 : decode cL_asked 276 = .ok (.lcmp, 1) := by decide +kernel
theorem dL_asked_277 : decode cL_asked 277 = .ok (.ifCond .eq 10, 3) := by decide +kernel
theorem dL_asked_280 : decode cL_asked 280 = .ok (.lload 15, 2) := by decide +kernel
theorem dL_asked_282 : decode cL_asked 282 = .ok (.lconst 0, 1) := by decide +kernel
theorem dL_asked_283 : decode cL_asked 283 = .ok (.lcmp, 1) := by decide +kernel
theorem dL_asked_284 : decode cL_asked 284 = .ok (.ifCond .ne 7, 3) := by decide +kernel
theorem dL_asked_287 : decode cL_asked 287 = .ok (.lconst 1, 1) := by decide +kernel
theorem dL_asked_288 : decode cL_asked 288 = .ok (.goto 8, 3) := by decide +kernel
theorem dL_asked_291 : decode cL_asked 291 = .ok (.lload 13, 2) := by decide +kernel
theorem dL_asked_293 : decode cL_asked 293 = .ok (.lload 15, 2) := by decide +kernel
theorem dL_asked_295 : decode cL_asked 295 = .ok (.lmul, 1) := by decide +kernel
theorem dL_asked_296 : decode cL_asked 296 = .ok (.lstore 19, 2) := by decide +kernel
theorem dL_asked_298 : decode cL_asked 298 = .ok (.aload_n 0, 1) := by decide +kernel
theorem dL_asked_299 : decode cL_asked 299 = .ok (.iconst 0, 1) := by decide +kernel
theorem dL_asked_300 : decode cL_asked 300 = .ok (.iload 6, 2) := by decide +kernel
theorem dL_asked_302 : decode cL_asked 302 = .ok (.invokevirtual 90, 3) := by decide +kernel
theorem dL_asked_305 : decode cL_asked 305 = .ok (.lstore 21, 2) := by decide +kernel
theorem dL_asked_307 : decode cL_asked 307 = .ok (.lload 21, 2) := by decide +kernel
theorem dL_asked_309 : decode cL_asked 309 = .ok (.invokestatic 30, 3) := by decide +kernel
theorem dL_asked_312 : decode cL_asked 312 = .ok (.lload 17, 2) := by decide +kernel
theorem dL_asked_314 : decode cL_asked 314 = .ok (.lload 19, 2) := by decide +kernel
theorem dL_asked_316 : decode cL_asked 316 = .ok (.invokestatic 86, 3) := by decide +kernel
theorem dL_asked_319 : decode cL_asked 319 = .ok (.ifCond .eq 47, 3) := by decide +kernel
theorem dL_asked_322 : decode cL_asked 322 = .ok (.lload 17, 2) := by decide +kernel
theorem dL_asked_324 : decode cL_asked 324 = .ok (.lload 19, 2) := by decide +kernel
theorem dL_asked_326 : decode cL_asked 326 = .ok (.lcmp, 1) := by decide +kernel
theorem dL_asked_327 : decode cL_asked 327 = .ok (.ifCond .gt 12, 3) := by decide +kernel
theorem dL_asked_330 : decode cL_asked 330 = .ok (.lload 17, 2) := by decide +kernel
theorem dL_asked_332 : decode cL_asked 332 = .ok (.lload 19, 2) := by decide +kernel
theorem dL_asked_334 : decode cL_asked 334 = .ok (.lneg, 1) := by decide +kernel
theorem dL_asked_335 : decode cL_asked 335 = .ok (.lcmp, 1) := by decide +kernel
theorem dL_asked_336 : decode cL_asked 336 = .ok (.ifCond .ge 32, 3) := by decide +kernel
theorem dL_asked_339 : decode cL_asked 339 = .ok (.lload 21, 2) := by decide +kernel
theorem dL_asked_341 : decode cL_asked 341 = .ok (.lconst 0, 1) := by decide +kernel
theorem dL_asked_342 : decode cL_asked 342 = .ok (.lcmp, 1) := by decide +kernel
theorem dL_asked_343 : decode cL_asked 343 = .ok (.ifCond .ge 7, 3) := by decide +kernel
theorem dL_asked_346 : decode cL_asked 346 = .ok (.iconst 1, 1) := by decide +kernel
theorem dL_asked_347 : decode cL_asked 347 = .ok (.goto 4, 3) := by decide +kernel
theorem dL_asked_350 : decode cL_asked 350 = .ok (.iconst 0, 1) := by decide +kernel
theorem dL_asked_351 : decode cL_asked 351 = .ok (.lload 17, 2) := by decide +kernel
theorem dL_asked_353 : decode cL_asked 353 = .ok (.lconst 0, 1) := by decide +kernel
theorem dL_asked_354 : decode cL_asked 354 = .ok (.lcmp, 1) := by decide +kernel
theorem dL_asked_355 : decode cL_asked 355 = .ok (.ifCond .ge 7, 3) := by decide +kernel
theorem dL_asked_358 : decode cL_asked 358 = .ok (.iconst 1, 1) := by decide +kernel
theorem dL_asked_359 : decode cL_asked 359 = .ok (.goto 4, 3) := by decide +kernel
theorem dL_asked_362 : decode cL_asked 362 = .ok (.iconst 0, 1) := by decide +kernel
theorem dL_asked_363 : decode cL_asked 363 = .ok (.if_icmp .eq 5, 3) := by decide +kernel
theorem dL_asked_366 : decode cL_asked 366 = .ok (.iconst 0, 1) := by decide +kernel
theorem dL_asked_367 : decode cL_asked 367 = .ok (.ireturn, 1) := by decide +kernel
theorem dL_asked_368 : decode cL_asked 368 = .ok (.iload 4, 2) := by decide +kernel
theorem dL_asked_370 : decode cL_asked 370 = .ok (.bipush 20, 2) := by decide +kernel
theorem dL_asked_372 : decode cL_asked 372 = .ok (.ishr, 1) := by decide +kernel
theorem dL_asked_373 : decode cL_asked 373 = .ok (.iconst 3, 1) := by decide +kernel
theorem dL_asked_374 : decode cL_asked 374 = .ok (.invokestatic 64, 3) := by decide +kernel
theorem dL_asked_377 : decode cL_asked 377 = .ok (.ifCond .le 5, 3) := by decide +kernel
theorem dL_asked_380 : decode cL_asked 380 = .ok (.iconst 1, 1) := by decide +kernel
theorem dL_asked_381 : decode cL_asked 381 = .ok (.ireturn, 1) := by decide +kernel
theorem dL_asked_382 : decode cL_asked 382 = .ok (.ldc2_w 56, 3) := by decide +kernel
theorem dL_asked_385 : decode cL_asked 385 = .ok (.lstore 23, 2) := by decide +kernel
theorem dL_asked_387 : decode cL_asked 387 = .ok (.iconst 2, 1) := by decide +kernel
theorem dL_asked_388 : decode cL_asked 388 = .ok (.istore 25, 2) := by decide +kernel
theorem dL_asked_390 : decode cL_asked 390 = .ok (.iload 25, 2) := by decide +kernel
theorem dL_asked_392 : decode cL_asked 392 = .ok (.bipush 61, 2) := by decide +kernel
theorem dL_asked_394 : decode cL_asked 394 = .ok (.if_icmp .ge 40, 3) := by decide +kernel
theorem dL_asked_397 : decode cL_asked 397 = .ok (.aload_n 1, 1) := by decide +kernel
theorem dL_asked_398 : decode cL_asked 398 = .ok (.aload_n 2, 1) := by decide +kernel
theorem dL_asked_399 : decode cL_asked 399 = .ok (.aload_n 3, 1) := by decide +kernel
theorem dL_asked_400 : decode cL_asked 400 = .ok (.iload 25, 2) := by decide +kernel
theorem dL_asked_402 : decode cL_asked 402 = .ok (.lload 8, 2) := by decide +kernel
theorem dL_asked_404 : decode cL_asked 404 = .ok (.iload 5, 2) := by decide +kernel
theorem dL_asked_406 : decode cL_asked 406 = .ok (.invokestatic 79, 3) := by decide +kernel
theorem dL_asked_409 : decode cL_asked 409 = .ok (.lstore 26, 2) := by decide +kernel
theorem dL_asked_411 : decode cL_asked 411 = .ok (.lload 26, 2) := by decide +kernel
theorem dL_asked_413 : decode cL_asked 413 = .ok (.lload 23, 2) := by decide +kernel
theorem dL_asked_415 : decode cL_asked 415 = .ok (.lcmp, 1) := by decide +kernel
theorem dL_asked_416 : decode cL_asked 416 = .ok (.ifCond .le 8, 3) := by decide +kernel
theorem dL_asked_419 : decode cL_asked 419 = .ok (.lload 26, 2) := by decide +kernel
theorem dL_asked_421 : decode cL_asked 421 = .ok (.goto 5, 3) := by decide +kernel
theorem dL_asked_424 : decode cL_asked 424 = .ok (.lload 23, 2) := by decide +kernel
theorem dL_asked_426 : decode cL_asked 426 = .ok (.lstore 23, 2) := by decide +kernel
theorem dL_asked_428 : decode cL_asked 428 = .ok (.iinc 25 1, 3) := by decide +kernel
theorem dL_asked_431 : decode cL_asked 431 = .ok (.goto (-41), 3) := by decide +kernel
theorem dL_asked_434 : decode cL_asked 434 = .ok (.aload_n 0, 1) := by decide +kernel
theorem dL_asked_435 : decode cL_asked 435 = .ok (.iload 7, 2) := by decide +kernel
theorem dL_asked_437 : decode cL_asked 437 = .ok (.invokestatic 72, 3) := by decide +kernel
theorem dL_asked_440 : decode cL_asked 440 = .ok (.istore 25, 2) := by decide +kernel
theorem dL_asked_442 : decode cL_asked 442 = .ok (.lload 23, 2) := by decide +kernel
theorem dL_asked_444 : decode cL_asked 444 = .ok (.iload 7, 2) := by decide +kernel
theorem dL_asked_446 : decode cL_asked 446 = .ok (.i2l, 1) := by decide +kernel
theorem dL_asked_447 : decode cL_asked 447 = .ok (.iload 5, 2) := by decide +kernel
theorem dL_asked_449 : decode cL_asked 449 = .ok (.i2l, 1) := by decide +kernel
theorem dL_asked_450 : decode cL_asked 450 = .ok (.lmul, 1) := by decide +kernel
theorem dL_asked_451 : decode cL_asked 451 = .ok (.lcmp, 1) := by decide +kernel
theorem dL_asked_452 : decode cL_asked 452 = .ok (.ifCond .ne 5, 3) := by decide +kernel
theorem dL_asked_455 : decode cL_asked 455 = .ok (.iconst 1, 1) := by decide +kernel
theorem dL_asked_456 : decode cL_asked 456 = .ok (.ireturn, 1) := by decide +kernel
theorem dL_asked_457 : decode cL_asked 457 = .ok (.lload 23, 2) := by decide +kernel
theorem dL_asked_459 : decode cL_asked 459 = .ok (.iload 7, 2) := by decide +kernel
theorem dL_asked_461 : decode cL_asked 461 = .ok (.i2l, 1) := by decide +kernel
theorem dL_asked_462 : decode cL_asked 462 = .ok (.iload 5, 2) := by decide +kernel
theorem dL_asked_464 : decode cL_asked 464 = .ok (.i2l, 1) := by decide +kernel
theorem dL_asked_465 : decode cL_asked 465 = .ok (.lmul, 1) := by decide +kernel
theorem dL_asked_466 : decode cL_asked 466 = .ok (.lcmp, 1) := by decide +kernel
theorem dL_asked_467 : decode cL_asked 467 = .ok (.ifCond .le 52, 3) := by decide +kernel
theorem dL_asked_470 : decode cL_asked 470 = .ok (.iload 25, 2) := by decide +kernel
theorem dL_asked_472 : decode cL_asked 472 = .ok (.iconst 2, 1) := by decide +kernel
theorem dL_asked_473 : decode cL_asked 473 = .ok (.if_icmp .lt 42, 3) := by decide +kernel
theorem dL_asked_476 : decode cL_asked 476 = .ok (.iload 25, 2) := by decide +kernel
theorem dL_asked_478 : decode cL_asked 478 = .ok (.bipush 60, 2) := by decide +kernel
theorem dL_asked_480 : decode cL_asked 480 = .ok (.if_icmp .gt 35, 3) := by decide +kernel
theorem dL_asked_483 : decode cL_asked 483 = .ok (.aload_n 1, 1) := by decide +kernel
theorem dL_asked_484 : decode cL_asked 484 = .ok (.aload_n 2, 1) := by decide +kernel
theorem dL_asked_485 : decode cL_asked 485 = .ok (.aload_n 3, 1) := by decide +kernel
theorem dL_asked_486 : decode cL_asked 486 = .ok (.iload 25, 2) := by decide +kernel
theorem dL_asked_488 : decode cL_asked 488 = .ok (.lload 8, 2) := by decide +kernel
theorem dL_asked_490 : decode cL_asked 490 = .ok (.iload 5, 2) := by decide +kernel
theorem dL_asked_492 : decode cL_asked 492 = .ok (.invokestatic 79, 3) := by decide +kernel
theorem dL_asked_495 : decode cL_asked 495 = .ok (.lload 23, 2) := by decide +kernel
theorem dL_asked_497 : decode cL_asked 497 = .ok (.lcmp, 1) := by decide +kernel
theorem dL_asked_498 : decode cL_asked 498 = .ok (.ifCond .ne 17, 3) := by decide +kernel
theorem dL_asked_501 : decode cL_asked 501 = .ok (.aload_n 0, 1) := by decide +kernel
theorem dL_asked_502 : decode cL_asked 502 = .ok (.iconst 0, 1) := by decide +kernel
theorem dL_asked_503 : decode cL_asked 503 = .ok (.iload 7, 2) := by decide +kernel
theorem dL_asked_505 : decode cL_asked 505 = .ok (.invokevirtual 69, 3) := by decide +kernel
theorem dL_asked_508 : decode cL_asked 508 = .ok (.ifCond .ne 7, 3) := by decide +kernel
theorem dL_asked_511 : decode cL_asked 511 = .ok (.iconst 1, 1) := by decide +kernel
theorem dL_asked_512 : decode cL_asked 512 = .ok (.goto 28, 3) := by decide +kernel
theorem dL_asked_515 : decode cL_asked 515 = .ok (.iconst 0, 1) := by decide +kernel
theorem dL_asked_516 : decode cL_asked 516 = .ok (.goto 24, 3) := by decide +kernel
theorem dL_asked_519 : decode cL_asked 519 = .ok (.iload 25, 2) := by decide +kernel
theorem dL_asked_521 : decode cL_asked 521 = .ok (.ifCond .ne 18, 3) := by decide +kernel
theorem dL_asked_524 : decode cL_asked 524 = .ok (.aload_n 0, 1) := by decide +kernel
theorem dL_asked_525 : decode cL_asked 525 = .ok (.iconst 0, 1) := by decide +kernel
theorem dL_asked_526 : decode cL_asked 526 = .ok (.iload 7, 2) := by decide +kernel
theorem dL_asked_528 : decode cL_asked 528 = .ok (.invokevirtual 69, 3) := by decide +kernel
theorem dL_asked_531 : decode cL_asked 531 = .ok (.iconst 2, 1) := by decide +kernel
theorem dL_asked_532 : decode cL_asked 532 = .ok (.if_icmp .ne 7, 3) := by decide +kernel
theorem dL_asked_535 : decode cL_asked 535 = .ok (.iconst 1, 1) := by decide +kernel
theorem dL_asked_536 : decode cL_asked 536 = .ok (.goto 4, 3) := by decide +kernel
theorem dL_asked_539 : decode cL_asked 539 = .ok (.iconst 0, 1) := by decide +kernel
theorem dL_asked_540 : decode cL_asked 540 = .ok (.ireturn, 1) := by decide +kernel
