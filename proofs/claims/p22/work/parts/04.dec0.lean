theorem dX0_init_0 : decode cX0_init 0 = .ok (.aload_n 0, 1) := by decide +kernel
theorem dX0_init_1 : decode cX0_init 1 = .ok (.invokespecial 3, 3) := by decide +kernel
theorem dX0_init_4 : decode cX0_init 4 = .ok (.aload_n 0, 1) := by decide +kernel
theorem dX0_init_5 : decode cX0_init 5 = .ok (.bipush 120, 2) := by decide +kernel
theorem dX0_init_7 : decode cX0_init 7 = .ok (.newarray .double, 2) := by decide +kernel
theorem dX0_init_9 : decode cX0_init 9 = .ok (.putfield 9, 3) := by decide +kernel
theorem dX0_init_12 : decode cX0_init 12 = .ok (.aload_n 0, 1) := by decide +kernel
theorem dX0_init_13 : decode cX0_init 13 = .ok (.bipush 120, 2) := by decide +kernel
theorem dX0_init_15 : decode cX0_init 15 = .ok (.newarray .int, 2) := by decide +kernel
theorem dX0_init_17 : decode cX0_init 17 = .ok (.putfield 15, 3) := by decide +kernel
theorem dX0_init_20 : decode cX0_init 20 = .ok (.aload_n 0, 1) := by decide +kernel
theorem dX0_init_21 : decode cX0_init 21 = .ok (.iconst 0, 1) := by decide +kernel
theorem dX0_init_22 : decode cX0_init 22 = .ok (.putfield 19, 3) := by decide +kernel
theorem dX0_init_25 : decode cX0_init 25 = .ok (.aload_n 0, 1) := by decide +kernel
theorem dX0_init_26 : decode cX0_init 26 = .ok (.dconst 0, 1) := by decide +kernel
theorem dX0_init_27 : decode cX0_init 27 = .ok (.putfield 23, 3) := by decide +kernel
theorem dX0_init_30 : decode cX0_init 30 = .ok (.return_, 1) := by decide +kernel
theorem dX0_foldBy_0 : decode cX0_foldBy 0 = .ok (.aload_n 0, 1) := by decide +kernel
theorem dX0_foldBy_1 : decode cX0_foldBy 1 = .ok (.getfield 9, 3) := by decide +kernel
theorem dX0_foldBy_4 : decode cX0_foldBy 4 = .ok (.dconst 0, 1) := by decide +kernel
theorem dX0_foldBy_5 : decode cX0_foldBy 5 = .ok (.invokestatic 27, 3) := by decide +kernel
theorem dX0_foldBy_8 : decode cX0_foldBy 8 = .ok (.aload_n 0, 1) := by decide +kernel
theorem dX0_foldBy_9 : decode cX0_foldBy 9 = .ok (.getfield 15, 3) := by decide +kernel
theorem dX0_foldBy_12 : decode cX0_foldBy 12 = .ok (.iconst 0, 1) := by decide +kernel
theorem dX0_foldBy_13 : decode cX0_foldBy 13 = .ok (.invokestatic 33, 3) := by decide +kernel
theorem dX0_foldBy_16 : decode cX0_foldBy 16 = .ok (.aload_n 0, 1) := by decide +kernel
theorem dX0_foldBy_17 : decode cX0_foldBy 17 = .ok (.iconst 0, 1) := by decide +kernel
theorem dX0_foldBy_18 : decode cX0_foldBy 18 = .ok (.putfield 19, 3) := by decide +kernel
theorem dX0_foldBy_21 : decode cX0_foldBy 21 = .ok (.aload_n 0, 1) := by decide +kernel
theorem dX0_foldBy_22 : decode cX0_foldBy 22 = .ok (.dconst 0, 1) := by decide +kernel
theorem dX0_foldBy_23 : decode cX0_foldBy 23 = .ok (.putfield 23, 3) := by decide +kernel
theorem dX0_foldBy_26 : decode cX0_foldBy 26 = .ok (.iload_n 1, 1) := by decide +kernel
theorem dX0_foldBy_27 : decode cX0_foldBy 27 = .ok (.iconst 1, 1) := by decide +kernel
theorem dX0_foldBy_28 : decode cX0_foldBy 28 = .ok (.if_icmp .lt 21, 3) := by decide +kernel
theorem dX0_foldBy_31 : decode cX0_foldBy 31 = .ok (.iload_n 1, 1) := by decide +kernel
theorem dX0_foldBy_32 : decode cX0_foldBy 32 = .ok (.aload_n 0, 1) := by decide +kernel
theorem dX0_foldBy_33 : decode cX0_foldBy 33 = .ok (.getfield 9, 3) := by decide +kernel
theorem dX0_foldBy_36 : decode cX0_foldBy 36 = .ok (.arraylength, 1) := by decide +kernel
theorem dX0_foldBy_37 : decode cX0_foldBy 37 = .ok (.if_icmp .gt 12, 3) := by decide +kernel
theorem dX0_foldBy_40 : decode cX0_foldBy 40 = .ok (.iload_n 1, 1) := by decide +kernel
theorem dX0_foldBy_41 : decode cX0_foldBy 41 = .ok (.aload_n 0, 1) := by decide +kernel
theorem dX0_foldBy_42 : decode cX0_foldBy 42 = .ok (.getfield 15, 3) := by decide +kernel
theorem dX0_foldBy_45 : decode cX0_foldBy 45 = .ok (.arraylength, 1) := by decide +kernel
theorem dX0_foldBy_46 : decode cX0_foldBy 46 = .ok (.if_icmp .le 4, 3) := by decide +kernel
theorem dX0_foldBy_49 : decode cX0_foldBy 49 = .ok (.return_, 1) := by decide +kernel
theorem dX0_foldBy_50 : decode cX0_foldBy 50 = .ok (.aload_n 0, 1) := by decide +kernel
theorem dX0_foldBy_51 : decode cX0_foldBy 51 = .ok (.iload_n 1, 1) := by decide +kernel
theorem dX0_foldBy_52 : decode cX0_foldBy 52 = .ok (.putfield 19, 3) := by decide +kernel
theorem dX0_foldBy_55 : decode cX0_foldBy 55 = .ok (.aload_n 2, 1) := by decide +kernel
theorem dX0_foldBy_56 : decode cX0_foldBy 56 = .ok (.getfield 36, 3) := by decide +kernel
theorem dX0_foldBy_59 : decode cX0_foldBy 59 = .ok (.astore_n 3, 1) := by decide +kernel
theorem dX0_foldBy_60 : decode cX0_foldBy 60 = .ok (.dconst 0, 1) := by decide +kernel
theorem dX0_foldBy_61 : decode cX0_foldBy 61 = .ok (.dstore 4, 2) := by decide +kernel
theorem dX0_foldBy_63 : decode cX0_foldBy 63 = .ok (.iconst 0, 1) := by decide +kernel
theorem dX0_foldBy_64 : decode cX0_foldBy 64 = .ok (.istore 6, 2) := by decide +kernel
theorem dX0_foldBy_66 : decode cX0_foldBy 66 = .ok (.iload 6, 2) := by decide +kernel
theorem dX0_foldBy_68 : decode cX0_foldBy 68 = .ok (.aload_n 3, 1) := by decide +kernel
theorem dX0_foldBy_69 : decode cX0_foldBy 69 = .ok (.arraylength, 1) := by decide +kernel
theorem dX0_foldBy_70 : decode cX0_foldBy 70 = .ok (.if_icmp .ge 63, 3) := by decide +kernel
theorem dX0_foldBy_73 : decode cX0_foldBy 73 = .ok (.aload_n 3, 1) := by decide +kernel
theorem dX0_foldBy_74 : decode cX0_foldBy 74 = .ok (.iload 6, 2) := by decide +kernel
theorem dX0_foldBy_76 : decode cX0_foldBy 76 = .ok (.daload, 1) := by decide +kernel
theorem dX0_foldBy_77 : decode cX0_foldBy 77 = .ok (.dconst 0, 1) := by decide +kernel
theorem dX0_foldBy_78 : decode cX0_foldBy 78 = .ok (.dcmp .l, 1) := by decide +kernel
theorem dX0_foldBy_79 : decode cX0_foldBy 79 = .ok (.ifCond .le 48, 3) := by decide +kernel
theorem dX0_foldBy_82 : decode cX0_foldBy 82 = .ok (.iload 6, 2) := by decide +kernel
theorem dX0_foldBy_84 : decode cX0_foldBy 84 = .ok (.iload_n 1, 1) := by decide +kernel
theorem dX0_foldBy_85 : decode cX0_foldBy 85 = .ok (.irem, 1) := by decide +kernel
theorem dX0_foldBy_86 : decode cX0_foldBy 86 = .ok (.istore 7, 2) := by decide +kernel
theorem dX0_foldBy_88 : decode cX0_foldBy 88 = .ok (.aload_n 0, 1) := by decide +kernel
theorem dX0_foldBy_89 : decode cX0_foldBy 89 = .ok (.getfield 9, 3) := by decide +kernel
theorem dX0_foldBy_92 : decode cX0_foldBy 92 = .ok (.iload 7, 2) := by decide +kernel
theorem dX0_foldBy_94 : decode cX0_foldBy 94 = .ok (.aload_n 0, 1) := by decide +kernel
theorem dX0_foldBy_95 : decode cX0_foldBy 95 = .ok (.getfield 9, 3) := by decide +kernel
theorem dX0_foldBy_98 : decode cX0_foldBy 98 = .ok (.iload 7, 2) := by decide +kernel
theorem dX0_foldBy_100 : decode cX0_foldBy 100 = .ok (.daload, 1) := by decide +kernel
theorem dX0_foldBy_101 : decode cX0_foldBy 101 = .ok (.aload_n 3, 1) := by decide +kernel
theorem dX0_foldBy_102 : decode cX0_foldBy 102 = .ok (.iload 6, 2) := by decide +kernel
theorem dX0_foldBy_104 : decode cX0_foldBy 104 = .ok (.daload, 1) := by decide +kernel
theorem dX0_foldBy_105 : decode cX0_foldBy 105 = .ok (.dadd, 1) := by decide +kernel
theorem dX0_foldBy_106 : decode cX0_foldBy 106 = .ok (.dastore, 1) := by decide +kernel
theorem dX0_foldBy_107 : decode cX0_foldBy 107 = .ok (.aload_n 0, 1) := by decide +kernel
theorem dX0_foldBy_108 : decode cX0_foldBy 108 = .ok (.getfield 15, 3) := by decide +kernel
theorem dX0_foldBy_111 : decode cX0_foldBy 111 = .ok (.iload 7, 2) := by decide +kernel
theorem dX0_foldBy_113 : decode cX0_foldBy 113 = .ok (.dup2, 1) := by decide +kernel
theorem dX0_foldBy_114 : decode cX0_foldBy 114 = .ok (.iaload, 1) := by decide +kernel
theorem dX0_foldBy_115 : decode cX0_foldBy 115 = .ok (.iconst 1, 1) := by decide +kernel
theorem dX0_foldBy_116 : decode cX0_foldBy 116 = .ok (.iadd, 1) := by decide +kernel
theorem dX0_foldBy_117 : decode cX0_foldBy 117 = .ok (.iastore, 1) := by decide +kernel
theorem dX0_foldBy_118 : decode cX0_foldBy 118 = .ok (.dload 4, 2) := by decide +kernel
theorem dX0_foldBy_120 : decode cX0_foldBy 120 = .ok (.aload_n 3, 1) := by decide +kernel
theorem dX0_foldBy_121 : decode cX0_foldBy 121 = .ok (.iload 6, 2) := by decide +kernel
theorem dX0_foldBy_123 : decode cX0_foldBy 123 = .ok (.daload, 1) := by decide +kernel
theorem dX0_foldBy_124 : decode cX0_foldBy 124 = .ok (.dadd, 1) := by decide +kernel
theorem dX0_foldBy_125 : decode cX0_foldBy 125 = .ok (.dstore 4, 2) := by decide +kernel
theorem dX0_foldBy_127 : decode cX0_foldBy 127 = .ok (.iinc 6 1, 3) := by decide +kernel
theorem dX0_foldBy_130 : decode cX0_foldBy 130 = .ok (.goto (-64), 3) := by decide +kernel
theorem dX0_foldBy_133 : decode cX0_foldBy 133 = .ok (.aload_n 2, 1) := by decide +kernel
theorem dX0_foldBy_134 : decode cX0_foldBy 134 = .ok (.getfield 41, 3) := by decide +kernel
theorem dX0_foldBy_137 : decode cX0_foldBy 137 = .ok (.ifCond .le 15, 3) := by decide +kernel
theorem dX0_foldBy_140 : decode cX0_foldBy 140 = .ok (.aload_n 0, 1) := by decide +kernel
theorem dX0_foldBy_141 : decode cX0_foldBy 141 = .ok (.dload 4, 2) := by decide +kernel
theorem dX0_foldBy_143 : decode cX0_foldBy 143 = .ok (.aload_n 2, 1) := by decide +kernel
theorem dX0_foldBy_144 : decode cX0_foldBy 144 = .ok (.getfield 41, 3) := by decide +kernel
theorem dX0_foldBy_147 : decode cX0_foldBy 147 = .ok (.i2d, 1) := by decide +kernel
theorem dX0_foldBy_148 : decode cX0_foldBy 148 = .ok (.ddiv, 1) := by decide +kernel
theorem dX0_foldBy_149 : decode cX0_foldBy 149 = .ok (.putfield 23, 3) := by decide +kernel
theorem dX0_foldBy_152 : decode cX0_foldBy 152 = .ok (.return_, 1) := by decide +kernel
theorem dX0_hasHours_0 : decode cX0_hasHours 0 = .ok (.iload_n 1, 1) := by decide +kernel
theorem dX0_hasHours_1 : decode cX0_hasHours 1 = .ok (.ifCond .lt 25, 3) := by decide +kernel
theorem dX0_hasHours_4 : decode cX0_hasHours 4 = .ok (.iload_n 1, 1) := by decide +kernel
theorem dX0_hasHours_5 : decode cX0_hasHours 5 = .ok (.aload_n 0, 1) := by decide +kernel
theorem dX0_hasHours_6 : decode cX0_hasHours 6 = .ok (.getfield 15, 3) := by decide +kernel
theorem dX0_hasHours_9 : decode cX0_hasHours 9 = .ok (.arraylength, 1) := by decide +kernel
theorem dX0_hasHours_10 : decode cX0_hasHours 10 = .ok (.if_icmp .ge 16, 3) := by decide +kernel
theorem dX0_hasHours_13 : decode cX0_hasHours 13 = .ok (.aload_n 0, 1) := by decide +kernel
theorem dX0_hasHours_14 : decode cX0_hasHours 14 = .ok (.getfield 15, 3) := by decide +kernel
theorem dX0_hasHours_17 : decode cX0_hasHours 17 = .ok (.iload_n 1, 1) := by decide +kernel
theorem dX0_hasHours_18 : decode cX0_hasHours 18 = .ok (.iaload, 1) := by decide +kernel
theorem dX0_hasHours_19 : decode cX0_hasHours 19 = .ok (.ifCond .le 7, 3) := by decide +kernel
theorem dX0_hasHours_22 : decode cX0_hasHours 22 = .ok (.iconst 1, 1) := by decide +kernel
theorem dX0_hasHours_23 : decode cX0_hasHours 23 = .ok (.goto 4, 3) := by decide +kernel
theorem dX0_hasHours_26 : decode cX0_hasHours 26 = .ok (.iconst 0, 1) := by decide +kernel
theorem dX0_hasHours_27 : decode cX0_hasHours 27 = .ok (.ireturn, 1) := by decide +kernel
theorem dX0_meanOf_0 : decode cX0_meanOf 0 = .ok (.aload_n 0, 1) := by decide +kernel
theorem dX0_meanOf_1 : decode cX0_meanOf 1 = .ok (.iload_n 1, 1) := by decide +kernel
theorem dX0_meanOf_2 : decode cX0_meanOf 2 = .ok (.invokevirtual 44, 3) := by decide +kernel
theorem dX0_meanOf_5 : decode cX0_meanOf 5 = .ok (.ifCond .eq 29, 3) := by decide +kernel
theorem dX0_meanOf_8 : decode cX0_meanOf 8 = .ok (.iload_n 1, 1) := by decide +kernel
theorem dX0_meanOf_9 : decode cX0_meanOf 9 = .ok (.aload_n 0, 1) := by decide +kernel
theorem dX0_meanOf_10 : decode cX0_meanOf 10 = .ok (.getfield 9, 3) := by decide +kernel
theorem dX0_meanOf_13 : decode cX0_meanOf 13 = .ok (.arraylength, 1) := by decide +kernel
theorem dX0_meanOf_14 : decode cX0_meanOf 14 = .ok (.if_icmp .ge 20, 3) := by decide +kernel
theorem dX0_meanOf_17 : decode cX0_meanOf 17 = .ok (.aload_n 0, 1) := by decide +kernel
theorem dX0_meanOf_18 : decode cX0_meanOf 18 = .ok (.getfield 9, 3) := by decide +kernel
theorem dX0_meanOf_21 : decode cX0_meanOf 21 = .ok (.iload_n 1, 1) := by decide +kernel
theorem dX0_meanOf_22 : decode cX0_meanOf 22 = .ok (.daload, 1) := by decide +kernel
theorem dX0_meanOf_23 : decode cX0_meanOf 23 = .ok (.aload_n 0, 1) := by decide +kernel
theorem dX0_meanOf_24 : decode cX0_meanOf 24 = .ok (.getfield 15, 3) := by decide +kernel
theorem dX0_meanOf_27 : decode cX0_meanOf 27 = .ok (.iload_n 1, 1) := by decide +kernel
theorem dX0_meanOf_28 : decode cX0_meanOf 28 = .ok (.iaload, 1) := by decide +kernel
theorem dX0_meanOf_29 : decode cX0_meanOf 29 = .ok (.i2d, 1) := by decide +kernel
theorem dX0_meanOf_30 : decode cX0_meanOf 30 = .ok (.ddiv, 1) := by decide +kernel
theorem dX0_meanOf_31 : decode cX0_meanOf 31 = .ok (.goto 4, 3) := by decide +kernel
theorem dX0_meanOf_34 : decode cX0_meanOf 34 = .ok (.dconst 0, 1) := by decide +kernel
theorem dX0_meanOf_35 : decode cX0_meanOf 35 = .ok (.dreturn, 1) := by decide +kernel
theorem dX0_scoreOf_0 : decode cX0_scoreOf 0 = .ok (.aload_n 0, 1) := by decide +kernel
theorem dX0_scoreOf_1 : decode cX0_scoreOf 1 = .ok (.iload_n 1, 1) := by decide +kernel
theorem dX0_scoreOf_2 : decode cX0_scoreOf 2 = .ok (.invokevirtual 44, 3) := by decide +kernel
theorem dX0_scoreOf_5 : decode cX0_scoreOf 5 = .ok (.ifCond .eq 24, 3) := by decide +kernel
theorem dX0_scoreOf_8 : decode cX0_scoreOf 8 = .ok (.aload_n 0, 1) := by decide +kernel
theorem dX0_scoreOf_9 : decode cX0_scoreOf 9 = .ok (.getfield 23, 3) := by decide +kernel
theorem dX0_scoreOf_12 : decode cX0_scoreOf 12 = .ok (.aload_n 0, 1) := by decide +kernel
theorem dX0_scoreOf_13 : decode cX0_scoreOf 13 = .ok (.iload_n 1, 1) := by decide +kernel
theorem dX0_scoreOf_14 : decode cX0_scoreOf 14 = .ok (.invokevirtual 48, 3) := by decide +kernel
theorem dX0_scoreOf_17 : decode cX0_scoreOf 17 = .ok (.dsub, 1) := by decide +kernel
theorem dX0_scoreOf_18 : decode cX0_scoreOf 18 = .ok (.aload_n 0, 1) := by decide +kernel
theorem dX0_scoreOf_19 : decode cX0_scoreOf 19 = .ok (.getfield 15, 3) := by decide +kernel
theorem dX0_scoreOf_22 : decode cX0_scoreOf 22 = .ok (.iload_n 1, 1) := by decide +kernel
theorem dX0_scoreOf_23 : decode cX0_scoreOf 23 = .ok (.iaload, 1) := by decide +kernel
theorem dX0_scoreOf_24 : decode cX0_scoreOf 24 = .ok (.i2d, 1) := by decide +kernel
theorem dX0_scoreOf_25 : decode cX0_scoreOf 25 = .ok (.dmul, 1) := by decide +kernel
theorem dX0_scoreOf_26 : decode cX0_scoreOf 26 = .ok (.goto 4, 3) := by decide +kernel
theorem dX0_scoreOf_29 : decode cX0_scoreOf 29 = .ok (.dconst 0, 1) := by decide +kernel
theorem dX0_scoreOf_30 : decode cX0_scoreOf 30 = .ok (.dreturn, 1) := by decide +kernel
theorem dX0_bestFold_0 : decode cX0_bestFold 0 = .ok (.iconst (-1), 1) := by decide +kernel
theorem dX0_bestFold_1 : decode cX0_bestFold 1 = .ok (.istore_n 1, 1) := by decide +kernel
theorem dX0_bestFold_2 : decode cX0_bestFold 2 = .ok (.dconst 0, 1) := by decide +kernel
theorem dX0_bestFold_3 : decode cX0_bestFold 3 = .ok (.dstore_n 2, 1) := by decide +kernel
theorem dX0_bestFold_4 : decode cX0_bestFold 4 = .ok (.iconst 0, 1) := by decide +kernel
theorem dX0_bestFold_5 : decode cX0_bestFold 5 = .ok (.istore 4, 2) := by decide +kernel
theorem dX0_bestFold_7 : decode cX0_bestFold 7 = .ok (.iload 4, 2) := by decide +kernel
theorem dX0_bestFold_9 : decode cX0_bestFold 9 = .ok (.aload_n 0, 1) := by decide +kernel
theorem dX0_bestFold_10 : decode cX0_bestFold 10 = .ok (.getfield 19, 3) := by decide +kernel
theorem dX0_bestFold_13 : decode cX0_bestFold 13 = .ok (.if_icmp .ge 44, 3) := by decide +kernel
theorem dX0_bestFold_16 : decode cX0_bestFold 16 = .ok (.aload_n 0, 1) := by decide +kernel
theorem dX0_bestFold_17 : decode cX0_bestFold 17 = .ok (.iload 4, 2) := by decide +kernel
theorem dX0_bestFold_19 : decode cX0_bestFold 19 = .ok (.invokevirtual 44, 3) := by decide +kernel
theorem dX0_bestFold_22 : decode cX0_bestFold 22 = .ok (.ifCond .eq 29, 3) := by decide +kernel
theorem dX0_bestFold_25 : decode cX0_bestFold 25 = .ok (.aload_n 0, 1) := by decide +kernel
theorem dX0_bestFold_26 : decode cX0_bestFold 26 = .ok (.iload 4, 2) := by decide +kernel
theorem dX0_bestFold_28 : decode cX0_bestFold 28 = .ok (.invokevirtual 52, 3) := by decide +kernel
theorem dX0_bestFold_31 : decode cX0_bestFold 31 = .ok (.dstore 5, 2) := by decide +kernel
theorem dX0_bestFold_33 : decode cX0_bestFold 33 = .ok (.iload_n 1, 1) := by decide +kernel
theorem dX0_bestFold_34 : decode cX0_bestFold 34 = .ok (.iconst (-1), 1) := by decide +kernel
theorem dX0_bestFold_35 : decode cX0_bestFold 35 = .ok (.if_icmp .eq 10, 3) := by decide +kernel
theorem dX0_bestFold_38 : decode cX0_bestFold 38 = .ok (.dload 5, 2) := by decide +kernel
theorem dX0_bestFold_40 : decode cX0_bestFold 40 = .ok (.dload_n 2, 1) := by decide +kernel
theorem dX0_bestFold_41 : decode cX0_bestFold 41 = .ok (.dcmp .l, 1) := by decide +kernel
theorem dX0_bestFold_42 : decode cX0_bestFold 42 = .ok (.ifCond .le 9, 3) := by decide +kernel
theorem dX0_bestFold_45 : decode cX0_bestFold 45 = .ok (.dload 5, 2) := by decide +kernel
theorem dX0_bestFold_47 : decode cX0_bestFold 47 = .ok (.dstore_n 2, 1) := by decide +kernel
theorem dX0_bestFold_48 : decode cX0_bestFold 48 = .ok (.iload 4, 2) := by decide +kernel
theorem dX0_bestFold_50 : decode cX0_bestFold 50 = .ok (.istore_n 1, 1) := by decide +kernel
theorem dX0_bestFold_51 : decode cX0_bestFold 51 = .ok (.iinc 4 1, 3) := by decide +kernel
theorem dX0_bestFold_54 : decode cX0_bestFold 54 = .ok (.goto (-47), 3) := by decide +kernel
theorem dX0_bestFold_57 : decode cX0_bestFold 57 = .ok (.iload_n 1, 1) := by decide +kernel
theorem dX0_bestFold_58 : decode cX0_bestFold 58 = .ok (.ireturn, 1) := by decide +kernel
theorem dX1_init_0 : decode cX1_init 0 = .ok (.aload_n 0, 1) := by decide +kernel
theorem dX1_init_1 : decode cX1_init 1 = .ok (.invokespecial 3, 3) := by decide +kernel
theorem dX1_init_4 : decode cX1_init 4 = .ok (.aload_n 0, 1) := by decide +kernel
theorem dX1_init_5 : decode cX1_init 5 = .ok (.sipush 1000, 3) := by decide +kernel
theorem dX1_init_8 : decode cX1_init 8 = .ok (.newarray .double, 2) := by decide +kernel
theorem dX1_init_10 : decode cX1_init 10 = .ok (.putfield 9, 3) := by decide +kernel
theorem dX1_init_13 : decode cX1_init 13 = .ok (.aload_n 0, 1) := by decide +kernel
theorem dX1_init_14 : decode cX1_init 14 = .ok (.iconst 0, 1) := by decide +kernel
theorem dX1_init_15 : decode cX1_init 15 = .ok (.putfield 15, 3) := by decide +kernel
theorem dX1_init_18 : decode cX1_init 18 = .ok (.return_, 1) := by decide +kernel
theorem dX1_init__0 : decode cX1_init_ 0 = .ok (.aload_n 0, 1) := by decide +kernel
theorem dX1_init__1 : decode cX1_init_ 1 = .ok (.invokespecial 3, 3) := by decide +kernel
theorem dX1_init__4 : decode cX1_init_ 4 = .ok (.aload_n 0, 1) := by decide +kernel
theorem dX1_init__5 : decode cX1_init_ 5 = .ok (.aload_n 1, 1) := by decide +kernel
theorem dX1_init__6 : decode cX1_init_ 6 = .ok (.getfield 9, 3) := by decide +kernel
theorem dX1_init__9 : decode cX1_init_ 9 = .ok (.invokevirtual 19, 3) := by decide +kernel
theorem dX1_init__12 : decode cX1_init_ 12 = .ok (.checkcast 20, 3) := by decide +kernel
theorem dX1_init__15 : decode cX1_init_ 15 = .ok (.putfield 9, 3) := by decide +kernel
theorem dX1_init__18 : decode cX1_init_ 18 = .ok (.aload_n 0, 1) := by decide +kernel
theorem dX1_init__19 : decode cX1_init_ 19 = .ok (.aload_n 1, 1) := by decide +kernel
theorem dX1_init__20 : decode cX1_init_ 20 = .ok (.getfield 15, 3) := by decide +kernel
theorem dX1_init__23 : decode cX1_init_ 23 = .ok (.putfield 15, 3) := by decide +kernel
theorem dX1_init__26 : decode cX1_init_ 26 = .ok (.return_, 1) := by decide +kernel
theorem dX1_hasLight_0 : decode cX1_hasLight 0 = .ok (.aload_n 0, 1) := by decide +kernel
theorem dX1_hasLight_1 : decode cX1_hasLight 1 = .ok (.iload_n 1, 1) := by decide +kernel
theorem dX1_hasLight_2 : decode cX1_hasLight 2 = .ok (.invokevirtual 24, 3) := by decide +kernel
theorem dX1_hasLight_5 : decode cX1_hasLight 5 = .ok (.dconst 0, 1) := by decide +kernel
theorem dX1_hasLight_6 : decode cX1_hasLight 6 = .ok (.dcmp .l, 1) := by decide +kernel
theorem dX1_hasLight_7 : decode cX1_hasLight 7 = .ok (.ifCond .le 7, 3) := by decide +kernel
theorem dX1_hasLight_10 : decode cX1_hasLight 10 = .ok (.iconst 1, 1) := by decide +kernel
theorem dX1_hasLight_11 : decode cX1_hasLight 11 = .ok (.goto 4, 3) := by decide +kernel
theorem dX1_hasLight_14 : decode cX1_hasLight 14 = .ok (.iconst 0, 1) := by decide +kernel
theorem dX1_hasLight_15 : decode cX1_hasLight 15 = .ok (.ireturn, 1) := by decide +kernel
theorem dX1_lightOf_0 : decode cX1_lightOf 0 = .ok (.iload_n 1, 1) := by decide +kernel
theorem dX1_lightOf_1 : decode cX1_lightOf 1 = .ok (.ifCond .lt 21, 3) := by decide +kernel
theorem dX1_lightOf_4 : decode cX1_lightOf 4 = .ok (.iload_n 1, 1) := by decide +kernel
theorem dX1_lightOf_5 : decode cX1_lightOf 5 = .ok (.aload_n 0, 1) := by decide +kernel
theorem dX1_lightOf_6 : decode cX1_lightOf 6 = .ok (.getfield 9, 3) := by decide +kernel
theorem dX1_lightOf_9 : decode cX1_lightOf 9 = .ok (.arraylength, 1) := by decide +kernel
theorem dX1_lightOf_10 : decode cX1_lightOf 10 = .ok (.if_icmp .ge 12, 3) := by decide +kernel
theorem dX1_lightOf_13 : decode cX1_lightOf 13 = .ok (.aload_n 0, 1) := by decide +kernel
theorem dX1_lightOf_14 : decode cX1_lightOf 14 = .ok (.getfield 9, 3) := by decide +kernel
theorem dX1_lightOf_17 : decode cX1_lightOf 17 = .ok (.iload_n 1, 1) := by decide +kernel
theorem dX1_lightOf_18 : decode cX1_lightOf 18 = .ok (.daload, 1) := by decide +kernel
theorem dX1_lightOf_19 : decode cX1_lightOf 19 = .ok (.goto 4, 3) := by decide +kernel
theorem dX1_lightOf_22 : decode cX1_lightOf 22 = .ok (.dconst 0, 1) := by decide +kernel
theorem dX1_lightOf_23 : decode cX1_lightOf 23 = .ok (.dreturn, 1) := by decide +kernel
theorem dX1_keep_0 : decode cX1_keep 0 = .ok (.iload_n 1, 1) := by decide +kernel
theorem dX1_keep_1 : decode cX1_keep 1 = .ok (.ifCond .lt 29, 3) := by decide +kernel
theorem dX1_keep_4 : decode cX1_keep 4 = .ok (.iload_n 1, 1) := by decide +kernel
theorem dX1_keep_5 : decode cX1_keep 5 = .ok (.aload_n 0, 1) := by decide +kernel
theorem dX1_keep_6 : decode cX1_keep 6 = .ok (.getfield 9, 3) := by decide +kernel
theorem dX1_keep_9 : decode cX1_keep 9 = .ok (.arraylength, 1) := by decide +kernel
theorem dX1_keep_10 : decode cX1_keep 10 = .ok (.if_icmp .ge 20, 3) := by decide +kernel
theorem dX1_keep_13 : decode cX1_keep 13 = .ok (.aload_n 0, 1) := by decide +kernel
theorem dX1_keep_14 : decode cX1_keep 14 = .ok (.getfield 9, 3) := by decide +kernel
theorem dX1_keep_17 : decode cX1_keep 17 = .ok (.iload_n 1, 1) := by decide +kernel
theorem dX1_keep_18 : decode cX1_keep 18 = .ok (.dload_n 2, 1) := by decide +kernel
theorem dX1_keep_19 : decode cX1_keep 19 = .ok (.dastore, 1) := by decide +kernel
theorem dX1_keep_20 : decode cX1_keep 20 = .ok (.aload_n 0, 1) := by decide +kernel
theorem dX1_keep_21 : decode cX1_keep 21 = .ok (.dup, 1) := by decide +kernel
theorem dX1_keep_22 : decode cX1_keep 22 = .ok (.getfield 15, 3) := by decide +kernel
theorem dX1_keep_25 : decode cX1_keep 25 = .ok (.iconst 1, 1) := by decide +kernel
theorem dX1_keep_26 : decode cX1_keep 26 = .ok (.iadd, 1) := by decide +kernel
theorem dX1_keep_27 : decode cX1_keep 27 = .ok (.putfield 15, 3) := by decide +kernel
theorem dX1_keep_30 : decode cX1_keep 30 = .ok (.return_, 1) := by decide +kernel
theorem dX2_init_0 : decode cX2_init 0 = .ok (.aload_n 0, 1) := by decide +kernel
theorem dX2_init_1 : decode cX2_init 1 = .ok (.invokespecial 1, 3) := by decide +kernel
theorem dX2_init_4 : decode cX2_init 4 = .ok (.aload_n 0, 1) := by decide +kernel
theorem dX2_init_5 : decode cX2_init 5 = .ok (.iconst 0, 1) := by decide +kernel
theorem dX2_init_6 : decode cX2_init 6 = .ok (.putfield 7, 3) := by decide +kernel
theorem dX2_init_9 : decode cX2_init 9 = .ok (.aload_n 0, 1) := by decide +kernel
theorem dX2_init_10 : decode cX2_init 10 = .ok (.aload_n 1, 1) := by decide +kernel
theorem dX2_init_11 : decode cX2_init 11 = .ok (.putfield 13, 3) := by decide +kernel
theorem dX2_init_14 : decode cX2_init 14 = .ok (.aload_n 0, 1) := by decide +kernel
theorem dX2_init_15 : decode cX2_init 15 = .ok (.aload_n 2, 1) := by decide +kernel
theorem dX2_init_16 : decode cX2_init 16 = .ok (.putfield 17, 3) := by decide +kernel
theorem dX2_init_19 : decode cX2_init 19 = .ok (.return_, 1) := by decide +kernel
theorem dX2_mustFall_0 : decode cX2_mustFall 0 = .ok (.aload_n 0, 1) := by decide +kernel
theorem dX2_mustFall_1 : decode cX2_mustFall 1 = .ok (.getfield 13, 3) := by decide +kernel
theorem dX2_mustFall_4 : decode cX2_mustFall 4 = .ok (.getfield 21, 3) := by decide +kernel
theorem dX2_mustFall_7 : decode cX2_mustFall 7 = .ok (.ifCond .ne 20, 3) := by decide +kernel
theorem dX2_mustFall_10 : decode cX2_mustFall 10 = .ok (.aload_n 0, 1) := by decide +kernel
theorem dX2_mustFall_11 : decode cX2_mustFall 11 = .ok (.getfield 17, 3) := by decide +kernel
theorem dX2_mustFall_14 : decode cX2_mustFall 14 = .ok (.ifnull 17, 3) := by decide +kernel
theorem dX2_mustFall_17 : decode cX2_mustFall 17 = .ok (.aload_n 0, 1) := by decide +kernel
theorem dX2_mustFall_18 : decode cX2_mustFall 18 = .ok (.getfield 17, 3) := by decide +kernel
theorem dX2_mustFall_21 : decode cX2_mustFall 21 = .ok (.getfield 7, 3) := by decide +kernel
theorem dX2_mustFall_24 : decode cX2_mustFall 24 = .ok (.ifCond .eq 7, 3) := by decide +kernel
theorem dX2_mustFall_27 : decode cX2_mustFall 27 = .ok (.iconst 1, 1) := by decide +kernel
theorem dX2_mustFall_28 : decode cX2_mustFall 28 = .ok (.goto 4, 3) := by decide +kernel
theorem dX2_mustFall_31 : decode cX2_mustFall 31 = .ok (.iconst 0, 1) := by decide +kernel
theorem dX2_mustFall_32 : decode cX2_mustFall 32 = .ok (.ireturn, 1) := by decide +kernel
theorem dX3_init_0 : decode cX3_init 0 = .ok (.aload_n 0, 1) := by decide +kernel
theorem dX3_init_1 : decode cX3_init 1 = .ok (.invokespecial 1, 3) := by decide +kernel
theorem dX3_init_4 : decode cX3_init 4 = .ok (.aload_n 0, 1) := by decide +kernel
theorem dX3_init_5 : decode cX3_init 5 = .ok (.iload_n 1, 1) := by decide +kernel
theorem dX3_init_6 : decode cX3_init 6 = .ok (.putfield 7, 3) := by decide +kernel
theorem dX3_init_9 : decode cX3_init 9 = .ok (.aload_n 0, 1) := by decide +kernel
theorem dX3_init_10 : decode cX3_init 10 = .ok (.iload_n 2, 1) := by decide +kernel
theorem dX3_init_11 : decode cX3_init 11 = .ok (.putfield 13, 3) := by decide +kernel
theorem dX3_init_14 : decode cX3_init 14 = .ok (.aload_n 0, 1) := by decide +kernel
theorem dX3_init_15 : decode cX3_init 15 = .ok (.iload_n 3, 1) := by decide +kernel
theorem dX3_init_16 : decode cX3_init 16 = .ok (.putfield 16, 3) := by decide +kernel
theorem dX3_init_19 : decode cX3_init 19 = .ok (.aload_n 0, 1) := by decide +kernel
theorem dX3_init_20 : decode cX3_init 20 = .ok (.sipush 1000, 3) := by decide +kernel
theorem dX3_init_23 : decode cX3_init 23 = .ok (.iload 4, 2) := by decide +kernel
theorem dX3_init_25 : decode cX3_init 25 = .ok (.isub, 1) := by decide +kernel
theorem dX3_init_26 : decode cX3_init 26 = .ok (.i2d, 1) := by decide +kernel
theorem dX3_init_27 : decode cX3_init 27 = .ok (.ldc2_w 19, 3) := by decide +kernel
theorem dX3_init_30 : decode cX3_init 30 = .ok (.ddiv, 1) := by decide +kernel
theorem dX3_init_31 : decode cX3_init 31 = .ok (.putfield 21, 3) := by decide +kernel
theorem dX3_init_34 : decode cX3_init 34 = .ok (.return_, 1) := by decide +kernel
theorem dX3_dipsIn_0 : decode cX3_dipsIn 0 = .ok (.aload_n 0, 1) := by decide +kernel
theorem dX3_dipsIn_1 : decode cX3_dipsIn 1 = .ok (.getfield 7, 3) := by decide +kernel
theorem dX3_dipsIn_4 : decode cX3_dipsIn 4 = .ok (.ifCond .le 27, 3) := by decide +kernel
theorem dX3_dipsIn_7 : decode cX3_dipsIn 7 = .ok (.iload_n 1, 1) := by decide +kernel
theorem dX3_dipsIn_8 : decode cX3_dipsIn 8 = .ok (.aload_n 0, 1) := by decide +kernel
theorem dX3_dipsIn_9 : decode cX3_dipsIn 9 = .ok (.getfield 13, 3) := by decide +kernel
theorem dX3_dipsIn_12 : decode cX3_dipsIn 12 = .ok (.isub, 1) := by decide +kernel
theorem dX3_dipsIn_13 : decode cX3_dipsIn 13 = .ok (.aload_n 0, 1) := by decide +kernel
theorem dX3_dipsIn_14 : decode cX3_dipsIn 14 = .ok (.getfield 7, 3) := by decide +kernel
theorem dX3_dipsIn_17 : decode cX3_dipsIn 17 = .ok (.invokestatic 25, 3) := by decide +kernel
theorem dX3_dipsIn_20 : decode cX3_dipsIn 20 = .ok (.aload_n 0, 1) := by decide +kernel
theorem dX3_dipsIn_21 : decode cX3_dipsIn 21 = .ok (.getfield 16, 3) := by decide +kernel
theorem dX3_dipsIn_24 : decode cX3_dipsIn 24 = .ok (.if_icmp .ge 7, 3) := by decide +kernel
theorem dX3_dipsIn_27 : decode cX3_dipsIn 27 = .ok (.iconst 1, 1) := by decide +kernel
theorem dX3_dipsIn_28 : decode cX3_dipsIn 28 = .ok (.goto 4, 3) := by decide +kernel
theorem dX3_dipsIn_31 : decode cX3_dipsIn 31 = .ok (.iconst 0, 1) := by decide +kernel
theorem dX3_dipsIn_32 : decode cX3_dipsIn 32 = .ok (.ireturn, 1) := by decide +kernel
theorem dX4_init_0 : decode cX4_init 0 = .ok (.aload_n 0, 1) := by decide +kernel
theorem dX4_init_1 : decode cX4_init 1 = .ok (.invokespecial 1, 3) := by decide +kernel
theorem dX4_init_4 : decode cX4_init 4 = .ok (.aload_n 0, 1) := by decide +kernel
theorem dX4_init_5 : decode cX4_init 5 = .ok (.new 7, 3) := by decide +kernel
theorem dX4_init_8 : decode cX4_init 8 = .ok (.dup, 1) := by decide +kernel
theorem dX4_init_9 : decode cX4_init 9 = .ok (.invokespecial 9, 3) := by decide +kernel
theorem dX4_init_12 : decode cX4_init 12 = .ok (.putfield 10, 3) := by decide +kernel
theorem dX4_init_15 : decode cX4_init 15 = .ok (.aload_n 0, 1) := by decide +kernel
theorem dX4_init_16 : decode cX4_init 16 = .ok (.iconst 0, 1) := by decide +kernel
theorem dX4_init_17 : decode cX4_init 17 = .ok (.putfield 16, 3) := by decide +kernel
theorem dX4_init_20 : decode cX4_init 20 = .ok (.aload_n 0, 1) := by decide +kernel
theorem dX4_init_21 : decode cX4_init 21 = .ok (.iconst 0, 1) := by decide +kernel
theorem dX4_init_22 : decode cX4_init 22 = .ok (.putfield 20, 3) := by decide +kernel
theorem dX4_init_25 : decode cX4_init 25 = .ok (.aload_n 0, 1) := by decide +kernel
theorem dX4_init_26 : decode cX4_init 26 = .ok (.iconst 0, 1) := by decide +kernel
theorem dX4_init_27 : decode cX4_init 27 = .ok (.putfield 23, 3) := by decide +kernel
theorem dX4_init_30 : decode cX4_init 30 = .ok (.aload_n 0, 1) := by decide +kernel
theorem dX4_init_31 : decode cX4_init 31 = .ok (.new 26, 3) := by decide +kernel
theorem dX4_init_34 : decode cX4_init 34 = .ok (.dup, 1) := by decide +kernel
theorem dX4_init_35 : decode cX4_init 35 = .ok (.invokespecial 28, 3) := by decide +kernel
theorem dX4_init_38 : decode cX4_init 38 = .ok (.putfield 29, 3) := by decide +kernel
theorem dX4_init_41 : decode cX4_init 41 = .ok (.aload_n 0, 1) := by decide +kernel
theorem dX4_init_42 : decode cX4_init 42 = .ok (.iload_n 1, 1) := by decide +kernel
theorem dX4_init_43 : decode cX4_init 43 = .ok (.putfield 33, 3) := by decide +kernel
theorem dX4_init_46 : decode cX4_init 46 = .ok (.return_, 1) := by decide +kernel
theorem dX4_lightIn_0 : decode cX4_lightIn 0 = .ok (.aload_n 0, 1) := by decide +kernel
theorem dX4_lightIn_1 : decode cX4_lightIn 1 = .ok (.getfield 33, 3) := by decide +kernel
theorem dX4_lightIn_4 : decode cX4_lightIn 4 = .ok (.i2d, 1) := by decide +kernel
theorem dX4_lightIn_5 : decode cX4_lightIn 5 = .ok (.dstore_n 2, 1) := by decide +kernel
theorem dX4_lightIn_6 : decode cX4_lightIn 6 = .ok (.iconst 0, 1) := by decide +kernel
theorem dX4_lightIn_7 : decode cX4_lightIn 7 = .ok (.istore 4, 2) := by decide +kernel
theorem dX4_lightIn_9 : decode cX4_lightIn 9 = .ok (.iload 4, 2) := by decide +kernel
theorem dX4_lightIn_11 : decode cX4_lightIn 11 = .ok (.aload_n 0, 1) := by decide +kernel
theorem dX4_lightIn_12 : decode cX4_lightIn 12 = .ok (.getfield 10, 3) := by decide +kernel
theorem dX4_lightIn_15 : decode cX4_lightIn 15 = .ok (.invokevirtual 36, 3) := by decide +kernel
theorem dX4_lightIn_18 : decode cX4_lightIn 18 = .ok (.if_icmp .ge 40, 3) := by decide +kernel
theorem dX4_lightIn_21 : decode cX4_lightIn 21 = .ok (.aload_n 0, 1) := by decide +kernel
theorem dX4_lightIn_22 : decode cX4_lightIn 22 = .ok (.getfield 10, 3) := by decide +kernel
theorem dX4_lightIn_25 : decode cX4_lightIn 25 = .ok (.iload 4, 2) := by decide +kernel
theorem dX4_lightIn_27 : decode cX4_lightIn 27 = .ok (.invokevirtual 40, 3) := by decide +kernel
theorem dX4_lightIn_30 : decode cX4_lightIn 30 = .ok (.checkcast 44, 3) := by decide +kernel
theorem dX4_lightIn_33 : decode cX4_lightIn 33 = .ok (.astore 5, 2) := by decide +kernel
theorem dX4_lightIn_35 : decode cX4_lightIn 35 = .ok (.aload 5, 2) := by decide +kernel
theorem dX4_lightIn_37 : decode cX4_lightIn 37 = .ok (.iload_n 1, 1) := by decide +kernel
theorem dX4_lightIn_38 : decode cX4_lightIn 38 = .ok (.invokevirtual 46, 3) := by decide +kernel
theorem dX4_lightIn_41 : decode cX4_lightIn 41 = .ok (.ifCond .eq 11, 3) := by decide +kernel
theorem dX4_lightIn_44 : decode cX4_lightIn 44 = .ok (.dload_n 2, 1) := by decide +kernel
theorem dX4_lightIn_45 : decode cX4_lightIn 45 = .ok (.aload 5, 2) := by decide +kernel
theorem dX4_lightIn_47 : decode cX4_lightIn 47 = .ok (.getfield 50, 3) := by decide +kernel
theorem dX4_lightIn_50 : decode cX4_lightIn 50 = .ok (.dmul, 1) := by decide +kernel
theorem dX4_lightIn_51 : decode cX4_lightIn 51 = .ok (.dstore_n 2, 1) := by decide +kernel
theorem dX4_lightIn_52 : decode cX4_lightIn 52 = .ok (.iinc 4 1, 3) := by decide +kernel
theorem dX4_lightIn_55 : decode cX4_lightIn 55 = .ok (.goto (-46), 3) := by decide +kernel
theorem dX4_lightIn_58 : decode cX4_lightIn 58 = .ok (.aload_n 0, 1) := by decide +kernel
theorem dX4_lightIn_59 : decode cX4_lightIn 59 = .ok (.iload_n 1, 1) := by decide +kernel
theorem dX4_lightIn_60 : decode cX4_lightIn 60 = .ok (.invokevirtual 54, 3) := by decide +kernel
theorem dX4_lightIn_63 : decode cX4_lightIn 63 = .ok (.ifCond .eq 19, 3) := by decide +kernel
theorem dX4_lightIn_66 : decode cX4_lightIn 66 = .ok (.dload_n 2, 1) := by decide +kernel
theorem dX4_lightIn_67 : decode cX4_lightIn 67 = .ok (.sipush 1000, 3) := by decide +kernel
theorem dX4_lightIn_70 : decode cX4_lightIn 70 = .ok (.aload_n 0, 1) := by decide +kernel
theorem dX4_lightIn_71 : decode cX4_lightIn 71 = .ok (.getfield 20, 3) := by decide +kernel
theorem dX4_lightIn_74 : decode cX4_lightIn 74 = .ok (.isub, 1) := by decide +kernel
theorem dX4_lightIn_75 : decode cX4_lightIn 75 = .ok (.i2d, 1) := by decide +kernel
theorem dX4_lightIn_76 : decode cX4_lightIn 76 = .ok (.ldc2_w 57, 3) := by decide +kernel
theorem dX4_lightIn_79 : decode cX4_lightIn 79 = .ok (.ddiv, 1) := by decide +kernel
theorem dX4_lightIn_80 : decode cX4_lightIn 80 = .ok (.dmul, 1) := by decide +kernel
theorem dX4_lightIn_81 : decode cX4_lightIn 81 = .ok (.dstore_n 2, 1) := by decide +kernel
theorem dX4_lightIn_82 : decode cX4_lightIn 82 = .ok (.dload_n 2, 1) := by decide +kernel
theorem dX4_lightIn_83 : decode cX4_lightIn 83 = .ok (.aload_n 0, 1) := by decide +kernel
theorem dX4_lightIn_84 : decode cX4_lightIn 84 = .ok (.getfield 23, 3) := by decide +kernel
theorem dX4_lightIn_87 : decode cX4_lightIn 87 = .ok (.i2d, 1) := by decide +kernel
theorem dX4_lightIn_88 : decode cX4_lightIn 88 = .ok (.dadd, 1) := by decide +kernel
theorem dX4_lightIn_89 : decode cX4_lightIn 89 = .ok (.dreturn, 1) := by decide +kernel
theorem dX4_showsSpots_0 : decode cX4_showsSpots 0 = .ok (.aload_n 0, 1) := by decide +kernel
theorem dX4_showsSpots_1 : decode cX4_showsSpots 1 = .ok (.getfield 16, 3) := by decide +kernel
theorem dX4_showsSpots_4 : decode cX4_showsSpots 4 = .ok (.ifCond .le 22, 3) := by decide +kernel
theorem dX4_showsSpots_7 : decode cX4_showsSpots 7 = .ok (.iload_n 1, 1) := by decide +kernel
theorem dX4_showsSpots_8 : decode cX4_showsSpots 8 = .ok (.aload_n 0, 1) := by decide +kernel
theorem dX4_showsSpots_9 : decode cX4_showsSpots 9 = .ok (.getfield 16, 3) := by decide +kernel
theorem dX4_showsSpots_12 : decode cX4_showsSpots 12 = .ok (.irem, 1) := by decide +kernel
theorem dX4_showsSpots_13 : decode cX4_showsSpots 13 = .ok (.aload_n 0, 1) := by decide +kernel
theorem dX4_showsSpots_14 : decode cX4_showsSpots 14 = .ok (.getfield 16, 3) := by decide +kernel
theorem dX4_showsSpots_17 : decode cX4_showsSpots 17 = .ok (.iconst 4, 1) := by decide +kernel
theorem dX4_showsSpots_18 : decode cX4_showsSpots 18 = .ok (.idiv, 1) := by decide +kernel
theorem dX4_showsSpots_19 : decode cX4_showsSpots 19 = .ok (.if_icmp .ge 7, 3) := by decide +kernel
theorem dX4_showsSpots_22 : decode cX4_showsSpots 22 = .ok (.iconst 1, 1) := by decide +kernel
theorem dX4_showsSpots_23 : decode cX4_showsSpots 23 = .ok (.goto 4, 3) := by decide +kernel
theorem dX4_showsSpots_26 : decode cX4_showsSpots 26 = .ok (.iconst 0, 1) := by decide +kernel
theorem dX4_showsSpots_27 : decode cX4_showsSpots 27 = .ok (.ireturn, 1) := by decide +kernel
theorem dX5_init_0 : decode cX5_init 0 = .ok (.aload_n 0, 1) := by decide +kernel
theorem dX5_init_1 : decode cX5_init 1 = .ok (.invokespecial 1, 3) := by decide +kernel
theorem dX5_init_4 : decode cX5_init 4 = .ok (.aload_n 0, 1) := by decide +kernel
theorem dX5_init_5 : decode cX5_init 5 = .ok (.iconst 0, 1) := by decide +kernel
theorem dX5_init_6 : decode cX5_init 6 = .ok (.putfield 7, 3) := by decide +kernel
theorem dX5_init_9 : decode cX5_init 9 = .ok (.aload_n 0, 1) := by decide +kernel
theorem dX5_init_10 : decode cX5_init 10 = .ok (.iload_n 1, 1) := by decide +kernel
theorem dX5_init_11 : decode cX5_init 11 = .ok (.putfield 13, 3) := by decide +kernel
theorem dX5_init_14 : decode cX5_init 14 = .ok (.aload_n 0, 1) := by decide +kernel
theorem dX5_init_15 : decode cX5_init 15 = .ok (.iload_n 2, 1) := by decide +kernel
theorem dX5_init_16 : decode cX5_init 16 = .ok (.putfield 17, 3) := by decide +kernel
theorem dX5_init_19 : decode cX5_init 19 = .ok (.aload_n 0, 1) := by decide +kernel
theorem dX5_init_20 : decode cX5_init 20 = .ok (.iload_n 3, 1) := by decide +kernel
theorem dX5_init_21 : decode cX5_init 21 = .ok (.putfield 20, 3) := by decide +kernel
theorem dX5_init_24 : decode cX5_init 24 = .ok (.aload_n 0, 1) := by decide +kernel
theorem dX5_init_25 : decode cX5_init 25 = .ok (.iload 4, 2) := by decide +kernel
theorem dX5_init_27 : decode cX5_init 27 = .ok (.putfield 23, 3) := by decide +kernel
theorem dX5_init_30 : decode cX5_init 30 = .ok (.aload_n 0, 1) := by decide +kernel
theorem dX5_init_31 : decode cX5_init 31 = .ok (.aload 5, 2) := by decide +kernel
theorem dX5_init_33 : decode cX5_init 33 = .ok (.putfield 26, 3) := by decide +kernel
theorem dX5_init_36 : decode cX5_init 36 = .ok (.return_, 1) := by decide +kernel
theorem dX6_init_0 : decode cX6_init 0 = .ok (.aload_n 0, 1) := by decide +kernel
theorem dX6_init_1 : decode cX6_init 1 = .ok (.invokespecial 1, 3) := by decide +kernel
theorem dX6_init_4 : decode cX6_init 4 = .ok (.aload_n 0, 1) := by decide +kernel
theorem dX6_init_5 : decode cX6_init 5 = .ok (.new 7, 3) := by decide +kernel
theorem dX6_init_8 : decode cX6_init 8 = .ok (.dup, 1) := by decide +kernel
theorem dX6_init_9 : decode cX6_init 9 = .ok (.invokespecial 9, 3) := by decide +kernel
theorem dX6_init_12 : decode cX6_init 12 = .ok (.putfield 10, 3) := by decide +kernel
theorem dX6_init_15 : decode cX6_init 15 = .ok (.aload_n 0, 1) := by decide +kernel
theorem dX6_init_16 : decode cX6_init 16 = .ok (.new 7, 3) := by decide +kernel
theorem dX6_init_19 : decode cX6_init 19 = .ok (.dup, 1) := by decide +kernel
theorem dX6_init_20 : decode cX6_init 20 = .ok (.invokespecial 9, 3) := by decide +kernel
theorem dX6_init_23 : decode cX6_init 23 = .ok (.putfield 16, 3) := by decide +kernel
theorem dX6_init_26 : decode cX6_init 26 = .ok (.aload_n 0, 1) := by decide +kernel
theorem dX6_init_27 : decode cX6_init 27 = .ok (.new 7, 3) := by decide +kernel
theorem dX6_init_30 : decode cX6_init 30 = .ok (.dup, 1) := by decide +kernel
theorem dX6_init_31 : decode cX6_init 31 = .ok (.invokespecial 9, 3) := by decide +kernel
theorem dX6_init_34 : decode cX6_init 34 = .ok (.putfield 19, 3) := by decide +kernel
theorem dX6_init_37 : decode cX6_init 37 = .ok (.aload_n 0, 1) := by decide +kernel
theorem dX6_init_38 : decode cX6_init 38 = .ok (.sipush 1000, 3) := by decide +kernel
theorem dX6_init_41 : decode cX6_init 41 = .ok (.newarray .boolean, 2) := by decide +kernel
theorem dX6_init_43 : decode cX6_init 43 = .ok (.putfield 22, 3) := by decide +kernel
theorem dX6_init_46 : decode cX6_init 46 = .ok (.aload_n 0, 1) := by decide +kernel
theorem dX6_init_47 : decode cX6_init 47 = .ok (.iconst 0, 1) := by decide +kernel
theorem dX6_init_48 : decode cX6_init 48 = .ok (.putfield 26, 3) := by decide +kernel
theorem dX6_init_51 : decode cX6_init 51 = .ok (.aload_n 0, 1) := by decide +kernel
theorem dX6_init_52 : decode cX6_init 52 = .ok (.new 30, 3) := by decide +kernel
theorem dX6_init_55 : decode cX6_init 55 = .ok (.dup, 1) := by decide +kernel
theorem dX6_init_56 : decode cX6_init 56 = .ok (.invokespecial 32, 3) := by decide +kernel
theorem dX6_init_59 : decode cX6_init 59 = .ok (.putfield 33, 3) := by decide +kernel
theorem dX6_init_62 : decode cX6_init 62 = .ok (.return_, 1) := by decide +kernel
theorem dX6_star_0 : decode cX6_star 0 = .ok (.iload_n 1, 1) := by decide +kernel
theorem dX6_star_1 : decode cX6_star 1 = .ok (.sipush 1000, 3) := by decide +kernel
theorem dX6_star_4 : decode cX6_star 4 = .ok (.ldc 37, 2) := by decide +kernel
theorem dX6_star_6 : decode cX6_star 6 = .ok (.invokestatic 38, 3) := by decide +kernel
theorem dX6_star_9 : decode cX6_star 9 = .ok (.aload_n 0, 1) := by decide +kernel
theorem dX6_star_10 : decode cX6_star 10 = .ok (.getfield 10, 3) := by decide +kernel
theorem dX6_star_13 : decode cX6_star 13 = .ok (.invokevirtual 42, 3) := by decide +kernel
theorem dX6_star_16 : decode cX6_star 16 = .ok (.bipush 6, 2) := by decide +kernel
theorem dX6_star_18 : decode cX6_star 18 = .ok (.if_icmp .lt 13, 3) := by decide +kernel
theorem dX6_star_21 : decode cX6_star 21 = .ok (.new 46, 3) := by decide +kernel
theorem dX6_star_24 : decode cX6_star 24 = .ok (.dup, 1) := by decide +kernel
theorem dX6_star_25 : decode cX6_star 25 = .ok (.ldc 48, 2) := by decide +kernel
theorem dX6_star_27 : decode cX6_star 27 = .ok (.invokespecial 50, 3) := by decide +kernel
theorem dX6_star_30 : decode cX6_star 30 = .ok (.athrow, 1) := by decide +kernel
theorem dX6_star_31 : decode cX6_star 31 = .ok (.aload_n 0, 1) := by decide +kernel
theorem dX6_star_32 : decode cX6_star 32 = .ok (.getfield 10, 3) := by decide +kernel
theorem dX6_star_35 : decode cX6_star 35 = .ok (.new 53, 3) := by decide +kernel
theorem dX6_star_38 : decode cX6_star 38 = .ok (.dup, 1) := by decide +kernel
theorem dX6_star_39 : decode cX6_star 39 = .ok (.iload_n 1, 1) := by decide +kernel
theorem dX6_star_40 : decode cX6_star 40 = .ok (.invokespecial 55, 3) := by decide +kernel
theorem dX6_star_43 : decode cX6_star 43 = .ok (.invokevirtual 58, 3) := by decide +kernel
theorem dX6_star_46 : decode cX6_star 46 = .ok (.pop, 1) := by decide +kernel
theorem dX6_star_47 : decode cX6_star 47 = .ok (.aload_n 0, 1) := by decide +kernel
theorem dX6_star_48 : decode cX6_star 48 = .ok (.getfield 10, 3) := by decide +kernel
theorem dX6_star_51 : decode cX6_star 51 = .ok (.invokevirtual 42, 3) := by decide +kernel
theorem dX6_star_54 : decode cX6_star 54 = .ok (.iconst 1, 1) := by decide +kernel
theorem dX6_star_55 : decode cX6_star 55 = .ok (.isub, 1) := by decide +kernel
theorem dX6_star_56 : decode cX6_star 56 = .ok (.ireturn, 1) := by decide +kernel
theorem dX6_planet_0 : decode cX6_planet 0 = .ok (.aload_n 0, 1) := by decide +kernel
theorem dX6_planet_1 : decode cX6_planet 1 = .ok (.iload_n 1, 1) := by decide +kernel
theorem dX6_planet_2 : decode cX6_planet 2 = .ok (.invokevirtual 62, 3) := by decide +kernel
theorem dX6_planet_5 : decode cX6_planet 5 = .ok (.astore 6, 2) := by decide +kernel
theorem dX6_planet_7 : decode cX6_planet 7 = .ok (.iload_n 2, 1) := by decide +kernel
theorem dX6_planet_8 : decode cX6_planet 8 = .ok (.iconst 2, 1) := by decide +kernel
theorem dX6_planet_9 : decode cX6_planet 9 = .ok (.bipush 60, 2) := by decide +kernel
theorem dX6_planet_11 : decode cX6_planet 11 = .ok (.invokestatic 38, 3) := by decide +kernel
theorem dX6_planet_14 : decode cX6_planet 14 = .ok (.iload_n 3, 1) := by decide +kernel
theorem dX6_planet_15 : decode cX6_planet 15 = .ok (.iconst 0, 1) := by decide +kernel
theorem dX6_planet_16 : decode cX6_planet 16 = .ok (.iload_n 2, 1) := by decide +kernel
theorem dX6_planet_17 : decode cX6_planet 17 = .ok (.iconst 1, 1) := by decide +kernel
theorem dX6_planet_18 : decode cX6_planet 18 = .ok (.isub, 1) := by decide +kernel
theorem dX6_planet_19 : decode cX6_planet 19 = .ok (.invokestatic 38, 3) := by decide +kernel
theorem dX6_planet_22 : decode cX6_planet 22 = .ok (.iload 4, 2) := by decide +kernel
theorem dX6_planet_24 : decode cX6_planet 24 = .ok (.iconst 1, 1) := by decide +kernel
theorem dX6_planet_25 : decode cX6_planet 25 = .ok (.iconst 4, 1) := by decide +kernel
theorem dX6_planet_26 : decode cX6_planet 26 = .ok (.iload_n 2, 1) := by decide +kernel
theorem dX6_planet_27 : decode cX6_planet 27 = .ok (.iconst 1, 1) := by decide +kernel
theorem dX6_planet_28 : decode cX6_planet 28 = .ok (.isub, 1) := by decide +kernel
theorem dX6_planet_29 : decode cX6_planet 29 = .ok (.invokestatic 66, 3) := by decide +kernel
theorem dX6_planet_32 : decode cX6_planet 32 = .ok (.invokestatic 38, 3) := by decide +kernel
theorem dX6_planet_35 : decode cX6_planet 35 = .ok (.iload 5, 2) := by decide +kernel
theorem dX6_planet_37 : decode cX6_planet 37 = .ok (.iconst 1, 1) := by decide +kernel
theorem dX6_planet_38 : decode cX6_planet 38 = .ok (.sipush 200, 3) := by decide +kernel
theorem dX6_planet_41 : decode cX6_planet 41 = .ok (.invokestatic 38, 3) := by decide +kernel
theorem dX6_planet_44 : decode cX6_planet 44 = .ok (.aload 6, 2) := by decide +kernel
theorem dX6_planet_46 : decode cX6_planet 46 = .ok (.getfield 72, 3) := by decide +kernel
theorem dX6_planet_49 : decode cX6_planet 49 = .ok (.invokevirtual 42, 3) := by decide +kernel
theorem dX6_planet_52 : decode cX6_planet 52 = .ok (.iconst 4, 1) := by decide +kernel
theorem dX6_planet_53 : decode cX6_planet 53 = .ok (.if_icmp .lt 13, 3) := by decide +kernel
theorem dX6_planet_56 : decode cX6_planet 56 = .ok (.new 46, 3) := by decide +kernel
theorem dX6_planet_59 : decode cX6_planet 59 = .ok (.dup, 1) := by decide +kernel
theorem dX6_planet_60 : decode cX6_planet 60 = .ok (.ldc 75, 2) := by decide +kernel
theorem dX6_planet_62 : decode cX6_planet 62 = .ok (.invokespecial 50, 3) := by decide +kernel
theorem dX6_planet_65 : decode cX6_planet 65 = .ok (.athrow, 1) := by decide +kernel
theorem dX6_planet_66 : decode cX6_planet 66 = .ok (.aload 6, 2) := by decide +kernel
theorem dX6_planet_68 : decode cX6_planet 68 = .ok (.getfield 72, 3) := by decide +kernel
theorem dX6_planet_71 : decode cX6_planet 71 = .ok (.new 77, 3) := by decide +kernel
theorem dX6_planet_74 : decode cX6_planet 74 = .ok (.dup, 1) := by decide +kernel
theorem dX6_planet_75 : decode cX6_planet 75 = .ok (.iload_n 2, 1) := by decide +kernel
theorem dX6_planet_76 : decode cX6_planet 76 = .ok (.iload_n 3, 1) := by decide +kernel
theorem dX6_planet_77 : decode cX6_planet 77 = .ok (.iload 4, 2) := by decide +kernel
theorem dX6_planet_79 : decode cX6_planet 79 = .ok (.iload 5, 2) := by decide +kernel
theorem dX6_planet_81 : decode cX6_planet 81 = .ok (.invokespecial 79, 3) := by decide +kernel
theorem dX6_planet_84 : decode cX6_planet 84 = .ok (.invokevirtual 58, 3) := by decide +kernel
theorem dX6_planet_87 : decode cX6_planet 87 = .ok (.pop, 1) := by decide +kernel
theorem dX6_planet_88 : decode cX6_planet 88 = .ok (.aload 6, 2) := by decide +kernel
theorem dX6_planet_90 : decode cX6_planet 90 = .ok (.getfield 72, 3) := by decide +kernel
theorem dX6_planet_93 : decode cX6_planet 93 = .ok (.invokevirtual 42, 3) := by decide +kernel
theorem dX6_planet_96 : decode cX6_planet 96 = .ok (.ireturn, 1) := by decide +kernel
theorem dX6_spots_0 : decode cX6_spots 0 = .ok (.aload_n 0, 1) := by decide +kernel
theorem dX6_spots_1 : decode cX6_spots 1 = .ok (.iload_n 1, 1) := by decide +kernel
theorem dX6_spots_2 : decode cX6_spots 2 = .ok (.invokevirtual 62, 3) := by decide +kernel
theorem dX6_spots_5 : decode cX6_spots 5 = .ok (.astore 4, 2) := by decide +kernel
theorem dX6_spots_7 : decode cX6_spots 7 = .ok (.iload_n 2, 1) := by decide +kernel
theorem dX6_spots_8 : decode cX6_spots 8 = .ok (.iconst 4, 1) := by decide +kernel
theorem dX6_spots_9 : decode cX6_spots 9 = .ok (.bipush 60, 2) := by decide +kernel
theorem dX6_spots_11 : decode cX6_spots 11 = .ok (.invokestatic 38, 3) := by decide +kernel
theorem dX6_spots_14 : decode cX6_spots 14 = .ok (.iload_n 3, 1) := by decide +kernel
theorem dX6_spots_15 : decode cX6_spots 15 = .ok (.iconst 0, 1) := by decide +kernel
theorem dX6_spots_16 : decode cX6_spots 16 = .ok (.bipush 100, 2) := by decide +kernel
theorem dX6_spots_18 : decode cX6_spots 18 = .ok (.invokestatic 38, 3) := by decide +kernel
theorem dX6_spots_21 : decode cX6_spots 21 = .ok (.aload 4, 2) := by decide +kernel
theorem dX6_spots_23 : decode cX6_spots 23 = .ok (.getfield 82, 3) := by decide +kernel
theorem dX6_spots_26 : decode cX6_spots 26 = .ok (.istore 5, 2) := by decide +kernel
theorem dX6_spots_28 : decode cX6_spots 28 = .ok (.aload 4, 2) := by decide +kernel
theorem dX6_spots_30 : decode cX6_spots 30 = .ok (.iload_n 2, 1) := by decide +kernel
theorem dX6_spots_31 : decode cX6_spots 31 = .ok (.putfield 85, 3) := by decide +kernel
theorem dX6_spots_34 : decode cX6_spots 34 = .ok (.aload 4, 2) := by decide +kernel
theorem dX6_spots_36 : decode cX6_spots 36 = .ok (.iload_n 3, 1) := by decide +kernel
theorem dX6_spots_37 : decode cX6_spots 37 = .ok (.putfield 82, 3) := by decide +kernel
theorem dX6_spots_40 : decode cX6_spots 40 = .ok (.iload 5, 2) := by decide +kernel
theorem dX6_spots_42 : decode cX6_spots 42 = .ok (.ireturn, 1) := by decide +kernel
theorem dX6_blend_0 : decode cX6_blend 0 = .ok (.aload_n 0, 1) := by decide +kernel
theorem dX6_blend_1 : decode cX6_blend 1 = .ok (.iload_n 1, 1) := by decide +kernel
theorem dX6_blend_2 : decode cX6_blend 2 = .ok (.invokevirtual 62, 3) := by decide +kernel
theorem dX6_blend_5 : decode cX6_blend 5 = .ok (.astore_n 3, 1) := by decide +kernel
theorem dX6_blend_6 : decode cX6_blend 6 = .ok (.iload_n 2, 1) := by decide +kernel
theorem dX6_blend_7 : decode cX6_blend 7 = .ok (.iconst 0, 1) := by decide +kernel
theorem dX6_blend_8 : decode cX6_blend 8 = .ok (.ldc 37, 2) := by decide +kernel
theorem dX6_blend_10 : decode cX6_blend 10 = .ok (.invokestatic 38, 3) := by decide +kernel
theorem dX6_blend_13 : decode cX6_blend 13 = .ok (.aload_n 3, 1) := by decide +kernel
theorem dX6_blend_14 : decode cX6_blend 14 = .ok (.getfield 88, 3) := by decide +kernel
theorem dX6_blend_17 : decode cX6_blend 17 = .ok (.istore 4, 2) := by decide +kernel
theorem dX6_blend_19 : decode cX6_blend 19 = .ok (.aload_n 3, 1) := by decide +kernel
theorem dX6_blend_20 : decode cX6_blend 20 = .ok (.iload_n 2, 1) := by decide +kernel
theorem dX6_blend_21 : decode cX6_blend 21 = .ok (.putfield 88, 3) := by decide +kernel
theorem dX6_blend_24 : decode cX6_blend 24 = .ok (.iload 4, 2) := by decide +kernel
theorem dX6_blend_26 : decode cX6_blend 26 = .ok (.ireturn, 1) := by decide +kernel
theorem dX6_light_0 : decode cX6_light 0 = .ok (.aload_n 0, 1) := by decide +kernel
theorem dX6_light_1 : decode cX6_light 1 = .ok (.iload_n 1, 1) := by decide +kernel
theorem dX6_light_2 : decode cX6_light 2 = .ok (.invokevirtual 62, 3) := by decide +kernel
theorem dX6_light_5 : decode cX6_light 5 = .ok (.astore_n 3, 1) := by decide +kernel
theorem dX6_light_6 : decode cX6_light 6 = .ok (.iload_n 2, 1) := by decide +kernel
theorem dX6_light_7 : decode cX6_light 7 = .ok (.invokestatic 91, 3) := by decide +kernel
theorem dX6_light_10 : decode cX6_light 10 = .ok (.aload_n 3, 1) := by decide +kernel
theorem dX6_light_11 : decode cX6_light 11 = .ok (.iload_n 2, 1) := by decide +kernel
theorem dX6_light_12 : decode cX6_light 12 = .ok (.invokevirtual 94, 3) := by decide +kernel
theorem dX6_light_15 : decode cX6_light 15 = .ok (.invokestatic 98, 3) := by decide +kernel
theorem dX6_light_18 : decode cX6_light 18 = .ok (.lreturn, 1) := by decide +kernel
theorem dX6_cloud_0 : decode cX6_cloud 0 = .ok (.iload_n 1, 1) := by decide +kernel
theorem dX6_cloud_1 : decode cX6_cloud 1 = .ok (.iload_n 2, 1) := by decide +kernel
theorem dX6_cloud_2 : decode cX6_cloud 2 = .ok (.invokestatic 102, 3) := by decide +kernel
theorem dX6_cloud_5 : decode cX6_cloud 5 = .ok (.iload_n 1, 1) := by decide +kernel
theorem dX6_cloud_6 : decode cX6_cloud 6 = .ok (.istore_n 3, 1) := by decide +kernel
theorem dX6_cloud_7 : decode cX6_cloud 7 = .ok (.iload_n 3, 1) := by decide +kernel
theorem dX6_cloud_8 : decode cX6_cloud 8 = .ok (.iload_n 2, 1) := by decide +kernel
theorem dX6_cloud_9 : decode cX6_cloud 9 = .ok (.if_icmp .gt 22, 3) := by decide +kernel
theorem dX6_cloud_12 : decode cX6_cloud 12 = .ok (.aload_n 0, 1) := by decide +kernel
theorem dX6_cloud_13 : decode cX6_cloud 13 = .ok (.iload_n 3, 1) := by decide +kernel
theorem dX6_cloud_14 : decode cX6_cloud 14 = .ok (.invokevirtual 106, 3) := by decide +kernel
theorem dX6_cloud_17 : decode cX6_cloud 17 = .ok (.ifCond .ne 8, 3) := by decide +kernel
theorem dX6_cloud_20 : decode cX6_cloud 20 = .ok (.aload_n 0, 1) := by decide +kernel
theorem dX6_cloud_21 : decode cX6_cloud 21 = .ok (.iload_n 3, 1) := by decide +kernel
theorem dX6_cloud_22 : decode cX6_cloud 22 = .ok (.invokevirtual 110, 3) := by decide +kernel
theorem dX6_cloud_25 : decode cX6_cloud 25 = .ok (.iinc 3 1, 3) := by decide +kernel
theorem dX6_cloud_28 : decode cX6_cloud 28 = .ok (.goto (-21), 3) := by decide +kernel
theorem dX6_cloud_31 : decode cX6_cloud 31 = .ok (.aload_n 0, 1) := by decide +kernel
theorem dX6_cloud_32 : decode cX6_cloud 32 = .ok (.getfield 26, 3) := by decide +kernel
theorem dX6_cloud_35 : decode cX6_cloud 35 = .ok (.ireturn, 1) := by decide +kernel
theorem dX6_observe_0 : decode cX6_observe 0 = .ok (.aload_n 0, 1) := by decide +kernel
theorem dX6_observe_1 : decode cX6_observe 1 = .ok (.iload_n 1, 1) := by decide +kernel
theorem dX6_observe_2 : decode cX6_observe 2 = .ok (.invokevirtual 62, 3) := by decide +kernel
theorem dX6_observe_5 : decode cX6_observe 5 = .ok (.astore 4, 2) := by decide +kernel
theorem dX6_observe_7 : decode cX6_observe 7 = .ok (.iload_n 2, 1) := by decide +kernel
theorem dX6_observe_8 : decode cX6_observe 8 = .ok (.iload_n 3, 1) := by decide +kernel
theorem dX6_observe_9 : decode cX6_observe 9 = .ok (.invokestatic 102, 3) := by decide +kernel
theorem dX6_observe_12 : decode cX6_observe 12 = .ok (.aload 4, 2) := by decide +kernel
theorem dX6_observe_14 : decode cX6_observe 14 = .ok (.getfield 113, 3) := by decide +kernel
theorem dX6_observe_17 : decode cX6_observe 17 = .ok (.getfield 117, 3) := by decide +kernel
theorem dX6_observe_20 : decode cX6_observe 20 = .ok (.istore 5, 2) := by decide +kernel
theorem dX6_observe_22 : decode cX6_observe 22 = .ok (.iload_n 2, 1) := by decide +kernel
theorem dX6_observe_23 : decode cX6_observe 23 = .ok (.istore 6, 2) := by decide +kernel
theorem dX6_observe_25 : decode cX6_observe 25 = .ok (.iload 6, 2) := by decide +kernel
theorem dX6_observe_27 : decode cX6_observe 27 = .ok (.iload_n 3, 1) := by decide +kernel
theorem dX6_observe_28 : decode cX6_observe 28 = .ok (.if_icmp .gt 48, 3) := by decide +kernel
theorem dX6_observe_31 : decode cX6_observe 31 = .ok (.aload_n 0, 1) := by decide +kernel
theorem dX6_observe_32 : decode cX6_observe 32 = .ok (.iload 6, 2) := by decide +kernel
theorem dX6_observe_34 : decode cX6_observe 34 = .ok (.invokevirtual 106, 3) := by decide +kernel
theorem dX6_observe_37 : decode cX6_observe 37 = .ok (.ifCond .ne 33, 3) := by decide +kernel
theorem dX6_observe_40 : decode cX6_observe 40 = .ok (.aload 4, 2) := by decide +kernel
theorem dX6_observe_42 : decode cX6_observe 42 = .ok (.getfield 113, 3) := by decide +kernel
theorem dX6_observe_45 : decode cX6_observe 45 = .ok (.iload 6, 2) := by decide +kernel
theorem dX6_observe_47 : decode cX6_observe 47 = .ok (.invokevirtual 122, 3) := by decide +kernel
theorem dX6_observe_50 : decode cX6_observe 50 = .ok (.ifCond .ne 20, 3) := by decide +kernel
theorem dX6_observe_53 : decode cX6_observe 53 = .ok (.aload 4, 2) := by decide +kernel
theorem dX6_observe_55 : decode cX6_observe 55 = .ok (.getfield 113, 3) := by decide +kernel
theorem dX6_observe_58 : decode cX6_observe 58 = .ok (.iload 6, 2) := by decide +kernel
theorem dX6_observe_60 : decode cX6_observe 60 = .ok (.aload 4, 2) := by decide +kernel
theorem dX6_observe_62 : decode cX6_observe 62 = .ok (.iload 6, 2) := by decide +kernel
theorem dX6_observe_64 : decode cX6_observe 64 = .ok (.invokevirtual 94, 3) := by decide +kernel
theorem dX6_observe_67 : decode cX6_observe 67 = .ok (.invokevirtual 125, 3) := by decide +kernel
theorem dX6_observe_70 : decode cX6_observe 70 = .ok (.iinc 6 1, 3) := by decide +kernel
theorem dX6_observe_73 : decode cX6_observe 73 = .ok (.goto (-48), 3) := by decide +kernel
theorem dX6_observe_76 : decode cX6_observe 76 = .ok (.aload 4, 2) := by decide +kernel
theorem dX6_observe_78 : decode cX6_observe 78 = .ok (.getfield 113, 3) := by decide +kernel
theorem dX6_observe_81 : decode cX6_observe 81 = .ok (.getfield 117, 3) := by decide +kernel
theorem dX6_observe_84 : decode cX6_observe 84 = .ok (.iload 5, 2) := by decide +kernel
theorem dX6_observe_86 : decode cX6_observe 86 = .ok (.isub, 1) := by decide +kernel
theorem dX6_observe_87 : decode cX6_observe 87 = .ok (.ireturn, 1) := by decide +kernel
theorem dX6_kept_0 : decode cX6_kept 0 = .ok (.aload_n 0, 1) := by decide +kernel
theorem dX6_kept_1 : decode cX6_kept 1 = .ok (.iload_n 1, 1) := by decide +kernel
theorem dX6_kept_2 : decode cX6_kept 2 = .ok (.invokevirtual 62, 3) := by decide +kernel
theorem dX6_kept_5 : decode cX6_kept 5 = .ok (.astore_n 3, 1) := by decide +kernel
theorem dX6_kept_6 : decode cX6_kept 6 = .ok (.iload_n 2, 1) := by decide +kernel
theorem dX6_kept_7 : decode cX6_kept 7 = .ok (.invokestatic 91, 3) := by decide +kernel
theorem dX6_kept_10 : decode cX6_kept 10 = .ok (.aload_n 3, 1) := by decide +kernel
theorem dX6_kept_11 : decode cX6_kept 11 = .ok (.getfield 113, 3) := by decide +kernel
theorem dX6_kept_14 : decode cX6_kept 14 = .ok (.iload_n 2, 1) := by decide +kernel
theorem dX6_kept_15 : decode cX6_kept 15 = .ok (.invokevirtual 122, 3) := by decide +kernel
theorem dX6_kept_18 : decode cX6_kept 18 = .ok (.ifCond .eq 17, 3) := by decide +kernel
theorem dX6_kept_21 : decode cX6_kept 21 = .ok (.aload_n 3, 1) := by decide +kernel
theorem dX6_kept_22 : decode cX6_kept 22 = .ok (.getfield 113, 3) := by decide +kernel
theorem dX6_kept_25 : decode cX6_kept 25 = .ok (.iload_n 2, 1) := by decide +kernel
theorem dX6_kept_26 : decode cX6_kept 26 = .ok (.invokevirtual 129, 3) := by decide +kernel
theorem dX6_kept_29 : decode cX6_kept 29 = .ok (.invokestatic 98, 3) := by decide +kernel
theorem dX6_kept_32 : decode cX6_kept 32 = .ok (.goto 6, 3) := by decide +kernel
theorem dX6_kept_35 : decode cX6_kept 35 = .ok (.ldc2_w 132, 3) := by decide +kernel
theorem dX6_kept_38 : decode cX6_kept 38 = .ok (.lreturn, 1) := by decide +kernel
theorem dX6_score_0 : decode cX6_score 0 = .ok (.aload_n 0, 1) := by decide +kernel
theorem dX6_score_1 : decode cX6_score 1 = .ok (.getfield 33, 3) := by decide +kernel
theorem dX6_score_4 : decode cX6_score 4 = .ok (.iload_n 2, 1) := by decide +kernel
theorem dX6_score_5 : decode cX6_score 5 = .ok (.aload_n 0, 1) := by decide +kernel
theorem dX6_score_6 : decode cX6_score 6 = .ok (.iload_n 1, 1) := by decide +kernel
theorem dX6_score_7 : decode cX6_score 7 = .ok (.iload_n 2, 1) := by decide +kernel
theorem dX6_score_8 : decode cX6_score 8 = .ok (.invokevirtual 134, 3) := by decide +kernel
theorem dX6_score_11 : decode cX6_score 11 = .ok (.invokevirtual 138, 3) := by decide +kernel
theorem dX6_score_14 : decode cX6_score 14 = .ok (.aload_n 0, 1) := by decide +kernel
theorem dX6_score_15 : decode cX6_score 15 = .ok (.getfield 33, 3) := by decide +kernel
theorem dX6_score_18 : decode cX6_score 18 = .ok (.aload_n 0, 1) := by decide +kernel
theorem dX6_score_19 : decode cX6_score 19 = .ok (.getfield 33, 3) := by decide +kernel
theorem dX6_score_22 : decode cX6_score 22 = .ok (.invokevirtual 142, 3) := by decide +kernel
theorem dX6_score_25 : decode cX6_score 25 = .ok (.invokevirtual 145, 3) := by decide +kernel
theorem dX6_score_28 : decode cX6_score 28 = .ok (.invokestatic 98, 3) := by decide +kernel
theorem dX6_score_31 : decode cX6_score 31 = .ok (.lreturn, 1) := by decide +kernel
theorem dX6_phase_0 : decode cX6_phase 0 = .ok (.aload_n 0, 1) := by decide +kernel
theorem dX6_phase_1 : decode cX6_phase 1 = .ok (.getfield 33, 3) := by decide +kernel
theorem dX6_phase_4 : decode cX6_phase 4 = .ok (.iload_n 2, 1) := by decide +kernel
theorem dX6_phase_5 : decode cX6_phase 5 = .ok (.aload_n 0, 1) := by decide +kernel
theorem dX6_phase_6 : decode cX6_phase 6 = .ok (.iload_n 1, 1) := by decide +kernel
theorem dX6_phase_7 : decode cX6_phase 7 = .ok (.iload_n 2, 1) := by decide +kernel
theorem dX6_phase_8 : decode cX6_phase 8 = .ok (.invokevirtual 134, 3) := by decide +kernel
theorem dX6_phase_11 : decode cX6_phase 11 = .ok (.invokevirtual 138, 3) := by decide +kernel
theorem dX6_phase_14 : decode cX6_phase 14 = .ok (.aload_n 0, 1) := by decide +kernel
theorem dX6_phase_15 : decode cX6_phase 15 = .ok (.getfield 33, 3) := by decide +kernel
theorem dX6_phase_18 : decode cX6_phase 18 = .ok (.invokevirtual 142, 3) := by decide +kernel
theorem dX6_phase_21 : decode cX6_phase 21 = .ok (.ireturn, 1) := by decide +kernel
theorem dX6_period_0 : decode cX6_period 0 = .ok (.aload_n 0, 1) := by decide +kernel
theorem dX6_period_1 : decode cX6_period 1 = .ok (.aload_n 0, 1) := by decide +kernel
theorem dX6_period_2 : decode cX6_period 2 = .ok (.iload_n 1, 1) := by decide +kernel
theorem dX6_period_3 : decode cX6_period 3 = .ok (.iload_n 2, 1) := by decide +kernel
theorem dX6_period_4 : decode cX6_period 4 = .ok (.invokevirtual 148, 3) := by decide +kernel
theorem dX6_period_7 : decode cX6_period 7 = .ok (.iload_n 2, 1) := by decide +kernel
theorem dX6_period_8 : decode cX6_period 8 = .ok (.invokevirtual 151, 3) := by decide +kernel
theorem dX6_period_11 : decode cX6_period 11 = .ok (.ireturn, 1) := by decide +kernel
theorem dX6_whyNot_0 : decode cX6_whyNot 0 = .ok (.aload_n 0, 1) := by decide +kernel
theorem dX6_whyNot_1 : decode cX6_whyNot 1 = .ok (.iload_n 1, 1) := by decide +kernel
theorem dX6_whyNot_2 : decode cX6_whyNot 2 = .ok (.iload_n 2, 1) := by decide +kernel
theorem dX6_whyNot_3 : decode cX6_whyNot 3 = .ok (.invokevirtual 148, 3) := by decide +kernel
theorem dX6_whyNot_6 : decode cX6_whyNot 6 = .ok (.astore_n 3, 1) := by decide +kernel
theorem dX6_whyNot_7 : decode cX6_whyNot 7 = .ok (.aload_n 3, 1) := by decide +kernel
theorem dX6_whyNot_8 : decode cX6_whyNot 8 = .ok (.getfield 117, 3) := by decide +kernel
theorem dX6_whyNot_11 : decode cX6_whyNot 11 = .ok (.bipush 20, 2) := by decide +kernel
theorem dX6_whyNot_13 : decode cX6_whyNot 13 = .ok (.if_icmp .ge 5, 3) := by decide +kernel
