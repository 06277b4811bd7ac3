theorem dX7_about_85 : decode cX7_about 85 = .ok (.baload, 1) := by decide +kernel
theorem dX7_about_86 : decode cX7_about 86 = .ok (.ifCond .eq 7, 3) := by decide +kernel
theorem dX7_about_89 : decode cX7_about 89 = .ok (.iconst 1, 1) := by decide +kernel
theorem dX7_about_90 : decode cX7_about 90 = .ok (.goto 4, 3) := by decide +kernel
theorem dX7_about_93 : decode cX7_about 93 = .ok (.iconst 0, 1) := by decide +kernel
theorem dX7_about_94 : decode cX7_about 94 = .ok (.ireturn, 1) := by decide +kernel
theorem dX7_periodAnew_0 : decode cX7_periodAnew 0 = .ok (.aload_n 0, 1) := by decide +kernel
theorem dX7_periodAnew_1 : decode cX7_periodAnew 1 = .ok (.aload_n 0, 1) := by decide +kernel
theorem dX7_periodAnew_2 : decode cX7_periodAnew 2 = .ok (.iload_n 1, 1) := by decide +kernel
theorem dX7_periodAnew_3 : decode cX7_periodAnew 3 = .ok (.invokevirtual 145, 3) := by decide +kernel
theorem dX7_periodAnew_6 : decode cX7_periodAnew 6 = .ok (.ifCond .eq 7, 3) := by decide +kernel
theorem dX7_periodAnew_9 : decode cX7_periodAnew 9 = .ok (.iconst 0, 1) := by decide +kernel
theorem dX7_periodAnew_10 : decode cX7_periodAnew 10 = .ok (.goto 4, 3) := by decide +kernel
theorem dX7_periodAnew_13 : decode cX7_periodAnew 13 = .ok (.iconst 1, 1) := by decide +kernel
theorem dX7_periodAnew_14 : decode cX7_periodAnew 14 = .ok (.putfield 75, 3) := by decide +kernel
theorem dX7_periodAnew_17 : decode cX7_periodAnew 17 = .ok (.aload_n 0, 1) := by decide +kernel
theorem dX7_periodAnew_18 : decode cX7_periodAnew 18 = .ok (.getfield 75, 3) := by decide +kernel
theorem dX7_periodAnew_21 : decode cX7_periodAnew 21 = .ok (.ifCond .le 7, 3) := by decide +kernel
theorem dX7_periodAnew_24 : decode cX7_periodAnew 24 = .ok (.iconst 0, 1) := by decide +kernel
theorem dX7_periodAnew_25 : decode cX7_periodAnew 25 = .ok (.goto 9, 3) := by decide +kernel
theorem dX7_periodAnew_28 : decode cX7_periodAnew 28 = .ok (.aload_n 0, 1) := by decide +kernel
theorem dX7_periodAnew_29 : decode cX7_periodAnew 29 = .ok (.getfield 60, 3) := by decide +kernel
theorem dX7_periodAnew_32 : decode cX7_periodAnew 32 = .ok (.iload_n 1, 1) := by decide +kernel
theorem dX7_periodAnew_33 : decode cX7_periodAnew 33 = .ok (.iaload, 1) := by decide +kernel
theorem dX7_periodAnew_34 : decode cX7_periodAnew 34 = .ok (.ireturn, 1) := by decide +kernel
theorem dX7_fell_0 : decode cX7_fell 0 = .ok (.iload_n 1, 1) := by decide +kernel
theorem dX7_fell_1 : decode cX7_fell 1 = .ok (.istore_n 2, 1) := by decide +kernel
theorem dX7_fell_2 : decode cX7_fell 2 = .ok (.iload_n 2, 1) := by decide +kernel
theorem dX7_fell_3 : decode cX7_fell 3 = .ok (.iconst (-1), 1) := by decide +kernel
theorem dX7_fell_4 : decode cX7_fell 4 = .ok (.if_icmp .eq 27, 3) := by decide +kernel
theorem dX7_fell_7 : decode cX7_fell 7 = .ok (.aload_n 0, 1) := by decide +kernel
theorem dX7_fell_8 : decode cX7_fell 8 = .ok (.getfield 66, 3) := by decide +kernel
theorem dX7_fell_11 : decode cX7_fell 11 = .ok (.aload_n 0, 1) := by decide +kernel
theorem dX7_fell_12 : decode cX7_fell 12 = .ok (.getfield 69, 3) := by decide +kernel
theorem dX7_fell_15 : decode cX7_fell 15 = .ok (.iload_n 2, 1) := by decide +kernel
theorem dX7_fell_16 : decode cX7_fell 16 = .ok (.iaload, 1) := by decide +kernel
theorem dX7_fell_17 : decode cX7_fell 17 = .ok (.baload, 1) := by decide +kernel
theorem dX7_fell_18 : decode cX7_fell 18 = .ok (.ifCond .ne 13, 3) := by decide +kernel
theorem dX7_fell_21 : decode cX7_fell 21 = .ok (.aload_n 0, 1) := by decide +kernel
theorem dX7_fell_22 : decode cX7_fell 22 = .ok (.getfield 72, 3) := by decide +kernel
theorem dX7_fell_25 : decode cX7_fell 25 = .ok (.iload_n 2, 1) := by decide +kernel
theorem dX7_fell_26 : decode cX7_fell 26 = .ok (.iaload, 1) := by decide +kernel
theorem dX7_fell_27 : decode cX7_fell 27 = .ok (.istore_n 2, 1) := by decide +kernel
theorem dX7_fell_28 : decode cX7_fell 28 = .ok (.goto (-26), 3) := by decide +kernel
theorem dX7_fell_31 : decode cX7_fell 31 = .ok (.iload_n 2, 1) := by decide +kernel
theorem dX7_fell_32 : decode cX7_fell 32 = .ok (.iconst (-1), 1) := by decide +kernel
theorem dX7_fell_33 : decode cX7_fell 33 = .ok (.if_icmp .eq 7, 3) := by decide +kernel
theorem dX7_fell_36 : decode cX7_fell 36 = .ok (.iconst 1, 1) := by decide +kernel
theorem dX7_fell_37 : decode cX7_fell 37 = .ok (.goto 4, 3) := by decide +kernel
theorem dX7_fell_40 : decode cX7_fell 40 = .ok (.iconst 0, 1) := by decide +kernel
theorem dX7_fell_41 : decode cX7_fell 41 = .ok (.ireturn, 1) := by decide +kernel
theorem dX7_fallen_0 : decode cX7_fallen 0 = .ok (.iconst 0, 1) := by decide +kernel
theorem dX7_fallen_1 : decode cX7_fallen 1 = .ok (.istore_n 1, 1) := by decide +kernel
theorem dX7_fallen_2 : decode cX7_fallen 2 = .ok (.iconst 0, 1) := by decide +kernel
theorem dX7_fallen_3 : decode cX7_fallen 3 = .ok (.istore_n 2, 1) := by decide +kernel
theorem dX7_fallen_4 : decode cX7_fallen 4 = .ok (.iload_n 2, 1) := by decide +kernel
theorem dX7_fallen_5 : decode cX7_fallen 5 = .ok (.aload_n 0, 1) := by decide +kernel
theorem dX7_fallen_6 : decode cX7_fallen 6 = .ok (.getfield 148, 3) := by decide +kernel
theorem dX7_fallen_9 : decode cX7_fallen 9 = .ok (.if_icmp .ge 25, 3) := by decide +kernel
theorem dX7_fallen_12 : decode cX7_fallen 12 = .ok (.iload_n 1, 1) := by decide +kernel
theorem dX7_fallen_13 : decode cX7_fallen 13 = .ok (.aload_n 0, 1) := by decide +kernel
theorem dX7_fallen_14 : decode cX7_fallen 14 = .ok (.iload_n 2, 1) := by decide +kernel
theorem dX7_fallen_15 : decode cX7_fallen 15 = .ok (.invokevirtual 151, 3) := by decide +kernel
theorem dX7_fallen_18 : decode cX7_fallen 18 = .ok (.ifCond .eq 7, 3) := by decide +kernel
theorem dX7_fallen_21 : decode cX7_fallen 21 = .ok (.iconst 1, 1) := by decide +kernel
theorem dX7_fallen_22 : decode cX7_fallen 22 = .ok (.goto 4, 3) := by decide +kernel
theorem dX7_fallen_25 : decode cX7_fallen 25 = .ok (.iconst 0, 1) := by decide +kernel
theorem dX7_fallen_26 : decode cX7_fallen 26 = .ok (.iadd, 1) := by decide +kernel
theorem dX7_fallen_27 : decode cX7_fallen 27 = .ok (.istore_n 1, 1) := by decide +kernel
theorem dX7_fallen_28 : decode cX7_fallen 28 = .ok (.iinc 2 1, 3) := by decide +kernel
theorem dX7_fallen_31 : decode cX7_fallen 31 = .ok (.goto (-27), 3) := by decide +kernel
theorem dX7_fallen_34 : decode cX7_fallen 34 = .ok (.iload_n 1, 1) := by decide +kernel
theorem dX7_fallen_35 : decode cX7_fallen 35 = .ok (.ireturn, 1) := by decide +kernel
theorem dX7_isPaper_0 : decode cX7_isPaper 0 = .ok (.iload_n 1, 1) := by decide +kernel
theorem dX7_isPaper_1 : decode cX7_isPaper 1 = .ok (.iconst 0, 1) := by decide +kernel
theorem dX7_isPaper_2 : decode cX7_isPaper 2 = .ok (.aload_n 0, 1) := by decide +kernel
theorem dX7_isPaper_3 : decode cX7_isPaper 3 = .ok (.getfield 148, 3) := by decide +kernel
theorem dX7_isPaper_6 : decode cX7_isPaper 6 = .ok (.iconst 1, 1) := by decide +kernel
theorem dX7_isPaper_7 : decode cX7_isPaper 7 = .ok (.isub, 1) := by decide +kernel
theorem dX7_isPaper_8 : decode cX7_isPaper 8 = .ok (.invokestatic 82, 3) := by decide +kernel
theorem dX7_isPaper_11 : decode cX7_isPaper 11 = .ok (.ireturn, 1) := by decide +kernel
theorem dX7_paper_0 : decode cX7_paper 0 = .ok (.aload_n 0, 1) := by decide +kernel
theorem dX7_paper_1 : decode cX7_paper 1 = .ok (.iload_n 1, 1) := by decide +kernel
theorem dX7_paper_2 : decode cX7_paper 2 = .ok (.invokevirtual 145, 3) := by decide +kernel
theorem dX7_paper_5 : decode cX7_paper 5 = .ok (.ifCond .eq 20, 3) := by decide +kernel
theorem dX7_paper_8 : decode cX7_paper 8 = .ok (.iload_n 2, 1) := by decide +kernel
theorem dX7_paper_9 : decode cX7_paper 9 = .ok (.iconst (-1), 1) := by decide +kernel
theorem dX7_paper_10 : decode cX7_paper 10 = .ok (.if_icmp .eq 11, 3) := by decide +kernel
theorem dX7_paper_13 : decode cX7_paper 13 = .ok (.aload_n 0, 1) := by decide +kernel
theorem dX7_paper_14 : decode cX7_paper 14 = .ok (.iload_n 2, 1) := by decide +kernel
theorem dX7_paper_15 : decode cX7_paper 15 = .ok (.invokevirtual 154, 3) := by decide +kernel
theorem dX7_paper_18 : decode cX7_paper 18 = .ok (.ifCond .eq 7, 3) := by decide +kernel
theorem dX7_paper_21 : decode cX7_paper 21 = .ok (.iconst 1, 1) := by decide +kernel
theorem dX7_paper_22 : decode cX7_paper 22 = .ok (.goto 4, 3) := by decide +kernel
theorem dX7_paper_25 : decode cX7_paper 25 = .ok (.iconst 0, 1) := by decide +kernel
theorem dX7_paper_26 : decode cX7_paper 26 = .ok (.istore_n 3, 1) := by decide +kernel
theorem dX7_paper_27 : decode cX7_paper 27 = .ok (.iload_n 3, 1) := by decide +kernel
theorem dX7_paper_28 : decode cX7_paper 28 = .ok (.ifCond .eq 38, 3) := by decide +kernel
theorem dX7_paper_31 : decode cX7_paper 31 = .ok (.aload_n 0, 1) := by decide +kernel
theorem dX7_paper_32 : decode cX7_paper 32 = .ok (.getfield 66, 3) := by decide +kernel
theorem dX7_paper_35 : decode cX7_paper 35 = .ok (.iload_n 1, 1) := by decide +kernel
theorem dX7_paper_36 : decode cX7_paper 36 = .ok (.baload, 1) := by decide +kernel
theorem dX7_paper_37 : decode cX7_paper 37 = .ok (.ifCond .ne 25, 3) := by decide +kernel
theorem dX7_paper_40 : decode cX7_paper 40 = .ok (.iload_n 2, 1) := by decide +kernel
theorem dX7_paper_41 : decode cX7_paper 41 = .ok (.iconst (-1), 1) := by decide +kernel
theorem dX7_paper_42 : decode cX7_paper 42 = .ok (.if_icmp .eq 11, 3) := by decide +kernel
theorem dX7_paper_45 : decode cX7_paper 45 = .ok (.aload_n 0, 1) := by decide +kernel
theorem dX7_paper_46 : decode cX7_paper 46 = .ok (.iload_n 2, 1) := by decide +kernel
theorem dX7_paper_47 : decode cX7_paper 47 = .ok (.invokevirtual 151, 3) := by decide +kernel
theorem dX7_paper_50 : decode cX7_paper 50 = .ok (.ifCond .ne 12, 3) := by decide +kernel
theorem dX7_paper_53 : decode cX7_paper 53 = .ok (.aload_n 0, 1) := by decide +kernel
theorem dX7_paper_54 : decode cX7_paper 54 = .ok (.getfield 148, 3) := by decide +kernel
theorem dX7_paper_57 : decode cX7_paper 57 = .ok (.bipush 30, 2) := by decide +kernel
theorem dX7_paper_59 : decode cX7_paper 59 = .ok (.if_icmp .ne 7, 3) := by decide +kernel
theorem dX7_paper_62 : decode cX7_paper 62 = .ok (.iconst 1, 1) := by decide +kernel
theorem dX7_paper_63 : decode cX7_paper 63 = .ok (.goto 4, 3) := by decide +kernel
theorem dX7_paper_66 : decode cX7_paper 66 = .ok (.iconst 0, 1) := by decide +kernel
theorem dX7_paper_67 : decode cX7_paper 67 = .ok (.istore 4, 2) := by decide +kernel
theorem dX7_paper_69 : decode cX7_paper 69 = .ok (.aload_n 0, 1) := by decide +kernel
theorem dX7_paper_70 : decode cX7_paper 70 = .ok (.iload_n 3, 1) := by decide +kernel
theorem dX7_paper_71 : decode cX7_paper 71 = .ok (.ifCond .ne 7, 3) := by decide +kernel
theorem dX7_paper_74 : decode cX7_paper 74 = .ok (.iconst 1, 1) := by decide +kernel
theorem dX7_paper_75 : decode cX7_paper 75 = .ok (.goto 13, 3) := by decide +kernel
theorem dX7_paper_78 : decode cX7_paper 78 = .ok (.iload 4, 2) := by decide +kernel
theorem dX7_paper_80 : decode cX7_paper 80 = .ok (.ifCond .eq 7, 3) := by decide +kernel
theorem dX7_paper_83 : decode cX7_paper 83 = .ok (.iconst 2, 1) := by decide +kernel
theorem dX7_paper_84 : decode cX7_paper 84 = .ok (.goto 4, 3) := by decide +kernel
theorem dX7_paper_87 : decode cX7_paper 87 = .ok (.iconst 0, 1) := by decide +kernel
theorem dX7_paper_88 : decode cX7_paper 88 = .ok (.putfield 75, 3) := by decide +kernel
theorem dX7_paper_91 : decode cX7_paper 91 = .ok (.aload_n 0, 1) := by decide +kernel
theorem dX7_paper_92 : decode cX7_paper 92 = .ok (.getfield 75, 3) := by decide +kernel
theorem dX7_paper_95 : decode cX7_paper 95 = .ok (.ifCond .le 5, 3) := by decide +kernel
theorem dX7_paper_98 : decode cX7_paper 98 = .ok (.iconst 0, 1) := by decide +kernel
theorem dX7_paper_99 : decode cX7_paper 99 = .ok (.ireturn, 1) := by decide +kernel
theorem dX7_paper_100 : decode cX7_paper 100 = .ok (.aload_n 0, 1) := by decide +kernel
theorem dX7_paper_101 : decode cX7_paper 101 = .ok (.getfield 69, 3) := by decide +kernel
theorem dX7_paper_104 : decode cX7_paper 104 = .ok (.aload_n 0, 1) := by decide +kernel
theorem dX7_paper_105 : decode cX7_paper 105 = .ok (.getfield 148, 3) := by decide +kernel
theorem dX7_paper_108 : decode cX7_paper 108 = .ok (.iload_n 1, 1) := by decide +kernel
theorem dX7_paper_109 : decode cX7_paper 109 = .ok (.iastore, 1) := by decide +kernel
theorem dX7_paper_110 : decode cX7_paper 110 = .ok (.aload_n 0, 1) := by decide +kernel
theorem dX7_paper_111 : decode cX7_paper 111 = .ok (.getfield 72, 3) := by decide +kernel
theorem dX7_paper_114 : decode cX7_paper 114 = .ok (.aload_n 0, 1) := by decide +kernel
theorem dX7_paper_115 : decode cX7_paper 115 = .ok (.getfield 148, 3) := by decide +kernel
theorem dX7_paper_118 : decode cX7_paper 118 = .ok (.iload_n 2, 1) := by decide +kernel
theorem dX7_paper_119 : decode cX7_paper 119 = .ok (.iastore, 1) := by decide +kernel
theorem dX7_paper_120 : decode cX7_paper 120 = .ok (.aload_n 0, 1) := by decide +kernel
theorem dX7_paper_121 : decode cX7_paper 121 = .ok (.dup, 1) := by decide +kernel
theorem dX7_paper_122 : decode cX7_paper 122 = .ok (.getfield 148, 3) := by decide +kernel
theorem dX7_paper_125 : decode cX7_paper 125 = .ok (.iconst 1, 1) := by decide +kernel
theorem dX7_paper_126 : decode cX7_paper 126 = .ok (.iadd, 1) := by decide +kernel
theorem dX7_paper_127 : decode cX7_paper 127 = .ok (.putfield 148, 3) := by decide +kernel
theorem dX7_paper_130 : decode cX7_paper 130 = .ok (.aload_n 0, 1) := by decide +kernel
theorem dX7_paper_131 : decode cX7_paper 131 = .ok (.getfield 148, 3) := by decide +kernel
theorem dX7_paper_134 : decode cX7_paper 134 = .ok (.iconst 1, 1) := by decide +kernel
theorem dX7_paper_135 : decode cX7_paper 135 = .ok (.isub, 1) := by decide +kernel
theorem dX7_paper_136 : decode cX7_paper 136 = .ok (.ireturn, 1) := by decide +kernel
theorem dX7_withdraw_0 : decode cX7_withdraw 0 = .ok (.aload_n 0, 1) := by decide +kernel
theorem dX7_withdraw_1 : decode cX7_withdraw 1 = .ok (.aload_n 0, 1) := by decide +kernel
theorem dX7_withdraw_2 : decode cX7_withdraw 2 = .ok (.iload_n 1, 1) := by decide +kernel
theorem dX7_withdraw_3 : decode cX7_withdraw 3 = .ok (.invokevirtual 145, 3) := by decide +kernel
theorem dX7_withdraw_6 : decode cX7_withdraw 6 = .ok (.ifCond .ne 7, 3) := by decide +kernel
theorem dX7_withdraw_9 : decode cX7_withdraw 9 = .ok (.iconst 1, 1) := by decide +kernel
theorem dX7_withdraw_10 : decode cX7_withdraw 10 = .ok (.goto 17, 3) := by decide +kernel
theorem dX7_withdraw_13 : decode cX7_withdraw 13 = .ok (.aload_n 0, 1) := by decide +kernel
theorem dX7_withdraw_14 : decode cX7_withdraw 14 = .ok (.getfield 66, 3) := by decide +kernel
theorem dX7_withdraw_17 : decode cX7_withdraw 17 = .ok (.iload_n 1, 1) := by decide +kernel
theorem dX7_withdraw_18 : decode cX7_withdraw 18 = .ok (.baload, 1) := by decide +kernel
theorem dX7_withdraw_19 : decode cX7_withdraw 19 = .ok (.ifCond .eq 7, 3) := by decide +kernel
theorem dX7_withdraw_22 : decode cX7_withdraw 22 = .ok (.iconst 2, 1) := by decide +kernel
theorem dX7_withdraw_23 : decode cX7_withdraw 23 = .ok (.goto 4, 3) := by decide +kernel
theorem dX7_withdraw_26 : decode cX7_withdraw 26 = .ok (.iconst 0, 1) := by decide +kernel
theorem dX7_withdraw_27 : decode cX7_withdraw 27 = .ok (.putfield 75, 3) := by decide +kernel
theorem dX7_withdraw_30 : decode cX7_withdraw 30 = .ok (.aload_n 0, 1) := by decide +kernel
theorem dX7_withdraw_31 : decode cX7_withdraw 31 = .ok (.getfield 75, 3) := by decide +kernel
theorem dX7_withdraw_34 : decode cX7_withdraw 34 = .ok (.ifCond .le 5, 3) := by decide +kernel
theorem dX7_withdraw_37 : decode cX7_withdraw 37 = .ok (.iconst 0, 1) := by decide +kernel
theorem dX7_withdraw_38 : decode cX7_withdraw 38 = .ok (.ireturn, 1) := by decide +kernel
theorem dX7_withdraw_39 : decode cX7_withdraw 39 = .ok (.aload_n 0, 1) := by decide +kernel
theorem dX7_withdraw_40 : decode cX7_withdraw 40 = .ok (.invokevirtual 157, 3) := by decide +kernel
theorem dX7_withdraw_43 : decode cX7_withdraw 43 = .ok (.istore_n 2, 1) := by decide +kernel
theorem dX7_withdraw_44 : decode cX7_withdraw 44 = .ok (.aload_n 0, 1) := by decide +kernel
theorem dX7_withdraw_45 : decode cX7_withdraw 45 = .ok (.getfield 66, 3) := by decide +kernel
theorem dX7_withdraw_48 : decode cX7_withdraw 48 = .ok (.iload_n 1, 1) := by decide +kernel
theorem dX7_withdraw_49 : decode cX7_withdraw 49 = .ok (.iconst 1, 1) := by decide +kernel
theorem dX7_withdraw_50 : decode cX7_withdraw 50 = .ok (.bastore, 1) := by decide +kernel
theorem dX7_withdraw_51 : decode cX7_withdraw 51 = .ok (.aload_n 0, 1) := by decide +kernel
theorem dX7_withdraw_52 : decode cX7_withdraw 52 = .ok (.invokevirtual 157, 3) := by decide +kernel
theorem dX7_withdraw_55 : decode cX7_withdraw 55 = .ok (.iload_n 2, 1) := by decide +kernel
theorem dX7_withdraw_56 : decode cX7_withdraw 56 = .ok (.isub, 1) := by decide +kernel
theorem dX7_withdraw_57 : decode cX7_withdraw 57 = .ok (.ireturn, 1) := by decide +kernel
theorem dX7_hasFallen_0 : decode cX7_hasFallen 0 = .ok (.aload_n 0, 1) := by decide +kernel
theorem dX7_hasFallen_1 : decode cX7_hasFallen 1 = .ok (.aload_n 0, 1) := by decide +kernel
theorem dX7_hasFallen_2 : decode cX7_hasFallen 2 = .ok (.iload_n 1, 1) := by decide +kernel
theorem dX7_hasFallen_3 : decode cX7_hasFallen 3 = .ok (.invokevirtual 154, 3) := by decide +kernel
theorem dX7_hasFallen_6 : decode cX7_hasFallen 6 = .ok (.ifCond .eq 7, 3) := by decide +kernel
theorem dX7_hasFallen_9 : decode cX7_hasFallen 9 = .ok (.iconst 0, 1) := by decide +kernel
theorem dX7_hasFallen_10 : decode cX7_hasFallen 10 = .ok (.goto 4, 3) := by decide +kernel
theorem dX7_hasFallen_13 : decode cX7_hasFallen 13 = .ok (.iconst 1, 1) := by decide +kernel
theorem dX7_hasFallen_14 : decode cX7_hasFallen 14 = .ok (.putfield 75, 3) := by decide +kernel
theorem dX7_hasFallen_17 : decode cX7_hasFallen 17 = .ok (.aload_n 0, 1) := by decide +kernel
theorem dX7_hasFallen_18 : decode cX7_hasFallen 18 = .ok (.getfield 75, 3) := by decide +kernel
theorem dX7_hasFallen_21 : decode cX7_hasFallen 21 = .ok (.ifCond .ne 15, 3) := by decide +kernel
theorem dX7_hasFallen_24 : decode cX7_hasFallen 24 = .ok (.aload_n 0, 1) := by decide +kernel
theorem dX7_hasFallen_25 : decode cX7_hasFallen 25 = .ok (.iload_n 1, 1) := by decide +kernel
theorem dX7_hasFallen_26 : decode cX7_hasFallen 26 = .ok (.invokevirtual 151, 3) := by decide +kernel
theorem dX7_hasFallen_29 : decode cX7_hasFallen 29 = .ok (.ifCond .eq 7, 3) := by decide +kernel
theorem dX7_hasFallen_32 : decode cX7_hasFallen 32 = .ok (.iconst 1, 1) := by decide +kernel
theorem dX7_hasFallen_33 : decode cX7_hasFallen 33 = .ok (.goto 4, 3) := by decide +kernel
theorem dX7_hasFallen_36 : decode cX7_hasFallen 36 = .ok (.iconst 0, 1) := by decide +kernel
theorem dX7_hasFallen_37 : decode cX7_hasFallen 37 = .ok (.ireturn, 1) := by decide +kernel
theorem dJxe99ae_isNaN_b9ae7_0 : decode cJxe99ae_isNaN_b9ae7 0 = .ok (.dload_n 0, 1) := by decide +kernel
theorem dJxe99ae_isNaN_b9ae7_1 : decode cJxe99ae_isNaN_b9ae7 1 = .ok (.dload_n 0, 1) := by decide +kernel
theorem dJxe99ae_isNaN_b9ae7_2 : decode cJxe99ae_isNaN_b9ae7 2 = .ok (.dcmp .l, 1) := by decide +kernel
theorem dJxe99ae_isNaN_b9ae7_3 : decode cJxe99ae_isNaN_b9ae7 3 = .ok (.ifCond .eq 7, 3) := by decide +kernel
theorem dJxe99ae_isNaN_b9ae7_6 : decode cJxe99ae_isNaN_b9ae7 6 = .ok (.iconst 1, 1) := by decide +kernel
theorem dJxe99ae_isNaN_b9ae7_7 : decode cJxe99ae_isNaN_b9ae7 7 = .ok (.goto 4, 3) := by decide +kernel
theorem dJxe99ae_isNaN_b9ae7_10 : decode cJxe99ae_isNaN_b9ae7 10 = .ok (.iconst 0, 1) := by decide +kernel
theorem dJxe99ae_isNaN_b9ae7_11 : decode cJxe99ae_isNaN_b9ae7 11 = .ok (.ireturn, 1) := by decide +kernel
theorem dJxe99ae_doubleToLongBits_ccdee_0 : decode cJxe99ae_doubleToLongBits_ccdee 0 = .ok (.dload_n 0, 1) := by decide +kernel
theorem dJxe99ae_doubleToLongBits_ccdee_1 : decode cJxe99ae_doubleToLongBits_ccdee 1 = .ok (.invokestatic 122, 3) := by decide +kernel
theorem dJxe99ae_doubleToLongBits_ccdee_4 : decode cJxe99ae_doubleToLongBits_ccdee 4 = .ok (.ifCond .ne 8, 3) := by decide +kernel
theorem dJxe99ae_doubleToLongBits_ccdee_7 : decode cJxe99ae_doubleToLongBits_ccdee 7 = .ok (.dload_n 0, 1) := by decide +kernel
theorem dJxe99ae_doubleToLongBits_ccdee_8 : decode cJxe99ae_doubleToLongBits_ccdee 8 = .ok (.invokestatic 134, 3) := by decide +kernel
theorem dJxe99ae_doubleToLongBits_ccdee_11 : decode cJxe99ae_doubleToLongBits_ccdee 11 = .ok (.lreturn, 1) := by decide +kernel
theorem dJxe99ae_doubleToLongBits_ccdee_12 : decode cJxe99ae_doubleToLongBits_ccdee 12 = .ok (.ldc2_w 137, 3) := by decide +kernel
theorem dJxe99ae_doubleToLongBits_ccdee_15 : decode cJxe99ae_doubleToLongBits_ccdee 15 = .ok (.lreturn, 1) := by decide +kernel
theorem dJ9_floorMod_7cf53_0 : decode cJ9_floorMod_7cf53 0 = .ok (.iload_n 0, 1) := by decide +kernel
theorem dJ9_floorMod_7cf53_1 : decode cJ9_floorMod_7cf53 1 = .ok (.iload_n 1, 1) := by decide +kernel
theorem dJ9_floorMod_7cf53_2 : decode cJ9_floorMod_7cf53 2 = .ok (.irem, 1) := by decide +kernel
theorem dJ9_floorMod_7cf53_3 : decode cJ9_floorMod_7cf53 3 = .ok (.istore_n 2, 1) := by decide +kernel
theorem dJ9_floorMod_7cf53_4 : decode cJ9_floorMod_7cf53 4 = .ok (.iload_n 0, 1) := by decide +kernel
theorem dJ9_floorMod_7cf53_5 : decode cJ9_floorMod_7cf53 5 = .ok (.iload_n 1, 1) := by decide +kernel
theorem dJ9_floorMod_7cf53_6 : decode cJ9_floorMod_7cf53 6 = .ok (.ixor, 1) := by decide +kernel
theorem dJ9_floorMod_7cf53_7 : decode cJ9_floorMod_7cf53 7 = .ok (.ifCond .ge 11, 3) := by decide +kernel
theorem dJ9_floorMod_7cf53_10 : decode cJ9_floorMod_7cf53 10 = .ok (.iload_n 2, 1) := by decide +kernel
theorem dJ9_floorMod_7cf53_11 : decode cJ9_floorMod_7cf53 11 = .ok (.ifCond .eq 7, 3) := by decide +kernel
theorem dJ9_floorMod_7cf53_14 : decode cJ9_floorMod_7cf53 14 = .ok (.iload_n 2, 1) := by decide +kernel
theorem dJ9_floorMod_7cf53_15 : decode cJ9_floorMod_7cf53 15 = .ok (.iload_n 1, 1) := by decide +kernel
theorem dJ9_floorMod_7cf53_16 : decode cJ9_floorMod_7cf53 16 = .ok (.iadd, 1) := by decide +kernel
theorem dJ9_floorMod_7cf53_17 : decode cJ9_floorMod_7cf53 17 = .ok (.ireturn, 1) := by decide +kernel
theorem dJ9_floorMod_7cf53_18 : decode cJ9_floorMod_7cf53 18 = .ok (.iload_n 2, 1) := by decide +kernel
theorem dJ9_floorMod_7cf53_19 : decode cJ9_floorMod_7cf53 19 = .ok (.ireturn, 1) := by decide +kernel
theorem dJ9_max_7cf53_0 : decode cJ9_max_7cf53 0 = .ok (.iload_n 0, 1) := by decide +kernel
theorem dJ9_max_7cf53_1 : decode cJ9_max_7cf53 1 = .ok (.iload_n 1, 1) := by decide +kernel
theorem dJ9_max_7cf53_2 : decode cJ9_max_7cf53 2 = .ok (.if_icmp .lt 7, 3) := by decide +kernel
theorem dJ9_max_7cf53_5 : decode cJ9_max_7cf53 5 = .ok (.iload_n 0, 1) := by decide +kernel
theorem dJ9_max_7cf53_6 : decode cJ9_max_7cf53 6 = .ok (.goto 4, 3) := by decide +kernel
theorem dJ9_max_7cf53_9 : decode cJ9_max_7cf53 9 = .ok (.iload_n 1, 1) := by decide +kernel
theorem dJ9_max_7cf53_10 : decode cJ9_max_7cf53 10 = .ok (.ireturn, 1) := by decide +kernel
theorem dJ9_min_7cf53_0 : decode cJ9_min_7cf53 0 = .ok (.iload_n 0, 1) := by decide +kernel
theorem dJ9_min_7cf53_1 : decode cJ9_min_7cf53 1 = .ok (.iload_n 1, 1) := by decide +kernel
theorem dJ9_min_7cf53_2 : decode cJ9_min_7cf53 2 = .ok (.if_icmp .gt 7, 3) := by decide +kernel
theorem dJ9_min_7cf53_5 : decode cJ9_min_7cf53 5 = .ok (.iload_n 0, 1) := by decide +kernel
theorem dJ9_min_7cf53_6 : decode cJ9_min_7cf53 6 = .ok (.goto 4, 3) := by decide +kernel
theorem dJ9_min_7cf53_9 : decode cJ9_min_7cf53 9 = .ok (.iload_n 1, 1) := by decide +kernel
theorem dJ9_min_7cf53_10 : decode cJ9_min_7cf53 10 = .ok (.ireturn, 1) := by decide +kernel
theorem dJxa1e45_init_da8c8_0 : decode cJxa1e45_init_da8c8 0 = .ok (.aload_n 0, 1) := by decide +kernel
theorem dJxa1e45_init_da8c8_1 : decode cJxa1e45_init_da8c8 1 = .ok (.invokespecial 1, 3) := by decide +kernel
theorem dJxa1e45_init_da8c8_4 : decode cJxa1e45_init_da8c8 4 = .ok (.return_, 1) := by decide +kernel
theorem dJxc12de_init_da8c8_0 : decode cJxc12de_init_da8c8 0 = .ok (.aload_n 0, 1) := by decide +kernel
theorem dJxc12de_init_da8c8_1 : decode cJxc12de_init_da8c8 1 = .ok (.invokespecial 1, 3) := by decide +kernel
theorem dJxc12de_init_da8c8_4 : decode cJxc12de_init_da8c8 4 = .ok (.aload_n 0, 1) := by decide +kernel
theorem dJxc12de_init_da8c8_5 : decode cJxc12de_init_da8c8 5 = .ok (.iconst 0, 1) := by decide +kernel
theorem dJxc12de_init_da8c8_6 : decode cJxc12de_init_da8c8 6 = .ok (.putfield 7, 3) := by decide +kernel
theorem dJxc12de_init_da8c8_9 : decode cJxc12de_init_da8c8 9 = .ok (.return_, 1) := by decide +kernel
theorem dJx4a65c_init_da8c8_0 : decode cJx4a65c_init_da8c8 0 = .ok (.aload_n 0, 1) := by decide +kernel
theorem dJx4a65c_init_da8c8_1 : decode cJx4a65c_init_da8c8 1 = .ok (.invokespecial 1, 3) := by decide +kernel
theorem dJx4a65c_init_da8c8_4 : decode cJx4a65c_init_da8c8 4 = .ok (.aload_n 0, 1) := by decide +kernel
theorem dJx4a65c_init_da8c8_5 : decode cJx4a65c_init_da8c8 5 = .ok (.getstatic 39, 3) := by decide +kernel
theorem dJx4a65c_init_da8c8_8 : decode cJx4a65c_init_da8c8 8 = .ok (.putfield 9, 3) := by decide +kernel
theorem dJx4a65c_init_da8c8_11 : decode cJx4a65c_init_da8c8 11 = .ok (.return_, 1) := by decide +kernel
theorem dJx4a65c_grow_92f84_0 : decode cJx4a65c_grow_92f84 0 = .ok (.aload_n 0, 1) := by decide +kernel
theorem dJx4a65c_grow_92f84_1 : decode cJx4a65c_grow_92f84 1 = .ok (.getfield 9, 3) := by decide +kernel
theorem dJx4a65c_grow_92f84_4 : decode cJx4a65c_grow_92f84 4 = .ok (.arraylength, 1) := by decide +kernel
theorem dJx4a65c_grow_92f84_5 : decode cJx4a65c_grow_92f84 5 = .ok (.istore_n 2, 1) := by decide +kernel
theorem dJx4a65c_grow_92f84_6 : decode cJx4a65c_grow_92f84 6 = .ok (.iload_n 2, 1) := by decide +kernel
theorem dJx4a65c_grow_92f84_7 : decode cJx4a65c_grow_92f84 7 = .ok (.ifCond .gt 13, 3) := by decide +kernel
theorem dJx4a65c_grow_92f84_10 : decode cJx4a65c_grow_92f84 10 = .ok (.aload_n 0, 1) := by decide +kernel
theorem dJx4a65c_grow_92f84_11 : decode cJx4a65c_grow_92f84 11 = .ok (.getfield 9, 3) := by decide +kernel
theorem dJx4a65c_grow_92f84_14 : decode cJx4a65c_grow_92f84 14 = .ok (.getstatic 39, 3) := by decide +kernel
theorem dJx4a65c_grow_92f84_17 : decode cJx4a65c_grow_92f84 17 = .ok (.if_acmp .eq 28, 3) := by decide +kernel
theorem dJx4a65c_grow_92f84_20 : decode cJx4a65c_grow_92f84 20 = .ok (.iload_n 2, 1) := by decide +kernel
theorem dJx4a65c_grow_92f84_21 : decode cJx4a65c_grow_92f84 21 = .ok (.iload_n 1, 1) := by decide +kernel
theorem dJx4a65c_grow_92f84_22 : decode cJx4a65c_grow_92f84 22 = .ok (.iload_n 2, 1) := by decide +kernel
theorem dJx4a65c_grow_92f84_23 : decode cJx4a65c_grow_92f84 23 = .ok (.isub, 1) := by decide +kernel
theorem dJx4a65c_grow_92f84_24 : decode cJx4a65c_grow_92f84 24 = .ok (.iload_n 2, 1) := by decide +kernel
theorem dJx4a65c_grow_92f84_25 : decode cJx4a65c_grow_92f84 25 = .ok (.iconst 1, 1) := by decide +kernel
theorem dJx4a65c_grow_92f84_26 : decode cJx4a65c_grow_92f84 26 = .ok (.ishr, 1) := by decide +kernel
theorem dJx4a65c_grow_92f84_27 : decode cJx4a65c_grow_92f84 27 = .ok (.invokestatic 73, 3) := by decide +kernel
theorem dJx4a65c_grow_92f84_30 : decode cJx4a65c_grow_92f84 30 = .ok (.istore_n 3, 1) := by decide +kernel
theorem dJx4a65c_grow_92f84_31 : decode cJx4a65c_grow_92f84 31 = .ok (.aload_n 0, 1) := by decide +kernel
theorem dJx4a65c_grow_92f84_32 : decode cJx4a65c_grow_92f84 32 = .ok (.aload_n 0, 1) := by decide +kernel
theorem dJx4a65c_grow_92f84_33 : decode cJx4a65c_grow_92f84 33 = .ok (.getfield 9, 3) := by decide +kernel
theorem dJx4a65c_grow_92f84_36 : decode cJx4a65c_grow_92f84 36 = .ok (.iload_n 3, 1) := by decide +kernel
theorem dJx4a65c_grow_92f84_37 : decode cJx4a65c_grow_92f84 37 = .ok (.invokestatic 66, 3) := by decide +kernel
theorem dJx4a65c_grow_92f84_40 : decode cJx4a65c_grow_92f84 40 = .ok (.dup_x1, 1) := by decide +kernel
theorem dJx4a65c_grow_92f84_41 : decode cJx4a65c_grow_92f84 41 = .ok (.putfield 9, 3) := by decide +kernel
theorem dJx4a65c_grow_92f84_44 : decode cJx4a65c_grow_92f84 44 = .ok (.areturn, 1) := by decide +kernel
theorem dJx4a65c_grow_92f84_45 : decode cJx4a65c_grow_92f84 45 = .ok (.aload_n 0, 1) := by decide +kernel
theorem dJx4a65c_grow_92f84_46 : decode cJx4a65c_grow_92f84 46 = .ok (.bipush 10, 2) := by decide +kernel
theorem dJx4a65c_grow_92f84_48 : decode cJx4a65c_grow_92f84 48 = .ok (.iload_n 1, 1) := by decide +kernel
theorem dJx4a65c_grow_92f84_49 : decode cJx4a65c_grow_92f84 49 = .ok (.invokestatic 79, 3) := by decide +kernel
theorem dJx4a65c_grow_92f84_52 : decode cJx4a65c_grow_92f84 52 = .ok (.anewarray 7, 3) := by decide +kernel
theorem dJx4a65c_grow_92f84_55 : decode cJx4a65c_grow_92f84 55 = .ok (.dup_x1, 1) := by decide +kernel
theorem dJx4a65c_grow_92f84_56 : decode cJx4a65c_grow_92f84 56 = .ok (.putfield 9, 3) := by decide +kernel
theorem dJx4a65c_grow_92f84_59 : decode cJx4a65c_grow_92f84 59 = .ok (.areturn, 1) := by decide +kernel
theorem dJx4a65c_grow_d5877_0 : decode cJx4a65c_grow_d5877 0 = .ok (.aload_n 0, 1) := by decide +kernel
theorem dJx4a65c_grow_d5877_1 : decode cJx4a65c_grow_d5877 1 = .ok (.aload_n 0, 1) := by decide +kernel
theorem dJx4a65c_grow_d5877_2 : decode cJx4a65c_grow_d5877 2 = .ok (.getfield 48, 3) := by decide +kernel
theorem dJx4a65c_grow_d5877_5 : decode cJx4a65c_grow_d5877 5 = .ok (.iconst 1, 1) := by decide +kernel
theorem dJx4a65c_grow_d5877_6 : decode cJx4a65c_grow_d5877 6 = .ok (.iadd, 1) := by decide +kernel
theorem dJx4a65c_grow_d5877_7 : decode cJx4a65c_grow_d5877 7 = .ok (.invokevirtual 69, 3) := by decide +kernel
theorem dJx4a65c_grow_d5877_10 : decode cJx4a65c_grow_d5877 10 = .ok (.areturn, 1) := by decide +kernel
theorem dJx4a65c_size_8abf5_0 : decode cJx4a65c_size_8abf5 0 = .ok (.aload_n 0, 1) := by decide +kernel
theorem dJx4a65c_size_8abf5_1 : decode cJx4a65c_size_8abf5 1 = .ok (.getfield 48, 3) := by decide +kernel
theorem dJx4a65c_size_8abf5_4 : decode cJx4a65c_size_8abf5 4 = .ok (.ireturn, 1) := by decide +kernel
theorem dJx4a65c_elementData_915e3_0 : decode cJx4a65c_elementData_915e3 0 = .ok (.aload_n 0, 1) := by decide +kernel
theorem dJx4a65c_elementData_915e3_1 : decode cJx4a65c_elementData_915e3 1 = .ok (.getfield 9, 3) := by decide +kernel
theorem dJx4a65c_elementData_915e3_4 : decode cJx4a65c_elementData_915e3 4 = .ok (.iload_n 1, 1) := by decide +kernel
theorem dJx4a65c_elementData_915e3_5 : decode cJx4a65c_elementData_915e3 5 = .ok (.aaload, 1) := by decide +kernel
theorem dJx4a65c_elementData_915e3_6 : decode cJx4a65c_elementData_915e3 6 = .ok (.areturn, 1) := by decide +kernel
theorem dJx4a65c_get_915e3_0 : decode cJx4a65c_get_915e3 0 = .ok (.iload_n 1, 1) := by decide +kernel
theorem dJx4a65c_get_915e3_1 : decode cJx4a65c_get_915e3 1 = .ok (.aload_n 0, 1) := by decide +kernel
theorem dJx4a65c_get_915e3_2 : decode cJx4a65c_get_915e3 2 = .ok (.getfield 48, 3) := by decide +kernel
theorem dJx4a65c_get_915e3_5 : decode cJx4a65c_get_915e3 5 = .ok (.invokestatic 118, 3) := by decide +kernel
theorem dJx4a65c_get_915e3_8 : decode cJx4a65c_get_915e3 8 = .ok (.pop, 1) := by decide +kernel
theorem dJx4a65c_get_915e3_9 : decode cJx4a65c_get_915e3 9 = .ok (.aload_n 0, 1) := by decide +kernel
theorem dJx4a65c_get_915e3_10 : decode cJx4a65c_get_915e3 10 = .ok (.iload_n 1, 1) := by decide +kernel
theorem dJx4a65c_get_915e3_11 : decode cJx4a65c_get_915e3 11 = .ok (.invokevirtual 123, 3) := by decide +kernel
theorem dJx4a65c_get_915e3_14 : decode cJx4a65c_get_915e3 14 = .ok (.areturn, 1) := by decide +kernel
theorem dJx4a65c_add_72be8_0 : decode cJx4a65c_add_72be8 0 = .ok (.iload_n 3, 1) := by decide +kernel
theorem dJx4a65c_add_72be8_1 : decode cJx4a65c_add_72be8 1 = .ok (.aload_n 2, 1) := by decide +kernel
theorem dJx4a65c_add_72be8_2 : decode cJx4a65c_add_72be8 2 = .ok (.arraylength, 1) := by decide +kernel
theorem dJx4a65c_add_72be8_3 : decode cJx4a65c_add_72be8 3 = .ok (.if_icmp .ne 8, 3) := by decide +kernel
theorem dJx4a65c_add_72be8_6 : decode cJx4a65c_add_72be8 6 = .ok (.aload_n 0, 1) := by decide +kernel
theorem dJx4a65c_add_72be8_7 : decode cJx4a65c_add_72be8 7 = .ok (.invokevirtual 129, 3) := by decide +kernel
theorem dJx4a65c_add_72be8_10 : decode cJx4a65c_add_72be8 10 = .ok (.astore_n 2, 1) := by decide +kernel
theorem dJx4a65c_add_72be8_11 : decode cJx4a65c_add_72be8 11 = .ok (.aload_n 2, 1) := by decide +kernel
theorem dJx4a65c_add_72be8_12 : decode cJx4a65c_add_72be8 12 = .ok (.iload_n 3, 1) := by decide +kernel
theorem dJx4a65c_add_72be8_13 : decode cJx4a65c_add_72be8 13 = .ok (.aload_n 1, 1) := by decide +kernel
theorem dJx4a65c_add_72be8_14 : decode cJx4a65c_add_72be8 14 = .ok (.aastore, 1) := by decide +kernel
theorem dJx4a65c_add_72be8_15 : decode cJx4a65c_add_72be8 15 = .ok (.aload_n 0, 1) := by decide +kernel
theorem dJx4a65c_add_72be8_16 : decode cJx4a65c_add_72be8 16 = .ok (.iload_n 3, 1) := by decide +kernel
theorem dJx4a65c_add_72be8_17 : decode cJx4a65c_add_72be8 17 = .ok (.iconst 1, 1) := by decide +kernel
theorem dJx4a65c_add_72be8_18 : decode cJx4a65c_add_72be8 18 = .ok (.iadd, 1) := by decide +kernel
theorem dJx4a65c_add_72be8_19 : decode cJx4a65c_add_72be8 19 = .ok (.putfield 48, 3) := by decide +kernel
theorem dJx4a65c_add_72be8_22 : decode cJx4a65c_add_72be8 22 = .ok (.return_, 1) := by decide +kernel
theorem dJx4a65c_add_9ea2d_0 : decode cJx4a65c_add_9ea2d 0 = .ok (.aload_n 0, 1) := by decide +kernel
theorem dJx4a65c_add_9ea2d_1 : decode cJx4a65c_add_9ea2d 1 = .ok (.dup, 1) := by decide +kernel
theorem dJx4a65c_add_9ea2d_2 : decode cJx4a65c_add_9ea2d 2 = .ok (.getfield 63, 3) := by decide +kernel
theorem dJx4a65c_add_9ea2d_5 : decode cJx4a65c_add_9ea2d 5 = .ok (.iconst 1, 1) := by decide +kernel
theorem dJx4a65c_add_9ea2d_6 : decode cJx4a65c_add_9ea2d 6 = .ok (.iadd, 1) := by decide +kernel
theorem dJx4a65c_add_9ea2d_7 : decode cJx4a65c_add_9ea2d 7 = .ok (.putfield 63, 3) := by decide +kernel
theorem dJx4a65c_add_9ea2d_10 : decode cJx4a65c_add_9ea2d 10 = .ok (.aload_n 0, 1) := by decide +kernel
theorem dJx4a65c_add_9ea2d_11 : decode cJx4a65c_add_9ea2d 11 = .ok (.aload_n 1, 1) := by decide +kernel
theorem dJx4a65c_add_9ea2d_12 : decode cJx4a65c_add_9ea2d 12 = .ok (.aload_n 0, 1) := by decide +kernel
theorem dJx4a65c_add_9ea2d_13 : decode cJx4a65c_add_9ea2d 13 = .ok (.getfield 9, 3) := by decide +kernel
theorem dJx4a65c_add_9ea2d_16 : decode cJx4a65c_add_9ea2d 16 = .ok (.aload_n 0, 1) := by decide +kernel
theorem dJx4a65c_add_9ea2d_17 : decode cJx4a65c_add_9ea2d 17 = .ok (.getfield 48, 3) := by decide +kernel
theorem dJx4a65c_add_9ea2d_20 : decode cJx4a65c_add_9ea2d 20 = .ok (.invokevirtual 131, 3) := by decide +kernel
theorem dJx4a65c_add_9ea2d_23 : decode cJx4a65c_add_9ea2d 23 = .ok (.iconst 1, 1) := by decide +kernel
theorem dJx4a65c_add_9ea2d_24 : decode cJx4a65c_add_9ea2d 24 = .ok (.ireturn, 1) := by decide +kernel
theorem dJ7_fill_53178_0 : decode cJ7_fill_53178 0 = .ok (.iconst 0, 1) := by decide +kernel
theorem dJ7_fill_53178_1 : decode cJ7_fill_53178 1 = .ok (.istore_n 2, 1) := by decide +kernel
theorem dJ7_fill_53178_2 : decode cJ7_fill_53178 2 = .ok (.aload_n 0, 1) := by decide +kernel
theorem dJ7_fill_53178_3 : decode cJ7_fill_53178 3 = .ok (.arraylength, 1) := by decide +kernel
theorem dJ7_fill_53178_4 : decode cJ7_fill_53178 4 = .ok (.istore_n 3, 1) := by decide +kernel
theorem dJ7_fill_53178_5 : decode cJ7_fill_53178 5 = .ok (.iload_n 2, 1) := by decide +kernel
theorem dJ7_fill_53178_6 : decode cJ7_fill_53178 6 = .ok (.iload_n 3, 1) := by decide +kernel
theorem dJ7_fill_53178_7 : decode cJ7_fill_53178 7 = .ok (.if_icmp .ge 13, 3) := by decide +kernel
theorem dJ7_fill_53178_10 : decode cJ7_fill_53178 10 = .ok (.aload_n 0, 1) := by decide +kernel
theorem dJ7_fill_53178_11 : decode cJ7_fill_53178 11 = .ok (.iload_n 2, 1) := by decide +kernel
theorem dJ7_fill_53178_12 : decode cJ7_fill_53178 12 = .ok (.iload_n 1, 1) := by decide +kernel
theorem dJ7_fill_53178_13 : decode cJ7_fill_53178 13 = .ok (.iastore, 1) := by decide +kernel
theorem dJ7_fill_53178_14 : decode cJ7_fill_53178 14 = .ok (.iinc 2 1, 3) := by decide +kernel
theorem dJ7_fill_53178_17 : decode cJ7_fill_53178 17 = .ok (.goto (-12), 3) := by decide +kernel
theorem dJ7_fill_53178_20 : decode cJ7_fill_53178 20 = .ok (.return_, 1) := by decide +kernel
theorem dJ7_fill_7f8df_0 : decode cJ7_fill_7f8df 0 = .ok (.iconst 0, 1) := by decide +kernel
theorem dJ7_fill_7f8df_1 : decode cJ7_fill_7f8df 1 = .ok (.istore_n 3, 1) := by decide +kernel
theorem dJ7_fill_7f8df_2 : decode cJ7_fill_7f8df 2 = .ok (.aload_n 0, 1) := by decide +kernel
theorem dJ7_fill_7f8df_3 : decode cJ7_fill_7f8df 3 = .ok (.arraylength, 1) := by decide +kernel
theorem dJ7_fill_7f8df_4 : decode cJ7_fill_7f8df 4 = .ok (.istore 4, 2) := by decide +kernel
theorem dJ7_fill_7f8df_6 : decode cJ7_fill_7f8df 6 = .ok (.iload_n 3, 1) := by decide +kernel
theorem dJ7_fill_7f8df_7 : decode cJ7_fill_7f8df 7 = .ok (.iload 4, 2) := by decide +kernel
theorem dJ7_fill_7f8df_9 : decode cJ7_fill_7f8df 9 = .ok (.if_icmp .ge 13, 3) := by decide +kernel
theorem dJ7_fill_7f8df_12 : decode cJ7_fill_7f8df 12 = .ok (.aload_n 0, 1) := by decide +kernel
theorem dJ7_fill_7f8df_13 : decode cJ7_fill_7f8df 13 = .ok (.iload_n 3, 1) := by decide +kernel
theorem dJ7_fill_7f8df_14 : decode cJ7_fill_7f8df 14 = .ok (.dload_n 1, 1) := by decide +kernel
theorem dJ7_fill_7f8df_15 : decode cJ7_fill_7f8df 15 = .ok (.dastore, 1) := by decide +kernel
theorem dJ7_fill_7f8df_16 : decode cJ7_fill_7f8df 16 = .ok (.iinc 3 1, 3) := by decide +kernel
theorem dJ7_fill_7f8df_19 : decode cJ7_fill_7f8df 19 = .ok (.goto (-13), 3) := by decide +kernel
theorem dJ7_fill_7f8df_22 : decode cJ7_fill_7f8df 22 = .ok (.return_, 1) := by decide +kernel
theorem dJ7_copyOf_1904c_0 : decode cJ7_copyOf_1904c 0 = .ok (.aload_n 0, 1) := by decide +kernel
theorem dJ7_copyOf_1904c_1 : decode cJ7_copyOf_1904c 1 = .ok (.iload_n 1, 1) := by decide +kernel
theorem dJ7_copyOf_1904c_2 : decode cJ7_copyOf_1904c 2 = .ok (.aload_n 0, 1) := by decide +kernel
theorem dJ7_copyOf_1904c_3 : decode cJ7_copyOf_1904c 3 = .ok (.invokevirtual 86, 3) := by decide +kernel
theorem dJ7_copyOf_1904c_6 : decode cJ7_copyOf_1904c 6 = .ok (.invokestatic 300, 3) := by decide +kernel
theorem dJ7_copyOf_1904c_9 : decode cJ7_copyOf_1904c 9 = .ok (.areturn, 1) := by decide +kernel
theorem dJ7_copyOf_6403c_0 : decode cJ7_copyOf_6403c 0 = .ok (.aload_n 2, 1) := by decide +kernel
theorem dJ7_copyOf_6403c_1 : decode cJ7_copyOf_6403c 1 = .ok (.ldc 110, 2) := by decide +kernel
theorem dJ7_copyOf_6403c_3 : decode cJ7_copyOf_6403c 3 = .ok (.if_acmp .ne 10, 3) := by decide +kernel
theorem dJ7_copyOf_6403c_6 : decode cJ7_copyOf_6403c 6 = .ok (.iload_n 1, 1) := by decide +kernel
theorem dJ7_copyOf_6403c_7 : decode cJ7_copyOf_6403c 7 = .ok (.anewarray 2, 3) := by decide +kernel
theorem dJ7_copyOf_6403c_10 : decode cJ7_copyOf_6403c 10 = .ok (.goto 14, 3) := by decide +kernel
theorem dJ7_copyOf_6403c_13 : decode cJ7_copyOf_6403c 13 = .ok (.aload_n 2, 1) := by decide +kernel
theorem dJ7_copyOf_6403c_14 : decode cJ7_copyOf_6403c 14 = .ok (.invokevirtual 90, 3) := by decide +kernel
theorem dJ7_copyOf_6403c_17 : decode cJ7_copyOf_6403c 17 = .ok (.iload_n 1, 1) := by decide +kernel
theorem dJ7_copyOf_6403c_18 : decode cJ7_copyOf_6403c 18 = .ok (.invokestatic 95, 3) := by decide +kernel
theorem dJ7_copyOf_6403c_21 : decode cJ7_copyOf_6403c 21 = .ok (.checkcast 110, 3) := by decide +kernel
theorem dJ7_copyOf_6403c_24 : decode cJ7_copyOf_6403c 24 = .ok (.astore_n 3, 1) := by decide +kernel
theorem dJ7_copyOf_6403c_25 : decode cJ7_copyOf_6403c 25 = .ok (.aload_n 0, 1) := by decide +kernel
theorem dJ7_copyOf_6403c_26 : decode cJ7_copyOf_6403c 26 = .ok (.iconst 0, 1) := by decide +kernel
theorem dJ7_copyOf_6403c_27 : decode cJ7_copyOf_6403c 27 = .ok (.aload_n 3, 1) := by decide +kernel
theorem dJ7_copyOf_6403c_28 : decode cJ7_copyOf_6403c 28 = .ok (.iconst 0, 1) := by decide +kernel
theorem dJ7_copyOf_6403c_29 : decode cJ7_copyOf_6403c 29 = .ok (.aload_n 0, 1) := by decide +kernel
theorem dJ7_copyOf_6403c_30 : decode cJ7_copyOf_6403c 30 = .ok (.arraylength, 1) := by decide +kernel
theorem dJ7_copyOf_6403c_31 : decode cJ7_copyOf_6403c 31 = .ok (.iload_n 1, 1) := by decide +kernel
theorem dJ7_copyOf_6403c_32 : decode cJ7_copyOf_6403c 32 = .ok (.invokestatic 304, 3) := by decide +kernel
theorem dJ7_copyOf_6403c_35 : decode cJ7_copyOf_6403c 35 = .ok (.invokestatic 150, 3) := by decide +kernel
theorem dJ7_copyOf_6403c_38 : decode cJ7_copyOf_6403c 38 = .ok (.aload_n 3, 1) := by decide +kernel
theorem dJ7_copyOf_6403c_39 : decode cJ7_copyOf_6403c 39 = .ok (.areturn, 1) := by decide +kernel
theorem dJ15_checkIndex_7cf53_0 : decode cJ15_checkIndex_7cf53 0 = .ok (.iload_n 0, 1) := by decide +kernel
theorem dJ15_checkIndex_7cf53_1 : decode cJ15_checkIndex_7cf53 1 = .ok (.iload_n 1, 1) := by decide +kernel
theorem dJ15_checkIndex_7cf53_2 : decode cJ15_checkIndex_7cf53 2 = .ok (.aconst_null, 1) := by decide +kernel
theorem dJ15_checkIndex_7cf53_3 : decode cJ15_checkIndex_7cf53 3 = .ok (.invokestatic 105, 3) := by decide +kernel
theorem dJ15_checkIndex_7cf53_6 : decode cJ15_checkIndex_7cf53 6 = .ok (.ireturn, 1) := by decide +kernel
theorem dJ8_newLength_cabcc_0 : decode cJ8_newLength_cabcc 0 = .ok (.iload_n 0, 1) := by decide +kernel
theorem dJ8_newLength_cabcc_1 : decode cJ8_newLength_cabcc 1 = .ok (.iload_n 1, 1) := by decide +kernel
theorem dJ8_newLength_cabcc_2 : decode cJ8_newLength_cabcc 2 = .ok (.iload_n 2, 1) := by decide +kernel
theorem dJ8_newLength_cabcc_3 : decode cJ8_newLength_cabcc 3 = .ok (.invokestatic 194, 3) := by decide +kernel
theorem dJ8_newLength_cabcc_6 : decode cJ8_newLength_cabcc 6 = .ok (.iadd, 1) := by decide +kernel
theorem dJ8_newLength_cabcc_7 : decode cJ8_newLength_cabcc 7 = .ok (.istore_n 3, 1) := by decide +kernel
theorem dJ8_newLength_cabcc_8 : decode cJ8_newLength_cabcc 8 = .ok (.iconst 0, 1) := by decide +kernel
theorem dJ8_newLength_cabcc_9 : decode cJ8_newLength_cabcc 9 = .ok (.iload_n 3, 1) := by decide +kernel
theorem dJ8_newLength_cabcc_10 : decode cJ8_newLength_cabcc 10 = .ok (.if_icmp .ge 11, 3) := by decide +kernel
theorem dJ8_newLength_cabcc_13 : decode cJ8_newLength_cabcc 13 = .ok (.iload_n 3, 1) := by decide +kernel
theorem dJ8_newLength_cabcc_14 : decode cJ8_newLength_cabcc 14 = .ok (.ldc 200, 2) := by decide +kernel
theorem dJ8_newLength_cabcc_16 : decode cJ8_newLength_cabcc 16 = .ok (.if_icmp .gt 5, 3) := by decide +kernel
theorem dJ8_newLength_cabcc_19 : decode cJ8_newLength_cabcc 19 = .ok (.iload_n 3, 1) := by decide +kernel
theorem dJ8_newLength_cabcc_20 : decode cJ8_newLength_cabcc 20 = .ok (.ireturn, 1) := by decide +kernel
theorem dJ8_newLength_cabcc_21 : decode cJ8_newLength_cabcc 21 = .ok (.iload_n 0, 1) := by decide +kernel
theorem dJ8_newLength_cabcc_22 : decode cJ8_newLength_cabcc 22 = .ok (.iload_n 1, 1) := by decide +kernel
theorem dJ8_newLength_cabcc_23 : decode cJ8_newLength_cabcc 23 = .ok (.invokestatic 201, 3) := by decide +kernel
theorem dJ8_newLength_cabcc_26 : decode cJ8_newLength_cabcc 26 = .ok (.ireturn, 1) := by decide +kernel
theorem dJ8_hugeLength_7cf53_0 : decode cJ8_hugeLength_7cf53 0 = .ok (.iload_n 0, 1) := by decide +kernel
theorem dJ8_hugeLength_7cf53_1 : decode cJ8_hugeLength_7cf53 1 = .ok (.iload_n 1, 1) := by decide +kernel
theorem dJ8_hugeLength_7cf53_2 : decode cJ8_hugeLength_7cf53 2 = .ok (.iadd, 1) := by decide +kernel
theorem dJ8_hugeLength_7cf53_3 : decode cJ8_hugeLength_7cf53 3 = .ok (.istore_n 2, 1) := by decide +kernel
theorem dJ8_hugeLength_7cf53_4 : decode cJ8_hugeLength_7cf53 4 = .ok (.iload_n 2, 1) := by decide +kernel
theorem dJ8_hugeLength_7cf53_5 : decode cJ8_hugeLength_7cf53 5 = .ok (.ifCond .ge 44, 3) := by decide +kernel
theorem dJ8_hugeLength_7cf53_8 : decode cJ8_hugeLength_7cf53 8 = .ok (.new 204, 3) := by decide +kernel
theorem dJ8_hugeLength_7cf53_11 : decode cJ8_hugeLength_7cf53 11 = .ok (.dup, 1) := by decide +kernel
theorem dJ8_hugeLength_7cf53_12 : decode cJ8_hugeLength_7cf53 12 = .ok (.new 89, 3) := by decide +kernel
theorem dJ8_hugeLength_7cf53_15 : decode cJ8_hugeLength_7cf53 15 = .ok (.dup, 1) := by decide +kernel
theorem dJ8_hugeLength_7cf53_16 : decode cJ8_hugeLength_7cf53 16 = .ok (.invokespecial 91, 3) := by decide +kernel
theorem dJ8_hugeLength_7cf53_19 : decode cJ8_hugeLength_7cf53 19 = .ok (.ldc 206, 2) := by decide +kernel
theorem dJ8_hugeLength_7cf53_21 : decode cJ8_hugeLength_7cf53 21 = .ok (.invokevirtual 94, 3) := by decide +kernel
theorem dJ8_hugeLength_7cf53_24 : decode cJ8_hugeLength_7cf53 24 = .ok (.iload_n 0, 1) := by decide +kernel
theorem dJ8_hugeLength_7cf53_25 : decode cJ8_hugeLength_7cf53 25 = .ok (.invokevirtual 98, 3) := by decide +kernel
theorem dJ8_hugeLength_7cf53_28 : decode cJ8_hugeLength_7cf53 28 = .ok (.ldc 208, 2) := by decide +kernel
theorem dJ8_hugeLength_7cf53_30 : decode cJ8_hugeLength_7cf53 30 = .ok (.invokevirtual 94, 3) := by decide +kernel
theorem dJ8_hugeLength_7cf53_33 : decode cJ8_hugeLength_7cf53 33 = .ok (.iload_n 1, 1) := by decide +kernel
theorem dJ8_hugeLength_7cf53_34 : decode cJ8_hugeLength_7cf53 34 = .ok (.invokevirtual 98, 3) := by decide +kernel
theorem dJ8_hugeLength_7cf53_37 : decode cJ8_hugeLength_7cf53 37 = .ok (.ldc 210, 2) := by decide +kernel
theorem dJ8_hugeLength_7cf53_39 : decode cJ8_hugeLength_7cf53 39 = .ok (.invokevirtual 94, 3) := by decide +kernel
theorem dJ8_hugeLength_7cf53_42 : decode cJ8_hugeLength_7cf53 42 = .ok (.invokevirtual 101, 3) := by decide +kernel
theorem dJ8_hugeLength_7cf53_45 : decode cJ8_hugeLength_7cf53 45 = .ok (.invokespecial 212, 3) := by decide +kernel
theorem dJ8_hugeLength_7cf53_48 : decode cJ8_hugeLength_7cf53 48 = .ok (.athrow, 1) := by decide +kernel
theorem dJ8_hugeLength_7cf53_49 : decode cJ8_hugeLength_7cf53 49 = .ok (.iload_n 2, 1) := by decide +kernel
theorem dJ8_hugeLength_7cf53_50 : decode cJ8_hugeLength_7cf53 50 = .ok (.ldc 200, 2) := by decide +kernel
theorem dJ8_hugeLength_7cf53_52 : decode cJ8_hugeLength_7cf53 52 = .ok (.if_icmp .gt 6, 3) := by decide +kernel
theorem dJ8_hugeLength_7cf53_55 : decode cJ8_hugeLength_7cf53 55 = .ok (.ldc 200, 2) := by decide +kernel
theorem dJ8_hugeLength_7cf53_57 : decode cJ8_hugeLength_7cf53 57 = .ok (.ireturn, 1) := by decide +kernel
theorem dJ8_hugeLength_7cf53_58 : decode cJ8_hugeLength_7cf53 58 = .ok (.iload_n 2, 1) := by decide +kernel
theorem dJ8_hugeLength_7cf53_59 : decode cJ8_hugeLength_7cf53 59 = .ok (.ireturn, 1) := by decide +kernel
theorem dJ3_checkIndex_8e157_0 : decode cJ3_checkIndex_8e157 0 = .ok (.iload_n 0, 1) := by decide +kernel
theorem dJ3_checkIndex_8e157_1 : decode cJ3_checkIndex_8e157 1 = .ok (.ifCond .lt 8, 3) := by decide +kernel
theorem dJ3_checkIndex_8e157_4 : decode cJ3_checkIndex_8e157 4 = .ok (.iload_n 0, 1) := by decide +kernel
theorem dJ3_checkIndex_8e157_5 : decode cJ3_checkIndex_8e157 5 = .ok (.iload_n 1, 1) := by decide +kernel
theorem dJ3_checkIndex_8e157_6 : decode cJ3_checkIndex_8e157 6 = .ok (.if_icmp .lt 10, 3) := by decide +kernel
theorem dJ3_checkIndex_8e157_9 : decode cJ3_checkIndex_8e157 9 = .ok (.aload_n 2, 1) := by decide +kernel
theorem dJ3_checkIndex_8e157_10 : decode cJ3_checkIndex_8e157 10 = .ok (.iload_n 0, 1) := by decide +kernel
theorem dJ3_checkIndex_8e157_11 : decode cJ3_checkIndex_8e157 11 = .ok (.iload_n 1, 1) := by decide +kernel
theorem dJ3_checkIndex_8e157_12 : decode cJ3_checkIndex_8e157 12 = .ok (.invokestatic 95, 3) := by decide +kernel
theorem dJ3_checkIndex_8e157_15 : decode cJ3_checkIndex_8e157 15 = .ok (.athrow, 1) := by decide +kernel
theorem dJ3_checkIndex_8e157_16 : decode cJ3_checkIndex_8e157 16 = .ok (.iload_n 0, 1) := by decide +kernel
theorem dJ3_checkIndex_8e157_17 : decode cJ3_checkIndex_8e157 17 = .ok (.ireturn, 1) := by decide +kernel
theorem dL_star_0 : decode cL_star 0 = .ok (.aload_n 2, 1) := by decide +kernel
theorem dL_star_1 : decode cL_star 1 = .ok (.iconst 0, 1) := by decide +kernel
theorem dL_star_2 : decode cL_star 2 = .ok (.aload_n 0, 1) := by decide +kernel
theorem dL_star_3 : decode cL_star 3 = .ok (.iload_n 1, 1) := by decide +kernel
theorem dL_star_4 : decode cL_star 4 = .ok (.invokevirtual 7, 3) := by decide +kernel
theorem dL_star_7 : decode cL_star 7 = .ok (.i2l, 1) := by decide +kernel
theorem dL_star_8 : decode cL_star 8 = .ok (.lastore, 1) := by decide +kernel
theorem dL_star_9 : decode cL_star 9 = .ok (.goto 9, 3) := by decide +kernel
theorem dL_star_12 : decode cL_star 12 = .ok (.astore_n 3, 1) := by decide +kernel
theorem dL_star_13 : decode cL_star 13 = .ok (.iconst 1, 1) := by decide +kernel
theorem dL_star_14 : decode cL_star 14 = .ok (.ireturn, 1) := by decide +kernel
theorem dL_star_15 : decode cL_star 15 = .ok (.astore_n 3, 1) := by decide +kernel
theorem dL_star_16 : decode cL_star 16 = .ok (.iconst 2, 1) := by decide +kernel
theorem dL_star_17 : decode cL_star 17 = .ok (.ireturn, 1) := by decide +kernel
theorem dL_star_18 : decode cL_star 18 = .ok (.iconst 0, 1) := by decide +kernel
theorem dL_star_19 : decode cL_star 19 = .ok (.ireturn, 1) := by decide +kernel
theorem dL_planet_0 : decode cL_planet 0 = .ok (.aload 6, 2) := by decide +kernel
theorem dL_planet_2 : decode cL_planet 2 = .ok (.iconst 0, 1) := by decide +kernel
theorem dL_planet_3 : decode cL_planet 3 = .ok (.aload_n 0, 1) := by decide +kernel
theorem dL_planet_4 : decode cL_planet 4 = .ok (.iload_n 1, 1) := by decide +kernel
theorem dL_planet_5 : decode cL_planet 5 = .ok (.iload_n 2, 1) := by decide +kernel
theorem dL_planet_6 : decode cL_planet 6 = .ok (.iload_n 3, 1) := by decide +kernel
theorem dL_planet_7 : decode cL_planet 7 = .ok (.iload 4, 2) := by decide +kernel
theorem dL_planet_9 : decode cL_planet 9 = .ok (.iload 5, 2) := by decide +kernel
theorem dL_planet_11 : decode cL_planet 11 = .ok (.invokevirtual 17, 3) := by decide +kernel
theorem dL_planet_14 : decode cL_planet 14 = .ok (.i2l, 1) := by decide +kernel
theorem dL_planet_15 : decode cL_planet 15 = .ok (.lastore, 1) := by decide +kernel
theorem dL_planet_16 : decode cL_planet 16 = .ok (.goto 15, 3) := by decide +kernel
theorem dL_planet_19 : decode cL_planet 19 = .ok (.astore 7, 2) := by decide +kernel
theorem dL_planet_21 : decode cL_planet 21 = .ok (.iconst 1, 1) := by decide +kernel
theorem dL_planet_22 : decode cL_planet 22 = .ok (.ireturn, 1) := by decide +kernel
theorem dL_planet_23 : decode cL_planet 23 = .ok (.astore 7, 2) := by decide +kernel
theorem dL_planet_25 : decode cL_planet 25 = .ok (.iconst 2, 1) := by decide +kernel
theorem dL_planet_26 : decode cL_planet 26 = .ok (.ireturn, 1) := by decide +kernel
theorem dL_planet_27 : decode cL_planet 27 = .ok (.astore 7, 2) := by decide +kernel
theorem dL_planet_29 : decode cL_planet 29 = .ok (.iconst 3, 1) := by decide +kernel
theorem dL_planet_30 : decode cL_planet 30 = .ok (.ireturn, 1) := by decide +kernel
theorem dL_planet_31 : decode cL_planet 31 = .ok (.iconst 0, 1) := by decide +kernel
theorem dL_planet_32 : decode cL_planet 32 = .ok (.ireturn, 1) := by decide +kernel
theorem dL_spots_0 : decode cL_spots 0 = .ok (.aload 4, 2) := by decide +kernel
theorem dL_spots_2 : decode cL_spots 2 = .ok (.iconst 0, 1) := by decide +kernel
theorem dL_spots_3 : decode cL_spots 3 = .ok (.aload_n 0, 1) := by decide +kernel
theorem dL_spots_4 : decode cL_spots 4 = .ok (.iload_n 1, 1) := by decide +kernel
theorem dL_spots_5 : decode cL_spots 5 = .ok (.iload_n 2, 1) := by decide +kernel
theorem dL_spots_6 : decode cL_spots 6 = .ok (.iload_n 3, 1) := by decide +kernel
theorem dL_spots_7 : decode cL_spots 7 = .ok (.invokevirtual 23, 3) := by decide +kernel
theorem dL_spots_10 : decode cL_spots 10 = .ok (.i2l, 1) := by decide +kernel
theorem dL_spots_11 : decode cL_spots 11 = .ok (.lastore, 1) := by decide +kernel
theorem dL_spots_12 : decode cL_spots 12 = .ok (.goto 11, 3) := by decide +kernel
theorem dL_spots_15 : decode cL_spots 15 = .ok (.astore 5, 2) := by decide +kernel
theorem dL_spots_17 : decode cL_spots 17 = .ok (.iconst 1, 1) := by decide +kernel
theorem dL_spots_18 : decode cL_spots 18 = .ok (.ireturn, 1) := by decide +kernel
theorem dL_spots_19 : decode cL_spots 19 = .ok (.astore 5, 2) := by decide +kernel
theorem dL_spots_21 : decode cL_spots 21 = .ok (.iconst 2, 1) := by decide +kernel
theorem dL_spots_22 : decode cL_spots 22 = .ok (.ireturn, 1) := by decide +kernel
theorem dL_spots_23 : decode cL_spots 23 = .ok (.iconst 0, 1) := by decide +kernel
theorem dL_spots_24 : decode cL_spots 24 = .ok (.ireturn, 1) := by decide +kernel
theorem dL_blend_0 : decode cL_blend 0 = .ok (.aload_n 3, 1) := by decide +kernel
theorem dL_blend_1 : decode cL_blend 1 = .ok (.iconst 0, 1) := by decide +kernel
theorem dL_blend_2 : decode cL_blend 2 = .ok (.aload_n 0, 1) := by decide +kernel
theorem dL_blend_3 : decode cL_blend 3 = .ok (.iload_n 1, 1) := by decide +kernel
theorem dL_blend_4 : decode cL_blend 4 = .ok (.iload_n 2, 1) := by decide +kernel
theorem dL_blend_5 : decode cL_blend 5 = .ok (.invokevirtual 27, 3) := by decide +kernel
theorem dL_blend_8 : decode cL_blend 8 = .ok (.i2l, 1) := by decide +kernel
theorem dL_blend_9 : decode cL_blend 9 = .ok (.lastore, 1) := by decide +kernel
theorem dL_blend_10 : decode cL_blend 10 = .ok (.goto 11, 3) := by decide +kernel
theorem dL_blend_13 : decode cL_blend 13 = .ok (.astore 4, 2) := by decide +kernel
theorem dL_blend_15 : decode cL_blend 15 = .ok (.iconst 1, 1) := by decide +kernel
theorem dL_blend_16 : decode cL_blend 16 = .ok (.ireturn, 1) := by decide +kernel
theorem dL_blend_17 : decode cL_blend 17 = .ok (.astore 4, 2) := by decide +kernel
theorem dL_blend_19 : decode cL_blend 19 = .ok (.iconst 2, 1) := by decide +kernel
theorem dL_blend_20 : decode cL_blend 20 = .ok (.ireturn, 1) := by decide +kernel
theorem dL_blend_21 : decode cL_blend 21 = .ok (.iconst 0, 1) := by decide +kernel
theorem dL_blend_22 : decode cL_blend 22 = .ok (.ireturn, 1) := by decide +kernel
theorem dL_light_0 : decode cL_light 0 = .ok (.aload_n 3, 1) := by decide +kernel
theorem dL_light_1 : decode cL_light 1 = .ok (.iconst 0, 1) := by decide +kernel
theorem dL_light_2 : decode cL_light 2 = .ok (.aload_n 0, 1) := by decide +kernel
theorem dL_light_3 : decode cL_light 3 = .ok (.iload_n 1, 1) := by decide +kernel
theorem dL_light_4 : decode cL_light 4 = .ok (.iload_n 2, 1) := by decide +kernel
theorem dL_light_5 : decode cL_light 5 = .ok (.invokevirtual 31, 3) := by decide +kernel
theorem dL_light_8 : decode cL_light 8 = .ok (.lastore, 1) := by decide +kernel
theorem dL_light_9 : decode cL_light 9 = .ok (.goto 7, 3) := by decide +kernel
theorem dL_light_12 : decode cL_light 12 = .ok (.astore 4, 2) := by decide +kernel
theorem dL_light_14 : decode cL_light 14 = .ok (.iconst 1, 1) := by decide +kernel
theorem dL_light_15 : decode cL_light 15 = .ok (.ireturn, 1) := by decide +kernel
theorem dL_light_16 : decode cL_light 16 = .ok (.iconst 0, 1) := by decide +kernel
theorem dL_light_17 : decode cL_light 17 = .ok (.ireturn, 1) := by decide +kernel
theorem dL_cloud_0 : decode cL_cloud 0 = .ok (.aload_n 3, 1) := by decide +kernel
theorem dL_cloud_1 : decode cL_cloud 1 = .ok (.iconst 0, 1) := by decide +kernel
theorem dL_cloud_2 : decode cL_cloud 2 = .ok (.aload_n 0, 1) := by decide +kernel
theorem dL_cloud_3 : decode cL_cloud 3 = .ok (.iload_n 1, 1) := by decide +kernel
theorem dL_cloud_4 : decode cL_cloud 4 = .ok (.iload_n 2, 1) := by decide +kernel
theorem dL_cloud_5 : decode cL_cloud 5 = .ok (.invokevirtual 35, 3) := by decide +kernel
theorem dL_cloud_8 : decode cL_cloud 8 = .ok (.i2l, 1) := by decide +kernel
theorem dL_cloud_9 : decode cL_cloud 9 = .ok (.lastore, 1) := by decide +kernel
theorem dL_cloud_10 : decode cL_cloud 10 = .ok (.goto 11, 3) := by decide +kernel
theorem dL_cloud_13 : decode cL_cloud 13 = .ok (.astore 4, 2) := by decide +kernel
theorem dL_cloud_15 : decode cL_cloud 15 = .ok (.iconst 1, 1) := by decide +kernel
theorem dL_cloud_16 : decode cL_cloud 16 = .ok (.ireturn, 1) := by decide +kernel
theorem dL_cloud_17 : decode cL_cloud 17 = .ok (.astore 4, 2) := by decide +kernel
theorem dL_cloud_19 : decode cL_cloud 19 = .ok (.iconst 2, 1) := by decide +kernel
theorem dL_cloud_20 : decode cL_cloud 20 = .ok (.ireturn, 1) := by decide +kernel
theorem dL_cloud_21 : decode cL_cloud 21 = .ok (.iconst 0, 1) := by decide +kernel
theorem dL_cloud_22 : decode cL_cloud 22 = .ok (.ireturn, 1) := by decide +kernel
theorem dL_observe_0 : decode cL_observe 0 = .ok (.aload 4, 2) := by decide +kernel
theorem dL_observe_2 : decode cL_observe 2 = .ok (.iconst 0, 1) := by decide +kernel
theorem dL_observe_3 : decode cL_observe 3 = .ok (.aload_n 0, 1) := by decide +kernel
theorem dL_observe_4 : decode cL_observe 4 = .ok (.iload_n 1, 1) := by decide +kernel
theorem dL_observe_5 : decode cL_observe 5 = .ok (.iload_n 2, 1) := by decide +kernel
theorem dL_observe_6 : decode cL_observe 6 = .ok (.iload_n 3, 1) := by decide +kernel
theorem dL_observe_7 : decode cL_observe 7 = .ok (.invokevirtual 38, 3) := by decide +kernel
theorem dL_observe_10 : decode cL_observe 10 = .ok (.i2l, 1) := by decide +kernel
theorem dL_observe_11 : decode cL_observe 11 = .ok (.lastore, 1) := by decide +kernel
theorem dL_observe_12 : decode cL_observe 12 = .ok (.goto 11, 3) := by decide +kernel
theorem dL_observe_15 : decode cL_observe 15 = .ok (.astore 5, 2) := by decide +kernel
theorem dL_observe_17 : decode cL_observe 17 = .ok (.iconst 1, 1) := by decide +kernel
theorem dL_observe_18 : decode cL_observe 18 = .ok (.ireturn, 1) := by decide +kernel
theorem dL_observe_19 : decode cL_observe 19 = .ok (.astore 5, 2) := by decide +kernel
theorem dL_observe_21 : decode cL_observe 21 = .ok (.iconst 2, 1) := by decide +kernel
theorem dL_observe_22 : decode cL_observe 22 = .ok (.ireturn, 1) := by decide +kernel
theorem dL_observe_23 : decode cL_observe 23 = .ok (.iconst 0, 1) := by decide +kernel
theorem dL_observe_24 : decode cL_observe 24 = .ok (.ireturn, 1) := by decide +kernel
theorem dL_kept_0 : decode cL_kept 0 = .ok (.aload_n 3, 1) := by decide +kernel
theorem dL_kept_1 : decode cL_kept 1 = .ok (.iconst 0, 1) := by decide +kernel
theorem dL_kept_2 : decode cL_kept 2 = .ok (.aload_n 0, 1) := by decide +kernel
theorem dL_kept_3 : decode cL_kept 3 = .ok (.iload_n 1, 1) := by decide +kernel
theorem dL_kept_4 : decode cL_kept 4 = .ok (.iload_n 2, 1) := by decide +kernel
theorem dL_kept_5 : decode cL_kept 5 = .ok (.invokevirtual 41, 3) := by decide +kernel
theorem dL_kept_8 : decode cL_kept 8 = .ok (.lastore, 1) := by decide +kernel
theorem dL_kept_9 : decode cL_kept 9 = .ok (.goto 7, 3) := by decide +kernel
theorem dL_kept_12 : decode cL_kept 12 = .ok (.astore 4, 2) := by decide +kernel
theorem dL_kept_14 : decode cL_kept 14 = .ok (.iconst 1, 1) := by decide +kernel
theorem dL_kept_15 : decode cL_kept 15 = .ok (.ireturn, 1) := by decide +kernel
theorem dL_kept_16 : decode cL_kept 16 = .ok (.iconst 0, 1) := by decide +kernel
theorem dL_kept_17 : decode cL_kept 17 = .ok (.ireturn, 1) := by decide +kernel
theorem dL_score_0 : decode cL_score 0 = .ok (.aload_n 3, 1) := by decide +kernel
theorem dL_score_1 : decode cL_score 1 = .ok (.iconst 0, 1) := by decide +kernel
theorem dL_score_2 : decode cL_score 2 = .ok (.aload_n 0, 1) := by decide +kernel
theorem dL_score_3 : decode cL_score 3 = .ok (.iload_n 1, 1) := by decide +kernel
theorem dL_score_4 : decode cL_score 4 = .ok (.iload_n 2, 1) := by decide +kernel
theorem dL_score_5 : decode cL_score 5 = .ok (.invokevirtual 44, 3) := by decide +kernel
theorem dL_score_8 : decode cL_score 8 = .ok (.lastore, 1) := by decide +kernel
theorem dL_score_9 : decode cL_score 9 = .ok (.goto 15, 3) := by decide +kernel
theorem dL_score_12 : decode cL_score 12 = .ok (.astore 4, 2) := by decide +kernel
theorem dL_score_14 : decode cL_score 14 = .ok (.iconst 1, 1) := by decide +kernel
theorem dL_score_15 : decode cL_score 15 = .ok (.ireturn, 1) := by decide +kernel
theorem dL_score_16 : decode cL_score 16 = .ok (.astore 4, 2) := by decide +kernel
theorem dL_score_18 : decode cL_score 18 = .ok (.iconst 2, 1) := by decide +kernel
theorem dL_score_19 : decode cL_score 19 = .ok (.ireturn, 1) := by decide +kernel
theorem dL_score_20 : decode cL_score 20 = .ok (.astore 4, 2) := by decide +kernel
theorem dL_score_22 : decode cL_score 22 = .ok (.iconst 3, 1) := by decide +kernel
theorem dL_score_23 : decode cL_score 23 = .ok (.ireturn, 1) := by decide +kernel
theorem dL_score_24 : decode cL_score 24 = .ok (.iconst 0, 1) := by decide +kernel
theorem dL_score_25 : decode cL_score 25 = .ok (.ireturn, 1) := by decide +kernel
theorem dL_phase_0 : decode cL_phase 0 = .ok (.aload_n 3, 1) := by decide +kernel
theorem dL_phase_1 : decode cL_phase 1 = .ok (.iconst 0, 1) := by decide +kernel
theorem dL_phase_2 : decode cL_phase 2 = .ok (.aload_n 0, 1) := by decide +kernel
theorem dL_phase_3 : decode cL_phase 3 = .ok (.iload_n 1, 1) := by decide +kernel
theorem dL_phase_4 : decode cL_phase 4 = .ok (.iload_n 2, 1) := by decide +kernel
theorem dL_phase_5 : decode cL_phase 5 = .ok (.invokevirtual 47, 3) := by decide +kernel
theorem dL_phase_8 : decode cL_phase 8 = .ok (.i2l, 1) := by decide +kernel
theorem dL_phase_9 : decode cL_phase 9 = .ok (.lastore, 1) := by decide +kernel
theorem dL_phase_10 : decode cL_phase 10 = .ok (.goto 15, 3) := by decide +kernel
theorem dL_phase_13 : decode cL_phase 13 = .ok (.astore 4, 2) := by decide +kernel
theorem dL_phase_15 : decode cL_phase 15 = .ok (.iconst 1, 1) := by decide +kernel
theorem dL_phase_16 : decode cL_phase 16 = .ok (.ireturn, 1) := by decide +kernel
theorem dL_phase_17 : decode cL_phase 17 = .ok (.astore 4, 2) := by decide +kernel
theorem dL_phase_19 : decode cL_phase 19 = .ok (.iconst 2, 1) := by decide +kernel
theorem dL_phase_20 : decode cL_phase 20 = .ok (.ireturn, 1) := by decide +kernel
theorem dL_phase_21 : decode cL_phase 21 = .ok (.astore 4, 2) := by decide +kernel
theorem dL_phase_23 : decode cL_phase 23 = .ok (.iconst 3, 1) := by decide +kernel
theorem dL_phase_24 : decode cL_phase 24 = .ok (.ireturn, 1) := by decide +kernel
theorem dL_phase_25 : decode cL_phase 25 = .ok (.iconst 0, 1) := by decide +kernel
theorem dL_phase_26 : decode cL_phase 26 = .ok (.ireturn, 1) := by decide +kernel
theorem dL_period_0 : decode cL_period 0 = .ok (.aload_n 3, 1) := by decide +kernel
theorem dL_period_1 : decode cL_period 1 = .ok (.iconst 0, 1) := by decide +kernel
theorem dL_period_2 : decode cL_period 2 = .ok (.aload_n 0, 1) := by decide +kernel
theorem dL_period_3 : decode cL_period 3 = .ok (.iload_n 1, 1) := by decide +kernel
theorem dL_period_4 : decode cL_period 4 = .ok (.iload_n 2, 1) := by decide +kernel
theorem dL_period_5 : decode cL_period 5 = .ok (.invokevirtual 50, 3) := by decide +kernel
theorem dL_period_8 : decode cL_period 8 = .ok (.i2l, 1) := by decide +kernel
theorem dL_period_9 : decode cL_period 9 = .ok (.lastore, 1) := by decide +kernel
theorem dL_period_10 : decode cL_period 10 = .ok (.goto 15, 3) := by decide +kernel
theorem dL_period_13 : decode cL_period 13 = .ok (.astore 4, 2) := by decide +kernel
theorem dL_period_15 : decode cL_period 15 = .ok (.iconst 1, 1) := by decide +kernel
theorem dL_period_16 : decode cL_period 16 = .ok (.ireturn, 1) := by decide +kernel
theorem dL_period_17 : decode cL_period 17 = .ok (.astore 4, 2) := by decide +kernel
theorem dL_period_19 : decode cL_period 19 = .ok (.iconst 2, 1) := by decide +kernel
theorem dL_period_20 : decode cL_period 20 = .ok (.ireturn, 1) := by decide +kernel
theorem dL_period_21 : decode cL_period 21 = .ok (.astore 4, 2) := by decide +kernel
theorem dL_period_23 : decode cL_period 23 = .ok (.iconst 3, 1) := by decide +kernel
theorem dL_period_24 : decode cL_period 24 = .ok (.ireturn, 1) := by decide +kernel
theorem dL_period_25 : decode cL_period 25 = .ok (.iconst 0, 1) := by decide +kernel
theorem dL_period_26 : decode cL_period 26 = .ok (.ireturn, 1) := by decide +kernel
theorem dL_whyNot_0 : decode cL_whyNot 0 = .ok (.aload_n 3, 1) := by decide +kernel
theorem dL_whyNot_1 : decode cL_whyNot 1 = .ok (.iconst 0, 1) := by decide +kernel
theorem dL_whyNot_2 : decode cL_whyNot 2 = .ok (.aload_n 0, 1) := by decide +kernel
theorem dL_whyNot_3 : decode cL_whyNot 3 = .ok (.iload_n 1, 1) := by decide +kernel
theorem dL_whyNot_4 : decode cL_whyNot 4 = .ok (.iload_n 2, 1) := by decide +kernel
theorem dL_whyNot_5 : decode cL_whyNot 5 = .ok (.invokevirtual 53, 3) := by decide +kernel
theorem dL_whyNot_8 : decode cL_whyNot 8 = .ok (.i2l, 1) := by decide +kernel
theorem dL_whyNot_9 : decode cL_whyNot 9 = .ok (.lastore, 1) := by decide +kernel
theorem dL_whyNot_10 : decode cL_whyNot 10 = .ok (.goto 11, 3) := by decide +kernel
theorem dL_whyNot_13 : decode cL_whyNot 13 = .ok (.astore 4, 2) := by decide +kernel
theorem dL_whyNot_15 : decode cL_whyNot 15 = .ok (.iconst 1, 1) := by decide +kernel
theorem dL_whyNot_16 : decode cL_whyNot 16 = .ok (.ireturn, 1) := by decide +kernel
theorem dL_whyNot_17 : decode cL_whyNot 17 = .ok (.astore 4, 2) := by decide +kernel
theorem dL_whyNot_19 : decode cL_whyNot 19 = .ok (.iconst 2, 1) := by decide +kernel
theorem dL_whyNot_20 : decode cL_whyNot 20 = .ok (.ireturn, 1) := by decide +kernel
theorem dL_whyNot_21 : decode cL_whyNot 21 = .ok (.iconst 0, 1) := by decide +kernel
theorem dL_whyNot_22 : decode cL_whyNot 22 = .ok (.ireturn, 1) := by decide +kernel
theorem dL_oddEven_0 : decode cL_oddEven 0 = .ok (.aload_n 3, 1) := by decide +kernel
theorem dL_oddEven_1 : decode cL_oddEven 1 = .ok (.iconst 0, 1) := by decide +kernel
theorem dL_oddEven_2 : decode cL_oddEven 2 = .ok (.aload_n 0, 1) := by decide +kernel
theorem dL_oddEven_3 : decode cL_oddEven 3 = .ok (.iload_n 1, 1) := by decide +kernel
theorem dL_oddEven_4 : decode cL_oddEven 4 = .ok (.iload_n 2, 1) := by decide +kernel
theorem dL_oddEven_5 : decode cL_oddEven 5 = .ok (.invokevirtual 56, 3) := by decide +kernel
theorem dL_oddEven_8 : decode cL_oddEven 8 = .ok (.lastore, 1) := by decide +kernel
theorem dL_oddEven_9 : decode cL_oddEven 9 = .ok (.goto 15, 3) := by decide +kernel
theorem dL_oddEven_12 : decode cL_oddEven 12 = .ok (.astore 4, 2) := by decide +kernel
theorem dL_oddEven_14 : decode cL_oddEven 14 = .ok (.iconst 1, 1) := by decide +kernel
theorem dL_oddEven_15 : decode cL_oddEven 15 = .ok (.ireturn, 1) := by decide +kernel
theorem dL_oddEven_16 : decode cL_oddEven 16 = .ok (.astore 4, 2) := by decide +kernel
theorem dL_oddEven_18 : decode cL_oddEven 18 = .ok (.iconst 2, 1) := by decide +kernel
theorem dL_oddEven_19 : decode cL_oddEven 19 = .ok (.ireturn, 1) := by decide +kernel
theorem dL_oddEven_20 : decode cL_oddEven 20 = .ok (.astore 4, 2) := by decide +kernel
theorem dL_oddEven_22 : decode cL_oddEven 22 = .ok (.iconst 3, 1) := by decide +kernel
theorem dL_oddEven_23 : decode cL_oddEven 23 = .ok (.ireturn, 1) := by decide +kernel
theorem dL_oddEven_24 : decode cL_oddEven 24 = .ok (.iconst 0, 1) := by decide +kernel
theorem dL_oddEven_25 : decode cL_oddEven 25 = .ok (.ireturn, 1) := by decide +kernel
theorem dL_world_0 : decode cL_world 0 = .ok (.aload_n 3, 1) := by decide +kernel
theorem dL_world_1 : decode cL_world 1 = .ok (.iconst 0, 1) := by decide +kernel
theorem dL_world_2 : decode cL_world 2 = .ok (.aload_n 0, 1) := by decide +kernel
theorem dL_world_3 : decode cL_world 3 = .ok (.iload_n 1, 1) := by decide +kernel
theorem dL_world_4 : decode cL_world 4 = .ok (.iload_n 2, 1) := by decide +kernel
theorem dL_world_5 : decode cL_world 5 = .ok (.invokevirtual 59, 3) := by decide +kernel
theorem dL_world_8 : decode cL_world 8 = .ok (.i2l, 1) := by decide +kernel
theorem dL_world_9 : decode cL_world 9 = .ok (.lastore, 1) := by decide +kernel
theorem dL_world_10 : decode cL_world 10 = .ok (.goto 15, 3) := by decide +kernel
theorem dL_world_13 : decode cL_world 13 = .ok (.astore 4, 2) := by decide +kernel
theorem dL_world_15 : decode cL_world 15 = .ok (.iconst 1, 1) := by decide +kernel
theorem dL_world_16 : decode cL_world 16 = .ok (.ireturn, 1) := by decide +kernel
theorem dL_world_17 : decode cL_world 17 = .ok (.astore 4, 2) := by decide +kernel
theorem dL_world_19 : decode cL_world 19 = .ok (.iconst 2, 1) := by decide +kernel
theorem dL_world_20 : decode cL_world 20 = .ok (.ireturn, 1) := by decide +kernel
theorem dL_world_21 : decode cL_world 21 = .ok (.astore 4, 2) := by decide +kernel
theorem dL_world_23 : decode cL_world 23 = .ok (.iconst 3, 1) := by decide +kernel
theorem dL_world_24 : decode cL_world 24 = .ok (.ireturn, 1) := by decide +kernel
theorem dL_world_25 : decode cL_world 25 = .ok (.iconst 0, 1) := by decide +kernel
theorem dL_world_26 : decode cL_world 26 = .ok (.ireturn, 1) := by decide +kernel
theorem dL_about_0 : decode cL_about 0 = .ok (.aload_n 3, 1) := by decide +kernel
theorem dL_about_1 : decode cL_about 1 = .ok (.iconst 0, 1) := by decide +kernel
theorem dL_about_2 : decode cL_about 2 = .ok (.aload_n 0, 1) := by decide +kernel
theorem dL_about_3 : decode cL_about 3 = .ok (.iload_n 1, 1) := by decide +kernel
theorem dL_about_4 : decode cL_about 4 = .ok (.iload_n 2, 1) := by decide +kernel
theorem dL_about_5 : decode cL_about 5 = .ok (.invokevirtual 62, 3) := by decide +kernel
theorem dL_about_8 : decode cL_about 8 = .ok (.i2l, 1) := by decide +kernel
theorem dL_about_9 : decode cL_about 9 = .ok (.lastore, 1) := by decide +kernel
theorem dL_about_10 : decode cL_about 10 = .ok (.goto 11, 3) := by decide +kernel
theorem dL_about_13 : decode cL_about 13 = .ok (.astore 4, 2) := by decide +kernel
theorem dL_about_15 : decode cL_about 15 = .ok (.iconst 1, 1) := by decide +kernel
theorem dL_about_16 : decode cL_about 16 = .ok (.ireturn, 1) := by decide +kernel
theorem dL_about_17 : decode cL_about 17 = .ok (.astore 4, 2) := by decide +kernel
theorem dL_about_19 : decode cL_about 19 = .ok (.iconst 2, 1) := by decide +kernel
theorem dL_about_20 : decode cL_about 20 = .ok (.ireturn, 1) := by decide +kernel
theorem dL_about_21 : decode cL_about 21 = .ok (.iconst 0, 1) := by decide +kernel
theorem dL_about_22 : decode cL_about 22 = .ok (.ireturn, 1) := by decide +kernel
theorem dL_periodAnew_0 : decode cL_periodAnew 0 = .ok (.aload_n 2, 1) := by decide +kernel
theorem dL_periodAnew_1 : decode cL_periodAnew 1 = .ok (.iconst 0, 1) := by decide +kernel
theorem dL_periodAnew_2 : decode cL_periodAnew 2 = .ok (.aload_n 0, 1) := by decide +kernel
theorem dL_periodAnew_3 : decode cL_periodAnew 3 = .ok (.iload_n 1, 1) := by decide +kernel
theorem dL_periodAnew_4 : decode cL_periodAnew 4 = .ok (.invokevirtual 65, 3) := by decide +kernel
theorem dL_periodAnew_7 : decode cL_periodAnew 7 = .ok (.i2l, 1) := by decide +kernel
theorem dL_periodAnew_8 : decode cL_periodAnew 8 = .ok (.lastore, 1) := by decide +kernel
theorem dL_periodAnew_9 : decode cL_periodAnew 9 = .ok (.goto 6, 3) := by decide +kernel
theorem dL_periodAnew_12 : decode cL_periodAnew 12 = .ok (.astore_n 3, 1) := by decide +kernel
theorem dL_periodAnew_13 : decode cL_periodAnew 13 = .ok (.iconst 1, 1) := by decide +kernel
theorem dL_periodAnew_14 : decode cL_periodAnew 14 = .ok (.ireturn, 1) := by decide +kernel
theorem dL_periodAnew_15 : decode cL_periodAnew 15 = .ok (.iconst 0, 1) := by decide +kernel
theorem dL_periodAnew_16 : decode cL_periodAnew 16 = .ok (.ireturn, 1) := by decide +kernel
theorem dL_paper_0 : decode cL_paper 0 = .ok (.aload_n 3, 1) := by decide +kernel
theorem dL_paper_1 : decode cL_paper 1 = .ok (.iconst 0, 1) := by decide +kernel
theorem dL_paper_2 : decode cL_paper 2 = .ok (.aload_n 0, 1) := by decide +kernel
theorem dL_paper_3 : decode cL_paper 3 = .ok (.iload_n 1, 1) := by decide +kernel
theorem dL_paper_4 : decode cL_paper 4 = .ok (.iload_n 2, 1) := by decide +kernel
theorem dL_paper_5 : decode cL_paper 5 = .ok (.invokevirtual 68, 3) := by decide +kernel
theorem dL_paper_8 : decode cL_paper 8 = .ok (.i2l, 1) := by decide +kernel
theorem dL_paper_9 : decode cL_paper 9 = .ok (.lastore, 1) := by decide +kernel
theorem dL_paper_10 : decode cL_paper 10 = .ok (.goto 11, 3) := by decide +kernel
theorem dL_paper_13 : decode cL_paper 13 = .ok (.astore 4, 2) := by decide +kernel
theorem dL_paper_15 : decode cL_paper 15 = .ok (.iconst 1, 1) := by decide +kernel
theorem dL_paper_16 : decode cL_paper 16 = .ok (.ireturn, 1) := by decide +kernel
theorem dL_paper_17 : decode cL_paper 17 = .ok (.astore 4, 2) := by decide +kernel
theorem dL_paper_19 : decode cL_paper 19 = .ok (.iconst 2, 1) := by decide +kernel
theorem dL_paper_20 : decode cL_paper 20 = .ok (.ireturn, 1) := by decide +kernel
theorem dL_paper_21 : decode cL_paper 21 = .ok (.iconst 0, 1) := by decide +kernel
theorem dL_paper_22 : decode cL_paper 22 = .ok (.ireturn, 1) := by decide +kernel
theorem dL_withdraw_0 : decode cL_withdraw 0 = .ok (.aload_n 2, 1) := by decide +kernel
theorem dL_withdraw_1 : decode cL_withdraw 1 = .ok (.iconst 0, 1) := by decide +kernel
theorem dL_withdraw_2 : decode cL_withdraw 2 = .ok (.aload_n 0, 1) := by decide +kernel
theorem dL_withdraw_3 : decode cL_withdraw 3 = .ok (.iload_n 1, 1) := by decide +kernel
theorem dL_withdraw_4 : decode cL_withdraw 4 = .ok (.invokevirtual 71, 3) := by decide +kernel
theorem dL_withdraw_7 : decode cL_withdraw 7 = .ok (.i2l, 1) := by decide +kernel
theorem dL_withdraw_8 : decode cL_withdraw 8 = .ok (.lastore, 1) := by decide +kernel
theorem dL_withdraw_9 : decode cL_withdraw 9 = .ok (.goto 9, 3) := by decide +kernel
theorem dL_withdraw_12 : decode cL_withdraw 12 = .ok (.astore_n 3, 1) := by decide +kernel
theorem dL_withdraw_13 : decode cL_withdraw 13 = .ok (.iconst 1, 1) := by decide +kernel
theorem dL_withdraw_14 : decode cL_withdraw 14 = .ok (.ireturn, 1) := by decide +kernel
theorem dL_withdraw_15 : decode cL_withdraw 15 = .ok (.astore_n 3, 1) := by decide +kernel
theorem dL_withdraw_16 : decode cL_withdraw 16 = .ok (.iconst 2, 1) := by decide +kernel
theorem dL_withdraw_17 : decode cL_withdraw 17 = .ok (.ireturn, 1) := by decide +kernel
theorem dL_withdraw_18 : decode cL_withdraw 18 = .ok (.iconst 0, 1) := by decide +kernel
theorem dL_withdraw_19 : decode cL_withdraw 19 = .ok (.ireturn, 1) := by decide +kernel
theorem dL_hasFallen_0 : decode cL_hasFallen 0 = .ok (.aload_n 2, 1) := by decide +kernel
theorem dL_hasFallen_1 : decode cL_hasFallen 1 = .ok (.iconst 0, 1) := by decide +kernel
theorem dL_hasFallen_2 : decode cL_hasFallen 2 = .ok (.aload_n 0, 1) := by decide +kernel
theorem dL_hasFallen_3 : decode cL_hasFallen 3 = .ok (.iload_n 1, 1) := by decide +kernel
theorem dL_hasFallen_4 : decode cL_hasFallen 4 = .ok (.invokevirtual 74, 3) := by decide +kernel
theorem dL_hasFallen_7 : decode cL_hasFallen 7 = .ok (.ifCond .eq 7, 3) := by decide +kernel
theorem dL_hasFallen_10 : decode cL_hasFallen 10 = .ok (.lconst 1, 1) := by decide +kernel
theorem dL_hasFallen_11 : decode cL_hasFallen 11 = .ok (.goto 4, 3) := by decide +kernel
theorem dL_hasFallen_14 : decode cL_hasFallen 14 = .ok (.lconst 0, 1) := by decide +kernel
theorem dL_hasFallen_15 : decode cL_hasFallen 15 = .ok (.lastore, 1) := by decide +kernel
theorem dL_hasFallen_16 : decode cL_hasFallen 16 = .ok (.goto 6, 3) := by decide +kernel
theorem dL_hasFallen_19 : decode cL_hasFallen 19 = .ok (.astore_n 3, 1) := by decide +kernel
theorem dL_hasFallen_20 : decode cL_hasFallen 20 = .ok (.iconst 1, 1) := by decide +kernel
theorem dL_hasFallen_21 : decode cL_hasFallen 21 = .ok (.ireturn, 1) := by decide +kernel
theorem dL_hasFallen_22 : decode cL_hasFallen 22 = .ok (.iconst 0, 1) := by decide +kernel
theorem dL_hasFallen_23 : decode cL_hasFallen 23 = .ok (.ireturn, 1) := by decide +kernel
