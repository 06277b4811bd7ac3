theorem dX6_whyNot_16 : decode cX6_whyNot 16 = .ok (.iconst 1, 1) := by decide +kernel
theorem dX6_whyNot_17 : decode cX6_whyNot 17 = .ok (.ireturn, 1) := by decide +kernel
theorem dX6_whyNot_18 : decode cX6_whyNot 18 = .ok (.aload_n 0, 1) := by decide +kernel
theorem dX6_whyNot_19 : decode cX6_whyNot 19 = .ok (.aload_n 3, 1) := by decide +kernel
theorem dX6_whyNot_20 : decode cX6_whyNot 20 = .ok (.iload_n 2, 1) := by decide +kernel
theorem dX6_whyNot_21 : decode cX6_whyNot 21 = .ok (.invokevirtual 155, 3) := by decide +kernel
theorem dX6_whyNot_24 : decode cX6_whyNot 24 = .ok (.iconst (-1), 1) := by decide +kernel
theorem dX6_whyNot_25 : decode cX6_whyNot 25 = .ok (.if_icmp .ne 7, 3) := by decide +kernel
theorem dX6_whyNot_28 : decode cX6_whyNot 28 = .ok (.iconst 2, 1) := by decide +kernel
theorem dX6_whyNot_29 : decode cX6_whyNot 29 = .ok (.goto 4, 3) := by decide +kernel
theorem dX6_whyNot_32 : decode cX6_whyNot 32 = .ok (.iconst 0, 1) := by decide +kernel
theorem dX6_whyNot_33 : decode cX6_whyNot 33 = .ok (.ireturn, 1) := by decide +kernel
theorem dX6_oddEven_0 : decode cX6_oddEven 0 = .ok (.aload_n 0, 1) := by decide +kernel
theorem dX6_oddEven_1 : decode cX6_oddEven 1 = .ok (.iload_n 1, 1) := by decide +kernel
theorem dX6_oddEven_2 : decode cX6_oddEven 2 = .ok (.iload_n 2, 1) := by decide +kernel
theorem dX6_oddEven_3 : decode cX6_oddEven 3 = .ok (.invokevirtual 134, 3) := by decide +kernel
theorem dX6_oddEven_6 : decode cX6_oddEven 6 = .ok (.astore_n 3, 1) := by decide +kernel
theorem dX6_oddEven_7 : decode cX6_oddEven 7 = .ok (.aload_n 0, 1) := by decide +kernel
theorem dX6_oddEven_8 : decode cX6_oddEven 8 = .ok (.getfield 33, 3) := by decide +kernel
theorem dX6_oddEven_11 : decode cX6_oddEven 11 = .ok (.iload_n 2, 1) := by decide +kernel
theorem dX6_oddEven_12 : decode cX6_oddEven 12 = .ok (.aload_n 3, 1) := by decide +kernel
theorem dX6_oddEven_13 : decode cX6_oddEven 13 = .ok (.invokevirtual 138, 3) := by decide +kernel
theorem dX6_oddEven_16 : decode cX6_oddEven 16 = .ok (.aload_n 0, 1) := by decide +kernel
theorem dX6_oddEven_17 : decode cX6_oddEven 17 = .ok (.getfield 33, 3) := by decide +kernel
theorem dX6_oddEven_20 : decode cX6_oddEven 20 = .ok (.invokevirtual 142, 3) := by decide +kernel
theorem dX6_oddEven_23 : decode cX6_oddEven 23 = .ok (.istore 4, 2) := by decide +kernel
theorem dX6_oddEven_25 : decode cX6_oddEven 25 = .ok (.iload 4, 2) := by decide +kernel
theorem dX6_oddEven_27 : decode cX6_oddEven 27 = .ok (.iload_n 2, 1) := by decide +kernel
theorem dX6_oddEven_28 : decode cX6_oddEven 28 = .ok (.iadd, 1) := by decide +kernel
theorem dX6_oddEven_29 : decode cX6_oddEven 29 = .ok (.istore 5, 2) := by decide +kernel
theorem dX6_oddEven_31 : decode cX6_oddEven 31 = .ok (.aload_n 0, 1) := by decide +kernel
theorem dX6_oddEven_32 : decode cX6_oddEven 32 = .ok (.getfield 33, 3) := by decide +kernel
theorem dX6_oddEven_35 : decode cX6_oddEven 35 = .ok (.iconst 2, 1) := by decide +kernel
theorem dX6_oddEven_36 : decode cX6_oddEven 36 = .ok (.iload_n 2, 1) := by decide +kernel
theorem dX6_oddEven_37 : decode cX6_oddEven 37 = .ok (.imul, 1) := by decide +kernel
theorem dX6_oddEven_38 : decode cX6_oddEven 38 = .ok (.aload_n 3, 1) := by decide +kernel
theorem dX6_oddEven_39 : decode cX6_oddEven 39 = .ok (.invokevirtual 138, 3) := by decide +kernel
theorem dX6_oddEven_42 : decode cX6_oddEven 42 = .ok (.aload_n 0, 1) := by decide +kernel
theorem dX6_oddEven_43 : decode cX6_oddEven 43 = .ok (.getfield 33, 3) := by decide +kernel
theorem dX6_oddEven_46 : decode cX6_oddEven 46 = .ok (.iload 4, 2) := by decide +kernel
theorem dX6_oddEven_48 : decode cX6_oddEven 48 = .ok (.invokevirtual 158, 3) := by decide +kernel
theorem dX6_oddEven_51 : decode cX6_oddEven 51 = .ok (.ifCond .eq 15, 3) := by decide +kernel
theorem dX6_oddEven_54 : decode cX6_oddEven 54 = .ok (.aload_n 0, 1) := by decide +kernel
theorem dX6_oddEven_55 : decode cX6_oddEven 55 = .ok (.getfield 33, 3) := by decide +kernel
theorem dX6_oddEven_58 : decode cX6_oddEven 58 = .ok (.iload 5, 2) := by decide +kernel
theorem dX6_oddEven_60 : decode cX6_oddEven 60 = .ok (.invokevirtual 158, 3) := by decide +kernel
theorem dX6_oddEven_63 : decode cX6_oddEven 63 = .ok (.ifCond .ne 8, 3) := by decide +kernel
theorem dX6_oddEven_66 : decode cX6_oddEven 66 = .ok (.dconst 0, 1) := by decide +kernel
theorem dX6_oddEven_67 : decode cX6_oddEven 67 = .ok (.invokestatic 98, 3) := by decide +kernel
theorem dX6_oddEven_70 : decode cX6_oddEven 70 = .ok (.lreturn, 1) := by decide +kernel
theorem dX6_oddEven_71 : decode cX6_oddEven 71 = .ok (.aload_n 0, 1) := by decide +kernel
theorem dX6_oddEven_72 : decode cX6_oddEven 72 = .ok (.getfield 33, 3) := by decide +kernel
theorem dX6_oddEven_75 : decode cX6_oddEven 75 = .ok (.iload 4, 2) := by decide +kernel
theorem dX6_oddEven_77 : decode cX6_oddEven 77 = .ok (.invokevirtual 161, 3) := by decide +kernel
theorem dX6_oddEven_80 : decode cX6_oddEven 80 = .ok (.aload_n 0, 1) := by decide +kernel
theorem dX6_oddEven_81 : decode cX6_oddEven 81 = .ok (.getfield 33, 3) := by decide +kernel
theorem dX6_oddEven_84 : decode cX6_oddEven 84 = .ok (.iload 5, 2) := by decide +kernel
theorem dX6_oddEven_86 : decode cX6_oddEven 86 = .ok (.invokevirtual 161, 3) := by decide +kernel
theorem dX6_oddEven_89 : decode cX6_oddEven 89 = .ok (.dsub, 1) := by decide +kernel
theorem dX6_oddEven_90 : decode cX6_oddEven 90 = .ok (.invokestatic 98, 3) := by decide +kernel
theorem dX6_oddEven_93 : decode cX6_oddEven 93 = .ok (.lreturn, 1) := by decide +kernel
theorem dX6_world_0 : decode cX6_world 0 = .ok (.aload_n 0, 1) := by decide +kernel
theorem dX6_world_1 : decode cX6_world 1 = .ok (.iload_n 1, 1) := by decide +kernel
theorem dX6_world_2 : decode cX6_world 2 = .ok (.iload_n 2, 1) := by decide +kernel
theorem dX6_world_3 : decode cX6_world 3 = .ok (.invokevirtual 148, 3) := by decide +kernel
theorem dX6_world_6 : decode cX6_world 6 = .ok (.astore_n 3, 1) := by decide +kernel
theorem dX6_world_7 : decode cX6_world 7 = .ok (.aload_n 0, 1) := by decide +kernel
theorem dX6_world_8 : decode cX6_world 8 = .ok (.aload_n 3, 1) := by decide +kernel
theorem dX6_world_9 : decode cX6_world 9 = .ok (.iload_n 2, 1) := by decide +kernel
theorem dX6_world_10 : decode cX6_world 10 = .ok (.invokevirtual 151, 3) := by decide +kernel
theorem dX6_world_13 : decode cX6_world 13 = .ok (.istore 4, 2) := by decide +kernel
theorem dX6_world_15 : decode cX6_world 15 = .ok (.aload_n 0, 1) := by decide +kernel
theorem dX6_world_16 : decode cX6_world 16 = .ok (.getfield 16, 3) := by decide +kernel
theorem dX6_world_19 : decode cX6_world 19 = .ok (.invokevirtual 42, 3) := by decide +kernel
theorem dX6_world_22 : decode cX6_world 22 = .ok (.bipush 12, 2) := by decide +kernel
theorem dX6_world_24 : decode cX6_world 24 = .ok (.if_icmp .lt 13, 3) := by decide +kernel
theorem dX6_world_27 : decode cX6_world 27 = .ok (.new 46, 3) := by decide +kernel
theorem dX6_world_30 : decode cX6_world 30 = .ok (.dup, 1) := by decide +kernel
theorem dX6_world_31 : decode cX6_world 31 = .ok (.ldc 164, 2) := by decide +kernel
theorem dX6_world_33 : decode cX6_world 33 = .ok (.invokespecial 50, 3) := by decide +kernel
theorem dX6_world_36 : decode cX6_world 36 = .ok (.athrow, 1) := by decide +kernel
theorem dX6_world_37 : decode cX6_world 37 = .ok (.aload_n 0, 1) := by decide +kernel
theorem dX6_world_38 : decode cX6_world 38 = .ok (.getfield 33, 3) := by decide +kernel
theorem dX6_world_41 : decode cX6_world 41 = .ok (.iload 4, 2) := by decide +kernel
theorem dX6_world_43 : decode cX6_world 43 = .ok (.aload_n 3, 1) := by decide +kernel
theorem dX6_world_44 : decode cX6_world 44 = .ok (.invokevirtual 138, 3) := by decide +kernel
theorem dX6_world_47 : decode cX6_world 47 = .ok (.aload_n 0, 1) := by decide +kernel
theorem dX6_world_48 : decode cX6_world 48 = .ok (.getfield 16, 3) := by decide +kernel
theorem dX6_world_51 : decode cX6_world 51 = .ok (.new 166, 3) := by decide +kernel
theorem dX6_world_54 : decode cX6_world 54 = .ok (.dup, 1) := by decide +kernel
theorem dX6_world_55 : decode cX6_world 55 = .ok (.iload_n 1, 1) := by decide +kernel
theorem dX6_world_56 : decode cX6_world 56 = .ok (.iload_n 2, 1) := by decide +kernel
theorem dX6_world_57 : decode cX6_world 57 = .ok (.iload 4, 2) := by decide +kernel
theorem dX6_world_59 : decode cX6_world 59 = .ok (.aload_n 0, 1) := by decide +kernel
theorem dX6_world_60 : decode cX6_world 60 = .ok (.getfield 33, 3) := by decide +kernel
theorem dX6_world_63 : decode cX6_world 63 = .ok (.invokevirtual 142, 3) := by decide +kernel
theorem dX6_world_66 : decode cX6_world 66 = .ok (.new 118, 3) := by decide +kernel
theorem dX6_world_69 : decode cX6_world 69 = .ok (.dup, 1) := by decide +kernel
theorem dX6_world_70 : decode cX6_world 70 = .ok (.aload_n 3, 1) := by decide +kernel
theorem dX6_world_71 : decode cX6_world 71 = .ok (.invokespecial 168, 3) := by decide +kernel
theorem dX6_world_74 : decode cX6_world 74 = .ok (.invokespecial 171, 3) := by decide +kernel
theorem dX6_world_77 : decode cX6_world 77 = .ok (.invokevirtual 58, 3) := by decide +kernel
theorem dX6_world_80 : decode cX6_world 80 = .ok (.pop, 1) := by decide +kernel
theorem dX6_world_81 : decode cX6_world 81 = .ok (.aload_n 0, 1) := by decide +kernel
theorem dX6_world_82 : decode cX6_world 82 = .ok (.getfield 16, 3) := by decide +kernel
theorem dX6_world_85 : decode cX6_world 85 = .ok (.invokevirtual 42, 3) := by decide +kernel
theorem dX6_world_88 : decode cX6_world 88 = .ok (.iconst 1, 1) := by decide +kernel
theorem dX6_world_89 : decode cX6_world 89 = .ok (.isub, 1) := by decide +kernel
theorem dX6_world_90 : decode cX6_world 90 = .ok (.ireturn, 1) := by decide +kernel
theorem dX6_about_0 : decode cX6_about 0 = .ok (.aload_n 0, 1) := by decide +kernel
theorem dX6_about_1 : decode cX6_about 1 = .ok (.iload_n 1, 1) := by decide +kernel
theorem dX6_about_2 : decode cX6_about 2 = .ok (.invokevirtual 174, 3) := by decide +kernel
theorem dX6_about_5 : decode cX6_about 5 = .ok (.astore_n 3, 1) := by decide +kernel
theorem dX6_about_6 : decode cX6_about 6 = .ok (.iload_n 2, 1) := by decide +kernel
theorem dX6_about_7 : decode cX6_about 7 = .ok (.iconst 0, 1) := by decide +kernel
theorem dX6_about_8 : decode cX6_about 8 = .ok (.iconst 3, 1) := by decide +kernel
theorem dX6_about_9 : decode cX6_about 9 = .ok (.invokestatic 38, 3) := by decide +kernel
theorem dX6_about_12 : decode cX6_about 12 = .ok (.iload_n 2, 1) := by decide +kernel
theorem dX6_about_13 : decode cX6_about 13 = .ok (.tableswitch 42 0 2 #[27, 32, 37], 27) := by decide +kernel
theorem dX6_about_40 : decode cX6_about 40 = .ok (.aload_n 3, 1) := by decide +kernel
theorem dX6_about_41 : decode cX6_about 41 = .ok (.getfield 178, 3) := by decide +kernel
theorem dX6_about_44 : decode cX6_about 44 = .ok (.ireturn, 1) := by decide +kernel
theorem dX6_about_45 : decode cX6_about 45 = .ok (.aload_n 3, 1) := by decide +kernel
theorem dX6_about_46 : decode cX6_about 46 = .ok (.getfield 181, 3) := by decide +kernel
theorem dX6_about_49 : decode cX6_about 49 = .ok (.ireturn, 1) := by decide +kernel
theorem dX6_about_50 : decode cX6_about 50 = .ok (.aload_n 3, 1) := by decide +kernel
theorem dX6_about_51 : decode cX6_about 51 = .ok (.getfield 184, 3) := by decide +kernel
theorem dX6_about_54 : decode cX6_about 54 = .ok (.ireturn, 1) := by decide +kernel
theorem dX6_about_55 : decode cX6_about 55 = .ok (.aload_n 3, 1) := by decide +kernel
theorem dX6_about_56 : decode cX6_about 56 = .ok (.getfield 187, 3) := by decide +kernel
theorem dX6_about_59 : decode cX6_about 59 = .ok (.ifCond .eq 7, 3) := by decide +kernel
theorem dX6_about_62 : decode cX6_about 62 = .ok (.iconst 1, 1) := by decide +kernel
theorem dX6_about_63 : decode cX6_about 63 = .ok (.goto 4, 3) := by decide +kernel
theorem dX6_about_66 : decode cX6_about 66 = .ok (.iconst 0, 1) := by decide +kernel
theorem dX6_about_67 : decode cX6_about 67 = .ok (.ireturn, 1) := by decide +kernel
theorem dX6_periodAnew_0 : decode cX6_periodAnew 0 = .ok (.aload_n 0, 1) := by decide +kernel
theorem dX6_periodAnew_1 : decode cX6_periodAnew 1 = .ok (.iload_n 1, 1) := by decide +kernel
theorem dX6_periodAnew_2 : decode cX6_periodAnew 2 = .ok (.invokevirtual 174, 3) := by decide +kernel
theorem dX6_periodAnew_5 : decode cX6_periodAnew 5 = .ok (.astore_n 2, 1) := by decide +kernel
theorem dX6_periodAnew_6 : decode cX6_periodAnew 6 = .ok (.aload_n 0, 1) := by decide +kernel
theorem dX6_periodAnew_7 : decode cX6_periodAnew 7 = .ok (.aload_n 2, 1) := by decide +kernel
theorem dX6_periodAnew_8 : decode cX6_periodAnew 8 = .ok (.getfield 191, 3) := by decide +kernel
theorem dX6_periodAnew_11 : decode cX6_periodAnew 11 = .ok (.aload_n 2, 1) := by decide +kernel
theorem dX6_periodAnew_12 : decode cX6_periodAnew 12 = .ok (.getfield 192, 3) := by decide +kernel
theorem dX6_periodAnew_15 : decode cX6_periodAnew 15 = .ok (.invokevirtual 155, 3) := by decide +kernel
theorem dX6_periodAnew_18 : decode cX6_periodAnew 18 = .ok (.ireturn, 1) := by decide +kernel
theorem dX6_paper_0 : decode cX6_paper 0 = .ok (.aload_n 0, 1) := by decide +kernel
theorem dX6_paper_1 : decode cX6_paper 1 = .ok (.iload_n 1, 1) := by decide +kernel
theorem dX6_paper_2 : decode cX6_paper 2 = .ok (.invokevirtual 174, 3) := by decide +kernel
theorem dX6_paper_5 : decode cX6_paper 5 = .ok (.astore_n 3, 1) := by decide +kernel
theorem dX6_paper_6 : decode cX6_paper 6 = .ok (.iload_n 2, 1) := by decide +kernel
theorem dX6_paper_7 : decode cX6_paper 7 = .ok (.iconst (-1), 1) := by decide +kernel
theorem dX6_paper_8 : decode cX6_paper 8 = .ok (.if_icmp .ne 7, 3) := by decide +kernel
theorem dX6_paper_11 : decode cX6_paper 11 = .ok (.aconst_null, 1) := by decide +kernel
theorem dX6_paper_12 : decode cX6_paper 12 = .ok (.goto 8, 3) := by decide +kernel
theorem dX6_paper_15 : decode cX6_paper 15 = .ok (.aload_n 0, 1) := by decide +kernel
theorem dX6_paper_16 : decode cX6_paper 16 = .ok (.iload_n 2, 1) := by decide +kernel
theorem dX6_paper_17 : decode cX6_paper 17 = .ok (.invokevirtual 195, 3) := by decide +kernel
theorem dX6_paper_20 : decode cX6_paper 20 = .ok (.astore 4, 2) := by decide +kernel
theorem dX6_paper_22 : decode cX6_paper 22 = .ok (.new 199, 3) := by decide +kernel
theorem dX6_paper_25 : decode cX6_paper 25 = .ok (.dup, 1) := by decide +kernel
theorem dX6_paper_26 : decode cX6_paper 26 = .ok (.aload_n 3, 1) := by decide +kernel
theorem dX6_paper_27 : decode cX6_paper 27 = .ok (.aload 4, 2) := by decide +kernel
theorem dX6_paper_29 : decode cX6_paper 29 = .ok (.invokespecial 201, 3) := by decide +kernel
theorem dX6_paper_32 : decode cX6_paper 32 = .ok (.astore 5, 2) := by decide +kernel
theorem dX6_paper_34 : decode cX6_paper 34 = .ok (.aload 5, 2) := by decide +kernel
theorem dX6_paper_36 : decode cX6_paper 36 = .ok (.invokevirtual 204, 3) := by decide +kernel
theorem dX6_paper_39 : decode cX6_paper 39 = .ok (.ifCond .eq 13, 3) := by decide +kernel
theorem dX6_paper_42 : decode cX6_paper 42 = .ok (.new 46, 3) := by decide +kernel
theorem dX6_paper_45 : decode cX6_paper 45 = .ok (.dup, 1) := by decide +kernel
theorem dX6_paper_46 : decode cX6_paper 46 = .ok (.ldc 208, 2) := by decide +kernel
theorem dX6_paper_48 : decode cX6_paper 48 = .ok (.invokespecial 50, 3) := by decide +kernel
theorem dX6_paper_51 : decode cX6_paper 51 = .ok (.athrow, 1) := by decide +kernel
theorem dX6_paper_52 : decode cX6_paper 52 = .ok (.aload_n 0, 1) := by decide +kernel
theorem dX6_paper_53 : decode cX6_paper 53 = .ok (.getfield 19, 3) := by decide +kernel
theorem dX6_paper_56 : decode cX6_paper 56 = .ok (.invokevirtual 42, 3) := by decide +kernel
theorem dX6_paper_59 : decode cX6_paper 59 = .ok (.bipush 30, 2) := by decide +kernel
theorem dX6_paper_61 : decode cX6_paper 61 = .ok (.if_icmp .lt 13, 3) := by decide +kernel
theorem dX6_paper_64 : decode cX6_paper 64 = .ok (.new 46, 3) := by decide +kernel
theorem dX6_paper_67 : decode cX6_paper 67 = .ok (.dup, 1) := by decide +kernel
theorem dX6_paper_68 : decode cX6_paper 68 = .ok (.ldc 210, 2) := by decide +kernel
theorem dX6_paper_70 : decode cX6_paper 70 = .ok (.invokespecial 50, 3) := by decide +kernel
theorem dX6_paper_73 : decode cX6_paper 73 = .ok (.athrow, 1) := by decide +kernel
theorem dX6_paper_74 : decode cX6_paper 74 = .ok (.aload_n 0, 1) := by decide +kernel
theorem dX6_paper_75 : decode cX6_paper 75 = .ok (.getfield 19, 3) := by decide +kernel
theorem dX6_paper_78 : decode cX6_paper 78 = .ok (.aload 5, 2) := by decide +kernel
theorem dX6_paper_80 : decode cX6_paper 80 = .ok (.invokevirtual 58, 3) := by decide +kernel
theorem dX6_paper_83 : decode cX6_paper 83 = .ok (.pop, 1) := by decide +kernel
theorem dX6_paper_84 : decode cX6_paper 84 = .ok (.aload_n 0, 1) := by decide +kernel
theorem dX6_paper_85 : decode cX6_paper 85 = .ok (.getfield 19, 3) := by decide +kernel
theorem dX6_paper_88 : decode cX6_paper 88 = .ok (.invokevirtual 42, 3) := by decide +kernel
theorem dX6_paper_91 : decode cX6_paper 91 = .ok (.iconst 1, 1) := by decide +kernel
theorem dX6_paper_92 : decode cX6_paper 92 = .ok (.isub, 1) := by decide +kernel
theorem dX6_paper_93 : decode cX6_paper 93 = .ok (.ireturn, 1) := by decide +kernel
theorem dX6_withdraw_0 : decode cX6_withdraw 0 = .ok (.aload_n 0, 1) := by decide +kernel
theorem dX6_withdraw_1 : decode cX6_withdraw 1 = .ok (.iload_n 1, 1) := by decide +kernel
theorem dX6_withdraw_2 : decode cX6_withdraw 2 = .ok (.invokevirtual 174, 3) := by decide +kernel
theorem dX6_withdraw_5 : decode cX6_withdraw 5 = .ok (.astore_n 2, 1) := by decide +kernel
theorem dX6_withdraw_6 : decode cX6_withdraw 6 = .ok (.aload_n 2, 1) := by decide +kernel
theorem dX6_withdraw_7 : decode cX6_withdraw 7 = .ok (.getfield 187, 3) := by decide +kernel
theorem dX6_withdraw_10 : decode cX6_withdraw 10 = .ok (.ifCond .eq 13, 3) := by decide +kernel
theorem dX6_withdraw_13 : decode cX6_withdraw 13 = .ok (.new 46, 3) := by decide +kernel
theorem dX6_withdraw_16 : decode cX6_withdraw 16 = .ok (.dup, 1) := by decide +kernel
theorem dX6_withdraw_17 : decode cX6_withdraw 17 = .ok (.ldc 212, 2) := by decide +kernel
theorem dX6_withdraw_19 : decode cX6_withdraw 19 = .ok (.invokespecial 50, 3) := by decide +kernel
theorem dX6_withdraw_22 : decode cX6_withdraw 22 = .ok (.athrow, 1) := by decide +kernel
theorem dX6_withdraw_23 : decode cX6_withdraw 23 = .ok (.aload_n 2, 1) := by decide +kernel
theorem dX6_withdraw_24 : decode cX6_withdraw 24 = .ok (.iconst 1, 1) := by decide +kernel
theorem dX6_withdraw_25 : decode cX6_withdraw 25 = .ok (.putfield 187, 3) := by decide +kernel
theorem dX6_withdraw_28 : decode cX6_withdraw 28 = .ok (.aload_n 0, 1) := by decide +kernel
theorem dX6_withdraw_29 : decode cX6_withdraw 29 = .ok (.invokevirtual 214, 3) := by decide +kernel
theorem dX6_withdraw_32 : decode cX6_withdraw 32 = .ok (.ireturn, 1) := by decide +kernel
theorem dX6_hasFallen_0 : decode cX6_hasFallen 0 = .ok (.aload_n 0, 1) := by decide +kernel
theorem dX6_hasFallen_1 : decode cX6_hasFallen 1 = .ok (.iload_n 1, 1) := by decide +kernel
theorem dX6_hasFallen_2 : decode cX6_hasFallen 2 = .ok (.invokevirtual 195, 3) := by decide +kernel
theorem dX6_hasFallen_5 : decode cX6_hasFallen 5 = .ok (.getfield 217, 3) := by decide +kernel
theorem dX6_hasFallen_8 : decode cX6_hasFallen 8 = .ok (.ireturn, 1) := by decide +kernel
theorem dX6_starAt_0 : decode cX6_starAt 0 = .ok (.iload_n 1, 1) := by decide +kernel
theorem dX6_starAt_1 : decode cX6_starAt 1 = .ok (.ifCond .lt 14, 3) := by decide +kernel
theorem dX6_starAt_4 : decode cX6_starAt 4 = .ok (.iload_n 1, 1) := by decide +kernel
theorem dX6_starAt_5 : decode cX6_starAt 5 = .ok (.aload_n 0, 1) := by decide +kernel
theorem dX6_starAt_6 : decode cX6_starAt 6 = .ok (.getfield 10, 3) := by decide +kernel
theorem dX6_starAt_9 : decode cX6_starAt 9 = .ok (.invokevirtual 42, 3) := by decide +kernel
theorem dX6_starAt_12 : decode cX6_starAt 12 = .ok (.if_icmp .lt 13, 3) := by decide +kernel
theorem dX6_starAt_15 : decode cX6_starAt 15 = .ok (.new 220, 3) := by decide +kernel
theorem dX6_starAt_18 : decode cX6_starAt 18 = .ok (.dup, 1) := by decide +kernel
theorem dX6_starAt_19 : decode cX6_starAt 19 = .ok (.ldc 222, 2) := by decide +kernel
theorem dX6_starAt_21 : decode cX6_starAt 21 = .ok (.invokespecial 224, 3) := by decide +kernel
theorem dX6_starAt_24 : decode cX6_starAt 24 = .ok (.athrow, 1) := by decide +kernel
theorem dX6_starAt_25 : decode cX6_starAt 25 = .ok (.aload_n 0, 1) := by decide +kernel
theorem dX6_starAt_26 : decode cX6_starAt 26 = .ok (.getfield 10, 3) := by decide +kernel
theorem dX6_starAt_29 : decode cX6_starAt 29 = .ok (.iload_n 1, 1) := by decide +kernel
theorem dX6_starAt_30 : decode cX6_starAt 30 = .ok (.invokevirtual 225, 3) := by decide +kernel
theorem dX6_starAt_33 : decode cX6_starAt 33 = .ok (.checkcast 53, 3) := by decide +kernel
theorem dX6_starAt_36 : decode cX6_starAt 36 = .ok (.areturn, 1) := by decide +kernel
theorem dX6_worldAt_0 : decode cX6_worldAt 0 = .ok (.iload_n 1, 1) := by decide +kernel
theorem dX6_worldAt_1 : decode cX6_worldAt 1 = .ok (.ifCond .lt 14, 3) := by decide +kernel
theorem dX6_worldAt_4 : decode cX6_worldAt 4 = .ok (.iload_n 1, 1) := by decide +kernel
theorem dX6_worldAt_5 : decode cX6_worldAt 5 = .ok (.aload_n 0, 1) := by decide +kernel
theorem dX6_worldAt_6 : decode cX6_worldAt 6 = .ok (.getfield 16, 3) := by decide +kernel
theorem dX6_worldAt_9 : decode cX6_worldAt 9 = .ok (.invokevirtual 42, 3) := by decide +kernel
theorem dX6_worldAt_12 : decode cX6_worldAt 12 = .ok (.if_icmp .lt 13, 3) := by decide +kernel
theorem dX6_worldAt_15 : decode cX6_worldAt 15 = .ok (.new 220, 3) := by decide +kernel
theorem dX6_worldAt_18 : decode cX6_worldAt 18 = .ok (.dup, 1) := by decide +kernel
theorem dX6_worldAt_19 : decode cX6_worldAt 19 = .ok (.ldc 229, 2) := by decide +kernel
theorem dX6_worldAt_21 : decode cX6_worldAt 21 = .ok (.invokespecial 224, 3) := by decide +kernel
theorem dX6_worldAt_24 : decode cX6_worldAt 24 = .ok (.athrow, 1) := by decide +kernel
theorem dX6_worldAt_25 : decode cX6_worldAt 25 = .ok (.aload_n 0, 1) := by decide +kernel
theorem dX6_worldAt_26 : decode cX6_worldAt 26 = .ok (.getfield 16, 3) := by decide +kernel
theorem dX6_worldAt_29 : decode cX6_worldAt 29 = .ok (.iload_n 1, 1) := by decide +kernel
theorem dX6_worldAt_30 : decode cX6_worldAt 30 = .ok (.invokevirtual 225, 3) := by decide +kernel
theorem dX6_worldAt_33 : decode cX6_worldAt 33 = .ok (.checkcast 166, 3) := by decide +kernel
theorem dX6_worldAt_36 : decode cX6_worldAt 36 = .ok (.areturn, 1) := by decide +kernel
theorem dX6_paperAt_0 : decode cX6_paperAt 0 = .ok (.iload_n 1, 1) := by decide +kernel
theorem dX6_paperAt_1 : decode cX6_paperAt 1 = .ok (.ifCond .lt 14, 3) := by decide +kernel
theorem dX6_paperAt_4 : decode cX6_paperAt 4 = .ok (.iload_n 1, 1) := by decide +kernel
theorem dX6_paperAt_5 : decode cX6_paperAt 5 = .ok (.aload_n 0, 1) := by decide +kernel
theorem dX6_paperAt_6 : decode cX6_paperAt 6 = .ok (.getfield 19, 3) := by decide +kernel
theorem dX6_paperAt_9 : decode cX6_paperAt 9 = .ok (.invokevirtual 42, 3) := by decide +kernel
theorem dX6_paperAt_12 : decode cX6_paperAt 12 = .ok (.if_icmp .lt 13, 3) := by decide +kernel
theorem dX6_paperAt_15 : decode cX6_paperAt 15 = .ok (.new 220, 3) := by decide +kernel
theorem dX6_paperAt_18 : decode cX6_paperAt 18 = .ok (.dup, 1) := by decide +kernel
theorem dX6_paperAt_19 : decode cX6_paperAt 19 = .ok (.ldc 231, 2) := by decide +kernel
theorem dX6_paperAt_21 : decode cX6_paperAt 21 = .ok (.invokespecial 224, 3) := by decide +kernel
theorem dX6_paperAt_24 : decode cX6_paperAt 24 = .ok (.athrow, 1) := by decide +kernel
theorem dX6_paperAt_25 : decode cX6_paperAt 25 = .ok (.aload_n 0, 1) := by decide +kernel
theorem dX6_paperAt_26 : decode cX6_paperAt 26 = .ok (.getfield 19, 3) := by decide +kernel
theorem dX6_paperAt_29 : decode cX6_paperAt 29 = .ok (.iload_n 1, 1) := by decide +kernel
theorem dX6_paperAt_30 : decode cX6_paperAt 30 = .ok (.invokevirtual 225, 3) := by decide +kernel
theorem dX6_paperAt_33 : decode cX6_paperAt 33 = .ok (.checkcast 199, 3) := by decide +kernel
theorem dX6_paperAt_36 : decode cX6_paperAt 36 = .ok (.areturn, 1) := by decide +kernel
theorem dX6_requireHour_0 : decode cX6_requireHour 0 = .ok (.iload_n 0, 1) := by decide +kernel
theorem dX6_requireHour_1 : decode cX6_requireHour 1 = .ok (.ifCond .lt 10, 3) := by decide +kernel
theorem dX6_requireHour_4 : decode cX6_requireHour 4 = .ok (.iload_n 0, 1) := by decide +kernel
theorem dX6_requireHour_5 : decode cX6_requireHour 5 = .ok (.sipush 1000, 3) := by decide +kernel
theorem dX6_requireHour_8 : decode cX6_requireHour 8 = .ok (.if_icmp .lt 13, 3) := by decide +kernel
theorem dX6_requireHour_11 : decode cX6_requireHour 11 = .ok (.new 220, 3) := by decide +kernel
theorem dX6_requireHour_14 : decode cX6_requireHour 14 = .ok (.dup, 1) := by decide +kernel
theorem dX6_requireHour_15 : decode cX6_requireHour 15 = .ok (.ldc 233, 2) := by decide +kernel
theorem dX6_requireHour_17 : decode cX6_requireHour 17 = .ok (.invokespecial 224, 3) := by decide +kernel
theorem dX6_requireHour_20 : decode cX6_requireHour 20 = .ok (.athrow, 1) := by decide +kernel
theorem dX6_requireHour_21 : decode cX6_requireHour 21 = .ok (.return_, 1) := by decide +kernel
theorem dX6_requireHours_0 : decode cX6_requireHours 0 = .ok (.iload_n 0, 1) := by decide +kernel
theorem dX6_requireHours_1 : decode cX6_requireHours 1 = .ok (.invokestatic 91, 3) := by decide +kernel
theorem dX6_requireHours_4 : decode cX6_requireHours 4 = .ok (.iload_n 1, 1) := by decide +kernel
theorem dX6_requireHours_5 : decode cX6_requireHours 5 = .ok (.invokestatic 91, 3) := by decide +kernel
theorem dX6_requireHours_8 : decode cX6_requireHours 8 = .ok (.iload_n 1, 1) := by decide +kernel
theorem dX6_requireHours_9 : decode cX6_requireHours 9 = .ok (.iload_n 0, 1) := by decide +kernel
theorem dX6_requireHours_10 : decode cX6_requireHours 10 = .ok (.if_icmp .ge 13, 3) := by decide +kernel
theorem dX6_requireHours_13 : decode cX6_requireHours 13 = .ok (.new 235, 3) := by decide +kernel
theorem dX6_requireHours_16 : decode cX6_requireHours 16 = .ok (.dup, 1) := by decide +kernel
theorem dX6_requireHours_17 : decode cX6_requireHours 17 = .ok (.ldc 237, 2) := by decide +kernel
theorem dX6_requireHours_19 : decode cX6_requireHours 19 = .ok (.invokespecial 239, 3) := by decide +kernel
theorem dX6_requireHours_22 : decode cX6_requireHours 22 = .ok (.athrow, 1) := by decide +kernel
theorem dX6_requireHours_23 : decode cX6_requireHours 23 = .ok (.return_, 1) := by decide +kernel
theorem dX6_requireRange_0 : decode cX6_requireRange 0 = .ok (.iload_n 0, 1) := by decide +kernel
theorem dX6_requireRange_1 : decode cX6_requireRange 1 = .ok (.iload_n 1, 1) := by decide +kernel
theorem dX6_requireRange_2 : decode cX6_requireRange 2 = .ok (.if_icmp .lt 8, 3) := by decide +kernel
theorem dX6_requireRange_5 : decode cX6_requireRange 5 = .ok (.iload_n 0, 1) := by decide +kernel
theorem dX6_requireRange_6 : decode cX6_requireRange 6 = .ok (.iload_n 2, 1) := by decide +kernel
theorem dX6_requireRange_7 : decode cX6_requireRange 7 = .ok (.if_icmp .le 13, 3) := by decide +kernel
theorem dX6_requireRange_10 : decode cX6_requireRange 10 = .ok (.new 235, 3) := by decide +kernel
theorem dX6_requireRange_13 : decode cX6_requireRange 13 = .ok (.dup, 1) := by decide +kernel
theorem dX6_requireRange_14 : decode cX6_requireRange 14 = .ok (.ldc 240, 2) := by decide +kernel
theorem dX6_requireRange_16 : decode cX6_requireRange 16 = .ok (.invokespecial 239, 3) := by decide +kernel
theorem dX6_requireRange_19 : decode cX6_requireRange 19 = .ok (.athrow, 1) := by decide +kernel
theorem dX6_requireRange_20 : decode cX6_requireRange 20 = .ok (.return_, 1) := by decide +kernel
theorem dX6_nightsToFold_0 : decode cX6_nightsToFold 0 = .ok (.aload_n 0, 1) := by decide +kernel
theorem dX6_nightsToFold_1 : decode cX6_nightsToFold 1 = .ok (.iload_n 1, 1) := by decide +kernel
theorem dX6_nightsToFold_2 : decode cX6_nightsToFold 2 = .ok (.invokevirtual 62, 3) := by decide +kernel
theorem dX6_nightsToFold_5 : decode cX6_nightsToFold 5 = .ok (.getfield 113, 3) := by decide +kernel
theorem dX6_nightsToFold_8 : decode cX6_nightsToFold 8 = .ok (.astore_n 3, 1) := by decide +kernel
theorem dX6_nightsToFold_9 : decode cX6_nightsToFold 9 = .ok (.iload_n 2, 1) := by decide +kernel
theorem dX6_nightsToFold_10 : decode cX6_nightsToFold 10 = .ok (.iconst 2, 1) := by decide +kernel
theorem dX6_nightsToFold_11 : decode cX6_nightsToFold 11 = .ok (.bipush 60, 2) := by decide +kernel
theorem dX6_nightsToFold_13 : decode cX6_nightsToFold 13 = .ok (.invokestatic 38, 3) := by decide +kernel
theorem dX6_nightsToFold_16 : decode cX6_nightsToFold 16 = .ok (.aload_n 3, 1) := by decide +kernel
theorem dX6_nightsToFold_17 : decode cX6_nightsToFold 17 = .ok (.getfield 117, 3) := by decide +kernel
theorem dX6_nightsToFold_20 : decode cX6_nightsToFold 20 = .ok (.bipush 20, 2) := by decide +kernel
theorem dX6_nightsToFold_22 : decode cX6_nightsToFold 22 = .ok (.if_icmp .ge 13, 3) := by decide +kernel
theorem dX6_nightsToFold_25 : decode cX6_nightsToFold 25 = .ok (.new 46, 3) := by decide +kernel
theorem dX6_nightsToFold_28 : decode cX6_nightsToFold 28 = .ok (.dup, 1) := by decide +kernel
theorem dX6_nightsToFold_29 : decode cX6_nightsToFold 29 = .ok (.ldc 242, 2) := by decide +kernel
theorem dX6_nightsToFold_31 : decode cX6_nightsToFold 31 = .ok (.invokespecial 50, 3) := by decide +kernel
theorem dX6_nightsToFold_34 : decode cX6_nightsToFold 34 = .ok (.athrow, 1) := by decide +kernel
theorem dX6_nightsToFold_35 : decode cX6_nightsToFold 35 = .ok (.aload_n 3, 1) := by decide +kernel
theorem dX6_nightsToFold_36 : decode cX6_nightsToFold 36 = .ok (.areturn, 1) := by decide +kernel
theorem dX6_nightsToSearch_0 : decode cX6_nightsToSearch 0 = .ok (.aload_n 0, 1) := by decide +kernel
theorem dX6_nightsToSearch_1 : decode cX6_nightsToSearch 1 = .ok (.iload_n 1, 1) := by decide +kernel
theorem dX6_nightsToSearch_2 : decode cX6_nightsToSearch 2 = .ok (.invokevirtual 62, 3) := by decide +kernel
theorem dX6_nightsToSearch_5 : decode cX6_nightsToSearch 5 = .ok (.getfield 113, 3) := by decide +kernel
theorem dX6_nightsToSearch_8 : decode cX6_nightsToSearch 8 = .ok (.astore_n 3, 1) := by decide +kernel
theorem dX6_nightsToSearch_9 : decode cX6_nightsToSearch 9 = .ok (.iload_n 2, 1) := by decide +kernel
theorem dX6_nightsToSearch_10 : decode cX6_nightsToSearch 10 = .ok (.iconst 0, 1) := by decide +kernel
theorem dX6_nightsToSearch_11 : decode cX6_nightsToSearch 11 = .ok (.ldc 37, 2) := by decide +kernel
theorem dX6_nightsToSearch_13 : decode cX6_nightsToSearch 13 = .ok (.invokestatic 38, 3) := by decide +kernel
theorem dX6_nightsToSearch_16 : decode cX6_nightsToSearch 16 = .ok (.aload_n 3, 1) := by decide +kernel
theorem dX6_nightsToSearch_17 : decode cX6_nightsToSearch 17 = .ok (.areturn, 1) := by decide +kernel
theorem dX6_isHidden_0 : decode cX6_isHidden 0 = .ok (.iload_n 1, 1) := by decide +kernel
theorem dX6_isHidden_1 : decode cX6_isHidden 1 = .ok (.ifCond .lt 25, 3) := by decide +kernel
theorem dX6_isHidden_4 : decode cX6_isHidden 4 = .ok (.iload_n 1, 1) := by decide +kernel
theorem dX6_isHidden_5 : decode cX6_isHidden 5 = .ok (.aload_n 0, 1) := by decide +kernel
theorem dX6_isHidden_6 : decode cX6_isHidden 6 = .ok (.getfield 22, 3) := by decide +kernel
theorem dX6_isHidden_9 : decode cX6_isHidden 9 = .ok (.arraylength, 1) := by decide +kernel
theorem dX6_isHidden_10 : decode cX6_isHidden 10 = .ok (.if_icmp .ge 16, 3) := by decide +kernel
theorem dX6_isHidden_13 : decode cX6_isHidden 13 = .ok (.aload_n 0, 1) := by decide +kernel
theorem dX6_isHidden_14 : decode cX6_isHidden 14 = .ok (.getfield 22, 3) := by decide +kernel
theorem dX6_isHidden_17 : decode cX6_isHidden 17 = .ok (.iload_n 1, 1) := by decide +kernel
theorem dX6_isHidden_18 : decode cX6_isHidden 18 = .ok (.baload, 1) := by decide +kernel
theorem dX6_isHidden_19 : decode cX6_isHidden 19 = .ok (.ifCond .eq 7, 3) := by decide +kernel
theorem dX6_isHidden_22 : decode cX6_isHidden 22 = .ok (.iconst 1, 1) := by decide +kernel
theorem dX6_isHidden_23 : decode cX6_isHidden 23 = .ok (.goto 4, 3) := by decide +kernel
theorem dX6_isHidden_26 : decode cX6_isHidden 26 = .ok (.iconst 0, 1) := by decide +kernel
theorem dX6_isHidden_27 : decode cX6_isHidden 27 = .ok (.ireturn, 1) := by decide +kernel
theorem dX6_hide_0 : decode cX6_hide 0 = .ok (.iload_n 1, 1) := by decide +kernel
theorem dX6_hide_1 : decode cX6_hide 1 = .ok (.ifCond .lt 29, 3) := by decide +kernel
theorem dX6_hide_4 : decode cX6_hide 4 = .ok (.iload_n 1, 1) := by decide +kernel
theorem dX6_hide_5 : decode cX6_hide 5 = .ok (.aload_n 0, 1) := by decide +kernel
theorem dX6_hide_6 : decode cX6_hide 6 = .ok (.getfield 22, 3) := by decide +kernel
theorem dX6_hide_9 : decode cX6_hide 9 = .ok (.arraylength, 1) := by decide +kernel
theorem dX6_hide_10 : decode cX6_hide 10 = .ok (.if_icmp .ge 20, 3) := by decide +kernel
theorem dX6_hide_13 : decode cX6_hide 13 = .ok (.aload_n 0, 1) := by decide +kernel
theorem dX6_hide_14 : decode cX6_hide 14 = .ok (.getfield 22, 3) := by decide +kernel
theorem dX6_hide_17 : decode cX6_hide 17 = .ok (.iload_n 1, 1) := by decide +kernel
theorem dX6_hide_18 : decode cX6_hide 18 = .ok (.iconst 1, 1) := by decide +kernel
theorem dX6_hide_19 : decode cX6_hide 19 = .ok (.bastore, 1) := by decide +kernel
theorem dX6_hide_20 : decode cX6_hide 20 = .ok (.aload_n 0, 1) := by decide +kernel
theorem dX6_hide_21 : decode cX6_hide 21 = .ok (.dup, 1) := by decide +kernel
theorem dX6_hide_22 : decode cX6_hide 22 = .ok (.getfield 26, 3) := by decide +kernel
theorem dX6_hide_25 : decode cX6_hide 25 = .ok (.iconst 1, 1) := by decide +kernel
theorem dX6_hide_26 : decode cX6_hide 26 = .ok (.iadd, 1) := by decide +kernel
theorem dX6_hide_27 : decode cX6_hide 27 = .ok (.putfield 26, 3) := by decide +kernel
theorem dX6_hide_30 : decode cX6_hide 30 = .ok (.return_, 1) := by decide +kernel
theorem dX6_periodToTell_0 : decode cX6_periodToTell 0 = .ok (.aload_n 0, 1) := by decide +kernel
theorem dX6_periodToTell_1 : decode cX6_periodToTell 1 = .ok (.aload_n 1, 1) := by decide +kernel
theorem dX6_periodToTell_2 : decode cX6_periodToTell 2 = .ok (.iload_n 2, 1) := by decide +kernel
theorem dX6_periodToTell_3 : decode cX6_periodToTell 3 = .ok (.invokevirtual 155, 3) := by decide +kernel
theorem dX6_periodToTell_6 : decode cX6_periodToTell 6 = .ok (.istore_n 3, 1) := by decide +kernel
theorem dX6_periodToTell_7 : decode cX6_periodToTell 7 = .ok (.iload_n 3, 1) := by decide +kernel
theorem dX6_periodToTell_8 : decode cX6_periodToTell 8 = .ok (.iconst (-1), 1) := by decide +kernel
theorem dX6_periodToTell_9 : decode cX6_periodToTell 9 = .ok (.if_icmp .ne 13, 3) := by decide +kernel
theorem dX6_periodToTell_12 : decode cX6_periodToTell 12 = .ok (.new 46, 3) := by decide +kernel
theorem dX6_periodToTell_15 : decode cX6_periodToTell 15 = .ok (.dup, 1) := by decide +kernel
theorem dX6_periodToTell_16 : decode cX6_periodToTell 16 = .ok (.ldc 244, 2) := by decide +kernel
theorem dX6_periodToTell_18 : decode cX6_periodToTell 18 = .ok (.invokespecial 50, 3) := by decide +kernel
theorem dX6_periodToTell_21 : decode cX6_periodToTell 21 = .ok (.athrow, 1) := by decide +kernel
theorem dX6_periodToTell_22 : decode cX6_periodToTell 22 = .ok (.iload_n 3, 1) := by decide +kernel
theorem dX6_periodToTell_23 : decode cX6_periodToTell 23 = .ok (.ireturn, 1) := by decide +kernel
theorem dX6_bestPeriod_0 : decode cX6_bestPeriod 0 = .ok (.iconst (-1), 1) := by decide +kernel
theorem dX6_bestPeriod_1 : decode cX6_bestPeriod 1 = .ok (.istore_n 3, 1) := by decide +kernel
theorem dX6_bestPeriod_2 : decode cX6_bestPeriod 2 = .ok (.aload_n 1, 1) := by decide +kernel
theorem dX6_bestPeriod_3 : decode cX6_bestPeriod 3 = .ok (.getfield 117, 3) := by decide +kernel
theorem dX6_bestPeriod_6 : decode cX6_bestPeriod 6 = .ok (.bipush 20, 2) := by decide +kernel
theorem dX6_bestPeriod_8 : decode cX6_bestPeriod 8 = .ok (.if_icmp .ge 5, 3) := by decide +kernel
theorem dX6_bestPeriod_11 : decode cX6_bestPeriod 11 = .ok (.iload_n 3, 1) := by decide +kernel
theorem dX6_bestPeriod_12 : decode cX6_bestPeriod 12 = .ok (.ireturn, 1) := by decide +kernel
theorem dX6_bestPeriod_13 : decode cX6_bestPeriod 13 = .ok (.iload_n 2, 1) := by decide +kernel
theorem dX6_bestPeriod_14 : decode cX6_bestPeriod 14 = .ok (.i2d, 1) := by decide +kernel
theorem dX6_bestPeriod_15 : decode cX6_bestPeriod 15 = .ok (.dstore 4, 2) := by decide +kernel
theorem dX6_bestPeriod_17 : decode cX6_bestPeriod 17 = .ok (.iconst 2, 1) := by decide +kernel
theorem dX6_bestPeriod_18 : decode cX6_bestPeriod 18 = .ok (.istore 6, 2) := by decide +kernel
theorem dX6_bestPeriod_20 : decode cX6_bestPeriod 20 = .ok (.iload 6, 2) := by decide +kernel
theorem dX6_bestPeriod_22 : decode cX6_bestPeriod 22 = .ok (.bipush 60, 2) := by decide +kernel
theorem dX6_bestPeriod_24 : decode cX6_bestPeriod 24 = .ok (.if_icmp .gt 50, 3) := by decide +kernel
theorem dX6_bestPeriod_27 : decode cX6_bestPeriod 27 = .ok (.aload_n 0, 1) := by decide +kernel
theorem dX6_bestPeriod_28 : decode cX6_bestPeriod 28 = .ok (.getfield 33, 3) := by decide +kernel
theorem dX6_bestPeriod_31 : decode cX6_bestPeriod 31 = .ok (.iload 6, 2) := by decide +kernel
theorem dX6_bestPeriod_33 : decode cX6_bestPeriod 33 = .ok (.aload_n 1, 1) := by decide +kernel
theorem dX6_bestPeriod_34 : decode cX6_bestPeriod 34 = .ok (.invokevirtual 138, 3) := by decide +kernel
theorem dX6_bestPeriod_37 : decode cX6_bestPeriod 37 = .ok (.aload_n 0, 1) := by decide +kernel
theorem dX6_bestPeriod_38 : decode cX6_bestPeriod 38 = .ok (.getfield 33, 3) := by decide +kernel
theorem dX6_bestPeriod_41 : decode cX6_bestPeriod 41 = .ok (.aload_n 0, 1) := by decide +kernel
theorem dX6_bestPeriod_42 : decode cX6_bestPeriod 42 = .ok (.getfield 33, 3) := by decide +kernel
theorem dX6_bestPeriod_45 : decode cX6_bestPeriod 45 = .ok (.invokevirtual 142, 3) := by decide +kernel
theorem dX6_bestPeriod_48 : decode cX6_bestPeriod 48 = .ok (.invokevirtual 145, 3) := by decide +kernel
theorem dX6_bestPeriod_51 : decode cX6_bestPeriod 51 = .ok (.dstore 7, 2) := by decide +kernel
theorem dX6_bestPeriod_53 : decode cX6_bestPeriod 53 = .ok (.dload 7, 2) := by decide +kernel
theorem dX6_bestPeriod_55 : decode cX6_bestPeriod 55 = .ok (.dload 4, 2) := by decide +kernel
theorem dX6_bestPeriod_57 : decode cX6_bestPeriod 57 = .ok (.dcmp .l, 1) := by decide +kernel
theorem dX6_bestPeriod_58 : decode cX6_bestPeriod 58 = .ok (.ifCond .le 10, 3) := by decide +kernel
theorem dX6_bestPeriod_61 : decode cX6_bestPeriod 61 = .ok (.dload 7, 2) := by decide +kernel
theorem dX6_bestPeriod_63 : decode cX6_bestPeriod 63 = .ok (.dstore 4, 2) := by decide +kernel
theorem dX6_bestPeriod_65 : decode cX6_bestPeriod 65 = .ok (.iload 6, 2) := by decide +kernel
theorem dX6_bestPeriod_67 : decode cX6_bestPeriod 67 = .ok (.istore_n 3, 1) := by decide +kernel
theorem dX6_bestPeriod_68 : decode cX6_bestPeriod 68 = .ok (.iinc 6 1, 3) := by decide +kernel
theorem dX6_bestPeriod_71 : decode cX6_bestPeriod 71 = .ok (.goto (-51), 3) := by decide +kernel
theorem dX6_bestPeriod_74 : decode cX6_bestPeriod 74 = .ok (.iload_n 3, 1) := by decide +kernel
theorem dX6_bestPeriod_75 : decode cX6_bestPeriod 75 = .ok (.ireturn, 1) := by decide +kernel
theorem dX6_letPapersFall_0 : decode cX6_letPapersFall 0 = .ok (.iconst 0, 1) := by decide +kernel
theorem dX6_letPapersFall_1 : decode cX6_letPapersFall 1 = .ok (.istore_n 1, 1) := by decide +kernel
theorem dX6_letPapersFall_2 : decode cX6_letPapersFall 2 = .ok (.iconst 0, 1) := by decide +kernel
theorem dX6_letPapersFall_3 : decode cX6_letPapersFall 3 = .ok (.istore_n 2, 1) := by decide +kernel
theorem dX6_letPapersFall_4 : decode cX6_letPapersFall 4 = .ok (.iload_n 2, 1) := by decide +kernel
theorem dX6_letPapersFall_5 : decode cX6_letPapersFall 5 = .ok (.aload_n 0, 1) := by decide +kernel
theorem dX6_letPapersFall_6 : decode cX6_letPapersFall 6 = .ok (.getfield 19, 3) := by decide +kernel
theorem dX6_letPapersFall_9 : decode cX6_letPapersFall 9 = .ok (.invokevirtual 42, 3) := by decide +kernel
theorem dX6_letPapersFall_12 : decode cX6_letPapersFall 12 = .ok (.if_icmp .ge 43, 3) := by decide +kernel
theorem dX6_letPapersFall_15 : decode cX6_letPapersFall 15 = .ok (.aload_n 0, 1) := by decide +kernel
theorem dX6_letPapersFall_16 : decode cX6_letPapersFall 16 = .ok (.getfield 19, 3) := by decide +kernel
theorem dX6_letPapersFall_19 : decode cX6_letPapersFall 19 = .ok (.iload_n 2, 1) := by decide +kernel
theorem dX6_letPapersFall_20 : decode cX6_letPapersFall 20 = .ok (.invokevirtual 225, 3) := by decide +kernel
theorem dX6_letPapersFall_23 : decode cX6_letPapersFall 23 = .ok (.checkcast 199, 3) := by decide +kernel
theorem dX6_letPapersFall_26 : decode cX6_letPapersFall 26 = .ok (.astore_n 3, 1) := by decide +kernel
theorem dX6_letPapersFall_27 : decode cX6_letPapersFall 27 = .ok (.aload_n 3, 1) := by decide +kernel
theorem dX6_letPapersFall_28 : decode cX6_letPapersFall 28 = .ok (.getfield 217, 3) := by decide +kernel
theorem dX6_letPapersFall_31 : decode cX6_letPapersFall 31 = .ok (.ifCond .ne 18, 3) := by decide +kernel
theorem dX6_letPapersFall_34 : decode cX6_letPapersFall 34 = .ok (.aload_n 3, 1) := by decide +kernel
theorem dX6_letPapersFall_35 : decode cX6_letPapersFall 35 = .ok (.invokevirtual 204, 3) := by decide +kernel
theorem dX6_letPapersFall_38 : decode cX6_letPapersFall 38 = .ok (.ifCond .eq 11, 3) := by decide +kernel
theorem dX6_letPapersFall_41 : decode cX6_letPapersFall 41 = .ok (.aload_n 3, 1) := by decide +kernel
theorem dX6_letPapersFall_42 : decode cX6_letPapersFall 42 = .ok (.iconst 1, 1) := by decide +kernel
theorem dX6_letPapersFall_43 : decode cX6_letPapersFall 43 = .ok (.putfield 217, 3) := by decide +kernel
theorem dX6_letPapersFall_46 : decode cX6_letPapersFall 46 = .ok (.iinc 1 1, 3) := by decide +kernel
theorem dX6_letPapersFall_49 : decode cX6_letPapersFall 49 = .ok (.iinc 2 1, 3) := by decide +kernel
theorem dX6_letPapersFall_52 : decode cX6_letPapersFall 52 = .ok (.goto (-48), 3) := by decide +kernel
theorem dX6_letPapersFall_55 : decode cX6_letPapersFall 55 = .ok (.iload_n 1, 1) := by decide +kernel
theorem dX6_letPapersFall_56 : decode cX6_letPapersFall 56 = .ok (.ireturn, 1) := by decide +kernel
theorem dX6_bitsOf_0 : decode cX6_bitsOf 0 = .ok (.dload_n 0, 1) := by decide +kernel
theorem dX6_bitsOf_1 : decode cX6_bitsOf 1 = .ok (.dconst 0, 1) := by decide +kernel
theorem dX6_bitsOf_2 : decode cX6_bitsOf 2 = .ok (.dcmp .l, 1) := by decide +kernel
theorem dX6_bitsOf_3 : decode cX6_bitsOf 3 = .ok (.ifCond .ne 5, 3) := by decide +kernel
theorem dX6_bitsOf_6 : decode cX6_bitsOf 6 = .ok (.lconst 0, 1) := by decide +kernel
theorem dX6_bitsOf_7 : decode cX6_bitsOf 7 = .ok (.lreturn, 1) := by decide +kernel
theorem dX6_bitsOf_8 : decode cX6_bitsOf 8 = .ok (.dload_n 0, 1) := by decide +kernel
theorem dX6_bitsOf_9 : decode cX6_bitsOf 9 = .ok (.dconst 0, 1) := by decide +kernel
theorem dX6_bitsOf_10 : decode cX6_bitsOf 10 = .ok (.dcmp .g, 1) := by decide +kernel
theorem dX6_bitsOf_11 : decode cX6_bitsOf 11 = .ok (.ifCond .ge 9, 3) := by decide +kernel
theorem dX6_bitsOf_14 : decode cX6_bitsOf 14 = .ok (.ldc2_w 248, 3) := by decide +kernel
theorem dX6_bitsOf_17 : decode cX6_bitsOf 17 = .ok (.goto 4, 3) := by decide +kernel
theorem dX6_bitsOf_20 : decode cX6_bitsOf 20 = .ok (.lconst 0, 1) := by decide +kernel
theorem dX6_bitsOf_21 : decode cX6_bitsOf 21 = .ok (.lstore_n 2, 1) := by decide +kernel
theorem dX6_bitsOf_22 : decode cX6_bitsOf 22 = .ok (.dload_n 0, 1) := by decide +kernel
theorem dX6_bitsOf_23 : decode cX6_bitsOf 23 = .ok (.dconst 0, 1) := by decide +kernel
theorem dX6_bitsOf_24 : decode cX6_bitsOf 24 = .ok (.dcmp .g, 1) := by decide +kernel
theorem dX6_bitsOf_25 : decode cX6_bitsOf 25 = .ok (.ifCond .ge 8, 3) := by decide +kernel
theorem dX6_bitsOf_28 : decode cX6_bitsOf 28 = .ok (.dload_n 0, 1) := by decide +kernel
theorem dX6_bitsOf_29 : decode cX6_bitsOf 29 = .ok (.dneg, 1) := by decide +kernel
theorem dX6_bitsOf_30 : decode cX6_bitsOf 30 = .ok (.goto 4, 3) := by decide +kernel
theorem dX6_bitsOf_33 : decode cX6_bitsOf 33 = .ok (.dload_n 0, 1) := by decide +kernel
theorem dX6_bitsOf_34 : decode cX6_bitsOf 34 = .ok (.dstore 4, 2) := by decide +kernel
theorem dX6_bitsOf_36 : decode cX6_bitsOf 36 = .ok (.ldc2_w 250, 3) := by decide +kernel
theorem dX6_bitsOf_39 : decode cX6_bitsOf 39 = .ok (.lstore 6, 2) := by decide +kernel
theorem dX6_bitsOf_41 : decode cX6_bitsOf 41 = .ok (.iconst 0, 1) := by decide +kernel
theorem dX6_bitsOf_42 : decode cX6_bitsOf 42 = .ok (.istore 8, 2) := by decide +kernel
theorem dX6_bitsOf_44 : decode cX6_bitsOf 44 = .ok (.iload 8, 2) := by decide +kernel
theorem dX6_bitsOf_46 : decode cX6_bitsOf 46 = .ok (.sipush 1023, 3) := by decide +kernel
theorem dX6_bitsOf_49 : decode cX6_bitsOf 49 = .ok (.if_icmp .ge 32, 3) := by decide +kernel
theorem dX6_bitsOf_52 : decode cX6_bitsOf 52 = .ok (.dload 4, 2) := by decide +kernel
theorem dX6_bitsOf_54 : decode cX6_bitsOf 54 = .ok (.ldc2_w 252, 3) := by decide +kernel
theorem dX6_bitsOf_57 : decode cX6_bitsOf 57 = .ok (.dcmp .l, 1) := by decide +kernel
theorem dX6_bitsOf_58 : decode cX6_bitsOf 58 = .ok (.ifCond .lt 23, 3) := by decide +kernel
theorem dX6_bitsOf_61 : decode cX6_bitsOf 61 = .ok (.dload 4, 2) := by decide +kernel
theorem dX6_bitsOf_63 : decode cX6_bitsOf 63 = .ok (.ldc2_w 252, 3) := by decide +kernel
theorem dX6_bitsOf_66 : decode cX6_bitsOf 66 = .ok (.ddiv, 1) := by decide +kernel
theorem dX6_bitsOf_67 : decode cX6_bitsOf 67 = .ok (.dstore 4, 2) := by decide +kernel
theorem dX6_bitsOf_69 : decode cX6_bitsOf 69 = .ok (.lload 6, 2) := by decide +kernel
theorem dX6_bitsOf_71 : decode cX6_bitsOf 71 = .ok (.lconst 1, 1) := by decide +kernel
theorem dX6_bitsOf_72 : decode cX6_bitsOf 72 = .ok (.ladd, 1) := by decide +kernel
theorem dX6_bitsOf_73 : decode cX6_bitsOf 73 = .ok (.lstore 6, 2) := by decide +kernel
theorem dX6_bitsOf_75 : decode cX6_bitsOf 75 = .ok (.iinc 8 1, 3) := by decide +kernel
theorem dX6_bitsOf_78 : decode cX6_bitsOf 78 = .ok (.goto (-34), 3) := by decide +kernel
theorem dX6_bitsOf_81 : decode cX6_bitsOf 81 = .ok (.iconst 0, 1) := by decide +kernel
theorem dX6_bitsOf_82 : decode cX6_bitsOf 82 = .ok (.istore 8, 2) := by decide +kernel
theorem dX6_bitsOf_84 : decode cX6_bitsOf 84 = .ok (.iload 8, 2) := by decide +kernel
theorem dX6_bitsOf_86 : decode cX6_bitsOf 86 = .ok (.sipush 1022, 3) := by decide +kernel
theorem dX6_bitsOf_89 : decode cX6_bitsOf 89 = .ok (.if_icmp .ge 30, 3) := by decide +kernel
theorem dX6_bitsOf_92 : decode cX6_bitsOf 92 = .ok (.dload 4, 2) := by decide +kernel
theorem dX6_bitsOf_94 : decode cX6_bitsOf 94 = .ok (.dconst 1, 1) := by decide +kernel
theorem dX6_bitsOf_95 : decode cX6_bitsOf 95 = .ok (.dcmp .g, 1) := by decide +kernel
theorem dX6_bitsOf_96 : decode cX6_bitsOf 96 = .ok (.ifCond .ge 23, 3) := by decide +kernel
theorem dX6_bitsOf_99 : decode cX6_bitsOf 99 = .ok (.dload 4, 2) := by decide +kernel
theorem dX6_bitsOf_101 : decode cX6_bitsOf 101 = .ok (.ldc2_w 252, 3) := by decide +kernel
theorem dX6_bitsOf_104 : decode cX6_bitsOf 104 = .ok (.dmul, 1) := by decide +kernel
theorem dX6_bitsOf_105 : decode cX6_bitsOf 105 = .ok (.dstore 4, 2) := by decide +kernel
theorem dX6_bitsOf_107 : decode cX6_bitsOf 107 = .ok (.lload 6, 2) := by decide +kernel
theorem dX6_bitsOf_109 : decode cX6_bitsOf 109 = .ok (.lconst 1, 1) := by decide +kernel
theorem dX6_bitsOf_110 : decode cX6_bitsOf 110 = .ok (.lsub, 1) := by decide +kernel
theorem dX6_bitsOf_111 : decode cX6_bitsOf 111 = .ok (.lstore 6, 2) := by decide +kernel
theorem dX6_bitsOf_113 : decode cX6_bitsOf 113 = .ok (.iinc 8 1, 3) := by decide +kernel
theorem dX6_bitsOf_116 : decode cX6_bitsOf 116 = .ok (.goto (-32), 3) := by decide +kernel
theorem dX6_bitsOf_119 : decode cX6_bitsOf 119 = .ok (.dload 4, 2) := by decide +kernel
theorem dX6_bitsOf_121 : decode cX6_bitsOf 121 = .ok (.dconst 1, 1) := by decide +kernel
theorem dX6_bitsOf_122 : decode cX6_bitsOf 122 = .ok (.dsub, 1) := by decide +kernel
theorem dX6_bitsOf_123 : decode cX6_bitsOf 123 = .ok (.ldc2_w 254, 3) := by decide +kernel
theorem dX6_bitsOf_126 : decode cX6_bitsOf 126 = .ok (.dmul, 1) := by decide +kernel
theorem dX6_bitsOf_127 : decode cX6_bitsOf 127 = .ok (.d2l, 1) := by decide +kernel
theorem dX6_bitsOf_128 : decode cX6_bitsOf 128 = .ok (.lstore 8, 2) := by decide +kernel
theorem dX6_bitsOf_130 : decode cX6_bitsOf 130 = .ok (.lload_n 2, 1) := by decide +kernel
theorem dX6_bitsOf_131 : decode cX6_bitsOf 131 = .ok (.lload 6, 2) := by decide +kernel
theorem dX6_bitsOf_133 : decode cX6_bitsOf 133 = .ok (.bipush 52, 2) := by decide +kernel
theorem dX6_bitsOf_135 : decode cX6_bitsOf 135 = .ok (.lshl, 1) := by decide +kernel
theorem dX6_bitsOf_136 : decode cX6_bitsOf 136 = .ok (.lor, 1) := by decide +kernel
theorem dX6_bitsOf_137 : decode cX6_bitsOf 137 = .ok (.lload 8, 2) := by decide +kernel
theorem dX6_bitsOf_139 : decode cX6_bitsOf 139 = .ok (.lor, 1) := by decide +kernel
theorem dX6_bitsOf_140 : decode cX6_bitsOf 140 = .ok (.lreturn, 1) := by decide +kernel
theorem dJ9_floorMod_7cf53_0 : decode cJ9_floorMod_7cf53 0 = .ok (.iload_n 0, 1) := by decide +kernel
theorem dJ9_floorMod_7cf53_1 : decode cJ9_floorMod_7cf53 1 = .ok (.iload_n 1, 1) := by decide +kernel
theorem dJ9_floorMod_7cf53_2 : decode cJ9_floorMod_7cf53 2 = .ok (.irem, 1) := by decide +kernel
theorem dJ9_floorMod_7cf53_3 : decode cJ9_floorMod_7cf53 3 = .ok (.istore_n 2, 1) := by decide +kernel
theorem dJ9_floorMod_7cf53_4 : decode cJ9_floorMod_7cf53 4 = .ok (.iload_n 0, 1) := by decide +kernel
theorem dJ9_floorMod_7cf53_5 : decode cJ9_floorMod_7cf53 5 = .ok (.iload_n 1, 1) := by decide +kernel
theorem dJ9_floorMod_7cf53_6 : decode cJ9_floorMod_7cf53 6 = .ok (.ixor, 1) := by decide +kernel
theorem dJ9_floorMod_7cf53_7 : decode cJ9_floorMod_7cf53 7 = .ok (.ifCond .ge 11, 3) := by decide +kernel
theorem dJ9_floorMod_7cf53_10 : decode cJ9_floorMod_7cf53 10 = .ok (.iload_n 2, 1) := by decide +kernel
theorem dJ9_floorMod_7cf53_11 : decode cJ9_floorMod_7cf53 11 = .ok (.ifCond .eq 7, 3) := by decide +kernel
theorem dJ9_floorMod_7cf53_14 : decode cJ9_floorMod_7cf53 14 = .ok (.iload_n 2, 1) := by decide +kernel
theorem dJ9_floorMod_7cf53_15 : decode cJ9_floorMod_7cf53 15 = .ok (.iload_n 1, 1) := by decide +kernel
theorem dJ9_floorMod_7cf53_16 : decode cJ9_floorMod_7cf53 16 = .ok (.iadd, 1) := by decide +kernel
theorem dJ9_floorMod_7cf53_17 : decode cJ9_floorMod_7cf53 17 = .ok (.ireturn, 1) := by decide +kernel
theorem dJ9_floorMod_7cf53_18 : decode cJ9_floorMod_7cf53 18 = .ok (.iload_n 2, 1) := by decide +kernel
theorem dJ9_floorMod_7cf53_19 : decode cJ9_floorMod_7cf53 19 = .ok (.ireturn, 1) := by decide +kernel
theorem dJ9_max_7cf53_0 : decode cJ9_max_7cf53 0 = .ok (.iload_n 0, 1) := by decide +kernel
theorem dJ9_max_7cf53_1 : decode cJ9_max_7cf53 1 = .ok (.iload_n 1, 1) := by decide +kernel
theorem dJ9_max_7cf53_2 : decode cJ9_max_7cf53 2 = .ok (.if_icmp .lt 7, 3) := by decide +kernel
theorem dJ9_max_7cf53_5 : decode cJ9_max_7cf53 5 = .ok (.iload_n 0, 1) := by decide +kernel
theorem dJ9_max_7cf53_6 : decode cJ9_max_7cf53 6 = .ok (.goto 4, 3) := by decide +kernel
theorem dJ9_max_7cf53_9 : decode cJ9_max_7cf53 9 = .ok (.iload_n 1, 1) := by decide +kernel
theorem dJ9_max_7cf53_10 : decode cJ9_max_7cf53 10 = .ok (.ireturn, 1) := by decide +kernel
theorem dJ9_min_7cf53_0 : decode cJ9_min_7cf53 0 = .ok (.iload_n 0, 1) := by decide +kernel
theorem dJ9_min_7cf53_1 : decode cJ9_min_7cf53 1 = .ok (.iload_n 1, 1) := by decide +kernel
theorem dJ9_min_7cf53_2 : decode cJ9_min_7cf53 2 = .ok (.if_icmp .gt 7, 3) := by decide +kernel
theorem dJ9_min_7cf53_5 : decode cJ9_min_7cf53 5 = .ok (.iload_n 0, 1) := by decide +kernel
theorem dJ9_min_7cf53_6 : decode cJ9_min_7cf53 6 = .ok (.goto 4, 3) := by decide +kernel
theorem dJ9_min_7cf53_9 : decode cJ9_min_7cf53 9 = .ok (.iload_n 1, 1) := by decide +kernel
theorem dJ9_min_7cf53_10 : decode cJ9_min_7cf53 10 = .ok (.ireturn, 1) := by decide +kernel
theorem dJxa1e45_init_da8c8_0 : decode cJxa1e45_init_da8c8 0 = .ok (.aload_n 0, 1) := by decide +kernel
theorem dJxa1e45_init_da8c8_1 : decode cJxa1e45_init_da8c8 1 = .ok (.invokespecial 1, 3) := by decide +kernel
theorem dJxa1e45_init_da8c8_4 : decode cJxa1e45_init_da8c8 4 = .ok (.return_, 1) := by decide +kernel
theorem dJxc12de_init_da8c8_0 : decode cJxc12de_init_da8c8 0 = .ok (.aload_n 0, 1) := by decide +kernel
theorem dJxc12de_init_da8c8_1 : decode cJxc12de_init_da8c8 1 = .ok (.invokespecial 1, 3) := by decide +kernel
theorem dJxc12de_init_da8c8_4 : decode cJxc12de_init_da8c8 4 = .ok (.aload_n 0, 1) := by decide +kernel
theorem dJxc12de_init_da8c8_5 : decode cJxc12de_init_da8c8 5 = .ok (.iconst 0, 1) := by decide +kernel
theorem dJxc12de_init_da8c8_6 : decode cJxc12de_init_da8c8 6 = .ok (.putfield 7, 3) := by decide +kernel
theorem dJxc12de_init_da8c8_9 : decode cJxc12de_init_da8c8 9 = .ok (.return_, 1) := by decide +kernel
theorem dJx4a65c_init_da8c8_0 : decode cJx4a65c_init_da8c8 0 = .ok (.aload_n 0, 1) := by decide +kernel
theorem dJx4a65c_init_da8c8_1 : decode cJx4a65c_init_da8c8 1 = .ok (.invokespecial 1, 3) := by decide +kernel
theorem dJx4a65c_init_da8c8_4 : decode cJx4a65c_init_da8c8 4 = .ok (.aload_n 0, 1) := by decide +kernel
theorem dJx4a65c_init_da8c8_5 : decode cJx4a65c_init_da8c8 5 = .ok (.getstatic 39, 3) := by decide +kernel
theorem dJx4a65c_init_da8c8_8 : decode cJx4a65c_init_da8c8 8 = .ok (.putfield 9, 3) := by decide +kernel
theorem dJx4a65c_init_da8c8_11 : decode cJx4a65c_init_da8c8 11 = .ok (.return_, 1) := by decide +kernel
theorem dJx4a65c_grow_92f84_0 : decode cJx4a65c_grow_92f84 0 = .ok (.aload_n 0, 1) := by decide +kernel
theorem dJx4a65c_grow_92f84_1 : decode cJx4a65c_grow_92f84 1 = .ok (.getfield 9, 3) := by decide +kernel
theorem dJx4a65c_grow_92f84_4 : decode cJx4a65c_grow_92f84 4 = .ok (.arraylength, 1) := by decide +kernel
theorem dJx4a65c_grow_92f84_5 : decode cJx4a65c_grow_92f84 5 = .ok (.istore_n 2, 1) := by decide +kernel
theorem dJx4a65c_grow_92f84_6 : decode cJx4a65c_grow_92f84 6 = .ok (.iload_n 2, 1) := by decide +kernel
theorem dJx4a65c_grow_92f84_7 : decode cJx4a65c_grow_92f84 7 = .ok (.ifCond .gt 13, 3) := by decide +kernel
theorem dJx4a65c_grow_92f84_10 : decode cJx4a65c_grow_92f84 10 = .ok (.aload_n 0, 1) := by decide +kernel
theorem dJx4a65c_grow_92f84_11 : decode cJx4a65c_grow_92f84 11 = .ok (.getfield 9, 3) := by decide +kernel
theorem dJx4a65c_grow_92f84_14 : decode cJx4a65c_grow_92f84 14 = .ok (.getstatic 39, 3) := by decide +kernel
theorem dJx4a65c_grow_92f84_17 : decode cJx4a65c_grow_92f84 17 = .ok (.if_acmp .eq 28, 3) := by decide +kernel
theorem dJx4a65c_grow_92f84_20 : decode cJx4a65c_grow_92f84 20 = .ok (.iload_n 2, 1) := by decide +kernel
theorem dJx4a65c_grow_92f84_21 : decode cJx4a65c_grow_92f84 21 = .ok (.iload_n 1, 1) := by decide +kernel
theorem dJx4a65c_grow_92f84_22 : decode cJx4a65c_grow_92f84 22 = .ok (.iload_n 2, 1) := by decide +kernel
theorem dJx4a65c_grow_92f84_23 : decode cJx4a65c_grow_92f84 23 = .ok (.isub, 1) := by decide +kernel
theorem dJx4a65c_grow_92f84_24 : decode cJx4a65c_grow_92f84 24 = .ok (.iload_n 2, 1) := by decide +kernel
theorem dJx4a65c_grow_92f84_25 : decode cJx4a65c_grow_92f84 25 = .ok (.iconst 1, 1) := by decide +kernel
theorem dJx4a65c_grow_92f84_26 : decode cJx4a65c_grow_92f84 26 = .ok (.ishr, 1) := by decide +kernel
theorem dJx4a65c_grow_92f84_27 : decode cJx4a65c_grow_92f84 27 = .ok (.invokestatic 73, 3) := by decide +kernel
theorem dJx4a65c_grow_92f84_30 : decode cJx4a65c_grow_92f84 30 = .ok (.istore_n 3, 1) := by decide +kernel
theorem dJx4a65c_grow_92f84_31 : decode cJx4a65c_grow_92f84 31 = .ok (.aload_n 0, 1) := by decide +kernel
theorem dJx4a65c_grow_92f84_32 : decode cJx4a65c_grow_92f84 32 = .ok (.aload_n 0, 1) := by decide +kernel
theorem dJx4a65c_grow_92f84_33 : decode cJx4a65c_grow_92f84 33 = .ok (.getfield 9, 3) := by decide +kernel
theorem dJx4a65c_grow_92f84_36 : decode cJx4a65c_grow_92f84 36 = .ok (.iload_n 3, 1) := by decide +kernel
theorem dJx4a65c_grow_92f84_37 : decode cJx4a65c_grow_92f84 37 = .ok (.invokestatic 66, 3) := by decide +kernel
theorem dJx4a65c_grow_92f84_40 : decode cJx4a65c_grow_92f84 40 = .ok (.dup_x1, 1) := by decide +kernel
theorem dJx4a65c_grow_92f84_41 : decode cJx4a65c_grow_92f84 41 = .ok (.putfield 9, 3) := by decide +kernel
theorem dJx4a65c_grow_92f84_44 : decode cJx4a65c_grow_92f84 44 = .ok (.areturn, 1) := by decide +kernel
theorem dJx4a65c_grow_92f84_45 : decode cJx4a65c_grow_92f84 45 = .ok (.aload_n 0, 1) := by decide +kernel
theorem dJx4a65c_grow_92f84_46 : decode cJx4a65c_grow_92f84 46 = .ok (.bipush 10, 2) := by decide +kernel
theorem dJx4a65c_grow_92f84_48 : decode cJx4a65c_grow_92f84 48 = .ok (.iload_n 1, 1) := by decide +kernel
theorem dJx4a65c_grow_92f84_49 : decode cJx4a65c_grow_92f84 49 = .ok (.invokestatic 79, 3) := by decide +kernel
theorem dJx4a65c_grow_92f84_52 : decode cJx4a65c_grow_92f84 52 = .ok (.anewarray 7, 3) := by decide +kernel
theorem dJx4a65c_grow_92f84_55 : decode cJx4a65c_grow_92f84 55 = .ok (.dup_x1, 1) := by decide +kernel
theorem dJx4a65c_grow_92f84_56 : decode cJx4a65c_grow_92f84 56 = .ok (.putfield 9, 3) := by decide +kernel
theorem dJx4a65c_grow_92f84_59 : decode cJx4a65c_grow_92f84 59 = .ok (.areturn, 1) := by decide +kernel
theorem dJx4a65c_grow_d5877_0 : decode cJx4a65c_grow_d5877 0 = .ok (.aload_n 0, 1) := by decide +kernel
theorem dJx4a65c_grow_d5877_1 : decode cJx4a65c_grow_d5877 1 = .ok (.aload_n 0, 1) := by decide +kernel
theorem dJx4a65c_grow_d5877_2 : decode cJx4a65c_grow_d5877 2 = .ok (.getfield 48, 3) := by decide +kernel
theorem dJx4a65c_grow_d5877_5 : decode cJx4a65c_grow_d5877 5 = .ok (.iconst 1, 1) := by decide +kernel
theorem dJx4a65c_grow_d5877_6 : decode cJx4a65c_grow_d5877 6 = .ok (.iadd, 1) := by decide +kernel
theorem dJx4a65c_grow_d5877_7 : decode cJx4a65c_grow_d5877 7 = .ok (.invokevirtual 69, 3) := by decide +kernel
theorem dJx4a65c_grow_d5877_10 : decode cJx4a65c_grow_d5877 10 = .ok (.areturn, 1) := by decide +kernel
theorem dJx4a65c_size_8abf5_0 : decode cJx4a65c_size_8abf5 0 = .ok (.aload_n 0, 1) := by decide +kernel
theorem dJx4a65c_size_8abf5_1 : decode cJx4a65c_size_8abf5 1 = .ok (.getfield 48, 3) := by decide +kernel
theorem dJx4a65c_size_8abf5_4 : decode cJx4a65c_size_8abf5 4 = .ok (.ireturn, 1) := by decide +kernel
theorem dJx4a65c_elementData_915e3_0 : decode cJx4a65c_elementData_915e3 0 = .ok (.aload_n 0, 1) := by decide +kernel
theorem dJx4a65c_elementData_915e3_1 : decode cJx4a65c_elementData_915e3 1 = .ok (.getfield 9, 3) := by decide +kernel
theorem dJx4a65c_elementData_915e3_4 : decode cJx4a65c_elementData_915e3 4 = .ok (.iload_n 1, 1) := by decide +kernel
theorem dJx4a65c_elementData_915e3_5 : decode cJx4a65c_elementData_915e3 5 = .ok (.aaload, 1) := by decide +kernel
theorem dJx4a65c_elementData_915e3_6 : decode cJx4a65c_elementData_915e3 6 = .ok (.areturn, 1) := by decide +kernel
theorem dJx4a65c_get_915e3_0 : decode cJx4a65c_get_915e3 0 = .ok (.iload_n 1, 1) := by decide +kernel
theorem dJx4a65c_get_915e3_1 : decode cJx4a65c_get_915e3 1 = .ok (.aload_n 0, 1) := by decide +kernel
theorem dJx4a65c_get_915e3_2 : decode cJx4a65c_get_915e3 2 = .ok (.getfield 48, 3) := by decide +kernel
theorem dJx4a65c_get_915e3_5 : decode cJx4a65c_get_915e3 5 = .ok (.invokestatic 118, 3) := by decide +kernel
theorem dJx4a65c_get_915e3_8 : decode cJx4a65c_get_915e3 8 = .ok (.pop, 1) := by decide +kernel
theorem dJx4a65c_get_915e3_9 : decode cJx4a65c_get_915e3 9 = .ok (.aload_n 0, 1) := by decide +kernel
theorem dJx4a65c_get_915e3_10 : decode cJx4a65c_get_915e3 10 = .ok (.iload_n 1, 1) := by decide +kernel
theorem dJx4a65c_get_915e3_11 : decode cJx4a65c_get_915e3 11 = .ok (.invokevirtual 123, 3) := by decide +kernel
theorem dJx4a65c_get_915e3_14 : decode cJx4a65c_get_915e3 14 = .ok (.areturn, 1) := by decide +kernel
theorem dJx4a65c_add_72be8_0 : decode cJx4a65c_add_72be8 0 = .ok (.iload_n 3, 1) := by decide +kernel
theorem dJx4a65c_add_72be8_1 : decode cJx4a65c_add_72be8 1 = .ok (.aload_n 2, 1) := by decide +kernel
theorem dJx4a65c_add_72be8_2 : decode cJx4a65c_add_72be8 2 = .ok (.arraylength, 1) := by decide +kernel
theorem dJx4a65c_add_72be8_3 : decode cJx4a65c_add_72be8 3 = .ok (.if_icmp .ne 8, 3) := by decide +kernel
theorem dJx4a65c_add_72be8_6 : decode cJx4a65c_add_72be8 6 = .ok (.aload_n 0, 1) := by decide +kernel
theorem dJx4a65c_add_72be8_7 : decode cJx4a65c_add_72be8 7 = .ok (.invokevirtual 129, 3) := by decide +kernel
theorem dJx4a65c_add_72be8_10 : decode cJx4a65c_add_72be8 10 = .ok (.astore_n 2, 1) := by decide +kernel
theorem dJx4a65c_add_72be8_11 : decode cJx4a65c_add_72be8 11 = .ok (.aload_n 2, 1) := by decide +kernel
theorem dJx4a65c_add_72be8_12 : decode cJx4a65c_add_72be8 12 = .ok (.iload_n 3, 1) := by decide +kernel
theorem dJx4a65c_add_72be8_13 : decode cJx4a65c_add_72be8 13 = .ok (.aload_n 1, 1) := by decide +kernel
theorem dJx4a65c_add_72be8_14 : decode cJx4a65c_add_72be8 14 = .ok (.aastore, 1) := by decide +kernel
theorem dJx4a65c_add_72be8_15 : decode cJx4a65c_add_72be8 15 = .ok (.aload_n 0, 1) := by decide +kernel
theorem dJx4a65c_add_72be8_16 : decode cJx4a65c_add_72be8 16 = .ok (.iload_n 3, 1) := by decide +kernel
theorem dJx4a65c_add_72be8_17 : decode cJx4a65c_add_72be8 17 = .ok (.iconst 1, 1) := by decide +kernel
theorem dJx4a65c_add_72be8_18 : decode cJx4a65c_add_72be8 18 = .ok (.iadd, 1) := by decide +kernel
theorem dJx4a65c_add_72be8_19 : decode cJx4a65c_add_72be8 19 = .ok (.putfield 48, 3) := by decide +kernel
theorem dJx4a65c_add_72be8_22 : decode cJx4a65c_add_72be8 22 = .ok (.return_, 1) := by decide +kernel
theorem dJx4a65c_add_9ea2d_0 : decode cJx4a65c_add_9ea2d 0 = .ok (.aload_n 0, 1) := by decide +kernel
theorem dJx4a65c_add_9ea2d_1 : decode cJx4a65c_add_9ea2d 1 = .ok (.dup, 1) := by decide +kernel
theorem dJx4a65c_add_9ea2d_2 : decode cJx4a65c_add_9ea2d 2 = .ok (.getfield 63, 3) := by decide +kernel
theorem dJx4a65c_add_9ea2d_5 : decode cJx4a65c_add_9ea2d 5 = .ok (.iconst 1, 1) := by decide +kernel
theorem dJx4a65c_add_9ea2d_6 : decode cJx4a65c_add_9ea2d 6 = .ok (.iadd, 1) := by decide +kernel
theorem dJx4a65c_add_9ea2d_7 : decode cJx4a65c_add_9ea2d 7 = .ok (.putfield 63, 3) := by decide +kernel
theorem dJx4a65c_add_9ea2d_10 : decode cJx4a65c_add_9ea2d 10 = .ok (.aload_n 0, 1) := by decide +kernel
theorem dJx4a65c_add_9ea2d_11 : decode cJx4a65c_add_9ea2d 11 = .ok (.aload_n 1, 1) := by decide +kernel
theorem dJx4a65c_add_9ea2d_12 : decode cJx4a65c_add_9ea2d 12 = .ok (.aload_n 0, 1) := by decide +kernel
theorem dJx4a65c_add_9ea2d_13 : decode cJx4a65c_add_9ea2d 13 = .ok (.getfield 9, 3) := by decide +kernel
theorem dJx4a65c_add_9ea2d_16 : decode cJx4a65c_add_9ea2d 16 = .ok (.aload_n 0, 1) := by decide +kernel
theorem dJx4a65c_add_9ea2d_17 : decode cJx4a65c_add_9ea2d 17 = .ok (.getfield 48, 3) := by decide +kernel
theorem dJx4a65c_add_9ea2d_20 : decode cJx4a65c_add_9ea2d 20 = .ok (.invokevirtual 131, 3) := by decide +kernel
theorem dJx4a65c_add_9ea2d_23 : decode cJx4a65c_add_9ea2d 23 = .ok (.iconst 1, 1) := by decide +kernel
theorem dJx4a65c_add_9ea2d_24 : decode cJx4a65c_add_9ea2d 24 = .ok (.ireturn, 1) := by decide +kernel
theorem dJ7_fill_53178_0 : decode cJ7_fill_53178 0 = .ok (.iconst 0, 1) := by decide +kernel
theorem dJ7_fill_53178_1 : decode cJ7_fill_53178 1 = .ok (.istore_n 2, 1) := by decide +kernel
theorem dJ7_fill_53178_2 : decode cJ7_fill_53178 2 = .ok (.aload_n 0, 1) := by decide +kernel
theorem dJ7_fill_53178_3 : decode cJ7_fill_53178 3 = .ok (.arraylength, 1) := by decide +kernel
theorem dJ7_fill_53178_4 : decode cJ7_fill_53178 4 = .ok (.istore_n 3, 1) := by decide +kernel
theorem dJ7_fill_53178_5 : decode cJ7_fill_53178 5 = .ok (.iload_n 2, 1) := by decide +kernel
theorem dJ7_fill_53178_6 : decode cJ7_fill_53178 6 = .ok (.iload_n 3, 1) := by decide +kernel
theorem dJ7_fill_53178_7 : decode cJ7_fill_53178 7 = .ok (.if_icmp .ge 13, 3) := by decide +kernel
theorem dJ7_fill_53178_10 : decode cJ7_fill_53178 10 = .ok (.aload_n 0, 1) := by decide +kernel
theorem dJ7_fill_53178_11 : decode cJ7_fill_53178 11 = .ok (.iload_n 2, 1) := by decide +kernel
theorem dJ7_fill_53178_12 : decode cJ7_fill_53178 12 = .ok (.iload_n 1, 1) := by decide +kernel
theorem dJ7_fill_53178_13 : decode cJ7_fill_53178 13 = .ok (.iastore, 1) := by decide +kernel
theorem dJ7_fill_53178_14 : decode cJ7_fill_53178 14 = .ok (.iinc 2 1, 3) := by decide +kernel
theorem dJ7_fill_53178_17 : decode cJ7_fill_53178 17 = .ok (.goto (-12), 3) := by decide +kernel
theorem dJ7_fill_53178_20 : decode cJ7_fill_53178 20 = .ok (.return_, 1) := by decide +kernel
theorem dJ7_fill_7f8df_0 : decode cJ7_fill_7f8df 0 = .ok (.iconst 0, 1) := by decide +kernel
theorem dJ7_fill_7f8df_1 : decode cJ7_fill_7f8df 1 = .ok (.istore_n 3, 1) := by decide +kernel
theorem dJ7_fill_7f8df_2 : decode cJ7_fill_7f8df 2 = .ok (.aload_n 0, 1) := by decide +kernel
theorem dJ7_fill_7f8df_3 : decode cJ7_fill_7f8df 3 = .ok (.arraylength, 1) := by decide +kernel
theorem dJ7_fill_7f8df_4 : decode cJ7_fill_7f8df 4 = .ok (.istore 4, 2) := by decide +kernel
theorem dJ7_fill_7f8df_6 : decode cJ7_fill_7f8df 6 = .ok (.iload_n 3, 1) := by decide +kernel
theorem dJ7_fill_7f8df_7 : decode cJ7_fill_7f8df 7 = .ok (.iload 4, 2) := by decide +kernel
theorem dJ7_fill_7f8df_9 : decode cJ7_fill_7f8df 9 = .ok (.if_icmp .ge 13, 3) := by decide +kernel
theorem dJ7_fill_7f8df_12 : decode cJ7_fill_7f8df 12 = .ok (.aload_n 0, 1) := by decide +kernel
theorem dJ7_fill_7f8df_13 : decode cJ7_fill_7f8df 13 = .ok (.iload_n 3, 1) := by decide +kernel
theorem dJ7_fill_7f8df_14 : decode cJ7_fill_7f8df 14 = .ok (.dload_n 1, 1) := by decide +kernel
theorem dJ7_fill_7f8df_15 : decode cJ7_fill_7f8df 15 = .ok (.dastore, 1) := by decide +kernel
theorem dJ7_fill_7f8df_16 : decode cJ7_fill_7f8df 16 = .ok (.iinc 3 1, 3) := by decide +kernel
theorem dJ7_fill_7f8df_19 : decode cJ7_fill_7f8df 19 = .ok (.goto (-13), 3) := by decide +kernel
theorem dJ7_fill_7f8df_22 : decode cJ7_fill_7f8df 22 = .ok (.return_, 1) := by decide +kernel
theorem dJ7_copyOf_1904c_0 : decode cJ7_copyOf_1904c 0 = .ok (.aload_n 0, 1) := by decide +kernel
theorem dJ7_copyOf_1904c_1 : decode cJ7_copyOf_1904c 1 = .ok (.iload_n 1, 1) := by decide +kernel
theorem dJ7_copyOf_1904c_2 : decode cJ7_copyOf_1904c 2 = .ok (.aload_n 0, 1) := by decide +kernel
theorem dJ7_copyOf_1904c_3 : decode cJ7_copyOf_1904c 3 = .ok (.invokevirtual 86, 3) := by decide +kernel
theorem dJ7_copyOf_1904c_6 : decode cJ7_copyOf_1904c 6 = .ok (.invokestatic 300, 3) := by decide +kernel
theorem dJ7_copyOf_1904c_9 : decode cJ7_copyOf_1904c 9 = .ok (.areturn, 1) := by decide +kernel
theorem dJ7_copyOf_6403c_0 : decode cJ7_copyOf_6403c 0 = .ok (.aload_n 2, 1) := by decide +kernel
theorem dJ7_copyOf_6403c_1 : decode cJ7_copyOf_6403c 1 = .ok (.ldc 110, 2) := by decide +kernel
theorem dJ7_copyOf_6403c_3 : decode cJ7_copyOf_6403c 3 = .ok (.if_acmp .ne 10, 3) := by decide +kernel
theorem dJ7_copyOf_6403c_6 : decode cJ7_copyOf_6403c 6 = .ok (.iload_n 1, 1) := by decide +kernel
theorem dJ7_copyOf_6403c_7 : decode cJ7_copyOf_6403c 7 = .ok (.anewarray 2, 3) := by decide +kernel
theorem dJ7_copyOf_6403c_10 : decode cJ7_copyOf_6403c 10 = .ok (.goto 14, 3) := by decide +kernel
theorem dJ7_copyOf_6403c_13 : decode cJ7_copyOf_6403c 13 = .ok (.aload_n 2, 1) := by decide +kernel
theorem dJ7_copyOf_6403c_14 : decode cJ7_copyOf_6403c 14 = .ok (.invokevirtual 90, 3) := by decide +kernel
theorem dJ7_copyOf_6403c_17 : decode cJ7_copyOf_6403c 17 = .ok (.iload_n 1, 1) := by decide +kernel
theorem dJ7_copyOf_6403c_18 : decode cJ7_copyOf_6403c 18 = .ok (.invokestatic 95, 3) := by decide +kernel
theorem dJ7_copyOf_6403c_21 : decode cJ7_copyOf_6403c 21 = .ok (.checkcast 110, 3) := by decide +kernel
theorem dJ7_copyOf_6403c_24 : decode cJ7_copyOf_6403c 24 = .ok (.astore_n 3, 1) := by decide +kernel
theorem dJ7_copyOf_6403c_25 : decode cJ7_copyOf_6403c 25 = .ok (.aload_n 0, 1) := by decide +kernel
theorem dJ7_copyOf_6403c_26 : decode cJ7_copyOf_6403c 26 = .ok (.iconst 0, 1) := by decide +kernel
