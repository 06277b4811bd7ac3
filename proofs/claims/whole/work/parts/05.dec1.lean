theorem dX6_world_66 : decode cX6_world 66 = .ok (.new 118, 3) := by decide +kernel
theorem dX6_world_69 : decode cX6_world 69 = .ok (.dup, 1) := by decide +kernel
theorem dX6_world_70 : decode cX6_world 70 = .ok (.aload_n 3, 1) := by decide +kernel
theorem dX6_world_71 : decode cX6_world 71 = .ok (.invokespecial 168, 3) := by decide +kernel
theorem dX6_world_74 : decode cX6_world 74 = .ok (.invokespecial 171, 3) := by decide +kernel
theorem dX6_world_77 : decode cX6_world 77 = .ok (.invokevirtual 58, 3) := by decide +kernel
theorem dX6_world_80 : decode cX6_world 80 = .ok (.pop, 1) := by decide +kernel
theorem dX6_world_81 : decode cX6_world 81 = .ok (.aload_n 0, 1) := by decide +kernel
theorem dX6_world_82 : decode cX6_world 82 = .ok (.getfield 16, 3) := by decide +kernel
theorem dX6_world_85 : decode cX6_world 85 = .ok (.invokevirtual 42, 3) := by decide +kernel
theorem dX6_world_88 : decode cX6_world 88 = .ok (.iconst 1, 1) := by decide +kernel
theorem dX6_world_89 : decode cX6_world 89 = .ok (.isub, 1) := by decide +kernel
theorem dX6_world_90 : decode cX6_world 90 = .ok (.ireturn, 1) := by decide +kernel
theorem dX6_about_0 : decode cX6_about 0 = .ok (.aload_n 0, 1) := by decide +kernel
theorem dX6_about_1 : decode cX6_about 1 = .ok (.iload_n 1, 1) := by decide +kernel
theorem dX6_about_2 : decode cX6_about 2 = .ok (.invokevirtual 174, 3) := by decide +kernel
theorem dX6_about_5 : decode cX6_about 5 = .ok (.astore_n 3, 1) := by decide +kernel
theorem dX6_about_6 : decode cX6_about 6 = .ok (.iload_n 2, 1) := by decide +kernel
theorem dX6_about_7 : decode cX6_about 7 = .ok (.iconst 0, 1) := by decide +kernel
theorem dX6_about_8 : decode cX6_about 8 = .ok (.iconst 3, 1) := by decide +kernel
theorem dX6_about_9 : decode cX6_about 9 = .ok (.invokestatic 38, 3) := by decide +kernel
theorem dX6_about_12 : decode cX6_about 12 = .ok (.iload_n 2, 1) := by decide +kernel
theorem dX6_about_13 : decode cX6_about 13 = .ok (.tableswitch 42 0 2 #[27, 32, 37], 27) := by decide +kernel
theorem dX6_about_40 : decode cX6_about 40 = .ok (.aload_n 3, 1) := by decide +kernel
theorem dX6_about_41 : decode cX6_about 41 = .ok (.getfield 178, 3) := by decide +kernel
theorem dX6_about_44 : decode cX6_about 44 = .ok (.ireturn, 1) := by decide +kernel
theorem dX6_about_45 : decode cX6_about 45 = .ok (.aload_n 3, 1) := by decide +kernel
theorem dX6_about_46 : decode cX6_about 46 = .ok (.getfield 181, 3) := by decide +kernel
theorem dX6_about_49 : decode cX6_about 49 = .ok (.ireturn, 1) := by decide +kernel
theorem dX6_about_50 : decode cX6_about 50 = .ok (.aload_n 3, 1) := by decide +kernel
theorem dX6_about_51 : decode cX6_about 51 = .ok (.getfield 184, 3) := by decide +kernel
theorem dX6_about_54 : decode cX6_about 54 = .ok (.ireturn, 1) := by decide +kernel
theorem dX6_about_55 : decode cX6_about 55 = .ok (.aload_n 3, 1) := by decide +kernel
theorem dX6_about_56 : decode cX6_about 56 = .ok (.getfield 187, 3) := by decide +kernel
theorem dX6_about_59 : decode cX6_about 59 = .ok (.ifCond .eq 7, 3) := by decide +kernel
theorem dX6_about_62 : decode cX6_about 62 = .ok (.iconst 1, 1) := by decide +kernel
theorem dX6_about_63 : decode cX6_about 63 = .ok (.goto 4, 3) := by decide +kernel
theorem dX6_about_66 : decode cX6_about 66 = .ok (.iconst 0, 1) := by decide +kernel
theorem dX6_about_67 : decode cX6_about 67 = .ok (.ireturn, 1) := by decide +kernel
theorem dX6_periodAnew_0 : decode cX6_periodAnew 0 = .ok (.aload_n 0, 1) := by decide +kernel
theorem dX6_periodAnew_1 : decode cX6_periodAnew 1 = .ok (.iload_n 1, 1) := by decide +kernel
theorem dX6_periodAnew_2 : decode cX6_periodAnew 2 = .ok (.invokevirtual 174, 3) := by decide +kernel
theorem dX6_periodAnew_5 : decode cX6_periodAnew 5 = .ok (.astore_n 2, 1) := by decide +kernel
theorem dX6_periodAnew_6 : decode cX6_periodAnew 6 = .ok (.aload_n 0, 1) := by decide +kernel
theorem dX6_periodAnew_7 : decode cX6_periodAnew 7 = .ok (.aload_n 2, 1) := by decide +kernel
theorem dX6_periodAnew_8 : decode cX6_periodAnew 8 = .ok (.getfield 191, 3) := by decide +kernel
theorem dX6_periodAnew_11 : decode cX6_periodAnew 11 = .ok (.aload_n 2, 1) := by decide +kernel
theorem dX6_periodAnew_12 : decode cX6_periodAnew 12 = .ok (.getfield 192, 3) := by decide +kernel
theorem dX6_periodAnew_15 : decode cX6_periodAnew 15 = .ok (.invokevirtual 155, 3) := by decide +kernel
theorem dX6_periodAnew_18 : decode cX6_periodAnew 18 = .ok (.ireturn, 1) := by decide +kernel
theorem dX6_paper_0 : decode cX6_paper 0 = .ok (.aload_n 0, 1) := by decide +kernel
theorem dX6_paper_1 : decode cX6_paper 1 = .ok (.iload_n 1, 1) := by decide +kernel
theorem dX6_paper_2 : decode cX6_paper 2 = .ok (.invokevirtual 174, 3) := by decide +kernel
theorem dX6_paper_5 : decode cX6_paper 5 = .ok (.astore_n 3, 1) := by decide +kernel
theorem dX6_paper_6 : decode cX6_paper 6 = .ok (.iload_n 2, 1) := by decide +kernel
theorem dX6_paper_7 : decode cX6_paper 7 = .ok (.iconst (-1), 1) := by decide +kernel
theorem dX6_paper_8 : decode cX6_paper 8 = .ok (.if_icmp .ne 7, 3) := by decide +kernel
theorem dX6_paper_11 : decode cX6_paper 11 = .ok (.aconst_null, 1) := by decide +kernel
theorem dX6_paper_12 : decode cX6_paper 12 = .ok (.goto 8, 3) := by decide +kernel
theorem dX6_paper_15 : decode cX6_paper 15 = .ok (.aload_n 0, 1) := by decide +kernel
theorem dX6_paper_16 : decode cX6_paper 16 = .ok (.iload_n 2, 1) := by decide +kernel
theorem dX6_paper_17 : decode cX6_paper 17 = .ok (.invokevirtual 195, 3) := by decide +kernel
theorem dX6_paper_20 : decode cX6_paper 20 = .ok (.astore 4, 2) := by decide +kernel
theorem dX6_paper_22 : decode cX6_paper 22 = .ok (.new 199, 3) := by decide +kernel
theorem dX6_paper_25 : decode cX6_paper 25 = .ok (.dup, 1) := by decide +kernel
theorem dX6_paper_26 : decode cX6_paper 26 = .ok (.aload_n 3, 1) := by decide +kernel
theorem dX6_paper_27 : decode cX6_paper 27 = .ok (.aload 4, 2) := by decide +kernel
theorem dX6_paper_29 : decode cX6_paper 29 = .ok (.invokespecial 201, 3) := by decide +kernel
theorem dX6_paper_32 : decode cX6_paper 32 = .ok (.astore 5, 2) := by decide +kernel
theorem dX6_paper_34 : decode cX6_paper 34 = .ok (.aload 5, 2) := by decide +kernel
theorem dX6_paper_36 : decode cX6_paper 36 = .ok (.invokevirtual 204, 3) := by decide +kernel
theorem dX6_paper_39 : decode cX6_paper 39 = .ok (.ifCond .eq 13, 3) := by decide +kernel
theorem dX6_paper_42 : decode cX6_paper 42 = .ok (.new 46, 3) := by decide +kernel
theorem dX6_paper_45 : decode cX6_paper 45 = .ok (.dup, 1) := by decide +kernel
theorem dX6_paper_46 : decode cX6_paper 46 = .ok (.ldc 208, 2) := by decide +kernel
theorem dX6_paper_48 : decode cX6_paper 48 = .ok (.invokespecial 50, 3) := by decide +kernel
theorem dX6_paper_51 : decode cX6_paper 51 = .ok (.athrow, 1) := by decide +kernel
theorem dX6_paper_52 : decode cX6_paper 52 = .ok (.aload_n 0, 1) := by decide +kernel
theorem dX6_paper_53 : decode cX6_paper 53 = .ok (.getfield 19, 3) := by decide +kernel
theorem dX6_paper_56 : decode cX6_paper 56 = .ok (.invokevirtual 42, 3) := by decide +kernel
theorem dX6_paper_59 : decode cX6_paper 59 = .ok (.bipush 30, 2) := by decide +kernel
theorem dX6_paper_61 : decode cX6_paper 61 = .ok (.if_icmp .lt 13, 3) := by decide +kernel
theorem dX6_paper_64 : decode cX6_paper 64 = .ok (.new 46, 3) := by decide +kernel
theorem dX6_paper_67 : decode cX6_paper 67 = .ok (.dup, 1) := by decide +kernel
theorem dX6_paper_68 : decode cX6_paper 68 = .ok (.ldc 210, 2) := by decide +kernel
theorem dX6_paper_70 : decode cX6_paper 70 = .ok (.invokespecial 50, 3) := by decide +kernel
theorem dX6_paper_73 : decode cX6_paper 73 = .ok (.athrow, 1) := by decide +kernel
theorem dX6_paper_74 : decode cX6_paper 74 = .ok (.aload_n 0, 1) := by decide +kernel
theorem dX6_paper_75 : decode cX6_paper 75 = .ok (.getfield 19, 3) := by decide +kernel
theorem dX6_paper_78 : decode cX6_paper 78 = .ok (.aload 5, 2) := by decide +kernel
theorem dX6_paper_80 : decode cX6_paper 80 = .ok (.invokevirtual 58, 3) := by decide +kernel
theorem dX6_paper_83 : decode cX6_paper 83 = .ok (.pop, 1) := by decide +kernel
theorem dX6_paper_84 : decode cX6_paper 84 = .ok (.aload_n 0, 1) := by decide +kernel
theorem dX6_paper_85 : decode cX6_paper 85 = .ok (.getfield 19, 3) := by decide +kernel
theorem dX6_paper_88 : decode cX6_paper 88 = .ok (.invokevirtual 42, 3) := by decide +kernel
theorem dX6_paper_91 : decode cX6_paper 91 = .ok (.iconst 1, 1) := by decide +kernel
theorem dX6_paper_92 : decode cX6_paper 92 = .ok (.isub, 1) := by decide +kernel
theorem dX6_paper_93 : decode cX6_paper 93 = .ok (.ireturn, 1) := by decide +kernel
theorem dX6_withdraw_0 : decode cX6_withdraw 0 = .ok (.aload_n 0, 1) := by decide +kernel
theorem dX6_withdraw_1 : decode cX6_withdraw 1 = .ok (.iload_n 1, 1) := by decide +kernel
theorem dX6_withdraw_2 : decode cX6_withdraw 2 = .ok (.invokevirtual 174, 3) := by decide +kernel
theorem dX6_withdraw_5 : decode cX6_withdraw 5 = .ok (.astore_n 2, 1) := by decide +kernel
theorem dX6_withdraw_6 : decode cX6_withdraw 6 = .ok (.aload_n 2, 1) := by decide +kernel
theorem dX6_withdraw_7 : decode cX6_withdraw 7 = .ok (.getfield 187, 3) := by decide +kernel
theorem dX6_withdraw_10 : decode cX6_withdraw 10 = .ok (.ifCond .eq 13, 3) := by decide +kernel
theorem dX6_withdraw_13 : decode cX6_withdraw 13 = .ok (.new 46, 3) := by decide +kernel
theorem dX6_withdraw_16 : decode cX6_withdraw 16 = .ok (.dup, 1) := by decide +kernel
theorem dX6_withdraw_17 : decode cX6_withdraw 17 = .ok (.ldc 212, 2) := by decide +kernel
theorem dX6_withdraw_19 : decode cX6_withdraw 19 = .ok (.invokespecial 50, 3) := by decide +kernel
theorem dX6_withdraw_22 : decode cX6_withdraw 22 = .ok (.athrow, 1) := by decide +kernel
theorem dX6_withdraw_23 : decode cX6_withdraw 23 = .ok (.aload_n 2, 1) := by decide +kernel
theorem dX6_withdraw_24 : decode cX6_withdraw 24 = .ok (.iconst 1, 1) := by decide +kernel
theorem dX6_withdraw_25 : decode cX6_withdraw 25 = .ok (.putfield 187, 3) := by decide +kernel
theorem dX6_withdraw_28 : decode cX6_withdraw 28 = .ok (.aload_n 0, 1) := by decide +kernel
theorem dX6_withdraw_29 : decode cX6_withdraw 29 = .ok (.invokevirtual 214, 3) := by decide +kernel
theorem dX6_withdraw_32 : decode cX6_withdraw 32 = .ok (.ireturn, 1) := by decide +kernel
theorem dX6_hasFallen_0 : decode cX6_hasFallen 0 = .ok (.aload_n 0, 1) := by decide +kernel
theorem dX6_hasFallen_1 : decode cX6_hasFallen 1 = .ok (.iload_n 1, 1) := by decide +kernel
theorem dX6_hasFallen_2 : decode cX6_hasFallen 2 = .ok (.invokevirtual 195, 3) := by decide +kernel
theorem dX6_hasFallen_5 : decode cX6_hasFallen 5 = .ok (.getfield 217, 3) := by decide +kernel
theorem dX6_hasFallen_8 : decode cX6_hasFallen 8 = .ok (.ireturn, 1) := by decide +kernel
theorem dX6_starAt_0 : decode cX6_starAt 0 = .ok (.iload_n 1, 1) := by decide +kernel
theorem dX6_starAt_1 : decode cX6_starAt 1 = .ok (.ifCond .lt 14, 3) := by decide +kernel
theorem dX6_starAt_4 : decode cX6_starAt 4 = .ok (.iload_n 1, 1) := by decide +kernel
theorem dX6_starAt_5 : decode cX6_starAt 5 = .ok (.aload_n 0, 1) := by decide +kernel
theorem dX6_starAt_6 : decode cX6_starAt 6 = .ok (.getfield 10, 3) := by decide +kernel
theorem dX6_starAt_9 : decode cX6_starAt 9 = .ok (.invokevirtual 42, 3) := by decide +kernel
theorem dX6_starAt_12 : decode cX6_starAt 12 = .ok (.if_icmp .lt 13, 3) := by decide +kernel
theorem dX6_starAt_15 : decode cX6_starAt 15 = .ok (.new 220, 3) := by decide +kernel
theorem dX6_starAt_18 : decode cX6_starAt 18 = .ok (.dup, 1) := by decide +kernel
theorem dX6_starAt_19 : decode cX6_starAt 19 = .ok (.ldc 222, 2) := by decide +kernel
theorem dX6_starAt_21 : decode cX6_starAt 21 = .ok (.invokespecial 224, 3) := by decide +kernel
theorem dX6_starAt_24 : decode cX6_starAt 24 = .ok (.athrow, 1) := by decide +kernel
theorem dX6_starAt_25 : decode cX6_starAt 25 = .ok (.aload_n 0, 1) := by decide +kernel
theorem dX6_starAt_26 : decode cX6_starAt 26 = .ok (.getfield 10, 3) := by decide +kernel
theorem dX6_starAt_29 : decode cX6_starAt 29 = .ok (.iload_n 1, 1) := by decide +kernel
theorem dX6_starAt_30 : decode cX6_starAt 30 = .ok (.invokevirtual 225, 3) := by decide +kernel
theorem dX6_starAt_33 : decode cX6_starAt 33 = .ok (.checkcast 53, 3) := by decide +kernel
theorem dX6_starAt_36 : decode cX6_starAt 36 = .ok (.areturn, 1) := by decide +kernel
theorem dX6_worldAt_0 : decode cX6_worldAt 0 = .ok (.iload_n 1, 1) := by decide +kernel
theorem dX6_worldAt_1 : decode cX6_worldAt 1 = .ok (.ifCond .lt 14, 3) := by decide +kernel
theorem dX6_worldAt_4 : decode cX6_worldAt 4 = .ok (.iload_n 1, 1) := by decide +kernel
theorem dX6_worldAt_5 : decode cX6_worldAt 5 = .ok (.aload_n 0, 1) := by decide +kernel
theorem dX6_worldAt_6 : decode cX6_worldAt 6 = .ok (.getfield 16, 3) := by decide +kernel
theorem dX6_worldAt_9 : decode cX6_worldAt 9 = .ok (.invokevirtual 42, 3) := by decide +kernel
theorem dX6_worldAt_12 : decode cX6_worldAt 12 = .ok (.if_icmp .lt 13, 3) := by decide +kernel
theorem dX6_worldAt_15 : decode cX6_worldAt 15 = .ok (.new 220, 3) := by decide +kernel
theorem dX6_worldAt_18 : decode cX6_worldAt 18 = .ok (.dup, 1) := by decide +kernel
theorem dX6_worldAt_19 : decode cX6_worldAt 19 = .ok (.ldc 229, 2) := by decide +kernel
theorem dX6_worldAt_21 : decode cX6_worldAt 21 = .ok (.invokespecial 224, 3) := by decide +kernel
theorem dX6_worldAt_24 : decode cX6_worldAt 24 = .ok (.athrow, 1) := by decide +kernel
theorem dX6_worldAt_25 : decode cX6_worldAt 25 = .ok (.aload_n 0, 1) := by decide +kernel
theorem dX6_worldAt_26 : decode cX6_worldAt 26 = .ok (.getfield 16, 3) := by decide +kernel
theorem dX6_worldAt_29 : decode cX6_worldAt 29 = .ok (.iload_n 1, 1) := by decide +kernel
theorem dX6_worldAt_30 : decode cX6_worldAt 30 = .ok (.invokevirtual 225, 3) := by decide +kernel
theorem dX6_worldAt_33 : decode cX6_worldAt 33 = .ok (.checkcast 166, 3) := by decide +kernel
theorem dX6_worldAt_36 : decode cX6_worldAt 36 = .ok (.areturn, 1) := by decide +kernel
theorem dX6_paperAt_0 : decode cX6_paperAt 0 = .ok (.iload_n 1, 1) := by decide +kernel
theorem dX6_paperAt_1 : decode cX6_paperAt 1 = .ok (.ifCond .lt 14, 3) := by decide +kernel
theorem dX6_paperAt_4 : decode cX6_paperAt 4 = .ok (.iload_n 1, 1) := by decide +kernel
theorem dX6_paperAt_5 : decode cX6_paperAt 5 = .ok (.aload_n 0, 1) := by decide +kernel
theorem dX6_paperAt_6 : decode cX6_paperAt 6 = .ok (.getfield 19, 3) := by decide +kernel
theorem dX6_paperAt_9 : decode cX6_paperAt 9 = .ok (.invokevirtual 42, 3) := by decide +kernel
theorem dX6_paperAt_12 : decode cX6_paperAt 12 = .ok (.if_icmp .lt 13, 3) := by decide +kernel
theorem dX6_paperAt_15 : decode cX6_paperAt 15 = .ok (.new 220, 3) := by decide +kernel
theorem dX6_paperAt_18 : decode cX6_paperAt 18 = .ok (.dup, 1) := by decide +kernel
theorem dX6_paperAt_19 : decode cX6_paperAt 19 = .ok (.ldc 231, 2) := by decide +kernel
theorem dX6_paperAt_21 : decode cX6_paperAt 21 = .ok (.invokespecial 224, 3) := by decide +kernel
theorem dX6_paperAt_24 : decode cX6_paperAt 24 = .ok (.athrow, 1) := by decide +kernel
theorem dX6_paperAt_25 : decode cX6_paperAt 25 = .ok (.aload_n 0, 1) := by decide +kernel
theorem dX6_paperAt_26 : decode cX6_paperAt 26 = .ok (.getfield 19, 3) := by decide +kernel
theorem dX6_paperAt_29 : decode cX6_paperAt 29 = .ok (.iload_n 1, 1) := by decide +kernel
theorem dX6_paperAt_30 : decode cX6_paperAt 30 = .ok (.invokevirtual 225, 3) := by decide +kernel
theorem dX6_paperAt_33 : decode cX6_paperAt 33 = .ok (.checkcast 199, 3) := by decide +kernel
theorem dX6_paperAt_36 : decode cX6_paperAt 36 = .ok (.areturn, 1) := by decide +kernel
theorem dX6_requireHour_0 : decode cX6_requireHour 0 = .ok (.iload_n 0, 1) := by decide +kernel
theorem dX6_requireHour_1 : decode cX6_requireHour 1 = .ok (.ifCond .lt 10, 3) := by decide +kernel
theorem dX6_requireHour_4 : decode cX6_requireHour 4 = .ok (.iload_n 0, 1) := by decide +kernel
theorem dX6_requireHour_5 : decode cX6_requireHour 5 = .ok (.sipush 1000, 3) := by decide +kernel
theorem dX6_requireHour_8 : decode cX6_requireHour 8 = .ok (.if_icmp .lt 13, 3) := by decide +kernel
theorem dX6_requireHour_11 : decode cX6_requireHour 11 = .ok (.new 220, 3) := by decide +kernel
theorem dX6_requireHour_14 : decode cX6_requireHour 14 = .ok (.dup, 1) := by decide +kernel
theorem dX6_requireHour_15 : decode cX6_requireHour 15 = .ok (.ldc 233, 2) := by decide +kernel
theorem dX6_requireHour_17 : decode cX6_requireHour 17 = .ok (.invokespecial 224, 3) := by decide +kernel
theorem dX6_requireHour_20 : decode cX6_requireHour 20 = .ok (.athrow, 1) := by decide +kernel
theorem dX6_requireHour_21 : decode cX6_requireHour 21 = .ok (.return_, 1) := by decide +kernel
theorem dX6_requireHours_0 : decode cX6_requireHours 0 = .ok (.iload_n 0, 1) := by decide +kernel
theorem dX6_requireHours_1 : decode cX6_requireHours 1 = .ok (.invokestatic 91, 3) := by decide +kernel
theorem dX6_requireHours_4 : decode cX6_requireHours 4 = .ok (.iload_n 1, 1) := by decide +kernel
theorem dX6_requireHours_5 : decode cX6_requireHours 5 = .ok (.invokestatic 91, 3) := by decide +kernel
theorem dX6_requireHours_8 : decode cX6_requireHours 8 = .ok (.iload_n 1, 1) := by decide +kernel
theorem dX6_requireHours_9 : decode cX6_requireHours 9 = .ok (.iload_n 0, 1) := by decide +kernel
theorem dX6_requireHours_10 : decode cX6_requireHours 10 = .ok (.if_icmp .ge 13, 3) := by decide +kernel
theorem dX6_requireHours_13 : decode cX6_requireHours 13 = .ok (.new 235, 3) := by decide +kernel
theorem dX6_requireHours_16 : decode cX6_requireHours 16 = .ok (.dup, 1) := by decide +kernel
theorem dX6_requireHours_17 : decode cX6_requireHours 17 = .ok (.ldc 237, 2) := by decide +kernel
theorem dX6_requireHours_19 : decode cX6_requireHours 19 = .ok (.invokespecial 239, 3) := by decide +kernel
theorem dX6_requireHours_22 : decode cX6_requireHours 22 = .ok (.athrow, 1) := by decide +kernel
theorem dX6_requireHours_23 : decode cX6_requireHours 23 = .ok (.return_, 1) := by decide +kernel
theorem dX6_requireRange_0 : decode cX6_requireRange 0 = .ok (.iload_n 0, 1) := by decide +kernel
theorem dX6_requireRange_1 : decode cX6_requireRange 1 = .ok (.iload_n 1, 1) := by decide +kernel
theorem dX6_requireRange_2 : decode cX6_requireRange 2 = .ok (.if_icmp .lt 8, 3) := by decide +kernel
theorem dX6_requireRange_5 : decode cX6_requireRange 5 = .ok (.iload_n 0, 1) := by decide +kernel
theorem dX6_requireRange_6 : decode cX6_requireRange 6 = .ok (.iload_n 2, 1) := by decide +kernel
theorem dX6_requireRange_7 : decode cX6_requireRange 7 = .ok (.if_icmp .le 13, 3) := by decide +kernel
theorem dX6_requireRange_10 : decode cX6_requireRange 10 = .ok (.new 235, 3) := by decide +kernel
theorem dX6_requireRange_13 : decode cX6_requireRange 13 = .ok (.dup, 1) := by decide +kernel
theorem dX6_requireRange_14 : decode cX6_requireRange 14 = .ok (.ldc 240, 2) := by decide +kernel
theorem dX6_requireRange_16 : decode cX6_requireRange 16 = .ok (.invokespecial 239, 3) := by decide +kernel
theorem dX6_requireRange_19 : decode cX6_requireRange 19 = .ok (.athrow, 1) := by decide +kernel
theorem dX6_requireRange_20 : decode cX6_requireRange 20 = .ok (.return_, 1) := by decide +kernel
theorem dX6_nightsToFold_0 : decode cX6_nightsToFold 0 = .ok (.aload_n 0, 1) := by decide +kernel
theorem dX6_nightsToFold_1 : decode cX6_nightsToFold 1 = .ok (.iload_n 1, 1) := by decide +kernel
theorem dX6_nightsToFold_2 : decode cX6_nightsToFold 2 = .ok (.invokevirtual 62, 3) := by decide +kernel
theorem dX6_nightsToFold_5 : decode cX6_nightsToFold 5 = .ok (.getfield 113, 3) := by decide +kernel
theorem dX6_nightsToFold_8 : decode cX6_nightsToFold 8 = .ok (.astore_n 3, 1) := by decide +kernel
theorem dX6_nightsToFold_9 : decode cX6_nightsToFold 9 = .ok (.iload_n 2, 1) := by decide +kernel
theorem dX6_nightsToFold_10 : decode cX6_nightsToFold 10 = .ok (.iconst 2, 1) := by decide +kernel
theorem dX6_nightsToFold_11 : decode cX6_nightsToFold 11 = .ok (.bipush 60, 2) := by decide +kernel
theorem dX6_nightsToFold_13 : decode cX6_nightsToFold 13 = .ok (.invokestatic 38, 3) := by decide +kernel
theorem dX6_nightsToFold_16 : decode cX6_nightsToFold 16 = .ok (.aload_n 3, 1) := by decide +kernel
theorem dX6_nightsToFold_17 : decode cX6_nightsToFold 17 = .ok (.getfield 117, 3) := by decide +kernel
theorem dX6_nightsToFold_20 : decode cX6_nightsToFold 20 = .ok (.bipush 20, 2) := by decide +kernel
theorem dX6_nightsToFold_22 : decode cX6_nightsToFold 22 = .ok (.if_icmp .ge 13, 3) := by decide +kernel
theorem dX6_nightsToFold_25 : decode cX6_nightsToFold 25 = .ok (.new 46, 3) := by decide +kernel
theorem dX6_nightsToFold_28 : decode cX6_nightsToFold 28 = .ok (.dup, 1) := by decide +kernel
theorem dX6_nightsToFold_29 : decode cX6_nightsToFold 29 = .ok (.ldc 242, 2) := by decide +kernel
theorem dX6_nightsToFold_31 : decode cX6_nightsToFold 31 = .ok (.invokespecial 50, 3) := by decide +kernel
theorem dX6_nightsToFold_34 : decode cX6_nightsToFold 34 = .ok (.athrow, 1) := by decide +kernel
theorem dX6_nightsToFold_35 : decode cX6_nightsToFold 35 = .ok (.aload_n 3, 1) := by decide +kernel
theorem dX6_nightsToFold_36 : decode cX6_nightsToFold 36 = .ok (.areturn, 1) := by decide +kernel
theorem dX6_nightsToSearch_0 : decode cX6_nightsToSearch 0 = .ok (.aload_n 0, 1) := by decide +kernel
theorem dX6_nightsToSearch_1 : decode cX6_nightsToSearch 1 = .ok (.iload_n 1, 1) := by decide +kernel
theorem dX6_nightsToSearch_2 : decode cX6_nightsToSearch 2 = .ok (.invokevirtual 62, 3) := by decide +kernel
theorem dX6_nightsToSearch_5 : decode cX6_nightsToSearch 5 = .ok (.getfield 113, 3) := by decide +kernel
theorem dX6_nightsToSearch_8 : decode cX6_nightsToSearch 8 = .ok (.astore_n 3, 1) := by decide +kernel
theorem dX6_nightsToSearch_9 : decode cX6_nightsToSearch 9 = .ok (.iload_n 2, 1) := by decide +kernel
theorem dX6_nightsToSearch_10 : decode cX6_nightsToSearch 10 = .ok (.iconst 0, 1) := by decide +kernel
theorem dX6_nightsToSearch_11 : decode cX6_nightsToSearch 11 = .ok (.ldc 37, 2) := by decide +kernel
theorem dX6_nightsToSearch_13 : decode cX6_nightsToSearch 13 = .ok (.invokestatic 38, 3) := by decide +kernel
theorem dX6_nightsToSearch_16 : decode cX6_nightsToSearch 16 = .ok (.aload_n 3, 1) := by decide +kernel
theorem dX6_nightsToSearch_17 : decode cX6_nightsToSearch 17 = .ok (.areturn, 1) := by decide +kernel
theorem dX6_isHidden_0 : decode cX6_isHidden 0 = .ok (.iload_n 1, 1) := by decide +kernel
theorem dX6_isHidden_1 : decode cX6_isHidden 1 = .ok (.ifCond .lt 25, 3) := by decide +kernel
theorem dX6_isHidden_4 : decode cX6_isHidden 4 = .ok (.iload_n 1, 1) := by decide +kernel
theorem dX6_isHidden_5 : decode cX6_isHidden 5 = .ok (.aload_n 0, 1) := by decide +kernel
theorem dX6_isHidden_6 : decode cX6_isHidden 6 = .ok (.getfield 22, 3) := by decide +kernel
theorem dX6_isHidden_9 : decode cX6_isHidden 9 = .ok (.arraylength, 1) := by decide +kernel
theorem dX6_isHidden_10 : decode cX6_isHidden 10 = .ok (.if_icmp .ge 16, 3) := by decide +kernel
theorem dX6_isHidden_13 : decode cX6_isHidden 13 = .ok (.aload_n 0, 1) := by decide +kernel
theorem dX6_isHidden_14 : decode cX6_isHidden 14 = .ok (.getfield 22, 3) := by decide +kernel
theorem dX6_isHidden_17 : decode cX6_isHidden 17 = .ok (.iload_n 1, 1) := by decide +kernel
theorem dX6_isHidden_18 : decode cX6_isHidden 18 = .ok (.baload, 1) := by decide +kernel
theorem dX6_isHidden_19 : decode cX6_isHidden 19 = .ok (.ifCond .eq 7, 3) := by decide +kernel
theorem dX6_isHidden_22 : decode cX6_isHidden 22 = .ok (.iconst 1, 1) := by decide +kernel
theorem dX6_isHidden_23 : decode cX6_isHidden 23 = .ok (.goto 4, 3) := by decide +kernel
theorem dX6_isHidden_26 : decode cX6_isHidden 26 = .ok (.iconst 0, 1) := by decide +kernel
theorem dX6_isHidden_27 : decode cX6_isHidden 27 = .ok (.ireturn, 1) := by decide +kernel
theorem dX6_hide_0 : decode cX6_hide 0 = .ok (.iload_n 1, 1) := by decide +kernel
theorem dX6_hide_1 : decode cX6_hide 1 = .ok (.ifCond .lt 29, 3) := by decide +kernel
theorem dX6_hide_4 : decode cX6_hide 4 = .ok (.iload_n 1, 1) := by decide +kernel
theorem dX6_hide_5 : decode cX6_hide 5 = .ok (.aload_n 0, 1) := by decide +kernel
theorem dX6_hide_6 : decode cX6_hide 6 = .ok (.getfield 22, 3) := by decide +kernel
theorem dX6_hide_9 : decode cX6_hide 9 = .ok (.arraylength, 1) := by decide +kernel
theorem dX6_hide_10 : decode cX6_hide 10 = .ok (.if_icmp .ge 20, 3) := by decide +kernel
theorem dX6_hide_13 : decode cX6_hide 13 = .ok (.aload_n 0, 1) := by decide +kernel
theorem dX6_hide_14 : decode cX6_hide 14 = .ok (.getfield 22, 3) := by decide +kernel
theorem dX6_hide_17 : decode cX6_hide 17 = .ok (.iload_n 1, 1) := by decide +kernel
theorem dX6_hide_18 : decode cX6_hide 18 = .ok (.iconst 1, 1) := by decide +kernel
theorem dX6_hide_19 : decode cX6_hide 19 = .ok (.bastore, 1) := by decide +kernel
theorem dX6_hide_20 : decode cX6_hide 20 = .ok (.aload_n 0, 1) := by decide +kernel
theorem dX6_hide_21 : decode cX6_hide 21 = .ok (.dup, 1) := by decide +kernel
theorem dX6_hide_22 : decode cX6_hide 22 = .ok (.getfield 26, 3) := by decide +kernel
theorem dX6_hide_25 : decode cX6_hide 25 = .ok (.iconst 1, 1) := by decide +kernel
theorem dX6_hide_26 : decode cX6_hide 26 = .ok (.iadd, 1) := by decide +kernel
theorem dX6_hide_27 : decode cX6_hide 27 = .ok (.putfield 26, 3) := by decide +kernel
theorem dX6_hide_30 : decode cX6_hide 30 = .ok (.return_, 1) := by decide +kernel
theorem dX6_periodToTell_0 : decode cX6_periodToTell 0 = .ok (.aload_n 0, 1) := by decide +kernel
theorem dX6_periodToTell_1 : decode cX6_periodToTell 1 = .ok (.aload_n 1, 1) := by decide +kernel
theorem dX6_periodToTell_2 : decode cX6_periodToTell 2 = .ok (.iload_n 2, 1) := by decide +kernel
theorem dX6_periodToTell_3 : decode cX6_periodToTell 3 = .ok (.invokevirtual 155, 3) := by decide +kernel
theorem dX6_periodToTell_6 : decode cX6_periodToTell 6 = .ok (.istore_n 3, 1) := by decide +kernel
theorem dX6_periodToTell_7 : decode cX6_periodToTell 7 = .ok (.iload_n 3, 1) := by decide +kernel
theorem dX6_periodToTell_8 : decode cX6_periodToTell 8 = .ok (.iconst (-1), 1) := by decide +kernel
theorem dX6_periodToTell_9 : decode cX6_periodToTell 9 = .ok (.if_icmp .ne 13, 3) := by decide +kernel
theorem dX6_periodToTell_12 : decode cX6_periodToTell 12 = .ok (.new 46, 3) := by decide +kernel
theorem dX6_periodToTell_15 : decode cX6_periodToTell 15 = .ok (.dup, 1) := by decide +kernel
theorem dX6_periodToTell_16 : decode cX6_periodToTell 16 = .ok (.ldc 244, 2) := by decide +kernel
theorem dX6_periodToTell_18 : decode cX6_periodToTell 18 = .ok (.invokespecial 50, 3) := by decide +kernel
theorem dX6_periodToTell_21 : decode cX6_periodToTell 21 = .ok (.athrow, 1) := by decide +kernel
theorem dX6_periodToTell_22 : decode cX6_periodToTell 22 = .ok (.iload_n 3, 1) := by decide +kernel
theorem dX6_periodToTell_23 : decode cX6_periodToTell 23 = .ok (.ireturn, 1) := by decide +kernel
theorem dX6_bestPeriod_0 : decode cX6_bestPeriod 0 = .ok (.iconst (-1), 1) := by decide +kernel
theorem dX6_bestPeriod_1 : decode cX6_bestPeriod 1 = .ok (.istore_n 3, 1) := by decide +kernel
theorem dX6_bestPeriod_2 : decode cX6_bestPeriod 2 = .ok (.aload_n 1, 1) := by decide +kernel
theorem dX6_bestPeriod_3 : decode cX6_bestPeriod 3 = .ok (.getfield 117, 3) := by decide +kernel
theorem dX6_bestPeriod_6 : decode cX6_bestPeriod 6 = .ok (.bipush 20, 2) := by decide +kernel
theorem dX6_bestPeriod_8 : decode cX6_bestPeriod 8 = .ok (.if_icmp .ge 5, 3) := by decide +kernel
theorem dX6_bestPeriod_11 : decode cX6_bestPeriod 11 = .ok (.iload_n 3, 1) := by decide +kernel
theorem dX6_bestPeriod_12 : decode cX6_bestPeriod 12 = .ok (.ireturn, 1) := by decide +kernel
theorem dX6_bestPeriod_13 : decode cX6_bestPeriod 13 = .ok (.iload_n 2, 1) := by decide +kernel
theorem dX6_bestPeriod_14 : decode cX6_bestPeriod 14 = .ok (.i2d, 1) := by decide +kernel
theorem dX6_bestPeriod_15 : decode cX6_bestPeriod 15 = .ok (.dstore 4, 2) := by decide +kernel
theorem dX6_bestPeriod_17 : decode cX6_bestPeriod 17 = .ok (.iconst 2, 1) := by decide +kernel
theorem dX6_bestPeriod_18 : decode cX6_bestPeriod 18 = .ok (.istore 6, 2) := by decide +kernel
theorem dX6_bestPeriod_20 : decode cX6_bestPeriod 20 = .ok (.iload 6, 2) := by decide +kernel
theorem dX6_bestPeriod_22 : decode cX6_bestPeriod 22 = .ok (.bipush 60, 2) := by decide +kernel
theorem dX6_bestPeriod_24 : decode cX6_bestPeriod 24 = .ok (.if_icmp .gt 50, 3) := by decide +kernel
theorem dX6_bestPeriod_27 : decode cX6_bestPeriod 27 = .ok (.aload_n 0, 1) := by decide +kernel
theorem dX6_bestPeriod_28 : decode cX6_bestPeriod 28 = .ok (.getfield 33, 3) := by decide +kernel
theorem dX6_bestPeriod_31 : decode cX6_bestPeriod 31 = .ok (.iload 6, 2) := by decide +kernel
theorem dX6_bestPeriod_33 : decode cX6_bestPeriod 33 = .ok (.aload_n 1, 1) := by decide +kernel
theorem dX6_bestPeriod_34 : decode cX6_bestPeriod 34 = .ok (.invokevirtual 138, 3) := by decide +kernel
theorem dX6_bestPeriod_37 : decode cX6_bestPeriod 37 = .ok (.aload_n 0, 1) := by decide +kernel
theorem dX6_bestPeriod_38 : decode cX6_bestPeriod 38 = .ok (.getfield 33, 3) := by decide +kernel
theorem dX6_bestPeriod_41 : decode cX6_bestPeriod 41 = .ok (.aload_n 0, 1) := by decide +kernel
theorem dX6_bestPeriod_42 : decode cX6_bestPeriod 42 = .ok (.getfield 33, 3) := by decide +kernel
theorem dX6_bestPeriod_45 : decode cX6_bestPeriod 45 = .ok (.invokevirtual 142, 3) := by decide +kernel
theorem dX6_bestPeriod_48 : decode cX6_bestPeriod 48 = .ok (.invokevirtual 145, 3) := by decide +kernel
theorem dX6_bestPeriod_51 : decode cX6_bestPeriod 51 = .ok (.dstore 7, 2) := by decide +kernel
theorem dX6_bestPeriod_53 : decode cX6_bestPeriod 53 = .ok (.dload 7, 2) := by decide +kernel
theorem dX6_bestPeriod_55 : decode cX6_bestPeriod 55 = .ok (.dload 4, 2) := by decide +kernel
theorem dX6_bestPeriod_57 : decode cX6_bestPeriod 57 = .ok (.dcmp .l, 1) := by decide +kernel
theorem dX6_bestPeriod_58 : decode cX6_bestPeriod 58 = .ok (.ifCond .le 10, 3) := by decide +kernel
theorem dX6_bestPeriod_61 : decode cX6_bestPeriod 61 = .ok (.dload 7, 2) := by decide +kernel
theorem dX6_bestPeriod_63 : decode cX6_bestPeriod 63 = .ok (.dstore 4, 2) := by decide +kernel
theorem dX6_bestPeriod_65 : decode cX6_bestPeriod 65 = .ok (.iload 6, 2) := by decide +kernel
theorem dX6_bestPeriod_67 : decode cX6_bestPeriod 67 = .ok (.istore_n 3, 1) := by decide +kernel
theorem dX6_bestPeriod_68 : decode cX6_bestPeriod 68 = .ok (.iinc 6 1, 3) := by decide +kernel
theorem dX6_bestPeriod_71 : decode cX6_bestPeriod 71 = .ok (.goto (-51), 3) := by decide +kernel
theorem dX6_bestPeriod_74 : decode cX6_bestPeriod 74 = .ok (.iload_n 3, 1) := by decide +kernel
theorem dX6_bestPeriod_75 : decode cX6_bestPeriod 75 = .ok (.ireturn, 1) := by decide +kernel
theorem dX6_letPapersFall_0 : decode cX6_letPapersFall 0 = .ok (.iconst 0, 1) := by decide +kernel
theorem dX6_letPapersFall_1 : decode cX6_letPapersFall 1 = .ok (.istore_n 1, 1) := by decide +kernel
theorem dX6_letPapersFall_2 : decode cX6_letPapersFall 2 = .ok (.iconst 0, 1) := by decide +kernel
theorem dX6_letPapersFall_3 : decode cX6_letPapersFall 3 = .ok (.istore_n 2, 1) := by decide +kernel
theorem dX6_letPapersFall_4 : decode cX6_letPapersFall 4 = .ok (.iload_n 2, 1) := by decide +kernel
theorem dX6_letPapersFall_5 : decode cX6_letPapersFall 5 = .ok (.aload_n 0, 1) := by decide +kernel
theorem dX6_letPapersFall_6 : decode cX6_letPapersFall 6 = .ok (.getfield 19, 3) := by decide +kernel
theorem dX6_letPapersFall_9 : decode cX6_letPapersFall 9 = .ok (.invokevirtual 42, 3) := by decide +kernel
theorem dX6_letPapersFall_12 : decode cX6_letPapersFall 12 = .ok (.if_icmp .ge 43, 3) := by decide +kernel
theorem dX6_letPapersFall_15 : decode cX6_letPapersFall 15 = .ok (.aload_n 0, 1) := by decide +kernel
theorem dX6_letPapersFall_16 : decode cX6_letPapersFall 16 = .ok (.getfield 19, 3) := by decide +kernel
theorem dX6_letPapersFall_19 : decode cX6_letPapersFall 19 = .ok (.iload_n 2, 1) := by decide +kernel
theorem dX6_letPapersFall_20 : decode cX6_letPapersFall 20 = .ok (.invokevirtual 225, 3) := by decide +kernel
theorem dX6_letPapersFall_23 : decode cX6_letPapersFall 23 = .ok (.checkcast 199, 3) := by decide +kernel
theorem dX6_letPapersFall_26 : decode cX6_letPapersFall 26 = .ok (.astore_n 3, 1) := by decide +kernel
theorem dX6_letPapersFall_27 : decode cX6_letPapersFall 27 = .ok (.aload_n 3, 1) := by decide +kernel
theorem dX6_letPapersFall_28 : decode cX6_letPapersFall 28 = .ok (.getfield 217, 3) := by decide +kernel
theorem dX6_letPapersFall_31 : decode cX6_letPapersFall 31 = .ok (.ifCond .ne 18, 3) := by decide +kernel
theorem dX6_letPapersFall_34 : decode cX6_letPapersFall 34 = .ok (.aload_n 3, 1) := by decide +kernel
theorem dX6_letPapersFall_35 : decode cX6_letPapersFall 35 = .ok (.invokevirtual 204, 3) := by decide +kernel
theorem dX6_letPapersFall_38 : decode cX6_letPapersFall 38 = .ok (.ifCond .eq 11, 3) := by decide +kernel
theorem dX6_letPapersFall_41 : decode cX6_letPapersFall 41 = .ok (.aload_n 3, 1) := by decide +kernel
theorem dX6_letPapersFall_42 : decode cX6_letPapersFall 42 = .ok (.iconst 1, 1) := by decide +kernel
theorem dX6_letPapersFall_43 : decode cX6_letPapersFall 43 = .ok (.putfield 217, 3) := by decide +kernel
theorem dX6_letPapersFall_46 : decode cX6_letPapersFall 46 = .ok (.iinc 1 1, 3) := by decide +kernel
theorem dX6_letPapersFall_49 : decode cX6_letPapersFall 49 = .ok (.iinc 2 1, 3) := by decide +kernel
theorem dX6_letPapersFall_52 : decode cX6_letPapersFall 52 = .ok (.goto (-48), 3) := by decide +kernel
theorem dX6_letPapersFall_55 : decode cX6_letPapersFall 55 = .ok (.iload_n 1, 1) := by decide +kernel
theorem dX6_letPapersFall_56 : decode cX6_letPapersFall 56 = .ok (.ireturn, 1) := by decide +kernel
theorem dX6_bitsOf_0 : decode cX6_bitsOf 0 = .ok (.dload_n 0, 1) := by decide +kernel
theorem dX6_bitsOf_1 : decode cX6_bitsOf 1 = .ok (.dconst 0, 1) := by decide +kernel
theorem dX6_bitsOf_2 : decode cX6_bitsOf 2 = .ok (.dcmp .l, 1) := by decide +kernel
theorem dX6_bitsOf_3 : decode cX6_bitsOf 3 = .ok (.ifCond .ne 5, 3) := by decide +kernel
theorem dX6_bitsOf_6 : decode cX6_bitsOf 6 = .ok (.lconst 0, 1) := by decide +kernel
theorem dX6_bitsOf_7 : decode cX6_bitsOf 7 = .ok (.lreturn, 1) := by decide +kernel
theorem dX6_bitsOf_8 : decode cX6_bitsOf 8 = .ok (.dload_n 0, 1) := by decide +kernel
theorem dX6_bitsOf_9 : decode cX6_bitsOf 9 = .ok (.dconst 0, 1) := by decide +kernel
theorem dX6_bitsOf_10 : decode cX6_bitsOf 10 = .ok (.dcmp .g, 1) := by decide +kernel
theorem dX6_bitsOf_11 : decode cX6_bitsOf 11 = .ok (.ifCond .ge 9, 3) := by decide +kernel
theorem dX6_bitsOf_14 : decode cX6_bitsOf 14 = .ok (.ldc2_w 248, 3) := by decide +kernel
theorem dX6_bitsOf_17 : decode cX6_bitsOf 17 = .ok (.goto 4, 3) := by decide +kernel
theorem dX6_bitsOf_20 : decode cX6_bitsOf 20 = .ok (.lconst 0, 1) := by decide +kernel
theorem dX6_bitsOf_21 : decode cX6_bitsOf 21 = .ok (.lstore_n 2, 1) := by decide +kernel
theorem dX6_bitsOf_22 : decode cX6_bitsOf 22 = .ok (.dload_n 0, 1) := by decide +kernel
theorem dX6_bitsOf_23 : decode cX6_bitsOf 23 = .ok (.dconst 0, 1) := by decide +kernel
theorem dX6_bitsOf_24 : decode cX6_bitsOf 24 = .ok (.dcmp .g, 1) := by decide +kernel
theorem dX6_bitsOf_25 : decode cX6_bitsOf 25 = .ok (.ifCond .ge 8, 3) := by decide +kernel
theorem dX6_bitsOf_28 : decode cX6_bitsOf 28 = .ok (.dload_n 0, 1) := by decide +kernel
theorem dX6_bitsOf_29 : decode cX6_bitsOf 29 = .ok (.dneg, 1) := by decide +kernel
theorem dX6_bitsOf_30 : decode cX6_bitsOf 30 = .ok (.goto 4, 3) := by decide +kernel
theorem dX6_bitsOf_33 : decode cX6_bitsOf 33 = .ok (.dload_n 0, 1) := by decide +kernel
theorem dX6_bitsOf_34 : decode cX6_bitsOf 34 = .ok (.dstore 4, 2) := by decide +kernel
theorem dX6_bitsOf_36 : decode cX6_bitsOf 36 = .ok (.ldc2_w 250, 3) := by decide +kernel
theorem dX6_bitsOf_39 : decode cX6_bitsOf 39 = .ok (.lstore 6, 2) := by decide +kernel
theorem dX6_bitsOf_41 : decode cX6_bitsOf 41 = .ok (.iconst 0, 1) := by decide +kernel
theorem dX6_bitsOf_42 : decode cX6_bitsOf 42 = .ok (.istore 8, 2) := by decide +kernel
theorem dX6_bitsOf_44 : decode cX6_bitsOf 44 = .ok (.iload 8, 2) := by decide +kernel
theorem dX6_bitsOf_46 : decode cX6_bitsOf 46 = .ok (.sipush 1023, 3) := by decide +kernel
theorem dX6_bitsOf_49 : decode cX6_bitsOf 49 = .ok (.if_icmp .ge 32, 3) := by decide +kernel
theorem dX6_bitsOf_52 : decode cX6_bitsOf 52 = .ok (.dload 4, 2) := by decide +kernel
theorem dX6_bitsOf_54 : decode cX6_bitsOf 54 = .ok (.ldc2_w 252, 3) := by decide +kernel
theorem dX6_bitsOf_57 : decode cX6_bitsOf 57 = .ok (.dcmp .l, 1) := by decide +kernel
theorem dX6_bitsOf_58 : decode cX6_bitsOf 58 = .ok (.ifCond .lt 23, 3) := by decide +kernel
theorem dX6_bitsOf_61 : decode cX6_bitsOf 61 = .ok (.dload 4, 2) := by decide +kernel
theorem dX6_bitsOf_63 : decode cX6_bitsOf 63 = .ok (.ldc2_w 252, 3) := by decide +kernel
theorem dX6_bitsOf_66 : decode cX6_bitsOf 66 = .ok (.ddiv, 1) := by decide +kernel
theorem dX6_bitsOf_67 : decode cX6_bitsOf 67 = .ok (.dstore 4, 2) := by decide +kernel
theorem dX6_bitsOf_69 : decode cX6_bitsOf 69 = .ok (.lload 6, 2) := by decide +kernel
theorem dX6_bitsOf_71 : decode cX6_bitsOf 71 = .ok (.lconst 1, 1) := by decide +kernel
theorem dX6_bitsOf_72 : decode cX6_bitsOf 72 = .ok (.ladd, 1) := by decide +kernel
theorem dX6_bitsOf_73 : decode cX6_bitsOf 73 = .ok (.lstore 6, 2) := by decide +kernel
theorem dX6_bitsOf_75 : decode cX6_bitsOf 75 = .ok (.iinc 8 1, 3) := by decide +kernel
theorem dX6_bitsOf_78 : decode cX6_bitsOf 78 = .ok (.goto (-34), 3) := by decide +kernel
theorem dX6_bitsOf_81 : decode cX6_bitsOf 81 = .ok (.iconst 0, 1) := by decide +kernel
theorem dX6_bitsOf_82 : decode cX6_bitsOf 82 = .ok (.istore 8, 2) := by decide +kernel
theorem dX6_bitsOf_84 : decode cX6_bitsOf 84 = .ok (.iload 8, 2) := by decide +kernel
theorem dX6_bitsOf_86 : decode cX6_bitsOf 86 = .ok (.sipush 1022, 3) := by decide +kernel
theorem dX6_bitsOf_89 : decode cX6_bitsOf 89 = .ok (.if_icmp .ge 30, 3) := by decide +kernel
theorem dX6_bitsOf_92 : decode cX6_bitsOf 92 = .ok (.dload 4, 2) := by decide +kernel
theorem dX6_bitsOf_94 : decode cX6_bitsOf 94 = .ok (.dconst 1, 1) := by decide +kernel
theorem dX6_bitsOf_95 : decode cX6_bitsOf 95 = .ok (.dcmp .g, 1) := by decide +kernel
theorem dX6_bitsOf_96 : decode cX6_bitsOf 96 = .ok (.ifCond .ge 23, 3) := by decide +kernel
theorem dX6_bitsOf_99 : decode cX6_bitsOf 99 = .ok (.dload 4, 2) := by decide +kernel
theorem dX6_bitsOf_101 : decode cX6_bitsOf 101 = .ok (.ldc2_w 252, 3) := by decide +kernel
theorem dX6_bitsOf_104 : decode cX6_bitsOf 104 = .ok (.dmul, 1) := by decide +kernel
theorem dX6_bitsOf_105 : decode cX6_bitsOf 105 = .ok (.dstore 4, 2) := by decide +kernel
theorem dX6_bitsOf_107 : decode cX6_bitsOf 107 = .ok (.lload 6, 2) := by decide +kernel
theorem dX6_bitsOf_109 : decode cX6_bitsOf 109 = .ok (.lconst 1, 1) := by decide +kernel
theorem dX6_bitsOf_110 : decode cX6_bitsOf 110 = .ok (.lsub, 1) := by decide +kernel
theorem dX6_bitsOf_111 : decode cX6_bitsOf 111 = .ok (.lstore 6, 2) := by decide +kernel
theorem dX6_bitsOf_113 : decode cX6_bitsOf 113 = .ok (.iinc 8 1, 3) := by decide +kernel
theorem dX6_bitsOf_116 : decode cX6_bitsOf 116 = .ok (.goto (-32), 3) := by decide +kernel
theorem dX6_bitsOf_119 : decode cX6_bitsOf 119 = .ok (.dload 4, 2) := by decide +kernel
theorem dX6_bitsOf_121 : decode cX6_bitsOf 121 = .ok (.dconst 1, 1) := by decide +kernel
theorem dX6_bitsOf_122 : decode cX6_bitsOf 122 = .ok (.dsub, 1) := by decide +kernel
theorem dX6_bitsOf_123 : decode cX6_bitsOf 123 = .ok (.ldc2_w 254, 3) := by decide +kernel
theorem dX6_bitsOf_126 : decode cX6_bitsOf 126 = .ok (.dmul, 1) := by decide +kernel
theorem dX6_bitsOf_127 : decode cX6_bitsOf 127 = .ok (.d2l, 1) := by decide +kernel
theorem dX6_bitsOf_128 : decode cX6_bitsOf 128 = .ok (.lstore 8, 2) := by decide +kernel
theorem dX6_bitsOf_130 : decode cX6_bitsOf 130 = .ok (.lload_n 2, 1) := by decide +kernel
theorem dX6_bitsOf_131 : decode cX6_bitsOf 131 = .ok (.lload 6, 2) := by decide +kernel
theorem dX6_bitsOf_133 : decode cX6_bitsOf 133 = .ok (.bipush 52, 2) := by decide +kernel
theorem dX6_bitsOf_135 : decode cX6_bitsOf 135 = .ok (.lshl, 1) := by decide +kernel
theorem dX6_bitsOf_136 : decode cX6_bitsOf 136 = .ok (.lor, 1) := by decide +kernel
theorem dX6_bitsOf_137 : decode cX6_bitsOf 137 = .ok (.lload 8, 2) := by decide +kernel
theorem dX6_bitsOf_139 : decode cX6_bitsOf 139 = .ok (.lor, 1) := by decide +kernel
theorem dX6_bitsOf_140 : decode cX6_bitsOf 140 = .ok (.lreturn, 1) := by decide +kernel
theorem dX7_init_0 : decode cX7_init 0 = .ok (.aload_n 0, 1) := by decide +kernel
theorem dX7_init_1 : decode cX7_init 1 = .ok (.invokespecial 1, 3) := by decide +kernel
theorem dX7_init_4 : decode cX7_init 4 = .ok (.aload_n 0, 1) := by decide +kernel
theorem dX7_init_5 : decode cX7_init 5 = .ok (.bipush 6, 2) := by decide +kernel
theorem dX7_init_7 : decode cX7_init 7 = .ok (.newarray .int, 2) := by decide +kernel
theorem dX7_init_9 : decode cX7_init 9 = .ok (.putfield 7, 3) := by decide +kernel
theorem dX7_init_12 : decode cX7_init 12 = .ok (.aload_n 0, 1) := by decide +kernel
theorem dX7_init_13 : decode cX7_init 13 = .ok (.bipush 6, 2) := by decide +kernel
theorem dX7_init_15 : decode cX7_init 15 = .ok (.newarray .int, 2) := by decide +kernel
theorem dX7_init_17 : decode cX7_init 17 = .ok (.putfield 13, 3) := by decide +kernel
theorem dX7_init_20 : decode cX7_init 20 = .ok (.aload_n 0, 1) := by decide +kernel
theorem dX7_init_21 : decode cX7_init 21 = .ok (.bipush 24, 2) := by decide +kernel
theorem dX7_init_23 : decode cX7_init 23 = .ok (.newarray .int, 2) := by decide +kernel
theorem dX7_init_25 : decode cX7_init 25 = .ok (.putfield 16, 3) := by decide +kernel
theorem dX7_init_28 : decode cX7_init 28 = .ok (.aload_n 0, 1) := by decide +kernel
theorem dX7_init_29 : decode cX7_init 29 = .ok (.bipush 24, 2) := by decide +kernel
theorem dX7_init_31 : decode cX7_init 31 = .ok (.newarray .int, 2) := by decide +kernel
theorem dX7_init_33 : decode cX7_init 33 = .ok (.putfield 19, 3) := by decide +kernel
theorem dX7_init_36 : decode cX7_init 36 = .ok (.aload_n 0, 1) := by decide +kernel
theorem dX7_init_37 : decode cX7_init 37 = .ok (.bipush 24, 2) := by decide +kernel
theorem dX7_init_39 : decode cX7_init 39 = .ok (.newarray .int, 2) := by decide +kernel
theorem dX7_init_41 : decode cX7_init 41 = .ok (.putfield 22, 3) := by decide +kernel
theorem dX7_init_44 : decode cX7_init 44 = .ok (.aload_n 0, 1) := by decide +kernel
theorem dX7_init_45 : decode cX7_init 45 = .ok (.bipush 24, 2) := by decide +kernel
theorem dX7_init_47 : decode cX7_init 47 = .ok (.newarray .int, 2) := by decide +kernel
theorem dX7_init_49 : decode cX7_init 49 = .ok (.putfield 25, 3) := by decide +kernel
theorem dX7_init_52 : decode cX7_init 52 = .ok (.aload_n 0, 1) := by decide +kernel
theorem dX7_init_53 : decode cX7_init 53 = .ok (.bipush 6, 2) := by decide +kernel
theorem dX7_init_55 : decode cX7_init 55 = .ok (.newarray .int, 2) := by decide +kernel
theorem dX7_init_57 : decode cX7_init 57 = .ok (.putfield 28, 3) := by decide +kernel
theorem dX7_init_60 : decode cX7_init 60 = .ok (.aload_n 0, 1) := by decide +kernel
theorem dX7_init_61 : decode cX7_init 61 = .ok (.bipush 6, 2) := by decide +kernel
theorem dX7_init_63 : decode cX7_init 63 = .ok (.newarray .int, 2) := by decide +kernel
theorem dX7_init_65 : decode cX7_init 65 = .ok (.putfield 31, 3) := by decide +kernel
theorem dX7_init_68 : decode cX7_init 68 = .ok (.aload_n 0, 1) := by decide +kernel
theorem dX7_init_69 : decode cX7_init 69 = .ok (.bipush 6, 2) := by decide +kernel
theorem dX7_init_71 : decode cX7_init 71 = .ok (.newarray .int, 2) := by decide +kernel
theorem dX7_init_73 : decode cX7_init 73 = .ok (.putfield 34, 3) := by decide +kernel
theorem dX7_init_76 : decode cX7_init 76 = .ok (.aload_n 0, 1) := by decide +kernel
theorem dX7_init_77 : decode cX7_init 77 = .ok (.sipush 1000, 3) := by decide +kernel
theorem dX7_init_80 : decode cX7_init 80 = .ok (.newarray .boolean, 2) := by decide +kernel
theorem dX7_init_82 : decode cX7_init 82 = .ok (.putfield 37, 3) := by decide +kernel
theorem dX7_init_85 : decode cX7_init 85 = .ok (.aload_n 0, 1) := by decide +kernel
theorem dX7_init_86 : decode cX7_init 86 = .ok (.sipush 6000, 3) := by decide +kernel
theorem dX7_init_89 : decode cX7_init 89 = .ok (.newarray .boolean, 2) := by decide +kernel
theorem dX7_init_91 : decode cX7_init 91 = .ok (.putfield 41, 3) := by decide +kernel
theorem dX7_init_94 : decode cX7_init 94 = .ok (.aload_n 0, 1) := by decide +kernel
theorem dX7_init_95 : decode cX7_init 95 = .ok (.sipush 6000, 3) := by decide +kernel
theorem dX7_init_98 : decode cX7_init 98 = .ok (.newarray .double, 2) := by decide +kernel
theorem dX7_init_100 : decode cX7_init 100 = .ok (.putfield 44, 3) := by decide +kernel
theorem dX7_init_103 : decode cX7_init 103 = .ok (.aload_n 0, 1) := by decide +kernel
theorem dX7_init_104 : decode cX7_init 104 = .ok (.bipush 6, 2) := by decide +kernel
theorem dX7_init_106 : decode cX7_init 106 = .ok (.newarray .int, 2) := by decide +kernel
theorem dX7_init_108 : decode cX7_init 108 = .ok (.putfield 48, 3) := by decide +kernel
theorem dX7_init_111 : decode cX7_init 111 = .ok (.aload_n 0, 1) := by decide +kernel
theorem dX7_init_112 : decode cX7_init 112 = .ok (.bipush 120, 2) := by decide +kernel
theorem dX7_init_114 : decode cX7_init 114 = .ok (.newarray .double, 2) := by decide +kernel
theorem dX7_init_116 : decode cX7_init 116 = .ok (.putfield 51, 3) := by decide +kernel
theorem dX7_init_119 : decode cX7_init 119 = .ok (.aload_n 0, 1) := by decide +kernel
theorem dX7_init_120 : decode cX7_init 120 = .ok (.bipush 120, 2) := by decide +kernel
theorem dX7_init_122 : decode cX7_init 122 = .ok (.newarray .int, 2) := by decide +kernel
theorem dX7_init_124 : decode cX7_init 124 = .ok (.putfield 54, 3) := by decide +kernel
theorem dX7_init_127 : decode cX7_init 127 = .ok (.aload_n 0, 1) := by decide +kernel
theorem dX7_init_128 : decode cX7_init 128 = .ok (.bipush 12, 2) := by decide +kernel
theorem dX7_init_130 : decode cX7_init 130 = .ok (.newarray .int, 2) := by decide +kernel
theorem dX7_init_132 : decode cX7_init 132 = .ok (.putfield 57, 3) := by decide +kernel
theorem dX7_init_135 : decode cX7_init 135 = .ok (.aload_n 0, 1) := by decide +kernel
theorem dX7_init_136 : decode cX7_init 136 = .ok (.bipush 12, 2) := by decide +kernel
theorem dX7_init_138 : decode cX7_init 138 = .ok (.newarray .int, 2) := by decide +kernel
theorem dX7_init_140 : decode cX7_init 140 = .ok (.putfield 60, 3) := by decide +kernel
theorem dX7_init_143 : decode cX7_init 143 = .ok (.aload_n 0, 1) := by decide +kernel
theorem dX7_init_144 : decode cX7_init 144 = .ok (.bipush 12, 2) := by decide +kernel
theorem dX7_init_146 : decode cX7_init 146 = .ok (.newarray .int, 2) := by decide +kernel
theorem dX7_init_148 : decode cX7_init 148 = .ok (.putfield 63, 3) := by decide +kernel
theorem dX7_init_151 : decode cX7_init 151 = .ok (.aload_n 0, 1) := by decide +kernel
theorem dX7_init_152 : decode cX7_init 152 = .ok (.bipush 12, 2) := by decide +kernel
theorem dX7_init_154 : decode cX7_init 154 = .ok (.newarray .boolean, 2) := by decide +kernel
theorem dX7_init_156 : decode cX7_init 156 = .ok (.putfield 66, 3) := by decide +kernel
theorem dX7_init_159 : decode cX7_init 159 = .ok (.aload_n 0, 1) := by decide +kernel
theorem dX7_init_160 : decode cX7_init 160 = .ok (.bipush 30, 2) := by decide +kernel
theorem dX7_init_162 : decode cX7_init 162 = .ok (.newarray .int, 2) := by decide +kernel
theorem dX7_init_164 : decode cX7_init 164 = .ok (.putfield 69, 3) := by decide +kernel
theorem dX7_init_167 : decode cX7_init 167 = .ok (.aload_n 0, 1) := by decide +kernel
theorem dX7_init_168 : decode cX7_init 168 = .ok (.bipush 30, 2) := by decide +kernel
theorem dX7_init_170 : decode cX7_init 170 = .ok (.newarray .int, 2) := by decide +kernel
theorem dX7_init_172 : decode cX7_init 172 = .ok (.putfield 72, 3) := by decide +kernel
theorem dX7_init_175 : decode cX7_init 175 = .ok (.return_, 1) := by decide +kernel
theorem dX7_thrown_0 : decode cX7_thrown 0 = .ok (.aload_n 0, 1) := by decide +kernel
theorem dX7_thrown_1 : decode cX7_thrown 1 = .ok (.getfield 75, 3) := by decide +kernel
theorem dX7_thrown_4 : decode cX7_thrown 4 = .ok (.ireturn, 1) := by decide +kernel
theorem dX7_isIn_0 : decode cX7_isIn 0 = .ok (.iload_n 0, 1) := by decide +kernel
theorem dX7_isIn_1 : decode cX7_isIn 1 = .ok (.iload_n 1, 1) := by decide +kernel
theorem dX7_isIn_2 : decode cX7_isIn 2 = .ok (.if_icmp .lt 12, 3) := by decide +kernel
theorem dX7_isIn_5 : decode cX7_isIn 5 = .ok (.iload_n 0, 1) := by decide +kernel
theorem dX7_isIn_6 : decode cX7_isIn 6 = .ok (.iload_n 2, 1) := by decide +kernel
theorem dX7_isIn_7 : decode cX7_isIn 7 = .ok (.if_icmp .gt 7, 3) := by decide +kernel
theorem dX7_isIn_10 : decode cX7_isIn 10 = .ok (.iconst 1, 1) := by decide +kernel
theorem dX7_isIn_11 : decode cX7_isIn 11 = .ok (.goto 4, 3) := by decide +kernel
theorem dX7_isIn_14 : decode cX7_isIn 14 = .ok (.iconst 0, 1) := by decide +kernel
theorem dX7_isIn_15 : decode cX7_isIn 15 = .ok (.ireturn, 1) := by decide +kernel
theorem dX7_isStar_0 : decode cX7_isStar 0 = .ok (.iload_n 1, 1) := by decide +kernel
theorem dX7_isStar_1 : decode cX7_isStar 1 = .ok (.iconst 0, 1) := by decide +kernel
theorem dX7_isStar_2 : decode cX7_isStar 2 = .ok (.aload_n 0, 1) := by decide +kernel
theorem dX7_isStar_3 : decode cX7_isStar 3 = .ok (.getfield 79, 3) := by decide +kernel
theorem dX7_isStar_6 : decode cX7_isStar 6 = .ok (.iconst 1, 1) := by decide +kernel
theorem dX7_isStar_7 : decode cX7_isStar 7 = .ok (.isub, 1) := by decide +kernel
theorem dX7_isStar_8 : decode cX7_isStar 8 = .ok (.invokestatic 82, 3) := by decide +kernel
theorem dX7_isStar_11 : decode cX7_isStar 11 = .ok (.ireturn, 1) := by decide +kernel
theorem dX7_isHour_0 : decode cX7_isHour 0 = .ok (.iload_n 0, 1) := by decide +kernel
theorem dX7_isHour_1 : decode cX7_isHour 1 = .ok (.iconst 0, 1) := by decide +kernel
theorem dX7_isHour_2 : decode cX7_isHour 2 = .ok (.sipush 999, 3) := by decide +kernel
theorem dX7_isHour_5 : decode cX7_isHour 5 = .ok (.invokestatic 82, 3) := by decide +kernel
theorem dX7_isHour_8 : decode cX7_isHour 8 = .ok (.ireturn, 1) := by decide +kernel
theorem dX7_star_0 : decode cX7_star 0 = .ok (.aload_n 0, 1) := by decide +kernel
theorem dX7_star_1 : decode cX7_star 1 = .ok (.iload_n 1, 1) := by decide +kernel
theorem dX7_star_2 : decode cX7_star 2 = .ok (.sipush 1000, 3) := by decide +kernel
theorem dX7_star_5 : decode cX7_star 5 = .ok (.ldc 86, 2) := by decide +kernel
theorem dX7_star_7 : decode cX7_star 7 = .ok (.invokestatic 82, 3) := by decide +kernel
theorem dX7_star_10 : decode cX7_star 10 = .ok (.ifCond .ne 7, 3) := by decide +kernel
theorem dX7_star_13 : decode cX7_star 13 = .ok (.iconst 1, 1) := by decide +kernel
theorem dX7_star_14 : decode cX7_star 14 = .ok (.goto 17, 3) := by decide +kernel
theorem dX7_star_17 : decode cX7_star 17 = .ok (.aload_n 0, 1) := by decide +kernel
theorem dX7_star_18 : decode cX7_star 18 = .ok (.getfield 79, 3) := by decide +kernel
theorem dX7_star_21 : decode cX7_star 21 = .ok (.bipush 6, 2) := by decide +kernel
theorem dX7_star_23 : decode cX7_star 23 = .ok (.if_icmp .ne 7, 3) := by decide +kernel
theorem dX7_star_26 : decode cX7_star 26 = .ok (.iconst 2, 1) := by decide +kernel
theorem dX7_star_27 : decode cX7_star 27 = .ok (.goto 4, 3) := by decide +kernel
theorem dX7_star_30 : decode cX7_star 30 = .ok (.iconst 0, 1) := by decide +kernel
theorem dX7_star_31 : decode cX7_star 31 = .ok (.putfield 75, 3) := by decide +kernel
theorem dX7_star_34 : decode cX7_star 34 = .ok (.aload_n 0, 1) := by decide +kernel
theorem dX7_star_35 : decode cX7_star 35 = .ok (.getfield 75, 3) := by decide +kernel
theorem dX7_star_38 : decode cX7_star 38 = .ok (.ifCond .le 5, 3) := by decide +kernel
theorem dX7_star_41 : decode cX7_star 41 = .ok (.iconst 0, 1) := by decide +kernel
theorem dX7_star_42 : decode cX7_star 42 = .ok (.ireturn, 1) := by decide +kernel
theorem dX7_star_43 : decode cX7_star 43 = .ok (.aload_n 0, 1) := by decide +kernel
theorem dX7_star_44 : decode cX7_star 44 = .ok (.getfield 7, 3) := by decide +kernel
theorem dX7_star_47 : decode cX7_star 47 = .ok (.aload_n 0, 1) := by decide +kernel
theorem dX7_star_48 : decode cX7_star 48 = .ok (.getfield 79, 3) := by decide +kernel
theorem dX7_star_51 : decode cX7_star 51 = .ok (.iload_n 1, 1) := by decide +kernel
theorem dX7_star_52 : decode cX7_star 52 = .ok (.iastore, 1) := by decide +kernel
theorem dX7_star_53 : decode cX7_star 53 = .ok (.aload_n 0, 1) := by decide +kernel
theorem dX7_star_54 : decode cX7_star 54 = .ok (.dup, 1) := by decide +kernel
theorem dX7_star_55 : decode cX7_star 55 = .ok (.getfield 79, 3) := by decide +kernel
theorem dX7_star_58 : decode cX7_star 58 = .ok (.iconst 1, 1) := by decide +kernel
theorem dX7_star_59 : decode cX7_star 59 = .ok (.iadd, 1) := by decide +kernel
theorem dX7_star_60 : decode cX7_star 60 = .ok (.putfield 79, 3) := by decide +kernel
theorem dX7_star_63 : decode cX7_star 63 = .ok (.aload_n 0, 1) := by decide +kernel
theorem dX7_star_64 : decode cX7_star 64 = .ok (.getfield 79, 3) := by decide +kernel
theorem dX7_star_67 : decode cX7_star 67 = .ok (.iconst 1, 1) := by decide +kernel
theorem dX7_star_68 : decode cX7_star 68 = .ok (.isub, 1) := by decide +kernel
theorem dX7_star_69 : decode cX7_star 69 = .ok (.ireturn, 1) := by decide +kernel
theorem dX7_planet_0 : decode cX7_planet 0 = .ok (.iload_n 2, 1) := by decide +kernel
theorem dX7_planet_1 : decode cX7_planet 1 = .ok (.iconst 2, 1) := by decide +kernel
theorem dX7_planet_2 : decode cX7_planet 2 = .ok (.bipush 60, 2) := by decide +kernel
theorem dX7_planet_4 : decode cX7_planet 4 = .ok (.invokestatic 82, 3) := by decide +kernel
theorem dX7_planet_7 : decode cX7_planet 7 = .ok (.ifCond .eq 46, 3) := by decide +kernel
theorem dX7_planet_10 : decode cX7_planet 10 = .ok (.iload_n 3, 1) := by decide +kernel
theorem dX7_planet_11 : decode cX7_planet 11 = .ok (.iconst 0, 1) := by decide +kernel
theorem dX7_planet_12 : decode cX7_planet 12 = .ok (.iload_n 2, 1) := by decide +kernel
theorem dX7_planet_13 : decode cX7_planet 13 = .ok (.iconst 1, 1) := by decide +kernel
theorem dX7_planet_14 : decode cX7_planet 14 = .ok (.isub, 1) := by decide +kernel
theorem dX7_planet_15 : decode cX7_planet 15 = .ok (.invokestatic 82, 3) := by decide +kernel
theorem dX7_planet_18 : decode cX7_planet 18 = .ok (.ifCond .eq 35, 3) := by decide +kernel
theorem dX7_planet_21 : decode cX7_planet 21 = .ok (.iload 4, 2) := by decide +kernel
theorem dX7_planet_23 : decode cX7_planet 23 = .ok (.iconst 1, 1) := by decide +kernel
theorem dX7_planet_24 : decode cX7_planet 24 = .ok (.iconst 4, 1) := by decide +kernel
theorem dX7_planet_25 : decode cX7_planet 25 = .ok (.invokestatic 82, 3) := by decide +kernel
theorem dX7_planet_28 : decode cX7_planet 28 = .ok (.ifCond .eq 25, 3) := by decide +kernel
theorem dX7_planet_31 : decode cX7_planet 31 = .ok (.iload 4, 2) := by decide +kernel
theorem dX7_planet_33 : decode cX7_planet 33 = .ok (.iload_n 2, 1) := by decide +kernel
theorem dX7_planet_34 : decode cX7_planet 34 = .ok (.if_icmp .ge 19, 3) := by decide +kernel
theorem dX7_planet_37 : decode cX7_planet 37 = .ok (.iload 5, 2) := by decide +kernel
theorem dX7_planet_39 : decode cX7_planet 39 = .ok (.iconst 1, 1) := by decide +kernel
theorem dX7_planet_40 : decode cX7_planet 40 = .ok (.sipush 200, 3) := by decide +kernel
theorem dX7_planet_43 : decode cX7_planet 43 = .ok (.invokestatic 82, 3) := by decide +kernel
theorem dX7_planet_46 : decode cX7_planet 46 = .ok (.ifCond .eq 7, 3) := by decide +kernel
theorem dX7_planet_49 : decode cX7_planet 49 = .ok (.iconst 1, 1) := by decide +kernel
theorem dX7_planet_50 : decode cX7_planet 50 = .ok (.goto 4, 3) := by decide +kernel
theorem dX7_planet_53 : decode cX7_planet 53 = .ok (.iconst 0, 1) := by decide +kernel
theorem dX7_planet_54 : decode cX7_planet 54 = .ok (.istore 6, 2) := by decide +kernel
theorem dX7_planet_56 : decode cX7_planet 56 = .ok (.aload_n 0, 1) := by decide +kernel
theorem dX7_planet_57 : decode cX7_planet 57 = .ok (.aload_n 0, 1) := by decide +kernel
theorem dX7_planet_58 : decode cX7_planet 58 = .ok (.iload_n 1, 1) := by decide +kernel
theorem dX7_planet_59 : decode cX7_planet 59 = .ok (.invokevirtual 87, 3) := by decide +kernel
theorem dX7_planet_62 : decode cX7_planet 62 = .ok (.ifCond .ne 7, 3) := by decide +kernel
theorem dX7_planet_65 : decode cX7_planet 65 = .ok (.iconst 1, 1) := by decide +kernel
theorem dX7_planet_66 : decode cX7_planet 66 = .ok (.goto 27, 3) := by decide +kernel
theorem dX7_planet_69 : decode cX7_planet 69 = .ok (.iload 6, 2) := by decide +kernel
theorem dX7_planet_71 : decode cX7_planet 71 = .ok (.ifCond .ne 7, 3) := by decide +kernel
theorem dX7_planet_74 : decode cX7_planet 74 = .ok (.iconst 2, 1) := by decide +kernel
theorem dX7_planet_75 : decode cX7_planet 75 = .ok (.goto 18, 3) := by decide +kernel
theorem dX7_planet_78 : decode cX7_planet 78 = .ok (.aload_n 0, 1) := by decide +kernel
theorem dX7_planet_79 : decode cX7_planet 79 = .ok (.getfield 13, 3) := by decide +kernel
theorem dX7_planet_82 : decode cX7_planet 82 = .ok (.iload_n 1, 1) := by decide +kernel
theorem dX7_planet_83 : decode cX7_planet 83 = .ok (.iaload, 1) := by decide +kernel
theorem dX7_planet_84 : decode cX7_planet 84 = .ok (.iconst 4, 1) := by decide +kernel
theorem dX7_planet_85 : decode cX7_planet 85 = .ok (.if_icmp .ne 7, 3) := by decide +kernel
theorem dX7_planet_88 : decode cX7_planet 88 = .ok (.iconst 3, 1) := by decide +kernel
theorem dX7_planet_89 : decode cX7_planet 89 = .ok (.goto 4, 3) := by decide +kernel
theorem dX7_planet_92 : decode cX7_planet 92 = .ok (.iconst 0, 1) := by decide +kernel
theorem dX7_planet_93 : decode cX7_planet 93 = .ok (.putfield 75, 3) := by decide +kernel
theorem dX7_planet_96 : decode cX7_planet 96 = .ok (.aload_n 0, 1) := by decide +kernel
theorem dX7_planet_97 : decode cX7_planet 97 = .ok (.getfield 75, 3) := by decide +kernel
theorem dX7_planet_100 : decode cX7_planet 100 = .ok (.ifCond .le 5, 3) := by decide +kernel
theorem dX7_planet_103 : decode cX7_planet 103 = .ok (.iconst 0, 1) := by decide +kernel
theorem dX7_planet_104 : decode cX7_planet 104 = .ok (.ireturn, 1) := by decide +kernel
theorem dX7_planet_105 : decode cX7_planet 105 = .ok (.iconst 4, 1) := by decide +kernel
theorem dX7_planet_106 : decode cX7_planet 106 = .ok (.iload_n 1, 1) := by decide +kernel
theorem dX7_planet_107 : decode cX7_planet 107 = .ok (.imul, 1) := by decide +kernel
theorem dX7_planet_108 : decode cX7_planet 108 = .ok (.aload_n 0, 1) := by decide +kernel
theorem dX7_planet_109 : decode cX7_planet 109 = .ok (.getfield 13, 3) := by decide +kernel
theorem dX7_planet_112 : decode cX7_planet 112 = .ok (.iload_n 1, 1) := by decide +kernel
theorem dX7_planet_113 : decode cX7_planet 113 = .ok (.iaload, 1) := by decide +kernel
theorem dX7_planet_114 : decode cX7_planet 114 = .ok (.iadd, 1) := by decide +kernel
theorem dX7_planet_115 : decode cX7_planet 115 = .ok (.istore 7, 2) := by decide +kernel
theorem dX7_planet_117 : decode cX7_planet 117 = .ok (.aload_n 0, 1) := by decide +kernel
theorem dX7_planet_118 : decode cX7_planet 118 = .ok (.getfield 16, 3) := by decide +kernel
theorem dX7_planet_121 : decode cX7_planet 121 = .ok (.iload 7, 2) := by decide +kernel
theorem dX7_planet_123 : decode cX7_planet 123 = .ok (.iload_n 2, 1) := by decide +kernel
theorem dX7_planet_124 : decode cX7_planet 124 = .ok (.iastore, 1) := by decide +kernel
theorem dX7_planet_125 : decode cX7_planet 125 = .ok (.aload_n 0, 1) := by decide +kernel
theorem dX7_planet_126 : decode cX7_planet 126 = .ok (.getfield 19, 3) := by decide +kernel
theorem dX7_planet_129 : decode cX7_planet 129 = .ok (.iload 7, 2) := by decide +kernel
theorem dX7_planet_131 : decode cX7_planet 131 = .ok (.iload_n 3, 1) := by decide +kernel
theorem dX7_planet_132 : decode cX7_planet 132 = .ok (.iastore, 1) := by decide +kernel
theorem dX7_planet_133 : decode cX7_planet 133 = .ok (.aload_n 0, 1) := by decide +kernel
theorem dX7_planet_134 : decode cX7_planet 134 = .ok (.getfield 22, 3) := by decide +kernel
theorem dX7_planet_137 : decode cX7_planet 137 = .ok (.iload 7, 2) := by decide +kernel
theorem dX7_planet_139 : decode cX7_planet 139 = .ok (.iload 4, 2) := by decide +kernel
theorem dX7_planet_141 : decode cX7_planet 141 = .ok (.iastore, 1) := by decide +kernel
theorem dX7_planet_142 : decode cX7_planet 142 = .ok (.aload_n 0, 1) := by decide +kernel
theorem dX7_planet_143 : decode cX7_planet 143 = .ok (.getfield 25, 3) := by decide +kernel
theorem dX7_planet_146 : decode cX7_planet 146 = .ok (.iload 7, 2) := by decide +kernel
theorem dX7_planet_148 : decode cX7_planet 148 = .ok (.iload 5, 2) := by decide +kernel
theorem dX7_planet_150 : decode cX7_planet 150 = .ok (.iastore, 1) := by decide +kernel
theorem dX7_planet_151 : decode cX7_planet 151 = .ok (.aload_n 0, 1) := by decide +kernel
theorem dX7_planet_152 : decode cX7_planet 152 = .ok (.getfield 13, 3) := by decide +kernel
theorem dX7_planet_155 : decode cX7_planet 155 = .ok (.iload_n 1, 1) := by decide +kernel
theorem dX7_planet_156 : decode cX7_planet 156 = .ok (.dup2, 1) := by decide +kernel
theorem dX7_planet_157 : decode cX7_planet 157 = .ok (.iaload, 1) := by decide +kernel
theorem dX7_planet_158 : decode cX7_planet 158 = .ok (.iconst 1, 1) := by decide +kernel
theorem dX7_planet_159 : decode cX7_planet 159 = .ok (.iadd, 1) := by decide +kernel
theorem dX7_planet_160 : decode cX7_planet 160 = .ok (.iastore, 1) := by decide +kernel
theorem dX7_planet_161 : decode cX7_planet 161 = .ok (.aload_n 0, 1) := by decide +kernel
theorem dX7_planet_162 : decode cX7_planet 162 = .ok (.getfield 13, 3) := by decide +kernel
theorem dX7_planet_165 : decode cX7_planet 165 = .ok (.iload_n 1, 1) := by decide +kernel
theorem dX7_planet_166 : decode cX7_planet 166 = .ok (.iaload, 1) := by decide +kernel
theorem dX7_planet_167 : decode cX7_planet 167 = .ok (.ireturn, 1) := by decide +kernel
theorem dX7_spots_0 : decode cX7_spots 0 = .ok (.aload_n 0, 1) := by decide +kernel
theorem dX7_spots_1 : decode cX7_spots 1 = .ok (.aload_n 0, 1) := by decide +kernel
theorem dX7_spots_2 : decode cX7_spots 2 = .ok (.iload_n 1, 1) := by decide +kernel
theorem dX7_spots_3 : decode cX7_spots 3 = .ok (.invokevirtual 87, 3) := by decide +kernel
theorem dX7_spots_6 : decode cX7_spots 6 = .ok (.ifCond .ne 7, 3) := by decide +kernel
theorem dX7_spots_9 : decode cX7_spots 9 = .ok (.iconst 1, 1) := by decide +kernel
theorem dX7_spots_10 : decode cX7_spots 10 = .ok (.goto 28, 3) := by decide +kernel
theorem dX7_spots_13 : decode cX7_spots 13 = .ok (.iload_n 2, 1) := by decide +kernel
theorem dX7_spots_14 : decode cX7_spots 14 = .ok (.iconst 4, 1) := by decide +kernel
theorem dX7_spots_15 : decode cX7_spots 15 = .ok (.bipush 60, 2) := by decide +kernel
theorem dX7_spots_17 : decode cX7_spots 17 = .ok (.invokestatic 82, 3) := by decide +kernel
theorem dX7_spots_20 : decode cX7_spots 20 = .ok (.ifCond .eq 13, 3) := by decide +kernel
theorem dX7_spots_23 : decode cX7_spots 23 = .ok (.iload_n 3, 1) := by decide +kernel
theorem dX7_spots_24 : decode cX7_spots 24 = .ok (.iconst 0, 1) := by decide +kernel
theorem dX7_spots_25 : decode cX7_spots 25 = .ok (.bipush 100, 2) := by decide +kernel
theorem dX7_spots_27 : decode cX7_spots 27 = .ok (.invokestatic 82, 3) := by decide +kernel
theorem dX7_spots_30 : decode cX7_spots 30 = .ok (.ifCond .ne 7, 3) := by decide +kernel
theorem dX7_spots_33 : decode cX7_spots 33 = .ok (.iconst 2, 1) := by decide +kernel
theorem dX7_spots_34 : decode cX7_spots 34 = .ok (.goto 4, 3) := by decide +kernel
theorem dX7_spots_37 : decode cX7_spots 37 = .ok (.iconst 0, 1) := by decide +kernel
theorem dX7_spots_38 : decode cX7_spots 38 = .ok (.putfield 75, 3) := by decide +kernel
theorem dX7_spots_41 : decode cX7_spots 41 = .ok (.aload_n 0, 1) := by decide +kernel
theorem dX7_spots_42 : decode cX7_spots 42 = .ok (.getfield 75, 3) := by decide +kernel
theorem dX7_spots_45 : decode cX7_spots 45 = .ok (.ifCond .le 5, 3) := by decide +kernel
theorem dX7_spots_48 : decode cX7_spots 48 = .ok (.iconst 0, 1) := by decide +kernel
theorem dX7_spots_49 : decode cX7_spots 49 = .ok (.ireturn, 1) := by decide +kernel
theorem dX7_spots_50 : decode cX7_spots 50 = .ok (.aload_n 0, 1) := by decide +kernel
theorem dX7_spots_51 : decode cX7_spots 51 = .ok (.getfield 31, 3) := by decide +kernel
theorem dX7_spots_54 : decode cX7_spots 54 = .ok (.iload_n 1, 1) := by decide +kernel
theorem dX7_spots_55 : decode cX7_spots 55 = .ok (.iaload, 1) := by decide +kernel
theorem dX7_spots_56 : decode cX7_spots 56 = .ok (.istore 4, 2) := by decide +kernel
theorem dX7_spots_58 : decode cX7_spots 58 = .ok (.aload_n 0, 1) := by decide +kernel
theorem dX7_spots_59 : decode cX7_spots 59 = .ok (.getfield 28, 3) := by decide +kernel
theorem dX7_spots_62 : decode cX7_spots 62 = .ok (.iload_n 1, 1) := by decide +kernel
theorem dX7_spots_63 : decode cX7_spots 63 = .ok (.iload_n 2, 1) := by decide +kernel
theorem dX7_spots_64 : decode cX7_spots 64 = .ok (.iastore, 1) := by decide +kernel
theorem dX7_spots_65 : decode cX7_spots 65 = .ok (.aload_n 0, 1) := by decide +kernel
theorem dX7_spots_66 : decode cX7_spots 66 = .ok (.getfield 31, 3) := by decide +kernel
theorem dX7_spots_69 : decode cX7_spots 69 = .ok (.iload_n 1, 1) := by decide +kernel
theorem dX7_spots_70 : decode cX7_spots 70 = .ok (.iload_n 3, 1) := by decide +kernel
theorem dX7_spots_71 : decode cX7_spots 71 = .ok (.iastore, 1) := by decide +kernel
theorem dX7_spots_72 : decode cX7_spots 72 = .ok (.iload 4, 2) := by decide +kernel
theorem dX7_spots_74 : decode cX7_spots 74 = .ok (.ireturn, 1) := by decide +kernel
theorem dX7_blend_0 : decode cX7_blend 0 = .ok (.aload_n 0, 1) := by decide +kernel
theorem dX7_blend_1 : decode cX7_blend 1 = .ok (.aload_n 0, 1) := by decide +kernel
theorem dX7_blend_2 : decode cX7_blend 2 = .ok (.iload_n 1, 1) := by decide +kernel
theorem dX7_blend_3 : decode cX7_blend 3 = .ok (.invokevirtual 87, 3) := by decide +kernel
theorem dX7_blend_6 : decode cX7_blend 6 = .ok (.ifCond .ne 7, 3) := by decide +kernel
theorem dX7_blend_9 : decode cX7_blend 9 = .ok (.iconst 1, 1) := by decide +kernel
theorem dX7_blend_10 : decode cX7_blend 10 = .ok (.goto 18, 3) := by decide +kernel
theorem dX7_blend_13 : decode cX7_blend 13 = .ok (.iload_n 2, 1) := by decide +kernel
theorem dX7_blend_14 : decode cX7_blend 14 = .ok (.iconst 0, 1) := by decide +kernel
theorem dX7_blend_15 : decode cX7_blend 15 = .ok (.ldc 86, 2) := by decide +kernel
theorem dX7_blend_17 : decode cX7_blend 17 = .ok (.invokestatic 82, 3) := by decide +kernel
theorem dX7_blend_20 : decode cX7_blend 20 = .ok (.ifCond .ne 7, 3) := by decide +kernel
theorem dX7_blend_23 : decode cX7_blend 23 = .ok (.iconst 2, 1) := by decide +kernel
theorem dX7_blend_24 : decode cX7_blend 24 = .ok (.goto 4, 3) := by decide +kernel
theorem dX7_blend_27 : decode cX7_blend 27 = .ok (.iconst 0, 1) := by decide +kernel
theorem dX7_blend_28 : decode cX7_blend 28 = .ok (.putfield 75, 3) := by decide +kernel
theorem dX7_blend_31 : decode cX7_blend 31 = .ok (.aload_n 0, 1) := by decide +kernel
theorem dX7_blend_32 : decode cX7_blend 32 = .ok (.getfield 75, 3) := by decide +kernel
theorem dX7_blend_35 : decode cX7_blend 35 = .ok (.ifCond .le 5, 3) := by decide +kernel
theorem dX7_blend_38 : decode cX7_blend 38 = .ok (.iconst 0, 1) := by decide +kernel
theorem dX7_blend_39 : decode cX7_blend 39 = .ok (.ireturn, 1) := by decide +kernel
theorem dX7_blend_40 : decode cX7_blend 40 = .ok (.aload_n 0, 1) := by decide +kernel
theorem dX7_blend_41 : decode cX7_blend 41 = .ok (.getfield 34, 3) := by decide +kernel
theorem dX7_blend_44 : decode cX7_blend 44 = .ok (.iload_n 1, 1) := by decide +kernel
theorem dX7_blend_45 : decode cX7_blend 45 = .ok (.iaload, 1) := by decide +kernel
theorem dX7_blend_46 : decode cX7_blend 46 = .ok (.istore_n 3, 1) := by decide +kernel
theorem dX7_blend_47 : decode cX7_blend 47 = .ok (.aload_n 0, 1) := by decide +kernel
theorem dX7_blend_48 : decode cX7_blend 48 = .ok (.getfield 34, 3) := by decide +kernel
theorem dX7_blend_51 : decode cX7_blend 51 = .ok (.iload_n 1, 1) := by decide +kernel
theorem dX7_blend_52 : decode cX7_blend 52 = .ok (.iload_n 2, 1) := by decide +kernel
theorem dX7_blend_53 : decode cX7_blend 53 = .ok (.iastore, 1) := by decide +kernel
theorem dX7_blend_54 : decode cX7_blend 54 = .ok (.iload_n 3, 1) := by decide +kernel
theorem dX7_blend_55 : decode cX7_blend 55 = .ok (.ireturn, 1) := by decide +kernel
theorem dX7_remainder_0 : decode cX7_remainder 0 = .ok (.iload_n 0, 1) := by decide +kernel
theorem dX7_remainder_1 : decode cX7_remainder 1 = .ok (.iload_n 1, 1) := by decide +kernel
theorem dX7_remainder_2 : decode cX7_remainder 2 = .ok (.irem, 1) := by decide +kernel
theorem dX7_remainder_3 : decode cX7_remainder 3 = .ok (.istore_n 2, 1) := by decide +kernel
theorem dX7_remainder_4 : decode cX7_remainder 4 = .ok (.iload_n 2, 1) := by decide +kernel
theorem dX7_remainder_5 : decode cX7_remainder 5 = .ok (.ifCond .ge 9, 3) := by decide +kernel
theorem dX7_remainder_8 : decode cX7_remainder 8 = .ok (.iload_n 2, 1) := by decide +kernel
theorem dX7_remainder_9 : decode cX7_remainder 9 = .ok (.iload_n 1, 1) := by decide +kernel
theorem dX7_remainder_10 : decode cX7_remainder 10 = .ok (.iadd, 1) := by decide +kernel
theorem dX7_remainder_11 : decode cX7_remainder 11 = .ok (.goto 4, 3) := by decide +kernel
theorem dX7_remainder_14 : decode cX7_remainder 14 = .ok (.iload_n 2, 1) := by decide +kernel
theorem dX7_remainder_15 : decode cX7_remainder 15 = .ok (.ireturn, 1) := by decide +kernel
theorem dX7_lightOf_0 : decode cX7_lightOf 0 = .ok (.aload_n 0, 1) := by decide +kernel
theorem dX7_lightOf_1 : decode cX7_lightOf 1 = .ok (.getfield 7, 3) := by decide +kernel
theorem dX7_lightOf_4 : decode cX7_lightOf 4 = .ok (.iload_n 1, 1) := by decide +kernel
theorem dX7_lightOf_5 : decode cX7_lightOf 5 = .ok (.iaload, 1) := by decide +kernel
theorem dX7_lightOf_6 : decode cX7_lightOf 6 = .ok (.i2d, 1) := by decide +kernel
theorem dX7_lightOf_7 : decode cX7_lightOf 7 = .ok (.dstore_n 3, 1) := by decide +kernel
theorem dX7_lightOf_8 : decode cX7_lightOf 8 = .ok (.iconst 4, 1) := by decide +kernel
theorem dX7_lightOf_9 : decode cX7_lightOf 9 = .ok (.iload_n 1, 1) := by decide +kernel
theorem dX7_lightOf_10 : decode cX7_lightOf 10 = .ok (.imul, 1) := by decide +kernel
theorem dX7_lightOf_11 : decode cX7_lightOf 11 = .ok (.istore 5, 2) := by decide +kernel
theorem dX7_lightOf_13 : decode cX7_lightOf 13 = .ok (.iload 5, 2) := by decide +kernel
theorem dX7_lightOf_15 : decode cX7_lightOf 15 = .ok (.iconst 4, 1) := by decide +kernel
theorem dX7_lightOf_16 : decode cX7_lightOf 16 = .ok (.iload_n 1, 1) := by decide +kernel
theorem dX7_lightOf_17 : decode cX7_lightOf 17 = .ok (.imul, 1) := by decide +kernel
theorem dX7_lightOf_18 : decode cX7_lightOf 18 = .ok (.aload_n 0, 1) := by decide +kernel
theorem dX7_lightOf_19 : decode cX7_lightOf 19 = .ok (.getfield 13, 3) := by decide +kernel
theorem dX7_lightOf_22 : decode cX7_lightOf 22 = .ok (.iload_n 1, 1) := by decide +kernel
theorem dX7_lightOf_23 : decode cX7_lightOf 23 = .ok (.iaload, 1) := by decide +kernel
theorem dX7_lightOf_24 : decode cX7_lightOf 24 = .ok (.iadd, 1) := by decide +kernel
theorem dX7_lightOf_25 : decode cX7_lightOf 25 = .ok (.if_icmp .ge 57, 3) := by decide +kernel
theorem dX7_lightOf_28 : decode cX7_lightOf 28 = .ok (.iload_n 2, 1) := by decide +kernel
theorem dX7_lightOf_29 : decode cX7_lightOf 29 = .ok (.aload_n 0, 1) := by decide +kernel
theorem dX7_lightOf_30 : decode cX7_lightOf 30 = .ok (.getfield 19, 3) := by decide +kernel
theorem dX7_lightOf_33 : decode cX7_lightOf 33 = .ok (.iload 5, 2) := by decide +kernel
theorem dX7_lightOf_35 : decode cX7_lightOf 35 = .ok (.iaload, 1) := by decide +kernel
theorem dX7_lightOf_36 : decode cX7_lightOf 36 = .ok (.isub, 1) := by decide +kernel
theorem dX7_lightOf_37 : decode cX7_lightOf 37 = .ok (.aload_n 0, 1) := by decide +kernel
theorem dX7_lightOf_38 : decode cX7_lightOf 38 = .ok (.getfield 16, 3) := by decide +kernel
theorem dX7_lightOf_41 : decode cX7_lightOf 41 = .ok (.iload 5, 2) := by decide +kernel
theorem dX7_lightOf_43 : decode cX7_lightOf 43 = .ok (.iaload, 1) := by decide +kernel
theorem dX7_lightOf_44 : decode cX7_lightOf 44 = .ok (.invokestatic 91, 3) := by decide +kernel
theorem dX7_lightOf_47 : decode cX7_lightOf 47 = .ok (.aload_n 0, 1) := by decide +kernel
theorem dX7_lightOf_48 : decode cX7_lightOf 48 = .ok (.getfield 22, 3) := by decide +kernel
theorem dX7_lightOf_51 : decode cX7_lightOf 51 = .ok (.iload 5, 2) := by decide +kernel
theorem dX7_lightOf_53 : decode cX7_lightOf 53 = .ok (.iaload, 1) := by decide +kernel
theorem dX7_lightOf_54 : decode cX7_lightOf 54 = .ok (.if_icmp .ge 22, 3) := by decide +kernel
theorem dX7_lightOf_57 : decode cX7_lightOf 57 = .ok (.dload_n 3, 1) := by decide +kernel
theorem dX7_lightOf_58 : decode cX7_lightOf 58 = .ok (.sipush 1000, 3) := by decide +kernel
theorem dX7_lightOf_61 : decode cX7_lightOf 61 = .ok (.aload_n 0, 1) := by decide +kernel
theorem dX7_lightOf_62 : decode cX7_lightOf 62 = .ok (.getfield 25, 3) := by decide +kernel
theorem dX7_lightOf_65 : decode cX7_lightOf 65 = .ok (.iload 5, 2) := by decide +kernel
theorem dX7_lightOf_67 : decode cX7_lightOf 67 = .ok (.iaload, 1) := by decide +kernel
