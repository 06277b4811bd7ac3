theorem dX7_lightOf_68 : decode cX7_lightOf 68 = .ok (.isub, 1) := by decide +kernel
theorem dX7_lightOf_69 : decode cX7_lightOf 69 = .ok (.i2d, 1) := by decide +kernel
theorem dX7_lightOf_70 : decode cX7_lightOf 70 = .ok (.ldc2_w 95, 3) := by decide +kernel
theorem dX7_lightOf_73 : decode cX7_lightOf 73 = .ok (.ddiv, 1) := by decide +kernel
theorem dX7_lightOf_74 : decode cX7_lightOf 74 = .ok (.dmul, 1) := by decide +kernel
theorem dX7_lightOf_75 : decode cX7_lightOf 75 = .ok (.dstore_n 3, 1) := by decide +kernel
theorem dX7_lightOf_76 : decode cX7_lightOf 76 = .ok (.iinc 5 1, 3) := by decide +kernel
theorem dX7_lightOf_79 : decode cX7_lightOf 79 = .ok (.goto (-66), 3) := by decide +kernel
theorem dX7_lightOf_82 : decode cX7_lightOf 82 = .ok (.aload_n 0, 1) := by decide +kernel
theorem dX7_lightOf_83 : decode cX7_lightOf 83 = .ok (.getfield 28, 3) := by decide +kernel
theorem dX7_lightOf_86 : decode cX7_lightOf 86 = .ok (.iload_n 1, 1) := by decide +kernel
theorem dX7_lightOf_87 : decode cX7_lightOf 87 = .ok (.iaload, 1) := by decide +kernel
theorem dX7_lightOf_88 : decode cX7_lightOf 88 = .ok (.ifCond .le 40, 3) := by decide +kernel
theorem dX7_lightOf_91 : decode cX7_lightOf 91 = .ok (.iload_n 2, 1) := by decide +kernel
theorem dX7_lightOf_92 : decode cX7_lightOf 92 = .ok (.aload_n 0, 1) := by decide +kernel
theorem dX7_lightOf_93 : decode cX7_lightOf 93 = .ok (.getfield 28, 3) := by decide +kernel
theorem dX7_lightOf_96 : decode cX7_lightOf 96 = .ok (.iload_n 1, 1) := by decide +kernel
theorem dX7_lightOf_97 : decode cX7_lightOf 97 = .ok (.iaload, 1) := by decide +kernel
theorem dX7_lightOf_98 : decode cX7_lightOf 98 = .ok (.irem, 1) := by decide +kernel
theorem dX7_lightOf_99 : decode cX7_lightOf 99 = .ok (.aload_n 0, 1) := by decide +kernel
theorem dX7_lightOf_100 : decode cX7_lightOf 100 = .ok (.getfield 28, 3) := by decide +kernel
theorem dX7_lightOf_103 : decode cX7_lightOf 103 = .ok (.iload_n 1, 1) := by decide +kernel
theorem dX7_lightOf_104 : decode cX7_lightOf 104 = .ok (.iaload, 1) := by decide +kernel
theorem dX7_lightOf_105 : decode cX7_lightOf 105 = .ok (.iconst 4, 1) := by decide +kernel
theorem dX7_lightOf_106 : decode cX7_lightOf 106 = .ok (.idiv, 1) := by decide +kernel
theorem dX7_lightOf_107 : decode cX7_lightOf 107 = .ok (.if_icmp .ge 21, 3) := by decide +kernel
theorem dX7_lightOf_110 : decode cX7_lightOf 110 = .ok (.dload_n 3, 1) := by decide +kernel
theorem dX7_lightOf_111 : decode cX7_lightOf 111 = .ok (.sipush 1000, 3) := by decide +kernel
theorem dX7_lightOf_114 : decode cX7_lightOf 114 = .ok (.aload_n 0, 1) := by decide +kernel
theorem dX7_lightOf_115 : decode cX7_lightOf 115 = .ok (.getfield 31, 3) := by decide +kernel
theorem dX7_lightOf_118 : decode cX7_lightOf 118 = .ok (.iload_n 1, 1) := by decide +kernel
theorem dX7_lightOf_119 : decode cX7_lightOf 119 = .ok (.iaload, 1) := by decide +kernel
theorem dX7_lightOf_120 : decode cX7_lightOf 120 = .ok (.isub, 1) := by decide +kernel
theorem dX7_lightOf_121 : decode cX7_lightOf 121 = .ok (.i2d, 1) := by decide +kernel
theorem dX7_lightOf_122 : decode cX7_lightOf 122 = .ok (.ldc2_w 95, 3) := by decide +kernel
theorem dX7_lightOf_125 : decode cX7_lightOf 125 = .ok (.ddiv, 1) := by decide +kernel
theorem dX7_lightOf_126 : decode cX7_lightOf 126 = .ok (.dmul, 1) := by decide +kernel
theorem dX7_lightOf_127 : decode cX7_lightOf 127 = .ok (.dstore_n 3, 1) := by decide +kernel
theorem dX7_lightOf_128 : decode cX7_lightOf 128 = .ok (.dload_n 3, 1) := by decide +kernel
theorem dX7_lightOf_129 : decode cX7_lightOf 129 = .ok (.aload_n 0, 1) := by decide +kernel
theorem dX7_lightOf_130 : decode cX7_lightOf 130 = .ok (.getfield 34, 3) := by decide +kernel
theorem dX7_lightOf_133 : decode cX7_lightOf 133 = .ok (.iload_n 1, 1) := by decide +kernel
theorem dX7_lightOf_134 : decode cX7_lightOf 134 = .ok (.iaload, 1) := by decide +kernel
theorem dX7_lightOf_135 : decode cX7_lightOf 135 = .ok (.i2d, 1) := by decide +kernel
theorem dX7_lightOf_136 : decode cX7_lightOf 136 = .ok (.dadd, 1) := by decide +kernel
theorem dX7_lightOf_137 : decode cX7_lightOf 137 = .ok (.dreturn, 1) := by decide +kernel
theorem dX7_light_0 : decode cX7_light 0 = .ok (.aload_n 0, 1) := by decide +kernel
theorem dX7_light_1 : decode cX7_light 1 = .ok (.aload_n 0, 1) := by decide +kernel
theorem dX7_light_2 : decode cX7_light 2 = .ok (.iload_n 1, 1) := by decide +kernel
theorem dX7_light_3 : decode cX7_light 3 = .ok (.invokevirtual 87, 3) := by decide +kernel
theorem dX7_light_6 : decode cX7_light 6 = .ok (.ifCond .eq 14, 3) := by decide +kernel
theorem dX7_light_9 : decode cX7_light 9 = .ok (.iload_n 2, 1) := by decide +kernel
theorem dX7_light_10 : decode cX7_light 10 = .ok (.invokestatic 97, 3) := by decide +kernel
theorem dX7_light_13 : decode cX7_light 13 = .ok (.ifCond .eq 7, 3) := by decide +kernel
theorem dX7_light_16 : decode cX7_light 16 = .ok (.iconst 0, 1) := by decide +kernel
theorem dX7_light_17 : decode cX7_light 17 = .ok (.goto 4, 3) := by decide +kernel
theorem dX7_light_20 : decode cX7_light 20 = .ok (.iconst 1, 1) := by decide +kernel
theorem dX7_light_21 : decode cX7_light 21 = .ok (.putfield 75, 3) := by decide +kernel
theorem dX7_light_24 : decode cX7_light 24 = .ok (.aload_n 0, 1) := by decide +kernel
theorem dX7_light_25 : decode cX7_light 25 = .ok (.getfield 75, 3) := by decide +kernel
theorem dX7_light_28 : decode cX7_light 28 = .ok (.ifCond .le 7, 3) := by decide +kernel
theorem dX7_light_31 : decode cX7_light 31 = .ok (.lconst 0, 1) := by decide +kernel
theorem dX7_light_32 : decode cX7_light 32 = .ok (.goto 12, 3) := by decide +kernel
theorem dX7_light_35 : decode cX7_light 35 = .ok (.aload_n 0, 1) := by decide +kernel
theorem dX7_light_36 : decode cX7_light 36 = .ok (.iload_n 1, 1) := by decide +kernel
theorem dX7_light_37 : decode cX7_light 37 = .ok (.iload_n 2, 1) := by decide +kernel
theorem dX7_light_38 : decode cX7_light 38 = .ok (.invokevirtual 100, 3) := by decide +kernel
theorem dX7_light_41 : decode cX7_light 41 = .ok (.invokestatic 104, 3) := by decide +kernel
theorem dX7_light_44 : decode cX7_light 44 = .ok (.lreturn, 1) := by decide +kernel
theorem dX7_cloud_0 : decode cX7_cloud 0 = .ok (.aload_n 0, 1) := by decide +kernel
theorem dX7_cloud_1 : decode cX7_cloud 1 = .ok (.iload_n 1, 1) := by decide +kernel
theorem dX7_cloud_2 : decode cX7_cloud 2 = .ok (.invokestatic 97, 3) := by decide +kernel
theorem dX7_cloud_5 : decode cX7_cloud 5 = .ok (.ifCond .eq 10, 3) := by decide +kernel
theorem dX7_cloud_8 : decode cX7_cloud 8 = .ok (.iload_n 2, 1) := by decide +kernel
theorem dX7_cloud_9 : decode cX7_cloud 9 = .ok (.invokestatic 97, 3) := by decide +kernel
theorem dX7_cloud_12 : decode cX7_cloud 12 = .ok (.ifCond .ne 7, 3) := by decide +kernel
theorem dX7_cloud_15 : decode cX7_cloud 15 = .ok (.iconst 1, 1) := by decide +kernel
theorem dX7_cloud_16 : decode cX7_cloud 16 = .ok (.goto 13, 3) := by decide +kernel
theorem dX7_cloud_19 : decode cX7_cloud 19 = .ok (.iload_n 2, 1) := by decide +kernel
theorem dX7_cloud_20 : decode cX7_cloud 20 = .ok (.iload_n 1, 1) := by decide +kernel
theorem dX7_cloud_21 : decode cX7_cloud 21 = .ok (.if_icmp .ge 7, 3) := by decide +kernel
theorem dX7_cloud_24 : decode cX7_cloud 24 = .ok (.iconst 2, 1) := by decide +kernel
theorem dX7_cloud_25 : decode cX7_cloud 25 = .ok (.goto 4, 3) := by decide +kernel
theorem dX7_cloud_28 : decode cX7_cloud 28 = .ok (.iconst 0, 1) := by decide +kernel
theorem dX7_cloud_29 : decode cX7_cloud 29 = .ok (.putfield 75, 3) := by decide +kernel
theorem dX7_cloud_32 : decode cX7_cloud 32 = .ok (.aload_n 0, 1) := by decide +kernel
theorem dX7_cloud_33 : decode cX7_cloud 33 = .ok (.getfield 75, 3) := by decide +kernel
theorem dX7_cloud_36 : decode cX7_cloud 36 = .ok (.ifCond .le 5, 3) := by decide +kernel
theorem dX7_cloud_39 : decode cX7_cloud 39 = .ok (.iconst 0, 1) := by decide +kernel
theorem dX7_cloud_40 : decode cX7_cloud 40 = .ok (.ireturn, 1) := by decide +kernel
theorem dX7_cloud_41 : decode cX7_cloud 41 = .ok (.iconst 0, 1) := by decide +kernel
theorem dX7_cloud_42 : decode cX7_cloud 42 = .ok (.istore_n 3, 1) := by decide +kernel
theorem dX7_cloud_43 : decode cX7_cloud 43 = .ok (.iconst 0, 1) := by decide +kernel
theorem dX7_cloud_44 : decode cX7_cloud 44 = .ok (.istore 4, 2) := by decide +kernel
theorem dX7_cloud_46 : decode cX7_cloud 46 = .ok (.iload 4, 2) := by decide +kernel
theorem dX7_cloud_48 : decode cX7_cloud 48 = .ok (.sipush 1000, 3) := by decide +kernel
theorem dX7_cloud_51 : decode cX7_cloud 51 = .ok (.if_icmp .ge 59, 3) := by decide +kernel
theorem dX7_cloud_54 : decode cX7_cloud 54 = .ok (.aload_n 0, 1) := by decide +kernel
theorem dX7_cloud_55 : decode cX7_cloud 55 = .ok (.getfield 37, 3) := by decide +kernel
theorem dX7_cloud_58 : decode cX7_cloud 58 = .ok (.iload 4, 2) := by decide +kernel
theorem dX7_cloud_60 : decode cX7_cloud 60 = .ok (.aload_n 0, 1) := by decide +kernel
theorem dX7_cloud_61 : decode cX7_cloud 61 = .ok (.getfield 37, 3) := by decide +kernel
theorem dX7_cloud_64 : decode cX7_cloud 64 = .ok (.iload 4, 2) := by decide +kernel
theorem dX7_cloud_66 : decode cX7_cloud 66 = .ok (.baload, 1) := by decide +kernel
theorem dX7_cloud_67 : decode cX7_cloud 67 = .ok (.ifCond .ne 13, 3) := by decide +kernel
theorem dX7_cloud_70 : decode cX7_cloud 70 = .ok (.iload 4, 2) := by decide +kernel
theorem dX7_cloud_72 : decode cX7_cloud 72 = .ok (.iload_n 1, 1) := by decide +kernel
theorem dX7_cloud_73 : decode cX7_cloud 73 = .ok (.iload_n 2, 1) := by decide +kernel
theorem dX7_cloud_74 : decode cX7_cloud 74 = .ok (.invokestatic 82, 3) := by decide +kernel
theorem dX7_cloud_77 : decode cX7_cloud 77 = .ok (.ifCond .eq 7, 3) := by decide +kernel
theorem dX7_cloud_80 : decode cX7_cloud 80 = .ok (.iconst 1, 1) := by decide +kernel
theorem dX7_cloud_81 : decode cX7_cloud 81 = .ok (.goto 4, 3) := by decide +kernel
theorem dX7_cloud_84 : decode cX7_cloud 84 = .ok (.iconst 0, 1) := by decide +kernel
theorem dX7_cloud_85 : decode cX7_cloud 85 = .ok (.bastore, 1) := by decide +kernel
theorem dX7_cloud_86 : decode cX7_cloud 86 = .ok (.iload_n 3, 1) := by decide +kernel
theorem dX7_cloud_87 : decode cX7_cloud 87 = .ok (.aload_n 0, 1) := by decide +kernel
theorem dX7_cloud_88 : decode cX7_cloud 88 = .ok (.getfield 37, 3) := by decide +kernel
theorem dX7_cloud_91 : decode cX7_cloud 91 = .ok (.iload 4, 2) := by decide +kernel
theorem dX7_cloud_93 : decode cX7_cloud 93 = .ok (.baload, 1) := by decide +kernel
theorem dX7_cloud_94 : decode cX7_cloud 94 = .ok (.ifCond .eq 7, 3) := by decide +kernel
theorem dX7_cloud_97 : decode cX7_cloud 97 = .ok (.iconst 1, 1) := by decide +kernel
theorem dX7_cloud_98 : decode cX7_cloud 98 = .ok (.goto 4, 3) := by decide +kernel
theorem dX7_cloud_101 : decode cX7_cloud 101 = .ok (.iconst 0, 1) := by decide +kernel
theorem dX7_cloud_102 : decode cX7_cloud 102 = .ok (.iadd, 1) := by decide +kernel
theorem dX7_cloud_103 : decode cX7_cloud 103 = .ok (.istore_n 3, 1) := by decide +kernel
theorem dX7_cloud_104 : decode cX7_cloud 104 = .ok (.iinc 4 1, 3) := by decide +kernel
theorem dX7_cloud_107 : decode cX7_cloud 107 = .ok (.goto (-61), 3) := by decide +kernel
theorem dX7_cloud_110 : decode cX7_cloud 110 = .ok (.iload_n 3, 1) := by decide +kernel
theorem dX7_cloud_111 : decode cX7_cloud 111 = .ok (.ireturn, 1) := by decide +kernel
theorem dX7_observe_0 : decode cX7_observe 0 = .ok (.aload_n 0, 1) := by decide +kernel
theorem dX7_observe_1 : decode cX7_observe 1 = .ok (.iload_n 1, 1) := by decide +kernel
theorem dX7_observe_2 : decode cX7_observe 2 = .ok (.invokevirtual 87, 3) := by decide +kernel
theorem dX7_observe_5 : decode cX7_observe 5 = .ok (.ifCond .eq 21, 3) := by decide +kernel
theorem dX7_observe_8 : decode cX7_observe 8 = .ok (.iload_n 2, 1) := by decide +kernel
theorem dX7_observe_9 : decode cX7_observe 9 = .ok (.invokestatic 97, 3) := by decide +kernel
theorem dX7_observe_12 : decode cX7_observe 12 = .ok (.ifCond .eq 14, 3) := by decide +kernel
theorem dX7_observe_15 : decode cX7_observe 15 = .ok (.iload_n 3, 1) := by decide +kernel
theorem dX7_observe_16 : decode cX7_observe 16 = .ok (.invokestatic 97, 3) := by decide +kernel
theorem dX7_observe_19 : decode cX7_observe 19 = .ok (.ifCond .eq 7, 3) := by decide +kernel
theorem dX7_observe_22 : decode cX7_observe 22 = .ok (.iconst 1, 1) := by decide +kernel
theorem dX7_observe_23 : decode cX7_observe 23 = .ok (.goto 4, 3) := by decide +kernel
theorem dX7_observe_26 : decode cX7_observe 26 = .ok (.iconst 0, 1) := by decide +kernel
theorem dX7_observe_27 : decode cX7_observe 27 = .ok (.istore 4, 2) := by decide +kernel
theorem dX7_observe_29 : decode cX7_observe 29 = .ok (.aload_n 0, 1) := by decide +kernel
theorem dX7_observe_30 : decode cX7_observe 30 = .ok (.iload 4, 2) := by decide +kernel
theorem dX7_observe_32 : decode cX7_observe 32 = .ok (.ifCond .ne 7, 3) := by decide +kernel
theorem dX7_observe_35 : decode cX7_observe 35 = .ok (.iconst 1, 1) := by decide +kernel
theorem dX7_observe_36 : decode cX7_observe 36 = .ok (.goto 13, 3) := by decide +kernel
theorem dX7_observe_39 : decode cX7_observe 39 = .ok (.iload_n 3, 1) := by decide +kernel
theorem dX7_observe_40 : decode cX7_observe 40 = .ok (.iload_n 2, 1) := by decide +kernel
theorem dX7_observe_41 : decode cX7_observe 41 = .ok (.if_icmp .ge 7, 3) := by decide +kernel
theorem dX7_observe_44 : decode cX7_observe 44 = .ok (.iconst 2, 1) := by decide +kernel
theorem dX7_observe_45 : decode cX7_observe 45 = .ok (.goto 4, 3) := by decide +kernel
theorem dX7_observe_48 : decode cX7_observe 48 = .ok (.iconst 0, 1) := by decide +kernel
theorem dX7_observe_49 : decode cX7_observe 49 = .ok (.putfield 75, 3) := by decide +kernel
theorem dX7_observe_52 : decode cX7_observe 52 = .ok (.iconst 0, 1) := by decide +kernel
theorem dX7_observe_53 : decode cX7_observe 53 = .ok (.istore 5, 2) := by decide +kernel
theorem dX7_observe_55 : decode cX7_observe 55 = .ok (.iload_n 2, 1) := by decide +kernel
theorem dX7_observe_56 : decode cX7_observe 56 = .ok (.istore 6, 2) := by decide +kernel
theorem dX7_observe_58 : decode cX7_observe 58 = .ok (.iload 6, 2) := by decide +kernel
theorem dX7_observe_60 : decode cX7_observe 60 = .ok (.iload_n 3, 1) := by decide +kernel
theorem dX7_observe_61 : decode cX7_observe 61 = .ok (.if_icmp .gt 89, 3) := by decide +kernel
theorem dX7_observe_64 : decode cX7_observe 64 = .ok (.aload_n 0, 1) := by decide +kernel
theorem dX7_observe_65 : decode cX7_observe 65 = .ok (.getfield 75, 3) := by decide +kernel
theorem dX7_observe_68 : decode cX7_observe 68 = .ok (.ifCond .ne 82, 3) := by decide +kernel
theorem dX7_observe_71 : decode cX7_observe 71 = .ok (.aload_n 0, 1) := by decide +kernel
theorem dX7_observe_72 : decode cX7_observe 72 = .ok (.getfield 37, 3) := by decide +kernel
theorem dX7_observe_75 : decode cX7_observe 75 = .ok (.iload 6, 2) := by decide +kernel
theorem dX7_observe_77 : decode cX7_observe 77 = .ok (.baload, 1) := by decide +kernel
theorem dX7_observe_78 : decode cX7_observe 78 = .ok (.ifCond .ne 66, 3) := by decide +kernel
theorem dX7_observe_81 : decode cX7_observe 81 = .ok (.aload_n 0, 1) := by decide +kernel
theorem dX7_observe_82 : decode cX7_observe 82 = .ok (.getfield 41, 3) := by decide +kernel
theorem dX7_observe_85 : decode cX7_observe 85 = .ok (.sipush 1000, 3) := by decide +kernel
theorem dX7_observe_88 : decode cX7_observe 88 = .ok (.iload_n 1, 1) := by decide +kernel
theorem dX7_observe_89 : decode cX7_observe 89 = .ok (.imul, 1) := by decide +kernel
theorem dX7_observe_90 : decode cX7_observe 90 = .ok (.iload 6, 2) := by decide +kernel
theorem dX7_observe_92 : decode cX7_observe 92 = .ok (.iadd, 1) := by decide +kernel
theorem dX7_observe_93 : decode cX7_observe 93 = .ok (.baload, 1) := by decide +kernel
theorem dX7_observe_94 : decode cX7_observe 94 = .ok (.ifCond .ne 50, 3) := by decide +kernel
theorem dX7_observe_97 : decode cX7_observe 97 = .ok (.aload_n 0, 1) := by decide +kernel
theorem dX7_observe_98 : decode cX7_observe 98 = .ok (.getfield 41, 3) := by decide +kernel
theorem dX7_observe_101 : decode cX7_observe 101 = .ok (.sipush 1000, 3) := by decide +kernel
theorem dX7_observe_104 : decode cX7_observe 104 = .ok (.iload_n 1, 1) := by decide +kernel
theorem dX7_observe_105 : decode cX7_observe 105 = .ok (.imul, 1) := by decide +kernel
theorem dX7_observe_106 : decode cX7_observe 106 = .ok (.iload 6, 2) := by decide +kernel
theorem dX7_observe_108 : decode cX7_observe 108 = .ok (.iadd, 1) := by decide +kernel
theorem dX7_observe_109 : decode cX7_observe 109 = .ok (.iconst 1, 1) := by decide +kernel
theorem dX7_observe_110 : decode cX7_observe 110 = .ok (.bastore, 1) := by decide +kernel
theorem dX7_observe_111 : decode cX7_observe 111 = .ok (.aload_n 0, 1) := by decide +kernel
theorem dX7_observe_112 : decode cX7_observe 112 = .ok (.getfield 44, 3) := by decide +kernel
theorem dX7_observe_115 : decode cX7_observe 115 = .ok (.sipush 1000, 3) := by decide +kernel
theorem dX7_observe_118 : decode cX7_observe 118 = .ok (.iload_n 1, 1) := by decide +kernel
theorem dX7_observe_119 : decode cX7_observe 119 = .ok (.imul, 1) := by decide +kernel
theorem dX7_observe_120 : decode cX7_observe 120 = .ok (.iload 6, 2) := by decide +kernel
theorem dX7_observe_122 : decode cX7_observe 122 = .ok (.iadd, 1) := by decide +kernel
theorem dX7_observe_123 : decode cX7_observe 123 = .ok (.aload_n 0, 1) := by decide +kernel
theorem dX7_observe_124 : decode cX7_observe 124 = .ok (.iload_n 1, 1) := by decide +kernel
theorem dX7_observe_125 : decode cX7_observe 125 = .ok (.iload 6, 2) := by decide +kernel
theorem dX7_observe_127 : decode cX7_observe 127 = .ok (.invokevirtual 100, 3) := by decide +kernel
theorem dX7_observe_130 : decode cX7_observe 130 = .ok (.dastore, 1) := by decide +kernel
theorem dX7_observe_131 : decode cX7_observe 131 = .ok (.aload_n 0, 1) := by decide +kernel
theorem dX7_observe_132 : decode cX7_observe 132 = .ok (.getfield 48, 3) := by decide +kernel
theorem dX7_observe_135 : decode cX7_observe 135 = .ok (.iload_n 1, 1) := by decide +kernel
theorem dX7_observe_136 : decode cX7_observe 136 = .ok (.dup2, 1) := by decide +kernel
theorem dX7_observe_137 : decode cX7_observe 137 = .ok (.iaload, 1) := by decide +kernel
theorem dX7_observe_138 : decode cX7_observe 138 = .ok (.iconst 1, 1) := by decide +kernel
theorem dX7_observe_139 : decode cX7_observe 139 = .ok (.iadd, 1) := by decide +kernel
theorem dX7_observe_140 : decode cX7_observe 140 = .ok (.iastore, 1) := by decide +kernel
theorem dX7_observe_141 : decode cX7_observe 141 = .ok (.iinc 5 1, 3) := by decide +kernel
theorem dX7_observe_144 : decode cX7_observe 144 = .ok (.iinc 6 1, 3) := by decide +kernel
theorem dX7_observe_147 : decode cX7_observe 147 = .ok (.goto (-89), 3) := by decide +kernel
theorem dX7_observe_150 : decode cX7_observe 150 = .ok (.iload 5, 2) := by decide +kernel
theorem dX7_observe_152 : decode cX7_observe 152 = .ok (.ireturn, 1) := by decide +kernel
theorem dX7_kept_0 : decode cX7_kept 0 = .ok (.aload_n 0, 1) := by decide +kernel
theorem dX7_kept_1 : decode cX7_kept 1 = .ok (.aload_n 0, 1) := by decide +kernel
theorem dX7_kept_2 : decode cX7_kept 2 = .ok (.iload_n 1, 1) := by decide +kernel
theorem dX7_kept_3 : decode cX7_kept 3 = .ok (.invokevirtual 87, 3) := by decide +kernel
theorem dX7_kept_6 : decode cX7_kept 6 = .ok (.ifCond .eq 14, 3) := by decide +kernel
theorem dX7_kept_9 : decode cX7_kept 9 = .ok (.iload_n 2, 1) := by decide +kernel
theorem dX7_kept_10 : decode cX7_kept 10 = .ok (.invokestatic 97, 3) := by decide +kernel
theorem dX7_kept_13 : decode cX7_kept 13 = .ok (.ifCond .eq 7, 3) := by decide +kernel
theorem dX7_kept_16 : decode cX7_kept 16 = .ok (.iconst 0, 1) := by decide +kernel
theorem dX7_kept_17 : decode cX7_kept 17 = .ok (.goto 4, 3) := by decide +kernel
theorem dX7_kept_20 : decode cX7_kept 20 = .ok (.iconst 1, 1) := by decide +kernel
theorem dX7_kept_21 : decode cX7_kept 21 = .ok (.putfield 75, 3) := by decide +kernel
theorem dX7_kept_24 : decode cX7_kept 24 = .ok (.aload_n 0, 1) := by decide +kernel
theorem dX7_kept_25 : decode cX7_kept 25 = .ok (.getfield 75, 3) := by decide +kernel
theorem dX7_kept_28 : decode cX7_kept 28 = .ok (.ifCond .le 5, 3) := by decide +kernel
theorem dX7_kept_31 : decode cX7_kept 31 = .ok (.lconst 0, 1) := by decide +kernel
theorem dX7_kept_32 : decode cX7_kept 32 = .ok (.lreturn, 1) := by decide +kernel
theorem dX7_kept_33 : decode cX7_kept 33 = .ok (.aload_n 0, 1) := by decide +kernel
theorem dX7_kept_34 : decode cX7_kept 34 = .ok (.getfield 41, 3) := by decide +kernel
theorem dX7_kept_37 : decode cX7_kept 37 = .ok (.sipush 1000, 3) := by decide +kernel
theorem dX7_kept_40 : decode cX7_kept 40 = .ok (.iload_n 1, 1) := by decide +kernel
theorem dX7_kept_41 : decode cX7_kept 41 = .ok (.imul, 1) := by decide +kernel
theorem dX7_kept_42 : decode cX7_kept 42 = .ok (.iload_n 2, 1) := by decide +kernel
theorem dX7_kept_43 : decode cX7_kept 43 = .ok (.iadd, 1) := by decide +kernel
theorem dX7_kept_44 : decode cX7_kept 44 = .ok (.baload, 1) := by decide +kernel
theorem dX7_kept_45 : decode cX7_kept 45 = .ok (.ifCond .eq 21, 3) := by decide +kernel
theorem dX7_kept_48 : decode cX7_kept 48 = .ok (.aload_n 0, 1) := by decide +kernel
theorem dX7_kept_49 : decode cX7_kept 49 = .ok (.getfield 44, 3) := by decide +kernel
theorem dX7_kept_52 : decode cX7_kept 52 = .ok (.sipush 1000, 3) := by decide +kernel
theorem dX7_kept_55 : decode cX7_kept 55 = .ok (.iload_n 1, 1) := by decide +kernel
theorem dX7_kept_56 : decode cX7_kept 56 = .ok (.imul, 1) := by decide +kernel
theorem dX7_kept_57 : decode cX7_kept 57 = .ok (.iload_n 2, 1) := by decide +kernel
theorem dX7_kept_58 : decode cX7_kept 58 = .ok (.iadd, 1) := by decide +kernel
theorem dX7_kept_59 : decode cX7_kept 59 = .ok (.daload, 1) := by decide +kernel
theorem dX7_kept_60 : decode cX7_kept 60 = .ok (.invokestatic 104, 3) := by decide +kernel
theorem dX7_kept_63 : decode cX7_kept 63 = .ok (.goto 6, 3) := by decide +kernel
theorem dX7_kept_66 : decode cX7_kept 66 = .ok (.ldc2_w 110, 3) := by decide +kernel
theorem dX7_kept_69 : decode cX7_kept 69 = .ok (.lreturn, 1) := by decide +kernel
theorem dX7_meanOf_0 : decode cX7_meanOf 0 = .ok (.dconst 0, 1) := by decide +kernel
theorem dX7_meanOf_1 : decode cX7_meanOf 1 = .ok (.dstore_n 2, 1) := by decide +kernel
theorem dX7_meanOf_2 : decode cX7_meanOf 2 = .ok (.iconst 0, 1) := by decide +kernel
theorem dX7_meanOf_3 : decode cX7_meanOf 3 = .ok (.istore 4, 2) := by decide +kernel
theorem dX7_meanOf_5 : decode cX7_meanOf 5 = .ok (.iload 4, 2) := by decide +kernel
theorem dX7_meanOf_7 : decode cX7_meanOf 7 = .ok (.sipush 1000, 3) := by decide +kernel
theorem dX7_meanOf_10 : decode cX7_meanOf 10 = .ok (.if_icmp .ge 45, 3) := by decide +kernel
theorem dX7_meanOf_13 : decode cX7_meanOf 13 = .ok (.dload_n 2, 1) := by decide +kernel
theorem dX7_meanOf_14 : decode cX7_meanOf 14 = .ok (.aload_n 0, 1) := by decide +kernel
theorem dX7_meanOf_15 : decode cX7_meanOf 15 = .ok (.getfield 41, 3) := by decide +kernel
theorem dX7_meanOf_18 : decode cX7_meanOf 18 = .ok (.sipush 1000, 3) := by decide +kernel
theorem dX7_meanOf_21 : decode cX7_meanOf 21 = .ok (.iload_n 1, 1) := by decide +kernel
theorem dX7_meanOf_22 : decode cX7_meanOf 22 = .ok (.imul, 1) := by decide +kernel
theorem dX7_meanOf_23 : decode cX7_meanOf 23 = .ok (.iload 4, 2) := by decide +kernel
theorem dX7_meanOf_25 : decode cX7_meanOf 25 = .ok (.iadd, 1) := by decide +kernel
theorem dX7_meanOf_26 : decode cX7_meanOf 26 = .ok (.baload, 1) := by decide +kernel
theorem dX7_meanOf_27 : decode cX7_meanOf 27 = .ok (.ifCond .eq 19, 3) := by decide +kernel
theorem dX7_meanOf_30 : decode cX7_meanOf 30 = .ok (.aload_n 0, 1) := by decide +kernel
theorem dX7_meanOf_31 : decode cX7_meanOf 31 = .ok (.getfield 44, 3) := by decide +kernel
theorem dX7_meanOf_34 : decode cX7_meanOf 34 = .ok (.sipush 1000, 3) := by decide +kernel
theorem dX7_meanOf_37 : decode cX7_meanOf 37 = .ok (.iload_n 1, 1) := by decide +kernel
theorem dX7_meanOf_38 : decode cX7_meanOf 38 = .ok (.imul, 1) := by decide +kernel
theorem dX7_meanOf_39 : decode cX7_meanOf 39 = .ok (.iload 4, 2) := by decide +kernel
theorem dX7_meanOf_41 : decode cX7_meanOf 41 = .ok (.iadd, 1) := by decide +kernel
theorem dX7_meanOf_42 : decode cX7_meanOf 42 = .ok (.daload, 1) := by decide +kernel
theorem dX7_meanOf_43 : decode cX7_meanOf 43 = .ok (.goto 4, 3) := by decide +kernel
theorem dX7_meanOf_46 : decode cX7_meanOf 46 = .ok (.dconst 0, 1) := by decide +kernel
theorem dX7_meanOf_47 : decode cX7_meanOf 47 = .ok (.dadd, 1) := by decide +kernel
theorem dX7_meanOf_48 : decode cX7_meanOf 48 = .ok (.dstore_n 2, 1) := by decide +kernel
theorem dX7_meanOf_49 : decode cX7_meanOf 49 = .ok (.iinc 4 1, 3) := by decide +kernel
theorem dX7_meanOf_52 : decode cX7_meanOf 52 = .ok (.goto (-47), 3) := by decide +kernel
theorem dX7_meanOf_55 : decode cX7_meanOf 55 = .ok (.dload_n 2, 1) := by decide +kernel
theorem dX7_meanOf_56 : decode cX7_meanOf 56 = .ok (.aload_n 0, 1) := by decide +kernel
theorem dX7_meanOf_57 : decode cX7_meanOf 57 = .ok (.getfield 48, 3) := by decide +kernel
theorem dX7_meanOf_60 : decode cX7_meanOf 60 = .ok (.iload_n 1, 1) := by decide +kernel
theorem dX7_meanOf_61 : decode cX7_meanOf 61 = .ok (.iaload, 1) := by decide +kernel
theorem dX7_meanOf_62 : decode cX7_meanOf 62 = .ok (.i2d, 1) := by decide +kernel
theorem dX7_meanOf_63 : decode cX7_meanOf 63 = .ok (.ddiv, 1) := by decide +kernel
theorem dX7_meanOf_64 : decode cX7_meanOf 64 = .ok (.dreturn, 1) := by decide +kernel
theorem dX7_folds_0 : decode cX7_folds 0 = .ok (.iconst 0, 1) := by decide +kernel
theorem dX7_folds_1 : decode cX7_folds 1 = .ok (.istore_n 3, 1) := by decide +kernel
theorem dX7_folds_2 : decode cX7_folds 2 = .ok (.iload_n 3, 1) := by decide +kernel
theorem dX7_folds_3 : decode cX7_folds 3 = .ok (.iload_n 2, 1) := by decide +kernel
theorem dX7_folds_4 : decode cX7_folds 4 = .ok (.if_icmp .ge 23, 3) := by decide +kernel
theorem dX7_folds_7 : decode cX7_folds 7 = .ok (.aload_n 0, 1) := by decide +kernel
theorem dX7_folds_8 : decode cX7_folds 8 = .ok (.getfield 51, 3) := by decide +kernel
theorem dX7_folds_11 : decode cX7_folds 11 = .ok (.iload_n 3, 1) := by decide +kernel
theorem dX7_folds_12 : decode cX7_folds 12 = .ok (.dconst 0, 1) := by decide +kernel
theorem dX7_folds_13 : decode cX7_folds 13 = .ok (.dastore, 1) := by decide +kernel
theorem dX7_folds_14 : decode cX7_folds 14 = .ok (.aload_n 0, 1) := by decide +kernel
theorem dX7_folds_15 : decode cX7_folds 15 = .ok (.getfield 54, 3) := by decide +kernel
theorem dX7_folds_18 : decode cX7_folds 18 = .ok (.iload_n 3, 1) := by decide +kernel
theorem dX7_folds_19 : decode cX7_folds 19 = .ok (.iconst 0, 1) := by decide +kernel
theorem dX7_folds_20 : decode cX7_folds 20 = .ok (.iastore, 1) := by decide +kernel
theorem dX7_folds_21 : decode cX7_folds 21 = .ok (.iinc 3 1, 3) := by decide +kernel
theorem dX7_folds_24 : decode cX7_folds 24 = .ok (.goto (-22), 3) := by decide +kernel
theorem dX7_folds_27 : decode cX7_folds 27 = .ok (.iconst 0, 1) := by decide +kernel
theorem dX7_folds_28 : decode cX7_folds 28 = .ok (.istore_n 3, 1) := by decide +kernel
theorem dX7_folds_29 : decode cX7_folds 29 = .ok (.iload_n 3, 1) := by decide +kernel
theorem dX7_folds_30 : decode cX7_folds 30 = .ok (.sipush 1000, 3) := by decide +kernel
theorem dX7_folds_33 : decode cX7_folds 33 = .ok (.if_icmp .ge 59, 3) := by decide +kernel
theorem dX7_folds_36 : decode cX7_folds 36 = .ok (.aload_n 0, 1) := by decide +kernel
theorem dX7_folds_37 : decode cX7_folds 37 = .ok (.getfield 41, 3) := by decide +kernel
theorem dX7_folds_40 : decode cX7_folds 40 = .ok (.sipush 1000, 3) := by decide +kernel
theorem dX7_folds_43 : decode cX7_folds 43 = .ok (.iload_n 1, 1) := by decide +kernel
theorem dX7_folds_44 : decode cX7_folds 44 = .ok (.imul, 1) := by decide +kernel
theorem dX7_folds_45 : decode cX7_folds 45 = .ok (.iload_n 3, 1) := by decide +kernel
theorem dX7_folds_46 : decode cX7_folds 46 = .ok (.iadd, 1) := by decide +kernel
theorem dX7_folds_47 : decode cX7_folds 47 = .ok (.baload, 1) := by decide +kernel
theorem dX7_folds_48 : decode cX7_folds 48 = .ok (.ifCond .eq 38, 3) := by decide +kernel
theorem dX7_folds_51 : decode cX7_folds 51 = .ok (.aload_n 0, 1) := by decide +kernel
theorem dX7_folds_52 : decode cX7_folds 52 = .ok (.getfield 51, 3) := by decide +kernel
theorem dX7_folds_55 : decode cX7_folds 55 = .ok (.iload_n 3, 1) := by decide +kernel
theorem dX7_folds_56 : decode cX7_folds 56 = .ok (.iload_n 2, 1) := by decide +kernel
theorem dX7_folds_57 : decode cX7_folds 57 = .ok (.irem, 1) := by decide +kernel
theorem dX7_folds_58 : decode cX7_folds 58 = .ok (.dup2, 1) := by decide +kernel
theorem dX7_folds_59 : decode cX7_folds 59 = .ok (.daload, 1) := by decide +kernel
theorem dX7_folds_60 : decode cX7_folds 60 = .ok (.aload_n 0, 1) := by decide +kernel
theorem dX7_folds_61 : decode cX7_folds 61 = .ok (.getfield 44, 3) := by decide +kernel
theorem dX7_folds_64 : decode cX7_folds 64 = .ok (.sipush 1000, 3) := by decide +kernel
theorem dX7_folds_67 : decode cX7_folds 67 = .ok (.iload_n 1, 1) := by decide +kernel
theorem dX7_folds_68 : decode cX7_folds 68 = .ok (.imul, 1) := by decide +kernel
theorem dX7_folds_69 : decode cX7_folds 69 = .ok (.iload_n 3, 1) := by decide +kernel
theorem dX7_folds_70 : decode cX7_folds 70 = .ok (.iadd, 1) := by decide +kernel
theorem dX7_folds_71 : decode cX7_folds 71 = .ok (.daload, 1) := by decide +kernel
theorem dX7_folds_72 : decode cX7_folds 72 = .ok (.dadd, 1) := by decide +kernel
theorem dX7_folds_73 : decode cX7_folds 73 = .ok (.dastore, 1) := by decide +kernel
theorem dX7_folds_74 : decode cX7_folds 74 = .ok (.aload_n 0, 1) := by decide +kernel
theorem dX7_folds_75 : decode cX7_folds 75 = .ok (.getfield 54, 3) := by decide +kernel
theorem dX7_folds_78 : decode cX7_folds 78 = .ok (.iload_n 3, 1) := by decide +kernel
theorem dX7_folds_79 : decode cX7_folds 79 = .ok (.iload_n 2, 1) := by decide +kernel
theorem dX7_folds_80 : decode cX7_folds 80 = .ok (.irem, 1) := by decide +kernel
theorem dX7_folds_81 : decode cX7_folds 81 = .ok (.dup2, 1) := by decide +kernel
theorem dX7_folds_82 : decode cX7_folds 82 = .ok (.iaload, 1) := by decide +kernel
theorem dX7_folds_83 : decode cX7_folds 83 = .ok (.iconst 1, 1) := by decide +kernel
theorem dX7_folds_84 : decode cX7_folds 84 = .ok (.iadd, 1) := by decide +kernel
theorem dX7_folds_85 : decode cX7_folds 85 = .ok (.iastore, 1) := by decide +kernel
theorem dX7_folds_86 : decode cX7_folds 86 = .ok (.iinc 3 1, 3) := by decide +kernel
theorem dX7_folds_89 : decode cX7_folds 89 = .ok (.goto (-60), 3) := by decide +kernel
theorem dX7_folds_92 : decode cX7_folds 92 = .ok (.return_, 1) := by decide +kernel
theorem dX7_scores_0 : decode cX7_scores 0 = .ok (.aload_n 0, 1) := by decide +kernel
theorem dX7_scores_1 : decode cX7_scores 1 = .ok (.iload_n 1, 1) := by decide +kernel
theorem dX7_scores_2 : decode cX7_scores 2 = .ok (.invokevirtual 112, 3) := by decide +kernel
theorem dX7_scores_5 : decode cX7_scores 5 = .ok (.dstore_n 3, 1) := by decide +kernel
theorem dX7_scores_6 : decode cX7_scores 6 = .ok (.aload_n 0, 1) := by decide +kernel
theorem dX7_scores_7 : decode cX7_scores 7 = .ok (.iload_n 1, 1) := by decide +kernel
theorem dX7_scores_8 : decode cX7_scores 8 = .ok (.iload_n 2, 1) := by decide +kernel
theorem dX7_scores_9 : decode cX7_scores 9 = .ok (.invokevirtual 116, 3) := by decide +kernel
theorem dX7_scores_12 : decode cX7_scores 12 = .ok (.aload_n 0, 1) := by decide +kernel
theorem dX7_scores_13 : decode cX7_scores 13 = .ok (.iconst (-1), 1) := by decide +kernel
theorem dX7_scores_14 : decode cX7_scores 14 = .ok (.putfield 120, 3) := by decide +kernel
theorem dX7_scores_17 : decode cX7_scores 17 = .ok (.iconst 0, 1) := by decide +kernel
theorem dX7_scores_18 : decode cX7_scores 18 = .ok (.istore 5, 2) := by decide +kernel
theorem dX7_scores_20 : decode cX7_scores 20 = .ok (.iload 5, 2) := by decide +kernel
theorem dX7_scores_22 : decode cX7_scores 22 = .ok (.iload_n 2, 1) := by decide +kernel
theorem dX7_scores_23 : decode cX7_scores 23 = .ok (.if_icmp .ge 109, 3) := by decide +kernel
theorem dX7_scores_26 : decode cX7_scores 26 = .ok (.aload_n 0, 1) := by decide +kernel
theorem dX7_scores_27 : decode cX7_scores 27 = .ok (.getfield 54, 3) := by decide +kernel
theorem dX7_scores_30 : decode cX7_scores 30 = .ok (.iload 5, 2) := by decide +kernel
theorem dX7_scores_32 : decode cX7_scores 32 = .ok (.iaload, 1) := by decide +kernel
theorem dX7_scores_33 : decode cX7_scores 33 = .ok (.ifCond .le 93, 3) := by decide +kernel
theorem dX7_scores_36 : decode cX7_scores 36 = .ok (.dload_n 3, 1) := by decide +kernel
theorem dX7_scores_37 : decode cX7_scores 37 = .ok (.aload_n 0, 1) := by decide +kernel
theorem dX7_scores_38 : decode cX7_scores 38 = .ok (.getfield 51, 3) := by decide +kernel
theorem dX7_scores_41 : decode cX7_scores 41 = .ok (.iload 5, 2) := by decide +kernel
theorem dX7_scores_43 : decode cX7_scores 43 = .ok (.daload, 1) := by decide +kernel
theorem dX7_scores_44 : decode cX7_scores 44 = .ok (.aload_n 0, 1) := by decide +kernel
theorem dX7_scores_45 : decode cX7_scores 45 = .ok (.getfield 54, 3) := by decide +kernel
theorem dX7_scores_48 : decode cX7_scores 48 = .ok (.iload 5, 2) := by decide +kernel
theorem dX7_scores_50 : decode cX7_scores 50 = .ok (.iaload, 1) := by decide +kernel
theorem dX7_scores_51 : decode cX7_scores 51 = .ok (.i2d, 1) := by decide +kernel
theorem dX7_scores_52 : decode cX7_scores 52 = .ok (.ddiv, 1) := by decide +kernel
theorem dX7_scores_53 : decode cX7_scores 53 = .ok (.dsub, 1) := by decide +kernel
theorem dX7_scores_54 : decode cX7_scores 54 = .ok (.aload_n 0, 1) := by decide +kernel
theorem dX7_scores_55 : decode cX7_scores 55 = .ok (.getfield 54, 3) := by decide +kernel
theorem dX7_scores_58 : decode cX7_scores 58 = .ok (.iload 5, 2) := by decide +kernel
theorem dX7_scores_60 : decode cX7_scores 60 = .ok (.iaload, 1) := by decide +kernel
theorem dX7_scores_61 : decode cX7_scores 61 = .ok (.i2d, 1) := by decide +kernel
theorem dX7_scores_62 : decode cX7_scores 62 = .ok (.dmul, 1) := by decide +kernel
theorem dX7_scores_63 : decode cX7_scores 63 = .ok (.dstore 6, 2) := by decide +kernel
theorem dX7_scores_65 : decode cX7_scores 65 = .ok (.aload_n 0, 1) := by decide +kernel
theorem dX7_scores_66 : decode cX7_scores 66 = .ok (.getfield 120, 3) := by decide +kernel
theorem dX7_scores_69 : decode cX7_scores 69 = .ok (.iconst (-1), 1) := by decide +kernel
theorem dX7_scores_70 : decode cX7_scores 70 = .ok (.if_icmp .eq 13, 3) := by decide +kernel
theorem dX7_scores_73 : decode cX7_scores 73 = .ok (.dload 6, 2) := by decide +kernel
theorem dX7_scores_75 : decode cX7_scores 75 = .ok (.aload_n 0, 1) := by decide +kernel
theorem dX7_scores_76 : decode cX7_scores 76 = .ok (.getfield 123, 3) := by decide +kernel
theorem dX7_scores_79 : decode cX7_scores 79 = .ok (.dcmp .l, 1) := by decide +kernel
theorem dX7_scores_80 : decode cX7_scores 80 = .ok (.ifCond .le 7, 3) := by decide +kernel
theorem dX7_scores_83 : decode cX7_scores 83 = .ok (.iconst 1, 1) := by decide +kernel
theorem dX7_scores_84 : decode cX7_scores 84 = .ok (.goto 4, 3) := by decide +kernel
theorem dX7_scores_87 : decode cX7_scores 87 = .ok (.iconst 0, 1) := by decide +kernel
theorem dX7_scores_88 : decode cX7_scores 88 = .ok (.istore 8, 2) := by decide +kernel
theorem dX7_scores_90 : decode cX7_scores 90 = .ok (.aload_n 0, 1) := by decide +kernel
theorem dX7_scores_91 : decode cX7_scores 91 = .ok (.iload 8, 2) := by decide +kernel
theorem dX7_scores_93 : decode cX7_scores 93 = .ok (.ifCond .eq 8, 3) := by decide +kernel
theorem dX7_scores_96 : decode cX7_scores 96 = .ok (.dload 6, 2) := by decide +kernel
theorem dX7_scores_98 : decode cX7_scores 98 = .ok (.goto 7, 3) := by decide +kernel
theorem dX7_scores_101 : decode cX7_scores 101 = .ok (.aload_n 0, 1) := by decide +kernel
theorem dX7_scores_102 : decode cX7_scores 102 = .ok (.getfield 123, 3) := by decide +kernel
theorem dX7_scores_105 : decode cX7_scores 105 = .ok (.putfield 123, 3) := by decide +kernel
theorem dX7_scores_108 : decode cX7_scores 108 = .ok (.aload_n 0, 1) := by decide +kernel
theorem dX7_scores_109 : decode cX7_scores 109 = .ok (.iload 8, 2) := by decide +kernel
theorem dX7_scores_111 : decode cX7_scores 111 = .ok (.ifCond .eq 8, 3) := by decide +kernel
theorem dX7_scores_114 : decode cX7_scores 114 = .ok (.iload 5, 2) := by decide +kernel
theorem dX7_scores_116 : decode cX7_scores 116 = .ok (.goto 7, 3) := by decide +kernel
theorem dX7_scores_119 : decode cX7_scores 119 = .ok (.aload_n 0, 1) := by decide +kernel
theorem dX7_scores_120 : decode cX7_scores 120 = .ok (.getfield 120, 3) := by decide +kernel
theorem dX7_scores_123 : decode cX7_scores 123 = .ok (.putfield 120, 3) := by decide +kernel
theorem dX7_scores_126 : decode cX7_scores 126 = .ok (.iinc 5 1, 3) := by decide +kernel
theorem dX7_scores_129 : decode cX7_scores 129 = .ok (.goto (-109), 3) := by decide +kernel
theorem dX7_scores_132 : decode cX7_scores 132 = .ok (.return_, 1) := by decide +kernel
theorem dX7_hasFew_0 : decode cX7_hasFew 0 = .ok (.aload_n 0, 1) := by decide +kernel
theorem dX7_hasFew_1 : decode cX7_hasFew 1 = .ok (.getfield 48, 3) := by decide +kernel
theorem dX7_hasFew_4 : decode cX7_hasFew 4 = .ok (.iload_n 1, 1) := by decide +kernel
theorem dX7_hasFew_5 : decode cX7_hasFew 5 = .ok (.iaload, 1) := by decide +kernel
theorem dX7_hasFew_6 : decode cX7_hasFew 6 = .ok (.bipush 20, 2) := by decide +kernel
theorem dX7_hasFew_8 : decode cX7_hasFew 8 = .ok (.if_icmp .ge 7, 3) := by decide +kernel
theorem dX7_hasFew_11 : decode cX7_hasFew 11 = .ok (.iconst 1, 1) := by decide +kernel
theorem dX7_hasFew_12 : decode cX7_hasFew 12 = .ok (.goto 4, 3) := by decide +kernel
theorem dX7_hasFew_15 : decode cX7_hasFew 15 = .ok (.iconst 0, 1) := by decide +kernel
theorem dX7_hasFew_16 : decode cX7_hasFew 16 = .ok (.ireturn, 1) := by decide +kernel
theorem dX7_thrownFor_0 : decode cX7_thrownFor 0 = .ok (.aload_n 0, 1) := by decide +kernel
theorem dX7_thrownFor_1 : decode cX7_thrownFor 1 = .ok (.iload_n 1, 1) := by decide +kernel
theorem dX7_thrownFor_2 : decode cX7_thrownFor 2 = .ok (.invokevirtual 87, 3) := by decide +kernel
theorem dX7_thrownFor_5 : decode cX7_thrownFor 5 = .ok (.ifCond .ne 7, 3) := by decide +kernel
theorem dX7_thrownFor_8 : decode cX7_thrownFor 8 = .ok (.iconst 1, 1) := by decide +kernel
theorem dX7_thrownFor_9 : decode cX7_thrownFor 9 = .ok (.goto 30, 3) := by decide +kernel
theorem dX7_thrownFor_12 : decode cX7_thrownFor 12 = .ok (.iload_n 2, 1) := by decide +kernel
theorem dX7_thrownFor_13 : decode cX7_thrownFor 13 = .ok (.iconst 2, 1) := by decide +kernel
theorem dX7_thrownFor_14 : decode cX7_thrownFor 14 = .ok (.bipush 60, 2) := by decide +kernel
theorem dX7_thrownFor_16 : decode cX7_thrownFor 16 = .ok (.invokestatic 82, 3) := by decide +kernel
theorem dX7_thrownFor_19 : decode cX7_thrownFor 19 = .ok (.ifCond .ne 7, 3) := by decide +kernel
theorem dX7_thrownFor_22 : decode cX7_thrownFor 22 = .ok (.iconst 2, 1) := by decide +kernel
theorem dX7_thrownFor_23 : decode cX7_thrownFor 23 = .ok (.goto 16, 3) := by decide +kernel
theorem dX7_thrownFor_26 : decode cX7_thrownFor 26 = .ok (.aload_n 0, 1) := by decide +kernel
theorem dX7_thrownFor_27 : decode cX7_thrownFor 27 = .ok (.iload_n 1, 1) := by decide +kernel
theorem dX7_thrownFor_28 : decode cX7_thrownFor 28 = .ok (.invokevirtual 127, 3) := by decide +kernel
theorem dX7_thrownFor_31 : decode cX7_thrownFor 31 = .ok (.ifCond .eq 7, 3) := by decide +kernel
theorem dX7_thrownFor_34 : decode cX7_thrownFor 34 = .ok (.iconst 3, 1) := by decide +kernel
theorem dX7_thrownFor_35 : decode cX7_thrownFor 35 = .ok (.goto 4, 3) := by decide +kernel
theorem dX7_thrownFor_38 : decode cX7_thrownFor 38 = .ok (.iconst 0, 1) := by decide +kernel
theorem dX7_thrownFor_39 : decode cX7_thrownFor 39 = .ok (.ireturn, 1) := by decide +kernel
theorem dX7_score_0 : decode cX7_score 0 = .ok (.aload_n 0, 1) := by decide +kernel
theorem dX7_score_1 : decode cX7_score 1 = .ok (.aload_n 0, 1) := by decide +kernel
theorem dX7_score_2 : decode cX7_score 2 = .ok (.iload_n 1, 1) := by decide +kernel
theorem dX7_score_3 : decode cX7_score 3 = .ok (.iload_n 2, 1) := by decide +kernel
theorem dX7_score_4 : decode cX7_score 4 = .ok (.invokevirtual 130, 3) := by decide +kernel
theorem dX7_score_7 : decode cX7_score 7 = .ok (.putfield 75, 3) := by decide +kernel
theorem dX7_score_10 : decode cX7_score 10 = .ok (.aload_n 0, 1) := by decide +kernel
theorem dX7_score_11 : decode cX7_score 11 = .ok (.getfield 75, 3) := by decide +kernel
theorem dX7_score_14 : decode cX7_score 14 = .ok (.ifCond .le 5, 3) := by decide +kernel
theorem dX7_score_17 : decode cX7_score 17 = .ok (.lconst 0, 1) := by decide +kernel
theorem dX7_score_18 : decode cX7_score 18 = .ok (.lreturn, 1) := by decide +kernel
theorem dX7_score_19 : decode cX7_score 19 = .ok (.aload_n 0, 1) := by decide +kernel
theorem dX7_score_20 : decode cX7_score 20 = .ok (.iload_n 1, 1) := by decide +kernel
theorem dX7_score_21 : decode cX7_score 21 = .ok (.iload_n 2, 1) := by decide +kernel
theorem dX7_score_22 : decode cX7_score 22 = .ok (.invokevirtual 133, 3) := by decide +kernel
theorem dX7_score_25 : decode cX7_score 25 = .ok (.aload_n 0, 1) := by decide +kernel
theorem dX7_score_26 : decode cX7_score 26 = .ok (.getfield 123, 3) := by decide +kernel
theorem dX7_score_29 : decode cX7_score 29 = .ok (.invokestatic 104, 3) := by decide +kernel
theorem dX7_score_32 : decode cX7_score 32 = .ok (.lreturn, 1) := by decide +kernel
theorem dX7_phase_0 : decode cX7_phase 0 = .ok (.aload_n 0, 1) := by decide +kernel
theorem dX7_phase_1 : decode cX7_phase 1 = .ok (.aload_n 0, 1) := by decide +kernel
theorem dX7_phase_2 : decode cX7_phase 2 = .ok (.iload_n 1, 1) := by decide +kernel
theorem dX7_phase_3 : decode cX7_phase 3 = .ok (.iload_n 2, 1) := by decide +kernel
theorem dX7_phase_4 : decode cX7_phase 4 = .ok (.invokevirtual 130, 3) := by decide +kernel
theorem dX7_phase_7 : decode cX7_phase 7 = .ok (.putfield 75, 3) := by decide +kernel
theorem dX7_phase_10 : decode cX7_phase 10 = .ok (.aload_n 0, 1) := by decide +kernel
theorem dX7_phase_11 : decode cX7_phase 11 = .ok (.getfield 75, 3) := by decide +kernel
theorem dX7_phase_14 : decode cX7_phase 14 = .ok (.ifCond .le 5, 3) := by decide +kernel
theorem dX7_phase_17 : decode cX7_phase 17 = .ok (.iconst 0, 1) := by decide +kernel
theorem dX7_phase_18 : decode cX7_phase 18 = .ok (.ireturn, 1) := by decide +kernel
theorem dX7_phase_19 : decode cX7_phase 19 = .ok (.aload_n 0, 1) := by decide +kernel
theorem dX7_phase_20 : decode cX7_phase 20 = .ok (.iload_n 1, 1) := by decide +kernel
theorem dX7_phase_21 : decode cX7_phase 21 = .ok (.iload_n 2, 1) := by decide +kernel
theorem dX7_phase_22 : decode cX7_phase 22 = .ok (.invokevirtual 133, 3) := by decide +kernel
theorem dX7_phase_25 : decode cX7_phase 25 = .ok (.aload_n 0, 1) := by decide +kernel
theorem dX7_phase_26 : decode cX7_phase 26 = .ok (.getfield 120, 3) := by decide +kernel
theorem dX7_phase_29 : decode cX7_phase 29 = .ok (.ireturn, 1) := by decide +kernel
theorem dX7_periodOf_0 : decode cX7_periodOf 0 = .ok (.aload_n 0, 1) := by decide +kernel
theorem dX7_periodOf_1 : decode cX7_periodOf 1 = .ok (.iload_n 1, 1) := by decide +kernel
theorem dX7_periodOf_2 : decode cX7_periodOf 2 = .ok (.invokevirtual 127, 3) := by decide +kernel
theorem dX7_periodOf_5 : decode cX7_periodOf 5 = .ok (.ifCond .eq 5, 3) := by decide +kernel
theorem dX7_periodOf_8 : decode cX7_periodOf 8 = .ok (.iconst 0, 1) := by decide +kernel
theorem dX7_periodOf_9 : decode cX7_periodOf 9 = .ok (.ireturn, 1) := by decide +kernel
theorem dX7_periodOf_10 : decode cX7_periodOf 10 = .ok (.iconst 2, 1) := by decide +kernel
theorem dX7_periodOf_11 : decode cX7_periodOf 11 = .ok (.istore_n 3, 1) := by decide +kernel
theorem dX7_periodOf_12 : decode cX7_periodOf 12 = .ok (.aload_n 0, 1) := by decide +kernel
theorem dX7_periodOf_13 : decode cX7_periodOf 13 = .ok (.iload_n 1, 1) := by decide +kernel
theorem dX7_periodOf_14 : decode cX7_periodOf 14 = .ok (.iconst 2, 1) := by decide +kernel
theorem dX7_periodOf_15 : decode cX7_periodOf 15 = .ok (.invokevirtual 133, 3) := by decide +kernel
theorem dX7_periodOf_18 : decode cX7_periodOf 18 = .ok (.aload_n 0, 1) := by decide +kernel
theorem dX7_periodOf_19 : decode cX7_periodOf 19 = .ok (.getfield 123, 3) := by decide +kernel
theorem dX7_periodOf_22 : decode cX7_periodOf 22 = .ok (.dstore 4, 2) := by decide +kernel
theorem dX7_periodOf_24 : decode cX7_periodOf 24 = .ok (.iconst 3, 1) := by decide +kernel
theorem dX7_periodOf_25 : decode cX7_periodOf 25 = .ok (.istore 6, 2) := by decide +kernel
theorem dX7_periodOf_27 : decode cX7_periodOf 27 = .ok (.iload 6, 2) := by decide +kernel
theorem dX7_periodOf_29 : decode cX7_periodOf 29 = .ok (.bipush 60, 2) := by decide +kernel
theorem dX7_periodOf_31 : decode cX7_periodOf 31 = .ok (.if_icmp .gt 54, 3) := by decide +kernel
theorem dX7_periodOf_34 : decode cX7_periodOf 34 = .ok (.aload_n 0, 1) := by decide +kernel
theorem dX7_periodOf_35 : decode cX7_periodOf 35 = .ok (.iload_n 1, 1) := by decide +kernel
theorem dX7_periodOf_36 : decode cX7_periodOf 36 = .ok (.iload 6, 2) := by decide +kernel
theorem dX7_periodOf_38 : decode cX7_periodOf 38 = .ok (.invokevirtual 133, 3) := by decide +kernel
theorem dX7_periodOf_41 : decode cX7_periodOf 41 = .ok (.aload_n 0, 1) := by decide +kernel
theorem dX7_periodOf_42 : decode cX7_periodOf 42 = .ok (.getfield 123, 3) := by decide +kernel
theorem dX7_periodOf_45 : decode cX7_periodOf 45 = .ok (.dload 4, 2) := by decide +kernel
theorem dX7_periodOf_47 : decode cX7_periodOf 47 = .ok (.dcmp .l, 1) := by decide +kernel
theorem dX7_periodOf_48 : decode cX7_periodOf 48 = .ok (.ifCond .le 8, 3) := by decide +kernel
theorem dX7_periodOf_51 : decode cX7_periodOf 51 = .ok (.iload 6, 2) := by decide +kernel
theorem dX7_periodOf_53 : decode cX7_periodOf 53 = .ok (.goto 4, 3) := by decide +kernel
theorem dX7_periodOf_56 : decode cX7_periodOf 56 = .ok (.iload_n 3, 1) := by decide +kernel
theorem dX7_periodOf_57 : decode cX7_periodOf 57 = .ok (.istore_n 3, 1) := by decide +kernel
theorem dX7_periodOf_58 : decode cX7_periodOf 58 = .ok (.aload_n 0, 1) := by decide +kernel
theorem dX7_periodOf_59 : decode cX7_periodOf 59 = .ok (.getfield 123, 3) := by decide +kernel
theorem dX7_periodOf_62 : decode cX7_periodOf 62 = .ok (.dload 4, 2) := by decide +kernel
theorem dX7_periodOf_64 : decode cX7_periodOf 64 = .ok (.dcmp .l, 1) := by decide +kernel
theorem dX7_periodOf_65 : decode cX7_periodOf 65 = .ok (.ifCond .le 10, 3) := by decide +kernel
theorem dX7_periodOf_68 : decode cX7_periodOf 68 = .ok (.aload_n 0, 1) := by decide +kernel
theorem dX7_periodOf_69 : decode cX7_periodOf 69 = .ok (.getfield 123, 3) := by decide +kernel
theorem dX7_periodOf_72 : decode cX7_periodOf 72 = .ok (.goto 5, 3) := by decide +kernel
theorem dX7_periodOf_75 : decode cX7_periodOf 75 = .ok (.dload 4, 2) := by decide +kernel
theorem dX7_periodOf_77 : decode cX7_periodOf 77 = .ok (.dstore 4, 2) := by decide +kernel
theorem dX7_periodOf_79 : decode cX7_periodOf 79 = .ok (.iinc 6 1, 3) := by decide +kernel
theorem dX7_periodOf_82 : decode cX7_periodOf 82 = .ok (.goto (-55), 3) := by decide +kernel
theorem dX7_periodOf_85 : decode cX7_periodOf 85 = .ok (.dload 4, 2) := by decide +kernel
theorem dX7_periodOf_87 : decode cX7_periodOf 87 = .ok (.iload_n 2, 1) := by decide +kernel
theorem dX7_periodOf_88 : decode cX7_periodOf 88 = .ok (.i2d, 1) := by decide +kernel
theorem dX7_periodOf_89 : decode cX7_periodOf 89 = .ok (.dcmp .l, 1) := by decide +kernel
theorem dX7_periodOf_90 : decode cX7_periodOf 90 = .ok (.ifCond .le 7, 3) := by decide +kernel
theorem dX7_periodOf_93 : decode cX7_periodOf 93 = .ok (.iload_n 3, 1) := by decide +kernel
theorem dX7_periodOf_94 : decode cX7_periodOf 94 = .ok (.goto 4, 3) := by decide +kernel
theorem dX7_periodOf_97 : decode cX7_periodOf 97 = .ok (.iconst 0, 1) := by decide +kernel
theorem dX7_periodOf_98 : decode cX7_periodOf 98 = .ok (.ireturn, 1) := by decide +kernel
theorem dX7_isThreshold_0 : decode cX7_isThreshold 0 = .ok (.iload_n 0, 1) := by decide +kernel
theorem dX7_isThreshold_1 : decode cX7_isThreshold 1 = .ok (.iconst 0, 1) := by decide +kernel
theorem dX7_isThreshold_2 : decode cX7_isThreshold 2 = .ok (.ldc 86, 2) := by decide +kernel
theorem dX7_isThreshold_4 : decode cX7_isThreshold 4 = .ok (.invokestatic 82, 3) := by decide +kernel
theorem dX7_isThreshold_7 : decode cX7_isThreshold 7 = .ok (.ireturn, 1) := by decide +kernel
theorem dX7_period_0 : decode cX7_period 0 = .ok (.aload_n 0, 1) := by decide +kernel
theorem dX7_period_1 : decode cX7_period 1 = .ok (.aload_n 0, 1) := by decide +kernel
theorem dX7_period_2 : decode cX7_period 2 = .ok (.iload_n 1, 1) := by decide +kernel
theorem dX7_period_3 : decode cX7_period 3 = .ok (.invokevirtual 87, 3) := by decide +kernel
theorem dX7_period_6 : decode cX7_period 6 = .ok (.ifCond .ne 7, 3) := by decide +kernel
theorem dX7_period_9 : decode cX7_period 9 = .ok (.iconst 1, 1) := by decide +kernel
theorem dX7_period_10 : decode cX7_period 10 = .ok (.goto 15, 3) := by decide +kernel
theorem dX7_period_13 : decode cX7_period 13 = .ok (.iload_n 2, 1) := by decide +kernel
theorem dX7_period_14 : decode cX7_period 14 = .ok (.invokestatic 136, 3) := by decide +kernel
theorem dX7_period_17 : decode cX7_period 17 = .ok (.ifCond .ne 7, 3) := by decide +kernel
theorem dX7_period_20 : decode cX7_period 20 = .ok (.iconst 2, 1) := by decide +kernel
theorem dX7_period_21 : decode cX7_period 21 = .ok (.goto 4, 3) := by decide +kernel
theorem dX7_period_24 : decode cX7_period 24 = .ok (.iconst 0, 1) := by decide +kernel
theorem dX7_period_25 : decode cX7_period 25 = .ok (.putfield 75, 3) := by decide +kernel
theorem dX7_period_28 : decode cX7_period 28 = .ok (.aload_n 0, 1) := by decide +kernel
theorem dX7_period_29 : decode cX7_period 29 = .ok (.getfield 75, 3) := by decide +kernel
theorem dX7_period_32 : decode cX7_period 32 = .ok (.ifCond .le 5, 3) := by decide +kernel
theorem dX7_period_35 : decode cX7_period 35 = .ok (.iconst 0, 1) := by decide +kernel
theorem dX7_period_36 : decode cX7_period 36 = .ok (.ireturn, 1) := by decide +kernel
theorem dX7_period_37 : decode cX7_period 37 = .ok (.aload_n 0, 1) := by decide +kernel
theorem dX7_period_38 : decode cX7_period 38 = .ok (.iload_n 1, 1) := by decide +kernel
theorem dX7_period_39 : decode cX7_period 39 = .ok (.iload_n 2, 1) := by decide +kernel
theorem dX7_period_40 : decode cX7_period 40 = .ok (.invokevirtual 139, 3) := by decide +kernel
theorem dX7_period_43 : decode cX7_period 43 = .ok (.istore_n 3, 1) := by decide +kernel
theorem dX7_period_44 : decode cX7_period 44 = .ok (.aload_n 0, 1) := by decide +kernel
theorem dX7_period_45 : decode cX7_period 45 = .ok (.iload_n 3, 1) := by decide +kernel
theorem dX7_period_46 : decode cX7_period 46 = .ok (.ifCond .ne 7, 3) := by decide +kernel
theorem dX7_period_49 : decode cX7_period 49 = .ok (.iconst 3, 1) := by decide +kernel
theorem dX7_period_50 : decode cX7_period 50 = .ok (.goto 4, 3) := by decide +kernel
theorem dX7_period_53 : decode cX7_period 53 = .ok (.iconst 0, 1) := by decide +kernel
theorem dX7_period_54 : decode cX7_period 54 = .ok (.putfield 75, 3) := by decide +kernel
theorem dX7_period_57 : decode cX7_period 57 = .ok (.iload_n 3, 1) := by decide +kernel
theorem dX7_period_58 : decode cX7_period 58 = .ok (.ireturn, 1) := by decide +kernel
theorem dX7_whyNot_0 : decode cX7_whyNot 0 = .ok (.aload_n 0, 1) := by decide +kernel
theorem dX7_whyNot_1 : decode cX7_whyNot 1 = .ok (.aload_n 0, 1) := by decide +kernel
theorem dX7_whyNot_2 : decode cX7_whyNot 2 = .ok (.iload_n 1, 1) := by decide +kernel
theorem dX7_whyNot_3 : decode cX7_whyNot 3 = .ok (.invokevirtual 87, 3) := by decide +kernel
theorem dX7_whyNot_6 : decode cX7_whyNot 6 = .ok (.ifCond .ne 7, 3) := by decide +kernel
theorem dX7_whyNot_9 : decode cX7_whyNot 9 = .ok (.iconst 1, 1) := by decide +kernel
theorem dX7_whyNot_10 : decode cX7_whyNot 10 = .ok (.goto 15, 3) := by decide +kernel
theorem dX7_whyNot_13 : decode cX7_whyNot 13 = .ok (.iload_n 2, 1) := by decide +kernel
theorem dX7_whyNot_14 : decode cX7_whyNot 14 = .ok (.invokestatic 136, 3) := by decide +kernel
theorem dX7_whyNot_17 : decode cX7_whyNot 17 = .ok (.ifCond .ne 7, 3) := by decide +kernel
theorem dX7_whyNot_20 : decode cX7_whyNot 20 = .ok (.iconst 2, 1) := by decide +kernel
theorem dX7_whyNot_21 : decode cX7_whyNot 21 = .ok (.goto 4, 3) := by decide +kernel
theorem dX7_whyNot_24 : decode cX7_whyNot 24 = .ok (.iconst 0, 1) := by decide +kernel
theorem dX7_whyNot_25 : decode cX7_whyNot 25 = .ok (.putfield 75, 3) := by decide +kernel
theorem dX7_whyNot_28 : decode cX7_whyNot 28 = .ok (.aload_n 0, 1) := by decide +kernel
theorem dX7_whyNot_29 : decode cX7_whyNot 29 = .ok (.getfield 75, 3) := by decide +kernel
theorem dX7_whyNot_32 : decode cX7_whyNot 32 = .ok (.ifCond .le 5, 3) := by decide +kernel
theorem dX7_whyNot_35 : decode cX7_whyNot 35 = .ok (.iconst 0, 1) := by decide +kernel
theorem dX7_whyNot_36 : decode cX7_whyNot 36 = .ok (.ireturn, 1) := by decide +kernel
theorem dX7_whyNot_37 : decode cX7_whyNot 37 = .ok (.aload_n 0, 1) := by decide +kernel
theorem dX7_whyNot_38 : decode cX7_whyNot 38 = .ok (.iload_n 1, 1) := by decide +kernel
theorem dX7_whyNot_39 : decode cX7_whyNot 39 = .ok (.invokevirtual 127, 3) := by decide +kernel
theorem dX7_whyNot_42 : decode cX7_whyNot 42 = .ok (.ifCond .eq 7, 3) := by decide +kernel
theorem dX7_whyNot_45 : decode cX7_whyNot 45 = .ok (.iconst 1, 1) := by decide +kernel
theorem dX7_whyNot_46 : decode cX7_whyNot 46 = .ok (.goto 17, 3) := by decide +kernel
theorem dX7_whyNot_49 : decode cX7_whyNot 49 = .ok (.aload_n 0, 1) := by decide +kernel
theorem dX7_whyNot_50 : decode cX7_whyNot 50 = .ok (.iload_n 1, 1) := by decide +kernel
theorem dX7_whyNot_51 : decode cX7_whyNot 51 = .ok (.iload_n 2, 1) := by decide +kernel
theorem dX7_whyNot_52 : decode cX7_whyNot 52 = .ok (.invokevirtual 139, 3) := by decide +kernel
theorem dX7_whyNot_55 : decode cX7_whyNot 55 = .ok (.ifCond .ne 7, 3) := by decide +kernel
theorem dX7_whyNot_58 : decode cX7_whyNot 58 = .ok (.iconst 2, 1) := by decide +kernel
theorem dX7_whyNot_59 : decode cX7_whyNot 59 = .ok (.goto 4, 3) := by decide +kernel
theorem dX7_whyNot_62 : decode cX7_whyNot 62 = .ok (.iconst 0, 1) := by decide +kernel
theorem dX7_whyNot_63 : decode cX7_whyNot 63 = .ok (.ireturn, 1) := by decide +kernel
theorem dX7_oddEven_0 : decode cX7_oddEven 0 = .ok (.aload_n 0, 1) := by decide +kernel
theorem dX7_oddEven_1 : decode cX7_oddEven 1 = .ok (.aload_n 0, 1) := by decide +kernel
theorem dX7_oddEven_2 : decode cX7_oddEven 2 = .ok (.iload_n 1, 1) := by decide +kernel
theorem dX7_oddEven_3 : decode cX7_oddEven 3 = .ok (.iload_n 2, 1) := by decide +kernel
theorem dX7_oddEven_4 : decode cX7_oddEven 4 = .ok (.invokevirtual 130, 3) := by decide +kernel
theorem dX7_oddEven_7 : decode cX7_oddEven 7 = .ok (.putfield 75, 3) := by decide +kernel
theorem dX7_oddEven_10 : decode cX7_oddEven 10 = .ok (.aload_n 0, 1) := by decide +kernel
theorem dX7_oddEven_11 : decode cX7_oddEven 11 = .ok (.getfield 75, 3) := by decide +kernel
theorem dX7_oddEven_14 : decode cX7_oddEven 14 = .ok (.ifCond .le 5, 3) := by decide +kernel
theorem dX7_oddEven_17 : decode cX7_oddEven 17 = .ok (.lconst 0, 1) := by decide +kernel
theorem dX7_oddEven_18 : decode cX7_oddEven 18 = .ok (.lreturn, 1) := by decide +kernel
theorem dX7_oddEven_19 : decode cX7_oddEven 19 = .ok (.aload_n 0, 1) := by decide +kernel
theorem dX7_oddEven_20 : decode cX7_oddEven 20 = .ok (.iload_n 1, 1) := by decide +kernel
theorem dX7_oddEven_21 : decode cX7_oddEven 21 = .ok (.iload_n 2, 1) := by decide +kernel
theorem dX7_oddEven_22 : decode cX7_oddEven 22 = .ok (.invokevirtual 133, 3) := by decide +kernel
theorem dX7_oddEven_25 : decode cX7_oddEven 25 = .ok (.aload_n 0, 1) := by decide +kernel
theorem dX7_oddEven_26 : decode cX7_oddEven 26 = .ok (.getfield 120, 3) := by decide +kernel
theorem dX7_oddEven_29 : decode cX7_oddEven 29 = .ok (.istore_n 3, 1) := by decide +kernel
theorem dX7_oddEven_30 : decode cX7_oddEven 30 = .ok (.iload_n 3, 1) := by decide +kernel
theorem dX7_oddEven_31 : decode cX7_oddEven 31 = .ok (.iload_n 2, 1) := by decide +kernel
theorem dX7_oddEven_32 : decode cX7_oddEven 32 = .ok (.iadd, 1) := by decide +kernel
theorem dX7_oddEven_33 : decode cX7_oddEven 33 = .ok (.istore 4, 2) := by decide +kernel
theorem dX7_oddEven_35 : decode cX7_oddEven 35 = .ok (.aload_n 0, 1) := by decide +kernel
theorem dX7_oddEven_36 : decode cX7_oddEven 36 = .ok (.iload_n 1, 1) := by decide +kernel
theorem dX7_oddEven_37 : decode cX7_oddEven 37 = .ok (.iconst 2, 1) := by decide +kernel
theorem dX7_oddEven_38 : decode cX7_oddEven 38 = .ok (.iload_n 2, 1) := by decide +kernel
theorem dX7_oddEven_39 : decode cX7_oddEven 39 = .ok (.imul, 1) := by decide +kernel
theorem dX7_oddEven_40 : decode cX7_oddEven 40 = .ok (.invokevirtual 116, 3) := by decide +kernel
theorem dX7_oddEven_43 : decode cX7_oddEven 43 = .ok (.aload_n 0, 1) := by decide +kernel
theorem dX7_oddEven_44 : decode cX7_oddEven 44 = .ok (.getfield 54, 3) := by decide +kernel
theorem dX7_oddEven_47 : decode cX7_oddEven 47 = .ok (.iload_n 3, 1) := by decide +kernel
theorem dX7_oddEven_48 : decode cX7_oddEven 48 = .ok (.iaload, 1) := by decide +kernel
theorem dX7_oddEven_49 : decode cX7_oddEven 49 = .ok (.ifCond .eq 13, 3) := by decide +kernel
theorem dX7_oddEven_52 : decode cX7_oddEven 52 = .ok (.aload_n 0, 1) := by decide +kernel
theorem dX7_oddEven_53 : decode cX7_oddEven 53 = .ok (.getfield 54, 3) := by decide +kernel
theorem dX7_oddEven_56 : decode cX7_oddEven 56 = .ok (.iload 4, 2) := by decide +kernel
theorem dX7_oddEven_58 : decode cX7_oddEven 58 = .ok (.iaload, 1) := by decide +kernel
theorem dX7_oddEven_59 : decode cX7_oddEven 59 = .ok (.ifCond .ne 7, 3) := by decide +kernel
theorem dX7_oddEven_62 : decode cX7_oddEven 62 = .ok (.dconst 0, 1) := by decide +kernel
theorem dX7_oddEven_63 : decode cX7_oddEven 63 = .ok (.goto 34, 3) := by decide +kernel
theorem dX7_oddEven_66 : decode cX7_oddEven 66 = .ok (.aload_n 0, 1) := by decide +kernel
theorem dX7_oddEven_67 : decode cX7_oddEven 67 = .ok (.getfield 51, 3) := by decide +kernel
theorem dX7_oddEven_70 : decode cX7_oddEven 70 = .ok (.iload_n 3, 1) := by decide +kernel
theorem dX7_oddEven_71 : decode cX7_oddEven 71 = .ok (.daload, 1) := by decide +kernel
theorem dX7_oddEven_72 : decode cX7_oddEven 72 = .ok (.aload_n 0, 1) := by decide +kernel
theorem dX7_oddEven_73 : decode cX7_oddEven 73 = .ok (.getfield 54, 3) := by decide +kernel
theorem dX7_oddEven_76 : decode cX7_oddEven 76 = .ok (.iload_n 3, 1) := by decide +kernel
theorem dX7_oddEven_77 : decode cX7_oddEven 77 = .ok (.iaload, 1) := by decide +kernel
theorem dX7_oddEven_78 : decode cX7_oddEven 78 = .ok (.i2d, 1) := by decide +kernel
theorem dX7_oddEven_79 : decode cX7_oddEven 79 = .ok (.ddiv, 1) := by decide +kernel
theorem dX7_oddEven_80 : decode cX7_oddEven 80 = .ok (.aload_n 0, 1) := by decide +kernel
theorem dX7_oddEven_81 : decode cX7_oddEven 81 = .ok (.getfield 51, 3) := by decide +kernel
theorem dX7_oddEven_84 : decode cX7_oddEven 84 = .ok (.iload 4, 2) := by decide +kernel
theorem dX7_oddEven_86 : decode cX7_oddEven 86 = .ok (.daload, 1) := by decide +kernel
theorem dX7_oddEven_87 : decode cX7_oddEven 87 = .ok (.aload_n 0, 1) := by decide +kernel
theorem dX7_oddEven_88 : decode cX7_oddEven 88 = .ok (.getfield 54, 3) := by decide +kernel
theorem dX7_oddEven_91 : decode cX7_oddEven 91 = .ok (.iload 4, 2) := by decide +kernel
theorem dX7_oddEven_93 : decode cX7_oddEven 93 = .ok (.iaload, 1) := by decide +kernel
theorem dX7_oddEven_94 : decode cX7_oddEven 94 = .ok (.i2d, 1) := by decide +kernel
theorem dX7_oddEven_95 : decode cX7_oddEven 95 = .ok (.ddiv, 1) := by decide +kernel
theorem dX7_oddEven_96 : decode cX7_oddEven 96 = .ok (.dsub, 1) := by decide +kernel
theorem dX7_oddEven_97 : decode cX7_oddEven 97 = .ok (.dstore 5, 2) := by decide +kernel
theorem dX7_oddEven_99 : decode cX7_oddEven 99 = .ok (.dload 5, 2) := by decide +kernel
theorem dX7_oddEven_101 : decode cX7_oddEven 101 = .ok (.invokestatic 104, 3) := by decide +kernel
theorem dX7_oddEven_104 : decode cX7_oddEven 104 = .ok (.lreturn, 1) := by decide +kernel
theorem dX7_isWorld_0 : decode cX7_isWorld 0 = .ok (.iload_n 1, 1) := by decide +kernel
theorem dX7_isWorld_1 : decode cX7_isWorld 1 = .ok (.iconst 0, 1) := by decide +kernel
theorem dX7_isWorld_2 : decode cX7_isWorld 2 = .ok (.aload_n 0, 1) := by decide +kernel
theorem dX7_isWorld_3 : decode cX7_isWorld 3 = .ok (.getfield 142, 3) := by decide +kernel
theorem dX7_isWorld_6 : decode cX7_isWorld 6 = .ok (.iconst 1, 1) := by decide +kernel
theorem dX7_isWorld_7 : decode cX7_isWorld 7 = .ok (.isub, 1) := by decide +kernel
theorem dX7_isWorld_8 : decode cX7_isWorld 8 = .ok (.invokestatic 82, 3) := by decide +kernel
theorem dX7_isWorld_11 : decode cX7_isWorld 11 = .ok (.ireturn, 1) := by decide +kernel
theorem dX7_world_0 : decode cX7_world 0 = .ok (.aload_n 0, 1) := by decide +kernel
theorem dX7_world_1 : decode cX7_world 1 = .ok (.aload_n 0, 1) := by decide +kernel
theorem dX7_world_2 : decode cX7_world 2 = .ok (.iload_n 1, 1) := by decide +kernel
theorem dX7_world_3 : decode cX7_world 3 = .ok (.invokevirtual 87, 3) := by decide +kernel
theorem dX7_world_6 : decode cX7_world 6 = .ok (.ifCond .ne 7, 3) := by decide +kernel
theorem dX7_world_9 : decode cX7_world 9 = .ok (.iconst 1, 1) := by decide +kernel
theorem dX7_world_10 : decode cX7_world 10 = .ok (.goto 28, 3) := by decide +kernel
theorem dX7_world_13 : decode cX7_world 13 = .ok (.iload_n 2, 1) := by decide +kernel
theorem dX7_world_14 : decode cX7_world 14 = .ok (.invokestatic 136, 3) := by decide +kernel
theorem dX7_world_17 : decode cX7_world 17 = .ok (.ifCond .ne 7, 3) := by decide +kernel
theorem dX7_world_20 : decode cX7_world 20 = .ok (.iconst 2, 1) := by decide +kernel
theorem dX7_world_21 : decode cX7_world 21 = .ok (.goto 17, 3) := by decide +kernel
theorem dX7_world_24 : decode cX7_world 24 = .ok (.aload_n 0, 1) := by decide +kernel
theorem dX7_world_25 : decode cX7_world 25 = .ok (.getfield 142, 3) := by decide +kernel
theorem dX7_world_28 : decode cX7_world 28 = .ok (.bipush 12, 2) := by decide +kernel
theorem dX7_world_30 : decode cX7_world 30 = .ok (.if_icmp .ne 7, 3) := by decide +kernel
theorem dX7_world_33 : decode cX7_world 33 = .ok (.iconst 3, 1) := by decide +kernel
theorem dX7_world_34 : decode cX7_world 34 = .ok (.goto 4, 3) := by decide +kernel
theorem dX7_world_37 : decode cX7_world 37 = .ok (.iconst 0, 1) := by decide +kernel
theorem dX7_world_38 : decode cX7_world 38 = .ok (.putfield 75, 3) := by decide +kernel
theorem dX7_world_41 : decode cX7_world 41 = .ok (.aload_n 0, 1) := by decide +kernel
theorem dX7_world_42 : decode cX7_world 42 = .ok (.getfield 75, 3) := by decide +kernel
theorem dX7_world_45 : decode cX7_world 45 = .ok (.ifCond .le 7, 3) := by decide +kernel
theorem dX7_world_48 : decode cX7_world 48 = .ok (.iconst 0, 1) := by decide +kernel
theorem dX7_world_49 : decode cX7_world 49 = .ok (.goto 9, 3) := by decide +kernel
theorem dX7_world_52 : decode cX7_world 52 = .ok (.aload_n 0, 1) := by decide +kernel
theorem dX7_world_53 : decode cX7_world 53 = .ok (.iload_n 1, 1) := by decide +kernel
theorem dX7_world_54 : decode cX7_world 54 = .ok (.iload_n 2, 1) := by decide +kernel
theorem dX7_world_55 : decode cX7_world 55 = .ok (.invokevirtual 139, 3) := by decide +kernel
theorem dX7_world_58 : decode cX7_world 58 = .ok (.istore_n 3, 1) := by decide +kernel
theorem dX7_world_59 : decode cX7_world 59 = .ok (.aload_n 0, 1) := by decide +kernel
theorem dX7_world_60 : decode cX7_world 60 = .ok (.aload_n 0, 1) := by decide +kernel
theorem dX7_world_61 : decode cX7_world 61 = .ok (.getfield 75, 3) := by decide +kernel
theorem dX7_world_64 : decode cX7_world 64 = .ok (.ifCond .ne 11, 3) := by decide +kernel
theorem dX7_world_67 : decode cX7_world 67 = .ok (.iload_n 3, 1) := by decide +kernel
theorem dX7_world_68 : decode cX7_world 68 = .ok (.ifCond .ne 7, 3) := by decide +kernel
theorem dX7_world_71 : decode cX7_world 71 = .ok (.iconst 3, 1) := by decide +kernel
theorem dX7_world_72 : decode cX7_world 72 = .ok (.goto 7, 3) := by decide +kernel
theorem dX7_world_75 : decode cX7_world 75 = .ok (.aload_n 0, 1) := by decide +kernel
theorem dX7_world_76 : decode cX7_world 76 = .ok (.getfield 75, 3) := by decide +kernel
theorem dX7_world_79 : decode cX7_world 79 = .ok (.putfield 75, 3) := by decide +kernel
theorem dX7_world_82 : decode cX7_world 82 = .ok (.aload_n 0, 1) := by decide +kernel
theorem dX7_world_83 : decode cX7_world 83 = .ok (.getfield 75, 3) := by decide +kernel
theorem dX7_world_86 : decode cX7_world 86 = .ok (.ifCond .le 5, 3) := by decide +kernel
theorem dX7_world_89 : decode cX7_world 89 = .ok (.iconst 0, 1) := by decide +kernel
theorem dX7_world_90 : decode cX7_world 90 = .ok (.ireturn, 1) := by decide +kernel
theorem dX7_world_91 : decode cX7_world 91 = .ok (.aload_n 0, 1) := by decide +kernel
theorem dX7_world_92 : decode cX7_world 92 = .ok (.iload_n 1, 1) := by decide +kernel
theorem dX7_world_93 : decode cX7_world 93 = .ok (.iload_n 3, 1) := by decide +kernel
theorem dX7_world_94 : decode cX7_world 94 = .ok (.invokevirtual 133, 3) := by decide +kernel
theorem dX7_world_97 : decode cX7_world 97 = .ok (.aload_n 0, 1) := by decide +kernel
theorem dX7_world_98 : decode cX7_world 98 = .ok (.getfield 57, 3) := by decide +kernel
theorem dX7_world_101 : decode cX7_world 101 = .ok (.aload_n 0, 1) := by decide +kernel
theorem dX7_world_102 : decode cX7_world 102 = .ok (.getfield 142, 3) := by decide +kernel
theorem dX7_world_105 : decode cX7_world 105 = .ok (.iload_n 1, 1) := by decide +kernel
theorem dX7_world_106 : decode cX7_world 106 = .ok (.iastore, 1) := by decide +kernel
theorem dX7_world_107 : decode cX7_world 107 = .ok (.aload_n 0, 1) := by decide +kernel
theorem dX7_world_108 : decode cX7_world 108 = .ok (.getfield 60, 3) := by decide +kernel
theorem dX7_world_111 : decode cX7_world 111 = .ok (.aload_n 0, 1) := by decide +kernel
theorem dX7_world_112 : decode cX7_world 112 = .ok (.getfield 142, 3) := by decide +kernel
theorem dX7_world_115 : decode cX7_world 115 = .ok (.iload_n 3, 1) := by decide +kernel
theorem dX7_world_116 : decode cX7_world 116 = .ok (.iastore, 1) := by decide +kernel
theorem dX7_world_117 : decode cX7_world 117 = .ok (.aload_n 0, 1) := by decide +kernel
theorem dX7_world_118 : decode cX7_world 118 = .ok (.getfield 63, 3) := by decide +kernel
theorem dX7_world_121 : decode cX7_world 121 = .ok (.aload_n 0, 1) := by decide +kernel
theorem dX7_world_122 : decode cX7_world 122 = .ok (.getfield 142, 3) := by decide +kernel
theorem dX7_world_125 : decode cX7_world 125 = .ok (.aload_n 0, 1) := by decide +kernel
theorem dX7_world_126 : decode cX7_world 126 = .ok (.getfield 120, 3) := by decide +kernel
theorem dX7_world_129 : decode cX7_world 129 = .ok (.iastore, 1) := by decide +kernel
theorem dX7_world_130 : decode cX7_world 130 = .ok (.aload_n 0, 1) := by decide +kernel
theorem dX7_world_131 : decode cX7_world 131 = .ok (.dup, 1) := by decide +kernel
theorem dX7_world_132 : decode cX7_world 132 = .ok (.getfield 142, 3) := by decide +kernel
theorem dX7_world_135 : decode cX7_world 135 = .ok (.iconst 1, 1) := by decide +kernel
theorem dX7_world_136 : decode cX7_world 136 = .ok (.iadd, 1) := by decide +kernel
theorem dX7_world_137 : decode cX7_world 137 = .ok (.putfield 142, 3) := by decide +kernel
theorem dX7_world_140 : decode cX7_world 140 = .ok (.aload_n 0, 1) := by decide +kernel
theorem dX7_world_141 : decode cX7_world 141 = .ok (.getfield 142, 3) := by decide +kernel
theorem dX7_world_144 : decode cX7_world 144 = .ok (.iconst 1, 1) := by decide +kernel
theorem dX7_world_145 : decode cX7_world 145 = .ok (.isub, 1) := by decide +kernel
theorem dX7_world_146 : decode cX7_world 146 = .ok (.ireturn, 1) := by decide +kernel
theorem dX7_about_0 : decode cX7_about 0 = .ok (.aload_n 0, 1) := by decide +kernel
theorem dX7_about_1 : decode cX7_about 1 = .ok (.aload_n 0, 1) := by decide +kernel
theorem dX7_about_2 : decode cX7_about 2 = .ok (.iload_n 1, 1) := by decide +kernel
theorem dX7_about_3 : decode cX7_about 3 = .ok (.invokevirtual 145, 3) := by decide +kernel
theorem dX7_about_6 : decode cX7_about 6 = .ok (.ifCond .ne 7, 3) := by decide +kernel
theorem dX7_about_9 : decode cX7_about 9 = .ok (.iconst 1, 1) := by decide +kernel
theorem dX7_about_10 : decode cX7_about 10 = .ok (.goto 17, 3) := by decide +kernel
theorem dX7_about_13 : decode cX7_about 13 = .ok (.iload_n 2, 1) := by decide +kernel
theorem dX7_about_14 : decode cX7_about 14 = .ok (.iconst 0, 1) := by decide +kernel
theorem dX7_about_15 : decode cX7_about 15 = .ok (.iconst 3, 1) := by decide +kernel
theorem dX7_about_16 : decode cX7_about 16 = .ok (.invokestatic 82, 3) := by decide +kernel
theorem dX7_about_19 : decode cX7_about 19 = .ok (.ifCond .ne 7, 3) := by decide +kernel
theorem dX7_about_22 : decode cX7_about 22 = .ok (.iconst 2, 1) := by decide +kernel
theorem dX7_about_23 : decode cX7_about 23 = .ok (.goto 4, 3) := by decide +kernel
theorem dX7_about_26 : decode cX7_about 26 = .ok (.iconst 0, 1) := by decide +kernel
theorem dX7_about_27 : decode cX7_about 27 = .ok (.putfield 75, 3) := by decide +kernel
theorem dX7_about_30 : decode cX7_about 30 = .ok (.aload_n 0, 1) := by decide +kernel
theorem dX7_about_31 : decode cX7_about 31 = .ok (.getfield 75, 3) := by decide +kernel
theorem dX7_about_34 : decode cX7_about 34 = .ok (.ifCond .le 5, 3) := by decide +kernel
theorem dX7_about_37 : decode cX7_about 37 = .ok (.iconst 0, 1) := by decide +kernel
theorem dX7_about_38 : decode cX7_about 38 = .ok (.ireturn, 1) := by decide +kernel
theorem dX7_about_39 : decode cX7_about 39 = .ok (.iload_n 2, 1) := by decide +kernel
theorem dX7_about_40 : decode cX7_about 40 = .ok (.ifCond .ne 12, 3) := by decide +kernel
theorem dX7_about_43 : decode cX7_about 43 = .ok (.aload_n 0, 1) := by decide +kernel
theorem dX7_about_44 : decode cX7_about 44 = .ok (.getfield 57, 3) := by decide +kernel
theorem dX7_about_47 : decode cX7_about 47 = .ok (.iload_n 1, 1) := by decide +kernel
theorem dX7_about_48 : decode cX7_about 48 = .ok (.iaload, 1) := by decide +kernel
theorem dX7_about_49 : decode cX7_about 49 = .ok (.goto 45, 3) := by decide +kernel
theorem dX7_about_52 : decode cX7_about 52 = .ok (.iload_n 2, 1) := by decide +kernel
theorem dX7_about_53 : decode cX7_about 53 = .ok (.iconst 1, 1) := by decide +kernel
theorem dX7_about_54 : decode cX7_about 54 = .ok (.if_icmp .ne 12, 3) := by decide +kernel
theorem dX7_about_57 : decode cX7_about 57 = .ok (.aload_n 0, 1) := by decide +kernel
theorem dX7_about_58 : decode cX7_about 58 = .ok (.getfield 60, 3) := by decide +kernel
theorem dX7_about_61 : decode cX7_about 61 = .ok (.iload_n 1, 1) := by decide +kernel
theorem dX7_about_62 : decode cX7_about 62 = .ok (.iaload, 1) := by decide +kernel
theorem dX7_about_63 : decode cX7_about 63 = .ok (.goto 31, 3) := by decide +kernel
theorem dX7_about_66 : decode cX7_about 66 = .ok (.iload_n 2, 1) := by decide +kernel
theorem dX7_about_67 : decode cX7_about 67 = .ok (.iconst 2, 1) := by decide +kernel
theorem dX7_about_68 : decode cX7_about 68 = .ok (.if_icmp .ne 12, 3) := by decide +kernel
theorem dX7_about_71 : decode cX7_about 71 = .ok (.aload_n 0, 1) := by decide +kernel
theorem dX7_about_72 : decode cX7_about 72 = .ok (.getfield 63, 3) := by decide +kernel
theorem dX7_about_75 : decode cX7_about 75 = .ok (.iload_n 1, 1) := by decide +kernel
theorem dX7_about_76 : decode cX7_about 76 = .ok (.iaload, 1) := by decide +kernel
theorem dX7_about_77 : decode cX7_about 77 = .ok (.goto 17, 3) := by decide +kernel
theorem dX7_about_80 : decode cX7_about 80 = .ok (.aload_n 0, 1) := by decide +kernel
theorem dX7_about_81 : decode cX7_about 81 = .ok (.getfield 66, 3) := by decide +kernel
theorem dX7_about_84 : decode cX7_about 84 = .ok (.iload_n 1, 1) := by decide +kernel
