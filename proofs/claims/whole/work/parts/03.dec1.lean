theorem dX6_sure_10 : decode cX6_sure 10 = .ok (.aload_n 0, 1) := by decide +kernel
theorem dX6_sure_11 : decode cX6_sure 11 = .ok (.getfield 21, 3) := by decide +kernel
theorem dX6_sure_14 : decode cX6_sure 14 = .ok (.invokevirtual 107, 3) := by decide +kernel
theorem dX6_sure_17 : decode cX6_sure 17 = .ok (.ifCond .ne 6, 3) := by decide +kernel
theorem dX6_sure_20 : decode cX6_sure 20 = .ok (.bipush (-3), 2) := by decide +kernel
theorem dX6_sure_22 : decode cX6_sure 22 = .ok (.ireturn, 1) := by decide +kernel
theorem dX6_sure_23 : decode cX6_sure 23 = .ok (.aload_n 0, 1) := by decide +kernel
theorem dX6_sure_24 : decode cX6_sure 24 = .ok (.invokevirtual 172, 3) := by decide +kernel
theorem dX6_sure_27 : decode cX6_sure 27 = .ok (.aload_n 0, 1) := by decide +kernel
theorem dX6_sure_28 : decode cX6_sure 28 = .ok (.getfield 35, 3) := by decide +kernel
theorem dX6_sure_31 : decode cX6_sure 31 = .ok (.getfield 179, 3) := by decide +kernel
theorem dX6_sure_34 : decode cX6_sure 34 = .ok (.iload_n 1, 1) := by decide +kernel
theorem dX6_sure_35 : decode cX6_sure 35 = .ok (.iaload, 1) := by decide +kernel
theorem dX6_sure_36 : decode cX6_sure 36 = .ok (.ireturn, 1) := by decide +kernel
theorem dX6_laws_0 : decode cX6_laws 0 = .ok (.aload_n 0, 1) := by decide +kernel
theorem dX6_laws_1 : decode cX6_laws 1 = .ok (.iload_n 1, 1) := by decide +kernel
theorem dX6_laws_2 : decode cX6_laws 2 = .ok (.iload_n 2, 1) := by decide +kernel
theorem dX6_laws_3 : decode cX6_laws 3 = .ok (.iload_n 3, 1) := by decide +kernel
theorem dX6_laws_4 : decode cX6_laws 4 = .ok (.iload 4, 2) := by decide +kernel
theorem dX6_laws_6 : decode cX6_laws 6 = .ok (.ifCond .lt 15, 3) := by decide +kernel
theorem dX6_laws_9 : decode cX6_laws 9 = .ok (.iload 4, 2) := by decide +kernel
theorem dX6_laws_11 : decode cX6_laws 11 = .ok (.sipush 999, 3) := by decide +kernel
theorem dX6_laws_14 : decode cX6_laws 14 = .ok (.if_icmp .gt 7, 3) := by decide +kernel
theorem dX6_laws_17 : decode cX6_laws 17 = .ok (.iconst 1, 1) := by decide +kernel
theorem dX6_laws_18 : decode cX6_laws 18 = .ok (.goto 4, 3) := by decide +kernel
theorem dX6_laws_21 : decode cX6_laws 21 = .ok (.iconst 0, 1) := by decide +kernel
theorem dX6_laws_22 : decode cX6_laws 22 = .ok (.invokevirtual 117, 3) := by decide +kernel
theorem dX6_laws_25 : decode cX6_laws 25 = .ok (.istore 5, 2) := by decide +kernel
theorem dX6_laws_27 : decode cX6_laws 27 = .ok (.iload 5, 2) := by decide +kernel
theorem dX6_laws_29 : decode cX6_laws 29 = .ok (.ifCond .eq 6, 3) := by decide +kernel
theorem dX6_laws_32 : decode cX6_laws 32 = .ok (.iload 5, 2) := by decide +kernel
theorem dX6_laws_34 : decode cX6_laws 34 = .ok (.ireturn, 1) := by decide +kernel
theorem dX6_laws_35 : decode cX6_laws 35 = .ok (.aload_n 0, 1) := by decide +kernel
theorem dX6_laws_36 : decode cX6_laws 36 = .ok (.getfield 21, 3) := by decide +kernel
theorem dX6_laws_39 : decode cX6_laws 39 = .ok (.aload_n 0, 1) := by decide +kernel
theorem dX6_laws_40 : decode cX6_laws 40 = .ok (.getfield 39, 3) := by decide +kernel
theorem dX6_laws_43 : decode cX6_laws 43 = .ok (.invokevirtual 121, 3) := by decide +kernel
theorem dX6_laws_46 : decode cX6_laws 46 = .ok (.istore 6, 2) := by decide +kernel
theorem dX6_laws_48 : decode cX6_laws 48 = .ok (.iload 6, 2) := by decide +kernel
theorem dX6_laws_50 : decode cX6_laws 50 = .ok (.bipush (-9), 2) := by decide +kernel
theorem dX6_laws_52 : decode cX6_laws 52 = .ok (.if_icmp .eq 9, 3) := by decide +kernel
theorem dX6_laws_55 : decode cX6_laws 55 = .ok (.bipush (-100), 2) := by decide +kernel
theorem dX6_laws_57 : decode cX6_laws 57 = .ok (.iload 6, 2) := by decide +kernel
theorem dX6_laws_59 : decode cX6_laws 59 = .ok (.isub, 1) := by decide +kernel
theorem dX6_laws_60 : decode cX6_laws 60 = .ok (.ireturn, 1) := by decide +kernel
theorem dX6_laws_61 : decode cX6_laws 61 = .ok (.iconst 0, 1) := by decide +kernel
theorem dX6_laws_62 : decode cX6_laws 62 = .ok (.istore 7, 2) := by decide +kernel
theorem dX6_laws_64 : decode cX6_laws 64 = .ok (.iconst 0, 1) := by decide +kernel
theorem dX6_laws_65 : decode cX6_laws 65 = .ok (.istore 8, 2) := by decide +kernel
theorem dX6_laws_67 : decode cX6_laws 67 = .ok (.iload 8, 2) := by decide +kernel
theorem dX6_laws_69 : decode cX6_laws 69 = .ok (.iconst 4, 1) := by decide +kernel
theorem dX6_laws_70 : decode cX6_laws 70 = .ok (.if_icmp .ge 36, 3) := by decide +kernel
theorem dX6_laws_73 : decode cX6_laws 73 = .ok (.aload_n 0, 1) := by decide +kernel
theorem dX6_laws_74 : decode cX6_laws 74 = .ok (.getfield 21, 3) := by decide +kernel
theorem dX6_laws_77 : decode cX6_laws 77 = .ok (.aload_n 0, 1) := by decide +kernel
theorem dX6_laws_78 : decode cX6_laws 78 = .ok (.getfield 39, 3) := by decide +kernel
theorem dX6_laws_81 : decode cX6_laws 81 = .ok (.iload 8, 2) := by decide +kernel
theorem dX6_laws_83 : decode cX6_laws 83 = .ok (.invokevirtual 131, 3) := by decide +kernel
theorem dX6_laws_86 : decode cX6_laws 86 = .ok (.iload 4, 2) := by decide +kernel
theorem dX6_laws_88 : decode cX6_laws 88 = .ok (.if_icmp .ne 12, 3) := by decide +kernel
theorem dX6_laws_91 : decode cX6_laws 91 = .ok (.iload 7, 2) := by decide +kernel
theorem dX6_laws_93 : decode cX6_laws 93 = .ok (.iconst 1, 1) := by decide +kernel
theorem dX6_laws_94 : decode cX6_laws 94 = .ok (.iload 8, 2) := by decide +kernel
theorem dX6_laws_96 : decode cX6_laws 96 = .ok (.ishl, 1) := by decide +kernel
theorem dX6_laws_97 : decode cX6_laws 97 = .ok (.ior, 1) := by decide +kernel
theorem dX6_laws_98 : decode cX6_laws 98 = .ok (.istore 7, 2) := by decide +kernel
theorem dX6_laws_100 : decode cX6_laws 100 = .ok (.iinc 8 1, 3) := by decide +kernel
theorem dX6_laws_103 : decode cX6_laws 103 = .ok (.goto (-36), 3) := by decide +kernel
theorem dX6_laws_106 : decode cX6_laws 106 = .ok (.iload 7, 2) := by decide +kernel
theorem dX6_laws_108 : decode cX6_laws 108 = .ok (.ireturn, 1) := by decide +kernel
theorem dX6_used_0 : decode cX6_used 0 = .ok (.aload_n 0, 1) := by decide +kernel
theorem dX6_used_1 : decode cX6_used 1 = .ok (.iconst 0, 1) := by decide +kernel
theorem dX6_used_2 : decode cX6_used 2 = .ok (.putfield 43, 3) := by decide +kernel
theorem dX6_used_5 : decode cX6_used 5 = .ok (.aload_n 0, 1) := by decide +kernel
theorem dX6_used_6 : decode cX6_used 6 = .ok (.getfield 21, 3) := by decide +kernel
theorem dX6_used_9 : decode cX6_used 9 = .ok (.iload_n 1, 1) := by decide +kernel
theorem dX6_used_10 : decode cX6_used 10 = .ok (.invokevirtual 79, 3) := by decide +kernel
theorem dX6_used_13 : decode cX6_used 13 = .ok (.ifCond .ne 5, 3) := by decide +kernel
theorem dX6_used_16 : decode cX6_used 16 = .ok (.iconst (-1), 1) := by decide +kernel
theorem dX6_used_17 : decode cX6_used 17 = .ok (.ireturn, 1) := by decide +kernel
theorem dX6_used_18 : decode cX6_used 18 = .ok (.aload_n 0, 1) := by decide +kernel
theorem dX6_used_19 : decode cX6_used 19 = .ok (.iload_n 2, 1) := by decide +kernel
theorem dX6_used_20 : decode cX6_used 20 = .ok (.iload_n 3, 1) := by decide +kernel
theorem dX6_used_21 : decode cX6_used 21 = .ok (.iload 4, 2) := by decide +kernel
theorem dX6_used_23 : decode cX6_used 23 = .ok (.iload 5, 2) := by decide +kernel
theorem dX6_used_25 : decode cX6_used 25 = .ok (.ifCond .lt 15, 3) := by decide +kernel
theorem dX6_used_28 : decode cX6_used 28 = .ok (.iload 5, 2) := by decide +kernel
theorem dX6_used_30 : decode cX6_used 30 = .ok (.sipush 999, 3) := by decide +kernel
theorem dX6_used_33 : decode cX6_used 33 = .ok (.if_icmp .gt 7, 3) := by decide +kernel
theorem dX6_used_36 : decode cX6_used 36 = .ok (.iconst 1, 1) := by decide +kernel
theorem dX6_used_37 : decode cX6_used 37 = .ok (.goto 4, 3) := by decide +kernel
theorem dX6_used_40 : decode cX6_used 40 = .ok (.iconst 0, 1) := by decide +kernel
theorem dX6_used_41 : decode cX6_used 41 = .ok (.invokevirtual 117, 3) := by decide +kernel
theorem dX6_used_44 : decode cX6_used 44 = .ok (.istore 6, 2) := by decide +kernel
theorem dX6_used_46 : decode cX6_used 46 = .ok (.iload 6, 2) := by decide +kernel
theorem dX6_used_48 : decode cX6_used 48 = .ok (.ifCond .eq 6, 3) := by decide +kernel
theorem dX6_used_51 : decode cX6_used 51 = .ok (.iload 6, 2) := by decide +kernel
theorem dX6_used_53 : decode cX6_used 53 = .ok (.ireturn, 1) := by decide +kernel
theorem dX6_used_54 : decode cX6_used 54 = .ok (.aload_n 0, 1) := by decide +kernel
theorem dX6_used_55 : decode cX6_used 55 = .ok (.getfield 21, 3) := by decide +kernel
theorem dX6_used_58 : decode cX6_used 58 = .ok (.aload_n 0, 1) := by decide +kernel
theorem dX6_used_59 : decode cX6_used 59 = .ok (.getfield 39, 3) := by decide +kernel
theorem dX6_used_62 : decode cX6_used 62 = .ok (.invokevirtual 121, 3) := by decide +kernel
theorem dX6_used_65 : decode cX6_used 65 = .ok (.istore 7, 2) := by decide +kernel
theorem dX6_used_67 : decode cX6_used 67 = .ok (.iload 7, 2) := by decide +kernel
theorem dX6_used_69 : decode cX6_used 69 = .ok (.bipush (-9), 2) := by decide +kernel
theorem dX6_used_71 : decode cX6_used 71 = .ok (.if_icmp .eq 9, 3) := by decide +kernel
theorem dX6_used_74 : decode cX6_used 74 = .ok (.bipush (-100), 2) := by decide +kernel
theorem dX6_used_76 : decode cX6_used 76 = .ok (.iload 7, 2) := by decide +kernel
theorem dX6_used_78 : decode cX6_used 78 = .ok (.isub, 1) := by decide +kernel
theorem dX6_used_79 : decode cX6_used 79 = .ok (.ireturn, 1) := by decide +kernel
theorem dX6_used_80 : decode cX6_used 80 = .ok (.aload_n 0, 1) := by decide +kernel
theorem dX6_used_81 : decode cX6_used 81 = .ok (.getfield 21, 3) := by decide +kernel
theorem dX6_used_84 : decode cX6_used 84 = .ok (.aload_n 0, 1) := by decide +kernel
theorem dX6_used_85 : decode cX6_used 85 = .ok (.getfield 39, 3) := by decide +kernel
theorem dX6_used_88 : decode cX6_used 88 = .ok (.iload_n 1, 1) := by decide +kernel
theorem dX6_used_89 : decode cX6_used 89 = .ok (.invokevirtual 182, 3) := by decide +kernel
theorem dX6_used_92 : decode cX6_used 92 = .ok (.istore 8, 2) := by decide +kernel
theorem dX6_used_94 : decode cX6_used 94 = .ok (.aload_n 0, 1) := by decide +kernel
theorem dX6_used_95 : decode cX6_used 95 = .ok (.getfield 21, 3) := by decide +kernel
theorem dX6_used_98 : decode cX6_used 98 = .ok (.aload_n 0, 1) := by decide +kernel
theorem dX6_used_99 : decode cX6_used 99 = .ok (.getfield 39, 3) := by decide +kernel
theorem dX6_used_102 : decode cX6_used 102 = .ok (.invokevirtual 128, 3) := by decide +kernel
theorem dX6_used_105 : decode cX6_used 105 = .ok (.aload_n 0, 1) := by decide +kernel
theorem dX6_used_106 : decode cX6_used 106 = .ok (.getfield 21, 3) := by decide +kernel
theorem dX6_used_109 : decode cX6_used 109 = .ok (.getfield 82, 3) := by decide +kernel
theorem dX6_used_112 : decode cX6_used 112 = .ok (.iload_n 1, 1) := by decide +kernel
theorem dX6_used_113 : decode cX6_used 113 = .ok (.aaload, 1) := by decide +kernel
theorem dX6_used_114 : decode cX6_used 114 = .ok (.getfield 100, 3) := by decide +kernel
theorem dX6_used_117 : decode cX6_used 117 = .ok (.iload 8, 2) := by decide +kernel
theorem dX6_used_119 : decode cX6_used 119 = .ok (.iand, 1) := by decide +kernel
theorem dX6_used_120 : decode cX6_used 120 = .ok (.invokestatic 185, 3) := by decide +kernel
theorem dX6_used_123 : decode cX6_used 123 = .ok (.isub, 1) := by decide +kernel
theorem dX6_used_124 : decode cX6_used 124 = .ok (.istore 9, 2) := by decide +kernel
theorem dX6_used_126 : decode cX6_used 126 = .ok (.iconst 0, 1) := by decide +kernel
theorem dX6_used_127 : decode cX6_used 127 = .ok (.istore 10, 2) := by decide +kernel
theorem dX6_used_129 : decode cX6_used 129 = .ok (.iconst 0, 1) := by decide +kernel
theorem dX6_used_130 : decode cX6_used 130 = .ok (.istore 11, 2) := by decide +kernel
theorem dX6_used_132 : decode cX6_used 132 = .ok (.iload 11, 2) := by decide +kernel
theorem dX6_used_134 : decode cX6_used 134 = .ok (.bipush 64, 2) := by decide +kernel
theorem dX6_used_136 : decode cX6_used 136 = .ok (.if_icmp .ge 28, 3) := by decide +kernel
theorem dX6_used_139 : decode cX6_used 139 = .ok (.iload 9, 2) := by decide +kernel
theorem dX6_used_141 : decode cX6_used 141 = .ok (.iload 11, 2) := by decide +kernel
theorem dX6_used_143 : decode cX6_used 143 = .ok (.iload 8, 2) := by decide +kernel
theorem dX6_used_145 : decode cX6_used 145 = .ok (.iand, 1) := by decide +kernel
theorem dX6_used_146 : decode cX6_used 146 = .ok (.invokestatic 185, 3) := by decide +kernel
theorem dX6_used_149 : decode cX6_used 149 = .ok (.iadd, 1) := by decide +kernel
theorem dX6_used_150 : decode cX6_used 150 = .ok (.iload 5, 2) := by decide +kernel
theorem dX6_used_152 : decode cX6_used 152 = .ok (.if_icmp .ne 6, 3) := by decide +kernel
theorem dX6_used_155 : decode cX6_used 155 = .ok (.iinc 10 1, 3) := by decide +kernel
theorem dX6_used_158 : decode cX6_used 158 = .ok (.iinc 11 1, 3) := by decide +kernel
theorem dX6_used_161 : decode cX6_used 161 = .ok (.goto (-29), 3) := by decide +kernel
theorem dX6_used_164 : decode cX6_used 164 = .ok (.iload 10, 2) := by decide +kernel
theorem dX6_used_166 : decode cX6_used 166 = .ok (.ireturn, 1) := by decide +kernel
theorem dX6_odds_0 : decode cX6_odds 0 = .ok (.iload 4, 2) := by decide +kernel
theorem dX6_odds_2 : decode cX6_odds 2 = .ok (.ifCond .lt 25, 3) := by decide +kernel
theorem dX6_odds_5 : decode cX6_odds 5 = .ok (.iload 4, 2) := by decide +kernel
theorem dX6_odds_7 : decode cX6_odds 7 = .ok (.bipush 30, 2) := by decide +kernel
theorem dX6_odds_9 : decode cX6_odds 9 = .ok (.if_icmp .gt 18, 3) := by decide +kernel
theorem dX6_odds_12 : decode cX6_odds 12 = .ok (.iload 5, 2) := by decide +kernel
theorem dX6_odds_14 : decode cX6_odds 14 = .ok (.ifCond .eq 9, 3) := by decide +kernel
theorem dX6_odds_17 : decode cX6_odds 17 = .ok (.iload 5, 2) := by decide +kernel
theorem dX6_odds_19 : decode cX6_odds 19 = .ok (.iconst 1, 1) := by decide +kernel
theorem dX6_odds_20 : decode cX6_odds 20 = .ok (.if_icmp .ne 7, 3) := by decide +kernel
theorem dX6_odds_23 : decode cX6_odds 23 = .ok (.iconst 1, 1) := by decide +kernel
theorem dX6_odds_24 : decode cX6_odds 24 = .ok (.goto 4, 3) := by decide +kernel
theorem dX6_odds_27 : decode cX6_odds 27 = .ok (.iconst 0, 1) := by decide +kernel
theorem dX6_odds_28 : decode cX6_odds 28 = .ok (.istore 6, 2) := by decide +kernel
theorem dX6_odds_30 : decode cX6_odds 30 = .ok (.aload_n 0, 1) := by decide +kernel
theorem dX6_odds_31 : decode cX6_odds 31 = .ok (.iload_n 1, 1) := by decide +kernel
theorem dX6_odds_32 : decode cX6_odds 32 = .ok (.iload_n 2, 1) := by decide +kernel
theorem dX6_odds_33 : decode cX6_odds 33 = .ok (.iload_n 3, 1) := by decide +kernel
theorem dX6_odds_34 : decode cX6_odds 34 = .ok (.iload 6, 2) := by decide +kernel
theorem dX6_odds_36 : decode cX6_odds 36 = .ok (.invokevirtual 117, 3) := by decide +kernel
theorem dX6_odds_39 : decode cX6_odds 39 = .ok (.ifCond .ne 19, 3) := by decide +kernel
theorem dX6_odds_42 : decode cX6_odds 42 = .ok (.aload_n 0, 1) := by decide +kernel
theorem dX6_odds_43 : decode cX6_odds 43 = .ok (.getfield 21, 3) := by decide +kernel
theorem dX6_odds_46 : decode cX6_odds 46 = .ok (.aload_n 0, 1) := by decide +kernel
theorem dX6_odds_47 : decode cX6_odds 47 = .ok (.getfield 39, 3) := by decide +kernel
theorem dX6_odds_50 : decode cX6_odds 50 = .ok (.invokevirtual 121, 3) := by decide +kernel
theorem dX6_odds_53 : decode cX6_odds 53 = .ok (.bipush (-9), 2) := by decide +kernel
theorem dX6_odds_55 : decode cX6_odds 55 = .ok (.if_icmp .eq 7, 3) := by decide +kernel
theorem dX6_odds_58 : decode cX6_odds 58 = .ok (.ldc2_w 190, 3) := by decide +kernel
theorem dX6_odds_61 : decode cX6_odds 61 = .ok (.lreturn, 1) := by decide +kernel
theorem dX6_odds_62 : decode cX6_odds 62 = .ok (.aload_n 0, 1) := by decide +kernel
theorem dX6_odds_63 : decode cX6_odds 63 = .ok (.getfield 21, 3) := by decide +kernel
theorem dX6_odds_66 : decode cX6_odds 66 = .ok (.aload_n 0, 1) := by decide +kernel
theorem dX6_odds_67 : decode cX6_odds 67 = .ok (.getfield 39, 3) := by decide +kernel
theorem dX6_odds_70 : decode cX6_odds 70 = .ok (.invokevirtual 128, 3) := by decide +kernel
theorem dX6_odds_73 : decode cX6_odds 73 = .ok (.istore 7, 2) := by decide +kernel
theorem dX6_odds_75 : decode cX6_odds 75 = .ok (.iload 7, 2) := by decide +kernel
theorem dX6_odds_77 : decode cX6_odds 77 = .ok (.iload 4, 2) := by decide +kernel
theorem dX6_odds_79 : decode cX6_odds 79 = .ok (.invokestatic 192, 3) := by decide +kernel
theorem dX6_odds_82 : decode cX6_odds 82 = .ok (.lstore 8, 2) := by decide +kernel
theorem dX6_odds_84 : decode cX6_odds 84 = .ok (.lconst 1, 1) := by decide +kernel
theorem dX6_odds_85 : decode cX6_odds 85 = .ok (.iload 7, 2) := by decide +kernel
theorem dX6_odds_87 : decode cX6_odds 87 = .ok (.lshl, 1) := by decide +kernel
theorem dX6_odds_88 : decode cX6_odds 88 = .ok (.lstore 10, 2) := by decide +kernel
theorem dX6_odds_90 : decode cX6_odds 90 = .ok (.iconst 0, 1) := by decide +kernel
theorem dX6_odds_91 : decode cX6_odds 91 = .ok (.istore 12, 2) := by decide +kernel
theorem dX6_odds_93 : decode cX6_odds 93 = .ok (.iload 12, 2) := by decide +kernel
theorem dX6_odds_95 : decode cX6_odds 95 = .ok (.iload 7, 2) := by decide +kernel
theorem dX6_odds_97 : decode cX6_odds 97 = .ok (.if_icmp .ge 36, 3) := by decide +kernel
theorem dX6_odds_100 : decode cX6_odds 100 = .ok (.lload 8, 2) := by decide +kernel
theorem dX6_odds_102 : decode cX6_odds 102 = .ok (.ldc2_w 196, 3) := by decide +kernel
theorem dX6_odds_105 : decode cX6_odds 105 = .ok (.lrem, 1) := by decide +kernel
theorem dX6_odds_106 : decode cX6_odds 106 = .ok (.lconst 0, 1) := by decide +kernel
theorem dX6_odds_107 : decode cX6_odds 107 = .ok (.lcmp, 1) := by decide +kernel
theorem dX6_odds_108 : decode cX6_odds 108 = .ok (.ifCond .ne 25, 3) := by decide +kernel
theorem dX6_odds_111 : decode cX6_odds 111 = .ok (.lload 8, 2) := by decide +kernel
theorem dX6_odds_113 : decode cX6_odds 113 = .ok (.ldc2_w 196, 3) := by decide +kernel
theorem dX6_odds_116 : decode cX6_odds 116 = .ok (.ldiv, 1) := by decide +kernel
theorem dX6_odds_117 : decode cX6_odds 117 = .ok (.lstore 8, 2) := by decide +kernel
theorem dX6_odds_119 : decode cX6_odds 119 = .ok (.lload 10, 2) := by decide +kernel
theorem dX6_odds_121 : decode cX6_odds 121 = .ok (.ldc2_w 196, 3) := by decide +kernel
theorem dX6_odds_124 : decode cX6_odds 124 = .ok (.ldiv, 1) := by decide +kernel
theorem dX6_odds_125 : decode cX6_odds 125 = .ok (.lstore 10, 2) := by decide +kernel
theorem dX6_odds_127 : decode cX6_odds 127 = .ok (.iinc 12 1, 3) := by decide +kernel
theorem dX6_odds_130 : decode cX6_odds 130 = .ok (.goto (-37), 3) := by decide +kernel
theorem dX6_odds_133 : decode cX6_odds 133 = .ok (.iload 5, 2) := by decide +kernel
theorem dX6_odds_135 : decode cX6_odds 135 = .ok (.ifCond .ne 8, 3) := by decide +kernel
theorem dX6_odds_138 : decode cX6_odds 138 = .ok (.lload 8, 2) := by decide +kernel
theorem dX6_odds_140 : decode cX6_odds 140 = .ok (.goto 5, 3) := by decide +kernel
theorem dX6_odds_143 : decode cX6_odds 143 = .ok (.lload 10, 2) := by decide +kernel
theorem dX6_odds_145 : decode cX6_odds 145 = .ok (.lreturn, 1) := by decide +kernel
theorem dX6_sheet_0 : decode cX6_sheet 0 = .ok (.aload_n 0, 1) := by decide +kernel
theorem dX6_sheet_1 : decode cX6_sheet 1 = .ok (.iconst 0, 1) := by decide +kernel
theorem dX6_sheet_2 : decode cX6_sheet 2 = .ok (.putfield 43, 3) := by decide +kernel
theorem dX6_sheet_5 : decode cX6_sheet 5 = .ok (.iload_n 1, 1) := by decide +kernel
theorem dX6_sheet_6 : decode cX6_sheet 6 = .ok (.invokestatic 47, 3) := by decide +kernel
theorem dX6_sheet_9 : decode cX6_sheet 9 = .ok (.ifCond .ne 5, 3) := by decide +kernel
theorem dX6_sheet_12 : decode cX6_sheet 12 = .ok (.iconst (-1), 1) := by decide +kernel
theorem dX6_sheet_13 : decode cX6_sheet 13 = .ok (.ireturn, 1) := by decide +kernel
theorem dX6_sheet_14 : decode cX6_sheet 14 = .ok (.iload_n 2, 1) := by decide +kernel
theorem dX6_sheet_15 : decode cX6_sheet 15 = .ok (.invokestatic 51, 3) := by decide +kernel
theorem dX6_sheet_18 : decode cX6_sheet 18 = .ok (.ifCond .eq 9, 3) := by decide +kernel
theorem dX6_sheet_21 : decode cX6_sheet 21 = .ok (.iload_n 3, 1) := by decide +kernel
theorem dX6_sheet_22 : decode cX6_sheet 22 = .ok (.bipush 60, 2) := by decide +kernel
theorem dX6_sheet_24 : decode cX6_sheet 24 = .ok (.if_icmp .le 6, 3) := by decide +kernel
theorem dX6_sheet_27 : decode cX6_sheet 27 = .ok (.bipush (-2), 2) := by decide +kernel
theorem dX6_sheet_29 : decode cX6_sheet 29 = .ok (.ireturn, 1) := by decide +kernel
theorem dX6_sheet_30 : decode cX6_sheet 30 = .ok (.iload_n 3, 1) := by decide +kernel
theorem dX6_sheet_31 : decode cX6_sheet 31 = .ok (.ifCond .ge 9, 3) := by decide +kernel
theorem dX6_sheet_34 : decode cX6_sheet 34 = .ok (.aload_n 0, 1) := by decide +kernel
theorem dX6_sheet_35 : decode cX6_sheet 35 = .ok (.iconst 4, 1) := by decide +kernel
theorem dX6_sheet_36 : decode cX6_sheet 36 = .ok (.invokevirtual 58, 3) := by decide +kernel
theorem dX6_sheet_39 : decode cX6_sheet 39 = .ok (.ireturn, 1) := by decide +kernel
theorem dX6_sheet_40 : decode cX6_sheet 40 = .ok (.aload_n 0, 1) := by decide +kernel
theorem dX6_sheet_41 : decode cX6_sheet 41 = .ok (.getfield 13, 3) := by decide +kernel
theorem dX6_sheet_44 : decode cX6_sheet 44 = .ok (.iload_n 1, 1) := by decide +kernel
theorem dX6_sheet_45 : decode cX6_sheet 45 = .ok (.aaload, 1) := by decide +kernel
theorem dX6_sheet_46 : decode cX6_sheet 46 = .ok (.iload_n 2, 1) := by decide +kernel
theorem dX6_sheet_47 : decode cX6_sheet 47 = .ok (.iload_n 3, 1) := by decide +kernel
theorem dX6_sheet_48 : decode cX6_sheet 48 = .ok (.invokevirtual 198, 3) := by decide +kernel
theorem dX6_sheet_51 : decode cX6_sheet 51 = .ok (.iconst 1, 1) := by decide +kernel
theorem dX6_sheet_52 : decode cX6_sheet 52 = .ok (.ireturn, 1) := by decide +kernel
theorem dX6_lose_0 : decode cX6_lose 0 = .ok (.iload_n 1, 1) := by decide +kernel
theorem dX6_lose_1 : decode cX6_lose 1 = .ok (.invokestatic 47, 3) := by decide +kernel
theorem dX6_lose_4 : decode cX6_lose 4 = .ok (.ifCond .ne 5, 3) := by decide +kernel
theorem dX6_lose_7 : decode cX6_lose 7 = .ok (.iconst (-1), 1) := by decide +kernel
theorem dX6_lose_8 : decode cX6_lose 8 = .ok (.ireturn, 1) := by decide +kernel
theorem dX6_lose_9 : decode cX6_lose 9 = .ok (.aload_n 0, 1) := by decide +kernel
theorem dX6_lose_10 : decode cX6_lose 10 = .ok (.getfield 13, 3) := by decide +kernel
theorem dX6_lose_13 : decode cX6_lose 13 = .ok (.iload_n 1, 1) := by decide +kernel
theorem dX6_lose_14 : decode cX6_lose 14 = .ok (.aaload, 1) := by decide +kernel
theorem dX6_lose_15 : decode cX6_lose 15 = .ok (.getfield 202, 3) := by decide +kernel
theorem dX6_lose_18 : decode cX6_lose 18 = .ok (.ifCond .eq 7, 3) := by decide +kernel
theorem dX6_lose_21 : decode cX6_lose 21 = .ok (.iconst 1, 1) := by decide +kernel
theorem dX6_lose_22 : decode cX6_lose 22 = .ok (.goto 4, 3) := by decide +kernel
theorem dX6_lose_25 : decode cX6_lose 25 = .ok (.iconst 0, 1) := by decide +kernel
theorem dX6_lose_26 : decode cX6_lose 26 = .ok (.istore_n 2, 1) := by decide +kernel
theorem dX6_lose_27 : decode cX6_lose 27 = .ok (.aload_n 0, 1) := by decide +kernel
theorem dX6_lose_28 : decode cX6_lose 28 = .ok (.getfield 13, 3) := by decide +kernel
theorem dX6_lose_31 : decode cX6_lose 31 = .ok (.iload_n 1, 1) := by decide +kernel
theorem dX6_lose_32 : decode cX6_lose 32 = .ok (.aaload, 1) := by decide +kernel
theorem dX6_lose_33 : decode cX6_lose 33 = .ok (.iconst 0, 1) := by decide +kernel
theorem dX6_lose_34 : decode cX6_lose 34 = .ok (.putfield 202, 3) := by decide +kernel
theorem dX6_lose_37 : decode cX6_lose 37 = .ok (.iload_n 2, 1) := by decide +kernel
theorem dX6_lose_38 : decode cX6_lose 38 = .ok (.ireturn, 1) := by decide +kernel
theorem dX6_put_0 : decode cX6_put 0 = .ok (.aload_n 0, 1) := by decide +kernel
theorem dX6_put_1 : decode cX6_put 1 = .ok (.iconst 0, 1) := by decide +kernel
theorem dX6_put_2 : decode cX6_put 2 = .ok (.putfield 43, 3) := by decide +kernel
theorem dX6_put_5 : decode cX6_put 5 = .ok (.iload_n 1, 1) := by decide +kernel
theorem dX6_put_6 : decode cX6_put 6 = .ok (.invokestatic 47, 3) := by decide +kernel
theorem dX6_put_9 : decode cX6_put 9 = .ok (.ifCond .ne 5, 3) := by decide +kernel
theorem dX6_put_12 : decode cX6_put 12 = .ok (.iconst (-1), 1) := by decide +kernel
theorem dX6_put_13 : decode cX6_put 13 = .ok (.ireturn, 1) := by decide +kernel
theorem dX6_put_14 : decode cX6_put 14 = .ok (.aload_n 0, 1) := by decide +kernel
theorem dX6_put_15 : decode cX6_put 15 = .ok (.getfield 13, 3) := by decide +kernel
theorem dX6_put_18 : decode cX6_put 18 = .ok (.iload_n 1, 1) := by decide +kernel
theorem dX6_put_19 : decode cX6_put 19 = .ok (.aaload, 1) := by decide +kernel
theorem dX6_put_20 : decode cX6_put 20 = .ok (.astore 4, 2) := by decide +kernel
theorem dX6_put_22 : decode cX6_put 22 = .ok (.aload 4, 2) := by decide +kernel
theorem dX6_put_24 : decode cX6_put 24 = .ok (.aload 4, 2) := by decide +kernel
theorem dX6_put_26 : decode cX6_put 26 = .ok (.getfield 206, 3) := by decide +kernel
theorem dX6_put_29 : decode cX6_put 29 = .ok (.iload_n 2, 1) := by decide +kernel
theorem dX6_put_30 : decode cX6_put 30 = .ok (.iconst 1, 1) := by decide +kernel
theorem dX6_put_31 : decode cX6_put 31 = .ok (.invokevirtual 54, 3) := by decide +kernel
theorem dX6_put_34 : decode cX6_put 34 = .ok (.istore 5, 2) := by decide +kernel
theorem dX6_put_36 : decode cX6_put 36 = .ok (.iload 5, 2) := by decide +kernel
theorem dX6_put_38 : decode cX6_put 38 = .ok (.ifCond .eq 10, 3) := by decide +kernel
theorem dX6_put_41 : decode cX6_put 41 = .ok (.aload_n 0, 1) := by decide +kernel
theorem dX6_put_42 : decode cX6_put 42 = .ok (.iload 5, 2) := by decide +kernel
theorem dX6_put_44 : decode cX6_put 44 = .ok (.invokevirtual 58, 3) := by decide +kernel
theorem dX6_put_47 : decode cX6_put 47 = .ok (.ireturn, 1) := by decide +kernel
theorem dX6_put_48 : decode cX6_put 48 = .ok (.aload 4, 2) := by decide +kernel
theorem dX6_put_50 : decode cX6_put 50 = .ok (.getfield 62, 3) := by decide +kernel
theorem dX6_put_53 : decode cX6_put 53 = .ok (.iload_n 2, 1) := by decide +kernel
theorem dX6_put_54 : decode cX6_put 54 = .ok (.aload 4, 2) := by decide +kernel
theorem dX6_put_56 : decode cX6_put 56 = .ok (.iload_n 3, 1) := by decide +kernel
theorem dX6_put_57 : decode cX6_put 57 = .ok (.invokevirtual 209, 3) := by decide +kernel
theorem dX6_put_60 : decode cX6_put 60 = .ok (.iastore, 1) := by decide +kernel
theorem dX6_put_61 : decode cX6_put 61 = .ok (.iconst 1, 1) := by decide +kernel
theorem dX6_put_62 : decode cX6_put 62 = .ok (.ireturn, 1) := by decide +kernel
theorem dX6_cell_0 : decode cX6_cell 0 = .ok (.aload_n 0, 1) := by decide +kernel
theorem dX6_cell_1 : decode cX6_cell 1 = .ok (.iconst 0, 1) := by decide +kernel
theorem dX6_cell_2 : decode cX6_cell 2 = .ok (.putfield 43, 3) := by decide +kernel
theorem dX6_cell_5 : decode cX6_cell 5 = .ok (.iload_n 1, 1) := by decide +kernel
theorem dX6_cell_6 : decode cX6_cell 6 = .ok (.invokestatic 47, 3) := by decide +kernel
theorem dX6_cell_9 : decode cX6_cell 9 = .ok (.ifCond .eq 10, 3) := by decide +kernel
theorem dX6_cell_12 : decode cX6_cell 12 = .ok (.iload_n 3, 1) := by decide +kernel
theorem dX6_cell_13 : decode cX6_cell 13 = .ok (.invokestatic 51, 3) := by decide +kernel
theorem dX6_cell_16 : decode cX6_cell 16 = .ok (.ifCond .ne 7, 3) := by decide +kernel
theorem dX6_cell_19 : decode cX6_cell 19 = .ok (.ldc2_w 190, 3) := by decide +kernel
theorem dX6_cell_22 : decode cX6_cell 22 = .ok (.lreturn, 1) := by decide +kernel
theorem dX6_cell_23 : decode cX6_cell 23 = .ok (.aload_n 0, 1) := by decide +kernel
theorem dX6_cell_24 : decode cX6_cell 24 = .ok (.aload_n 0, 1) := by decide +kernel
theorem dX6_cell_25 : decode cX6_cell 25 = .ok (.getfield 13, 3) := by decide +kernel
theorem dX6_cell_28 : decode cX6_cell 28 = .ok (.iload_n 1, 1) := by decide +kernel
theorem dX6_cell_29 : decode cX6_cell 29 = .ok (.aaload, 1) := by decide +kernel
theorem dX6_cell_30 : decode cX6_cell 30 = .ok (.iload_n 3, 1) := by decide +kernel
theorem dX6_cell_31 : decode cX6_cell 31 = .ok (.iload_n 2, 1) := by decide +kernel
theorem dX6_cell_32 : decode cX6_cell 32 = .ok (.iconst 1, 1) := by decide +kernel
theorem dX6_cell_33 : decode cX6_cell 33 = .ok (.invokevirtual 54, 3) := by decide +kernel
theorem dX6_cell_36 : decode cX6_cell 36 = .ok (.putfield 43, 3) := by decide +kernel
theorem dX6_cell_39 : decode cX6_cell 39 = .ok (.aload_n 0, 1) := by decide +kernel
theorem dX6_cell_40 : decode cX6_cell 40 = .ok (.getfield 43, 3) := by decide +kernel
theorem dX6_cell_43 : decode cX6_cell 43 = .ok (.ifCond .ne 18, 3) := by decide +kernel
theorem dX6_cell_46 : decode cX6_cell 46 = .ok (.aload_n 0, 1) := by decide +kernel
theorem dX6_cell_47 : decode cX6_cell 47 = .ok (.getfield 13, 3) := by decide +kernel
theorem dX6_cell_50 : decode cX6_cell 50 = .ok (.iload_n 1, 1) := by decide +kernel
theorem dX6_cell_51 : decode cX6_cell 51 = .ok (.aaload, 1) := by decide +kernel
theorem dX6_cell_52 : decode cX6_cell 52 = .ok (.getfield 62, 3) := by decide +kernel
theorem dX6_cell_55 : decode cX6_cell 55 = .ok (.iload_n 2, 1) := by decide +kernel
theorem dX6_cell_56 : decode cX6_cell 56 = .ok (.iaload, 1) := by decide +kernel
theorem dX6_cell_57 : decode cX6_cell 57 = .ok (.i2l, 1) := by decide +kernel
theorem dX6_cell_58 : decode cX6_cell 58 = .ok (.goto 6, 3) := by decide +kernel
theorem dX6_cell_61 : decode cX6_cell 61 = .ok (.ldc2_w 190, 3) := by decide +kernel
theorem dX6_cell_64 : decode cX6_cell 64 = .ok (.lreturn, 1) := by decide +kernel
theorem dX6_copy_0 : decode cX6_copy 0 = .ok (.aload_n 0, 1) := by decide +kernel
theorem dX6_copy_1 : decode cX6_copy 1 = .ok (.iconst 0, 1) := by decide +kernel
theorem dX6_copy_2 : decode cX6_copy 2 = .ok (.putfield 43, 3) := by decide +kernel
theorem dX6_copy_5 : decode cX6_copy 5 = .ok (.iload_n 1, 1) := by decide +kernel
theorem dX6_copy_6 : decode cX6_copy 6 = .ok (.invokestatic 47, 3) := by decide +kernel
theorem dX6_copy_9 : decode cX6_copy 9 = .ok (.ifCond .eq 10, 3) := by decide +kernel
theorem dX6_copy_12 : decode cX6_copy 12 = .ok (.iload_n 3, 1) := by decide +kernel
theorem dX6_copy_13 : decode cX6_copy 13 = .ok (.invokestatic 47, 3) := by decide +kernel
theorem dX6_copy_16 : decode cX6_copy 16 = .ok (.ifCond .ne 5, 3) := by decide +kernel
theorem dX6_copy_19 : decode cX6_copy 19 = .ok (.iconst (-1), 1) := by decide +kernel
theorem dX6_copy_20 : decode cX6_copy 20 = .ok (.ireturn, 1) := by decide +kernel
theorem dX6_copy_21 : decode cX6_copy 21 = .ok (.aload_n 0, 1) := by decide +kernel
theorem dX6_copy_22 : decode cX6_copy 22 = .ok (.getfield 13, 3) := by decide +kernel
theorem dX6_copy_25 : decode cX6_copy 25 = .ok (.iload_n 1, 1) := by decide +kernel
theorem dX6_copy_26 : decode cX6_copy 26 = .ok (.aaload, 1) := by decide +kernel
theorem dX6_copy_27 : decode cX6_copy 27 = .ok (.astore 6, 2) := by decide +kernel
theorem dX6_copy_29 : decode cX6_copy 29 = .ok (.aload_n 0, 1) := by decide +kernel
theorem dX6_copy_30 : decode cX6_copy 30 = .ok (.getfield 13, 3) := by decide +kernel
theorem dX6_copy_33 : decode cX6_copy 33 = .ok (.iload_n 3, 1) := by decide +kernel
theorem dX6_copy_34 : decode cX6_copy 34 = .ok (.aaload, 1) := by decide +kernel
theorem dX6_copy_35 : decode cX6_copy 35 = .ok (.astore 7, 2) := by decide +kernel
theorem dX6_copy_37 : decode cX6_copy 37 = .ok (.aload 6, 2) := by decide +kernel
theorem dX6_copy_39 : decode cX6_copy 39 = .ok (.getfield 202, 3) := by decide +kernel
theorem dX6_copy_42 : decode cX6_copy 42 = .ok (.ifCond .eq 11, 3) := by decide +kernel
theorem dX6_copy_45 : decode cX6_copy 45 = .ok (.aload 7, 2) := by decide +kernel
theorem dX6_copy_47 : decode cX6_copy 47 = .ok (.getfield 202, 3) := by decide +kernel
theorem dX6_copy_50 : decode cX6_copy 50 = .ok (.ifCond .ne 9, 3) := by decide +kernel
theorem dX6_copy_53 : decode cX6_copy 53 = .ok (.aload_n 0, 1) := by decide +kernel
theorem dX6_copy_54 : decode cX6_copy 54 = .ok (.iconst 1, 1) := by decide +kernel
theorem dX6_copy_55 : decode cX6_copy 55 = .ok (.invokevirtual 58, 3) := by decide +kernel
theorem dX6_copy_58 : decode cX6_copy 58 = .ok (.ireturn, 1) := by decide +kernel
theorem dX6_copy_59 : decode cX6_copy 59 = .ok (.aload 6, 2) := by decide +kernel
theorem dX6_copy_61 : decode cX6_copy 61 = .ok (.getfield 206, 3) := by decide +kernel
theorem dX6_copy_64 : decode cX6_copy 64 = .ok (.aload 7, 2) := by decide +kernel
theorem dX6_copy_66 : decode cX6_copy 66 = .ok (.getfield 206, 3) := by decide +kernel
theorem dX6_copy_69 : decode cX6_copy 69 = .ok (.if_icmp .eq 9, 3) := by decide +kernel
theorem dX6_copy_72 : decode cX6_copy 72 = .ok (.aload_n 0, 1) := by decide +kernel
theorem dX6_copy_73 : decode cX6_copy 73 = .ok (.iconst 2, 1) := by decide +kernel
theorem dX6_copy_74 : decode cX6_copy 74 = .ok (.invokevirtual 58, 3) := by decide +kernel
theorem dX6_copy_77 : decode cX6_copy 77 = .ok (.ireturn, 1) := by decide +kernel
theorem dX6_copy_78 : decode cX6_copy 78 = .ok (.aload 6, 2) := by decide +kernel
theorem dX6_copy_80 : decode cX6_copy 80 = .ok (.iload_n 2, 1) := by decide +kernel
theorem dX6_copy_81 : decode cX6_copy 81 = .ok (.iload 5, 2) := by decide +kernel
theorem dX6_copy_83 : decode cX6_copy 83 = .ok (.invokevirtual 212, 3) := by decide +kernel
theorem dX6_copy_86 : decode cX6_copy 86 = .ok (.ifCond .eq 15, 3) := by decide +kernel
theorem dX6_copy_89 : decode cX6_copy 89 = .ok (.aload 7, 2) := by decide +kernel
theorem dX6_copy_91 : decode cX6_copy 91 = .ok (.iload 4, 2) := by decide +kernel
theorem dX6_copy_93 : decode cX6_copy 93 = .ok (.iload 5, 2) := by decide +kernel
theorem dX6_copy_95 : decode cX6_copy 95 = .ok (.invokevirtual 212, 3) := by decide +kernel
theorem dX6_copy_98 : decode cX6_copy 98 = .ok (.ifCond .ne 9, 3) := by decide +kernel
theorem dX6_copy_101 : decode cX6_copy 101 = .ok (.aload_n 0, 1) := by decide +kernel
theorem dX6_copy_102 : decode cX6_copy 102 = .ok (.iconst 3, 1) := by decide +kernel
theorem dX6_copy_103 : decode cX6_copy 103 = .ok (.invokevirtual 58, 3) := by decide +kernel
theorem dX6_copy_106 : decode cX6_copy 106 = .ok (.ireturn, 1) := by decide +kernel
theorem dX6_copy_107 : decode cX6_copy 107 = .ok (.aload 6, 2) := by decide +kernel
theorem dX6_copy_109 : decode cX6_copy 109 = .ok (.getfield 62, 3) := by decide +kernel
theorem dX6_copy_112 : decode cX6_copy 112 = .ok (.iload_n 2, 1) := by decide +kernel
theorem dX6_copy_113 : decode cX6_copy 113 = .ok (.aload 7, 2) := by decide +kernel
theorem dX6_copy_115 : decode cX6_copy 115 = .ok (.getfield 62, 3) := by decide +kernel
theorem dX6_copy_118 : decode cX6_copy 118 = .ok (.iload 4, 2) := by decide +kernel
theorem dX6_copy_120 : decode cX6_copy 120 = .ok (.iload 5, 2) := by decide +kernel
theorem dX6_copy_122 : decode cX6_copy 122 = .ok (.invokestatic 215, 3) := by decide +kernel
theorem dX6_copy_125 : decode cX6_copy 125 = .ok (.iload 5, 2) := by decide +kernel
theorem dX6_copy_127 : decode cX6_copy 127 = .ok (.ireturn, 1) := by decide +kernel
theorem dX6_tell_0 : decode cX6_tell 0 = .ok (.aload_n 0, 1) := by decide +kernel
theorem dX6_tell_1 : decode cX6_tell 1 = .ok (.getfield 21, 3) := by decide +kernel
theorem dX6_tell_4 : decode cX6_tell 4 = .ok (.iload_n 1, 1) := by decide +kernel
theorem dX6_tell_5 : decode cX6_tell 5 = .ok (.invokevirtual 79, 3) := by decide +kernel
theorem dX6_tell_8 : decode cX6_tell 8 = .ok (.ifCond .ne 5, 3) := by decide +kernel
theorem dX6_tell_11 : decode cX6_tell 11 = .ok (.iconst (-1), 1) := by decide +kernel
theorem dX6_tell_12 : decode cX6_tell 12 = .ok (.ireturn, 1) := by decide +kernel
theorem dX6_tell_13 : decode cX6_tell 13 = .ok (.aload_n 0, 1) := by decide +kernel
theorem dX6_tell_14 : decode cX6_tell 14 = .ok (.getfield 21, 3) := by decide +kernel
theorem dX6_tell_17 : decode cX6_tell 17 = .ok (.getfield 82, 3) := by decide +kernel
theorem dX6_tell_20 : decode cX6_tell 20 = .ok (.iload_n 1, 1) := by decide +kernel
theorem dX6_tell_21 : decode cX6_tell 21 = .ok (.aaload, 1) := by decide +kernel
theorem dX6_tell_22 : decode cX6_tell 22 = .ok (.astore_n 2, 1) := by decide +kernel
theorem dX6_tell_23 : decode cX6_tell 23 = .ok (.aload_n 2, 1) := by decide +kernel
theorem dX6_tell_24 : decode cX6_tell 24 = .ok (.getfield 86, 3) := by decide +kernel
theorem dX6_tell_27 : decode cX6_tell 27 = .ok (.iconst 2, 1) := by decide +kernel
theorem dX6_tell_28 : decode cX6_tell 28 = .ok (.if_icmp .ne 9, 3) := by decide +kernel
theorem dX6_tell_31 : decode cX6_tell 31 = .ok (.aload_n 0, 1) := by decide +kernel
theorem dX6_tell_32 : decode cX6_tell 32 = .ok (.aload_n 2, 1) := by decide +kernel
theorem dX6_tell_33 : decode cX6_tell 33 = .ok (.invokevirtual 221, 3) := by decide +kernel
theorem dX6_tell_36 : decode cX6_tell 36 = .ok (.ireturn, 1) := by decide +kernel
theorem dX6_tell_37 : decode cX6_tell 37 = .ok (.aload_n 2, 1) := by decide +kernel
theorem dX6_tell_38 : decode cX6_tell 38 = .ok (.getfield 86, 3) := by decide +kernel
theorem dX6_tell_41 : decode cX6_tell 41 = .ok (.iconst 1, 1) := by decide +kernel
theorem dX6_tell_42 : decode cX6_tell 42 = .ok (.if_icmp .ne 11, 3) := by decide +kernel
theorem dX6_tell_45 : decode cX6_tell 45 = .ok (.aload_n 0, 1) := by decide +kernel
theorem dX6_tell_46 : decode cX6_tell 46 = .ok (.aload_n 2, 1) := by decide +kernel
theorem dX6_tell_47 : decode cX6_tell 47 = .ok (.invokevirtual 225, 3) := by decide +kernel
theorem dX6_tell_50 : decode cX6_tell 50 = .ok (.goto 8, 3) := by decide +kernel
theorem dX6_tell_53 : decode cX6_tell 53 = .ok (.aload_n 0, 1) := by decide +kernel
theorem dX6_tell_54 : decode cX6_tell 54 = .ok (.aload_n 2, 1) := by decide +kernel
theorem dX6_tell_55 : decode cX6_tell 55 = .ok (.invokevirtual 228, 3) := by decide +kernel
theorem dX6_tell_58 : decode cX6_tell 58 = .ok (.ireturn, 1) := by decide +kernel
theorem dX6_label_0 : decode cX6_label 0 = .ok (.aload_n 0, 1) := by decide +kernel
theorem dX6_label_1 : decode cX6_label 1 = .ok (.getfield 21, 3) := by decide +kernel
theorem dX6_label_4 : decode cX6_label 4 = .ok (.iload_n 1, 1) := by decide +kernel
theorem dX6_label_5 : decode cX6_label 5 = .ok (.invokevirtual 79, 3) := by decide +kernel
theorem dX6_label_8 : decode cX6_label 8 = .ok (.ifCond .ne 5, 3) := by decide +kernel
theorem dX6_label_11 : decode cX6_label 11 = .ok (.iconst (-1), 1) := by decide +kernel
theorem dX6_label_12 : decode cX6_label 12 = .ok (.ireturn, 1) := by decide +kernel
theorem dX6_label_13 : decode cX6_label 13 = .ok (.aload_n 0, 1) := by decide +kernel
theorem dX6_label_14 : decode cX6_label 14 = .ok (.getfield 21, 3) := by decide +kernel
theorem dX6_label_17 : decode cX6_label 17 = .ok (.getfield 82, 3) := by decide +kernel
theorem dX6_label_20 : decode cX6_label 20 = .ok (.iload_n 1, 1) := by decide +kernel
theorem dX6_label_21 : decode cX6_label 21 = .ok (.aaload, 1) := by decide +kernel
theorem dX6_label_22 : decode cX6_label 22 = .ok (.getfield 86, 3) := by decide +kernel
theorem dX6_label_25 : decode cX6_label 25 = .ok (.iconst 2, 1) := by decide +kernel
theorem dX6_label_26 : decode cX6_label 26 = .ok (.if_icmp .ne 11, 3) := by decide +kernel
theorem dX6_label_29 : decode cX6_label 29 = .ok (.aload_n 0, 1) := by decide +kernel
theorem dX6_label_30 : decode cX6_label 30 = .ok (.iconst 5, 1) := by decide +kernel
theorem dX6_label_31 : decode cX6_label 31 = .ok (.invokevirtual 231, 3) := by decide +kernel
theorem dX6_label_34 : decode cX6_label 34 = .ok (.bipush 70, 2) := by decide +kernel
theorem dX6_label_36 : decode cX6_label 36 = .ok (.ireturn, 1) := by decide +kernel
theorem dX6_label_37 : decode cX6_label 37 = .ok (.aload_n 0, 1) := by decide +kernel
theorem dX6_label_38 : decode cX6_label 38 = .ok (.iconst 4, 1) := by decide +kernel
theorem dX6_label_39 : decode cX6_label 39 = .ok (.invokevirtual 231, 3) := by decide +kernel
theorem dX6_label_42 : decode cX6_label 42 = .ok (.iload_n 1, 1) := by decide +kernel
theorem dX6_label_43 : decode cX6_label 43 = .ok (.ireturn, 1) := by decide +kernel
theorem dX6_as_0 : decode cX6_as 0 = .ok (.aload_n 0, 1) := by decide +kernel
theorem dX6_as_1 : decode cX6_as 1 = .ok (.iconst 0, 1) := by decide +kernel
theorem dX6_as_2 : decode cX6_as 2 = .ok (.putfield 43, 3) := by decide +kernel
theorem dX6_as_5 : decode cX6_as 5 = .ok (.aload_n 0, 1) := by decide +kernel
theorem dX6_as_6 : decode cX6_as 6 = .ok (.getfield 21, 3) := by decide +kernel
theorem dX6_as_9 : decode cX6_as 9 = .ok (.iload_n 1, 1) := by decide +kernel
theorem dX6_as_10 : decode cX6_as 10 = .ok (.invokevirtual 79, 3) := by decide +kernel
theorem dX6_as_13 : decode cX6_as 13 = .ok (.ifCond .ne 5, 3) := by decide +kernel
theorem dX6_as_16 : decode cX6_as 16 = .ok (.iconst (-1), 1) := by decide +kernel
theorem dX6_as_17 : decode cX6_as 17 = .ok (.ireturn, 1) := by decide +kernel
theorem dX6_as_18 : decode cX6_as 18 = .ok (.iload_n 2, 1) := by decide +kernel
theorem dX6_as_19 : decode cX6_as 19 = .ok (.ifCond .lt 8, 3) := by decide +kernel
theorem dX6_as_22 : decode cX6_as 22 = .ok (.iload_n 2, 1) := by decide +kernel
theorem dX6_as_23 : decode cX6_as 23 = .ok (.iconst 3, 1) := by decide +kernel
theorem dX6_as_24 : decode cX6_as 24 = .ok (.if_icmp .lt 6, 3) := by decide +kernel
theorem dX6_as_27 : decode cX6_as 27 = .ok (.bipush (-2), 2) := by decide +kernel
theorem dX6_as_29 : decode cX6_as 29 = .ok (.ireturn, 1) := by decide +kernel
theorem dX6_as_30 : decode cX6_as 30 = .ok (.aload_n 0, 1) := by decide +kernel
theorem dX6_as_31 : decode cX6_as 31 = .ok (.getfield 21, 3) := by decide +kernel
theorem dX6_as_34 : decode cX6_as 34 = .ok (.getfield 82, 3) := by decide +kernel
theorem dX6_as_37 : decode cX6_as 37 = .ok (.iload_n 1, 1) := by decide +kernel
theorem dX6_as_38 : decode cX6_as 38 = .ok (.aaload, 1) := by decide +kernel
theorem dX6_as_39 : decode cX6_as 39 = .ok (.getfield 86, 3) := by decide +kernel
theorem dX6_as_42 : decode cX6_as 42 = .ok (.iload_n 2, 1) := by decide +kernel
theorem dX6_as_43 : decode cX6_as 43 = .ok (.if_icmp .lt 7, 3) := by decide +kernel
theorem dX6_as_46 : decode cX6_as 46 = .ok (.iconst 1, 1) := by decide +kernel
theorem dX6_as_47 : decode cX6_as 47 = .ok (.goto 8, 3) := by decide +kernel
theorem dX6_as_50 : decode cX6_as 50 = .ok (.aload_n 0, 1) := by decide +kernel
theorem dX6_as_51 : decode cX6_as 51 = .ok (.iconst 2, 1) := by decide +kernel
theorem dX6_as_52 : decode cX6_as 52 = .ok (.invokevirtual 58, 3) := by decide +kernel
theorem dX6_as_55 : decode cX6_as 55 = .ok (.ireturn, 1) := by decide +kernel
theorem dX6_trace_0 : decode cX6_trace 0 = .ok (.aload_n 0, 1) := by decide +kernel
theorem dX6_trace_1 : decode cX6_trace 1 = .ok (.getfield 234, 3) := by decide +kernel
theorem dX6_trace_4 : decode cX6_trace 4 = .ok (.ireturn, 1) := by decide +kernel
theorem dX6_fault_0 : decode cX6_fault 0 = .ok (.aload_n 0, 1) := by decide +kernel
theorem dX6_fault_1 : decode cX6_fault 1 = .ok (.getfield 43, 3) := by decide +kernel
theorem dX6_fault_4 : decode cX6_fault 4 = .ok (.ireturn, 1) := by decide +kernel
theorem dX6_many_0 : decode cX6_many 0 = .ok (.iload_n 1, 1) := by decide +kernel
theorem dX6_many_1 : decode cX6_many 1 = .ok (.tableswitch 63 0 3 #[31, 39, 47, 55], 31) := by decide +kernel
theorem dX6_many_32 : decode cX6_many 32 = .ok (.aload_n 0, 1) := by decide +kernel
theorem dX6_many_33 : decode cX6_many 33 = .ok (.getfield 21, 3) := by decide +kernel
theorem dX6_many_36 : decode cX6_many 36 = .ok (.getfield 78, 3) := by decide +kernel
theorem dX6_many_39 : decode cX6_many 39 = .ok (.ireturn, 1) := by decide +kernel
theorem dX6_many_40 : decode cX6_many 40 = .ok (.aload_n 0, 1) := by decide +kernel
theorem dX6_many_41 : decode cX6_many 41 = .ok (.getfield 21, 3) := by decide +kernel
theorem dX6_many_44 : decode cX6_many 44 = .ok (.getfield 111, 3) := by decide +kernel
theorem dX6_many_47 : decode cX6_many 47 = .ok (.ireturn, 1) := by decide +kernel
theorem dX6_many_48 : decode cX6_many 48 = .ok (.aload_n 0, 1) := by decide +kernel
theorem dX6_many_49 : decode cX6_many 49 = .ok (.getfield 21, 3) := by decide +kernel
theorem dX6_many_52 : decode cX6_many 52 = .ok (.getfield 114, 3) := by decide +kernel
theorem dX6_many_55 : decode cX6_many 55 = .ok (.ireturn, 1) := by decide +kernel
theorem dX6_many_56 : decode cX6_many 56 = .ok (.aload_n 0, 1) := by decide +kernel
theorem dX6_many_57 : decode cX6_many 57 = .ok (.getfield 28, 3) := by decide +kernel
theorem dX6_many_60 : decode cX6_many 60 = .ok (.getfield 75, 3) := by decide +kernel
theorem dX6_many_63 : decode cX6_many 63 = .ok (.ireturn, 1) := by decide +kernel
theorem dX6_many_64 : decode cX6_many 64 = .ok (.bipush (-2), 2) := by decide +kernel
theorem dX6_many_66 : decode cX6_many 66 = .ok (.ireturn, 1) := by decide +kernel
theorem dX6_isSheet_0 : decode cX6_isSheet 0 = .ok (.iload_n 0, 1) := by decide +kernel
theorem dX6_isSheet_1 : decode cX6_isSheet 1 = .ok (.ifCond .lt 12, 3) := by decide +kernel
theorem dX6_isSheet_4 : decode cX6_isSheet 4 = .ok (.iload_n 0, 1) := by decide +kernel
theorem dX6_isSheet_5 : decode cX6_isSheet 5 = .ok (.iconst 4, 1) := by decide +kernel
theorem dX6_isSheet_6 : decode cX6_isSheet 6 = .ok (.if_icmp .ge 7, 3) := by decide +kernel
theorem dX6_isSheet_9 : decode cX6_isSheet 9 = .ok (.iconst 1, 1) := by decide +kernel
theorem dX6_isSheet_10 : decode cX6_isSheet 10 = .ok (.goto 4, 3) := by decide +kernel
theorem dX6_isSheet_13 : decode cX6_isSheet 13 = .ok (.iconst 0, 1) := by decide +kernel
theorem dX6_isSheet_14 : decode cX6_isSheet 14 = .ok (.ireturn, 1) := by decide +kernel
theorem dX6_isLane_0 : decode cX6_isLane 0 = .ok (.iload_n 0, 1) := by decide +kernel
theorem dX6_isLane_1 : decode cX6_isLane 1 = .ok (.ifCond .lt 12, 3) := by decide +kernel
theorem dX6_isLane_4 : decode cX6_isLane 4 = .ok (.iload_n 0, 1) := by decide +kernel
theorem dX6_isLane_5 : decode cX6_isLane 5 = .ok (.iconst 3, 1) := by decide +kernel
theorem dX6_isLane_6 : decode cX6_isLane 6 = .ok (.if_icmp .ge 7, 3) := by decide +kernel
theorem dX6_isLane_9 : decode cX6_isLane 9 = .ok (.iconst 1, 1) := by decide +kernel
theorem dX6_isLane_10 : decode cX6_isLane 10 = .ok (.goto 4, 3) := by decide +kernel
theorem dX6_isLane_13 : decode cX6_isLane 13 = .ok (.iconst 0, 1) := by decide +kernel
theorem dX6_isLane_14 : decode cX6_isLane 14 = .ok (.ireturn, 1) := by decide +kernel
theorem dX6_isHour_0 : decode cX6_isHour 0 = .ok (.iload_n 0, 1) := by decide +kernel
theorem dX6_isHour_1 : decode cX6_isHour 1 = .ok (.ifCond .lt 13, 3) := by decide +kernel
theorem dX6_isHour_4 : decode cX6_isHour 4 = .ok (.iload_n 0, 1) := by decide +kernel
theorem dX6_isHour_5 : decode cX6_isHour 5 = .ok (.bipush 6, 2) := by decide +kernel
theorem dX6_isHour_7 : decode cX6_isHour 7 = .ok (.if_icmp .ge 7, 3) := by decide +kernel
theorem dX6_isHour_10 : decode cX6_isHour 10 = .ok (.iconst 1, 1) := by decide +kernel
theorem dX6_isHour_11 : decode cX6_isHour 11 = .ok (.goto 4, 3) := by decide +kernel
theorem dX6_isHour_14 : decode cX6_isHour 14 = .ok (.iconst 0, 1) := by decide +kernel
theorem dX6_isHour_15 : decode cX6_isHour 15 = .ok (.ireturn, 1) := by decide +kernel
theorem dX6_isIn_0 : decode cX6_isIn 0 = .ok (.iload_n 0, 1) := by decide +kernel
theorem dX6_isIn_1 : decode cX6_isIn 1 = .ok (.iload_n 1, 1) := by decide +kernel
theorem dX6_isIn_2 : decode cX6_isIn 2 = .ok (.ishr, 1) := by decide +kernel
theorem dX6_isIn_3 : decode cX6_isIn 3 = .ok (.iconst 1, 1) := by decide +kernel
theorem dX6_isIn_4 : decode cX6_isIn 4 = .ok (.iand, 1) := by decide +kernel
theorem dX6_isIn_5 : decode cX6_isIn 5 = .ok (.ifCond .eq 7, 3) := by decide +kernel
theorem dX6_isIn_8 : decode cX6_isIn 8 = .ok (.iconst 1, 1) := by decide +kernel
theorem dX6_isIn_9 : decode cX6_isIn 9 = .ok (.goto 4, 3) := by decide +kernel
theorem dX6_isIn_12 : decode cX6_isIn 12 = .ok (.iconst 0, 1) := by decide +kernel
theorem dX6_isIn_13 : decode cX6_isIn 13 = .ok (.ireturn, 1) := by decide +kernel
theorem dX6_answerFault_0 : decode cX6_answerFault 0 = .ok (.aload_n 0, 1) := by decide +kernel
theorem dX6_answerFault_1 : decode cX6_answerFault 1 = .ok (.iload_n 1, 1) := by decide +kernel
theorem dX6_answerFault_2 : decode cX6_answerFault 2 = .ok (.putfield 43, 3) := by decide +kernel
theorem dX6_answerFault_5 : decode cX6_answerFault 5 = .ok (.bipush (-10), 2) := by decide +kernel
theorem dX6_answerFault_7 : decode cX6_answerFault 7 = .ok (.iload_n 1, 1) := by decide +kernel
theorem dX6_answerFault_8 : decode cX6_answerFault 8 = .ok (.isub, 1) := by decide +kernel
theorem dX6_answerFault_9 : decode cX6_answerFault 9 = .ok (.ireturn, 1) := by decide +kernel
theorem dX6_hearRound_0 : decode cX6_hearRound 0 = .ok (.aload_n 0, 1) := by decide +kernel
theorem dX6_hearRound_1 : decode cX6_hearRound 1 = .ok (.iconst 0, 1) := by decide +kernel
theorem dX6_hearRound_2 : decode cX6_hearRound 2 = .ok (.putfield 43, 3) := by decide +kernel
theorem dX6_hearRound_5 : decode cX6_hearRound 5 = .ok (.iload_n 1, 1) := by decide +kernel
theorem dX6_hearRound_6 : decode cX6_hearRound 6 = .ok (.invokestatic 47, 3) := by decide +kernel
theorem dX6_hearRound_9 : decode cX6_hearRound 9 = .ok (.ifCond .ne 5, 3) := by decide +kernel
theorem dX6_hearRound_12 : decode cX6_hearRound 12 = .ok (.iconst (-1), 1) := by decide +kernel
theorem dX6_hearRound_13 : decode cX6_hearRound 13 = .ok (.ireturn, 1) := by decide +kernel
theorem dX6_hearRound_14 : decode cX6_hearRound 14 = .ok (.iload_n 2, 1) := by decide +kernel
theorem dX6_hearRound_15 : decode cX6_hearRound 15 = .ok (.invokestatic 51, 3) := by decide +kernel
theorem dX6_hearRound_18 : decode cX6_hearRound 18 = .ok (.ifCond .eq 8, 3) := by decide +kernel
theorem dX6_hearRound_21 : decode cX6_hearRound 21 = .ok (.iload 4, 2) := by decide +kernel
theorem dX6_hearRound_23 : decode cX6_hearRound 23 = .ok (.ifCond .ne 6, 3) := by decide +kernel
theorem dX6_hearRound_26 : decode cX6_hearRound 26 = .ok (.bipush (-2), 2) := by decide +kernel
theorem dX6_hearRound_28 : decode cX6_hearRound 28 = .ok (.ireturn, 1) := by decide +kernel
theorem dX6_hearRound_29 : decode cX6_hearRound 29 = .ok (.aload_n 0, 1) := by decide +kernel
theorem dX6_hearRound_30 : decode cX6_hearRound 30 = .ok (.getfield 21, 3) := by decide +kernel
theorem dX6_hearRound_33 : decode cX6_hearRound 33 = .ok (.invokevirtual 107, 3) := by decide +kernel
theorem dX6_hearRound_36 : decode cX6_hearRound 36 = .ok (.ifCond .ne 6, 3) := by decide +kernel
theorem dX6_hearRound_39 : decode cX6_hearRound 39 = .ok (.bipush (-3), 2) := by decide +kernel
theorem dX6_hearRound_41 : decode cX6_hearRound 41 = .ok (.ireturn, 1) := by decide +kernel
theorem dX6_hearRound_42 : decode cX6_hearRound 42 = .ok (.aload_n 0, 1) := by decide +kernel
theorem dX6_hearRound_43 : decode cX6_hearRound 43 = .ok (.getfield 13, 3) := by decide +kernel
theorem dX6_hearRound_46 : decode cX6_hearRound 46 = .ok (.iload_n 1, 1) := by decide +kernel
theorem dX6_hearRound_47 : decode cX6_hearRound 47 = .ok (.aaload, 1) := by decide +kernel
theorem dX6_hearRound_48 : decode cX6_hearRound 48 = .ok (.astore 5, 2) := by decide +kernel
theorem dX6_hearRound_50 : decode cX6_hearRound 50 = .ok (.aload 5, 2) := by decide +kernel
theorem dX6_hearRound_52 : decode cX6_hearRound 52 = .ok (.iload_n 2, 1) := by decide +kernel
theorem dX6_hearRound_53 : decode cX6_hearRound 53 = .ok (.iload_n 3, 1) := by decide +kernel
theorem dX6_hearRound_54 : decode cX6_hearRound 54 = .ok (.bipush 6, 2) := by decide +kernel
theorem dX6_hearRound_56 : decode cX6_hearRound 56 = .ok (.invokevirtual 54, 3) := by decide +kernel
theorem dX6_hearRound_59 : decode cX6_hearRound 59 = .ok (.istore 6, 2) := by decide +kernel
theorem dX6_hearRound_61 : decode cX6_hearRound 61 = .ok (.iload 6, 2) := by decide +kernel
theorem dX6_hearRound_63 : decode cX6_hearRound 63 = .ok (.ifCond .eq 10, 3) := by decide +kernel
theorem dX6_hearRound_66 : decode cX6_hearRound 66 = .ok (.aload_n 0, 1) := by decide +kernel
theorem dX6_hearRound_67 : decode cX6_hearRound 67 = .ok (.iload 6, 2) := by decide +kernel
theorem dX6_hearRound_69 : decode cX6_hearRound 69 = .ok (.invokevirtual 58, 3) := by decide +kernel
theorem dX6_hearRound_72 : decode cX6_hearRound 72 = .ok (.ireturn, 1) := by decide +kernel
theorem dX6_hearRound_73 : decode cX6_hearRound 73 = .ok (.iconst 0, 1) := by decide +kernel
theorem dX6_hearRound_74 : decode cX6_hearRound 74 = .ok (.istore 7, 2) := by decide +kernel
theorem dX6_hearRound_76 : decode cX6_hearRound 76 = .ok (.iload 7, 2) := by decide +kernel
theorem dX6_hearRound_78 : decode cX6_hearRound 78 = .ok (.bipush 6, 2) := by decide +kernel
theorem dX6_hearRound_80 : decode cX6_hearRound 80 = .ok (.if_icmp .ge 57, 3) := by decide +kernel
theorem dX6_hearRound_83 : decode cX6_hearRound 83 = .ok (.aload_n 0, 1) := by decide +kernel
theorem dX6_hearRound_84 : decode cX6_hearRound 84 = .ok (.getfield 39, 3) := by decide +kernel
theorem dX6_hearRound_87 : decode cX6_hearRound 87 = .ok (.iload 7, 2) := by decide +kernel
theorem dX6_hearRound_89 : decode cX6_hearRound 89 = .ok (.aload 5, 2) := by decide +kernel
theorem dX6_hearRound_91 : decode cX6_hearRound 91 = .ok (.getfield 62, 3) := by decide +kernel
theorem dX6_hearRound_94 : decode cX6_hearRound 94 = .ok (.iload_n 3, 1) := by decide +kernel
theorem dX6_hearRound_95 : decode cX6_hearRound 95 = .ok (.iload 7, 2) := by decide +kernel
theorem dX6_hearRound_97 : decode cX6_hearRound 97 = .ok (.iadd, 1) := by decide +kernel
theorem dX6_hearRound_98 : decode cX6_hearRound 98 = .ok (.iaload, 1) := by decide +kernel
theorem dX6_hearRound_99 : decode cX6_hearRound 99 = .ok (.iastore, 1) := by decide +kernel
theorem dX6_hearRound_100 : decode cX6_hearRound 100 = .ok (.aload_n 0, 1) := by decide +kernel
theorem dX6_hearRound_101 : decode cX6_hearRound 101 = .ok (.getfield 39, 3) := by decide +kernel
theorem dX6_hearRound_104 : decode cX6_hearRound 104 = .ok (.iload 7, 2) := by decide +kernel
theorem dX6_hearRound_106 : decode cX6_hearRound 106 = .ok (.iaload, 1) := by decide +kernel
theorem dX6_hearRound_107 : decode cX6_hearRound 107 = .ok (.bipush (-9), 2) := by decide +kernel
theorem dX6_hearRound_109 : decode cX6_hearRound 109 = .ok (.if_icmp .eq 22, 3) := by decide +kernel
theorem dX6_hearRound_112 : decode cX6_hearRound 112 = .ok (.aload_n 0, 1) := by decide +kernel
theorem dX6_hearRound_113 : decode cX6_hearRound 113 = .ok (.getfield 21, 3) := by decide +kernel
theorem dX6_hearRound_116 : decode cX6_hearRound 116 = .ok (.aload_n 0, 1) := by decide +kernel
theorem dX6_hearRound_117 : decode cX6_hearRound 117 = .ok (.getfield 39, 3) := by decide +kernel
theorem dX6_hearRound_120 : decode cX6_hearRound 120 = .ok (.iload 7, 2) := by decide +kernel
theorem dX6_hearRound_122 : decode cX6_hearRound 122 = .ok (.iaload, 1) := by decide +kernel
theorem dX6_hearRound_123 : decode cX6_hearRound 123 = .ok (.invokevirtual 79, 3) := by decide +kernel
theorem dX6_hearRound_126 : decode cX6_hearRound 126 = .ok (.ifCond .ne 5, 3) := by decide +kernel
theorem dX6_hearRound_129 : decode cX6_hearRound 129 = .ok (.iconst (-1), 1) := by decide +kernel
theorem dX6_hearRound_130 : decode cX6_hearRound 130 = .ok (.ireturn, 1) := by decide +kernel
theorem dX6_hearRound_131 : decode cX6_hearRound 131 = .ok (.iinc 7 1, 3) := by decide +kernel
theorem dX6_hearRound_134 : decode cX6_hearRound 134 = .ok (.goto (-58), 3) := by decide +kernel
theorem dX6_hearRound_137 : decode cX6_hearRound 137 = .ok (.iconst 0, 1) := by decide +kernel
theorem dX6_hearRound_138 : decode cX6_hearRound 138 = .ok (.ireturn, 1) := by decide +kernel
theorem dX6_searchBest_0 : decode cX6_searchBest 0 = .ok (.aload_n 0, 1) := by decide +kernel
theorem dX6_searchBest_1 : decode cX6_searchBest 1 = .ok (.getfield 35, 3) := by decide +kernel
theorem dX6_searchBest_4 : decode cX6_searchBest 4 = .ok (.invokevirtual 145, 3) := by decide +kernel
theorem dX6_searchBest_7 : decode cX6_searchBest 7 = .ok (.aload_n 0, 1) := by decide +kernel
theorem dX6_searchBest_8 : decode cX6_searchBest 8 = .ok (.getfield 35, 3) := by decide +kernel
theorem dX6_searchBest_11 : decode cX6_searchBest 11 = .ok (.iload_n 1, 1) := by decide +kernel
theorem dX6_searchBest_12 : decode cX6_searchBest 12 = .ok (.putfield 237, 3) := by decide +kernel
theorem dX6_searchBest_15 : decode cX6_searchBest 15 = .ok (.aload_n 0, 1) := by decide +kernel
theorem dX6_searchBest_16 : decode cX6_searchBest 16 = .ok (.getfield 35, 3) := by decide +kernel
theorem dX6_searchBest_19 : decode cX6_searchBest 19 = .ok (.aload_n 0, 1) := by decide +kernel
theorem dX6_searchBest_20 : decode cX6_searchBest 20 = .ok (.getfield 21, 3) := by decide +kernel
theorem dX6_searchBest_23 : decode cX6_searchBest 23 = .ok (.iconst 0, 1) := by decide +kernel
theorem dX6_searchBest_24 : decode cX6_searchBest 24 = .ok (.iconst 0, 1) := by decide +kernel
theorem dX6_searchBest_25 : decode cX6_searchBest 25 = .ok (.iconst 0, 1) := by decide +kernel
theorem dX6_searchBest_26 : decode cX6_searchBest 26 = .ok (.invokestatic 151, 3) := by decide +kernel
theorem dX6_searchBest_29 : decode cX6_searchBest 29 = .ok (.return_, 1) := by decide +kernel
theorem dX6_takesByBest_0 : decode cX6_takesByBest 0 = .ok (.aload_n 0, 1) := by decide +kernel
theorem dX6_takesByBest_1 : decode cX6_takesByBest 1 = .ok (.bipush (-9), 2) := by decide +kernel
theorem dX6_takesByBest_3 : decode cX6_takesByBest 3 = .ok (.invokevirtual 135, 3) := by decide +kernel
theorem dX6_takesByBest_6 : decode cX6_takesByBest 6 = .ok (.iconst 0, 1) := by decide +kernel
theorem dX6_takesByBest_7 : decode cX6_takesByBest 7 = .ok (.istore_n 2, 1) := by decide +kernel
theorem dX6_takesByBest_8 : decode cX6_takesByBest 8 = .ok (.iconst 0, 1) := by decide +kernel
theorem dX6_takesByBest_9 : decode cX6_takesByBest 9 = .ok (.istore_n 3, 1) := by decide +kernel
theorem dX6_takesByBest_10 : decode cX6_takesByBest 10 = .ok (.iload_n 3, 1) := by decide +kernel
theorem dX6_takesByBest_11 : decode cX6_takesByBest 11 = .ok (.bipush 6, 2) := by decide +kernel
theorem dX6_takesByBest_13 : decode cX6_takesByBest 13 = .ok (.if_icmp .ge 25, 3) := by decide +kernel
theorem dX6_takesByBest_16 : decode cX6_takesByBest 16 = .ok (.aload_n 0, 1) := by decide +kernel
theorem dX6_takesByBest_17 : decode cX6_takesByBest 17 = .ok (.getfield 35, 3) := by decide +kernel
theorem dX6_takesByBest_20 : decode cX6_takesByBest 20 = .ok (.getfield 142, 3) := by decide +kernel
theorem dX6_takesByBest_23 : decode cX6_takesByBest 23 = .ok (.iload_n 3, 1) := by decide +kernel
theorem dX6_takesByBest_24 : decode cX6_takesByBest 24 = .ok (.iaload, 1) := by decide +kernel
theorem dX6_takesByBest_25 : decode cX6_takesByBest 25 = .ok (.iload_n 1, 1) := by decide +kernel
theorem dX6_takesByBest_26 : decode cX6_takesByBest 26 = .ok (.if_icmp .ne 6, 3) := by decide +kernel
theorem dX6_takesByBest_29 : decode cX6_takesByBest 29 = .ok (.iinc 2 1, 3) := by decide +kernel
theorem dX6_takesByBest_32 : decode cX6_takesByBest 32 = .ok (.iinc 3 1, 3) := by decide +kernel
theorem dX6_takesByBest_35 : decode cX6_takesByBest 35 = .ok (.goto (-25), 3) := by decide +kernel
theorem dX6_takesByBest_38 : decode cX6_takesByBest 38 = .ok (.iload_n 2, 1) := by decide +kernel
theorem dX6_takesByBest_39 : decode cX6_takesByBest 39 = .ok (.ireturn, 1) := by decide +kernel
theorem dX6_searchRead_0 : decode cX6_searchRead 0 = .ok (.aload_n 0, 1) := by decide +kernel
theorem dX6_searchRead_1 : decode cX6_searchRead 1 = .ok (.getfield 35, 3) := by decide +kernel
theorem dX6_searchRead_4 : decode cX6_searchRead 4 = .ok (.invokevirtual 145, 3) := by decide +kernel
theorem dX6_searchRead_7 : decode cX6_searchRead 7 = .ok (.aload_n 0, 1) := by decide +kernel
theorem dX6_searchRead_8 : decode cX6_searchRead 8 = .ok (.getfield 28, 3) := by decide +kernel
theorem dX6_searchRead_11 : decode cX6_searchRead 11 = .ok (.aload_n 0, 1) := by decide +kernel
theorem dX6_searchRead_12 : decode cX6_searchRead 12 = .ok (.getfield 35, 3) := by decide +kernel
theorem dX6_searchRead_15 : decode cX6_searchRead 15 = .ok (.invokevirtual 240, 3) := by decide +kernel
theorem dX6_searchRead_18 : decode cX6_searchRead 18 = .ok (.aload_n 0, 1) := by decide +kernel
theorem dX6_searchRead_19 : decode cX6_searchRead 19 = .ok (.getfield 35, 3) := by decide +kernel
theorem dX6_searchRead_22 : decode cX6_searchRead 22 = .ok (.aload_n 0, 1) := by decide +kernel
theorem dX6_searchRead_23 : decode cX6_searchRead 23 = .ok (.getfield 21, 3) := by decide +kernel
theorem dX6_searchRead_26 : decode cX6_searchRead 26 = .ok (.iconst 0, 1) := by decide +kernel
theorem dX6_searchRead_27 : decode cX6_searchRead 27 = .ok (.iconst 0, 1) := by decide +kernel
theorem dX6_searchRead_28 : decode cX6_searchRead 28 = .ok (.iconst 0, 1) := by decide +kernel
theorem dX6_searchRead_29 : decode cX6_searchRead 29 = .ok (.invokestatic 151, 3) := by decide +kernel
theorem dX6_searchRead_32 : decode cX6_searchRead 32 = .ok (.return_, 1) := by decide +kernel
theorem dX6_walk_0 : decode cX6_walk 0 = .ok (.iload_n 2, 1) := by decide +kernel
theorem dX6_walk_1 : decode cX6_walk 1 = .ok (.bipush 6, 2) := by decide +kernel
theorem dX6_walk_3 : decode cX6_walk 3 = .ok (.if_icmp .lt 15, 3) := by decide +kernel
theorem dX6_walk_6 : decode cX6_walk 6 = .ok (.aload_n 0, 1) := by decide +kernel
theorem dX6_walk_7 : decode cX6_walk 7 = .ok (.iload_n 3, 1) := by decide +kernel
theorem dX6_walk_8 : decode cX6_walk 8 = .ok (.iload 4, 2) := by decide +kernel
theorem dX6_walk_10 : decode cX6_walk 10 = .ok (.aload_n 1, 1) := by decide +kernel
theorem dX6_walk_11 : decode cX6_walk 11 = .ok (.getfield 111, 3) := by decide +kernel
theorem dX6_walk_14 : decode cX6_walk 14 = .ok (.invokevirtual 244, 3) := by decide +kernel
theorem dX6_walk_17 : decode cX6_walk 17 = .ok (.return_, 1) := by decide +kernel
theorem dX6_walk_18 : decode cX6_walk 18 = .ok (.aload_n 1, 1) := by decide +kernel
theorem dX6_walk_19 : decode cX6_walk 19 = .ok (.aload_n 0, 1) := by decide +kernel
theorem dX6_walk_20 : decode cX6_walk 20 = .ok (.getfield 248, 3) := by decide +kernel
theorem dX6_walk_23 : decode cX6_walk 23 = .ok (.iload_n 2, 1) := by decide +kernel
theorem dX6_walk_24 : decode cX6_walk 24 = .ok (.iload_n 2, 1) := by decide +kernel
theorem dX6_walk_25 : decode cX6_walk 25 = .ok (.invokevirtual 125, 3) := by decide +kernel
theorem dX6_walk_28 : decode cX6_walk 28 = .ok (.istore 5, 2) := by decide +kernel
theorem dX6_walk_30 : decode cX6_walk 30 = .ok (.aload_n 0, 1) := by decide +kernel
theorem dX6_walk_31 : decode cX6_walk 31 = .ok (.getfield 248, 3) := by decide +kernel
theorem dX6_walk_34 : decode cX6_walk 34 = .ok (.iload_n 2, 1) := by decide +kernel
theorem dX6_walk_35 : decode cX6_walk 35 = .ok (.bipush (-9), 2) := by decide +kernel
theorem dX6_walk_37 : decode cX6_walk 37 = .ok (.iastore, 1) := by decide +kernel
theorem dX6_walk_38 : decode cX6_walk 38 = .ok (.aload_n 0, 1) := by decide +kernel
theorem dX6_walk_39 : decode cX6_walk 39 = .ok (.iload_n 2, 1) := by decide +kernel
theorem dX6_walk_40 : decode cX6_walk 40 = .ok (.iload 5, 2) := by decide +kernel
theorem dX6_walk_42 : decode cX6_walk 42 = .ok (.invokevirtual 251, 3) := by decide +kernel
theorem dX6_walk_45 : decode cX6_walk 45 = .ok (.ifCond .eq 28, 3) := by decide +kernel
theorem dX6_walk_48 : decode cX6_walk 48 = .ok (.aload_n 0, 1) := by decide +kernel
theorem dX6_walk_49 : decode cX6_walk 49 = .ok (.getfield 175, 3) := by decide +kernel
theorem dX6_walk_52 : decode cX6_walk 52 = .ok (.istore 6, 2) := by decide +kernel
theorem dX6_walk_54 : decode cX6_walk 54 = .ok (.aload_n 0, 1) := by decide +kernel
theorem dX6_walk_55 : decode cX6_walk 55 = .ok (.aload_n 1, 1) := by decide +kernel
theorem dX6_walk_56 : decode cX6_walk 56 = .ok (.iload_n 2, 1) := by decide +kernel
theorem dX6_walk_57 : decode cX6_walk 57 = .ok (.iconst 1, 1) := by decide +kernel
theorem dX6_walk_58 : decode cX6_walk 58 = .ok (.iadd, 1) := by decide +kernel
theorem dX6_walk_59 : decode cX6_walk 59 = .ok (.iload_n 3, 1) := by decide +kernel
theorem dX6_walk_60 : decode cX6_walk 60 = .ok (.iload 4, 2) := by decide +kernel
theorem dX6_walk_62 : decode cX6_walk 62 = .ok (.invokestatic 151, 3) := by decide +kernel
theorem dX6_walk_65 : decode cX6_walk 65 = .ok (.aload_n 0, 1) := by decide +kernel
theorem dX6_walk_66 : decode cX6_walk 66 = .ok (.iload_n 2, 1) := by decide +kernel
theorem dX6_walk_67 : decode cX6_walk 67 = .ok (.iconst 5, 1) := by decide +kernel
theorem dX6_walk_68 : decode cX6_walk 68 = .ok (.iload 6, 2) := by decide +kernel
theorem dX6_walk_70 : decode cX6_walk 70 = .ok (.invokevirtual 254, 3) := by decide +kernel
theorem dX6_walk_73 : decode cX6_walk 73 = .ok (.iconst 0, 1) := by decide +kernel
theorem dX6_walk_74 : decode cX6_walk 74 = .ok (.istore 6, 2) := by decide +kernel
theorem dX6_walk_76 : decode cX6_walk 76 = .ok (.iload 6, 2) := by decide +kernel
theorem dX6_walk_78 : decode cX6_walk 78 = .ok (.aload_n 1, 1) := by decide +kernel
theorem dX6_walk_79 : decode cX6_walk 79 = .ok (.getfield 78, 3) := by decide +kernel
theorem dX6_walk_82 : decode cX6_walk 82 = .ok (.if_icmp .ge 99, 3) := by decide +kernel
theorem dX6_walk_85 : decode cX6_walk 85 = .ok (.iload 6, 2) := by decide +kernel
theorem dX6_walk_87 : decode cX6_walk 87 = .ok (.aload_n 0, 1) := by decide +kernel
theorem dX6_walk_88 : decode cX6_walk 88 = .ok (.getfield 237, 3) := by decide +kernel
theorem dX6_walk_91 : decode cX6_walk 91 = .ok (.if_icmp .eq 84, 3) := by decide +kernel
theorem dX6_walk_94 : decode cX6_walk 94 = .ok (.iload 5, 2) := by decide +kernel
theorem dX6_walk_96 : decode cX6_walk 96 = .ok (.iload 6, 2) := by decide +kernel
theorem dX6_walk_98 : decode cX6_walk 98 = .ok (.invokestatic 161, 3) := by decide +kernel
theorem dX6_walk_101 : decode cX6_walk 101 = .ok (.ifCond .ne 74, 3) := by decide +kernel
theorem dX6_walk_104 : decode cX6_walk 104 = .ok (.aload_n 0, 1) := by decide +kernel
theorem dX6_walk_105 : decode cX6_walk 105 = .ok (.iload_n 2, 1) := by decide +kernel
theorem dX6_walk_106 : decode cX6_walk 106 = .ok (.iload 5, 2) := by decide +kernel
theorem dX6_walk_108 : decode cX6_walk 108 = .ok (.iconst 1, 1) := by decide +kernel
theorem dX6_walk_109 : decode cX6_walk 109 = .ok (.iload 6, 2) := by decide +kernel
theorem dX6_walk_111 : decode cX6_walk 111 = .ok (.ishl, 1) := by decide +kernel
theorem dX6_walk_112 : decode cX6_walk 112 = .ok (.ior, 1) := by decide +kernel
theorem dX6_walk_113 : decode cX6_walk 113 = .ok (.invokevirtual 251, 3) := by decide +kernel
theorem dX6_walk_116 : decode cX6_walk 116 = .ok (.ifCond .eq 59, 3) := by decide +kernel
theorem dX6_walk_119 : decode cX6_walk 119 = .ok (.aload_n 0, 1) := by decide +kernel
theorem dX6_walk_120 : decode cX6_walk 120 = .ok (.getfield 175, 3) := by decide +kernel
theorem dX6_walk_123 : decode cX6_walk 123 = .ok (.istore 7, 2) := by decide +kernel
theorem dX6_walk_125 : decode cX6_walk 125 = .ok (.aload_n 0, 1) := by decide +kernel
theorem dX6_walk_126 : decode cX6_walk 126 = .ok (.getfield 248, 3) := by decide +kernel
theorem dX6_walk_129 : decode cX6_walk 129 = .ok (.iload_n 2, 1) := by decide +kernel
theorem dX6_walk_130 : decode cX6_walk 130 = .ok (.iload 6, 2) := by decide +kernel
theorem dX6_walk_132 : decode cX6_walk 132 = .ok (.iastore, 1) := by decide +kernel
theorem dX6_walk_133 : decode cX6_walk 133 = .ok (.aload_n 0, 1) := by decide +kernel
theorem dX6_walk_134 : decode cX6_walk 134 = .ok (.aload_n 1, 1) := by decide +kernel
theorem dX6_walk_135 : decode cX6_walk 135 = .ok (.iload_n 2, 1) := by decide +kernel
theorem dX6_walk_136 : decode cX6_walk 136 = .ok (.iconst 1, 1) := by decide +kernel
theorem dX6_walk_137 : decode cX6_walk 137 = .ok (.iadd, 1) := by decide +kernel
theorem dX6_walk_138 : decode cX6_walk 138 = .ok (.iload_n 3, 1) := by decide +kernel
theorem dX6_walk_139 : decode cX6_walk 139 = .ok (.aload_n 1, 1) := by decide +kernel
theorem dX6_walk_140 : decode cX6_walk 140 = .ok (.iload 6, 2) := by decide +kernel
theorem dX6_walk_142 : decode cX6_walk 142 = .ok (.iload_n 2, 1) := by decide +kernel
theorem dX6_walk_143 : decode cX6_walk 143 = .ok (.iload 5, 2) := by decide +kernel
theorem dX6_walk_145 : decode cX6_walk 145 = .ok (.aload_n 1, 1) := by decide +kernel
theorem dX6_walk_146 : decode cX6_walk 146 = .ok (.getfield 114, 3) := by decide +kernel
theorem dX6_walk_149 : decode cX6_walk 149 = .ok (.invokevirtual 257, 3) := by decide +kernel
theorem dX6_walk_152 : decode cX6_walk 152 = .ok (.iadd, 1) := by decide +kernel
theorem dX6_walk_153 : decode cX6_walk 153 = .ok (.iload 4, 2) := by decide +kernel
theorem dX6_walk_155 : decode cX6_walk 155 = .ok (.aload_n 1, 1) := by decide +kernel
theorem dX6_walk_156 : decode cX6_walk 156 = .ok (.iload 6, 2) := by decide +kernel
theorem dX6_walk_158 : decode cX6_walk 158 = .ok (.iload_n 2, 1) := by decide +kernel
theorem dX6_walk_159 : decode cX6_walk 159 = .ok (.invokevirtual 261, 3) := by decide +kernel
theorem dX6_walk_162 : decode cX6_walk 162 = .ok (.iadd, 1) := by decide +kernel
theorem dX6_walk_163 : decode cX6_walk 163 = .ok (.invokestatic 151, 3) := by decide +kernel
theorem dX6_walk_166 : decode cX6_walk 166 = .ok (.aload_n 0, 1) := by decide +kernel
theorem dX6_walk_167 : decode cX6_walk 167 = .ok (.iload_n 2, 1) := by decide +kernel
theorem dX6_walk_168 : decode cX6_walk 168 = .ok (.iload 6, 2) := by decide +kernel
theorem dX6_walk_170 : decode cX6_walk 170 = .ok (.iload 7, 2) := by decide +kernel
theorem dX6_walk_172 : decode cX6_walk 172 = .ok (.invokevirtual 254, 3) := by decide +kernel
theorem dX6_walk_175 : decode cX6_walk 175 = .ok (.iinc 6 1, 3) := by decide +kernel
theorem dX6_walk_178 : decode cX6_walk 178 = .ok (.goto (-102), 3) := by decide +kernel
theorem dX6_walk_181 : decode cX6_walk 181 = .ok (.return_, 1) := by decide +kernel
theorem dX6_waysForAtMost_0 : decode cX6_waysForAtMost 0 = .ok (.lconst 0, 1) := by decide +kernel
theorem dX6_waysForAtMost_1 : decode cX6_waysForAtMost 1 = .ok (.lstore_n 2, 1) := by decide +kernel
theorem dX6_waysForAtMost_2 : decode cX6_waysForAtMost 2 = .ok (.lconst 1, 1) := by decide +kernel
theorem dX6_waysForAtMost_3 : decode cX6_waysForAtMost 3 = .ok (.lstore 4, 2) := by decide +kernel
theorem dX6_waysForAtMost_5 : decode cX6_waysForAtMost 5 = .ok (.iconst 0, 1) := by decide +kernel
theorem dX6_waysForAtMost_6 : decode cX6_waysForAtMost 6 = .ok (.istore 6, 2) := by decide +kernel
theorem dX6_waysForAtMost_8 : decode cX6_waysForAtMost 8 = .ok (.iload 6, 2) := by decide +kernel
theorem dX6_waysForAtMost_10 : decode cX6_waysForAtMost 10 = .ok (.iload_n 1, 1) := by decide +kernel
theorem dX6_waysForAtMost_11 : decode cX6_waysForAtMost 11 = .ok (.if_icmp .gt 36, 3) := by decide +kernel
theorem dX6_waysForAtMost_14 : decode cX6_waysForAtMost 14 = .ok (.iload 6, 2) := by decide +kernel
theorem dX6_waysForAtMost_16 : decode cX6_waysForAtMost 16 = .ok (.iload_n 0, 1) := by decide +kernel
theorem dX6_waysForAtMost_17 : decode cX6_waysForAtMost 17 = .ok (.if_icmp .gt 30, 3) := by decide +kernel
theorem dX6_waysForAtMost_20 : decode cX6_waysForAtMost 20 = .ok (.lload_n 2, 1) := by decide +kernel
theorem dX6_waysForAtMost_21 : decode cX6_waysForAtMost 21 = .ok (.lload 4, 2) := by decide +kernel
theorem dX6_waysForAtMost_23 : decode cX6_waysForAtMost 23 = .ok (.ladd, 1) := by decide +kernel
theorem dX6_waysForAtMost_24 : decode cX6_waysForAtMost 24 = .ok (.lstore_n 2, 1) := by decide +kernel
theorem dX6_waysForAtMost_25 : decode cX6_waysForAtMost 25 = .ok (.lload 4, 2) := by decide +kernel
theorem dX6_waysForAtMost_27 : decode cX6_waysForAtMost 27 = .ok (.iload_n 0, 1) := by decide +kernel
theorem dX6_waysForAtMost_28 : decode cX6_waysForAtMost 28 = .ok (.iload 6, 2) := by decide +kernel
theorem dX6_waysForAtMost_30 : decode cX6_waysForAtMost 30 = .ok (.isub, 1) := by decide +kernel
theorem dX6_waysForAtMost_31 : decode cX6_waysForAtMost 31 = .ok (.i2l, 1) := by decide +kernel
theorem dX6_waysForAtMost_32 : decode cX6_waysForAtMost 32 = .ok (.lmul, 1) := by decide +kernel
theorem dX6_waysForAtMost_33 : decode cX6_waysForAtMost 33 = .ok (.iload 6, 2) := by decide +kernel
theorem dX6_waysForAtMost_35 : decode cX6_waysForAtMost 35 = .ok (.iconst 1, 1) := by decide +kernel
theorem dX6_waysForAtMost_36 : decode cX6_waysForAtMost 36 = .ok (.iadd, 1) := by decide +kernel
theorem dX6_waysForAtMost_37 : decode cX6_waysForAtMost 37 = .ok (.i2l, 1) := by decide +kernel
theorem dX6_waysForAtMost_38 : decode cX6_waysForAtMost 38 = .ok (.ldiv, 1) := by decide +kernel
theorem dX6_waysForAtMost_39 : decode cX6_waysForAtMost 39 = .ok (.lstore 4, 2) := by decide +kernel
theorem dX6_waysForAtMost_41 : decode cX6_waysForAtMost 41 = .ok (.iinc 6 1, 3) := by decide +kernel
theorem dX6_waysForAtMost_44 : decode cX6_waysForAtMost 44 = .ok (.goto (-36), 3) := by decide +kernel
theorem dX6_waysForAtMost_47 : decode cX6_waysForAtMost 47 = .ok (.lload_n 2, 1) := by decide +kernel
theorem dX6_waysForAtMost_48 : decode cX6_waysForAtMost 48 = .ok (.lreturn, 1) := by decide +kernel
theorem dX6_leave_0 : decode cX6_leave 0 = .ok (.aload_n 0, 1) := by decide +kernel
theorem dX6_leave_1 : decode cX6_leave 1 = .ok (.bipush 31, 2) := by decide +kernel
theorem dX6_leave_3 : decode cX6_leave 3 = .ok (.aload_n 0, 1) := by decide +kernel
theorem dX6_leave_4 : decode cX6_leave 4 = .ok (.getfield 234, 3) := by decide +kernel
theorem dX6_leave_7 : decode cX6_leave 7 = .ok (.imul, 1) := by decide +kernel
theorem dX6_leave_8 : decode cX6_leave 8 = .ok (.iload_n 1, 1) := by decide +kernel
theorem dX6_leave_9 : decode cX6_leave 9 = .ok (.iadd, 1) := by decide +kernel
theorem dX6_leave_10 : decode cX6_leave 10 = .ok (.putfield 234, 3) := by decide +kernel
theorem dX6_leave_13 : decode cX6_leave 13 = .ok (.return_, 1) := by decide +kernel
theorem dX6_thingTells_0 : decode cX6_thingTells 0 = .ok (.aload_n 0, 1) := by decide +kernel
theorem dX6_thingTells_1 : decode cX6_thingTells 1 = .ok (.iconst 1, 1) := by decide +kernel
theorem dX6_thingTells_2 : decode cX6_thingTells 2 = .ok (.invokevirtual 231, 3) := by decide +kernel
theorem dX6_thingTells_5 : decode cX6_thingTells 5 = .ok (.aload_n 1, 1) := by decide +kernel
theorem dX6_thingTells_6 : decode cX6_thingTells 6 = .ok (.getfield 94, 3) := by decide +kernel
theorem dX6_thingTells_9 : decode cX6_thingTells 9 = .ok (.ireturn, 1) := by decide +kernel
theorem dX6_heirloomTells_0 : decode cX6_heirloomTells 0 = .ok (.aload_n 0, 1) := by decide +kernel
theorem dX6_heirloomTells_1 : decode cX6_heirloomTells 1 = .ok (.iconst 2, 1) := by decide +kernel
theorem dX6_heirloomTells_2 : decode cX6_heirloomTells 2 = .ok (.invokevirtual 231, 3) := by decide +kernel
theorem dX6_heirloomTells_5 : decode cX6_heirloomTells 5 = .ok (.aload_n 0, 1) := by decide +kernel
theorem dX6_heirloomTells_6 : decode cX6_heirloomTells 6 = .ok (.aload_n 1, 1) := by decide +kernel
theorem dX6_heirloomTells_7 : decode cX6_heirloomTells 7 = .ok (.invokevirtual 228, 3) := by decide +kernel
theorem dX6_heirloomTells_10 : decode cX6_heirloomTells 10 = .ok (.bipush 100, 2) := by decide +kernel
theorem dX6_heirloomTells_12 : decode cX6_heirloomTells 12 = .ok (.iadd, 1) := by decide +kernel
theorem dX6_heirloomTells_13 : decode cX6_heirloomTells 13 = .ok (.ireturn, 1) := by decide +kernel
theorem dX6_livingTells_0 : decode cX6_livingTells 0 = .ok (.aload_n 0, 1) := by decide +kernel
theorem dX6_livingTells_1 : decode cX6_livingTells 1 = .ok (.iconst 3, 1) := by decide +kernel
theorem dX6_livingTells_2 : decode cX6_livingTells 2 = .ok (.invokevirtual 231, 3) := by decide +kernel
theorem dX6_livingTells_5 : decode cX6_livingTells 5 = .ok (.aload_n 0, 1) := by decide +kernel
theorem dX6_livingTells_6 : decode cX6_livingTells 6 = .ok (.aload_n 1, 1) := by decide +kernel
theorem dX6_livingTells_7 : decode cX6_livingTells 7 = .ok (.invokevirtual 225, 3) := by decide +kernel
theorem dX6_livingTells_10 : decode cX6_livingTells 10 = .ok (.istore_n 2, 1) := by decide +kernel
theorem dX6_livingTells_11 : decode cX6_livingTells 11 = .ok (.iload_n 2, 1) := by decide +kernel
theorem dX6_livingTells_12 : decode cX6_livingTells 12 = .ok (.aload_n 0, 1) := by decide +kernel
theorem dX6_livingTells_13 : decode cX6_livingTells 13 = .ok (.aload_n 1, 1) := by decide +kernel
theorem dX6_livingTells_14 : decode cX6_livingTells 14 = .ok (.invokevirtual 228, 3) := by decide +kernel
theorem dX6_livingTells_17 : decode cX6_livingTells 17 = .ok (.iadd, 1) := by decide +kernel
theorem dX6_livingTells_18 : decode cX6_livingTells 18 = .ok (.ireturn, 1) := by decide +kernel
theorem dX7_init_0 : decode cX7_init 0 = .ok (.aload_n 0, 1) := by decide +kernel
theorem dX7_init_1 : decode cX7_init 1 = .ok (.invokespecial 1, 3) := by decide +kernel
theorem dX7_init_4 : decode cX7_init 4 = .ok (.aload_n 0, 1) := by decide +kernel
theorem dX7_init_5 : decode cX7_init 5 = .ok (.iconst 5, 1) := by decide +kernel
theorem dX7_init_6 : decode cX7_init 6 = .ok (.newarray .int, 2) := by decide +kernel
theorem dX7_init_8 : decode cX7_init 8 = .ok (.putfield 7, 3) := by decide +kernel
theorem dX7_init_11 : decode cX7_init 11 = .ok (.aload_n 0, 1) := by decide +kernel
theorem dX7_init_12 : decode cX7_init 12 = .ok (.iconst 5, 1) := by decide +kernel
theorem dX7_init_13 : decode cX7_init 13 = .ok (.newarray .int, 2) := by decide +kernel
theorem dX7_init_15 : decode cX7_init 15 = .ok (.putfield 13, 3) := by decide +kernel
theorem dX7_init_18 : decode cX7_init 18 = .ok (.aload_n 0, 1) := by decide +kernel
theorem dX7_init_19 : decode cX7_init 19 = .ok (.iconst 5, 1) := by decide +kernel
theorem dX7_init_20 : decode cX7_init 20 = .ok (.newarray .int, 2) := by decide +kernel
theorem dX7_init_22 : decode cX7_init 22 = .ok (.putfield 16, 3) := by decide +kernel
theorem dX7_init_25 : decode cX7_init 25 = .ok (.aload_n 0, 1) := by decide +kernel
theorem dX7_init_26 : decode cX7_init 26 = .ok (.iconst 5, 1) := by decide +kernel
theorem dX7_init_27 : decode cX7_init 27 = .ok (.newarray .int, 2) := by decide +kernel
theorem dX7_init_29 : decode cX7_init 29 = .ok (.putfield 19, 3) := by decide +kernel
theorem dX7_init_32 : decode cX7_init 32 = .ok (.aload_n 0, 1) := by decide +kernel
theorem dX7_init_33 : decode cX7_init 33 = .ok (.iconst 5, 1) := by decide +kernel
theorem dX7_init_34 : decode cX7_init 34 = .ok (.newarray .int, 2) := by decide +kernel
theorem dX7_init_36 : decode cX7_init 36 = .ok (.putfield 22, 3) := by decide +kernel
theorem dX7_init_39 : decode cX7_init 39 = .ok (.aload_n 0, 1) := by decide +kernel
theorem dX7_init_40 : decode cX7_init 40 = .ok (.iconst 5, 1) := by decide +kernel
theorem dX7_init_41 : decode cX7_init 41 = .ok (.newarray .int, 2) := by decide +kernel
theorem dX7_init_43 : decode cX7_init 43 = .ok (.putfield 25, 3) := by decide +kernel
theorem dX7_init_46 : decode cX7_init 46 = .ok (.aload_n 0, 1) := by decide +kernel
theorem dX7_init_47 : decode cX7_init 47 = .ok (.iconst 5, 1) := by decide +kernel
theorem dX7_init_48 : decode cX7_init 48 = .ok (.newarray .int, 2) := by decide +kernel
theorem dX7_init_50 : decode cX7_init 50 = .ok (.putfield 28, 3) := by decide +kernel
theorem dX7_init_53 : decode cX7_init 53 = .ok (.aload_n 0, 1) := by decide +kernel
theorem dX7_init_54 : decode cX7_init 54 = .ok (.iconst 5, 1) := by decide +kernel
theorem dX7_init_55 : decode cX7_init 55 = .ok (.newarray .int, 2) := by decide +kernel
theorem dX7_init_57 : decode cX7_init 57 = .ok (.putfield 31, 3) := by decide +kernel
theorem dX7_init_60 : decode cX7_init 60 = .ok (.aload_n 0, 1) := by decide +kernel
theorem dX7_init_61 : decode cX7_init 61 = .ok (.iconst 5, 1) := by decide +kernel
theorem dX7_init_62 : decode cX7_init 62 = .ok (.newarray .int, 2) := by decide +kernel
theorem dX7_init_64 : decode cX7_init 64 = .ok (.putfield 34, 3) := by decide +kernel
theorem dX7_init_67 : decode cX7_init 67 = .ok (.aload_n 0, 1) := by decide +kernel
theorem dX7_init_68 : decode cX7_init 68 = .ok (.iconst 5, 1) := by decide +kernel
theorem dX7_init_69 : decode cX7_init 69 = .ok (.newarray .int, 2) := by decide +kernel
theorem dX7_init_71 : decode cX7_init 71 = .ok (.putfield 37, 3) := by decide +kernel
theorem dX7_init_74 : decode cX7_init 74 = .ok (.aload_n 0, 1) := by decide +kernel
theorem dX7_init_75 : decode cX7_init 75 = .ok (.bipush 6, 2) := by decide +kernel
theorem dX7_init_77 : decode cX7_init 77 = .ok (.newarray .int, 2) := by decide +kernel
theorem dX7_init_79 : decode cX7_init 79 = .ok (.putfield 40, 3) := by decide +kernel
theorem dX7_init_82 : decode cX7_init 82 = .ok (.aload_n 0, 1) := by decide +kernel
theorem dX7_init_83 : decode cX7_init 83 = .ok (.bipush 6, 2) := by decide +kernel
theorem dX7_init_85 : decode cX7_init 85 = .ok (.newarray .int, 2) := by decide +kernel
theorem dX7_init_87 : decode cX7_init 87 = .ok (.putfield 43, 3) := by decide +kernel
theorem dX7_init_90 : decode cX7_init 90 = .ok (.aload_n 0, 1) := by decide +kernel
theorem dX7_init_91 : decode cX7_init 91 = .ok (.iconst 5, 1) := by decide +kernel
theorem dX7_init_92 : decode cX7_init 92 = .ok (.newarray .int, 2) := by decide +kernel
theorem dX7_init_94 : decode cX7_init 94 = .ok (.putfield 46, 3) := by decide +kernel
theorem dX7_init_97 : decode cX7_init 97 = .ok (.aload_n 0, 1) := by decide +kernel
theorem dX7_init_98 : decode cX7_init 98 = .ok (.bipush 8, 2) := by decide +kernel
theorem dX7_init_100 : decode cX7_init 100 = .ok (.newarray .int, 2) := by decide +kernel
theorem dX7_init_102 : decode cX7_init 102 = .ok (.putfield 49, 3) := by decide +kernel
theorem dX7_init_105 : decode cX7_init 105 = .ok (.aload_n 0, 1) := by decide +kernel
theorem dX7_init_106 : decode cX7_init 106 = .ok (.bipush 8, 2) := by decide +kernel
theorem dX7_init_108 : decode cX7_init 108 = .ok (.newarray .int, 2) := by decide +kernel
theorem dX7_init_110 : decode cX7_init 110 = .ok (.putfield 52, 3) := by decide +kernel
theorem dX7_init_113 : decode cX7_init 113 = .ok (.aload_n 0, 1) := by decide +kernel
theorem dX7_init_114 : decode cX7_init 114 = .ok (.bipush 8, 2) := by decide +kernel
theorem dX7_init_116 : decode cX7_init 116 = .ok (.newarray .boolean, 2) := by decide +kernel
theorem dX7_init_118 : decode cX7_init 118 = .ok (.putfield 55, 3) := by decide +kernel
theorem dX7_init_121 : decode cX7_init 121 = .ok (.aload_n 0, 1) := by decide +kernel
theorem dX7_init_122 : decode cX7_init 122 = .ok (.iconst 4, 1) := by decide +kernel
theorem dX7_init_123 : decode cX7_init 123 = .ok (.newarray .int, 2) := by decide +kernel
theorem dX7_init_125 : decode cX7_init 125 = .ok (.putfield 59, 3) := by decide +kernel
theorem dX7_init_128 : decode cX7_init 128 = .ok (.aload_n 0, 1) := by decide +kernel
theorem dX7_init_129 : decode cX7_init 129 = .ok (.iconst 4, 1) := by decide +kernel
theorem dX7_init_130 : decode cX7_init 130 = .ok (.newarray .int, 2) := by decide +kernel
theorem dX7_init_132 : decode cX7_init 132 = .ok (.putfield 62, 3) := by decide +kernel
theorem dX7_init_135 : decode cX7_init 135 = .ok (.aload_n 0, 1) := by decide +kernel
theorem dX7_init_136 : decode cX7_init 136 = .ok (.sipush 240, 3) := by decide +kernel
theorem dX7_init_139 : decode cX7_init 139 = .ok (.newarray .int, 2) := by decide +kernel
theorem dX7_init_141 : decode cX7_init 141 = .ok (.putfield 65, 3) := by decide +kernel
theorem dX7_init_144 : decode cX7_init 144 = .ok (.aload_n 0, 1) := by decide +kernel
theorem dX7_init_145 : decode cX7_init 145 = .ok (.bipush 60, 2) := by decide +kernel
theorem dX7_init_147 : decode cX7_init 147 = .ok (.newarray .int, 2) := by decide +kernel
theorem dX7_init_149 : decode cX7_init 149 = .ok (.putfield 68, 3) := by decide +kernel
theorem dX7_init_152 : decode cX7_init 152 = .ok (.iconst 0, 1) := by decide +kernel
theorem dX7_init_153 : decode cX7_init 153 = .ok (.istore_n 1, 1) := by decide +kernel
theorem dX7_init_154 : decode cX7_init 154 = .ok (.iload_n 1, 1) := by decide +kernel
theorem dX7_init_155 : decode cX7_init 155 = .ok (.iconst 4, 1) := by decide +kernel
theorem dX7_init_156 : decode cX7_init 156 = .ok (.if_icmp .ge 16, 3) := by decide +kernel
theorem dX7_init_159 : decode cX7_init 159 = .ok (.aload_n 0, 1) := by decide +kernel
theorem dX7_init_160 : decode cX7_init 160 = .ok (.getfield 59, 3) := by decide +kernel
theorem dX7_init_163 : decode cX7_init 163 = .ok (.iload_n 1, 1) := by decide +kernel
theorem dX7_init_164 : decode cX7_init 164 = .ok (.iconst (-1), 1) := by decide +kernel
theorem dX7_init_165 : decode cX7_init 165 = .ok (.iastore, 1) := by decide +kernel
theorem dX7_init_166 : decode cX7_init 166 = .ok (.iinc 1 1, 3) := by decide +kernel
theorem dX7_init_169 : decode cX7_init 169 = .ok (.goto (-15), 3) := by decide +kernel
theorem dX7_init_172 : decode cX7_init 172 = .ok (.aload_n 0, 1) := by decide +kernel
theorem dX7_init_173 : decode cX7_init 173 = .ok (.bipush (-9), 2) := by decide +kernel
theorem dX7_init_175 : decode cX7_init 175 = .ok (.putfield 71, 3) := by decide +kernel
theorem dX7_init_178 : decode cX7_init 178 = .ok (.return_, 1) := by decide +kernel
theorem dX7_in_0 : decode cX7_in 0 = .ok (.lload_n 0, 1) := by decide +kernel
theorem dX7_in_1 : decode cX7_in 1 = .ok (.lload_n 2, 1) := by decide +kernel
theorem dX7_in_2 : decode cX7_in 2 = .ok (.lcmp, 1) := by decide +kernel
theorem dX7_in_3 : decode cX7_in 3 = .ok (.ifCond .lt 14, 3) := by decide +kernel
theorem dX7_in_6 : decode cX7_in 6 = .ok (.lload_n 0, 1) := by decide +kernel
theorem dX7_in_7 : decode cX7_in 7 = .ok (.lload 4, 2) := by decide +kernel
theorem dX7_in_9 : decode cX7_in 9 = .ok (.lcmp, 1) := by decide +kernel
theorem dX7_in_10 : decode cX7_in 10 = .ok (.ifCond .gt 7, 3) := by decide +kernel
theorem dX7_in_13 : decode cX7_in 13 = .ok (.iconst 1, 1) := by decide +kernel
theorem dX7_in_14 : decode cX7_in 14 = .ok (.goto 4, 3) := by decide +kernel
theorem dX7_in_17 : decode cX7_in 17 = .ok (.iconst 0, 1) := by decide +kernel
theorem dX7_in_18 : decode cX7_in 18 = .ok (.ireturn, 1) := by decide +kernel
theorem dX7_lost_0 : decode cX7_lost 0 = .ok (.ldc2_w 75, 3) := by decide +kernel
theorem dX7_lost_3 : decode cX7_lost 3 = .ok (.lreturn, 1) := by decide +kernel
theorem dX7_isIn_0 : decode cX7_isIn 0 = .ok (.iload_n 0, 1) := by decide +kernel
theorem dX7_isIn_1 : decode cX7_isIn 1 = .ok (.iload_n 1, 1) := by decide +kernel
theorem dX7_isIn_2 : decode cX7_isIn 2 = .ok (.ishr, 1) := by decide +kernel
theorem dX7_isIn_3 : decode cX7_isIn 3 = .ok (.iconst 1, 1) := by decide +kernel
theorem dX7_isIn_4 : decode cX7_isIn 4 = .ok (.iand, 1) := by decide +kernel
theorem dX7_isIn_5 : decode cX7_isIn 5 = .ok (.iconst 1, 1) := by decide +kernel
theorem dX7_isIn_6 : decode cX7_isIn 6 = .ok (.if_icmp .ne 7, 3) := by decide +kernel
theorem dX7_isIn_9 : decode cX7_isIn 9 = .ok (.iconst 1, 1) := by decide +kernel
theorem dX7_isIn_10 : decode cX7_isIn 10 = .ok (.goto 4, 3) := by decide +kernel
theorem dX7_isIn_13 : decode cX7_isIn 13 = .ok (.iconst 0, 1) := by decide +kernel
theorem dX7_isIn_14 : decode cX7_isIn 14 = .ok (.ireturn, 1) := by decide +kernel
theorem dX7_told_0 : decode cX7_told 0 = .ok (.lload_n 0, 1) := by decide +kernel
theorem dX7_told_1 : decode cX7_told 1 = .ok (.lstore 5, 2) := by decide +kernel
theorem dX7_told_3 : decode cX7_told 3 = .ok (.lload_n 2, 1) := by decide +kernel
theorem dX7_told_4 : decode cX7_told 4 = .ok (.lstore 7, 2) := by decide +kernel
theorem dX7_told_6 : decode cX7_told 6 = .ok (.lload 7, 2) := by decide +kernel
theorem dX7_told_8 : decode cX7_told 8 = .ok (.lconst 0, 1) := by decide +kernel
theorem dX7_told_9 : decode cX7_told 9 = .ok (.lcmp, 1) := by decide +kernel
theorem dX7_told_10 : decode cX7_told 10 = .ok (.ifCond .eq 21, 3) := by decide +kernel
theorem dX7_told_13 : decode cX7_told 13 = .ok (.lload 5, 2) := by decide +kernel
theorem dX7_told_15 : decode cX7_told 15 = .ok (.lload 7, 2) := by decide +kernel
theorem dX7_told_17 : decode cX7_told 17 = .ok (.lrem, 1) := by decide +kernel
theorem dX7_told_18 : decode cX7_told 18 = .ok (.lstore 9, 2) := by decide +kernel
theorem dX7_told_20 : decode cX7_told 20 = .ok (.lload 7, 2) := by decide +kernel
theorem dX7_told_22 : decode cX7_told 22 = .ok (.lstore 5, 2) := by decide +kernel
theorem dX7_told_24 : decode cX7_told 24 = .ok (.lload 9, 2) := by decide +kernel
theorem dX7_told_26 : decode cX7_told 26 = .ok (.lstore 7, 2) := by decide +kernel
theorem dX7_told_28 : decode cX7_told 28 = .ok (.goto (-22), 3) := by decide +kernel
theorem dX7_told_31 : decode cX7_told 31 = .ok (.iload 4, 2) := by decide +kernel
theorem dX7_told_33 : decode cX7_told 33 = .ok (.ifCond .ne 7, 3) := by decide +kernel
theorem dX7_told_36 : decode cX7_told 36 = .ok (.lload_n 0, 1) := by decide +kernel
theorem dX7_told_37 : decode cX7_told 37 = .ok (.goto 4, 3) := by decide +kernel
theorem dX7_told_40 : decode cX7_told 40 = .ok (.lload_n 2, 1) := by decide +kernel
theorem dX7_told_41 : decode cX7_told 41 = .ok (.lload 5, 2) := by decide +kernel
theorem dX7_told_43 : decode cX7_told 43 = .ok (.ldiv, 1) := by decide +kernel
theorem dX7_told_44 : decode cX7_told 44 = .ok (.lreturn, 1) := by decide +kernel
theorem dX7_refused_0 : decode cX7_refused 0 = .ok (.aload_n 0, 1) := by decide +kernel
theorem dX7_refused_1 : decode cX7_refused 1 = .ok (.iconst 0, 1) := by decide +kernel
theorem dX7_refused_2 : decode cX7_refused 2 = .ok (.putfield 77, 3) := by decide +kernel
theorem dX7_refused_5 : decode cX7_refused 5 = .ok (.iload_n 1, 1) := by decide +kernel
theorem dX7_refused_6 : decode cX7_refused 6 = .ok (.ireturn, 1) := by decide +kernel
theorem dX7_failed_0 : decode cX7_failed 0 = .ok (.aload_n 0, 1) := by decide +kernel
theorem dX7_failed_1 : decode cX7_failed 1 = .ok (.iload_n 1, 1) := by decide +kernel
theorem dX7_failed_2 : decode cX7_failed 2 = .ok (.putfield 77, 3) := by decide +kernel
theorem dX7_failed_5 : decode cX7_failed 5 = .ok (.bipush (-10), 2) := by decide +kernel
theorem dX7_failed_7 : decode cX7_failed 7 = .ok (.iload_n 1, 1) := by decide +kernel
theorem dX7_failed_8 : decode cX7_failed 8 = .ok (.isub, 1) := by decide +kernel
theorem dX7_failed_9 : decode cX7_failed 9 = .ok (.ireturn, 1) := by decide +kernel
theorem dX7_failedLong_0 : decode cX7_failedLong 0 = .ok (.aload_n 0, 1) := by decide +kernel
theorem dX7_failedLong_1 : decode cX7_failedLong 1 = .ok (.iload_n 1, 1) := by decide +kernel
theorem dX7_failedLong_2 : decode cX7_failedLong 2 = .ok (.putfield 77, 3) := by decide +kernel
theorem dX7_failedLong_5 : decode cX7_failedLong 5 = .ok (.invokestatic 80, 3) := by decide +kernel
theorem dX7_failedLong_8 : decode cX7_failedLong 8 = .ok (.lreturn, 1) := by decide +kernel
theorem dX7_noThing_0 : decode cX7_noThing 0 = .ok (.iload_n 1, 1) := by decide +kernel
theorem dX7_noThing_1 : decode cX7_noThing 1 = .ok (.i2l, 1) := by decide +kernel
theorem dX7_noThing_2 : decode cX7_noThing 2 = .ok (.lconst 0, 1) := by decide +kernel
theorem dX7_noThing_3 : decode cX7_noThing 3 = .ok (.aload_n 0, 1) := by decide +kernel
theorem dX7_noThing_4 : decode cX7_noThing 4 = .ok (.getfield 84, 3) := by decide +kernel
theorem dX7_noThing_7 : decode cX7_noThing 7 = .ok (.i2l, 1) := by decide +kernel
theorem dX7_noThing_8 : decode cX7_noThing 8 = .ok (.lconst 1, 1) := by decide +kernel
theorem dX7_noThing_9 : decode cX7_noThing 9 = .ok (.lsub, 1) := by decide +kernel
theorem dX7_noThing_10 : decode cX7_noThing 10 = .ok (.invokestatic 87, 3) := by decide +kernel
theorem dX7_noThing_13 : decode cX7_noThing 13 = .ok (.ifCond .ne 7, 3) := by decide +kernel
theorem dX7_noThing_16 : decode cX7_noThing 16 = .ok (.iconst 1, 1) := by decide +kernel
theorem dX7_noThing_17 : decode cX7_noThing 17 = .ok (.goto 4, 3) := by decide +kernel
theorem dX7_noThing_20 : decode cX7_noThing 20 = .ok (.iconst 0, 1) := by decide +kernel
theorem dX7_noThing_21 : decode cX7_noThing 21 = .ok (.ireturn, 1) := by decide +kernel
theorem dX7_codeAt_0 : decode cX7_codeAt 0 = .ok (.aload_n 0, 1) := by decide +kernel
theorem dX7_codeAt_1 : decode cX7_codeAt 1 = .ok (.getfield 91, 3) := by decide +kernel
theorem dX7_codeAt_4 : decode cX7_codeAt 4 = .ok (.iload_n 2, 1) := by decide +kernel
theorem dX7_codeAt_5 : decode cX7_codeAt 5 = .ok (.if_icmp .ge 17, 3) := by decide +kernel
theorem dX7_codeAt_8 : decode cX7_codeAt 8 = .ok (.aload_n 0, 1) := by decide +kernel
theorem dX7_codeAt_9 : decode cX7_codeAt 9 = .ok (.getfield 65, 3) := by decide +kernel
theorem dX7_codeAt_12 : decode cX7_codeAt 12 = .ok (.iload_n 1, 1) := by decide +kernel
theorem dX7_codeAt_13 : decode cX7_codeAt 13 = .ok (.aload_n 0, 1) := by decide +kernel
theorem dX7_codeAt_14 : decode cX7_codeAt 14 = .ok (.getfield 91, 3) := by decide +kernel
theorem dX7_codeAt_17 : decode cX7_codeAt 17 = .ok (.iadd, 1) := by decide +kernel
theorem dX7_codeAt_18 : decode cX7_codeAt 18 = .ok (.iaload, 1) := by decide +kernel
theorem dX7_codeAt_19 : decode cX7_codeAt 19 = .ok (.goto 5, 3) := by decide +kernel
theorem dX7_codeAt_22 : decode cX7_codeAt 22 = .ok (.bipush (-9), 2) := by decide +kernel
theorem dX7_codeAt_24 : decode cX7_codeAt 24 = .ok (.ireturn, 1) := by decide +kernel
theorem dX7_figure_0 : decode cX7_figure 0 = .ok (.aload_n 0, 1) := by decide +kernel
theorem dX7_figure_1 : decode cX7_figure 1 = .ok (.iload_n 1, 1) := by decide +kernel
theorem dX7_figure_2 : decode cX7_figure 2 = .ok (.iload_n 2, 1) := by decide +kernel
theorem dX7_figure_3 : decode cX7_figure 3 = .ok (.invokevirtual 94, 3) := by decide +kernel
theorem dX7_figure_6 : decode cX7_figure 6 = .ok (.bipush 48, 2) := by decide +kernel
theorem dX7_figure_8 : decode cX7_figure 8 = .ok (.isub, 1) := by decide +kernel
theorem dX7_figure_9 : decode cX7_figure 9 = .ok (.istore 5, 2) := by decide +kernel
theorem dX7_figure_11 : decode cX7_figure 11 = .ok (.iload 5, 2) := by decide +kernel
theorem dX7_figure_13 : decode cX7_figure 13 = .ok (.i2l, 1) := by decide +kernel
theorem dX7_figure_14 : decode cX7_figure 14 = .ok (.iload_n 3, 1) := by decide +kernel
theorem dX7_figure_15 : decode cX7_figure 15 = .ok (.i2l, 1) := by decide +kernel
theorem dX7_figure_16 : decode cX7_figure 16 = .ok (.iload 4, 2) := by decide +kernel
theorem dX7_figure_18 : decode cX7_figure 18 = .ok (.i2l, 1) := by decide +kernel
theorem dX7_figure_19 : decode cX7_figure 19 = .ok (.invokestatic 87, 3) := by decide +kernel
theorem dX7_figure_22 : decode cX7_figure 22 = .ok (.istore 6, 2) := by decide +kernel
theorem dX7_figure_24 : decode cX7_figure 24 = .ok (.aload_n 0, 1) := by decide +kernel
theorem dX7_figure_25 : decode cX7_figure 25 = .ok (.dup, 1) := by decide +kernel
theorem dX7_figure_26 : decode cX7_figure 26 = .ok (.getfield 91, 3) := by decide +kernel
theorem dX7_figure_29 : decode cX7_figure 29 = .ok (.iload 6, 2) := by decide +kernel
theorem dX7_figure_31 : decode cX7_figure 31 = .ok (.ifCond .eq 7, 3) := by decide +kernel
theorem dX7_figure_34 : decode cX7_figure 34 = .ok (.iconst 1, 1) := by decide +kernel
theorem dX7_figure_35 : decode cX7_figure 35 = .ok (.goto 4, 3) := by decide +kernel
theorem dX7_figure_38 : decode cX7_figure 38 = .ok (.iconst 0, 1) := by decide +kernel
theorem dX7_figure_39 : decode cX7_figure 39 = .ok (.iadd, 1) := by decide +kernel
theorem dX7_figure_40 : decode cX7_figure 40 = .ok (.putfield 91, 3) := by decide +kernel
theorem dX7_figure_43 : decode cX7_figure 43 = .ok (.iload 6, 2) := by decide +kernel
theorem dX7_figure_45 : decode cX7_figure 45 = .ok (.ifCond .eq 8, 3) := by decide +kernel
theorem dX7_figure_48 : decode cX7_figure 48 = .ok (.iload 5, 2) := by decide +kernel
theorem dX7_figure_50 : decode cX7_figure 50 = .ok (.goto 5, 3) := by decide +kernel
theorem dX7_figure_53 : decode cX7_figure 53 = .ok (.bipush (-9), 2) := by decide +kernel
theorem dX7_figure_55 : decode cX7_figure 55 = .ok (.ireturn, 1) := by decide +kernel
theorem dX7_readsThing_0 : decode cX7_readsThing 0 = .ok (.aload_n 0, 1) := by decide +kernel
theorem dX7_readsThing_1 : decode cX7_readsThing 1 = .ok (.getfield 98, 3) := by decide +kernel
theorem dX7_readsThing_4 : decode cX7_readsThing 4 = .ok (.iconst 5, 1) := by decide +kernel
theorem dX7_readsThing_5 : decode cX7_readsThing 5 = .ok (.if_icmp .eq 14, 3) := by decide +kernel
theorem dX7_readsThing_8 : decode cX7_readsThing 8 = .ok (.aload_n 0, 1) := by decide +kernel
theorem dX7_readsThing_9 : decode cX7_readsThing 9 = .ok (.iload_n 1, 1) := by decide +kernel
theorem dX7_readsThing_10 : decode cX7_readsThing 10 = .ok (.iload_n 2, 1) := by decide +kernel
theorem dX7_readsThing_11 : decode cX7_readsThing 11 = .ok (.invokevirtual 94, 3) := by decide +kernel
theorem dX7_readsThing_14 : decode cX7_readsThing 14 = .ok (.bipush 59, 2) := by decide +kernel
theorem dX7_readsThing_16 : decode cX7_readsThing 16 = .ok (.if_icmp .eq 5, 3) := by decide +kernel
theorem dX7_readsThing_19 : decode cX7_readsThing 19 = .ok (.iconst 0, 1) := by decide +kernel
theorem dX7_readsThing_20 : decode cX7_readsThing 20 = .ok (.ireturn, 1) := by decide +kernel
theorem dX7_readsThing_21 : decode cX7_readsThing 21 = .ok (.aload_n 0, 1) := by decide +kernel
theorem dX7_readsThing_22 : decode cX7_readsThing 22 = .ok (.dup, 1) := by decide +kernel
theorem dX7_readsThing_23 : decode cX7_readsThing 23 = .ok (.getfield 91, 3) := by decide +kernel
theorem dX7_readsThing_26 : decode cX7_readsThing 26 = .ok (.iconst 1, 1) := by decide +kernel
theorem dX7_readsThing_27 : decode cX7_readsThing 27 = .ok (.iadd, 1) := by decide +kernel
theorem dX7_readsThing_28 : decode cX7_readsThing 28 = .ok (.putfield 91, 3) := by decide +kernel
theorem dX7_readsThing_31 : decode cX7_readsThing 31 = .ok (.aload_n 0, 1) := by decide +kernel
theorem dX7_readsThing_32 : decode cX7_readsThing 32 = .ok (.iload_n 1, 1) := by decide +kernel
theorem dX7_readsThing_33 : decode cX7_readsThing 33 = .ok (.iload_n 2, 1) := by decide +kernel
theorem dX7_readsThing_34 : decode cX7_readsThing 34 = .ok (.invokevirtual 94, 3) := by decide +kernel
theorem dX7_readsThing_37 : decode cX7_readsThing 37 = .ok (.istore_n 3, 1) := by decide +kernel
theorem dX7_readsThing_38 : decode cX7_readsThing 38 = .ok (.iload_n 3, 1) := by decide +kernel
theorem dX7_readsThing_39 : decode cX7_readsThing 39 = .ok (.bipush 116, 2) := by decide +kernel
theorem dX7_readsThing_41 : decode cX7_readsThing 41 = .ok (.if_icmp .eq 17, 3) := by decide +kernel
theorem dX7_readsThing_44 : decode cX7_readsThing 44 = .ok (.iload_n 3, 1) := by decide +kernel
theorem dX7_readsThing_45 : decode cX7_readsThing 45 = .ok (.bipush 104, 2) := by decide +kernel
theorem dX7_readsThing_47 : decode cX7_readsThing 47 = .ok (.if_icmp .eq 11, 3) := by decide +kernel
theorem dX7_readsThing_50 : decode cX7_readsThing 50 = .ok (.iload_n 3, 1) := by decide +kernel
theorem dX7_readsThing_51 : decode cX7_readsThing 51 = .ok (.bipush 108, 2) := by decide +kernel
theorem dX7_readsThing_53 : decode cX7_readsThing 53 = .ok (.if_icmp .eq 5, 3) := by decide +kernel
theorem dX7_readsThing_56 : decode cX7_readsThing 56 = .ok (.iconst 0, 1) := by decide +kernel
theorem dX7_readsThing_57 : decode cX7_readsThing 57 = .ok (.ireturn, 1) := by decide +kernel
theorem dX7_readsThing_58 : decode cX7_readsThing 58 = .ok (.aload_n 0, 1) := by decide +kernel
theorem dX7_readsThing_59 : decode cX7_readsThing 59 = .ok (.dup, 1) := by decide +kernel
theorem dX7_readsThing_60 : decode cX7_readsThing 60 = .ok (.getfield 91, 3) := by decide +kernel
theorem dX7_readsThing_63 : decode cX7_readsThing 63 = .ok (.iconst 1, 1) := by decide +kernel
theorem dX7_readsThing_64 : decode cX7_readsThing 64 = .ok (.iadd, 1) := by decide +kernel
theorem dX7_readsThing_65 : decode cX7_readsThing 65 = .ok (.putfield 91, 3) := by decide +kernel
theorem dX7_readsThing_68 : decode cX7_readsThing 68 = .ok (.aload_n 0, 1) := by decide +kernel
theorem dX7_readsThing_69 : decode cX7_readsThing 69 = .ok (.iload_n 1, 1) := by decide +kernel
theorem dX7_readsThing_70 : decode cX7_readsThing 70 = .ok (.iload_n 2, 1) := by decide +kernel
theorem dX7_readsThing_71 : decode cX7_readsThing 71 = .ok (.iconst 0, 1) := by decide +kernel
theorem dX7_readsThing_72 : decode cX7_readsThing 72 = .ok (.iconst 3, 1) := by decide +kernel
theorem dX7_readsThing_73 : decode cX7_readsThing 73 = .ok (.invokevirtual 101, 3) := by decide +kernel
theorem dX7_readsThing_76 : decode cX7_readsThing 76 = .ok (.istore 4, 2) := by decide +kernel
theorem dX7_readsThing_78 : decode cX7_readsThing 78 = .ok (.iload 4, 2) := by decide +kernel
theorem dX7_readsThing_80 : decode cX7_readsThing 80 = .ok (.ifCond .ge 8, 3) := by decide +kernel
theorem dX7_readsThing_83 : decode cX7_readsThing 83 = .ok (.bipush (-9), 2) := by decide +kernel
theorem dX7_readsThing_85 : decode cX7_readsThing 85 = .ok (.goto 12, 3) := by decide +kernel
theorem dX7_readsThing_88 : decode cX7_readsThing 88 = .ok (.aload_n 0, 1) := by decide +kernel
theorem dX7_readsThing_89 : decode cX7_readsThing 89 = .ok (.iload_n 1, 1) := by decide +kernel
theorem dX7_readsThing_90 : decode cX7_readsThing 90 = .ok (.iload_n 2, 1) := by decide +kernel
theorem dX7_readsThing_91 : decode cX7_readsThing 91 = .ok (.iconst 1, 1) := by decide +kernel
theorem dX7_readsThing_92 : decode cX7_readsThing 92 = .ok (.bipush 9, 2) := by decide +kernel
theorem dX7_readsThing_94 : decode cX7_readsThing 94 = .ok (.invokevirtual 101, 3) := by decide +kernel
theorem dX7_readsThing_97 : decode cX7_readsThing 97 = .ok (.istore 5, 2) := by decide +kernel
theorem dX7_readsThing_99 : decode cX7_readsThing 99 = .ok (.iload 5, 2) := by decide +kernel
theorem dX7_readsThing_101 : decode cX7_readsThing 101 = .ok (.ifCond .ge 8, 3) := by decide +kernel
theorem dX7_readsThing_104 : decode cX7_readsThing 104 = .ok (.bipush (-9), 2) := by decide +kernel
theorem dX7_readsThing_106 : decode cX7_readsThing 106 = .ok (.goto 12, 3) := by decide +kernel
theorem dX7_readsThing_109 : decode cX7_readsThing 109 = .ok (.aload_n 0, 1) := by decide +kernel
theorem dX7_readsThing_110 : decode cX7_readsThing 110 = .ok (.iload_n 1, 1) := by decide +kernel
theorem dX7_readsThing_111 : decode cX7_readsThing 111 = .ok (.iload_n 2, 1) := by decide +kernel
theorem dX7_readsThing_112 : decode cX7_readsThing 112 = .ok (.iconst 1, 1) := by decide +kernel
theorem dX7_readsThing_113 : decode cX7_readsThing 113 = .ok (.bipush 6, 2) := by decide +kernel
theorem dX7_readsThing_115 : decode cX7_readsThing 115 = .ok (.invokevirtual 101, 3) := by decide +kernel
theorem dX7_readsThing_118 : decode cX7_readsThing 118 = .ok (.istore 6, 2) := by decide +kernel
theorem dX7_readsThing_120 : decode cX7_readsThing 120 = .ok (.iload 6, 2) := by decide +kernel
theorem dX7_readsThing_122 : decode cX7_readsThing 122 = .ok (.ifCond .ge 8, 3) := by decide +kernel
theorem dX7_readsThing_125 : decode cX7_readsThing 125 = .ok (.bipush (-9), 2) := by decide +kernel
theorem dX7_readsThing_127 : decode cX7_readsThing 127 = .ok (.goto 12, 3) := by decide +kernel
theorem dX7_readsThing_130 : decode cX7_readsThing 130 = .ok (.aload_n 0, 1) := by decide +kernel
theorem dX7_readsThing_131 : decode cX7_readsThing 131 = .ok (.iload_n 1, 1) := by decide +kernel
theorem dX7_readsThing_132 : decode cX7_readsThing 132 = .ok (.iload_n 2, 1) := by decide +kernel
theorem dX7_readsThing_133 : decode cX7_readsThing 133 = .ok (.iconst 0, 1) := by decide +kernel
theorem dX7_readsThing_134 : decode cX7_readsThing 134 = .ok (.bipush 6, 2) := by decide +kernel
theorem dX7_readsThing_136 : decode cX7_readsThing 136 = .ok (.invokevirtual 101, 3) := by decide +kernel
theorem dX7_readsThing_139 : decode cX7_readsThing 139 = .ok (.istore 7, 2) := by decide +kernel
theorem dX7_readsThing_141 : decode cX7_readsThing 141 = .ok (.iload 7, 2) := by decide +kernel
theorem dX7_readsThing_143 : decode cX7_readsThing 143 = .ok (.ifCond .ge 8, 3) := by decide +kernel
theorem dX7_readsThing_146 : decode cX7_readsThing 146 = .ok (.bipush (-9), 2) := by decide +kernel
theorem dX7_readsThing_148 : decode cX7_readsThing 148 = .ok (.goto 23, 3) := by decide +kernel
theorem dX7_readsThing_151 : decode cX7_readsThing 151 = .ok (.aload_n 0, 1) := by decide +kernel
theorem dX7_readsThing_152 : decode cX7_readsThing 152 = .ok (.iload_n 1, 1) := by decide +kernel
theorem dX7_readsThing_153 : decode cX7_readsThing 153 = .ok (.iload_n 2, 1) := by decide +kernel
theorem dX7_readsThing_154 : decode cX7_readsThing 154 = .ok (.iconst 0, 1) := by decide +kernel
theorem dX7_readsThing_155 : decode cX7_readsThing 155 = .ok (.iload 7, 2) := by decide +kernel
theorem dX7_readsThing_157 : decode cX7_readsThing 157 = .ok (.bipush 6, 2) := by decide +kernel
theorem dX7_readsThing_159 : decode cX7_readsThing 159 = .ok (.if_icmp .ne 7, 3) := by decide +kernel
theorem dX7_readsThing_162 : decode cX7_readsThing 162 = .ok (.iconst 3, 1) := by decide +kernel
theorem dX7_readsThing_163 : decode cX7_readsThing 163 = .ok (.goto 5, 3) := by decide +kernel
theorem dX7_readsThing_166 : decode cX7_readsThing 166 = .ok (.bipush 9, 2) := by decide +kernel
theorem dX7_readsThing_168 : decode cX7_readsThing 168 = .ok (.invokevirtual 101, 3) := by decide +kernel
theorem dX7_readsThing_171 : decode cX7_readsThing 171 = .ok (.istore 8, 2) := by decide +kernel
theorem dX7_readsThing_173 : decode cX7_readsThing 173 = .ok (.iload 8, 2) := by decide +kernel
theorem dX7_readsThing_175 : decode cX7_readsThing 175 = .ok (.ifCond .ge 5, 3) := by decide +kernel
theorem dX7_readsThing_178 : decode cX7_readsThing 178 = .ok (.iconst 0, 1) := by decide +kernel
theorem dX7_readsThing_179 : decode cX7_readsThing 179 = .ok (.ireturn, 1) := by decide +kernel
theorem dX7_readsThing_180 : decode cX7_readsThing 180 = .ok (.aload_n 0, 1) := by decide +kernel
theorem dX7_readsThing_181 : decode cX7_readsThing 181 = .ok (.getfield 25, 3) := by decide +kernel
theorem dX7_readsThing_184 : decode cX7_readsThing 184 = .ok (.aload_n 0, 1) := by decide +kernel
theorem dX7_readsThing_185 : decode cX7_readsThing 185 = .ok (.getfield 98, 3) := by decide +kernel
theorem dX7_readsThing_188 : decode cX7_readsThing 188 = .ok (.iload_n 3, 1) := by decide +kernel
theorem dX7_readsThing_189 : decode cX7_readsThing 189 = .ok (.bipush 116, 2) := by decide +kernel
theorem dX7_readsThing_191 : decode cX7_readsThing 191 = .ok (.if_icmp .ne 7, 3) := by decide +kernel
theorem dX7_readsThing_194 : decode cX7_readsThing 194 = .ok (.iconst 0, 1) := by decide +kernel
theorem dX7_readsThing_195 : decode cX7_readsThing 195 = .ok (.goto 14, 3) := by decide +kernel
theorem dX7_readsThing_198 : decode cX7_readsThing 198 = .ok (.iload_n 3, 1) := by decide +kernel
theorem dX7_readsThing_199 : decode cX7_readsThing 199 = .ok (.bipush 104, 2) := by decide +kernel
theorem dX7_readsThing_201 : decode cX7_readsThing 201 = .ok (.if_icmp .ne 7, 3) := by decide +kernel
theorem dX7_readsThing_204 : decode cX7_readsThing 204 = .ok (.iconst 1, 1) := by decide +kernel
theorem dX7_readsThing_205 : decode cX7_readsThing 205 = .ok (.goto 4, 3) := by decide +kernel
theorem dX7_readsThing_208 : decode cX7_readsThing 208 = .ok (.iconst 2, 1) := by decide +kernel
theorem dX7_readsThing_209 : decode cX7_readsThing 209 = .ok (.iastore, 1) := by decide +kernel
theorem dX7_readsThing_210 : decode cX7_readsThing 210 = .ok (.aload_n 0, 1) := by decide +kernel
theorem dX7_readsThing_211 : decode cX7_readsThing 211 = .ok (.getfield 28, 3) := by decide +kernel
theorem dX7_readsThing_214 : decode cX7_readsThing 214 = .ok (.aload_n 0, 1) := by decide +kernel
theorem dX7_readsThing_215 : decode cX7_readsThing 215 = .ok (.getfield 98, 3) := by decide +kernel
theorem dX7_readsThing_218 : decode cX7_readsThing 218 = .ok (.iload 4, 2) := by decide +kernel
theorem dX7_readsThing_220 : decode cX7_readsThing 220 = .ok (.iastore, 1) := by decide +kernel
theorem dX7_readsThing_221 : decode cX7_readsThing 221 = .ok (.aload_n 0, 1) := by decide +kernel
theorem dX7_readsThing_222 : decode cX7_readsThing 222 = .ok (.getfield 31, 3) := by decide +kernel
theorem dX7_readsThing_225 : decode cX7_readsThing 225 = .ok (.aload_n 0, 1) := by decide +kernel
theorem dX7_readsThing_226 : decode cX7_readsThing 226 = .ok (.getfield 98, 3) := by decide +kernel
theorem dX7_readsThing_229 : decode cX7_readsThing 229 = .ok (.iload 5, 2) := by decide +kernel
theorem dX7_readsThing_231 : decode cX7_readsThing 231 = .ok (.iastore, 1) := by decide +kernel
theorem dX7_readsThing_232 : decode cX7_readsThing 232 = .ok (.aload_n 0, 1) := by decide +kernel
theorem dX7_readsThing_233 : decode cX7_readsThing 233 = .ok (.getfield 34, 3) := by decide +kernel
theorem dX7_readsThing_236 : decode cX7_readsThing 236 = .ok (.aload_n 0, 1) := by decide +kernel
theorem dX7_readsThing_237 : decode cX7_readsThing 237 = .ok (.getfield 98, 3) := by decide +kernel
theorem dX7_readsThing_240 : decode cX7_readsThing 240 = .ok (.iload 6, 2) := by decide +kernel
theorem dX7_readsThing_242 : decode cX7_readsThing 242 = .ok (.iastore, 1) := by decide +kernel
theorem dX7_readsThing_243 : decode cX7_readsThing 243 = .ok (.aload_n 0, 1) := by decide +kernel
theorem dX7_readsThing_244 : decode cX7_readsThing 244 = .ok (.getfield 37, 3) := by decide +kernel
theorem dX7_readsThing_247 : decode cX7_readsThing 247 = .ok (.aload_n 0, 1) := by decide +kernel
theorem dX7_readsThing_248 : decode cX7_readsThing 248 = .ok (.getfield 98, 3) := by decide +kernel
theorem dX7_readsThing_251 : decode cX7_readsThing 251 = .ok (.bipush 10, 2) := by decide +kernel
theorem dX7_readsThing_253 : decode cX7_readsThing 253 = .ok (.iload 7, 2) := by decide +kernel
theorem dX7_readsThing_255 : decode cX7_readsThing 255 = .ok (.imul, 1) := by decide +kernel
theorem dX7_readsThing_256 : decode cX7_readsThing 256 = .ok (.iload 8, 2) := by decide +kernel
theorem dX7_readsThing_258 : decode cX7_readsThing 258 = .ok (.iadd, 1) := by decide +kernel
theorem dX7_readsThing_259 : decode cX7_readsThing 259 = .ok (.iastore, 1) := by decide +kernel
theorem dX7_readsThing_260 : decode cX7_readsThing 260 = .ok (.aload_n 0, 1) := by decide +kernel
theorem dX7_readsThing_261 : decode cX7_readsThing 261 = .ok (.dup, 1) := by decide +kernel
theorem dX7_readsThing_262 : decode cX7_readsThing 262 = .ok (.getfield 98, 3) := by decide +kernel
theorem dX7_readsThing_265 : decode cX7_readsThing 265 = .ok (.iconst 1, 1) := by decide +kernel
theorem dX7_readsThing_266 : decode cX7_readsThing 266 = .ok (.iadd, 1) := by decide +kernel
theorem dX7_readsThing_267 : decode cX7_readsThing 267 = .ok (.putfield 98, 3) := by decide +kernel
theorem dX7_readsThing_270 : decode cX7_readsThing 270 = .ok (.iconst 1, 1) := by decide +kernel
theorem dX7_readsThing_271 : decode cX7_readsThing 271 = .ok (.ireturn, 1) := by decide +kernel
theorem dX7_readsMuseum_0 : decode cX7_readsMuseum 0 = .ok (.aload_n 0, 1) := by decide +kernel
theorem dX7_readsMuseum_1 : decode cX7_readsMuseum 1 = .ok (.iconst 0, 1) := by decide +kernel
theorem dX7_readsMuseum_2 : decode cX7_readsMuseum 2 = .ok (.putfield 91, 3) := by decide +kernel
theorem dX7_readsMuseum_5 : decode cX7_readsMuseum 5 = .ok (.aload_n 0, 1) := by decide +kernel
theorem dX7_readsMuseum_6 : decode cX7_readsMuseum 6 = .ok (.iconst 0, 1) := by decide +kernel
theorem dX7_readsMuseum_7 : decode cX7_readsMuseum 7 = .ok (.putfield 98, 3) := by decide +kernel
theorem dX7_readsMuseum_10 : decode cX7_readsMuseum 10 = .ok (.aload_n 0, 1) := by decide +kernel
theorem dX7_readsMuseum_11 : decode cX7_readsMuseum 11 = .ok (.iload_n 1, 1) := by decide +kernel
theorem dX7_readsMuseum_12 : decode cX7_readsMuseum 12 = .ok (.iload_n 2, 1) := by decide +kernel
theorem dX7_readsMuseum_13 : decode cX7_readsMuseum 13 = .ok (.invokevirtual 94, 3) := by decide +kernel
theorem dX7_readsMuseum_16 : decode cX7_readsMuseum 16 = .ok (.bipush 117, 2) := by decide +kernel
theorem dX7_readsMuseum_18 : decode cX7_readsMuseum 18 = .ok (.if_icmp .ne 7, 3) := by decide +kernel
theorem dX7_readsMuseum_21 : decode cX7_readsMuseum 21 = .ok (.iconst 1, 1) := by decide +kernel
theorem dX7_readsMuseum_22 : decode cX7_readsMuseum 22 = .ok (.goto 4, 3) := by decide +kernel
theorem dX7_readsMuseum_25 : decode cX7_readsMuseum 25 = .ok (.iconst 0, 1) := by decide +kernel
theorem dX7_readsMuseum_26 : decode cX7_readsMuseum 26 = .ok (.istore_n 3, 1) := by decide +kernel
theorem dX7_readsMuseum_27 : decode cX7_readsMuseum 27 = .ok (.aload_n 0, 1) := by decide +kernel
theorem dX7_readsMuseum_28 : decode cX7_readsMuseum 28 = .ok (.dup, 1) := by decide +kernel
theorem dX7_readsMuseum_29 : decode cX7_readsMuseum 29 = .ok (.getfield 91, 3) := by decide +kernel
theorem dX7_readsMuseum_32 : decode cX7_readsMuseum 32 = .ok (.iload_n 3, 1) := by decide +kernel
theorem dX7_readsMuseum_33 : decode cX7_readsMuseum 33 = .ok (.ifCond .eq 7, 3) := by decide +kernel
theorem dX7_readsMuseum_36 : decode cX7_readsMuseum 36 = .ok (.iconst 1, 1) := by decide +kernel
theorem dX7_readsMuseum_37 : decode cX7_readsMuseum 37 = .ok (.goto 4, 3) := by decide +kernel
theorem dX7_readsMuseum_40 : decode cX7_readsMuseum 40 = .ok (.iconst 0, 1) := by decide +kernel
theorem dX7_readsMuseum_41 : decode cX7_readsMuseum 41 = .ok (.iadd, 1) := by decide +kernel
theorem dX7_readsMuseum_42 : decode cX7_readsMuseum 42 = .ok (.putfield 91, 3) := by decide +kernel
theorem dX7_readsMuseum_45 : decode cX7_readsMuseum 45 = .ok (.aload_n 0, 1) := by decide +kernel
theorem dX7_readsMuseum_46 : decode cX7_readsMuseum 46 = .ok (.iload_n 3, 1) := by decide +kernel
theorem dX7_readsMuseum_47 : decode cX7_readsMuseum 47 = .ok (.ifCond .eq 15, 3) := by decide +kernel
theorem dX7_readsMuseum_50 : decode cX7_readsMuseum 50 = .ok (.aload_n 0, 1) := by decide +kernel
theorem dX7_readsMuseum_51 : decode cX7_readsMuseum 51 = .ok (.iload_n 1, 1) := by decide +kernel
theorem dX7_readsMuseum_52 : decode cX7_readsMuseum 52 = .ok (.iload_n 2, 1) := by decide +kernel
theorem dX7_readsMuseum_53 : decode cX7_readsMuseum 53 = .ok (.iconst 0, 1) := by decide +kernel
theorem dX7_readsMuseum_54 : decode cX7_readsMuseum 54 = .ok (.bipush 9, 2) := by decide +kernel
theorem dX7_readsMuseum_56 : decode cX7_readsMuseum 56 = .ok (.invokevirtual 101, 3) := by decide +kernel
theorem dX7_readsMuseum_59 : decode cX7_readsMuseum 59 = .ok (.goto 5, 3) := by decide +kernel
theorem dX7_readsMuseum_62 : decode cX7_readsMuseum 62 = .ok (.bipush (-9), 2) := by decide +kernel
theorem dX7_readsMuseum_64 : decode cX7_readsMuseum 64 = .ok (.putfield 105, 3) := by decide +kernel
theorem dX7_readsMuseum_67 : decode cX7_readsMuseum 67 = .ok (.aload_n 0, 1) := by decide +kernel
theorem dX7_readsMuseum_68 : decode cX7_readsMuseum 68 = .ok (.getfield 105, 3) := by decide +kernel
theorem dX7_readsMuseum_71 : decode cX7_readsMuseum 71 = .ok (.ifCond .lt 7, 3) := by decide +kernel
theorem dX7_readsMuseum_74 : decode cX7_readsMuseum 74 = .ok (.iconst 1, 1) := by decide +kernel
theorem dX7_readsMuseum_75 : decode cX7_readsMuseum 75 = .ok (.goto 4, 3) := by decide +kernel
theorem dX7_readsMuseum_78 : decode cX7_readsMuseum 78 = .ok (.iconst 0, 1) := by decide +kernel
theorem dX7_readsMuseum_79 : decode cX7_readsMuseum 79 = .ok (.istore_n 3, 1) := by decide +kernel
theorem dX7_readsMuseum_80 : decode cX7_readsMuseum 80 = .ok (.iload_n 3, 1) := by decide +kernel
theorem dX7_readsMuseum_81 : decode cX7_readsMuseum 81 = .ok (.ifCond .eq 28, 3) := by decide +kernel
theorem dX7_readsMuseum_84 : decode cX7_readsMuseum 84 = .ok (.aload_n 0, 1) := by decide +kernel
theorem dX7_readsMuseum_85 : decode cX7_readsMuseum 85 = .ok (.getfield 98, 3) := by decide +kernel
theorem dX7_readsMuseum_88 : decode cX7_readsMuseum 88 = .ok (.ifCond .eq 11, 3) := by decide +kernel
theorem dX7_readsMuseum_91 : decode cX7_readsMuseum 91 = .ok (.aload_n 0, 1) := by decide +kernel
theorem dX7_readsMuseum_92 : decode cX7_readsMuseum 92 = .ok (.getfield 91, 3) := by decide +kernel
theorem dX7_readsMuseum_95 : decode cX7_readsMuseum 95 = .ok (.iload_n 2, 1) := by decide +kernel
theorem dX7_readsMuseum_96 : decode cX7_readsMuseum 96 = .ok (.if_icmp .ge 13, 3) := by decide +kernel
theorem dX7_readsMuseum_99 : decode cX7_readsMuseum 99 = .ok (.aload_n 0, 1) := by decide +kernel
theorem dX7_readsMuseum_100 : decode cX7_readsMuseum 100 = .ok (.iload_n 1, 1) := by decide +kernel
theorem dX7_readsMuseum_101 : decode cX7_readsMuseum 101 = .ok (.iload_n 2, 1) := by decide +kernel
theorem dX7_readsMuseum_102 : decode cX7_readsMuseum 102 = .ok (.invokevirtual 108, 3) := by decide +kernel
theorem dX7_readsMuseum_105 : decode cX7_readsMuseum 105 = .ok (.istore_n 3, 1) := by decide +kernel
theorem dX7_readsMuseum_106 : decode cX7_readsMuseum 106 = .ok (.goto (-26), 3) := by decide +kernel
theorem dX7_readsMuseum_109 : decode cX7_readsMuseum 109 = .ok (.iload_n 3, 1) := by decide +kernel
theorem dX7_readsMuseum_110 : decode cX7_readsMuseum 110 = .ok (.ireturn, 1) := by decide +kernel
theorem dX7_cellsBarred_0 : decode cX7_cellsBarred 0 = .ok (.aload_n 0, 1) := by decide +kernel
theorem dX7_cellsBarred_1 : decode cX7_cellsBarred 1 = .ok (.getfield 59, 3) := by decide +kernel
theorem dX7_cellsBarred_4 : decode cX7_cellsBarred 4 = .ok (.iload_n 1, 1) := by decide +kernel
theorem dX7_cellsBarred_5 : decode cX7_cellsBarred 5 = .ok (.iaload, 1) := by decide +kernel
theorem dX7_cellsBarred_6 : decode cX7_cellsBarred 6 = .ok (.ifCond .lt 19, 3) := by decide +kernel
theorem dX7_cellsBarred_9 : decode cX7_cellsBarred 9 = .ok (.aload_n 0, 1) := by decide +kernel
theorem dX7_cellsBarred_10 : decode cX7_cellsBarred 10 = .ok (.getfield 62, 3) := by decide +kernel
theorem dX7_cellsBarred_13 : decode cX7_cellsBarred 13 = .ok (.iload_n 1, 1) := by decide +kernel
theorem dX7_cellsBarred_14 : decode cX7_cellsBarred 14 = .ok (.iaload, 1) := by decide +kernel
theorem dX7_cellsBarred_15 : decode cX7_cellsBarred 15 = .ok (.iload_n 2, 1) := by decide +kernel
theorem dX7_cellsBarred_16 : decode cX7_cellsBarred 16 = .ok (.if_icmp .eq 9, 3) := by decide +kernel
theorem dX7_cellsBarred_19 : decode cX7_cellsBarred 19 = .ok (.aload_n 0, 1) := by decide +kernel
theorem dX7_cellsBarred_20 : decode cX7_cellsBarred 20 = .ok (.iconst 2, 1) := by decide +kernel
theorem dX7_cellsBarred_21 : decode cX7_cellsBarred 21 = .ok (.invokevirtual 112, 3) := by decide +kernel
theorem dX7_cellsBarred_24 : decode cX7_cellsBarred 24 = .ok (.ireturn, 1) := by decide +kernel
theorem dX7_cellsBarred_25 : decode cX7_cellsBarred 25 = .ok (.aload_n 0, 1) := by decide +kernel
theorem dX7_cellsBarred_26 : decode cX7_cellsBarred 26 = .ok (.getfield 59, 3) := by decide +kernel
theorem dX7_cellsBarred_29 : decode cX7_cellsBarred 29 = .ok (.iload_n 1, 1) := by decide +kernel
theorem dX7_cellsBarred_30 : decode cX7_cellsBarred 30 = .ok (.iaload, 1) := by decide +kernel
theorem dX7_cellsBarred_31 : decode cX7_cellsBarred 31 = .ok (.ifCond .ge 9, 3) := by decide +kernel
theorem dX7_cellsBarred_34 : decode cX7_cellsBarred 34 = .ok (.aload_n 0, 1) := by decide +kernel
theorem dX7_cellsBarred_35 : decode cX7_cellsBarred 35 = .ok (.iconst 1, 1) := by decide +kernel
theorem dX7_cellsBarred_36 : decode cX7_cellsBarred 36 = .ok (.invokevirtual 112, 3) := by decide +kernel
theorem dX7_cellsBarred_39 : decode cX7_cellsBarred 39 = .ok (.ireturn, 1) := by decide +kernel
theorem dX7_cellsBarred_40 : decode cX7_cellsBarred 40 = .ok (.lload 4, 2) := by decide +kernel
theorem dX7_cellsBarred_42 : decode cX7_cellsBarred 42 = .ok (.lconst 0, 1) := by decide +kernel
theorem dX7_cellsBarred_43 : decode cX7_cellsBarred 43 = .ok (.lcmp, 1) := by decide +kernel
theorem dX7_cellsBarred_44 : decode cX7_cellsBarred 44 = .ok (.ifCond .ge 9, 3) := by decide +kernel
theorem dX7_cellsBarred_47 : decode cX7_cellsBarred 47 = .ok (.aload_n 0, 1) := by decide +kernel
theorem dX7_cellsBarred_48 : decode cX7_cellsBarred 48 = .ok (.iconst 4, 1) := by decide +kernel
theorem dX7_cellsBarred_49 : decode cX7_cellsBarred 49 = .ok (.invokevirtual 112, 3) := by decide +kernel
theorem dX7_cellsBarred_52 : decode cX7_cellsBarred 52 = .ok (.ireturn, 1) := by decide +kernel
theorem dX7_cellsBarred_53 : decode cX7_cellsBarred 53 = .ok (.iload_n 3, 1) := by decide +kernel
theorem dX7_cellsBarred_54 : decode cX7_cellsBarred 54 = .ok (.lload 4, 2) := by decide +kernel
theorem dX7_cellsBarred_56 : decode cX7_cellsBarred 56 = .ok (.aload_n 0, 1) := by decide +kernel
theorem dX7_cellsBarred_57 : decode cX7_cellsBarred 57 = .ok (.getfield 59, 3) := by decide +kernel
theorem dX7_cellsBarred_60 : decode cX7_cellsBarred 60 = .ok (.iload_n 1, 1) := by decide +kernel
theorem dX7_cellsBarred_61 : decode cX7_cellsBarred 61 = .ok (.iaload, 1) := by decide +kernel
theorem dX7_cellsBarred_62 : decode cX7_cellsBarred 62 = .ok (.invokestatic 116, 3) := by decide +kernel
theorem dX7_cellsBarred_65 : decode cX7_cellsBarred 65 = .ok (.ifCond .eq 11, 3) := by decide +kernel
theorem dX7_cellsBarred_68 : decode cX7_cellsBarred 68 = .ok (.aload_n 0, 1) := by decide +kernel
theorem dX7_cellsBarred_69 : decode cX7_cellsBarred 69 = .ok (.iconst 3, 1) := by decide +kernel
theorem dX7_cellsBarred_70 : decode cX7_cellsBarred 70 = .ok (.invokevirtual 112, 3) := by decide +kernel
theorem dX7_cellsBarred_73 : decode cX7_cellsBarred 73 = .ok (.goto 4, 3) := by decide +kernel
theorem dX7_cellsBarred_76 : decode cX7_cellsBarred 76 = .ok (.iconst 0, 1) := by decide +kernel
theorem dX7_cellsBarred_77 : decode cX7_cellsBarred 77 = .ok (.ireturn, 1) := by decide +kernel
theorem dX7_museum_0 : decode cX7_museum 0 = .ok (.iload_n 1, 1) := by decide +kernel
theorem dX7_museum_1 : decode cX7_museum 1 = .ok (.invokestatic 120, 3) := by decide +kernel
theorem dX7_museum_4 : decode cX7_museum 4 = .ok (.ifCond .eq 9, 3) := by decide +kernel
theorem dX7_museum_7 : decode cX7_museum 7 = .ok (.aload_n 0, 1) := by decide +kernel
theorem dX7_museum_8 : decode cX7_museum 8 = .ok (.iconst (-1), 1) := by decide +kernel
theorem dX7_museum_9 : decode cX7_museum 9 = .ok (.invokevirtual 124, 3) := by decide +kernel
theorem dX7_museum_12 : decode cX7_museum 12 = .ok (.ireturn, 1) := by decide +kernel
theorem dX7_museum_13 : decode cX7_museum 13 = .ok (.iload_n 2, 1) := by decide +kernel
theorem dX7_museum_14 : decode cX7_museum 14 = .ok (.i2l, 1) := by decide +kernel
theorem dX7_museum_15 : decode cX7_museum 15 = .ok (.lconst 0, 1) := by decide +kernel
theorem dX7_museum_16 : decode cX7_museum 16 = .ok (.ldc2_w 127, 3) := by decide +kernel
theorem dX7_museum_19 : decode cX7_museum 19 = .ok (.invokestatic 87, 3) := by decide +kernel
theorem dX7_museum_22 : decode cX7_museum 22 = .ok (.ifCond .ne 10, 3) := by decide +kernel
theorem dX7_museum_25 : decode cX7_museum 25 = .ok (.aload_n 0, 1) := by decide +kernel
theorem dX7_museum_26 : decode cX7_museum 26 = .ok (.bipush (-2), 2) := by decide +kernel
theorem dX7_museum_28 : decode cX7_museum 28 = .ok (.invokevirtual 124, 3) := by decide +kernel
theorem dX7_museum_31 : decode cX7_museum 31 = .ok (.ireturn, 1) := by decide +kernel
theorem dX7_museum_32 : decode cX7_museum 32 = .ok (.aload_n 0, 1) := by decide +kernel
theorem dX7_museum_33 : decode cX7_museum 33 = .ok (.iload_n 1, 1) := by decide +kernel
theorem dX7_museum_34 : decode cX7_museum 34 = .ok (.iload_n 2, 1) := by decide +kernel
theorem dX7_museum_35 : decode cX7_museum 35 = .ok (.iload_n 3, 1) := by decide +kernel
theorem dX7_museum_36 : decode cX7_museum 36 = .ok (.iload 4, 2) := by decide +kernel
theorem dX7_museum_38 : decode cX7_museum 38 = .ok (.i2l, 1) := by decide +kernel
theorem dX7_museum_39 : decode cX7_museum 39 = .ok (.invokevirtual 129, 3) := by decide +kernel
theorem dX7_museum_42 : decode cX7_museum 42 = .ok (.istore 5, 2) := by decide +kernel
theorem dX7_museum_44 : decode cX7_museum 44 = .ok (.iload 5, 2) := by decide +kernel
theorem dX7_museum_46 : decode cX7_museum 46 = .ok (.ifCond .ge 6, 3) := by decide +kernel
theorem dX7_museum_49 : decode cX7_museum 49 = .ok (.iload 5, 2) := by decide +kernel
theorem dX7_museum_51 : decode cX7_museum 51 = .ok (.ireturn, 1) := by decide +kernel
theorem dX7_museum_52 : decode cX7_museum 52 = .ok (.aload_n 0, 1) := by decide +kernel
theorem dX7_museum_53 : decode cX7_museum 53 = .ok (.bipush 60, 2) := by decide +kernel
theorem dX7_museum_55 : decode cX7_museum 55 = .ok (.iload_n 1, 1) := by decide +kernel
theorem dX7_museum_56 : decode cX7_museum 56 = .ok (.imul, 1) := by decide +kernel
theorem dX7_museum_57 : decode cX7_museum 57 = .ok (.iload_n 3, 1) := by decide +kernel
theorem dX7_museum_58 : decode cX7_museum 58 = .ok (.iadd, 1) := by decide +kernel
theorem dX7_museum_59 : decode cX7_museum 59 = .ok (.iload 4, 2) := by decide +kernel
theorem dX7_museum_61 : decode cX7_museum 61 = .ok (.invokevirtual 133, 3) := by decide +kernel
theorem dX7_museum_64 : decode cX7_museum 64 = .ok (.ifCond .ne 15, 3) := by decide +kernel
theorem dX7_museum_67 : decode cX7_museum 67 = .ok (.aload_n 0, 1) := by decide +kernel
theorem dX7_museum_68 : decode cX7_museum 68 = .ok (.bipush (-100), 2) := by decide +kernel
theorem dX7_museum_70 : decode cX7_museum 70 = .ok (.aload_n 0, 1) := by decide +kernel
theorem dX7_museum_71 : decode cX7_museum 71 = .ok (.getfield 91, 3) := by decide +kernel
theorem dX7_museum_74 : decode cX7_museum 74 = .ok (.isub, 1) := by decide +kernel
theorem dX7_museum_75 : decode cX7_museum 75 = .ok (.invokevirtual 124, 3) := by decide +kernel
