theorem dX7_museum_78 : decode cX7_museum 78 = .ok (.ireturn, 1) := by decide +kernel
theorem dX7_museum_79 : decode cX7_museum 79 = .ok (.aload_n 0, 1) := by decide +kernel
theorem dX7_museum_80 : decode cX7_museum 80 = .ok (.aload_n 0, 1) := by decide +kernel
theorem dX7_museum_81 : decode cX7_museum 81 = .ok (.getfield 105, 3) := by decide +kernel
theorem dX7_museum_84 : decode cX7_museum 84 = .ok (.putfield 136, 3) := by decide +kernel
theorem dX7_museum_87 : decode cX7_museum 87 = .ok (.aload_n 0, 1) := by decide +kernel
theorem dX7_museum_88 : decode cX7_museum 88 = .ok (.iconst 3, 1) := by decide +kernel
theorem dX7_museum_89 : decode cX7_museum 89 = .ok (.putfield 139, 3) := by decide +kernel
theorem dX7_museum_92 : decode cX7_museum 92 = .ok (.aload_n 0, 1) := by decide +kernel
theorem dX7_museum_93 : decode cX7_museum 93 = .ok (.aload_n 0, 1) := by decide +kernel
theorem dX7_museum_94 : decode cX7_museum 94 = .ok (.getfield 98, 3) := by decide +kernel
theorem dX7_museum_97 : decode cX7_museum 97 = .ok (.putfield 84, 3) := by decide +kernel
theorem dX7_museum_100 : decode cX7_museum 100 = .ok (.iconst 0, 1) := by decide +kernel
theorem dX7_museum_101 : decode cX7_museum 101 = .ok (.istore 6, 2) := by decide +kernel
theorem dX7_museum_103 : decode cX7_museum 103 = .ok (.iload 6, 2) := by decide +kernel
theorem dX7_museum_105 : decode cX7_museum 105 = .ok (.aload_n 0, 1) := by decide +kernel
theorem dX7_museum_106 : decode cX7_museum 106 = .ok (.getfield 84, 3) := by decide +kernel
theorem dX7_museum_109 : decode cX7_museum 109 = .ok (.if_icmp .ge 79, 3) := by decide +kernel
theorem dX7_museum_112 : decode cX7_museum 112 = .ok (.aload_n 0, 1) := by decide +kernel
theorem dX7_museum_113 : decode cX7_museum 113 = .ok (.getfield 7, 3) := by decide +kernel
theorem dX7_museum_116 : decode cX7_museum 116 = .ok (.iload 6, 2) := by decide +kernel
theorem dX7_museum_118 : decode cX7_museum 118 = .ok (.aload_n 0, 1) := by decide +kernel
theorem dX7_museum_119 : decode cX7_museum 119 = .ok (.getfield 25, 3) := by decide +kernel
theorem dX7_museum_122 : decode cX7_museum 122 = .ok (.iload 6, 2) := by decide +kernel
theorem dX7_museum_124 : decode cX7_museum 124 = .ok (.iaload, 1) := by decide +kernel
theorem dX7_museum_125 : decode cX7_museum 125 = .ok (.iastore, 1) := by decide +kernel
theorem dX7_museum_126 : decode cX7_museum 126 = .ok (.aload_n 0, 1) := by decide +kernel
theorem dX7_museum_127 : decode cX7_museum 127 = .ok (.getfield 13, 3) := by decide +kernel
theorem dX7_museum_130 : decode cX7_museum 130 = .ok (.iload 6, 2) := by decide +kernel
theorem dX7_museum_132 : decode cX7_museum 132 = .ok (.aload_n 0, 1) := by decide +kernel
theorem dX7_museum_133 : decode cX7_museum 133 = .ok (.getfield 28, 3) := by decide +kernel
theorem dX7_museum_136 : decode cX7_museum 136 = .ok (.iload 6, 2) := by decide +kernel
theorem dX7_museum_138 : decode cX7_museum 138 = .ok (.iaload, 1) := by decide +kernel
theorem dX7_museum_139 : decode cX7_museum 139 = .ok (.iastore, 1) := by decide +kernel
theorem dX7_museum_140 : decode cX7_museum 140 = .ok (.aload_n 0, 1) := by decide +kernel
theorem dX7_museum_141 : decode cX7_museum 141 = .ok (.getfield 16, 3) := by decide +kernel
theorem dX7_museum_144 : decode cX7_museum 144 = .ok (.iload 6, 2) := by decide +kernel
theorem dX7_museum_146 : decode cX7_museum 146 = .ok (.aload_n 0, 1) := by decide +kernel
theorem dX7_museum_147 : decode cX7_museum 147 = .ok (.getfield 31, 3) := by decide +kernel
theorem dX7_museum_150 : decode cX7_museum 150 = .ok (.iload 6, 2) := by decide +kernel
theorem dX7_museum_152 : decode cX7_museum 152 = .ok (.iaload, 1) := by decide +kernel
theorem dX7_museum_153 : decode cX7_museum 153 = .ok (.iastore, 1) := by decide +kernel
theorem dX7_museum_154 : decode cX7_museum 154 = .ok (.aload_n 0, 1) := by decide +kernel
theorem dX7_museum_155 : decode cX7_museum 155 = .ok (.getfield 19, 3) := by decide +kernel
theorem dX7_museum_158 : decode cX7_museum 158 = .ok (.iload 6, 2) := by decide +kernel
theorem dX7_museum_160 : decode cX7_museum 160 = .ok (.aload_n 0, 1) := by decide +kernel
theorem dX7_museum_161 : decode cX7_museum 161 = .ok (.getfield 34, 3) := by decide +kernel
theorem dX7_museum_164 : decode cX7_museum 164 = .ok (.iload 6, 2) := by decide +kernel
theorem dX7_museum_166 : decode cX7_museum 166 = .ok (.iaload, 1) := by decide +kernel
theorem dX7_museum_167 : decode cX7_museum 167 = .ok (.iastore, 1) := by decide +kernel
theorem dX7_museum_168 : decode cX7_museum 168 = .ok (.aload_n 0, 1) := by decide +kernel
theorem dX7_museum_169 : decode cX7_museum 169 = .ok (.getfield 22, 3) := by decide +kernel
theorem dX7_museum_172 : decode cX7_museum 172 = .ok (.iload 6, 2) := by decide +kernel
theorem dX7_museum_174 : decode cX7_museum 174 = .ok (.aload_n 0, 1) := by decide +kernel
theorem dX7_museum_175 : decode cX7_museum 175 = .ok (.getfield 37, 3) := by decide +kernel
theorem dX7_museum_178 : decode cX7_museum 178 = .ok (.iload 6, 2) := by decide +kernel
theorem dX7_museum_180 : decode cX7_museum 180 = .ok (.iaload, 1) := by decide +kernel
theorem dX7_museum_181 : decode cX7_museum 181 = .ok (.iastore, 1) := by decide +kernel
theorem dX7_museum_182 : decode cX7_museum 182 = .ok (.iinc 6 1, 3) := by decide +kernel
theorem dX7_museum_185 : decode cX7_museum 185 = .ok (.goto (-82), 3) := by decide +kernel
theorem dX7_museum_188 : decode cX7_museum 188 = .ok (.aload_n 0, 1) := by decide +kernel
theorem dX7_museum_189 : decode cX7_museum 189 = .ok (.iconst 0, 1) := by decide +kernel
theorem dX7_museum_190 : decode cX7_museum 190 = .ok (.putfield 142, 3) := by decide +kernel
theorem dX7_museum_193 : decode cX7_museum 193 = .ok (.aload_n 0, 1) := by decide +kernel
theorem dX7_museum_194 : decode cX7_museum 194 = .ok (.aload_n 0, 1) := by decide +kernel
theorem dX7_museum_195 : decode cX7_museum 195 = .ok (.getfield 84, 3) := by decide +kernel
theorem dX7_museum_198 : decode cX7_museum 198 = .ok (.invokevirtual 124, 3) := by decide +kernel
theorem dX7_museum_201 : decode cX7_museum 201 = .ok (.ireturn, 1) := by decide +kernel
theorem dX7_valueOf_0 : decode cX7_valueOf 0 = .ok (.aload_n 0, 1) := by decide +kernel
theorem dX7_valueOf_1 : decode cX7_valueOf 1 = .ok (.getfield 16, 3) := by decide +kernel
theorem dX7_valueOf_4 : decode cX7_valueOf 4 = .ok (.iload_n 1, 1) := by decide +kernel
theorem dX7_valueOf_5 : decode cX7_valueOf 5 = .ok (.iaload, 1) := by decide +kernel
theorem dX7_valueOf_6 : decode cX7_valueOf 6 = .ok (.istore_n 2, 1) := by decide +kernel
theorem dX7_valueOf_7 : decode cX7_valueOf 7 = .ok (.aload_n 0, 1) := by decide +kernel
theorem dX7_valueOf_8 : decode cX7_valueOf 8 = .ok (.getfield 7, 3) := by decide +kernel
theorem dX7_valueOf_11 : decode cX7_valueOf 11 = .ok (.iload_n 1, 1) := by decide +kernel
theorem dX7_valueOf_12 : decode cX7_valueOf 12 = .ok (.iaload, 1) := by decide +kernel
theorem dX7_valueOf_13 : decode cX7_valueOf 13 = .ok (.ifCond .ne 7, 3) := by decide +kernel
theorem dX7_valueOf_16 : decode cX7_valueOf 16 = .ok (.iload_n 2, 1) := by decide +kernel
theorem dX7_valueOf_17 : decode cX7_valueOf 17 = .ok (.goto 24, 3) := by decide +kernel
theorem dX7_valueOf_20 : decode cX7_valueOf 20 = .ok (.aload_n 0, 1) := by decide +kernel
theorem dX7_valueOf_21 : decode cX7_valueOf 21 = .ok (.getfield 7, 3) := by decide +kernel
theorem dX7_valueOf_24 : decode cX7_valueOf 24 = .ok (.iload_n 1, 1) := by decide +kernel
theorem dX7_valueOf_25 : decode cX7_valueOf 25 = .ok (.iaload, 1) := by decide +kernel
theorem dX7_valueOf_26 : decode cX7_valueOf 26 = .ok (.iconst 1, 1) := by decide +kernel
theorem dX7_valueOf_27 : decode cX7_valueOf 27 = .ok (.if_icmp .ne 9, 3) := by decide +kernel
theorem dX7_valueOf_30 : decode cX7_valueOf 30 = .ok (.iload_n 2, 1) := by decide +kernel
theorem dX7_valueOf_31 : decode cX7_valueOf 31 = .ok (.iconst 1, 1) := by decide +kernel
theorem dX7_valueOf_32 : decode cX7_valueOf 32 = .ok (.iadd, 1) := by decide +kernel
theorem dX7_valueOf_33 : decode cX7_valueOf 33 = .ok (.goto 8, 3) := by decide +kernel
theorem dX7_valueOf_36 : decode cX7_valueOf 36 = .ok (.iconst 2, 1) := by decide +kernel
theorem dX7_valueOf_37 : decode cX7_valueOf 37 = .ok (.iload_n 2, 1) := by decide +kernel
theorem dX7_valueOf_38 : decode cX7_valueOf 38 = .ok (.iconst 1, 1) := by decide +kernel
theorem dX7_valueOf_39 : decode cX7_valueOf 39 = .ok (.iadd, 1) := by decide +kernel
theorem dX7_valueOf_40 : decode cX7_valueOf 40 = .ok (.imul, 1) := by decide +kernel
theorem dX7_valueOf_41 : decode cX7_valueOf 41 = .ok (.ireturn, 1) := by decide +kernel
theorem dX7_ofThing_0 : decode cX7_ofThing 0 = .ok (.aload_n 0, 1) := by decide +kernel
theorem dX7_ofThing_1 : decode cX7_ofThing 1 = .ok (.iload_n 1, 1) := by decide +kernel
theorem dX7_ofThing_2 : decode cX7_ofThing 2 = .ok (.invokevirtual 145, 3) := by decide +kernel
theorem dX7_ofThing_5 : decode cX7_ofThing 5 = .ok (.ifCond .eq 5, 3) := by decide +kernel
theorem dX7_ofThing_8 : decode cX7_ofThing 8 = .ok (.iconst (-1), 1) := by decide +kernel
theorem dX7_ofThing_9 : decode cX7_ofThing 9 = .ok (.ireturn, 1) := by decide +kernel
theorem dX7_ofThing_10 : decode cX7_ofThing 10 = .ok (.iload_n 2, 1) := by decide +kernel
theorem dX7_ofThing_11 : decode cX7_ofThing 11 = .ok (.tableswitch 78 0 5 #[37, 44, 51, 58, 65, 72], 37) := by decide +kernel
theorem dX7_ofThing_48 : decode cX7_ofThing 48 = .ok (.aload_n 0, 1) := by decide +kernel
theorem dX7_ofThing_49 : decode cX7_ofThing 49 = .ok (.getfield 7, 3) := by decide +kernel
theorem dX7_ofThing_52 : decode cX7_ofThing 52 = .ok (.iload_n 1, 1) := by decide +kernel
theorem dX7_ofThing_53 : decode cX7_ofThing 53 = .ok (.iaload, 1) := by decide +kernel
theorem dX7_ofThing_54 : decode cX7_ofThing 54 = .ok (.ireturn, 1) := by decide +kernel
theorem dX7_ofThing_55 : decode cX7_ofThing 55 = .ok (.aload_n 0, 1) := by decide +kernel
theorem dX7_ofThing_56 : decode cX7_ofThing 56 = .ok (.getfield 13, 3) := by decide +kernel
theorem dX7_ofThing_59 : decode cX7_ofThing 59 = .ok (.iload_n 1, 1) := by decide +kernel
theorem dX7_ofThing_60 : decode cX7_ofThing 60 = .ok (.iaload, 1) := by decide +kernel
theorem dX7_ofThing_61 : decode cX7_ofThing 61 = .ok (.ireturn, 1) := by decide +kernel
theorem dX7_ofThing_62 : decode cX7_ofThing 62 = .ok (.aload_n 0, 1) := by decide +kernel
theorem dX7_ofThing_63 : decode cX7_ofThing 63 = .ok (.getfield 16, 3) := by decide +kernel
theorem dX7_ofThing_66 : decode cX7_ofThing 66 = .ok (.iload_n 1, 1) := by decide +kernel
theorem dX7_ofThing_67 : decode cX7_ofThing 67 = .ok (.iaload, 1) := by decide +kernel
theorem dX7_ofThing_68 : decode cX7_ofThing 68 = .ok (.ireturn, 1) := by decide +kernel
theorem dX7_ofThing_69 : decode cX7_ofThing 69 = .ok (.aload_n 0, 1) := by decide +kernel
theorem dX7_ofThing_70 : decode cX7_ofThing 70 = .ok (.getfield 19, 3) := by decide +kernel
theorem dX7_ofThing_73 : decode cX7_ofThing 73 = .ok (.iload_n 1, 1) := by decide +kernel
theorem dX7_ofThing_74 : decode cX7_ofThing 74 = .ok (.iaload, 1) := by decide +kernel
theorem dX7_ofThing_75 : decode cX7_ofThing 75 = .ok (.ireturn, 1) := by decide +kernel
theorem dX7_ofThing_76 : decode cX7_ofThing 76 = .ok (.aload_n 0, 1) := by decide +kernel
theorem dX7_ofThing_77 : decode cX7_ofThing 77 = .ok (.getfield 22, 3) := by decide +kernel
theorem dX7_ofThing_80 : decode cX7_ofThing 80 = .ok (.iload_n 1, 1) := by decide +kernel
theorem dX7_ofThing_81 : decode cX7_ofThing 81 = .ok (.iaload, 1) := by decide +kernel
theorem dX7_ofThing_82 : decode cX7_ofThing 82 = .ok (.ireturn, 1) := by decide +kernel
theorem dX7_ofThing_83 : decode cX7_ofThing 83 = .ok (.aload_n 0, 1) := by decide +kernel
theorem dX7_ofThing_84 : decode cX7_ofThing 84 = .ok (.iload_n 1, 1) := by decide +kernel
theorem dX7_ofThing_85 : decode cX7_ofThing 85 = .ok (.invokevirtual 148, 3) := by decide +kernel
theorem dX7_ofThing_88 : decode cX7_ofThing 88 = .ok (.ireturn, 1) := by decide +kernel
theorem dX7_ofThing_89 : decode cX7_ofThing 89 = .ok (.bipush (-2), 2) := by decide +kernel
theorem dX7_ofThing_91 : decode cX7_ofThing 91 = .ok (.ireturn, 1) := by decide +kernel
theorem dX7_penalty_0 : decode cX7_penalty 0 = .ok (.iload_n 1, 1) := by decide +kernel
theorem dX7_penalty_1 : decode cX7_penalty 1 = .ok (.i2l, 1) := by decide +kernel
theorem dX7_penalty_2 : decode cX7_penalty 2 = .ok (.lconst 0, 1) := by decide +kernel
theorem dX7_penalty_3 : decode cX7_penalty 3 = .ok (.ldc2_w 151, 3) := by decide +kernel
theorem dX7_penalty_6 : decode cX7_penalty 6 = .ok (.invokestatic 87, 3) := by decide +kernel
theorem dX7_penalty_9 : decode cX7_penalty 9 = .ok (.ifCond .ne 6, 3) := by decide +kernel
theorem dX7_penalty_12 : decode cX7_penalty 12 = .ok (.bipush (-2), 2) := by decide +kernel
theorem dX7_penalty_14 : decode cX7_penalty 14 = .ok (.ireturn, 1) := by decide +kernel
theorem dX7_penalty_15 : decode cX7_penalty 15 = .ok (.aload_n 0, 1) := by decide +kernel
theorem dX7_penalty_16 : decode cX7_penalty 16 = .ok (.getfield 84, 3) := by decide +kernel
theorem dX7_penalty_19 : decode cX7_penalty 19 = .ok (.ifCond .ne 6, 3) := by decide +kernel
theorem dX7_penalty_22 : decode cX7_penalty 22 = .ok (.bipush (-3), 2) := by decide +kernel
theorem dX7_penalty_24 : decode cX7_penalty 24 = .ok (.ireturn, 1) := by decide +kernel
theorem dX7_penalty_25 : decode cX7_penalty 25 = .ok (.aload_n 0, 1) := by decide +kernel
theorem dX7_penalty_26 : decode cX7_penalty 26 = .ok (.getfield 136, 3) := by decide +kernel
theorem dX7_penalty_29 : decode cX7_penalty 29 = .ok (.istore_n 2, 1) := by decide +kernel
theorem dX7_penalty_30 : decode cX7_penalty 30 = .ok (.aload_n 0, 1) := by decide +kernel
theorem dX7_penalty_31 : decode cX7_penalty 31 = .ok (.iload_n 1, 1) := by decide +kernel
theorem dX7_penalty_32 : decode cX7_penalty 32 = .ok (.putfield 136, 3) := by decide +kernel
theorem dX7_penalty_35 : decode cX7_penalty 35 = .ok (.iload_n 2, 1) := by decide +kernel
theorem dX7_penalty_36 : decode cX7_penalty 36 = .ok (.ireturn, 1) := by decide +kernel
theorem dX7_law_0 : decode cX7_law 0 = .ok (.iload_n 1, 1) := by decide +kernel
theorem dX7_law_1 : decode cX7_law 1 = .ok (.i2l, 1) := by decide +kernel
theorem dX7_law_2 : decode cX7_law 2 = .ok (.lconst 0, 1) := by decide +kernel
theorem dX7_law_3 : decode cX7_law 3 = .ok (.ldc2_w 153, 3) := by decide +kernel
theorem dX7_law_6 : decode cX7_law 6 = .ok (.invokestatic 87, 3) := by decide +kernel
theorem dX7_law_9 : decode cX7_law 9 = .ok (.ifCond .ne 6, 3) := by decide +kernel
theorem dX7_law_12 : decode cX7_law 12 = .ok (.bipush (-2), 2) := by decide +kernel
theorem dX7_law_14 : decode cX7_law 14 = .ok (.ireturn, 1) := by decide +kernel
theorem dX7_law_15 : decode cX7_law 15 = .ok (.aload_n 0, 1) := by decide +kernel
theorem dX7_law_16 : decode cX7_law 16 = .ok (.getfield 84, 3) := by decide +kernel
theorem dX7_law_19 : decode cX7_law 19 = .ok (.ifCond .ne 6, 3) := by decide +kernel
theorem dX7_law_22 : decode cX7_law 22 = .ok (.bipush (-3), 2) := by decide +kernel
theorem dX7_law_24 : decode cX7_law 24 = .ok (.ireturn, 1) := by decide +kernel
theorem dX7_law_25 : decode cX7_law 25 = .ok (.aload_n 0, 1) := by decide +kernel
theorem dX7_law_26 : decode cX7_law 26 = .ok (.getfield 139, 3) := by decide +kernel
theorem dX7_law_29 : decode cX7_law 29 = .ok (.istore_n 2, 1) := by decide +kernel
theorem dX7_law_30 : decode cX7_law 30 = .ok (.aload_n 0, 1) := by decide +kernel
theorem dX7_law_31 : decode cX7_law 31 = .ok (.iload_n 1, 1) := by decide +kernel
theorem dX7_law_32 : decode cX7_law 32 = .ok (.putfield 139, 3) := by decide +kernel
theorem dX7_law_35 : decode cX7_law 35 = .ok (.iload_n 2, 1) := by decide +kernel
theorem dX7_law_36 : decode cX7_law 36 = .ok (.ireturn, 1) := by decide +kernel
theorem dX7_use_0 : decode cX7_use 0 = .ok (.aload_n 0, 1) := by decide +kernel
theorem dX7_use_1 : decode cX7_use 1 = .ok (.iload_n 1, 1) := by decide +kernel
theorem dX7_use_2 : decode cX7_use 2 = .ok (.invokevirtual 145, 3) := by decide +kernel
theorem dX7_use_5 : decode cX7_use 5 = .ok (.ifCond .eq 5, 3) := by decide +kernel
theorem dX7_use_8 : decode cX7_use 8 = .ok (.iconst (-1), 1) := by decide +kernel
theorem dX7_use_9 : decode cX7_use 9 = .ok (.ireturn, 1) := by decide +kernel
theorem dX7_use_10 : decode cX7_use 10 = .ok (.iload_n 2, 1) := by decide +kernel
theorem dX7_use_11 : decode cX7_use 11 = .ok (.i2l, 1) := by decide +kernel
theorem dX7_use_12 : decode cX7_use 12 = .ok (.lconst 0, 1) := by decide +kernel
theorem dX7_use_13 : decode cX7_use 13 = .ok (.ldc2_w 155, 3) := by decide +kernel
theorem dX7_use_16 : decode cX7_use 16 = .ok (.invokestatic 87, 3) := by decide +kernel
theorem dX7_use_19 : decode cX7_use 19 = .ok (.ifCond .ne 6, 3) := by decide +kernel
theorem dX7_use_22 : decode cX7_use 22 = .ok (.bipush (-2), 2) := by decide +kernel
theorem dX7_use_24 : decode cX7_use 24 = .ok (.ireturn, 1) := by decide +kernel
theorem dX7_use_25 : decode cX7_use 25 = .ok (.aload_n 0, 1) := by decide +kernel
theorem dX7_use_26 : decode cX7_use 26 = .ok (.getfield 22, 3) := by decide +kernel
theorem dX7_use_29 : decode cX7_use 29 = .ok (.iload_n 1, 1) := by decide +kernel
theorem dX7_use_30 : decode cX7_use 30 = .ok (.iaload, 1) := by decide +kernel
theorem dX7_use_31 : decode cX7_use 31 = .ok (.istore_n 3, 1) := by decide +kernel
theorem dX7_use_32 : decode cX7_use 32 = .ok (.aload_n 0, 1) := by decide +kernel
theorem dX7_use_33 : decode cX7_use 33 = .ok (.getfield 22, 3) := by decide +kernel
theorem dX7_use_36 : decode cX7_use 36 = .ok (.iload_n 1, 1) := by decide +kernel
theorem dX7_use_37 : decode cX7_use 37 = .ok (.iload_n 2, 1) := by decide +kernel
theorem dX7_use_38 : decode cX7_use 38 = .ok (.iastore, 1) := by decide +kernel
theorem dX7_use_39 : decode cX7_use 39 = .ok (.iload_n 3, 1) := by decide +kernel
theorem dX7_use_40 : decode cX7_use 40 = .ok (.ireturn, 1) := by decide +kernel
theorem dX7_casesOf_0 : decode cX7_casesOf 0 = .ok (.iconst 0, 1) := by decide +kernel
theorem dX7_casesOf_1 : decode cX7_casesOf 1 = .ok (.istore_n 2, 1) := by decide +kernel
theorem dX7_casesOf_2 : decode cX7_casesOf 2 = .ok (.iconst 0, 1) := by decide +kernel
theorem dX7_casesOf_3 : decode cX7_casesOf 3 = .ok (.istore_n 3, 1) := by decide +kernel
theorem dX7_casesOf_4 : decode cX7_casesOf 4 = .ok (.iload_n 3, 1) := by decide +kernel
theorem dX7_casesOf_5 : decode cX7_casesOf 5 = .ok (.aload_n 0, 1) := by decide +kernel
theorem dX7_casesOf_6 : decode cX7_casesOf 6 = .ok (.getfield 84, 3) := by decide +kernel
theorem dX7_casesOf_9 : decode cX7_casesOf 9 = .ok (.if_icmp .ge 29, 3) := by decide +kernel
theorem dX7_casesOf_12 : decode cX7_casesOf 12 = .ok (.iload_n 2, 1) := by decide +kernel
theorem dX7_casesOf_13 : decode cX7_casesOf 13 = .ok (.aload_n 0, 1) := by decide +kernel
theorem dX7_casesOf_14 : decode cX7_casesOf 14 = .ok (.getfield 46, 3) := by decide +kernel
theorem dX7_casesOf_17 : decode cX7_casesOf 17 = .ok (.iload_n 3, 1) := by decide +kernel
theorem dX7_casesOf_18 : decode cX7_casesOf 18 = .ok (.iaload, 1) := by decide +kernel
theorem dX7_casesOf_19 : decode cX7_casesOf 19 = .ok (.iload_n 1, 1) := by decide +kernel
theorem dX7_casesOf_20 : decode cX7_casesOf 20 = .ok (.if_icmp .lt 9, 3) := by decide +kernel
theorem dX7_casesOf_23 : decode cX7_casesOf 23 = .ok (.iconst 1, 1) := by decide +kernel
theorem dX7_casesOf_24 : decode cX7_casesOf 24 = .ok (.iload_n 3, 1) := by decide +kernel
theorem dX7_casesOf_25 : decode cX7_casesOf 25 = .ok (.ishl, 1) := by decide +kernel
theorem dX7_casesOf_26 : decode cX7_casesOf 26 = .ok (.goto 4, 3) := by decide +kernel
theorem dX7_casesOf_29 : decode cX7_casesOf 29 = .ok (.iconst 0, 1) := by decide +kernel
theorem dX7_casesOf_30 : decode cX7_casesOf 30 = .ok (.ior, 1) := by decide +kernel
theorem dX7_casesOf_31 : decode cX7_casesOf 31 = .ok (.istore_n 2, 1) := by decide +kernel
theorem dX7_casesOf_32 : decode cX7_casesOf 32 = .ok (.iinc 3 1, 3) := by decide +kernel
theorem dX7_casesOf_35 : decode cX7_casesOf 35 = .ok (.goto (-31), 3) := by decide +kernel
theorem dX7_casesOf_38 : decode cX7_casesOf 38 = .ok (.iload_n 2, 1) := by decide +kernel
theorem dX7_casesOf_39 : decode cX7_casesOf 39 = .ok (.ireturn, 1) := by decide +kernel
theorem dX7_takingOf_0 : decode cX7_takingOf 0 = .ok (.iconst 1, 1) := by decide +kernel
theorem dX7_takingOf_1 : decode cX7_takingOf 1 = .ok (.istore_n 3, 1) := by decide +kernel
theorem dX7_takingOf_2 : decode cX7_takingOf 2 = .ok (.iconst 0, 1) := by decide +kernel
theorem dX7_takingOf_3 : decode cX7_takingOf 3 = .ok (.istore 4, 2) := by decide +kernel
theorem dX7_takingOf_5 : decode cX7_takingOf 5 = .ok (.iload 4, 2) := by decide +kernel
theorem dX7_takingOf_7 : decode cX7_takingOf 7 = .ok (.aload_n 0, 1) := by decide +kernel
theorem dX7_takingOf_8 : decode cX7_takingOf 8 = .ok (.getfield 84, 3) := by decide +kernel
theorem dX7_takingOf_11 : decode cX7_takingOf 11 = .ok (.if_icmp .ge 55, 3) := by decide +kernel
theorem dX7_takingOf_14 : decode cX7_takingOf 14 = .ok (.iload_n 3, 1) := by decide +kernel
theorem dX7_takingOf_15 : decode cX7_takingOf 15 = .ok (.ifCond .eq 43, 3) := by decide +kernel
theorem dX7_takingOf_18 : decode cX7_takingOf 18 = .ok (.iload 4, 2) := by decide +kernel
theorem dX7_takingOf_20 : decode cX7_takingOf 20 = .ok (.iload_n 1, 1) := by decide +kernel
theorem dX7_takingOf_21 : decode cX7_takingOf 21 = .ok (.if_icmp .eq 33, 3) := by decide +kernel
theorem dX7_takingOf_24 : decode cX7_takingOf 24 = .ok (.aload_n 0, 1) := by decide +kernel
theorem dX7_takingOf_25 : decode cX7_takingOf 25 = .ok (.getfield 13, 3) := by decide +kernel
theorem dX7_takingOf_28 : decode cX7_takingOf 28 = .ok (.iload 4, 2) := by decide +kernel
theorem dX7_takingOf_30 : decode cX7_takingOf 30 = .ok (.iaload, 1) := by decide +kernel
theorem dX7_takingOf_31 : decode cX7_takingOf 31 = .ok (.aload_n 0, 1) := by decide +kernel
theorem dX7_takingOf_32 : decode cX7_takingOf 32 = .ok (.getfield 13, 3) := by decide +kernel
theorem dX7_takingOf_35 : decode cX7_takingOf 35 = .ok (.iload_n 1, 1) := by decide +kernel
theorem dX7_takingOf_36 : decode cX7_takingOf 36 = .ok (.iaload, 1) := by decide +kernel
theorem dX7_takingOf_37 : decode cX7_takingOf 37 = .ok (.if_icmp .ne 17, 3) := by decide +kernel
theorem dX7_takingOf_40 : decode cX7_takingOf 40 = .ok (.aload_n 0, 1) := by decide +kernel
theorem dX7_takingOf_41 : decode cX7_takingOf 41 = .ok (.getfield 43, 3) := by decide +kernel
theorem dX7_takingOf_44 : decode cX7_takingOf 44 = .ok (.iload_n 2, 1) := by decide +kernel
theorem dX7_takingOf_45 : decode cX7_takingOf 45 = .ok (.iaload, 1) := by decide +kernel
theorem dX7_takingOf_46 : decode cX7_takingOf 46 = .ok (.iload 4, 2) := by decide +kernel
theorem dX7_takingOf_48 : decode cX7_takingOf 48 = .ok (.invokestatic 157, 3) := by decide +kernel
theorem dX7_takingOf_51 : decode cX7_takingOf 51 = .ok (.ifCond .eq 7, 3) := by decide +kernel
theorem dX7_takingOf_54 : decode cX7_takingOf 54 = .ok (.iconst 1, 1) := by decide +kernel
theorem dX7_takingOf_55 : decode cX7_takingOf 55 = .ok (.goto 4, 3) := by decide +kernel
theorem dX7_takingOf_58 : decode cX7_takingOf 58 = .ok (.iconst 0, 1) := by decide +kernel
theorem dX7_takingOf_59 : decode cX7_takingOf 59 = .ok (.istore_n 3, 1) := by decide +kernel
theorem dX7_takingOf_60 : decode cX7_takingOf 60 = .ok (.iinc 4 1, 3) := by decide +kernel
theorem dX7_takingOf_63 : decode cX7_takingOf 63 = .ok (.goto (-58), 3) := by decide +kernel
theorem dX7_takingOf_66 : decode cX7_takingOf 66 = .ok (.aload_n 0, 1) := by decide +kernel
theorem dX7_takingOf_67 : decode cX7_takingOf 67 = .ok (.iload_n 1, 1) := by decide +kernel
theorem dX7_takingOf_68 : decode cX7_takingOf 68 = .ok (.invokevirtual 148, 3) := by decide +kernel
theorem dX7_takingOf_71 : decode cX7_takingOf 71 = .ok (.aload_n 0, 1) := by decide +kernel
theorem dX7_takingOf_72 : decode cX7_takingOf 72 = .ok (.getfield 139, 3) := by decide +kernel
theorem dX7_takingOf_75 : decode cX7_takingOf 75 = .ok (.iconst 0, 1) := by decide +kernel
theorem dX7_takingOf_76 : decode cX7_takingOf 76 = .ok (.invokestatic 157, 3) := by decide +kernel
theorem dX7_takingOf_79 : decode cX7_takingOf 79 = .ok (.ifCond .eq 20, 3) := by decide +kernel
theorem dX7_takingOf_82 : decode cX7_takingOf 82 = .ok (.aload_n 0, 1) := by decide +kernel
theorem dX7_takingOf_83 : decode cX7_takingOf 83 = .ok (.getfield 22, 3) := by decide +kernel
theorem dX7_takingOf_86 : decode cX7_takingOf 86 = .ok (.iload_n 1, 1) := by decide +kernel
theorem dX7_takingOf_87 : decode cX7_takingOf 87 = .ok (.iaload, 1) := by decide +kernel
theorem dX7_takingOf_88 : decode cX7_takingOf 88 = .ok (.iload_n 2, 1) := by decide +kernel
theorem dX7_takingOf_89 : decode cX7_takingOf 89 = .ok (.invokestatic 157, 3) := by decide +kernel
theorem dX7_takingOf_92 : decode cX7_takingOf 92 = .ok (.ifCond .eq 7, 3) := by decide +kernel
theorem dX7_takingOf_95 : decode cX7_takingOf 95 = .ok (.iconst 2, 1) := by decide +kernel
theorem dX7_takingOf_96 : decode cX7_takingOf 96 = .ok (.goto 4, 3) := by decide +kernel
theorem dX7_takingOf_99 : decode cX7_takingOf 99 = .ok (.iconst 1, 1) := by decide +kernel
theorem dX7_takingOf_100 : decode cX7_takingOf 100 = .ok (.imul, 1) := by decide +kernel
theorem dX7_takingOf_101 : decode cX7_takingOf 101 = .ok (.istore 4, 2) := by decide +kernel
theorem dX7_takingOf_103 : decode cX7_takingOf 103 = .ok (.iload 4, 2) := by decide +kernel
theorem dX7_takingOf_105 : decode cX7_takingOf 105 = .ok (.aload_n 0, 1) := by decide +kernel
theorem dX7_takingOf_106 : decode cX7_takingOf 106 = .ok (.getfield 139, 3) := by decide +kernel
theorem dX7_takingOf_109 : decode cX7_takingOf 109 = .ok (.iconst 1, 1) := by decide +kernel
theorem dX7_takingOf_110 : decode cX7_takingOf 110 = .ok (.invokestatic 157, 3) := by decide +kernel
theorem dX7_takingOf_113 : decode cX7_takingOf 113 = .ok (.ifCond .eq 11, 3) := by decide +kernel
theorem dX7_takingOf_116 : decode cX7_takingOf 116 = .ok (.iload_n 3, 1) := by decide +kernel
theorem dX7_takingOf_117 : decode cX7_takingOf 117 = .ok (.ifCond .eq 7, 3) := by decide +kernel
theorem dX7_takingOf_120 : decode cX7_takingOf 120 = .ok (.iconst 5, 1) := by decide +kernel
theorem dX7_takingOf_121 : decode cX7_takingOf 121 = .ok (.goto 4, 3) := by decide +kernel
theorem dX7_takingOf_124 : decode cX7_takingOf 124 = .ok (.iconst 0, 1) := by decide +kernel
theorem dX7_takingOf_125 : decode cX7_takingOf 125 = .ok (.iadd, 1) := by decide +kernel
theorem dX7_takingOf_126 : decode cX7_takingOf 126 = .ok (.ireturn, 1) := by decide +kernel
theorem dX7_missedIn_0 : decode cX7_missedIn 0 = .ok (.iconst 0, 1) := by decide +kernel
theorem dX7_missedIn_1 : decode cX7_missedIn 1 = .ok (.istore_n 2, 1) := by decide +kernel
theorem dX7_missedIn_2 : decode cX7_missedIn 2 = .ok (.iconst 0, 1) := by decide +kernel
theorem dX7_missedIn_3 : decode cX7_missedIn 3 = .ok (.istore_n 3, 1) := by decide +kernel
theorem dX7_missedIn_4 : decode cX7_missedIn 4 = .ok (.iload_n 3, 1) := by decide +kernel
theorem dX7_missedIn_5 : decode cX7_missedIn 5 = .ok (.aload_n 0, 1) := by decide +kernel
theorem dX7_missedIn_6 : decode cX7_missedIn 6 = .ok (.getfield 84, 3) := by decide +kernel
theorem dX7_missedIn_9 : decode cX7_missedIn 9 = .ok (.if_icmp .ge 43, 3) := by decide +kernel
theorem dX7_missedIn_12 : decode cX7_missedIn 12 = .ok (.iload_n 2, 1) := by decide +kernel
theorem dX7_missedIn_13 : decode cX7_missedIn 13 = .ok (.aload_n 0, 1) := by decide +kernel
theorem dX7_missedIn_14 : decode cX7_missedIn 14 = .ok (.getfield 43, 3) := by decide +kernel
theorem dX7_missedIn_17 : decode cX7_missedIn 17 = .ok (.iload_n 1, 1) := by decide +kernel
theorem dX7_missedIn_18 : decode cX7_missedIn 18 = .ok (.iaload, 1) := by decide +kernel
theorem dX7_missedIn_19 : decode cX7_missedIn 19 = .ok (.iload_n 3, 1) := by decide +kernel
theorem dX7_missedIn_20 : decode cX7_missedIn 20 = .ok (.invokestatic 157, 3) := by decide +kernel
theorem dX7_missedIn_23 : decode cX7_missedIn 23 = .ok (.ifCond .eq 20, 3) := by decide +kernel
theorem dX7_missedIn_26 : decode cX7_missedIn 26 = .ok (.aload_n 0, 1) := by decide +kernel
theorem dX7_missedIn_27 : decode cX7_missedIn 27 = .ok (.getfield 22, 3) := by decide +kernel
theorem dX7_missedIn_30 : decode cX7_missedIn 30 = .ok (.iload_n 3, 1) := by decide +kernel
theorem dX7_missedIn_31 : decode cX7_missedIn 31 = .ok (.iaload, 1) := by decide +kernel
theorem dX7_missedIn_32 : decode cX7_missedIn 32 = .ok (.iload_n 1, 1) := by decide +kernel
theorem dX7_missedIn_33 : decode cX7_missedIn 33 = .ok (.invokestatic 157, 3) := by decide +kernel
theorem dX7_missedIn_36 : decode cX7_missedIn 36 = .ok (.ifCond .eq 7, 3) := by decide +kernel
theorem dX7_missedIn_39 : decode cX7_missedIn 39 = .ok (.iconst 1, 1) := by decide +kernel
theorem dX7_missedIn_40 : decode cX7_missedIn 40 = .ok (.goto 4, 3) := by decide +kernel
theorem dX7_missedIn_43 : decode cX7_missedIn 43 = .ok (.iconst 0, 1) := by decide +kernel
theorem dX7_missedIn_44 : decode cX7_missedIn 44 = .ok (.iadd, 1) := by decide +kernel
theorem dX7_missedIn_45 : decode cX7_missedIn 45 = .ok (.istore_n 2, 1) := by decide +kernel
theorem dX7_missedIn_46 : decode cX7_missedIn 46 = .ok (.iinc 3 1, 3) := by decide +kernel
theorem dX7_missedIn_49 : decode cX7_missedIn 49 = .ok (.goto (-45), 3) := by decide +kernel
theorem dX7_missedIn_52 : decode cX7_missedIn 52 = .ok (.iload_n 2, 1) := by decide +kernel
theorem dX7_missedIn_53 : decode cX7_missedIn 53 = .ok (.ireturn, 1) := by decide +kernel
theorem dX7_goRound_0 : decode cX7_goRound 0 = .ok (.iconst 0, 1) := by decide +kernel
theorem dX7_goRound_1 : decode cX7_goRound 1 = .ok (.istore_n 1, 1) := by decide +kernel
theorem dX7_goRound_2 : decode cX7_goRound 2 = .ok (.iload_n 1, 1) := by decide +kernel
theorem dX7_goRound_3 : decode cX7_goRound 3 = .ok (.iconst 5, 1) := by decide +kernel
theorem dX7_goRound_4 : decode cX7_goRound 4 = .ok (.if_icmp .ge 16, 3) := by decide +kernel
theorem dX7_goRound_7 : decode cX7_goRound 7 = .ok (.aload_n 0, 1) := by decide +kernel
theorem dX7_goRound_8 : decode cX7_goRound 8 = .ok (.getfield 46, 3) := by decide +kernel
theorem dX7_goRound_11 : decode cX7_goRound 11 = .ok (.iload_n 1, 1) := by decide +kernel
theorem dX7_goRound_12 : decode cX7_goRound 12 = .ok (.iconst (-1), 1) := by decide +kernel
theorem dX7_goRound_13 : decode cX7_goRound 13 = .ok (.iastore, 1) := by decide +kernel
theorem dX7_goRound_14 : decode cX7_goRound 14 = .ok (.iinc 1 1, 3) := by decide +kernel
theorem dX7_goRound_17 : decode cX7_goRound 17 = .ok (.goto (-15), 3) := by decide +kernel
theorem dX7_goRound_20 : decode cX7_goRound 20 = .ok (.aload_n 0, 1) := by decide +kernel
theorem dX7_goRound_21 : decode cX7_goRound 21 = .ok (.bipush (-9), 2) := by decide +kernel
theorem dX7_goRound_23 : decode cX7_goRound 23 = .ok (.putfield 160, 3) := by decide +kernel
theorem dX7_goRound_26 : decode cX7_goRound 26 = .ok (.aload_n 0, 1) := by decide +kernel
theorem dX7_goRound_27 : decode cX7_goRound 27 = .ok (.iconst 0, 1) := by decide +kernel
theorem dX7_goRound_28 : decode cX7_goRound 28 = .ok (.putfield 163, 3) := by decide +kernel
theorem dX7_goRound_31 : decode cX7_goRound 31 = .ok (.aload_n 0, 1) := by decide +kernel
theorem dX7_goRound_32 : decode cX7_goRound 32 = .ok (.iconst 0, 1) := by decide +kernel
theorem dX7_goRound_33 : decode cX7_goRound 33 = .ok (.putfield 166, 3) := by decide +kernel
theorem dX7_goRound_36 : decode cX7_goRound 36 = .ok (.iconst 0, 1) := by decide +kernel
theorem dX7_goRound_37 : decode cX7_goRound 37 = .ok (.istore_n 1, 1) := by decide +kernel
theorem dX7_goRound_38 : decode cX7_goRound 38 = .ok (.iload_n 1, 1) := by decide +kernel
theorem dX7_goRound_39 : decode cX7_goRound 39 = .ok (.bipush 6, 2) := by decide +kernel
theorem dX7_goRound_41 : decode cX7_goRound 41 = .ok (.if_icmp .ge 141, 3) := by decide +kernel
theorem dX7_goRound_44 : decode cX7_goRound 44 = .ok (.aload_n 0, 1) := by decide +kernel
theorem dX7_goRound_45 : decode cX7_goRound 45 = .ok (.getfield 160, 3) := by decide +kernel
theorem dX7_goRound_48 : decode cX7_goRound 48 = .ok (.ifCond .ge 134, 3) := by decide +kernel
theorem dX7_goRound_51 : decode cX7_goRound 51 = .ok (.aload_n 0, 1) := by decide +kernel
theorem dX7_goRound_52 : decode cX7_goRound 52 = .ok (.getfield 40, 3) := by decide +kernel
theorem dX7_goRound_55 : decode cX7_goRound 55 = .ok (.iload_n 1, 1) := by decide +kernel
theorem dX7_goRound_56 : decode cX7_goRound 56 = .ok (.iaload, 1) := by decide +kernel
theorem dX7_goRound_57 : decode cX7_goRound 57 = .ok (.istore_n 2, 1) := by decide +kernel
theorem dX7_goRound_58 : decode cX7_goRound 58 = .ok (.iload_n 2, 1) := by decide +kernel
theorem dX7_goRound_59 : decode cX7_goRound 59 = .ok (.ifCond .lt 25, 3) := by decide +kernel
theorem dX7_goRound_62 : decode cX7_goRound 62 = .ok (.aload_n 0, 1) := by decide +kernel
theorem dX7_goRound_63 : decode cX7_goRound 63 = .ok (.getfield 46, 3) := by decide +kernel
theorem dX7_goRound_66 : decode cX7_goRound 66 = .ok (.iload_n 2, 1) := by decide +kernel
theorem dX7_goRound_67 : decode cX7_goRound 67 = .ok (.iaload, 1) := by decide +kernel
theorem dX7_goRound_68 : decode cX7_goRound 68 = .ok (.iload_n 1, 1) := by decide +kernel
theorem dX7_goRound_69 : decode cX7_goRound 69 = .ok (.if_icmp .ge 11, 3) := by decide +kernel
theorem dX7_goRound_72 : decode cX7_goRound 72 = .ok (.iload_n 2, 1) := by decide +kernel
theorem dX7_goRound_73 : decode cX7_goRound 73 = .ok (.aload_n 0, 1) := by decide +kernel
theorem dX7_goRound_74 : decode cX7_goRound 74 = .ok (.getfield 71, 3) := by decide +kernel
theorem dX7_goRound_77 : decode cX7_goRound 77 = .ok (.if_icmp .ne 7, 3) := by decide +kernel
theorem dX7_goRound_80 : decode cX7_goRound 80 = .ok (.iconst 1, 1) := by decide +kernel
theorem dX7_goRound_81 : decode cX7_goRound 81 = .ok (.goto 4, 3) := by decide +kernel
theorem dX7_goRound_84 : decode cX7_goRound 84 = .ok (.iconst 0, 1) := by decide +kernel
theorem dX7_goRound_85 : decode cX7_goRound 85 = .ok (.istore_n 3, 1) := by decide +kernel
theorem dX7_goRound_86 : decode cX7_goRound 86 = .ok (.aload_n 0, 1) := by decide +kernel
theorem dX7_goRound_87 : decode cX7_goRound 87 = .ok (.iload_n 3, 1) := by decide +kernel
theorem dX7_goRound_88 : decode cX7_goRound 88 = .ok (.ifCond .eq 7, 3) := by decide +kernel
theorem dX7_goRound_91 : decode cX7_goRound 91 = .ok (.iload_n 1, 1) := by decide +kernel
theorem dX7_goRound_92 : decode cX7_goRound 92 = .ok (.goto 5, 3) := by decide +kernel
theorem dX7_goRound_95 : decode cX7_goRound 95 = .ok (.bipush (-9), 2) := by decide +kernel
theorem dX7_goRound_97 : decode cX7_goRound 97 = .ok (.putfield 160, 3) := by decide +kernel
theorem dX7_goRound_100 : decode cX7_goRound 100 = .ok (.iload_n 2, 1) := by decide +kernel
theorem dX7_goRound_101 : decode cX7_goRound 101 = .ok (.ifCond .lt 23, 3) := by decide +kernel
theorem dX7_goRound_104 : decode cX7_goRound 104 = .ok (.iload_n 3, 1) := by decide +kernel
theorem dX7_goRound_105 : decode cX7_goRound 105 = .ok (.ifCond .ne 19, 3) := by decide +kernel
theorem dX7_goRound_108 : decode cX7_goRound 108 = .ok (.aload_n 0, 1) := by decide +kernel
theorem dX7_goRound_109 : decode cX7_goRound 109 = .ok (.getfield 46, 3) := by decide +kernel
theorem dX7_goRound_112 : decode cX7_goRound 112 = .ok (.iload_n 2, 1) := by decide +kernel
theorem dX7_goRound_113 : decode cX7_goRound 113 = .ok (.iload_n 1, 1) := by decide +kernel
theorem dX7_goRound_114 : decode cX7_goRound 114 = .ok (.aload_n 0, 1) := by decide +kernel
theorem dX7_goRound_115 : decode cX7_goRound 115 = .ok (.getfield 19, 3) := by decide +kernel
theorem dX7_goRound_118 : decode cX7_goRound 118 = .ok (.iload_n 2, 1) := by decide +kernel
theorem dX7_goRound_119 : decode cX7_goRound 119 = .ok (.iaload, 1) := by decide +kernel
theorem dX7_goRound_120 : decode cX7_goRound 120 = .ok (.iadd, 1) := by decide +kernel
theorem dX7_goRound_121 : decode cX7_goRound 121 = .ok (.iconst 1, 1) := by decide +kernel
theorem dX7_goRound_122 : decode cX7_goRound 122 = .ok (.isub, 1) := by decide +kernel
theorem dX7_goRound_123 : decode cX7_goRound 123 = .ok (.iastore, 1) := by decide +kernel
theorem dX7_goRound_124 : decode cX7_goRound 124 = .ok (.aload_n 0, 1) := by decide +kernel
theorem dX7_goRound_125 : decode cX7_goRound 125 = .ok (.getfield 43, 3) := by decide +kernel
theorem dX7_goRound_128 : decode cX7_goRound 128 = .ok (.iload_n 1, 1) := by decide +kernel
theorem dX7_goRound_129 : decode cX7_goRound 129 = .ok (.aload_n 0, 1) := by decide +kernel
theorem dX7_goRound_130 : decode cX7_goRound 130 = .ok (.iload_n 1, 1) := by decide +kernel
theorem dX7_goRound_131 : decode cX7_goRound 131 = .ok (.invokevirtual 169, 3) := by decide +kernel
theorem dX7_goRound_134 : decode cX7_goRound 134 = .ok (.iastore, 1) := by decide +kernel
theorem dX7_goRound_135 : decode cX7_goRound 135 = .ok (.aload_n 0, 1) := by decide +kernel
theorem dX7_goRound_136 : decode cX7_goRound 136 = .ok (.dup, 1) := by decide +kernel
theorem dX7_goRound_137 : decode cX7_goRound 137 = .ok (.getfield 163, 3) := by decide +kernel
theorem dX7_goRound_140 : decode cX7_goRound 140 = .ok (.iload_n 2, 1) := by decide +kernel
theorem dX7_goRound_141 : decode cX7_goRound 141 = .ok (.ifCond .lt 16, 3) := by decide +kernel
theorem dX7_goRound_144 : decode cX7_goRound 144 = .ok (.iload_n 3, 1) := by decide +kernel
theorem dX7_goRound_145 : decode cX7_goRound 145 = .ok (.ifCond .ne 12, 3) := by decide +kernel
theorem dX7_goRound_148 : decode cX7_goRound 148 = .ok (.aload_n 0, 1) := by decide +kernel
theorem dX7_goRound_149 : decode cX7_goRound 149 = .ok (.iload_n 2, 1) := by decide +kernel
theorem dX7_goRound_150 : decode cX7_goRound 150 = .ok (.iload_n 1, 1) := by decide +kernel
theorem dX7_goRound_151 : decode cX7_goRound 151 = .ok (.invokevirtual 172, 3) := by decide +kernel
theorem dX7_goRound_154 : decode cX7_goRound 154 = .ok (.goto 4, 3) := by decide +kernel
theorem dX7_goRound_157 : decode cX7_goRound 157 = .ok (.iconst 0, 1) := by decide +kernel
theorem dX7_goRound_158 : decode cX7_goRound 158 = .ok (.iadd, 1) := by decide +kernel
theorem dX7_goRound_159 : decode cX7_goRound 159 = .ok (.putfield 163, 3) := by decide +kernel
theorem dX7_goRound_162 : decode cX7_goRound 162 = .ok (.aload_n 0, 1) := by decide +kernel
theorem dX7_goRound_163 : decode cX7_goRound 163 = .ok (.dup, 1) := by decide +kernel
theorem dX7_goRound_164 : decode cX7_goRound 164 = .ok (.getfield 166, 3) := by decide +kernel
theorem dX7_goRound_167 : decode cX7_goRound 167 = .ok (.aload_n 0, 1) := by decide +kernel
theorem dX7_goRound_168 : decode cX7_goRound 168 = .ok (.iload_n 1, 1) := by decide +kernel
theorem dX7_goRound_169 : decode cX7_goRound 169 = .ok (.invokevirtual 175, 3) := by decide +kernel
theorem dX7_goRound_172 : decode cX7_goRound 172 = .ok (.iadd, 1) := by decide +kernel
theorem dX7_goRound_173 : decode cX7_goRound 173 = .ok (.putfield 166, 3) := by decide +kernel
theorem dX7_goRound_176 : decode cX7_goRound 176 = .ok (.iinc 1 1, 3) := by decide +kernel
theorem dX7_goRound_179 : decode cX7_goRound 179 = .ok (.goto (-141), 3) := by decide +kernel
theorem dX7_goRound_182 : decode cX7_goRound 182 = .ok (.aload_n 0, 1) := by decide +kernel
theorem dX7_goRound_183 : decode cX7_goRound 183 = .ok (.getfield 160, 3) := by decide +kernel
theorem dX7_goRound_186 : decode cX7_goRound 186 = .ok (.ifCond .ge 7, 3) := by decide +kernel
theorem dX7_goRound_189 : decode cX7_goRound 189 = .ok (.iconst 1, 1) := by decide +kernel
theorem dX7_goRound_190 : decode cX7_goRound 190 = .ok (.goto 4, 3) := by decide +kernel
theorem dX7_goRound_193 : decode cX7_goRound 193 = .ok (.iconst 0, 1) := by decide +kernel
theorem dX7_goRound_194 : decode cX7_goRound 194 = .ok (.ireturn, 1) := by decide +kernel
theorem dX7_leftNow_0 : decode cX7_leftNow 0 = .ok (.aload_n 0, 1) := by decide +kernel
theorem dX7_leftNow_1 : decode cX7_leftNow 1 = .ok (.getfield 163, 3) := by decide +kernel
theorem dX7_leftNow_4 : decode cX7_leftNow 4 = .ok (.aload_n 0, 1) := by decide +kernel
theorem dX7_leftNow_5 : decode cX7_leftNow 5 = .ok (.getfield 136, 3) := by decide +kernel
theorem dX7_leftNow_8 : decode cX7_leftNow 8 = .ok (.aload_n 0, 1) := by decide +kernel
theorem dX7_leftNow_9 : decode cX7_leftNow 9 = .ok (.getfield 166, 3) := by decide +kernel
theorem dX7_leftNow_12 : decode cX7_leftNow 12 = .ok (.imul, 1) := by decide +kernel
theorem dX7_leftNow_13 : decode cX7_leftNow 13 = .ok (.isub, 1) := by decide +kernel
theorem dX7_leftNow_14 : decode cX7_leftNow 14 = .ok (.ireturn, 1) := by decide +kernel
theorem dX7_roundBarred_0 : decode cX7_roundBarred 0 = .ok (.aload_n 0, 1) := by decide +kernel
theorem dX7_roundBarred_1 : decode cX7_roundBarred 1 = .ok (.iload_n 1, 1) := by decide +kernel
theorem dX7_roundBarred_2 : decode cX7_roundBarred 2 = .ok (.iload_n 2, 1) := by decide +kernel
theorem dX7_roundBarred_3 : decode cX7_roundBarred 3 = .ok (.iload_n 3, 1) := by decide +kernel
theorem dX7_roundBarred_4 : decode cX7_roundBarred 4 = .ok (.ldc2_w 178, 3) := by decide +kernel
theorem dX7_roundBarred_7 : decode cX7_roundBarred 7 = .ok (.invokevirtual 129, 3) := by decide +kernel
theorem dX7_roundBarred_10 : decode cX7_roundBarred 10 = .ok (.istore 4, 2) := by decide +kernel
theorem dX7_roundBarred_12 : decode cX7_roundBarred 12 = .ok (.iload 4, 2) := by decide +kernel
theorem dX7_roundBarred_14 : decode cX7_roundBarred 14 = .ok (.ifCond .ge 6, 3) := by decide +kernel
theorem dX7_roundBarred_17 : decode cX7_roundBarred 17 = .ok (.iload 4, 2) := by decide +kernel
theorem dX7_roundBarred_19 : decode cX7_roundBarred 19 = .ok (.ireturn, 1) := by decide +kernel
theorem dX7_roundBarred_20 : decode cX7_roundBarred 20 = .ok (.iconst 0, 1) := by decide +kernel
theorem dX7_roundBarred_21 : decode cX7_roundBarred 21 = .ok (.istore 5, 2) := by decide +kernel
theorem dX7_roundBarred_23 : decode cX7_roundBarred 23 = .ok (.iload 5, 2) := by decide +kernel
theorem dX7_roundBarred_25 : decode cX7_roundBarred 25 = .ok (.bipush 6, 2) := by decide +kernel
theorem dX7_roundBarred_27 : decode cX7_roundBarred 27 = .ok (.if_icmp .ge 62, 3) := by decide +kernel
theorem dX7_roundBarred_30 : decode cX7_roundBarred 30 = .ok (.aload_n 0, 1) := by decide +kernel
theorem dX7_roundBarred_31 : decode cX7_roundBarred 31 = .ok (.getfield 40, 3) := by decide +kernel
theorem dX7_roundBarred_34 : decode cX7_roundBarred 34 = .ok (.iload 5, 2) := by decide +kernel
theorem dX7_roundBarred_36 : decode cX7_roundBarred 36 = .ok (.aload_n 0, 1) := by decide +kernel
theorem dX7_roundBarred_37 : decode cX7_roundBarred 37 = .ok (.getfield 65, 3) := by decide +kernel
theorem dX7_roundBarred_40 : decode cX7_roundBarred 40 = .ok (.bipush 60, 2) := by decide +kernel
theorem dX7_roundBarred_42 : decode cX7_roundBarred 42 = .ok (.iload_n 1, 1) := by decide +kernel
theorem dX7_roundBarred_43 : decode cX7_roundBarred 43 = .ok (.imul, 1) := by decide +kernel
theorem dX7_roundBarred_44 : decode cX7_roundBarred 44 = .ok (.iload_n 3, 1) := by decide +kernel
theorem dX7_roundBarred_45 : decode cX7_roundBarred 45 = .ok (.iadd, 1) := by decide +kernel
theorem dX7_roundBarred_46 : decode cX7_roundBarred 46 = .ok (.iload 5, 2) := by decide +kernel
theorem dX7_roundBarred_48 : decode cX7_roundBarred 48 = .ok (.iadd, 1) := by decide +kernel
theorem dX7_roundBarred_49 : decode cX7_roundBarred 49 = .ok (.iaload, 1) := by decide +kernel
theorem dX7_roundBarred_50 : decode cX7_roundBarred 50 = .ok (.iastore, 1) := by decide +kernel
theorem dX7_roundBarred_51 : decode cX7_roundBarred 51 = .ok (.aload_n 0, 1) := by decide +kernel
theorem dX7_roundBarred_52 : decode cX7_roundBarred 52 = .ok (.getfield 40, 3) := by decide +kernel
theorem dX7_roundBarred_55 : decode cX7_roundBarred 55 = .ok (.iload 5, 2) := by decide +kernel
theorem dX7_roundBarred_57 : decode cX7_roundBarred 57 = .ok (.iaload, 1) := by decide +kernel
theorem dX7_roundBarred_58 : decode cX7_roundBarred 58 = .ok (.bipush (-9), 2) := by decide +kernel
theorem dX7_roundBarred_60 : decode cX7_roundBarred 60 = .ok (.if_icmp .eq 23, 3) := by decide +kernel
theorem dX7_roundBarred_63 : decode cX7_roundBarred 63 = .ok (.aload_n 0, 1) := by decide +kernel
theorem dX7_roundBarred_64 : decode cX7_roundBarred 64 = .ok (.aload_n 0, 1) := by decide +kernel
theorem dX7_roundBarred_65 : decode cX7_roundBarred 65 = .ok (.getfield 40, 3) := by decide +kernel
theorem dX7_roundBarred_68 : decode cX7_roundBarred 68 = .ok (.iload 5, 2) := by decide +kernel
theorem dX7_roundBarred_70 : decode cX7_roundBarred 70 = .ok (.iaload, 1) := by decide +kernel
theorem dX7_roundBarred_71 : decode cX7_roundBarred 71 = .ok (.invokevirtual 145, 3) := by decide +kernel
theorem dX7_roundBarred_74 : decode cX7_roundBarred 74 = .ok (.ifCond .eq 9, 3) := by decide +kernel
theorem dX7_roundBarred_77 : decode cX7_roundBarred 77 = .ok (.aload_n 0, 1) := by decide +kernel
theorem dX7_roundBarred_78 : decode cX7_roundBarred 78 = .ok (.iconst (-1), 1) := by decide +kernel
theorem dX7_roundBarred_79 : decode cX7_roundBarred 79 = .ok (.invokevirtual 124, 3) := by decide +kernel
theorem dX7_roundBarred_82 : decode cX7_roundBarred 82 = .ok (.ireturn, 1) := by decide +kernel
theorem dX7_roundBarred_83 : decode cX7_roundBarred 83 = .ok (.iinc 5 1, 3) := by decide +kernel
theorem dX7_roundBarred_86 : decode cX7_roundBarred 86 = .ok (.goto (-63), 3) := by decide +kernel
theorem dX7_roundBarred_89 : decode cX7_roundBarred 89 = .ok (.aload_n 0, 1) := by decide +kernel
theorem dX7_roundBarred_90 : decode cX7_roundBarred 90 = .ok (.iconst 0, 1) := by decide +kernel
theorem dX7_roundBarred_91 : decode cX7_roundBarred 91 = .ok (.invokevirtual 124, 3) := by decide +kernel
theorem dX7_roundBarred_94 : decode cX7_roundBarred 94 = .ok (.ireturn, 1) := by decide +kernel
theorem dX7_round_0 : decode cX7_round 0 = .ok (.iload_n 1, 1) := by decide +kernel
theorem dX7_round_1 : decode cX7_round 1 = .ok (.invokestatic 120, 3) := by decide +kernel
theorem dX7_round_4 : decode cX7_round 4 = .ok (.ifCond .eq 9, 3) := by decide +kernel
theorem dX7_round_7 : decode cX7_round 7 = .ok (.aload_n 0, 1) := by decide +kernel
theorem dX7_round_8 : decode cX7_round 8 = .ok (.iconst (-1), 1) := by decide +kernel
theorem dX7_round_9 : decode cX7_round 9 = .ok (.invokevirtual 124, 3) := by decide +kernel
theorem dX7_round_12 : decode cX7_round 12 = .ok (.ireturn, 1) := by decide +kernel
theorem dX7_round_13 : decode cX7_round 13 = .ok (.iload_n 2, 1) := by decide +kernel
theorem dX7_round_14 : decode cX7_round 14 = .ok (.i2l, 1) := by decide +kernel
theorem dX7_round_15 : decode cX7_round 15 = .ok (.lconst 0, 1) := by decide +kernel
theorem dX7_round_16 : decode cX7_round 16 = .ok (.ldc2_w 127, 3) := by decide +kernel
theorem dX7_round_19 : decode cX7_round 19 = .ok (.invokestatic 87, 3) := by decide +kernel
theorem dX7_round_22 : decode cX7_round 22 = .ok (.ifCond .eq 31, 3) := by decide +kernel
theorem dX7_round_25 : decode cX7_round 25 = .ok (.iload 4, 2) := by decide +kernel
theorem dX7_round_27 : decode cX7_round 27 = .ok (.i2l, 1) := by decide +kernel
theorem dX7_round_28 : decode cX7_round 28 = .ok (.lconst 0, 1) := by decide +kernel
theorem dX7_round_29 : decode cX7_round 29 = .ok (.ldc2_w 153, 3) := by decide +kernel
theorem dX7_round_32 : decode cX7_round 32 = .ok (.invokestatic 87, 3) := by decide +kernel
theorem dX7_round_35 : decode cX7_round 35 = .ok (.ifCond .ne 25, 3) := by decide +kernel
theorem dX7_round_38 : decode cX7_round 38 = .ok (.iload 4, 2) := by decide +kernel
theorem dX7_round_40 : decode cX7_round 40 = .ok (.i2l, 1) := by decide +kernel
theorem dX7_round_41 : decode cX7_round 41 = .ok (.ldc2_w 180, 3) := by decide +kernel
theorem dX7_round_44 : decode cX7_round 44 = .ok (.ldc2_w 182, 3) := by decide +kernel
theorem dX7_round_47 : decode cX7_round 47 = .ok (.invokestatic 87, 3) := by decide +kernel
theorem dX7_round_50 : decode cX7_round 50 = .ok (.ifCond .ne 10, 3) := by decide +kernel
theorem dX7_round_53 : decode cX7_round 53 = .ok (.aload_n 0, 1) := by decide +kernel
theorem dX7_round_54 : decode cX7_round 54 = .ok (.bipush (-2), 2) := by decide +kernel
theorem dX7_round_56 : decode cX7_round 56 = .ok (.invokevirtual 124, 3) := by decide +kernel
theorem dX7_round_59 : decode cX7_round 59 = .ok (.ireturn, 1) := by decide +kernel
theorem dX7_round_60 : decode cX7_round 60 = .ok (.aload_n 0, 1) := by decide +kernel
theorem dX7_round_61 : decode cX7_round 61 = .ok (.getfield 84, 3) := by decide +kernel
theorem dX7_round_64 : decode cX7_round 64 = .ok (.ifCond .ne 10, 3) := by decide +kernel
theorem dX7_round_67 : decode cX7_round 67 = .ok (.aload_n 0, 1) := by decide +kernel
theorem dX7_round_68 : decode cX7_round 68 = .ok (.bipush (-3), 2) := by decide +kernel
theorem dX7_round_70 : decode cX7_round 70 = .ok (.invokevirtual 124, 3) := by decide +kernel
theorem dX7_round_73 : decode cX7_round 73 = .ok (.ireturn, 1) := by decide +kernel
theorem dX7_round_74 : decode cX7_round 74 = .ok (.aload_n 0, 1) := by decide +kernel
theorem dX7_round_75 : decode cX7_round 75 = .ok (.iload_n 1, 1) := by decide +kernel
theorem dX7_round_76 : decode cX7_round 76 = .ok (.iload_n 2, 1) := by decide +kernel
theorem dX7_round_77 : decode cX7_round 77 = .ok (.iload_n 3, 1) := by decide +kernel
theorem dX7_round_78 : decode cX7_round 78 = .ok (.invokevirtual 184, 3) := by decide +kernel
theorem dX7_round_81 : decode cX7_round 81 = .ok (.istore 5, 2) := by decide +kernel
theorem dX7_round_83 : decode cX7_round 83 = .ok (.iload 5, 2) := by decide +kernel
theorem dX7_round_85 : decode cX7_round 85 = .ok (.ifCond .ge 6, 3) := by decide +kernel
theorem dX7_round_88 : decode cX7_round 88 = .ok (.iload 5, 2) := by decide +kernel
theorem dX7_round_90 : decode cX7_round 90 = .ok (.ireturn, 1) := by decide +kernel
theorem dX7_round_91 : decode cX7_round 91 = .ok (.aload_n 0, 1) := by decide +kernel
theorem dX7_round_92 : decode cX7_round 92 = .ok (.invokevirtual 188, 3) := by decide +kernel
theorem dX7_round_95 : decode cX7_round 95 = .ok (.istore 6, 2) := by decide +kernel
theorem dX7_round_97 : decode cX7_round 97 = .ok (.iload 4, 2) := by decide +kernel
theorem dX7_round_99 : decode cX7_round 99 = .ok (.iconst 1, 1) := by decide +kernel
theorem dX7_round_100 : decode cX7_round 100 = .ok (.if_icmp .ne 8, 3) := by decide +kernel
theorem dX7_round_103 : decode cX7_round 103 = .ok (.aload_n 0, 1) := by decide +kernel
theorem dX7_round_104 : decode cX7_round 104 = .ok (.getfield 160, 3) := by decide +kernel
theorem dX7_round_107 : decode cX7_round 107 = .ok (.ireturn, 1) := by decide +kernel
theorem dX7_round_108 : decode cX7_round 108 = .ok (.iload 6, 2) := by decide +kernel
theorem dX7_round_110 : decode cX7_round 110 = .ok (.ifCond .ne 11, 3) := by decide +kernel
theorem dX7_round_113 : decode cX7_round 113 = .ok (.bipush (-100), 2) := by decide +kernel
theorem dX7_round_115 : decode cX7_round 115 = .ok (.aload_n 0, 1) := by decide +kernel
theorem dX7_round_116 : decode cX7_round 116 = .ok (.getfield 160, 3) := by decide +kernel
theorem dX7_round_119 : decode cX7_round 119 = .ok (.isub, 1) := by decide +kernel
theorem dX7_round_120 : decode cX7_round 120 = .ok (.ireturn, 1) := by decide +kernel
theorem dX7_round_121 : decode cX7_round 121 = .ok (.iload 4, 2) := by decide +kernel
theorem dX7_round_123 : decode cX7_round 123 = .ok (.tableswitch 48 0 3 #[29, 48, 34, 39], 29) := by decide +kernel
theorem dX7_round_152 : decode cX7_round 152 = .ok (.aload_n 0, 1) := by decide +kernel
theorem dX7_round_153 : decode cX7_round 153 = .ok (.getfield 163, 3) := by decide +kernel
theorem dX7_round_156 : decode cX7_round 156 = .ok (.ireturn, 1) := by decide +kernel
theorem dX7_round_157 : decode cX7_round 157 = .ok (.aload_n 0, 1) := by decide +kernel
theorem dX7_round_158 : decode cX7_round 158 = .ok (.getfield 166, 3) := by decide +kernel
theorem dX7_round_161 : decode cX7_round 161 = .ok (.ireturn, 1) := by decide +kernel
theorem dX7_round_162 : decode cX7_round 162 = .ok (.aload_n 0, 1) := by decide +kernel
theorem dX7_round_163 : decode cX7_round 163 = .ok (.invokevirtual 192, 3) := by decide +kernel
theorem dX7_round_166 : decode cX7_round 166 = .ok (.sipush 1000, 3) := by decide +kernel
theorem dX7_round_169 : decode cX7_round 169 = .ok (.iadd, 1) := by decide +kernel
theorem dX7_round_170 : decode cX7_round 170 = .ok (.ireturn, 1) := by decide +kernel
theorem dX7_round_171 : decode cX7_round 171 = .ok (.aload_n 0, 1) := by decide +kernel
theorem dX7_round_172 : decode cX7_round 172 = .ok (.getfield 43, 3) := by decide +kernel
theorem dX7_round_175 : decode cX7_round 175 = .ok (.iload 4, 2) := by decide +kernel
theorem dX7_round_177 : decode cX7_round 177 = .ok (.bipush 10, 2) := by decide +kernel
theorem dX7_round_179 : decode cX7_round 179 = .ok (.isub, 1) := by decide +kernel
theorem dX7_round_180 : decode cX7_round 180 = .ok (.iaload, 1) := by decide +kernel
theorem dX7_round_181 : decode cX7_round 181 = .ok (.ireturn, 1) := by decide +kernel
theorem dX7_rows_0 : decode cX7_rows 0 = .ok (.iconst 1, 1) := by decide +kernel
theorem dX7_rows_1 : decode cX7_rows 1 = .ok (.istore_n 1, 1) := by decide +kernel
theorem dX7_rows_2 : decode cX7_rows 2 = .ok (.iconst 0, 1) := by decide +kernel
theorem dX7_rows_3 : decode cX7_rows 3 = .ok (.istore_n 2, 1) := by decide +kernel
theorem dX7_rows_4 : decode cX7_rows 4 = .ok (.iload_n 2, 1) := by decide +kernel
theorem dX7_rows_5 : decode cX7_rows 5 = .ok (.bipush 6, 2) := by decide +kernel
theorem dX7_rows_7 : decode cX7_rows 7 = .ok (.if_icmp .ge 18, 3) := by decide +kernel
theorem dX7_rows_10 : decode cX7_rows 10 = .ok (.iload_n 1, 1) := by decide +kernel
theorem dX7_rows_11 : decode cX7_rows 11 = .ok (.aload_n 0, 1) := by decide +kernel
theorem dX7_rows_12 : decode cX7_rows 12 = .ok (.getfield 84, 3) := by decide +kernel
theorem dX7_rows_15 : decode cX7_rows 15 = .ok (.iconst 1, 1) := by decide +kernel
theorem dX7_rows_16 : decode cX7_rows 16 = .ok (.iadd, 1) := by decide +kernel
theorem dX7_rows_17 : decode cX7_rows 17 = .ok (.imul, 1) := by decide +kernel
theorem dX7_rows_18 : decode cX7_rows 18 = .ok (.istore_n 1, 1) := by decide +kernel
theorem dX7_rows_19 : decode cX7_rows 19 = .ok (.iinc 2 1, 3) := by decide +kernel
theorem dX7_rows_22 : decode cX7_rows 22 = .ok (.goto (-18), 3) := by decide +kernel
theorem dX7_rows_25 : decode cX7_rows 25 = .ok (.iload_n 1, 1) := by decide +kernel
theorem dX7_rows_26 : decode cX7_rows 26 = .ok (.ireturn, 1) := by decide +kernel
theorem dX7_layRow_0 : decode cX7_layRow 0 = .ok (.iload_n 1, 1) := by decide +kernel
theorem dX7_layRow_1 : decode cX7_layRow 1 = .ok (.istore_n 2, 1) := by decide +kernel
theorem dX7_layRow_2 : decode cX7_layRow 2 = .ok (.iconst 5, 1) := by decide +kernel
theorem dX7_layRow_3 : decode cX7_layRow 3 = .ok (.istore_n 3, 1) := by decide +kernel
theorem dX7_layRow_4 : decode cX7_layRow 4 = .ok (.iload_n 3, 1) := by decide +kernel
theorem dX7_layRow_5 : decode cX7_layRow 5 = .ok (.ifCond .lt 48, 3) := by decide +kernel
theorem dX7_layRow_8 : decode cX7_layRow 8 = .ok (.iload_n 2, 1) := by decide +kernel
theorem dX7_layRow_9 : decode cX7_layRow 9 = .ok (.aload_n 0, 1) := by decide +kernel
theorem dX7_layRow_10 : decode cX7_layRow 10 = .ok (.getfield 84, 3) := by decide +kernel
theorem dX7_layRow_13 : decode cX7_layRow 13 = .ok (.iconst 1, 1) := by decide +kernel
theorem dX7_layRow_14 : decode cX7_layRow 14 = .ok (.iadd, 1) := by decide +kernel
theorem dX7_layRow_15 : decode cX7_layRow 15 = .ok (.irem, 1) := by decide +kernel
theorem dX7_layRow_16 : decode cX7_layRow 16 = .ok (.istore 4, 2) := by decide +kernel
theorem dX7_layRow_18 : decode cX7_layRow 18 = .ok (.aload_n 0, 1) := by decide +kernel
theorem dX7_layRow_19 : decode cX7_layRow 19 = .ok (.getfield 40, 3) := by decide +kernel
theorem dX7_layRow_22 : decode cX7_layRow 22 = .ok (.iload_n 3, 1) := by decide +kernel
theorem dX7_layRow_23 : decode cX7_layRow 23 = .ok (.iload 4, 2) := by decide +kernel
theorem dX7_layRow_25 : decode cX7_layRow 25 = .ok (.ifCond .ne 8, 3) := by decide +kernel
theorem dX7_layRow_28 : decode cX7_layRow 28 = .ok (.bipush (-9), 2) := by decide +kernel
theorem dX7_layRow_30 : decode cX7_layRow 30 = .ok (.goto 7, 3) := by decide +kernel
theorem dX7_layRow_33 : decode cX7_layRow 33 = .ok (.iload 4, 2) := by decide +kernel
theorem dX7_layRow_35 : decode cX7_layRow 35 = .ok (.iconst 1, 1) := by decide +kernel
theorem dX7_layRow_36 : decode cX7_layRow 36 = .ok (.isub, 1) := by decide +kernel
theorem dX7_layRow_37 : decode cX7_layRow 37 = .ok (.iastore, 1) := by decide +kernel
theorem dX7_layRow_38 : decode cX7_layRow 38 = .ok (.iload_n 2, 1) := by decide +kernel
theorem dX7_layRow_39 : decode cX7_layRow 39 = .ok (.aload_n 0, 1) := by decide +kernel
theorem dX7_layRow_40 : decode cX7_layRow 40 = .ok (.getfield 84, 3) := by decide +kernel
theorem dX7_layRow_43 : decode cX7_layRow 43 = .ok (.iconst 1, 1) := by decide +kernel
theorem dX7_layRow_44 : decode cX7_layRow 44 = .ok (.iadd, 1) := by decide +kernel
theorem dX7_layRow_45 : decode cX7_layRow 45 = .ok (.idiv, 1) := by decide +kernel
theorem dX7_layRow_46 : decode cX7_layRow 46 = .ok (.istore_n 2, 1) := by decide +kernel
theorem dX7_layRow_47 : decode cX7_layRow 47 = .ok (.iinc 3 (-1), 3) := by decide +kernel
theorem dX7_layRow_50 : decode cX7_layRow 50 = .ok (.goto (-46), 3) := by decide +kernel
theorem dX7_layRow_53 : decode cX7_layRow 53 = .ok (.return_, 1) := by decide +kernel
theorem dX7_bestRow_0 : decode cX7_bestRow 0 = .ok (.bipush (-9), 2) := by decide +kernel
theorem dX7_bestRow_2 : decode cX7_bestRow 2 = .ok (.istore_n 1, 1) := by decide +kernel
theorem dX7_bestRow_3 : decode cX7_bestRow 3 = .ok (.iconst 0, 1) := by decide +kernel
theorem dX7_bestRow_4 : decode cX7_bestRow 4 = .ok (.istore_n 2, 1) := by decide +kernel
theorem dX7_bestRow_5 : decode cX7_bestRow 5 = .ok (.iload_n 2, 1) := by decide +kernel
theorem dX7_bestRow_6 : decode cX7_bestRow 6 = .ok (.aload_n 0, 1) := by decide +kernel
theorem dX7_bestRow_7 : decode cX7_bestRow 7 = .ok (.invokevirtual 196, 3) := by decide +kernel
theorem dX7_bestRow_10 : decode cX7_bestRow 10 = .ok (.if_icmp .ge 46, 3) := by decide +kernel
theorem dX7_bestRow_13 : decode cX7_bestRow 13 = .ok (.aload_n 0, 1) := by decide +kernel
theorem dX7_bestRow_14 : decode cX7_bestRow 14 = .ok (.iload_n 2, 1) := by decide +kernel
theorem dX7_bestRow_15 : decode cX7_bestRow 15 = .ok (.invokevirtual 199, 3) := by decide +kernel
theorem dX7_bestRow_18 : decode cX7_bestRow 18 = .ok (.aload_n 0, 1) := by decide +kernel
theorem dX7_bestRow_19 : decode cX7_bestRow 19 = .ok (.invokevirtual 188, 3) := by decide +kernel
theorem dX7_bestRow_22 : decode cX7_bestRow 22 = .ok (.ifCond .eq 28, 3) := by decide +kernel
theorem dX7_bestRow_25 : decode cX7_bestRow 25 = .ok (.iload_n 1, 1) := by decide +kernel
theorem dX7_bestRow_26 : decode cX7_bestRow 26 = .ok (.ifCond .lt 14, 3) := by decide +kernel
theorem dX7_bestRow_29 : decode cX7_bestRow 29 = .ok (.aload_n 0, 1) := by decide +kernel
theorem dX7_bestRow_30 : decode cX7_bestRow 30 = .ok (.invokevirtual 192, 3) := by decide +kernel
theorem dX7_bestRow_33 : decode cX7_bestRow 33 = .ok (.aload_n 0, 1) := by decide +kernel
theorem dX7_bestRow_34 : decode cX7_bestRow 34 = .ok (.getfield 203, 3) := by decide +kernel
theorem dX7_bestRow_37 : decode cX7_bestRow 37 = .ok (.if_icmp .le 13, 3) := by decide +kernel
theorem dX7_bestRow_40 : decode cX7_bestRow 40 = .ok (.iload_n 2, 1) := by decide +kernel
theorem dX7_bestRow_41 : decode cX7_bestRow 41 = .ok (.istore_n 1, 1) := by decide +kernel
theorem dX7_bestRow_42 : decode cX7_bestRow 42 = .ok (.aload_n 0, 1) := by decide +kernel
theorem dX7_bestRow_43 : decode cX7_bestRow 43 = .ok (.aload_n 0, 1) := by decide +kernel
theorem dX7_bestRow_44 : decode cX7_bestRow 44 = .ok (.invokevirtual 192, 3) := by decide +kernel
theorem dX7_bestRow_47 : decode cX7_bestRow 47 = .ok (.putfield 203, 3) := by decide +kernel
theorem dX7_bestRow_50 : decode cX7_bestRow 50 = .ok (.iinc 2 1, 3) := by decide +kernel
theorem dX7_bestRow_53 : decode cX7_bestRow 53 = .ok (.goto (-48), 3) := by decide +kernel
theorem dX7_bestRow_56 : decode cX7_bestRow 56 = .ok (.iload_n 1, 1) := by decide +kernel
theorem dX7_bestRow_57 : decode cX7_bestRow 57 = .ok (.ireturn, 1) := by decide +kernel
theorem dX7_best_0 : decode cX7_best 0 = .ok (.iload_n 1, 1) := by decide +kernel
theorem dX7_best_1 : decode cX7_best 1 = .ok (.i2l, 1) := by decide +kernel
theorem dX7_best_2 : decode cX7_best 2 = .ok (.ldc2_w 206, 3) := by decide +kernel
theorem dX7_best_5 : decode cX7_best 5 = .ok (.ldc2_w 208, 3) := by decide +kernel
theorem dX7_best_8 : decode cX7_best 8 = .ok (.invokestatic 87, 3) := by decide +kernel
theorem dX7_best_11 : decode cX7_best 11 = .ok (.ifCond .ne 6, 3) := by decide +kernel
theorem dX7_best_14 : decode cX7_best 14 = .ok (.bipush (-2), 2) := by decide +kernel
theorem dX7_best_16 : decode cX7_best 16 = .ok (.ireturn, 1) := by decide +kernel
theorem dX7_best_17 : decode cX7_best 17 = .ok (.aload_n 0, 1) := by decide +kernel
theorem dX7_best_18 : decode cX7_best 18 = .ok (.getfield 84, 3) := by decide +kernel
theorem dX7_best_21 : decode cX7_best 21 = .ok (.ifCond .ne 6, 3) := by decide +kernel
theorem dX7_best_24 : decode cX7_best 24 = .ok (.bipush (-3), 2) := by decide +kernel
theorem dX7_best_26 : decode cX7_best 26 = .ok (.ireturn, 1) := by decide +kernel
theorem dX7_best_27 : decode cX7_best 27 = .ok (.aload_n 0, 1) := by decide +kernel
theorem dX7_best_28 : decode cX7_best 28 = .ok (.invokevirtual 210, 3) := by decide +kernel
theorem dX7_best_31 : decode cX7_best 31 = .ok (.istore_n 2, 1) := by decide +kernel
theorem dX7_best_32 : decode cX7_best 32 = .ok (.aload_n 0, 1) := by decide +kernel
theorem dX7_best_33 : decode cX7_best 33 = .ok (.iload_n 2, 1) := by decide +kernel
theorem dX7_best_34 : decode cX7_best 34 = .ok (.invokevirtual 199, 3) := by decide +kernel
theorem dX7_best_37 : decode cX7_best 37 = .ok (.iload_n 1, 1) := by decide +kernel
theorem dX7_best_38 : decode cX7_best 38 = .ok (.ifCond .ge 14, 3) := by decide +kernel
theorem dX7_best_41 : decode cX7_best 41 = .ok (.aload_n 0, 1) := by decide +kernel
theorem dX7_best_42 : decode cX7_best 42 = .ok (.getfield 203, 3) := by decide +kernel
theorem dX7_best_45 : decode cX7_best 45 = .ok (.sipush 1000, 3) := by decide +kernel
theorem dX7_best_48 : decode cX7_best 48 = .ok (.iadd, 1) := by decide +kernel
theorem dX7_best_49 : decode cX7_best 49 = .ok (.goto 9, 3) := by decide +kernel
theorem dX7_best_52 : decode cX7_best 52 = .ok (.aload_n 0, 1) := by decide +kernel
theorem dX7_best_53 : decode cX7_best 53 = .ok (.getfield 40, 3) := by decide +kernel
theorem dX7_best_56 : decode cX7_best 56 = .ok (.iload_n 1, 1) := by decide +kernel
theorem dX7_best_57 : decode cX7_best 57 = .ok (.iaload, 1) := by decide +kernel
theorem dX7_best_58 : decode cX7_best 58 = .ok (.ireturn, 1) := by decide +kernel
theorem dX7_mild_0 : decode cX7_mild 0 = .ok (.iload_n 1, 1) := by decide +kernel
theorem dX7_mild_1 : decode cX7_mild 1 = .ok (.i2l, 1) := by decide +kernel
theorem dX7_mild_2 : decode cX7_mild 2 = .ok (.lconst 0, 1) := by decide +kernel
theorem dX7_mild_3 : decode cX7_mild 3 = .ok (.ldc2_w 213, 3) := by decide +kernel
theorem dX7_mild_6 : decode cX7_mild 6 = .ok (.invokestatic 87, 3) := by decide +kernel
theorem dX7_mild_9 : decode cX7_mild 9 = .ok (.ifCond .ne 6, 3) := by decide +kernel
theorem dX7_mild_12 : decode cX7_mild 12 = .ok (.bipush (-2), 2) := by decide +kernel
theorem dX7_mild_14 : decode cX7_mild 14 = .ok (.ireturn, 1) := by decide +kernel
theorem dX7_mild_15 : decode cX7_mild 15 = .ok (.aload_n 0, 1) := by decide +kernel
theorem dX7_mild_16 : decode cX7_mild 16 = .ok (.getfield 84, 3) := by decide +kernel
theorem dX7_mild_19 : decode cX7_mild 19 = .ok (.ifCond .ne 6, 3) := by decide +kernel
theorem dX7_mild_22 : decode cX7_mild 22 = .ok (.bipush (-3), 2) := by decide +kernel
theorem dX7_mild_24 : decode cX7_mild 24 = .ok (.ireturn, 1) := by decide +kernel
theorem dX7_mild_25 : decode cX7_mild 25 = .ok (.iconst 0, 1) := by decide +kernel
theorem dX7_mild_26 : decode cX7_mild 26 = .ok (.istore_n 2, 1) := by decide +kernel
theorem dX7_mild_27 : decode cX7_mild 27 = .ok (.iconst 0, 1) := by decide +kernel
theorem dX7_mild_28 : decode cX7_mild 28 = .ok (.istore_n 3, 1) := by decide +kernel
theorem dX7_mild_29 : decode cX7_mild 29 = .ok (.iload_n 3, 1) := by decide +kernel
theorem dX7_mild_30 : decode cX7_mild 30 = .ok (.aload_n 0, 1) := by decide +kernel
theorem dX7_mild_31 : decode cX7_mild 31 = .ok (.invokevirtual 196, 3) := by decide +kernel
theorem dX7_mild_34 : decode cX7_mild 34 = .ok (.if_icmp .ge 58, 3) := by decide +kernel
theorem dX7_mild_37 : decode cX7_mild 37 = .ok (.aload_n 0, 1) := by decide +kernel
theorem dX7_mild_38 : decode cX7_mild 38 = .ok (.iload_n 3, 1) := by decide +kernel
theorem dX7_mild_39 : decode cX7_mild 39 = .ok (.invokevirtual 199, 3) := by decide +kernel
theorem dX7_mild_42 : decode cX7_mild 42 = .ok (.aload_n 0, 1) := by decide +kernel
theorem dX7_mild_43 : decode cX7_mild 43 = .ok (.invokevirtual 188, 3) := by decide +kernel
theorem dX7_mild_46 : decode cX7_mild 46 = .ok (.ifCond .eq 15, 3) := by decide +kernel
theorem dX7_mild_49 : decode cX7_mild 49 = .ok (.aload_n 0, 1) := by decide +kernel
theorem dX7_mild_50 : decode cX7_mild 50 = .ok (.getfield 166, 3) := by decide +kernel
theorem dX7_mild_53 : decode cX7_mild 53 = .ok (.iload_n 1, 1) := by decide +kernel
theorem dX7_mild_54 : decode cX7_mild 54 = .ok (.if_icmp .gt 7, 3) := by decide +kernel
theorem dX7_mild_57 : decode cX7_mild 57 = .ok (.iconst 1, 1) := by decide +kernel
theorem dX7_mild_58 : decode cX7_mild 58 = .ok (.goto 4, 3) := by decide +kernel
theorem dX7_mild_61 : decode cX7_mild 61 = .ok (.iconst 0, 1) := by decide +kernel
theorem dX7_mild_62 : decode cX7_mild 62 = .ok (.istore 4, 2) := by decide +kernel
theorem dX7_mild_64 : decode cX7_mild 64 = .ok (.iload 4, 2) := by decide +kernel
theorem dX7_mild_66 : decode cX7_mild 66 = .ok (.ifCond .eq 18, 3) := by decide +kernel
theorem dX7_mild_69 : decode cX7_mild 69 = .ok (.aload_n 0, 1) := by decide +kernel
theorem dX7_mild_70 : decode cX7_mild 70 = .ok (.getfield 163, 3) := by decide +kernel
theorem dX7_mild_73 : decode cX7_mild 73 = .ok (.iload_n 2, 1) := by decide +kernel
theorem dX7_mild_74 : decode cX7_mild 74 = .ok (.if_icmp .le 10, 3) := by decide +kernel
theorem dX7_mild_77 : decode cX7_mild 77 = .ok (.aload_n 0, 1) := by decide +kernel
theorem dX7_mild_78 : decode cX7_mild 78 = .ok (.getfield 163, 3) := by decide +kernel
theorem dX7_mild_81 : decode cX7_mild 81 = .ok (.goto 4, 3) := by decide +kernel
theorem dX7_mild_84 : decode cX7_mild 84 = .ok (.iload_n 2, 1) := by decide +kernel
theorem dX7_mild_85 : decode cX7_mild 85 = .ok (.istore_n 2, 1) := by decide +kernel
theorem dX7_mild_86 : decode cX7_mild 86 = .ok (.iinc 3 1, 3) := by decide +kernel
theorem dX7_mild_89 : decode cX7_mild 89 = .ok (.goto (-60), 3) := by decide +kernel
theorem dX7_mild_92 : decode cX7_mild 92 = .ok (.iload_n 2, 1) := by decide +kernel
theorem dX7_mild_93 : decode cX7_mild 93 = .ok (.ireturn, 1) := by decide +kernel
theorem dX7_worth_0 : decode cX7_worth 0 = .ok (.aload_n 0, 1) := by decide +kernel
theorem dX7_worth_1 : decode cX7_worth 1 = .ok (.iload_n 1, 1) := by decide +kernel
theorem dX7_worth_2 : decode cX7_worth 2 = .ok (.invokevirtual 145, 3) := by decide +kernel
theorem dX7_worth_5 : decode cX7_worth 5 = .ok (.ifCond .eq 5, 3) := by decide +kernel
theorem dX7_worth_8 : decode cX7_worth 8 = .ok (.iconst (-1), 1) := by decide +kernel
theorem dX7_worth_9 : decode cX7_worth 9 = .ok (.ireturn, 1) := by decide +kernel
theorem dX7_worth_10 : decode cX7_worth 10 = .ok (.aload_n 0, 1) := by decide +kernel
theorem dX7_worth_11 : decode cX7_worth 11 = .ok (.invokevirtual 210, 3) := by decide +kernel
theorem dX7_worth_14 : decode cX7_worth 14 = .ok (.pop, 1) := by decide +kernel
theorem dX7_worth_15 : decode cX7_worth 15 = .ok (.aload_n 0, 1) := by decide +kernel
theorem dX7_worth_16 : decode cX7_worth 16 = .ok (.getfield 203, 3) := by decide +kernel
theorem dX7_worth_19 : decode cX7_worth 19 = .ok (.istore_n 2, 1) := by decide +kernel
theorem dX7_worth_20 : decode cX7_worth 20 = .ok (.aload_n 0, 1) := by decide +kernel
theorem dX7_worth_21 : decode cX7_worth 21 = .ok (.iload_n 1, 1) := by decide +kernel
theorem dX7_worth_22 : decode cX7_worth 22 = .ok (.putfield 71, 3) := by decide +kernel
theorem dX7_worth_25 : decode cX7_worth 25 = .ok (.aload_n 0, 1) := by decide +kernel
theorem dX7_worth_26 : decode cX7_worth 26 = .ok (.invokevirtual 210, 3) := by decide +kernel
theorem dX7_worth_29 : decode cX7_worth 29 = .ok (.pop, 1) := by decide +kernel
theorem dX7_worth_30 : decode cX7_worth 30 = .ok (.aload_n 0, 1) := by decide +kernel
theorem dX7_worth_31 : decode cX7_worth 31 = .ok (.bipush (-9), 2) := by decide +kernel
theorem dX7_worth_33 : decode cX7_worth 33 = .ok (.putfield 71, 3) := by decide +kernel
theorem dX7_worth_36 : decode cX7_worth 36 = .ok (.iload_n 2, 1) := by decide +kernel
theorem dX7_worth_37 : decode cX7_worth 37 = .ok (.aload_n 0, 1) := by decide +kernel
theorem dX7_worth_38 : decode cX7_worth 38 = .ok (.getfield 203, 3) := by decide +kernel
theorem dX7_worth_41 : decode cX7_worth 41 = .ok (.isub, 1) := by decide +kernel
theorem dX7_worth_42 : decode cX7_worth 42 = .ok (.sipush 1000, 3) := by decide +kernel
theorem dX7_worth_45 : decode cX7_worth 45 = .ok (.iadd, 1) := by decide +kernel
theorem dX7_worth_46 : decode cX7_worth 46 = .ok (.ireturn, 1) := by decide +kernel
theorem dX7_takesOf_0 : decode cX7_takesOf 0 = .ok (.aload_n 0, 1) := by decide +kernel
theorem dX7_takesOf_1 : decode cX7_takesOf 1 = .ok (.aload_n 0, 1) := by decide +kernel
theorem dX7_takesOf_2 : decode cX7_takesOf 2 = .ok (.invokevirtual 210, 3) := by decide +kernel
theorem dX7_takesOf_5 : decode cX7_takesOf 5 = .ok (.invokevirtual 199, 3) := by decide +kernel
theorem dX7_takesOf_8 : decode cX7_takesOf 8 = .ok (.iconst 0, 1) := by decide +kernel
theorem dX7_takesOf_9 : decode cX7_takesOf 9 = .ok (.istore_n 2, 1) := by decide +kernel
theorem dX7_takesOf_10 : decode cX7_takesOf 10 = .ok (.iconst 0, 1) := by decide +kernel
theorem dX7_takesOf_11 : decode cX7_takesOf 11 = .ok (.istore_n 3, 1) := by decide +kernel
theorem dX7_takesOf_12 : decode cX7_takesOf 12 = .ok (.iload_n 3, 1) := by decide +kernel
theorem dX7_takesOf_13 : decode cX7_takesOf 13 = .ok (.bipush 6, 2) := by decide +kernel
theorem dX7_takesOf_15 : decode cX7_takesOf 15 = .ok (.if_icmp .ge 27, 3) := by decide +kernel
theorem dX7_takesOf_18 : decode cX7_takesOf 18 = .ok (.iload_n 2, 1) := by decide +kernel
theorem dX7_takesOf_19 : decode cX7_takesOf 19 = .ok (.aload_n 0, 1) := by decide +kernel
theorem dX7_takesOf_20 : decode cX7_takesOf 20 = .ok (.getfield 40, 3) := by decide +kernel
theorem dX7_takesOf_23 : decode cX7_takesOf 23 = .ok (.iload_n 3, 1) := by decide +kernel
theorem dX7_takesOf_24 : decode cX7_takesOf 24 = .ok (.iaload, 1) := by decide +kernel
theorem dX7_takesOf_25 : decode cX7_takesOf 25 = .ok (.iload_n 1, 1) := by decide +kernel
theorem dX7_takesOf_26 : decode cX7_takesOf 26 = .ok (.if_icmp .ne 7, 3) := by decide +kernel
theorem dX7_takesOf_29 : decode cX7_takesOf 29 = .ok (.iconst 1, 1) := by decide +kernel
theorem dX7_takesOf_30 : decode cX7_takesOf 30 = .ok (.goto 4, 3) := by decide +kernel
theorem dX7_takesOf_33 : decode cX7_takesOf 33 = .ok (.iconst 0, 1) := by decide +kernel
theorem dX7_takesOf_34 : decode cX7_takesOf 34 = .ok (.iadd, 1) := by decide +kernel
theorem dX7_takesOf_35 : decode cX7_takesOf 35 = .ok (.istore_n 2, 1) := by decide +kernel
theorem dX7_takesOf_36 : decode cX7_takesOf 36 = .ok (.iinc 3 1, 3) := by decide +kernel
theorem dX7_takesOf_39 : decode cX7_takesOf 39 = .ok (.goto (-27), 3) := by decide +kernel
theorem dX7_takesOf_42 : decode cX7_takesOf 42 = .ok (.iload_n 2, 1) := by decide +kernel
theorem dX7_takesOf_43 : decode cX7_takesOf 43 = .ok (.ireturn, 1) := by decide +kernel
theorem dX7_shift_0 : decode cX7_shift 0 = .ok (.aload_n 0, 1) := by decide +kernel
theorem dX7_shift_1 : decode cX7_shift 1 = .ok (.iload_n 1, 1) := by decide +kernel
theorem dX7_shift_2 : decode cX7_shift 2 = .ok (.invokevirtual 145, 3) := by decide +kernel
theorem dX7_shift_5 : decode cX7_shift 5 = .ok (.ifCond .eq 5, 3) := by decide +kernel
theorem dX7_shift_8 : decode cX7_shift 8 = .ok (.iconst (-1), 1) := by decide +kernel
theorem dX7_shift_9 : decode cX7_shift 9 = .ok (.ireturn, 1) := by decide +kernel
theorem dX7_shift_10 : decode cX7_shift 10 = .ok (.aload_n 0, 1) := by decide +kernel
theorem dX7_shift_11 : decode cX7_shift 11 = .ok (.getfield 22, 3) := by decide +kernel
theorem dX7_shift_14 : decode cX7_shift 14 = .ok (.iload_n 1, 1) := by decide +kernel
theorem dX7_shift_15 : decode cX7_shift 15 = .ok (.iaload, 1) := by decide +kernel
theorem dX7_shift_16 : decode cX7_shift 16 = .ok (.istore_n 2, 1) := by decide +kernel
theorem dX7_shift_17 : decode cX7_shift 17 = .ok (.aload_n 0, 1) := by decide +kernel
theorem dX7_shift_18 : decode cX7_shift 18 = .ok (.iload_n 1, 1) := by decide +kernel
theorem dX7_shift_19 : decode cX7_shift 19 = .ok (.invokevirtual 215, 3) := by decide +kernel
theorem dX7_shift_22 : decode cX7_shift 22 = .ok (.istore_n 3, 1) := by decide +kernel
theorem dX7_shift_23 : decode cX7_shift 23 = .ok (.bipush (-9), 2) := by decide +kernel
theorem dX7_shift_25 : decode cX7_shift 25 = .ok (.istore 4, 2) := by decide +kernel
theorem dX7_shift_27 : decode cX7_shift 27 = .ok (.iconst 0, 1) := by decide +kernel
theorem dX7_shift_28 : decode cX7_shift 28 = .ok (.istore 5, 2) := by decide +kernel
theorem dX7_shift_30 : decode cX7_shift 30 = .ok (.iload 5, 2) := by decide +kernel
theorem dX7_shift_32 : decode cX7_shift 32 = .ok (.bipush 6, 2) := by decide +kernel
theorem dX7_shift_34 : decode cX7_shift 34 = .ok (.if_icmp .ge 67, 3) := by decide +kernel
theorem dX7_shift_37 : decode cX7_shift 37 = .ok (.iload_n 2, 1) := by decide +kernel
theorem dX7_shift_38 : decode cX7_shift 38 = .ok (.iload 5, 2) := by decide +kernel
theorem dX7_shift_40 : decode cX7_shift 40 = .ok (.invokestatic 157, 3) := by decide +kernel
theorem dX7_shift_43 : decode cX7_shift 43 = .ok (.ifCond .eq 52, 3) := by decide +kernel
theorem dX7_shift_46 : decode cX7_shift 46 = .ok (.aload_n 0, 1) := by decide +kernel
theorem dX7_shift_47 : decode cX7_shift 47 = .ok (.getfield 22, 3) := by decide +kernel
theorem dX7_shift_50 : decode cX7_shift 50 = .ok (.iload_n 1, 1) := by decide +kernel
theorem dX7_shift_51 : decode cX7_shift 51 = .ok (.iload_n 2, 1) := by decide +kernel
theorem dX7_shift_52 : decode cX7_shift 52 = .ok (.iconst 1, 1) := by decide +kernel
theorem dX7_shift_53 : decode cX7_shift 53 = .ok (.iload 5, 2) := by decide +kernel
theorem dX7_shift_55 : decode cX7_shift 55 = .ok (.ishl, 1) := by decide +kernel
theorem dX7_shift_56 : decode cX7_shift 56 = .ok (.iconst (-1), 1) := by decide +kernel
theorem dX7_shift_57 : decode cX7_shift 57 = .ok (.ixor, 1) := by decide +kernel
theorem dX7_shift_58 : decode cX7_shift 58 = .ok (.iand, 1) := by decide +kernel
theorem dX7_shift_59 : decode cX7_shift 59 = .ok (.iastore, 1) := by decide +kernel
theorem dX7_shift_60 : decode cX7_shift 60 = .ok (.aload_n 0, 1) := by decide +kernel
theorem dX7_shift_61 : decode cX7_shift 61 = .ok (.iload_n 1, 1) := by decide +kernel
theorem dX7_shift_62 : decode cX7_shift 62 = .ok (.invokevirtual 215, 3) := by decide +kernel
theorem dX7_shift_65 : decode cX7_shift 65 = .ok (.istore 6, 2) := by decide +kernel
theorem dX7_shift_67 : decode cX7_shift 67 = .ok (.iload 6, 2) := by decide +kernel
theorem dX7_shift_69 : decode cX7_shift 69 = .ok (.iload_n 3, 1) := by decide +kernel
theorem dX7_shift_70 : decode cX7_shift 70 = .ok (.if_icmp .ge 8, 3) := by decide +kernel
theorem dX7_shift_73 : decode cX7_shift 73 = .ok (.iload 5, 2) := by decide +kernel
theorem dX7_shift_75 : decode cX7_shift 75 = .ok (.goto 5, 3) := by decide +kernel
theorem dX7_shift_78 : decode cX7_shift 78 = .ok (.iload 4, 2) := by decide +kernel
theorem dX7_shift_80 : decode cX7_shift 80 = .ok (.istore 4, 2) := by decide +kernel
theorem dX7_shift_82 : decode cX7_shift 82 = .ok (.iload 6, 2) := by decide +kernel
theorem dX7_shift_84 : decode cX7_shift 84 = .ok (.iload_n 3, 1) := by decide +kernel
theorem dX7_shift_85 : decode cX7_shift 85 = .ok (.if_icmp .ge 8, 3) := by decide +kernel
theorem dX7_shift_88 : decode cX7_shift 88 = .ok (.iload 6, 2) := by decide +kernel
theorem dX7_shift_90 : decode cX7_shift 90 = .ok (.goto 4, 3) := by decide +kernel
theorem dX7_shift_93 : decode cX7_shift 93 = .ok (.iload_n 3, 1) := by decide +kernel
theorem dX7_shift_94 : decode cX7_shift 94 = .ok (.istore_n 3, 1) := by decide +kernel
theorem dX7_shift_95 : decode cX7_shift 95 = .ok (.iinc 5 1, 3) := by decide +kernel
theorem dX7_shift_98 : decode cX7_shift 98 = .ok (.goto (-68), 3) := by decide +kernel
theorem dX7_shift_101 : decode cX7_shift 101 = .ok (.aload_n 0, 1) := by decide +kernel
theorem dX7_shift_102 : decode cX7_shift 102 = .ok (.getfield 22, 3) := by decide +kernel
theorem dX7_shift_105 : decode cX7_shift 105 = .ok (.iload_n 1, 1) := by decide +kernel
theorem dX7_shift_106 : decode cX7_shift 106 = .ok (.iload_n 2, 1) := by decide +kernel
theorem dX7_shift_107 : decode cX7_shift 107 = .ok (.iastore, 1) := by decide +kernel
theorem dX7_shift_108 : decode cX7_shift 108 = .ok (.iload 4, 2) := by decide +kernel
theorem dX7_shift_110 : decode cX7_shift 110 = .ok (.ireturn, 1) := by decide +kernel
theorem dX7_reading_0 : decode cX7_reading 0 = .ok (.aload_n 0, 1) := by decide +kernel
theorem dX7_reading_1 : decode cX7_reading 1 = .ok (.iload_n 1, 1) := by decide +kernel
theorem dX7_reading_2 : decode cX7_reading 2 = .ok (.invokevirtual 145, 3) := by decide +kernel
theorem dX7_reading_5 : decode cX7_reading 5 = .ok (.ifCond .eq 5, 3) := by decide +kernel
theorem dX7_reading_8 : decode cX7_reading 8 = .ok (.iconst (-1), 1) := by decide +kernel
theorem dX7_reading_9 : decode cX7_reading 9 = .ok (.ireturn, 1) := by decide +kernel
theorem dX7_reading_10 : decode cX7_reading 10 = .ok (.iload_n 2, 1) := by decide +kernel
theorem dX7_reading_11 : decode cX7_reading 11 = .ok (.i2l, 1) := by decide +kernel
theorem dX7_reading_12 : decode cX7_reading 12 = .ok (.lconst 0, 1) := by decide +kernel
theorem dX7_reading_13 : decode cX7_reading 13 = .ok (.ldc2_w 208, 3) := by decide +kernel
theorem dX7_reading_16 : decode cX7_reading 16 = .ok (.invokestatic 87, 3) := by decide +kernel
theorem dX7_reading_19 : decode cX7_reading 19 = .ok (.ifCond .ne 6, 3) := by decide +kernel
theorem dX7_reading_22 : decode cX7_reading 22 = .ok (.bipush (-2), 2) := by decide +kernel
theorem dX7_reading_24 : decode cX7_reading 24 = .ok (.ireturn, 1) := by decide +kernel
theorem dX7_reading_25 : decode cX7_reading 25 = .ok (.aload_n 0, 1) := by decide +kernel
theorem dX7_reading_26 : decode cX7_reading 26 = .ok (.getfield 142, 3) := by decide +kernel
theorem dX7_reading_29 : decode cX7_reading 29 = .ok (.bipush 8, 2) := by decide +kernel
theorem dX7_reading_31 : decode cX7_reading 31 = .ok (.if_icmp .ne 6, 3) := by decide +kernel
theorem dX7_reading_34 : decode cX7_reading 34 = .ok (.bipush (-4), 2) := by decide +kernel
theorem dX7_reading_36 : decode cX7_reading 36 = .ok (.ireturn, 1) := by decide +kernel
theorem dX7_reading_37 : decode cX7_reading 37 = .ok (.aload_n 0, 1) := by decide +kernel
theorem dX7_reading_38 : decode cX7_reading 38 = .ok (.getfield 49, 3) := by decide +kernel
theorem dX7_reading_41 : decode cX7_reading 41 = .ok (.aload_n 0, 1) := by decide +kernel
theorem dX7_reading_42 : decode cX7_reading 42 = .ok (.getfield 142, 3) := by decide +kernel
theorem dX7_reading_45 : decode cX7_reading 45 = .ok (.iload_n 1, 1) := by decide +kernel
theorem dX7_reading_46 : decode cX7_reading 46 = .ok (.iastore, 1) := by decide +kernel
theorem dX7_reading_47 : decode cX7_reading 47 = .ok (.aload_n 0, 1) := by decide +kernel
theorem dX7_reading_48 : decode cX7_reading 48 = .ok (.getfield 52, 3) := by decide +kernel
theorem dX7_reading_51 : decode cX7_reading 51 = .ok (.aload_n 0, 1) := by decide +kernel
theorem dX7_reading_52 : decode cX7_reading 52 = .ok (.getfield 142, 3) := by decide +kernel
theorem dX7_reading_55 : decode cX7_reading 55 = .ok (.iload_n 2, 1) := by decide +kernel
theorem dX7_reading_56 : decode cX7_reading 56 = .ok (.iastore, 1) := by decide +kernel
theorem dX7_reading_57 : decode cX7_reading 57 = .ok (.aload_n 0, 1) := by decide +kernel
theorem dX7_reading_58 : decode cX7_reading 58 = .ok (.getfield 55, 3) := by decide +kernel
theorem dX7_reading_61 : decode cX7_reading 61 = .ok (.aload_n 0, 1) := by decide +kernel
theorem dX7_reading_62 : decode cX7_reading 62 = .ok (.getfield 142, 3) := by decide +kernel
theorem dX7_reading_65 : decode cX7_reading 65 = .ok (.iload_n 3, 1) := by decide +kernel
theorem dX7_reading_66 : decode cX7_reading 66 = .ok (.bastore, 1) := by decide +kernel
theorem dX7_reading_67 : decode cX7_reading 67 = .ok (.aload_n 0, 1) := by decide +kernel
theorem dX7_reading_68 : decode cX7_reading 68 = .ok (.dup, 1) := by decide +kernel
theorem dX7_reading_69 : decode cX7_reading 69 = .ok (.getfield 142, 3) := by decide +kernel
theorem dX7_reading_72 : decode cX7_reading 72 = .ok (.iconst 1, 1) := by decide +kernel
theorem dX7_reading_73 : decode cX7_reading 73 = .ok (.iadd, 1) := by decide +kernel
theorem dX7_reading_74 : decode cX7_reading 74 = .ok (.putfield 142, 3) := by decide +kernel
theorem dX7_reading_77 : decode cX7_reading 77 = .ok (.aload_n 0, 1) := by decide +kernel
theorem dX7_reading_78 : decode cX7_reading 78 = .ok (.getfield 142, 3) := by decide +kernel
theorem dX7_reading_81 : decode cX7_reading 81 = .ok (.iconst 1, 1) := by decide +kernel
theorem dX7_reading_82 : decode cX7_reading 82 = .ok (.isub, 1) := by decide +kernel
theorem dX7_reading_83 : decode cX7_reading 83 = .ok (.ireturn, 1) := by decide +kernel
theorem dX7_back_0 : decode cX7_back 0 = .ok (.iload_n 1, 1) := by decide +kernel
theorem dX7_back_1 : decode cX7_back 1 = .ok (.i2l, 1) := by decide +kernel
theorem dX7_back_2 : decode cX7_back 2 = .ok (.lconst 0, 1) := by decide +kernel
theorem dX7_back_3 : decode cX7_back 3 = .ok (.aload_n 0, 1) := by decide +kernel
theorem dX7_back_4 : decode cX7_back 4 = .ok (.getfield 142, 3) := by decide +kernel
theorem dX7_back_7 : decode cX7_back 7 = .ok (.i2l, 1) := by decide +kernel
theorem dX7_back_8 : decode cX7_back 8 = .ok (.invokestatic 87, 3) := by decide +kernel
theorem dX7_back_11 : decode cX7_back 11 = .ok (.ifCond .ne 6, 3) := by decide +kernel
theorem dX7_back_14 : decode cX7_back 14 = .ok (.bipush (-2), 2) := by decide +kernel
theorem dX7_back_16 : decode cX7_back 16 = .ok (.ireturn, 1) := by decide +kernel
theorem dX7_back_17 : decode cX7_back 17 = .ok (.aload_n 0, 1) := by decide +kernel
theorem dX7_back_18 : decode cX7_back 18 = .ok (.dup, 1) := by decide +kernel
theorem dX7_back_19 : decode cX7_back 19 = .ok (.getfield 142, 3) := by decide +kernel
theorem dX7_back_22 : decode cX7_back 22 = .ok (.iload_n 1, 1) := by decide +kernel
theorem dX7_back_23 : decode cX7_back 23 = .ok (.isub, 1) := by decide +kernel
theorem dX7_back_24 : decode cX7_back 24 = .ok (.putfield 142, 3) := by decide +kernel
theorem dX7_back_27 : decode cX7_back 27 = .ok (.aload_n 0, 1) := by decide +kernel
theorem dX7_back_28 : decode cX7_back 28 = .ok (.getfield 142, 3) := by decide +kernel
theorem dX7_back_31 : decode cX7_back 31 = .ok (.ireturn, 1) := by decide +kernel
theorem dX7_isSo_0 : decode cX7_isSo 0 = .ok (.aload_n 0, 1) := by decide +kernel
theorem dX7_isSo_1 : decode cX7_isSo 1 = .ok (.iload_n 1, 1) := by decide +kernel
theorem dX7_isSo_2 : decode cX7_isSo 2 = .ok (.invokevirtual 199, 3) := by decide +kernel
theorem dX7_isSo_5 : decode cX7_isSo 5 = .ok (.aload_n 0, 1) := by decide +kernel
theorem dX7_isSo_6 : decode cX7_isSo 6 = .ok (.invokevirtual 188, 3) := by decide +kernel
theorem dX7_isSo_9 : decode cX7_isSo 9 = .ok (.istore_n 2, 1) := by decide +kernel
theorem dX7_isSo_10 : decode cX7_isSo 10 = .ok (.iconst 0, 1) := by decide +kernel
theorem dX7_isSo_11 : decode cX7_isSo 11 = .ok (.istore_n 3, 1) := by decide +kernel
theorem dX7_isSo_12 : decode cX7_isSo 12 = .ok (.iload_n 3, 1) := by decide +kernel
theorem dX7_isSo_13 : decode cX7_isSo 13 = .ok (.aload_n 0, 1) := by decide +kernel
theorem dX7_isSo_14 : decode cX7_isSo 14 = .ok (.getfield 142, 3) := by decide +kernel
theorem dX7_isSo_17 : decode cX7_isSo 17 = .ok (.if_icmp .ge 48, 3) := by decide +kernel
theorem dX7_isSo_20 : decode cX7_isSo 20 = .ok (.iload_n 2, 1) := by decide +kernel
theorem dX7_isSo_21 : decode cX7_isSo 21 = .ok (.ifCond .eq 36, 3) := by decide +kernel
theorem dX7_isSo_24 : decode cX7_isSo 24 = .ok (.aload_n 0, 1) := by decide +kernel
theorem dX7_isSo_25 : decode cX7_isSo 25 = .ok (.getfield 43, 3) := by decide +kernel
theorem dX7_isSo_28 : decode cX7_isSo 28 = .ok (.aload_n 0, 1) := by decide +kernel
theorem dX7_isSo_29 : decode cX7_isSo 29 = .ok (.getfield 52, 3) := by decide +kernel
theorem dX7_isSo_32 : decode cX7_isSo 32 = .ok (.iload_n 3, 1) := by decide +kernel
theorem dX7_isSo_33 : decode cX7_isSo 33 = .ok (.iaload, 1) := by decide +kernel
theorem dX7_isSo_34 : decode cX7_isSo 34 = .ok (.iaload, 1) := by decide +kernel
theorem dX7_isSo_35 : decode cX7_isSo 35 = .ok (.aload_n 0, 1) := by decide +kernel
theorem dX7_isSo_36 : decode cX7_isSo 36 = .ok (.getfield 49, 3) := by decide +kernel
theorem dX7_isSo_39 : decode cX7_isSo 39 = .ok (.iload_n 3, 1) := by decide +kernel
theorem dX7_isSo_40 : decode cX7_isSo 40 = .ok (.iaload, 1) := by decide +kernel
theorem dX7_isSo_41 : decode cX7_isSo 41 = .ok (.invokestatic 157, 3) := by decide +kernel
theorem dX7_isSo_44 : decode cX7_isSo 44 = .ok (.aload_n 0, 1) := by decide +kernel
theorem dX7_isSo_45 : decode cX7_isSo 45 = .ok (.getfield 55, 3) := by decide +kernel
theorem dX7_isSo_48 : decode cX7_isSo 48 = .ok (.iload_n 3, 1) := by decide +kernel
theorem dX7_isSo_49 : decode cX7_isSo 49 = .ok (.baload, 1) := by decide +kernel
theorem dX7_isSo_50 : decode cX7_isSo 50 = .ok (.if_icmp .ne 7, 3) := by decide +kernel
theorem dX7_isSo_53 : decode cX7_isSo 53 = .ok (.iconst 1, 1) := by decide +kernel
theorem dX7_isSo_54 : decode cX7_isSo 54 = .ok (.goto 4, 3) := by decide +kernel
theorem dX7_isSo_57 : decode cX7_isSo 57 = .ok (.iconst 0, 1) := by decide +kernel
theorem dX7_isSo_58 : decode cX7_isSo 58 = .ok (.istore_n 2, 1) := by decide +kernel
theorem dX7_isSo_59 : decode cX7_isSo 59 = .ok (.iinc 3 1, 3) := by decide +kernel
theorem dX7_isSo_62 : decode cX7_isSo 62 = .ok (.goto (-50), 3) := by decide +kernel
theorem dX7_isSo_65 : decode cX7_isSo 65 = .ok (.iload_n 2, 1) := by decide +kernel
theorem dX7_isSo_66 : decode cX7_isSo 66 = .ok (.ireturn, 1) := by decide +kernel
theorem dX7_rounds_0 : decode cX7_rounds 0 = .ok (.iload_n 1, 1) := by decide +kernel
theorem dX7_rounds_1 : decode cX7_rounds 1 = .ok (.i2l, 1) := by decide +kernel
theorem dX7_rounds_2 : decode cX7_rounds 2 = .ok (.ldc2_w 206, 3) := by decide +kernel
theorem dX7_rounds_5 : decode cX7_rounds 5 = .ok (.ldc2_w 208, 3) := by decide +kernel
theorem dX7_rounds_8 : decode cX7_rounds 8 = .ok (.invokestatic 87, 3) := by decide +kernel
theorem dX7_rounds_11 : decode cX7_rounds 11 = .ok (.ifCond .ne 6, 3) := by decide +kernel
theorem dX7_rounds_14 : decode cX7_rounds 14 = .ok (.bipush (-2), 2) := by decide +kernel
theorem dX7_rounds_16 : decode cX7_rounds 16 = .ok (.ireturn, 1) := by decide +kernel
theorem dX7_rounds_17 : decode cX7_rounds 17 = .ok (.aload_n 0, 1) := by decide +kernel
theorem dX7_rounds_18 : decode cX7_rounds 18 = .ok (.getfield 84, 3) := by decide +kernel
theorem dX7_rounds_21 : decode cX7_rounds 21 = .ok (.ifCond .ne 6, 3) := by decide +kernel
theorem dX7_rounds_24 : decode cX7_rounds 24 = .ok (.bipush (-3), 2) := by decide +kernel
theorem dX7_rounds_26 : decode cX7_rounds 26 = .ok (.ireturn, 1) := by decide +kernel
theorem dX7_rounds_27 : decode cX7_rounds 27 = .ok (.iconst 0, 1) := by decide +kernel
theorem dX7_rounds_28 : decode cX7_rounds 28 = .ok (.istore_n 2, 1) := by decide +kernel
theorem dX7_rounds_29 : decode cX7_rounds 29 = .ok (.bipush (-9), 2) := by decide +kernel
theorem dX7_rounds_31 : decode cX7_rounds 31 = .ok (.istore_n 3, 1) := by decide +kernel
theorem dX7_rounds_32 : decode cX7_rounds 32 = .ok (.iconst 0, 1) := by decide +kernel
theorem dX7_rounds_33 : decode cX7_rounds 33 = .ok (.istore 4, 2) := by decide +kernel
theorem dX7_rounds_35 : decode cX7_rounds 35 = .ok (.iload 4, 2) := by decide +kernel
theorem dX7_rounds_37 : decode cX7_rounds 37 = .ok (.aload_n 0, 1) := by decide +kernel
theorem dX7_rounds_38 : decode cX7_rounds 38 = .ok (.invokevirtual 196, 3) := by decide +kernel
theorem dX7_rounds_41 : decode cX7_rounds 41 = .ok (.if_icmp .ge 32, 3) := by decide +kernel
theorem dX7_rounds_44 : decode cX7_rounds 44 = .ok (.aload_n 0, 1) := by decide +kernel
theorem dX7_rounds_45 : decode cX7_rounds 45 = .ok (.iload 4, 2) := by decide +kernel
theorem dX7_rounds_47 : decode cX7_rounds 47 = .ok (.invokevirtual 218, 3) := by decide +kernel
theorem dX7_rounds_50 : decode cX7_rounds 50 = .ok (.ifCond .eq 17, 3) := by decide +kernel
theorem dX7_rounds_53 : decode cX7_rounds 53 = .ok (.iinc 2 1, 3) := by decide +kernel
theorem dX7_rounds_56 : decode cX7_rounds 56 = .ok (.iload_n 3, 1) := by decide +kernel
theorem dX7_rounds_57 : decode cX7_rounds 57 = .ok (.ifCond .ge 8, 3) := by decide +kernel
theorem dX7_rounds_60 : decode cX7_rounds 60 = .ok (.iload 4, 2) := by decide +kernel
theorem dX7_rounds_62 : decode cX7_rounds 62 = .ok (.goto 4, 3) := by decide +kernel
theorem dX7_rounds_65 : decode cX7_rounds 65 = .ok (.iload_n 3, 1) := by decide +kernel
theorem dX7_rounds_66 : decode cX7_rounds 66 = .ok (.istore_n 3, 1) := by decide +kernel
theorem dX7_rounds_67 : decode cX7_rounds 67 = .ok (.iinc 4 1, 3) := by decide +kernel
theorem dX7_rounds_70 : decode cX7_rounds 70 = .ok (.goto (-35), 3) := by decide +kernel
theorem dX7_rounds_73 : decode cX7_rounds 73 = .ok (.iload_n 1, 1) := by decide +kernel
theorem dX7_rounds_74 : decode cX7_rounds 74 = .ok (.ifCond .ge 5, 3) := by decide +kernel
theorem dX7_rounds_77 : decode cX7_rounds 77 = .ok (.iload_n 2, 1) := by decide +kernel
theorem dX7_rounds_78 : decode cX7_rounds 78 = .ok (.ireturn, 1) := by decide +kernel
theorem dX7_rounds_79 : decode cX7_rounds 79 = .ok (.aload_n 0, 1) := by decide +kernel
theorem dX7_rounds_80 : decode cX7_rounds 80 = .ok (.iload_n 3, 1) := by decide +kernel
theorem dX7_rounds_81 : decode cX7_rounds 81 = .ok (.ifCond .ge 7, 3) := by decide +kernel
theorem dX7_rounds_84 : decode cX7_rounds 84 = .ok (.iconst 0, 1) := by decide +kernel
theorem dX7_rounds_85 : decode cX7_rounds 85 = .ok (.goto 4, 3) := by decide +kernel
theorem dX7_rounds_88 : decode cX7_rounds 88 = .ok (.iload_n 3, 1) := by decide +kernel
theorem dX7_rounds_89 : decode cX7_rounds 89 = .ok (.invokevirtual 199, 3) := by decide +kernel
theorem dX7_rounds_92 : decode cX7_rounds 92 = .ok (.aload_n 0, 1) := by decide +kernel
theorem dX7_rounds_93 : decode cX7_rounds 93 = .ok (.getfield 40, 3) := by decide +kernel
theorem dX7_rounds_96 : decode cX7_rounds 96 = .ok (.iload_n 1, 1) := by decide +kernel
theorem dX7_rounds_97 : decode cX7_rounds 97 = .ok (.iaload, 1) := by decide +kernel
theorem dX7_rounds_98 : decode cX7_rounds 98 = .ok (.ireturn, 1) := by decide +kernel
theorem dX7_sure_0 : decode cX7_sure 0 = .ok (.iload_n 1, 1) := by decide +kernel
theorem dX7_sure_1 : decode cX7_sure 1 = .ok (.i2l, 1) := by decide +kernel
theorem dX7_sure_2 : decode cX7_sure 2 = .ok (.lconst 0, 1) := by decide +kernel
theorem dX7_sure_3 : decode cX7_sure 3 = .ok (.ldc2_w 208, 3) := by decide +kernel
theorem dX7_sure_6 : decode cX7_sure 6 = .ok (.invokestatic 87, 3) := by decide +kernel
theorem dX7_sure_9 : decode cX7_sure 9 = .ok (.ifCond .ne 6, 3) := by decide +kernel
theorem dX7_sure_12 : decode cX7_sure 12 = .ok (.bipush (-2), 2) := by decide +kernel
theorem dX7_sure_14 : decode cX7_sure 14 = .ok (.ireturn, 1) := by decide +kernel
theorem dX7_sure_15 : decode cX7_sure 15 = .ok (.aload_n 0, 1) := by decide +kernel
theorem dX7_sure_16 : decode cX7_sure 16 = .ok (.getfield 84, 3) := by decide +kernel
theorem dX7_sure_19 : decode cX7_sure 19 = .ok (.ifCond .ne 6, 3) := by decide +kernel
theorem dX7_sure_22 : decode cX7_sure 22 = .ok (.bipush (-3), 2) := by decide +kernel
theorem dX7_sure_24 : decode cX7_sure 24 = .ok (.ireturn, 1) := by decide +kernel
theorem dX7_sure_25 : decode cX7_sure 25 = .ok (.iconst 0, 1) := by decide +kernel
theorem dX7_sure_26 : decode cX7_sure 26 = .ok (.istore_n 2, 1) := by decide +kernel
theorem dX7_sure_27 : decode cX7_sure 27 = .ok (.iconst 0, 1) := by decide +kernel
theorem dX7_sure_28 : decode cX7_sure 28 = .ok (.istore_n 3, 1) := by decide +kernel
theorem dX7_sure_29 : decode cX7_sure 29 = .ok (.iload_n 3, 1) := by decide +kernel
theorem dX7_sure_30 : decode cX7_sure 30 = .ok (.aload_n 0, 1) := by decide +kernel
theorem dX7_sure_31 : decode cX7_sure 31 = .ok (.invokevirtual 196, 3) := by decide +kernel
theorem dX7_sure_34 : decode cX7_sure 34 = .ok (.if_icmp .ge 41, 3) := by decide +kernel
theorem dX7_sure_37 : decode cX7_sure 37 = .ok (.aload_n 0, 1) := by decide +kernel
theorem dX7_sure_38 : decode cX7_sure 38 = .ok (.iload_n 3, 1) := by decide +kernel
theorem dX7_sure_39 : decode cX7_sure 39 = .ok (.invokevirtual 218, 3) := by decide +kernel
theorem dX7_sure_42 : decode cX7_sure 42 = .ok (.ifCond .eq 27, 3) := by decide +kernel
theorem dX7_sure_45 : decode cX7_sure 45 = .ok (.iload_n 2, 1) := by decide +kernel
theorem dX7_sure_46 : decode cX7_sure 46 = .ok (.iconst 1, 1) := by decide +kernel
theorem dX7_sure_47 : decode cX7_sure 47 = .ok (.aload_n 0, 1) := by decide +kernel
theorem dX7_sure_48 : decode cX7_sure 48 = .ok (.getfield 40, 3) := by decide +kernel
theorem dX7_sure_51 : decode cX7_sure 51 = .ok (.iload_n 1, 1) := by decide +kernel
theorem dX7_sure_52 : decode cX7_sure 52 = .ok (.iaload, 1) := by decide +kernel
theorem dX7_sure_53 : decode cX7_sure 53 = .ok (.ifCond .ge 7, 3) := by decide +kernel
theorem dX7_sure_56 : decode cX7_sure 56 = .ok (.iconst 5, 1) := by decide +kernel
theorem dX7_sure_57 : decode cX7_sure 57 = .ok (.goto 9, 3) := by decide +kernel
theorem dX7_sure_60 : decode cX7_sure 60 = .ok (.aload_n 0, 1) := by decide +kernel
theorem dX7_sure_61 : decode cX7_sure 61 = .ok (.getfield 40, 3) := by decide +kernel
theorem dX7_sure_64 : decode cX7_sure 64 = .ok (.iload_n 1, 1) := by decide +kernel
theorem dX7_sure_65 : decode cX7_sure 65 = .ok (.iaload, 1) := by decide +kernel
theorem dX7_sure_66 : decode cX7_sure 66 = .ok (.ishl, 1) := by decide +kernel
theorem dX7_sure_67 : decode cX7_sure 67 = .ok (.ior, 1) := by decide +kernel
theorem dX7_sure_68 : decode cX7_sure 68 = .ok (.istore_n 2, 1) := by decide +kernel
theorem dX7_sure_69 : decode cX7_sure 69 = .ok (.iinc 3 1, 3) := by decide +kernel
theorem dX7_sure_72 : decode cX7_sure 72 = .ok (.goto (-43), 3) := by decide +kernel
theorem dX7_sure_75 : decode cX7_sure 75 = .ok (.iload_n 2, 1) := by decide +kernel
theorem dX7_sure_76 : decode cX7_sure 76 = .ok (.ireturn, 1) := by decide +kernel
theorem dX7_seenBarred_0 : decode cX7_seenBarred 0 = .ok (.iload_n 1, 1) := by decide +kernel
theorem dX7_seenBarred_1 : decode cX7_seenBarred 1 = .ok (.invokestatic 120, 3) := by decide +kernel
theorem dX7_seenBarred_4 : decode cX7_seenBarred 4 = .ok (.ifCond .eq 9, 3) := by decide +kernel
theorem dX7_seenBarred_7 : decode cX7_seenBarred 7 = .ok (.aload_n 0, 1) := by decide +kernel
theorem dX7_seenBarred_8 : decode cX7_seenBarred 8 = .ok (.iconst (-1), 1) := by decide +kernel
theorem dX7_seenBarred_9 : decode cX7_seenBarred 9 = .ok (.invokevirtual 124, 3) := by decide +kernel
theorem dX7_seenBarred_12 : decode cX7_seenBarred 12 = .ok (.ireturn, 1) := by decide +kernel
theorem dX7_seenBarred_13 : decode cX7_seenBarred 13 = .ok (.iload_n 2, 1) := by decide +kernel
theorem dX7_seenBarred_14 : decode cX7_seenBarred 14 = .ok (.i2l, 1) := by decide +kernel
theorem dX7_seenBarred_15 : decode cX7_seenBarred 15 = .ok (.lconst 0, 1) := by decide +kernel
theorem dX7_seenBarred_16 : decode cX7_seenBarred 16 = .ok (.ldc2_w 127, 3) := by decide +kernel
theorem dX7_seenBarred_19 : decode cX7_seenBarred 19 = .ok (.invokestatic 87, 3) := by decide +kernel
theorem dX7_seenBarred_22 : decode cX7_seenBarred 22 = .ok (.ifCond .eq 16, 3) := by decide +kernel
theorem dX7_seenBarred_25 : decode cX7_seenBarred 25 = .ok (.iload 4, 2) := by decide +kernel
theorem dX7_seenBarred_27 : decode cX7_seenBarred 27 = .ok (.i2l, 1) := by decide +kernel
theorem dX7_seenBarred_28 : decode cX7_seenBarred 28 = .ok (.lconst 0, 1) := by decide +kernel
theorem dX7_seenBarred_29 : decode cX7_seenBarred 29 = .ok (.ldc2_w 221, 3) := by decide +kernel
theorem dX7_seenBarred_32 : decode cX7_seenBarred 32 = .ok (.invokestatic 87, 3) := by decide +kernel
theorem dX7_seenBarred_35 : decode cX7_seenBarred 35 = .ok (.ifCond .ne 10, 3) := by decide +kernel
theorem dX7_seenBarred_38 : decode cX7_seenBarred 38 = .ok (.aload_n 0, 1) := by decide +kernel
theorem dX7_seenBarred_39 : decode cX7_seenBarred 39 = .ok (.bipush (-2), 2) := by decide +kernel
theorem dX7_seenBarred_41 : decode cX7_seenBarred 41 = .ok (.invokevirtual 124, 3) := by decide +kernel
theorem dX7_seenBarred_44 : decode cX7_seenBarred 44 = .ok (.ireturn, 1) := by decide +kernel
theorem dX7_seenBarred_45 : decode cX7_seenBarred 45 = .ok (.aload_n 0, 1) := by decide +kernel
theorem dX7_seenBarred_46 : decode cX7_seenBarred 46 = .ok (.getfield 84, 3) := by decide +kernel
theorem dX7_seenBarred_49 : decode cX7_seenBarred 49 = .ok (.ifCond .ne 10, 3) := by decide +kernel
theorem dX7_seenBarred_52 : decode cX7_seenBarred 52 = .ok (.aload_n 0, 1) := by decide +kernel
theorem dX7_seenBarred_53 : decode cX7_seenBarred 53 = .ok (.bipush (-3), 2) := by decide +kernel
theorem dX7_seenBarred_55 : decode cX7_seenBarred 55 = .ok (.invokevirtual 124, 3) := by decide +kernel
theorem dX7_seenBarred_58 : decode cX7_seenBarred 58 = .ok (.ireturn, 1) := by decide +kernel
theorem dX7_seenBarred_59 : decode cX7_seenBarred 59 = .ok (.aload_n 0, 1) := by decide +kernel
theorem dX7_seenBarred_60 : decode cX7_seenBarred 60 = .ok (.iload_n 1, 1) := by decide +kernel
theorem dX7_seenBarred_61 : decode cX7_seenBarred 61 = .ok (.iload_n 2, 1) := by decide +kernel
theorem dX7_seenBarred_62 : decode cX7_seenBarred 62 = .ok (.iload_n 3, 1) := by decide +kernel
theorem dX7_seenBarred_63 : decode cX7_seenBarred 63 = .ok (.invokevirtual 184, 3) := by decide +kernel
theorem dX7_seenBarred_66 : decode cX7_seenBarred 66 = .ok (.istore 5, 2) := by decide +kernel
theorem dX7_seenBarred_68 : decode cX7_seenBarred 68 = .ok (.iload 5, 2) := by decide +kernel
theorem dX7_seenBarred_70 : decode cX7_seenBarred 70 = .ok (.ifCond .ge 6, 3) := by decide +kernel
theorem dX7_seenBarred_73 : decode cX7_seenBarred 73 = .ok (.iload 5, 2) := by decide +kernel
theorem dX7_seenBarred_75 : decode cX7_seenBarred 75 = .ok (.ireturn, 1) := by decide +kernel
theorem dX7_seenBarred_76 : decode cX7_seenBarred 76 = .ok (.aload_n 0, 1) := by decide +kernel
theorem dX7_seenBarred_77 : decode cX7_seenBarred 77 = .ok (.invokevirtual 188, 3) := by decide +kernel
theorem dX7_seenBarred_80 : decode cX7_seenBarred 80 = .ok (.ifCond .eq 7, 3) := by decide +kernel
theorem dX7_seenBarred_83 : decode cX7_seenBarred 83 = .ok (.iconst 0, 1) := by decide +kernel
theorem dX7_seenBarred_84 : decode cX7_seenBarred 84 = .ok (.goto 10, 3) := by decide +kernel
theorem dX7_seenBarred_87 : decode cX7_seenBarred 87 = .ok (.bipush (-100), 2) := by decide +kernel
theorem dX7_seenBarred_89 : decode cX7_seenBarred 89 = .ok (.aload_n 0, 1) := by decide +kernel
theorem dX7_seenBarred_90 : decode cX7_seenBarred 90 = .ok (.getfield 160, 3) := by decide +kernel
theorem dX7_seenBarred_93 : decode cX7_seenBarred 93 = .ok (.isub, 1) := by decide +kernel
theorem dX7_seenBarred_94 : decode cX7_seenBarred 94 = .ok (.ireturn, 1) := by decide +kernel
theorem dX7_laws_0 : decode cX7_laws 0 = .ok (.aload_n 0, 1) := by decide +kernel
theorem dX7_laws_1 : decode cX7_laws 1 = .ok (.iload_n 1, 1) := by decide +kernel
theorem dX7_laws_2 : decode cX7_laws 2 = .ok (.iload_n 2, 1) := by decide +kernel
theorem dX7_laws_3 : decode cX7_laws 3 = .ok (.iload_n 3, 1) := by decide +kernel
theorem dX7_laws_4 : decode cX7_laws 4 = .ok (.iload 4, 2) := by decide +kernel
theorem dX7_laws_6 : decode cX7_laws 6 = .ok (.invokevirtual 223, 3) := by decide +kernel
theorem dX7_laws_9 : decode cX7_laws 9 = .ok (.istore 5, 2) := by decide +kernel
theorem dX7_laws_11 : decode cX7_laws 11 = .ok (.iload 5, 2) := by decide +kernel
theorem dX7_laws_13 : decode cX7_laws 13 = .ok (.ifCond .ge 6, 3) := by decide +kernel
theorem dX7_laws_16 : decode cX7_laws 16 = .ok (.iload 5, 2) := by decide +kernel
theorem dX7_laws_18 : decode cX7_laws 18 = .ok (.ireturn, 1) := by decide +kernel
theorem dX7_laws_19 : decode cX7_laws 19 = .ok (.aload_n 0, 1) := by decide +kernel
theorem dX7_laws_20 : decode cX7_laws 20 = .ok (.getfield 139, 3) := by decide +kernel
theorem dX7_laws_23 : decode cX7_laws 23 = .ok (.istore 6, 2) := by decide +kernel
theorem dX7_laws_25 : decode cX7_laws 25 = .ok (.iconst 0, 1) := by decide +kernel
theorem dX7_laws_26 : decode cX7_laws 26 = .ok (.istore 7, 2) := by decide +kernel
theorem dX7_laws_28 : decode cX7_laws 28 = .ok (.iconst 0, 1) := by decide +kernel
theorem dX7_laws_29 : decode cX7_laws 29 = .ok (.istore 8, 2) := by decide +kernel
theorem dX7_laws_31 : decode cX7_laws 31 = .ok (.iload 8, 2) := by decide +kernel
theorem dX7_laws_33 : decode cX7_laws 33 = .ok (.iconst 4, 1) := by decide +kernel
theorem dX7_laws_34 : decode cX7_laws 34 = .ok (.if_icmp .ge 42, 3) := by decide +kernel
theorem dX7_laws_37 : decode cX7_laws 37 = .ok (.aload_n 0, 1) := by decide +kernel
theorem dX7_laws_38 : decode cX7_laws 38 = .ok (.iload 8, 2) := by decide +kernel
theorem dX7_laws_40 : decode cX7_laws 40 = .ok (.putfield 139, 3) := by decide +kernel
theorem dX7_laws_43 : decode cX7_laws 43 = .ok (.aload_n 0, 1) := by decide +kernel
theorem dX7_laws_44 : decode cX7_laws 44 = .ok (.invokevirtual 188, 3) := by decide +kernel
theorem dX7_laws_47 : decode cX7_laws 47 = .ok (.pop, 1) := by decide +kernel
theorem dX7_laws_48 : decode cX7_laws 48 = .ok (.iload 7, 2) := by decide +kernel
theorem dX7_laws_50 : decode cX7_laws 50 = .ok (.aload_n 0, 1) := by decide +kernel
theorem dX7_laws_51 : decode cX7_laws 51 = .ok (.getfield 163, 3) := by decide +kernel
theorem dX7_laws_54 : decode cX7_laws 54 = .ok (.iload 4, 2) := by decide +kernel
theorem dX7_laws_56 : decode cX7_laws 56 = .ok (.if_icmp .ne 10, 3) := by decide +kernel
theorem dX7_laws_59 : decode cX7_laws 59 = .ok (.iconst 1, 1) := by decide +kernel
theorem dX7_laws_60 : decode cX7_laws 60 = .ok (.iload 8, 2) := by decide +kernel
theorem dX7_laws_62 : decode cX7_laws 62 = .ok (.ishl, 1) := by decide +kernel
theorem dX7_laws_63 : decode cX7_laws 63 = .ok (.goto 4, 3) := by decide +kernel
theorem dX7_laws_66 : decode cX7_laws 66 = .ok (.iconst 0, 1) := by decide +kernel
theorem dX7_laws_67 : decode cX7_laws 67 = .ok (.ior, 1) := by decide +kernel
theorem dX7_laws_68 : decode cX7_laws 68 = .ok (.istore 7, 2) := by decide +kernel
theorem dX7_laws_70 : decode cX7_laws 70 = .ok (.iinc 8 1, 3) := by decide +kernel
theorem dX7_laws_73 : decode cX7_laws 73 = .ok (.goto (-42), 3) := by decide +kernel
theorem dX7_laws_76 : decode cX7_laws 76 = .ok (.aload_n 0, 1) := by decide +kernel
theorem dX7_laws_77 : decode cX7_laws 77 = .ok (.iload 6, 2) := by decide +kernel
theorem dX7_laws_79 : decode cX7_laws 79 = .ok (.putfield 139, 3) := by decide +kernel
theorem dX7_laws_82 : decode cX7_laws 82 = .ok (.iload 7, 2) := by decide +kernel
theorem dX7_laws_84 : decode cX7_laws 84 = .ok (.ireturn, 1) := by decide +kernel
theorem dX7_used_0 : decode cX7_used 0 = .ok (.aload_n 0, 1) := by decide +kernel
theorem dX7_used_1 : decode cX7_used 1 = .ok (.iload_n 1, 1) := by decide +kernel
theorem dX7_used_2 : decode cX7_used 2 = .ok (.invokevirtual 145, 3) := by decide +kernel
theorem dX7_used_5 : decode cX7_used 5 = .ok (.ifCond .eq 9, 3) := by decide +kernel
theorem dX7_used_8 : decode cX7_used 8 = .ok (.aload_n 0, 1) := by decide +kernel
theorem dX7_used_9 : decode cX7_used 9 = .ok (.iconst (-1), 1) := by decide +kernel
theorem dX7_used_10 : decode cX7_used 10 = .ok (.invokevirtual 124, 3) := by decide +kernel
theorem dX7_used_13 : decode cX7_used 13 = .ok (.ireturn, 1) := by decide +kernel
theorem dX7_used_14 : decode cX7_used 14 = .ok (.aload_n 0, 1) := by decide +kernel
theorem dX7_used_15 : decode cX7_used 15 = .ok (.iload_n 2, 1) := by decide +kernel
theorem dX7_used_16 : decode cX7_used 16 = .ok (.iload_n 3, 1) := by decide +kernel
theorem dX7_used_17 : decode cX7_used 17 = .ok (.iload 4, 2) := by decide +kernel
theorem dX7_used_19 : decode cX7_used 19 = .ok (.iload 5, 2) := by decide +kernel
theorem dX7_used_21 : decode cX7_used 21 = .ok (.invokevirtual 223, 3) := by decide +kernel
theorem dX7_used_24 : decode cX7_used 24 = .ok (.istore 6, 2) := by decide +kernel
theorem dX7_used_26 : decode cX7_used 26 = .ok (.iload 6, 2) := by decide +kernel
theorem dX7_used_28 : decode cX7_used 28 = .ok (.ifCond .ge 6, 3) := by decide +kernel
theorem dX7_used_31 : decode cX7_used 31 = .ok (.iload 6, 2) := by decide +kernel
theorem dX7_used_33 : decode cX7_used 33 = .ok (.ireturn, 1) := by decide +kernel
theorem dX7_used_34 : decode cX7_used 34 = .ok (.aload_n 0, 1) := by decide +kernel
theorem dX7_used_35 : decode cX7_used 35 = .ok (.getfield 22, 3) := by decide +kernel
theorem dX7_used_38 : decode cX7_used 38 = .ok (.iload_n 1, 1) := by decide +kernel
theorem dX7_used_39 : decode cX7_used 39 = .ok (.iaload, 1) := by decide +kernel
theorem dX7_used_40 : decode cX7_used 40 = .ok (.istore 7, 2) := by decide +kernel
theorem dX7_used_42 : decode cX7_used 42 = .ok (.iconst 0, 1) := by decide +kernel
theorem dX7_used_43 : decode cX7_used 43 = .ok (.istore 8, 2) := by decide +kernel
theorem dX7_used_45 : decode cX7_used 45 = .ok (.iconst 0, 1) := by decide +kernel
theorem dX7_used_46 : decode cX7_used 46 = .ok (.istore 9, 2) := by decide +kernel
theorem dX7_used_48 : decode cX7_used 48 = .ok (.iload 9, 2) := by decide +kernel
theorem dX7_used_50 : decode cX7_used 50 = .ok (.bipush 64, 2) := by decide +kernel
theorem dX7_used_52 : decode cX7_used 52 = .ok (.if_icmp .ge 41, 3) := by decide +kernel
theorem dX7_used_55 : decode cX7_used 55 = .ok (.aload_n 0, 1) := by decide +kernel
theorem dX7_used_56 : decode cX7_used 56 = .ok (.getfield 22, 3) := by decide +kernel
theorem dX7_used_59 : decode cX7_used 59 = .ok (.iload_n 1, 1) := by decide +kernel
theorem dX7_used_60 : decode cX7_used 60 = .ok (.iload 9, 2) := by decide +kernel
theorem dX7_used_62 : decode cX7_used 62 = .ok (.iastore, 1) := by decide +kernel
theorem dX7_used_63 : decode cX7_used 63 = .ok (.aload_n 0, 1) := by decide +kernel
theorem dX7_used_64 : decode cX7_used 64 = .ok (.invokevirtual 188, 3) := by decide +kernel
theorem dX7_used_67 : decode cX7_used 67 = .ok (.pop, 1) := by decide +kernel
theorem dX7_used_68 : decode cX7_used 68 = .ok (.iload 8, 2) := by decide +kernel
theorem dX7_used_70 : decode cX7_used 70 = .ok (.aload_n 0, 1) := by decide +kernel
theorem dX7_used_71 : decode cX7_used 71 = .ok (.getfield 166, 3) := by decide +kernel
theorem dX7_used_74 : decode cX7_used 74 = .ok (.iload 5, 2) := by decide +kernel
theorem dX7_used_76 : decode cX7_used 76 = .ok (.if_icmp .ne 7, 3) := by decide +kernel
theorem dX7_used_79 : decode cX7_used 79 = .ok (.iconst 1, 1) := by decide +kernel
theorem dX7_used_80 : decode cX7_used 80 = .ok (.goto 4, 3) := by decide +kernel
theorem dX7_used_83 : decode cX7_used 83 = .ok (.iconst 0, 1) := by decide +kernel
theorem dX7_used_84 : decode cX7_used 84 = .ok (.iadd, 1) := by decide +kernel
theorem dX7_used_85 : decode cX7_used 85 = .ok (.istore 8, 2) := by decide +kernel
theorem dX7_used_87 : decode cX7_used 87 = .ok (.iinc 9 1, 3) := by decide +kernel
theorem dX7_used_90 : decode cX7_used 90 = .ok (.goto (-42), 3) := by decide +kernel
theorem dX7_used_93 : decode cX7_used 93 = .ok (.aload_n 0, 1) := by decide +kernel
theorem dX7_used_94 : decode cX7_used 94 = .ok (.getfield 22, 3) := by decide +kernel
theorem dX7_used_97 : decode cX7_used 97 = .ok (.iload_n 1, 1) := by decide +kernel
theorem dX7_used_98 : decode cX7_used 98 = .ok (.iload 7, 2) := by decide +kernel
theorem dX7_used_100 : decode cX7_used 100 = .ok (.iastore, 1) := by decide +kernel
theorem dX7_used_101 : decode cX7_used 101 = .ok (.iload 8, 2) := by decide +kernel
theorem dX7_used_103 : decode cX7_used 103 = .ok (.ireturn, 1) := by decide +kernel
theorem dX7_refusedLong_0 : decode cX7_refusedLong 0 = .ok (.aload_n 0, 1) := by decide +kernel
theorem dX7_refusedLong_1 : decode cX7_refusedLong 1 = .ok (.iconst 0, 1) := by decide +kernel
theorem dX7_refusedLong_2 : decode cX7_refusedLong 2 = .ok (.putfield 77, 3) := by decide +kernel
theorem dX7_refusedLong_5 : decode cX7_refusedLong 5 = .ok (.invokestatic 80, 3) := by decide +kernel
theorem dX7_refusedLong_8 : decode cX7_refusedLong 8 = .ok (.lreturn, 1) := by decide +kernel
theorem dX7_odds_0 : decode cX7_odds 0 = .ok (.iload_n 1, 1) := by decide +kernel
theorem dX7_odds_1 : decode cX7_odds 1 = .ok (.invokestatic 120, 3) := by decide +kernel
theorem dX7_odds_4 : decode cX7_odds 4 = .ok (.ifCond .ne 46, 3) := by decide +kernel
theorem dX7_odds_7 : decode cX7_odds 7 = .ok (.iload_n 2, 1) := by decide +kernel
theorem dX7_odds_8 : decode cX7_odds 8 = .ok (.i2l, 1) := by decide +kernel
theorem dX7_odds_9 : decode cX7_odds 9 = .ok (.lconst 0, 1) := by decide +kernel
theorem dX7_odds_10 : decode cX7_odds 10 = .ok (.ldc2_w 127, 3) := by decide +kernel
theorem dX7_odds_13 : decode cX7_odds 13 = .ok (.invokestatic 87, 3) := by decide +kernel
theorem dX7_odds_16 : decode cX7_odds 16 = .ok (.ifCond .eq 34, 3) := by decide +kernel
theorem dX7_odds_19 : decode cX7_odds 19 = .ok (.iload 4, 2) := by decide +kernel
theorem dX7_odds_21 : decode cX7_odds 21 = .ok (.i2l, 1) := by decide +kernel
theorem dX7_odds_22 : decode cX7_odds 22 = .ok (.lconst 0, 1) := by decide +kernel
theorem dX7_odds_23 : decode cX7_odds 23 = .ok (.ldc2_w 213, 3) := by decide +kernel
theorem dX7_odds_26 : decode cX7_odds 26 = .ok (.invokestatic 87, 3) := by decide +kernel
theorem dX7_odds_29 : decode cX7_odds 29 = .ok (.ifCond .eq 21, 3) := by decide +kernel
theorem dX7_odds_32 : decode cX7_odds 32 = .ok (.iload 5, 2) := by decide +kernel
theorem dX7_odds_34 : decode cX7_odds 34 = .ok (.i2l, 1) := by decide +kernel
theorem dX7_odds_35 : decode cX7_odds 35 = .ok (.lconst 0, 1) := by decide +kernel
theorem dX7_odds_36 : decode cX7_odds 36 = .ok (.lconst 1, 1) := by decide +kernel
theorem dX7_odds_37 : decode cX7_odds 37 = .ok (.invokestatic 87, 3) := by decide +kernel
theorem dX7_odds_40 : decode cX7_odds 40 = .ok (.ifCond .eq 10, 3) := by decide +kernel
theorem dX7_odds_43 : decode cX7_odds 43 = .ok (.aload_n 0, 1) := by decide +kernel
theorem dX7_odds_44 : decode cX7_odds 44 = .ok (.getfield 84, 3) := by decide +kernel
theorem dX7_odds_47 : decode cX7_odds 47 = .ok (.ifCond .ne 8, 3) := by decide +kernel
theorem dX7_odds_50 : decode cX7_odds 50 = .ok (.aload_n 0, 1) := by decide +kernel
theorem dX7_odds_51 : decode cX7_odds 51 = .ok (.invokevirtual 226, 3) := by decide +kernel
theorem dX7_odds_54 : decode cX7_odds 54 = .ok (.lreturn, 1) := by decide +kernel
theorem dX7_odds_55 : decode cX7_odds 55 = .ok (.aload_n 0, 1) := by decide +kernel
theorem dX7_odds_56 : decode cX7_odds 56 = .ok (.iload_n 1, 1) := by decide +kernel
theorem dX7_odds_57 : decode cX7_odds 57 = .ok (.iload_n 2, 1) := by decide +kernel
theorem dX7_odds_58 : decode cX7_odds 58 = .ok (.iload_n 3, 1) := by decide +kernel
theorem dX7_odds_59 : decode cX7_odds 59 = .ok (.invokevirtual 184, 3) := by decide +kernel
theorem dX7_odds_62 : decode cX7_odds 62 = .ok (.ifCond .lt 10, 3) := by decide +kernel
theorem dX7_odds_65 : decode cX7_odds 65 = .ok (.aload_n 0, 1) := by decide +kernel
theorem dX7_odds_66 : decode cX7_odds 66 = .ok (.invokevirtual 188, 3) := by decide +kernel
theorem dX7_odds_69 : decode cX7_odds 69 = .ok (.ifCond .ne 7, 3) := by decide +kernel
theorem dX7_odds_72 : decode cX7_odds 72 = .ok (.invokestatic 80, 3) := by decide +kernel
theorem dX7_odds_75 : decode cX7_odds 75 = .ok (.lreturn, 1) := by decide +kernel
theorem dX7_odds_76 : decode cX7_odds 76 = .ok (.lconst 1, 1) := by decide +kernel
theorem dX7_odds_77 : decode cX7_odds 77 = .ok (.lstore 6, 2) := by decide +kernel
theorem dX7_odds_79 : decode cX7_odds 79 = .ok (.lconst 0, 1) := by decide +kernel
theorem dX7_odds_80 : decode cX7_odds 80 = .ok (.lstore 8, 2) := by decide +kernel
theorem dX7_odds_82 : decode cX7_odds 82 = .ok (.iconst 0, 1) := by decide +kernel
theorem dX7_odds_83 : decode cX7_odds 83 = .ok (.istore 10, 2) := by decide +kernel
theorem dX7_odds_85 : decode cX7_odds 85 = .ok (.iload 10, 2) := by decide +kernel
theorem dX7_odds_87 : decode cX7_odds 87 = .ok (.aload_n 0, 1) := by decide +kernel
theorem dX7_odds_88 : decode cX7_odds 88 = .ok (.getfield 166, 3) := by decide +kernel
theorem dX7_odds_91 : decode cX7_odds 91 = .ok (.if_icmp .gt 42, 3) := by decide +kernel
theorem dX7_odds_94 : decode cX7_odds 94 = .ok (.iload 10, 2) := by decide +kernel
theorem dX7_odds_96 : decode cX7_odds 96 = .ok (.iload 4, 2) := by decide +kernel
theorem dX7_odds_98 : decode cX7_odds 98 = .ok (.if_icmp .gt 35, 3) := by decide +kernel
theorem dX7_odds_101 : decode cX7_odds 101 = .ok (.lload 8, 2) := by decide +kernel
theorem dX7_odds_103 : decode cX7_odds 103 = .ok (.lload 6, 2) := by decide +kernel
theorem dX7_odds_105 : decode cX7_odds 105 = .ok (.ladd, 1) := by decide +kernel
theorem dX7_odds_106 : decode cX7_odds 106 = .ok (.lstore 8, 2) := by decide +kernel
theorem dX7_odds_108 : decode cX7_odds 108 = .ok (.lload 6, 2) := by decide +kernel
theorem dX7_odds_110 : decode cX7_odds 110 = .ok (.aload_n 0, 1) := by decide +kernel
theorem dX7_odds_111 : decode cX7_odds 111 = .ok (.getfield 166, 3) := by decide +kernel
theorem dX7_odds_114 : decode cX7_odds 114 = .ok (.iload 10, 2) := by decide +kernel
theorem dX7_odds_116 : decode cX7_odds 116 = .ok (.isub, 1) := by decide +kernel
theorem dX7_odds_117 : decode cX7_odds 117 = .ok (.i2l, 1) := by decide +kernel
theorem dX7_odds_118 : decode cX7_odds 118 = .ok (.lmul, 1) := by decide +kernel
theorem dX7_odds_119 : decode cX7_odds 119 = .ok (.iload 10, 2) := by decide +kernel
theorem dX7_odds_121 : decode cX7_odds 121 = .ok (.iconst 1, 1) := by decide +kernel
theorem dX7_odds_122 : decode cX7_odds 122 = .ok (.iadd, 1) := by decide +kernel
theorem dX7_odds_123 : decode cX7_odds 123 = .ok (.i2l, 1) := by decide +kernel
theorem dX7_odds_124 : decode cX7_odds 124 = .ok (.ldiv, 1) := by decide +kernel
theorem dX7_odds_125 : decode cX7_odds 125 = .ok (.lstore 6, 2) := by decide +kernel
theorem dX7_odds_127 : decode cX7_odds 127 = .ok (.iinc 10 1, 3) := by decide +kernel
theorem dX7_odds_130 : decode cX7_odds 130 = .ok (.goto (-45), 3) := by decide +kernel
theorem dX7_odds_133 : decode cX7_odds 133 = .ok (.lload 8, 2) := by decide +kernel
theorem dX7_odds_135 : decode cX7_odds 135 = .ok (.lconst 1, 1) := by decide +kernel
theorem dX7_odds_136 : decode cX7_odds 136 = .ok (.aload_n 0, 1) := by decide +kernel
theorem dX7_odds_137 : decode cX7_odds 137 = .ok (.getfield 166, 3) := by decide +kernel
theorem dX7_odds_140 : decode cX7_odds 140 = .ok (.lshl, 1) := by decide +kernel
theorem dX7_odds_141 : decode cX7_odds 141 = .ok (.iload 5, 2) := by decide +kernel
theorem dX7_odds_143 : decode cX7_odds 143 = .ok (.invokestatic 229, 3) := by decide +kernel
theorem dX7_odds_146 : decode cX7_odds 146 = .ok (.lreturn, 1) := by decide +kernel
theorem dX7_noSheet_0 : decode cX7_noSheet 0 = .ok (.iload_n 0, 1) := by decide +kernel
theorem dX7_noSheet_1 : decode cX7_noSheet 1 = .ok (.i2l, 1) := by decide +kernel
theorem dX7_noSheet_2 : decode cX7_noSheet 2 = .ok (.lconst 0, 1) := by decide +kernel
theorem dX7_noSheet_3 : decode cX7_noSheet 3 = .ok (.ldc2_w 153, 3) := by decide +kernel
theorem dX7_noSheet_6 : decode cX7_noSheet 6 = .ok (.invokestatic 87, 3) := by decide +kernel
theorem dX7_noSheet_9 : decode cX7_noSheet 9 = .ok (.ifCond .ne 7, 3) := by decide +kernel
theorem dX7_noSheet_12 : decode cX7_noSheet 12 = .ok (.iconst 1, 1) := by decide +kernel
theorem dX7_noSheet_13 : decode cX7_noSheet 13 = .ok (.goto 4, 3) := by decide +kernel
theorem dX7_noSheet_16 : decode cX7_noSheet 16 = .ok (.iconst 0, 1) := by decide +kernel
theorem dX7_noSheet_17 : decode cX7_noSheet 17 = .ok (.ireturn, 1) := by decide +kernel
theorem dX7_sheet_0 : decode cX7_sheet 0 = .ok (.iload_n 1, 1) := by decide +kernel
theorem dX7_sheet_1 : decode cX7_sheet 1 = .ok (.invokestatic 120, 3) := by decide +kernel
theorem dX7_sheet_4 : decode cX7_sheet 4 = .ok (.ifCond .eq 9, 3) := by decide +kernel
theorem dX7_sheet_7 : decode cX7_sheet 7 = .ok (.aload_n 0, 1) := by decide +kernel
theorem dX7_sheet_8 : decode cX7_sheet 8 = .ok (.iconst (-1), 1) := by decide +kernel
theorem dX7_sheet_9 : decode cX7_sheet 9 = .ok (.invokevirtual 124, 3) := by decide +kernel
theorem dX7_sheet_12 : decode cX7_sheet 12 = .ok (.ireturn, 1) := by decide +kernel
theorem dX7_sheet_13 : decode cX7_sheet 13 = .ok (.iload_n 2, 1) := by decide +kernel
theorem dX7_sheet_14 : decode cX7_sheet 14 = .ok (.i2l, 1) := by decide +kernel
theorem dX7_sheet_15 : decode cX7_sheet 15 = .ok (.lconst 0, 1) := by decide +kernel
theorem dX7_sheet_16 : decode cX7_sheet 16 = .ok (.ldc2_w 127, 3) := by decide +kernel
theorem dX7_sheet_19 : decode cX7_sheet 19 = .ok (.invokestatic 87, 3) := by decide +kernel
theorem dX7_sheet_22 : decode cX7_sheet 22 = .ok (.ifCond .eq 9, 3) := by decide +kernel
theorem dX7_sheet_25 : decode cX7_sheet 25 = .ok (.iload_n 3, 1) := by decide +kernel
theorem dX7_sheet_26 : decode cX7_sheet 26 = .ok (.bipush 60, 2) := by decide +kernel
theorem dX7_sheet_28 : decode cX7_sheet 28 = .ok (.if_icmp .le 10, 3) := by decide +kernel
theorem dX7_sheet_31 : decode cX7_sheet 31 = .ok (.aload_n 0, 1) := by decide +kernel
theorem dX7_sheet_32 : decode cX7_sheet 32 = .ok (.bipush (-2), 2) := by decide +kernel
theorem dX7_sheet_34 : decode cX7_sheet 34 = .ok (.invokevirtual 124, 3) := by decide +kernel
theorem dX7_sheet_37 : decode cX7_sheet 37 = .ok (.ireturn, 1) := by decide +kernel
theorem dX7_sheet_38 : decode cX7_sheet 38 = .ok (.iload_n 3, 1) := by decide +kernel
theorem dX7_sheet_39 : decode cX7_sheet 39 = .ok (.ifCond .ge 9, 3) := by decide +kernel
theorem dX7_sheet_42 : decode cX7_sheet 42 = .ok (.aload_n 0, 1) := by decide +kernel
theorem dX7_sheet_43 : decode cX7_sheet 43 = .ok (.iconst 4, 1) := by decide +kernel
theorem dX7_sheet_44 : decode cX7_sheet 44 = .ok (.invokevirtual 112, 3) := by decide +kernel
theorem dX7_sheet_47 : decode cX7_sheet 47 = .ok (.ireturn, 1) := by decide +kernel
theorem dX7_sheet_48 : decode cX7_sheet 48 = .ok (.aload_n 0, 1) := by decide +kernel
theorem dX7_sheet_49 : decode cX7_sheet 49 = .ok (.getfield 59, 3) := by decide +kernel
theorem dX7_sheet_52 : decode cX7_sheet 52 = .ok (.iload_n 1, 1) := by decide +kernel
theorem dX7_sheet_53 : decode cX7_sheet 53 = .ok (.iload_n 3, 1) := by decide +kernel
theorem dX7_sheet_54 : decode cX7_sheet 54 = .ok (.iastore, 1) := by decide +kernel
theorem dX7_sheet_55 : decode cX7_sheet 55 = .ok (.aload_n 0, 1) := by decide +kernel
theorem dX7_sheet_56 : decode cX7_sheet 56 = .ok (.getfield 62, 3) := by decide +kernel
theorem dX7_sheet_59 : decode cX7_sheet 59 = .ok (.iload_n 1, 1) := by decide +kernel
theorem dX7_sheet_60 : decode cX7_sheet 60 = .ok (.iload_n 2, 1) := by decide +kernel
theorem dX7_sheet_61 : decode cX7_sheet 61 = .ok (.iastore, 1) := by decide +kernel
theorem dX7_sheet_62 : decode cX7_sheet 62 = .ok (.iconst 0, 1) := by decide +kernel
theorem dX7_sheet_63 : decode cX7_sheet 63 = .ok (.istore 4, 2) := by decide +kernel
theorem dX7_sheet_65 : decode cX7_sheet 65 = .ok (.iload 4, 2) := by decide +kernel
theorem dX7_sheet_67 : decode cX7_sheet 67 = .ok (.iload_n 3, 1) := by decide +kernel
theorem dX7_sheet_68 : decode cX7_sheet 68 = .ok (.if_icmp .ge 22, 3) := by decide +kernel
theorem dX7_sheet_71 : decode cX7_sheet 71 = .ok (.aload_n 0, 1) := by decide +kernel
theorem dX7_sheet_72 : decode cX7_sheet 72 = .ok (.getfield 65, 3) := by decide +kernel
theorem dX7_sheet_75 : decode cX7_sheet 75 = .ok (.bipush 60, 2) := by decide +kernel
theorem dX7_sheet_77 : decode cX7_sheet 77 = .ok (.iload_n 1, 1) := by decide +kernel
theorem dX7_sheet_78 : decode cX7_sheet 78 = .ok (.imul, 1) := by decide +kernel
theorem dX7_sheet_79 : decode cX7_sheet 79 = .ok (.iload 4, 2) := by decide +kernel
theorem dX7_sheet_81 : decode cX7_sheet 81 = .ok (.iadd, 1) := by decide +kernel
theorem dX7_sheet_82 : decode cX7_sheet 82 = .ok (.iconst 0, 1) := by decide +kernel
theorem dX7_sheet_83 : decode cX7_sheet 83 = .ok (.iastore, 1) := by decide +kernel
theorem dX7_sheet_84 : decode cX7_sheet 84 = .ok (.iinc 4 1, 3) := by decide +kernel
theorem dX7_sheet_87 : decode cX7_sheet 87 = .ok (.goto (-22), 3) := by decide +kernel
theorem dX7_sheet_90 : decode cX7_sheet 90 = .ok (.aload_n 0, 1) := by decide +kernel
theorem dX7_sheet_91 : decode cX7_sheet 91 = .ok (.iconst 1, 1) := by decide +kernel
theorem dX7_sheet_92 : decode cX7_sheet 92 = .ok (.invokevirtual 124, 3) := by decide +kernel
theorem dX7_sheet_95 : decode cX7_sheet 95 = .ok (.ireturn, 1) := by decide +kernel
theorem dX7_lose_0 : decode cX7_lose 0 = .ok (.iload_n 1, 1) := by decide +kernel
theorem dX7_lose_1 : decode cX7_lose 1 = .ok (.invokestatic 120, 3) := by decide +kernel
theorem dX7_lose_4 : decode cX7_lose 4 = .ok (.ifCond .eq 5, 3) := by decide +kernel
theorem dX7_lose_7 : decode cX7_lose 7 = .ok (.iconst (-1), 1) := by decide +kernel
theorem dX7_lose_8 : decode cX7_lose 8 = .ok (.ireturn, 1) := by decide +kernel
theorem dX7_lose_9 : decode cX7_lose 9 = .ok (.aload_n 0, 1) := by decide +kernel
theorem dX7_lose_10 : decode cX7_lose 10 = .ok (.getfield 59, 3) := by decide +kernel
theorem dX7_lose_13 : decode cX7_lose 13 = .ok (.iload_n 1, 1) := by decide +kernel
theorem dX7_lose_14 : decode cX7_lose 14 = .ok (.iaload, 1) := by decide +kernel
theorem dX7_lose_15 : decode cX7_lose 15 = .ok (.ifCond .ge 7, 3) := by decide +kernel
theorem dX7_lose_18 : decode cX7_lose 18 = .ok (.iconst 0, 1) := by decide +kernel
theorem dX7_lose_19 : decode cX7_lose 19 = .ok (.goto 4, 3) := by decide +kernel
theorem dX7_lose_22 : decode cX7_lose 22 = .ok (.iconst 1, 1) := by decide +kernel
theorem dX7_lose_23 : decode cX7_lose 23 = .ok (.istore_n 2, 1) := by decide +kernel
theorem dX7_lose_24 : decode cX7_lose 24 = .ok (.aload_n 0, 1) := by decide +kernel
theorem dX7_lose_25 : decode cX7_lose 25 = .ok (.getfield 59, 3) := by decide +kernel
theorem dX7_lose_28 : decode cX7_lose 28 = .ok (.iload_n 1, 1) := by decide +kernel
theorem dX7_lose_29 : decode cX7_lose 29 = .ok (.iconst (-1), 1) := by decide +kernel
theorem dX7_lose_30 : decode cX7_lose 30 = .ok (.iastore, 1) := by decide +kernel
theorem dX7_lose_31 : decode cX7_lose 31 = .ok (.iload_n 2, 1) := by decide +kernel
theorem dX7_lose_32 : decode cX7_lose 32 = .ok (.ireturn, 1) := by decide +kernel
theorem dX7_noCell_0 : decode cX7_noCell 0 = .ok (.aload_n 0, 1) := by decide +kernel
theorem dX7_noCell_1 : decode cX7_noCell 1 = .ok (.getfield 59, 3) := by decide +kernel
theorem dX7_noCell_4 : decode cX7_noCell 4 = .ok (.iload_n 1, 1) := by decide +kernel
theorem dX7_noCell_5 : decode cX7_noCell 5 = .ok (.iaload, 1) := by decide +kernel
