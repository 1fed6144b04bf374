theorem dX10_knownHere_4 : decode cX10_knownHere 4 = .ok (.bipush 9, 2) := by decide +kernel
theorem dX10_knownHere_6 : decode cX10_knownHere 6 = .ok (.bipush 7, 2) := by decide +kernel
theorem dX10_knownHere_8 : decode cX10_knownHere 8 = .ok (.bipush 8, 2) := by decide +kernel
theorem dX10_knownHere_10 : decode cX10_knownHere 10 = .ok (.bipush 20, 2) := by decide +kernel
theorem dX10_knownHere_12 : decode cX10_knownHere 12 = .ok (.invokevirtual 218, 3) := by decide +kernel
theorem dX10_knownHere_15 : decode cX10_knownHere 15 = .ok (.ifCond .eq 5, 3) := by decide +kernel
theorem dX10_knownHere_18 : decode cX10_knownHere 18 = .ok (.iconst 0, 1) := by decide +kernel
theorem dX10_knownHere_19 : decode cX10_knownHere 19 = .ok (.ireturn, 1) := by decide +kernel
theorem dX10_knownHere_20 : decode cX10_knownHere 20 = .ok (.aload_n 0, 1) := by decide +kernel
theorem dX10_knownHere_21 : decode cX10_knownHere 21 = .ok (.bipush 23, 2) := by decide +kernel
theorem dX10_knownHere_23 : decode cX10_knownHere 23 = .ok (.iconst 5, 1) := by decide +kernel
theorem dX10_knownHere_24 : decode cX10_knownHere 24 = .ok (.bipush 9, 2) := by decide +kernel
theorem dX10_knownHere_26 : decode cX10_knownHere 26 = .ok (.bipush 7, 2) := by decide +kernel
theorem dX10_knownHere_28 : decode cX10_knownHere 28 = .ok (.bipush 8, 2) := by decide +kernel
theorem dX10_knownHere_30 : decode cX10_knownHere 30 = .ok (.iconst 5, 1) := by decide +kernel
theorem dX10_knownHere_31 : decode cX10_knownHere 31 = .ok (.invokestatic 137, 3) := by decide +kernel
theorem dX10_knownHere_34 : decode cX10_knownHere 34 = .ok (.bipush 100, 2) := by decide +kernel
theorem dX10_knownHere_36 : decode cX10_knownHere 36 = .ok (.invokevirtual 221, 3) := by decide +kernel
theorem dX10_knownHere_39 : decode cX10_knownHere 39 = .ok (.ifCond .eq 5, 3) := by decide +kernel
theorem dX10_knownHere_42 : decode cX10_knownHere 42 = .ok (.iconst 1, 1) := by decide +kernel
theorem dX10_knownHere_43 : decode cX10_knownHere 43 = .ok (.ireturn, 1) := by decide +kernel
theorem dX10_knownHere_44 : decode cX10_knownHere 44 = .ok (.aload_n 0, 1) := by decide +kernel
theorem dX10_knownHere_45 : decode cX10_knownHere 45 = .ok (.iconst 3, 1) := by decide +kernel
theorem dX10_knownHere_46 : decode cX10_knownHere 46 = .ok (.bipush 18, 2) := by decide +kernel
theorem dX10_knownHere_48 : decode cX10_knownHere 48 = .ok (.bipush 9, 2) := by decide +kernel
theorem dX10_knownHere_50 : decode cX10_knownHere 50 = .ok (.iconst 5, 1) := by decide +kernel
theorem dX10_knownHere_51 : decode cX10_knownHere 51 = .ok (.iconst 4, 1) := by decide +kernel
theorem dX10_knownHere_52 : decode cX10_knownHere 52 = .ok (.iconst 0, 1) := by decide +kernel
theorem dX10_knownHere_53 : decode cX10_knownHere 53 = .ok (.invokevirtual 218, 3) := by decide +kernel
theorem dX10_knownHere_56 : decode cX10_knownHere 56 = .ok (.ifCond .eq 5, 3) := by decide +kernel
theorem dX10_knownHere_59 : decode cX10_knownHere 59 = .ok (.iconst 2, 1) := by decide +kernel
theorem dX10_knownHere_60 : decode cX10_knownHere 60 = .ok (.ireturn, 1) := by decide +kernel
theorem dX10_knownHere_61 : decode cX10_knownHere 61 = .ok (.aload_n 0, 1) := by decide +kernel
theorem dX10_knownHere_62 : decode cX10_knownHere 62 = .ok (.bipush 20, 2) := by decide +kernel
theorem dX10_knownHere_64 : decode cX10_knownHere 64 = .ok (.bipush 8, 2) := by decide +kernel
theorem dX10_knownHere_66 : decode cX10_knownHere 66 = .ok (.bipush 9, 2) := by decide +kernel
theorem dX10_knownHere_68 : decode cX10_knownHere 68 = .ok (.bipush 14, 2) := by decide +kernel
theorem dX10_knownHere_70 : decode cX10_knownHere 70 = .ok (.bipush 7, 2) := by decide +kernel
theorem dX10_knownHere_72 : decode cX10_knownHere 72 = .ok (.iconst 0, 1) := by decide +kernel
theorem dX10_knownHere_73 : decode cX10_knownHere 73 = .ok (.invokevirtual 218, 3) := by decide +kernel
theorem dX10_knownHere_76 : decode cX10_knownHere 76 = .ok (.ifCond .eq 5, 3) := by decide +kernel
theorem dX10_knownHere_79 : decode cX10_knownHere 79 = .ok (.iconst 3, 1) := by decide +kernel
theorem dX10_knownHere_80 : decode cX10_knownHere 80 = .ok (.ireturn, 1) := by decide +kernel
theorem dX10_knownHere_81 : decode cX10_knownHere 81 = .ok (.aload_n 0, 1) := by decide +kernel
theorem dX10_knownHere_82 : decode cX10_knownHere 82 = .ok (.iconst 4, 1) := by decide +kernel
theorem dX10_knownHere_83 : decode cX10_knownHere 83 = .ok (.iconst 1, 1) := by decide +kernel
theorem dX10_knownHere_84 : decode cX10_knownHere 84 = .ok (.bipush 25, 2) := by decide +kernel
theorem dX10_knownHere_86 : decode cX10_knownHere 86 = .ok (.iconst 0, 1) := by decide +kernel
theorem dX10_knownHere_87 : decode cX10_knownHere 87 = .ok (.iconst 0, 1) := by decide +kernel
theorem dX10_knownHere_88 : decode cX10_knownHere 88 = .ok (.iconst 0, 1) := by decide +kernel
theorem dX10_knownHere_89 : decode cX10_knownHere 89 = .ok (.invokevirtual 218, 3) := by decide +kernel
theorem dX10_knownHere_92 : decode cX10_knownHere 92 = .ok (.ifCond .eq 5, 3) := by decide +kernel
theorem dX10_knownHere_95 : decode cX10_knownHere 95 = .ok (.iconst 4, 1) := by decide +kernel
theorem dX10_knownHere_96 : decode cX10_knownHere 96 = .ok (.ireturn, 1) := by decide +kernel
theorem dX10_knownHere_97 : decode cX10_knownHere 97 = .ok (.aload_n 0, 1) := by decide +kernel
theorem dX10_knownHere_98 : decode cX10_knownHere 98 = .ok (.bipush 12, 2) := by decide +kernel
theorem dX10_knownHere_100 : decode cX10_knownHere 100 = .ok (.iconst 5, 1) := by decide +kernel
theorem dX10_knownHere_101 : decode cX10_knownHere 101 = .ok (.iconst 1, 1) := by decide +kernel
theorem dX10_knownHere_102 : decode cX10_knownHere 102 = .ok (.bipush 14, 2) := by decide +kernel
theorem dX10_knownHere_104 : decode cX10_knownHere 104 = .ok (.iconst 0, 1) := by decide +kernel
theorem dX10_knownHere_105 : decode cX10_knownHere 105 = .ok (.iconst 0, 1) := by decide +kernel
theorem dX10_knownHere_106 : decode cX10_knownHere 106 = .ok (.invokevirtual 218, 3) := by decide +kernel
theorem dX10_knownHere_109 : decode cX10_knownHere 109 = .ok (.ifCond .eq 5, 3) := by decide +kernel
theorem dX10_knownHere_112 : decode cX10_knownHere 112 = .ok (.iconst 5, 1) := by decide +kernel
theorem dX10_knownHere_113 : decode cX10_knownHere 113 = .ok (.ireturn, 1) := by decide +kernel
theorem dX10_knownHere_114 : decode cX10_knownHere 114 = .ok (.aload_n 0, 1) := by decide +kernel
theorem dX10_knownHere_115 : decode cX10_knownHere 115 = .ok (.bipush 16, 2) := by decide +kernel
theorem dX10_knownHere_117 : decode cX10_knownHere 117 = .ok (.bipush 12, 2) := by decide +kernel
theorem dX10_knownHere_119 : decode cX10_knownHere 119 = .ok (.iconst 1, 1) := by decide +kernel
theorem dX10_knownHere_120 : decode cX10_knownHere 120 = .ok (.bipush 25, 2) := by decide +kernel
theorem dX10_knownHere_122 : decode cX10_knownHere 122 = .ok (.iconst 0, 1) := by decide +kernel
theorem dX10_knownHere_123 : decode cX10_knownHere 123 = .ok (.iconst 0, 1) := by decide +kernel
theorem dX10_knownHere_124 : decode cX10_knownHere 124 = .ok (.invokevirtual 218, 3) := by decide +kernel
theorem dX10_knownHere_127 : decode cX10_knownHere 127 = .ok (.ifCond .eq 8, 3) := by decide +kernel
theorem dX10_knownHere_130 : decode cX10_knownHere 130 = .ok (.bipush 6, 2) := by decide +kernel
theorem dX10_knownHere_132 : decode cX10_knownHere 132 = .ok (.goto 4, 3) := by decide +kernel
theorem dX10_knownHere_135 : decode cX10_knownHere 135 = .ok (.iconst (-1), 1) := by decide +kernel
theorem dX10_knownHere_136 : decode cX10_knownHere 136 = .ok (.ireturn, 1) := by decide +kernel
theorem dX10_one_0 : decode cX10_one 0 = .ok (.aload_n 0, 1) := by decide +kernel
theorem dX10_one_1 : decode cX10_one 1 = .ok (.getfield 108, 3) := by decide +kernel
theorem dX10_one_4 : decode cX10_one 4 = .ok (.ifCond .eq 4, 3) := by decide +kernel
theorem dX10_one_7 : decode cX10_one 7 = .ok (.return_, 1) := by decide +kernel
theorem dX10_one_8 : decode cX10_one 8 = .ok (.aload_n 0, 1) := by decide +kernel
theorem dX10_one_9 : decode cX10_one 9 = .ok (.invokevirtual 114, 3) := by decide +kernel
theorem dX10_one_12 : decode cX10_one 12 = .ok (.aload_n 0, 1) := by decide +kernel
theorem dX10_one_13 : decode cX10_one 13 = .ok (.bipush 12, 2) := by decide +kernel
theorem dX10_one_15 : decode cX10_one 15 = .ok (.iconst 5, 1) := by decide +kernel
theorem dX10_one_16 : decode cX10_one 16 = .ok (.iconst 1, 1) := by decide +kernel
theorem dX10_one_17 : decode cX10_one 17 = .ok (.bipush 19, 2) := by decide +kernel
theorem dX10_one_19 : decode cX10_one 19 = .ok (.bipush 20, 2) := by decide +kernel
theorem dX10_one_21 : decode cX10_one 21 = .ok (.iconst 0, 1) := by decide +kernel
theorem dX10_one_22 : decode cX10_one 22 = .ok (.invokevirtual 141, 3) := by decide +kernel
theorem dX10_one_25 : decode cX10_one 25 = .ok (.ifCond .eq 8, 3) := by decide +kernel
theorem dX10_one_28 : decode cX10_one 28 = .ok (.bipush 7, 2) := by decide +kernel
theorem dX10_one_30 : decode cX10_one 30 = .ok (.goto 26, 3) := by decide +kernel
theorem dX10_one_33 : decode cX10_one 33 = .ok (.aload_n 0, 1) := by decide +kernel
theorem dX10_one_34 : decode cX10_one 34 = .ok (.bipush 13, 2) := by decide +kernel
theorem dX10_one_36 : decode cX10_one 36 = .ok (.bipush 15, 2) := by decide +kernel
theorem dX10_one_38 : decode cX10_one 38 = .ok (.bipush 19, 2) := by decide +kernel
theorem dX10_one_40 : decode cX10_one 40 = .ok (.bipush 20, 2) := by decide +kernel
theorem dX10_one_42 : decode cX10_one 42 = .ok (.iconst 0, 1) := by decide +kernel
theorem dX10_one_43 : decode cX10_one 43 = .ok (.iconst 0, 1) := by decide +kernel
theorem dX10_one_44 : decode cX10_one 44 = .ok (.invokevirtual 141, 3) := by decide +kernel
theorem dX10_one_47 : decode cX10_one 47 = .ok (.ifCond .eq 8, 3) := by decide +kernel
theorem dX10_one_50 : decode cX10_one 50 = .ok (.bipush 8, 2) := by decide +kernel
theorem dX10_one_52 : decode cX10_one 52 = .ok (.goto 4, 3) := by decide +kernel
theorem dX10_one_55 : decode cX10_one 55 = .ok (.iconst (-1), 1) := by decide +kernel
theorem dX10_one_56 : decode cX10_one 56 = .ok (.istore_n 1, 1) := by decide +kernel
theorem dX10_one_57 : decode cX10_one 57 = .ok (.iload_n 1, 1) := by decide +kernel
theorem dX10_one_58 : decode cX10_one 58 = .ok (.iconst (-1), 1) := by decide +kernel
theorem dX10_one_59 : decode cX10_one 59 = .ok (.if_icmp .eq 58, 3) := by decide +kernel
theorem dX10_one_62 : decode cX10_one 62 = .ok (.aload_n 0, 1) := by decide +kernel
theorem dX10_one_63 : decode cX10_one 63 = .ok (.invokevirtual 225, 3) := by decide +kernel
theorem dX10_one_66 : decode cX10_one 66 = .ok (.ifCond .ne 4, 3) := by decide +kernel
theorem dX10_one_69 : decode cX10_one 69 = .ok (.return_, 1) := by decide +kernel
theorem dX10_one_70 : decode cX10_one 70 = .ok (.aload_n 0, 1) := by decide +kernel
theorem dX10_one_71 : decode cX10_one 71 = .ok (.invokevirtual 145, 3) := by decide +kernel
theorem dX10_one_74 : decode cX10_one 74 = .ok (.aload_n 0, 1) := by decide +kernel
theorem dX10_one_75 : decode cX10_one 75 = .ok (.bipush 91, 2) := by decide +kernel
theorem dX10_one_77 : decode cX10_one 77 = .ok (.invokevirtual 167, 3) := by decide +kernel
theorem dX10_one_80 : decode cX10_one 80 = .ok (.aload_n 0, 1) := by decide +kernel
theorem dX10_one_81 : decode cX10_one 81 = .ok (.invokevirtual 229, 3) := by decide +kernel
theorem dX10_one_84 : decode cX10_one 84 = .ok (.aload_n 0, 1) := by decide +kernel
theorem dX10_one_85 : decode cX10_one 85 = .ok (.bipush 44, 2) := by decide +kernel
theorem dX10_one_87 : decode cX10_one 87 = .ok (.invokevirtual 167, 3) := by decide +kernel
theorem dX10_one_90 : decode cX10_one 90 = .ok (.aload_n 0, 1) := by decide +kernel
theorem dX10_one_91 : decode cX10_one 91 = .ok (.invokevirtual 229, 3) := by decide +kernel
theorem dX10_one_94 : decode cX10_one 94 = .ok (.aload_n 0, 1) := by decide +kernel
theorem dX10_one_95 : decode cX10_one 95 = .ok (.bipush 93, 2) := by decide +kernel
theorem dX10_one_97 : decode cX10_one 97 = .ok (.invokevirtual 167, 3) := by decide +kernel
theorem dX10_one_100 : decode cX10_one 100 = .ok (.aload_n 0, 1) := by decide +kernel
theorem dX10_one_101 : decode cX10_one 101 = .ok (.iload_n 1, 1) := by decide +kernel
theorem dX10_one_102 : decode cX10_one 102 = .ok (.iconst 0, 1) := by decide +kernel
theorem dX10_one_103 : decode cX10_one 103 = .ok (.invokevirtual 212, 3) := by decide +kernel
theorem dX10_one_106 : decode cX10_one 106 = .ok (.aload_n 0, 1) := by decide +kernel
theorem dX10_one_107 : decode cX10_one 107 = .ok (.dup, 1) := by decide +kernel
theorem dX10_one_108 : decode cX10_one 108 = .ok (.getfield 151, 3) := by decide +kernel
theorem dX10_one_111 : decode cX10_one 111 = .ok (.iconst 1, 1) := by decide +kernel
theorem dX10_one_112 : decode cX10_one 112 = .ok (.isub, 1) := by decide +kernel
theorem dX10_one_113 : decode cX10_one 113 = .ok (.putfield 151, 3) := by decide +kernel
theorem dX10_one_116 : decode cX10_one 116 = .ok (.return_, 1) := by decide +kernel
theorem dX10_one_117 : decode cX10_one 117 = .ok (.aload_n 0, 1) := by decide +kernel
theorem dX10_one_118 : decode cX10_one 118 = .ok (.aload_n 0, 1) := by decide +kernel
theorem dX10_one_119 : decode cX10_one 119 = .ok (.getfield 101, 3) := by decide +kernel
theorem dX10_one_122 : decode cX10_one 122 = .ok (.invokevirtual 104, 3) := by decide +kernel
theorem dX10_one_125 : decode cX10_one 125 = .ok (.bipush 40, 2) := by decide +kernel
theorem dX10_one_127 : decode cX10_one 127 = .ok (.if_icmp .ne 42, 3) := by decide +kernel
theorem dX10_one_130 : decode cX10_one 130 = .ok (.aload_n 0, 1) := by decide +kernel
theorem dX10_one_131 : decode cX10_one 131 = .ok (.invokevirtual 225, 3) := by decide +kernel
theorem dX10_one_134 : decode cX10_one 134 = .ok (.ifCond .ne 4, 3) := by decide +kernel
theorem dX10_one_137 : decode cX10_one 137 = .ok (.return_, 1) := by decide +kernel
theorem dX10_one_138 : decode cX10_one 138 = .ok (.aload_n 0, 1) := by decide +kernel
theorem dX10_one_139 : decode cX10_one 139 = .ok (.dup, 1) := by decide +kernel
theorem dX10_one_140 : decode cX10_one 140 = .ok (.getfield 101, 3) := by decide +kernel
theorem dX10_one_143 : decode cX10_one 143 = .ok (.iconst 1, 1) := by decide +kernel
theorem dX10_one_144 : decode cX10_one 144 = .ok (.iadd, 1) := by decide +kernel
theorem dX10_one_145 : decode cX10_one 145 = .ok (.putfield 101, 3) := by decide +kernel
theorem dX10_one_148 : decode cX10_one 148 = .ok (.aload_n 0, 1) := by decide +kernel
theorem dX10_one_149 : decode cX10_one 149 = .ok (.invokevirtual 229, 3) := by decide +kernel
theorem dX10_one_152 : decode cX10_one 152 = .ok (.aload_n 0, 1) := by decide +kernel
theorem dX10_one_153 : decode cX10_one 153 = .ok (.bipush 41, 2) := by decide +kernel
theorem dX10_one_155 : decode cX10_one 155 = .ok (.invokevirtual 167, 3) := by decide +kernel
theorem dX10_one_158 : decode cX10_one 158 = .ok (.aload_n 0, 1) := by decide +kernel
theorem dX10_one_159 : decode cX10_one 159 = .ok (.dup, 1) := by decide +kernel
theorem dX10_one_160 : decode cX10_one 160 = .ok (.getfield 151, 3) := by decide +kernel
theorem dX10_one_163 : decode cX10_one 163 = .ok (.iconst 1, 1) := by decide +kernel
theorem dX10_one_164 : decode cX10_one 164 = .ok (.isub, 1) := by decide +kernel
theorem dX10_one_165 : decode cX10_one 165 = .ok (.putfield 151, 3) := by decide +kernel
theorem dX10_one_168 : decode cX10_one 168 = .ok (.return_, 1) := by decide +kernel
theorem dX10_one_169 : decode cX10_one 169 = .ok (.aload_n 0, 1) := by decide +kernel
theorem dX10_one_170 : decode cX10_one 170 = .ok (.invokevirtual 232, 3) := by decide +kernel
theorem dX10_one_173 : decode cX10_one 173 = .ok (.istore_n 2, 1) := by decide +kernel
theorem dX10_one_174 : decode cX10_one 174 = .ok (.iload_n 2, 1) := by decide +kernel
theorem dX10_one_175 : decode cX10_one 175 = .ok (.iconst (-1), 1) := by decide +kernel
theorem dX10_one_176 : decode cX10_one 176 = .ok (.if_icmp .eq 12, 3) := by decide +kernel
theorem dX10_one_179 : decode cX10_one 179 = .ok (.aload_n 0, 1) := by decide +kernel
theorem dX10_one_180 : decode cX10_one 180 = .ok (.iconst 1, 1) := by decide +kernel
theorem dX10_one_181 : decode cX10_one 181 = .ok (.iload_n 2, 1) := by decide +kernel
theorem dX10_one_182 : decode cX10_one 182 = .ok (.invokevirtual 212, 3) := by decide +kernel
theorem dX10_one_185 : decode cX10_one 185 = .ok (.goto 16, 3) := by decide +kernel
theorem dX10_one_188 : decode cX10_one 188 = .ok (.aload_n 0, 1) := by decide +kernel
theorem dX10_one_189 : decode cX10_one 189 = .ok (.iconst 0, 1) := by decide +kernel
theorem dX10_one_190 : decode cX10_one 190 = .ok (.aload_n 0, 1) := by decide +kernel
theorem dX10_one_191 : decode cX10_one 191 = .ok (.iconst 0, 1) := by decide +kernel
theorem dX10_one_192 : decode cX10_one 192 = .ok (.sipush 999, 3) := by decide +kernel
theorem dX10_one_195 : decode cX10_one 195 = .ok (.invokevirtual 154, 3) := by decide +kernel
theorem dX10_one_198 : decode cX10_one 198 = .ok (.invokevirtual 212, 3) := by decide +kernel
theorem dX10_one_201 : decode cX10_one 201 = .ok (.return_, 1) := by decide +kernel
theorem dX10_law_0 : decode cX10_law 0 = .ok (.aload_n 0, 1) := by decide +kernel
theorem dX10_law_1 : decode cX10_law 1 = .ok (.iconst 0, 1) := by decide +kernel
theorem dX10_law_2 : decode cX10_law 2 = .ok (.putfield 92, 3) := by decide +kernel
theorem dX10_law_5 : decode cX10_law 5 = .ok (.aload_n 0, 1) := by decide +kernel
theorem dX10_law_6 : decode cX10_law 6 = .ok (.iload_n 1, 1) := by decide +kernel
theorem dX10_law_7 : decode cX10_law 7 = .ok (.iconst 0, 1) := by decide +kernel
theorem dX10_law_8 : decode cX10_law 8 = .ok (.aload_n 0, 1) := by decide +kernel
theorem dX10_law_9 : decode cX10_law 9 = .ok (.getfield 95, 3) := by decide +kernel
theorem dX10_law_12 : decode cX10_law 12 = .ok (.invokestatic 126, 3) := by decide +kernel
theorem dX10_law_15 : decode cX10_law 15 = .ok (.ifCond .eq 10, 3) := by decide +kernel
theorem dX10_law_18 : decode cX10_law 18 = .ok (.iload_n 1, 1) := by decide +kernel
theorem dX10_law_19 : decode cX10_law 19 = .ok (.sipush 150, 3) := by decide +kernel
theorem dX10_law_22 : decode cX10_law 22 = .ok (.if_icmp .le 7, 3) := by decide +kernel
theorem dX10_law_25 : decode cX10_law 25 = .ok (.iconst 1, 1) := by decide +kernel
theorem dX10_law_26 : decode cX10_law 26 = .ok (.goto 4, 3) := by decide +kernel
theorem dX10_law_29 : decode cX10_law 29 = .ok (.iconst 0, 1) := by decide +kernel
theorem dX10_law_30 : decode cX10_law 30 = .ok (.iconst 1, 1) := by decide +kernel
theorem dX10_law_31 : decode cX10_law 31 = .ok (.iconst 1, 1) := by decide +kernel
theorem dX10_law_32 : decode cX10_law 32 = .ok (.invokevirtual 171, 3) := by decide +kernel
theorem dX10_law_35 : decode cX10_law 35 = .ok (.ifCond .eq 5, 3) := by decide +kernel
theorem dX10_law_38 : decode cX10_law 38 = .ok (.iconst 0, 1) := by decide +kernel
theorem dX10_law_39 : decode cX10_law 39 = .ok (.ireturn, 1) := by decide +kernel
theorem dX10_law_40 : decode cX10_law 40 = .ok (.aload_n 0, 1) := by decide +kernel
theorem dX10_law_41 : decode cX10_law 41 = .ok (.iload_n 1, 1) := by decide +kernel
theorem dX10_law_42 : decode cX10_law 42 = .ok (.invokevirtual 175, 3) := by decide +kernel
theorem dX10_law_45 : decode cX10_law 45 = .ok (.aload_n 0, 1) := by decide +kernel
theorem dX10_law_46 : decode cX10_law 46 = .ok (.iconst 0, 1) := by decide +kernel
theorem dX10_law_47 : decode cX10_law 47 = .ok (.putfield 203, 3) := by decide +kernel
theorem dX10_law_50 : decode cX10_law 50 = .ok (.aload_n 0, 1) := by decide +kernel
theorem dX10_law_51 : decode cX10_law 51 = .ok (.invokevirtual 229, 3) := by decide +kernel
theorem dX10_law_54 : decode cX10_law 54 = .ok (.aload_n 0, 1) := by decide +kernel
theorem dX10_law_55 : decode cX10_law 55 = .ok (.invokevirtual 114, 3) := by decide +kernel
theorem dX10_law_58 : decode cX10_law 58 = .ok (.aload_n 0, 1) := by decide +kernel
theorem dX10_law_59 : decode cX10_law 59 = .ok (.getfield 108, 3) := by decide +kernel
theorem dX10_law_62 : decode cX10_law 62 = .ok (.ifCond .ne 23, 3) := by decide +kernel
theorem dX10_law_65 : decode cX10_law 65 = .ok (.aload_n 0, 1) := by decide +kernel
theorem dX10_law_66 : decode cX10_law 66 = .ok (.getfield 101, 3) := by decide +kernel
theorem dX10_law_69 : decode cX10_law 69 = .ok (.aload_n 0, 1) := by decide +kernel
theorem dX10_law_70 : decode cX10_law 70 = .ok (.getfield 98, 3) := by decide +kernel
theorem dX10_law_73 : decode cX10_law 73 = .ok (.if_icmp .ge 12, 3) := by decide +kernel
theorem dX10_law_76 : decode cX10_law 76 = .ok (.aload_n 0, 1) := by decide +kernel
theorem dX10_law_77 : decode cX10_law 77 = .ok (.iconst 1, 1) := by decide +kernel
theorem dX10_law_78 : decode cX10_law 78 = .ok (.aload_n 0, 1) := by decide +kernel
theorem dX10_law_79 : decode cX10_law 79 = .ok (.getfield 101, 3) := by decide +kernel
theorem dX10_law_82 : decode cX10_law 82 = .ok (.invokevirtual 121, 3) := by decide +kernel
theorem dX10_law_85 : decode cX10_law 85 = .ok (.aload_n 0, 1) := by decide +kernel
theorem dX10_law_86 : decode cX10_law 86 = .ok (.getfield 108, 3) := by decide +kernel
theorem dX10_law_89 : decode cX10_law 89 = .ok (.ifCond .eq 8, 3) := by decide +kernel
theorem dX10_law_92 : decode cX10_law 92 = .ok (.aload_n 0, 1) := by decide +kernel
theorem dX10_law_93 : decode cX10_law 93 = .ok (.invokevirtual 181, 3) := by decide +kernel
theorem dX10_law_96 : decode cX10_law 96 = .ok (.ireturn, 1) := by decide +kernel
theorem dX10_law_97 : decode cX10_law 97 = .ok (.aload_n 0, 1) := by decide +kernel
theorem dX10_law_98 : decode cX10_law 98 = .ok (.iconst (-1), 1) := by decide +kernel
theorem dX10_law_99 : decode cX10_law 99 = .ok (.putfield 9, 3) := by decide +kernel
theorem dX10_law_102 : decode cX10_law 102 = .ok (.aload_n 0, 1) := by decide +kernel
theorem dX10_law_103 : decode cX10_law 103 = .ok (.aload_n 0, 1) := by decide +kernel
theorem dX10_law_104 : decode cX10_law 104 = .ok (.getfield 203, 3) := by decide +kernel
theorem dX10_law_107 : decode cX10_law 107 = .ok (.putfield 188, 3) := by decide +kernel
theorem dX10_law_110 : decode cX10_law 110 = .ok (.aload_n 0, 1) := by decide +kernel
theorem dX10_law_111 : decode cX10_law 111 = .ok (.getfield 43, 3) := by decide +kernel
theorem dX10_law_114 : decode cX10_law 114 = .ok (.aload_n 0, 1) := by decide +kernel
theorem dX10_law_115 : decode cX10_law 115 = .ok (.getfield 40, 3) := by decide +kernel
theorem dX10_law_118 : decode cX10_law 118 = .ok (.aload_n 0, 1) := by decide +kernel
theorem dX10_law_119 : decode cX10_law 119 = .ok (.getfield 188, 3) := by decide +kernel
theorem dX10_law_122 : decode cX10_law 122 = .ok (.invokestatic 184, 3) := by decide +kernel
theorem dX10_law_125 : decode cX10_law 125 = .ok (.iconst 1, 1) := by decide +kernel
theorem dX10_law_126 : decode cX10_law 126 = .ok (.ireturn, 1) := by decide +kernel
theorem dX10_by_0 : decode cX10_by 0 = .ok (.iload_n 0, 1) := by decide +kernel
theorem dX10_by_1 : decode cX10_by 1 = .ok (.tableswitch 96 2 7 #[39, 43, 47, 51, 73, 90], 39) := by decide +kernel
theorem dX10_by_40 : decode cX10_by 40 = .ok (.iload_n 1, 1) := by decide +kernel
theorem dX10_by_41 : decode cX10_by 41 = .ok (.iload_n 2, 1) := by decide +kernel
theorem dX10_by_42 : decode cX10_by 42 = .ok (.iadd, 1) := by decide +kernel
theorem dX10_by_43 : decode cX10_by 43 = .ok (.ireturn, 1) := by decide +kernel
theorem dX10_by_44 : decode cX10_by 44 = .ok (.iload_n 1, 1) := by decide +kernel
theorem dX10_by_45 : decode cX10_by 45 = .ok (.iload_n 2, 1) := by decide +kernel
theorem dX10_by_46 : decode cX10_by 46 = .ok (.isub, 1) := by decide +kernel
theorem dX10_by_47 : decode cX10_by 47 = .ok (.ireturn, 1) := by decide +kernel
theorem dX10_by_48 : decode cX10_by 48 = .ok (.iload_n 1, 1) := by decide +kernel
theorem dX10_by_49 : decode cX10_by 49 = .ok (.iload_n 2, 1) := by decide +kernel
theorem dX10_by_50 : decode cX10_by 50 = .ok (.imul, 1) := by decide +kernel
theorem dX10_by_51 : decode cX10_by 51 = .ok (.ireturn, 1) := by decide +kernel
theorem dX10_by_52 : decode cX10_by 52 = .ok (.iload_n 2, 1) := by decide +kernel
theorem dX10_by_53 : decode cX10_by 53 = .ok (.ifCond .ne 7, 3) := by decide +kernel
theorem dX10_by_56 : decode cX10_by 56 = .ok (.iconst 0, 1) := by decide +kernel
theorem dX10_by_57 : decode cX10_by 57 = .ok (.goto 16, 3) := by decide +kernel
theorem dX10_by_60 : decode cX10_by 60 = .ok (.iload_n 2, 1) := by decide +kernel
theorem dX10_by_61 : decode cX10_by 61 = .ok (.iconst (-1), 1) := by decide +kernel
theorem dX10_by_62 : decode cX10_by 62 = .ok (.if_icmp .ne 8, 3) := by decide +kernel
theorem dX10_by_65 : decode cX10_by 65 = .ok (.iload_n 1, 1) := by decide +kernel
theorem dX10_by_66 : decode cX10_by 66 = .ok (.ineg, 1) := by decide +kernel
theorem dX10_by_67 : decode cX10_by 67 = .ok (.goto 6, 3) := by decide +kernel
theorem dX10_by_70 : decode cX10_by 70 = .ok (.iload_n 1, 1) := by decide +kernel
theorem dX10_by_71 : decode cX10_by 71 = .ok (.iload_n 2, 1) := by decide +kernel
theorem dX10_by_72 : decode cX10_by 72 = .ok (.idiv, 1) := by decide +kernel
theorem dX10_by_73 : decode cX10_by 73 = .ok (.ireturn, 1) := by decide +kernel
theorem dX10_by_74 : decode cX10_by 74 = .ok (.iload_n 2, 1) := by decide +kernel
theorem dX10_by_75 : decode cX10_by 75 = .ok (.ifCond .eq 8, 3) := by decide +kernel
theorem dX10_by_78 : decode cX10_by 78 = .ok (.iload_n 2, 1) := by decide +kernel
theorem dX10_by_79 : decode cX10_by 79 = .ok (.iconst (-1), 1) := by decide +kernel
theorem dX10_by_80 : decode cX10_by 80 = .ok (.if_icmp .ne 7, 3) := by decide +kernel
theorem dX10_by_83 : decode cX10_by 83 = .ok (.iconst 0, 1) := by decide +kernel
theorem dX10_by_84 : decode cX10_by 84 = .ok (.goto 6, 3) := by decide +kernel
theorem dX10_by_87 : decode cX10_by 87 = .ok (.iload_n 1, 1) := by decide +kernel
theorem dX10_by_88 : decode cX10_by 88 = .ok (.iload_n 2, 1) := by decide +kernel
theorem dX10_by_89 : decode cX10_by 89 = .ok (.irem, 1) := by decide +kernel
theorem dX10_by_90 : decode cX10_by 90 = .ok (.ireturn, 1) := by decide +kernel
theorem dX10_by_91 : decode cX10_by 91 = .ok (.iload_n 1, 1) := by decide +kernel
theorem dX10_by_92 : decode cX10_by 92 = .ok (.iload_n 2, 1) := by decide +kernel
theorem dX10_by_93 : decode cX10_by 93 = .ok (.invokestatic 235, 3) := by decide +kernel
theorem dX10_by_96 : decode cX10_by 96 = .ok (.ireturn, 1) := by decide +kernel
theorem dX10_by_97 : decode cX10_by 97 = .ok (.iload_n 1, 1) := by decide +kernel
theorem dX10_by_98 : decode cX10_by 98 = .ok (.iload_n 2, 1) := by decide +kernel
theorem dX10_by_99 : decode cX10_by 99 = .ok (.invokestatic 238, 3) := by decide +kernel
theorem dX10_by_102 : decode cX10_by 102 = .ok (.ireturn, 1) := by decide +kernel
theorem dX10_byLaw_0 : decode cX10_byLaw 0 = .ok (.iconst 0, 1) := by decide +kernel
theorem dX10_byLaw_1 : decode cX10_byLaw 1 = .ok (.istore_n 1, 1) := by decide +kernel
theorem dX10_byLaw_2 : decode cX10_byLaw 2 = .ok (.aload_n 0, 1) := by decide +kernel
theorem dX10_byLaw_3 : decode cX10_byLaw 3 = .ok (.getfield 52, 3) := by decide +kernel
theorem dX10_byLaw_6 : decode cX10_byLaw 6 = .ok (.iconst 0, 1) := by decide +kernel
theorem dX10_byLaw_7 : decode cX10_byLaw 7 = .ok (.aload_n 0, 1) := by decide +kernel
theorem dX10_byLaw_8 : decode cX10_byLaw 8 = .ok (.getfield 55, 3) := by decide +kernel
theorem dX10_byLaw_11 : decode cX10_byLaw 11 = .ok (.iconst 1, 1) := by decide +kernel
theorem dX10_byLaw_12 : decode cX10_byLaw 12 = .ok (.iaload, 1) := by decide +kernel
theorem dX10_byLaw_13 : decode cX10_byLaw 13 = .ok (.iconst 4, 1) := by decide +kernel
theorem dX10_byLaw_14 : decode cX10_byLaw 14 = .ok (.idiv, 1) := by decide +kernel
theorem dX10_byLaw_15 : decode cX10_byLaw 15 = .ok (.iastore, 1) := by decide +kernel
theorem dX10_byLaw_16 : decode cX10_byLaw 16 = .ok (.iconst 0, 1) := by decide +kernel
theorem dX10_byLaw_17 : decode cX10_byLaw 17 = .ok (.istore_n 2, 1) := by decide +kernel
theorem dX10_byLaw_18 : decode cX10_byLaw 18 = .ok (.iload_n 2, 1) := by decide +kernel
theorem dX10_byLaw_19 : decode cX10_byLaw 19 = .ok (.aload_n 0, 1) := by decide +kernel
theorem dX10_byLaw_20 : decode cX10_byLaw 20 = .ok (.getfield 188, 3) := by decide +kernel
theorem dX10_byLaw_23 : decode cX10_byLaw 23 = .ok (.if_icmp .ge 104, 3) := by decide +kernel
theorem dX10_byLaw_26 : decode cX10_byLaw 26 = .ok (.aload_n 0, 1) := by decide +kernel
theorem dX10_byLaw_27 : decode cX10_byLaw 27 = .ok (.getfield 40, 3) := by decide +kernel
theorem dX10_byLaw_30 : decode cX10_byLaw 30 = .ok (.iload_n 2, 1) := by decide +kernel
theorem dX10_byLaw_31 : decode cX10_byLaw 31 = .ok (.aaload, 1) := by decide +kernel
theorem dX10_byLaw_32 : decode cX10_byLaw 32 = .ok (.iconst 0, 1) := by decide +kernel
theorem dX10_byLaw_33 : decode cX10_byLaw 33 = .ok (.iaload, 1) := by decide +kernel
theorem dX10_byLaw_34 : decode cX10_byLaw 34 = .ok (.iconst 2, 1) := by decide +kernel
theorem dX10_byLaw_35 : decode cX10_byLaw 35 = .ok (.if_icmp .ge 50, 3) := by decide +kernel
theorem dX10_byLaw_38 : decode cX10_byLaw 38 = .ok (.aload_n 0, 1) := by decide +kernel
theorem dX10_byLaw_39 : decode cX10_byLaw 39 = .ok (.getfield 52, 3) := by decide +kernel
theorem dX10_byLaw_42 : decode cX10_byLaw 42 = .ok (.iload_n 1, 1) := by decide +kernel
theorem dX10_byLaw_43 : decode cX10_byLaw 43 = .ok (.aload_n 0, 1) := by decide +kernel
theorem dX10_byLaw_44 : decode cX10_byLaw 44 = .ok (.getfield 40, 3) := by decide +kernel
theorem dX10_byLaw_47 : decode cX10_byLaw 47 = .ok (.iload_n 2, 1) := by decide +kernel
theorem dX10_byLaw_48 : decode cX10_byLaw 48 = .ok (.aaload, 1) := by decide +kernel
theorem dX10_byLaw_49 : decode cX10_byLaw 49 = .ok (.iconst 0, 1) := by decide +kernel
theorem dX10_byLaw_50 : decode cX10_byLaw 50 = .ok (.iaload, 1) := by decide +kernel
theorem dX10_byLaw_51 : decode cX10_byLaw 51 = .ok (.ifCond .ne 14, 3) := by decide +kernel
theorem dX10_byLaw_54 : decode cX10_byLaw 54 = .ok (.aload_n 0, 1) := by decide +kernel
theorem dX10_byLaw_55 : decode cX10_byLaw 55 = .ok (.getfield 40, 3) := by decide +kernel
theorem dX10_byLaw_58 : decode cX10_byLaw 58 = .ok (.iload_n 2, 1) := by decide +kernel
theorem dX10_byLaw_59 : decode cX10_byLaw 59 = .ok (.aaload, 1) := by decide +kernel
theorem dX10_byLaw_60 : decode cX10_byLaw 60 = .ok (.iconst 1, 1) := by decide +kernel
theorem dX10_byLaw_61 : decode cX10_byLaw 61 = .ok (.iaload, 1) := by decide +kernel
theorem dX10_byLaw_62 : decode cX10_byLaw 62 = .ok (.goto 16, 3) := by decide +kernel
theorem dX10_byLaw_65 : decode cX10_byLaw 65 = .ok (.aload_n 0, 1) := by decide +kernel
theorem dX10_byLaw_66 : decode cX10_byLaw 66 = .ok (.getfield 55, 3) := by decide +kernel
theorem dX10_byLaw_69 : decode cX10_byLaw 69 = .ok (.aload_n 0, 1) := by decide +kernel
theorem dX10_byLaw_70 : decode cX10_byLaw 70 = .ok (.getfield 40, 3) := by decide +kernel
theorem dX10_byLaw_73 : decode cX10_byLaw 73 = .ok (.iload_n 2, 1) := by decide +kernel
theorem dX10_byLaw_74 : decode cX10_byLaw 74 = .ok (.aaload, 1) := by decide +kernel
theorem dX10_byLaw_75 : decode cX10_byLaw 75 = .ok (.iconst 1, 1) := by decide +kernel
theorem dX10_byLaw_76 : decode cX10_byLaw 76 = .ok (.iaload, 1) := by decide +kernel
theorem dX10_byLaw_77 : decode cX10_byLaw 77 = .ok (.iaload, 1) := by decide +kernel
theorem dX10_byLaw_78 : decode cX10_byLaw 78 = .ok (.iastore, 1) := by decide +kernel
theorem dX10_byLaw_79 : decode cX10_byLaw 79 = .ok (.iinc 1 1, 3) := by decide +kernel
theorem dX10_byLaw_82 : decode cX10_byLaw 82 = .ok (.goto 39, 3) := by decide +kernel
theorem dX10_byLaw_85 : decode cX10_byLaw 85 = .ok (.iinc 1 (-1), 3) := by decide +kernel
theorem dX10_byLaw_88 : decode cX10_byLaw 88 = .ok (.aload_n 0, 1) := by decide +kernel
theorem dX10_byLaw_89 : decode cX10_byLaw 89 = .ok (.getfield 52, 3) := by decide +kernel
theorem dX10_byLaw_92 : decode cX10_byLaw 92 = .ok (.iload_n 1, 1) := by decide +kernel
theorem dX10_byLaw_93 : decode cX10_byLaw 93 = .ok (.iconst 1, 1) := by decide +kernel
theorem dX10_byLaw_94 : decode cX10_byLaw 94 = .ok (.isub, 1) := by decide +kernel
theorem dX10_byLaw_95 : decode cX10_byLaw 95 = .ok (.aload_n 0, 1) := by decide +kernel
theorem dX10_byLaw_96 : decode cX10_byLaw 96 = .ok (.getfield 40, 3) := by decide +kernel
theorem dX10_byLaw_99 : decode cX10_byLaw 99 = .ok (.iload_n 2, 1) := by decide +kernel
theorem dX10_byLaw_100 : decode cX10_byLaw 100 = .ok (.aaload, 1) := by decide +kernel
theorem dX10_byLaw_101 : decode cX10_byLaw 101 = .ok (.iconst 0, 1) := by decide +kernel
theorem dX10_byLaw_102 : decode cX10_byLaw 102 = .ok (.iaload, 1) := by decide +kernel
theorem dX10_byLaw_103 : decode cX10_byLaw 103 = .ok (.aload_n 0, 1) := by decide +kernel
theorem dX10_byLaw_104 : decode cX10_byLaw 104 = .ok (.getfield 52, 3) := by decide +kernel
theorem dX10_byLaw_107 : decode cX10_byLaw 107 = .ok (.iload_n 1, 1) := by decide +kernel
theorem dX10_byLaw_108 : decode cX10_byLaw 108 = .ok (.iconst 1, 1) := by decide +kernel
theorem dX10_byLaw_109 : decode cX10_byLaw 109 = .ok (.isub, 1) := by decide +kernel
theorem dX10_byLaw_110 : decode cX10_byLaw 110 = .ok (.iaload, 1) := by decide +kernel
theorem dX10_byLaw_111 : decode cX10_byLaw 111 = .ok (.aload_n 0, 1) := by decide +kernel
theorem dX10_byLaw_112 : decode cX10_byLaw 112 = .ok (.getfield 52, 3) := by decide +kernel
theorem dX10_byLaw_115 : decode cX10_byLaw 115 = .ok (.iload_n 1, 1) := by decide +kernel
theorem dX10_byLaw_116 : decode cX10_byLaw 116 = .ok (.iaload, 1) := by decide +kernel
theorem dX10_byLaw_117 : decode cX10_byLaw 117 = .ok (.invokestatic 241, 3) := by decide +kernel
theorem dX10_byLaw_120 : decode cX10_byLaw 120 = .ok (.iastore, 1) := by decide +kernel
theorem dX10_byLaw_121 : decode cX10_byLaw 121 = .ok (.iinc 2 1, 3) := by decide +kernel
theorem dX10_byLaw_124 : decode cX10_byLaw 124 = .ok (.goto (-106), 3) := by decide +kernel
theorem dX10_byLaw_127 : decode cX10_byLaw 127 = .ok (.bipush 20, 2) := by decide +kernel
theorem dX10_byLaw_129 : decode cX10_byLaw 129 = .ok (.iconst 0, 1) := by decide +kernel
theorem dX10_byLaw_130 : decode cX10_byLaw 130 = .ok (.aload_n 0, 1) := by decide +kernel
theorem dX10_byLaw_131 : decode cX10_byLaw 131 = .ok (.getfield 52, 3) := by decide +kernel
theorem dX10_byLaw_134 : decode cX10_byLaw 134 = .ok (.iconst 0, 1) := by decide +kernel
theorem dX10_byLaw_135 : decode cX10_byLaw 135 = .ok (.iaload, 1) := by decide +kernel
theorem dX10_byLaw_136 : decode cX10_byLaw 136 = .ok (.invokestatic 238, 3) := by decide +kernel
theorem dX10_byLaw_139 : decode cX10_byLaw 139 = .ok (.invokestatic 235, 3) := by decide +kernel
theorem dX10_byLaw_142 : decode cX10_byLaw 142 = .ok (.ireturn, 1) := by decide +kernel
theorem dX10_stepHere_0 : decode cX10_stepHere 0 = .ok (.aload_n 0, 1) := by decide +kernel
theorem dX10_stepHere_1 : decode cX10_stepHere 1 = .ok (.bipush 23, 2) := by decide +kernel
theorem dX10_stepHere_3 : decode cX10_stepHere 3 = .ok (.iconst 5, 1) := by decide +kernel
theorem dX10_stepHere_4 : decode cX10_stepHere 4 = .ok (.bipush 9, 2) := by decide +kernel
theorem dX10_stepHere_6 : decode cX10_stepHere 6 = .ok (.bipush 7, 2) := by decide +kernel
theorem dX10_stepHere_8 : decode cX10_stepHere 8 = .ok (.bipush 8, 2) := by decide +kernel
theorem dX10_stepHere_10 : decode cX10_stepHere 10 = .ok (.iconst 0, 1) := by decide +kernel
theorem dX10_stepHere_11 : decode cX10_stepHere 11 = .ok (.invokevirtual 141, 3) := by decide +kernel
theorem dX10_stepHere_14 : decode cX10_stepHere 14 = .ok (.ifCond .eq 5, 3) := by decide +kernel
theorem dX10_stepHere_17 : decode cX10_stepHere 17 = .ok (.iconst 0, 1) := by decide +kernel
theorem dX10_stepHere_18 : decode cX10_stepHere 18 = .ok (.ireturn, 1) := by decide +kernel
theorem dX10_stepHere_19 : decode cX10_stepHere 19 = .ok (.aload_n 0, 1) := by decide +kernel
theorem dX10_stepHere_20 : decode cX10_stepHere 20 = .ok (.bipush 20, 2) := by decide +kernel
theorem dX10_stepHere_22 : decode cX10_stepHere 22 = .ok (.bipush 9, 2) := by decide +kernel
theorem dX10_stepHere_24 : decode cX10_stepHere 24 = .ok (.bipush 16, 2) := by decide +kernel
theorem dX10_stepHere_26 : decode cX10_stepHere 26 = .ok (.iconst 0, 1) := by decide +kernel
theorem dX10_stepHere_27 : decode cX10_stepHere 27 = .ok (.iconst 0, 1) := by decide +kernel
theorem dX10_stepHere_28 : decode cX10_stepHere 28 = .ok (.iconst 0, 1) := by decide +kernel
theorem dX10_stepHere_29 : decode cX10_stepHere 29 = .ok (.invokevirtual 141, 3) := by decide +kernel
theorem dX10_stepHere_32 : decode cX10_stepHere 32 = .ok (.ifCond .eq 5, 3) := by decide +kernel
theorem dX10_stepHere_35 : decode cX10_stepHere 35 = .ok (.iconst 1, 1) := by decide +kernel
theorem dX10_stepHere_36 : decode cX10_stepHere 36 = .ok (.ireturn, 1) := by decide +kernel
theorem dX10_stepHere_37 : decode cX10_stepHere 37 = .ok (.aload_n 0, 1) := by decide +kernel
theorem dX10_stepHere_38 : decode cX10_stepHere 38 = .ok (.bipush 6, 2) := by decide +kernel
theorem dX10_stepHere_40 : decode cX10_stepHere 40 = .ok (.iconst 5, 1) := by decide +kernel
theorem dX10_stepHere_41 : decode cX10_stepHere 41 = .ok (.iconst 5, 1) := by decide +kernel
theorem dX10_stepHere_42 : decode cX10_stepHere 42 = .ok (.iconst 4, 1) := by decide +kernel
theorem dX10_stepHere_43 : decode cX10_stepHere 43 = .ok (.iconst 0, 1) := by decide +kernel
theorem dX10_stepHere_44 : decode cX10_stepHere 44 = .ok (.iconst 0, 1) := by decide +kernel
theorem dX10_stepHere_45 : decode cX10_stepHere 45 = .ok (.invokevirtual 141, 3) := by decide +kernel
theorem dX10_stepHere_48 : decode cX10_stepHere 48 = .ok (.ifCond .eq 5, 3) := by decide +kernel
theorem dX10_stepHere_51 : decode cX10_stepHere 51 = .ok (.iconst 2, 1) := by decide +kernel
theorem dX10_stepHere_52 : decode cX10_stepHere 52 = .ok (.ireturn, 1) := by decide +kernel
theorem dX10_stepHere_53 : decode cX10_stepHere 53 = .ok (.aload_n 0, 1) := by decide +kernel
theorem dX10_stepHere_54 : decode cX10_stepHere 54 = .ok (.bipush 20, 2) := by decide +kernel
theorem dX10_stepHere_56 : decode cX10_stepHere 56 = .ok (.bipush 21, 2) := by decide +kernel
theorem dX10_stepHere_58 : decode cX10_stepHere 58 = .ok (.bipush 18, 2) := by decide +kernel
theorem dX10_stepHere_60 : decode cX10_stepHere 60 = .ok (.bipush 14, 2) := by decide +kernel
theorem dX10_stepHere_62 : decode cX10_stepHere 62 = .ok (.iconst 0, 1) := by decide +kernel
theorem dX10_stepHere_63 : decode cX10_stepHere 63 = .ok (.iconst 0, 1) := by decide +kernel
theorem dX10_stepHere_64 : decode cX10_stepHere 64 = .ok (.invokevirtual 141, 3) := by decide +kernel
theorem dX10_stepHere_67 : decode cX10_stepHere 67 = .ok (.ifCond .eq 5, 3) := by decide +kernel
theorem dX10_stepHere_70 : decode cX10_stepHere 70 = .ok (.iconst 3, 1) := by decide +kernel
theorem dX10_stepHere_71 : decode cX10_stepHere 71 = .ok (.ireturn, 1) := by decide +kernel
theorem dX10_stepHere_72 : decode cX10_stepHere 72 = .ok (.aload_n 0, 1) := by decide +kernel
theorem dX10_stepHere_73 : decode cX10_stepHere 73 = .ok (.iconst 4, 1) := by decide +kernel
theorem dX10_stepHere_74 : decode cX10_stepHere 74 = .ok (.iconst 1, 1) := by decide +kernel
theorem dX10_stepHere_75 : decode cX10_stepHere 75 = .ok (.bipush 25, 2) := by decide +kernel
theorem dX10_stepHere_77 : decode cX10_stepHere 77 = .ok (.iconst 0, 1) := by decide +kernel
theorem dX10_stepHere_78 : decode cX10_stepHere 78 = .ok (.iconst 0, 1) := by decide +kernel
theorem dX10_stepHere_79 : decode cX10_stepHere 79 = .ok (.iconst 0, 1) := by decide +kernel
theorem dX10_stepHere_80 : decode cX10_stepHere 80 = .ok (.invokevirtual 141, 3) := by decide +kernel
theorem dX10_stepHere_83 : decode cX10_stepHere 83 = .ok (.ifCond .eq 5, 3) := by decide +kernel
theorem dX10_stepHere_86 : decode cX10_stepHere 86 = .ok (.iconst 4, 1) := by decide +kernel
theorem dX10_stepHere_87 : decode cX10_stepHere 87 = .ok (.ireturn, 1) := by decide +kernel
theorem dX10_stepHere_88 : decode cX10_stepHere 88 = .ok (.aload_n 0, 1) := by decide +kernel
theorem dX10_stepHere_89 : decode cX10_stepHere 89 = .ok (.iconst 1, 1) := by decide +kernel
theorem dX10_stepHere_90 : decode cX10_stepHere 90 = .ok (.bipush 7, 2) := by decide +kernel
theorem dX10_stepHere_92 : decode cX10_stepHere 92 = .ok (.iconst 1, 1) := by decide +kernel
theorem dX10_stepHere_93 : decode cX10_stepHere 93 = .ok (.bipush 9, 2) := by decide +kernel
theorem dX10_stepHere_95 : decode cX10_stepHere 95 = .ok (.bipush 14, 2) := by decide +kernel
theorem dX10_stepHere_97 : decode cX10_stepHere 97 = .ok (.iconst 0, 1) := by decide +kernel
theorem dX10_stepHere_98 : decode cX10_stepHere 98 = .ok (.invokevirtual 141, 3) := by decide +kernel
theorem dX10_stepHere_101 : decode cX10_stepHere 101 = .ok (.ifCond .eq 7, 3) := by decide +kernel
theorem dX10_stepHere_104 : decode cX10_stepHere 104 = .ok (.iconst 5, 1) := by decide +kernel
theorem dX10_stepHere_105 : decode cX10_stepHere 105 = .ok (.goto 4, 3) := by decide +kernel
theorem dX10_stepHere_108 : decode cX10_stepHere 108 = .ok (.iconst (-1), 1) := by decide +kernel
theorem dX10_stepHere_109 : decode cX10_stepHere 109 = .ok (.ireturn, 1) := by decide +kernel
theorem dX10_readsStep_0 : decode cX10_readsStep 0 = .ok (.aload_n 0, 1) := by decide +kernel
theorem dX10_readsStep_1 : decode cX10_readsStep 1 = .ok (.invokevirtual 244, 3) := by decide +kernel
theorem dX10_readsStep_4 : decode cX10_readsStep 4 = .ok (.istore_n 1, 1) := by decide +kernel
theorem dX10_readsStep_5 : decode cX10_readsStep 5 = .ok (.iload_n 1, 1) := by decide +kernel
theorem dX10_readsStep_6 : decode cX10_readsStep 6 = .ok (.iconst (-1), 1) := by decide +kernel
theorem dX10_readsStep_7 : decode cX10_readsStep 7 = .ok (.if_icmp .ne 12, 3) := by decide +kernel
theorem dX10_readsStep_10 : decode cX10_readsStep 10 = .ok (.aload_n 0, 1) := by decide +kernel
theorem dX10_readsStep_11 : decode cX10_readsStep 11 = .ok (.iconst 1, 1) := by decide +kernel
theorem dX10_readsStep_12 : decode cX10_readsStep 12 = .ok (.aload_n 0, 1) := by decide +kernel
theorem dX10_readsStep_13 : decode cX10_readsStep 13 = .ok (.getfield 101, 3) := by decide +kernel
theorem dX10_readsStep_16 : decode cX10_readsStep 16 = .ok (.invokevirtual 121, 3) := by decide +kernel
theorem dX10_readsStep_19 : decode cX10_readsStep 19 = .ok (.iload_n 1, 1) := by decide +kernel
theorem dX10_readsStep_20 : decode cX10_readsStep 20 = .ok (.iconst 5, 1) := by decide +kernel
theorem dX10_readsStep_21 : decode cX10_readsStep 21 = .ok (.if_icmp .ne 11, 3) := by decide +kernel
theorem dX10_readsStep_24 : decode cX10_readsStep 24 = .ok (.aload_n 0, 1) := by decide +kernel
theorem dX10_readsStep_25 : decode cX10_readsStep 25 = .ok (.invokevirtual 225, 3) := by decide +kernel
theorem dX10_readsStep_28 : decode cX10_readsStep 28 = .ok (.ifCond .ne 4, 3) := by decide +kernel
theorem dX10_readsStep_31 : decode cX10_readsStep 31 = .ok (.return_, 1) := by decide +kernel
theorem dX10_readsStep_32 : decode cX10_readsStep 32 = .ok (.aload_n 0, 1) := by decide +kernel
theorem dX10_readsStep_33 : decode cX10_readsStep 33 = .ok (.getfield 108, 3) := by decide +kernel
theorem dX10_readsStep_36 : decode cX10_readsStep 36 = .ok (.ifCond .eq 4, 3) := by decide +kernel
theorem dX10_readsStep_39 : decode cX10_readsStep 39 = .ok (.return_, 1) := by decide +kernel
theorem dX10_readsStep_40 : decode cX10_readsStep 40 = .ok (.aload_n 0, 1) := by decide +kernel
theorem dX10_readsStep_41 : decode cX10_readsStep 41 = .ok (.invokevirtual 145, 3) := by decide +kernel
theorem dX10_readsStep_44 : decode cX10_readsStep 44 = .ok (.aload_n 0, 1) := by decide +kernel
theorem dX10_readsStep_45 : decode cX10_readsStep 45 = .ok (.getfield 58, 3) := by decide +kernel
theorem dX10_readsStep_48 : decode cX10_readsStep 48 = .ok (.aload_n 0, 1) := by decide +kernel
theorem dX10_readsStep_49 : decode cX10_readsStep 49 = .ok (.getfield 247, 3) := by decide +kernel
theorem dX10_readsStep_52 : decode cX10_readsStep 52 = .ok (.aaload, 1) := by decide +kernel
theorem dX10_readsStep_53 : decode cX10_readsStep 53 = .ok (.astore_n 2, 1) := by decide +kernel
theorem dX10_readsStep_54 : decode cX10_readsStep 54 = .ok (.aload_n 0, 1) := by decide +kernel
theorem dX10_readsStep_55 : decode cX10_readsStep 55 = .ok (.dup, 1) := by decide +kernel
theorem dX10_readsStep_56 : decode cX10_readsStep 56 = .ok (.getfield 247, 3) := by decide +kernel
theorem dX10_readsStep_59 : decode cX10_readsStep 59 = .ok (.iconst 1, 1) := by decide +kernel
theorem dX10_readsStep_60 : decode cX10_readsStep 60 = .ok (.iadd, 1) := by decide +kernel
theorem dX10_readsStep_61 : decode cX10_readsStep 61 = .ok (.putfield 247, 3) := by decide +kernel
theorem dX10_readsStep_64 : decode cX10_readsStep 64 = .ok (.aload_n 2, 1) := by decide +kernel
theorem dX10_readsStep_65 : decode cX10_readsStep 65 = .ok (.iconst 0, 1) := by decide +kernel
theorem dX10_readsStep_66 : decode cX10_readsStep 66 = .ok (.iload_n 1, 1) := by decide +kernel
theorem dX10_readsStep_67 : decode cX10_readsStep 67 = .ok (.iastore, 1) := by decide +kernel
theorem dX10_readsStep_68 : decode cX10_readsStep 68 = .ok (.iload_n 1, 1) := by decide +kernel
theorem dX10_readsStep_69 : decode cX10_readsStep 69 = .ok (.ifCond .eq 8, 3) := by decide +kernel
theorem dX10_readsStep_72 : decode cX10_readsStep 72 = .ok (.iload_n 1, 1) := by decide +kernel
theorem dX10_readsStep_73 : decode cX10_readsStep 73 = .ok (.iconst 2, 1) := by decide +kernel
theorem dX10_readsStep_74 : decode cX10_readsStep 74 = .ok (.if_icmp .ne 38, 3) := by decide +kernel
theorem dX10_readsStep_77 : decode cX10_readsStep 77 = .ok (.aload_n 2, 1) := by decide +kernel
theorem dX10_readsStep_78 : decode cX10_readsStep 78 = .ok (.iconst 1, 1) := by decide +kernel
theorem dX10_readsStep_79 : decode cX10_readsStep 79 = .ok (.aload_n 0, 1) := by decide +kernel
theorem dX10_readsStep_80 : decode cX10_readsStep 80 = .ok (.iconst 0, 1) := by decide +kernel
theorem dX10_readsStep_81 : decode cX10_readsStep 81 = .ok (.aload_n 0, 1) := by decide +kernel
theorem dX10_readsStep_82 : decode cX10_readsStep 82 = .ok (.getfield 23, 3) := by decide +kernel
theorem dX10_readsStep_85 : decode cX10_readsStep 85 = .ok (.iconst 0, 1) := by decide +kernel
theorem dX10_readsStep_86 : decode cX10_readsStep 86 = .ok (.iaload, 1) := by decide +kernel
theorem dX10_readsStep_87 : decode cX10_readsStep 87 = .ok (.iconst 1, 1) := by decide +kernel
theorem dX10_readsStep_88 : decode cX10_readsStep 88 = .ok (.isub, 1) := by decide +kernel
theorem dX10_readsStep_89 : decode cX10_readsStep 89 = .ok (.invokevirtual 154, 3) := by decide +kernel
theorem dX10_readsStep_92 : decode cX10_readsStep 92 = .ok (.iastore, 1) := by decide +kernel
theorem dX10_readsStep_93 : decode cX10_readsStep 93 = .ok (.aload_n 2, 1) := by decide +kernel
theorem dX10_readsStep_94 : decode cX10_readsStep 94 = .ok (.iconst 2, 1) := by decide +kernel
theorem dX10_readsStep_95 : decode cX10_readsStep 95 = .ok (.aload_n 0, 1) := by decide +kernel
theorem dX10_readsStep_96 : decode cX10_readsStep 96 = .ok (.iconst 1, 1) := by decide +kernel
theorem dX10_readsStep_97 : decode cX10_readsStep 97 = .ok (.iload_n 1, 1) := by decide +kernel
theorem dX10_readsStep_98 : decode cX10_readsStep 98 = .ok (.ifCond .ne 8, 3) := by decide +kernel
theorem dX10_readsStep_101 : decode cX10_readsStep 101 = .ok (.bipush 9, 2) := by decide +kernel
theorem dX10_readsStep_103 : decode cX10_readsStep 103 = .ok (.goto 5, 3) := by decide +kernel
theorem dX10_readsStep_106 : decode cX10_readsStep 106 = .ok (.bipush 30, 2) := by decide +kernel
theorem dX10_readsStep_108 : decode cX10_readsStep 108 = .ok (.invokevirtual 154, 3) := by decide +kernel
theorem dX10_readsStep_111 : decode cX10_readsStep 111 = .ok (.iastore, 1) := by decide +kernel
theorem dX10_readsStep_112 : decode cX10_readsStep 112 = .ok (.iload_n 1, 1) := by decide +kernel
theorem dX10_readsStep_113 : decode cX10_readsStep 113 = .ok (.ifCond .ne 29, 3) := by decide +kernel
theorem dX10_readsStep_116 : decode cX10_readsStep 116 = .ok (.aload_n 2, 1) := by decide +kernel
theorem dX10_readsStep_117 : decode cX10_readsStep 117 = .ok (.iconst 3, 1) := by decide +kernel
theorem dX10_readsStep_118 : decode cX10_readsStep 118 = .ok (.aload_n 0, 1) := by decide +kernel
theorem dX10_readsStep_119 : decode cX10_readsStep 119 = .ok (.aload_n 2, 1) := by decide +kernel
theorem dX10_readsStep_120 : decode cX10_readsStep 120 = .ok (.iconst 1, 1) := by decide +kernel
theorem dX10_readsStep_121 : decode cX10_readsStep 121 = .ok (.iaload, 1) := by decide +kernel
theorem dX10_readsStep_122 : decode cX10_readsStep 122 = .ok (.aload_n 0, 1) := by decide +kernel
theorem dX10_readsStep_123 : decode cX10_readsStep 123 = .ok (.getfield 23, 3) := by decide +kernel
theorem dX10_readsStep_126 : decode cX10_readsStep 126 = .ok (.iconst 0, 1) := by decide +kernel
theorem dX10_readsStep_127 : decode cX10_readsStep 127 = .ok (.iaload, 1) := by decide +kernel
theorem dX10_readsStep_128 : decode cX10_readsStep 128 = .ok (.invokevirtual 164, 3) := by decide +kernel
theorem dX10_readsStep_131 : decode cX10_readsStep 131 = .ok (.iastore, 1) := by decide +kernel
theorem dX10_readsStep_132 : decode cX10_readsStep 132 = .ok (.aload_n 2, 1) := by decide +kernel
theorem dX10_readsStep_133 : decode cX10_readsStep 133 = .ok (.iconst 4, 1) := by decide +kernel
theorem dX10_readsStep_134 : decode cX10_readsStep 134 = .ok (.aload_n 0, 1) := by decide +kernel
theorem dX10_readsStep_135 : decode cX10_readsStep 135 = .ok (.iconst 1, 1) := by decide +kernel
theorem dX10_readsStep_136 : decode cX10_readsStep 136 = .ok (.bipush 9, 2) := by decide +kernel
theorem dX10_readsStep_138 : decode cX10_readsStep 138 = .ok (.invokevirtual 154, 3) := by decide +kernel
theorem dX10_readsStep_141 : decode cX10_readsStep 141 = .ok (.iastore, 1) := by decide +kernel
theorem dX10_readsStep_142 : decode cX10_readsStep 142 = .ok (.iload_n 1, 1) := by decide +kernel
theorem dX10_readsStep_143 : decode cX10_readsStep 143 = .ok (.iconst 1, 1) := by decide +kernel
theorem dX10_readsStep_144 : decode cX10_readsStep 144 = .ok (.if_icmp .ne 13, 3) := by decide +kernel
theorem dX10_readsStep_147 : decode cX10_readsStep 147 = .ok (.aload_n 2, 1) := by decide +kernel
theorem dX10_readsStep_148 : decode cX10_readsStep 148 = .ok (.iconst 1, 1) := by decide +kernel
theorem dX10_readsStep_149 : decode cX10_readsStep 149 = .ok (.aload_n 0, 1) := by decide +kernel
theorem dX10_readsStep_150 : decode cX10_readsStep 150 = .ok (.iconst 0, 1) := by decide +kernel
theorem dX10_readsStep_151 : decode cX10_readsStep 151 = .ok (.bipush 9, 2) := by decide +kernel
theorem dX10_readsStep_153 : decode cX10_readsStep 153 = .ok (.invokevirtual 154, 3) := by decide +kernel
theorem dX10_readsStep_156 : decode cX10_readsStep 156 = .ok (.iastore, 1) := by decide +kernel
theorem dX10_readsStep_157 : decode cX10_readsStep 157 = .ok (.iload_n 1, 1) := by decide +kernel
theorem dX10_readsStep_158 : decode cX10_readsStep 158 = .ok (.iconst 5, 1) := by decide +kernel
theorem dX10_readsStep_159 : decode cX10_readsStep 159 = .ok (.if_icmp .ne 70, 3) := by decide +kernel
theorem dX10_readsStep_162 : decode cX10_readsStep 162 = .ok (.aload_n 2, 1) := by decide +kernel
theorem dX10_readsStep_163 : decode cX10_readsStep 163 = .ok (.iconst 1, 1) := by decide +kernel
theorem dX10_readsStep_164 : decode cX10_readsStep 164 = .ok (.aload_n 0, 1) := by decide +kernel
theorem dX10_readsStep_165 : decode cX10_readsStep 165 = .ok (.iconst 0, 1) := by decide +kernel
theorem dX10_readsStep_166 : decode cX10_readsStep 166 = .ok (.bipush 60, 2) := by decide +kernel
theorem dX10_readsStep_168 : decode cX10_readsStep 168 = .ok (.invokevirtual 154, 3) := by decide +kernel
theorem dX10_readsStep_171 : decode cX10_readsStep 171 = .ok (.iastore, 1) := by decide +kernel
theorem dX10_readsStep_172 : decode cX10_readsStep 172 = .ok (.aload_n 0, 1) := by decide +kernel
theorem dX10_readsStep_173 : decode cX10_readsStep 173 = .ok (.bipush 91, 2) := by decide +kernel
theorem dX10_readsStep_175 : decode cX10_readsStep 175 = .ok (.invokevirtual 167, 3) := by decide +kernel
theorem dX10_readsStep_178 : decode cX10_readsStep 178 = .ok (.aload_n 0, 1) := by decide +kernel
theorem dX10_readsStep_179 : decode cX10_readsStep 179 = .ok (.invokevirtual 114, 3) := by decide +kernel
theorem dX10_readsStep_182 : decode cX10_readsStep 182 = .ok (.aload_n 0, 1) := by decide +kernel
theorem dX10_readsStep_183 : decode cX10_readsStep 183 = .ok (.getfield 108, 3) := by decide +kernel
theorem dX10_readsStep_186 : decode cX10_readsStep 186 = .ok (.ifCond .ne 27, 3) := by decide +kernel
theorem dX10_readsStep_189 : decode cX10_readsStep 189 = .ok (.aload_n 0, 1) := by decide +kernel
theorem dX10_readsStep_190 : decode cX10_readsStep 190 = .ok (.aload_n 0, 1) := by decide +kernel
theorem dX10_readsStep_191 : decode cX10_readsStep 191 = .ok (.getfield 101, 3) := by decide +kernel
theorem dX10_readsStep_194 : decode cX10_readsStep 194 = .ok (.invokevirtual 104, 3) := by decide +kernel
theorem dX10_readsStep_197 : decode cX10_readsStep 197 = .ok (.bipush 93, 2) := by decide +kernel
theorem dX10_readsStep_199 : decode cX10_readsStep 199 = .ok (.if_icmp .eq 14, 3) := by decide +kernel
theorem dX10_readsStep_202 : decode cX10_readsStep 202 = .ok (.aload_n 0, 1) := by decide +kernel
theorem dX10_readsStep_203 : decode cX10_readsStep 203 = .ok (.invokevirtual 250, 3) := by decide +kernel
theorem dX10_readsStep_206 : decode cX10_readsStep 206 = .ok (.aload_n 0, 1) := by decide +kernel
theorem dX10_readsStep_207 : decode cX10_readsStep 207 = .ok (.invokevirtual 114, 3) := by decide +kernel
theorem dX10_readsStep_210 : decode cX10_readsStep 210 = .ok (.goto (-28), 3) := by decide +kernel
theorem dX10_readsStep_213 : decode cX10_readsStep 213 = .ok (.aload_n 0, 1) := by decide +kernel
theorem dX10_readsStep_214 : decode cX10_readsStep 214 = .ok (.bipush 93, 2) := by decide +kernel
theorem dX10_readsStep_216 : decode cX10_readsStep 216 = .ok (.invokevirtual 167, 3) := by decide +kernel
theorem dX10_readsStep_219 : decode cX10_readsStep 219 = .ok (.aload_n 0, 1) := by decide +kernel
theorem dX10_readsStep_220 : decode cX10_readsStep 220 = .ok (.dup, 1) := by decide +kernel
theorem dX10_readsStep_221 : decode cX10_readsStep 221 = .ok (.getfield 151, 3) := by decide +kernel
theorem dX10_readsStep_224 : decode cX10_readsStep 224 = .ok (.iconst 1, 1) := by decide +kernel
theorem dX10_readsStep_225 : decode cX10_readsStep 225 = .ok (.isub, 1) := by decide +kernel
theorem dX10_readsStep_226 : decode cX10_readsStep 226 = .ok (.putfield 151, 3) := by decide +kernel
theorem dX10_readsStep_229 : decode cX10_readsStep 229 = .ok (.aload_n 2, 1) := by decide +kernel
theorem dX10_readsStep_230 : decode cX10_readsStep 230 = .ok (.iconst 5, 1) := by decide +kernel
theorem dX10_readsStep_231 : decode cX10_readsStep 231 = .ok (.aload_n 0, 1) := by decide +kernel
theorem dX10_readsStep_232 : decode cX10_readsStep 232 = .ok (.getfield 247, 3) := by decide +kernel
theorem dX10_readsStep_235 : decode cX10_readsStep 235 = .ok (.iastore, 1) := by decide +kernel
theorem dX10_readsStep_236 : decode cX10_readsStep 236 = .ok (.aload_n 0, 1) := by decide +kernel
theorem dX10_readsStep_237 : decode cX10_readsStep 237 = .ok (.bipush 59, 2) := by decide +kernel
theorem dX10_readsStep_239 : decode cX10_readsStep 239 = .ok (.invokevirtual 167, 3) := by decide +kernel
theorem dX10_readsStep_242 : decode cX10_readsStep 242 = .ok (.return_, 1) := by decide +kernel
theorem dX10_book_0 : decode cX10_book 0 = .ok (.aload_n 0, 1) := by decide +kernel
theorem dX10_book_1 : decode cX10_book 1 = .ok (.iconst 0, 1) := by decide +kernel
theorem dX10_book_2 : decode cX10_book 2 = .ok (.putfield 92, 3) := by decide +kernel
theorem dX10_book_5 : decode cX10_book 5 = .ok (.aload_n 0, 1) := by decide +kernel
theorem dX10_book_6 : decode cX10_book 6 = .ok (.iload_n 1, 1) := by decide +kernel
theorem dX10_book_7 : decode cX10_book 7 = .ok (.iconst 0, 1) := by decide +kernel
theorem dX10_book_8 : decode cX10_book 8 = .ok (.aload_n 0, 1) := by decide +kernel
theorem dX10_book_9 : decode cX10_book 9 = .ok (.getfield 95, 3) := by decide +kernel
theorem dX10_book_12 : decode cX10_book 12 = .ok (.invokestatic 126, 3) := by decide +kernel
theorem dX10_book_15 : decode cX10_book 15 = .ok (.ifCond .eq 9, 3) := by decide +kernel
theorem dX10_book_18 : decode cX10_book 18 = .ok (.iload_n 1, 1) := by decide +kernel
theorem dX10_book_19 : decode cX10_book 19 = .ok (.bipush 60, 2) := by decide +kernel
theorem dX10_book_21 : decode cX10_book 21 = .ok (.if_icmp .le 7, 3) := by decide +kernel
theorem dX10_book_24 : decode cX10_book 24 = .ok (.iconst 1, 1) := by decide +kernel
theorem dX10_book_25 : decode cX10_book 25 = .ok (.goto 4, 3) := by decide +kernel
theorem dX10_book_28 : decode cX10_book 28 = .ok (.iconst 0, 1) := by decide +kernel
theorem dX10_book_29 : decode cX10_book 29 = .ok (.iconst 1, 1) := by decide +kernel
theorem dX10_book_30 : decode cX10_book 30 = .ok (.iconst 1, 1) := by decide +kernel
theorem dX10_book_31 : decode cX10_book 31 = .ok (.invokevirtual 171, 3) := by decide +kernel
theorem dX10_book_34 : decode cX10_book 34 = .ok (.ifCond .eq 5, 3) := by decide +kernel
theorem dX10_book_37 : decode cX10_book 37 = .ok (.iconst 0, 1) := by decide +kernel
theorem dX10_book_38 : decode cX10_book 38 = .ok (.ireturn, 1) := by decide +kernel
theorem dX10_book_39 : decode cX10_book 39 = .ok (.aload_n 0, 1) := by decide +kernel
theorem dX10_book_40 : decode cX10_book 40 = .ok (.iload_n 1, 1) := by decide +kernel
theorem dX10_book_41 : decode cX10_book 41 = .ok (.invokevirtual 175, 3) := by decide +kernel
theorem dX10_book_44 : decode cX10_book 44 = .ok (.iconst 0, 1) := by decide +kernel
theorem dX10_book_45 : decode cX10_book 45 = .ok (.istore_n 2, 1) := by decide +kernel
theorem dX10_book_46 : decode cX10_book 46 = .ok (.aload_n 0, 1) := by decide +kernel
theorem dX10_book_47 : decode cX10_book 47 = .ok (.getfield 108, 3) := by decide +kernel
theorem dX10_book_50 : decode cX10_book 50 = .ok (.ifCond .ne 128, 3) := by decide +kernel
theorem dX10_book_53 : decode cX10_book 53 = .ok (.aload_n 0, 1) := by decide +kernel
theorem dX10_book_54 : decode cX10_book 54 = .ok (.getfield 101, 3) := by decide +kernel
theorem dX10_book_57 : decode cX10_book 57 = .ok (.aload_n 0, 1) := by decide +kernel
theorem dX10_book_58 : decode cX10_book 58 = .ok (.getfield 98, 3) := by decide +kernel
theorem dX10_book_61 : decode cX10_book 61 = .ok (.if_icmp .ge 117, 3) := by decide +kernel
theorem dX10_book_64 : decode cX10_book 64 = .ok (.aload_n 0, 1) := by decide +kernel
theorem dX10_book_65 : decode cX10_book 65 = .ok (.getfield 101, 3) := by decide +kernel
theorem dX10_book_68 : decode cX10_book 68 = .ok (.istore_n 3, 1) := by decide +kernel
theorem dX10_book_69 : decode cX10_book 69 = .ok (.aload_n 0, 1) := by decide +kernel
theorem dX10_book_70 : decode cX10_book 70 = .ok (.iconst 0, 1) := by decide +kernel
theorem dX10_book_71 : decode cX10_book 71 = .ok (.aload_n 0, 1) := by decide +kernel
theorem dX10_book_72 : decode cX10_book 72 = .ok (.getfield 23, 3) := by decide +kernel
theorem dX10_book_75 : decode cX10_book 75 = .ok (.iconst 0, 1) := by decide +kernel
theorem dX10_book_76 : decode cX10_book 76 = .ok (.iaload, 1) := by decide +kernel
theorem dX10_book_77 : decode cX10_book 77 = .ok (.iconst 1, 1) := by decide +kernel
theorem dX10_book_78 : decode cX10_book 78 = .ok (.isub, 1) := by decide +kernel
theorem dX10_book_79 : decode cX10_book 79 = .ok (.invokevirtual 154, 3) := by decide +kernel
theorem dX10_book_82 : decode cX10_book 82 = .ok (.istore 4, 2) := by decide +kernel
theorem dX10_book_84 : decode cX10_book 84 = .ok (.aload_n 0, 1) := by decide +kernel
theorem dX10_book_85 : decode cX10_book 85 = .ok (.getfield 108, 3) := by decide +kernel
theorem dX10_book_88 : decode cX10_book 88 = .ok (.ifCond .ne 15, 3) := by decide +kernel
theorem dX10_book_91 : decode cX10_book 91 = .ok (.iload_n 2, 1) := by decide +kernel
theorem dX10_book_92 : decode cX10_book 92 = .ok (.bipush 6, 2) := by decide +kernel
theorem dX10_book_94 : decode cX10_book 94 = .ok (.if_icmp .ne 9, 3) := by decide +kernel
theorem dX10_book_97 : decode cX10_book 97 = .ok (.aload_n 0, 1) := by decide +kernel
theorem dX10_book_98 : decode cX10_book 98 = .ok (.iconst 3, 1) := by decide +kernel
theorem dX10_book_99 : decode cX10_book 99 = .ok (.iload_n 3, 1) := by decide +kernel
theorem dX10_book_100 : decode cX10_book 100 = .ok (.invokevirtual 121, 3) := by decide +kernel
theorem dX10_book_103 : decode cX10_book 103 = .ok (.aload_n 0, 1) := by decide +kernel
theorem dX10_book_104 : decode cX10_book 104 = .ok (.iload 4, 2) := by decide +kernel
theorem dX10_book_106 : decode cX10_book 106 = .ok (.aload_n 0, 1) := by decide +kernel
theorem dX10_book_107 : decode cX10_book 107 = .ok (.getfield 23, 3) := by decide +kernel
theorem dX10_book_110 : decode cX10_book 110 = .ok (.iconst 0, 1) := by decide +kernel
theorem dX10_book_111 : decode cX10_book 111 = .ok (.iaload, 1) := by decide +kernel
theorem dX10_book_112 : decode cX10_book 112 = .ok (.invokevirtual 164, 3) := by decide +kernel
theorem dX10_book_115 : decode cX10_book 115 = .ok (.istore 5, 2) := by decide +kernel
theorem dX10_book_117 : decode cX10_book 117 = .ok (.aload_n 0, 1) := by decide +kernel
theorem dX10_book_118 : decode cX10_book 118 = .ok (.iconst 0, 1) := by decide +kernel
theorem dX10_book_119 : decode cX10_book 119 = .ok (.iconst 2, 1) := by decide +kernel
theorem dX10_book_120 : decode cX10_book 120 = .ok (.invokevirtual 154, 3) := by decide +kernel
theorem dX10_book_123 : decode cX10_book 123 = .ok (.istore 6, 2) := by decide +kernel
theorem dX10_book_125 : decode cX10_book 125 = .ok (.aload_n 0, 1) := by decide +kernel
theorem dX10_book_126 : decode cX10_book 126 = .ok (.bipush 59, 2) := by decide +kernel
theorem dX10_book_128 : decode cX10_book 128 = .ok (.invokevirtual 167, 3) := by decide +kernel
theorem dX10_book_131 : decode cX10_book 131 = .ok (.aload_n 0, 1) := by decide +kernel
theorem dX10_book_132 : decode cX10_book 132 = .ok (.getfield 108, 3) := by decide +kernel
theorem dX10_book_135 : decode cX10_book 135 = .ok (.ifCond .ne 36, 3) := by decide +kernel
theorem dX10_book_138 : decode cX10_book 138 = .ok (.aload_n 0, 1) := by decide +kernel
theorem dX10_book_139 : decode cX10_book 139 = .ok (.getfield 49, 3) := by decide +kernel
theorem dX10_book_142 : decode cX10_book 142 = .ok (.iload_n 2, 1) := by decide +kernel
theorem dX10_book_143 : decode cX10_book 143 = .ok (.aaload, 1) := by decide +kernel
theorem dX10_book_144 : decode cX10_book 144 = .ok (.iconst 0, 1) := by decide +kernel
theorem dX10_book_145 : decode cX10_book 145 = .ok (.iload 4, 2) := by decide +kernel
theorem dX10_book_147 : decode cX10_book 147 = .ok (.iastore, 1) := by decide +kernel
theorem dX10_book_148 : decode cX10_book 148 = .ok (.aload_n 0, 1) := by decide +kernel
theorem dX10_book_149 : decode cX10_book 149 = .ok (.getfield 49, 3) := by decide +kernel
theorem dX10_book_152 : decode cX10_book 152 = .ok (.iload_n 2, 1) := by decide +kernel
theorem dX10_book_153 : decode cX10_book 153 = .ok (.aaload, 1) := by decide +kernel
theorem dX10_book_154 : decode cX10_book 154 = .ok (.iconst 1, 1) := by decide +kernel
theorem dX10_book_155 : decode cX10_book 155 = .ok (.iload 5, 2) := by decide +kernel
theorem dX10_book_157 : decode cX10_book 157 = .ok (.iastore, 1) := by decide +kernel
theorem dX10_book_158 : decode cX10_book 158 = .ok (.aload_n 0, 1) := by decide +kernel
theorem dX10_book_159 : decode cX10_book 159 = .ok (.getfield 49, 3) := by decide +kernel
theorem dX10_book_162 : decode cX10_book 162 = .ok (.iload_n 2, 1) := by decide +kernel
theorem dX10_book_163 : decode cX10_book 163 = .ok (.aaload, 1) := by decide +kernel
theorem dX10_book_164 : decode cX10_book 164 = .ok (.iconst 2, 1) := by decide +kernel
theorem dX10_book_165 : decode cX10_book 165 = .ok (.iload 6, 2) := by decide +kernel
theorem dX10_book_167 : decode cX10_book 167 = .ok (.iastore, 1) := by decide +kernel
theorem dX10_book_168 : decode cX10_book 168 = .ok (.iinc 2 1, 3) := by decide +kernel
theorem dX10_book_171 : decode cX10_book 171 = .ok (.aload_n 0, 1) := by decide +kernel
theorem dX10_book_172 : decode cX10_book 172 = .ok (.invokevirtual 114, 3) := by decide +kernel
theorem dX10_book_175 : decode cX10_book 175 = .ok (.goto (-129), 3) := by decide +kernel
theorem dX10_book_178 : decode cX10_book 178 = .ok (.aload_n 0, 1) := by decide +kernel
theorem dX10_book_179 : decode cX10_book 179 = .ok (.getfield 108, 3) := by decide +kernel
theorem dX10_book_182 : decode cX10_book 182 = .ok (.ifCond .eq 8, 3) := by decide +kernel
theorem dX10_book_185 : decode cX10_book 185 = .ok (.aload_n 0, 1) := by decide +kernel
theorem dX10_book_186 : decode cX10_book 186 = .ok (.invokevirtual 181, 3) := by decide +kernel
theorem dX10_book_189 : decode cX10_book 189 = .ok (.ireturn, 1) := by decide +kernel
theorem dX10_book_190 : decode cX10_book 190 = .ok (.aload_n 0, 1) := by decide +kernel
theorem dX10_book_191 : decode cX10_book 191 = .ok (.iconst (-1), 1) := by decide +kernel
theorem dX10_book_192 : decode cX10_book 192 = .ok (.putfield 9, 3) := by decide +kernel
theorem dX10_book_195 : decode cX10_book 195 = .ok (.aload_n 0, 1) := by decide +kernel
theorem dX10_book_196 : decode cX10_book 196 = .ok (.iload_n 2, 1) := by decide +kernel
theorem dX10_book_197 : decode cX10_book 197 = .ok (.putfield 191, 3) := by decide +kernel
theorem dX10_book_200 : decode cX10_book 200 = .ok (.aload_n 0, 1) := by decide +kernel
theorem dX10_book_201 : decode cX10_book 201 = .ok (.getfield 49, 3) := by decide +kernel
theorem dX10_book_204 : decode cX10_book 204 = .ok (.aload_n 0, 1) := by decide +kernel
theorem dX10_book_205 : decode cX10_book 205 = .ok (.getfield 46, 3) := by decide +kernel
theorem dX10_book_208 : decode cX10_book 208 = .ok (.iload_n 2, 1) := by decide +kernel
theorem dX10_book_209 : decode cX10_book 209 = .ok (.invokestatic 184, 3) := by decide +kernel
theorem dX10_book_212 : decode cX10_book 212 = .ok (.iload_n 2, 1) := by decide +kernel
theorem dX10_book_213 : decode cX10_book 213 = .ok (.ireturn, 1) := by decide +kernel
theorem dX10_fault_0 : decode cX10_fault 0 = .ok (.aload_n 0, 1) := by decide +kernel
theorem dX10_fault_1 : decode cX10_fault 1 = .ok (.iconst 0, 1) := by decide +kernel
theorem dX10_fault_2 : decode cX10_fault 2 = .ok (.putfield 92, 3) := by decide +kernel
theorem dX10_fault_5 : decode cX10_fault 5 = .ok (.aload_n 0, 1) := by decide +kernel
theorem dX10_fault_6 : decode cX10_fault 6 = .ok (.getfield 9, 3) := by decide +kernel
theorem dX10_fault_9 : decode cX10_fault 9 = .ok (.ireturn, 1) := by decide +kernel
theorem dX10_wearBy_0 : decode cX10_wearBy 0 = .ok (.aload_n 0, 1) := by decide +kernel
theorem dX10_wearBy_1 : decode cX10_wearBy 1 = .ok (.getfield 55, 3) := by decide +kernel
theorem dX10_wearBy_4 : decode cX10_wearBy 4 = .ok (.iconst 0, 1) := by decide +kernel
theorem dX10_wearBy_5 : decode cX10_wearBy 5 = .ok (.iload_n 1, 1) := by decide +kernel
theorem dX10_wearBy_6 : decode cX10_wearBy 6 = .ok (.iastore, 1) := by decide +kernel
theorem dX10_wearBy_7 : decode cX10_wearBy 7 = .ok (.aload_n 0, 1) := by decide +kernel
theorem dX10_wearBy_8 : decode cX10_wearBy 8 = .ok (.getfield 55, 3) := by decide +kernel
theorem dX10_wearBy_11 : decode cX10_wearBy 11 = .ok (.iconst 1, 1) := by decide +kernel
theorem dX10_wearBy_12 : decode cX10_wearBy 12 = .ok (.iload_n 2, 1) := by decide +kernel
theorem dX10_wearBy_13 : decode cX10_wearBy 13 = .ok (.iastore, 1) := by decide +kernel
theorem dX10_wearBy_14 : decode cX10_wearBy 14 = .ok (.aload_n 0, 1) := by decide +kernel
theorem dX10_wearBy_15 : decode cX10_wearBy 15 = .ok (.getfield 55, 3) := by decide +kernel
theorem dX10_wearBy_18 : decode cX10_wearBy 18 = .ok (.iconst 2, 1) := by decide +kernel
theorem dX10_wearBy_19 : decode cX10_wearBy 19 = .ok (.iload_n 3, 1) := by decide +kernel
theorem dX10_wearBy_20 : decode cX10_wearBy 20 = .ok (.iastore, 1) := by decide +kernel
theorem dX10_wearBy_21 : decode cX10_wearBy 21 = .ok (.aload_n 0, 1) := by decide +kernel
theorem dX10_wearBy_22 : decode cX10_wearBy 22 = .ok (.getfield 55, 3) := by decide +kernel
theorem dX10_wearBy_25 : decode cX10_wearBy 25 = .ok (.iconst 3, 1) := by decide +kernel
theorem dX10_wearBy_26 : decode cX10_wearBy 26 = .ok (.iload 4, 2) := by decide +kernel
theorem dX10_wearBy_28 : decode cX10_wearBy 28 = .ok (.iastore, 1) := by decide +kernel
theorem dX10_wearBy_29 : decode cX10_wearBy 29 = .ok (.aload_n 0, 1) := by decide +kernel
theorem dX10_wearBy_30 : decode cX10_wearBy 30 = .ok (.getfield 55, 3) := by decide +kernel
theorem dX10_wearBy_33 : decode cX10_wearBy 33 = .ok (.iconst 4, 1) := by decide +kernel
theorem dX10_wearBy_34 : decode cX10_wearBy 34 = .ok (.iload 5, 2) := by decide +kernel
theorem dX10_wearBy_36 : decode cX10_wearBy 36 = .ok (.iastore, 1) := by decide +kernel
theorem dX10_wearBy_37 : decode cX10_wearBy 37 = .ok (.aload_n 0, 1) := by decide +kernel
theorem dX10_wearBy_38 : decode cX10_wearBy 38 = .ok (.getfield 55, 3) := by decide +kernel
theorem dX10_wearBy_41 : decode cX10_wearBy 41 = .ok (.iconst 5, 1) := by decide +kernel
theorem dX10_wearBy_42 : decode cX10_wearBy 42 = .ok (.iload 6, 2) := by decide +kernel
theorem dX10_wearBy_44 : decode cX10_wearBy 44 = .ok (.iastore, 1) := by decide +kernel
theorem dX10_wearBy_45 : decode cX10_wearBy 45 = .ok (.aload_n 0, 1) := by decide +kernel
theorem dX10_wearBy_46 : decode cX10_wearBy 46 = .ok (.getfield 55, 3) := by decide +kernel
theorem dX10_wearBy_49 : decode cX10_wearBy 49 = .ok (.bipush 6, 2) := by decide +kernel
theorem dX10_wearBy_51 : decode cX10_wearBy 51 = .ok (.iload 7, 2) := by decide +kernel
theorem dX10_wearBy_53 : decode cX10_wearBy 53 = .ok (.iastore, 1) := by decide +kernel
theorem dX10_wearBy_54 : decode cX10_wearBy 54 = .ok (.aload_n 0, 1) := by decide +kernel
theorem dX10_wearBy_55 : decode cX10_wearBy 55 = .ok (.invokevirtual 253, 3) := by decide +kernel
theorem dX10_wearBy_58 : decode cX10_wearBy 58 = .ok (.ireturn, 1) := by decide +kernel
theorem dX10_ones_0 : decode cX10_ones 0 = .ok (.iconst 0, 1) := by decide +kernel
theorem dX10_ones_1 : decode cX10_ones 1 = .ok (.istore_n 1, 1) := by decide +kernel
theorem dX10_ones_2 : decode cX10_ones 2 = .ok (.iconst 0, 1) := by decide +kernel
theorem dX10_ones_3 : decode cX10_ones 3 = .ok (.istore_n 2, 1) := by decide +kernel
theorem dX10_ones_4 : decode cX10_ones 4 = .ok (.iload_n 2, 1) := by decide +kernel
theorem dX10_ones_5 : decode cX10_ones 5 = .ok (.bipush 10, 2) := by decide +kernel
theorem dX10_ones_7 : decode cX10_ones 7 = .ok (.if_icmp .ge 17, 3) := by decide +kernel
theorem dX10_ones_10 : decode cX10_ones 10 = .ok (.iload_n 1, 1) := by decide +kernel
theorem dX10_ones_11 : decode cX10_ones 11 = .ok (.iload_n 0, 1) := by decide +kernel
theorem dX10_ones_12 : decode cX10_ones 12 = .ok (.iload_n 2, 1) := by decide +kernel
theorem dX10_ones_13 : decode cX10_ones 13 = .ok (.ishr, 1) := by decide +kernel
theorem dX10_ones_14 : decode cX10_ones 14 = .ok (.iconst 1, 1) := by decide +kernel
theorem dX10_ones_15 : decode cX10_ones 15 = .ok (.iand, 1) := by decide +kernel
theorem dX10_ones_16 : decode cX10_ones 16 = .ok (.iadd, 1) := by decide +kernel
theorem dX10_ones_17 : decode cX10_ones 17 = .ok (.istore_n 1, 1) := by decide +kernel
theorem dX10_ones_18 : decode cX10_ones 18 = .ok (.iinc 2 1, 3) := by decide +kernel
theorem dX10_ones_21 : decode cX10_ones 21 = .ok (.goto (-17), 3) := by decide +kernel
theorem dX10_ones_24 : decode cX10_ones 24 = .ok (.iload_n 1, 1) := by decide +kernel
theorem dX10_ones_25 : decode cX10_ones 25 = .ok (.ireturn, 1) := by decide +kernel
theorem dX10_criesOf_0 : decode cX10_criesOf 0 = .ok (.iconst 0, 1) := by decide +kernel
theorem dX10_criesOf_1 : decode cX10_criesOf 1 = .ok (.istore_n 2, 1) := by decide +kernel
theorem dX10_criesOf_2 : decode cX10_criesOf 2 = .ok (.iconst 0, 1) := by decide +kernel
theorem dX10_criesOf_3 : decode cX10_criesOf 3 = .ok (.istore_n 3, 1) := by decide +kernel
theorem dX10_criesOf_4 : decode cX10_criesOf 4 = .ok (.iload_n 3, 1) := by decide +kernel
theorem dX10_criesOf_5 : decode cX10_criesOf 5 = .ok (.aload_n 0, 1) := by decide +kernel
theorem dX10_criesOf_6 : decode cX10_criesOf 6 = .ok (.bipush 56, 2) := by decide +kernel
theorem dX10_criesOf_8 : decode cX10_criesOf 8 = .ok (.iaload, 1) := by decide +kernel
theorem dX10_criesOf_9 : decode cX10_criesOf 9 = .ok (.if_icmp .ge 45, 3) := by decide +kernel
theorem dX10_criesOf_12 : decode cX10_criesOf 12 = .ok (.iload_n 2, 1) := by decide +kernel
theorem dX10_criesOf_13 : decode cX10_criesOf 13 = .ok (.aload_n 0, 1) := by decide +kernel
theorem dX10_criesOf_14 : decode cX10_criesOf 14 = .ok (.bipush 16, 2) := by decide +kernel
theorem dX10_criesOf_16 : decode cX10_criesOf 16 = .ok (.iconst 4, 1) := by decide +kernel
theorem dX10_criesOf_17 : decode cX10_criesOf 17 = .ok (.iload_n 3, 1) := by decide +kernel
theorem dX10_criesOf_18 : decode cX10_criesOf 18 = .ok (.imul, 1) := by decide +kernel
theorem dX10_criesOf_19 : decode cX10_criesOf 19 = .ok (.iadd, 1) := by decide +kernel
theorem dX10_criesOf_20 : decode cX10_criesOf 20 = .ok (.iaload, 1) := by decide +kernel
theorem dX10_criesOf_21 : decode cX10_criesOf 21 = .ok (.iload_n 1, 1) := by decide +kernel
theorem dX10_criesOf_22 : decode cX10_criesOf 22 = .ok (.if_icmp .eq 17, 3) := by decide +kernel
theorem dX10_criesOf_25 : decode cX10_criesOf 25 = .ok (.aload_n 0, 1) := by decide +kernel
theorem dX10_criesOf_26 : decode cX10_criesOf 26 = .ok (.bipush 16, 2) := by decide +kernel
theorem dX10_criesOf_28 : decode cX10_criesOf 28 = .ok (.iconst 4, 1) := by decide +kernel
theorem dX10_criesOf_29 : decode cX10_criesOf 29 = .ok (.iload_n 3, 1) := by decide +kernel
theorem dX10_criesOf_30 : decode cX10_criesOf 30 = .ok (.imul, 1) := by decide +kernel
theorem dX10_criesOf_31 : decode cX10_criesOf 31 = .ok (.iadd, 1) := by decide +kernel
theorem dX10_criesOf_32 : decode cX10_criesOf 32 = .ok (.iconst 2, 1) := by decide +kernel
theorem dX10_criesOf_33 : decode cX10_criesOf 33 = .ok (.iadd, 1) := by decide +kernel
theorem dX10_criesOf_34 : decode cX10_criesOf 34 = .ok (.iaload, 1) := by decide +kernel
theorem dX10_criesOf_35 : decode cX10_criesOf 35 = .ok (.iload_n 1, 1) := by decide +kernel
theorem dX10_criesOf_36 : decode cX10_criesOf 36 = .ok (.if_icmp .ne 9, 3) := by decide +kernel
theorem dX10_criesOf_39 : decode cX10_criesOf 39 = .ok (.iconst 1, 1) := by decide +kernel
theorem dX10_criesOf_40 : decode cX10_criesOf 40 = .ok (.iload_n 3, 1) := by decide +kernel
theorem dX10_criesOf_41 : decode cX10_criesOf 41 = .ok (.ishl, 1) := by decide +kernel
theorem dX10_criesOf_42 : decode cX10_criesOf 42 = .ok (.goto 4, 3) := by decide +kernel
theorem dX10_criesOf_45 : decode cX10_criesOf 45 = .ok (.iconst 0, 1) := by decide +kernel
theorem dX10_criesOf_46 : decode cX10_criesOf 46 = .ok (.ior, 1) := by decide +kernel
theorem dX10_criesOf_47 : decode cX10_criesOf 47 = .ok (.istore_n 2, 1) := by decide +kernel
theorem dX10_criesOf_48 : decode cX10_criesOf 48 = .ok (.iinc 3 1, 3) := by decide +kernel
theorem dX10_criesOf_51 : decode cX10_criesOf 51 = .ok (.goto (-47), 3) := by decide +kernel
theorem dX10_criesOf_54 : decode cX10_criesOf 54 = .ok (.iload_n 2, 1) := by decide +kernel
theorem dX10_criesOf_55 : decode cX10_criesOf 55 = .ok (.ireturn, 1) := by decide +kernel
theorem dX10_wearOf_0 : decode cX10_wearOf 0 = .ok (.aload_n 0, 1) := by decide +kernel
theorem dX10_wearOf_1 : decode cX10_wearOf 1 = .ok (.aload_n 1, 1) := by decide +kernel
theorem dX10_wearOf_2 : decode cX10_wearOf 2 = .ok (.iconst 0, 1) := by decide +kernel
theorem dX10_wearOf_3 : decode cX10_wearOf 3 = .ok (.iload_n 2, 1) := by decide +kernel
theorem dX10_wearOf_4 : decode cX10_wearOf 4 = .ok (.iadd, 1) := by decide +kernel
theorem dX10_wearOf_5 : decode cX10_wearOf 5 = .ok (.iaload, 1) := by decide +kernel
theorem dX10_wearOf_6 : decode cX10_wearOf 6 = .ok (.aload_n 1, 1) := by decide +kernel
theorem dX10_wearOf_7 : decode cX10_wearOf 7 = .ok (.bipush 8, 2) := by decide +kernel
theorem dX10_wearOf_9 : decode cX10_wearOf 9 = .ok (.iload_n 2, 1) := by decide +kernel
theorem dX10_wearOf_10 : decode cX10_wearOf 10 = .ok (.iadd, 1) := by decide +kernel
theorem dX10_wearOf_11 : decode cX10_wearOf 11 = .ok (.iaload, 1) := by decide +kernel
theorem dX10_wearOf_12 : decode cX10_wearOf 12 = .ok (.aload_n 1, 1) := by decide +kernel
theorem dX10_wearOf_13 : decode cX10_wearOf 13 = .ok (.iload_n 2, 1) := by decide +kernel
theorem dX10_wearOf_14 : decode cX10_wearOf 14 = .ok (.invokestatic 256, 3) := by decide +kernel
theorem dX10_wearOf_17 : decode cX10_wearOf 17 = .ok (.invokestatic 260, 3) := by decide +kernel
theorem dX10_wearOf_20 : decode cX10_wearOf 20 = .ok (.iload_n 2, 1) := by decide +kernel
theorem dX10_wearOf_21 : decode cX10_wearOf 21 = .ok (.aload_n 1, 1) := by decide +kernel
theorem dX10_wearOf_22 : decode cX10_wearOf 22 = .ok (.bipush 59, 2) := by decide +kernel
theorem dX10_wearOf_24 : decode cX10_wearOf 24 = .ok (.iaload, 1) := by decide +kernel
theorem dX10_wearOf_25 : decode cX10_wearOf 25 = .ok (.aload_n 1, 1) := by decide +kernel
theorem dX10_wearOf_26 : decode cX10_wearOf 26 = .ok (.bipush 57, 2) := by decide +kernel
theorem dX10_wearOf_28 : decode cX10_wearOf 28 = .ok (.iaload, 1) := by decide +kernel
theorem dX10_wearOf_29 : decode cX10_wearOf 29 = .ok (.aload_n 0, 1) := by decide +kernel
theorem dX10_wearOf_30 : decode cX10_wearOf 30 = .ok (.getfield 23, 3) := by decide +kernel
theorem dX10_wearOf_33 : decode cX10_wearOf 33 = .ok (.iconst 3, 1) := by decide +kernel
theorem dX10_wearOf_34 : decode cX10_wearOf 34 = .ok (.iaload, 1) := by decide +kernel
theorem dX10_wearOf_35 : decode cX10_wearOf 35 = .ok (.invokevirtual 263, 3) := by decide +kernel
theorem dX10_wearOf_38 : decode cX10_wearOf 38 = .ok (.ireturn, 1) := by decide +kernel
theorem dX10_standsBy_0 : decode cX10_standsBy 0 = .ok (.iload_n 0, 1) := by decide +kernel
theorem dX10_standsBy_1 : decode cX10_standsBy 1 = .ok (.iload_n 2, 1) := by decide +kernel
theorem dX10_standsBy_2 : decode cX10_standsBy 2 = .ok (.iadd, 1) := by decide +kernel
theorem dX10_standsBy_3 : decode cX10_standsBy 3 = .ok (.bipush 9, 2) := by decide +kernel
theorem dX10_standsBy_5 : decode cX10_standsBy 5 = .ok (.isub, 1) := by decide +kernel
theorem dX10_standsBy_6 : decode cX10_standsBy 6 = .ok (.iload_n 1, 1) := by decide +kernel
theorem dX10_standsBy_7 : decode cX10_standsBy 7 = .ok (.isub, 1) := by decide +kernel
theorem dX10_standsBy_8 : decode cX10_standsBy 8 = .ok (.istore 4, 2) := by decide +kernel
theorem dX10_standsBy_10 : decode cX10_standsBy 10 = .ok (.iload 4, 2) := by decide +kernel
theorem dX10_standsBy_12 : decode cX10_standsBy 12 = .ok (.iload_n 3, 1) := by decide +kernel
theorem dX10_standsBy_13 : decode cX10_standsBy 13 = .ok (.if_icmp .le 7, 3) := by decide +kernel
theorem dX10_standsBy_16 : decode cX10_standsBy 16 = .ok (.iconst 1, 1) := by decide +kernel
theorem dX10_standsBy_17 : decode cX10_standsBy 17 = .ok (.goto 15, 3) := by decide +kernel
theorem dX10_standsBy_20 : decode cX10_standsBy 20 = .ok (.iload 4, 2) := by decide +kernel
theorem dX10_standsBy_22 : decode cX10_standsBy 22 = .ok (.ineg, 1) := by decide +kernel
theorem dX10_standsBy_23 : decode cX10_standsBy 23 = .ok (.iload_n 3, 1) := by decide +kernel
theorem dX10_standsBy_24 : decode cX10_standsBy 24 = .ok (.if_icmp .le 7, 3) := by decide +kernel
theorem dX10_standsBy_27 : decode cX10_standsBy 27 = .ok (.iconst 2, 1) := by decide +kernel
theorem dX10_standsBy_28 : decode cX10_standsBy 28 = .ok (.goto 4, 3) := by decide +kernel
theorem dX10_standsBy_31 : decode cX10_standsBy 31 = .ok (.iconst 0, 1) := by decide +kernel
theorem dX10_standsBy_32 : decode cX10_standsBy 32 = .ok (.ireturn, 1) := by decide +kernel
theorem dX10_standsIn_0 : decode cX10_standsIn 0 = .ok (.aload_n 1, 1) := by decide +kernel
theorem dX10_standsIn_1 : decode cX10_standsIn 1 = .ok (.iconst 0, 1) := by decide +kernel
theorem dX10_standsIn_2 : decode cX10_standsIn 2 = .ok (.iload_n 2, 1) := by decide +kernel
theorem dX10_standsIn_3 : decode cX10_standsIn 3 = .ok (.iadd, 1) := by decide +kernel
theorem dX10_standsIn_4 : decode cX10_standsIn 4 = .ok (.iaload, 1) := by decide +kernel
theorem dX10_standsIn_5 : decode cX10_standsIn 5 = .ok (.iload_n 3, 1) := by decide +kernel
theorem dX10_standsIn_6 : decode cX10_standsIn 6 = .ok (.imul, 1) := by decide +kernel
theorem dX10_standsIn_7 : decode cX10_standsIn 7 = .ok (.aload_n 1, 1) := by decide +kernel
theorem dX10_standsIn_8 : decode cX10_standsIn 8 = .ok (.iconst 0, 1) := by decide +kernel
theorem dX10_standsIn_9 : decode cX10_standsIn 9 = .ok (.iload 4, 2) := by decide +kernel
theorem dX10_standsIn_11 : decode cX10_standsIn 11 = .ok (.iadd, 1) := by decide +kernel
theorem dX10_standsIn_12 : decode cX10_standsIn 12 = .ok (.iaload, 1) := by decide +kernel
theorem dX10_standsIn_13 : decode cX10_standsIn 13 = .ok (.iload 5, 2) := by decide +kernel
theorem dX10_standsIn_15 : decode cX10_standsIn 15 = .ok (.imul, 1) := by decide +kernel
theorem dX10_standsIn_16 : decode cX10_standsIn 16 = .ok (.aload_n 1, 1) := by decide +kernel
theorem dX10_standsIn_17 : decode cX10_standsIn 17 = .ok (.bipush 57, 2) := by decide +kernel
theorem dX10_standsIn_19 : decode cX10_standsIn 19 = .ok (.iaload, 1) := by decide +kernel
theorem dX10_standsIn_20 : decode cX10_standsIn 20 = .ok (.aload_n 0, 1) := by decide +kernel
theorem dX10_standsIn_21 : decode cX10_standsIn 21 = .ok (.getfield 23, 3) := by decide +kernel
theorem dX10_standsIn_24 : decode cX10_standsIn 24 = .ok (.iconst 3, 1) := by decide +kernel
theorem dX10_standsIn_25 : decode cX10_standsIn 25 = .ok (.iaload, 1) := by decide +kernel
theorem dX10_standsIn_26 : decode cX10_standsIn 26 = .ok (.invokestatic 267, 3) := by decide +kernel
theorem dX10_standsIn_29 : decode cX10_standsIn 29 = .ok (.ireturn, 1) := by decide +kernel
theorem dX10_isCry_0 : decode cX10_isCry 0 = .ok (.iconst 0, 1) := by decide +kernel
theorem dX10_isCry_1 : decode cX10_isCry 1 = .ok (.istore 5, 2) := by decide +kernel
theorem dX10_isCry_3 : decode cX10_isCry 3 = .ok (.iload 5, 2) := by decide +kernel
theorem dX10_isCry_5 : decode cX10_isCry 5 = .ok (.aload_n 0, 1) := by decide +kernel
theorem dX10_isCry_6 : decode cX10_isCry 6 = .ok (.bipush 56, 2) := by decide +kernel
theorem dX10_isCry_8 : decode cX10_isCry 8 = .ok (.iaload, 1) := by decide +kernel
theorem dX10_isCry_9 : decode cX10_isCry 9 = .ok (.if_icmp .ge 70, 3) := by decide +kernel
theorem dX10_isCry_12 : decode cX10_isCry 12 = .ok (.aload_n 0, 1) := by decide +kernel
theorem dX10_isCry_13 : decode cX10_isCry 13 = .ok (.bipush 16, 2) := by decide +kernel
theorem dX10_isCry_15 : decode cX10_isCry 15 = .ok (.iconst 4, 1) := by decide +kernel
theorem dX10_isCry_16 : decode cX10_isCry 16 = .ok (.iload 5, 2) := by decide +kernel
theorem dX10_isCry_18 : decode cX10_isCry 18 = .ok (.imul, 1) := by decide +kernel
theorem dX10_isCry_19 : decode cX10_isCry 19 = .ok (.iadd, 1) := by decide +kernel
theorem dX10_isCry_20 : decode cX10_isCry 20 = .ok (.iaload, 1) := by decide +kernel
theorem dX10_isCry_21 : decode cX10_isCry 21 = .ok (.iload_n 1, 1) := by decide +kernel
theorem dX10_isCry_22 : decode cX10_isCry 22 = .ok (.if_icmp .ne 51, 3) := by decide +kernel
theorem dX10_isCry_25 : decode cX10_isCry 25 = .ok (.aload_n 0, 1) := by decide +kernel
theorem dX10_isCry_26 : decode cX10_isCry 26 = .ok (.bipush 16, 2) := by decide +kernel
theorem dX10_isCry_28 : decode cX10_isCry 28 = .ok (.iconst 4, 1) := by decide +kernel
theorem dX10_isCry_29 : decode cX10_isCry 29 = .ok (.iload 5, 2) := by decide +kernel
theorem dX10_isCry_31 : decode cX10_isCry 31 = .ok (.imul, 1) := by decide +kernel
theorem dX10_isCry_32 : decode cX10_isCry 32 = .ok (.iadd, 1) := by decide +kernel
theorem dX10_isCry_33 : decode cX10_isCry 33 = .ok (.iconst 1, 1) := by decide +kernel
theorem dX10_isCry_34 : decode cX10_isCry 34 = .ok (.iadd, 1) := by decide +kernel
theorem dX10_isCry_35 : decode cX10_isCry 35 = .ok (.iaload, 1) := by decide +kernel
theorem dX10_isCry_36 : decode cX10_isCry 36 = .ok (.iload_n 2, 1) := by decide +kernel
theorem dX10_isCry_37 : decode cX10_isCry 37 = .ok (.if_icmp .ne 36, 3) := by decide +kernel
theorem dX10_isCry_40 : decode cX10_isCry 40 = .ok (.aload_n 0, 1) := by decide +kernel
theorem dX10_isCry_41 : decode cX10_isCry 41 = .ok (.bipush 16, 2) := by decide +kernel
theorem dX10_isCry_43 : decode cX10_isCry 43 = .ok (.iconst 4, 1) := by decide +kernel
theorem dX10_isCry_44 : decode cX10_isCry 44 = .ok (.iload 5, 2) := by decide +kernel
theorem dX10_isCry_46 : decode cX10_isCry 46 = .ok (.imul, 1) := by decide +kernel
theorem dX10_isCry_47 : decode cX10_isCry 47 = .ok (.iadd, 1) := by decide +kernel
theorem dX10_isCry_48 : decode cX10_isCry 48 = .ok (.iconst 2, 1) := by decide +kernel
theorem dX10_isCry_49 : decode cX10_isCry 49 = .ok (.iadd, 1) := by decide +kernel
theorem dX10_isCry_50 : decode cX10_isCry 50 = .ok (.iaload, 1) := by decide +kernel
theorem dX10_isCry_51 : decode cX10_isCry 51 = .ok (.iload_n 3, 1) := by decide +kernel
theorem dX10_isCry_52 : decode cX10_isCry 52 = .ok (.if_icmp .ne 21, 3) := by decide +kernel
theorem dX10_isCry_55 : decode cX10_isCry 55 = .ok (.aload_n 0, 1) := by decide +kernel
theorem dX10_isCry_56 : decode cX10_isCry 56 = .ok (.bipush 16, 2) := by decide +kernel
theorem dX10_isCry_58 : decode cX10_isCry 58 = .ok (.iconst 4, 1) := by decide +kernel
theorem dX10_isCry_59 : decode cX10_isCry 59 = .ok (.iload 5, 2) := by decide +kernel
theorem dX10_isCry_61 : decode cX10_isCry 61 = .ok (.imul, 1) := by decide +kernel
theorem dX10_isCry_62 : decode cX10_isCry 62 = .ok (.iadd, 1) := by decide +kernel
theorem dX10_isCry_63 : decode cX10_isCry 63 = .ok (.iconst 3, 1) := by decide +kernel
theorem dX10_isCry_64 : decode cX10_isCry 64 = .ok (.iadd, 1) := by decide +kernel
theorem dX10_isCry_65 : decode cX10_isCry 65 = .ok (.iaload, 1) := by decide +kernel
theorem dX10_isCry_66 : decode cX10_isCry 66 = .ok (.iload 4, 2) := by decide +kernel
theorem dX10_isCry_68 : decode cX10_isCry 68 = .ok (.if_icmp .ne 5, 3) := by decide +kernel
theorem dX10_isCry_71 : decode cX10_isCry 71 = .ok (.iconst 1, 1) := by decide +kernel
theorem dX10_isCry_72 : decode cX10_isCry 72 = .ok (.ireturn, 1) := by decide +kernel
theorem dX10_isCry_73 : decode cX10_isCry 73 = .ok (.iinc 5 1, 3) := by decide +kernel
theorem dX10_isCry_76 : decode cX10_isCry 76 = .ok (.goto (-73), 3) := by decide +kernel
theorem dX10_isCry_79 : decode cX10_isCry 79 = .ok (.iconst 0, 1) := by decide +kernel
theorem dX10_isCry_80 : decode cX10_isCry 80 = .ok (.ireturn, 1) := by decide +kernel
theorem dX10_cries_0 : decode cX10_cries 0 = .ok (.bipush 16, 2) := by decide +kernel
theorem dX10_cries_2 : decode cX10_cries 2 = .ok (.iconst 4, 1) := by decide +kernel
theorem dX10_cries_3 : decode cX10_cries 3 = .ok (.aload_n 0, 1) := by decide +kernel
theorem dX10_cries_4 : decode cX10_cries 4 = .ok (.bipush 56, 2) := by decide +kernel
theorem dX10_cries_6 : decode cX10_cries 6 = .ok (.iaload, 1) := by decide +kernel
theorem dX10_cries_7 : decode cX10_cries 7 = .ok (.imul, 1) := by decide +kernel
theorem dX10_cries_8 : decode cX10_cries 8 = .ok (.iadd, 1) := by decide +kernel
theorem dX10_cries_9 : decode cX10_cries 9 = .ok (.istore 5, 2) := by decide +kernel
theorem dX10_cries_11 : decode cX10_cries 11 = .ok (.aload_n 0, 1) := by decide +kernel
theorem dX10_cries_12 : decode cX10_cries 12 = .ok (.iload 5, 2) := by decide +kernel
theorem dX10_cries_14 : decode cX10_cries 14 = .ok (.iload_n 1, 1) := by decide +kernel
theorem dX10_cries_15 : decode cX10_cries 15 = .ok (.iastore, 1) := by decide +kernel
theorem dX10_cries_16 : decode cX10_cries 16 = .ok (.aload_n 0, 1) := by decide +kernel
theorem dX10_cries_17 : decode cX10_cries 17 = .ok (.iload 5, 2) := by decide +kernel
theorem dX10_cries_19 : decode cX10_cries 19 = .ok (.iconst 1, 1) := by decide +kernel
theorem dX10_cries_20 : decode cX10_cries 20 = .ok (.iadd, 1) := by decide +kernel
theorem dX10_cries_21 : decode cX10_cries 21 = .ok (.iload_n 2, 1) := by decide +kernel
theorem dX10_cries_22 : decode cX10_cries 22 = .ok (.iastore, 1) := by decide +kernel
theorem dX10_cries_23 : decode cX10_cries 23 = .ok (.aload_n 0, 1) := by decide +kernel
theorem dX10_cries_24 : decode cX10_cries 24 = .ok (.iload 5, 2) := by decide +kernel
theorem dX10_cries_26 : decode cX10_cries 26 = .ok (.iconst 2, 1) := by decide +kernel
theorem dX10_cries_27 : decode cX10_cries 27 = .ok (.iadd, 1) := by decide +kernel
theorem dX10_cries_28 : decode cX10_cries 28 = .ok (.iload_n 3, 1) := by decide +kernel
theorem dX10_cries_29 : decode cX10_cries 29 = .ok (.iastore, 1) := by decide +kernel
theorem dX10_cries_30 : decode cX10_cries 30 = .ok (.aload_n 0, 1) := by decide +kernel
theorem dX10_cries_31 : decode cX10_cries 31 = .ok (.iload 5, 2) := by decide +kernel
theorem dX10_cries_33 : decode cX10_cries 33 = .ok (.iconst 3, 1) := by decide +kernel
theorem dX10_cries_34 : decode cX10_cries 34 = .ok (.iadd, 1) := by decide +kernel
theorem dX10_cries_35 : decode cX10_cries 35 = .ok (.iload 4, 2) := by decide +kernel
theorem dX10_cries_37 : decode cX10_cries 37 = .ok (.iastore, 1) := by decide +kernel
theorem dX10_cries_38 : decode cX10_cries 38 = .ok (.aload_n 0, 1) := by decide +kernel
theorem dX10_cries_39 : decode cX10_cries 39 = .ok (.bipush 56, 2) := by decide +kernel
theorem dX10_cries_41 : decode cX10_cries 41 = .ok (.dup2, 1) := by decide +kernel
theorem dX10_cries_42 : decode cX10_cries 42 = .ok (.iaload, 1) := by decide +kernel
theorem dX10_cries_43 : decode cX10_cries 43 = .ok (.iconst 1, 1) := by decide +kernel
theorem dX10_cries_44 : decode cX10_cries 44 = .ok (.iadd, 1) := by decide +kernel
theorem dX10_cries_45 : decode cX10_cries 45 = .ok (.iastore, 1) := by decide +kernel
theorem dX10_cries_46 : decode cX10_cries 46 = .ok (.return_, 1) := by decide +kernel
theorem dX10_weighs_0 : decode cX10_weighs 0 = .ok (.aload_n 0, 1) := by decide +kernel
theorem dX10_weighs_1 : decode cX10_weighs 1 = .ok (.aload_n 1, 1) := by decide +kernel
theorem dX10_weighs_2 : decode cX10_weighs 2 = .ok (.iload_n 2, 1) := by decide +kernel
theorem dX10_weighs_3 : decode cX10_weighs 3 = .ok (.iload_n 3, 1) := by decide +kernel
theorem dX10_weighs_4 : decode cX10_weighs 4 = .ok (.iload 4, 2) := by decide +kernel
theorem dX10_weighs_6 : decode cX10_weighs 6 = .ok (.iload 5, 2) := by decide +kernel
theorem dX10_weighs_8 : decode cX10_weighs 8 = .ok (.invokevirtual 271, 3) := by decide +kernel
theorem dX10_weighs_11 : decode cX10_weighs 11 = .ok (.istore 6, 2) := by decide +kernel
theorem dX10_weighs_13 : decode cX10_weighs 13 = .ok (.iload_n 2, 1) := by decide +kernel
theorem dX10_weighs_14 : decode cX10_weighs 14 = .ok (.iload 4, 2) := by decide +kernel
theorem dX10_weighs_16 : decode cX10_weighs 16 = .ok (.if_icmp .eq 50, 3) := by decide +kernel
theorem dX10_weighs_19 : decode cX10_weighs 19 = .ok (.aload_n 1, 1) := by decide +kernel
theorem dX10_weighs_20 : decode cX10_weighs 20 = .ok (.bipush 56, 2) := by decide +kernel
theorem dX10_weighs_22 : decode cX10_weighs 22 = .ok (.iaload, 1) := by decide +kernel
theorem dX10_weighs_23 : decode cX10_weighs 23 = .ok (.bipush 10, 2) := by decide +kernel
theorem dX10_weighs_25 : decode cX10_weighs 25 = .ok (.if_icmp .eq 41, 3) := by decide +kernel
theorem dX10_weighs_28 : decode cX10_weighs 28 = .ok (.iload 6, 2) := by decide +kernel
theorem dX10_weighs_30 : decode cX10_weighs 30 = .ok (.iconst 1, 1) := by decide +kernel
theorem dX10_weighs_31 : decode cX10_weighs 31 = .ok (.if_icmp .ne 16, 3) := by decide +kernel
theorem dX10_weighs_34 : decode cX10_weighs 34 = .ok (.aload_n 1, 1) := by decide +kernel
theorem dX10_weighs_35 : decode cX10_weighs 35 = .ok (.iload_n 2, 1) := by decide +kernel
theorem dX10_weighs_36 : decode cX10_weighs 36 = .ok (.iload_n 3, 1) := by decide +kernel
theorem dX10_weighs_37 : decode cX10_weighs 37 = .ok (.iload 4, 2) := by decide +kernel
theorem dX10_weighs_39 : decode cX10_weighs 39 = .ok (.iload 5, 2) := by decide +kernel
theorem dX10_weighs_41 : decode cX10_weighs 41 = .ok (.invokestatic 275, 3) := by decide +kernel
theorem dX10_weighs_44 : decode cX10_weighs 44 = .ok (.ifCond .ne 22, 3) := by decide +kernel
theorem dX10_weighs_47 : decode cX10_weighs 47 = .ok (.iload 6, 2) := by decide +kernel
theorem dX10_weighs_49 : decode cX10_weighs 49 = .ok (.iconst 2, 1) := by decide +kernel
theorem dX10_weighs_50 : decode cX10_weighs 50 = .ok (.if_icmp .ne 18, 3) := by decide +kernel
theorem dX10_weighs_53 : decode cX10_weighs 53 = .ok (.aload_n 1, 1) := by decide +kernel
theorem dX10_weighs_54 : decode cX10_weighs 54 = .ok (.iload 4, 2) := by decide +kernel
theorem dX10_weighs_56 : decode cX10_weighs 56 = .ok (.iload 5, 2) := by decide +kernel
theorem dX10_weighs_58 : decode cX10_weighs 58 = .ok (.iload_n 2, 1) := by decide +kernel
theorem dX10_weighs_59 : decode cX10_weighs 59 = .ok (.iload_n 3, 1) := by decide +kernel
theorem dX10_weighs_60 : decode cX10_weighs 60 = .ok (.invokestatic 275, 3) := by decide +kernel
theorem dX10_weighs_63 : decode cX10_weighs 63 = .ok (.ifCond .eq 5, 3) := by decide +kernel
theorem dX10_weighs_66 : decode cX10_weighs 66 = .ok (.iconst 0, 1) := by decide +kernel
theorem dX10_weighs_67 : decode cX10_weighs 67 = .ok (.ireturn, 1) := by decide +kernel
theorem dX10_weighs_68 : decode cX10_weighs 68 = .ok (.aload_n 1, 1) := by decide +kernel
theorem dX10_weighs_69 : decode cX10_weighs 69 = .ok (.bipush 8, 2) := by decide +kernel
theorem dX10_weighs_71 : decode cX10_weighs 71 = .ok (.iload_n 2, 1) := by decide +kernel
theorem dX10_weighs_72 : decode cX10_weighs 72 = .ok (.iadd, 1) := by decide +kernel
theorem dX10_weighs_73 : decode cX10_weighs 73 = .ok (.dup2, 1) := by decide +kernel
theorem dX10_weighs_74 : decode cX10_weighs 74 = .ok (.iaload, 1) := by decide +kernel
theorem dX10_weighs_75 : decode cX10_weighs 75 = .ok (.iconst 1, 1) := by decide +kernel
theorem dX10_weighs_76 : decode cX10_weighs 76 = .ok (.iadd, 1) := by decide +kernel
theorem dX10_weighs_77 : decode cX10_weighs 77 = .ok (.iastore, 1) := by decide +kernel
theorem dX10_weighs_78 : decode cX10_weighs 78 = .ok (.aload_n 1, 1) := by decide +kernel
theorem dX10_weighs_79 : decode cX10_weighs 79 = .ok (.bipush 8, 2) := by decide +kernel
theorem dX10_weighs_81 : decode cX10_weighs 81 = .ok (.iload 4, 2) := by decide +kernel
theorem dX10_weighs_83 : decode cX10_weighs 83 = .ok (.iadd, 1) := by decide +kernel
theorem dX10_weighs_84 : decode cX10_weighs 84 = .ok (.dup2, 1) := by decide +kernel
theorem dX10_weighs_85 : decode cX10_weighs 85 = .ok (.iaload, 1) := by decide +kernel
theorem dX10_weighs_86 : decode cX10_weighs 86 = .ok (.iconst 1, 1) := by decide +kernel
theorem dX10_weighs_87 : decode cX10_weighs 87 = .ok (.iadd, 1) := by decide +kernel
theorem dX10_weighs_88 : decode cX10_weighs 88 = .ok (.iastore, 1) := by decide +kernel
theorem dX10_weighs_89 : decode cX10_weighs 89 = .ok (.aload_n 1, 1) := by decide +kernel
theorem dX10_weighs_90 : decode cX10_weighs 90 = .ok (.bipush 58, 2) := by decide +kernel
theorem dX10_weighs_92 : decode cX10_weighs 92 = .ok (.dup2, 1) := by decide +kernel
theorem dX10_weighs_93 : decode cX10_weighs 93 = .ok (.iaload, 1) := by decide +kernel
theorem dX10_weighs_94 : decode cX10_weighs 94 = .ok (.iconst 1, 1) := by decide +kernel
theorem dX10_weighs_95 : decode cX10_weighs 95 = .ok (.iadd, 1) := by decide +kernel
theorem dX10_weighs_96 : decode cX10_weighs 96 = .ok (.iastore, 1) := by decide +kernel
theorem dX10_weighs_97 : decode cX10_weighs 97 = .ok (.iload 6, 2) := by decide +kernel
theorem dX10_weighs_99 : decode cX10_weighs 99 = .ok (.iconst 1, 1) := by decide +kernel
theorem dX10_weighs_100 : decode cX10_weighs 100 = .ok (.if_icmp .ne 13, 3) := by decide +kernel
theorem dX10_weighs_103 : decode cX10_weighs 103 = .ok (.aload_n 1, 1) := by decide +kernel
theorem dX10_weighs_104 : decode cX10_weighs 104 = .ok (.iload_n 2, 1) := by decide +kernel
theorem dX10_weighs_105 : decode cX10_weighs 105 = .ok (.iload_n 3, 1) := by decide +kernel
theorem dX10_weighs_106 : decode cX10_weighs 106 = .ok (.iload 4, 2) := by decide +kernel
theorem dX10_weighs_108 : decode cX10_weighs 108 = .ok (.iload 5, 2) := by decide +kernel
theorem dX10_weighs_110 : decode cX10_weighs 110 = .ok (.invokestatic 279, 3) := by decide +kernel
theorem dX10_weighs_113 : decode cX10_weighs 113 = .ok (.iload 6, 2) := by decide +kernel
theorem dX10_weighs_115 : decode cX10_weighs 115 = .ok (.iconst 2, 1) := by decide +kernel
theorem dX10_weighs_116 : decode cX10_weighs 116 = .ok (.if_icmp .ne 13, 3) := by decide +kernel
theorem dX10_weighs_119 : decode cX10_weighs 119 = .ok (.aload_n 1, 1) := by decide +kernel
theorem dX10_weighs_120 : decode cX10_weighs 120 = .ok (.iload 4, 2) := by decide +kernel
theorem dX10_weighs_122 : decode cX10_weighs 122 = .ok (.iload 5, 2) := by decide +kernel
theorem dX10_weighs_124 : decode cX10_weighs 124 = .ok (.iload_n 2, 1) := by decide +kernel
theorem dX10_weighs_125 : decode cX10_weighs 125 = .ok (.iload_n 3, 1) := by decide +kernel
theorem dX10_weighs_126 : decode cX10_weighs 126 = .ok (.invokestatic 279, 3) := by decide +kernel
theorem dX10_weighs_129 : decode cX10_weighs 129 = .ok (.iconst 1, 1) := by decide +kernel
theorem dX10_weighs_130 : decode cX10_weighs 130 = .ok (.ireturn, 1) := by decide +kernel
theorem dX10_tips_0 : decode cX10_tips 0 = .ok (.iload_n 1, 1) := by decide +kernel
theorem dX10_tips_1 : decode cX10_tips 1 = .ok (.aload_n 0, 1) := by decide +kernel
theorem dX10_tips_2 : decode cX10_tips 2 = .ok (.bipush 56, 2) := by decide +kernel
theorem dX10_tips_4 : decode cX10_tips 4 = .ok (.iaload, 1) := by decide +kernel
theorem dX10_tips_5 : decode cX10_tips 5 = .ok (.if_icmp .lt 5, 3) := by decide +kernel
theorem dX10_tips_8 : decode cX10_tips 8 = .ok (.iconst 0, 1) := by decide +kernel
theorem dX10_tips_9 : decode cX10_tips 9 = .ok (.ireturn, 1) := by decide +kernel
theorem dX10_tips_10 : decode cX10_tips 10 = .ok (.aload_n 0, 1) := by decide +kernel
theorem dX10_tips_11 : decode cX10_tips 11 = .ok (.bipush 56, 2) := by decide +kernel
theorem dX10_tips_13 : decode cX10_tips 13 = .ok (.dup2, 1) := by decide +kernel
theorem dX10_tips_14 : decode cX10_tips 14 = .ok (.iaload, 1) := by decide +kernel
theorem dX10_tips_15 : decode cX10_tips 15 = .ok (.iconst 1, 1) := by decide +kernel
theorem dX10_tips_16 : decode cX10_tips 16 = .ok (.isub, 1) := by decide +kernel
theorem dX10_tips_17 : decode cX10_tips 17 = .ok (.iastore, 1) := by decide +kernel
theorem dX10_tips_18 : decode cX10_tips 18 = .ok (.iconst 4, 1) := by decide +kernel
theorem dX10_tips_19 : decode cX10_tips 19 = .ok (.iload_n 1, 1) := by decide +kernel
theorem dX10_tips_20 : decode cX10_tips 20 = .ok (.imul, 1) := by decide +kernel
theorem dX10_tips_21 : decode cX10_tips 21 = .ok (.istore_n 2, 1) := by decide +kernel
theorem dX10_tips_22 : decode cX10_tips 22 = .ok (.iload_n 2, 1) := by decide +kernel
theorem dX10_tips_23 : decode cX10_tips 23 = .ok (.iconst 4, 1) := by decide +kernel
theorem dX10_tips_24 : decode cX10_tips 24 = .ok (.aload_n 0, 1) := by decide +kernel
theorem dX10_tips_25 : decode cX10_tips 25 = .ok (.bipush 56, 2) := by decide +kernel
theorem dX10_tips_27 : decode cX10_tips 27 = .ok (.iaload, 1) := by decide +kernel
theorem dX10_tips_28 : decode cX10_tips 28 = .ok (.imul, 1) := by decide +kernel
theorem dX10_tips_29 : decode cX10_tips 29 = .ok (.if_icmp .ge 23, 3) := by decide +kernel
theorem dX10_tips_32 : decode cX10_tips 32 = .ok (.aload_n 0, 1) := by decide +kernel
theorem dX10_tips_33 : decode cX10_tips 33 = .ok (.bipush 16, 2) := by decide +kernel
theorem dX10_tips_35 : decode cX10_tips 35 = .ok (.iload_n 2, 1) := by decide +kernel
theorem dX10_tips_36 : decode cX10_tips 36 = .ok (.iadd, 1) := by decide +kernel
theorem dX10_tips_37 : decode cX10_tips 37 = .ok (.aload_n 0, 1) := by decide +kernel
theorem dX10_tips_38 : decode cX10_tips 38 = .ok (.bipush 16, 2) := by decide +kernel
theorem dX10_tips_40 : decode cX10_tips 40 = .ok (.iload_n 2, 1) := by decide +kernel
theorem dX10_tips_41 : decode cX10_tips 41 = .ok (.iadd, 1) := by decide +kernel
theorem dX10_tips_42 : decode cX10_tips 42 = .ok (.iconst 4, 1) := by decide +kernel
theorem dX10_tips_43 : decode cX10_tips 43 = .ok (.iadd, 1) := by decide +kernel
theorem dX10_tips_44 : decode cX10_tips 44 = .ok (.iaload, 1) := by decide +kernel
theorem dX10_tips_45 : decode cX10_tips 45 = .ok (.iastore, 1) := by decide +kernel
theorem dX10_tips_46 : decode cX10_tips 46 = .ok (.iinc 2 1, 3) := by decide +kernel
theorem dX10_tips_49 : decode cX10_tips 49 = .ok (.goto (-27), 3) := by decide +kernel
theorem dX10_tips_52 : decode cX10_tips 52 = .ok (.iconst 0, 1) := by decide +kernel
theorem dX10_tips_53 : decode cX10_tips 53 = .ok (.istore_n 2, 1) := by decide +kernel
theorem dX10_tips_54 : decode cX10_tips 54 = .ok (.iload_n 2, 1) := by decide +kernel
theorem dX10_tips_55 : decode cX10_tips 55 = .ok (.iconst 4, 1) := by decide +kernel
theorem dX10_tips_56 : decode cX10_tips 56 = .ok (.if_icmp .ge 23, 3) := by decide +kernel
theorem dX10_tips_59 : decode cX10_tips 59 = .ok (.aload_n 0, 1) := by decide +kernel
theorem dX10_tips_60 : decode cX10_tips 60 = .ok (.bipush 16, 2) := by decide +kernel
theorem dX10_tips_62 : decode cX10_tips 62 = .ok (.iconst 4, 1) := by decide +kernel
theorem dX10_tips_63 : decode cX10_tips 63 = .ok (.aload_n 0, 1) := by decide +kernel
theorem dX10_tips_64 : decode cX10_tips 64 = .ok (.bipush 56, 2) := by decide +kernel
theorem dX10_tips_66 : decode cX10_tips 66 = .ok (.iaload, 1) := by decide +kernel
theorem dX10_tips_67 : decode cX10_tips 67 = .ok (.imul, 1) := by decide +kernel
theorem dX10_tips_68 : decode cX10_tips 68 = .ok (.iadd, 1) := by decide +kernel
theorem dX10_tips_69 : decode cX10_tips 69 = .ok (.iload_n 2, 1) := by decide +kernel
theorem dX10_tips_70 : decode cX10_tips 70 = .ok (.iadd, 1) := by decide +kernel
theorem dX10_tips_71 : decode cX10_tips 71 = .ok (.iconst 0, 1) := by decide +kernel
theorem dX10_tips_72 : decode cX10_tips 72 = .ok (.iastore, 1) := by decide +kernel
theorem dX10_tips_73 : decode cX10_tips 73 = .ok (.iinc 2 1, 3) := by decide +kernel
theorem dX10_tips_76 : decode cX10_tips 76 = .ok (.goto (-22), 3) := by decide +kernel
theorem dX10_tips_79 : decode cX10_tips 79 = .ok (.iconst 1, 1) := by decide +kernel
theorem dX10_tips_80 : decode cX10_tips 80 = .ok (.ireturn, 1) := by decide +kernel
theorem dX10_feeds_0 : decode cX10_feeds 0 = .ok (.aload_n 0, 1) := by decide +kernel
theorem dX10_feeds_1 : decode cX10_feeds 1 = .ok (.iconst 0, 1) := by decide +kernel
theorem dX10_feeds_2 : decode cX10_feeds 2 = .ok (.iload_n 1, 1) := by decide +kernel
theorem dX10_feeds_3 : decode cX10_feeds 3 = .ok (.iadd, 1) := by decide +kernel
theorem dX10_feeds_4 : decode cX10_feeds 4 = .ok (.iaload, 1) := by decide +kernel
theorem dX10_feeds_5 : decode cX10_feeds 5 = .ok (.bipush 60, 2) := by decide +kernel
theorem dX10_feeds_7 : decode cX10_feeds 7 = .ok (.if_icmp .ne 5, 3) := by decide +kernel
theorem dX10_feeds_10 : decode cX10_feeds 10 = .ok (.iconst 0, 1) := by decide +kernel
theorem dX10_feeds_11 : decode cX10_feeds 11 = .ok (.ireturn, 1) := by decide +kernel
theorem dX10_feeds_12 : decode cX10_feeds 12 = .ok (.aload_n 0, 1) := by decide +kernel
theorem dX10_feeds_13 : decode cX10_feeds 13 = .ok (.iconst 0, 1) := by decide +kernel
theorem dX10_feeds_14 : decode cX10_feeds 14 = .ok (.iload_n 1, 1) := by decide +kernel
theorem dX10_feeds_15 : decode cX10_feeds 15 = .ok (.iadd, 1) := by decide +kernel
theorem dX10_feeds_16 : decode cX10_feeds 16 = .ok (.bipush 60, 2) := by decide +kernel
theorem dX10_feeds_18 : decode cX10_feeds 18 = .ok (.aload_n 0, 1) := by decide +kernel
theorem dX10_feeds_19 : decode cX10_feeds 19 = .ok (.iconst 0, 1) := by decide +kernel
theorem dX10_feeds_20 : decode cX10_feeds 20 = .ok (.iload_n 1, 1) := by decide +kernel
theorem dX10_feeds_21 : decode cX10_feeds 21 = .ok (.iadd, 1) := by decide +kernel
theorem dX10_feeds_22 : decode cX10_feeds 22 = .ok (.iaload, 1) := by decide +kernel
theorem dX10_feeds_23 : decode cX10_feeds 23 = .ok (.iload_n 2, 1) := by decide +kernel
theorem dX10_feeds_24 : decode cX10_feeds 24 = .ok (.iadd, 1) := by decide +kernel
theorem dX10_feeds_25 : decode cX10_feeds 25 = .ok (.invokestatic 235, 3) := by decide +kernel
theorem dX10_feeds_28 : decode cX10_feeds 28 = .ok (.iastore, 1) := by decide +kernel
theorem dX10_feeds_29 : decode cX10_feeds 29 = .ok (.iconst 1, 1) := by decide +kernel
theorem dX10_feeds_30 : decode cX10_feeds 30 = .ok (.ireturn, 1) := by decide +kernel
theorem dX10_dayEnds_0 : decode cX10_dayEnds 0 = .ok (.iconst 0, 1) := by decide +kernel
theorem dX10_dayEnds_1 : decode cX10_dayEnds 1 = .ok (.istore_n 2, 1) := by decide +kernel
theorem dX10_dayEnds_2 : decode cX10_dayEnds 2 = .ok (.iload_n 2, 1) := by decide +kernel
theorem dX10_dayEnds_3 : decode cX10_dayEnds 3 = .ok (.aload_n 0, 1) := by decide +kernel
theorem dX10_dayEnds_4 : decode cX10_dayEnds 4 = .ok (.getfield 23, 3) := by decide +kernel
theorem dX10_dayEnds_7 : decode cX10_dayEnds 7 = .ok (.iconst 0, 1) := by decide +kernel
theorem dX10_dayEnds_8 : decode cX10_dayEnds 8 = .ok (.iaload, 1) := by decide +kernel
theorem dX10_dayEnds_9 : decode cX10_dayEnds 9 = .ok (.if_icmp .ge 21, 3) := by decide +kernel
theorem dX10_dayEnds_12 : decode cX10_dayEnds 12 = .ok (.aload_n 0, 1) := by decide +kernel
theorem dX10_dayEnds_13 : decode cX10_dayEnds 13 = .ok (.getfield 67, 3) := by decide +kernel
theorem dX10_dayEnds_16 : decode cX10_dayEnds 16 = .ok (.iload_n 2, 1) := by decide +kernel
theorem dX10_dayEnds_17 : decode cX10_dayEnds 17 = .ok (.aload_n 0, 1) := by decide +kernel
theorem dX10_dayEnds_18 : decode cX10_dayEnds 18 = .ok (.aload_n 1, 1) := by decide +kernel
theorem dX10_dayEnds_19 : decode cX10_dayEnds 19 = .ok (.iload_n 2, 1) := by decide +kernel
theorem dX10_dayEnds_20 : decode cX10_dayEnds 20 = .ok (.invokevirtual 283, 3) := by decide +kernel
theorem dX10_dayEnds_23 : decode cX10_dayEnds 23 = .ok (.iastore, 1) := by decide +kernel
theorem dX10_dayEnds_24 : decode cX10_dayEnds 24 = .ok (.iinc 2 1, 3) := by decide +kernel
theorem dX10_dayEnds_27 : decode cX10_dayEnds 27 = .ok (.goto (-25), 3) := by decide +kernel
theorem dX10_dayEnds_30 : decode cX10_dayEnds 30 = .ok (.iconst 0, 1) := by decide +kernel
theorem dX10_dayEnds_31 : decode cX10_dayEnds 31 = .ok (.istore_n 2, 1) := by decide +kernel
theorem dX10_dayEnds_32 : decode cX10_dayEnds 32 = .ok (.iload_n 2, 1) := by decide +kernel
theorem dX10_dayEnds_33 : decode cX10_dayEnds 33 = .ok (.aload_n 0, 1) := by decide +kernel
theorem dX10_dayEnds_34 : decode cX10_dayEnds 34 = .ok (.getfield 23, 3) := by decide +kernel
theorem dX10_dayEnds_37 : decode cX10_dayEnds 37 = .ok (.iconst 0, 1) := by decide +kernel
theorem dX10_dayEnds_38 : decode cX10_dayEnds 38 = .ok (.iaload, 1) := by decide +kernel
theorem dX10_dayEnds_39 : decode cX10_dayEnds 39 = .ok (.if_icmp .ge 30, 3) := by decide +kernel
theorem dX10_dayEnds_42 : decode cX10_dayEnds 42 = .ok (.aload_n 1, 1) := by decide +kernel
theorem dX10_dayEnds_43 : decode cX10_dayEnds 43 = .ok (.iconst 0, 1) := by decide +kernel
theorem dX10_dayEnds_44 : decode cX10_dayEnds 44 = .ok (.iload_n 2, 1) := by decide +kernel
theorem dX10_dayEnds_45 : decode cX10_dayEnds 45 = .ok (.iadd, 1) := by decide +kernel
theorem dX10_dayEnds_46 : decode cX10_dayEnds 46 = .ok (.iconst 1, 1) := by decide +kernel
theorem dX10_dayEnds_47 : decode cX10_dayEnds 47 = .ok (.aload_n 1, 1) := by decide +kernel
theorem dX10_dayEnds_48 : decode cX10_dayEnds 48 = .ok (.iconst 0, 1) := by decide +kernel
theorem dX10_dayEnds_49 : decode cX10_dayEnds 49 = .ok (.iload_n 2, 1) := by decide +kernel
theorem dX10_dayEnds_50 : decode cX10_dayEnds 50 = .ok (.iadd, 1) := by decide +kernel
theorem dX10_dayEnds_51 : decode cX10_dayEnds 51 = .ok (.iaload, 1) := by decide +kernel
theorem dX10_dayEnds_52 : decode cX10_dayEnds 52 = .ok (.aload_n 0, 1) := by decide +kernel
theorem dX10_dayEnds_53 : decode cX10_dayEnds 53 = .ok (.getfield 67, 3) := by decide +kernel
theorem dX10_dayEnds_56 : decode cX10_dayEnds 56 = .ok (.iload_n 2, 1) := by decide +kernel
theorem dX10_dayEnds_57 : decode cX10_dayEnds 57 = .ok (.iaload, 1) := by decide +kernel
theorem dX10_dayEnds_58 : decode cX10_dayEnds 58 = .ok (.isub, 1) := by decide +kernel
theorem dX10_dayEnds_59 : decode cX10_dayEnds 59 = .ok (.invokestatic 238, 3) := by decide +kernel
theorem dX10_dayEnds_62 : decode cX10_dayEnds 62 = .ok (.iastore, 1) := by decide +kernel
theorem dX10_dayEnds_63 : decode cX10_dayEnds 63 = .ok (.iinc 2 1, 3) := by decide +kernel
theorem dX10_dayEnds_66 : decode cX10_dayEnds 66 = .ok (.goto (-34), 3) := by decide +kernel
theorem dX10_dayEnds_69 : decode cX10_dayEnds 69 = .ok (.aload_n 1, 1) := by decide +kernel
theorem dX10_dayEnds_70 : decode cX10_dayEnds 70 = .ok (.bipush 59, 2) := by decide +kernel
theorem dX10_dayEnds_72 : decode cX10_dayEnds 72 = .ok (.dup2, 1) := by decide +kernel
theorem dX10_dayEnds_73 : decode cX10_dayEnds 73 = .ok (.iaload, 1) := by decide +kernel
theorem dX10_dayEnds_74 : decode cX10_dayEnds 74 = .ok (.iconst 1, 1) := by decide +kernel
theorem dX10_dayEnds_75 : decode cX10_dayEnds 75 = .ok (.iadd, 1) := by decide +kernel
theorem dX10_dayEnds_76 : decode cX10_dayEnds 76 = .ok (.iastore, 1) := by decide +kernel
theorem dX10_dayEnds_77 : decode cX10_dayEnds 77 = .ok (.return_, 1) := by decide +kernel
theorem dX10_does_0 : decode cX10_does 0 = .ok (.aload_n 2, 1) := by decide +kernel
theorem dX10_does_1 : decode cX10_does 1 = .ok (.iconst 0, 1) := by decide +kernel
theorem dX10_does_2 : decode cX10_does 2 = .ok (.iaload, 1) := by decide +kernel
theorem dX10_does_3 : decode cX10_does 3 = .ok (.tableswitch 90 0 3 #[29, 47, 55, 66], 29) := by decide +kernel
theorem dX10_does_32 : decode cX10_does 32 = .ok (.aload_n 0, 1) := by decide +kernel
theorem dX10_does_33 : decode cX10_does 33 = .ok (.aload_n 1, 1) := by decide +kernel
theorem dX10_does_34 : decode cX10_does 34 = .ok (.aload_n 2, 1) := by decide +kernel
theorem dX10_does_35 : decode cX10_does 35 = .ok (.iconst 1, 1) := by decide +kernel
theorem dX10_does_36 : decode cX10_does 36 = .ok (.iaload, 1) := by decide +kernel
theorem dX10_does_37 : decode cX10_does 37 = .ok (.aload_n 2, 1) := by decide +kernel
theorem dX10_does_38 : decode cX10_does 38 = .ok (.iconst 2, 1) := by decide +kernel
theorem dX10_does_39 : decode cX10_does 39 = .ok (.iaload, 1) := by decide +kernel
theorem dX10_does_40 : decode cX10_does 40 = .ok (.aload_n 2, 1) := by decide +kernel
theorem dX10_does_41 : decode cX10_does 41 = .ok (.iconst 3, 1) := by decide +kernel
theorem dX10_does_42 : decode cX10_does 42 = .ok (.iaload, 1) := by decide +kernel
theorem dX10_does_43 : decode cX10_does 43 = .ok (.aload_n 2, 1) := by decide +kernel
theorem dX10_does_44 : decode cX10_does 44 = .ok (.iconst 4, 1) := by decide +kernel
theorem dX10_does_45 : decode cX10_does 45 = .ok (.iaload, 1) := by decide +kernel
theorem dX10_does_46 : decode cX10_does 46 = .ok (.invokevirtual 286, 3) := by decide +kernel
theorem dX10_does_49 : decode cX10_does 49 = .ok (.ireturn, 1) := by decide +kernel
theorem dX10_does_50 : decode cX10_does 50 = .ok (.aload_n 1, 1) := by decide +kernel
theorem dX10_does_51 : decode cX10_does 51 = .ok (.aload_n 2, 1) := by decide +kernel
theorem dX10_does_52 : decode cX10_does 52 = .ok (.iconst 1, 1) := by decide +kernel
theorem dX10_does_53 : decode cX10_does 53 = .ok (.iaload, 1) := by decide +kernel
theorem dX10_does_54 : decode cX10_does 54 = .ok (.invokestatic 289, 3) := by decide +kernel
theorem dX10_does_57 : decode cX10_does 57 = .ok (.ireturn, 1) := by decide +kernel
theorem dX10_does_58 : decode cX10_does 58 = .ok (.aload_n 1, 1) := by decide +kernel
theorem dX10_does_59 : decode cX10_does 59 = .ok (.aload_n 2, 1) := by decide +kernel
theorem dX10_does_60 : decode cX10_does 60 = .ok (.iconst 1, 1) := by decide +kernel
theorem dX10_does_61 : decode cX10_does 61 = .ok (.iaload, 1) := by decide +kernel
theorem dX10_does_62 : decode cX10_does 62 = .ok (.aload_n 2, 1) := by decide +kernel
theorem dX10_does_63 : decode cX10_does 63 = .ok (.iconst 2, 1) := by decide +kernel
theorem dX10_does_64 : decode cX10_does 64 = .ok (.iaload, 1) := by decide +kernel
theorem dX10_does_65 : decode cX10_does 65 = .ok (.invokestatic 293, 3) := by decide +kernel
theorem dX10_does_68 : decode cX10_does 68 = .ok (.ireturn, 1) := by decide +kernel
theorem dX10_does_69 : decode cX10_does 69 = .ok (.aload_n 1, 1) := by decide +kernel
theorem dX10_does_70 : decode cX10_does 70 = .ok (.bipush 57, 2) := by decide +kernel
theorem dX10_does_72 : decode cX10_does 72 = .ok (.iaload, 1) := by decide +kernel
theorem dX10_does_73 : decode cX10_does 73 = .ok (.bipush 9, 2) := by decide +kernel
theorem dX10_does_75 : decode cX10_does 75 = .ok (.if_icmp .ne 5, 3) := by decide +kernel
theorem dX10_does_78 : decode cX10_does 78 = .ok (.iconst 0, 1) := by decide +kernel
theorem dX10_does_79 : decode cX10_does 79 = .ok (.ireturn, 1) := by decide +kernel
theorem dX10_does_80 : decode cX10_does 80 = .ok (.aload_n 1, 1) := by decide +kernel
theorem dX10_does_81 : decode cX10_does 81 = .ok (.bipush 57, 2) := by decide +kernel
theorem dX10_does_83 : decode cX10_does 83 = .ok (.bipush 18, 2) := by decide +kernel
theorem dX10_does_85 : decode cX10_does 85 = .ok (.aload_n 1, 1) := by decide +kernel
theorem dX10_does_86 : decode cX10_does 86 = .ok (.bipush 57, 2) := by decide +kernel
theorem dX10_does_88 : decode cX10_does 88 = .ok (.iaload, 1) := by decide +kernel
theorem dX10_does_89 : decode cX10_does 89 = .ok (.isub, 1) := by decide +kernel
theorem dX10_does_90 : decode cX10_does 90 = .ok (.iastore, 1) := by decide +kernel
theorem dX10_does_91 : decode cX10_does 91 = .ok (.iconst 1, 1) := by decide +kernel
theorem dX10_does_92 : decode cX10_does 92 = .ok (.ireturn, 1) := by decide +kernel
theorem dX10_does_93 : decode cX10_does 93 = .ok (.aload_n 1, 1) := by decide +kernel
theorem dX10_does_94 : decode cX10_does 94 = .ok (.bipush 59, 2) := by decide +kernel
theorem dX10_does_96 : decode cX10_does 96 = .ok (.iaload, 1) := by decide +kernel
theorem dX10_does_97 : decode cX10_does 97 = .ok (.sipush 300, 3) := by decide +kernel
theorem dX10_does_100 : decode cX10_does 100 = .ok (.if_icmp .lt 5, 3) := by decide +kernel
theorem dX10_does_103 : decode cX10_does 103 = .ok (.iconst 0, 1) := by decide +kernel
theorem dX10_does_104 : decode cX10_does 104 = .ok (.ireturn, 1) := by decide +kernel
theorem dX10_does_105 : decode cX10_does 105 = .ok (.aload_n 0, 1) := by decide +kernel
theorem dX10_does_106 : decode cX10_does 106 = .ok (.aload_n 1, 1) := by decide +kernel
theorem dX10_does_107 : decode cX10_does 107 = .ok (.invokevirtual 297, 3) := by decide +kernel
theorem dX10_does_110 : decode cX10_does 110 = .ok (.iconst 1, 1) := by decide +kernel
theorem dX10_does_111 : decode cX10_does 111 = .ok (.ireturn, 1) := by decide +kernel
theorem dX10_goes_0 : decode cX10_goes 0 = .ok (.iload_n 1, 1) := by decide +kernel
theorem dX10_goes_1 : decode cX10_goes 1 = .ok (.istore_n 3, 1) := by decide +kernel
theorem dX10_goes_2 : decode cX10_goes 2 = .ok (.iload_n 3, 1) := by decide +kernel
theorem dX10_goes_3 : decode cX10_goes 3 = .ok (.iload_n 2, 1) := by decide +kernel
theorem dX10_goes_4 : decode cX10_goes 4 = .ok (.if_icmp .ge 151, 3) := by decide +kernel
theorem dX10_goes_7 : decode cX10_goes 7 = .ok (.aload_n 0, 1) := by decide +kernel
theorem dX10_goes_8 : decode cX10_goes 8 = .ok (.getfield 301, 3) := by decide +kernel
theorem dX10_goes_11 : decode cX10_goes 11 = .ok (.sipush 200, 3) := by decide +kernel
theorem dX10_goes_14 : decode cX10_goes 14 = .ok (.if_icmp .ge 141, 3) := by decide +kernel
theorem dX10_goes_17 : decode cX10_goes 17 = .ok (.aload_n 0, 1) := by decide +kernel
theorem dX10_goes_18 : decode cX10_goes 18 = .ok (.dup, 1) := by decide +kernel
theorem dX10_goes_19 : decode cX10_goes 19 = .ok (.getfield 301, 3) := by decide +kernel
theorem dX10_goes_22 : decode cX10_goes 22 = .ok (.iconst 1, 1) := by decide +kernel
theorem dX10_goes_23 : decode cX10_goes 23 = .ok (.iadd, 1) := by decide +kernel
theorem dX10_goes_24 : decode cX10_goes 24 = .ok (.putfield 301, 3) := by decide +kernel
theorem dX10_goes_27 : decode cX10_goes 27 = .ok (.aload_n 0, 1) := by decide +kernel
theorem dX10_goes_28 : decode cX10_goes 28 = .ok (.getfield 58, 3) := by decide +kernel
theorem dX10_goes_31 : decode cX10_goes 31 = .ok (.iload_n 3, 1) := by decide +kernel
theorem dX10_goes_32 : decode cX10_goes 32 = .ok (.aaload, 1) := by decide +kernel
theorem dX10_goes_33 : decode cX10_goes 33 = .ok (.iconst 0, 1) := by decide +kernel
theorem dX10_goes_34 : decode cX10_goes 34 = .ok (.iaload, 1) := by decide +kernel
theorem dX10_goes_35 : decode cX10_goes 35 = .ok (.iconst 5, 1) := by decide +kernel
theorem dX10_goes_36 : decode cX10_goes 36 = .ok (.if_icmp .ne 53, 3) := by decide +kernel
theorem dX10_goes_39 : decode cX10_goes 39 = .ok (.iconst 0, 1) := by decide +kernel
theorem dX10_goes_40 : decode cX10_goes 40 = .ok (.istore 4, 2) := by decide +kernel
theorem dX10_goes_42 : decode cX10_goes 42 = .ok (.iload 4, 2) := by decide +kernel
theorem dX10_goes_44 : decode cX10_goes 44 = .ok (.aload_n 0, 1) := by decide +kernel
theorem dX10_goes_45 : decode cX10_goes 45 = .ok (.getfield 58, 3) := by decide +kernel
theorem dX10_goes_48 : decode cX10_goes 48 = .ok (.iload_n 3, 1) := by decide +kernel
theorem dX10_goes_49 : decode cX10_goes 49 = .ok (.aaload, 1) := by decide +kernel
theorem dX10_goes_50 : decode cX10_goes 50 = .ok (.iconst 1, 1) := by decide +kernel
theorem dX10_goes_51 : decode cX10_goes 51 = .ok (.iaload, 1) := by decide +kernel
theorem dX10_goes_52 : decode cX10_goes 52 = .ok (.if_icmp .ge 34, 3) := by decide +kernel
theorem dX10_goes_55 : decode cX10_goes 55 = .ok (.aload_n 0, 1) := by decide +kernel
theorem dX10_goes_56 : decode cX10_goes 56 = .ok (.getfield 301, 3) := by decide +kernel
theorem dX10_goes_59 : decode cX10_goes 59 = .ok (.sipush 200, 3) := by decide +kernel
theorem dX10_goes_62 : decode cX10_goes 62 = .ok (.if_icmp .ge 24, 3) := by decide +kernel
theorem dX10_goes_65 : decode cX10_goes 65 = .ok (.aload_n 0, 1) := by decide +kernel
theorem dX10_goes_66 : decode cX10_goes 66 = .ok (.iload_n 3, 1) := by decide +kernel
theorem dX10_goes_67 : decode cX10_goes 67 = .ok (.iconst 1, 1) := by decide +kernel
theorem dX10_goes_68 : decode cX10_goes 68 = .ok (.iadd, 1) := by decide +kernel
theorem dX10_goes_69 : decode cX10_goes 69 = .ok (.aload_n 0, 1) := by decide +kernel
theorem dX10_goes_70 : decode cX10_goes 70 = .ok (.getfield 58, 3) := by decide +kernel
theorem dX10_goes_73 : decode cX10_goes 73 = .ok (.iload_n 3, 1) := by decide +kernel
theorem dX10_goes_74 : decode cX10_goes 74 = .ok (.aaload, 1) := by decide +kernel
theorem dX10_goes_75 : decode cX10_goes 75 = .ok (.iconst 5, 1) := by decide +kernel
theorem dX10_goes_76 : decode cX10_goes 76 = .ok (.iaload, 1) := by decide +kernel
theorem dX10_goes_77 : decode cX10_goes 77 = .ok (.invokevirtual 304, 3) := by decide +kernel
theorem dX10_goes_80 : decode cX10_goes 80 = .ok (.iinc 4 1, 3) := by decide +kernel
theorem dX10_goes_83 : decode cX10_goes 83 = .ok (.goto (-41), 3) := by decide +kernel
theorem dX10_goes_86 : decode cX10_goes 86 = .ok (.goto 57, 3) := by decide +kernel
theorem dX10_goes_89 : decode cX10_goes 89 = .ok (.aload_n 0, 1) := by decide +kernel
theorem dX10_goes_90 : decode cX10_goes 90 = .ok (.aload_n 0, 1) := by decide +kernel
theorem dX10_goes_91 : decode cX10_goes 91 = .ok (.getfield 61, 3) := by decide +kernel
theorem dX10_goes_94 : decode cX10_goes 94 = .ok (.aload_n 0, 1) := by decide +kernel
theorem dX10_goes_95 : decode cX10_goes 95 = .ok (.getfield 58, 3) := by decide +kernel
theorem dX10_goes_98 : decode cX10_goes 98 = .ok (.iload_n 3, 1) := by decide +kernel
theorem dX10_goes_99 : decode cX10_goes 99 = .ok (.aaload, 1) := by decide +kernel
theorem dX10_goes_100 : decode cX10_goes 100 = .ok (.invokevirtual 307, 3) := by decide +kernel
theorem dX10_goes_103 : decode cX10_goes 103 = .ok (.istore 4, 2) := by decide +kernel
theorem dX10_goes_105 : decode cX10_goes 105 = .ok (.aload_n 0, 1) := by decide +kernel
theorem dX10_goes_106 : decode cX10_goes 106 = .ok (.dup, 1) := by decide +kernel
theorem dX10_goes_107 : decode cX10_goes 107 = .ok (.getfield 311, 3) := by decide +kernel
theorem dX10_goes_110 : decode cX10_goes 110 = .ok (.iload 4, 2) := by decide +kernel
theorem dX10_goes_112 : decode cX10_goes 112 = .ok (.ifCond .eq 7, 3) := by decide +kernel
theorem dX10_goes_115 : decode cX10_goes 115 = .ok (.iconst 1, 1) := by decide +kernel
theorem dX10_goes_116 : decode cX10_goes 116 = .ok (.goto 4, 3) := by decide +kernel
theorem dX10_goes_119 : decode cX10_goes 119 = .ok (.iconst 0, 1) := by decide +kernel
theorem dX10_goes_120 : decode cX10_goes 120 = .ok (.iadd, 1) := by decide +kernel
theorem dX10_goes_121 : decode cX10_goes 121 = .ok (.putfield 311, 3) := by decide +kernel
theorem dX10_goes_124 : decode cX10_goes 124 = .ok (.aload_n 0, 1) := by decide +kernel
theorem dX10_goes_125 : decode cX10_goes 125 = .ok (.dup, 1) := by decide +kernel
theorem dX10_goes_126 : decode cX10_goes 126 = .ok (.getfield 197, 3) := by decide +kernel
theorem dX10_goes_129 : decode cX10_goes 129 = .ok (.iload 4, 2) := by decide +kernel
theorem dX10_goes_131 : decode cX10_goes 131 = .ok (.ifCond .eq 7, 3) := by decide +kernel
theorem dX10_goes_134 : decode cX10_goes 134 = .ok (.iconst 0, 1) := by decide +kernel
theorem dX10_goes_135 : decode cX10_goes 135 = .ok (.goto 4, 3) := by decide +kernel
theorem dX10_goes_138 : decode cX10_goes 138 = .ok (.iconst 1, 1) := by decide +kernel
theorem dX10_goes_139 : decode cX10_goes 139 = .ok (.iadd, 1) := by decide +kernel
theorem dX10_goes_140 : decode cX10_goes 140 = .ok (.putfield 197, 3) := by decide +kernel
theorem dX10_goes_143 : decode cX10_goes 143 = .ok (.aload_n 0, 1) := by decide +kernel
theorem dX10_goes_144 : decode cX10_goes 144 = .ok (.getfield 58, 3) := by decide +kernel
theorem dX10_goes_147 : decode cX10_goes 147 = .ok (.iload_n 3, 1) := by decide +kernel
theorem dX10_goes_148 : decode cX10_goes 148 = .ok (.aaload, 1) := by decide +kernel
theorem dX10_goes_149 : decode cX10_goes 149 = .ok (.iconst 5, 1) := by decide +kernel
theorem dX10_goes_150 : decode cX10_goes 150 = .ok (.iaload, 1) := by decide +kernel
theorem dX10_goes_151 : decode cX10_goes 151 = .ok (.istore_n 3, 1) := by decide +kernel
theorem dX10_goes_152 : decode cX10_goes 152 = .ok (.goto (-150), 3) := by decide +kernel
theorem dX10_goes_155 : decode cX10_goes 155 = .ok (.return_, 1) := by decide +kernel
theorem dX10_work_0 : decode cX10_work 0 = .ok (.aload_n 0, 1) := by decide +kernel
theorem dX10_work_1 : decode cX10_work 1 = .ok (.iconst 0, 1) := by decide +kernel
theorem dX10_work_2 : decode cX10_work 2 = .ok (.putfield 92, 3) := by decide +kernel
theorem dX10_work_5 : decode cX10_work 5 = .ok (.aload_n 0, 1) := by decide +kernel
theorem dX10_work_6 : decode cX10_work 6 = .ok (.iload_n 1, 1) := by decide +kernel
theorem dX10_work_7 : decode cX10_work 7 = .ok (.iconst 0, 1) := by decide +kernel
theorem dX10_work_8 : decode cX10_work 8 = .ok (.aload_n 0, 1) := by decide +kernel
theorem dX10_work_9 : decode cX10_work 9 = .ok (.getfield 95, 3) := by decide +kernel
theorem dX10_work_12 : decode cX10_work 12 = .ok (.invokestatic 126, 3) := by decide +kernel
theorem dX10_work_15 : decode cX10_work 15 = .ok (.ifCond .eq 10, 3) := by decide +kernel
theorem dX10_work_18 : decode cX10_work 18 = .ok (.iload_n 1, 1) := by decide +kernel
theorem dX10_work_19 : decode cX10_work 19 = .ok (.sipush 150, 3) := by decide +kernel
theorem dX10_work_22 : decode cX10_work 22 = .ok (.if_icmp .le 7, 3) := by decide +kernel
theorem dX10_work_25 : decode cX10_work 25 = .ok (.iconst 1, 1) := by decide +kernel
theorem dX10_work_26 : decode cX10_work 26 = .ok (.goto 4, 3) := by decide +kernel
theorem dX10_work_29 : decode cX10_work 29 = .ok (.iconst 0, 1) := by decide +kernel
theorem dX10_work_30 : decode cX10_work 30 = .ok (.iconst 1, 1) := by decide +kernel
theorem dX10_work_31 : decode cX10_work 31 = .ok (.iconst 1, 1) := by decide +kernel
theorem dX10_work_32 : decode cX10_work 32 = .ok (.invokevirtual 171, 3) := by decide +kernel
theorem dX10_work_35 : decode cX10_work 35 = .ok (.ifCond .eq 5, 3) := by decide +kernel
theorem dX10_work_38 : decode cX10_work 38 = .ok (.iconst 0, 1) := by decide +kernel
theorem dX10_work_39 : decode cX10_work 39 = .ok (.ireturn, 1) := by decide +kernel
theorem dX10_work_40 : decode cX10_work 40 = .ok (.aload_n 0, 1) := by decide +kernel
theorem dX10_work_41 : decode cX10_work 41 = .ok (.getfield 194, 3) := by decide +kernel
theorem dX10_work_44 : decode cX10_work 44 = .ok (.bipush 16, 2) := by decide +kernel
theorem dX10_work_46 : decode cX10_work 46 = .ok (.if_icmp .ne 16, 3) := by decide +kernel
theorem dX10_work_49 : decode cX10_work 49 = .ok (.aload_n 0, 1) := by decide +kernel
theorem dX10_work_50 : decode cX10_work 50 = .ok (.iconst 0, 1) := by decide +kernel
theorem dX10_work_51 : decode cX10_work 51 = .ok (.putfield 95, 3) := by decide +kernel
theorem dX10_work_54 : decode cX10_work 54 = .ok (.aload_n 0, 1) := by decide +kernel
theorem dX10_work_55 : decode cX10_work 55 = .ok (.iconst (-1), 1) := by decide +kernel
theorem dX10_work_56 : decode cX10_work 56 = .ok (.putfield 9, 3) := by decide +kernel
theorem dX10_work_59 : decode cX10_work 59 = .ok (.bipush (-20), 2) := by decide +kernel
theorem dX10_work_61 : decode cX10_work 61 = .ok (.ireturn, 1) := by decide +kernel
theorem dX10_work_62 : decode cX10_work 62 = .ok (.aload_n 0, 1) := by decide +kernel
theorem dX10_work_63 : decode cX10_work 63 = .ok (.iload_n 1, 1) := by decide +kernel
theorem dX10_work_64 : decode cX10_work 64 = .ok (.invokevirtual 175, 3) := by decide +kernel
theorem dX10_work_67 : decode cX10_work 67 = .ok (.aload_n 0, 1) := by decide +kernel
theorem dX10_work_68 : decode cX10_work 68 = .ok (.iconst 0, 1) := by decide +kernel
theorem dX10_work_69 : decode cX10_work 69 = .ok (.putfield 247, 3) := by decide +kernel
theorem dX10_work_72 : decode cX10_work 72 = .ok (.aload_n 0, 1) := by decide +kernel
theorem dX10_work_73 : decode cX10_work 73 = .ok (.getfield 108, 3) := by decide +kernel
theorem dX10_work_76 : decode cX10_work 76 = .ok (.ifCond .ne 25, 3) := by decide +kernel
theorem dX10_work_79 : decode cX10_work 79 = .ok (.aload_n 0, 1) := by decide +kernel
theorem dX10_work_80 : decode cX10_work 80 = .ok (.getfield 101, 3) := by decide +kernel
theorem dX10_work_83 : decode cX10_work 83 = .ok (.aload_n 0, 1) := by decide +kernel
theorem dX10_work_84 : decode cX10_work 84 = .ok (.getfield 98, 3) := by decide +kernel
theorem dX10_work_87 : decode cX10_work 87 = .ok (.if_icmp .ge 14, 3) := by decide +kernel
theorem dX10_work_90 : decode cX10_work 90 = .ok (.aload_n 0, 1) := by decide +kernel
theorem dX10_work_91 : decode cX10_work 91 = .ok (.invokevirtual 250, 3) := by decide +kernel
theorem dX10_work_94 : decode cX10_work 94 = .ok (.aload_n 0, 1) := by decide +kernel
theorem dX10_work_95 : decode cX10_work 95 = .ok (.invokevirtual 114, 3) := by decide +kernel
theorem dX10_work_98 : decode cX10_work 98 = .ok (.goto (-26), 3) := by decide +kernel
theorem dX10_work_101 : decode cX10_work 101 = .ok (.aload_n 0, 1) := by decide +kernel
theorem dX10_work_102 : decode cX10_work 102 = .ok (.getfield 108, 3) := by decide +kernel
theorem dX10_work_105 : decode cX10_work 105 = .ok (.ifCond .eq 8, 3) := by decide +kernel
theorem dX10_work_108 : decode cX10_work 108 = .ok (.aload_n 0, 1) := by decide +kernel
theorem dX10_work_109 : decode cX10_work 109 = .ok (.invokevirtual 181, 3) := by decide +kernel
theorem dX10_work_112 : decode cX10_work 112 = .ok (.ireturn, 1) := by decide +kernel
theorem dX10_work_113 : decode cX10_work 113 = .ok (.aload_n 0, 1) := by decide +kernel
theorem dX10_work_114 : decode cX10_work 114 = .ok (.iconst (-1), 1) := by decide +kernel
theorem dX10_work_115 : decode cX10_work 115 = .ok (.putfield 9, 3) := by decide +kernel
theorem dX10_work_118 : decode cX10_work 118 = .ok (.aload_n 0, 1) := by decide +kernel
theorem dX10_work_119 : decode cX10_work 119 = .ok (.getfield 61, 3) := by decide +kernel
theorem dX10_work_122 : decode cX10_work 122 = .ok (.aload_n 0, 1) := by decide +kernel
theorem dX10_work_123 : decode cX10_work 123 = .ok (.getfield 70, 3) := by decide +kernel
theorem dX10_work_126 : decode cX10_work 126 = .ok (.aload_n 0, 1) := by decide +kernel
theorem dX10_work_127 : decode cX10_work 127 = .ok (.getfield 194, 3) := by decide +kernel
theorem dX10_work_130 : decode cX10_work 130 = .ok (.aaload, 1) := by decide +kernel
theorem dX10_work_131 : decode cX10_work 131 = .ok (.invokestatic 314, 3) := by decide +kernel
theorem dX10_work_134 : decode cX10_work 134 = .ok (.aload_n 0, 1) := by decide +kernel
theorem dX10_work_135 : decode cX10_work 135 = .ok (.dup, 1) := by decide +kernel
theorem dX10_work_136 : decode cX10_work 136 = .ok (.getfield 194, 3) := by decide +kernel
theorem dX10_work_139 : decode cX10_work 139 = .ok (.iconst 1, 1) := by decide +kernel
theorem dX10_work_140 : decode cX10_work 140 = .ok (.iadd, 1) := by decide +kernel
theorem dX10_work_141 : decode cX10_work 141 = .ok (.putfield 194, 3) := by decide +kernel
theorem dX10_work_144 : decode cX10_work 144 = .ok (.aload_n 0, 1) := by decide +kernel
theorem dX10_work_145 : decode cX10_work 145 = .ok (.iconst 0, 1) := by decide +kernel
theorem dX10_work_146 : decode cX10_work 146 = .ok (.putfield 301, 3) := by decide +kernel
theorem dX10_work_149 : decode cX10_work 149 = .ok (.aload_n 0, 1) := by decide +kernel
theorem dX10_work_150 : decode cX10_work 150 = .ok (.iconst 0, 1) := by decide +kernel
theorem dX10_work_151 : decode cX10_work 151 = .ok (.putfield 311, 3) := by decide +kernel
theorem dX10_work_154 : decode cX10_work 154 = .ok (.aload_n 0, 1) := by decide +kernel
theorem dX10_work_155 : decode cX10_work 155 = .ok (.iconst 0, 1) := by decide +kernel
theorem dX10_work_156 : decode cX10_work 156 = .ok (.putfield 197, 3) := by decide +kernel
theorem dX10_work_159 : decode cX10_work 159 = .ok (.aload_n 0, 1) := by decide +kernel
theorem dX10_work_160 : decode cX10_work 160 = .ok (.iconst 0, 1) := by decide +kernel
theorem dX10_work_161 : decode cX10_work 161 = .ok (.aload_n 0, 1) := by decide +kernel
theorem dX10_work_162 : decode cX10_work 162 = .ok (.getfield 247, 3) := by decide +kernel
theorem dX10_work_165 : decode cX10_work 165 = .ok (.invokevirtual 304, 3) := by decide +kernel
theorem dX10_work_168 : decode cX10_work 168 = .ok (.aload_n 0, 1) := by decide +kernel
theorem dX10_work_169 : decode cX10_work 169 = .ok (.getfield 311, 3) := by decide +kernel
theorem dX10_work_172 : decode cX10_work 172 = .ok (.ireturn, 1) := by decide +kernel
theorem dX10_undo_0 : decode cX10_undo 0 = .ok (.aload_n 0, 1) := by decide +kernel
theorem dX10_undo_1 : decode cX10_undo 1 = .ok (.iconst 0, 1) := by decide +kernel
theorem dX10_undo_2 : decode cX10_undo 2 = .ok (.putfield 92, 3) := by decide +kernel
theorem dX10_undo_5 : decode cX10_undo 5 = .ok (.aload_n 0, 1) := by decide +kernel
theorem dX10_undo_6 : decode cX10_undo 6 = .ok (.getfield 194, 3) := by decide +kernel
theorem dX10_undo_9 : decode cX10_undo 9 = .ok (.ifCond .ne 5, 3) := by decide +kernel
theorem dX10_undo_12 : decode cX10_undo 12 = .ok (.iconst (-1), 1) := by decide +kernel
theorem dX10_undo_13 : decode cX10_undo 13 = .ok (.ireturn, 1) := by decide +kernel
theorem dX10_undo_14 : decode cX10_undo 14 = .ok (.aload_n 0, 1) := by decide +kernel
theorem dX10_undo_15 : decode cX10_undo 15 = .ok (.dup, 1) := by decide +kernel
theorem dX10_undo_16 : decode cX10_undo 16 = .ok (.getfield 194, 3) := by decide +kernel
theorem dX10_undo_19 : decode cX10_undo 19 = .ok (.iconst 1, 1) := by decide +kernel
theorem dX10_undo_20 : decode cX10_undo 20 = .ok (.isub, 1) := by decide +kernel
theorem dX10_undo_21 : decode cX10_undo 21 = .ok (.putfield 194, 3) := by decide +kernel
theorem dX10_undo_24 : decode cX10_undo 24 = .ok (.aload_n 0, 1) := by decide +kernel
theorem dX10_undo_25 : decode cX10_undo 25 = .ok (.getfield 70, 3) := by decide +kernel
theorem dX10_undo_28 : decode cX10_undo 28 = .ok (.aload_n 0, 1) := by decide +kernel
theorem dX10_undo_29 : decode cX10_undo 29 = .ok (.getfield 194, 3) := by decide +kernel
theorem dX10_undo_32 : decode cX10_undo 32 = .ok (.aaload, 1) := by decide +kernel
theorem dX10_undo_33 : decode cX10_undo 33 = .ok (.aload_n 0, 1) := by decide +kernel
theorem dX10_undo_34 : decode cX10_undo 34 = .ok (.getfield 61, 3) := by decide +kernel
theorem dX10_undo_37 : decode cX10_undo 37 = .ok (.invokestatic 314, 3) := by decide +kernel
theorem dX10_undo_40 : decode cX10_undo 40 = .ok (.aload_n 0, 1) := by decide +kernel
theorem dX10_undo_41 : decode cX10_undo 41 = .ok (.iconst 0, 1) := by decide +kernel
theorem dX10_undo_42 : decode cX10_undo 42 = .ok (.putfield 197, 3) := by decide +kernel
theorem dX10_undo_45 : decode cX10_undo 45 = .ok (.aload_n 0, 1) := by decide +kernel
theorem dX10_undo_46 : decode cX10_undo 46 = .ok (.getfield 194, 3) := by decide +kernel
theorem dX10_undo_49 : decode cX10_undo 49 = .ok (.ireturn, 1) := by decide +kernel
theorem dX10_weightIn_0 : decode cX10_weightIn 0 = .ok (.iconst 0, 1) := by decide +kernel
theorem dX10_weightIn_1 : decode cX10_weightIn 1 = .ok (.istore_n 2, 1) := by decide +kernel
theorem dX10_weightIn_2 : decode cX10_weightIn 2 = .ok (.iconst 0, 1) := by decide +kernel
theorem dX10_weightIn_3 : decode cX10_weightIn 3 = .ok (.istore_n 3, 1) := by decide +kernel
theorem dX10_weightIn_4 : decode cX10_weightIn 4 = .ok (.iload_n 3, 1) := by decide +kernel
theorem dX10_weightIn_5 : decode cX10_weightIn 5 = .ok (.aload_n 0, 1) := by decide +kernel
theorem dX10_weightIn_6 : decode cX10_weightIn 6 = .ok (.getfield 23, 3) := by decide +kernel
theorem dX10_weightIn_9 : decode cX10_weightIn 9 = .ok (.iconst 0, 1) := by decide +kernel
theorem dX10_weightIn_10 : decode cX10_weightIn 10 = .ok (.iaload, 1) := by decide +kernel
theorem dX10_weightIn_11 : decode cX10_weightIn 11 = .ok (.if_icmp .ge 17, 3) := by decide +kernel
theorem dX10_weightIn_14 : decode cX10_weightIn 14 = .ok (.iload_n 2, 1) := by decide +kernel
theorem dX10_weightIn_15 : decode cX10_weightIn 15 = .ok (.aload_n 1, 1) := by decide +kernel
theorem dX10_weightIn_16 : decode cX10_weightIn 16 = .ok (.iconst 0, 1) := by decide +kernel
theorem dX10_weightIn_17 : decode cX10_weightIn 17 = .ok (.iload_n 3, 1) := by decide +kernel
theorem dX10_weightIn_18 : decode cX10_weightIn 18 = .ok (.iadd, 1) := by decide +kernel
theorem dX10_weightIn_19 : decode cX10_weightIn 19 = .ok (.iaload, 1) := by decide +kernel
theorem dX10_weightIn_20 : decode cX10_weightIn 20 = .ok (.iadd, 1) := by decide +kernel
theorem dX10_weightIn_21 : decode cX10_weightIn 21 = .ok (.istore_n 2, 1) := by decide +kernel
theorem dX10_weightIn_22 : decode cX10_weightIn 22 = .ok (.iinc 3 1, 3) := by decide +kernel
theorem dX10_weightIn_25 : decode cX10_weightIn 25 = .ok (.goto (-21), 3) := by decide +kernel
theorem dX10_weightIn_28 : decode cX10_weightIn 28 = .ok (.iload_n 2, 1) := by decide +kernel
theorem dX10_weightIn_29 : decode cX10_weightIn 29 = .ok (.ireturn, 1) := by decide +kernel
theorem dX10_notSo_0 : decode cX10_notSo 0 = .ok (.iconst 0, 1) := by decide +kernel
theorem dX10_notSo_1 : decode cX10_notSo 1 = .ok (.istore_n 1, 1) := by decide +kernel
theorem dX10_notSo_2 : decode cX10_notSo 2 = .ok (.iconst 0, 1) := by decide +kernel
theorem dX10_notSo_3 : decode cX10_notSo 3 = .ok (.istore_n 2, 1) := by decide +kernel
theorem dX10_notSo_4 : decode cX10_notSo 4 = .ok (.iload_n 2, 1) := by decide +kernel
theorem dX10_notSo_5 : decode cX10_notSo 5 = .ok (.aload_n 0, 1) := by decide +kernel
theorem dX10_notSo_6 : decode cX10_notSo 6 = .ok (.bipush 56, 2) := by decide +kernel
theorem dX10_notSo_8 : decode cX10_notSo 8 = .ok (.iaload, 1) := by decide +kernel
theorem dX10_notSo_9 : decode cX10_notSo 9 = .ok (.if_icmp .ge 57, 3) := by decide +kernel
theorem dX10_notSo_12 : decode cX10_notSo 12 = .ok (.bipush 16, 2) := by decide +kernel
theorem dX10_notSo_14 : decode cX10_notSo 14 = .ok (.iconst 4, 1) := by decide +kernel
theorem dX10_notSo_15 : decode cX10_notSo 15 = .ok (.iload_n 2, 1) := by decide +kernel
theorem dX10_notSo_16 : decode cX10_notSo 16 = .ok (.imul, 1) := by decide +kernel
theorem dX10_notSo_17 : decode cX10_notSo 17 = .ok (.iadd, 1) := by decide +kernel
theorem dX10_notSo_18 : decode cX10_notSo 18 = .ok (.istore_n 3, 1) := by decide +kernel
theorem dX10_notSo_19 : decode cX10_notSo 19 = .ok (.iload_n 1, 1) := by decide +kernel
theorem dX10_notSo_20 : decode cX10_notSo 20 = .ok (.aload_n 0, 1) := by decide +kernel
theorem dX10_notSo_21 : decode cX10_notSo 21 = .ok (.iconst 0, 1) := by decide +kernel
theorem dX10_notSo_22 : decode cX10_notSo 22 = .ok (.aload_n 0, 1) := by decide +kernel
theorem dX10_notSo_23 : decode cX10_notSo 23 = .ok (.iload_n 3, 1) := by decide +kernel
theorem dX10_notSo_24 : decode cX10_notSo 24 = .ok (.iaload, 1) := by decide +kernel
theorem dX10_notSo_25 : decode cX10_notSo 25 = .ok (.iadd, 1) := by decide +kernel
theorem dX10_notSo_26 : decode cX10_notSo 26 = .ok (.iaload, 1) := by decide +kernel
theorem dX10_notSo_27 : decode cX10_notSo 27 = .ok (.aload_n 0, 1) := by decide +kernel
theorem dX10_notSo_28 : decode cX10_notSo 28 = .ok (.iload_n 3, 1) := by decide +kernel
theorem dX10_notSo_29 : decode cX10_notSo 29 = .ok (.iconst 1, 1) := by decide +kernel
theorem dX10_notSo_30 : decode cX10_notSo 30 = .ok (.iadd, 1) := by decide +kernel
theorem dX10_notSo_31 : decode cX10_notSo 31 = .ok (.iaload, 1) := by decide +kernel
theorem dX10_notSo_32 : decode cX10_notSo 32 = .ok (.imul, 1) := by decide +kernel
theorem dX10_notSo_33 : decode cX10_notSo 33 = .ok (.aload_n 0, 1) := by decide +kernel
theorem dX10_notSo_34 : decode cX10_notSo 34 = .ok (.iconst 0, 1) := by decide +kernel
theorem dX10_notSo_35 : decode cX10_notSo 35 = .ok (.aload_n 0, 1) := by decide +kernel
theorem dX10_notSo_36 : decode cX10_notSo 36 = .ok (.iload_n 3, 1) := by decide +kernel
theorem dX10_notSo_37 : decode cX10_notSo 37 = .ok (.iconst 2, 1) := by decide +kernel
theorem dX10_notSo_38 : decode cX10_notSo 38 = .ok (.iadd, 1) := by decide +kernel
theorem dX10_notSo_39 : decode cX10_notSo 39 = .ok (.iaload, 1) := by decide +kernel
theorem dX10_notSo_40 : decode cX10_notSo 40 = .ok (.iadd, 1) := by decide +kernel
theorem dX10_notSo_41 : decode cX10_notSo 41 = .ok (.iaload, 1) := by decide +kernel
theorem dX10_notSo_42 : decode cX10_notSo 42 = .ok (.aload_n 0, 1) := by decide +kernel
theorem dX10_notSo_43 : decode cX10_notSo 43 = .ok (.iload_n 3, 1) := by decide +kernel
theorem dX10_notSo_44 : decode cX10_notSo 44 = .ok (.iconst 3, 1) := by decide +kernel
theorem dX10_notSo_45 : decode cX10_notSo 45 = .ok (.iadd, 1) := by decide +kernel
theorem dX10_notSo_46 : decode cX10_notSo 46 = .ok (.iaload, 1) := by decide +kernel
theorem dX10_notSo_47 : decode cX10_notSo 47 = .ok (.imul, 1) := by decide +kernel
theorem dX10_notSo_48 : decode cX10_notSo 48 = .ok (.if_icmp .ge 9, 3) := by decide +kernel
theorem dX10_notSo_51 : decode cX10_notSo 51 = .ok (.iconst 1, 1) := by decide +kernel
theorem dX10_notSo_52 : decode cX10_notSo 52 = .ok (.iload_n 2, 1) := by decide +kernel
theorem dX10_notSo_53 : decode cX10_notSo 53 = .ok (.ishl, 1) := by decide +kernel
theorem dX10_notSo_54 : decode cX10_notSo 54 = .ok (.goto 4, 3) := by decide +kernel
theorem dX10_notSo_57 : decode cX10_notSo 57 = .ok (.iconst 0, 1) := by decide +kernel
theorem dX10_notSo_58 : decode cX10_notSo 58 = .ok (.ior, 1) := by decide +kernel
theorem dX10_notSo_59 : decode cX10_notSo 59 = .ok (.istore_n 1, 1) := by decide +kernel
theorem dX10_notSo_60 : decode cX10_notSo 60 = .ok (.iinc 2 1, 3) := by decide +kernel
theorem dX10_notSo_63 : decode cX10_notSo 63 = .ok (.goto (-59), 3) := by decide +kernel
theorem dX10_notSo_66 : decode cX10_notSo 66 = .ok (.iload_n 1, 1) := by decide +kernel
theorem dX10_notSo_67 : decode cX10_notSo 67 = .ok (.ireturn, 1) := by decide +kernel
theorem dX10_criedIn_0 : decode cX10_criedIn 0 = .ok (.iconst 0, 1) := by decide +kernel
theorem dX10_criedIn_1 : decode cX10_criedIn 1 = .ok (.istore_n 2, 1) := by decide +kernel
theorem dX10_criedIn_2 : decode cX10_criedIn 2 = .ok (.iconst 0, 1) := by decide +kernel
theorem dX10_criedIn_3 : decode cX10_criedIn 3 = .ok (.istore_n 3, 1) := by decide +kernel
theorem dX10_criedIn_4 : decode cX10_criedIn 4 = .ok (.iload_n 3, 1) := by decide +kernel
theorem dX10_criedIn_5 : decode cX10_criedIn 5 = .ok (.aload_n 0, 1) := by decide +kernel
theorem dX10_criedIn_6 : decode cX10_criedIn 6 = .ok (.getfield 23, 3) := by decide +kernel
theorem dX10_criedIn_9 : decode cX10_criedIn 9 = .ok (.iconst 0, 1) := by decide +kernel
theorem dX10_criedIn_10 : decode cX10_criedIn 10 = .ok (.iaload, 1) := by decide +kernel
theorem dX10_criedIn_11 : decode cX10_criedIn 11 = .ok (.if_icmp .ge 27, 3) := by decide +kernel
theorem dX10_criedIn_14 : decode cX10_criedIn 14 = .ok (.iload_n 2, 1) := by decide +kernel
theorem dX10_criedIn_15 : decode cX10_criedIn 15 = .ok (.aload_n 1, 1) := by decide +kernel
theorem dX10_criedIn_16 : decode cX10_criedIn 16 = .ok (.iload_n 3, 1) := by decide +kernel
theorem dX10_criedIn_17 : decode cX10_criedIn 17 = .ok (.invokestatic 256, 3) := by decide +kernel
theorem dX10_criedIn_20 : decode cX10_criedIn 20 = .ok (.ifCond .ne 7, 3) := by decide +kernel
theorem dX10_criedIn_23 : decode cX10_criedIn 23 = .ok (.iconst 0, 1) := by decide +kernel
theorem dX10_criedIn_24 : decode cX10_criedIn 24 = .ok (.goto 6, 3) := by decide +kernel
theorem dX10_criedIn_27 : decode cX10_criedIn 27 = .ok (.iconst 1, 1) := by decide +kernel
theorem dX10_criedIn_28 : decode cX10_criedIn 28 = .ok (.iload_n 3, 1) := by decide +kernel
theorem dX10_criedIn_29 : decode cX10_criedIn 29 = .ok (.ishl, 1) := by decide +kernel
theorem dX10_criedIn_30 : decode cX10_criedIn 30 = .ok (.ior, 1) := by decide +kernel
theorem dX10_criedIn_31 : decode cX10_criedIn 31 = .ok (.istore_n 2, 1) := by decide +kernel
theorem dX10_criedIn_32 : decode cX10_criedIn 32 = .ok (.iinc 3 1, 3) := by decide +kernel
theorem dX10_criedIn_35 : decode cX10_criedIn 35 = .ok (.goto (-31), 3) := by decide +kernel
theorem dX10_criedIn_38 : decode cX10_criedIn 38 = .ok (.iload_n 2, 1) := by decide +kernel
theorem dX10_criedIn_39 : decode cX10_criedIn 39 = .ok (.ireturn, 1) := by decide +kernel
theorem dX10_told_0 : decode cX10_told 0 = .ok (.aload_n 0, 1) := by decide +kernel
theorem dX10_told_1 : decode cX10_told 1 = .ok (.iconst 0, 1) := by decide +kernel
theorem dX10_told_2 : decode cX10_told 2 = .ok (.putfield 92, 3) := by decide +kernel
theorem dX10_told_5 : decode cX10_told 5 = .ok (.aload_n 0, 1) := by decide +kernel
theorem dX10_told_6 : decode cX10_told 6 = .ok (.iload_n 1, 1) := by decide +kernel
theorem dX10_told_7 : decode cX10_told 7 = .ok (.iconst 0, 1) := by decide +kernel
theorem dX10_told_8 : decode cX10_told 8 = .ok (.bipush 10, 2) := by decide +kernel
theorem dX10_told_10 : decode cX10_told 10 = .ok (.invokestatic 126, 3) := by decide +kernel
theorem dX10_told_13 : decode cX10_told 13 = .ok (.ifCond .ne 7, 3) := by decide +kernel
theorem dX10_told_16 : decode cX10_told 16 = .ok (.iconst 1, 1) := by decide +kernel
theorem dX10_told_17 : decode cX10_told 17 = .ok (.goto 4, 3) := by decide +kernel
theorem dX10_told_20 : decode cX10_told 20 = .ok (.iconst 0, 1) := by decide +kernel
theorem dX10_told_21 : decode cX10_told 21 = .ok (.iconst 1, 1) := by decide +kernel
theorem dX10_told_22 : decode cX10_told 22 = .ok (.iconst 1, 1) := by decide +kernel
theorem dX10_told_23 : decode cX10_told 23 = .ok (.invokevirtual 171, 3) := by decide +kernel
theorem dX10_told_26 : decode cX10_told 26 = .ok (.ifCond .eq 5, 3) := by decide +kernel
theorem dX10_told_29 : decode cX10_told 29 = .ok (.iconst 0, 1) := by decide +kernel
theorem dX10_told_30 : decode cX10_told 30 = .ok (.ireturn, 1) := by decide +kernel
theorem dX10_told_31 : decode cX10_told 31 = .ok (.iload_n 1, 1) := by decide +kernel
theorem dX10_told_32 : decode cX10_told 32 = .ok (.tableswitch 130 0 9 #[56, 63, 71, 79, 87, 94, 103, 111, 120, 125], 56) := by decide +kernel
theorem dX10_told_88 : decode cX10_told 88 = .ok (.aload_n 0, 1) := by decide +kernel
theorem dX10_told_89 : decode cX10_told 89 = .ok (.getfield 23, 3) := by decide +kernel
theorem dX10_told_92 : decode cX10_told 92 = .ok (.iconst 0, 1) := by decide +kernel
theorem dX10_told_93 : decode cX10_told 93 = .ok (.iaload, 1) := by decide +kernel
theorem dX10_told_94 : decode cX10_told 94 = .ok (.ireturn, 1) := by decide +kernel
theorem dX10_told_95 : decode cX10_told 95 = .ok (.aload_n 0, 1) := by decide +kernel
theorem dX10_told_96 : decode cX10_told 96 = .ok (.getfield 61, 3) := by decide +kernel
theorem dX10_told_99 : decode cX10_told 99 = .ok (.bipush 56, 2) := by decide +kernel
theorem dX10_told_101 : decode cX10_told 101 = .ok (.iaload, 1) := by decide +kernel
theorem dX10_told_102 : decode cX10_told 102 = .ok (.ireturn, 1) := by decide +kernel
theorem dX10_told_103 : decode cX10_told 103 = .ok (.aload_n 0, 1) := by decide +kernel
theorem dX10_told_104 : decode cX10_told 104 = .ok (.getfield 61, 3) := by decide +kernel
theorem dX10_told_107 : decode cX10_told 107 = .ok (.bipush 59, 2) := by decide +kernel
theorem dX10_told_109 : decode cX10_told 109 = .ok (.iaload, 1) := by decide +kernel
theorem dX10_told_110 : decode cX10_told 110 = .ok (.ireturn, 1) := by decide +kernel
theorem dX10_told_111 : decode cX10_told 111 = .ok (.aload_n 0, 1) := by decide +kernel
theorem dX10_told_112 : decode cX10_told 112 = .ok (.getfield 61, 3) := by decide +kernel
theorem dX10_told_115 : decode cX10_told 115 = .ok (.bipush 57, 2) := by decide +kernel
theorem dX10_told_117 : decode cX10_told 117 = .ok (.iaload, 1) := by decide +kernel
theorem dX10_told_118 : decode cX10_told 118 = .ok (.ireturn, 1) := by decide +kernel
theorem dX10_told_119 : decode cX10_told 119 = .ok (.aload_n 0, 1) := by decide +kernel
theorem dX10_told_120 : decode cX10_told 120 = .ok (.getfield 23, 3) := by decide +kernel
theorem dX10_told_123 : decode cX10_told 123 = .ok (.iconst 3, 1) := by decide +kernel
theorem dX10_told_124 : decode cX10_told 124 = .ok (.iaload, 1) := by decide +kernel
theorem dX10_told_125 : decode cX10_told 125 = .ok (.ireturn, 1) := by decide +kernel
theorem dX10_told_126 : decode cX10_told 126 = .ok (.aload_n 0, 1) := by decide +kernel
theorem dX10_told_127 : decode cX10_told 127 = .ok (.aload_n 0, 1) := by decide +kernel
theorem dX10_told_128 : decode cX10_told 128 = .ok (.getfield 61, 3) := by decide +kernel
theorem dX10_told_131 : decode cX10_told 131 = .ok (.invokevirtual 318, 3) := by decide +kernel
theorem dX10_told_134 : decode cX10_told 134 = .ok (.ireturn, 1) := by decide +kernel
theorem dX10_told_135 : decode cX10_told 135 = .ok (.aload_n 0, 1) := by decide +kernel
theorem dX10_told_136 : decode cX10_told 136 = .ok (.getfield 61, 3) := by decide +kernel
theorem dX10_told_139 : decode cX10_told 139 = .ok (.invokestatic 322, 3) := by decide +kernel
theorem dX10_told_142 : decode cX10_told 142 = .ok (.ireturn, 1) := by decide +kernel
theorem dX10_told_143 : decode cX10_told 143 = .ok (.aload_n 0, 1) := by decide +kernel
theorem dX10_told_144 : decode cX10_told 144 = .ok (.aload_n 0, 1) := by decide +kernel
theorem dX10_told_145 : decode cX10_told 145 = .ok (.getfield 61, 3) := by decide +kernel
theorem dX10_told_148 : decode cX10_told 148 = .ok (.invokevirtual 325, 3) := by decide +kernel
theorem dX10_told_151 : decode cX10_told 151 = .ok (.ireturn, 1) := by decide +kernel
theorem dX10_told_152 : decode cX10_told 152 = .ok (.aload_n 0, 1) := by decide +kernel
theorem dX10_told_153 : decode cX10_told 153 = .ok (.getfield 191, 3) := by decide +kernel
theorem dX10_told_156 : decode cX10_told 156 = .ok (.ireturn, 1) := by decide +kernel
theorem dX10_told_157 : decode cX10_told 157 = .ok (.aload_n 0, 1) := by decide +kernel
theorem dX10_told_158 : decode cX10_told 158 = .ok (.getfield 197, 3) := by decide +kernel
theorem dX10_told_161 : decode cX10_told 161 = .ok (.ireturn, 1) := by decide +kernel
theorem dX10_told_162 : decode cX10_told 162 = .ok (.aload_n 0, 1) := by decide +kernel
theorem dX10_told_163 : decode cX10_told 163 = .ok (.getfield 61, 3) := by decide +kernel
theorem dX10_told_166 : decode cX10_told 166 = .ok (.bipush 58, 2) := by decide +kernel
theorem dX10_told_168 : decode cX10_told 168 = .ok (.iaload, 1) := by decide +kernel
theorem dX10_told_169 : decode cX10_told 169 = .ok (.ireturn, 1) := by decide +kernel
theorem dX10_isThing_0 : decode cX10_isThing 0 = .ok (.iload_n 1, 1) := by decide +kernel
theorem dX10_isThing_1 : decode cX10_isThing 1 = .ok (.iconst 0, 1) := by decide +kernel
theorem dX10_isThing_2 : decode cX10_isThing 2 = .ok (.aload_n 0, 1) := by decide +kernel
theorem dX10_isThing_3 : decode cX10_isThing 3 = .ok (.getfield 23, 3) := by decide +kernel
theorem dX10_isThing_6 : decode cX10_isThing 6 = .ok (.iconst 0, 1) := by decide +kernel
theorem dX10_isThing_7 : decode cX10_isThing 7 = .ok (.iaload, 1) := by decide +kernel
theorem dX10_isThing_8 : decode cX10_isThing 8 = .ok (.iconst 1, 1) := by decide +kernel
theorem dX10_isThing_9 : decode cX10_isThing 9 = .ok (.isub, 1) := by decide +kernel
theorem dX10_isThing_10 : decode cX10_isThing 10 = .ok (.invokestatic 126, 3) := by decide +kernel
theorem dX10_isThing_13 : decode cX10_isThing 13 = .ok (.ireturn, 1) := by decide +kernel
theorem dX10_thing_0 : decode cX10_thing 0 = .ok (.aload_n 0, 1) := by decide +kernel
theorem dX10_thing_1 : decode cX10_thing 1 = .ok (.iconst 0, 1) := by decide +kernel
theorem dX10_thing_2 : decode cX10_thing 2 = .ok (.putfield 92, 3) := by decide +kernel
theorem dX10_thing_5 : decode cX10_thing 5 = .ok (.aload_n 0, 1) := by decide +kernel
theorem dX10_thing_6 : decode cX10_thing 6 = .ok (.aload_n 0, 1) := by decide +kernel
theorem dX10_thing_7 : decode cX10_thing 7 = .ok (.iload_n 1, 1) := by decide +kernel
theorem dX10_thing_8 : decode cX10_thing 8 = .ok (.invokevirtual 328, 3) := by decide +kernel
theorem dX10_thing_11 : decode cX10_thing 11 = .ok (.ifCond .ne 7, 3) := by decide +kernel
theorem dX10_thing_14 : decode cX10_thing 14 = .ok (.iconst 1, 1) := by decide +kernel
theorem dX10_thing_15 : decode cX10_thing 15 = .ok (.goto 4, 3) := by decide +kernel
theorem dX10_thing_18 : decode cX10_thing 18 = .ok (.iconst 0, 1) := by decide +kernel
theorem dX10_thing_19 : decode cX10_thing 19 = .ok (.iconst 1, 1) := by decide +kernel
theorem dX10_thing_20 : decode cX10_thing 20 = .ok (.iconst 0, 1) := by decide +kernel
theorem dX10_thing_21 : decode cX10_thing 21 = .ok (.invokevirtual 171, 3) := by decide +kernel
theorem dX10_thing_24 : decode cX10_thing 24 = .ok (.ifCond .ne 26, 3) := by decide +kernel
theorem dX10_thing_27 : decode cX10_thing 27 = .ok (.aload_n 0, 1) := by decide +kernel
theorem dX10_thing_28 : decode cX10_thing 28 = .ok (.iload_n 2, 1) := by decide +kernel
theorem dX10_thing_29 : decode cX10_thing 29 = .ok (.iconst 0, 1) := by decide +kernel
theorem dX10_thing_30 : decode cX10_thing 30 = .ok (.iconst 4, 1) := by decide +kernel
theorem dX10_thing_31 : decode cX10_thing 31 = .ok (.invokestatic 126, 3) := by decide +kernel
theorem dX10_thing_34 : decode cX10_thing 34 = .ok (.ifCond .ne 7, 3) := by decide +kernel
theorem dX10_thing_37 : decode cX10_thing 37 = .ok (.iconst 1, 1) := by decide +kernel
theorem dX10_thing_38 : decode cX10_thing 38 = .ok (.goto 4, 3) := by decide +kernel
theorem dX10_thing_41 : decode cX10_thing 41 = .ok (.iconst 0, 1) := by decide +kernel
theorem dX10_thing_42 : decode cX10_thing 42 = .ok (.iconst 2, 1) := by decide +kernel
theorem dX10_thing_43 : decode cX10_thing 43 = .ok (.iconst 1, 1) := by decide +kernel
theorem dX10_thing_44 : decode cX10_thing 44 = .ok (.invokevirtual 171, 3) := by decide +kernel
theorem dX10_thing_47 : decode cX10_thing 47 = .ok (.ifCond .eq 5, 3) := by decide +kernel
theorem dX10_thing_50 : decode cX10_thing 50 = .ok (.iconst 0, 1) := by decide +kernel
theorem dX10_thing_51 : decode cX10_thing 51 = .ok (.ireturn, 1) := by decide +kernel
theorem dX10_thing_52 : decode cX10_thing 52 = .ok (.iload_n 2, 1) := by decide +kernel
theorem dX10_thing_53 : decode cX10_thing 53 = .ok (.tableswitch 66 0 3 #[31, 40, 47, 57], 31) := by decide +kernel
theorem dX10_thing_84 : decode cX10_thing 84 = .ok (.aload_n 0, 1) := by decide +kernel
theorem dX10_thing_85 : decode cX10_thing 85 = .ok (.getfield 61, 3) := by decide +kernel
theorem dX10_thing_88 : decode cX10_thing 88 = .ok (.iconst 0, 1) := by decide +kernel
theorem dX10_thing_89 : decode cX10_thing 89 = .ok (.iload_n 1, 1) := by decide +kernel
theorem dX10_thing_90 : decode cX10_thing 90 = .ok (.iadd, 1) := by decide +kernel
theorem dX10_thing_91 : decode cX10_thing 91 = .ok (.iaload, 1) := by decide +kernel
theorem dX10_thing_92 : decode cX10_thing 92 = .ok (.ireturn, 1) := by decide +kernel
theorem dX10_thing_93 : decode cX10_thing 93 = .ok (.aload_n 0, 1) := by decide +kernel
theorem dX10_thing_94 : decode cX10_thing 94 = .ok (.getfield 29, 3) := by decide +kernel
theorem dX10_thing_97 : decode cX10_thing 97 = .ok (.iload_n 1, 1) := by decide +kernel
theorem dX10_thing_98 : decode cX10_thing 98 = .ok (.iaload, 1) := by decide +kernel
theorem dX10_thing_99 : decode cX10_thing 99 = .ok (.ireturn, 1) := by decide +kernel
theorem dX10_thing_100 : decode cX10_thing 100 = .ok (.aload_n 0, 1) := by decide +kernel
theorem dX10_thing_101 : decode cX10_thing 101 = .ok (.getfield 61, 3) := by decide +kernel
theorem dX10_thing_104 : decode cX10_thing 104 = .ok (.bipush 8, 2) := by decide +kernel
theorem dX10_thing_106 : decode cX10_thing 106 = .ok (.iload_n 1, 1) := by decide +kernel
theorem dX10_thing_107 : decode cX10_thing 107 = .ok (.iadd, 1) := by decide +kernel
theorem dX10_thing_108 : decode cX10_thing 108 = .ok (.iaload, 1) := by decide +kernel
theorem dX10_thing_109 : decode cX10_thing 109 = .ok (.ireturn, 1) := by decide +kernel
theorem dX10_thing_110 : decode cX10_thing 110 = .ok (.aload_n 0, 1) := by decide +kernel
theorem dX10_thing_111 : decode cX10_thing 111 = .ok (.getfield 61, 3) := by decide +kernel
theorem dX10_thing_114 : decode cX10_thing 114 = .ok (.iload_n 1, 1) := by decide +kernel
theorem dX10_thing_115 : decode cX10_thing 115 = .ok (.invokestatic 256, 3) := by decide +kernel
theorem dX10_thing_118 : decode cX10_thing 118 = .ok (.ireturn, 1) := by decide +kernel
theorem dX10_thing_119 : decode cX10_thing 119 = .ok (.aload_n 0, 1) := by decide +kernel
theorem dX10_thing_120 : decode cX10_thing 120 = .ok (.aload_n 0, 1) := by decide +kernel
theorem dX10_thing_121 : decode cX10_thing 121 = .ok (.getfield 61, 3) := by decide +kernel
theorem dX10_thing_124 : decode cX10_thing 124 = .ok (.iload_n 1, 1) := by decide +kernel
theorem dX10_thing_125 : decode cX10_thing 125 = .ok (.invokevirtual 283, 3) := by decide +kernel
theorem dX10_thing_128 : decode cX10_thing 128 = .ok (.ireturn, 1) := by decide +kernel
theorem dX10_cry_0 : decode cX10_cry 0 = .ok (.aload_n 0, 1) := by decide +kernel
theorem dX10_cry_1 : decode cX10_cry 1 = .ok (.iconst 0, 1) := by decide +kernel
theorem dX10_cry_2 : decode cX10_cry 2 = .ok (.putfield 92, 3) := by decide +kernel
theorem dX10_cry_5 : decode cX10_cry 5 = .ok (.aload_n 0, 1) := by decide +kernel
theorem dX10_cry_6 : decode cX10_cry 6 = .ok (.iload_n 1, 1) := by decide +kernel
theorem dX10_cry_7 : decode cX10_cry 7 = .ok (.iconst 0, 1) := by decide +kernel
theorem dX10_cry_8 : decode cX10_cry 8 = .ok (.aload_n 0, 1) := by decide +kernel
theorem dX10_cry_9 : decode cX10_cry 9 = .ok (.getfield 61, 3) := by decide +kernel
theorem dX10_cry_12 : decode cX10_cry 12 = .ok (.bipush 56, 2) := by decide +kernel
theorem dX10_cry_14 : decode cX10_cry 14 = .ok (.iaload, 1) := by decide +kernel
theorem dX10_cry_15 : decode cX10_cry 15 = .ok (.iconst 1, 1) := by decide +kernel
theorem dX10_cry_16 : decode cX10_cry 16 = .ok (.isub, 1) := by decide +kernel
theorem dX10_cry_17 : decode cX10_cry 17 = .ok (.invokestatic 126, 3) := by decide +kernel
theorem dX10_cry_20 : decode cX10_cry 20 = .ok (.ifCond .ne 7, 3) := by decide +kernel
theorem dX10_cry_23 : decode cX10_cry 23 = .ok (.iconst 1, 1) := by decide +kernel
theorem dX10_cry_24 : decode cX10_cry 24 = .ok (.goto 4, 3) := by decide +kernel
theorem dX10_cry_27 : decode cX10_cry 27 = .ok (.iconst 0, 1) := by decide +kernel
theorem dX10_cry_28 : decode cX10_cry 28 = .ok (.iconst 1, 1) := by decide +kernel
theorem dX10_cry_29 : decode cX10_cry 29 = .ok (.iconst 0, 1) := by decide +kernel
theorem dX10_cry_30 : decode cX10_cry 30 = .ok (.invokevirtual 171, 3) := by decide +kernel
theorem dX10_cry_33 : decode cX10_cry 33 = .ok (.ifCond .ne 26, 3) := by decide +kernel
theorem dX10_cry_36 : decode cX10_cry 36 = .ok (.aload_n 0, 1) := by decide +kernel
theorem dX10_cry_37 : decode cX10_cry 37 = .ok (.iload_n 2, 1) := by decide +kernel
theorem dX10_cry_38 : decode cX10_cry 38 = .ok (.iconst 0, 1) := by decide +kernel
theorem dX10_cry_39 : decode cX10_cry 39 = .ok (.iconst 3, 1) := by decide +kernel
theorem dX10_cry_40 : decode cX10_cry 40 = .ok (.invokestatic 126, 3) := by decide +kernel
theorem dX10_cry_43 : decode cX10_cry 43 = .ok (.ifCond .ne 7, 3) := by decide +kernel
theorem dX10_cry_46 : decode cX10_cry 46 = .ok (.iconst 1, 1) := by decide +kernel
theorem dX10_cry_47 : decode cX10_cry 47 = .ok (.goto 4, 3) := by decide +kernel
theorem dX10_cry_50 : decode cX10_cry 50 = .ok (.iconst 0, 1) := by decide +kernel
theorem dX10_cry_51 : decode cX10_cry 51 = .ok (.iconst 2, 1) := by decide +kernel
theorem dX10_cry_52 : decode cX10_cry 52 = .ok (.iconst 1, 1) := by decide +kernel
theorem dX10_cry_53 : decode cX10_cry 53 = .ok (.invokevirtual 171, 3) := by decide +kernel
theorem dX10_cry_56 : decode cX10_cry 56 = .ok (.ifCond .eq 5, 3) := by decide +kernel
theorem dX10_cry_59 : decode cX10_cry 59 = .ok (.iconst 0, 1) := by decide +kernel
theorem dX10_cry_60 : decode cX10_cry 60 = .ok (.ireturn, 1) := by decide +kernel
theorem dX10_cry_61 : decode cX10_cry 61 = .ok (.aload_n 0, 1) := by decide +kernel
theorem dX10_cry_62 : decode cX10_cry 62 = .ok (.getfield 61, 3) := by decide +kernel
theorem dX10_cry_65 : decode cX10_cry 65 = .ok (.bipush 16, 2) := by decide +kernel
theorem dX10_cry_67 : decode cX10_cry 67 = .ok (.iconst 4, 1) := by decide +kernel
theorem dX10_cry_68 : decode cX10_cry 68 = .ok (.iload_n 1, 1) := by decide +kernel
theorem dX10_cry_69 : decode cX10_cry 69 = .ok (.imul, 1) := by decide +kernel
theorem dX10_cry_70 : decode cX10_cry 70 = .ok (.iadd, 1) := by decide +kernel
theorem dX10_cry_71 : decode cX10_cry 71 = .ok (.iload_n 2, 1) := by decide +kernel
theorem dX10_cry_72 : decode cX10_cry 72 = .ok (.iadd, 1) := by decide +kernel
theorem dX10_cry_73 : decode cX10_cry 73 = .ok (.iaload, 1) := by decide +kernel
theorem dX10_cry_74 : decode cX10_cry 74 = .ok (.ireturn, 1) := by decide +kernel
theorem dX10_stands_0 : decode cX10_stands 0 = .ok (.aload_n 0, 1) := by decide +kernel
theorem dX10_stands_1 : decode cX10_stands 1 = .ok (.iconst 0, 1) := by decide +kernel
theorem dX10_stands_2 : decode cX10_stands 2 = .ok (.putfield 92, 3) := by decide +kernel
theorem dX10_stands_5 : decode cX10_stands 5 = .ok (.aload_n 0, 1) := by decide +kernel
theorem dX10_stands_6 : decode cX10_stands 6 = .ok (.aload_n 0, 1) := by decide +kernel
theorem dX10_stands_7 : decode cX10_stands 7 = .ok (.iload_n 1, 1) := by decide +kernel
theorem dX10_stands_8 : decode cX10_stands 8 = .ok (.invokevirtual 328, 3) := by decide +kernel
theorem dX10_stands_11 : decode cX10_stands 11 = .ok (.ifCond .eq 11, 3) := by decide +kernel
theorem dX10_stands_14 : decode cX10_stands 14 = .ok (.aload_n 0, 1) := by decide +kernel
theorem dX10_stands_15 : decode cX10_stands 15 = .ok (.iload_n 3, 1) := by decide +kernel
theorem dX10_stands_16 : decode cX10_stands 16 = .ok (.invokevirtual 328, 3) := by decide +kernel
theorem dX10_stands_19 : decode cX10_stands 19 = .ok (.ifCond .ne 7, 3) := by decide +kernel
theorem dX10_stands_22 : decode cX10_stands 22 = .ok (.iconst 1, 1) := by decide +kernel
theorem dX10_stands_23 : decode cX10_stands 23 = .ok (.goto 4, 3) := by decide +kernel
theorem dX10_stands_26 : decode cX10_stands 26 = .ok (.iconst 0, 1) := by decide +kernel
theorem dX10_stands_27 : decode cX10_stands 27 = .ok (.iconst 1, 1) := by decide +kernel
theorem dX10_stands_28 : decode cX10_stands 28 = .ok (.iconst 0, 1) := by decide +kernel
theorem dX10_stands_29 : decode cX10_stands 29 = .ok (.invokevirtual 171, 3) := by decide +kernel
theorem dX10_stands_32 : decode cX10_stands 32 = .ok (.ifCond .ne 38, 3) := by decide +kernel
theorem dX10_stands_35 : decode cX10_stands 35 = .ok (.aload_n 0, 1) := by decide +kernel
theorem dX10_stands_36 : decode cX10_stands 36 = .ok (.iload_n 2, 1) := by decide +kernel
theorem dX10_stands_37 : decode cX10_stands 37 = .ok (.iconst 1, 1) := by decide +kernel
theorem dX10_stands_38 : decode cX10_stands 38 = .ok (.bipush 9, 2) := by decide +kernel
theorem dX10_stands_40 : decode cX10_stands 40 = .ok (.invokestatic 126, 3) := by decide +kernel
theorem dX10_stands_43 : decode cX10_stands 43 = .ok (.ifCond .eq 14, 3) := by decide +kernel
theorem dX10_stands_46 : decode cX10_stands 46 = .ok (.iload 4, 2) := by decide +kernel
theorem dX10_stands_48 : decode cX10_stands 48 = .ok (.iconst 1, 1) := by decide +kernel
theorem dX10_stands_49 : decode cX10_stands 49 = .ok (.bipush 9, 2) := by decide +kernel
theorem dX10_stands_51 : decode cX10_stands 51 = .ok (.invokestatic 126, 3) := by decide +kernel
theorem dX10_stands_54 : decode cX10_stands 54 = .ok (.ifCond .ne 7, 3) := by decide +kernel
theorem dX10_stands_57 : decode cX10_stands 57 = .ok (.iconst 1, 1) := by decide +kernel
theorem dX10_stands_58 : decode cX10_stands 58 = .ok (.goto 4, 3) := by decide +kernel
theorem dX10_stands_61 : decode cX10_stands 61 = .ok (.iconst 0, 1) := by decide +kernel
theorem dX10_stands_62 : decode cX10_stands 62 = .ok (.iconst 2, 1) := by decide +kernel
theorem dX10_stands_63 : decode cX10_stands 63 = .ok (.iconst 1, 1) := by decide +kernel
theorem dX10_stands_64 : decode cX10_stands 64 = .ok (.invokevirtual 171, 3) := by decide +kernel
theorem dX10_stands_67 : decode cX10_stands 67 = .ok (.ifCond .eq 5, 3) := by decide +kernel
theorem dX10_stands_70 : decode cX10_stands 70 = .ok (.iconst 0, 1) := by decide +kernel
theorem dX10_stands_71 : decode cX10_stands 71 = .ok (.ireturn, 1) := by decide +kernel
theorem dX10_stands_72 : decode cX10_stands 72 = .ok (.aload_n 0, 1) := by decide +kernel
theorem dX10_stands_73 : decode cX10_stands 73 = .ok (.aload_n 0, 1) := by decide +kernel
theorem dX10_stands_74 : decode cX10_stands 74 = .ok (.getfield 61, 3) := by decide +kernel
theorem dX10_stands_77 : decode cX10_stands 77 = .ok (.iload_n 1, 1) := by decide +kernel
theorem dX10_stands_78 : decode cX10_stands 78 = .ok (.iload_n 2, 1) := by decide +kernel
theorem dX10_stands_79 : decode cX10_stands 79 = .ok (.iload_n 3, 1) := by decide +kernel
theorem dX10_stands_80 : decode cX10_stands 80 = .ok (.iload 4, 2) := by decide +kernel
theorem dX10_stands_82 : decode cX10_stands 82 = .ok (.invokevirtual 271, 3) := by decide +kernel
theorem dX10_stands_85 : decode cX10_stands 85 = .ok (.ireturn, 1) := by decide +kernel
theorem dX10_would_0 : decode cX10_would 0 = .ok (.aload_n 0, 1) := by decide +kernel
theorem dX10_would_1 : decode cX10_would 1 = .ok (.iconst 0, 1) := by decide +kernel
theorem dX10_would_2 : decode cX10_would 2 = .ok (.putfield 92, 3) := by decide +kernel
theorem dX10_would_5 : decode cX10_would 5 = .ok (.aload_n 0, 1) := by decide +kernel
theorem dX10_would_6 : decode cX10_would 6 = .ok (.iload_n 1, 1) := by decide +kernel
theorem dX10_would_7 : decode cX10_would 7 = .ok (.iconst 1, 1) := by decide +kernel
theorem dX10_would_8 : decode cX10_would 8 = .ok (.bipush 60, 2) := by decide +kernel
theorem dX10_would_10 : decode cX10_would 10 = .ok (.invokestatic 126, 3) := by decide +kernel
theorem dX10_would_13 : decode cX10_would 13 = .ok (.ifCond .eq 69, 3) := by decide +kernel
theorem dX10_would_16 : decode cX10_would 16 = .ok (.iload_n 2, 1) := by decide +kernel
theorem dX10_would_17 : decode cX10_would 17 = .ok (.iconst 0, 1) := by decide +kernel
theorem dX10_would_18 : decode cX10_would 18 = .ok (.sipush 999, 3) := by decide +kernel
theorem dX10_would_21 : decode cX10_would 21 = .ok (.invokestatic 126, 3) := by decide +kernel
theorem dX10_would_24 : decode cX10_would 24 = .ok (.ifCond .eq 58, 3) := by decide +kernel
theorem dX10_would_27 : decode cX10_would 27 = .ok (.iload_n 3, 1) := by decide +kernel
theorem dX10_would_28 : decode cX10_would 28 = .ok (.iconst 0, 1) := by decide +kernel
theorem dX10_would_29 : decode cX10_would 29 = .ok (.bipush 10, 2) := by decide +kernel
theorem dX10_would_31 : decode cX10_would 31 = .ok (.invokestatic 126, 3) := by decide +kernel
theorem dX10_would_34 : decode cX10_would 34 = .ok (.ifCond .eq 48, 3) := by decide +kernel
theorem dX10_would_37 : decode cX10_would 37 = .ok (.iload 4, 2) := by decide +kernel
theorem dX10_would_39 : decode cX10_would 39 = .ok (.iconst 0, 1) := by decide +kernel
theorem dX10_would_40 : decode cX10_would 40 = .ok (.bipush 7, 2) := by decide +kernel
theorem dX10_would_42 : decode cX10_would 42 = .ok (.invokestatic 126, 3) := by decide +kernel
theorem dX10_would_45 : decode cX10_would 45 = .ok (.ifCond .eq 37, 3) := by decide +kernel
theorem dX10_would_48 : decode cX10_would 48 = .ok (.iload 5, 2) := by decide +kernel
theorem dX10_would_50 : decode cX10_would 50 = .ok (.iconst 0, 1) := by decide +kernel
theorem dX10_would_51 : decode cX10_would 51 = .ok (.sipush 300, 3) := by decide +kernel
theorem dX10_would_54 : decode cX10_would 54 = .ok (.invokestatic 126, 3) := by decide +kernel
theorem dX10_would_57 : decode cX10_would 57 = .ok (.ifCond .eq 25, 3) := by decide +kernel
theorem dX10_would_60 : decode cX10_would 60 = .ok (.iload 6, 2) := by decide +kernel
theorem dX10_would_62 : decode cX10_would 62 = .ok (.iconst 0, 1) := by decide +kernel
theorem dX10_would_63 : decode cX10_would 63 = .ok (.bipush 18, 2) := by decide +kernel
theorem dX10_would_65 : decode cX10_would 65 = .ok (.invokestatic 126, 3) := by decide +kernel
theorem dX10_would_68 : decode cX10_would 68 = .ok (.ifCond .eq 14, 3) := by decide +kernel
theorem dX10_would_71 : decode cX10_would 71 = .ok (.iload 7, 2) := by decide +kernel
theorem dX10_would_73 : decode cX10_would 73 = .ok (.iconst 0, 1) := by decide +kernel
theorem dX10_would_74 : decode cX10_would 74 = .ok (.bipush 9, 2) := by decide +kernel
theorem dX10_would_76 : decode cX10_would 76 = .ok (.invokestatic 126, 3) := by decide +kernel
theorem dX10_would_79 : decode cX10_would 79 = .ok (.ifCond .ne 7, 3) := by decide +kernel
theorem dX10_would_82 : decode cX10_would 82 = .ok (.iconst 1, 1) := by decide +kernel
theorem dX10_would_83 : decode cX10_would 83 = .ok (.goto 4, 3) := by decide +kernel
theorem dX10_would_86 : decode cX10_would 86 = .ok (.iconst 0, 1) := by decide +kernel
theorem dX10_would_87 : decode cX10_would 87 = .ok (.iconst 1, 1) := by decide +kernel
theorem dX10_would_88 : decode cX10_would 88 = .ok (.iconst 1, 1) := by decide +kernel
theorem dX10_would_89 : decode cX10_would 89 = .ok (.invokevirtual 171, 3) := by decide +kernel
theorem dX10_would_92 : decode cX10_would 92 = .ok (.ifCond .eq 5, 3) := by decide +kernel
theorem dX10_would_95 : decode cX10_would 95 = .ok (.iconst 0, 1) := by decide +kernel
theorem dX10_would_96 : decode cX10_would 96 = .ok (.ireturn, 1) := by decide +kernel
theorem dX10_would_97 : decode cX10_would 97 = .ok (.aload_n 0, 1) := by decide +kernel
theorem dX10_would_98 : decode cX10_would 98 = .ok (.iload_n 1, 1) := by decide +kernel
theorem dX10_would_99 : decode cX10_would 99 = .ok (.iload_n 2, 1) := by decide +kernel
theorem dX10_would_100 : decode cX10_would 100 = .ok (.iload_n 3, 1) := by decide +kernel
theorem dX10_would_101 : decode cX10_would 101 = .ok (.iload 4, 2) := by decide +kernel
theorem dX10_would_103 : decode cX10_would 103 = .ok (.iload 5, 2) := by decide +kernel
theorem dX10_would_105 : decode cX10_would 105 = .ok (.iload 6, 2) := by decide +kernel
theorem dX10_would_107 : decode cX10_would 107 = .ok (.iload 7, 2) := by decide +kernel
theorem dX10_would_109 : decode cX10_would 109 = .ok (.invokevirtual 263, 3) := by decide +kernel
theorem dX10_would_112 : decode cX10_would 112 = .ok (.ireturn, 1) := by decide +kernel
theorem dX10_heaviestIn_0 : decode cX10_heaviestIn 0 = .ok (.iconst (-1), 1) := by decide +kernel
theorem dX10_heaviestIn_1 : decode cX10_heaviestIn 1 = .ok (.istore_n 2, 1) := by decide +kernel
theorem dX10_heaviestIn_2 : decode cX10_heaviestIn 2 = .ok (.iconst 0, 1) := by decide +kernel
theorem dX10_heaviestIn_3 : decode cX10_heaviestIn 3 = .ok (.istore_n 3, 1) := by decide +kernel
theorem dX10_heaviestIn_4 : decode cX10_heaviestIn 4 = .ok (.iload_n 3, 1) := by decide +kernel
theorem dX10_heaviestIn_5 : decode cX10_heaviestIn 5 = .ok (.aload_n 0, 1) := by decide +kernel
theorem dX10_heaviestIn_6 : decode cX10_heaviestIn 6 = .ok (.getfield 23, 3) := by decide +kernel
theorem dX10_heaviestIn_9 : decode cX10_heaviestIn 9 = .ok (.iconst 0, 1) := by decide +kernel
theorem dX10_heaviestIn_10 : decode cX10_heaviestIn 10 = .ok (.iaload, 1) := by decide +kernel
theorem dX10_heaviestIn_11 : decode cX10_heaviestIn 11 = .ok (.if_icmp .ge 33, 3) := by decide +kernel
theorem dX10_heaviestIn_14 : decode cX10_heaviestIn 14 = .ok (.iload_n 2, 1) := by decide +kernel
theorem dX10_heaviestIn_15 : decode cX10_heaviestIn 15 = .ok (.iconst (-1), 1) := by decide +kernel
theorem dX10_heaviestIn_16 : decode cX10_heaviestIn 16 = .ok (.if_icmp .eq 16, 3) := by decide +kernel
theorem dX10_heaviestIn_19 : decode cX10_heaviestIn 19 = .ok (.aload_n 1, 1) := by decide +kernel
theorem dX10_heaviestIn_20 : decode cX10_heaviestIn 20 = .ok (.iconst 0, 1) := by decide +kernel
theorem dX10_heaviestIn_21 : decode cX10_heaviestIn 21 = .ok (.iload_n 3, 1) := by decide +kernel
theorem dX10_heaviestIn_22 : decode cX10_heaviestIn 22 = .ok (.iadd, 1) := by decide +kernel
theorem dX10_heaviestIn_23 : decode cX10_heaviestIn 23 = .ok (.iaload, 1) := by decide +kernel
theorem dX10_heaviestIn_24 : decode cX10_heaviestIn 24 = .ok (.aload_n 1, 1) := by decide +kernel
theorem dX10_heaviestIn_25 : decode cX10_heaviestIn 25 = .ok (.iconst 0, 1) := by decide +kernel
theorem dX10_heaviestIn_26 : decode cX10_heaviestIn 26 = .ok (.iload_n 2, 1) := by decide +kernel
theorem dX10_heaviestIn_27 : decode cX10_heaviestIn 27 = .ok (.iadd, 1) := by decide +kernel
theorem dX10_heaviestIn_28 : decode cX10_heaviestIn 28 = .ok (.iaload, 1) := by decide +kernel
theorem dX10_heaviestIn_29 : decode cX10_heaviestIn 29 = .ok (.if_icmp .le 7, 3) := by decide +kernel
theorem dX10_heaviestIn_32 : decode cX10_heaviestIn 32 = .ok (.iload_n 3, 1) := by decide +kernel
theorem dX10_heaviestIn_33 : decode cX10_heaviestIn 33 = .ok (.goto 4, 3) := by decide +kernel
theorem dX10_heaviestIn_36 : decode cX10_heaviestIn 36 = .ok (.iload_n 2, 1) := by decide +kernel
theorem dX10_heaviestIn_37 : decode cX10_heaviestIn 37 = .ok (.istore_n 2, 1) := by decide +kernel
theorem dX10_heaviestIn_38 : decode cX10_heaviestIn 38 = .ok (.iinc 3 1, 3) := by decide +kernel
theorem dX10_heaviestIn_41 : decode cX10_heaviestIn 41 = .ok (.goto (-37), 3) := by decide +kernel
theorem dX10_heaviestIn_44 : decode cX10_heaviestIn 44 = .ok (.iload_n 2, 1) := by decide +kernel
theorem dX10_heaviestIn_45 : decode cX10_heaviestIn 45 = .ok (.ireturn, 1) := by decide +kernel
theorem dX10_ahead_0 : decode cX10_ahead 0 = .ok (.aload_n 0, 1) := by decide +kernel
theorem dX10_ahead_1 : decode cX10_ahead 1 = .ok (.iconst 0, 1) := by decide +kernel
theorem dX10_ahead_2 : decode cX10_ahead 2 = .ok (.putfield 92, 3) := by decide +kernel
theorem dX10_ahead_5 : decode cX10_ahead 5 = .ok (.aload_n 0, 1) := by decide +kernel
theorem dX10_ahead_6 : decode cX10_ahead 6 = .ok (.iload_n 1, 1) := by decide +kernel
theorem dX10_ahead_7 : decode cX10_ahead 7 = .ok (.iconst 0, 1) := by decide +kernel
theorem dX10_ahead_8 : decode cX10_ahead 8 = .ok (.bipush 99, 2) := by decide +kernel
theorem dX10_ahead_10 : decode cX10_ahead 10 = .ok (.invokestatic 126, 3) := by decide +kernel
theorem dX10_ahead_13 : decode cX10_ahead 13 = .ok (.ifCond .eq 12, 3) := by decide +kernel
theorem dX10_ahead_16 : decode cX10_ahead 16 = .ok (.iload_n 2, 1) := by decide +kernel
theorem dX10_ahead_17 : decode cX10_ahead 17 = .ok (.iconst 0, 1) := by decide +kernel
theorem dX10_ahead_18 : decode cX10_ahead 18 = .ok (.iconst 2, 1) := by decide +kernel
theorem dX10_ahead_19 : decode cX10_ahead 19 = .ok (.invokestatic 126, 3) := by decide +kernel
theorem dX10_ahead_22 : decode cX10_ahead 22 = .ok (.ifCond .ne 7, 3) := by decide +kernel
theorem dX10_ahead_25 : decode cX10_ahead 25 = .ok (.iconst 1, 1) := by decide +kernel
theorem dX10_ahead_26 : decode cX10_ahead 26 = .ok (.goto 4, 3) := by decide +kernel
theorem dX10_ahead_29 : decode cX10_ahead 29 = .ok (.iconst 0, 1) := by decide +kernel
theorem dX10_ahead_30 : decode cX10_ahead 30 = .ok (.iconst 1, 1) := by decide +kernel
theorem dX10_ahead_31 : decode cX10_ahead 31 = .ok (.iconst 1, 1) := by decide +kernel
theorem dX10_ahead_32 : decode cX10_ahead 32 = .ok (.invokevirtual 171, 3) := by decide +kernel
theorem dX10_ahead_35 : decode cX10_ahead 35 = .ok (.ifCond .eq 5, 3) := by decide +kernel
theorem dX10_ahead_38 : decode cX10_ahead 38 = .ok (.iconst 0, 1) := by decide +kernel
theorem dX10_ahead_39 : decode cX10_ahead 39 = .ok (.ireturn, 1) := by decide +kernel
theorem dX10_ahead_40 : decode cX10_ahead 40 = .ok (.aload_n 0, 1) := by decide +kernel
theorem dX10_ahead_41 : decode cX10_ahead 41 = .ok (.getfield 61, 3) := by decide +kernel
theorem dX10_ahead_44 : decode cX10_ahead 44 = .ok (.aload_n 0, 1) := by decide +kernel
theorem dX10_ahead_45 : decode cX10_ahead 45 = .ok (.getfield 64, 3) := by decide +kernel
theorem dX10_ahead_48 : decode cX10_ahead 48 = .ok (.invokestatic 314, 3) := by decide +kernel
theorem dX10_ahead_51 : decode cX10_ahead 51 = .ok (.iconst 0, 1) := by decide +kernel
theorem dX10_ahead_52 : decode cX10_ahead 52 = .ok (.istore_n 3, 1) := by decide +kernel
theorem dX10_ahead_53 : decode cX10_ahead 53 = .ok (.iload_n 3, 1) := by decide +kernel
theorem dX10_ahead_54 : decode cX10_ahead 54 = .ok (.iload_n 1, 1) := by decide +kernel
theorem dX10_ahead_55 : decode cX10_ahead 55 = .ok (.if_icmp .ge 17, 3) := by decide +kernel
theorem dX10_ahead_58 : decode cX10_ahead 58 = .ok (.aload_n 0, 1) := by decide +kernel
theorem dX10_ahead_59 : decode cX10_ahead 59 = .ok (.aload_n 0, 1) := by decide +kernel
theorem dX10_ahead_60 : decode cX10_ahead 60 = .ok (.getfield 64, 3) := by decide +kernel
theorem dX10_ahead_63 : decode cX10_ahead 63 = .ok (.invokevirtual 297, 3) := by decide +kernel
theorem dX10_ahead_66 : decode cX10_ahead 66 = .ok (.iinc 3 1, 3) := by decide +kernel
theorem dX10_ahead_69 : decode cX10_ahead 69 = .ok (.goto (-16), 3) := by decide +kernel
theorem dX10_ahead_72 : decode cX10_ahead 72 = .ok (.iload_n 2, 1) := by decide +kernel
theorem dX10_ahead_73 : decode cX10_ahead 73 = .ok (.ifCond .ne 14, 3) := by decide +kernel
theorem dX10_ahead_76 : decode cX10_ahead 76 = .ok (.aload_n 0, 1) := by decide +kernel
theorem dX10_ahead_77 : decode cX10_ahead 77 = .ok (.aload_n 0, 1) := by decide +kernel
theorem dX10_ahead_78 : decode cX10_ahead 78 = .ok (.getfield 64, 3) := by decide +kernel
theorem dX10_ahead_81 : decode cX10_ahead 81 = .ok (.invokevirtual 318, 3) := by decide +kernel
theorem dX10_ahead_84 : decode cX10_ahead 84 = .ok (.goto 26, 3) := by decide +kernel
theorem dX10_ahead_87 : decode cX10_ahead 87 = .ok (.iload_n 2, 1) := by decide +kernel
theorem dX10_ahead_88 : decode cX10_ahead 88 = .ok (.iconst 1, 1) := by decide +kernel
theorem dX10_ahead_89 : decode cX10_ahead 89 = .ok (.if_icmp .ne 14, 3) := by decide +kernel
theorem dX10_ahead_92 : decode cX10_ahead 92 = .ok (.aload_n 0, 1) := by decide +kernel
theorem dX10_ahead_93 : decode cX10_ahead 93 = .ok (.aload_n 0, 1) := by decide +kernel
theorem dX10_ahead_94 : decode cX10_ahead 94 = .ok (.getfield 64, 3) := by decide +kernel
theorem dX10_ahead_97 : decode cX10_ahead 97 = .ok (.invokevirtual 331, 3) := by decide +kernel
theorem dX10_ahead_100 : decode cX10_ahead 100 = .ok (.goto 10, 3) := by decide +kernel
theorem dX10_ahead_103 : decode cX10_ahead 103 = .ok (.aload_n 0, 1) := by decide +kernel
theorem dX10_ahead_104 : decode cX10_ahead 104 = .ok (.getfield 64, 3) := by decide +kernel
theorem dX10_ahead_107 : decode cX10_ahead 107 = .ok (.invokestatic 322, 3) := by decide +kernel
theorem dX10_ahead_110 : decode cX10_ahead 110 = .ok (.ireturn, 1) := by decide +kernel
theorem dX10_keeps_0 : decode cX10_keeps 0 = .ok (.lload_n 1, 1) := by decide +kernel
theorem dX10_keeps_1 : decode cX10_keeps 1 = .ok (.aload_n 0, 1) := by decide +kernel
theorem dX10_keeps_2 : decode cX10_keeps 2 = .ok (.getfield 334, 3) := by decide +kernel
theorem dX10_keeps_5 : decode cX10_keeps 5 = .ok (.lmul, 1) := by decide +kernel
theorem dX10_keeps_6 : decode cX10_keeps 6 = .ok (.aload_n 0, 1) := by decide +kernel
theorem dX10_keeps_7 : decode cX10_keeps 7 = .ok (.getfield 338, 3) := by decide +kernel
theorem dX10_keeps_10 : decode cX10_keeps 10 = .ok (.lload_n 3, 1) := by decide +kernel
theorem dX10_keeps_11 : decode cX10_keeps 11 = .ok (.lmul, 1) := by decide +kernel
theorem dX10_keeps_12 : decode cX10_keeps 12 = .ok (.lcmp, 1) := by decide +kernel
theorem dX10_keeps_13 : decode cX10_keeps 13 = .ok (.ifCond .gt 4, 3) := by decide +kernel
theorem dX10_keeps_16 : decode cX10_keeps 16 = .ok (.return_, 1) := by decide +kernel
theorem dX10_keeps_17 : decode cX10_keeps 17 = .ok (.aload_n 0, 1) := by decide +kernel
theorem dX10_keeps_18 : decode cX10_keeps 18 = .ok (.lload_n 1, 1) := by decide +kernel
theorem dX10_keeps_19 : decode cX10_keeps 19 = .ok (.putfield 338, 3) := by decide +kernel
theorem dX10_keeps_22 : decode cX10_keeps 22 = .ok (.aload_n 0, 1) := by decide +kernel
theorem dX10_keeps_23 : decode cX10_keeps 23 = .ok (.lload_n 3, 1) := by decide +kernel
theorem dX10_keeps_24 : decode cX10_keeps 24 = .ok (.putfield 334, 3) := by decide +kernel
theorem dX10_keeps_27 : decode cX10_keeps 27 = .ok (.return_, 1) := by decide +kernel
theorem dX10_chains_0 : decode cX10_chains 0 = .ok (.iload_n 1, 1) := by decide +kernel
theorem dX10_chains_1 : decode cX10_chains 1 = .ok (.iload_n 2, 1) := by decide +kernel
theorem dX10_chains_2 : decode cX10_chains 2 = .ok (.if_icmp .ne 12, 3) := by decide +kernel
theorem dX10_chains_5 : decode cX10_chains 5 = .ok (.aload_n 0, 1) := by decide +kernel
theorem dX10_chains_6 : decode cX10_chains 6 = .ok (.lload 4, 2) := by decide +kernel
theorem dX10_chains_8 : decode cX10_chains 8 = .ok (.lload 6, 2) := by decide +kernel
theorem dX10_chains_10 : decode cX10_chains 10 = .ok (.invokevirtual 341, 3) := by decide +kernel
theorem dX10_chains_13 : decode cX10_chains 13 = .ok (.return_, 1) := by decide +kernel
theorem dX10_chains_14 : decode cX10_chains 14 = .ok (.iconst 0, 1) := by decide +kernel
theorem dX10_chains_15 : decode cX10_chains 15 = .ok (.istore 8, 2) := by decide +kernel
theorem dX10_chains_17 : decode cX10_chains 17 = .ok (.iload 8, 2) := by decide +kernel
theorem dX10_chains_19 : decode cX10_chains 19 = .ok (.aload_n 0, 1) := by decide +kernel
theorem dX10_chains_20 : decode cX10_chains 20 = .ok (.getfield 61, 3) := by decide +kernel
theorem dX10_chains_23 : decode cX10_chains 23 = .ok (.bipush 56, 2) := by decide +kernel
theorem dX10_chains_25 : decode cX10_chains 25 = .ok (.iaload, 1) := by decide +kernel
theorem dX10_chains_26 : decode cX10_chains 26 = .ok (.if_icmp .ge 91, 3) := by decide +kernel
theorem dX10_chains_29 : decode cX10_chains 29 = .ok (.bipush 16, 2) := by decide +kernel
theorem dX10_chains_31 : decode cX10_chains 31 = .ok (.iconst 4, 1) := by decide +kernel
theorem dX10_chains_32 : decode cX10_chains 32 = .ok (.iload 8, 2) := by decide +kernel
theorem dX10_chains_34 : decode cX10_chains 34 = .ok (.imul, 1) := by decide +kernel
theorem dX10_chains_35 : decode cX10_chains 35 = .ok (.iadd, 1) := by decide +kernel
theorem dX10_chains_36 : decode cX10_chains 36 = .ok (.istore 9, 2) := by decide +kernel
theorem dX10_chains_38 : decode cX10_chains 38 = .ok (.aload_n 0, 1) := by decide +kernel
theorem dX10_chains_39 : decode cX10_chains 39 = .ok (.getfield 61, 3) := by decide +kernel
theorem dX10_chains_42 : decode cX10_chains 42 = .ok (.iload 9, 2) := by decide +kernel
theorem dX10_chains_44 : decode cX10_chains 44 = .ok (.iconst 2, 1) := by decide +kernel
theorem dX10_chains_45 : decode cX10_chains 45 = .ok (.iadd, 1) := by decide +kernel
theorem dX10_chains_46 : decode cX10_chains 46 = .ok (.iaload, 1) := by decide +kernel
theorem dX10_chains_47 : decode cX10_chains 47 = .ok (.istore 10, 2) := by decide +kernel
theorem dX10_chains_49 : decode cX10_chains 49 = .ok (.aload_n 0, 1) := by decide +kernel
theorem dX10_chains_50 : decode cX10_chains 50 = .ok (.getfield 61, 3) := by decide +kernel
theorem dX10_chains_53 : decode cX10_chains 53 = .ok (.iload 9, 2) := by decide +kernel
theorem dX10_chains_55 : decode cX10_chains 55 = .ok (.iaload, 1) := by decide +kernel
theorem dX10_chains_56 : decode cX10_chains 56 = .ok (.iload_n 1, 1) := by decide +kernel
theorem dX10_chains_57 : decode cX10_chains 57 = .ok (.if_icmp .ne 54, 3) := by decide +kernel
theorem dX10_chains_60 : decode cX10_chains 60 = .ok (.iload_n 3, 1) := by decide +kernel
theorem dX10_chains_61 : decode cX10_chains 61 = .ok (.iload 10, 2) := by decide +kernel
theorem dX10_chains_63 : decode cX10_chains 63 = .ok (.invokestatic 345, 3) := by decide +kernel
theorem dX10_chains_66 : decode cX10_chains 66 = .ok (.ifCond .eq 6, 3) := by decide +kernel
theorem dX10_chains_69 : decode cX10_chains 69 = .ok (.goto 42, 3) := by decide +kernel
theorem dX10_chains_72 : decode cX10_chains 72 = .ok (.aload_n 0, 1) := by decide +kernel
theorem dX10_chains_73 : decode cX10_chains 73 = .ok (.iload 10, 2) := by decide +kernel
theorem dX10_chains_75 : decode cX10_chains 75 = .ok (.iload_n 2, 1) := by decide +kernel
theorem dX10_chains_76 : decode cX10_chains 76 = .ok (.iload_n 3, 1) := by decide +kernel
theorem dX10_chains_77 : decode cX10_chains 77 = .ok (.iconst 1, 1) := by decide +kernel
theorem dX10_chains_78 : decode cX10_chains 78 = .ok (.iload 10, 2) := by decide +kernel
theorem dX10_chains_80 : decode cX10_chains 80 = .ok (.ishl, 1) := by decide +kernel
theorem dX10_chains_81 : decode cX10_chains 81 = .ok (.ior, 1) := by decide +kernel
theorem dX10_chains_82 : decode cX10_chains 82 = .ok (.lload 4, 2) := by decide +kernel
theorem dX10_chains_84 : decode cX10_chains 84 = .ok (.aload_n 0, 1) := by decide +kernel
theorem dX10_chains_85 : decode cX10_chains 85 = .ok (.getfield 61, 3) := by decide +kernel
theorem dX10_chains_88 : decode cX10_chains 88 = .ok (.iload 9, 2) := by decide +kernel
theorem dX10_chains_90 : decode cX10_chains 90 = .ok (.iconst 3, 1) := by decide +kernel
theorem dX10_chains_91 : decode cX10_chains 91 = .ok (.iadd, 1) := by decide +kernel
theorem dX10_chains_92 : decode cX10_chains 92 = .ok (.iaload, 1) := by decide +kernel
theorem dX10_chains_93 : decode cX10_chains 93 = .ok (.i2l, 1) := by decide +kernel
theorem dX10_chains_94 : decode cX10_chains 94 = .ok (.lmul, 1) := by decide +kernel
theorem dX10_chains_95 : decode cX10_chains 95 = .ok (.lload 6, 2) := by decide +kernel
theorem dX10_chains_97 : decode cX10_chains 97 = .ok (.aload_n 0, 1) := by decide +kernel
theorem dX10_chains_98 : decode cX10_chains 98 = .ok (.getfield 61, 3) := by decide +kernel
theorem dX10_chains_101 : decode cX10_chains 101 = .ok (.iload 9, 2) := by decide +kernel
theorem dX10_chains_103 : decode cX10_chains 103 = .ok (.iconst 1, 1) := by decide +kernel
theorem dX10_chains_104 : decode cX10_chains 104 = .ok (.iadd, 1) := by decide +kernel
theorem dX10_chains_105 : decode cX10_chains 105 = .ok (.iaload, 1) := by decide +kernel
theorem dX10_chains_106 : decode cX10_chains 106 = .ok (.i2l, 1) := by decide +kernel
theorem dX10_chains_107 : decode cX10_chains 107 = .ok (.lmul, 1) := by decide +kernel
theorem dX10_chains_108 : decode cX10_chains 108 = .ok (.invokevirtual 348, 3) := by decide +kernel
theorem dX10_chains_111 : decode cX10_chains 111 = .ok (.iinc 8 1, 3) := by decide +kernel
theorem dX10_chains_114 : decode cX10_chains 114 = .ok (.goto (-97), 3) := by decide +kernel
theorem dX10_chains_117 : decode cX10_chains 117 = .ok (.return_, 1) := by decide +kernel
theorem dX10_worths_0 : decode cX10_worths 0 = .ok (.aload_n 0, 1) := by decide +kernel
theorem dX10_worths_1 : decode cX10_worths 1 = .ok (.lconst 0, 1) := by decide +kernel
theorem dX10_worths_2 : decode cX10_worths 2 = .ok (.putfield 338, 3) := by decide +kernel
theorem dX10_worths_5 : decode cX10_worths 5 = .ok (.aload_n 0, 1) := by decide +kernel
theorem dX10_worths_6 : decode cX10_worths 6 = .ok (.lconst 1, 1) := by decide +kernel
theorem dX10_worths_7 : decode cX10_worths 7 = .ok (.putfield 334, 3) := by decide +kernel
theorem dX10_worths_10 : decode cX10_worths 10 = .ok (.aload_n 0, 1) := by decide +kernel
theorem dX10_worths_11 : decode cX10_worths 11 = .ok (.iload_n 1, 1) := by decide +kernel
theorem dX10_worths_12 : decode cX10_worths 12 = .ok (.iload_n 2, 1) := by decide +kernel
theorem dX10_worths_13 : decode cX10_worths 13 = .ok (.iconst 1, 1) := by decide +kernel
theorem dX10_worths_14 : decode cX10_worths 14 = .ok (.iload_n 1, 1) := by decide +kernel
theorem dX10_worths_15 : decode cX10_worths 15 = .ok (.ishl, 1) := by decide +kernel
theorem dX10_worths_16 : decode cX10_worths 16 = .ok (.lconst 1, 1) := by decide +kernel
theorem dX10_worths_17 : decode cX10_worths 17 = .ok (.lconst 1, 1) := by decide +kernel
theorem dX10_worths_18 : decode cX10_worths 18 = .ok (.invokevirtual 348, 3) := by decide +kernel
theorem dX10_worths_21 : decode cX10_worths 21 = .ok (.return_, 1) := by decide +kernel
theorem dX10_rings_0 : decode cX10_rings 0 = .ok (.iconst 0, 1) := by decide +kernel
theorem dX10_rings_1 : decode cX10_rings 1 = .ok (.istore 9, 2) := by decide +kernel
theorem dX10_rings_3 : decode cX10_rings 3 = .ok (.iload 9, 2) := by decide +kernel
theorem dX10_rings_5 : decode cX10_rings 5 = .ok (.aload_n 0, 1) := by decide +kernel
theorem dX10_rings_6 : decode cX10_rings 6 = .ok (.getfield 61, 3) := by decide +kernel
theorem dX10_rings_9 : decode cX10_rings 9 = .ok (.bipush 56, 2) := by decide +kernel
theorem dX10_rings_11 : decode cX10_rings 11 = .ok (.iaload, 1) := by decide +kernel
theorem dX10_rings_12 : decode cX10_rings 12 = .ok (.if_icmp .ge 195, 3) := by decide +kernel
theorem dX10_rings_15 : decode cX10_rings 15 = .ok (.bipush 16, 2) := by decide +kernel
theorem dX10_rings_17 : decode cX10_rings 17 = .ok (.iconst 4, 1) := by decide +kernel
theorem dX10_rings_18 : decode cX10_rings 18 = .ok (.iload 9, 2) := by decide +kernel
theorem dX10_rings_20 : decode cX10_rings 20 = .ok (.imul, 1) := by decide +kernel
theorem dX10_rings_21 : decode cX10_rings 21 = .ok (.iadd, 1) := by decide +kernel
theorem dX10_rings_22 : decode cX10_rings 22 = .ok (.istore 10, 2) := by decide +kernel
theorem dX10_rings_24 : decode cX10_rings 24 = .ok (.aload_n 0, 1) := by decide +kernel
theorem dX10_rings_25 : decode cX10_rings 25 = .ok (.getfield 61, 3) := by decide +kernel
theorem dX10_rings_28 : decode cX10_rings 28 = .ok (.iload 10, 2) := by decide +kernel
theorem dX10_rings_30 : decode cX10_rings 30 = .ok (.iconst 2, 1) := by decide +kernel
theorem dX10_rings_31 : decode cX10_rings 31 = .ok (.iadd, 1) := by decide +kernel
theorem dX10_rings_32 : decode cX10_rings 32 = .ok (.iaload, 1) := by decide +kernel
theorem dX10_rings_33 : decode cX10_rings 33 = .ok (.istore 11, 2) := by decide +kernel
theorem dX10_rings_35 : decode cX10_rings 35 = .ok (.aload_n 0, 1) := by decide +kernel
theorem dX10_rings_36 : decode cX10_rings 36 = .ok (.getfield 61, 3) := by decide +kernel
theorem dX10_rings_39 : decode cX10_rings 39 = .ok (.iload 10, 2) := by decide +kernel
theorem dX10_rings_41 : decode cX10_rings 41 = .ok (.iaload, 1) := by decide +kernel
theorem dX10_rings_42 : decode cX10_rings 42 = .ok (.iload_n 2, 1) := by decide +kernel
theorem dX10_rings_43 : decode cX10_rings 43 = .ok (.if_icmp .ne 158, 3) := by decide +kernel
theorem dX10_rings_46 : decode cX10_rings 46 = .ok (.iload 11, 2) := by decide +kernel
theorem dX10_rings_48 : decode cX10_rings 48 = .ok (.iload_n 1, 1) := by decide +kernel
theorem dX10_rings_49 : decode cX10_rings 49 = .ok (.if_icmp .lt 152, 3) := by decide +kernel
theorem dX10_rings_52 : decode cX10_rings 52 = .ok (.iload 11, 2) := by decide +kernel
theorem dX10_rings_54 : decode cX10_rings 54 = .ok (.iload_n 1, 1) := by decide +kernel
theorem dX10_rings_55 : decode cX10_rings 55 = .ok (.if_icmp .eq 15, 3) := by decide +kernel
theorem dX10_rings_58 : decode cX10_rings 58 = .ok (.iload_n 3, 1) := by decide +kernel
theorem dX10_rings_59 : decode cX10_rings 59 = .ok (.iload 11, 2) := by decide +kernel
theorem dX10_rings_61 : decode cX10_rings 61 = .ok (.invokestatic 345, 3) := by decide +kernel
theorem dX10_rings_64 : decode cX10_rings 64 = .ok (.ifCond .eq 6, 3) := by decide +kernel
theorem dX10_rings_67 : decode cX10_rings 67 = .ok (.goto 134, 3) := by decide +kernel
theorem dX10_rings_70 : decode cX10_rings 70 = .ok (.lload 5, 2) := by decide +kernel
theorem dX10_rings_72 : decode cX10_rings 72 = .ok (.aload_n 0, 1) := by decide +kernel
theorem dX10_rings_73 : decode cX10_rings 73 = .ok (.getfield 61, 3) := by decide +kernel
theorem dX10_rings_76 : decode cX10_rings 76 = .ok (.iload 10, 2) := by decide +kernel
theorem dX10_rings_78 : decode cX10_rings 78 = .ok (.iconst 3, 1) := by decide +kernel
theorem dX10_rings_79 : decode cX10_rings 79 = .ok (.iadd, 1) := by decide +kernel
theorem dX10_rings_80 : decode cX10_rings 80 = .ok (.iaload, 1) := by decide +kernel
theorem dX10_rings_81 : decode cX10_rings 81 = .ok (.i2l, 1) := by decide +kernel
theorem dX10_rings_82 : decode cX10_rings 82 = .ok (.lmul, 1) := by decide +kernel
theorem dX10_rings_83 : decode cX10_rings 83 = .ok (.lstore 12, 2) := by decide +kernel
theorem dX10_rings_85 : decode cX10_rings 85 = .ok (.lload 7, 2) := by decide +kernel
theorem dX10_rings_87 : decode cX10_rings 87 = .ok (.aload_n 0, 1) := by decide +kernel
theorem dX10_rings_88 : decode cX10_rings 88 = .ok (.getfield 61, 3) := by decide +kernel
theorem dX10_rings_91 : decode cX10_rings 91 = .ok (.iload 10, 2) := by decide +kernel
theorem dX10_rings_93 : decode cX10_rings 93 = .ok (.iconst 1, 1) := by decide +kernel
theorem dX10_rings_94 : decode cX10_rings 94 = .ok (.iadd, 1) := by decide +kernel
theorem dX10_rings_95 : decode cX10_rings 95 = .ok (.iaload, 1) := by decide +kernel
theorem dX10_rings_96 : decode cX10_rings 96 = .ok (.i2l, 1) := by decide +kernel
theorem dX10_rings_97 : decode cX10_rings 97 = .ok (.lmul, 1) := by decide +kernel
theorem dX10_rings_98 : decode cX10_rings 98 = .ok (.lstore 14, 2) := by decide +kernel
theorem dX10_rings_100 : decode cX10_rings 100 = .ok (.iload 11, 2) := by decide +kernel
theorem dX10_rings_102 : decode cX10_rings 102 = .ok (.iload_n 1, 1) := by decide +kernel
theorem dX10_rings_103 : decode cX10_rings 103 = .ok (.if_icmp .eq 30, 3) := by decide +kernel
theorem dX10_rings_106 : decode cX10_rings 106 = .ok (.aload_n 0, 1) := by decide +kernel
theorem dX10_rings_107 : decode cX10_rings 107 = .ok (.iload_n 1, 1) := by decide +kernel
theorem dX10_rings_108 : decode cX10_rings 108 = .ok (.iload 11, 2) := by decide +kernel
theorem dX10_rings_110 : decode cX10_rings 110 = .ok (.iload_n 3, 1) := by decide +kernel
theorem dX10_rings_111 : decode cX10_rings 111 = .ok (.iconst 1, 1) := by decide +kernel
theorem dX10_rings_112 : decode cX10_rings 112 = .ok (.iload 11, 2) := by decide +kernel
theorem dX10_rings_114 : decode cX10_rings 114 = .ok (.ishl, 1) := by decide +kernel
theorem dX10_rings_115 : decode cX10_rings 115 = .ok (.ior, 1) := by decide +kernel
theorem dX10_rings_116 : decode cX10_rings 116 = .ok (.iload 4, 2) := by decide +kernel
theorem dX10_rings_118 : decode cX10_rings 118 = .ok (.iconst 1, 1) := by decide +kernel
theorem dX10_rings_119 : decode cX10_rings 119 = .ok (.iload 9, 2) := by decide +kernel
theorem dX10_rings_121 : decode cX10_rings 121 = .ok (.ishl, 1) := by decide +kernel
theorem dX10_rings_122 : decode cX10_rings 122 = .ok (.ior, 1) := by decide +kernel
theorem dX10_rings_123 : decode cX10_rings 123 = .ok (.lload 12, 2) := by decide +kernel
theorem dX10_rings_125 : decode cX10_rings 125 = .ok (.lload 14, 2) := by decide +kernel
theorem dX10_rings_127 : decode cX10_rings 127 = .ok (.invokevirtual 352, 3) := by decide +kernel
theorem dX10_rings_130 : decode cX10_rings 130 = .ok (.goto 71, 3) := by decide +kernel
theorem dX10_rings_133 : decode cX10_rings 133 = .ok (.aload_n 0, 1) := by decide +kernel
theorem dX10_rings_134 : decode cX10_rings 134 = .ok (.lload 12, 2) := by decide +kernel
theorem dX10_rings_136 : decode cX10_rings 136 = .ok (.lload 14, 2) := by decide +kernel
theorem dX10_rings_138 : decode cX10_rings 138 = .ok (.invokevirtual 341, 3) := by decide +kernel
theorem dX10_rings_141 : decode cX10_rings 141 = .ok (.lload 12, 2) := by decide +kernel
theorem dX10_rings_143 : decode cX10_rings 143 = .ok (.lload 14, 2) := by decide +kernel
theorem dX10_rings_145 : decode cX10_rings 145 = .ok (.lcmp, 1) := by decide +kernel
theorem dX10_rings_146 : decode cX10_rings 146 = .ok (.ifCond .gt 6, 3) := by decide +kernel
theorem dX10_rings_149 : decode cX10_rings 149 = .ok (.goto 52, 3) := by decide +kernel
theorem dX10_rings_152 : decode cX10_rings 152 = .ok (.aload_n 0, 1) := by decide +kernel
theorem dX10_rings_153 : decode cX10_rings 153 = .ok (.getfield 76, 3) := by decide +kernel
theorem dX10_rings_156 : decode cX10_rings 156 = .ok (.iload 4, 2) := by decide +kernel
theorem dX10_rings_158 : decode cX10_rings 158 = .ok (.iconst 1, 1) := by decide +kernel
theorem dX10_rings_159 : decode cX10_rings 159 = .ok (.iload 9, 2) := by decide +kernel
theorem dX10_rings_161 : decode cX10_rings 161 = .ok (.ishl, 1) := by decide +kernel
theorem dX10_rings_162 : decode cX10_rings 162 = .ok (.ior, 1) := by decide +kernel
theorem dX10_rings_163 : decode cX10_rings 163 = .ok (.iconst 1, 1) := by decide +kernel
theorem dX10_rings_164 : decode cX10_rings 164 = .ok (.bastore, 1) := by decide +kernel
theorem dX10_rings_165 : decode cX10_rings 165 = .ok (.aload_n 0, 1) := by decide +kernel
theorem dX10_rings_166 : decode cX10_rings 166 = .ok (.aload_n 0, 1) := by decide +kernel
theorem dX10_rings_167 : decode cX10_rings 167 = .ok (.getfield 356, 3) := by decide +kernel
theorem dX10_rings_170 : decode cX10_rings 170 = .ok (.iconst (-1), 1) := by decide +kernel
theorem dX10_rings_171 : decode cX10_rings 171 = .ok (.if_icmp .ne 13, 3) := by decide +kernel
theorem dX10_rings_174 : decode cX10_rings 174 = .ok (.iload 4, 2) := by decide +kernel
theorem dX10_rings_176 : decode cX10_rings 176 = .ok (.invokestatic 260, 3) := by decide +kernel
theorem dX10_rings_179 : decode cX10_rings 179 = .ok (.iconst 1, 1) := by decide +kernel
theorem dX10_rings_180 : decode cX10_rings 180 = .ok (.iadd, 1) := by decide +kernel
theorem dX10_rings_181 : decode cX10_rings 181 = .ok (.goto 17, 3) := by decide +kernel
theorem dX10_rings_184 : decode cX10_rings 184 = .ok (.aload_n 0, 1) := by decide +kernel
theorem dX10_rings_185 : decode cX10_rings 185 = .ok (.getfield 356, 3) := by decide +kernel
theorem dX10_rings_188 : decode cX10_rings 188 = .ok (.iload 4, 2) := by decide +kernel
theorem dX10_rings_190 : decode cX10_rings 190 = .ok (.invokestatic 260, 3) := by decide +kernel
theorem dX10_rings_193 : decode cX10_rings 193 = .ok (.iconst 1, 1) := by decide +kernel
theorem dX10_rings_194 : decode cX10_rings 194 = .ok (.iadd, 1) := by decide +kernel
theorem dX10_rings_195 : decode cX10_rings 195 = .ok (.invokestatic 235, 3) := by decide +kernel
theorem dX10_rings_198 : decode cX10_rings 198 = .ok (.putfield 356, 3) := by decide +kernel
theorem dX10_rings_201 : decode cX10_rings 201 = .ok (.iinc 9 1, 3) := by decide +kernel
theorem dX10_rings_204 : decode cX10_rings 204 = .ok (.goto (-201), 3) := by decide +kernel
theorem dX10_rings_207 : decode cX10_rings 207 = .ok (.return_, 1) := by decide +kernel
theorem dX10_allRings_0 : decode cX10_allRings 0 = .ok (.aload_n 0, 1) := by decide +kernel
theorem dX10_allRings_1 : decode cX10_allRings 1 = .ok (.lconst 0, 1) := by decide +kernel
theorem dX10_allRings_2 : decode cX10_allRings 2 = .ok (.putfield 338, 3) := by decide +kernel
theorem dX10_allRings_5 : decode cX10_allRings 5 = .ok (.aload_n 0, 1) := by decide +kernel
theorem dX10_allRings_6 : decode cX10_allRings 6 = .ok (.lconst 1, 1) := by decide +kernel
theorem dX10_allRings_7 : decode cX10_allRings 7 = .ok (.putfield 334, 3) := by decide +kernel
theorem dX10_allRings_10 : decode cX10_allRings 10 = .ok (.aload_n 0, 1) := by decide +kernel
theorem dX10_allRings_11 : decode cX10_allRings 11 = .ok (.iconst (-1), 1) := by decide +kernel
theorem dX10_allRings_12 : decode cX10_allRings 12 = .ok (.putfield 356, 3) := by decide +kernel
theorem dX10_allRings_15 : decode cX10_allRings 15 = .ok (.iconst 0, 1) := by decide +kernel
theorem dX10_allRings_16 : decode cX10_allRings 16 = .ok (.istore_n 1, 1) := by decide +kernel
theorem dX10_allRings_17 : decode cX10_allRings 17 = .ok (.iload_n 1, 1) := by decide +kernel
theorem dX10_allRings_18 : decode cX10_allRings 18 = .ok (.aload_n 0, 1) := by decide +kernel
theorem dX10_allRings_19 : decode cX10_allRings 19 = .ok (.getfield 76, 3) := by decide +kernel
theorem dX10_allRings_22 : decode cX10_allRings 22 = .ok (.arraylength, 1) := by decide +kernel
theorem dX10_allRings_23 : decode cX10_allRings 23 = .ok (.if_icmp .ge 16, 3) := by decide +kernel
theorem dX10_allRings_26 : decode cX10_allRings 26 = .ok (.aload_n 0, 1) := by decide +kernel
theorem dX10_allRings_27 : decode cX10_allRings 27 = .ok (.getfield 76, 3) := by decide +kernel
theorem dX10_allRings_30 : decode cX10_allRings 30 = .ok (.iload_n 1, 1) := by decide +kernel
theorem dX10_allRings_31 : decode cX10_allRings 31 = .ok (.iconst 0, 1) := by decide +kernel
theorem dX10_allRings_32 : decode cX10_allRings 32 = .ok (.bastore, 1) := by decide +kernel
theorem dX10_allRings_33 : decode cX10_allRings 33 = .ok (.iinc 1 1, 3) := by decide +kernel
theorem dX10_allRings_36 : decode cX10_allRings 36 = .ok (.goto (-19), 3) := by decide +kernel
theorem dX10_allRings_39 : decode cX10_allRings 39 = .ok (.iconst 0, 1) := by decide +kernel
theorem dX10_allRings_40 : decode cX10_allRings 40 = .ok (.istore_n 1, 1) := by decide +kernel
theorem dX10_allRings_41 : decode cX10_allRings 41 = .ok (.iload_n 1, 1) := by decide +kernel
theorem dX10_allRings_42 : decode cX10_allRings 42 = .ok (.aload_n 0, 1) := by decide +kernel
theorem dX10_allRings_43 : decode cX10_allRings 43 = .ok (.getfield 23, 3) := by decide +kernel
theorem dX10_allRings_46 : decode cX10_allRings 46 = .ok (.iconst 0, 1) := by decide +kernel
theorem dX10_allRings_47 : decode cX10_allRings 47 = .ok (.iaload, 1) := by decide +kernel
theorem dX10_allRings_48 : decode cX10_allRings 48 = .ok (.if_icmp .ge 21, 3) := by decide +kernel
theorem dX10_allRings_51 : decode cX10_allRings 51 = .ok (.aload_n 0, 1) := by decide +kernel
theorem dX10_allRings_52 : decode cX10_allRings 52 = .ok (.iload_n 1, 1) := by decide +kernel
theorem dX10_allRings_53 : decode cX10_allRings 53 = .ok (.iload_n 1, 1) := by decide +kernel
theorem dX10_allRings_54 : decode cX10_allRings 54 = .ok (.iconst 1, 1) := by decide +kernel
theorem dX10_allRings_55 : decode cX10_allRings 55 = .ok (.iload_n 1, 1) := by decide +kernel
theorem dX10_allRings_56 : decode cX10_allRings 56 = .ok (.ishl, 1) := by decide +kernel
theorem dX10_allRings_57 : decode cX10_allRings 57 = .ok (.iconst 0, 1) := by decide +kernel
theorem dX10_allRings_58 : decode cX10_allRings 58 = .ok (.lconst 1, 1) := by decide +kernel
theorem dX10_allRings_59 : decode cX10_allRings 59 = .ok (.lconst 1, 1) := by decide +kernel
theorem dX10_allRings_60 : decode cX10_allRings 60 = .ok (.invokevirtual 352, 3) := by decide +kernel
theorem dX10_allRings_63 : decode cX10_allRings 63 = .ok (.iinc 1 1, 3) := by decide +kernel
theorem dX10_allRings_66 : decode cX10_allRings 66 = .ok (.goto (-25), 3) := by decide +kernel
theorem dX10_allRings_69 : decode cX10_allRings 69 = .ok (.return_, 1) := by decide +kernel
theorem dX10_partOf_0 : decode cX10_partOf 0 = .ok (.lload_n 2, 1) := by decide +kernel
theorem dX10_partOf_1 : decode cX10_partOf 1 = .ok (.lstore 5, 2) := by decide +kernel
theorem dX10_partOf_3 : decode cX10_partOf 3 = .ok (.lload_n 0, 1) := by decide +kernel
theorem dX10_partOf_4 : decode cX10_partOf 4 = .ok (.lstore 7, 2) := by decide +kernel
theorem dX10_partOf_6 : decode cX10_partOf 6 = .ok (.lload 7, 2) := by decide +kernel
theorem dX10_partOf_8 : decode cX10_partOf 8 = .ok (.lconst 0, 1) := by decide +kernel
theorem dX10_partOf_9 : decode cX10_partOf 9 = .ok (.lcmp, 1) := by decide +kernel
theorem dX10_partOf_10 : decode cX10_partOf 10 = .ok (.ifCond .eq 21, 3) := by decide +kernel
theorem dX10_partOf_13 : decode cX10_partOf 13 = .ok (.lload 5, 2) := by decide +kernel
theorem dX10_partOf_15 : decode cX10_partOf 15 = .ok (.lload 7, 2) := by decide +kernel
theorem dX10_partOf_17 : decode cX10_partOf 17 = .ok (.lrem, 1) := by decide +kernel
theorem dX10_partOf_18 : decode cX10_partOf 18 = .ok (.lstore 9, 2) := by decide +kernel
theorem dX10_partOf_20 : decode cX10_partOf 20 = .ok (.lload 7, 2) := by decide +kernel
theorem dX10_partOf_22 : decode cX10_partOf 22 = .ok (.lstore 5, 2) := by decide +kernel
theorem dX10_partOf_24 : decode cX10_partOf 24 = .ok (.lload 9, 2) := by decide +kernel
theorem dX10_partOf_26 : decode cX10_partOf 26 = .ok (.lstore 7, 2) := by decide +kernel
theorem dX10_partOf_28 : decode cX10_partOf 28 = .ok (.goto (-22), 3) := by decide +kernel
theorem dX10_partOf_31 : decode cX10_partOf 31 = .ok (.iload 4, 2) := by decide +kernel
theorem dX10_partOf_33 : decode cX10_partOf 33 = .ok (.ifCond .ne 10, 3) := by decide +kernel
theorem dX10_partOf_36 : decode cX10_partOf 36 = .ok (.lload_n 0, 1) := by decide +kernel
theorem dX10_partOf_37 : decode cX10_partOf 37 = .ok (.lload 5, 2) := by decide +kernel
theorem dX10_partOf_39 : decode cX10_partOf 39 = .ok (.ldiv, 1) := by decide +kernel
theorem dX10_partOf_40 : decode cX10_partOf 40 = .ok (.goto 7, 3) := by decide +kernel
theorem dX10_partOf_43 : decode cX10_partOf 43 = .ok (.lload_n 2, 1) := by decide +kernel
theorem dX10_partOf_44 : decode cX10_partOf 44 = .ok (.lload 5, 2) := by decide +kernel
theorem dX10_partOf_46 : decode cX10_partOf 46 = .ok (.ldiv, 1) := by decide +kernel
theorem dX10_partOf_47 : decode cX10_partOf 47 = .ok (.lreturn, 1) := by decide +kernel
theorem dX10_worth_0 : decode cX10_worth 0 = .ok (.aload_n 0, 1) := by decide +kernel
theorem dX10_worth_1 : decode cX10_worth 1 = .ok (.iconst 0, 1) := by decide +kernel
theorem dX10_worth_2 : decode cX10_worth 2 = .ok (.putfield 92, 3) := by decide +kernel
theorem dX10_worth_5 : decode cX10_worth 5 = .ok (.aload_n 0, 1) := by decide +kernel
theorem dX10_worth_6 : decode cX10_worth 6 = .ok (.aload_n 0, 1) := by decide +kernel
theorem dX10_worth_7 : decode cX10_worth 7 = .ok (.iload_n 1, 1) := by decide +kernel
theorem dX10_worth_8 : decode cX10_worth 8 = .ok (.invokevirtual 328, 3) := by decide +kernel
theorem dX10_worth_11 : decode cX10_worth 11 = .ok (.ifCond .eq 11, 3) := by decide +kernel
theorem dX10_worth_14 : decode cX10_worth 14 = .ok (.aload_n 0, 1) := by decide +kernel
theorem dX10_worth_15 : decode cX10_worth 15 = .ok (.iload_n 2, 1) := by decide +kernel
theorem dX10_worth_16 : decode cX10_worth 16 = .ok (.invokevirtual 328, 3) := by decide +kernel
theorem dX10_worth_19 : decode cX10_worth 19 = .ok (.ifCond .ne 7, 3) := by decide +kernel
theorem dX10_worth_22 : decode cX10_worth 22 = .ok (.iconst 1, 1) := by decide +kernel
theorem dX10_worth_23 : decode cX10_worth 23 = .ok (.goto 4, 3) := by decide +kernel
theorem dX10_worth_26 : decode cX10_worth 26 = .ok (.iconst 0, 1) := by decide +kernel
theorem dX10_worth_27 : decode cX10_worth 27 = .ok (.iconst 1, 1) := by decide +kernel
theorem dX10_worth_28 : decode cX10_worth 28 = .ok (.iconst 0, 1) := by decide +kernel
theorem dX10_worth_29 : decode cX10_worth 29 = .ok (.invokevirtual 171, 3) := by decide +kernel
theorem dX10_worth_32 : decode cX10_worth 32 = .ok (.ifCond .ne 31, 3) := by decide +kernel
theorem dX10_worth_35 : decode cX10_worth 35 = .ok (.aload_n 0, 1) := by decide +kernel
theorem dX10_worth_36 : decode cX10_worth 36 = .ok (.iload_n 1, 1) := by decide +kernel
theorem dX10_worth_37 : decode cX10_worth 37 = .ok (.iload_n 2, 1) := by decide +kernel
theorem dX10_worth_38 : decode cX10_worth 38 = .ok (.if_icmp .eq 12, 3) := by decide +kernel
theorem dX10_worth_41 : decode cX10_worth 41 = .ok (.iload_n 3, 1) := by decide +kernel
theorem dX10_worth_42 : decode cX10_worth 42 = .ok (.iconst 0, 1) := by decide +kernel
theorem dX10_worth_43 : decode cX10_worth 43 = .ok (.iconst 1, 1) := by decide +kernel
theorem dX10_worth_44 : decode cX10_worth 44 = .ok (.invokestatic 126, 3) := by decide +kernel
theorem dX10_worth_47 : decode cX10_worth 47 = .ok (.ifCond .ne 7, 3) := by decide +kernel
theorem dX10_worth_50 : decode cX10_worth 50 = .ok (.iconst 1, 1) := by decide +kernel
theorem dX10_worth_51 : decode cX10_worth 51 = .ok (.goto 4, 3) := by decide +kernel
theorem dX10_worth_54 : decode cX10_worth 54 = .ok (.iconst 0, 1) := by decide +kernel
theorem dX10_worth_55 : decode cX10_worth 55 = .ok (.iconst 2, 1) := by decide +kernel
theorem dX10_worth_56 : decode cX10_worth 56 = .ok (.iconst 1, 1) := by decide +kernel
theorem dX10_worth_57 : decode cX10_worth 57 = .ok (.invokevirtual 171, 3) := by decide +kernel
theorem dX10_worth_60 : decode cX10_worth 60 = .ok (.ifCond .eq 5, 3) := by decide +kernel
theorem dX10_worth_63 : decode cX10_worth 63 = .ok (.lconst 0, 1) := by decide +kernel
theorem dX10_worth_64 : decode cX10_worth 64 = .ok (.lreturn, 1) := by decide +kernel
theorem dX10_worth_65 : decode cX10_worth 65 = .ok (.aload_n 0, 1) := by decide +kernel
theorem dX10_worth_66 : decode cX10_worth 66 = .ok (.iload_n 1, 1) := by decide +kernel
theorem dX10_worth_67 : decode cX10_worth 67 = .ok (.iload_n 2, 1) := by decide +kernel
theorem dX10_worth_68 : decode cX10_worth 68 = .ok (.invokevirtual 359, 3) := by decide +kernel
theorem dX10_worth_71 : decode cX10_worth 71 = .ok (.aload_n 0, 1) := by decide +kernel
theorem dX10_worth_72 : decode cX10_worth 72 = .ok (.getfield 338, 3) := by decide +kernel
theorem dX10_worth_75 : decode cX10_worth 75 = .ok (.aload_n 0, 1) := by decide +kernel
theorem dX10_worth_76 : decode cX10_worth 76 = .ok (.getfield 334, 3) := by decide +kernel
theorem dX10_worth_79 : decode cX10_worth 79 = .ok (.iload_n 3, 1) := by decide +kernel
theorem dX10_worth_80 : decode cX10_worth 80 = .ok (.invokestatic 362, 3) := by decide +kernel
theorem dX10_worth_83 : decode cX10_worth 83 = .ok (.lreturn, 1) := by decide +kernel
theorem dX10_fattest_0 : decode cX10_fattest 0 = .ok (.aload_n 0, 1) := by decide +kernel
theorem dX10_fattest_1 : decode cX10_fattest 1 = .ok (.iconst 0, 1) := by decide +kernel
theorem dX10_fattest_2 : decode cX10_fattest 2 = .ok (.putfield 92, 3) := by decide +kernel
theorem dX10_fattest_5 : decode cX10_fattest 5 = .ok (.aload_n 0, 1) := by decide +kernel
theorem dX10_fattest_6 : decode cX10_fattest 6 = .ok (.iload_n 1, 1) := by decide +kernel
theorem dX10_fattest_7 : decode cX10_fattest 7 = .ok (.iconst 0, 1) := by decide +kernel
theorem dX10_fattest_8 : decode cX10_fattest 8 = .ok (.iconst 1, 1) := by decide +kernel
theorem dX10_fattest_9 : decode cX10_fattest 9 = .ok (.invokestatic 126, 3) := by decide +kernel
theorem dX10_fattest_12 : decode cX10_fattest 12 = .ok (.ifCond .ne 7, 3) := by decide +kernel
theorem dX10_fattest_15 : decode cX10_fattest 15 = .ok (.iconst 1, 1) := by decide +kernel
theorem dX10_fattest_16 : decode cX10_fattest 16 = .ok (.goto 4, 3) := by decide +kernel
theorem dX10_fattest_19 : decode cX10_fattest 19 = .ok (.iconst 0, 1) := by decide +kernel
theorem dX10_fattest_20 : decode cX10_fattest 20 = .ok (.iconst 1, 1) := by decide +kernel
theorem dX10_fattest_21 : decode cX10_fattest 21 = .ok (.iconst 1, 1) := by decide +kernel
theorem dX10_fattest_22 : decode cX10_fattest 22 = .ok (.invokevirtual 171, 3) := by decide +kernel
theorem dX10_fattest_25 : decode cX10_fattest 25 = .ok (.ifCond .eq 5, 3) := by decide +kernel
theorem dX10_fattest_28 : decode cX10_fattest 28 = .ok (.lconst 0, 1) := by decide +kernel
theorem dX10_fattest_29 : decode cX10_fattest 29 = .ok (.lreturn, 1) := by decide +kernel
theorem dX10_fattest_30 : decode cX10_fattest 30 = .ok (.aload_n 0, 1) := by decide +kernel
theorem dX10_fattest_31 : decode cX10_fattest 31 = .ok (.invokevirtual 366, 3) := by decide +kernel
theorem dX10_fattest_34 : decode cX10_fattest 34 = .ok (.aload_n 0, 1) := by decide +kernel
theorem dX10_fattest_35 : decode cX10_fattest 35 = .ok (.getfield 338, 3) := by decide +kernel
theorem dX10_fattest_38 : decode cX10_fattest 38 = .ok (.aload_n 0, 1) := by decide +kernel
theorem dX10_fattest_39 : decode cX10_fattest 39 = .ok (.getfield 334, 3) := by decide +kernel
theorem dX10_fattest_42 : decode cX10_fattest 42 = .ok (.iload_n 1, 1) := by decide +kernel
theorem dX10_fattest_43 : decode cX10_fattest 43 = .ok (.invokestatic 362, 3) := by decide +kernel
theorem dX10_fattest_46 : decode cX10_fattest 46 = .ok (.lreturn, 1) := by decide +kernel
theorem dX10_fat_0 : decode cX10_fat 0 = .ok (.aload_n 0, 1) := by decide +kernel
theorem dX10_fat_1 : decode cX10_fat 1 = .ok (.iconst 0, 1) := by decide +kernel
theorem dX10_fat_2 : decode cX10_fat 2 = .ok (.putfield 92, 3) := by decide +kernel
theorem dX10_fat_5 : decode cX10_fat 5 = .ok (.aload_n 0, 1) := by decide +kernel
theorem dX10_fat_6 : decode cX10_fat 6 = .ok (.invokevirtual 366, 3) := by decide +kernel
theorem dX10_fat_9 : decode cX10_fat 9 = .ok (.aload_n 0, 1) := by decide +kernel
theorem dX10_fat_10 : decode cX10_fat 10 = .ok (.getfield 356, 3) := by decide +kernel
theorem dX10_fat_13 : decode cX10_fat 13 = .ok (.ireturn, 1) := by decide +kernel
theorem dX10_isMended_0 : decode cX10_isMended 0 = .ok (.iconst 1, 1) := by decide +kernel
theorem dX10_isMended_1 : decode cX10_isMended 1 = .ok (.istore_n 2, 1) := by decide +kernel
theorem dX10_isMended_2 : decode cX10_isMended 2 = .ok (.iload_n 2, 1) := by decide +kernel
theorem dX10_isMended_3 : decode cX10_isMended 3 = .ok (.iconst 1, 1) := by decide +kernel
theorem dX10_isMended_4 : decode cX10_isMended 4 = .ok (.aload_n 0, 1) := by decide +kernel
theorem dX10_isMended_5 : decode cX10_isMended 5 = .ok (.getfield 61, 3) := by decide +kernel
theorem dX10_isMended_8 : decode cX10_isMended 8 = .ok (.bipush 56, 2) := by decide +kernel
theorem dX10_isMended_10 : decode cX10_isMended 10 = .ok (.iaload, 1) := by decide +kernel
theorem dX10_isMended_11 : decode cX10_isMended 11 = .ok (.ishl, 1) := by decide +kernel
theorem dX10_isMended_12 : decode cX10_isMended 12 = .ok (.if_icmp .ge 26, 3) := by decide +kernel
theorem dX10_isMended_15 : decode cX10_isMended 15 = .ok (.aload_n 0, 1) := by decide +kernel
theorem dX10_isMended_16 : decode cX10_isMended 16 = .ok (.getfield 76, 3) := by decide +kernel
theorem dX10_isMended_19 : decode cX10_isMended 19 = .ok (.iload_n 2, 1) := by decide +kernel
theorem dX10_isMended_20 : decode cX10_isMended 20 = .ok (.baload, 1) := by decide +kernel
theorem dX10_isMended_21 : decode cX10_isMended 21 = .ok (.ifCond .eq 11, 3) := by decide +kernel
theorem dX10_isMended_24 : decode cX10_isMended 24 = .ok (.iload_n 2, 1) := by decide +kernel
theorem dX10_isMended_25 : decode cX10_isMended 25 = .ok (.iload_n 1, 1) := by decide +kernel
theorem dX10_isMended_26 : decode cX10_isMended 26 = .ok (.iand, 1) := by decide +kernel
theorem dX10_isMended_27 : decode cX10_isMended 27 = .ok (.ifCond .ne 5, 3) := by decide +kernel
theorem dX10_isMended_30 : decode cX10_isMended 30 = .ok (.iconst 0, 1) := by decide +kernel
theorem dX10_isMended_31 : decode cX10_isMended 31 = .ok (.ireturn, 1) := by decide +kernel
theorem dX10_isMended_32 : decode cX10_isMended 32 = .ok (.iinc 2 1, 3) := by decide +kernel
theorem dX10_isMended_35 : decode cX10_isMended 35 = .ok (.goto (-33), 3) := by decide +kernel
theorem dX10_isMended_38 : decode cX10_isMended 38 = .ok (.iconst 1, 1) := by decide +kernel
theorem dX10_isMended_39 : decode cX10_isMended 39 = .ok (.ireturn, 1) := by decide +kernel
theorem dX10_mend_0 : decode cX10_mend 0 = .ok (.aload_n 0, 1) := by decide +kernel
theorem dX10_mend_1 : decode cX10_mend 1 = .ok (.iconst 0, 1) := by decide +kernel
theorem dX10_mend_2 : decode cX10_mend 2 = .ok (.putfield 92, 3) := by decide +kernel
theorem dX10_mend_5 : decode cX10_mend 5 = .ok (.aload_n 0, 1) := by decide +kernel
theorem dX10_mend_6 : decode cX10_mend 6 = .ok (.invokevirtual 366, 3) := by decide +kernel
theorem dX10_mend_9 : decode cX10_mend 9 = .ok (.iconst 1, 1) := by decide +kernel
theorem dX10_mend_10 : decode cX10_mend 10 = .ok (.aload_n 0, 1) := by decide +kernel
theorem dX10_mend_11 : decode cX10_mend 11 = .ok (.getfield 61, 3) := by decide +kernel
theorem dX10_mend_14 : decode cX10_mend 14 = .ok (.bipush 56, 2) := by decide +kernel
theorem dX10_mend_16 : decode cX10_mend 16 = .ok (.iaload, 1) := by decide +kernel
theorem dX10_mend_17 : decode cX10_mend 17 = .ok (.ishl, 1) := by decide +kernel
theorem dX10_mend_18 : decode cX10_mend 18 = .ok (.iconst 1, 1) := by decide +kernel
theorem dX10_mend_19 : decode cX10_mend 19 = .ok (.isub, 1) := by decide +kernel
theorem dX10_mend_20 : decode cX10_mend 20 = .ok (.istore_n 1, 1) := by decide +kernel
theorem dX10_mend_21 : decode cX10_mend 21 = .ok (.iload_n 1, 1) := by decide +kernel
theorem dX10_mend_22 : decode cX10_mend 22 = .ok (.istore_n 2, 1) := by decide +kernel
theorem dX10_mend_23 : decode cX10_mend 23 = .ok (.iload_n 2, 1) := by decide +kernel
theorem dX10_mend_24 : decode cX10_mend 24 = .ok (.ifCond .lt 34, 3) := by decide +kernel
theorem dX10_mend_27 : decode cX10_mend 27 = .ok (.iload_n 2, 1) := by decide +kernel
theorem dX10_mend_28 : decode cX10_mend 28 = .ok (.invokestatic 260, 3) := by decide +kernel
theorem dX10_mend_31 : decode cX10_mend 31 = .ok (.iload_n 1, 1) := by decide +kernel
theorem dX10_mend_32 : decode cX10_mend 32 = .ok (.invokestatic 260, 3) := by decide +kernel
theorem dX10_mend_35 : decode cX10_mend 35 = .ok (.if_icmp .gt 15, 3) := by decide +kernel
theorem dX10_mend_38 : decode cX10_mend 38 = .ok (.aload_n 0, 1) := by decide +kernel
theorem dX10_mend_39 : decode cX10_mend 39 = .ok (.iload_n 2, 1) := by decide +kernel
theorem dX10_mend_40 : decode cX10_mend 40 = .ok (.invokevirtual 369, 3) := by decide +kernel
theorem dX10_mend_43 : decode cX10_mend 43 = .ok (.ifCond .eq 7, 3) := by decide +kernel
theorem dX10_mend_46 : decode cX10_mend 46 = .ok (.iload_n 2, 1) := by decide +kernel
theorem dX10_mend_47 : decode cX10_mend 47 = .ok (.goto 4, 3) := by decide +kernel
theorem dX10_mend_50 : decode cX10_mend 50 = .ok (.iload_n 1, 1) := by decide +kernel
theorem dX10_mend_51 : decode cX10_mend 51 = .ok (.istore_n 1, 1) := by decide +kernel
theorem dX10_mend_52 : decode cX10_mend 52 = .ok (.iinc 2 (-1), 3) := by decide +kernel
theorem dX10_mend_55 : decode cX10_mend 55 = .ok (.goto (-32), 3) := by decide +kernel
theorem dX10_mend_58 : decode cX10_mend 58 = .ok (.iload_n 1, 1) := by decide +kernel
theorem dX10_mend_59 : decode cX10_mend 59 = .ok (.ireturn, 1) := by decide +kernel
theorem dX10_above_0 : decode cX10_above 0 = .ok (.aload_n 0, 1) := by decide +kernel
theorem dX10_above_1 : decode cX10_above 1 = .ok (.iconst 0, 1) := by decide +kernel
theorem dX10_above_2 : decode cX10_above 2 = .ok (.putfield 92, 3) := by decide +kernel
theorem dX10_above_5 : decode cX10_above 5 = .ok (.aload_n 0, 1) := by decide +kernel
theorem dX10_above_6 : decode cX10_above 6 = .ok (.aload_n 0, 1) := by decide +kernel
theorem dX10_above_7 : decode cX10_above 7 = .ok (.iload_n 1, 1) := by decide +kernel
theorem dX10_above_8 : decode cX10_above 8 = .ok (.invokevirtual 328, 3) := by decide +kernel
theorem dX10_above_11 : decode cX10_above 11 = .ok (.ifCond .ne 7, 3) := by decide +kernel
theorem dX10_above_14 : decode cX10_above 14 = .ok (.iconst 1, 1) := by decide +kernel
theorem dX10_above_15 : decode cX10_above 15 = .ok (.goto 4, 3) := by decide +kernel
theorem dX10_above_18 : decode cX10_above 18 = .ok (.iconst 0, 1) := by decide +kernel
theorem dX10_above_19 : decode cX10_above 19 = .ok (.iconst 1, 1) := by decide +kernel
theorem dX10_above_20 : decode cX10_above 20 = .ok (.iconst 0, 1) := by decide +kernel
theorem dX10_above_21 : decode cX10_above 21 = .ok (.invokevirtual 171, 3) := by decide +kernel
theorem dX10_above_24 : decode cX10_above 24 = .ok (.ifCond .eq 5, 3) := by decide +kernel
theorem dX10_above_27 : decode cX10_above 27 = .ok (.iconst 0, 1) := by decide +kernel
theorem dX10_above_28 : decode cX10_above 28 = .ok (.ireturn, 1) := by decide +kernel
theorem dX10_above_29 : decode cX10_above 29 = .ok (.iconst 0, 1) := by decide +kernel
theorem dX10_above_30 : decode cX10_above 30 = .ok (.istore_n 2, 1) := by decide +kernel
theorem dX10_above_31 : decode cX10_above 31 = .ok (.iconst 0, 1) := by decide +kernel
theorem dX10_above_32 : decode cX10_above 32 = .ok (.istore_n 3, 1) := by decide +kernel
theorem dX10_above_33 : decode cX10_above 33 = .ok (.iload_n 3, 1) := by decide +kernel
theorem dX10_above_34 : decode cX10_above 34 = .ok (.aload_n 0, 1) := by decide +kernel
theorem dX10_above_35 : decode cX10_above 35 = .ok (.getfield 23, 3) := by decide +kernel
theorem dX10_above_38 : decode cX10_above 38 = .ok (.iconst 0, 1) := by decide +kernel
theorem dX10_above_39 : decode cX10_above 39 = .ok (.iaload, 1) := by decide +kernel
theorem dX10_above_40 : decode cX10_above 40 = .ok (.if_icmp .ge 45, 3) := by decide +kernel
theorem dX10_above_43 : decode cX10_above 43 = .ok (.iload_n 1, 1) := by decide +kernel
theorem dX10_above_44 : decode cX10_above 44 = .ok (.iload_n 3, 1) := by decide +kernel
theorem dX10_above_45 : decode cX10_above 45 = .ok (.if_icmp .ne 6, 3) := by decide +kernel
theorem dX10_above_48 : decode cX10_above 48 = .ok (.goto 31, 3) := by decide +kernel
theorem dX10_above_51 : decode cX10_above 51 = .ok (.aload_n 0, 1) := by decide +kernel
theorem dX10_above_52 : decode cX10_above 52 = .ok (.iload_n 3, 1) := by decide +kernel
theorem dX10_above_53 : decode cX10_above 53 = .ok (.iload_n 1, 1) := by decide +kernel
theorem dX10_above_54 : decode cX10_above 54 = .ok (.invokevirtual 359, 3) := by decide +kernel
theorem dX10_above_57 : decode cX10_above 57 = .ok (.iload_n 2, 1) := by decide +kernel
theorem dX10_above_58 : decode cX10_above 58 = .ok (.aload_n 0, 1) := by decide +kernel
theorem dX10_above_59 : decode cX10_above 59 = .ok (.getfield 338, 3) := by decide +kernel
theorem dX10_above_62 : decode cX10_above 62 = .ok (.aload_n 0, 1) := by decide +kernel
theorem dX10_above_63 : decode cX10_above 63 = .ok (.getfield 334, 3) := by decide +kernel
theorem dX10_above_66 : decode cX10_above 66 = .ok (.lcmp, 1) := by decide +kernel
theorem dX10_above_67 : decode cX10_above 67 = .ok (.ifCond .lt 9, 3) := by decide +kernel
theorem dX10_above_70 : decode cX10_above 70 = .ok (.iconst 1, 1) := by decide +kernel
theorem dX10_above_71 : decode cX10_above 71 = .ok (.iload_n 3, 1) := by decide +kernel
theorem dX10_above_72 : decode cX10_above 72 = .ok (.ishl, 1) := by decide +kernel
theorem dX10_above_73 : decode cX10_above 73 = .ok (.goto 4, 3) := by decide +kernel
theorem dX10_above_76 : decode cX10_above 76 = .ok (.iconst 0, 1) := by decide +kernel
theorem dX10_above_77 : decode cX10_above 77 = .ok (.ior, 1) := by decide +kernel
theorem dX10_above_78 : decode cX10_above 78 = .ok (.istore_n 2, 1) := by decide +kernel
theorem dX10_above_79 : decode cX10_above 79 = .ok (.iinc 3 1, 3) := by decide +kernel
theorem dX10_above_82 : decode cX10_above 82 = .ok (.goto (-49), 3) := by decide +kernel
theorem dX10_above_85 : decode cX10_above 85 = .ok (.iload_n 2, 1) := by decide +kernel
theorem dX10_above_86 : decode cX10_above 86 = .ok (.ireturn, 1) := by decide +kernel
theorem dX10_laysFrom_0 : decode cX10_laysFrom 0 = .ok (.iload_n 1, 1) := by decide +kernel
theorem dX10_laysFrom_1 : decode cX10_laysFrom 1 = .ok (.aload_n 0, 1) := by decide +kernel
theorem dX10_laysFrom_2 : decode cX10_laysFrom 2 = .ok (.getfield 23, 3) := by decide +kernel
theorem dX10_laysFrom_5 : decode cX10_laysFrom 5 = .ok (.iconst 0, 1) := by decide +kernel
theorem dX10_laysFrom_6 : decode cX10_laysFrom 6 = .ok (.iaload, 1) := by decide +kernel
theorem dX10_laysFrom_7 : decode cX10_laysFrom 7 = .ok (.if_icmp .ne 73, 3) := by decide +kernel
theorem dX10_laysFrom_10 : decode cX10_laysFrom 10 = .ok (.iload 4, 2) := by decide +kernel
theorem dX10_laysFrom_12 : decode cX10_laysFrom 12 = .ok (.ifCond .le 67, 3) := by decide +kernel
theorem dX10_laysFrom_15 : decode cX10_laysFrom 15 = .ok (.aload_n 0, 1) := by decide +kernel
theorem dX10_laysFrom_16 : decode cX10_laysFrom 16 = .ok (.getfield 80, 3) := by decide +kernel
theorem dX10_laysFrom_19 : decode cX10_laysFrom 19 = .ok (.iload 4, 2) := by decide +kernel
theorem dX10_laysFrom_21 : decode cX10_laysFrom 21 = .ok (.iaload, 1) := by decide +kernel
theorem dX10_laysFrom_22 : decode cX10_laysFrom 22 = .ok (.iconst (-1), 1) := by decide +kernel
theorem dX10_laysFrom_23 : decode cX10_laysFrom 23 = .ok (.if_icmp .eq 48, 3) := by decide +kernel
theorem dX10_laysFrom_26 : decode cX10_laysFrom 26 = .ok (.iload_n 3, 1) := by decide +kernel
theorem dX10_laysFrom_27 : decode cX10_laysFrom 27 = .ok (.invokestatic 260, 3) := by decide +kernel
theorem dX10_laysFrom_30 : decode cX10_laysFrom 30 = .ok (.aload_n 0, 1) := by decide +kernel
theorem dX10_laysFrom_31 : decode cX10_laysFrom 31 = .ok (.getfield 80, 3) := by decide +kernel
theorem dX10_laysFrom_34 : decode cX10_laysFrom 34 = .ok (.iload 4, 2) := by decide +kernel
theorem dX10_laysFrom_36 : decode cX10_laysFrom 36 = .ok (.iaload, 1) := by decide +kernel
theorem dX10_laysFrom_37 : decode cX10_laysFrom 37 = .ok (.invokestatic 260, 3) := by decide +kernel
theorem dX10_laysFrom_40 : decode cX10_laysFrom 40 = .ok (.if_icmp .lt 31, 3) := by decide +kernel
theorem dX10_laysFrom_43 : decode cX10_laysFrom 43 = .ok (.iload_n 3, 1) := by decide +kernel
theorem dX10_laysFrom_44 : decode cX10_laysFrom 44 = .ok (.invokestatic 260, 3) := by decide +kernel
theorem dX10_laysFrom_47 : decode cX10_laysFrom 47 = .ok (.aload_n 0, 1) := by decide +kernel
theorem dX10_laysFrom_48 : decode cX10_laysFrom 48 = .ok (.getfield 80, 3) := by decide +kernel
theorem dX10_laysFrom_51 : decode cX10_laysFrom 51 = .ok (.iload 4, 2) := by decide +kernel
theorem dX10_laysFrom_53 : decode cX10_laysFrom 53 = .ok (.iaload, 1) := by decide +kernel
theorem dX10_laysFrom_54 : decode cX10_laysFrom 54 = .ok (.invokestatic 260, 3) := by decide +kernel
theorem dX10_laysFrom_57 : decode cX10_laysFrom 57 = .ok (.if_icmp .ne 22, 3) := by decide +kernel
theorem dX10_laysFrom_60 : decode cX10_laysFrom 60 = .ok (.iload_n 3, 1) := by decide +kernel
theorem dX10_laysFrom_61 : decode cX10_laysFrom 61 = .ok (.aload_n 0, 1) := by decide +kernel
theorem dX10_laysFrom_62 : decode cX10_laysFrom 62 = .ok (.getfield 80, 3) := by decide +kernel
theorem dX10_laysFrom_65 : decode cX10_laysFrom 65 = .ok (.iload 4, 2) := by decide +kernel
theorem dX10_laysFrom_67 : decode cX10_laysFrom 67 = .ok (.iaload, 1) := by decide +kernel
theorem dX10_laysFrom_68 : decode cX10_laysFrom 68 = .ok (.if_icmp .ge 11, 3) := by decide +kernel
theorem dX10_laysFrom_71 : decode cX10_laysFrom 71 = .ok (.aload_n 0, 1) := by decide +kernel
theorem dX10_laysFrom_72 : decode cX10_laysFrom 72 = .ok (.getfield 80, 3) := by decide +kernel
theorem dX10_laysFrom_75 : decode cX10_laysFrom 75 = .ok (.iload 4, 2) := by decide +kernel
theorem dX10_laysFrom_77 : decode cX10_laysFrom 77 = .ok (.iload_n 3, 1) := by decide +kernel
theorem dX10_laysFrom_78 : decode cX10_laysFrom 78 = .ok (.iastore, 1) := by decide +kernel
theorem dX10_laysFrom_79 : decode cX10_laysFrom 79 = .ok (.return_, 1) := by decide +kernel
theorem dX10_laysFrom_80 : decode cX10_laysFrom 80 = .ok (.aload_n 0, 1) := by decide +kernel
theorem dX10_laysFrom_81 : decode cX10_laysFrom 81 = .ok (.iload_n 1, 1) := by decide +kernel
theorem dX10_laysFrom_82 : decode cX10_laysFrom 82 = .ok (.iconst 1, 1) := by decide +kernel
theorem dX10_laysFrom_83 : decode cX10_laysFrom 83 = .ok (.iadd, 1) := by decide +kernel
theorem dX10_laysFrom_84 : decode cX10_laysFrom 84 = .ok (.iload_n 2, 1) := by decide +kernel
theorem dX10_laysFrom_85 : decode cX10_laysFrom 85 = .ok (.iload_n 3, 1) := by decide +kernel
theorem dX10_laysFrom_86 : decode cX10_laysFrom 86 = .ok (.iload 4, 2) := by decide +kernel
theorem dX10_laysFrom_88 : decode cX10_laysFrom 88 = .ok (.invokevirtual 372, 3) := by decide +kernel
theorem dX10_laysFrom_91 : decode cX10_laysFrom 91 = .ok (.iload_n 2, 1) := by decide +kernel
theorem dX10_laysFrom_92 : decode cX10_laysFrom 92 = .ok (.iload_n 1, 1) := by decide +kernel
theorem dX10_laysFrom_93 : decode cX10_laysFrom 93 = .ok (.invokestatic 345, 3) := by decide +kernel
theorem dX10_laysFrom_96 : decode cX10_laysFrom 96 = .ok (.ifCond .ne 4, 3) := by decide +kernel
theorem dX10_laysFrom_99 : decode cX10_laysFrom 99 = .ok (.return_, 1) := by decide +kernel
theorem dX10_laysFrom_100 : decode cX10_laysFrom 100 = .ok (.aload_n 0, 1) := by decide +kernel
theorem dX10_laysFrom_101 : decode cX10_laysFrom 101 = .ok (.iload_n 1, 1) := by decide +kernel
theorem dX10_laysFrom_102 : decode cX10_laysFrom 102 = .ok (.iconst 1, 1) := by decide +kernel
theorem dX10_laysFrom_103 : decode cX10_laysFrom 103 = .ok (.iadd, 1) := by decide +kernel
theorem dX10_laysFrom_104 : decode cX10_laysFrom 104 = .ok (.iload_n 2, 1) := by decide +kernel
theorem dX10_laysFrom_105 : decode cX10_laysFrom 105 = .ok (.iload_n 3, 1) := by decide +kernel
theorem dX10_laysFrom_106 : decode cX10_laysFrom 106 = .ok (.iconst 1, 1) := by decide +kernel
theorem dX10_laysFrom_107 : decode cX10_laysFrom 107 = .ok (.iload_n 1, 1) := by decide +kernel
theorem dX10_laysFrom_108 : decode cX10_laysFrom 108 = .ok (.ishl, 1) := by decide +kernel
theorem dX10_laysFrom_109 : decode cX10_laysFrom 109 = .ok (.ior, 1) := by decide +kernel
theorem dX10_laysFrom_110 : decode cX10_laysFrom 110 = .ok (.iload 4, 2) := by decide +kernel
theorem dX10_laysFrom_112 : decode cX10_laysFrom 112 = .ok (.aload_n 0, 1) := by decide +kernel
theorem dX10_laysFrom_113 : decode cX10_laysFrom 113 = .ok (.getfield 61, 3) := by decide +kernel
theorem dX10_laysFrom_116 : decode cX10_laysFrom 116 = .ok (.iconst 0, 1) := by decide +kernel
theorem dX10_laysFrom_117 : decode cX10_laysFrom 117 = .ok (.iload_n 1, 1) := by decide +kernel
theorem dX10_laysFrom_118 : decode cX10_laysFrom 118 = .ok (.iadd, 1) := by decide +kernel
theorem dX10_laysFrom_119 : decode cX10_laysFrom 119 = .ok (.iaload, 1) := by decide +kernel
theorem dX10_laysFrom_120 : decode cX10_laysFrom 120 = .ok (.iadd, 1) := by decide +kernel
theorem dX10_laysFrom_121 : decode cX10_laysFrom 121 = .ok (.invokevirtual 372, 3) := by decide +kernel
theorem dX10_laysFrom_124 : decode cX10_laysFrom 124 = .ok (.aload_n 0, 1) := by decide +kernel
theorem dX10_laysFrom_125 : decode cX10_laysFrom 125 = .ok (.iload_n 1, 1) := by decide +kernel
theorem dX10_laysFrom_126 : decode cX10_laysFrom 126 = .ok (.iconst 1, 1) := by decide +kernel
theorem dX10_laysFrom_127 : decode cX10_laysFrom 127 = .ok (.iadd, 1) := by decide +kernel
theorem dX10_laysFrom_128 : decode cX10_laysFrom 128 = .ok (.iload_n 2, 1) := by decide +kernel
theorem dX10_laysFrom_129 : decode cX10_laysFrom 129 = .ok (.iload_n 3, 1) := by decide +kernel
theorem dX10_laysFrom_130 : decode cX10_laysFrom 130 = .ok (.iconst 1, 1) := by decide +kernel
theorem dX10_laysFrom_131 : decode cX10_laysFrom 131 = .ok (.iload_n 1, 1) := by decide +kernel
theorem dX10_laysFrom_132 : decode cX10_laysFrom 132 = .ok (.ishl, 1) := by decide +kernel
theorem dX10_laysFrom_133 : decode cX10_laysFrom 133 = .ok (.ior, 1) := by decide +kernel
theorem dX10_laysFrom_134 : decode cX10_laysFrom 134 = .ok (.iload 4, 2) := by decide +kernel
theorem dX10_laysFrom_136 : decode cX10_laysFrom 136 = .ok (.aload_n 0, 1) := by decide +kernel
theorem dX10_laysFrom_137 : decode cX10_laysFrom 137 = .ok (.getfield 61, 3) := by decide +kernel
theorem dX10_laysFrom_140 : decode cX10_laysFrom 140 = .ok (.iconst 0, 1) := by decide +kernel
theorem dX10_laysFrom_141 : decode cX10_laysFrom 141 = .ok (.iload_n 1, 1) := by decide +kernel
theorem dX10_laysFrom_142 : decode cX10_laysFrom 142 = .ok (.iadd, 1) := by decide +kernel
theorem dX10_laysFrom_143 : decode cX10_laysFrom 143 = .ok (.iaload, 1) := by decide +kernel
theorem dX10_laysFrom_144 : decode cX10_laysFrom 144 = .ok (.isub, 1) := by decide +kernel
theorem dX10_laysFrom_145 : decode cX10_laysFrom 145 = .ok (.invokevirtual 372, 3) := by decide +kernel
theorem dX10_laysFrom_148 : decode cX10_laysFrom 148 = .ok (.return_, 1) := by decide +kernel
theorem dX10_laysAmounts_0 : decode cX10_laysAmounts 0 = .ok (.iconst 0, 1) := by decide +kernel
theorem dX10_laysAmounts_1 : decode cX10_laysAmounts 1 = .ok (.istore_n 2, 1) := by decide +kernel
theorem dX10_laysAmounts_2 : decode cX10_laysAmounts 2 = .ok (.iload_n 2, 1) := by decide +kernel
theorem dX10_laysAmounts_3 : decode cX10_laysAmounts 3 = .ok (.sipush 480, 3) := by decide +kernel
theorem dX10_laysAmounts_6 : decode cX10_laysAmounts 6 = .ok (.if_icmp .gt 16, 3) := by decide +kernel
theorem dX10_laysAmounts_9 : decode cX10_laysAmounts 9 = .ok (.aload_n 0, 1) := by decide +kernel
theorem dX10_laysAmounts_10 : decode cX10_laysAmounts 10 = .ok (.getfield 80, 3) := by decide +kernel
theorem dX10_laysAmounts_13 : decode cX10_laysAmounts 13 = .ok (.iload_n 2, 1) := by decide +kernel
theorem dX10_laysAmounts_14 : decode cX10_laysAmounts 14 = .ok (.iconst (-1), 1) := by decide +kernel
theorem dX10_laysAmounts_15 : decode cX10_laysAmounts 15 = .ok (.iastore, 1) := by decide +kernel
theorem dX10_laysAmounts_16 : decode cX10_laysAmounts 16 = .ok (.iinc 2 1, 3) := by decide +kernel
theorem dX10_laysAmounts_19 : decode cX10_laysAmounts 19 = .ok (.goto (-17), 3) := by decide +kernel
theorem dX10_laysAmounts_22 : decode cX10_laysAmounts 22 = .ok (.aload_n 0, 1) := by decide +kernel
theorem dX10_laysAmounts_23 : decode cX10_laysAmounts 23 = .ok (.iconst 0, 1) := by decide +kernel
theorem dX10_laysAmounts_24 : decode cX10_laysAmounts 24 = .ok (.iload_n 1, 1) := by decide +kernel
theorem dX10_laysAmounts_25 : decode cX10_laysAmounts 25 = .ok (.iconst 0, 1) := by decide +kernel
theorem dX10_laysAmounts_26 : decode cX10_laysAmounts 26 = .ok (.iconst 0, 1) := by decide +kernel
theorem dX10_laysAmounts_27 : decode cX10_laysAmounts 27 = .ok (.invokevirtual 372, 3) := by decide +kernel
theorem dX10_laysAmounts_30 : decode cX10_laysAmounts 30 = .ok (.return_, 1) := by decide +kernel
theorem dX10_everyThing_0 : decode cX10_everyThing 0 = .ok (.iconst 1, 1) := by decide +kernel
theorem dX10_everyThing_1 : decode cX10_everyThing 1 = .ok (.aload_n 0, 1) := by decide +kernel
theorem dX10_everyThing_2 : decode cX10_everyThing 2 = .ok (.getfield 23, 3) := by decide +kernel
theorem dX10_everyThing_5 : decode cX10_everyThing 5 = .ok (.iconst 0, 1) := by decide +kernel
theorem dX10_everyThing_6 : decode cX10_everyThing 6 = .ok (.iaload, 1) := by decide +kernel
theorem dX10_everyThing_7 : decode cX10_everyThing 7 = .ok (.ishl, 1) := by decide +kernel
theorem dX10_everyThing_8 : decode cX10_everyThing 8 = .ok (.iconst 1, 1) := by decide +kernel
theorem dX10_everyThing_9 : decode cX10_everyThing 9 = .ok (.isub, 1) := by decide +kernel
theorem dX10_everyThing_10 : decode cX10_everyThing 10 = .ok (.ireturn, 1) := by decide +kernel
theorem dX10_isSet_0 : decode cX10_isSet 0 = .ok (.iload_n 1, 1) := by decide +kernel
theorem dX10_isSet_1 : decode cX10_isSet 1 = .ok (.iconst 0, 1) := by decide +kernel
theorem dX10_isSet_2 : decode cX10_isSet 2 = .ok (.aload_n 0, 1) := by decide +kernel
theorem dX10_isSet_3 : decode cX10_isSet 3 = .ok (.invokevirtual 376, 3) := by decide +kernel
theorem dX10_isSet_6 : decode cX10_isSet 6 = .ok (.invokestatic 126, 3) := by decide +kernel
theorem dX10_isSet_9 : decode cX10_isSet 9 = .ok (.ireturn, 1) := by decide +kernel
theorem dX10_match_0 : decode cX10_match 0 = .ok (.aload_n 0, 1) := by decide +kernel
theorem dX10_match_1 : decode cX10_match 1 = .ok (.iconst 0, 1) := by decide +kernel
theorem dX10_match_2 : decode cX10_match 2 = .ok (.putfield 92, 3) := by decide +kernel
theorem dX10_match_5 : decode cX10_match 5 = .ok (.aload_n 0, 1) := by decide +kernel
theorem dX10_match_6 : decode cX10_match 6 = .ok (.aload_n 0, 1) := by decide +kernel
theorem dX10_match_7 : decode cX10_match 7 = .ok (.iload_n 1, 1) := by decide +kernel
theorem dX10_match_8 : decode cX10_match 8 = .ok (.invokevirtual 379, 3) := by decide +kernel
theorem dX10_match_11 : decode cX10_match 11 = .ok (.ifCond .eq 12, 3) := by decide +kernel
theorem dX10_match_14 : decode cX10_match 14 = .ok (.iload_n 2, 1) := by decide +kernel
theorem dX10_match_15 : decode cX10_match 15 = .ok (.iconst 0, 1) := by decide +kernel
theorem dX10_match_16 : decode cX10_match 16 = .ok (.iconst 1, 1) := by decide +kernel
theorem dX10_match_17 : decode cX10_match 17 = .ok (.invokestatic 126, 3) := by decide +kernel
theorem dX10_match_20 : decode cX10_match 20 = .ok (.ifCond .ne 7, 3) := by decide +kernel
theorem dX10_match_23 : decode cX10_match 23 = .ok (.iconst 1, 1) := by decide +kernel
theorem dX10_match_24 : decode cX10_match 24 = .ok (.goto 4, 3) := by decide +kernel
theorem dX10_match_27 : decode cX10_match 27 = .ok (.iconst 0, 1) := by decide +kernel
theorem dX10_match_28 : decode cX10_match 28 = .ok (.iconst 1, 1) := by decide +kernel
theorem dX10_match_29 : decode cX10_match 29 = .ok (.iconst 1, 1) := by decide +kernel
theorem dX10_match_30 : decode cX10_match 30 = .ok (.invokevirtual 171, 3) := by decide +kernel
theorem dX10_match_33 : decode cX10_match 33 = .ok (.ifCond .eq 5, 3) := by decide +kernel
theorem dX10_match_36 : decode cX10_match 36 = .ok (.iconst 0, 1) := by decide +kernel
theorem dX10_match_37 : decode cX10_match 37 = .ok (.ireturn, 1) := by decide +kernel
theorem dX10_match_38 : decode cX10_match 38 = .ok (.aload_n 0, 1) := by decide +kernel
theorem dX10_match_39 : decode cX10_match 39 = .ok (.iload_n 1, 1) := by decide +kernel
theorem dX10_match_40 : decode cX10_match 40 = .ok (.invokevirtual 382, 3) := by decide +kernel
theorem dX10_match_43 : decode cX10_match 43 = .ok (.iconst 0, 1) := by decide +kernel
theorem dX10_match_44 : decode cX10_match 44 = .ok (.istore_n 3, 1) := by decide +kernel
theorem dX10_match_45 : decode cX10_match 45 = .ok (.iconst 1, 1) := by decide +kernel
theorem dX10_match_46 : decode cX10_match 46 = .ok (.istore 4, 2) := by decide +kernel
theorem dX10_match_48 : decode cX10_match 48 = .ok (.iconst 1, 1) := by decide +kernel
theorem dX10_match_49 : decode cX10_match 49 = .ok (.istore 5, 2) := by decide +kernel
theorem dX10_match_51 : decode cX10_match 51 = .ok (.iload 5, 2) := by decide +kernel
theorem dX10_match_53 : decode cX10_match 53 = .ok (.sipush 480, 3) := by decide +kernel
theorem dX10_match_56 : decode cX10_match 56 = .ok (.if_icmp .gt 28, 3) := by decide +kernel
theorem dX10_match_59 : decode cX10_match 59 = .ok (.iload_n 3, 1) := by decide +kernel
theorem dX10_match_60 : decode cX10_match 60 = .ok (.aload_n 0, 1) := by decide +kernel
theorem dX10_match_61 : decode cX10_match 61 = .ok (.getfield 80, 3) := by decide +kernel
theorem dX10_match_64 : decode cX10_match 64 = .ok (.iload 5, 2) := by decide +kernel
theorem dX10_match_66 : decode cX10_match 66 = .ok (.iaload, 1) := by decide +kernel
theorem dX10_match_67 : decode cX10_match 67 = .ok (.iconst (-1), 1) := by decide +kernel
theorem dX10_match_68 : decode cX10_match 68 = .ok (.if_icmp .ne 7, 3) := by decide +kernel
theorem dX10_match_71 : decode cX10_match 71 = .ok (.iconst 0, 1) := by decide +kernel
theorem dX10_match_72 : decode cX10_match 72 = .ok (.goto 4, 3) := by decide +kernel
theorem dX10_match_75 : decode cX10_match 75 = .ok (.iconst 1, 1) := by decide +kernel
theorem dX10_match_76 : decode cX10_match 76 = .ok (.iadd, 1) := by decide +kernel
theorem dX10_match_77 : decode cX10_match 77 = .ok (.istore_n 3, 1) := by decide +kernel
theorem dX10_match_78 : decode cX10_match 78 = .ok (.iinc 5 1, 3) := by decide +kernel
theorem dX10_match_81 : decode cX10_match 81 = .ok (.goto (-30), 3) := by decide +kernel
theorem dX10_match_84 : decode cX10_match 84 = .ok (.iload 4, 2) := by decide +kernel
theorem dX10_match_86 : decode cX10_match 86 = .ok (.sipush 480, 3) := by decide +kernel
theorem dX10_match_89 : decode cX10_match 89 = .ok (.if_icmp .gt 20, 3) := by decide +kernel
theorem dX10_match_92 : decode cX10_match 92 = .ok (.aload_n 0, 1) := by decide +kernel
theorem dX10_match_93 : decode cX10_match 93 = .ok (.getfield 80, 3) := by decide +kernel
theorem dX10_match_96 : decode cX10_match 96 = .ok (.iload 4, 2) := by decide +kernel
theorem dX10_match_98 : decode cX10_match 98 = .ok (.iaload, 1) := by decide +kernel
theorem dX10_match_99 : decode cX10_match 99 = .ok (.iconst (-1), 1) := by decide +kernel
theorem dX10_match_100 : decode cX10_match 100 = .ok (.if_icmp .eq 9, 3) := by decide +kernel
theorem dX10_match_103 : decode cX10_match 103 = .ok (.iinc 4 1, 3) := by decide +kernel
theorem dX10_match_106 : decode cX10_match 106 = .ok (.goto (-22), 3) := by decide +kernel
theorem dX10_match_109 : decode cX10_match 109 = .ok (.iload_n 2, 1) := by decide +kernel
theorem dX10_match_110 : decode cX10_match 110 = .ok (.ifCond .ne 7, 3) := by decide +kernel
theorem dX10_match_113 : decode cX10_match 113 = .ok (.iload_n 3, 1) := by decide +kernel
theorem dX10_match_114 : decode cX10_match 114 = .ok (.goto 5, 3) := by decide +kernel
theorem dX10_match_117 : decode cX10_match 117 = .ok (.iload 4, 2) := by decide +kernel
theorem dX10_match_119 : decode cX10_match 119 = .ok (.ireturn, 1) := by decide +kernel
theorem dX10_fewest_0 : decode cX10_fewest 0 = .ok (.aload_n 0, 1) := by decide +kernel
theorem dX10_fewest_1 : decode cX10_fewest 1 = .ok (.iconst 0, 1) := by decide +kernel
theorem dX10_fewest_2 : decode cX10_fewest 2 = .ok (.putfield 92, 3) := by decide +kernel
theorem dX10_fewest_5 : decode cX10_fewest 5 = .ok (.aload_n 0, 1) := by decide +kernel
theorem dX10_fewest_6 : decode cX10_fewest 6 = .ok (.iload_n 1, 1) := by decide +kernel
theorem dX10_fewest_7 : decode cX10_fewest 7 = .ok (.iconst 1, 1) := by decide +kernel
theorem dX10_fewest_8 : decode cX10_fewest 8 = .ok (.sipush 480, 3) := by decide +kernel
theorem dX10_fewest_11 : decode cX10_fewest 11 = .ok (.invokestatic 126, 3) := by decide +kernel
theorem dX10_fewest_14 : decode cX10_fewest 14 = .ok (.ifCond .ne 7, 3) := by decide +kernel
theorem dX10_fewest_17 : decode cX10_fewest 17 = .ok (.iconst 1, 1) := by decide +kernel
theorem dX10_fewest_18 : decode cX10_fewest 18 = .ok (.goto 4, 3) := by decide +kernel
theorem dX10_fewest_21 : decode cX10_fewest 21 = .ok (.iconst 0, 1) := by decide +kernel
theorem dX10_fewest_22 : decode cX10_fewest 22 = .ok (.iconst 1, 1) := by decide +kernel
theorem dX10_fewest_23 : decode cX10_fewest 23 = .ok (.iconst 1, 1) := by decide +kernel
theorem dX10_fewest_24 : decode cX10_fewest 24 = .ok (.invokevirtual 171, 3) := by decide +kernel
theorem dX10_fewest_27 : decode cX10_fewest 27 = .ok (.ifCond .eq 5, 3) := by decide +kernel
theorem dX10_fewest_30 : decode cX10_fewest 30 = .ok (.iconst 0, 1) := by decide +kernel
theorem dX10_fewest_31 : decode cX10_fewest 31 = .ok (.ireturn, 1) := by decide +kernel
theorem dX10_fewest_32 : decode cX10_fewest 32 = .ok (.aload_n 0, 1) := by decide +kernel
theorem dX10_fewest_33 : decode cX10_fewest 33 = .ok (.aload_n 0, 1) := by decide +kernel
theorem dX10_fewest_34 : decode cX10_fewest 34 = .ok (.invokevirtual 376, 3) := by decide +kernel
theorem dX10_fewest_37 : decode cX10_fewest 37 = .ok (.invokevirtual 382, 3) := by decide +kernel
theorem dX10_fewest_40 : decode cX10_fewest 40 = .ok (.aload_n 0, 1) := by decide +kernel
theorem dX10_fewest_41 : decode cX10_fewest 41 = .ok (.getfield 80, 3) := by decide +kernel
theorem dX10_fewest_44 : decode cX10_fewest 44 = .ok (.iload_n 1, 1) := by decide +kernel
theorem dX10_fewest_45 : decode cX10_fewest 45 = .ok (.iaload, 1) := by decide +kernel
theorem dX10_fewest_46 : decode cX10_fewest 46 = .ok (.ireturn, 1) := by decide +kernel
theorem dX10_heavy_0 : decode cX10_heavy 0 = .ok (.iconst 0, 1) := by decide +kernel
theorem dX10_heavy_1 : decode cX10_heavy 1 = .ok (.istore_n 2, 1) := by decide +kernel
theorem dX10_heavy_2 : decode cX10_heavy 2 = .ok (.iconst 0, 1) := by decide +kernel
theorem dX10_heavy_3 : decode cX10_heavy 3 = .ok (.istore_n 3, 1) := by decide +kernel
theorem dX10_heavy_4 : decode cX10_heavy 4 = .ok (.iload_n 3, 1) := by decide +kernel
theorem dX10_heavy_5 : decode cX10_heavy 5 = .ok (.aload_n 0, 1) := by decide +kernel
theorem dX10_heavy_6 : decode cX10_heavy 6 = .ok (.getfield 23, 3) := by decide +kernel
theorem dX10_heavy_9 : decode cX10_heavy 9 = .ok (.iconst 0, 1) := by decide +kernel
theorem dX10_heavy_10 : decode cX10_heavy 10 = .ok (.iaload, 1) := by decide +kernel
theorem dX10_heavy_11 : decode cX10_heavy 11 = .ok (.if_icmp .ge 32, 3) := by decide +kernel
theorem dX10_heavy_14 : decode cX10_heavy 14 = .ok (.iload_n 2, 1) := by decide +kernel
theorem dX10_heavy_15 : decode cX10_heavy 15 = .ok (.iload_n 1, 1) := by decide +kernel
theorem dX10_heavy_16 : decode cX10_heavy 16 = .ok (.iload_n 3, 1) := by decide +kernel
theorem dX10_heavy_17 : decode cX10_heavy 17 = .ok (.invokestatic 345, 3) := by decide +kernel
theorem dX10_heavy_20 : decode cX10_heavy 20 = .ok (.ifCond .eq 14, 3) := by decide +kernel
theorem dX10_heavy_23 : decode cX10_heavy 23 = .ok (.aload_n 0, 1) := by decide +kernel
theorem dX10_heavy_24 : decode cX10_heavy 24 = .ok (.getfield 61, 3) := by decide +kernel
theorem dX10_heavy_27 : decode cX10_heavy 27 = .ok (.iconst 0, 1) := by decide +kernel
theorem dX10_heavy_28 : decode cX10_heavy 28 = .ok (.iload_n 3, 1) := by decide +kernel
theorem dX10_heavy_29 : decode cX10_heavy 29 = .ok (.iadd, 1) := by decide +kernel
theorem dX10_heavy_30 : decode cX10_heavy 30 = .ok (.iaload, 1) := by decide +kernel
theorem dX10_heavy_31 : decode cX10_heavy 31 = .ok (.goto 4, 3) := by decide +kernel
theorem dX10_heavy_34 : decode cX10_heavy 34 = .ok (.iconst 0, 1) := by decide +kernel
theorem dX10_heavy_35 : decode cX10_heavy 35 = .ok (.iadd, 1) := by decide +kernel
theorem dX10_heavy_36 : decode cX10_heavy 36 = .ok (.istore_n 2, 1) := by decide +kernel
theorem dX10_heavy_37 : decode cX10_heavy 37 = .ok (.iinc 3 1, 3) := by decide +kernel
theorem dX10_heavy_40 : decode cX10_heavy 40 = .ok (.goto (-36), 3) := by decide +kernel
theorem dX10_heavy_43 : decode cX10_heavy 43 = .ok (.iload_n 2, 1) := by decide +kernel
theorem dX10_heavy_44 : decode cX10_heavy 44 = .ok (.ireturn, 1) := by decide +kernel
theorem dX10_level_0 : decode cX10_level 0 = .ok (.aload_n 0, 1) := by decide +kernel
theorem dX10_level_1 : decode cX10_level 1 = .ok (.iconst 0, 1) := by decide +kernel
theorem dX10_level_2 : decode cX10_level 2 = .ok (.putfield 92, 3) := by decide +kernel
theorem dX10_level_5 : decode cX10_level 5 = .ok (.aload_n 0, 1) := by decide +kernel
theorem dX10_level_6 : decode cX10_level 6 = .ok (.aload_n 0, 1) := by decide +kernel
theorem dX10_level_7 : decode cX10_level 7 = .ok (.iload_n 1, 1) := by decide +kernel
theorem dX10_level_8 : decode cX10_level 8 = .ok (.invokevirtual 379, 3) := by decide +kernel
theorem dX10_level_11 : decode cX10_level 11 = .ok (.ifCond .eq 12, 3) := by decide +kernel
theorem dX10_level_14 : decode cX10_level 14 = .ok (.iload_n 2, 1) := by decide +kernel
theorem dX10_level_15 : decode cX10_level 15 = .ok (.iconst 0, 1) := by decide +kernel
theorem dX10_level_16 : decode cX10_level 16 = .ok (.iconst 1, 1) := by decide +kernel
theorem dX10_level_17 : decode cX10_level 17 = .ok (.invokestatic 126, 3) := by decide +kernel
theorem dX10_level_20 : decode cX10_level 20 = .ok (.ifCond .ne 7, 3) := by decide +kernel
theorem dX10_level_23 : decode cX10_level 23 = .ok (.iconst 1, 1) := by decide +kernel
theorem dX10_level_24 : decode cX10_level 24 = .ok (.goto 4, 3) := by decide +kernel
theorem dX10_level_27 : decode cX10_level 27 = .ok (.iconst 0, 1) := by decide +kernel
theorem dX10_level_28 : decode cX10_level 28 = .ok (.iconst 1, 1) := by decide +kernel
theorem dX10_level_29 : decode cX10_level 29 = .ok (.iconst 1, 1) := by decide +kernel
theorem dX10_level_30 : decode cX10_level 30 = .ok (.invokevirtual 171, 3) := by decide +kernel
theorem dX10_level_33 : decode cX10_level 33 = .ok (.ifCond .eq 5, 3) := by decide +kernel
theorem dX10_level_36 : decode cX10_level 36 = .ok (.iconst 0, 1) := by decide +kernel
theorem dX10_level_37 : decode cX10_level 37 = .ok (.ireturn, 1) := by decide +kernel
theorem dX10_level_38 : decode cX10_level 38 = .ok (.iconst 0, 1) := by decide +kernel
theorem dX10_level_39 : decode cX10_level 39 = .ok (.istore_n 3, 1) := by decide +kernel
theorem dX10_level_40 : decode cX10_level 40 = .ok (.iconst (-1), 1) := by decide +kernel
theorem dX10_level_41 : decode cX10_level 41 = .ok (.istore 4, 2) := by decide +kernel
theorem dX10_level_43 : decode cX10_level 43 = .ok (.iload_n 1, 1) := by decide +kernel
theorem dX10_level_44 : decode cX10_level 44 = .ok (.iload_n 1, 1) := by decide +kernel
theorem dX10_level_45 : decode cX10_level 45 = .ok (.ineg, 1) := by decide +kernel
theorem dX10_level_46 : decode cX10_level 46 = .ok (.iand, 1) := by decide +kernel
theorem dX10_level_47 : decode cX10_level 47 = .ok (.istore 5, 2) := by decide +kernel
theorem dX10_level_49 : decode cX10_level 49 = .ok (.iconst 1, 1) := by decide +kernel
theorem dX10_level_50 : decode cX10_level 50 = .ok (.istore 6, 2) := by decide +kernel
theorem dX10_level_52 : decode cX10_level 52 = .ok (.iload 6, 2) := by decide +kernel
theorem dX10_level_54 : decode cX10_level 54 = .ok (.iload_n 1, 1) := by decide +kernel
theorem dX10_level_55 : decode cX10_level 55 = .ok (.if_icmp .gt 87, 3) := by decide +kernel
theorem dX10_level_58 : decode cX10_level 58 = .ok (.iload 6, 2) := by decide +kernel
theorem dX10_level_60 : decode cX10_level 60 = .ok (.iload_n 1, 1) := by decide +kernel
theorem dX10_level_61 : decode cX10_level 61 = .ok (.iconst (-1), 1) := by decide +kernel
theorem dX10_level_62 : decode cX10_level 62 = .ok (.ixor, 1) := by decide +kernel
theorem dX10_level_63 : decode cX10_level 63 = .ok (.iand, 1) := by decide +kernel
theorem dX10_level_64 : decode cX10_level 64 = .ok (.ifCond .ne 72, 3) := by decide +kernel
theorem dX10_level_67 : decode cX10_level 67 = .ok (.iload 6, 2) := by decide +kernel
theorem dX10_level_69 : decode cX10_level 69 = .ok (.iload 5, 2) := by decide +kernel
theorem dX10_level_71 : decode cX10_level 71 = .ok (.iand, 1) := by decide +kernel
theorem dX10_level_72 : decode cX10_level 72 = .ok (.ifCond .ne 6, 3) := by decide +kernel
theorem dX10_level_75 : decode cX10_level 75 = .ok (.goto 61, 3) := by decide +kernel
theorem dX10_level_78 : decode cX10_level 78 = .ok (.aload_n 0, 1) := by decide +kernel
theorem dX10_level_79 : decode cX10_level 79 = .ok (.iload 6, 2) := by decide +kernel
theorem dX10_level_81 : decode cX10_level 81 = .ok (.invokevirtual 385, 3) := by decide +kernel
theorem dX10_level_84 : decode cX10_level 84 = .ok (.istore 7, 2) := by decide +kernel
theorem dX10_level_86 : decode cX10_level 86 = .ok (.aload_n 0, 1) := by decide +kernel
theorem dX10_level_87 : decode cX10_level 87 = .ok (.iload_n 1, 1) := by decide +kernel
theorem dX10_level_88 : decode cX10_level 88 = .ok (.iload 6, 2) := by decide +kernel
theorem dX10_level_90 : decode cX10_level 90 = .ok (.iconst (-1), 1) := by decide +kernel
theorem dX10_level_91 : decode cX10_level 91 = .ok (.ixor, 1) := by decide +kernel
theorem dX10_level_92 : decode cX10_level 92 = .ok (.iand, 1) := by decide +kernel
theorem dX10_level_93 : decode cX10_level 93 = .ok (.invokevirtual 385, 3) := by decide +kernel
theorem dX10_level_96 : decode cX10_level 96 = .ok (.istore 8, 2) := by decide +kernel
theorem dX10_level_98 : decode cX10_level 98 = .ok (.iload 7, 2) := by decide +kernel
theorem dX10_level_100 : decode cX10_level 100 = .ok (.iload 8, 2) := by decide +kernel
theorem dX10_level_102 : decode cX10_level 102 = .ok (.isub, 1) := by decide +kernel
theorem dX10_level_103 : decode cX10_level 103 = .ok (.iload 8, 2) := by decide +kernel
theorem dX10_level_105 : decode cX10_level 105 = .ok (.iload 7, 2) := by decide +kernel
theorem dX10_level_107 : decode cX10_level 107 = .ok (.isub, 1) := by decide +kernel
theorem dX10_level_108 : decode cX10_level 108 = .ok (.invokestatic 238, 3) := by decide +kernel
theorem dX10_level_111 : decode cX10_level 111 = .ok (.istore 9, 2) := by decide +kernel
theorem dX10_level_113 : decode cX10_level 113 = .ok (.iload 4, 2) := by decide +kernel
theorem dX10_level_115 : decode cX10_level 115 = .ok (.iconst (-1), 1) := by decide +kernel
theorem dX10_level_116 : decode cX10_level 116 = .ok (.if_icmp .eq 13, 3) := by decide +kernel
theorem dX10_level_119 : decode cX10_level 119 = .ok (.iload 9, 2) := by decide +kernel
theorem dX10_level_121 : decode cX10_level 121 = .ok (.iload 4, 2) := by decide +kernel
theorem dX10_level_123 : decode cX10_level 123 = .ok (.if_icmp .lt 6, 3) := by decide +kernel
theorem dX10_level_126 : decode cX10_level 126 = .ok (.goto 10, 3) := by decide +kernel
theorem dX10_level_129 : decode cX10_level 129 = .ok (.iload 6, 2) := by decide +kernel
theorem dX10_level_131 : decode cX10_level 131 = .ok (.istore_n 3, 1) := by decide +kernel
theorem dX10_level_132 : decode cX10_level 132 = .ok (.iload 9, 2) := by decide +kernel
theorem dX10_level_134 : decode cX10_level 134 = .ok (.istore 4, 2) := by decide +kernel
theorem dX10_level_136 : decode cX10_level 136 = .ok (.iinc 6 1, 3) := by decide +kernel
theorem dX10_level_139 : decode cX10_level 139 = .ok (.goto (-87), 3) := by decide +kernel
theorem dX10_level_142 : decode cX10_level 142 = .ok (.iload_n 2, 1) := by decide +kernel
theorem dX10_level_143 : decode cX10_level 143 = .ok (.iconst 1, 1) := by decide +kernel
theorem dX10_level_144 : decode cX10_level 144 = .ok (.if_icmp .ne 7, 3) := by decide +kernel
theorem dX10_level_147 : decode cX10_level 147 = .ok (.iload_n 3, 1) := by decide +kernel
theorem dX10_level_148 : decode cX10_level 148 = .ok (.goto 9, 3) := by decide +kernel
theorem dX10_level_151 : decode cX10_level 151 = .ok (.iconst 0, 1) := by decide +kernel
theorem dX10_level_152 : decode cX10_level 152 = .ok (.iload 4, 2) := by decide +kernel
theorem dX10_level_154 : decode cX10_level 154 = .ok (.invokestatic 238, 3) := by decide +kernel
theorem dX10_level_157 : decode cX10_level 157 = .ok (.ireturn, 1) := by decide +kernel
theorem dX10_isBeam_0 : decode cX10_isBeam 0 = .ok (.iconst 0, 1) := by decide +kernel
theorem dX10_isBeam_1 : decode cX10_isBeam 1 = .ok (.istore_n 3, 1) := by decide +kernel
theorem dX10_isBeam_2 : decode cX10_isBeam 2 = .ok (.iload_n 3, 1) := by decide +kernel
theorem dX10_isBeam_3 : decode cX10_isBeam 3 = .ok (.aload_n 0, 1) := by decide +kernel
theorem dX10_isBeam_4 : decode cX10_isBeam 4 = .ok (.getfield 191, 3) := by decide +kernel
theorem dX10_isBeam_7 : decode cX10_isBeam 7 = .ok (.if_icmp .ge 57, 3) := by decide +kernel
theorem dX10_isBeam_10 : decode cX10_isBeam 10 = .ok (.aload_n 0, 1) := by decide +kernel
theorem dX10_isBeam_11 : decode cX10_isBeam 11 = .ok (.getfield 61, 3) := by decide +kernel
theorem dX10_isBeam_14 : decode cX10_isBeam 14 = .ok (.iconst 0, 1) := by decide +kernel
theorem dX10_isBeam_15 : decode cX10_isBeam 15 = .ok (.aload_n 0, 1) := by decide +kernel
theorem dX10_isBeam_16 : decode cX10_isBeam 16 = .ok (.getfield 46, 3) := by decide +kernel
theorem dX10_isBeam_19 : decode cX10_isBeam 19 = .ok (.iload_n 3, 1) := by decide +kernel
theorem dX10_isBeam_20 : decode cX10_isBeam 20 = .ok (.aaload, 1) := by decide +kernel
theorem dX10_isBeam_21 : decode cX10_isBeam 21 = .ok (.iconst 0, 1) := by decide +kernel
theorem dX10_isBeam_22 : decode cX10_isBeam 22 = .ok (.iaload, 1) := by decide +kernel
theorem dX10_isBeam_23 : decode cX10_isBeam 23 = .ok (.iadd, 1) := by decide +kernel
theorem dX10_isBeam_24 : decode cX10_isBeam 24 = .ok (.iaload, 1) := by decide +kernel
theorem dX10_isBeam_25 : decode cX10_isBeam 25 = .ok (.aload_n 0, 1) := by decide +kernel
theorem dX10_isBeam_26 : decode cX10_isBeam 26 = .ok (.getfield 61, 3) := by decide +kernel
theorem dX10_isBeam_29 : decode cX10_isBeam 29 = .ok (.iconst 0, 1) := by decide +kernel
theorem dX10_isBeam_30 : decode cX10_isBeam 30 = .ok (.aload_n 0, 1) := by decide +kernel
theorem dX10_isBeam_31 : decode cX10_isBeam 31 = .ok (.getfield 46, 3) := by decide +kernel
theorem dX10_isBeam_34 : decode cX10_isBeam 34 = .ok (.iload_n 3, 1) := by decide +kernel
theorem dX10_isBeam_35 : decode cX10_isBeam 35 = .ok (.aaload, 1) := by decide +kernel
theorem dX10_isBeam_36 : decode cX10_isBeam 36 = .ok (.iconst 1, 1) := by decide +kernel
theorem dX10_isBeam_37 : decode cX10_isBeam 37 = .ok (.iaload, 1) := by decide +kernel
theorem dX10_isBeam_38 : decode cX10_isBeam 38 = .ok (.iadd, 1) := by decide +kernel
theorem dX10_isBeam_39 : decode cX10_isBeam 39 = .ok (.iaload, 1) := by decide +kernel
theorem dX10_isBeam_40 : decode cX10_isBeam 40 = .ok (.iload_n 1, 1) := by decide +kernel
theorem dX10_isBeam_41 : decode cX10_isBeam 41 = .ok (.iload_n 2, 1) := by decide +kernel
theorem dX10_isBeam_42 : decode cX10_isBeam 42 = .ok (.invokestatic 267, 3) := by decide +kernel
theorem dX10_isBeam_45 : decode cX10_isBeam 45 = .ok (.aload_n 0, 1) := by decide +kernel
theorem dX10_isBeam_46 : decode cX10_isBeam 46 = .ok (.getfield 46, 3) := by decide +kernel
theorem dX10_isBeam_49 : decode cX10_isBeam 49 = .ok (.iload_n 3, 1) := by decide +kernel
theorem dX10_isBeam_50 : decode cX10_isBeam 50 = .ok (.aaload, 1) := by decide +kernel
theorem dX10_isBeam_51 : decode cX10_isBeam 51 = .ok (.iconst 2, 1) := by decide +kernel
theorem dX10_isBeam_52 : decode cX10_isBeam 52 = .ok (.iaload, 1) := by decide +kernel
theorem dX10_isBeam_53 : decode cX10_isBeam 53 = .ok (.if_icmp .eq 5, 3) := by decide +kernel
theorem dX10_isBeam_56 : decode cX10_isBeam 56 = .ok (.iconst 0, 1) := by decide +kernel
theorem dX10_isBeam_57 : decode cX10_isBeam 57 = .ok (.ireturn, 1) := by decide +kernel
theorem dX10_isBeam_58 : decode cX10_isBeam 58 = .ok (.iinc 3 1, 3) := by decide +kernel
theorem dX10_isBeam_61 : decode cX10_isBeam 61 = .ok (.goto (-59), 3) := by decide +kernel
theorem dX10_isBeam_64 : decode cX10_isBeam 64 = .ok (.iconst 1, 1) := by decide +kernel
theorem dX10_isBeam_65 : decode cX10_isBeam 65 = .ok (.ireturn, 1) := by decide +kernel
theorem dX10_fits_0 : decode cX10_fits 0 = .ok (.aload_n 0, 1) := by decide +kernel
theorem dX10_fits_1 : decode cX10_fits 1 = .ok (.iconst 0, 1) := by decide +kernel
theorem dX10_fits_2 : decode cX10_fits 2 = .ok (.putfield 92, 3) := by decide +kernel
theorem dX10_fits_5 : decode cX10_fits 5 = .ok (.aload_n 0, 1) := by decide +kernel
theorem dX10_fits_6 : decode cX10_fits 6 = .ok (.iload_n 1, 1) := by decide +kernel
theorem dX10_fits_7 : decode cX10_fits 7 = .ok (.iconst 0, 1) := by decide +kernel
theorem dX10_fits_8 : decode cX10_fits 8 = .ok (.iconst 1, 1) := by decide +kernel
theorem dX10_fits_9 : decode cX10_fits 9 = .ok (.invokestatic 126, 3) := by decide +kernel
theorem dX10_fits_12 : decode cX10_fits 12 = .ok (.ifCond .ne 7, 3) := by decide +kernel
theorem dX10_fits_15 : decode cX10_fits 15 = .ok (.iconst 1, 1) := by decide +kernel
theorem dX10_fits_16 : decode cX10_fits 16 = .ok (.goto 4, 3) := by decide +kernel
theorem dX10_fits_19 : decode cX10_fits 19 = .ok (.iconst 0, 1) := by decide +kernel
theorem dX10_fits_20 : decode cX10_fits 20 = .ok (.iconst 1, 1) := by decide +kernel
theorem dX10_fits_21 : decode cX10_fits 21 = .ok (.iconst 1, 1) := by decide +kernel
theorem dX10_fits_22 : decode cX10_fits 22 = .ok (.invokevirtual 171, 3) := by decide +kernel
theorem dX10_fits_25 : decode cX10_fits 25 = .ok (.ifCond .eq 5, 3) := by decide +kernel
theorem dX10_fits_28 : decode cX10_fits 28 = .ok (.iconst 0, 1) := by decide +kernel
theorem dX10_fits_29 : decode cX10_fits 29 = .ok (.ireturn, 1) := by decide +kernel
theorem dX10_fits_30 : decode cX10_fits 30 = .ok (.iconst 0, 1) := by decide +kernel
theorem dX10_fits_31 : decode cX10_fits 31 = .ok (.istore_n 2, 1) := by decide +kernel
theorem dX10_fits_32 : decode cX10_fits 32 = .ok (.iconst (-1), 1) := by decide +kernel
theorem dX10_fits_33 : decode cX10_fits 33 = .ok (.istore_n 3, 1) := by decide +kernel
theorem dX10_fits_34 : decode cX10_fits 34 = .ok (.iconst 0, 1) := by decide +kernel
theorem dX10_fits_35 : decode cX10_fits 35 = .ok (.istore 4, 2) := by decide +kernel
theorem dX10_fits_37 : decode cX10_fits 37 = .ok (.iload 4, 2) := by decide +kernel
theorem dX10_fits_39 : decode cX10_fits 39 = .ok (.sipush 190, 3) := by decide +kernel
theorem dX10_fits_42 : decode cX10_fits 42 = .ok (.if_icmp .ge 43, 3) := by decide +kernel
theorem dX10_fits_45 : decode cX10_fits 45 = .ok (.aload_n 0, 1) := by decide +kernel
theorem dX10_fits_46 : decode cX10_fits 46 = .ok (.iload 4, 2) := by decide +kernel
theorem dX10_fits_48 : decode cX10_fits 48 = .ok (.bipush 10, 2) := by decide +kernel
theorem dX10_fits_50 : decode cX10_fits 50 = .ok (.idiv, 1) := by decide +kernel
theorem dX10_fits_51 : decode cX10_fits 51 = .ok (.iload 4, 2) := by decide +kernel
theorem dX10_fits_53 : decode cX10_fits 53 = .ok (.bipush 10, 2) := by decide +kernel
theorem dX10_fits_55 : decode cX10_fits 55 = .ok (.irem, 1) := by decide +kernel
theorem dX10_fits_56 : decode cX10_fits 56 = .ok (.invokevirtual 388, 3) := by decide +kernel
theorem dX10_fits_59 : decode cX10_fits 59 = .ok (.ifCond .ne 6, 3) := by decide +kernel
theorem dX10_fits_62 : decode cX10_fits 62 = .ok (.goto 17, 3) := by decide +kernel
theorem dX10_fits_65 : decode cX10_fits 65 = .ok (.iload_n 2, 1) := by decide +kernel
theorem dX10_fits_66 : decode cX10_fits 66 = .ok (.ifCond .ne 8, 3) := by decide +kernel
theorem dX10_fits_69 : decode cX10_fits 69 = .ok (.iload 4, 2) := by decide +kernel
theorem dX10_fits_71 : decode cX10_fits 71 = .ok (.goto 4, 3) := by decide +kernel
theorem dX10_fits_74 : decode cX10_fits 74 = .ok (.iload_n 3, 1) := by decide +kernel
theorem dX10_fits_75 : decode cX10_fits 75 = .ok (.istore_n 3, 1) := by decide +kernel
theorem dX10_fits_76 : decode cX10_fits 76 = .ok (.iinc 2 1, 3) := by decide +kernel
theorem dX10_fits_79 : decode cX10_fits 79 = .ok (.iinc 4 1, 3) := by decide +kernel
theorem dX10_fits_82 : decode cX10_fits 82 = .ok (.goto (-45), 3) := by decide +kernel
theorem dX10_fits_85 : decode cX10_fits 85 = .ok (.iload_n 1, 1) := by decide +kernel
theorem dX10_fits_86 : decode cX10_fits 86 = .ok (.ifCond .ne 7, 3) := by decide +kernel
theorem dX10_fits_89 : decode cX10_fits 89 = .ok (.iload_n 2, 1) := by decide +kernel
theorem dX10_fits_90 : decode cX10_fits 90 = .ok (.goto 4, 3) := by decide +kernel
theorem dX10_fits_93 : decode cX10_fits 93 = .ok (.iload_n 3, 1) := by decide +kernel
theorem dX10_fits_94 : decode cX10_fits 94 = .ok (.ireturn, 1) := by decide +kernel
theorem dX10_worstOf_0 : decode cX10_worstOf 0 = .ok (.iconst 0, 1) := by decide +kernel
theorem dX10_worstOf_1 : decode cX10_worstOf 1 = .ok (.istore_n 3, 1) := by decide +kernel
theorem dX10_worstOf_2 : decode cX10_worstOf 2 = .ok (.iload_n 3, 1) := by decide +kernel
theorem dX10_worstOf_3 : decode cX10_worstOf 3 = .ok (.iconst 3, 1) := by decide +kernel
theorem dX10_worstOf_4 : decode cX10_worstOf 4 = .ok (.if_icmp .ge 16, 3) := by decide +kernel
theorem dX10_worstOf_7 : decode cX10_worstOf 7 = .ok (.aload_n 0, 1) := by decide +kernel
theorem dX10_worstOf_8 : decode cX10_worstOf 8 = .ok (.getfield 83, 3) := by decide +kernel
theorem dX10_worstOf_11 : decode cX10_worstOf 11 = .ok (.iload_n 3, 1) := by decide +kernel
theorem dX10_worstOf_12 : decode cX10_worstOf 12 = .ok (.iconst 0, 1) := by decide +kernel
theorem dX10_worstOf_13 : decode cX10_worstOf 13 = .ok (.iastore, 1) := by decide +kernel
theorem dX10_worstOf_14 : decode cX10_worstOf 14 = .ok (.iinc 3 1, 3) := by decide +kernel
theorem dX10_worstOf_17 : decode cX10_worstOf 17 = .ok (.goto (-15), 3) := by decide +kernel
theorem dX10_worstOf_20 : decode cX10_worstOf 20 = .ok (.iconst 0, 1) := by decide +kernel
theorem dX10_worstOf_21 : decode cX10_worstOf 21 = .ok (.istore_n 3, 1) := by decide +kernel
theorem dX10_worstOf_22 : decode cX10_worstOf 22 = .ok (.iload_n 3, 1) := by decide +kernel
theorem dX10_worstOf_23 : decode cX10_worstOf 23 = .ok (.sipush 190, 3) := by decide +kernel
theorem dX10_worstOf_26 : decode cX10_worstOf 26 = .ok (.if_icmp .ge 60, 3) := by decide +kernel
theorem dX10_worstOf_29 : decode cX10_worstOf 29 = .ok (.aload_n 0, 1) := by decide +kernel
theorem dX10_worstOf_30 : decode cX10_worstOf 30 = .ok (.iload_n 3, 1) := by decide +kernel
theorem dX10_worstOf_31 : decode cX10_worstOf 31 = .ok (.bipush 10, 2) := by decide +kernel
theorem dX10_worstOf_33 : decode cX10_worstOf 33 = .ok (.idiv, 1) := by decide +kernel
theorem dX10_worstOf_34 : decode cX10_worstOf 34 = .ok (.iload_n 3, 1) := by decide +kernel
theorem dX10_worstOf_35 : decode cX10_worstOf 35 = .ok (.bipush 10, 2) := by decide +kernel
theorem dX10_worstOf_37 : decode cX10_worstOf 37 = .ok (.irem, 1) := by decide +kernel
theorem dX10_worstOf_38 : decode cX10_worstOf 38 = .ok (.invokevirtual 388, 3) := by decide +kernel
theorem dX10_worstOf_41 : decode cX10_worstOf 41 = .ok (.ifCond .eq 39, 3) := by decide +kernel
theorem dX10_worstOf_44 : decode cX10_worstOf 44 = .ok (.aload_n 0, 1) := by decide +kernel
theorem dX10_worstOf_45 : decode cX10_worstOf 45 = .ok (.getfield 83, 3) := by decide +kernel
theorem dX10_worstOf_48 : decode cX10_worstOf 48 = .ok (.aload_n 0, 1) := by decide +kernel
theorem dX10_worstOf_49 : decode cX10_worstOf 49 = .ok (.getfield 61, 3) := by decide +kernel
theorem dX10_worstOf_52 : decode cX10_worstOf 52 = .ok (.iconst 0, 1) := by decide +kernel
theorem dX10_worstOf_53 : decode cX10_worstOf 53 = .ok (.iload_n 1, 1) := by decide +kernel
theorem dX10_worstOf_54 : decode cX10_worstOf 54 = .ok (.iadd, 1) := by decide +kernel
theorem dX10_worstOf_55 : decode cX10_worstOf 55 = .ok (.iaload, 1) := by decide +kernel
theorem dX10_worstOf_56 : decode cX10_worstOf 56 = .ok (.aload_n 0, 1) := by decide +kernel
theorem dX10_worstOf_57 : decode cX10_worstOf 57 = .ok (.getfield 61, 3) := by decide +kernel
theorem dX10_worstOf_60 : decode cX10_worstOf 60 = .ok (.iconst 0, 1) := by decide +kernel
theorem dX10_worstOf_61 : decode cX10_worstOf 61 = .ok (.iload_n 2, 1) := by decide +kernel
theorem dX10_worstOf_62 : decode cX10_worstOf 62 = .ok (.iadd, 1) := by decide +kernel
theorem dX10_worstOf_63 : decode cX10_worstOf 63 = .ok (.iaload, 1) := by decide +kernel
theorem dX10_worstOf_64 : decode cX10_worstOf 64 = .ok (.iload_n 3, 1) := by decide +kernel
theorem dX10_worstOf_65 : decode cX10_worstOf 65 = .ok (.bipush 10, 2) := by decide +kernel
theorem dX10_worstOf_67 : decode cX10_worstOf 67 = .ok (.idiv, 1) := by decide +kernel
theorem dX10_worstOf_68 : decode cX10_worstOf 68 = .ok (.iload_n 3, 1) := by decide +kernel
theorem dX10_worstOf_69 : decode cX10_worstOf 69 = .ok (.bipush 10, 2) := by decide +kernel
theorem dX10_worstOf_71 : decode cX10_worstOf 71 = .ok (.irem, 1) := by decide +kernel
theorem dX10_worstOf_72 : decode cX10_worstOf 72 = .ok (.invokestatic 267, 3) := by decide +kernel
theorem dX10_worstOf_75 : decode cX10_worstOf 75 = .ok (.dup2, 1) := by decide +kernel
theorem dX10_worstOf_76 : decode cX10_worstOf 76 = .ok (.iaload, 1) := by decide +kernel
theorem dX10_worstOf_77 : decode cX10_worstOf 77 = .ok (.iconst 1, 1) := by decide +kernel
theorem dX10_worstOf_78 : decode cX10_worstOf 78 = .ok (.iadd, 1) := by decide +kernel
theorem dX10_worstOf_79 : decode cX10_worstOf 79 = .ok (.iastore, 1) := by decide +kernel
theorem dX10_worstOf_80 : decode cX10_worstOf 80 = .ok (.iinc 3 1, 3) := by decide +kernel
theorem dX10_worstOf_83 : decode cX10_worstOf 83 = .ok (.goto (-61), 3) := by decide +kernel
theorem dX10_worstOf_86 : decode cX10_worstOf 86 = .ok (.aload_n 0, 1) := by decide +kernel
theorem dX10_worstOf_87 : decode cX10_worstOf 87 = .ok (.getfield 83, 3) := by decide +kernel
theorem dX10_worstOf_90 : decode cX10_worstOf 90 = .ok (.iconst 0, 1) := by decide +kernel
theorem dX10_worstOf_91 : decode cX10_worstOf 91 = .ok (.iaload, 1) := by decide +kernel
theorem dX10_worstOf_92 : decode cX10_worstOf 92 = .ok (.aload_n 0, 1) := by decide +kernel
theorem dX10_worstOf_93 : decode cX10_worstOf 93 = .ok (.getfield 83, 3) := by decide +kernel
theorem dX10_worstOf_96 : decode cX10_worstOf 96 = .ok (.iconst 1, 1) := by decide +kernel
theorem dX10_worstOf_97 : decode cX10_worstOf 97 = .ok (.iaload, 1) := by decide +kernel
theorem dX10_worstOf_98 : decode cX10_worstOf 98 = .ok (.aload_n 0, 1) := by decide +kernel
theorem dX10_worstOf_99 : decode cX10_worstOf 99 = .ok (.getfield 83, 3) := by decide +kernel
theorem dX10_worstOf_102 : decode cX10_worstOf 102 = .ok (.iconst 2, 1) := by decide +kernel
theorem dX10_worstOf_103 : decode cX10_worstOf 103 = .ok (.iaload, 1) := by decide +kernel
theorem dX10_worstOf_104 : decode cX10_worstOf 104 = .ok (.invokestatic 238, 3) := by decide +kernel
theorem dX10_worstOf_107 : decode cX10_worstOf 107 = .ok (.invokestatic 238, 3) := by decide +kernel
theorem dX10_worstOf_110 : decode cX10_worstOf 110 = .ok (.ireturn, 1) := by decide +kernel
theorem dX10_look_0 : decode cX10_look 0 = .ok (.aload_n 0, 1) := by decide +kernel
theorem dX10_look_1 : decode cX10_look 1 = .ok (.iconst 0, 1) := by decide +kernel
theorem dX10_look_2 : decode cX10_look 2 = .ok (.putfield 92, 3) := by decide +kernel
theorem dX10_look_5 : decode cX10_look 5 = .ok (.aload_n 0, 1) := by decide +kernel
theorem dX10_look_6 : decode cX10_look 6 = .ok (.iload_n 1, 1) := by decide +kernel
theorem dX10_look_7 : decode cX10_look 7 = .ok (.iconst 0, 1) := by decide +kernel
theorem dX10_look_8 : decode cX10_look 8 = .ok (.iconst 1, 1) := by decide +kernel
theorem dX10_look_9 : decode cX10_look 9 = .ok (.invokestatic 126, 3) := by decide +kernel
theorem dX10_look_12 : decode cX10_look 12 = .ok (.ifCond .ne 7, 3) := by decide +kernel
theorem dX10_look_15 : decode cX10_look 15 = .ok (.iconst 1, 1) := by decide +kernel
theorem dX10_look_16 : decode cX10_look 16 = .ok (.goto 4, 3) := by decide +kernel
theorem dX10_look_19 : decode cX10_look 19 = .ok (.iconst 0, 1) := by decide +kernel
theorem dX10_look_20 : decode cX10_look 20 = .ok (.iconst 1, 1) := by decide +kernel
theorem dX10_look_21 : decode cX10_look 21 = .ok (.iconst 1, 1) := by decide +kernel
theorem dX10_look_22 : decode cX10_look 22 = .ok (.invokevirtual 171, 3) := by decide +kernel
theorem dX10_look_25 : decode cX10_look 25 = .ok (.ifCond .eq 5, 3) := by decide +kernel
theorem dX10_look_28 : decode cX10_look 28 = .ok (.iconst 0, 1) := by decide +kernel
theorem dX10_look_29 : decode cX10_look 29 = .ok (.ireturn, 1) := by decide +kernel
theorem dX10_look_30 : decode cX10_look 30 = .ok (.iconst (-1), 1) := by decide +kernel
theorem dX10_look_31 : decode cX10_look 31 = .ok (.istore_n 2, 1) := by decide +kernel
theorem dX10_look_32 : decode cX10_look 32 = .ok (.iconst (-1), 1) := by decide +kernel
theorem dX10_look_33 : decode cX10_look 33 = .ok (.istore_n 3, 1) := by decide +kernel
theorem dX10_look_34 : decode cX10_look 34 = .ok (.iconst 0, 1) := by decide +kernel
theorem dX10_look_35 : decode cX10_look 35 = .ok (.istore 4, 2) := by decide +kernel
theorem dX10_look_37 : decode cX10_look 37 = .ok (.iload 4, 2) := by decide +kernel
theorem dX10_look_39 : decode cX10_look 39 = .ok (.aload_n 0, 1) := by decide +kernel
theorem dX10_look_40 : decode cX10_look 40 = .ok (.getfield 23, 3) := by decide +kernel
theorem dX10_look_43 : decode cX10_look 43 = .ok (.iconst 0, 1) := by decide +kernel
theorem dX10_look_44 : decode cX10_look 44 = .ok (.iaload, 1) := by decide +kernel
theorem dX10_look_45 : decode cX10_look 45 = .ok (.if_icmp .ge 68, 3) := by decide +kernel
theorem dX10_look_48 : decode cX10_look 48 = .ok (.iload 4, 2) := by decide +kernel
theorem dX10_look_50 : decode cX10_look 50 = .ok (.iconst 1, 1) := by decide +kernel
theorem dX10_look_51 : decode cX10_look 51 = .ok (.iadd, 1) := by decide +kernel
theorem dX10_look_52 : decode cX10_look 52 = .ok (.istore 5, 2) := by decide +kernel
theorem dX10_look_54 : decode cX10_look 54 = .ok (.iload 5, 2) := by decide +kernel
theorem dX10_look_56 : decode cX10_look 56 = .ok (.aload_n 0, 1) := by decide +kernel
theorem dX10_look_57 : decode cX10_look 57 = .ok (.getfield 23, 3) := by decide +kernel
theorem dX10_look_60 : decode cX10_look 60 = .ok (.iconst 0, 1) := by decide +kernel
theorem dX10_look_61 : decode cX10_look 61 = .ok (.iaload, 1) := by decide +kernel
theorem dX10_look_62 : decode cX10_look 62 = .ok (.if_icmp .ge 45, 3) := by decide +kernel
theorem dX10_look_65 : decode cX10_look 65 = .ok (.aload_n 0, 1) := by decide +kernel
theorem dX10_look_66 : decode cX10_look 66 = .ok (.iload 4, 2) := by decide +kernel
theorem dX10_look_68 : decode cX10_look 68 = .ok (.iload 5, 2) := by decide +kernel
theorem dX10_look_70 : decode cX10_look 70 = .ok (.invokevirtual 391, 3) := by decide +kernel
theorem dX10_look_73 : decode cX10_look 73 = .ok (.istore 6, 2) := by decide +kernel
theorem dX10_look_75 : decode cX10_look 75 = .ok (.iload_n 2, 1) := by decide +kernel
theorem dX10_look_76 : decode cX10_look 76 = .ok (.iconst (-1), 1) := by decide +kernel
theorem dX10_look_77 : decode cX10_look 77 = .ok (.if_icmp .eq 12, 3) := by decide +kernel
theorem dX10_look_80 : decode cX10_look 80 = .ok (.iload 6, 2) := by decide +kernel
theorem dX10_look_82 : decode cX10_look 82 = .ok (.iload_n 3, 1) := by decide +kernel
theorem dX10_look_83 : decode cX10_look 83 = .ok (.if_icmp .lt 6, 3) := by decide +kernel
theorem dX10_look_86 : decode cX10_look 86 = .ok (.goto 15, 3) := by decide +kernel
theorem dX10_look_89 : decode cX10_look 89 = .ok (.bipush 10, 2) := by decide +kernel
theorem dX10_look_91 : decode cX10_look 91 = .ok (.iload 4, 2) := by decide +kernel
theorem dX10_look_93 : decode cX10_look 93 = .ok (.imul, 1) := by decide +kernel
theorem dX10_look_94 : decode cX10_look 94 = .ok (.iload 5, 2) := by decide +kernel
theorem dX10_look_96 : decode cX10_look 96 = .ok (.iadd, 1) := by decide +kernel
theorem dX10_look_97 : decode cX10_look 97 = .ok (.istore_n 2, 1) := by decide +kernel
theorem dX10_look_98 : decode cX10_look 98 = .ok (.iload 6, 2) := by decide +kernel
theorem dX10_look_100 : decode cX10_look 100 = .ok (.istore_n 3, 1) := by decide +kernel
theorem dX10_look_101 : decode cX10_look 101 = .ok (.iinc 5 1, 3) := by decide +kernel
theorem dX10_look_104 : decode cX10_look 104 = .ok (.goto (-50), 3) := by decide +kernel
theorem dX10_look_107 : decode cX10_look 107 = .ok (.iinc 4 1, 3) := by decide +kernel
theorem dX10_look_110 : decode cX10_look 110 = .ok (.goto (-73), 3) := by decide +kernel
theorem dX10_look_113 : decode cX10_look 113 = .ok (.iload_n 1, 1) := by decide +kernel
theorem dX10_look_114 : decode cX10_look 114 = .ok (.ifCond .ne 7, 3) := by decide +kernel
theorem dX10_look_117 : decode cX10_look 117 = .ok (.iload_n 2, 1) := by decide +kernel
theorem dX10_look_118 : decode cX10_look 118 = .ok (.goto 4, 3) := by decide +kernel
theorem dX10_look_121 : decode cX10_look 121 = .ok (.iload_n 3, 1) := by decide +kernel
theorem dX10_look_122 : decode cX10_look 122 = .ok (.ireturn, 1) := by decide +kernel
theorem dX10_falsely_0 : decode cX10_falsely 0 = .ok (.aload_n 0, 1) := by decide +kernel
theorem dX10_falsely_1 : decode cX10_falsely 1 = .ok (.iconst 0, 1) := by decide +kernel
theorem dX10_falsely_2 : decode cX10_falsely 2 = .ok (.putfield 92, 3) := by decide +kernel
theorem dX10_falsely_5 : decode cX10_falsely 5 = .ok (.aload_n 0, 1) := by decide +kernel
theorem dX10_falsely_6 : decode cX10_falsely 6 = .ok (.iload_n 1, 1) := by decide +kernel
theorem dX10_falsely_7 : decode cX10_falsely 7 = .ok (.iconst 1, 1) := by decide +kernel
theorem dX10_falsely_8 : decode cX10_falsely 8 = .ok (.sipush 9999, 3) := by decide +kernel
theorem dX10_falsely_11 : decode cX10_falsely 11 = .ok (.invokestatic 126, 3) := by decide +kernel
theorem dX10_falsely_14 : decode cX10_falsely 14 = .ok (.ifCond .ne 7, 3) := by decide +kernel
theorem dX10_falsely_17 : decode cX10_falsely 17 = .ok (.iconst 1, 1) := by decide +kernel
theorem dX10_falsely_18 : decode cX10_falsely 18 = .ok (.goto 4, 3) := by decide +kernel
theorem dX10_falsely_21 : decode cX10_falsely 21 = .ok (.iconst 0, 1) := by decide +kernel
theorem dX10_falsely_22 : decode cX10_falsely 22 = .ok (.iconst 1, 1) := by decide +kernel
theorem dX10_falsely_23 : decode cX10_falsely 23 = .ok (.iconst 1, 1) := by decide +kernel
theorem dX10_falsely_24 : decode cX10_falsely 24 = .ok (.invokevirtual 171, 3) := by decide +kernel
theorem dX10_falsely_27 : decode cX10_falsely 27 = .ok (.ifCond .eq 5, 3) := by decide +kernel
theorem dX10_falsely_30 : decode cX10_falsely 30 = .ok (.iconst 0, 1) := by decide +kernel
theorem dX10_falsely_31 : decode cX10_falsely 31 = .ok (.ireturn, 1) := by decide +kernel
theorem dX10_falsely_32 : decode cX10_falsely 32 = .ok (.iconst 2, 1) := by decide +kernel
theorem dX10_falsely_33 : decode cX10_falsely 33 = .ok (.istore_n 2, 1) := by decide +kernel
theorem dX10_falsely_34 : decode cX10_falsely 34 = .ok (.bipush 9, 2) := by decide +kernel
theorem dX10_falsely_36 : decode cX10_falsely 36 = .ok (.istore_n 3, 1) := by decide +kernel
theorem dX10_falsely_37 : decode cX10_falsely 37 = .ok (.iload_n 3, 1) := by decide +kernel
theorem dX10_falsely_38 : decode cX10_falsely 38 = .ok (.iconst 3, 1) := by decide +kernel
theorem dX10_falsely_39 : decode cX10_falsely 39 = .ok (.isub, 1) := by decide +kernel
theorem dX10_falsely_40 : decode cX10_falsely 40 = .ok (.iconst 2, 1) := by decide +kernel
theorem dX10_falsely_41 : decode cX10_falsely 41 = .ok (.idiv, 1) := by decide +kernel
theorem dX10_falsely_42 : decode cX10_falsely 42 = .ok (.iload_n 1, 1) := by decide +kernel
theorem dX10_falsely_43 : decode cX10_falsely 43 = .ok (.if_icmp .ge 13, 3) := by decide +kernel
theorem dX10_falsely_46 : decode cX10_falsely 46 = .ok (.iinc 2 1, 3) := by decide +kernel
theorem dX10_falsely_49 : decode cX10_falsely 49 = .ok (.iload_n 3, 1) := by decide +kernel
theorem dX10_falsely_50 : decode cX10_falsely 50 = .ok (.iconst 3, 1) := by decide +kernel
theorem dX10_falsely_51 : decode cX10_falsely 51 = .ok (.imul, 1) := by decide +kernel
theorem dX10_falsely_52 : decode cX10_falsely 52 = .ok (.istore_n 3, 1) := by decide +kernel
theorem dX10_falsely_53 : decode cX10_falsely 53 = .ok (.goto (-16), 3) := by decide +kernel
theorem dX10_falsely_56 : decode cX10_falsely 56 = .ok (.iload_n 1, 1) := by decide +kernel
theorem dX10_falsely_57 : decode cX10_falsely 57 = .ok (.iconst 3, 1) := by decide +kernel
theorem dX10_falsely_58 : decode cX10_falsely 58 = .ok (.if_icmp .ge 7, 3) := by decide +kernel
theorem dX10_falsely_61 : decode cX10_falsely 61 = .ok (.iconst (-1), 1) := by decide +kernel
theorem dX10_falsely_62 : decode cX10_falsely 62 = .ok (.goto 4, 3) := by decide +kernel
theorem dX10_falsely_65 : decode cX10_falsely 65 = .ok (.iload_n 2, 1) := by decide +kernel
theorem dX10_falsely_66 : decode cX10_falsely 66 = .ok (.ireturn, 1) := by decide +kernel
theorem dX10_hasBy_0 : decode cX10_hasBy 0 = .ok (.iload_n 0, 1) := by decide +kernel
theorem dX10_hasBy_1 : decode cX10_hasBy 1 = .ok (.ifCond .ne 15, 3) := by decide +kernel
theorem dX10_hasBy_4 : decode cX10_hasBy 4 = .ok (.iload_n 1, 1) := by decide +kernel
theorem dX10_hasBy_5 : decode cX10_hasBy 5 = .ok (.ifCond .ne 7, 3) := by decide +kernel
theorem dX10_hasBy_8 : decode cX10_hasBy 8 = .ok (.iload_n 2, 1) := by decide +kernel
theorem dX10_hasBy_9 : decode cX10_hasBy 9 = .ok (.goto 16, 3) := by decide +kernel
theorem dX10_hasBy_12 : decode cX10_hasBy 12 = .ok (.iconst 0, 1) := by decide +kernel
theorem dX10_hasBy_13 : decode cX10_hasBy 13 = .ok (.goto 12, 3) := by decide +kernel
theorem dX10_hasBy_16 : decode cX10_hasBy 16 = .ok (.iload_n 1, 1) := by decide +kernel
theorem dX10_hasBy_17 : decode cX10_hasBy 17 = .ok (.ifCond .ne 7, 3) := by decide +kernel
theorem dX10_hasBy_20 : decode cX10_hasBy 20 = .ok (.iload_n 3, 1) := by decide +kernel
theorem dX10_hasBy_21 : decode cX10_hasBy 21 = .ok (.goto 4, 3) := by decide +kernel
theorem dX10_hasBy_24 : decode cX10_hasBy 24 = .ok (.iconst (-1), 1) := by decide +kernel
theorem dX10_hasBy_25 : decode cX10_hasBy 25 = .ok (.ireturn, 1) := by decide +kernel
theorem dX10_isBest_0 : decode cX10_isBest 0 = .ok (.iload_n 0, 1) := by decide +kernel
theorem dX10_isBest_1 : decode cX10_isBest 1 = .ok (.iload_n 1, 1) := by decide +kernel
theorem dX10_isBest_2 : decode cX10_isBest 2 = .ok (.iload_n 2, 1) := by decide +kernel
theorem dX10_isBest_3 : decode cX10_isBest 3 = .ok (.iload_n 3, 1) := by decide +kernel
theorem dX10_isBest_4 : decode cX10_isBest 4 = .ok (.invokestatic 394, 3) := by decide +kernel
theorem dX10_isBest_7 : decode cX10_isBest 7 = .ok (.iconst 1, 1) := by decide +kernel
theorem dX10_isBest_8 : decode cX10_isBest 8 = .ok (.iload_n 0, 1) := by decide +kernel
theorem dX10_isBest_9 : decode cX10_isBest 9 = .ok (.isub, 1) := by decide +kernel
theorem dX10_isBest_10 : decode cX10_isBest 10 = .ok (.iload_n 1, 1) := by decide +kernel
theorem dX10_isBest_11 : decode cX10_isBest 11 = .ok (.iload_n 2, 1) := by decide +kernel
theorem dX10_isBest_12 : decode cX10_isBest 12 = .ok (.iload_n 3, 1) := by decide +kernel
theorem dX10_isBest_13 : decode cX10_isBest 13 = .ok (.invokestatic 394, 3) := by decide +kernel
theorem dX10_isBest_16 : decode cX10_isBest 16 = .ok (.if_icmp .lt 7, 3) := by decide +kernel
theorem dX10_isBest_19 : decode cX10_isBest 19 = .ok (.iconst 1, 1) := by decide +kernel
theorem dX10_isBest_20 : decode cX10_isBest 20 = .ok (.goto 4, 3) := by decide +kernel
theorem dX10_isBest_23 : decode cX10_isBest 23 = .ok (.iconst 0, 1) := by decide +kernel
theorem dX10_isBest_24 : decode cX10_isBest 24 = .ok (.ireturn, 1) := by decide +kernel
theorem dX10_sellers_0 : decode cX10_sellers 0 = .ok (.aload_n 0, 1) := by decide +kernel
theorem dX10_sellers_1 : decode cX10_sellers 1 = .ok (.iconst 0, 1) := by decide +kernel
theorem dX10_sellers_2 : decode cX10_sellers 2 = .ok (.putfield 92, 3) := by decide +kernel
theorem dX10_sellers_5 : decode cX10_sellers 5 = .ok (.aload_n 0, 1) := by decide +kernel
theorem dX10_sellers_6 : decode cX10_sellers 6 = .ok (.iload_n 1, 1) := by decide +kernel
theorem dX10_sellers_7 : decode cX10_sellers 7 = .ok (.iconst 0, 1) := by decide +kernel
theorem dX10_sellers_8 : decode cX10_sellers 8 = .ok (.bipush 99, 2) := by decide +kernel
theorem dX10_sellers_10 : decode cX10_sellers 10 = .ok (.invokestatic 126, 3) := by decide +kernel
theorem dX10_sellers_13 : decode cX10_sellers 13 = .ok (.ifCond .eq 22, 3) := by decide +kernel
theorem dX10_sellers_16 : decode cX10_sellers 16 = .ok (.iload_n 2, 1) := by decide +kernel
theorem dX10_sellers_17 : decode cX10_sellers 17 = .ok (.iconst 0, 1) := by decide +kernel
theorem dX10_sellers_18 : decode cX10_sellers 18 = .ok (.bipush 99, 2) := by decide +kernel
theorem dX10_sellers_20 : decode cX10_sellers 20 = .ok (.invokestatic 126, 3) := by decide +kernel
theorem dX10_sellers_23 : decode cX10_sellers 23 = .ok (.ifCond .eq 12, 3) := by decide +kernel
theorem dX10_sellers_26 : decode cX10_sellers 26 = .ok (.iload_n 3, 1) := by decide +kernel
theorem dX10_sellers_27 : decode cX10_sellers 27 = .ok (.iconst 0, 1) := by decide +kernel
theorem dX10_sellers_28 : decode cX10_sellers 28 = .ok (.iconst 2, 1) := by decide +kernel
theorem dX10_sellers_29 : decode cX10_sellers 29 = .ok (.invokestatic 126, 3) := by decide +kernel
theorem dX10_sellers_32 : decode cX10_sellers 32 = .ok (.ifCond .ne 7, 3) := by decide +kernel
theorem dX10_sellers_35 : decode cX10_sellers 35 = .ok (.iconst 1, 1) := by decide +kernel
theorem dX10_sellers_36 : decode cX10_sellers 36 = .ok (.goto 4, 3) := by decide +kernel
theorem dX10_sellers_39 : decode cX10_sellers 39 = .ok (.iconst 0, 1) := by decide +kernel
theorem dX10_sellers_40 : decode cX10_sellers 40 = .ok (.iconst 1, 1) := by decide +kernel
theorem dX10_sellers_41 : decode cX10_sellers 41 = .ok (.iconst 1, 1) := by decide +kernel
theorem dX10_sellers_42 : decode cX10_sellers 42 = .ok (.invokevirtual 171, 3) := by decide +kernel
theorem dX10_sellers_45 : decode cX10_sellers 45 = .ok (.ifCond .eq 5, 3) := by decide +kernel
theorem dX10_sellers_48 : decode cX10_sellers 48 = .ok (.iconst 0, 1) := by decide +kernel
theorem dX10_sellers_49 : decode cX10_sellers 49 = .ok (.ireturn, 1) := by decide +kernel
theorem dX10_sellers_50 : decode cX10_sellers 50 = .ok (.iconst 0, 1) := by decide +kernel
theorem dX10_sellers_51 : decode cX10_sellers 51 = .ok (.istore 4, 2) := by decide +kernel
theorem dX10_sellers_53 : decode cX10_sellers 53 = .ok (.iconst (-1), 1) := by decide +kernel
theorem dX10_sellers_54 : decode cX10_sellers 54 = .ok (.istore 5, 2) := by decide +kernel
theorem dX10_sellers_56 : decode cX10_sellers 56 = .ok (.iconst 0, 1) := by decide +kernel
theorem dX10_sellers_57 : decode cX10_sellers 57 = .ok (.istore 6, 2) := by decide +kernel
theorem dX10_sellers_59 : decode cX10_sellers 59 = .ok (.iconst 0, 1) := by decide +kernel
theorem dX10_sellers_60 : decode cX10_sellers 60 = .ok (.istore 7, 2) := by decide +kernel
theorem dX10_sellers_62 : decode cX10_sellers 62 = .ok (.iload 7, 2) := by decide +kernel
theorem dX10_sellers_64 : decode cX10_sellers 64 = .ok (.iconst 2, 1) := by decide +kernel
theorem dX10_sellers_65 : decode cX10_sellers 65 = .ok (.if_icmp .ge 105, 3) := by decide +kernel
theorem dX10_sellers_68 : decode cX10_sellers 68 = .ok (.iconst 0, 1) := by decide +kernel
theorem dX10_sellers_69 : decode cX10_sellers 69 = .ok (.istore 8, 2) := by decide +kernel
theorem dX10_sellers_71 : decode cX10_sellers 71 = .ok (.iload 8, 2) := by decide +kernel
theorem dX10_sellers_73 : decode cX10_sellers 73 = .ok (.iconst 2, 1) := by decide +kernel
theorem dX10_sellers_74 : decode cX10_sellers 74 = .ok (.if_icmp .ge 90, 3) := by decide +kernel
theorem dX10_sellers_77 : decode cX10_sellers 77 = .ok (.iload 7, 2) := by decide +kernel
theorem dX10_sellers_79 : decode cX10_sellers 79 = .ok (.iload 8, 2) := by decide +kernel
theorem dX10_sellers_81 : decode cX10_sellers 81 = .ok (.iload_n 1, 1) := by decide +kernel
theorem dX10_sellers_82 : decode cX10_sellers 82 = .ok (.iload_n 2, 1) := by decide +kernel
theorem dX10_sellers_83 : decode cX10_sellers 83 = .ok (.invokestatic 397, 3) := by decide +kernel
theorem dX10_sellers_86 : decode cX10_sellers 86 = .ok (.ifCond .eq 72, 3) := by decide +kernel
theorem dX10_sellers_89 : decode cX10_sellers 89 = .ok (.iload 8, 2) := by decide +kernel
theorem dX10_sellers_91 : decode cX10_sellers 91 = .ok (.iload 7, 2) := by decide +kernel
theorem dX10_sellers_93 : decode cX10_sellers 93 = .ok (.iload_n 1, 1) := by decide +kernel
theorem dX10_sellers_94 : decode cX10_sellers 94 = .ok (.iload_n 2, 1) := by decide +kernel
theorem dX10_sellers_95 : decode cX10_sellers 95 = .ok (.invokestatic 397, 3) := by decide +kernel
theorem dX10_sellers_98 : decode cX10_sellers 98 = .ok (.ifCond .ne 6, 3) := by decide +kernel
theorem dX10_sellers_101 : decode cX10_sellers 101 = .ok (.goto 57, 3) := by decide +kernel
theorem dX10_sellers_104 : decode cX10_sellers 104 = .ok (.iload 4, 2) := by decide +kernel
theorem dX10_sellers_106 : decode cX10_sellers 106 = .ok (.ifCond .ne 25, 3) := by decide +kernel
theorem dX10_sellers_109 : decode cX10_sellers 109 = .ok (.iload 7, 2) := by decide +kernel
theorem dX10_sellers_111 : decode cX10_sellers 111 = .ok (.iload 8, 2) := by decide +kernel
theorem dX10_sellers_113 : decode cX10_sellers 113 = .ok (.iload_n 1, 1) := by decide +kernel
theorem dX10_sellers_114 : decode cX10_sellers 114 = .ok (.iload_n 2, 1) := by decide +kernel
theorem dX10_sellers_115 : decode cX10_sellers 115 = .ok (.invokestatic 394, 3) := by decide +kernel
theorem dX10_sellers_118 : decode cX10_sellers 118 = .ok (.iload 8, 2) := by decide +kernel
theorem dX10_sellers_120 : decode cX10_sellers 120 = .ok (.iload 7, 2) := by decide +kernel
theorem dX10_sellers_122 : decode cX10_sellers 122 = .ok (.iload_n 1, 1) := by decide +kernel
theorem dX10_sellers_123 : decode cX10_sellers 123 = .ok (.iload_n 2, 1) := by decide +kernel
theorem dX10_sellers_124 : decode cX10_sellers 124 = .ok (.invokestatic 394, 3) := by decide +kernel
theorem dX10_sellers_127 : decode cX10_sellers 127 = .ok (.iadd, 1) := by decide +kernel
theorem dX10_sellers_128 : decode cX10_sellers 128 = .ok (.goto 5, 3) := by decide +kernel
theorem dX10_sellers_131 : decode cX10_sellers 131 = .ok (.iload 6, 2) := by decide +kernel
theorem dX10_sellers_133 : decode cX10_sellers 133 = .ok (.istore 6, 2) := by decide +kernel
theorem dX10_sellers_135 : decode cX10_sellers 135 = .ok (.iload 4, 2) := by decide +kernel
theorem dX10_sellers_137 : decode cX10_sellers 137 = .ok (.ifCond .ne 14, 3) := by decide +kernel
theorem dX10_sellers_140 : decode cX10_sellers 140 = .ok (.bipush 10, 2) := by decide +kernel
theorem dX10_sellers_142 : decode cX10_sellers 142 = .ok (.iload 7, 2) := by decide +kernel
theorem dX10_sellers_144 : decode cX10_sellers 144 = .ok (.imul, 1) := by decide +kernel
theorem dX10_sellers_145 : decode cX10_sellers 145 = .ok (.iload 8, 2) := by decide +kernel
theorem dX10_sellers_147 : decode cX10_sellers 147 = .ok (.iadd, 1) := by decide +kernel
theorem dX10_sellers_148 : decode cX10_sellers 148 = .ok (.goto 5, 3) := by decide +kernel
theorem dX10_sellers_151 : decode cX10_sellers 151 = .ok (.iload 5, 2) := by decide +kernel
theorem dX10_sellers_153 : decode cX10_sellers 153 = .ok (.istore 5, 2) := by decide +kernel
theorem dX10_sellers_155 : decode cX10_sellers 155 = .ok (.iinc 4 1, 3) := by decide +kernel
theorem dX10_sellers_158 : decode cX10_sellers 158 = .ok (.iinc 8 1, 3) := by decide +kernel
