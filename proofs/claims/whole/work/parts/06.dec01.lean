theorem dX8_readStep_73 : decode cX8_readStep 73 = .ok (.iconst 1, 1) := by decide +kernel
theorem dX8_readStep_74 : decode cX8_readStep 74 = .ok (.invokevirtual 57, 3) := by decide +kernel
theorem dX8_readStep_77 : decode cX8_readStep 77 = .ok (.ifCond .eq 7, 3) := by decide +kernel
theorem dX8_readStep_80 : decode cX8_readStep 80 = .ok (.iconst 1, 1) := by decide +kernel
theorem dX8_readStep_81 : decode cX8_readStep 81 = .ok (.goto 4, 3) := by decide +kernel
theorem dX8_readStep_84 : decode cX8_readStep 84 = .ok (.iconst 0, 1) := by decide +kernel
theorem dX8_readStep_85 : decode cX8_readStep 85 = .ok (.ireturn, 1) := by decide +kernel
theorem dX8_readStep_86 : decode cX8_readStep 86 = .ok (.aload_n 1, 1) := by decide +kernel
theorem dX8_readStep_87 : decode cX8_readStep 87 = .ok (.ldc 61, 2) := by decide +kernel
theorem dX8_readStep_89 : decode cX8_readStep 89 = .ok (.invokevirtual 45, 3) := by decide +kernel
theorem dX8_readStep_92 : decode cX8_readStep 92 = .ok (.ifCond .eq 46, 3) := by decide +kernel
theorem dX8_readStep_95 : decode cX8_readStep 95 = .ok (.aload_n 0, 1) := by decide +kernel
theorem dX8_readStep_96 : decode cX8_readStep 96 = .ok (.iconst 2, 1) := by decide +kernel
theorem dX8_readStep_97 : decode cX8_readStep 97 = .ok (.invokevirtual 49, 3) := by decide +kernel
theorem dX8_readStep_100 : decode cX8_readStep 100 = .ok (.ifCond .eq 36, 3) := by decide +kernel
theorem dX8_readStep_103 : decode cX8_readStep 103 = .ok (.aload_n 0, 1) := by decide +kernel
theorem dX8_readStep_104 : decode cX8_readStep 104 = .ok (.aload_n 1, 1) := by decide +kernel
theorem dX8_readStep_105 : decode cX8_readStep 105 = .ok (.iconst 0, 1) := by decide +kernel
theorem dX8_readStep_106 : decode cX8_readStep 106 = .ok (.iload_n 2, 1) := by decide +kernel
theorem dX8_readStep_107 : decode cX8_readStep 107 = .ok (.iconst 1, 1) := by decide +kernel
theorem dX8_readStep_108 : decode cX8_readStep 108 = .ok (.isub, 1) := by decide +kernel
theorem dX8_readStep_109 : decode cX8_readStep 109 = .ok (.iload 4, 2) := by decide +kernel
theorem dX8_readStep_111 : decode cX8_readStep 111 = .ok (.iconst 1, 1) := by decide +kernel
theorem dX8_readStep_112 : decode cX8_readStep 112 = .ok (.invokevirtual 57, 3) := by decide +kernel
theorem dX8_readStep_115 : decode cX8_readStep 115 = .ok (.ifCond .eq 21, 3) := by decide +kernel
theorem dX8_readStep_118 : decode cX8_readStep 118 = .ok (.aload_n 0, 1) := by decide +kernel
theorem dX8_readStep_119 : decode cX8_readStep 119 = .ok (.aload_n 1, 1) := by decide +kernel
theorem dX8_readStep_120 : decode cX8_readStep 120 = .ok (.iconst 1, 1) := by decide +kernel
theorem dX8_readStep_121 : decode cX8_readStep 121 = .ok (.bipush 30, 2) := by decide +kernel
theorem dX8_readStep_123 : decode cX8_readStep 123 = .ok (.iload 4, 2) := by decide +kernel
theorem dX8_readStep_125 : decode cX8_readStep 125 = .ok (.iconst 2, 1) := by decide +kernel
theorem dX8_readStep_126 : decode cX8_readStep 126 = .ok (.invokevirtual 57, 3) := by decide +kernel
theorem dX8_readStep_129 : decode cX8_readStep 129 = .ok (.ifCond .eq 7, 3) := by decide +kernel
theorem dX8_readStep_132 : decode cX8_readStep 132 = .ok (.iconst 1, 1) := by decide +kernel
theorem dX8_readStep_133 : decode cX8_readStep 133 = .ok (.goto 4, 3) := by decide +kernel
theorem dX8_readStep_136 : decode cX8_readStep 136 = .ok (.iconst 0, 1) := by decide +kernel
theorem dX8_readStep_137 : decode cX8_readStep 137 = .ok (.ireturn, 1) := by decide +kernel
theorem dX8_readStep_138 : decode cX8_readStep 138 = .ok (.aload_n 1, 1) := by decide +kernel
theorem dX8_readStep_139 : decode cX8_readStep 139 = .ok (.ldc 63, 2) := by decide +kernel
theorem dX8_readStep_141 : decode cX8_readStep 141 = .ok (.invokevirtual 45, 3) := by decide +kernel
theorem dX8_readStep_144 : decode cX8_readStep 144 = .ok (.ifCond .eq 9, 3) := by decide +kernel
theorem dX8_readStep_147 : decode cX8_readStep 147 = .ok (.aload_n 0, 1) := by decide +kernel
theorem dX8_readStep_148 : decode cX8_readStep 148 = .ok (.iconst 3, 1) := by decide +kernel
theorem dX8_readStep_149 : decode cX8_readStep 149 = .ok (.invokevirtual 49, 3) := by decide +kernel
theorem dX8_readStep_152 : decode cX8_readStep 152 = .ok (.ireturn, 1) := by decide +kernel
theorem dX8_readStep_153 : decode cX8_readStep 153 = .ok (.aload_n 1, 1) := by decide +kernel
theorem dX8_readStep_154 : decode cX8_readStep 154 = .ok (.ldc 65, 2) := by decide +kernel
theorem dX8_readStep_156 : decode cX8_readStep 156 = .ok (.invokevirtual 45, 3) := by decide +kernel
theorem dX8_readStep_159 : decode cX8_readStep 159 = .ok (.ifCond .eq 9, 3) := by decide +kernel
theorem dX8_readStep_162 : decode cX8_readStep 162 = .ok (.aload_n 0, 1) := by decide +kernel
theorem dX8_readStep_163 : decode cX8_readStep 163 = .ok (.iconst 4, 1) := by decide +kernel
theorem dX8_readStep_164 : decode cX8_readStep 164 = .ok (.invokevirtual 49, 3) := by decide +kernel
theorem dX8_readStep_167 : decode cX8_readStep 167 = .ok (.ireturn, 1) := by decide +kernel
theorem dX8_readStep_168 : decode cX8_readStep 168 = .ok (.aload_n 1, 1) := by decide +kernel
theorem dX8_readStep_169 : decode cX8_readStep 169 = .ok (.ldc 67, 2) := by decide +kernel
theorem dX8_readStep_171 : decode cX8_readStep 171 = .ok (.invokevirtual 45, 3) := by decide +kernel
theorem dX8_readStep_174 : decode cX8_readStep 174 = .ok (.ifCond .ne 13, 3) := by decide +kernel
theorem dX8_readStep_177 : decode cX8_readStep 177 = .ok (.aload_n 1, 1) := by decide +kernel
theorem dX8_readStep_178 : decode cX8_readStep 178 = .ok (.iconst 1, 1) := by decide +kernel
theorem dX8_readStep_179 : decode cX8_readStep 179 = .ok (.aload_n 1, 1) := by decide +kernel
theorem dX8_readStep_180 : decode cX8_readStep 180 = .ok (.getfield 69, 3) := by decide +kernel
theorem dX8_readStep_183 : decode cX8_readStep 183 = .ok (.invokevirtual 72, 3) := by decide +kernel
theorem dX8_readStep_186 : decode cX8_readStep 186 = .ok (.ireturn, 1) := by decide +kernel
theorem dX8_readStep_187 : decode cX8_readStep 187 = .ok (.iload_n 3, 1) := by decide +kernel
theorem dX8_readStep_188 : decode cX8_readStep 188 = .ok (.bipush 6, 2) := by decide +kernel
theorem dX8_readStep_190 : decode cX8_readStep 190 = .ok (.if_icmp .lt 15, 3) := by decide +kernel
theorem dX8_readStep_193 : decode cX8_readStep 193 = .ok (.aload_n 1, 1) := by decide +kernel
theorem dX8_readStep_194 : decode cX8_readStep 194 = .ok (.iconst 3, 1) := by decide +kernel
theorem dX8_readStep_195 : decode cX8_readStep 195 = .ok (.aload_n 1, 1) := by decide +kernel
theorem dX8_readStep_196 : decode cX8_readStep 196 = .ok (.getfield 69, 3) := by decide +kernel
theorem dX8_readStep_199 : decode cX8_readStep 199 = .ok (.invokevirtual 72, 3) := by decide +kernel
theorem dX8_readStep_202 : decode cX8_readStep 202 = .ok (.goto 28, 3) := by decide +kernel
theorem dX8_readStep_205 : decode cX8_readStep 205 = .ok (.aload_n 0, 1) := by decide +kernel
theorem dX8_readStep_206 : decode cX8_readStep 206 = .ok (.iconst 5, 1) := by decide +kernel
theorem dX8_readStep_207 : decode cX8_readStep 207 = .ok (.invokevirtual 49, 3) := by decide +kernel
theorem dX8_readStep_210 : decode cX8_readStep 210 = .ok (.ifCond .eq 19, 3) := by decide +kernel
theorem dX8_readStep_213 : decode cX8_readStep 213 = .ok (.aload_n 0, 1) := by decide +kernel
theorem dX8_readStep_214 : decode cX8_readStep 214 = .ok (.aload_n 1, 1) := by decide +kernel
theorem dX8_readStep_215 : decode cX8_readStep 215 = .ok (.iload_n 2, 1) := by decide +kernel
theorem dX8_readStep_216 : decode cX8_readStep 216 = .ok (.iload_n 3, 1) := by decide +kernel
theorem dX8_readStep_217 : decode cX8_readStep 217 = .ok (.iload 4, 2) := by decide +kernel
theorem dX8_readStep_219 : decode cX8_readStep 219 = .ok (.invokevirtual 76, 3) := by decide +kernel
theorem dX8_readStep_222 : decode cX8_readStep 222 = .ok (.ifCond .eq 7, 3) := by decide +kernel
theorem dX8_readStep_225 : decode cX8_readStep 225 = .ok (.iconst 1, 1) := by decide +kernel
theorem dX8_readStep_226 : decode cX8_readStep 226 = .ok (.goto 4, 3) := by decide +kernel
theorem dX8_readStep_229 : decode cX8_readStep 229 = .ok (.iconst 0, 1) := by decide +kernel
theorem dX8_readStep_230 : decode cX8_readStep 230 = .ok (.ireturn, 1) := by decide +kernel
theorem dX8_readWeigh_0 : decode cX8_readWeigh 0 = .ok (.aload_n 0, 1) := by decide +kernel
theorem dX8_readWeigh_1 : decode cX8_readWeigh 1 = .ok (.aload_n 1, 1) := by decide +kernel
theorem dX8_readWeigh_2 : decode cX8_readWeigh 2 = .ok (.iconst 0, 1) := by decide +kernel
theorem dX8_readWeigh_3 : decode cX8_readWeigh 3 = .ok (.iload_n 2, 1) := by decide +kernel
theorem dX8_readWeigh_4 : decode cX8_readWeigh 4 = .ok (.iconst 1, 1) := by decide +kernel
theorem dX8_readWeigh_5 : decode cX8_readWeigh 5 = .ok (.isub, 1) := by decide +kernel
theorem dX8_readWeigh_6 : decode cX8_readWeigh 6 = .ok (.iload_n 3, 1) := by decide +kernel
theorem dX8_readWeigh_7 : decode cX8_readWeigh 7 = .ok (.iconst 1, 1) := by decide +kernel
theorem dX8_readWeigh_8 : decode cX8_readWeigh 8 = .ok (.invokevirtual 57, 3) := by decide +kernel
theorem dX8_readWeigh_11 : decode cX8_readWeigh 11 = .ok (.ifCond .eq 30, 3) := by decide +kernel
theorem dX8_readWeigh_14 : decode cX8_readWeigh 14 = .ok (.aload_n 0, 1) := by decide +kernel
theorem dX8_readWeigh_15 : decode cX8_readWeigh 15 = .ok (.aload_n 1, 1) := by decide +kernel
theorem dX8_readWeigh_16 : decode cX8_readWeigh 16 = .ok (.iconst 1, 1) := by decide +kernel
theorem dX8_readWeigh_17 : decode cX8_readWeigh 17 = .ok (.bipush 9, 2) := by decide +kernel
theorem dX8_readWeigh_19 : decode cX8_readWeigh 19 = .ok (.iload_n 3, 1) := by decide +kernel
theorem dX8_readWeigh_20 : decode cX8_readWeigh 20 = .ok (.iconst 2, 1) := by decide +kernel
theorem dX8_readWeigh_21 : decode cX8_readWeigh 21 = .ok (.invokevirtual 57, 3) := by decide +kernel
theorem dX8_readWeigh_24 : decode cX8_readWeigh 24 = .ok (.ifCond .eq 17, 3) := by decide +kernel
theorem dX8_readWeigh_27 : decode cX8_readWeigh 27 = .ok (.aload_n 1, 1) := by decide +kernel
theorem dX8_readWeigh_28 : decode cX8_readWeigh 28 = .ok (.iload_n 2, 1) := by decide +kernel
theorem dX8_readWeigh_29 : decode cX8_readWeigh 29 = .ok (.aload_n 0, 1) := by decide +kernel
theorem dX8_readWeigh_30 : decode cX8_readWeigh 30 = .ok (.iload_n 3, 1) := by decide +kernel
theorem dX8_readWeigh_31 : decode cX8_readWeigh 31 = .ok (.iconst 1, 1) := by decide +kernel
theorem dX8_readWeigh_32 : decode cX8_readWeigh 32 = .ok (.invokevirtual 80, 3) := by decide +kernel
theorem dX8_readWeigh_35 : decode cX8_readWeigh 35 = .ok (.invokevirtual 84, 3) := by decide +kernel
theorem dX8_readWeigh_38 : decode cX8_readWeigh 38 = .ok (.ifCond .ne 5, 3) := by decide +kernel
theorem dX8_readWeigh_41 : decode cX8_readWeigh 41 = .ok (.iconst 0, 1) := by decide +kernel
theorem dX8_readWeigh_42 : decode cX8_readWeigh 42 = .ok (.ireturn, 1) := by decide +kernel
theorem dX8_readWeigh_43 : decode cX8_readWeigh 43 = .ok (.aload_n 0, 1) := by decide +kernel
theorem dX8_readWeigh_44 : decode cX8_readWeigh 44 = .ok (.iload_n 3, 1) := by decide +kernel
theorem dX8_readWeigh_45 : decode cX8_readWeigh 45 = .ok (.iconst 3, 1) := by decide +kernel
theorem dX8_readWeigh_46 : decode cX8_readWeigh 46 = .ok (.aload_n 1, 1) := by decide +kernel
theorem dX8_readWeigh_47 : decode cX8_readWeigh 47 = .ok (.getfield 87, 3) := by decide +kernel
theorem dX8_readWeigh_50 : decode cX8_readWeigh 50 = .ok (.invokevirtual 90, 3) := by decide +kernel
theorem dX8_readWeigh_53 : decode cX8_readWeigh 53 = .ok (.aload_n 0, 1) := by decide +kernel
theorem dX8_readWeigh_54 : decode cX8_readWeigh 54 = .ok (.aload_n 1, 1) := by decide +kernel
theorem dX8_readWeigh_55 : decode cX8_readWeigh 55 = .ok (.iconst 1, 1) := by decide +kernel
theorem dX8_readWeigh_56 : decode cX8_readWeigh 56 = .ok (.bipush 9, 2) := by decide +kernel
theorem dX8_readWeigh_58 : decode cX8_readWeigh 58 = .ok (.iload_n 3, 1) := by decide +kernel
theorem dX8_readWeigh_59 : decode cX8_readWeigh 59 = .ok (.iconst 4, 1) := by decide +kernel
theorem dX8_readWeigh_60 : decode cX8_readWeigh 60 = .ok (.invokevirtual 57, 3) := by decide +kernel
theorem dX8_readWeigh_63 : decode cX8_readWeigh 63 = .ok (.ireturn, 1) := by decide +kernel
theorem dX8_readAgain_0 : decode cX8_readAgain 0 = .ok (.aload_n 0, 1) := by decide +kernel
theorem dX8_readAgain_1 : decode cX8_readAgain 1 = .ok (.aload_n 1, 1) := by decide +kernel
theorem dX8_readAgain_2 : decode cX8_readAgain 2 = .ok (.iconst 0, 1) := by decide +kernel
theorem dX8_readAgain_3 : decode cX8_readAgain 3 = .ok (.bipush 60, 2) := by decide +kernel
theorem dX8_readAgain_5 : decode cX8_readAgain 5 = .ok (.iload 4, 2) := by decide +kernel
theorem dX8_readAgain_7 : decode cX8_readAgain 7 = .ok (.iconst 1, 1) := by decide +kernel
theorem dX8_readAgain_8 : decode cX8_readAgain 8 = .ok (.invokevirtual 57, 3) := by decide +kernel
theorem dX8_readAgain_11 : decode cX8_readAgain 11 = .ok (.ifCond .eq 37, 3) := by decide +kernel
theorem dX8_readAgain_14 : decode cX8_readAgain 14 = .ok (.aload_n 1, 1) := by decide +kernel
theorem dX8_readAgain_15 : decode cX8_readAgain 15 = .ok (.bipush 91, 2) := by decide +kernel
theorem dX8_readAgain_17 : decode cX8_readAgain 17 = .ok (.invokevirtual 36, 3) := by decide +kernel
theorem dX8_readAgain_20 : decode cX8_readAgain 20 = .ok (.ifCond .eq 28, 3) := by decide +kernel
theorem dX8_readAgain_23 : decode cX8_readAgain 23 = .ok (.aload_n 0, 1) := by decide +kernel
theorem dX8_readAgain_24 : decode cX8_readAgain 24 = .ok (.aload_n 1, 1) := by decide +kernel
theorem dX8_readAgain_25 : decode cX8_readAgain 25 = .ok (.iload_n 2, 1) := by decide +kernel
theorem dX8_readAgain_26 : decode cX8_readAgain 26 = .ok (.iload_n 3, 1) := by decide +kernel
theorem dX8_readAgain_27 : decode cX8_readAgain 27 = .ok (.iconst 1, 1) := by decide +kernel
theorem dX8_readAgain_28 : decode cX8_readAgain 28 = .ok (.iadd, 1) := by decide +kernel
theorem dX8_readAgain_29 : decode cX8_readAgain 29 = .ok (.invokevirtual 19, 3) := by decide +kernel
theorem dX8_readAgain_32 : decode cX8_readAgain 32 = .ok (.ifCond .eq 16, 3) := by decide +kernel
theorem dX8_readAgain_35 : decode cX8_readAgain 35 = .ok (.aload_n 1, 1) := by decide +kernel
theorem dX8_readAgain_36 : decode cX8_readAgain 36 = .ok (.bipush 93, 2) := by decide +kernel
theorem dX8_readAgain_38 : decode cX8_readAgain 38 = .ok (.invokevirtual 36, 3) := by decide +kernel
theorem dX8_readAgain_41 : decode cX8_readAgain 41 = .ok (.ifCond .eq 7, 3) := by decide +kernel
theorem dX8_readAgain_44 : decode cX8_readAgain 44 = .ok (.iconst 1, 1) := by decide +kernel
theorem dX8_readAgain_45 : decode cX8_readAgain 45 = .ok (.goto 4, 3) := by decide +kernel
theorem dX8_readAgain_48 : decode cX8_readAgain 48 = .ok (.iconst 0, 1) := by decide +kernel
theorem dX8_readAgain_49 : decode cX8_readAgain 49 = .ok (.istore 5, 2) := by decide +kernel
theorem dX8_readAgain_51 : decode cX8_readAgain 51 = .ok (.aload_n 0, 1) := by decide +kernel
theorem dX8_readAgain_52 : decode cX8_readAgain 52 = .ok (.iload 4, 2) := by decide +kernel
theorem dX8_readAgain_54 : decode cX8_readAgain 54 = .ok (.iconst 2, 1) := by decide +kernel
theorem dX8_readAgain_55 : decode cX8_readAgain 55 = .ok (.aload_n 0, 1) := by decide +kernel
theorem dX8_readAgain_56 : decode cX8_readAgain 56 = .ok (.getfield 15, 3) := by decide +kernel
theorem dX8_readAgain_59 : decode cX8_readAgain 59 = .ok (.invokevirtual 90, 3) := by decide +kernel
theorem dX8_readAgain_62 : decode cX8_readAgain 62 = .ok (.iload 5, 2) := by decide +kernel
theorem dX8_readAgain_64 : decode cX8_readAgain 64 = .ok (.ireturn, 1) := by decide +kernel
theorem dX8_readPart_0 : decode cX8_readPart 0 = .ok (.aload_n 1, 1) := by decide +kernel
theorem dX8_readPart_1 : decode cX8_readPart 1 = .ok (.iload_n 2, 1) := by decide +kernel
theorem dX8_readPart_2 : decode cX8_readPart 2 = .ok (.iload_n 3, 1) := by decide +kernel
theorem dX8_readPart_3 : decode cX8_readPart 3 = .ok (.invokevirtual 94, 3) := by decide +kernel
theorem dX8_readPart_6 : decode cX8_readPart 6 = .ok (.ifCond .ne 5, 3) := by decide +kernel
theorem dX8_readPart_9 : decode cX8_readPart 9 = .ok (.iconst 0, 1) := by decide +kernel
theorem dX8_readPart_10 : decode cX8_readPart 10 = .ok (.ireturn, 1) := by decide +kernel
theorem dX8_readPart_11 : decode cX8_readPart 11 = .ok (.aload_n 0, 1) := by decide +kernel
theorem dX8_readPart_12 : decode cX8_readPart 12 = .ok (.iload 4, 2) := by decide +kernel
theorem dX8_readPart_14 : decode cX8_readPart 14 = .ok (.iload 5, 2) := by decide +kernel
theorem dX8_readPart_16 : decode cX8_readPart 16 = .ok (.aload_n 1, 1) := by decide +kernel
theorem dX8_readPart_17 : decode cX8_readPart 17 = .ok (.getfield 87, 3) := by decide +kernel
theorem dX8_readPart_20 : decode cX8_readPart 20 = .ok (.invokevirtual 90, 3) := by decide +kernel
theorem dX8_readPart_23 : decode cX8_readPart 23 = .ok (.iconst 1, 1) := by decide +kernel
theorem dX8_readPart_24 : decode cX8_readPart 24 = .ok (.ireturn, 1) := by decide +kernel
theorem dX8_add_0 : decode cX8_add 0 = .ok (.aload_n 0, 1) := by decide +kernel
theorem dX8_add_1 : decode cX8_add 1 = .ok (.getfield 15, 3) := by decide +kernel
theorem dX8_add_4 : decode cX8_add 4 = .ok (.bipush 38, 2) := by decide +kernel
theorem dX8_add_6 : decode cX8_add 6 = .ok (.if_icmp .lt 5, 3) := by decide +kernel
theorem dX8_add_9 : decode cX8_add 9 = .ok (.iconst 0, 1) := by decide +kernel
theorem dX8_add_10 : decode cX8_add 10 = .ok (.ireturn, 1) := by decide +kernel
theorem dX8_add_11 : decode cX8_add 11 = .ok (.aload_n 0, 1) := by decide +kernel
theorem dX8_add_12 : decode cX8_add 12 = .ok (.aload_n 0, 1) := by decide +kernel
theorem dX8_add_13 : decode cX8_add 13 = .ok (.getfield 15, 3) := by decide +kernel
theorem dX8_add_16 : decode cX8_add 16 = .ok (.iconst 0, 1) := by decide +kernel
theorem dX8_add_17 : decode cX8_add 17 = .ok (.iload_n 1, 1) := by decide +kernel
theorem dX8_add_18 : decode cX8_add 18 = .ok (.invokevirtual 90, 3) := by decide +kernel
theorem dX8_add_21 : decode cX8_add 21 = .ok (.aload_n 0, 1) := by decide +kernel
theorem dX8_add_22 : decode cX8_add 22 = .ok (.dup, 1) := by decide +kernel
theorem dX8_add_23 : decode cX8_add 23 = .ok (.getfield 15, 3) := by decide +kernel
theorem dX8_add_26 : decode cX8_add 26 = .ok (.iconst 1, 1) := by decide +kernel
theorem dX8_add_27 : decode cX8_add 27 = .ok (.iadd, 1) := by decide +kernel
theorem dX8_add_28 : decode cX8_add 28 = .ok (.putfield 15, 3) := by decide +kernel
theorem dX8_add_31 : decode cX8_add 31 = .ok (.iconst 1, 1) := by decide +kernel
theorem dX8_add_32 : decode cX8_add 32 = .ok (.ireturn, 1) := by decide +kernel
theorem dX8_put_0 : decode cX8_put 0 = .ok (.iload_n 1, 1) := by decide +kernel
theorem dX8_put_1 : decode cX8_put 1 = .ok (.ifCond .lt 29, 3) := by decide +kernel
theorem dX8_put_4 : decode cX8_put 4 = .ok (.iload_n 1, 1) := by decide +kernel
theorem dX8_put_5 : decode cX8_put 5 = .ok (.bipush 38, 2) := by decide +kernel
theorem dX8_put_7 : decode cX8_put 7 = .ok (.if_icmp .ge 23, 3) := by decide +kernel
theorem dX8_put_10 : decode cX8_put 10 = .ok (.iload_n 2, 1) := by decide +kernel
theorem dX8_put_11 : decode cX8_put 11 = .ok (.ifCond .lt 19, 3) := by decide +kernel
theorem dX8_put_14 : decode cX8_put 14 = .ok (.iload_n 2, 1) := by decide +kernel
theorem dX8_put_15 : decode cX8_put 15 = .ok (.iconst 5, 1) := by decide +kernel
theorem dX8_put_16 : decode cX8_put 16 = .ok (.if_icmp .ge 14, 3) := by decide +kernel
theorem dX8_put_19 : decode cX8_put 19 = .ok (.aload_n 0, 1) := by decide +kernel
theorem dX8_put_20 : decode cX8_put 20 = .ok (.getfield 11, 3) := by decide +kernel
theorem dX8_put_23 : decode cX8_put 23 = .ok (.iconst 5, 1) := by decide +kernel
theorem dX8_put_24 : decode cX8_put 24 = .ok (.iload_n 1, 1) := by decide +kernel
theorem dX8_put_25 : decode cX8_put 25 = .ok (.imul, 1) := by decide +kernel
theorem dX8_put_26 : decode cX8_put 26 = .ok (.iload_n 2, 1) := by decide +kernel
theorem dX8_put_27 : decode cX8_put 27 = .ok (.iadd, 1) := by decide +kernel
theorem dX8_put_28 : decode cX8_put 28 = .ok (.iload_n 3, 1) := by decide +kernel
theorem dX8_put_29 : decode cX8_put 29 = .ok (.iastore, 1) := by decide +kernel
theorem dX8_put_30 : decode cX8_put 30 = .ok (.return_, 1) := by decide +kernel
theorem dX8_part_0 : decode cX8_part 0 = .ok (.iload_n 1, 1) := by decide +kernel
theorem dX8_part_1 : decode cX8_part 1 = .ok (.ifCond .lt 22, 3) := by decide +kernel
theorem dX8_part_4 : decode cX8_part 4 = .ok (.iload_n 1, 1) := by decide +kernel
theorem dX8_part_5 : decode cX8_part 5 = .ok (.bipush 38, 2) := by decide +kernel
theorem dX8_part_7 : decode cX8_part 7 = .ok (.if_icmp .ge 16, 3) := by decide +kernel
theorem dX8_part_10 : decode cX8_part 10 = .ok (.iload_n 2, 1) := by decide +kernel
theorem dX8_part_11 : decode cX8_part 11 = .ok (.ifCond .lt 12, 3) := by decide +kernel
theorem dX8_part_14 : decode cX8_part 14 = .ok (.iload_n 2, 1) := by decide +kernel
theorem dX8_part_15 : decode cX8_part 15 = .ok (.iconst 5, 1) := by decide +kernel
theorem dX8_part_16 : decode cX8_part 16 = .ok (.if_icmp .ge 7, 3) := by decide +kernel
theorem dX8_part_19 : decode cX8_part 19 = .ok (.iconst 1, 1) := by decide +kernel
theorem dX8_part_20 : decode cX8_part 20 = .ok (.goto 4, 3) := by decide +kernel
theorem dX8_part_23 : decode cX8_part 23 = .ok (.iconst 0, 1) := by decide +kernel
theorem dX8_part_24 : decode cX8_part 24 = .ok (.istore_n 3, 1) := by decide +kernel
theorem dX8_part_25 : decode cX8_part 25 = .ok (.iload_n 3, 1) := by decide +kernel
theorem dX8_part_26 : decode cX8_part 26 = .ok (.ifCond .eq 16, 3) := by decide +kernel
theorem dX8_part_29 : decode cX8_part 29 = .ok (.aload_n 0, 1) := by decide +kernel
theorem dX8_part_30 : decode cX8_part 30 = .ok (.getfield 11, 3) := by decide +kernel
theorem dX8_part_33 : decode cX8_part 33 = .ok (.iconst 5, 1) := by decide +kernel
theorem dX8_part_34 : decode cX8_part 34 = .ok (.iload_n 1, 1) := by decide +kernel
theorem dX8_part_35 : decode cX8_part 35 = .ok (.imul, 1) := by decide +kernel
theorem dX8_part_36 : decode cX8_part 36 = .ok (.iload_n 2, 1) := by decide +kernel
theorem dX8_part_37 : decode cX8_part 37 = .ok (.iadd, 1) := by decide +kernel
theorem dX8_part_38 : decode cX8_part 38 = .ok (.iaload, 1) := by decide +kernel
theorem dX8_part_39 : decode cX8_part 39 = .ok (.goto 4, 3) := by decide +kernel
theorem dX8_part_42 : decode cX8_part 42 = .ok (.iconst 0, 1) := by decide +kernel
theorem dX8_part_43 : decode cX8_part 43 = .ok (.ireturn, 1) := by decide +kernel
theorem dX8_doAll_0 : decode cX8_doAll 0 = .ok (.aload_n 0, 1) := by decide +kernel
theorem dX8_doAll_1 : decode cX8_doAll 1 = .ok (.iconst 0, 1) := by decide +kernel
theorem dX8_doAll_2 : decode cX8_doAll 2 = .ok (.putfield 97, 3) := by decide +kernel
theorem dX8_doAll_5 : decode cX8_doAll 5 = .ok (.aload_n 0, 1) := by decide +kernel
theorem dX8_doAll_6 : decode cX8_doAll 6 = .ok (.iconst 0, 1) := by decide +kernel
theorem dX8_doAll_7 : decode cX8_doAll 7 = .ok (.putfield 100, 3) := by decide +kernel
theorem dX8_doAll_10 : decode cX8_doAll 10 = .ok (.aload_n 0, 1) := by decide +kernel
theorem dX8_doAll_11 : decode cX8_doAll 11 = .ok (.iconst 0, 1) := by decide +kernel
theorem dX8_doAll_12 : decode cX8_doAll 12 = .ok (.putfield 103, 3) := by decide +kernel
theorem dX8_doAll_15 : decode cX8_doAll 15 = .ok (.aload_n 0, 1) := by decide +kernel
theorem dX8_doAll_16 : decode cX8_doAll 16 = .ok (.aload_n 1, 1) := by decide +kernel
theorem dX8_doAll_17 : decode cX8_doAll 17 = .ok (.aload_n 2, 1) := by decide +kernel
theorem dX8_doAll_18 : decode cX8_doAll 18 = .ok (.iconst 0, 1) := by decide +kernel
theorem dX8_doAll_19 : decode cX8_doAll 19 = .ok (.aload_n 0, 1) := by decide +kernel
theorem dX8_doAll_20 : decode cX8_doAll 20 = .ok (.getfield 15, 3) := by decide +kernel
theorem dX8_doAll_23 : decode cX8_doAll 23 = .ok (.iconst 0, 1) := by decide +kernel
theorem dX8_doAll_24 : decode cX8_doAll 24 = .ok (.invokevirtual 106, 3) := by decide +kernel
theorem dX8_doAll_27 : decode cX8_doAll 27 = .ok (.return_, 1) := by decide +kernel
theorem dX8_doSteps_0 : decode cX8_doSteps 0 = .ok (.iload_n 3, 1) := by decide +kernel
theorem dX8_doSteps_1 : decode cX8_doSteps 1 = .ok (.istore 6, 2) := by decide +kernel
theorem dX8_doSteps_3 : decode cX8_doSteps 3 = .ok (.iconst 0, 1) := by decide +kernel
theorem dX8_doSteps_4 : decode cX8_doSteps 4 = .ok (.istore 7, 2) := by decide +kernel
theorem dX8_doSteps_6 : decode cX8_doSteps 6 = .ok (.iload 7, 2) := by decide +kernel
theorem dX8_doSteps_8 : decode cX8_doSteps 8 = .ok (.bipush 38, 2) := by decide +kernel
theorem dX8_doSteps_10 : decode cX8_doSteps 10 = .ok (.if_icmp .ge 168, 3) := by decide +kernel
theorem dX8_doSteps_13 : decode cX8_doSteps 13 = .ok (.iload 6, 2) := by decide +kernel
theorem dX8_doSteps_15 : decode cX8_doSteps 15 = .ok (.iload 4, 2) := by decide +kernel
theorem dX8_doSteps_17 : decode cX8_doSteps 17 = .ok (.if_icmp .ge 161, 3) := by decide +kernel
theorem dX8_doSteps_20 : decode cX8_doSteps 20 = .ok (.aload_n 0, 1) := by decide +kernel
theorem dX8_doSteps_21 : decode cX8_doSteps 21 = .ok (.getfield 97, 3) := by decide +kernel
theorem dX8_doSteps_24 : decode cX8_doSteps 24 = .ok (.sipush 200, 3) := by decide +kernel
theorem dX8_doSteps_27 : decode cX8_doSteps 27 = .ok (.if_icmp .ge 151, 3) := by decide +kernel
theorem dX8_doSteps_30 : decode cX8_doSteps 30 = .ok (.aload_n 0, 1) := by decide +kernel
theorem dX8_doSteps_31 : decode cX8_doSteps 31 = .ok (.dup, 1) := by decide +kernel
theorem dX8_doSteps_32 : decode cX8_doSteps 32 = .ok (.getfield 97, 3) := by decide +kernel
theorem dX8_doSteps_35 : decode cX8_doSteps 35 = .ok (.iconst 1, 1) := by decide +kernel
theorem dX8_doSteps_36 : decode cX8_doSteps 36 = .ok (.iadd, 1) := by decide +kernel
theorem dX8_doSteps_37 : decode cX8_doSteps 37 = .ok (.putfield 97, 3) := by decide +kernel
theorem dX8_doSteps_40 : decode cX8_doSteps 40 = .ok (.aload_n 0, 1) := by decide +kernel
theorem dX8_doSteps_41 : decode cX8_doSteps 41 = .ok (.iload 6, 2) := by decide +kernel
theorem dX8_doSteps_43 : decode cX8_doSteps 43 = .ok (.iconst 0, 1) := by decide +kernel
theorem dX8_doSteps_44 : decode cX8_doSteps 44 = .ok (.invokevirtual 80, 3) := by decide +kernel
theorem dX8_doSteps_47 : decode cX8_doSteps 47 = .ok (.iconst 5, 1) := by decide +kernel
theorem dX8_doSteps_48 : decode cX8_doSteps 48 = .ok (.if_icmp .ne 73, 3) := by decide +kernel
theorem dX8_doSteps_51 : decode cX8_doSteps 51 = .ok (.aload_n 0, 1) := by decide +kernel
theorem dX8_doSteps_52 : decode cX8_doSteps 52 = .ok (.iload 6, 2) := by decide +kernel
theorem dX8_doSteps_54 : decode cX8_doSteps 54 = .ok (.iconst 2, 1) := by decide +kernel
theorem dX8_doSteps_55 : decode cX8_doSteps 55 = .ok (.invokevirtual 80, 3) := by decide +kernel
theorem dX8_doSteps_58 : decode cX8_doSteps 58 = .ok (.istore 8, 2) := by decide +kernel
theorem dX8_doSteps_60 : decode cX8_doSteps 60 = .ok (.iconst 0, 1) := by decide +kernel
theorem dX8_doSteps_61 : decode cX8_doSteps 61 = .ok (.istore 9, 2) := by decide +kernel
theorem dX8_doSteps_63 : decode cX8_doSteps 63 = .ok (.iload 9, 2) := by decide +kernel
theorem dX8_doSteps_65 : decode cX8_doSteps 65 = .ok (.aload_n 0, 1) := by decide +kernel
theorem dX8_doSteps_66 : decode cX8_doSteps 66 = .ok (.iload 6, 2) := by decide +kernel
theorem dX8_doSteps_68 : decode cX8_doSteps 68 = .ok (.iconst 1, 1) := by decide +kernel
theorem dX8_doSteps_69 : decode cX8_doSteps 69 = .ok (.invokevirtual 80, 3) := by decide +kernel
theorem dX8_doSteps_72 : decode cX8_doSteps 72 = .ok (.if_icmp .ge 42, 3) := by decide +kernel
theorem dX8_doSteps_75 : decode cX8_doSteps 75 = .ok (.aload_n 0, 1) := by decide +kernel
theorem dX8_doSteps_76 : decode cX8_doSteps 76 = .ok (.getfield 97, 3) := by decide +kernel
theorem dX8_doSteps_79 : decode cX8_doSteps 79 = .ok (.sipush 200, 3) := by decide +kernel
theorem dX8_doSteps_82 : decode cX8_doSteps 82 = .ok (.if_icmp .ge 32, 3) := by decide +kernel
theorem dX8_doSteps_85 : decode cX8_doSteps 85 = .ok (.iload 5, 2) := by decide +kernel
theorem dX8_doSteps_87 : decode cX8_doSteps 87 = .ok (.bipush 6, 2) := by decide +kernel
theorem dX8_doSteps_89 : decode cX8_doSteps 89 = .ok (.if_icmp .ge 25, 3) := by decide +kernel
theorem dX8_doSteps_92 : decode cX8_doSteps 92 = .ok (.aload_n 0, 1) := by decide +kernel
theorem dX8_doSteps_93 : decode cX8_doSteps 93 = .ok (.aload_n 1, 1) := by decide +kernel
theorem dX8_doSteps_94 : decode cX8_doSteps 94 = .ok (.aload_n 2, 1) := by decide +kernel
theorem dX8_doSteps_95 : decode cX8_doSteps 95 = .ok (.iload 6, 2) := by decide +kernel
theorem dX8_doSteps_97 : decode cX8_doSteps 97 = .ok (.iconst 1, 1) := by decide +kernel
theorem dX8_doSteps_98 : decode cX8_doSteps 98 = .ok (.iadd, 1) := by decide +kernel
theorem dX8_doSteps_99 : decode cX8_doSteps 99 = .ok (.iload 8, 2) := by decide +kernel
theorem dX8_doSteps_101 : decode cX8_doSteps 101 = .ok (.iload 5, 2) := by decide +kernel
theorem dX8_doSteps_103 : decode cX8_doSteps 103 = .ok (.iconst 1, 1) := by decide +kernel
theorem dX8_doSteps_104 : decode cX8_doSteps 104 = .ok (.iadd, 1) := by decide +kernel
theorem dX8_doSteps_105 : decode cX8_doSteps 105 = .ok (.invokevirtual 106, 3) := by decide +kernel
theorem dX8_doSteps_108 : decode cX8_doSteps 108 = .ok (.iinc 9 1, 3) := by decide +kernel
theorem dX8_doSteps_111 : decode cX8_doSteps 111 = .ok (.goto (-48), 3) := by decide +kernel
theorem dX8_doSteps_114 : decode cX8_doSteps 114 = .ok (.iload 8, 2) := by decide +kernel
theorem dX8_doSteps_116 : decode cX8_doSteps 116 = .ok (.istore 6, 2) := by decide +kernel
theorem dX8_doSteps_118 : decode cX8_doSteps 118 = .ok (.goto 54, 3) := by decide +kernel
theorem dX8_doSteps_121 : decode cX8_doSteps 121 = .ok (.aload_n 0, 1) := by decide +kernel
theorem dX8_doSteps_122 : decode cX8_doSteps 122 = .ok (.aload_n 1, 1) := by decide +kernel
theorem dX8_doSteps_123 : decode cX8_doSteps 123 = .ok (.aload_n 2, 1) := by decide +kernel
theorem dX8_doSteps_124 : decode cX8_doSteps 124 = .ok (.iload 6, 2) := by decide +kernel
theorem dX8_doSteps_126 : decode cX8_doSteps 126 = .ok (.invokevirtual 110, 3) := by decide +kernel
theorem dX8_doSteps_129 : decode cX8_doSteps 129 = .ok (.istore 8, 2) := by decide +kernel
theorem dX8_doSteps_131 : decode cX8_doSteps 131 = .ok (.aload_n 0, 1) := by decide +kernel
theorem dX8_doSteps_132 : decode cX8_doSteps 132 = .ok (.dup, 1) := by decide +kernel
theorem dX8_doSteps_133 : decode cX8_doSteps 133 = .ok (.getfield 100, 3) := by decide +kernel
theorem dX8_doSteps_136 : decode cX8_doSteps 136 = .ok (.iload 8, 2) := by decide +kernel
theorem dX8_doSteps_138 : decode cX8_doSteps 138 = .ok (.ifCond .eq 7, 3) := by decide +kernel
theorem dX8_doSteps_141 : decode cX8_doSteps 141 = .ok (.iconst 1, 1) := by decide +kernel
theorem dX8_doSteps_142 : decode cX8_doSteps 142 = .ok (.goto 4, 3) := by decide +kernel
theorem dX8_doSteps_145 : decode cX8_doSteps 145 = .ok (.iconst 0, 1) := by decide +kernel
theorem dX8_doSteps_146 : decode cX8_doSteps 146 = .ok (.iadd, 1) := by decide +kernel
theorem dX8_doSteps_147 : decode cX8_doSteps 147 = .ok (.putfield 100, 3) := by decide +kernel
theorem dX8_doSteps_150 : decode cX8_doSteps 150 = .ok (.aload_n 0, 1) := by decide +kernel
theorem dX8_doSteps_151 : decode cX8_doSteps 151 = .ok (.dup, 1) := by decide +kernel
theorem dX8_doSteps_152 : decode cX8_doSteps 152 = .ok (.getfield 103, 3) := by decide +kernel
theorem dX8_doSteps_155 : decode cX8_doSteps 155 = .ok (.iload 8, 2) := by decide +kernel
theorem dX8_doSteps_157 : decode cX8_doSteps 157 = .ok (.ifCond .eq 7, 3) := by decide +kernel
theorem dX8_doSteps_160 : decode cX8_doSteps 160 = .ok (.iconst 0, 1) := by decide +kernel
theorem dX8_doSteps_161 : decode cX8_doSteps 161 = .ok (.goto 4, 3) := by decide +kernel
theorem dX8_doSteps_164 : decode cX8_doSteps 164 = .ok (.iconst 1, 1) := by decide +kernel
theorem dX8_doSteps_165 : decode cX8_doSteps 165 = .ok (.iadd, 1) := by decide +kernel
theorem dX8_doSteps_166 : decode cX8_doSteps 166 = .ok (.putfield 103, 3) := by decide +kernel
theorem dX8_doSteps_169 : decode cX8_doSteps 169 = .ok (.iinc 6 1, 3) := by decide +kernel
theorem dX8_doSteps_172 : decode cX8_doSteps 172 = .ok (.iinc 7 1, 3) := by decide +kernel
theorem dX8_doSteps_175 : decode cX8_doSteps 175 = .ok (.goto (-169), 3) := by decide +kernel
theorem dX8_doSteps_178 : decode cX8_doSteps 178 = .ok (.return_, 1) := by decide +kernel
theorem dX8_doStep_0 : decode cX8_doStep 0 = .ok (.aload_n 0, 1) := by decide +kernel
theorem dX8_doStep_1 : decode cX8_doStep 1 = .ok (.iload_n 3, 1) := by decide +kernel
theorem dX8_doStep_2 : decode cX8_doStep 2 = .ok (.iconst 0, 1) := by decide +kernel
theorem dX8_doStep_3 : decode cX8_doStep 3 = .ok (.invokevirtual 80, 3) := by decide +kernel
theorem dX8_doStep_6 : decode cX8_doStep 6 = .ok (.tableswitch 92 0 3 #[30, 59, 70, 87], 30) := by decide +kernel
theorem dX8_doStep_36 : decode cX8_doStep 36 = .ok (.aload_n 1, 1) := by decide +kernel
theorem dX8_doStep_37 : decode cX8_doStep 37 = .ok (.aload_n 0, 1) := by decide +kernel
theorem dX8_doStep_38 : decode cX8_doStep 38 = .ok (.iload_n 3, 1) := by decide +kernel
theorem dX8_doStep_39 : decode cX8_doStep 39 = .ok (.iconst 1, 1) := by decide +kernel
theorem dX8_doStep_40 : decode cX8_doStep 40 = .ok (.invokevirtual 80, 3) := by decide +kernel
theorem dX8_doStep_43 : decode cX8_doStep 43 = .ok (.aload_n 0, 1) := by decide +kernel
theorem dX8_doStep_44 : decode cX8_doStep 44 = .ok (.iload_n 3, 1) := by decide +kernel
theorem dX8_doStep_45 : decode cX8_doStep 45 = .ok (.iconst 2, 1) := by decide +kernel
theorem dX8_doStep_46 : decode cX8_doStep 46 = .ok (.invokevirtual 80, 3) := by decide +kernel
theorem dX8_doStep_49 : decode cX8_doStep 49 = .ok (.aload_n 0, 1) := by decide +kernel
theorem dX8_doStep_50 : decode cX8_doStep 50 = .ok (.iload_n 3, 1) := by decide +kernel
theorem dX8_doStep_51 : decode cX8_doStep 51 = .ok (.iconst 3, 1) := by decide +kernel
theorem dX8_doStep_52 : decode cX8_doStep 52 = .ok (.invokevirtual 80, 3) := by decide +kernel
theorem dX8_doStep_55 : decode cX8_doStep 55 = .ok (.aload_n 0, 1) := by decide +kernel
theorem dX8_doStep_56 : decode cX8_doStep 56 = .ok (.iload_n 3, 1) := by decide +kernel
theorem dX8_doStep_57 : decode cX8_doStep 57 = .ok (.iconst 4, 1) := by decide +kernel
theorem dX8_doStep_58 : decode cX8_doStep 58 = .ok (.invokevirtual 80, 3) := by decide +kernel
theorem dX8_doStep_61 : decode cX8_doStep 61 = .ok (.invokevirtual 114, 3) := by decide +kernel
theorem dX8_doStep_64 : decode cX8_doStep 64 = .ok (.ireturn, 1) := by decide +kernel
theorem dX8_doStep_65 : decode cX8_doStep 65 = .ok (.aload_n 1, 1) := by decide +kernel
theorem dX8_doStep_66 : decode cX8_doStep 66 = .ok (.aload_n 0, 1) := by decide +kernel
theorem dX8_doStep_67 : decode cX8_doStep 67 = .ok (.iload_n 3, 1) := by decide +kernel
theorem dX8_doStep_68 : decode cX8_doStep 68 = .ok (.iconst 1, 1) := by decide +kernel
theorem dX8_doStep_69 : decode cX8_doStep 69 = .ok (.invokevirtual 80, 3) := by decide +kernel
theorem dX8_doStep_72 : decode cX8_doStep 72 = .ok (.invokevirtual 119, 3) := by decide +kernel
theorem dX8_doStep_75 : decode cX8_doStep 75 = .ok (.ireturn, 1) := by decide +kernel
theorem dX8_doStep_76 : decode cX8_doStep 76 = .ok (.aload_n 1, 1) := by decide +kernel
theorem dX8_doStep_77 : decode cX8_doStep 77 = .ok (.aload_n 0, 1) := by decide +kernel
theorem dX8_doStep_78 : decode cX8_doStep 78 = .ok (.iload_n 3, 1) := by decide +kernel
theorem dX8_doStep_79 : decode cX8_doStep 79 = .ok (.iconst 1, 1) := by decide +kernel
theorem dX8_doStep_80 : decode cX8_doStep 80 = .ok (.invokevirtual 80, 3) := by decide +kernel
theorem dX8_doStep_83 : decode cX8_doStep 83 = .ok (.aload_n 0, 1) := by decide +kernel
theorem dX8_doStep_84 : decode cX8_doStep 84 = .ok (.iload_n 3, 1) := by decide +kernel
theorem dX8_doStep_85 : decode cX8_doStep 85 = .ok (.iconst 2, 1) := by decide +kernel
theorem dX8_doStep_86 : decode cX8_doStep 86 = .ok (.invokevirtual 80, 3) := by decide +kernel
theorem dX8_doStep_89 : decode cX8_doStep 89 = .ok (.invokevirtual 121, 3) := by decide +kernel
theorem dX8_doStep_92 : decode cX8_doStep 92 = .ok (.ireturn, 1) := by decide +kernel
theorem dX8_doStep_93 : decode cX8_doStep 93 = .ok (.aload_n 1, 1) := by decide +kernel
theorem dX8_doStep_94 : decode cX8_doStep 94 = .ok (.invokevirtual 124, 3) := by decide +kernel
theorem dX8_doStep_97 : decode cX8_doStep 97 = .ok (.ireturn, 1) := by decide +kernel
theorem dX8_doStep_98 : decode cX8_doStep 98 = .ok (.aload_n 1, 1) := by decide +kernel
theorem dX8_doStep_99 : decode cX8_doStep 99 = .ok (.getfield 127, 3) := by decide +kernel
theorem dX8_doStep_102 : decode cX8_doStep 102 = .ok (.sipush 300, 3) := by decide +kernel
theorem dX8_doStep_105 : decode cX8_doStep 105 = .ok (.if_icmp .ge 15, 3) := by decide +kernel
theorem dX8_doStep_108 : decode cX8_doStep 108 = .ok (.aload_n 1, 1) := by decide +kernel
theorem dX8_doStep_109 : decode cX8_doStep 109 = .ok (.aload_n 2, 1) := by decide +kernel
theorem dX8_doStep_110 : decode cX8_doStep 110 = .ok (.invokevirtual 129, 3) := by decide +kernel
theorem dX8_doStep_113 : decode cX8_doStep 113 = .ok (.ifCond .eq 7, 3) := by decide +kernel
theorem dX8_doStep_116 : decode cX8_doStep 116 = .ok (.iconst 1, 1) := by decide +kernel
theorem dX8_doStep_117 : decode cX8_doStep 117 = .ok (.goto 4, 3) := by decide +kernel
theorem dX8_doStep_120 : decode cX8_doStep 120 = .ok (.iconst 0, 1) := by decide +kernel
theorem dX8_doStep_121 : decode cX8_doStep 121 = .ok (.ireturn, 1) := by decide +kernel
theorem dX9_init_0 : decode cX9_init 0 = .ok (.aload_n 0, 1) := by decide +kernel
theorem dX9_init_1 : decode cX9_init 1 = .ok (.invokespecial 1, 3) := by decide +kernel
theorem dX9_init_4 : decode cX9_init 4 = .ok (.aload_n 0, 1) := by decide +kernel
theorem dX9_init_5 : decode cX9_init 5 = .ok (.new 7, 3) := by decide +kernel
theorem dX9_init_8 : decode cX9_init 8 = .ok (.dup, 1) := by decide +kernel
theorem dX9_init_9 : decode cX9_init 9 = .ok (.invokespecial 9, 3) := by decide +kernel
theorem dX9_init_12 : decode cX9_init 12 = .ok (.putfield 10, 3) := by decide +kernel
theorem dX9_init_15 : decode cX9_init 15 = .ok (.aload_n 0, 1) := by decide +kernel
theorem dX9_init_16 : decode cX9_init 16 = .ok (.new 16, 3) := by decide +kernel
theorem dX9_init_19 : decode cX9_init 19 = .ok (.dup, 1) := by decide +kernel
theorem dX9_init_20 : decode cX9_init 20 = .ok (.invokespecial 18, 3) := by decide +kernel
theorem dX9_init_23 : decode cX9_init 23 = .ok (.putfield 19, 3) := by decide +kernel
theorem dX9_init_26 : decode cX9_init 26 = .ok (.aload_n 0, 1) := by decide +kernel
theorem dX9_init_27 : decode cX9_init 27 = .ok (.new 16, 3) := by decide +kernel
theorem dX9_init_30 : decode cX9_init 30 = .ok (.dup, 1) := by decide +kernel
theorem dX9_init_31 : decode cX9_init 31 = .ok (.invokespecial 18, 3) := by decide +kernel
theorem dX9_init_34 : decode cX9_init 34 = .ok (.putfield 23, 3) := by decide +kernel
theorem dX9_init_37 : decode cX9_init 37 = .ok (.aload_n 0, 1) := by decide +kernel
theorem dX9_init_38 : decode cX9_init 38 = .ok (.new 26, 3) := by decide +kernel
theorem dX9_init_41 : decode cX9_init 41 = .ok (.dup, 1) := by decide +kernel
theorem dX9_init_42 : decode cX9_init 42 = .ok (.invokespecial 28, 3) := by decide +kernel
theorem dX9_init_45 : decode cX9_init 45 = .ok (.putfield 29, 3) := by decide +kernel
theorem dX9_init_48 : decode cX9_init 48 = .ok (.aload_n 0, 1) := by decide +kernel
theorem dX9_init_49 : decode cX9_init 49 = .ok (.new 33, 3) := by decide +kernel
theorem dX9_init_52 : decode cX9_init 52 = .ok (.dup, 1) := by decide +kernel
theorem dX9_init_53 : decode cX9_init 53 = .ok (.invokespecial 35, 3) := by decide +kernel
theorem dX9_init_56 : decode cX9_init 56 = .ok (.putfield 36, 3) := by decide +kernel
theorem dX9_init_59 : decode cX9_init 59 = .ok (.aload_n 0, 1) := by decide +kernel
theorem dX9_init_60 : decode cX9_init 60 = .ok (.new 40, 3) := by decide +kernel
theorem dX9_init_63 : decode cX9_init 63 = .ok (.dup, 1) := by decide +kernel
theorem dX9_init_64 : decode cX9_init 64 = .ok (.invokespecial 42, 3) := by decide +kernel
theorem dX9_init_67 : decode cX9_init 67 = .ok (.putfield 43, 3) := by decide +kernel
theorem dX9_init_70 : decode cX9_init 70 = .ok (.aload_n 0, 1) := by decide +kernel
theorem dX9_init_71 : decode cX9_init 71 = .ok (.new 47, 3) := by decide +kernel
theorem dX9_init_74 : decode cX9_init 74 = .ok (.dup, 1) := by decide +kernel
theorem dX9_init_75 : decode cX9_init 75 = .ok (.invokespecial 49, 3) := by decide +kernel
theorem dX9_init_78 : decode cX9_init 78 = .ok (.putfield 50, 3) := by decide +kernel
theorem dX9_init_81 : decode cX9_init 81 = .ok (.aload_n 0, 1) := by decide +kernel
theorem dX9_init_82 : decode cX9_init 82 = .ok (.new 54, 3) := by decide +kernel
theorem dX9_init_85 : decode cX9_init 85 = .ok (.dup, 1) := by decide +kernel
theorem dX9_init_86 : decode cX9_init 86 = .ok (.invokespecial 56, 3) := by decide +kernel
theorem dX9_init_89 : decode cX9_init 89 = .ok (.putfield 57, 3) := by decide +kernel
theorem dX9_init_92 : decode cX9_init 92 = .ok (.aload_n 0, 1) := by decide +kernel
theorem dX9_init_93 : decode cX9_init 93 = .ok (.new 61, 3) := by decide +kernel
theorem dX9_init_96 : decode cX9_init 96 = .ok (.dup, 1) := by decide +kernel
theorem dX9_init_97 : decode cX9_init 97 = .ok (.invokespecial 63, 3) := by decide +kernel
theorem dX9_init_100 : decode cX9_init 100 = .ok (.putfield 64, 3) := by decide +kernel
theorem dX9_init_103 : decode cX9_init 103 = .ok (.aload_n 0, 1) := by decide +kernel
theorem dX9_init_104 : decode cX9_init 104 = .ok (.new 61, 3) := by decide +kernel
theorem dX9_init_107 : decode cX9_init 107 = .ok (.dup, 1) := by decide +kernel
theorem dX9_init_108 : decode cX9_init 108 = .ok (.invokespecial 63, 3) := by decide +kernel
theorem dX9_init_111 : decode cX9_init 111 = .ok (.putfield 68, 3) := by decide +kernel
theorem dX9_init_114 : decode cX9_init 114 = .ok (.aload_n 0, 1) := by decide +kernel
theorem dX9_init_115 : decode cX9_init 115 = .ok (.new 71, 3) := by decide +kernel
theorem dX9_init_118 : decode cX9_init 118 = .ok (.dup, 1) := by decide +kernel
theorem dX9_init_119 : decode cX9_init 119 = .ok (.invokespecial 73, 3) := by decide +kernel
theorem dX9_init_122 : decode cX9_init 122 = .ok (.putfield 74, 3) := by decide +kernel
theorem dX9_init_125 : decode cX9_init 125 = .ok (.aload_n 0, 1) := by decide +kernel
theorem dX9_init_126 : decode cX9_init 126 = .ok (.new 71, 3) := by decide +kernel
theorem dX9_init_129 : decode cX9_init 129 = .ok (.dup, 1) := by decide +kernel
theorem dX9_init_130 : decode cX9_init 130 = .ok (.invokespecial 73, 3) := by decide +kernel
theorem dX9_init_133 : decode cX9_init 133 = .ok (.putfield 78, 3) := by decide +kernel
theorem dX9_init_136 : decode cX9_init 136 = .ok (.return_, 1) := by decide +kernel
theorem dX9_feed_0 : decode cX9_feed 0 = .ok (.aload_n 0, 1) := by decide +kernel
theorem dX9_feed_1 : decode cX9_feed 1 = .ok (.getfield 10, 3) := by decide +kernel
theorem dX9_feed_4 : decode cX9_feed 4 = .ok (.getfield 81, 3) := by decide +kernel
theorem dX9_feed_7 : decode cX9_feed 7 = .ok (.sipush 580, 3) := by decide +kernel
theorem dX9_feed_10 : decode cX9_feed 10 = .ok (.if_icmp .le 5, 3) := by decide +kernel
theorem dX9_feed_13 : decode cX9_feed 13 = .ok (.iconst (-1), 1) := by decide +kernel
theorem dX9_feed_14 : decode cX9_feed 14 = .ok (.ireturn, 1) := by decide +kernel
theorem dX9_feed_15 : decode cX9_feed 15 = .ok (.aload_n 0, 1) := by decide +kernel
theorem dX9_feed_16 : decode cX9_feed 16 = .ok (.getfield 10, 3) := by decide +kernel
theorem dX9_feed_19 : decode cX9_feed 19 = .ok (.iload_n 1, 1) := by decide +kernel
theorem dX9_feed_20 : decode cX9_feed 20 = .ok (.invokevirtual 85, 3) := by decide +kernel
theorem dX9_feed_23 : decode cX9_feed 23 = .ok (.aload_n 0, 1) := by decide +kernel
theorem dX9_feed_24 : decode cX9_feed 24 = .ok (.getfield 10, 3) := by decide +kernel
theorem dX9_feed_27 : decode cX9_feed 27 = .ok (.iload_n 2, 1) := by decide +kernel
theorem dX9_feed_28 : decode cX9_feed 28 = .ok (.invokevirtual 85, 3) := by decide +kernel
theorem dX9_feed_31 : decode cX9_feed 31 = .ok (.aload_n 0, 1) := by decide +kernel
theorem dX9_feed_32 : decode cX9_feed 32 = .ok (.getfield 10, 3) := by decide +kernel
theorem dX9_feed_35 : decode cX9_feed 35 = .ok (.iload_n 3, 1) := by decide +kernel
theorem dX9_feed_36 : decode cX9_feed 36 = .ok (.invokevirtual 85, 3) := by decide +kernel
theorem dX9_feed_39 : decode cX9_feed 39 = .ok (.aload_n 0, 1) := by decide +kernel
theorem dX9_feed_40 : decode cX9_feed 40 = .ok (.getfield 10, 3) := by decide +kernel
theorem dX9_feed_43 : decode cX9_feed 43 = .ok (.iload 4, 2) := by decide +kernel
theorem dX9_feed_45 : decode cX9_feed 45 = .ok (.invokevirtual 85, 3) := by decide +kernel
theorem dX9_feed_48 : decode cX9_feed 48 = .ok (.aload_n 0, 1) := by decide +kernel
theorem dX9_feed_49 : decode cX9_feed 49 = .ok (.getfield 10, 3) := by decide +kernel
theorem dX9_feed_52 : decode cX9_feed 52 = .ok (.iload 5, 2) := by decide +kernel
theorem dX9_feed_54 : decode cX9_feed 54 = .ok (.invokevirtual 85, 3) := by decide +kernel
theorem dX9_feed_57 : decode cX9_feed 57 = .ok (.aload_n 0, 1) := by decide +kernel
theorem dX9_feed_58 : decode cX9_feed 58 = .ok (.getfield 10, 3) := by decide +kernel
theorem dX9_feed_61 : decode cX9_feed 61 = .ok (.getfield 81, 3) := by decide +kernel
theorem dX9_feed_64 : decode cX9_feed 64 = .ok (.ireturn, 1) := by decide +kernel
theorem dX9_market_0 : decode cX9_market 0 = .ok (.aload_n 0, 1) := by decide +kernel
theorem dX9_market_1 : decode cX9_market 1 = .ok (.iload_n 1, 1) := by decide +kernel
theorem dX9_market_2 : decode cX9_market 2 = .ok (.ifCond .lt 18, 3) := by decide +kernel
theorem dX9_market_5 : decode cX9_market 5 = .ok (.iload_n 1, 1) := by decide +kernel
theorem dX9_market_6 : decode cX9_market 6 = .ok (.aload_n 0, 1) := by decide +kernel
theorem dX9_market_7 : decode cX9_market 7 = .ok (.getfield 10, 3) := by decide +kernel
theorem dX9_market_10 : decode cX9_market 10 = .ok (.getfield 81, 3) := by decide +kernel
theorem dX9_market_13 : decode cX9_market 13 = .ok (.if_icmp .gt 7, 3) := by decide +kernel
theorem dX9_market_16 : decode cX9_market 16 = .ok (.iconst 1, 1) := by decide +kernel
theorem dX9_market_17 : decode cX9_market 17 = .ok (.goto 4, 3) := by decide +kernel
theorem dX9_market_20 : decode cX9_market 20 = .ok (.iconst 0, 1) := by decide +kernel
theorem dX9_market_21 : decode cX9_market 21 = .ok (.invokevirtual 89, 3) := by decide +kernel
theorem dX9_market_24 : decode cX9_market 24 = .ok (.aload_n 0, 1) := by decide +kernel
theorem dX9_market_25 : decode cX9_market 25 = .ok (.getfield 10, 3) := by decide +kernel
theorem dX9_market_28 : decode cX9_market 28 = .ok (.iload_n 1, 1) := by decide +kernel
theorem dX9_market_29 : decode cX9_market 29 = .ok (.invokevirtual 93, 3) := by decide +kernel
theorem dX9_market_32 : decode cX9_market 32 = .ok (.aload_n 0, 1) := by decide +kernel
theorem dX9_market_33 : decode cX9_market 33 = .ok (.getfield 23, 3) := by decide +kernel
theorem dX9_market_36 : decode cX9_market 36 = .ok (.aload_n 0, 1) := by decide +kernel
theorem dX9_market_37 : decode cX9_market 37 = .ok (.getfield 10, 3) := by decide +kernel
theorem dX9_market_40 : decode cX9_market 40 = .ok (.invokevirtual 96, 3) := by decide +kernel
theorem dX9_market_43 : decode cX9_market 43 = .ok (.ifCond .ne 14, 3) := by decide +kernel
theorem dX9_market_46 : decode cX9_market 46 = .ok (.aload_n 0, 1) := by decide +kernel
theorem dX9_market_47 : decode cX9_market 47 = .ok (.getfield 10, 3) := by decide +kernel
theorem dX9_market_50 : decode cX9_market 50 = .ok (.getfield 100, 3) := by decide +kernel
theorem dX9_market_53 : decode cX9_market 53 = .ok (.bipush 10, 2) := by decide +kernel
theorem dX9_market_55 : decode cX9_market 55 = .ok (.isub, 1) := by decide +kernel
theorem dX9_market_56 : decode cX9_market 56 = .ok (.ireturn, 1) := by decide +kernel
theorem dX9_market_57 : decode cX9_market 57 = .ok (.aload_n 0, 1) := by decide +kernel
theorem dX9_market_58 : decode cX9_market 58 = .ok (.getfield 19, 3) := by decide +kernel
theorem dX9_market_61 : decode cX9_market 61 = .ok (.aload_n 0, 1) := by decide +kernel
theorem dX9_market_62 : decode cX9_market 62 = .ok (.getfield 23, 3) := by decide +kernel
theorem dX9_market_65 : decode cX9_market 65 = .ok (.invokevirtual 103, 3) := by decide +kernel
theorem dX9_market_68 : decode cX9_market 68 = .ok (.aload_n 0, 1) := by decide +kernel
theorem dX9_market_69 : decode cX9_market 69 = .ok (.getfield 64, 3) := by decide +kernel
theorem dX9_market_72 : decode cX9_market 72 = .ok (.invokevirtual 107, 3) := by decide +kernel
theorem dX9_market_75 : decode cX9_market 75 = .ok (.aload_n 0, 1) := by decide +kernel
theorem dX9_market_76 : decode cX9_market 76 = .ok (.getfield 74, 3) := by decide +kernel
theorem dX9_market_79 : decode cX9_market 79 = .ok (.iconst 0, 1) := by decide +kernel
theorem dX9_market_80 : decode cX9_market 80 = .ok (.putfield 110, 3) := by decide +kernel
theorem dX9_market_83 : decode cX9_market 83 = .ok (.aload_n 0, 1) := by decide +kernel
theorem dX9_market_84 : decode cX9_market 84 = .ok (.getfield 36, 3) := by decide +kernel
theorem dX9_market_87 : decode cX9_market 87 = .ok (.invokevirtual 113, 3) := by decide +kernel
theorem dX9_market_90 : decode cX9_market 90 = .ok (.aload_n 0, 1) := by decide +kernel
theorem dX9_market_91 : decode cX9_market 91 = .ok (.iconst 0, 1) := by decide +kernel
theorem dX9_market_92 : decode cX9_market 92 = .ok (.putfield 116, 3) := by decide +kernel
theorem dX9_market_95 : decode cX9_market 95 = .ok (.aload_n 0, 1) := by decide +kernel
theorem dX9_market_96 : decode cX9_market 96 = .ok (.getfield 19, 3) := by decide +kernel
theorem dX9_market_99 : decode cX9_market 99 = .ok (.getfield 119, 3) := by decide +kernel
theorem dX9_market_102 : decode cX9_market 102 = .ok (.ireturn, 1) := by decide +kernel
theorem dX9_law_0 : decode cX9_law 0 = .ok (.aload_n 0, 1) := by decide +kernel
theorem dX9_law_1 : decode cX9_law 1 = .ok (.iload_n 1, 1) := by decide +kernel
theorem dX9_law_2 : decode cX9_law 2 = .ok (.ifCond .lt 25, 3) := by decide +kernel
theorem dX9_law_5 : decode cX9_law 5 = .ok (.iload_n 1, 1) := by decide +kernel
theorem dX9_law_6 : decode cX9_law 6 = .ok (.aload_n 0, 1) := by decide +kernel
theorem dX9_law_7 : decode cX9_law 7 = .ok (.getfield 10, 3) := by decide +kernel
theorem dX9_law_10 : decode cX9_law 10 = .ok (.getfield 81, 3) := by decide +kernel
theorem dX9_law_13 : decode cX9_law 13 = .ok (.if_icmp .gt 14, 3) := by decide +kernel
theorem dX9_law_16 : decode cX9_law 16 = .ok (.iload_n 1, 1) := by decide +kernel
theorem dX9_law_17 : decode cX9_law 17 = .ok (.sipush 150, 3) := by decide +kernel
theorem dX9_law_20 : decode cX9_law 20 = .ok (.if_icmp .gt 7, 3) := by decide +kernel
theorem dX9_law_23 : decode cX9_law 23 = .ok (.iconst 1, 1) := by decide +kernel
theorem dX9_law_24 : decode cX9_law 24 = .ok (.goto 4, 3) := by decide +kernel
theorem dX9_law_27 : decode cX9_law 27 = .ok (.iconst 0, 1) := by decide +kernel
theorem dX9_law_28 : decode cX9_law 28 = .ok (.invokevirtual 89, 3) := by decide +kernel
theorem dX9_law_31 : decode cX9_law 31 = .ok (.aload_n 0, 1) := by decide +kernel
theorem dX9_law_32 : decode cX9_law 32 = .ok (.getfield 10, 3) := by decide +kernel
theorem dX9_law_35 : decode cX9_law 35 = .ok (.iload_n 1, 1) := by decide +kernel
theorem dX9_law_36 : decode cX9_law 36 = .ok (.invokevirtual 93, 3) := by decide +kernel
theorem dX9_law_39 : decode cX9_law 39 = .ok (.aload_n 0, 1) := by decide +kernel
theorem dX9_law_40 : decode cX9_law 40 = .ok (.getfield 68, 3) := by decide +kernel
theorem dX9_law_43 : decode cX9_law 43 = .ok (.aload_n 0, 1) := by decide +kernel
theorem dX9_law_44 : decode cX9_law 44 = .ok (.getfield 10, 3) := by decide +kernel
theorem dX9_law_47 : decode cX9_law 47 = .ok (.invokevirtual 122, 3) := by decide +kernel
theorem dX9_law_50 : decode cX9_law 50 = .ok (.ifCond .ne 14, 3) := by decide +kernel
theorem dX9_law_53 : decode cX9_law 53 = .ok (.aload_n 0, 1) := by decide +kernel
theorem dX9_law_54 : decode cX9_law 54 = .ok (.getfield 10, 3) := by decide +kernel
theorem dX9_law_57 : decode cX9_law 57 = .ok (.getfield 100, 3) := by decide +kernel
theorem dX9_law_60 : decode cX9_law 60 = .ok (.bipush 10, 2) := by decide +kernel
theorem dX9_law_62 : decode cX9_law 62 = .ok (.isub, 1) := by decide +kernel
theorem dX9_law_63 : decode cX9_law 63 = .ok (.ireturn, 1) := by decide +kernel
theorem dX9_law_64 : decode cX9_law 64 = .ok (.aload_n 0, 1) := by decide +kernel
theorem dX9_law_65 : decode cX9_law 65 = .ok (.getfield 68, 3) := by decide +kernel
theorem dX9_law_68 : decode cX9_law 68 = .ok (.astore_n 2, 1) := by decide +kernel
theorem dX9_law_69 : decode cX9_law 69 = .ok (.aload_n 0, 1) := by decide +kernel
theorem dX9_law_70 : decode cX9_law 70 = .ok (.aload_n 0, 1) := by decide +kernel
theorem dX9_law_71 : decode cX9_law 71 = .ok (.getfield 64, 3) := by decide +kernel
theorem dX9_law_74 : decode cX9_law 74 = .ok (.putfield 68, 3) := by decide +kernel
theorem dX9_law_77 : decode cX9_law 77 = .ok (.aload_n 0, 1) := by decide +kernel
theorem dX9_law_78 : decode cX9_law 78 = .ok (.aload_n 2, 1) := by decide +kernel
theorem dX9_law_79 : decode cX9_law 79 = .ok (.putfield 64, 3) := by decide +kernel
theorem dX9_law_82 : decode cX9_law 82 = .ok (.iconst 1, 1) := by decide +kernel
theorem dX9_law_83 : decode cX9_law 83 = .ok (.ireturn, 1) := by decide +kernel
theorem dX9_work_0 : decode cX9_work 0 = .ok (.aload_n 0, 1) := by decide +kernel
theorem dX9_work_1 : decode cX9_work 1 = .ok (.iload_n 1, 1) := by decide +kernel
theorem dX9_work_2 : decode cX9_work 2 = .ok (.ifCond .lt 25, 3) := by decide +kernel
theorem dX9_work_5 : decode cX9_work 5 = .ok (.iload_n 1, 1) := by decide +kernel
theorem dX9_work_6 : decode cX9_work 6 = .ok (.aload_n 0, 1) := by decide +kernel
theorem dX9_work_7 : decode cX9_work 7 = .ok (.getfield 10, 3) := by decide +kernel
theorem dX9_work_10 : decode cX9_work 10 = .ok (.getfield 81, 3) := by decide +kernel
theorem dX9_work_13 : decode cX9_work 13 = .ok (.if_icmp .gt 14, 3) := by decide +kernel
theorem dX9_work_16 : decode cX9_work 16 = .ok (.iload_n 1, 1) := by decide +kernel
theorem dX9_work_17 : decode cX9_work 17 = .ok (.sipush 150, 3) := by decide +kernel
theorem dX9_work_20 : decode cX9_work 20 = .ok (.if_icmp .gt 7, 3) := by decide +kernel
theorem dX9_work_23 : decode cX9_work 23 = .ok (.iconst 1, 1) := by decide +kernel
theorem dX9_work_24 : decode cX9_work 24 = .ok (.goto 4, 3) := by decide +kernel
theorem dX9_work_27 : decode cX9_work 27 = .ok (.iconst 0, 1) := by decide +kernel
theorem dX9_work_28 : decode cX9_work 28 = .ok (.invokevirtual 89, 3) := by decide +kernel
theorem dX9_work_31 : decode cX9_work 31 = .ok (.aload_n 0, 1) := by decide +kernel
theorem dX9_work_32 : decode cX9_work 32 = .ok (.getfield 10, 3) := by decide +kernel
theorem dX9_work_35 : decode cX9_work 35 = .ok (.iload_n 1, 1) := by decide +kernel
theorem dX9_work_36 : decode cX9_work 36 = .ok (.invokevirtual 93, 3) := by decide +kernel
theorem dX9_work_39 : decode cX9_work 39 = .ok (.aload_n 0, 1) := by decide +kernel
theorem dX9_work_40 : decode cX9_work 40 = .ok (.getfield 36, 3) := by decide +kernel
theorem dX9_work_43 : decode cX9_work 43 = .ok (.getfield 123, 3) := by decide +kernel
theorem dX9_work_46 : decode cX9_work 46 = .ok (.bipush 16, 2) := by decide +kernel
theorem dX9_work_48 : decode cX9_work 48 = .ok (.if_icmp .lt 6, 3) := by decide +kernel
theorem dX9_work_51 : decode cX9_work 51 = .ok (.bipush (-20), 2) := by decide +kernel
theorem dX9_work_53 : decode cX9_work 53 = .ok (.ireturn, 1) := by decide +kernel
theorem dX9_work_54 : decode cX9_work 54 = .ok (.aload_n 0, 1) := by decide +kernel
theorem dX9_work_55 : decode cX9_work 55 = .ok (.getfield 29, 3) := by decide +kernel
theorem dX9_work_58 : decode cX9_work 58 = .ok (.aload_n 0, 1) := by decide +kernel
theorem dX9_work_59 : decode cX9_work 59 = .ok (.getfield 10, 3) := by decide +kernel
theorem dX9_work_62 : decode cX9_work 62 = .ok (.aload_n 0, 1) := by decide +kernel
theorem dX9_work_63 : decode cX9_work 63 = .ok (.getfield 19, 3) := by decide +kernel
theorem dX9_work_66 : decode cX9_work 66 = .ok (.getfield 119, 3) := by decide +kernel
theorem dX9_work_69 : decode cX9_work 69 = .ok (.invokevirtual 126, 3) := by decide +kernel
theorem dX9_work_72 : decode cX9_work 72 = .ok (.ifCond .ne 14, 3) := by decide +kernel
theorem dX9_work_75 : decode cX9_work 75 = .ok (.aload_n 0, 1) := by decide +kernel
theorem dX9_work_76 : decode cX9_work 76 = .ok (.getfield 10, 3) := by decide +kernel
theorem dX9_work_79 : decode cX9_work 79 = .ok (.getfield 100, 3) := by decide +kernel
theorem dX9_work_82 : decode cX9_work 82 = .ok (.bipush 10, 2) := by decide +kernel
theorem dX9_work_84 : decode cX9_work 84 = .ok (.isub, 1) := by decide +kernel
theorem dX9_work_85 : decode cX9_work 85 = .ok (.ireturn, 1) := by decide +kernel
theorem dX9_work_86 : decode cX9_work 86 = .ok (.aload_n 0, 1) := by decide +kernel
theorem dX9_work_87 : decode cX9_work 87 = .ok (.getfield 36, 3) := by decide +kernel
theorem dX9_work_90 : decode cX9_work 90 = .ok (.aload_n 0, 1) := by decide +kernel
theorem dX9_work_91 : decode cX9_work 91 = .ok (.getfield 19, 3) := by decide +kernel
theorem dX9_work_94 : decode cX9_work 94 = .ok (.invokevirtual 129, 3) := by decide +kernel
theorem dX9_work_97 : decode cX9_work 97 = .ok (.aload_n 0, 1) := by decide +kernel
theorem dX9_work_98 : decode cX9_work 98 = .ok (.getfield 29, 3) := by decide +kernel
theorem dX9_work_101 : decode cX9_work 101 = .ok (.aload_n 0, 1) := by decide +kernel
theorem dX9_work_102 : decode cX9_work 102 = .ok (.getfield 19, 3) := by decide +kernel
theorem dX9_work_105 : decode cX9_work 105 = .ok (.aload_n 0, 1) := by decide +kernel
theorem dX9_work_106 : decode cX9_work 106 = .ok (.getfield 64, 3) := by decide +kernel
theorem dX9_work_109 : decode cX9_work 109 = .ok (.invokevirtual 132, 3) := by decide +kernel
theorem dX9_work_112 : decode cX9_work 112 = .ok (.aload_n 0, 1) := by decide +kernel
theorem dX9_work_113 : decode cX9_work 113 = .ok (.aload_n 0, 1) := by decide +kernel
theorem dX9_work_114 : decode cX9_work 114 = .ok (.getfield 29, 3) := by decide +kernel
theorem dX9_work_117 : decode cX9_work 117 = .ok (.getfield 136, 3) := by decide +kernel
theorem dX9_work_120 : decode cX9_work 120 = .ok (.putfield 116, 3) := by decide +kernel
theorem dX9_work_123 : decode cX9_work 123 = .ok (.aload_n 0, 1) := by decide +kernel
theorem dX9_work_124 : decode cX9_work 124 = .ok (.getfield 29, 3) := by decide +kernel
theorem dX9_work_127 : decode cX9_work 127 = .ok (.getfield 139, 3) := by decide +kernel
theorem dX9_work_130 : decode cX9_work 130 = .ok (.ireturn, 1) := by decide +kernel
theorem dX9_book_0 : decode cX9_book 0 = .ok (.aload_n 0, 1) := by decide +kernel
theorem dX9_book_1 : decode cX9_book 1 = .ok (.iload_n 1, 1) := by decide +kernel
theorem dX9_book_2 : decode cX9_book 2 = .ok (.ifCond .lt 24, 3) := by decide +kernel
theorem dX9_book_5 : decode cX9_book 5 = .ok (.iload_n 1, 1) := by decide +kernel
theorem dX9_book_6 : decode cX9_book 6 = .ok (.aload_n 0, 1) := by decide +kernel
theorem dX9_book_7 : decode cX9_book 7 = .ok (.getfield 10, 3) := by decide +kernel
theorem dX9_book_10 : decode cX9_book 10 = .ok (.getfield 81, 3) := by decide +kernel
theorem dX9_book_13 : decode cX9_book 13 = .ok (.if_icmp .gt 13, 3) := by decide +kernel
theorem dX9_book_16 : decode cX9_book 16 = .ok (.iload_n 1, 1) := by decide +kernel
theorem dX9_book_17 : decode cX9_book 17 = .ok (.bipush 60, 2) := by decide +kernel
theorem dX9_book_19 : decode cX9_book 19 = .ok (.if_icmp .gt 7, 3) := by decide +kernel
theorem dX9_book_22 : decode cX9_book 22 = .ok (.iconst 1, 1) := by decide +kernel
theorem dX9_book_23 : decode cX9_book 23 = .ok (.goto 4, 3) := by decide +kernel
theorem dX9_book_26 : decode cX9_book 26 = .ok (.iconst 0, 1) := by decide +kernel
theorem dX9_book_27 : decode cX9_book 27 = .ok (.invokevirtual 89, 3) := by decide +kernel
theorem dX9_book_30 : decode cX9_book 30 = .ok (.aload_n 0, 1) := by decide +kernel
theorem dX9_book_31 : decode cX9_book 31 = .ok (.getfield 10, 3) := by decide +kernel
theorem dX9_book_34 : decode cX9_book 34 = .ok (.iload_n 1, 1) := by decide +kernel
theorem dX9_book_35 : decode cX9_book 35 = .ok (.invokevirtual 93, 3) := by decide +kernel
theorem dX9_book_38 : decode cX9_book 38 = .ok (.aload_n 0, 1) := by decide +kernel
theorem dX9_book_39 : decode cX9_book 39 = .ok (.getfield 78, 3) := by decide +kernel
theorem dX9_book_42 : decode cX9_book 42 = .ok (.aload_n 0, 1) := by decide +kernel
theorem dX9_book_43 : decode cX9_book 43 = .ok (.getfield 10, 3) := by decide +kernel
theorem dX9_book_46 : decode cX9_book 46 = .ok (.aload_n 0, 1) := by decide +kernel
theorem dX9_book_47 : decode cX9_book 47 = .ok (.getfield 19, 3) := by decide +kernel
theorem dX9_book_50 : decode cX9_book 50 = .ok (.getfield 119, 3) := by decide +kernel
theorem dX9_book_53 : decode cX9_book 53 = .ok (.invokevirtual 142, 3) := by decide +kernel
theorem dX9_book_56 : decode cX9_book 56 = .ok (.ifCond .ne 14, 3) := by decide +kernel
theorem dX9_book_59 : decode cX9_book 59 = .ok (.aload_n 0, 1) := by decide +kernel
theorem dX9_book_60 : decode cX9_book 60 = .ok (.getfield 10, 3) := by decide +kernel
theorem dX9_book_63 : decode cX9_book 63 = .ok (.getfield 100, 3) := by decide +kernel
theorem dX9_book_66 : decode cX9_book 66 = .ok (.bipush 10, 2) := by decide +kernel
theorem dX9_book_68 : decode cX9_book 68 = .ok (.isub, 1) := by decide +kernel
theorem dX9_book_69 : decode cX9_book 69 = .ok (.ireturn, 1) := by decide +kernel
theorem dX9_book_70 : decode cX9_book 70 = .ok (.aload_n 0, 1) := by decide +kernel
theorem dX9_book_71 : decode cX9_book 71 = .ok (.getfield 78, 3) := by decide +kernel
theorem dX9_book_74 : decode cX9_book 74 = .ok (.astore_n 2, 1) := by decide +kernel
theorem dX9_book_75 : decode cX9_book 75 = .ok (.aload_n 0, 1) := by decide +kernel
theorem dX9_book_76 : decode cX9_book 76 = .ok (.aload_n 0, 1) := by decide +kernel
theorem dX9_book_77 : decode cX9_book 77 = .ok (.getfield 74, 3) := by decide +kernel
theorem dX9_book_80 : decode cX9_book 80 = .ok (.putfield 78, 3) := by decide +kernel
theorem dX9_book_83 : decode cX9_book 83 = .ok (.aload_n 0, 1) := by decide +kernel
theorem dX9_book_84 : decode cX9_book 84 = .ok (.aload_n 2, 1) := by decide +kernel
theorem dX9_book_85 : decode cX9_book 85 = .ok (.putfield 74, 3) := by decide +kernel
theorem dX9_book_88 : decode cX9_book 88 = .ok (.aload_n 0, 1) := by decide +kernel
theorem dX9_book_89 : decode cX9_book 89 = .ok (.getfield 74, 3) := by decide +kernel
theorem dX9_book_92 : decode cX9_book 92 = .ok (.getfield 110, 3) := by decide +kernel
theorem dX9_book_95 : decode cX9_book 95 = .ok (.ireturn, 1) := by decide +kernel
theorem dX9_fault_0 : decode cX9_fault 0 = .ok (.aload_n 0, 1) := by decide +kernel
theorem dX9_fault_1 : decode cX9_fault 1 = .ok (.getfield 10, 3) := by decide +kernel
theorem dX9_fault_4 : decode cX9_fault 4 = .ok (.getfield 143, 3) := by decide +kernel
theorem dX9_fault_7 : decode cX9_fault 7 = .ok (.ireturn, 1) := by decide +kernel
theorem dX9_undo_0 : decode cX9_undo 0 = .ok (.aload_n 0, 1) := by decide +kernel
theorem dX9_undo_1 : decode cX9_undo 1 = .ok (.getfield 36, 3) := by decide +kernel
theorem dX9_undo_4 : decode cX9_undo 4 = .ok (.getfield 123, 3) := by decide +kernel
theorem dX9_undo_7 : decode cX9_undo 7 = .ok (.ifCond .gt 5, 3) := by decide +kernel
theorem dX9_undo_10 : decode cX9_undo 10 = .ok (.iconst (-1), 1) := by decide +kernel
theorem dX9_undo_11 : decode cX9_undo 11 = .ok (.ireturn, 1) := by decide +kernel
theorem dX9_undo_12 : decode cX9_undo 12 = .ok (.aload_n 0, 1) := by decide +kernel
theorem dX9_undo_13 : decode cX9_undo 13 = .ok (.getfield 36, 3) := by decide +kernel
theorem dX9_undo_16 : decode cX9_undo 16 = .ok (.aload_n 0, 1) := by decide +kernel
theorem dX9_undo_17 : decode cX9_undo 17 = .ok (.getfield 19, 3) := by decide +kernel
theorem dX9_undo_20 : decode cX9_undo 20 = .ok (.invokevirtual 146, 3) := by decide +kernel
theorem dX9_undo_23 : decode cX9_undo 23 = .ok (.aload_n 0, 1) := by decide +kernel
theorem dX9_undo_24 : decode cX9_undo 24 = .ok (.iconst 0, 1) := by decide +kernel
theorem dX9_undo_25 : decode cX9_undo 25 = .ok (.putfield 116, 3) := by decide +kernel
theorem dX9_undo_28 : decode cX9_undo 28 = .ok (.aload_n 0, 1) := by decide +kernel
theorem dX9_undo_29 : decode cX9_undo 29 = .ok (.getfield 36, 3) := by decide +kernel
theorem dX9_undo_32 : decode cX9_undo 32 = .ok (.getfield 123, 3) := by decide +kernel
theorem dX9_undo_35 : decode cX9_undo 35 = .ok (.ireturn, 1) := by decide +kernel
theorem dX9_told_0 : decode cX9_told 0 = .ok (.aload_n 0, 1) := by decide +kernel
theorem dX9_told_1 : decode cX9_told 1 = .ok (.iload_n 1, 1) := by decide +kernel
theorem dX9_told_2 : decode cX9_told 2 = .ok (.ifCond .lt 13, 3) := by decide +kernel
theorem dX9_told_5 : decode cX9_told 5 = .ok (.iload_n 1, 1) := by decide +kernel
theorem dX9_told_6 : decode cX9_told 6 = .ok (.bipush 10, 2) := by decide +kernel
theorem dX9_told_8 : decode cX9_told 8 = .ok (.if_icmp .gt 7, 3) := by decide +kernel
theorem dX9_told_11 : decode cX9_told 11 = .ok (.iconst 1, 1) := by decide +kernel
theorem dX9_told_12 : decode cX9_told 12 = .ok (.goto 4, 3) := by decide +kernel
theorem dX9_told_15 : decode cX9_told 15 = .ok (.iconst 0, 1) := by decide +kernel
theorem dX9_told_16 : decode cX9_told 16 = .ok (.invokevirtual 89, 3) := by decide +kernel
theorem dX9_told_19 : decode cX9_told 19 = .ok (.iload_n 1, 1) := by decide +kernel
theorem dX9_told_20 : decode cX9_told 20 = .ok (.tableswitch 133 0 9 #[56, 64, 72, 80, 88, 96, 104, 112, 120, 128], 56) := by decide +kernel
theorem dX9_told_76 : decode cX9_told 76 = .ok (.aload_n 0, 1) := by decide +kernel
theorem dX9_told_77 : decode cX9_told 77 = .ok (.getfield 19, 3) := by decide +kernel
theorem dX9_told_80 : decode cX9_told 80 = .ok (.getfield 119, 3) := by decide +kernel
theorem dX9_told_83 : decode cX9_told 83 = .ok (.ireturn, 1) := by decide +kernel
theorem dX9_told_84 : decode cX9_told 84 = .ok (.aload_n 0, 1) := by decide +kernel
theorem dX9_told_85 : decode cX9_told 85 = .ok (.getfield 19, 3) := by decide +kernel
theorem dX9_told_88 : decode cX9_told 88 = .ok (.getfield 149, 3) := by decide +kernel
theorem dX9_told_91 : decode cX9_told 91 = .ok (.ireturn, 1) := by decide +kernel
theorem dX9_told_92 : decode cX9_told 92 = .ok (.aload_n 0, 1) := by decide +kernel
theorem dX9_told_93 : decode cX9_told 93 = .ok (.getfield 19, 3) := by decide +kernel
theorem dX9_told_96 : decode cX9_told 96 = .ok (.getfield 152, 3) := by decide +kernel
theorem dX9_told_99 : decode cX9_told 99 = .ok (.ireturn, 1) := by decide +kernel
theorem dX9_told_100 : decode cX9_told 100 = .ok (.aload_n 0, 1) := by decide +kernel
theorem dX9_told_101 : decode cX9_told 101 = .ok (.getfield 19, 3) := by decide +kernel
theorem dX9_told_104 : decode cX9_told 104 = .ok (.getfield 155, 3) := by decide +kernel
theorem dX9_told_107 : decode cX9_told 107 = .ok (.ireturn, 1) := by decide +kernel
theorem dX9_told_108 : decode cX9_told 108 = .ok (.aload_n 0, 1) := by decide +kernel
theorem dX9_told_109 : decode cX9_told 109 = .ok (.getfield 19, 3) := by decide +kernel
theorem dX9_told_112 : decode cX9_told 112 = .ok (.getfield 158, 3) := by decide +kernel
theorem dX9_told_115 : decode cX9_told 115 = .ok (.ireturn, 1) := by decide +kernel
theorem dX9_told_116 : decode cX9_told 116 = .ok (.aload_n 0, 1) := by decide +kernel
theorem dX9_told_117 : decode cX9_told 117 = .ok (.getfield 19, 3) := by decide +kernel
theorem dX9_told_120 : decode cX9_told 120 = .ok (.invokevirtual 161, 3) := by decide +kernel
theorem dX9_told_123 : decode cX9_told 123 = .ok (.ireturn, 1) := by decide +kernel
theorem dX9_told_124 : decode cX9_told 124 = .ok (.aload_n 0, 1) := by decide +kernel
theorem dX9_told_125 : decode cX9_told 125 = .ok (.getfield 19, 3) := by decide +kernel
theorem dX9_told_128 : decode cX9_told 128 = .ok (.invokevirtual 165, 3) := by decide +kernel
theorem dX9_told_131 : decode cX9_told 131 = .ok (.ireturn, 1) := by decide +kernel
theorem dX9_told_132 : decode cX9_told 132 = .ok (.aload_n 0, 1) := by decide +kernel
theorem dX9_told_133 : decode cX9_told 133 = .ok (.getfield 19, 3) := by decide +kernel
theorem dX9_told_136 : decode cX9_told 136 = .ok (.invokevirtual 168, 3) := by decide +kernel
theorem dX9_told_139 : decode cX9_told 139 = .ok (.ireturn, 1) := by decide +kernel
theorem dX9_told_140 : decode cX9_told 140 = .ok (.aload_n 0, 1) := by decide +kernel
theorem dX9_told_141 : decode cX9_told 141 = .ok (.getfield 74, 3) := by decide +kernel
theorem dX9_told_144 : decode cX9_told 144 = .ok (.getfield 110, 3) := by decide +kernel
theorem dX9_told_147 : decode cX9_told 147 = .ok (.ireturn, 1) := by decide +kernel
theorem dX9_told_148 : decode cX9_told 148 = .ok (.aload_n 0, 1) := by decide +kernel
theorem dX9_told_149 : decode cX9_told 149 = .ok (.getfield 116, 3) := by decide +kernel
theorem dX9_told_152 : decode cX9_told 152 = .ok (.ireturn, 1) := by decide +kernel
theorem dX9_told_153 : decode cX9_told 153 = .ok (.aload_n 0, 1) := by decide +kernel
theorem dX9_told_154 : decode cX9_told 154 = .ok (.getfield 19, 3) := by decide +kernel
theorem dX9_told_157 : decode cX9_told 157 = .ok (.getfield 171, 3) := by decide +kernel
theorem dX9_told_160 : decode cX9_told 160 = .ok (.ireturn, 1) := by decide +kernel
theorem dX9_thing_0 : decode cX9_thing 0 = .ok (.aload_n 0, 1) := by decide +kernel
theorem dX9_thing_1 : decode cX9_thing 1 = .ok (.iload_n 1, 1) := by decide +kernel
theorem dX9_thing_2 : decode cX9_thing 2 = .ok (.invokevirtual 174, 3) := by decide +kernel
theorem dX9_thing_5 : decode cX9_thing 5 = .ok (.aload_n 0, 1) := by decide +kernel
theorem dX9_thing_6 : decode cX9_thing 6 = .ok (.iload_n 2, 1) := by decide +kernel
theorem dX9_thing_7 : decode cX9_thing 7 = .ok (.ifCond .lt 12, 3) := by decide +kernel
theorem dX9_thing_10 : decode cX9_thing 10 = .ok (.iload_n 2, 1) := by decide +kernel
theorem dX9_thing_11 : decode cX9_thing 11 = .ok (.iconst 4, 1) := by decide +kernel
theorem dX9_thing_12 : decode cX9_thing 12 = .ok (.if_icmp .gt 7, 3) := by decide +kernel
theorem dX9_thing_15 : decode cX9_thing 15 = .ok (.iconst 1, 1) := by decide +kernel
theorem dX9_thing_16 : decode cX9_thing 16 = .ok (.goto 4, 3) := by decide +kernel
theorem dX9_thing_19 : decode cX9_thing 19 = .ok (.iconst 0, 1) := by decide +kernel
theorem dX9_thing_20 : decode cX9_thing 20 = .ok (.invokevirtual 89, 3) := by decide +kernel
theorem dX9_thing_23 : decode cX9_thing 23 = .ok (.iload_n 2, 1) := by decide +kernel
theorem dX9_thing_24 : decode cX9_thing 24 = .ok (.tableswitch 68 0 3 #[32, 41, 50, 59], 32) := by decide +kernel
theorem dX9_thing_56 : decode cX9_thing 56 = .ok (.aload_n 0, 1) := by decide +kernel
theorem dX9_thing_57 : decode cX9_thing 57 = .ok (.getfield 19, 3) := by decide +kernel
theorem dX9_thing_60 : decode cX9_thing 60 = .ok (.iload_n 1, 1) := by decide +kernel
theorem dX9_thing_61 : decode cX9_thing 61 = .ok (.invokevirtual 177, 3) := by decide +kernel
theorem dX9_thing_64 : decode cX9_thing 64 = .ok (.ireturn, 1) := by decide +kernel
theorem dX9_thing_65 : decode cX9_thing 65 = .ok (.aload_n 0, 1) := by decide +kernel
theorem dX9_thing_66 : decode cX9_thing 66 = .ok (.getfield 19, 3) := by decide +kernel
theorem dX9_thing_69 : decode cX9_thing 69 = .ok (.iload_n 1, 1) := by decide +kernel
theorem dX9_thing_70 : decode cX9_thing 70 = .ok (.invokevirtual 181, 3) := by decide +kernel
theorem dX9_thing_73 : decode cX9_thing 73 = .ok (.ireturn, 1) := by decide +kernel
theorem dX9_thing_74 : decode cX9_thing 74 = .ok (.aload_n 0, 1) := by decide +kernel
theorem dX9_thing_75 : decode cX9_thing 75 = .ok (.getfield 19, 3) := by decide +kernel
theorem dX9_thing_78 : decode cX9_thing 78 = .ok (.iload_n 1, 1) := by decide +kernel
theorem dX9_thing_79 : decode cX9_thing 79 = .ok (.invokevirtual 184, 3) := by decide +kernel
theorem dX9_thing_82 : decode cX9_thing 82 = .ok (.ireturn, 1) := by decide +kernel
theorem dX9_thing_83 : decode cX9_thing 83 = .ok (.aload_n 0, 1) := by decide +kernel
theorem dX9_thing_84 : decode cX9_thing 84 = .ok (.getfield 19, 3) := by decide +kernel
theorem dX9_thing_87 : decode cX9_thing 87 = .ok (.iload_n 1, 1) := by decide +kernel
theorem dX9_thing_88 : decode cX9_thing 88 = .ok (.invokevirtual 187, 3) := by decide +kernel
theorem dX9_thing_91 : decode cX9_thing 91 = .ok (.ireturn, 1) := by decide +kernel
theorem dX9_thing_92 : decode cX9_thing 92 = .ok (.aload_n 0, 1) := by decide +kernel
theorem dX9_thing_93 : decode cX9_thing 93 = .ok (.getfield 19, 3) := by decide +kernel
theorem dX9_thing_96 : decode cX9_thing 96 = .ok (.iload_n 1, 1) := by decide +kernel
theorem dX9_thing_97 : decode cX9_thing 97 = .ok (.aload_n 0, 1) := by decide +kernel
theorem dX9_thing_98 : decode cX9_thing 98 = .ok (.getfield 64, 3) := by decide +kernel
theorem dX9_thing_101 : decode cX9_thing 101 = .ok (.invokevirtual 190, 3) := by decide +kernel
theorem dX9_thing_104 : decode cX9_thing 104 = .ok (.ireturn, 1) := by decide +kernel
theorem dX9_cry_0 : decode cX9_cry 0 = .ok (.aload_n 0, 1) := by decide +kernel
theorem dX9_cry_1 : decode cX9_cry 1 = .ok (.iload_n 1, 1) := by decide +kernel
theorem dX9_cry_2 : decode cX9_cry 2 = .ok (.ifCond .lt 18, 3) := by decide +kernel
theorem dX9_cry_5 : decode cX9_cry 5 = .ok (.iload_n 1, 1) := by decide +kernel
theorem dX9_cry_6 : decode cX9_cry 6 = .ok (.aload_n 0, 1) := by decide +kernel
theorem dX9_cry_7 : decode cX9_cry 7 = .ok (.getfield 19, 3) := by decide +kernel
theorem dX9_cry_10 : decode cX9_cry 10 = .ok (.getfield 149, 3) := by decide +kernel
theorem dX9_cry_13 : decode cX9_cry 13 = .ok (.if_icmp .ge 7, 3) := by decide +kernel
theorem dX9_cry_16 : decode cX9_cry 16 = .ok (.iconst 1, 1) := by decide +kernel
theorem dX9_cry_17 : decode cX9_cry 17 = .ok (.goto 4, 3) := by decide +kernel
theorem dX9_cry_20 : decode cX9_cry 20 = .ok (.iconst 0, 1) := by decide +kernel
theorem dX9_cry_21 : decode cX9_cry 21 = .ok (.invokevirtual 194, 3) := by decide +kernel
theorem dX9_cry_24 : decode cX9_cry 24 = .ok (.aload_n 0, 1) := by decide +kernel
theorem dX9_cry_25 : decode cX9_cry 25 = .ok (.iload_n 2, 1) := by decide +kernel
theorem dX9_cry_26 : decode cX9_cry 26 = .ok (.ifCond .lt 12, 3) := by decide +kernel
theorem dX9_cry_29 : decode cX9_cry 29 = .ok (.iload_n 2, 1) := by decide +kernel
theorem dX9_cry_30 : decode cX9_cry 30 = .ok (.iconst 3, 1) := by decide +kernel
theorem dX9_cry_31 : decode cX9_cry 31 = .ok (.if_icmp .gt 7, 3) := by decide +kernel
theorem dX9_cry_34 : decode cX9_cry 34 = .ok (.iconst 1, 1) := by decide +kernel
theorem dX9_cry_35 : decode cX9_cry 35 = .ok (.goto 4, 3) := by decide +kernel
theorem dX9_cry_38 : decode cX9_cry 38 = .ok (.iconst 0, 1) := by decide +kernel
theorem dX9_cry_39 : decode cX9_cry 39 = .ok (.invokevirtual 89, 3) := by decide +kernel
theorem dX9_cry_42 : decode cX9_cry 42 = .ok (.aload_n 0, 1) := by decide +kernel
theorem dX9_cry_43 : decode cX9_cry 43 = .ok (.getfield 19, 3) := by decide +kernel
theorem dX9_cry_46 : decode cX9_cry 46 = .ok (.iload_n 1, 1) := by decide +kernel
theorem dX9_cry_47 : decode cX9_cry 47 = .ok (.iload_n 2, 1) := by decide +kernel
theorem dX9_cry_48 : decode cX9_cry 48 = .ok (.invokevirtual 197, 3) := by decide +kernel
theorem dX9_cry_51 : decode cX9_cry 51 = .ok (.ireturn, 1) := by decide +kernel
theorem dX9_stands_0 : decode cX9_stands 0 = .ok (.aload_n 0, 1) := by decide +kernel
theorem dX9_stands_1 : decode cX9_stands 1 = .ok (.iload_n 1, 1) := by decide +kernel
theorem dX9_stands_2 : decode cX9_stands 2 = .ok (.invokevirtual 174, 3) := by decide +kernel
theorem dX9_stands_5 : decode cX9_stands 5 = .ok (.aload_n 0, 1) := by decide +kernel
theorem dX9_stands_6 : decode cX9_stands 6 = .ok (.iload_n 3, 1) := by decide +kernel
theorem dX9_stands_7 : decode cX9_stands 7 = .ok (.invokevirtual 174, 3) := by decide +kernel
theorem dX9_stands_10 : decode cX9_stands 10 = .ok (.aload_n 0, 1) := by decide +kernel
theorem dX9_stands_11 : decode cX9_stands 11 = .ok (.iload_n 2, 1) := by decide +kernel
theorem dX9_stands_12 : decode cX9_stands 12 = .ok (.iconst 1, 1) := by decide +kernel
theorem dX9_stands_13 : decode cX9_stands 13 = .ok (.if_icmp .lt 26, 3) := by decide +kernel
theorem dX9_stands_16 : decode cX9_stands 16 = .ok (.iload_n 2, 1) := by decide +kernel
theorem dX9_stands_17 : decode cX9_stands 17 = .ok (.bipush 9, 2) := by decide +kernel
theorem dX9_stands_19 : decode cX9_stands 19 = .ok (.if_icmp .gt 20, 3) := by decide +kernel
theorem dX9_stands_22 : decode cX9_stands 22 = .ok (.iload 4, 2) := by decide +kernel
theorem dX9_stands_24 : decode cX9_stands 24 = .ok (.iconst 1, 1) := by decide +kernel
theorem dX9_stands_25 : decode cX9_stands 25 = .ok (.if_icmp .lt 14, 3) := by decide +kernel
theorem dX9_stands_28 : decode cX9_stands 28 = .ok (.iload 4, 2) := by decide +kernel
theorem dX9_stands_30 : decode cX9_stands 30 = .ok (.bipush 9, 2) := by decide +kernel
theorem dX9_stands_32 : decode cX9_stands 32 = .ok (.if_icmp .gt 7, 3) := by decide +kernel
theorem dX9_stands_35 : decode cX9_stands 35 = .ok (.iconst 1, 1) := by decide +kernel
theorem dX9_stands_36 : decode cX9_stands 36 = .ok (.goto 4, 3) := by decide +kernel
theorem dX9_stands_39 : decode cX9_stands 39 = .ok (.iconst 0, 1) := by decide +kernel
theorem dX9_stands_40 : decode cX9_stands 40 = .ok (.invokevirtual 89, 3) := by decide +kernel
theorem dX9_stands_43 : decode cX9_stands 43 = .ok (.aload_n 0, 1) := by decide +kernel
theorem dX9_stands_44 : decode cX9_stands 44 = .ok (.getfield 19, 3) := by decide +kernel
theorem dX9_stands_47 : decode cX9_stands 47 = .ok (.iload_n 1, 1) := by decide +kernel
theorem dX9_stands_48 : decode cX9_stands 48 = .ok (.iload_n 2, 1) := by decide +kernel
theorem dX9_stands_49 : decode cX9_stands 49 = .ok (.iload_n 3, 1) := by decide +kernel
theorem dX9_stands_50 : decode cX9_stands 50 = .ok (.iload 4, 2) := by decide +kernel
theorem dX9_stands_52 : decode cX9_stands 52 = .ok (.invokevirtual 201, 3) := by decide +kernel
theorem dX9_stands_55 : decode cX9_stands 55 = .ok (.ireturn, 1) := by decide +kernel
theorem dX9_would_0 : decode cX9_would 0 = .ok (.aload_n 0, 1) := by decide +kernel
theorem dX9_would_1 : decode cX9_would 1 = .ok (.iload_n 1, 1) := by decide +kernel
theorem dX9_would_2 : decode cX9_would 2 = .ok (.iconst 1, 1) := by decide +kernel
theorem dX9_would_3 : decode cX9_would 3 = .ok (.if_icmp .lt 13, 3) := by decide +kernel
theorem dX9_would_6 : decode cX9_would 6 = .ok (.iload_n 1, 1) := by decide +kernel
theorem dX9_would_7 : decode cX9_would 7 = .ok (.bipush 60, 2) := by decide +kernel
theorem dX9_would_9 : decode cX9_would 9 = .ok (.if_icmp .gt 7, 3) := by decide +kernel
theorem dX9_would_12 : decode cX9_would 12 = .ok (.iconst 1, 1) := by decide +kernel
theorem dX9_would_13 : decode cX9_would 13 = .ok (.goto 4, 3) := by decide +kernel
theorem dX9_would_16 : decode cX9_would 16 = .ok (.iconst 0, 1) := by decide +kernel
theorem dX9_would_17 : decode cX9_would 17 = .ok (.invokevirtual 89, 3) := by decide +kernel
theorem dX9_would_20 : decode cX9_would 20 = .ok (.aload_n 0, 1) := by decide +kernel
theorem dX9_would_21 : decode cX9_would 21 = .ok (.iload_n 2, 1) := by decide +kernel
theorem dX9_would_22 : decode cX9_would 22 = .ok (.ifCond .lt 14, 3) := by decide +kernel
theorem dX9_would_25 : decode cX9_would 25 = .ok (.iload_n 2, 1) := by decide +kernel
theorem dX9_would_26 : decode cX9_would 26 = .ok (.sipush 999, 3) := by decide +kernel
theorem dX9_would_29 : decode cX9_would 29 = .ok (.if_icmp .gt 7, 3) := by decide +kernel
theorem dX9_would_32 : decode cX9_would 32 = .ok (.iconst 1, 1) := by decide +kernel
theorem dX9_would_33 : decode cX9_would 33 = .ok (.goto 4, 3) := by decide +kernel
theorem dX9_would_36 : decode cX9_would 36 = .ok (.iconst 0, 1) := by decide +kernel
theorem dX9_would_37 : decode cX9_would 37 = .ok (.invokevirtual 89, 3) := by decide +kernel
theorem dX9_would_40 : decode cX9_would 40 = .ok (.aload_n 0, 1) := by decide +kernel
theorem dX9_would_41 : decode cX9_would 41 = .ok (.iload_n 3, 1) := by decide +kernel
theorem dX9_would_42 : decode cX9_would 42 = .ok (.ifCond .lt 13, 3) := by decide +kernel
theorem dX9_would_45 : decode cX9_would 45 = .ok (.iload_n 3, 1) := by decide +kernel
theorem dX9_would_46 : decode cX9_would 46 = .ok (.bipush 10, 2) := by decide +kernel
theorem dX9_would_48 : decode cX9_would 48 = .ok (.if_icmp .gt 7, 3) := by decide +kernel
theorem dX9_would_51 : decode cX9_would 51 = .ok (.iconst 1, 1) := by decide +kernel
theorem dX9_would_52 : decode cX9_would 52 = .ok (.goto 4, 3) := by decide +kernel
theorem dX9_would_55 : decode cX9_would 55 = .ok (.iconst 0, 1) := by decide +kernel
theorem dX9_would_56 : decode cX9_would 56 = .ok (.invokevirtual 89, 3) := by decide +kernel
theorem dX9_would_59 : decode cX9_would 59 = .ok (.aload_n 0, 1) := by decide +kernel
theorem dX9_would_60 : decode cX9_would 60 = .ok (.iload 4, 2) := by decide +kernel
theorem dX9_would_62 : decode cX9_would 62 = .ok (.ifCond .lt 14, 3) := by decide +kernel
theorem dX9_would_65 : decode cX9_would 65 = .ok (.iload 4, 2) := by decide +kernel
theorem dX9_would_67 : decode cX9_would 67 = .ok (.bipush 8, 2) := by decide +kernel
theorem dX9_would_69 : decode cX9_would 69 = .ok (.if_icmp .ge 7, 3) := by decide +kernel
theorem dX9_would_72 : decode cX9_would 72 = .ok (.iconst 1, 1) := by decide +kernel
theorem dX9_would_73 : decode cX9_would 73 = .ok (.goto 4, 3) := by decide +kernel
theorem dX9_would_76 : decode cX9_would 76 = .ok (.iconst 0, 1) := by decide +kernel
theorem dX9_would_77 : decode cX9_would 77 = .ok (.invokevirtual 89, 3) := by decide +kernel
theorem dX9_would_80 : decode cX9_would 80 = .ok (.aload_n 0, 1) := by decide +kernel
theorem dX9_would_81 : decode cX9_would 81 = .ok (.iload 5, 2) := by decide +kernel
theorem dX9_would_83 : decode cX9_would 83 = .ok (.ifCond .lt 15, 3) := by decide +kernel
theorem dX9_would_86 : decode cX9_would 86 = .ok (.iload 5, 2) := by decide +kernel
theorem dX9_would_88 : decode cX9_would 88 = .ok (.sipush 300, 3) := by decide +kernel
theorem dX9_would_91 : decode cX9_would 91 = .ok (.if_icmp .gt 7, 3) := by decide +kernel
theorem dX9_would_94 : decode cX9_would 94 = .ok (.iconst 1, 1) := by decide +kernel
theorem dX9_would_95 : decode cX9_would 95 = .ok (.goto 4, 3) := by decide +kernel
theorem dX9_would_98 : decode cX9_would 98 = .ok (.iconst 0, 1) := by decide +kernel
theorem dX9_would_99 : decode cX9_would 99 = .ok (.invokevirtual 89, 3) := by decide +kernel
theorem dX9_would_102 : decode cX9_would 102 = .ok (.aload_n 0, 1) := by decide +kernel
theorem dX9_would_103 : decode cX9_would 103 = .ok (.iload 6, 2) := by decide +kernel
theorem dX9_would_105 : decode cX9_would 105 = .ok (.ifCond .lt 14, 3) := by decide +kernel
theorem dX9_would_108 : decode cX9_would 108 = .ok (.iload 6, 2) := by decide +kernel
theorem dX9_would_110 : decode cX9_would 110 = .ok (.bipush 18, 2) := by decide +kernel
theorem dX9_would_112 : decode cX9_would 112 = .ok (.if_icmp .gt 7, 3) := by decide +kernel
theorem dX9_would_115 : decode cX9_would 115 = .ok (.iconst 1, 1) := by decide +kernel
theorem dX9_would_116 : decode cX9_would 116 = .ok (.goto 4, 3) := by decide +kernel
theorem dX9_would_119 : decode cX9_would 119 = .ok (.iconst 0, 1) := by decide +kernel
theorem dX9_would_120 : decode cX9_would 120 = .ok (.invokevirtual 89, 3) := by decide +kernel
theorem dX9_would_123 : decode cX9_would 123 = .ok (.aload_n 0, 1) := by decide +kernel
theorem dX9_would_124 : decode cX9_would 124 = .ok (.iload 7, 2) := by decide +kernel
theorem dX9_would_126 : decode cX9_would 126 = .ok (.ifCond .lt 14, 3) := by decide +kernel
theorem dX9_would_129 : decode cX9_would 129 = .ok (.iload 7, 2) := by decide +kernel
theorem dX9_would_131 : decode cX9_would 131 = .ok (.bipush 9, 2) := by decide +kernel
theorem dX9_would_133 : decode cX9_would 133 = .ok (.if_icmp .gt 7, 3) := by decide +kernel
theorem dX9_would_136 : decode cX9_would 136 = .ok (.iconst 1, 1) := by decide +kernel
theorem dX9_would_137 : decode cX9_would 137 = .ok (.goto 4, 3) := by decide +kernel
theorem dX9_would_140 : decode cX9_would 140 = .ok (.iconst 0, 1) := by decide +kernel
theorem dX9_would_141 : decode cX9_would 141 = .ok (.invokevirtual 89, 3) := by decide +kernel
theorem dX9_would_144 : decode cX9_would 144 = .ok (.aload_n 0, 1) := by decide +kernel
theorem dX9_would_145 : decode cX9_would 145 = .ok (.getfield 64, 3) := by decide +kernel
theorem dX9_would_148 : decode cX9_would 148 = .ok (.iload_n 1, 1) := by decide +kernel
theorem dX9_would_149 : decode cX9_would 149 = .ok (.iload_n 2, 1) := by decide +kernel
theorem dX9_would_150 : decode cX9_would 150 = .ok (.iload_n 3, 1) := by decide +kernel
theorem dX9_would_151 : decode cX9_would 151 = .ok (.iload 4, 2) := by decide +kernel
theorem dX9_would_153 : decode cX9_would 153 = .ok (.iload 5, 2) := by decide +kernel
theorem dX9_would_155 : decode cX9_would 155 = .ok (.iload 6, 2) := by decide +kernel
theorem dX9_would_157 : decode cX9_would 157 = .ok (.iload 7, 2) := by decide +kernel
theorem dX9_would_159 : decode cX9_would 159 = .ok (.invokevirtual 205, 3) := by decide +kernel
theorem dX9_would_162 : decode cX9_would 162 = .ok (.ireturn, 1) := by decide +kernel
theorem dX9_ahead_0 : decode cX9_ahead 0 = .ok (.aload_n 0, 1) := by decide +kernel
theorem dX9_ahead_1 : decode cX9_ahead 1 = .ok (.iload_n 1, 1) := by decide +kernel
theorem dX9_ahead_2 : decode cX9_ahead 2 = .ok (.ifCond .lt 22, 3) := by decide +kernel
theorem dX9_ahead_5 : decode cX9_ahead 5 = .ok (.iload_n 1, 1) := by decide +kernel
theorem dX9_ahead_6 : decode cX9_ahead 6 = .ok (.bipush 99, 2) := by decide +kernel
theorem dX9_ahead_8 : decode cX9_ahead 8 = .ok (.if_icmp .gt 16, 3) := by decide +kernel
theorem dX9_ahead_11 : decode cX9_ahead 11 = .ok (.iload_n 2, 1) := by decide +kernel
theorem dX9_ahead_12 : decode cX9_ahead 12 = .ok (.ifCond .lt 12, 3) := by decide +kernel
theorem dX9_ahead_15 : decode cX9_ahead 15 = .ok (.iload_n 2, 1) := by decide +kernel
theorem dX9_ahead_16 : decode cX9_ahead 16 = .ok (.iconst 2, 1) := by decide +kernel
theorem dX9_ahead_17 : decode cX9_ahead 17 = .ok (.if_icmp .gt 7, 3) := by decide +kernel
theorem dX9_ahead_20 : decode cX9_ahead 20 = .ok (.iconst 1, 1) := by decide +kernel
theorem dX9_ahead_21 : decode cX9_ahead 21 = .ok (.goto 4, 3) := by decide +kernel
theorem dX9_ahead_24 : decode cX9_ahead 24 = .ok (.iconst 0, 1) := by decide +kernel
theorem dX9_ahead_25 : decode cX9_ahead 25 = .ok (.invokevirtual 89, 3) := by decide +kernel
theorem dX9_ahead_28 : decode cX9_ahead 28 = .ok (.aload_n 0, 1) := by decide +kernel
theorem dX9_ahead_29 : decode cX9_ahead 29 = .ok (.getfield 23, 3) := by decide +kernel
theorem dX9_ahead_32 : decode cX9_ahead 32 = .ok (.aload_n 0, 1) := by decide +kernel
theorem dX9_ahead_33 : decode cX9_ahead 33 = .ok (.getfield 19, 3) := by decide +kernel
theorem dX9_ahead_36 : decode cX9_ahead 36 = .ok (.invokevirtual 103, 3) := by decide +kernel
theorem dX9_ahead_39 : decode cX9_ahead 39 = .ok (.iconst 0, 1) := by decide +kernel
theorem dX9_ahead_40 : decode cX9_ahead 40 = .ok (.istore_n 3, 1) := by decide +kernel
theorem dX9_ahead_41 : decode cX9_ahead 41 = .ok (.iload_n 3, 1) := by decide +kernel
theorem dX9_ahead_42 : decode cX9_ahead 42 = .ok (.iload_n 1, 1) := by decide +kernel
theorem dX9_ahead_43 : decode cX9_ahead 43 = .ok (.if_icmp .ge 21, 3) := by decide +kernel
theorem dX9_ahead_46 : decode cX9_ahead 46 = .ok (.aload_n 0, 1) := by decide +kernel
theorem dX9_ahead_47 : decode cX9_ahead 47 = .ok (.getfield 23, 3) := by decide +kernel
theorem dX9_ahead_50 : decode cX9_ahead 50 = .ok (.aload_n 0, 1) := by decide +kernel
theorem dX9_ahead_51 : decode cX9_ahead 51 = .ok (.getfield 64, 3) := by decide +kernel
theorem dX9_ahead_54 : decode cX9_ahead 54 = .ok (.invokevirtual 209, 3) := by decide +kernel
theorem dX9_ahead_57 : decode cX9_ahead 57 = .ok (.pop, 1) := by decide +kernel
theorem dX9_ahead_58 : decode cX9_ahead 58 = .ok (.iinc 3 1, 3) := by decide +kernel
theorem dX9_ahead_61 : decode cX9_ahead 61 = .ok (.goto (-20), 3) := by decide +kernel
theorem dX9_ahead_64 : decode cX9_ahead 64 = .ok (.iload_n 2, 1) := by decide +kernel
theorem dX9_ahead_65 : decode cX9_ahead 65 = .ok (.lookupswitch 43 #[(0, 27), (1, 35)], 27) := by decide +kernel
theorem dX9_ahead_92 : decode cX9_ahead 92 = .ok (.aload_n 0, 1) := by decide +kernel
theorem dX9_ahead_93 : decode cX9_ahead 93 = .ok (.getfield 23, 3) := by decide +kernel
theorem dX9_ahead_96 : decode cX9_ahead 96 = .ok (.invokevirtual 161, 3) := by decide +kernel
theorem dX9_ahead_99 : decode cX9_ahead 99 = .ok (.ireturn, 1) := by decide +kernel
theorem dX9_ahead_100 : decode cX9_ahead 100 = .ok (.aload_n 0, 1) := by decide +kernel
theorem dX9_ahead_101 : decode cX9_ahead 101 = .ok (.getfield 23, 3) := by decide +kernel
theorem dX9_ahead_104 : decode cX9_ahead 104 = .ok (.invokevirtual 213, 3) := by decide +kernel
theorem dX9_ahead_107 : decode cX9_ahead 107 = .ok (.ireturn, 1) := by decide +kernel
theorem dX9_ahead_108 : decode cX9_ahead 108 = .ok (.aload_n 0, 1) := by decide +kernel
theorem dX9_ahead_109 : decode cX9_ahead 109 = .ok (.getfield 23, 3) := by decide +kernel
theorem dX9_ahead_112 : decode cX9_ahead 112 = .ok (.invokevirtual 165, 3) := by decide +kernel
theorem dX9_ahead_115 : decode cX9_ahead 115 = .ok (.ireturn, 1) := by decide +kernel
theorem dX9_worth_0 : decode cX9_worth 0 = .ok (.aload_n 0, 1) := by decide +kernel
theorem dX9_worth_1 : decode cX9_worth 1 = .ok (.iload_n 1, 1) := by decide +kernel
theorem dX9_worth_2 : decode cX9_worth 2 = .ok (.invokevirtual 174, 3) := by decide +kernel
theorem dX9_worth_5 : decode cX9_worth 5 = .ok (.aload_n 0, 1) := by decide +kernel
theorem dX9_worth_6 : decode cX9_worth 6 = .ok (.iload_n 2, 1) := by decide +kernel
theorem dX9_worth_7 : decode cX9_worth 7 = .ok (.invokevirtual 174, 3) := by decide +kernel
theorem dX9_worth_10 : decode cX9_worth 10 = .ok (.aload_n 0, 1) := by decide +kernel
theorem dX9_worth_11 : decode cX9_worth 11 = .ok (.iload_n 1, 1) := by decide +kernel
theorem dX9_worth_12 : decode cX9_worth 12 = .ok (.iload_n 2, 1) := by decide +kernel
theorem dX9_worth_13 : decode cX9_worth 13 = .ok (.if_icmp .eq 14, 3) := by decide +kernel
theorem dX9_worth_16 : decode cX9_worth 16 = .ok (.iload_n 3, 1) := by decide +kernel
theorem dX9_worth_17 : decode cX9_worth 17 = .ok (.invokestatic 216, 3) := by decide +kernel
theorem dX9_worth_20 : decode cX9_worth 20 = .ok (.ifCond .eq 7, 3) := by decide +kernel
theorem dX9_worth_23 : decode cX9_worth 23 = .ok (.iconst 1, 1) := by decide +kernel
theorem dX9_worth_24 : decode cX9_worth 24 = .ok (.goto 4, 3) := by decide +kernel
theorem dX9_worth_27 : decode cX9_worth 27 = .ok (.iconst 0, 1) := by decide +kernel
theorem dX9_worth_28 : decode cX9_worth 28 = .ok (.invokevirtual 89, 3) := by decide +kernel
theorem dX9_worth_31 : decode cX9_worth 31 = .ok (.aload_n 0, 1) := by decide +kernel
theorem dX9_worth_32 : decode cX9_worth 32 = .ok (.getfield 43, 3) := by decide +kernel
theorem dX9_worth_35 : decode cX9_worth 35 = .ok (.aload_n 0, 1) := by decide +kernel
theorem dX9_worth_36 : decode cX9_worth 36 = .ok (.getfield 19, 3) := by decide +kernel
theorem dX9_worth_39 : decode cX9_worth 39 = .ok (.iload_n 1, 1) := by decide +kernel
theorem dX9_worth_40 : decode cX9_worth 40 = .ok (.iload_n 2, 1) := by decide +kernel
theorem dX9_worth_41 : decode cX9_worth 41 = .ok (.invokevirtual 220, 3) := by decide +kernel
theorem dX9_worth_44 : decode cX9_worth 44 = .ok (.aload_n 0, 1) := by decide +kernel
theorem dX9_worth_45 : decode cX9_worth 45 = .ok (.getfield 43, 3) := by decide +kernel
theorem dX9_worth_48 : decode cX9_worth 48 = .ok (.iload_n 3, 1) := by decide +kernel
theorem dX9_worth_49 : decode cX9_worth 49 = .ok (.invokevirtual 224, 3) := by decide +kernel
theorem dX9_worth_52 : decode cX9_worth 52 = .ok (.lreturn, 1) := by decide +kernel
theorem dX9_fattest_0 : decode cX9_fattest 0 = .ok (.aload_n 0, 1) := by decide +kernel
theorem dX9_fattest_1 : decode cX9_fattest 1 = .ok (.iload_n 1, 1) := by decide +kernel
theorem dX9_fattest_2 : decode cX9_fattest 2 = .ok (.invokestatic 216, 3) := by decide +kernel
theorem dX9_fattest_5 : decode cX9_fattest 5 = .ok (.invokevirtual 89, 3) := by decide +kernel
theorem dX9_fattest_8 : decode cX9_fattest 8 = .ok (.aload_n 0, 1) := by decide +kernel
theorem dX9_fattest_9 : decode cX9_fattest 9 = .ok (.getfield 43, 3) := by decide +kernel
theorem dX9_fattest_12 : decode cX9_fattest 12 = .ok (.aload_n 0, 1) := by decide +kernel
theorem dX9_fattest_13 : decode cX9_fattest 13 = .ok (.getfield 19, 3) := by decide +kernel
theorem dX9_fattest_16 : decode cX9_fattest 16 = .ok (.invokevirtual 228, 3) := by decide +kernel
theorem dX9_fattest_19 : decode cX9_fattest 19 = .ok (.aload_n 0, 1) := by decide +kernel
theorem dX9_fattest_20 : decode cX9_fattest 20 = .ok (.getfield 43, 3) := by decide +kernel
theorem dX9_fattest_23 : decode cX9_fattest 23 = .ok (.iload_n 1, 1) := by decide +kernel
theorem dX9_fattest_24 : decode cX9_fattest 24 = .ok (.invokevirtual 224, 3) := by decide +kernel
theorem dX9_fattest_27 : decode cX9_fattest 27 = .ok (.lreturn, 1) := by decide +kernel
theorem dX9_fat_0 : decode cX9_fat 0 = .ok (.aload_n 0, 1) := by decide +kernel
theorem dX9_fat_1 : decode cX9_fat 1 = .ok (.getfield 43, 3) := by decide +kernel
theorem dX9_fat_4 : decode cX9_fat 4 = .ok (.aload_n 0, 1) := by decide +kernel
theorem dX9_fat_5 : decode cX9_fat 5 = .ok (.getfield 19, 3) := by decide +kernel
theorem dX9_fat_8 : decode cX9_fat 8 = .ok (.invokevirtual 228, 3) := by decide +kernel
theorem dX9_fat_11 : decode cX9_fat 11 = .ok (.aload_n 0, 1) := by decide +kernel
theorem dX9_fat_12 : decode cX9_fat 12 = .ok (.getfield 43, 3) := by decide +kernel
theorem dX9_fat_15 : decode cX9_fat 15 = .ok (.getfield 231, 3) := by decide +kernel
theorem dX9_fat_18 : decode cX9_fat 18 = .ok (.ireturn, 1) := by decide +kernel
theorem dX9_mend_0 : decode cX9_mend 0 = .ok (.aload_n 0, 1) := by decide +kernel
theorem dX9_mend_1 : decode cX9_mend 1 = .ok (.getfield 43, 3) := by decide +kernel
theorem dX9_mend_4 : decode cX9_mend 4 = .ok (.aload_n 0, 1) := by decide +kernel
theorem dX9_mend_5 : decode cX9_mend 5 = .ok (.getfield 19, 3) := by decide +kernel
theorem dX9_mend_8 : decode cX9_mend 8 = .ok (.invokevirtual 228, 3) := by decide +kernel
theorem dX9_mend_11 : decode cX9_mend 11 = .ok (.aload_n 0, 1) := by decide +kernel
theorem dX9_mend_12 : decode cX9_mend 12 = .ok (.getfield 43, 3) := by decide +kernel
theorem dX9_mend_15 : decode cX9_mend 15 = .ok (.aload_n 0, 1) := by decide +kernel
theorem dX9_mend_16 : decode cX9_mend 16 = .ok (.getfield 19, 3) := by decide +kernel
theorem dX9_mend_19 : decode cX9_mend 19 = .ok (.getfield 149, 3) := by decide +kernel
theorem dX9_mend_22 : decode cX9_mend 22 = .ok (.invokevirtual 234, 3) := by decide +kernel
theorem dX9_mend_25 : decode cX9_mend 25 = .ok (.ireturn, 1) := by decide +kernel
theorem dX9_match_0 : decode cX9_match 0 = .ok (.aload_n 0, 1) := by decide +kernel
theorem dX9_match_1 : decode cX9_match 1 = .ok (.iload_n 1, 1) := by decide +kernel
theorem dX9_match_2 : decode cX9_match 2 = .ok (.invokevirtual 237, 3) := by decide +kernel
theorem dX9_match_5 : decode cX9_match 5 = .ok (.aload_n 0, 1) := by decide +kernel
theorem dX9_match_6 : decode cX9_match 6 = .ok (.iload_n 2, 1) := by decide +kernel
theorem dX9_match_7 : decode cX9_match 7 = .ok (.ifCond .eq 8, 3) := by decide +kernel
theorem dX9_match_10 : decode cX9_match 10 = .ok (.iload_n 2, 1) := by decide +kernel
theorem dX9_match_11 : decode cX9_match 11 = .ok (.iconst 1, 1) := by decide +kernel
theorem dX9_match_12 : decode cX9_match 12 = .ok (.if_icmp .ne 7, 3) := by decide +kernel
theorem dX9_match_15 : decode cX9_match 15 = .ok (.iconst 1, 1) := by decide +kernel
theorem dX9_match_16 : decode cX9_match 16 = .ok (.goto 4, 3) := by decide +kernel
theorem dX9_match_19 : decode cX9_match 19 = .ok (.iconst 0, 1) := by decide +kernel
theorem dX9_match_20 : decode cX9_match 20 = .ok (.invokevirtual 89, 3) := by decide +kernel
theorem dX9_match_23 : decode cX9_match 23 = .ok (.aload_n 0, 1) := by decide +kernel
theorem dX9_match_24 : decode cX9_match 24 = .ok (.getfield 50, 3) := by decide +kernel
theorem dX9_match_27 : decode cX9_match 27 = .ok (.aload_n 0, 1) := by decide +kernel
theorem dX9_match_28 : decode cX9_match 28 = .ok (.getfield 19, 3) := by decide +kernel
theorem dX9_match_31 : decode cX9_match 31 = .ok (.iload_n 1, 1) := by decide +kernel
theorem dX9_match_32 : decode cX9_match 32 = .ok (.invokevirtual 240, 3) := by decide +kernel
theorem dX9_match_35 : decode cX9_match 35 = .ok (.iload_n 2, 1) := by decide +kernel
theorem dX9_match_36 : decode cX9_match 36 = .ok (.ifCond .ne 13, 3) := by decide +kernel
theorem dX9_match_39 : decode cX9_match 39 = .ok (.aload_n 0, 1) := by decide +kernel
theorem dX9_match_40 : decode cX9_match 40 = .ok (.getfield 50, 3) := by decide +kernel
theorem dX9_match_43 : decode cX9_match 43 = .ok (.invokevirtual 244, 3) := by decide +kernel
theorem dX9_match_46 : decode cX9_match 46 = .ok (.goto 10, 3) := by decide +kernel
theorem dX9_match_49 : decode cX9_match 49 = .ok (.aload_n 0, 1) := by decide +kernel
theorem dX9_match_50 : decode cX9_match 50 = .ok (.getfield 50, 3) := by decide +kernel
theorem dX9_match_53 : decode cX9_match 53 = .ok (.invokevirtual 247, 3) := by decide +kernel
theorem dX9_match_56 : decode cX9_match 56 = .ok (.ireturn, 1) := by decide +kernel
theorem dX9_fewest_0 : decode cX9_fewest 0 = .ok (.aload_n 0, 1) := by decide +kernel
theorem dX9_fewest_1 : decode cX9_fewest 1 = .ok (.iload_n 1, 1) := by decide +kernel
theorem dX9_fewest_2 : decode cX9_fewest 2 = .ok (.iconst 1, 1) := by decide +kernel
theorem dX9_fewest_3 : decode cX9_fewest 3 = .ok (.if_icmp .lt 14, 3) := by decide +kernel
theorem dX9_fewest_6 : decode cX9_fewest 6 = .ok (.iload_n 1, 1) := by decide +kernel
theorem dX9_fewest_7 : decode cX9_fewest 7 = .ok (.sipush 480, 3) := by decide +kernel
theorem dX9_fewest_10 : decode cX9_fewest 10 = .ok (.if_icmp .gt 7, 3) := by decide +kernel
theorem dX9_fewest_13 : decode cX9_fewest 13 = .ok (.iconst 1, 1) := by decide +kernel
theorem dX9_fewest_14 : decode cX9_fewest 14 = .ok (.goto 4, 3) := by decide +kernel
theorem dX9_fewest_17 : decode cX9_fewest 17 = .ok (.iconst 0, 1) := by decide +kernel
theorem dX9_fewest_18 : decode cX9_fewest 18 = .ok (.invokevirtual 89, 3) := by decide +kernel
theorem dX9_fewest_21 : decode cX9_fewest 21 = .ok (.aload_n 0, 1) := by decide +kernel
theorem dX9_fewest_22 : decode cX9_fewest 22 = .ok (.getfield 50, 3) := by decide +kernel
theorem dX9_fewest_25 : decode cX9_fewest 25 = .ok (.aload_n 0, 1) := by decide +kernel
theorem dX9_fewest_26 : decode cX9_fewest 26 = .ok (.getfield 19, 3) := by decide +kernel
theorem dX9_fewest_29 : decode cX9_fewest 29 = .ok (.iload_n 1, 1) := by decide +kernel
theorem dX9_fewest_30 : decode cX9_fewest 30 = .ok (.invokevirtual 250, 3) := by decide +kernel
theorem dX9_fewest_33 : decode cX9_fewest 33 = .ok (.ireturn, 1) := by decide +kernel
theorem dX9_level_0 : decode cX9_level 0 = .ok (.aload_n 0, 1) := by decide +kernel
theorem dX9_level_1 : decode cX9_level 1 = .ok (.iload_n 1, 1) := by decide +kernel
theorem dX9_level_2 : decode cX9_level 2 = .ok (.invokevirtual 237, 3) := by decide +kernel
theorem dX9_level_5 : decode cX9_level 5 = .ok (.aload_n 0, 1) := by decide +kernel
theorem dX9_level_6 : decode cX9_level 6 = .ok (.iload_n 2, 1) := by decide +kernel
theorem dX9_level_7 : decode cX9_level 7 = .ok (.ifCond .eq 8, 3) := by decide +kernel
theorem dX9_level_10 : decode cX9_level 10 = .ok (.iload_n 2, 1) := by decide +kernel
theorem dX9_level_11 : decode cX9_level 11 = .ok (.iconst 1, 1) := by decide +kernel
theorem dX9_level_12 : decode cX9_level 12 = .ok (.if_icmp .ne 7, 3) := by decide +kernel
theorem dX9_level_15 : decode cX9_level 15 = .ok (.iconst 1, 1) := by decide +kernel
theorem dX9_level_16 : decode cX9_level 16 = .ok (.goto 4, 3) := by decide +kernel
theorem dX9_level_19 : decode cX9_level 19 = .ok (.iconst 0, 1) := by decide +kernel
theorem dX9_level_20 : decode cX9_level 20 = .ok (.invokevirtual 89, 3) := by decide +kernel
theorem dX9_level_23 : decode cX9_level 23 = .ok (.aload_n 0, 1) := by decide +kernel
theorem dX9_level_24 : decode cX9_level 24 = .ok (.getfield 50, 3) := by decide +kernel
theorem dX9_level_27 : decode cX9_level 27 = .ok (.aload_n 0, 1) := by decide +kernel
theorem dX9_level_28 : decode cX9_level 28 = .ok (.getfield 19, 3) := by decide +kernel
theorem dX9_level_31 : decode cX9_level 31 = .ok (.iload_n 1, 1) := by decide +kernel
theorem dX9_level_32 : decode cX9_level 32 = .ok (.invokevirtual 254, 3) := by decide +kernel
theorem dX9_level_35 : decode cX9_level 35 = .ok (.iload_n 2, 1) := by decide +kernel
theorem dX9_level_36 : decode cX9_level 36 = .ok (.ifCond .ne 13, 3) := by decide +kernel
theorem dX9_level_39 : decode cX9_level 39 = .ok (.aload_n 0, 1) := by decide +kernel
theorem dX9_level_40 : decode cX9_level 40 = .ok (.getfield 50, 3) := by decide +kernel
theorem dX9_level_43 : decode cX9_level 43 = .ok (.getfield 257, 3) := by decide +kernel
theorem dX9_level_46 : decode cX9_level 46 = .ok (.goto 10, 3) := by decide +kernel
theorem dX9_level_49 : decode cX9_level 49 = .ok (.aload_n 0, 1) := by decide +kernel
theorem dX9_level_50 : decode cX9_level 50 = .ok (.getfield 50, 3) := by decide +kernel
theorem dX9_level_53 : decode cX9_level 53 = .ok (.getfield 260, 3) := by decide +kernel
theorem dX9_level_56 : decode cX9_level 56 = .ok (.ireturn, 1) := by decide +kernel
theorem dX9_fits_0 : decode cX9_fits 0 = .ok (.aload_n 0, 1) := by decide +kernel
theorem dX9_fits_1 : decode cX9_fits 1 = .ok (.iload_n 1, 1) := by decide +kernel
theorem dX9_fits_2 : decode cX9_fits 2 = .ok (.ifCond .eq 8, 3) := by decide +kernel
theorem dX9_fits_5 : decode cX9_fits 5 = .ok (.iload_n 1, 1) := by decide +kernel
theorem dX9_fits_6 : decode cX9_fits 6 = .ok (.iconst 1, 1) := by decide +kernel
theorem dX9_fits_7 : decode cX9_fits 7 = .ok (.if_icmp .ne 7, 3) := by decide +kernel
theorem dX9_fits_10 : decode cX9_fits 10 = .ok (.iconst 1, 1) := by decide +kernel
theorem dX9_fits_11 : decode cX9_fits 11 = .ok (.goto 4, 3) := by decide +kernel
theorem dX9_fits_14 : decode cX9_fits 14 = .ok (.iconst 0, 1) := by decide +kernel
theorem dX9_fits_15 : decode cX9_fits 15 = .ok (.invokevirtual 89, 3) := by decide +kernel
theorem dX9_fits_18 : decode cX9_fits 18 = .ok (.aload_n 0, 1) := by decide +kernel
theorem dX9_fits_19 : decode cX9_fits 19 = .ok (.getfield 74, 3) := by decide +kernel
theorem dX9_fits_22 : decode cX9_fits 22 = .ok (.aload_n 0, 1) := by decide +kernel
theorem dX9_fits_23 : decode cX9_fits 23 = .ok (.getfield 19, 3) := by decide +kernel
theorem dX9_fits_26 : decode cX9_fits 26 = .ok (.invokevirtual 263, 3) := by decide +kernel
theorem dX9_fits_29 : decode cX9_fits 29 = .ok (.iload_n 1, 1) := by decide +kernel
theorem dX9_fits_30 : decode cX9_fits 30 = .ok (.ifCond .ne 13, 3) := by decide +kernel
theorem dX9_fits_33 : decode cX9_fits 33 = .ok (.aload_n 0, 1) := by decide +kernel
theorem dX9_fits_34 : decode cX9_fits 34 = .ok (.getfield 74, 3) := by decide +kernel
theorem dX9_fits_37 : decode cX9_fits 37 = .ok (.getfield 266, 3) := by decide +kernel
theorem dX9_fits_40 : decode cX9_fits 40 = .ok (.goto 10, 3) := by decide +kernel
theorem dX9_fits_43 : decode cX9_fits 43 = .ok (.aload_n 0, 1) := by decide +kernel
theorem dX9_fits_44 : decode cX9_fits 44 = .ok (.getfield 74, 3) := by decide +kernel
theorem dX9_fits_47 : decode cX9_fits 47 = .ok (.invokevirtual 269, 3) := by decide +kernel
theorem dX9_fits_50 : decode cX9_fits 50 = .ok (.ireturn, 1) := by decide +kernel
theorem dX9_look_0 : decode cX9_look 0 = .ok (.aload_n 0, 1) := by decide +kernel
theorem dX9_look_1 : decode cX9_look 1 = .ok (.iload_n 1, 1) := by decide +kernel
theorem dX9_look_2 : decode cX9_look 2 = .ok (.ifCond .eq 8, 3) := by decide +kernel
theorem dX9_look_5 : decode cX9_look 5 = .ok (.iload_n 1, 1) := by decide +kernel
theorem dX9_look_6 : decode cX9_look 6 = .ok (.iconst 1, 1) := by decide +kernel
theorem dX9_look_7 : decode cX9_look 7 = .ok (.if_icmp .ne 7, 3) := by decide +kernel
theorem dX9_look_10 : decode cX9_look 10 = .ok (.iconst 1, 1) := by decide +kernel
theorem dX9_look_11 : decode cX9_look 11 = .ok (.goto 4, 3) := by decide +kernel
theorem dX9_look_14 : decode cX9_look 14 = .ok (.iconst 0, 1) := by decide +kernel
theorem dX9_look_15 : decode cX9_look 15 = .ok (.invokevirtual 89, 3) := by decide +kernel
theorem dX9_look_18 : decode cX9_look 18 = .ok (.aload_n 0, 1) := by decide +kernel
theorem dX9_look_19 : decode cX9_look 19 = .ok (.getfield 74, 3) := by decide +kernel
theorem dX9_look_22 : decode cX9_look 22 = .ok (.aload_n 0, 1) := by decide +kernel
theorem dX9_look_23 : decode cX9_look 23 = .ok (.getfield 19, 3) := by decide +kernel
theorem dX9_look_26 : decode cX9_look 26 = .ok (.invokevirtual 272, 3) := by decide +kernel
theorem dX9_look_29 : decode cX9_look 29 = .ok (.iload_n 1, 1) := by decide +kernel
theorem dX9_look_30 : decode cX9_look 30 = .ok (.ifCond .ne 13, 3) := by decide +kernel
theorem dX9_look_33 : decode cX9_look 33 = .ok (.aload_n 0, 1) := by decide +kernel
theorem dX9_look_34 : decode cX9_look 34 = .ok (.getfield 74, 3) := by decide +kernel
theorem dX9_look_37 : decode cX9_look 37 = .ok (.getfield 275, 3) := by decide +kernel
theorem dX9_look_40 : decode cX9_look 40 = .ok (.goto 10, 3) := by decide +kernel
theorem dX9_look_43 : decode cX9_look 43 = .ok (.aload_n 0, 1) := by decide +kernel
theorem dX9_look_44 : decode cX9_look 44 = .ok (.getfield 74, 3) := by decide +kernel
theorem dX9_look_47 : decode cX9_look 47 = .ok (.getfield 278, 3) := by decide +kernel
theorem dX9_look_50 : decode cX9_look 50 = .ok (.ireturn, 1) := by decide +kernel
theorem dX9_falsely_0 : decode cX9_falsely 0 = .ok (.aload_n 0, 1) := by decide +kernel
theorem dX9_falsely_1 : decode cX9_falsely 1 = .ok (.iload_n 1, 1) := by decide +kernel
theorem dX9_falsely_2 : decode cX9_falsely 2 = .ok (.iconst 1, 1) := by decide +kernel
theorem dX9_falsely_3 : decode cX9_falsely 3 = .ok (.if_icmp .lt 14, 3) := by decide +kernel
theorem dX9_falsely_6 : decode cX9_falsely 6 = .ok (.iload_n 1, 1) := by decide +kernel
theorem dX9_falsely_7 : decode cX9_falsely 7 = .ok (.sipush 9999, 3) := by decide +kernel
theorem dX9_falsely_10 : decode cX9_falsely 10 = .ok (.if_icmp .gt 7, 3) := by decide +kernel
theorem dX9_falsely_13 : decode cX9_falsely 13 = .ok (.iconst 1, 1) := by decide +kernel
theorem dX9_falsely_14 : decode cX9_falsely 14 = .ok (.goto 4, 3) := by decide +kernel
theorem dX9_falsely_17 : decode cX9_falsely 17 = .ok (.iconst 0, 1) := by decide +kernel
theorem dX9_falsely_18 : decode cX9_falsely 18 = .ok (.invokevirtual 89, 3) := by decide +kernel
theorem dX9_falsely_21 : decode cX9_falsely 21 = .ok (.iload_n 1, 1) := by decide +kernel
theorem dX9_falsely_22 : decode cX9_falsely 22 = .ok (.iconst 3, 1) := by decide +kernel
theorem dX9_falsely_23 : decode cX9_falsely 23 = .ok (.if_icmp .ge 5, 3) := by decide +kernel
theorem dX9_falsely_26 : decode cX9_falsely 26 = .ok (.iconst (-1), 1) := by decide +kernel
theorem dX9_falsely_27 : decode cX9_falsely 27 = .ok (.ireturn, 1) := by decide +kernel
theorem dX9_falsely_28 : decode cX9_falsely 28 = .ok (.bipush 9, 2) := by decide +kernel
theorem dX9_falsely_30 : decode cX9_falsely 30 = .ok (.istore_n 2, 1) := by decide +kernel
theorem dX9_falsely_31 : decode cX9_falsely 31 = .ok (.iconst 2, 1) := by decide +kernel
theorem dX9_falsely_32 : decode cX9_falsely 32 = .ok (.istore_n 3, 1) := by decide +kernel
theorem dX9_falsely_33 : decode cX9_falsely 33 = .ok (.iload_n 3, 1) := by decide +kernel
theorem dX9_falsely_34 : decode cX9_falsely 34 = .ok (.bipush 20, 2) := by decide +kernel
theorem dX9_falsely_36 : decode cX9_falsely 36 = .ok (.if_icmp .ge 22, 3) := by decide +kernel
theorem dX9_falsely_39 : decode cX9_falsely 39 = .ok (.iload_n 2, 1) := by decide +kernel
theorem dX9_falsely_40 : decode cX9_falsely 40 = .ok (.iconst 3, 1) := by decide +kernel
theorem dX9_falsely_41 : decode cX9_falsely 41 = .ok (.isub, 1) := by decide +kernel
theorem dX9_falsely_42 : decode cX9_falsely 42 = .ok (.iconst 2, 1) := by decide +kernel
theorem dX9_falsely_43 : decode cX9_falsely 43 = .ok (.idiv, 1) := by decide +kernel
theorem dX9_falsely_44 : decode cX9_falsely 44 = .ok (.iload_n 1, 1) := by decide +kernel
theorem dX9_falsely_45 : decode cX9_falsely 45 = .ok (.if_icmp .ge 13, 3) := by decide +kernel
theorem dX9_falsely_48 : decode cX9_falsely 48 = .ok (.iload_n 2, 1) := by decide +kernel
theorem dX9_falsely_49 : decode cX9_falsely 49 = .ok (.iconst 3, 1) := by decide +kernel
theorem dX9_falsely_50 : decode cX9_falsely 50 = .ok (.imul, 1) := by decide +kernel
theorem dX9_falsely_51 : decode cX9_falsely 51 = .ok (.istore_n 2, 1) := by decide +kernel
theorem dX9_falsely_52 : decode cX9_falsely 52 = .ok (.iinc 3 1, 3) := by decide +kernel
theorem dX9_falsely_55 : decode cX9_falsely 55 = .ok (.goto (-22), 3) := by decide +kernel
theorem dX9_falsely_58 : decode cX9_falsely 58 = .ok (.iload_n 3, 1) := by decide +kernel
theorem dX9_falsely_59 : decode cX9_falsely 59 = .ok (.ireturn, 1) := by decide +kernel
theorem dX9_sellers_0 : decode cX9_sellers 0 = .ok (.aload_n 0, 1) := by decide +kernel
theorem dX9_sellers_1 : decode cX9_sellers 1 = .ok (.iload_n 1, 1) := by decide +kernel
theorem dX9_sellers_2 : decode cX9_sellers 2 = .ok (.ifCond .lt 23, 3) := by decide +kernel
theorem dX9_sellers_5 : decode cX9_sellers 5 = .ok (.iload_n 1, 1) := by decide +kernel
theorem dX9_sellers_6 : decode cX9_sellers 6 = .ok (.bipush 99, 2) := by decide +kernel
theorem dX9_sellers_8 : decode cX9_sellers 8 = .ok (.if_icmp .gt 17, 3) := by decide +kernel
theorem dX9_sellers_11 : decode cX9_sellers 11 = .ok (.iload_n 2, 1) := by decide +kernel
theorem dX9_sellers_12 : decode cX9_sellers 12 = .ok (.ifCond .lt 13, 3) := by decide +kernel
theorem dX9_sellers_15 : decode cX9_sellers 15 = .ok (.iload_n 2, 1) := by decide +kernel
theorem dX9_sellers_16 : decode cX9_sellers 16 = .ok (.bipush 99, 2) := by decide +kernel
theorem dX9_sellers_18 : decode cX9_sellers 18 = .ok (.if_icmp .gt 7, 3) := by decide +kernel
theorem dX9_sellers_21 : decode cX9_sellers 21 = .ok (.iconst 1, 1) := by decide +kernel
theorem dX9_sellers_22 : decode cX9_sellers 22 = .ok (.goto 4, 3) := by decide +kernel
theorem dX9_sellers_25 : decode cX9_sellers 25 = .ok (.iconst 0, 1) := by decide +kernel
theorem dX9_sellers_26 : decode cX9_sellers 26 = .ok (.invokevirtual 89, 3) := by decide +kernel
theorem dX9_sellers_29 : decode cX9_sellers 29 = .ok (.aload_n 0, 1) := by decide +kernel
theorem dX9_sellers_30 : decode cX9_sellers 30 = .ok (.iload_n 3, 1) := by decide +kernel
theorem dX9_sellers_31 : decode cX9_sellers 31 = .ok (.ifCond .lt 12, 3) := by decide +kernel
theorem dX9_sellers_34 : decode cX9_sellers 34 = .ok (.iload_n 3, 1) := by decide +kernel
theorem dX9_sellers_35 : decode cX9_sellers 35 = .ok (.iconst 2, 1) := by decide +kernel
theorem dX9_sellers_36 : decode cX9_sellers 36 = .ok (.if_icmp .gt 7, 3) := by decide +kernel
theorem dX9_sellers_39 : decode cX9_sellers 39 = .ok (.iconst 1, 1) := by decide +kernel
theorem dX9_sellers_40 : decode cX9_sellers 40 = .ok (.goto 4, 3) := by decide +kernel
theorem dX9_sellers_43 : decode cX9_sellers 43 = .ok (.iconst 0, 1) := by decide +kernel
theorem dX9_sellers_44 : decode cX9_sellers 44 = .ok (.invokevirtual 89, 3) := by decide +kernel
theorem dX9_sellers_47 : decode cX9_sellers 47 = .ok (.iconst 0, 1) := by decide +kernel
theorem dX9_sellers_48 : decode cX9_sellers 48 = .ok (.istore 4, 2) := by decide +kernel
theorem dX9_sellers_50 : decode cX9_sellers 50 = .ok (.iconst (-1), 1) := by decide +kernel
theorem dX9_sellers_51 : decode cX9_sellers 51 = .ok (.istore 5, 2) := by decide +kernel
theorem dX9_sellers_53 : decode cX9_sellers 53 = .ok (.iconst 0, 1) := by decide +kernel
theorem dX9_sellers_54 : decode cX9_sellers 54 = .ok (.istore 6, 2) := by decide +kernel
theorem dX9_sellers_56 : decode cX9_sellers 56 = .ok (.iconst 0, 1) := by decide +kernel
theorem dX9_sellers_57 : decode cX9_sellers 57 = .ok (.istore 7, 2) := by decide +kernel
theorem dX9_sellers_59 : decode cX9_sellers 59 = .ok (.iload 7, 2) := by decide +kernel
theorem dX9_sellers_61 : decode cX9_sellers 61 = .ok (.iconst 4, 1) := by decide +kernel
theorem dX9_sellers_62 : decode cX9_sellers 62 = .ok (.if_icmp .ge 73, 3) := by decide +kernel
theorem dX9_sellers_65 : decode cX9_sellers 65 = .ok (.iload 7, 2) := by decide +kernel
theorem dX9_sellers_67 : decode cX9_sellers 67 = .ok (.iconst 1, 1) := by decide +kernel
theorem dX9_sellers_68 : decode cX9_sellers 68 = .ok (.ishr, 1) := by decide +kernel
theorem dX9_sellers_69 : decode cX9_sellers 69 = .ok (.istore 8, 2) := by decide +kernel
theorem dX9_sellers_71 : decode cX9_sellers 71 = .ok (.iload 7, 2) := by decide +kernel
theorem dX9_sellers_73 : decode cX9_sellers 73 = .ok (.iconst 1, 1) := by decide +kernel
theorem dX9_sellers_74 : decode cX9_sellers 74 = .ok (.iand, 1) := by decide +kernel
theorem dX9_sellers_75 : decode cX9_sellers 75 = .ok (.istore 9, 2) := by decide +kernel
theorem dX9_sellers_77 : decode cX9_sellers 77 = .ok (.iload_n 1, 1) := by decide +kernel
theorem dX9_sellers_78 : decode cX9_sellers 78 = .ok (.iload_n 2, 1) := by decide +kernel
theorem dX9_sellers_79 : decode cX9_sellers 79 = .ok (.iload 8, 2) := by decide +kernel
theorem dX9_sellers_81 : decode cX9_sellers 81 = .ok (.iload 9, 2) := by decide +kernel
theorem dX9_sellers_83 : decode cX9_sellers 83 = .ok (.invokestatic 281, 3) := by decide +kernel
theorem dX9_sellers_86 : decode cX9_sellers 86 = .ok (.ifCond .eq 43, 3) := by decide +kernel
theorem dX9_sellers_89 : decode cX9_sellers 89 = .ok (.iinc 4 1, 3) := by decide +kernel
theorem dX9_sellers_92 : decode cX9_sellers 92 = .ok (.iload 5, 2) := by decide +kernel
theorem dX9_sellers_94 : decode cX9_sellers 94 = .ok (.iconst (-1), 1) := by decide +kernel
theorem dX9_sellers_95 : decode cX9_sellers 95 = .ok (.if_icmp .ne 34, 3) := by decide +kernel
theorem dX9_sellers_98 : decode cX9_sellers 98 = .ok (.bipush 10, 2) := by decide +kernel
theorem dX9_sellers_100 : decode cX9_sellers 100 = .ok (.iload 8, 2) := by decide +kernel
theorem dX9_sellers_102 : decode cX9_sellers 102 = .ok (.imul, 1) := by decide +kernel
theorem dX9_sellers_103 : decode cX9_sellers 103 = .ok (.iload 9, 2) := by decide +kernel
theorem dX9_sellers_105 : decode cX9_sellers 105 = .ok (.iadd, 1) := by decide +kernel
theorem dX9_sellers_106 : decode cX9_sellers 106 = .ok (.istore 5, 2) := by decide +kernel
theorem dX9_sellers_108 : decode cX9_sellers 108 = .ok (.iload_n 1, 1) := by decide +kernel
theorem dX9_sellers_109 : decode cX9_sellers 109 = .ok (.iload_n 2, 1) := by decide +kernel
theorem dX9_sellers_110 : decode cX9_sellers 110 = .ok (.iload 8, 2) := by decide +kernel
theorem dX9_sellers_112 : decode cX9_sellers 112 = .ok (.iload 9, 2) := by decide +kernel
theorem dX9_sellers_114 : decode cX9_sellers 114 = .ok (.invokestatic 285, 3) := by decide +kernel
theorem dX9_sellers_117 : decode cX9_sellers 117 = .ok (.iload_n 1, 1) := by decide +kernel
theorem dX9_sellers_118 : decode cX9_sellers 118 = .ok (.iload_n 2, 1) := by decide +kernel
theorem dX9_sellers_119 : decode cX9_sellers 119 = .ok (.iload 9, 2) := by decide +kernel
theorem dX9_sellers_121 : decode cX9_sellers 121 = .ok (.iload 8, 2) := by decide +kernel
theorem dX9_sellers_123 : decode cX9_sellers 123 = .ok (.invokestatic 285, 3) := by decide +kernel
theorem dX9_sellers_126 : decode cX9_sellers 126 = .ok (.iadd, 1) := by decide +kernel
theorem dX9_sellers_127 : decode cX9_sellers 127 = .ok (.istore 6, 2) := by decide +kernel
theorem dX9_sellers_129 : decode cX9_sellers 129 = .ok (.iinc 7 1, 3) := by decide +kernel
theorem dX9_sellers_132 : decode cX9_sellers 132 = .ok (.goto (-73), 3) := by decide +kernel
theorem dX9_sellers_135 : decode cX9_sellers 135 = .ok (.iload_n 3, 1) := by decide +kernel
theorem dX9_sellers_136 : decode cX9_sellers 136 = .ok (.ifCond .ne 8, 3) := by decide +kernel
theorem dX9_sellers_139 : decode cX9_sellers 139 = .ok (.iload 4, 2) := by decide +kernel
theorem dX9_sellers_141 : decode cX9_sellers 141 = .ok (.goto 15, 3) := by decide +kernel
theorem dX9_sellers_144 : decode cX9_sellers 144 = .ok (.iload_n 3, 1) := by decide +kernel
theorem dX9_sellers_145 : decode cX9_sellers 145 = .ok (.iconst 1, 1) := by decide +kernel
theorem dX9_sellers_146 : decode cX9_sellers 146 = .ok (.if_icmp .ne 8, 3) := by decide +kernel
theorem dX9_sellers_149 : decode cX9_sellers 149 = .ok (.iload 5, 2) := by decide +kernel
theorem dX9_sellers_151 : decode cX9_sellers 151 = .ok (.goto 5, 3) := by decide +kernel
theorem dX9_sellers_154 : decode cX9_sellers 154 = .ok (.iload 6, 2) := by decide +kernel
theorem dX9_sellers_156 : decode cX9_sellers 156 = .ok (.ireturn, 1) := by decide +kernel
theorem dX9_even_0 : decode cX9_even 0 = .ok (.aload_n 0, 1) := by decide +kernel
theorem dX9_even_1 : decode cX9_even 1 = .ok (.iload_n 1, 1) := by decide +kernel
theorem dX9_even_2 : decode cX9_even 2 = .ok (.ifCond .lt 23, 3) := by decide +kernel
theorem dX9_even_5 : decode cX9_even 5 = .ok (.iload_n 1, 1) := by decide +kernel
theorem dX9_even_6 : decode cX9_even 6 = .ok (.bipush 12, 2) := by decide +kernel
theorem dX9_even_8 : decode cX9_even 8 = .ok (.if_icmp .gt 17, 3) := by decide +kernel
theorem dX9_even_11 : decode cX9_even 11 = .ok (.iload_n 2, 1) := by decide +kernel
theorem dX9_even_12 : decode cX9_even 12 = .ok (.ifCond .lt 13, 3) := by decide +kernel
theorem dX9_even_15 : decode cX9_even 15 = .ok (.iload_n 2, 1) := by decide +kernel
theorem dX9_even_16 : decode cX9_even 16 = .ok (.bipush 16, 2) := by decide +kernel
theorem dX9_even_18 : decode cX9_even 18 = .ok (.if_icmp .gt 7, 3) := by decide +kernel
theorem dX9_even_21 : decode cX9_even 21 = .ok (.iconst 1, 1) := by decide +kernel
theorem dX9_even_22 : decode cX9_even 22 = .ok (.goto 4, 3) := by decide +kernel
theorem dX9_even_25 : decode cX9_even 25 = .ok (.iconst 0, 1) := by decide +kernel
theorem dX9_even_26 : decode cX9_even 26 = .ok (.invokevirtual 89, 3) := by decide +kernel
theorem dX9_even_29 : decode cX9_even 29 = .ok (.aload_n 0, 1) := by decide +kernel
theorem dX9_even_30 : decode cX9_even 30 = .ok (.iload_n 3, 1) := by decide +kernel
theorem dX9_even_31 : decode cX9_even 31 = .ok (.invokestatic 216, 3) := by decide +kernel
theorem dX9_even_34 : decode cX9_even 34 = .ok (.invokevirtual 89, 3) := by decide +kernel
theorem dX9_even_37 : decode cX9_even 37 = .ok (.iload_n 1, 1) := by decide +kernel
theorem dX9_even_38 : decode cX9_even 38 = .ok (.iconst 2, 1) := by decide +kernel
theorem dX9_even_39 : decode cX9_even 39 = .ok (.irem, 1) := by decide +kernel
theorem dX9_even_40 : decode cX9_even 40 = .ok (.ifCond .ne 7, 3) := by decide +kernel
theorem dX9_even_43 : decode cX9_even 43 = .ok (.lconst 1, 1) := by decide +kernel
theorem dX9_even_44 : decode cX9_even 44 = .ok (.goto 4, 3) := by decide +kernel
theorem dX9_even_47 : decode cX9_even 47 = .ok (.lconst 0, 1) := by decide +kernel
theorem dX9_even_48 : decode cX9_even 48 = .ok (.lstore 4, 2) := by decide +kernel
theorem dX9_even_50 : decode cX9_even 50 = .ok (.lconst 1, 1) := by decide +kernel
theorem dX9_even_51 : decode cX9_even 51 = .ok (.lstore 6, 2) := by decide +kernel
theorem dX9_even_53 : decode cX9_even 53 = .ok (.iconst 1, 1) := by decide +kernel
theorem dX9_even_54 : decode cX9_even 54 = .ok (.istore 8, 2) := by decide +kernel
theorem dX9_even_56 : decode cX9_even 56 = .ok (.iload 8, 2) := by decide +kernel
theorem dX9_even_58 : decode cX9_even 58 = .ok (.iload_n 1, 1) := by decide +kernel
theorem dX9_even_59 : decode cX9_even 59 = .ok (.iconst 2, 1) := by decide +kernel
theorem dX9_even_60 : decode cX9_even 60 = .ok (.idiv, 1) := by decide +kernel
theorem dX9_even_61 : decode cX9_even 61 = .ok (.if_icmp .gt 34, 3) := by decide +kernel
theorem dX9_even_64 : decode cX9_even 64 = .ok (.lload 4, 2) := by decide +kernel
theorem dX9_even_66 : decode cX9_even 66 = .ok (.iload_n 1, 1) := by decide +kernel
theorem dX9_even_67 : decode cX9_even 67 = .ok (.iconst 2, 1) := by decide +kernel
theorem dX9_even_68 : decode cX9_even 68 = .ok (.idiv, 1) := by decide +kernel
theorem dX9_even_69 : decode cX9_even 69 = .ok (.iload 8, 2) := by decide +kernel
theorem dX9_even_71 : decode cX9_even 71 = .ok (.iadd, 1) := by decide +kernel
theorem dX9_even_72 : decode cX9_even 72 = .ok (.i2l, 1) := by decide +kernel
theorem dX9_even_73 : decode cX9_even 73 = .ok (.lmul, 1) := by decide +kernel
theorem dX9_even_74 : decode cX9_even 74 = .ok (.iload 8, 2) := by decide +kernel
theorem dX9_even_76 : decode cX9_even 76 = .ok (.i2l, 1) := by decide +kernel
theorem dX9_even_77 : decode cX9_even 77 = .ok (.ldiv, 1) := by decide +kernel
theorem dX9_even_78 : decode cX9_even 78 = .ok (.iload_n 2, 1) := by decide +kernel
theorem dX9_even_79 : decode cX9_even 79 = .ok (.i2l, 1) := by decide +kernel
theorem dX9_even_80 : decode cX9_even 80 = .ok (.lmul, 1) := by decide +kernel
theorem dX9_even_81 : decode cX9_even 81 = .ok (.bipush 16, 2) := by decide +kernel
theorem dX9_even_83 : decode cX9_even 83 = .ok (.iload_n 2, 1) := by decide +kernel
theorem dX9_even_84 : decode cX9_even 84 = .ok (.isub, 1) := by decide +kernel
theorem dX9_even_85 : decode cX9_even 85 = .ok (.i2l, 1) := by decide +kernel
theorem dX9_even_86 : decode cX9_even 86 = .ok (.lmul, 1) := by decide +kernel
theorem dX9_even_87 : decode cX9_even 87 = .ok (.lstore 4, 2) := by decide +kernel
theorem dX9_even_89 : decode cX9_even 89 = .ok (.iinc 8 1, 3) := by decide +kernel
theorem dX9_even_92 : decode cX9_even 92 = .ok (.goto (-36), 3) := by decide +kernel
theorem dX9_even_95 : decode cX9_even 95 = .ok (.iconst 0, 1) := by decide +kernel
theorem dX9_even_96 : decode cX9_even 96 = .ok (.istore 8, 2) := by decide +kernel
theorem dX9_even_98 : decode cX9_even 98 = .ok (.iload 8, 2) := by decide +kernel
theorem dX9_even_100 : decode cX9_even 100 = .ok (.iload_n 1, 1) := by decide +kernel
theorem dX9_even_101 : decode cX9_even 101 = .ok (.if_icmp .ge 17, 3) := by decide +kernel
theorem dX9_even_104 : decode cX9_even 104 = .ok (.lload 6, 2) := by decide +kernel
theorem dX9_even_106 : decode cX9_even 106 = .ok (.ldc2_w 288, 3) := by decide +kernel
theorem dX9_even_109 : decode cX9_even 109 = .ok (.lmul, 1) := by decide +kernel
theorem dX9_even_110 : decode cX9_even 110 = .ok (.lstore 6, 2) := by decide +kernel
theorem dX9_even_112 : decode cX9_even 112 = .ok (.iinc 8 1, 3) := by decide +kernel
theorem dX9_even_115 : decode cX9_even 115 = .ok (.goto (-17), 3) := by decide +kernel
theorem dX9_even_118 : decode cX9_even 118 = .ok (.iload_n 3, 1) := by decide +kernel
theorem dX9_even_119 : decode cX9_even 119 = .ok (.ifCond .ne 8, 3) := by decide +kernel
theorem dX9_even_122 : decode cX9_even 122 = .ok (.lload 4, 2) := by decide +kernel
theorem dX9_even_124 : decode cX9_even 124 = .ok (.goto 5, 3) := by decide +kernel
theorem dX9_even_127 : decode cX9_even 127 = .ok (.lload 6, 2) := by decide +kernel
theorem dX9_even_129 : decode cX9_even 129 = .ok (.lload 4, 2) := by decide +kernel
theorem dX9_even_131 : decode cX9_even 131 = .ok (.lload 6, 2) := by decide +kernel
theorem dX9_even_133 : decode cX9_even 133 = .ok (.invokestatic 290, 3) := by decide +kernel
theorem dX9_even_136 : decode cX9_even 136 = .ok (.ldiv, 1) := by decide +kernel
theorem dX9_even_137 : decode cX9_even 137 = .ok (.lreturn, 1) := by decide +kernel
theorem dX9_share_0 : decode cX9_share 0 = .ok (.aload_n 0, 1) := by decide +kernel
theorem dX9_share_1 : decode cX9_share 1 = .ok (.iload_n 1, 1) := by decide +kernel
theorem dX9_share_2 : decode cX9_share 2 = .ok (.invokevirtual 174, 3) := by decide +kernel
theorem dX9_share_5 : decode cX9_share 5 = .ok (.aload_n 0, 1) := by decide +kernel
theorem dX9_share_6 : decode cX9_share 6 = .ok (.iload_n 2, 1) := by decide +kernel
theorem dX9_share_7 : decode cX9_share 7 = .ok (.invokevirtual 237, 3) := by decide +kernel
theorem dX9_share_10 : decode cX9_share 10 = .ok (.aload_n 0, 1) := by decide +kernel
theorem dX9_share_11 : decode cX9_share 11 = .ok (.iload_n 3, 1) := by decide +kernel
theorem dX9_share_12 : decode cX9_share 12 = .ok (.ifCond .lt 14, 3) := by decide +kernel
theorem dX9_share_15 : decode cX9_share 15 = .ok (.iload_n 3, 1) := by decide +kernel
theorem dX9_share_16 : decode cX9_share 16 = .ok (.sipush 999, 3) := by decide +kernel
theorem dX9_share_19 : decode cX9_share 19 = .ok (.if_icmp .gt 7, 3) := by decide +kernel
theorem dX9_share_22 : decode cX9_share 22 = .ok (.iconst 1, 1) := by decide +kernel
theorem dX9_share_23 : decode cX9_share 23 = .ok (.goto 4, 3) := by decide +kernel
theorem dX9_share_26 : decode cX9_share 26 = .ok (.iconst 0, 1) := by decide +kernel
theorem dX9_share_27 : decode cX9_share 27 = .ok (.invokevirtual 89, 3) := by decide +kernel
theorem dX9_share_30 : decode cX9_share 30 = .ok (.iload_n 2, 1) := by decide +kernel
theorem dX9_share_31 : decode cX9_share 31 = .ok (.iload_n 1, 1) := by decide +kernel
theorem dX9_share_32 : decode cX9_share 32 = .ok (.ishr, 1) := by decide +kernel
theorem dX9_share_33 : decode cX9_share 33 = .ok (.iconst 1, 1) := by decide +kernel
theorem dX9_share_34 : decode cX9_share 34 = .ok (.iand, 1) := by decide +kernel
theorem dX9_share_35 : decode cX9_share 35 = .ok (.ifCond .ne 5, 3) := by decide +kernel
theorem dX9_share_38 : decode cX9_share 38 = .ok (.iconst 0, 1) := by decide +kernel
theorem dX9_share_39 : decode cX9_share 39 = .ok (.ireturn, 1) := by decide +kernel
theorem dX9_share_40 : decode cX9_share 40 = .ok (.aload_n 0, 1) := by decide +kernel
theorem dX9_share_41 : decode cX9_share 41 = .ok (.getfield 19, 3) := by decide +kernel
theorem dX9_share_44 : decode cX9_share 44 = .ok (.iload_n 1, 1) := by decide +kernel
theorem dX9_share_45 : decode cX9_share 45 = .ok (.invokevirtual 177, 3) := by decide +kernel
theorem dX9_share_48 : decode cX9_share 48 = .ok (.aload_n 0, 1) := by decide +kernel
theorem dX9_share_49 : decode cX9_share 49 = .ok (.getfield 50, 3) := by decide +kernel
theorem dX9_share_52 : decode cX9_share 52 = .ok (.aload_n 0, 1) := by decide +kernel
theorem dX9_share_53 : decode cX9_share 53 = .ok (.getfield 19, 3) := by decide +kernel
theorem dX9_share_56 : decode cX9_share 56 = .ok (.iload_n 2, 1) := by decide +kernel
theorem dX9_share_57 : decode cX9_share 57 = .ok (.iload_n 3, 1) := by decide +kernel
theorem dX9_share_58 : decode cX9_share 58 = .ok (.invokevirtual 294, 3) := by decide +kernel
theorem dX9_share_61 : decode cX9_share 61 = .ok (.invokestatic 298, 3) := by decide +kernel
theorem dX9_share_64 : decode cX9_share 64 = .ok (.ireturn, 1) := by decide +kernel
theorem dX9_heaviest_0 : decode cX9_heaviest 0 = .ok (.aload_n 0, 1) := by decide +kernel
theorem dX9_heaviest_1 : decode cX9_heaviest 1 = .ok (.iload_n 1, 1) := by decide +kernel
theorem dX9_heaviest_2 : decode cX9_heaviest 2 = .ok (.ifCond .eq 8, 3) := by decide +kernel
theorem dX9_heaviest_5 : decode cX9_heaviest 5 = .ok (.iload_n 1, 1) := by decide +kernel
theorem dX9_heaviest_6 : decode cX9_heaviest 6 = .ok (.iconst 1, 1) := by decide +kernel
theorem dX9_heaviest_7 : decode cX9_heaviest 7 = .ok (.if_icmp .ne 7, 3) := by decide +kernel
theorem dX9_heaviest_10 : decode cX9_heaviest 10 = .ok (.iconst 1, 1) := by decide +kernel
theorem dX9_heaviest_11 : decode cX9_heaviest 11 = .ok (.goto 4, 3) := by decide +kernel
theorem dX9_heaviest_14 : decode cX9_heaviest 14 = .ok (.iconst 0, 1) := by decide +kernel
theorem dX9_heaviest_15 : decode cX9_heaviest 15 = .ok (.invokevirtual 89, 3) := by decide +kernel
theorem dX9_heaviest_18 : decode cX9_heaviest 18 = .ok (.aload_n 0, 1) := by decide +kernel
theorem dX9_heaviest_19 : decode cX9_heaviest 19 = .ok (.getfield 19, 3) := by decide +kernel
theorem dX9_heaviest_22 : decode cX9_heaviest 22 = .ok (.invokevirtual 213, 3) := by decide +kernel
theorem dX9_heaviest_25 : decode cX9_heaviest 25 = .ok (.istore_n 2, 1) := by decide +kernel
theorem dX9_heaviest_26 : decode cX9_heaviest 26 = .ok (.iload_n 1, 1) := by decide +kernel
theorem dX9_heaviest_27 : decode cX9_heaviest 27 = .ok (.ifCond .eq 8, 3) := by decide +kernel
theorem dX9_heaviest_30 : decode cX9_heaviest 30 = .ok (.iload_n 2, 1) := by decide +kernel
theorem dX9_heaviest_31 : decode cX9_heaviest 31 = .ok (.iconst (-1), 1) := by decide +kernel
theorem dX9_heaviest_32 : decode cX9_heaviest 32 = .ok (.if_icmp .ne 7, 3) := by decide +kernel
theorem dX9_heaviest_35 : decode cX9_heaviest 35 = .ok (.iload_n 2, 1) := by decide +kernel
theorem dX9_heaviest_36 : decode cX9_heaviest 36 = .ok (.goto 11, 3) := by decide +kernel
theorem dX9_heaviest_39 : decode cX9_heaviest 39 = .ok (.aload_n 0, 1) := by decide +kernel
theorem dX9_heaviest_40 : decode cX9_heaviest 40 = .ok (.getfield 19, 3) := by decide +kernel
theorem dX9_heaviest_43 : decode cX9_heaviest 43 = .ok (.iload_n 2, 1) := by decide +kernel
theorem dX9_heaviest_44 : decode cX9_heaviest 44 = .ok (.invokevirtual 177, 3) := by decide +kernel
theorem dX9_heaviest_47 : decode cX9_heaviest 47 = .ok (.ireturn, 1) := by decide +kernel
theorem dX9_above_0 : decode cX9_above 0 = .ok (.aload_n 0, 1) := by decide +kernel
theorem dX9_above_1 : decode cX9_above 1 = .ok (.iload_n 1, 1) := by decide +kernel
theorem dX9_above_2 : decode cX9_above 2 = .ok (.invokevirtual 174, 3) := by decide +kernel
theorem dX9_above_5 : decode cX9_above 5 = .ok (.iconst 0, 1) := by decide +kernel
theorem dX9_above_6 : decode cX9_above 6 = .ok (.istore_n 2, 1) := by decide +kernel
theorem dX9_above_7 : decode cX9_above 7 = .ok (.iconst 0, 1) := by decide +kernel
theorem dX9_above_8 : decode cX9_above 8 = .ok (.istore_n 3, 1) := by decide +kernel
theorem dX9_above_9 : decode cX9_above 9 = .ok (.iload_n 3, 1) := by decide +kernel
theorem dX9_above_10 : decode cX9_above 10 = .ok (.aload_n 0, 1) := by decide +kernel
theorem dX9_above_11 : decode cX9_above 11 = .ok (.getfield 19, 3) := by decide +kernel
theorem dX9_above_14 : decode cX9_above 14 = .ok (.getfield 119, 3) := by decide +kernel
theorem dX9_above_17 : decode cX9_above 17 = .ok (.if_icmp .ge 47, 3) := by decide +kernel
theorem dX9_above_20 : decode cX9_above 20 = .ok (.iload_n 3, 1) := by decide +kernel
theorem dX9_above_21 : decode cX9_above 21 = .ok (.iload_n 1, 1) := by decide +kernel
theorem dX9_above_22 : decode cX9_above 22 = .ok (.if_icmp .eq 36, 3) := by decide +kernel
theorem dX9_above_25 : decode cX9_above 25 = .ok (.aload_n 0, 1) := by decide +kernel
theorem dX9_above_26 : decode cX9_above 26 = .ok (.getfield 43, 3) := by decide +kernel
theorem dX9_above_29 : decode cX9_above 29 = .ok (.aload_n 0, 1) := by decide +kernel
theorem dX9_above_30 : decode cX9_above 30 = .ok (.getfield 19, 3) := by decide +kernel
theorem dX9_above_33 : decode cX9_above 33 = .ok (.iload_n 3, 1) := by decide +kernel
theorem dX9_above_34 : decode cX9_above 34 = .ok (.iload_n 1, 1) := by decide +kernel
theorem dX9_above_35 : decode cX9_above 35 = .ok (.invokevirtual 220, 3) := by decide +kernel
theorem dX9_above_38 : decode cX9_above 38 = .ok (.iload_n 2, 1) := by decide +kernel
theorem dX9_above_39 : decode cX9_above 39 = .ok (.aload_n 0, 1) := by decide +kernel
theorem dX9_above_40 : decode cX9_above 40 = .ok (.getfield 43, 3) := by decide +kernel
theorem dX9_above_43 : decode cX9_above 43 = .ok (.invokevirtual 303, 3) := by decide +kernel
theorem dX9_above_46 : decode cX9_above 46 = .ok (.ifCond .eq 9, 3) := by decide +kernel
theorem dX9_above_49 : decode cX9_above 49 = .ok (.iconst 1, 1) := by decide +kernel
theorem dX9_above_50 : decode cX9_above 50 = .ok (.iload_n 3, 1) := by decide +kernel
theorem dX9_above_51 : decode cX9_above 51 = .ok (.ishl, 1) := by decide +kernel
theorem dX9_above_52 : decode cX9_above 52 = .ok (.goto 4, 3) := by decide +kernel
theorem dX9_above_55 : decode cX9_above 55 = .ok (.iconst 0, 1) := by decide +kernel
theorem dX9_above_56 : decode cX9_above 56 = .ok (.ior, 1) := by decide +kernel
theorem dX9_above_57 : decode cX9_above 57 = .ok (.istore_n 2, 1) := by decide +kernel
theorem dX9_above_58 : decode cX9_above 58 = .ok (.iinc 3 1, 3) := by decide +kernel
theorem dX9_above_61 : decode cX9_above 61 = .ok (.goto (-52), 3) := by decide +kernel
theorem dX9_above_64 : decode cX9_above 64 = .ok (.iload_n 2, 1) := by decide +kernel
theorem dX9_above_65 : decode cX9_above 65 = .ok (.ireturn, 1) := by decide +kernel
theorem dX9_alike_0 : decode cX9_alike 0 = .ok (.aload_n 0, 1) := by decide +kernel
theorem dX9_alike_1 : decode cX9_alike 1 = .ok (.iload_n 1, 1) := by decide +kernel
theorem dX9_alike_2 : decode cX9_alike 2 = .ok (.ifCond .eq 8, 3) := by decide +kernel
theorem dX9_alike_5 : decode cX9_alike 5 = .ok (.iload_n 1, 1) := by decide +kernel
theorem dX9_alike_6 : decode cX9_alike 6 = .ok (.iconst 1, 1) := by decide +kernel
theorem dX9_alike_7 : decode cX9_alike 7 = .ok (.if_icmp .ne 7, 3) := by decide +kernel
theorem dX9_alike_10 : decode cX9_alike 10 = .ok (.iconst 1, 1) := by decide +kernel
theorem dX9_alike_11 : decode cX9_alike 11 = .ok (.goto 4, 3) := by decide +kernel
theorem dX9_alike_14 : decode cX9_alike 14 = .ok (.iconst 0, 1) := by decide +kernel
theorem dX9_alike_15 : decode cX9_alike 15 = .ok (.invokevirtual 89, 3) := by decide +kernel
theorem dX9_alike_18 : decode cX9_alike 18 = .ok (.iconst 0, 1) := by decide +kernel
theorem dX9_alike_19 : decode cX9_alike 19 = .ok (.istore_n 2, 1) := by decide +kernel
theorem dX9_alike_20 : decode cX9_alike 20 = .ok (.iconst (-1), 1) := by decide +kernel
theorem dX9_alike_21 : decode cX9_alike 21 = .ok (.istore_n 3, 1) := by decide +kernel
theorem dX9_alike_22 : decode cX9_alike 22 = .ok (.iconst 0, 1) := by decide +kernel
theorem dX9_alike_23 : decode cX9_alike 23 = .ok (.istore 4, 2) := by decide +kernel
theorem dX9_alike_25 : decode cX9_alike 25 = .ok (.iload 4, 2) := by decide +kernel
theorem dX9_alike_27 : decode cX9_alike 27 = .ok (.aload_n 0, 1) := by decide +kernel
theorem dX9_alike_28 : decode cX9_alike 28 = .ok (.getfield 19, 3) := by decide +kernel
theorem dX9_alike_31 : decode cX9_alike 31 = .ok (.getfield 119, 3) := by decide +kernel
theorem dX9_alike_34 : decode cX9_alike 34 = .ok (.if_icmp .ge 74, 3) := by decide +kernel
theorem dX9_alike_37 : decode cX9_alike 37 = .ok (.iload 4, 2) := by decide +kernel
theorem dX9_alike_39 : decode cX9_alike 39 = .ok (.iconst 1, 1) := by decide +kernel
theorem dX9_alike_40 : decode cX9_alike 40 = .ok (.iadd, 1) := by decide +kernel
theorem dX9_alike_41 : decode cX9_alike 41 = .ok (.istore 5, 2) := by decide +kernel
theorem dX9_alike_43 : decode cX9_alike 43 = .ok (.iload 5, 2) := by decide +kernel
theorem dX9_alike_45 : decode cX9_alike 45 = .ok (.aload_n 0, 1) := by decide +kernel
theorem dX9_alike_46 : decode cX9_alike 46 = .ok (.getfield 19, 3) := by decide +kernel
theorem dX9_alike_49 : decode cX9_alike 49 = .ok (.getfield 119, 3) := by decide +kernel
theorem dX9_alike_52 : decode cX9_alike 52 = .ok (.if_icmp .ge 50, 3) := by decide +kernel
theorem dX9_alike_55 : decode cX9_alike 55 = .ok (.aload_n 0, 1) := by decide +kernel
theorem dX9_alike_56 : decode cX9_alike 56 = .ok (.getfield 19, 3) := by decide +kernel
theorem dX9_alike_59 : decode cX9_alike 59 = .ok (.iload 4, 2) := by decide +kernel
theorem dX9_alike_61 : decode cX9_alike 61 = .ok (.invokevirtual 177, 3) := by decide +kernel
theorem dX9_alike_64 : decode cX9_alike 64 = .ok (.aload_n 0, 1) := by decide +kernel
theorem dX9_alike_65 : decode cX9_alike 65 = .ok (.getfield 19, 3) := by decide +kernel
theorem dX9_alike_68 : decode cX9_alike 68 = .ok (.iload 5, 2) := by decide +kernel
theorem dX9_alike_70 : decode cX9_alike 70 = .ok (.invokevirtual 177, 3) := by decide +kernel
theorem dX9_alike_73 : decode cX9_alike 73 = .ok (.if_icmp .ne 23, 3) := by decide +kernel
theorem dX9_alike_76 : decode cX9_alike 76 = .ok (.iload_n 2, 1) := by decide +kernel
theorem dX9_alike_77 : decode cX9_alike 77 = .ok (.ifCond .ne 14, 3) := by decide +kernel
theorem dX9_alike_80 : decode cX9_alike 80 = .ok (.bipush 10, 2) := by decide +kernel
theorem dX9_alike_82 : decode cX9_alike 82 = .ok (.iload 4, 2) := by decide +kernel
theorem dX9_alike_84 : decode cX9_alike 84 = .ok (.imul, 1) := by decide +kernel
theorem dX9_alike_85 : decode cX9_alike 85 = .ok (.iload 5, 2) := by decide +kernel
theorem dX9_alike_87 : decode cX9_alike 87 = .ok (.iadd, 1) := by decide +kernel
theorem dX9_alike_88 : decode cX9_alike 88 = .ok (.goto 4, 3) := by decide +kernel
theorem dX9_alike_91 : decode cX9_alike 91 = .ok (.iload_n 3, 1) := by decide +kernel
theorem dX9_alike_92 : decode cX9_alike 92 = .ok (.istore_n 3, 1) := by decide +kernel
theorem dX9_alike_93 : decode cX9_alike 93 = .ok (.iinc 2 1, 3) := by decide +kernel
theorem dX9_alike_96 : decode cX9_alike 96 = .ok (.iinc 5 1, 3) := by decide +kernel
theorem dX9_alike_99 : decode cX9_alike 99 = .ok (.goto (-56), 3) := by decide +kernel
theorem dX9_alike_102 : decode cX9_alike 102 = .ok (.iinc 4 1, 3) := by decide +kernel
theorem dX9_alike_105 : decode cX9_alike 105 = .ok (.goto (-80), 3) := by decide +kernel
theorem dX9_alike_108 : decode cX9_alike 108 = .ok (.iload_n 1, 1) := by decide +kernel
theorem dX9_alike_109 : decode cX9_alike 109 = .ok (.ifCond .ne 7, 3) := by decide +kernel
theorem dX9_alike_112 : decode cX9_alike 112 = .ok (.iload_n 2, 1) := by decide +kernel
theorem dX9_alike_113 : decode cX9_alike 113 = .ok (.goto 4, 3) := by decide +kernel
theorem dX9_alike_116 : decode cX9_alike 116 = .ok (.iload_n 3, 1) := by decide +kernel
theorem dX9_alike_117 : decode cX9_alike 117 = .ok (.ireturn, 1) := by decide +kernel
theorem dX9_against_0 : decode cX9_against 0 = .ok (.aload_n 0, 1) := by decide +kernel
theorem dX9_against_1 : decode cX9_against 1 = .ok (.iload_n 1, 1) := by decide +kernel
theorem dX9_against_2 : decode cX9_against 2 = .ok (.invokevirtual 174, 3) := by decide +kernel
theorem dX9_against_5 : decode cX9_against 5 = .ok (.aload_n 0, 1) := by decide +kernel
theorem dX9_against_6 : decode cX9_against 6 = .ok (.iload_n 2, 1) := by decide +kernel
theorem dX9_against_7 : decode cX9_against 7 = .ok (.invokevirtual 174, 3) := by decide +kernel
theorem dX9_against_10 : decode cX9_against 10 = .ok (.iconst 1, 1) := by decide +kernel
theorem dX9_against_11 : decode cX9_against 11 = .ok (.istore_n 3, 1) := by decide +kernel
theorem dX9_against_12 : decode cX9_against 12 = .ok (.iload_n 3, 1) := by decide +kernel
theorem dX9_against_13 : decode cX9_against 13 = .ok (.bipush 9, 2) := by decide +kernel
theorem dX9_against_15 : decode cX9_against 15 = .ok (.if_icmp .gt 32, 3) := by decide +kernel
theorem dX9_against_18 : decode cX9_against 18 = .ok (.aload_n 0, 1) := by decide +kernel
theorem dX9_against_19 : decode cX9_against 19 = .ok (.getfield 19, 3) := by decide +kernel
theorem dX9_against_22 : decode cX9_against 22 = .ok (.iload_n 1, 1) := by decide +kernel
theorem dX9_against_23 : decode cX9_against 23 = .ok (.invokevirtual 177, 3) := by decide +kernel
theorem dX9_against_26 : decode cX9_against 26 = .ok (.iload_n 3, 1) := by decide +kernel
theorem dX9_against_27 : decode cX9_against 27 = .ok (.imul, 1) := by decide +kernel
theorem dX9_against_28 : decode cX9_against 28 = .ok (.aload_n 0, 1) := by decide +kernel
theorem dX9_against_29 : decode cX9_against 29 = .ok (.getfield 19, 3) := by decide +kernel
theorem dX9_against_32 : decode cX9_against 32 = .ok (.iload_n 2, 1) := by decide +kernel
theorem dX9_against_33 : decode cX9_against 33 = .ok (.invokevirtual 177, 3) := by decide +kernel
theorem dX9_against_36 : decode cX9_against 36 = .ok (.if_icmp .lt 5, 3) := by decide +kernel
theorem dX9_against_39 : decode cX9_against 39 = .ok (.iload_n 3, 1) := by decide +kernel
theorem dX9_against_40 : decode cX9_against 40 = .ok (.ireturn, 1) := by decide +kernel
theorem dX9_against_41 : decode cX9_against 41 = .ok (.iinc 3 1, 3) := by decide +kernel
theorem dX9_against_44 : decode cX9_against 44 = .ok (.goto (-32), 3) := by decide +kernel
theorem dX9_against_47 : decode cX9_against 47 = .ok (.iconst (-1), 1) := by decide +kernel
theorem dX9_against_48 : decode cX9_against 48 = .ok (.ireturn, 1) := by decide +kernel
theorem dX9_fair_0 : decode cX9_fair 0 = .ok (.aload_n 0, 1) := by decide +kernel
theorem dX9_fair_1 : decode cX9_fair 1 = .ok (.iload_n 2, 1) := by decide +kernel
theorem dX9_fair_2 : decode cX9_fair 2 = .ok (.iload_n 3, 1) := by decide +kernel
theorem dX9_fair_3 : decode cX9_fair 3 = .ok (.invokestatic 307, 3) := by decide +kernel
theorem dX9_fair_6 : decode cX9_fair 6 = .ok (.ifCond .eq 18, 3) := by decide +kernel
theorem dX9_fair_9 : decode cX9_fair 9 = .ok (.iload 4, 2) := by decide +kernel
theorem dX9_fair_11 : decode cX9_fair 11 = .ok (.ifCond .lt 13, 3) := by decide +kernel
theorem dX9_fair_14 : decode cX9_fair 14 = .ok (.iload 4, 2) := by decide +kernel
theorem dX9_fair_16 : decode cX9_fair 16 = .ok (.iconst 3, 1) := by decide +kernel
theorem dX9_fair_17 : decode cX9_fair 17 = .ok (.if_icmp .gt 7, 3) := by decide +kernel
theorem dX9_fair_20 : decode cX9_fair 20 = .ok (.iconst 1, 1) := by decide +kernel
theorem dX9_fair_21 : decode cX9_fair 21 = .ok (.goto 4, 3) := by decide +kernel
theorem dX9_fair_24 : decode cX9_fair 24 = .ok (.iconst 0, 1) := by decide +kernel
theorem dX9_fair_25 : decode cX9_fair 25 = .ok (.invokevirtual 89, 3) := by decide +kernel
theorem dX9_fair_28 : decode cX9_fair 28 = .ok (.aload_n 0, 1) := by decide +kernel
theorem dX9_fair_29 : decode cX9_fair 29 = .ok (.getfield 57, 3) := by decide +kernel
theorem dX9_fair_32 : decode cX9_fair 32 = .ok (.aload_n 0, 1) := by decide +kernel
theorem dX9_fair_33 : decode cX9_fair 33 = .ok (.getfield 19, 3) := by decide +kernel
theorem dX9_fair_36 : decode cX9_fair 36 = .ok (.aload_n 0, 1) := by decide +kernel
theorem dX9_fair_37 : decode cX9_fair 37 = .ok (.getfield 64, 3) := by decide +kernel
theorem dX9_fair_40 : decode cX9_fair 40 = .ok (.iload_n 1, 1) := by decide +kernel
theorem dX9_fair_41 : decode cX9_fair 41 = .ok (.iload_n 2, 1) := by decide +kernel
theorem dX9_fair_42 : decode cX9_fair 42 = .ok (.iload_n 3, 1) := by decide +kernel
theorem dX9_fair_43 : decode cX9_fair 43 = .ok (.invokevirtual 311, 3) := by decide +kernel
theorem dX9_fair_46 : decode cX9_fair 46 = .ok (.iload 4, 2) := by decide +kernel
theorem dX9_fair_48 : decode cX9_fair 48 = .ok (.tableswitch 69 0 2 #[28, 39, 50], 28) := by decide +kernel
theorem dX9_fair_76 : decode cX9_fair 76 = .ok (.aload_n 0, 1) := by decide +kernel
theorem dX9_fair_77 : decode cX9_fair 77 = .ok (.getfield 57, 3) := by decide +kernel
theorem dX9_fair_80 : decode cX9_fair 80 = .ok (.getfield 315, 3) := by decide +kernel
theorem dX9_fair_83 : decode cX9_fair 83 = .ok (.invokevirtual 161, 3) := by decide +kernel
theorem dX9_fair_86 : decode cX9_fair 86 = .ok (.ireturn, 1) := by decide +kernel
theorem dX9_fair_87 : decode cX9_fair 87 = .ok (.aload_n 0, 1) := by decide +kernel
theorem dX9_fair_88 : decode cX9_fair 88 = .ok (.getfield 57, 3) := by decide +kernel
theorem dX9_fair_91 : decode cX9_fair 91 = .ok (.getfield 315, 3) := by decide +kernel
theorem dX9_fair_94 : decode cX9_fair 94 = .ok (.getfield 149, 3) := by decide +kernel
theorem dX9_fair_97 : decode cX9_fair 97 = .ok (.ireturn, 1) := by decide +kernel
theorem dX9_fair_98 : decode cX9_fair 98 = .ok (.aload_n 0, 1) := by decide +kernel
theorem dX9_fair_99 : decode cX9_fair 99 = .ok (.getfield 57, 3) := by decide +kernel
theorem dX9_fair_102 : decode cX9_fair 102 = .ok (.getfield 315, 3) := by decide +kernel
theorem dX9_fair_105 : decode cX9_fair 105 = .ok (.getfield 171, 3) := by decide +kernel
theorem dX9_fair_108 : decode cX9_fair 108 = .ok (.aload_n 0, 1) := by decide +kernel
theorem dX9_fair_109 : decode cX9_fair 109 = .ok (.getfield 19, 3) := by decide +kernel
theorem dX9_fair_112 : decode cX9_fair 112 = .ok (.getfield 171, 3) := by decide +kernel
theorem dX9_fair_115 : decode cX9_fair 115 = .ok (.isub, 1) := by decide +kernel
theorem dX9_fair_116 : decode cX9_fair 116 = .ok (.ireturn, 1) := by decide +kernel
theorem dX9_fair_117 : decode cX9_fair 117 = .ok (.aload_n 0, 1) := by decide +kernel
theorem dX9_fair_118 : decode cX9_fair 118 = .ok (.getfield 57, 3) := by decide +kernel
theorem dX9_fair_121 : decode cX9_fair 121 = .ok (.getfield 315, 3) := by decide +kernel
theorem dX9_fair_124 : decode cX9_fair 124 = .ok (.invokevirtual 165, 3) := by decide +kernel
theorem dX9_fair_127 : decode cX9_fair 127 = .ok (.ireturn, 1) := by decide +kernel
theorem dX9_span_0 : decode cX9_span 0 = .ok (.aload_n 0, 1) := by decide +kernel
theorem dX9_span_1 : decode cX9_span 1 = .ok (.iload_n 3, 1) := by decide +kernel
theorem dX9_span_2 : decode cX9_span 2 = .ok (.iload 4, 2) := by decide +kernel
theorem dX9_span_4 : decode cX9_span 4 = .ok (.invokestatic 307, 3) := by decide +kernel
theorem dX9_span_7 : decode cX9_span 7 = .ok (.ifCond .eq 18, 3) := by decide +kernel
theorem dX9_span_10 : decode cX9_span 10 = .ok (.iload_n 2, 1) := by decide +kernel
theorem dX9_span_11 : decode cX9_span 11 = .ok (.iconst 1, 1) := by decide +kernel
theorem dX9_span_12 : decode cX9_span 12 = .ok (.if_icmp .lt 13, 3) := by decide +kernel
theorem dX9_span_15 : decode cX9_span 15 = .ok (.iload_n 2, 1) := by decide +kernel
theorem dX9_span_16 : decode cX9_span 16 = .ok (.bipush 20, 2) := by decide +kernel
theorem dX9_span_18 : decode cX9_span 18 = .ok (.if_icmp .gt 7, 3) := by decide +kernel
theorem dX9_span_21 : decode cX9_span 21 = .ok (.iconst 1, 1) := by decide +kernel
theorem dX9_span_22 : decode cX9_span 22 = .ok (.goto 4, 3) := by decide +kernel
theorem dX9_span_25 : decode cX9_span 25 = .ok (.iconst 0, 1) := by decide +kernel
theorem dX9_span_26 : decode cX9_span 26 = .ok (.invokevirtual 89, 3) := by decide +kernel
theorem dX9_span_29 : decode cX9_span 29 = .ok (.aload_n 0, 1) := by decide +kernel
theorem dX9_span_30 : decode cX9_span 30 = .ok (.iload 5, 2) := by decide +kernel
theorem dX9_span_32 : decode cX9_span 32 = .ok (.ifCond .lt 25, 3) := by decide +kernel
theorem dX9_span_35 : decode cX9_span 35 = .ok (.iload 5, 2) := by decide +kernel
theorem dX9_span_37 : decode cX9_span 37 = .ok (.iconst 2, 1) := by decide +kernel
theorem dX9_span_38 : decode cX9_span 38 = .ok (.if_icmp .gt 19, 3) := by decide +kernel
theorem dX9_span_41 : decode cX9_span 41 = .ok (.aload_n 0, 1) := by decide +kernel
theorem dX9_span_42 : decode cX9_span 42 = .ok (.getfield 19, 3) := by decide +kernel
theorem dX9_span_45 : decode cX9_span 45 = .ok (.iload 6, 2) := by decide +kernel
theorem dX9_span_47 : decode cX9_span 47 = .ok (.invokevirtual 318, 3) := by decide +kernel
theorem dX9_span_50 : decode cX9_span 50 = .ok (.ifCond .eq 7, 3) := by decide +kernel
theorem dX9_span_53 : decode cX9_span 53 = .ok (.iconst 1, 1) := by decide +kernel
theorem dX9_span_54 : decode cX9_span 54 = .ok (.goto 4, 3) := by decide +kernel
theorem dX9_span_57 : decode cX9_span 57 = .ok (.iconst 0, 1) := by decide +kernel
theorem dX9_span_58 : decode cX9_span 58 = .ok (.invokevirtual 89, 3) := by decide +kernel
theorem dX9_span_61 : decode cX9_span 61 = .ok (.iconst 0, 1) := by decide +kernel
theorem dX9_span_62 : decode cX9_span 62 = .ok (.istore 7, 2) := by decide +kernel
theorem dX9_span_64 : decode cX9_span 64 = .ok (.iconst 0, 1) := by decide +kernel
theorem dX9_span_65 : decode cX9_span 65 = .ok (.istore 8, 2) := by decide +kernel
theorem dX9_span_67 : decode cX9_span 67 = .ok (.iconst 0, 1) := by decide +kernel
theorem dX9_span_68 : decode cX9_span 68 = .ok (.istore 9, 2) := by decide +kernel
theorem dX9_span_70 : decode cX9_span 70 = .ok (.iconst 0, 1) := by decide +kernel
theorem dX9_span_71 : decode cX9_span 71 = .ok (.istore 10, 2) := by decide +kernel
theorem dX9_span_73 : decode cX9_span 73 = .ok (.iload 10, 2) := by decide +kernel
theorem dX9_span_75 : decode cX9_span 75 = .ok (.iload_n 2, 1) := by decide +kernel
theorem dX9_span_76 : decode cX9_span 76 = .ok (.if_icmp .ge 110, 3) := by decide +kernel
theorem dX9_span_79 : decode cX9_span 79 = .ok (.aload_n 0, 1) := by decide +kernel
theorem dX9_span_80 : decode cX9_span 80 = .ok (.getfield 57, 3) := by decide +kernel
theorem dX9_span_83 : decode cX9_span 83 = .ok (.aload_n 0, 1) := by decide +kernel
theorem dX9_span_84 : decode cX9_span 84 = .ok (.getfield 19, 3) := by decide +kernel
theorem dX9_span_87 : decode cX9_span 87 = .ok (.aload_n 0, 1) := by decide +kernel
theorem dX9_span_88 : decode cX9_span 88 = .ok (.getfield 64, 3) := by decide +kernel
theorem dX9_span_91 : decode cX9_span 91 = .ok (.iload_n 1, 1) := by decide +kernel
theorem dX9_span_92 : decode cX9_span 92 = .ok (.iload 10, 2) := by decide +kernel
theorem dX9_span_94 : decode cX9_span 94 = .ok (.iadd, 1) := by decide +kernel
theorem dX9_span_95 : decode cX9_span 95 = .ok (.iload_n 3, 1) := by decide +kernel
theorem dX9_span_96 : decode cX9_span 96 = .ok (.iload 4, 2) := by decide +kernel
theorem dX9_span_98 : decode cX9_span 98 = .ok (.invokevirtual 311, 3) := by decide +kernel
theorem dX9_span_101 : decode cX9_span 101 = .ok (.aload_n 0, 1) := by decide +kernel
theorem dX9_span_102 : decode cX9_span 102 = .ok (.getfield 57, 3) := by decide +kernel
theorem dX9_span_105 : decode cX9_span 105 = .ok (.getfield 315, 3) := by decide +kernel
theorem dX9_span_108 : decode cX9_span 108 = .ok (.invokevirtual 161, 3) := by decide +kernel
theorem dX9_span_111 : decode cX9_span 111 = .ok (.istore 11, 2) := by decide +kernel
theorem dX9_span_113 : decode cX9_span 113 = .ok (.iload 10, 2) := by decide +kernel
theorem dX9_span_115 : decode cX9_span 115 = .ok (.ifCond .eq 10, 3) := by decide +kernel
theorem dX9_span_118 : decode cX9_span 118 = .ok (.iload 11, 2) := by decide +kernel
theorem dX9_span_120 : decode cX9_span 120 = .ok (.iload 7, 2) := by decide +kernel
theorem dX9_span_122 : decode cX9_span 122 = .ok (.if_icmp .ge 8, 3) := by decide +kernel
theorem dX9_span_125 : decode cX9_span 125 = .ok (.iload 11, 2) := by decide +kernel
theorem dX9_span_127 : decode cX9_span 127 = .ok (.goto 5, 3) := by decide +kernel
theorem dX9_span_130 : decode cX9_span 130 = .ok (.iload 7, 2) := by decide +kernel
theorem dX9_span_132 : decode cX9_span 132 = .ok (.istore 7, 2) := by decide +kernel
theorem dX9_span_134 : decode cX9_span 134 = .ok (.iload 10, 2) := by decide +kernel
theorem dX9_span_136 : decode cX9_span 136 = .ok (.ifCond .eq 10, 3) := by decide +kernel
theorem dX9_span_139 : decode cX9_span 139 = .ok (.iload 11, 2) := by decide +kernel
theorem dX9_span_141 : decode cX9_span 141 = .ok (.iload 8, 2) := by decide +kernel
theorem dX9_span_143 : decode cX9_span 143 = .ok (.if_icmp .le 8, 3) := by decide +kernel
theorem dX9_span_146 : decode cX9_span 146 = .ok (.iload 11, 2) := by decide +kernel
theorem dX9_span_148 : decode cX9_span 148 = .ok (.goto 5, 3) := by decide +kernel
theorem dX9_span_151 : decode cX9_span 151 = .ok (.iload 8, 2) := by decide +kernel
theorem dX9_span_153 : decode cX9_span 153 = .ok (.istore 8, 2) := by decide +kernel
theorem dX9_span_155 : decode cX9_span 155 = .ok (.iload 9, 2) := by decide +kernel
theorem dX9_span_157 : decode cX9_span 157 = .ok (.aload_n 0, 1) := by decide +kernel
theorem dX9_span_158 : decode cX9_span 158 = .ok (.getfield 57, 3) := by decide +kernel
theorem dX9_span_161 : decode cX9_span 161 = .ok (.getfield 315, 3) := by decide +kernel
theorem dX9_span_164 : decode cX9_span 164 = .ok (.iload 6, 2) := by decide +kernel
theorem dX9_span_166 : decode cX9_span 166 = .ok (.invokevirtual 187, 3) := by decide +kernel
theorem dX9_span_169 : decode cX9_span 169 = .ok (.ifCond .eq 7, 3) := by decide +kernel
theorem dX9_span_172 : decode cX9_span 172 = .ok (.iconst 1, 1) := by decide +kernel
theorem dX9_span_173 : decode cX9_span 173 = .ok (.goto 4, 3) := by decide +kernel
theorem dX9_span_176 : decode cX9_span 176 = .ok (.iconst 0, 1) := by decide +kernel
theorem dX9_span_177 : decode cX9_span 177 = .ok (.iadd, 1) := by decide +kernel
theorem dX9_span_178 : decode cX9_span 178 = .ok (.istore 9, 2) := by decide +kernel
theorem dX9_span_180 : decode cX9_span 180 = .ok (.iinc 10 1, 3) := by decide +kernel
theorem dX9_span_183 : decode cX9_span 183 = .ok (.goto (-110), 3) := by decide +kernel
theorem dX9_span_186 : decode cX9_span 186 = .ok (.iload 5, 2) := by decide +kernel
theorem dX9_span_188 : decode cX9_span 188 = .ok (.ifCond .ne 8, 3) := by decide +kernel
theorem dX9_span_191 : decode cX9_span 191 = .ok (.iload 7, 2) := by decide +kernel
theorem dX9_span_193 : decode cX9_span 193 = .ok (.goto 16, 3) := by decide +kernel
theorem dX9_span_196 : decode cX9_span 196 = .ok (.iload 5, 2) := by decide +kernel
theorem dX9_span_198 : decode cX9_span 198 = .ok (.iconst 1, 1) := by decide +kernel
theorem dX9_span_199 : decode cX9_span 199 = .ok (.if_icmp .ne 8, 3) := by decide +kernel
theorem dX9_span_202 : decode cX9_span 202 = .ok (.iload 8, 2) := by decide +kernel
theorem dX9_span_204 : decode cX9_span 204 = .ok (.goto 5, 3) := by decide +kernel
theorem dX9_span_207 : decode cX9_span 207 = .ok (.iload 9, 2) := by decide +kernel
theorem dX9_span_209 : decode cX9_span 209 = .ok (.ireturn, 1) := by decide +kernel
theorem dX9_image_0 : decode cX9_image 0 = .ok (.aload_n 0, 1) := by decide +kernel
theorem dX9_image_1 : decode cX9_image 1 = .ok (.getfield 36, 3) := by decide +kernel
theorem dX9_image_4 : decode cX9_image 4 = .ok (.getfield 321, 3) := by decide +kernel
theorem dX9_image_7 : decode cX9_image 7 = .ok (.iconst 3, 1) := by decide +kernel
theorem dX9_image_8 : decode cX9_image 8 = .ok (.if_icmp .lt 5, 3) := by decide +kernel
theorem dX9_image_11 : decode cX9_image 11 = .ok (.iconst (-1), 1) := by decide +kernel
theorem dX9_image_12 : decode cX9_image 12 = .ok (.ireturn, 1) := by decide +kernel
theorem dX9_image_13 : decode cX9_image 13 = .ok (.aload_n 0, 1) := by decide +kernel
theorem dX9_image_14 : decode cX9_image 14 = .ok (.getfield 36, 3) := by decide +kernel
theorem dX9_image_17 : decode cX9_image 17 = .ok (.aload_n 0, 1) := by decide +kernel
theorem dX9_image_18 : decode cX9_image 18 = .ok (.getfield 19, 3) := by decide +kernel
theorem dX9_image_21 : decode cX9_image 21 = .ok (.invokevirtual 324, 3) := by decide +kernel
theorem dX9_image_24 : decode cX9_image 24 = .ok (.aload_n 0, 1) := by decide +kernel
theorem dX9_image_25 : decode cX9_image 25 = .ok (.getfield 36, 3) := by decide +kernel
theorem dX9_image_28 : decode cX9_image 28 = .ok (.getfield 321, 3) := by decide +kernel
theorem dX9_image_31 : decode cX9_image 31 = .ok (.ireturn, 1) := by decide +kernel
theorem dX9_restore_0 : decode cX9_restore 0 = .ok (.aload_n 0, 1) := by decide +kernel
theorem dX9_restore_1 : decode cX9_restore 1 = .ok (.getfield 36, 3) := by decide +kernel
theorem dX9_restore_4 : decode cX9_restore 4 = .ok (.getfield 321, 3) := by decide +kernel
theorem dX9_restore_7 : decode cX9_restore 7 = .ok (.ifCond .gt 5, 3) := by decide +kernel
theorem dX9_restore_10 : decode cX9_restore 10 = .ok (.iconst (-1), 1) := by decide +kernel
theorem dX9_restore_11 : decode cX9_restore 11 = .ok (.ireturn, 1) := by decide +kernel
theorem dX9_restore_12 : decode cX9_restore 12 = .ok (.aload_n 0, 1) := by decide +kernel
theorem dX9_restore_13 : decode cX9_restore 13 = .ok (.getfield 36, 3) := by decide +kernel
theorem dX9_restore_16 : decode cX9_restore 16 = .ok (.aload_n 0, 1) := by decide +kernel
theorem dX9_restore_17 : decode cX9_restore 17 = .ok (.getfield 19, 3) := by decide +kernel
theorem dX9_restore_20 : decode cX9_restore 20 = .ok (.invokevirtual 327, 3) := by decide +kernel
theorem dX9_restore_23 : decode cX9_restore 23 = .ok (.aload_n 0, 1) := by decide +kernel
theorem dX9_restore_24 : decode cX9_restore 24 = .ok (.iconst 0, 1) := by decide +kernel
theorem dX9_restore_25 : decode cX9_restore 25 = .ok (.putfield 116, 3) := by decide +kernel
theorem dX9_restore_28 : decode cX9_restore 28 = .ok (.aload_n 0, 1) := by decide +kernel
theorem dX9_restore_29 : decode cX9_restore 29 = .ok (.getfield 36, 3) := by decide +kernel
theorem dX9_restore_32 : decode cX9_restore 32 = .ok (.getfield 321, 3) := by decide +kernel
theorem dX9_restore_35 : decode cX9_restore 35 = .ok (.ireturn, 1) := by decide +kernel
theorem dX9_status_0 : decode cX9_status 0 = .ok (.iload_n 1, 1) := by decide +kernel
theorem dX9_status_1 : decode cX9_status 1 = .ok (.lookupswitch 37 #[(0, 27), (1, 32)], 27) := by decide +kernel
theorem dX9_status_28 : decode cX9_status 28 = .ok (.aload_n 0, 1) := by decide +kernel
theorem dX9_status_29 : decode cX9_status 29 = .ok (.getfield 330, 3) := by decide +kernel
theorem dX9_status_32 : decode cX9_status 32 = .ok (.ireturn, 1) := by decide +kernel
theorem dX9_status_33 : decode cX9_status 33 = .ok (.aload_n 0, 1) := by decide +kernel
theorem dX9_status_34 : decode cX9_status 34 = .ok (.getfield 333, 3) := by decide +kernel
theorem dX9_status_37 : decode cX9_status 37 = .ok (.ireturn, 1) := by decide +kernel
theorem dX9_status_38 : decode cX9_status 38 = .ok (.iconst (-1), 1) := by decide +kernel
theorem dX9_status_39 : decode cX9_status 39 = .ok (.ireturn, 1) := by decide +kernel
theorem dX9_count_0 : decode cX9_count 0 = .ok (.iload_n 1, 1) := by decide +kernel
theorem dX9_count_1 : decode cX9_count 1 = .ok (.tableswitch 51 0 2 #[27, 35, 43], 27) := by decide +kernel
theorem dX9_count_28 : decode cX9_count 28 = .ok (.aload_n 0, 1) := by decide +kernel
theorem dX9_count_29 : decode cX9_count 29 = .ok (.getfield 36, 3) := by decide +kernel
theorem dX9_count_32 : decode cX9_count 32 = .ok (.getfield 321, 3) := by decide +kernel
theorem dX9_count_35 : decode cX9_count 35 = .ok (.ireturn, 1) := by decide +kernel
theorem dX9_count_36 : decode cX9_count 36 = .ok (.aload_n 0, 1) := by decide +kernel
theorem dX9_count_37 : decode cX9_count 37 = .ok (.getfield 10, 3) := by decide +kernel
theorem dX9_count_40 : decode cX9_count 40 = .ok (.getfield 81, 3) := by decide +kernel
theorem dX9_count_43 : decode cX9_count 43 = .ok (.ireturn, 1) := by decide +kernel
theorem dX9_count_44 : decode cX9_count 44 = .ok (.aload_n 0, 1) := by decide +kernel
theorem dX9_count_45 : decode cX9_count 45 = .ok (.getfield 36, 3) := by decide +kernel
theorem dX9_count_48 : decode cX9_count 48 = .ok (.getfield 123, 3) := by decide +kernel
theorem dX9_count_51 : decode cX9_count 51 = .ok (.ireturn, 1) := by decide +kernel
theorem dX9_count_52 : decode cX9_count 52 = .ok (.iconst (-1), 1) := by decide +kernel
theorem dX9_count_53 : decode cX9_count 53 = .ok (.ireturn, 1) := by decide +kernel
theorem dX9_demand_0 : decode cX9_demand 0 = .ok (.iload_n 1, 1) := by decide +kernel
theorem dX9_demand_1 : decode cX9_demand 1 = .ok (.ifCond .ne 24, 3) := by decide +kernel
theorem dX9_demand_4 : decode cX9_demand 4 = .ok (.aload_n 0, 1) := by decide +kernel
theorem dX9_demand_5 : decode cX9_demand 5 = .ok (.dup, 1) := by decide +kernel
theorem dX9_demand_6 : decode cX9_demand 6 = .ok (.getfield 333, 3) := by decide +kernel
theorem dX9_demand_9 : decode cX9_demand 9 = .ok (.iconst 1, 1) := by decide +kernel
theorem dX9_demand_10 : decode cX9_demand 10 = .ok (.iadd, 1) := by decide +kernel
theorem dX9_demand_11 : decode cX9_demand 11 = .ok (.putfield 333, 3) := by decide +kernel
theorem dX9_demand_14 : decode cX9_demand 14 = .ok (.new 336, 3) := by decide +kernel
theorem dX9_demand_17 : decode cX9_demand 17 = .ok (.dup, 1) := by decide +kernel
theorem dX9_demand_18 : decode cX9_demand 18 = .ok (.ldc_w 338, 3) := by decide +kernel
theorem dX9_demand_21 : decode cX9_demand 21 = .ok (.invokespecial 340, 3) := by decide +kernel
theorem dX9_demand_24 : decode cX9_demand 24 = .ok (.athrow, 1) := by decide +kernel
theorem dX9_demand_25 : decode cX9_demand 25 = .ok (.return_, 1) := by decide +kernel
theorem dX9_demandPresent_0 : decode cX9_demandPresent 0 = .ok (.iload_n 1, 1) := by decide +kernel
theorem dX9_demandPresent_1 : decode cX9_demandPresent 1 = .ok (.ifCond .ne 24, 3) := by decide +kernel
theorem dX9_demandPresent_4 : decode cX9_demandPresent 4 = .ok (.aload_n 0, 1) := by decide +kernel
theorem dX9_demandPresent_5 : decode cX9_demandPresent 5 = .ok (.dup, 1) := by decide +kernel
theorem dX9_demandPresent_6 : decode cX9_demandPresent 6 = .ok (.getfield 330, 3) := by decide +kernel
theorem dX9_demandPresent_9 : decode cX9_demandPresent 9 = .ok (.iconst 1, 1) := by decide +kernel
theorem dX9_demandPresent_10 : decode cX9_demandPresent 10 = .ok (.iadd, 1) := by decide +kernel
theorem dX9_demandPresent_11 : decode cX9_demandPresent 11 = .ok (.putfield 330, 3) := by decide +kernel
theorem dX9_demandPresent_14 : decode cX9_demandPresent 14 = .ok (.new 343, 3) := by decide +kernel
theorem dX9_demandPresent_17 : decode cX9_demandPresent 17 = .ok (.dup, 1) := by decide +kernel
theorem dX9_demandPresent_18 : decode cX9_demandPresent 18 = .ok (.ldc_w 345, 3) := by decide +kernel
theorem dX9_demandPresent_21 : decode cX9_demandPresent 21 = .ok (.invokespecial 347, 3) := by decide +kernel
theorem dX9_demandPresent_24 : decode cX9_demandPresent 24 = .ok (.athrow, 1) := by decide +kernel
theorem dX9_demandPresent_25 : decode cX9_demandPresent 25 = .ok (.return_, 1) := by decide +kernel
theorem dX9_demandThing_0 : decode cX9_demandThing 0 = .ok (.aload_n 0, 1) := by decide +kernel
theorem dX9_demandThing_1 : decode cX9_demandThing 1 = .ok (.aload_n 0, 1) := by decide +kernel
theorem dX9_demandThing_2 : decode cX9_demandThing 2 = .ok (.getfield 19, 3) := by decide +kernel
theorem dX9_demandThing_5 : decode cX9_demandThing 5 = .ok (.iload_n 1, 1) := by decide +kernel
theorem dX9_demandThing_6 : decode cX9_demandThing 6 = .ok (.invokevirtual 318, 3) := by decide +kernel
theorem dX9_demandThing_9 : decode cX9_demandThing 9 = .ok (.invokevirtual 194, 3) := by decide +kernel
theorem dX9_demandThing_12 : decode cX9_demandThing 12 = .ok (.return_, 1) := by decide +kernel
theorem dX9_demandBits_0 : decode cX9_demandBits 0 = .ok (.aload_n 0, 1) := by decide +kernel
theorem dX9_demandBits_1 : decode cX9_demandBits 1 = .ok (.iload_n 1, 1) := by decide +kernel
theorem dX9_demandBits_2 : decode cX9_demandBits 2 = .ok (.ifCond .lt 20, 3) := by decide +kernel
theorem dX9_demandBits_5 : decode cX9_demandBits 5 = .ok (.iload_n 1, 1) := by decide +kernel
theorem dX9_demandBits_6 : decode cX9_demandBits 6 = .ok (.iconst 1, 1) := by decide +kernel
theorem dX9_demandBits_7 : decode cX9_demandBits 7 = .ok (.aload_n 0, 1) := by decide +kernel
theorem dX9_demandBits_8 : decode cX9_demandBits 8 = .ok (.getfield 19, 3) := by decide +kernel
theorem dX9_demandBits_11 : decode cX9_demandBits 11 = .ok (.getfield 119, 3) := by decide +kernel
theorem dX9_demandBits_14 : decode cX9_demandBits 14 = .ok (.ishl, 1) := by decide +kernel
theorem dX9_demandBits_15 : decode cX9_demandBits 15 = .ok (.if_icmp .ge 7, 3) := by decide +kernel
theorem dX9_demandBits_18 : decode cX9_demandBits 18 = .ok (.iconst 1, 1) := by decide +kernel
theorem dX9_demandBits_19 : decode cX9_demandBits 19 = .ok (.goto 4, 3) := by decide +kernel
theorem dX9_demandBits_22 : decode cX9_demandBits 22 = .ok (.iconst 0, 1) := by decide +kernel
theorem dX9_demandBits_23 : decode cX9_demandBits 23 = .ok (.invokevirtual 89, 3) := by decide +kernel
theorem dX9_demandBits_26 : decode cX9_demandBits 26 = .ok (.return_, 1) := by decide +kernel
theorem dX9_isPart_0 : decode cX9_isPart 0 = .ok (.iload_n 0, 1) := by decide +kernel
theorem dX9_isPart_1 : decode cX9_isPart 1 = .ok (.ifCond .eq 8, 3) := by decide +kernel
theorem dX9_isPart_4 : decode cX9_isPart 4 = .ok (.iload_n 0, 1) := by decide +kernel
theorem dX9_isPart_5 : decode cX9_isPart 5 = .ok (.iconst 1, 1) := by decide +kernel
theorem dX9_isPart_6 : decode cX9_isPart 6 = .ok (.if_icmp .ne 7, 3) := by decide +kernel
theorem dX9_isPart_9 : decode cX9_isPart 9 = .ok (.iconst 1, 1) := by decide +kernel
theorem dX9_isPart_10 : decode cX9_isPart 10 = .ok (.goto 4, 3) := by decide +kernel
theorem dX9_isPart_13 : decode cX9_isPart 13 = .ok (.iconst 0, 1) := by decide +kernel
theorem dX9_isPart_14 : decode cX9_isPart 14 = .ok (.ireturn, 1) := by decide +kernel
theorem dX9_isFair_0 : decode cX9_isFair 0 = .ok (.iload_n 0, 1) := by decide +kernel
theorem dX9_isFair_1 : decode cX9_isFair 1 = .ok (.iconst 1, 1) := by decide +kernel
theorem dX9_isFair_2 : decode cX9_isFair 2 = .ok (.if_icmp .lt 23, 3) := by decide +kernel
theorem dX9_isFair_5 : decode cX9_isFair 5 = .ok (.iload_n 0, 1) := by decide +kernel
theorem dX9_isFair_6 : decode cX9_isFair 6 = .ok (.bipush 96, 2) := by decide +kernel
theorem dX9_isFair_8 : decode cX9_isFair 8 = .ok (.if_icmp .gt 17, 3) := by decide +kernel
theorem dX9_isFair_11 : decode cX9_isFair 11 = .ok (.iload_n 1, 1) := by decide +kernel
theorem dX9_isFair_12 : decode cX9_isFair 12 = .ok (.ifCond .lt 13, 3) := by decide +kernel
theorem dX9_isFair_15 : decode cX9_isFair 15 = .ok (.iload_n 1, 1) := by decide +kernel
theorem dX9_isFair_16 : decode cX9_isFair 16 = .ok (.bipush 16, 2) := by decide +kernel
theorem dX9_isFair_18 : decode cX9_isFair 18 = .ok (.if_icmp .gt 7, 3) := by decide +kernel
theorem dX9_isFair_21 : decode cX9_isFair 21 = .ok (.iconst 1, 1) := by decide +kernel
theorem dX9_isFair_22 : decode cX9_isFair 22 = .ok (.goto 4, 3) := by decide +kernel
theorem dX9_isFair_25 : decode cX9_isFair 25 = .ok (.iconst 0, 1) := by decide +kernel
theorem dX9_isFair_26 : decode cX9_isFair 26 = .ok (.ireturn, 1) := by decide +kernel
theorem dX9_gain_0 : decode cX9_gain 0 = .ok (.iload_n 2, 1) := by decide +kernel
theorem dX9_gain_1 : decode cX9_gain 1 = .ok (.ifCond .ne 13, 3) := by decide +kernel
theorem dX9_gain_4 : decode cX9_gain 4 = .ok (.iload_n 3, 1) := by decide +kernel
theorem dX9_gain_5 : decode cX9_gain 5 = .ok (.ifCond .ne 7, 3) := by decide +kernel
theorem dX9_gain_8 : decode cX9_gain 8 = .ok (.iload_n 0, 1) := by decide +kernel
theorem dX9_gain_9 : decode cX9_gain 9 = .ok (.goto 4, 3) := by decide +kernel
theorem dX9_gain_12 : decode cX9_gain 12 = .ok (.iconst 0, 1) := by decide +kernel
theorem dX9_gain_13 : decode cX9_gain 13 = .ok (.ireturn, 1) := by decide +kernel
theorem dX9_gain_14 : decode cX9_gain 14 = .ok (.iload_n 3, 1) := by decide +kernel
theorem dX9_gain_15 : decode cX9_gain 15 = .ok (.ifCond .ne 7, 3) := by decide +kernel
theorem dX9_gain_18 : decode cX9_gain 18 = .ok (.iload_n 1, 1) := by decide +kernel
theorem dX9_gain_19 : decode cX9_gain 19 = .ok (.goto 4, 3) := by decide +kernel
theorem dX9_gain_22 : decode cX9_gain 22 = .ok (.iconst (-1), 1) := by decide +kernel
theorem dX9_gain_23 : decode cX9_gain 23 = .ok (.ireturn, 1) := by decide +kernel
theorem dX9_isRest_0 : decode cX9_isRest 0 = .ok (.iload_n 0, 1) := by decide +kernel
theorem dX9_isRest_1 : decode cX9_isRest 1 = .ok (.iload_n 1, 1) := by decide +kernel
theorem dX9_isRest_2 : decode cX9_isRest 2 = .ok (.iload_n 2, 1) := by decide +kernel
theorem dX9_isRest_3 : decode cX9_isRest 3 = .ok (.iload_n 3, 1) := by decide +kernel
theorem dX9_isRest_4 : decode cX9_isRest 4 = .ok (.invokestatic 285, 3) := by decide +kernel
theorem dX9_isRest_7 : decode cX9_isRest 7 = .ok (.iload_n 0, 1) := by decide +kernel
theorem dX9_isRest_8 : decode cX9_isRest 8 = .ok (.iload_n 1, 1) := by decide +kernel
theorem dX9_isRest_9 : decode cX9_isRest 9 = .ok (.iconst 1, 1) := by decide +kernel
theorem dX9_isRest_10 : decode cX9_isRest 10 = .ok (.iload_n 2, 1) := by decide +kernel
theorem dX9_isRest_11 : decode cX9_isRest 11 = .ok (.isub, 1) := by decide +kernel
theorem dX9_isRest_12 : decode cX9_isRest 12 = .ok (.iload_n 3, 1) := by decide +kernel
theorem dX9_isRest_13 : decode cX9_isRest 13 = .ok (.invokestatic 285, 3) := by decide +kernel
theorem dX9_isRest_16 : decode cX9_isRest 16 = .ok (.if_icmp .lt 26, 3) := by decide +kernel
theorem dX9_isRest_19 : decode cX9_isRest 19 = .ok (.iload_n 0, 1) := by decide +kernel
theorem dX9_isRest_20 : decode cX9_isRest 20 = .ok (.iload_n 1, 1) := by decide +kernel
theorem dX9_isRest_21 : decode cX9_isRest 21 = .ok (.iload_n 3, 1) := by decide +kernel
theorem dX9_isRest_22 : decode cX9_isRest 22 = .ok (.iload_n 2, 1) := by decide +kernel
theorem dX9_isRest_23 : decode cX9_isRest 23 = .ok (.invokestatic 285, 3) := by decide +kernel
theorem dX9_isRest_26 : decode cX9_isRest 26 = .ok (.iload_n 0, 1) := by decide +kernel
theorem dX9_isRest_27 : decode cX9_isRest 27 = .ok (.iload_n 1, 1) := by decide +kernel
theorem dX9_isRest_28 : decode cX9_isRest 28 = .ok (.iconst 1, 1) := by decide +kernel
theorem dX9_isRest_29 : decode cX9_isRest 29 = .ok (.iload_n 3, 1) := by decide +kernel
theorem dX9_isRest_30 : decode cX9_isRest 30 = .ok (.isub, 1) := by decide +kernel
theorem dX9_isRest_31 : decode cX9_isRest 31 = .ok (.iload_n 2, 1) := by decide +kernel
theorem dX9_isRest_32 : decode cX9_isRest 32 = .ok (.invokestatic 285, 3) := by decide +kernel
theorem dX9_isRest_35 : decode cX9_isRest 35 = .ok (.if_icmp .lt 7, 3) := by decide +kernel
theorem dX9_isRest_38 : decode cX9_isRest 38 = .ok (.iconst 1, 1) := by decide +kernel
theorem dX9_isRest_39 : decode cX9_isRest 39 = .ok (.goto 4, 3) := by decide +kernel
theorem dX9_isRest_42 : decode cX9_isRest 42 = .ok (.iconst 0, 1) := by decide +kernel
theorem dX9_isRest_43 : decode cX9_isRest 43 = .ok (.ireturn, 1) := by decide +kernel
theorem dX9_commonMeasure_0 : decode cX9_commonMeasure 0 = .ok (.lload_n 0, 1) := by decide +kernel
theorem dX9_commonMeasure_1 : decode cX9_commonMeasure 1 = .ok (.lstore 4, 2) := by decide +kernel
theorem dX9_commonMeasure_3 : decode cX9_commonMeasure 3 = .ok (.lload_n 2, 1) := by decide +kernel
theorem dX9_commonMeasure_4 : decode cX9_commonMeasure 4 = .ok (.lstore 6, 2) := by decide +kernel
theorem dX9_commonMeasure_6 : decode cX9_commonMeasure 6 = .ok (.iconst 0, 1) := by decide +kernel
theorem dX9_commonMeasure_7 : decode cX9_commonMeasure 7 = .ok (.istore 8, 2) := by decide +kernel
theorem dX9_commonMeasure_9 : decode cX9_commonMeasure 9 = .ok (.iload 8, 2) := by decide +kernel
theorem dX9_commonMeasure_11 : decode cX9_commonMeasure 11 = .ok (.sipush 200, 3) := by decide +kernel
theorem dX9_commonMeasure_14 : decode cX9_commonMeasure 14 = .ok (.if_icmp .ge 31, 3) := by decide +kernel
theorem dX9_commonMeasure_17 : decode cX9_commonMeasure 17 = .ok (.lload 6, 2) := by decide +kernel
theorem dX9_commonMeasure_19 : decode cX9_commonMeasure 19 = .ok (.lconst 0, 1) := by decide +kernel
theorem dX9_commonMeasure_20 : decode cX9_commonMeasure 20 = .ok (.lcmp, 1) := by decide +kernel
theorem dX9_commonMeasure_21 : decode cX9_commonMeasure 21 = .ok (.ifCond .eq 24, 3) := by decide +kernel
theorem dX9_commonMeasure_24 : decode cX9_commonMeasure 24 = .ok (.lload 4, 2) := by decide +kernel
theorem dX9_commonMeasure_26 : decode cX9_commonMeasure 26 = .ok (.lload 6, 2) := by decide +kernel
theorem dX9_commonMeasure_28 : decode cX9_commonMeasure 28 = .ok (.lrem, 1) := by decide +kernel
theorem dX9_commonMeasure_29 : decode cX9_commonMeasure 29 = .ok (.lstore 9, 2) := by decide +kernel
theorem dX9_commonMeasure_31 : decode cX9_commonMeasure 31 = .ok (.lload 6, 2) := by decide +kernel
theorem dX9_commonMeasure_33 : decode cX9_commonMeasure 33 = .ok (.lstore 4, 2) := by decide +kernel
theorem dX9_commonMeasure_35 : decode cX9_commonMeasure 35 = .ok (.lload 9, 2) := by decide +kernel
theorem dX9_commonMeasure_37 : decode cX9_commonMeasure 37 = .ok (.lstore 6, 2) := by decide +kernel
theorem dX9_commonMeasure_39 : decode cX9_commonMeasure 39 = .ok (.iinc 8 1, 3) := by decide +kernel
theorem dX9_commonMeasure_42 : decode cX9_commonMeasure 42 = .ok (.goto (-33), 3) := by decide +kernel
theorem dX9_commonMeasure_45 : decode cX9_commonMeasure 45 = .ok (.lload 4, 2) := by decide +kernel
theorem dX9_commonMeasure_47 : decode cX9_commonMeasure 47 = .ok (.lconst 1, 1) := by decide +kernel
theorem dX9_commonMeasure_48 : decode cX9_commonMeasure 48 = .ok (.lcmp, 1) := by decide +kernel
theorem dX9_commonMeasure_49 : decode cX9_commonMeasure 49 = .ok (.ifCond .le 8, 3) := by decide +kernel
theorem dX9_commonMeasure_52 : decode cX9_commonMeasure 52 = .ok (.lload 4, 2) := by decide +kernel
theorem dX9_commonMeasure_54 : decode cX9_commonMeasure 54 = .ok (.goto 4, 3) := by decide +kernel
theorem dX9_commonMeasure_57 : decode cX9_commonMeasure 57 = .ok (.lconst 1, 1) := by decide +kernel
theorem dX9_commonMeasure_58 : decode cX9_commonMeasure 58 = .ok (.lreturn, 1) := by decide +kernel
theorem dX10_init_0 : decode cX10_init 0 = .ok (.aload_n 0, 1) := by decide +kernel
theorem dX10_init_1 : decode cX10_init 1 = .ok (.invokespecial 1, 3) := by decide +kernel
theorem dX10_init_4 : decode cX10_init 4 = .ok (.aload_n 0, 1) := by decide +kernel
theorem dX10_init_5 : decode cX10_init 5 = .ok (.iconst (-1), 1) := by decide +kernel
theorem dX10_init_6 : decode cX10_init 6 = .ok (.putfield 9, 3) := by decide +kernel
theorem dX10_init_9 : decode cX10_init 9 = .ok (.aload_n 0, 1) := by decide +kernel
theorem dX10_init_10 : decode cX10_init 10 = .ok (.sipush 600, 3) := by decide +kernel
theorem dX10_init_13 : decode cX10_init 13 = .ok (.newarray .int, 2) := by decide +kernel
theorem dX10_init_15 : decode cX10_init 15 = .ok (.putfield 13, 3) := by decide +kernel
theorem dX10_init_18 : decode cX10_init 18 = .ok (.aload_n 0, 1) := by decide +kernel
theorem dX10_init_19 : decode cX10_init 19 = .ok (.iconst 2, 1) := by decide +kernel
theorem dX10_init_20 : decode cX10_init 20 = .ok (.newarray .int, 2) := by decide +kernel
theorem dX10_init_22 : decode cX10_init 22 = .ok (.putfield 17, 3) := by decide +kernel
theorem dX10_init_25 : decode cX10_init 25 = .ok (.aload_n 0, 1) := by decide +kernel
theorem dX10_init_26 : decode cX10_init 26 = .ok (.iconst 4, 1) := by decide +kernel
theorem dX10_init_27 : decode cX10_init 27 = .ok (.newarray .int, 2) := by decide +kernel
theorem dX10_init_29 : decode cX10_init 29 = .ok (.putfield 20, 3) := by decide +kernel
theorem dX10_init_32 : decode cX10_init 32 = .ok (.aload_n 0, 1) := by decide +kernel
theorem dX10_init_33 : decode cX10_init 33 = .ok (.iconst 4, 1) := by decide +kernel
theorem dX10_init_34 : decode cX10_init 34 = .ok (.newarray .int, 2) := by decide +kernel
theorem dX10_init_36 : decode cX10_init 36 = .ok (.putfield 23, 3) := by decide +kernel
theorem dX10_init_39 : decode cX10_init 39 = .ok (.aload_n 0, 1) := by decide +kernel
theorem dX10_init_40 : decode cX10_init 40 = .ok (.bipush 8, 2) := by decide +kernel
theorem dX10_init_42 : decode cX10_init 42 = .ok (.newarray .int, 2) := by decide +kernel
theorem dX10_init_44 : decode cX10_init 44 = .ok (.putfield 26, 3) := by decide +kernel
theorem dX10_init_47 : decode cX10_init 47 = .ok (.aload_n 0, 1) := by decide +kernel
theorem dX10_init_48 : decode cX10_init 48 = .ok (.bipush 8, 2) := by decide +kernel
theorem dX10_init_50 : decode cX10_init 50 = .ok (.newarray .int, 2) := by decide +kernel
theorem dX10_init_52 : decode cX10_init 52 = .ok (.putfield 29, 3) := by decide +kernel
theorem dX10_init_55 : decode cX10_init 55 = .ok (.aload_n 0, 1) := by decide +kernel
theorem dX10_init_56 : decode cX10_init 56 = .ok (.bipush 10, 2) := by decide +kernel
theorem dX10_init_58 : decode cX10_init 58 = .ok (.iconst 4, 1) := by decide +kernel
theorem dX10_init_59 : decode cX10_init 59 = .ok (.multianewarray 32 2, 4) := by decide +kernel
theorem dX10_init_63 : decode cX10_init 63 = .ok (.putfield 34, 3) := by decide +kernel
theorem dX10_init_66 : decode cX10_init 66 = .ok (.aload_n 0, 1) := by decide +kernel
theorem dX10_init_67 : decode cX10_init 67 = .ok (.bipush 10, 2) := by decide +kernel
theorem dX10_init_69 : decode cX10_init 69 = .ok (.iconst 4, 1) := by decide +kernel
theorem dX10_init_70 : decode cX10_init 70 = .ok (.multianewarray 32 2, 4) := by decide +kernel
theorem dX10_init_74 : decode cX10_init 74 = .ok (.putfield 37, 3) := by decide +kernel
theorem dX10_init_77 : decode cX10_init 77 = .ok (.aload_n 0, 1) := by decide +kernel
theorem dX10_init_78 : decode cX10_init 78 = .ok (.sipush 160, 3) := by decide +kernel
theorem dX10_init_81 : decode cX10_init 81 = .ok (.iconst 2, 1) := by decide +kernel
theorem dX10_init_82 : decode cX10_init 82 = .ok (.multianewarray 32 2, 4) := by decide +kernel
theorem dX10_init_86 : decode cX10_init 86 = .ok (.putfield 40, 3) := by decide +kernel
theorem dX10_init_89 : decode cX10_init 89 = .ok (.aload_n 0, 1) := by decide +kernel
theorem dX10_init_90 : decode cX10_init 90 = .ok (.sipush 160, 3) := by decide +kernel
theorem dX10_init_93 : decode cX10_init 93 = .ok (.iconst 2, 1) := by decide +kernel
theorem dX10_init_94 : decode cX10_init 94 = .ok (.multianewarray 32 2, 4) := by decide +kernel
theorem dX10_init_98 : decode cX10_init 98 = .ok (.putfield 43, 3) := by decide +kernel
theorem dX10_init_101 : decode cX10_init 101 = .ok (.aload_n 0, 1) := by decide +kernel
theorem dX10_init_102 : decode cX10_init 102 = .ok (.bipush 6, 2) := by decide +kernel
theorem dX10_init_104 : decode cX10_init 104 = .ok (.iconst 3, 1) := by decide +kernel
theorem dX10_init_105 : decode cX10_init 105 = .ok (.multianewarray 32 2, 4) := by decide +kernel
theorem dX10_init_109 : decode cX10_init 109 = .ok (.putfield 46, 3) := by decide +kernel
theorem dX10_init_112 : decode cX10_init 112 = .ok (.aload_n 0, 1) := by decide +kernel
theorem dX10_init_113 : decode cX10_init 113 = .ok (.bipush 6, 2) := by decide +kernel
theorem dX10_init_115 : decode cX10_init 115 = .ok (.iconst 3, 1) := by decide +kernel
theorem dX10_init_116 : decode cX10_init 116 = .ok (.multianewarray 32 2, 4) := by decide +kernel
theorem dX10_init_120 : decode cX10_init 120 = .ok (.putfield 49, 3) := by decide +kernel
theorem dX10_init_123 : decode cX10_init 123 = .ok (.aload_n 0, 1) := by decide +kernel
theorem dX10_init_124 : decode cX10_init 124 = .ok (.sipush 160, 3) := by decide +kernel
theorem dX10_init_127 : decode cX10_init 127 = .ok (.newarray .int, 2) := by decide +kernel
theorem dX10_init_129 : decode cX10_init 129 = .ok (.putfield 52, 3) := by decide +kernel
theorem dX10_init_132 : decode cX10_init 132 = .ok (.aload_n 0, 1) := by decide +kernel
theorem dX10_init_133 : decode cX10_init 133 = .ok (.bipush 7, 2) := by decide +kernel
theorem dX10_init_135 : decode cX10_init 135 = .ok (.newarray .int, 2) := by decide +kernel
theorem dX10_init_137 : decode cX10_init 137 = .ok (.putfield 55, 3) := by decide +kernel
theorem dX10_init_140 : decode cX10_init 140 = .ok (.aload_n 0, 1) := by decide +kernel
theorem dX10_init_141 : decode cX10_init 141 = .ok (.bipush 80, 2) := by decide +kernel
theorem dX10_init_143 : decode cX10_init 143 = .ok (.bipush 6, 2) := by decide +kernel
theorem dX10_init_145 : decode cX10_init 145 = .ok (.multianewarray 32 2, 4) := by decide +kernel
theorem dX10_init_149 : decode cX10_init 149 = .ok (.putfield 58, 3) := by decide +kernel
theorem dX10_init_152 : decode cX10_init 152 = .ok (.aload_n 0, 1) := by decide +kernel
theorem dX10_init_153 : decode cX10_init 153 = .ok (.bipush 60, 2) := by decide +kernel
theorem dX10_init_155 : decode cX10_init 155 = .ok (.newarray .int, 2) := by decide +kernel
theorem dX10_init_157 : decode cX10_init 157 = .ok (.putfield 61, 3) := by decide +kernel
theorem dX10_init_160 : decode cX10_init 160 = .ok (.aload_n 0, 1) := by decide +kernel
theorem dX10_init_161 : decode cX10_init 161 = .ok (.bipush 60, 2) := by decide +kernel
theorem dX10_init_163 : decode cX10_init 163 = .ok (.newarray .int, 2) := by decide +kernel
theorem dX10_init_165 : decode cX10_init 165 = .ok (.putfield 64, 3) := by decide +kernel
theorem dX10_init_168 : decode cX10_init 168 = .ok (.aload_n 0, 1) := by decide +kernel
theorem dX10_init_169 : decode cX10_init 169 = .ok (.bipush 8, 2) := by decide +kernel
theorem dX10_init_171 : decode cX10_init 171 = .ok (.newarray .int, 2) := by decide +kernel
theorem dX10_init_173 : decode cX10_init 173 = .ok (.putfield 67, 3) := by decide +kernel
theorem dX10_init_176 : decode cX10_init 176 = .ok (.aload_n 0, 1) := by decide +kernel
theorem dX10_init_177 : decode cX10_init 177 = .ok (.bipush 16, 2) := by decide +kernel
theorem dX10_init_179 : decode cX10_init 179 = .ok (.bipush 60, 2) := by decide +kernel
theorem dX10_init_181 : decode cX10_init 181 = .ok (.multianewarray 32 2, 4) := by decide +kernel
theorem dX10_init_185 : decode cX10_init 185 = .ok (.putfield 70, 3) := by decide +kernel
theorem dX10_init_188 : decode cX10_init 188 = .ok (.aload_n 0, 1) := by decide +kernel
theorem dX10_init_189 : decode cX10_init 189 = .ok (.iconst 3, 1) := by decide +kernel
theorem dX10_init_190 : decode cX10_init 190 = .ok (.sipush 1021, 3) := by decide +kernel
theorem dX10_init_193 : decode cX10_init 193 = .ok (.multianewarray 32 2, 4) := by decide +kernel
theorem dX10_init_197 : decode cX10_init 197 = .ok (.putfield 73, 3) := by decide +kernel
theorem dX10_init_200 : decode cX10_init 200 = .ok (.aload_n 0, 1) := by decide +kernel
theorem dX10_init_201 : decode cX10_init 201 = .ok (.sipush 1024, 3) := by decide +kernel
theorem dX10_init_204 : decode cX10_init 204 = .ok (.newarray .boolean, 2) := by decide +kernel
theorem dX10_init_206 : decode cX10_init 206 = .ok (.putfield 76, 3) := by decide +kernel
theorem dX10_init_209 : decode cX10_init 209 = .ok (.aload_n 0, 1) := by decide +kernel
theorem dX10_init_210 : decode cX10_init 210 = .ok (.sipush 481, 3) := by decide +kernel
theorem dX10_init_213 : decode cX10_init 213 = .ok (.newarray .int, 2) := by decide +kernel
theorem dX10_init_215 : decode cX10_init 215 = .ok (.putfield 80, 3) := by decide +kernel
theorem dX10_init_218 : decode cX10_init 218 = .ok (.aload_n 0, 1) := by decide +kernel
theorem dX10_init_219 : decode cX10_init 219 = .ok (.iconst 3, 1) := by decide +kernel
theorem dX10_init_220 : decode cX10_init 220 = .ok (.newarray .int, 2) := by decide +kernel
theorem dX10_init_222 : decode cX10_init 222 = .ok (.putfield 83, 3) := by decide +kernel
theorem dX10_init_225 : decode cX10_init 225 = .ok (.aload_n 0, 1) := by decide +kernel
theorem dX10_init_226 : decode cX10_init 226 = .ok (.invokevirtual 86, 3) := by decide +kernel
theorem dX10_init_229 : decode cX10_init 229 = .ok (.aload_n 0, 1) := by decide +kernel
theorem dX10_init_230 : decode cX10_init 230 = .ok (.invokevirtual 89, 3) := by decide +kernel
theorem dX10_init_233 : decode cX10_init 233 = .ok (.return_, 1) := by decide +kernel
theorem dX10_tellsNothing_0 : decode cX10_tellsNothing 0 = .ok (.aload_n 0, 1) := by decide +kernel
theorem dX10_tellsNothing_1 : decode cX10_tellsNothing 1 = .ok (.getfield 20, 3) := by decide +kernel
theorem dX10_tellsNothing_4 : decode cX10_tellsNothing 4 = .ok (.iconst 0, 1) := by decide +kernel
theorem dX10_tellsNothing_5 : decode cX10_tellsNothing 5 = .ok (.iconst 0, 1) := by decide +kernel
theorem dX10_tellsNothing_6 : decode cX10_tellsNothing 6 = .ok (.iastore, 1) := by decide +kernel
theorem dX10_tellsNothing_7 : decode cX10_tellsNothing 7 = .ok (.aload_n 0, 1) := by decide +kernel
theorem dX10_tellsNothing_8 : decode cX10_tellsNothing 8 = .ok (.getfield 20, 3) := by decide +kernel
theorem dX10_tellsNothing_11 : decode cX10_tellsNothing 11 = .ok (.iconst 1, 1) := by decide +kernel
theorem dX10_tellsNothing_12 : decode cX10_tellsNothing 12 = .ok (.iconst 0, 1) := by decide +kernel
theorem dX10_tellsNothing_13 : decode cX10_tellsNothing 13 = .ok (.iastore, 1) := by decide +kernel
theorem dX10_tellsNothing_14 : decode cX10_tellsNothing 14 = .ok (.aload_n 0, 1) := by decide +kernel
theorem dX10_tellsNothing_15 : decode cX10_tellsNothing 15 = .ok (.getfield 20, 3) := by decide +kernel
theorem dX10_tellsNothing_18 : decode cX10_tellsNothing 18 = .ok (.iconst 2, 1) := by decide +kernel
theorem dX10_tellsNothing_19 : decode cX10_tellsNothing 19 = .ok (.bipush 9, 2) := by decide +kernel
theorem dX10_tellsNothing_21 : decode cX10_tellsNothing 21 = .ok (.iastore, 1) := by decide +kernel
theorem dX10_tellsNothing_22 : decode cX10_tellsNothing 22 = .ok (.aload_n 0, 1) := by decide +kernel
theorem dX10_tellsNothing_23 : decode cX10_tellsNothing 23 = .ok (.getfield 20, 3) := by decide +kernel
theorem dX10_tellsNothing_26 : decode cX10_tellsNothing 26 = .ok (.iconst 3, 1) := by decide +kernel
theorem dX10_tellsNothing_27 : decode cX10_tellsNothing 27 = .ok (.iconst 0, 1) := by decide +kernel
theorem dX10_tellsNothing_28 : decode cX10_tellsNothing 28 = .ok (.iastore, 1) := by decide +kernel
theorem dX10_tellsNothing_29 : decode cX10_tellsNothing 29 = .ok (.return_, 1) := by decide +kernel
theorem dX10_thrown_0 : decode cX10_thrown 0 = .ok (.aload_n 0, 1) := by decide +kernel
theorem dX10_thrown_1 : decode cX10_thrown 1 = .ok (.getfield 92, 3) := by decide +kernel
theorem dX10_thrown_4 : decode cX10_thrown 4 = .ok (.ireturn, 1) := by decide +kernel
theorem dX10_bad_0 : decode cX10_bad 0 = .ok (.iload_n 1, 1) := by decide +kernel
theorem dX10_bad_1 : decode cX10_bad 1 = .ok (.ifCond .eq 25, 3) := by decide +kernel
theorem dX10_bad_4 : decode cX10_bad 4 = .ok (.aload_n 0, 1) := by decide +kernel
theorem dX10_bad_5 : decode cX10_bad 5 = .ok (.getfield 92, 3) := by decide +kernel
theorem dX10_bad_8 : decode cX10_bad 8 = .ok (.ifCond .ne 18, 3) := by decide +kernel
theorem dX10_bad_11 : decode cX10_bad 11 = .ok (.aload_n 0, 1) := by decide +kernel
theorem dX10_bad_12 : decode cX10_bad 12 = .ok (.iload_n 2, 1) := by decide +kernel
theorem dX10_bad_13 : decode cX10_bad 13 = .ok (.putfield 92, 3) := by decide +kernel
theorem dX10_bad_16 : decode cX10_bad 16 = .ok (.aload_n 0, 1) := by decide +kernel
theorem dX10_bad_17 : decode cX10_bad 17 = .ok (.getfield 17, 3) := by decide +kernel
theorem dX10_bad_20 : decode cX10_bad 20 = .ok (.iload_n 3, 1) := by decide +kernel
theorem dX10_bad_21 : decode cX10_bad 21 = .ok (.dup2, 1) := by decide +kernel
theorem dX10_bad_22 : decode cX10_bad 22 = .ok (.iaload, 1) := by decide +kernel
theorem dX10_bad_23 : decode cX10_bad 23 = .ok (.iconst 1, 1) := by decide +kernel
theorem dX10_bad_24 : decode cX10_bad 24 = .ok (.iadd, 1) := by decide +kernel
theorem dX10_bad_25 : decode cX10_bad 25 = .ok (.iastore, 1) := by decide +kernel
theorem dX10_bad_26 : decode cX10_bad 26 = .ok (.aload_n 0, 1) := by decide +kernel
theorem dX10_bad_27 : decode cX10_bad 27 = .ok (.getfield 92, 3) := by decide +kernel
theorem dX10_bad_30 : decode cX10_bad 30 = .ok (.ifCond .eq 7, 3) := by decide +kernel
theorem dX10_bad_33 : decode cX10_bad 33 = .ok (.iconst 1, 1) := by decide +kernel
theorem dX10_bad_34 : decode cX10_bad 34 = .ok (.goto 4, 3) := by decide +kernel
theorem dX10_bad_37 : decode cX10_bad 37 = .ok (.iconst 0, 1) := by decide +kernel
theorem dX10_bad_38 : decode cX10_bad 38 = .ok (.ireturn, 1) := by decide +kernel
theorem dX10_in_0 : decode cX10_in 0 = .ok (.iload_n 0, 1) := by decide +kernel
theorem dX10_in_1 : decode cX10_in 1 = .ok (.iload_n 1, 1) := by decide +kernel
theorem dX10_in_2 : decode cX10_in 2 = .ok (.if_icmp .lt 12, 3) := by decide +kernel
theorem dX10_in_5 : decode cX10_in 5 = .ok (.iload_n 0, 1) := by decide +kernel
theorem dX10_in_6 : decode cX10_in 6 = .ok (.iload_n 2, 1) := by decide +kernel
theorem dX10_in_7 : decode cX10_in 7 = .ok (.if_icmp .gt 7, 3) := by decide +kernel
theorem dX10_in_10 : decode cX10_in 10 = .ok (.iconst 1, 1) := by decide +kernel
theorem dX10_in_11 : decode cX10_in 11 = .ok (.goto 4, 3) := by decide +kernel
theorem dX10_in_14 : decode cX10_in 14 = .ok (.iconst 0, 1) := by decide +kernel
theorem dX10_in_15 : decode cX10_in 15 = .ok (.ireturn, 1) := by decide +kernel
theorem dX10_less_0 : decode cX10_less 0 = .ok (.iload_n 0, 1) := by decide +kernel
theorem dX10_less_1 : decode cX10_less 1 = .ok (.iload_n 1, 1) := by decide +kernel
theorem dX10_less_2 : decode cX10_less 2 = .ok (.if_icmp .ge 7, 3) := by decide +kernel
theorem dX10_less_5 : decode cX10_less 5 = .ok (.iload_n 0, 1) := by decide +kernel
theorem dX10_less_6 : decode cX10_less 6 = .ok (.goto 4, 3) := by decide +kernel
theorem dX10_less_9 : decode cX10_less 9 = .ok (.iload_n 1, 1) := by decide +kernel
theorem dX10_less_10 : decode cX10_less 10 = .ok (.ireturn, 1) := by decide +kernel
theorem dX10_more_0 : decode cX10_more 0 = .ok (.iload_n 0, 1) := by decide +kernel
theorem dX10_more_1 : decode cX10_more 1 = .ok (.iload_n 1, 1) := by decide +kernel
theorem dX10_more_2 : decode cX10_more 2 = .ok (.if_icmp .le 7, 3) := by decide +kernel
theorem dX10_more_5 : decode cX10_more 5 = .ok (.iload_n 0, 1) := by decide +kernel
theorem dX10_more_6 : decode cX10_more 6 = .ok (.goto 4, 3) := by decide +kernel
theorem dX10_more_9 : decode cX10_more 9 = .ok (.iload_n 1, 1) := by decide +kernel
theorem dX10_more_10 : decode cX10_more 10 = .ok (.ireturn, 1) := by decide +kernel
theorem dX10_has_0 : decode cX10_has 0 = .ok (.iload_n 0, 1) := by decide +kernel
theorem dX10_has_1 : decode cX10_has 1 = .ok (.iload_n 1, 1) := by decide +kernel
theorem dX10_has_2 : decode cX10_has 2 = .ok (.ishr, 1) := by decide +kernel
theorem dX10_has_3 : decode cX10_has 3 = .ok (.iconst 1, 1) := by decide +kernel
theorem dX10_has_4 : decode cX10_has 4 = .ok (.iand, 1) := by decide +kernel
theorem dX10_has_5 : decode cX10_has 5 = .ok (.iconst 1, 1) := by decide +kernel
theorem dX10_has_6 : decode cX10_has 6 = .ok (.if_icmp .ne 7, 3) := by decide +kernel
theorem dX10_has_9 : decode cX10_has 9 = .ok (.iconst 1, 1) := by decide +kernel
theorem dX10_has_10 : decode cX10_has 10 = .ok (.goto 4, 3) := by decide +kernel
theorem dX10_has_13 : decode cX10_has 13 = .ok (.iconst 0, 1) := by decide +kernel
theorem dX10_has_14 : decode cX10_has 14 = .ok (.ireturn, 1) := by decide +kernel
theorem dX10_feed_0 : decode cX10_feed 0 = .ok (.aload_n 0, 1) := by decide +kernel
theorem dX10_feed_1 : decode cX10_feed 1 = .ok (.iconst 0, 1) := by decide +kernel
theorem dX10_feed_2 : decode cX10_feed 2 = .ok (.putfield 92, 3) := by decide +kernel
theorem dX10_feed_5 : decode cX10_feed 5 = .ok (.aload_n 0, 1) := by decide +kernel
theorem dX10_feed_6 : decode cX10_feed 6 = .ok (.getfield 95, 3) := by decide +kernel
theorem dX10_feed_9 : decode cX10_feed 9 = .ok (.bipush 20, 2) := by decide +kernel
theorem dX10_feed_11 : decode cX10_feed 11 = .ok (.iadd, 1) := by decide +kernel
theorem dX10_feed_12 : decode cX10_feed 12 = .ok (.sipush 600, 3) := by decide +kernel
theorem dX10_feed_15 : decode cX10_feed 15 = .ok (.if_icmp .le 5, 3) := by decide +kernel
theorem dX10_feed_18 : decode cX10_feed 18 = .ok (.iconst (-1), 1) := by decide +kernel
theorem dX10_feed_19 : decode cX10_feed 19 = .ok (.ireturn, 1) := by decide +kernel
theorem dX10_feed_20 : decode cX10_feed 20 = .ok (.iconst 0, 1) := by decide +kernel
theorem dX10_feed_21 : decode cX10_feed 21 = .ok (.istore 6, 2) := by decide +kernel
theorem dX10_feed_23 : decode cX10_feed 23 = .ok (.iload 6, 2) := by decide +kernel
theorem dX10_feed_25 : decode cX10_feed 25 = .ok (.bipush 20, 2) := by decide +kernel
theorem dX10_feed_27 : decode cX10_feed 27 = .ok (.if_icmp .ge 93, 3) := by decide +kernel
theorem dX10_feed_30 : decode cX10_feed 30 = .ok (.iload 6, 2) := by decide +kernel
theorem dX10_feed_32 : decode cX10_feed 32 = .ok (.iconst 4, 1) := by decide +kernel
theorem dX10_feed_33 : decode cX10_feed 33 = .ok (.if_icmp .ge 7, 3) := by decide +kernel
theorem dX10_feed_36 : decode cX10_feed 36 = .ok (.iload_n 1, 1) := by decide +kernel
theorem dX10_feed_37 : decode cX10_feed 37 = .ok (.goto 39, 3) := by decide +kernel
theorem dX10_feed_40 : decode cX10_feed 40 = .ok (.iload 6, 2) := by decide +kernel
theorem dX10_feed_42 : decode cX10_feed 42 = .ok (.bipush 8, 2) := by decide +kernel
theorem dX10_feed_44 : decode cX10_feed 44 = .ok (.if_icmp .ge 7, 3) := by decide +kernel
theorem dX10_feed_47 : decode cX10_feed 47 = .ok (.iload_n 2, 1) := by decide +kernel
theorem dX10_feed_48 : decode cX10_feed 48 = .ok (.goto 28, 3) := by decide +kernel
theorem dX10_feed_51 : decode cX10_feed 51 = .ok (.iload 6, 2) := by decide +kernel
theorem dX10_feed_53 : decode cX10_feed 53 = .ok (.bipush 12, 2) := by decide +kernel
theorem dX10_feed_55 : decode cX10_feed 55 = .ok (.if_icmp .ge 7, 3) := by decide +kernel
theorem dX10_feed_58 : decode cX10_feed 58 = .ok (.iload_n 3, 1) := by decide +kernel
theorem dX10_feed_59 : decode cX10_feed 59 = .ok (.goto 17, 3) := by decide +kernel
theorem dX10_feed_62 : decode cX10_feed 62 = .ok (.iload 6, 2) := by decide +kernel
theorem dX10_feed_64 : decode cX10_feed 64 = .ok (.bipush 16, 2) := by decide +kernel
theorem dX10_feed_66 : decode cX10_feed 66 = .ok (.if_icmp .ge 8, 3) := by decide +kernel
theorem dX10_feed_69 : decode cX10_feed 69 = .ok (.iload 4, 2) := by decide +kernel
theorem dX10_feed_71 : decode cX10_feed 71 = .ok (.goto 5, 3) := by decide +kernel
theorem dX10_feed_74 : decode cX10_feed 74 = .ok (.iload 5, 2) := by decide +kernel
theorem dX10_feed_76 : decode cX10_feed 76 = .ok (.istore 7, 2) := by decide +kernel
theorem dX10_feed_78 : decode cX10_feed 78 = .ok (.aload_n 0, 1) := by decide +kernel
theorem dX10_feed_79 : decode cX10_feed 79 = .ok (.getfield 13, 3) := by decide +kernel
theorem dX10_feed_82 : decode cX10_feed 82 = .ok (.aload_n 0, 1) := by decide +kernel
theorem dX10_feed_83 : decode cX10_feed 83 = .ok (.getfield 95, 3) := by decide +kernel
theorem dX10_feed_86 : decode cX10_feed 86 = .ok (.iload 7, 2) := by decide +kernel
theorem dX10_feed_88 : decode cX10_feed 88 = .ok (.bipush 24, 2) := by decide +kernel
theorem dX10_feed_90 : decode cX10_feed 90 = .ok (.bipush 8, 2) := by decide +kernel
theorem dX10_feed_92 : decode cX10_feed 92 = .ok (.iload 6, 2) := by decide +kernel
theorem dX10_feed_94 : decode cX10_feed 94 = .ok (.iconst 4, 1) := by decide +kernel
theorem dX10_feed_95 : decode cX10_feed 95 = .ok (.irem, 1) := by decide +kernel
theorem dX10_feed_96 : decode cX10_feed 96 = .ok (.imul, 1) := by decide +kernel
theorem dX10_feed_97 : decode cX10_feed 97 = .ok (.isub, 1) := by decide +kernel
theorem dX10_feed_98 : decode cX10_feed 98 = .ok (.ishr, 1) := by decide +kernel
theorem dX10_feed_99 : decode cX10_feed 99 = .ok (.sipush 255, 3) := by decide +kernel
theorem dX10_feed_102 : decode cX10_feed 102 = .ok (.iand, 1) := by decide +kernel
theorem dX10_feed_103 : decode cX10_feed 103 = .ok (.iastore, 1) := by decide +kernel
theorem dX10_feed_104 : decode cX10_feed 104 = .ok (.aload_n 0, 1) := by decide +kernel
theorem dX10_feed_105 : decode cX10_feed 105 = .ok (.dup, 1) := by decide +kernel
theorem dX10_feed_106 : decode cX10_feed 106 = .ok (.getfield 95, 3) := by decide +kernel
theorem dX10_feed_109 : decode cX10_feed 109 = .ok (.iconst 1, 1) := by decide +kernel
theorem dX10_feed_110 : decode cX10_feed 110 = .ok (.iadd, 1) := by decide +kernel
theorem dX10_feed_111 : decode cX10_feed 111 = .ok (.putfield 95, 3) := by decide +kernel
theorem dX10_feed_114 : decode cX10_feed 114 = .ok (.iinc 6 1, 3) := by decide +kernel
theorem dX10_feed_117 : decode cX10_feed 117 = .ok (.goto (-94), 3) := by decide +kernel
theorem dX10_feed_120 : decode cX10_feed 120 = .ok (.aload_n 0, 1) := by decide +kernel
theorem dX10_feed_121 : decode cX10_feed 121 = .ok (.getfield 95, 3) := by decide +kernel
theorem dX10_feed_124 : decode cX10_feed 124 = .ok (.ireturn, 1) := by decide +kernel
theorem dX10_byteAt_0 : decode cX10_byteAt 0 = .ok (.iload_n 1, 1) := by decide +kernel
theorem dX10_byteAt_1 : decode cX10_byteAt 1 = .ok (.aload_n 0, 1) := by decide +kernel
theorem dX10_byteAt_2 : decode cX10_byteAt 2 = .ok (.getfield 98, 3) := by decide +kernel
theorem dX10_byteAt_5 : decode cX10_byteAt 5 = .ok (.if_icmp .lt 7, 3) := by decide +kernel
theorem dX10_byteAt_8 : decode cX10_byteAt 8 = .ok (.iconst (-1), 1) := by decide +kernel
theorem dX10_byteAt_9 : decode cX10_byteAt 9 = .ok (.goto 9, 3) := by decide +kernel
theorem dX10_byteAt_12 : decode cX10_byteAt 12 = .ok (.aload_n 0, 1) := by decide +kernel
theorem dX10_byteAt_13 : decode cX10_byteAt 13 = .ok (.getfield 13, 3) := by decide +kernel
theorem dX10_byteAt_16 : decode cX10_byteAt 16 = .ok (.iload_n 1, 1) := by decide +kernel
theorem dX10_byteAt_17 : decode cX10_byteAt 17 = .ok (.iaload, 1) := by decide +kernel
theorem dX10_byteAt_18 : decode cX10_byteAt 18 = .ok (.ireturn, 1) := by decide +kernel
theorem dX10_blanks_0 : decode cX10_blanks 0 = .ok (.aload_n 0, 1) := by decide +kernel
theorem dX10_blanks_1 : decode cX10_blanks 1 = .ok (.aload_n 0, 1) := by decide +kernel
theorem dX10_blanks_2 : decode cX10_blanks 2 = .ok (.getfield 101, 3) := by decide +kernel
theorem dX10_blanks_5 : decode cX10_blanks 5 = .ok (.invokevirtual 104, 3) := by decide +kernel
theorem dX10_blanks_8 : decode cX10_blanks 8 = .ok (.bipush 32, 2) := by decide +kernel
theorem dX10_blanks_10 : decode cX10_blanks 10 = .ok (.if_icmp .ne 16, 3) := by decide +kernel
theorem dX10_blanks_13 : decode cX10_blanks 13 = .ok (.aload_n 0, 1) := by decide +kernel
theorem dX10_blanks_14 : decode cX10_blanks 14 = .ok (.dup, 1) := by decide +kernel
theorem dX10_blanks_15 : decode cX10_blanks 15 = .ok (.getfield 101, 3) := by decide +kernel
theorem dX10_blanks_18 : decode cX10_blanks 18 = .ok (.iconst 1, 1) := by decide +kernel
theorem dX10_blanks_19 : decode cX10_blanks 19 = .ok (.iadd, 1) := by decide +kernel
theorem dX10_blanks_20 : decode cX10_blanks 20 = .ok (.putfield 101, 3) := by decide +kernel
theorem dX10_blanks_23 : decode cX10_blanks 23 = .ok (.goto (-23), 3) := by decide +kernel
theorem dX10_blanks_26 : decode cX10_blanks 26 = .ok (.return_, 1) := by decide +kernel
theorem dX10_wrong_0 : decode cX10_wrong 0 = .ok (.aload_n 0, 1) := by decide +kernel
theorem dX10_wrong_1 : decode cX10_wrong 1 = .ok (.getfield 108, 3) := by decide +kernel
theorem dX10_wrong_4 : decode cX10_wrong 4 = .ok (.ifCond .ne 13, 3) := by decide +kernel
theorem dX10_wrong_7 : decode cX10_wrong 7 = .ok (.aload_n 0, 1) := by decide +kernel
theorem dX10_wrong_8 : decode cX10_wrong 8 = .ok (.iload_n 1, 1) := by decide +kernel
theorem dX10_wrong_9 : decode cX10_wrong 9 = .ok (.putfield 108, 3) := by decide +kernel
theorem dX10_wrong_12 : decode cX10_wrong 12 = .ok (.aload_n 0, 1) := by decide +kernel
theorem dX10_wrong_13 : decode cX10_wrong 13 = .ok (.iload_n 2, 1) := by decide +kernel
theorem dX10_wrong_14 : decode cX10_wrong 14 = .ok (.putfield 111, 3) := by decide +kernel
theorem dX10_wrong_17 : decode cX10_wrong 17 = .ok (.return_, 1) := by decide +kernel
theorem dX10_isDigit_0 : decode cX10_isDigit 0 = .ok (.iload_n 0, 1) := by decide +kernel
theorem dX10_isDigit_1 : decode cX10_isDigit 1 = .ok (.bipush 48, 2) := by decide +kernel
theorem dX10_isDigit_3 : decode cX10_isDigit 3 = .ok (.if_icmp .lt 13, 3) := by decide +kernel
theorem dX10_isDigit_6 : decode cX10_isDigit 6 = .ok (.iload_n 0, 1) := by decide +kernel
theorem dX10_isDigit_7 : decode cX10_isDigit 7 = .ok (.bipush 57, 2) := by decide +kernel
theorem dX10_isDigit_9 : decode cX10_isDigit 9 = .ok (.if_icmp .gt 7, 3) := by decide +kernel
theorem dX10_isDigit_12 : decode cX10_isDigit 12 = .ok (.iconst 1, 1) := by decide +kernel
theorem dX10_isDigit_13 : decode cX10_isDigit 13 = .ok (.goto 4, 3) := by decide +kernel
theorem dX10_isDigit_16 : decode cX10_isDigit 16 = .ok (.iconst 0, 1) := by decide +kernel
theorem dX10_isDigit_17 : decode cX10_isDigit 17 = .ok (.ireturn, 1) := by decide +kernel
theorem dX10_isSmall_0 : decode cX10_isSmall 0 = .ok (.iload_n 0, 1) := by decide +kernel
theorem dX10_isSmall_1 : decode cX10_isSmall 1 = .ok (.bipush 97, 2) := by decide +kernel
theorem dX10_isSmall_3 : decode cX10_isSmall 3 = .ok (.if_icmp .lt 13, 3) := by decide +kernel
theorem dX10_isSmall_6 : decode cX10_isSmall 6 = .ok (.iload_n 0, 1) := by decide +kernel
theorem dX10_isSmall_7 : decode cX10_isSmall 7 = .ok (.bipush 122, 2) := by decide +kernel
theorem dX10_isSmall_9 : decode cX10_isSmall 9 = .ok (.if_icmp .gt 7, 3) := by decide +kernel
theorem dX10_isSmall_12 : decode cX10_isSmall 12 = .ok (.iconst 1, 1) := by decide +kernel
theorem dX10_isSmall_13 : decode cX10_isSmall 13 = .ok (.goto 4, 3) := by decide +kernel
theorem dX10_isSmall_16 : decode cX10_isSmall 16 = .ok (.iconst 0, 1) := by decide +kernel
theorem dX10_isSmall_17 : decode cX10_isSmall 17 = .ok (.ireturn, 1) := by decide +kernel
theorem dX10_number_0 : decode cX10_number 0 = .ok (.aload_n 0, 1) := by decide +kernel
theorem dX10_number_1 : decode cX10_number 1 = .ok (.getfield 108, 3) := by decide +kernel
theorem dX10_number_4 : decode cX10_number 4 = .ok (.ifCond .eq 5, 3) := by decide +kernel
theorem dX10_number_7 : decode cX10_number 7 = .ok (.iconst 0, 1) := by decide +kernel
theorem dX10_number_8 : decode cX10_number 8 = .ok (.ireturn, 1) := by decide +kernel
theorem dX10_number_9 : decode cX10_number 9 = .ok (.aload_n 0, 1) := by decide +kernel
theorem dX10_number_10 : decode cX10_number 10 = .ok (.invokevirtual 114, 3) := by decide +kernel
theorem dX10_number_13 : decode cX10_number 13 = .ok (.aload_n 0, 1) := by decide +kernel
theorem dX10_number_14 : decode cX10_number 14 = .ok (.getfield 101, 3) := by decide +kernel
theorem dX10_number_17 : decode cX10_number 17 = .ok (.istore_n 3, 1) := by decide +kernel
theorem dX10_number_18 : decode cX10_number 18 = .ok (.iconst 0, 1) := by decide +kernel
theorem dX10_number_19 : decode cX10_number 19 = .ok (.istore 4, 2) := by decide +kernel
theorem dX10_number_21 : decode cX10_number 21 = .ok (.aload_n 0, 1) := by decide +kernel
theorem dX10_number_22 : decode cX10_number 22 = .ok (.aload_n 0, 1) := by decide +kernel
theorem dX10_number_23 : decode cX10_number 23 = .ok (.getfield 101, 3) := by decide +kernel
theorem dX10_number_26 : decode cX10_number 26 = .ok (.invokevirtual 104, 3) := by decide +kernel
theorem dX10_number_29 : decode cX10_number 29 = .ok (.invokestatic 117, 3) := by decide +kernel
theorem dX10_number_32 : decode cX10_number 32 = .ok (.ifCond .ne 12, 3) := by decide +kernel
theorem dX10_number_35 : decode cX10_number 35 = .ok (.aload_n 0, 1) := by decide +kernel
theorem dX10_number_36 : decode cX10_number 36 = .ok (.iconst 1, 1) := by decide +kernel
theorem dX10_number_37 : decode cX10_number 37 = .ok (.aload_n 0, 1) := by decide +kernel
theorem dX10_number_38 : decode cX10_number 38 = .ok (.getfield 101, 3) := by decide +kernel
theorem dX10_number_41 : decode cX10_number 41 = .ok (.invokevirtual 121, 3) := by decide +kernel
theorem dX10_number_44 : decode cX10_number 44 = .ok (.aload_n 0, 1) := by decide +kernel
theorem dX10_number_45 : decode cX10_number 45 = .ok (.aload_n 0, 1) := by decide +kernel
theorem dX10_number_46 : decode cX10_number 46 = .ok (.getfield 101, 3) := by decide +kernel
theorem dX10_number_49 : decode cX10_number 49 = .ok (.invokevirtual 104, 3) := by decide +kernel
theorem dX10_number_52 : decode cX10_number 52 = .ok (.invokestatic 117, 3) := by decide +kernel
theorem dX10_number_55 : decode cX10_number 55 = .ok (.ifCond .eq 51, 3) := by decide +kernel
theorem dX10_number_58 : decode cX10_number 58 = .ok (.bipush 10, 2) := by decide +kernel
theorem dX10_number_60 : decode cX10_number 60 = .ok (.iload 4, 2) := by decide +kernel
theorem dX10_number_62 : decode cX10_number 62 = .ok (.imul, 1) := by decide +kernel
theorem dX10_number_63 : decode cX10_number 63 = .ok (.aload_n 0, 1) := by decide +kernel
theorem dX10_number_64 : decode cX10_number 64 = .ok (.aload_n 0, 1) := by decide +kernel
theorem dX10_number_65 : decode cX10_number 65 = .ok (.getfield 101, 3) := by decide +kernel
theorem dX10_number_68 : decode cX10_number 68 = .ok (.invokevirtual 104, 3) := by decide +kernel
theorem dX10_number_71 : decode cX10_number 71 = .ok (.iadd, 1) := by decide +kernel
theorem dX10_number_72 : decode cX10_number 72 = .ok (.bipush 48, 2) := by decide +kernel
theorem dX10_number_74 : decode cX10_number 74 = .ok (.isub, 1) := by decide +kernel
theorem dX10_number_75 : decode cX10_number 75 = .ok (.istore 4, 2) := by decide +kernel
theorem dX10_number_77 : decode cX10_number 77 = .ok (.iload 4, 2) := by decide +kernel
theorem dX10_number_79 : decode cX10_number 79 = .ok (.ldc 125, 2) := by decide +kernel
theorem dX10_number_81 : decode cX10_number 81 = .ok (.if_icmp .le 8, 3) := by decide +kernel
theorem dX10_number_84 : decode cX10_number 84 = .ok (.ldc 125, 2) := by decide +kernel
theorem dX10_number_86 : decode cX10_number 86 = .ok (.goto 5, 3) := by decide +kernel
theorem dX10_number_89 : decode cX10_number 89 = .ok (.iload 4, 2) := by decide +kernel
theorem dX10_number_91 : decode cX10_number 91 = .ok (.istore 4, 2) := by decide +kernel
theorem dX10_number_93 : decode cX10_number 93 = .ok (.aload_n 0, 1) := by decide +kernel
theorem dX10_number_94 : decode cX10_number 94 = .ok (.dup, 1) := by decide +kernel
theorem dX10_number_95 : decode cX10_number 95 = .ok (.getfield 101, 3) := by decide +kernel
theorem dX10_number_98 : decode cX10_number 98 = .ok (.iconst 1, 1) := by decide +kernel
theorem dX10_number_99 : decode cX10_number 99 = .ok (.iadd, 1) := by decide +kernel
theorem dX10_number_100 : decode cX10_number 100 = .ok (.putfield 101, 3) := by decide +kernel
theorem dX10_number_103 : decode cX10_number 103 = .ok (.goto (-59), 3) := by decide +kernel
theorem dX10_number_106 : decode cX10_number 106 = .ok (.iload 4, 2) := by decide +kernel
theorem dX10_number_108 : decode cX10_number 108 = .ok (.iload_n 1, 1) := by decide +kernel
theorem dX10_number_109 : decode cX10_number 109 = .ok (.iload_n 2, 1) := by decide +kernel
theorem dX10_number_110 : decode cX10_number 110 = .ok (.invokestatic 126, 3) := by decide +kernel
theorem dX10_number_113 : decode cX10_number 113 = .ok (.ifCond .ne 9, 3) := by decide +kernel
theorem dX10_number_116 : decode cX10_number 116 = .ok (.aload_n 0, 1) := by decide +kernel
theorem dX10_number_117 : decode cX10_number 117 = .ok (.iconst 2, 1) := by decide +kernel
theorem dX10_number_118 : decode cX10_number 118 = .ok (.iload_n 3, 1) := by decide +kernel
theorem dX10_number_119 : decode cX10_number 119 = .ok (.invokevirtual 121, 3) := by decide +kernel
theorem dX10_number_122 : decode cX10_number 122 = .ok (.aload_n 0, 1) := by decide +kernel
theorem dX10_number_123 : decode cX10_number 123 = .ok (.getfield 108, 3) := by decide +kernel
theorem dX10_number_126 : decode cX10_number 126 = .ok (.ifCond .ne 8, 3) := by decide +kernel
theorem dX10_number_129 : decode cX10_number 129 = .ok (.iload 4, 2) := by decide +kernel
theorem dX10_number_131 : decode cX10_number 131 = .ok (.goto 4, 3) := by decide +kernel
theorem dX10_number_134 : decode cX10_number 134 = .ok (.iconst 0, 1) := by decide +kernel
theorem dX10_number_135 : decode cX10_number 135 = .ok (.ireturn, 1) := by decide +kernel
theorem dX10_wordHere_0 : decode cX10_wordHere 0 = .ok (.aload_n 0, 1) := by decide +kernel
theorem dX10_wordHere_1 : decode cX10_wordHere 1 = .ok (.invokevirtual 114, 3) := by decide +kernel
theorem dX10_wordHere_4 : decode cX10_wordHere 4 = .ok (.iconst 0, 1) := by decide +kernel
theorem dX10_wordHere_5 : decode cX10_wordHere 5 = .ok (.istore_n 1, 1) := by decide +kernel
theorem dX10_wordHere_6 : decode cX10_wordHere 6 = .ok (.iconst 0, 1) := by decide +kernel
theorem dX10_wordHere_7 : decode cX10_wordHere 7 = .ok (.istore_n 2, 1) := by decide +kernel
theorem dX10_wordHere_8 : decode cX10_wordHere 8 = .ok (.aload_n 0, 1) := by decide +kernel
theorem dX10_wordHere_9 : decode cX10_wordHere 9 = .ok (.aload_n 0, 1) := by decide +kernel
theorem dX10_wordHere_10 : decode cX10_wordHere 10 = .ok (.getfield 101, 3) := by decide +kernel
theorem dX10_wordHere_13 : decode cX10_wordHere 13 = .ok (.iload_n 2, 1) := by decide +kernel
theorem dX10_wordHere_14 : decode cX10_wordHere 14 = .ok (.iadd, 1) := by decide +kernel
theorem dX10_wordHere_15 : decode cX10_wordHere 15 = .ok (.invokevirtual 104, 3) := by decide +kernel
theorem dX10_wordHere_18 : decode cX10_wordHere 18 = .ok (.invokestatic 130, 3) := by decide +kernel
theorem dX10_wordHere_21 : decode cX10_wordHere 21 = .ok (.ifCond .eq 40, 3) := by decide +kernel
theorem dX10_wordHere_24 : decode cX10_wordHere 24 = .ok (.iload_n 2, 1) := by decide +kernel
theorem dX10_wordHere_25 : decode cX10_wordHere 25 = .ok (.bipush 6, 2) := by decide +kernel
theorem dX10_wordHere_27 : decode cX10_wordHere 27 = .ok (.if_icmp .ge 26, 3) := by decide +kernel
theorem dX10_wordHere_30 : decode cX10_wordHere 30 = .ok (.bipush 27, 2) := by decide +kernel
theorem dX10_wordHere_32 : decode cX10_wordHere 32 = .ok (.iload_n 1, 1) := by decide +kernel
theorem dX10_wordHere_33 : decode cX10_wordHere 33 = .ok (.imul, 1) := by decide +kernel
theorem dX10_wordHere_34 : decode cX10_wordHere 34 = .ok (.aload_n 0, 1) := by decide +kernel
theorem dX10_wordHere_35 : decode cX10_wordHere 35 = .ok (.aload_n 0, 1) := by decide +kernel
theorem dX10_wordHere_36 : decode cX10_wordHere 36 = .ok (.getfield 101, 3) := by decide +kernel
theorem dX10_wordHere_39 : decode cX10_wordHere 39 = .ok (.iload_n 2, 1) := by decide +kernel
theorem dX10_wordHere_40 : decode cX10_wordHere 40 = .ok (.iadd, 1) := by decide +kernel
theorem dX10_wordHere_41 : decode cX10_wordHere 41 = .ok (.invokevirtual 104, 3) := by decide +kernel
theorem dX10_wordHere_44 : decode cX10_wordHere 44 = .ok (.iadd, 1) := by decide +kernel
theorem dX10_wordHere_45 : decode cX10_wordHere 45 = .ok (.bipush 97, 2) := by decide +kernel
theorem dX10_wordHere_47 : decode cX10_wordHere 47 = .ok (.isub, 1) := by decide +kernel
theorem dX10_wordHere_48 : decode cX10_wordHere 48 = .ok (.iconst 1, 1) := by decide +kernel
theorem dX10_wordHere_49 : decode cX10_wordHere 49 = .ok (.iadd, 1) := by decide +kernel
theorem dX10_wordHere_50 : decode cX10_wordHere 50 = .ok (.goto 4, 3) := by decide +kernel
theorem dX10_wordHere_53 : decode cX10_wordHere 53 = .ok (.iload_n 1, 1) := by decide +kernel
theorem dX10_wordHere_54 : decode cX10_wordHere 54 = .ok (.istore_n 1, 1) := by decide +kernel
theorem dX10_wordHere_55 : decode cX10_wordHere 55 = .ok (.iinc 2 1, 3) := by decide +kernel
theorem dX10_wordHere_58 : decode cX10_wordHere 58 = .ok (.goto (-50), 3) := by decide +kernel
theorem dX10_wordHere_61 : decode cX10_wordHere 61 = .ok (.iload_n 2, 1) := by decide +kernel
theorem dX10_wordHere_62 : decode cX10_wordHere 62 = .ok (.bipush 6, 2) := by decide +kernel
theorem dX10_wordHere_64 : decode cX10_wordHere 64 = .ok (.if_icmp .le 7, 3) := by decide +kernel
theorem dX10_wordHere_67 : decode cX10_wordHere 67 = .ok (.iconst (-1), 1) := by decide +kernel
theorem dX10_wordHere_68 : decode cX10_wordHere 68 = .ok (.goto 4, 3) := by decide +kernel
theorem dX10_wordHere_71 : decode cX10_wordHere 71 = .ok (.iload_n 1, 1) := by decide +kernel
theorem dX10_wordHere_72 : decode cX10_wordHere 72 = .ok (.ireturn, 1) := by decide +kernel
theorem dX10_six_0 : decode cX10_six 0 = .ok (.bipush 27, 2) := by decide +kernel
theorem dX10_six_2 : decode cX10_six 2 = .ok (.bipush 27, 2) := by decide +kernel
theorem dX10_six_4 : decode cX10_six 4 = .ok (.iload_n 0, 1) := by decide +kernel
theorem dX10_six_5 : decode cX10_six 5 = .ok (.imul, 1) := by decide +kernel
theorem dX10_six_6 : decode cX10_six 6 = .ok (.iload_n 1, 1) := by decide +kernel
theorem dX10_six_7 : decode cX10_six 7 = .ok (.iadd, 1) := by decide +kernel
theorem dX10_six_8 : decode cX10_six 8 = .ok (.imul, 1) := by decide +kernel
theorem dX10_six_9 : decode cX10_six 9 = .ok (.iload_n 2, 1) := by decide +kernel
theorem dX10_six_10 : decode cX10_six 10 = .ok (.iadd, 1) := by decide +kernel
theorem dX10_six_11 : decode cX10_six 11 = .ok (.istore 6, 2) := by decide +kernel
theorem dX10_six_13 : decode cX10_six 13 = .ok (.iload_n 3, 1) := by decide +kernel
theorem dX10_six_14 : decode cX10_six 14 = .ok (.ifCond .ne 8, 3) := by decide +kernel
theorem dX10_six_17 : decode cX10_six 17 = .ok (.iload 6, 2) := by decide +kernel
theorem dX10_six_19 : decode cX10_six 19 = .ok (.goto 10, 3) := by decide +kernel
theorem dX10_six_22 : decode cX10_six 22 = .ok (.bipush 27, 2) := by decide +kernel
theorem dX10_six_24 : decode cX10_six 24 = .ok (.iload 6, 2) := by decide +kernel
theorem dX10_six_26 : decode cX10_six 26 = .ok (.imul, 1) := by decide +kernel
theorem dX10_six_27 : decode cX10_six 27 = .ok (.iload_n 3, 1) := by decide +kernel
theorem dX10_six_28 : decode cX10_six 28 = .ok (.iadd, 1) := by decide +kernel
theorem dX10_six_29 : decode cX10_six 29 = .ok (.istore 6, 2) := by decide +kernel
theorem dX10_six_31 : decode cX10_six 31 = .ok (.iload 4, 2) := by decide +kernel
theorem dX10_six_33 : decode cX10_six 33 = .ok (.ifCond .ne 8, 3) := by decide +kernel
theorem dX10_six_36 : decode cX10_six 36 = .ok (.iload 6, 2) := by decide +kernel
theorem dX10_six_38 : decode cX10_six 38 = .ok (.goto 11, 3) := by decide +kernel
theorem dX10_six_41 : decode cX10_six 41 = .ok (.bipush 27, 2) := by decide +kernel
theorem dX10_six_43 : decode cX10_six 43 = .ok (.iload 6, 2) := by decide +kernel
theorem dX10_six_45 : decode cX10_six 45 = .ok (.imul, 1) := by decide +kernel
theorem dX10_six_46 : decode cX10_six 46 = .ok (.iload 4, 2) := by decide +kernel
theorem dX10_six_48 : decode cX10_six 48 = .ok (.iadd, 1) := by decide +kernel
theorem dX10_six_49 : decode cX10_six 49 = .ok (.istore 6, 2) := by decide +kernel
theorem dX10_six_51 : decode cX10_six 51 = .ok (.iload 5, 2) := by decide +kernel
theorem dX10_six_53 : decode cX10_six 53 = .ok (.ifCond .ne 8, 3) := by decide +kernel
theorem dX10_six_56 : decode cX10_six 56 = .ok (.iload 6, 2) := by decide +kernel
theorem dX10_six_58 : decode cX10_six 58 = .ok (.goto 11, 3) := by decide +kernel
theorem dX10_six_61 : decode cX10_six 61 = .ok (.bipush 27, 2) := by decide +kernel
theorem dX10_six_63 : decode cX10_six 63 = .ok (.iload 6, 2) := by decide +kernel
theorem dX10_six_65 : decode cX10_six 65 = .ok (.imul, 1) := by decide +kernel
theorem dX10_six_66 : decode cX10_six 66 = .ok (.iload 5, 2) := by decide +kernel
theorem dX10_six_68 : decode cX10_six 68 = .ok (.iadd, 1) := by decide +kernel
theorem dX10_six_69 : decode cX10_six 69 = .ok (.ireturn, 1) := by decide +kernel
theorem dX10_isWord_0 : decode cX10_isWord 0 = .ok (.aload_n 0, 1) := by decide +kernel
theorem dX10_isWord_1 : decode cX10_isWord 1 = .ok (.getfield 108, 3) := by decide +kernel
theorem dX10_isWord_4 : decode cX10_isWord 4 = .ok (.ifCond .ne 26, 3) := by decide +kernel
theorem dX10_isWord_7 : decode cX10_isWord 7 = .ok (.aload_n 0, 1) := by decide +kernel
theorem dX10_isWord_8 : decode cX10_isWord 8 = .ok (.invokevirtual 133, 3) := by decide +kernel
theorem dX10_isWord_11 : decode cX10_isWord 11 = .ok (.iload_n 1, 1) := by decide +kernel
theorem dX10_isWord_12 : decode cX10_isWord 12 = .ok (.iload_n 2, 1) := by decide +kernel
theorem dX10_isWord_13 : decode cX10_isWord 13 = .ok (.iload_n 3, 1) := by decide +kernel
theorem dX10_isWord_14 : decode cX10_isWord 14 = .ok (.iload 4, 2) := by decide +kernel
theorem dX10_isWord_16 : decode cX10_isWord 16 = .ok (.iload 5, 2) := by decide +kernel
theorem dX10_isWord_18 : decode cX10_isWord 18 = .ok (.iload 6, 2) := by decide +kernel
theorem dX10_isWord_20 : decode cX10_isWord 20 = .ok (.invokestatic 137, 3) := by decide +kernel
theorem dX10_isWord_23 : decode cX10_isWord 23 = .ok (.if_icmp .ne 7, 3) := by decide +kernel
theorem dX10_isWord_26 : decode cX10_isWord 26 = .ok (.iconst 1, 1) := by decide +kernel
theorem dX10_isWord_27 : decode cX10_isWord 27 = .ok (.goto 4, 3) := by decide +kernel
theorem dX10_isWord_30 : decode cX10_isWord 30 = .ok (.iconst 0, 1) := by decide +kernel
theorem dX10_isWord_31 : decode cX10_isWord 31 = .ok (.ireturn, 1) := by decide +kernel
theorem dX10_skipWord_0 : decode cX10_skipWord 0 = .ok (.aload_n 0, 1) := by decide +kernel
theorem dX10_skipWord_1 : decode cX10_skipWord 1 = .ok (.aload_n 0, 1) := by decide +kernel
theorem dX10_skipWord_2 : decode cX10_skipWord 2 = .ok (.getfield 101, 3) := by decide +kernel
theorem dX10_skipWord_5 : decode cX10_skipWord 5 = .ok (.invokevirtual 104, 3) := by decide +kernel
theorem dX10_skipWord_8 : decode cX10_skipWord 8 = .ok (.invokestatic 130, 3) := by decide +kernel
theorem dX10_skipWord_11 : decode cX10_skipWord 11 = .ok (.ifCond .eq 16, 3) := by decide +kernel
theorem dX10_skipWord_14 : decode cX10_skipWord 14 = .ok (.aload_n 0, 1) := by decide +kernel
theorem dX10_skipWord_15 : decode cX10_skipWord 15 = .ok (.dup, 1) := by decide +kernel
theorem dX10_skipWord_16 : decode cX10_skipWord 16 = .ok (.getfield 101, 3) := by decide +kernel
theorem dX10_skipWord_19 : decode cX10_skipWord 19 = .ok (.iconst 1, 1) := by decide +kernel
theorem dX10_skipWord_20 : decode cX10_skipWord 20 = .ok (.iadd, 1) := by decide +kernel
theorem dX10_skipWord_21 : decode cX10_skipWord 21 = .ok (.putfield 101, 3) := by decide +kernel
theorem dX10_skipWord_24 : decode cX10_skipWord 24 = .ok (.goto (-24), 3) := by decide +kernel
theorem dX10_skipWord_27 : decode cX10_skipWord 27 = .ok (.return_, 1) := by decide +kernel
theorem dX10_takes_0 : decode cX10_takes 0 = .ok (.aload_n 0, 1) := by decide +kernel
theorem dX10_takes_1 : decode cX10_takes 1 = .ok (.iload_n 1, 1) := by decide +kernel
theorem dX10_takes_2 : decode cX10_takes 2 = .ok (.iload_n 2, 1) := by decide +kernel
theorem dX10_takes_3 : decode cX10_takes 3 = .ok (.iload_n 3, 1) := by decide +kernel
theorem dX10_takes_4 : decode cX10_takes 4 = .ok (.iload 4, 2) := by decide +kernel
theorem dX10_takes_6 : decode cX10_takes 6 = .ok (.iload 5, 2) := by decide +kernel
theorem dX10_takes_8 : decode cX10_takes 8 = .ok (.iload 6, 2) := by decide +kernel
theorem dX10_takes_10 : decode cX10_takes 10 = .ok (.invokevirtual 141, 3) := by decide +kernel
theorem dX10_takes_13 : decode cX10_takes 13 = .ok (.istore 7, 2) := by decide +kernel
theorem dX10_takes_15 : decode cX10_takes 15 = .ok (.iload 7, 2) := by decide +kernel
theorem dX10_takes_17 : decode cX10_takes 17 = .ok (.ifCond .eq 7, 3) := by decide +kernel
theorem dX10_takes_20 : decode cX10_takes 20 = .ok (.aload_n 0, 1) := by decide +kernel
theorem dX10_takes_21 : decode cX10_takes 21 = .ok (.invokevirtual 145, 3) := by decide +kernel
theorem dX10_takes_24 : decode cX10_takes 24 = .ok (.iload 7, 2) := by decide +kernel
theorem dX10_takes_26 : decode cX10_takes 26 = .ok (.ireturn, 1) := by decide +kernel
theorem dX10_sign_0 : decode cX10_sign 0 = .ok (.aload_n 0, 1) := by decide +kernel
theorem dX10_sign_1 : decode cX10_sign 1 = .ok (.getfield 108, 3) := by decide +kernel
theorem dX10_sign_4 : decode cX10_sign 4 = .ok (.ifCond .eq 4, 3) := by decide +kernel
theorem dX10_sign_7 : decode cX10_sign 7 = .ok (.return_, 1) := by decide +kernel
theorem dX10_sign_8 : decode cX10_sign 8 = .ok (.aload_n 0, 1) := by decide +kernel
theorem dX10_sign_9 : decode cX10_sign 9 = .ok (.invokevirtual 114, 3) := by decide +kernel
theorem dX10_sign_12 : decode cX10_sign 12 = .ok (.aload_n 0, 1) := by decide +kernel
theorem dX10_sign_13 : decode cX10_sign 13 = .ok (.aload_n 0, 1) := by decide +kernel
theorem dX10_sign_14 : decode cX10_sign 14 = .ok (.getfield 101, 3) := by decide +kernel
theorem dX10_sign_17 : decode cX10_sign 17 = .ok (.invokevirtual 104, 3) := by decide +kernel
theorem dX10_sign_20 : decode cX10_sign 20 = .ok (.iload_n 1, 1) := by decide +kernel
theorem dX10_sign_21 : decode cX10_sign 21 = .ok (.if_icmp .ne 16, 3) := by decide +kernel
theorem dX10_sign_24 : decode cX10_sign 24 = .ok (.aload_n 0, 1) := by decide +kernel
theorem dX10_sign_25 : decode cX10_sign 25 = .ok (.dup, 1) := by decide +kernel
theorem dX10_sign_26 : decode cX10_sign 26 = .ok (.getfield 101, 3) := by decide +kernel
theorem dX10_sign_29 : decode cX10_sign 29 = .ok (.iconst 1, 1) := by decide +kernel
theorem dX10_sign_30 : decode cX10_sign 30 = .ok (.iadd, 1) := by decide +kernel
theorem dX10_sign_31 : decode cX10_sign 31 = .ok (.putfield 101, 3) := by decide +kernel
theorem dX10_sign_34 : decode cX10_sign 34 = .ok (.goto 12, 3) := by decide +kernel
theorem dX10_sign_37 : decode cX10_sign 37 = .ok (.aload_n 0, 1) := by decide +kernel
theorem dX10_sign_38 : decode cX10_sign 38 = .ok (.iconst 1, 1) := by decide +kernel
theorem dX10_sign_39 : decode cX10_sign 39 = .ok (.aload_n 0, 1) := by decide +kernel
theorem dX10_sign_40 : decode cX10_sign 40 = .ok (.getfield 101, 3) := by decide +kernel
theorem dX10_sign_43 : decode cX10_sign 43 = .ok (.invokevirtual 121, 3) := by decide +kernel
theorem dX10_sign_46 : decode cX10_sign 46 = .ok (.return_, 1) := by decide +kernel
theorem dX10_takesSign_0 : decode cX10_takesSign 0 = .ok (.aload_n 0, 1) := by decide +kernel
theorem dX10_takesSign_1 : decode cX10_takesSign 1 = .ok (.getfield 108, 3) := by decide +kernel
theorem dX10_takesSign_4 : decode cX10_takesSign 4 = .ok (.ifCond .eq 5, 3) := by decide +kernel
theorem dX10_takesSign_7 : decode cX10_takesSign 7 = .ok (.iconst 0, 1) := by decide +kernel
theorem dX10_takesSign_8 : decode cX10_takesSign 8 = .ok (.ireturn, 1) := by decide +kernel
theorem dX10_takesSign_9 : decode cX10_takesSign 9 = .ok (.aload_n 0, 1) := by decide +kernel
theorem dX10_takesSign_10 : decode cX10_takesSign 10 = .ok (.invokevirtual 114, 3) := by decide +kernel
theorem dX10_takesSign_13 : decode cX10_takesSign 13 = .ok (.aload_n 0, 1) := by decide +kernel
theorem dX10_takesSign_14 : decode cX10_takesSign 14 = .ok (.aload_n 0, 1) := by decide +kernel
theorem dX10_takesSign_15 : decode cX10_takesSign 15 = .ok (.getfield 101, 3) := by decide +kernel
theorem dX10_takesSign_18 : decode cX10_takesSign 18 = .ok (.invokevirtual 104, 3) := by decide +kernel
theorem dX10_takesSign_21 : decode cX10_takesSign 21 = .ok (.iload_n 1, 1) := by decide +kernel
theorem dX10_takesSign_22 : decode cX10_takesSign 22 = .ok (.if_icmp .ne 7, 3) := by decide +kernel
theorem dX10_takesSign_25 : decode cX10_takesSign 25 = .ok (.iconst 1, 1) := by decide +kernel
theorem dX10_takesSign_26 : decode cX10_takesSign 26 = .ok (.goto 4, 3) := by decide +kernel
theorem dX10_takesSign_29 : decode cX10_takesSign 29 = .ok (.iconst 0, 1) := by decide +kernel
theorem dX10_takesSign_30 : decode cX10_takesSign 30 = .ok (.istore_n 2, 1) := by decide +kernel
theorem dX10_takesSign_31 : decode cX10_takesSign 31 = .ok (.iload_n 2, 1) := by decide +kernel
theorem dX10_takesSign_32 : decode cX10_takesSign 32 = .ok (.ifCond .eq 13, 3) := by decide +kernel
theorem dX10_takesSign_35 : decode cX10_takesSign 35 = .ok (.aload_n 0, 1) := by decide +kernel
theorem dX10_takesSign_36 : decode cX10_takesSign 36 = .ok (.dup, 1) := by decide +kernel
theorem dX10_takesSign_37 : decode cX10_takesSign 37 = .ok (.getfield 101, 3) := by decide +kernel
theorem dX10_takesSign_40 : decode cX10_takesSign 40 = .ok (.iconst 1, 1) := by decide +kernel
theorem dX10_takesSign_41 : decode cX10_takesSign 41 = .ok (.iadd, 1) := by decide +kernel
theorem dX10_takesSign_42 : decode cX10_takesSign 42 = .ok (.putfield 101, 3) := by decide +kernel
theorem dX10_takesSign_45 : decode cX10_takesSign 45 = .ok (.iload_n 2, 1) := by decide +kernel
theorem dX10_takesSign_46 : decode cX10_takesSign 46 = .ok (.ireturn, 1) := by decide +kernel
theorem dX10_starts_0 : decode cX10_starts 0 = .ok (.aload_n 0, 1) := by decide +kernel
theorem dX10_starts_1 : decode cX10_starts 1 = .ok (.iconst 0, 1) := by decide +kernel
theorem dX10_starts_2 : decode cX10_starts 2 = .ok (.putfield 95, 3) := by decide +kernel
theorem dX10_starts_5 : decode cX10_starts 5 = .ok (.aload_n 0, 1) := by decide +kernel
theorem dX10_starts_6 : decode cX10_starts 6 = .ok (.iload_n 1, 1) := by decide +kernel
theorem dX10_starts_7 : decode cX10_starts 7 = .ok (.putfield 98, 3) := by decide +kernel
theorem dX10_starts_10 : decode cX10_starts 10 = .ok (.aload_n 0, 1) := by decide +kernel
theorem dX10_starts_11 : decode cX10_starts 11 = .ok (.iconst 0, 1) := by decide +kernel
theorem dX10_starts_12 : decode cX10_starts 12 = .ok (.putfield 101, 3) := by decide +kernel
theorem dX10_starts_15 : decode cX10_starts 15 = .ok (.aload_n 0, 1) := by decide +kernel
theorem dX10_starts_16 : decode cX10_starts 16 = .ok (.iconst 0, 1) := by decide +kernel
theorem dX10_starts_17 : decode cX10_starts 17 = .ok (.putfield 108, 3) := by decide +kernel
theorem dX10_starts_20 : decode cX10_starts 20 = .ok (.aload_n 0, 1) := by decide +kernel
theorem dX10_starts_21 : decode cX10_starts 21 = .ok (.iconst (-1), 1) := by decide +kernel
theorem dX10_starts_22 : decode cX10_starts 22 = .ok (.putfield 111, 3) := by decide +kernel
theorem dX10_starts_25 : decode cX10_starts 25 = .ok (.aload_n 0, 1) := by decide +kernel
theorem dX10_starts_26 : decode cX10_starts 26 = .ok (.iconst 0, 1) := by decide +kernel
theorem dX10_starts_27 : decode cX10_starts 27 = .ok (.putfield 148, 3) := by decide +kernel
theorem dX10_starts_30 : decode cX10_starts 30 = .ok (.aload_n 0, 1) := by decide +kernel
theorem dX10_starts_31 : decode cX10_starts 31 = .ok (.iconst 0, 1) := by decide +kernel
theorem dX10_starts_32 : decode cX10_starts 32 = .ok (.putfield 151, 3) := by decide +kernel
theorem dX10_starts_35 : decode cX10_starts 35 = .ok (.aload_n 0, 1) := by decide +kernel
theorem dX10_starts_36 : decode cX10_starts 36 = .ok (.invokevirtual 114, 3) := by decide +kernel
theorem dX10_starts_39 : decode cX10_starts 39 = .ok (.return_, 1) := by decide +kernel
theorem dX10_ends_0 : decode cX10_ends 0 = .ok (.aload_n 0, 1) := by decide +kernel
theorem dX10_ends_1 : decode cX10_ends 1 = .ok (.aload_n 0, 1) := by decide +kernel
theorem dX10_ends_2 : decode cX10_ends 2 = .ok (.getfield 111, 3) := by decide +kernel
theorem dX10_ends_5 : decode cX10_ends 5 = .ok (.putfield 9, 3) := by decide +kernel
theorem dX10_ends_8 : decode cX10_ends 8 = .ok (.aload_n 0, 1) := by decide +kernel
theorem dX10_ends_9 : decode cX10_ends 9 = .ok (.getfield 108, 3) := by decide +kernel
theorem dX10_ends_12 : decode cX10_ends 12 = .ok (.bipush 10, 2) := by decide +kernel
theorem dX10_ends_14 : decode cX10_ends 14 = .ok (.isub, 1) := by decide +kernel
theorem dX10_ends_15 : decode cX10_ends 15 = .ok (.ireturn, 1) := by decide +kernel
theorem dX10_isSeven_0 : decode cX10_isSeven 0 = .ok (.aload_n 0, 1) := by decide +kernel
theorem dX10_isSeven_1 : decode cX10_isSeven 1 = .ok (.getfield 108, 3) := by decide +kernel
theorem dX10_isSeven_4 : decode cX10_isSeven 4 = .ok (.ifCond .eq 5, 3) := by decide +kernel
theorem dX10_isSeven_7 : decode cX10_isSeven 7 = .ok (.iconst 0, 1) := by decide +kernel
theorem dX10_isSeven_8 : decode cX10_isSeven 8 = .ok (.ireturn, 1) := by decide +kernel
theorem dX10_isSeven_9 : decode cX10_isSeven 9 = .ok (.aload_n 0, 1) := by decide +kernel
theorem dX10_isSeven_10 : decode cX10_isSeven 10 = .ok (.invokevirtual 114, 3) := by decide +kernel
theorem dX10_isSeven_13 : decode cX10_isSeven 13 = .ok (.iconst 0, 1) := by decide +kernel
theorem dX10_isSeven_14 : decode cX10_isSeven 14 = .ok (.istore_n 3, 1) := by decide +kernel
theorem dX10_isSeven_15 : decode cX10_isSeven 15 = .ok (.iconst 0, 1) := by decide +kernel
theorem dX10_isSeven_16 : decode cX10_isSeven 16 = .ok (.istore 4, 2) := by decide +kernel
theorem dX10_isSeven_18 : decode cX10_isSeven 18 = .ok (.aload_n 0, 1) := by decide +kernel
theorem dX10_isSeven_19 : decode cX10_isSeven 19 = .ok (.aload_n 0, 1) := by decide +kernel
theorem dX10_isSeven_20 : decode cX10_isSeven 20 = .ok (.getfield 101, 3) := by decide +kernel
theorem dX10_isSeven_23 : decode cX10_isSeven 23 = .ok (.iload 4, 2) := by decide +kernel
theorem dX10_isSeven_25 : decode cX10_isSeven 25 = .ok (.iadd, 1) := by decide +kernel
theorem dX10_isSeven_26 : decode cX10_isSeven 26 = .ok (.invokevirtual 104, 3) := by decide +kernel
theorem dX10_isSeven_29 : decode cX10_isSeven 29 = .ok (.invokestatic 130, 3) := by decide +kernel
theorem dX10_isSeven_32 : decode cX10_isSeven 32 = .ok (.ifCond .eq 42, 3) := by decide +kernel
theorem dX10_isSeven_35 : decode cX10_isSeven 35 = .ok (.iload 4, 2) := by decide +kernel
theorem dX10_isSeven_37 : decode cX10_isSeven 37 = .ok (.bipush 6, 2) := by decide +kernel
theorem dX10_isSeven_39 : decode cX10_isSeven 39 = .ok (.if_icmp .ge 27, 3) := by decide +kernel
theorem dX10_isSeven_42 : decode cX10_isSeven 42 = .ok (.bipush 27, 2) := by decide +kernel
theorem dX10_isSeven_44 : decode cX10_isSeven 44 = .ok (.iload_n 3, 1) := by decide +kernel
theorem dX10_isSeven_45 : decode cX10_isSeven 45 = .ok (.imul, 1) := by decide +kernel
theorem dX10_isSeven_46 : decode cX10_isSeven 46 = .ok (.aload_n 0, 1) := by decide +kernel
theorem dX10_isSeven_47 : decode cX10_isSeven 47 = .ok (.aload_n 0, 1) := by decide +kernel
theorem dX10_isSeven_48 : decode cX10_isSeven 48 = .ok (.getfield 101, 3) := by decide +kernel
theorem dX10_isSeven_51 : decode cX10_isSeven 51 = .ok (.iload 4, 2) := by decide +kernel
theorem dX10_isSeven_53 : decode cX10_isSeven 53 = .ok (.iadd, 1) := by decide +kernel
theorem dX10_isSeven_54 : decode cX10_isSeven 54 = .ok (.invokevirtual 104, 3) := by decide +kernel
theorem dX10_isSeven_57 : decode cX10_isSeven 57 = .ok (.iadd, 1) := by decide +kernel
theorem dX10_isSeven_58 : decode cX10_isSeven 58 = .ok (.bipush 97, 2) := by decide +kernel
theorem dX10_isSeven_60 : decode cX10_isSeven 60 = .ok (.isub, 1) := by decide +kernel
theorem dX10_isSeven_61 : decode cX10_isSeven 61 = .ok (.iconst 1, 1) := by decide +kernel
theorem dX10_isSeven_62 : decode cX10_isSeven 62 = .ok (.iadd, 1) := by decide +kernel
theorem dX10_isSeven_63 : decode cX10_isSeven 63 = .ok (.goto 4, 3) := by decide +kernel
theorem dX10_isSeven_66 : decode cX10_isSeven 66 = .ok (.iload_n 3, 1) := by decide +kernel
theorem dX10_isSeven_67 : decode cX10_isSeven 67 = .ok (.istore_n 3, 1) := by decide +kernel
theorem dX10_isSeven_68 : decode cX10_isSeven 68 = .ok (.iinc 4 1, 3) := by decide +kernel
theorem dX10_isSeven_71 : decode cX10_isSeven 71 = .ok (.goto (-53), 3) := by decide +kernel
theorem dX10_isSeven_74 : decode cX10_isSeven 74 = .ok (.iload 4, 2) := by decide +kernel
theorem dX10_isSeven_76 : decode cX10_isSeven 76 = .ok (.bipush 7, 2) := by decide +kernel
theorem dX10_isSeven_78 : decode cX10_isSeven 78 = .ok (.if_icmp .ne 27, 3) := by decide +kernel
theorem dX10_isSeven_81 : decode cX10_isSeven 81 = .ok (.iload_n 3, 1) := by decide +kernel
theorem dX10_isSeven_82 : decode cX10_isSeven 82 = .ok (.iload_n 1, 1) := by decide +kernel
theorem dX10_isSeven_83 : decode cX10_isSeven 83 = .ok (.if_icmp .ne 22, 3) := by decide +kernel
theorem dX10_isSeven_86 : decode cX10_isSeven 86 = .ok (.aload_n 0, 1) := by decide +kernel
theorem dX10_isSeven_87 : decode cX10_isSeven 87 = .ok (.aload_n 0, 1) := by decide +kernel
theorem dX10_isSeven_88 : decode cX10_isSeven 88 = .ok (.getfield 101, 3) := by decide +kernel
theorem dX10_isSeven_91 : decode cX10_isSeven 91 = .ok (.bipush 6, 2) := by decide +kernel
theorem dX10_isSeven_93 : decode cX10_isSeven 93 = .ok (.iadd, 1) := by decide +kernel
theorem dX10_isSeven_94 : decode cX10_isSeven 94 = .ok (.invokevirtual 104, 3) := by decide +kernel
theorem dX10_isSeven_97 : decode cX10_isSeven 97 = .ok (.iload_n 2, 1) := by decide +kernel
theorem dX10_isSeven_98 : decode cX10_isSeven 98 = .ok (.if_icmp .ne 7, 3) := by decide +kernel
theorem dX10_isSeven_101 : decode cX10_isSeven 101 = .ok (.iconst 1, 1) := by decide +kernel
theorem dX10_isSeven_102 : decode cX10_isSeven 102 = .ok (.goto 4, 3) := by decide +kernel
theorem dX10_isSeven_105 : decode cX10_isSeven 105 = .ok (.iconst 0, 1) := by decide +kernel
theorem dX10_isSeven_106 : decode cX10_isSeven 106 = .ok (.istore 5, 2) := by decide +kernel
theorem dX10_isSeven_108 : decode cX10_isSeven 108 = .ok (.iload 5, 2) := by decide +kernel
theorem dX10_isSeven_110 : decode cX10_isSeven 110 = .ok (.ifCond .eq 7, 3) := by decide +kernel
theorem dX10_isSeven_113 : decode cX10_isSeven 113 = .ok (.aload_n 0, 1) := by decide +kernel
theorem dX10_isSeven_114 : decode cX10_isSeven 114 = .ok (.invokevirtual 145, 3) := by decide +kernel
theorem dX10_isSeven_117 : decode cX10_isSeven 117 = .ok (.iload 5, 2) := by decide +kernel
theorem dX10_isSeven_119 : decode cX10_isSeven 119 = .ok (.ireturn, 1) := by decide +kernel
theorem dX10_kindHere_0 : decode cX10_kindHere 0 = .ok (.aload_n 0, 1) := by decide +kernel
theorem dX10_kindHere_1 : decode cX10_kindHere 1 = .ok (.bipush 20, 2) := by decide +kernel
theorem dX10_kindHere_3 : decode cX10_kindHere 3 = .ok (.bipush 8, 2) := by decide +kernel
theorem dX10_kindHere_5 : decode cX10_kindHere 5 = .ok (.bipush 9, 2) := by decide +kernel
theorem dX10_kindHere_7 : decode cX10_kindHere 7 = .ok (.bipush 14, 2) := by decide +kernel
theorem dX10_kindHere_9 : decode cX10_kindHere 9 = .ok (.bipush 7, 2) := by decide +kernel
theorem dX10_kindHere_11 : decode cX10_kindHere 11 = .ok (.iconst 0, 1) := by decide +kernel
theorem dX10_kindHere_12 : decode cX10_kindHere 12 = .ok (.invokevirtual 141, 3) := by decide +kernel
theorem dX10_kindHere_15 : decode cX10_kindHere 15 = .ok (.ifCond .eq 5, 3) := by decide +kernel
theorem dX10_kindHere_18 : decode cX10_kindHere 18 = .ok (.iconst 0, 1) := by decide +kernel
theorem dX10_kindHere_19 : decode cX10_kindHere 19 = .ok (.ireturn, 1) := by decide +kernel
theorem dX10_kindHere_20 : decode cX10_kindHere 20 = .ok (.aload_n 0, 1) := by decide +kernel
theorem dX10_kindHere_21 : decode cX10_kindHere 21 = .ok (.iconst 3, 1) := by decide +kernel
theorem dX10_kindHere_22 : decode cX10_kindHere 22 = .ok (.bipush 18, 2) := by decide +kernel
theorem dX10_kindHere_24 : decode cX10_kindHere 24 = .ok (.bipush 25, 2) := by decide +kernel
theorem dX10_kindHere_26 : decode cX10_kindHere 26 = .ok (.iconst 0, 1) := by decide +kernel
theorem dX10_kindHere_27 : decode cX10_kindHere 27 = .ok (.iconst 0, 1) := by decide +kernel
theorem dX10_kindHere_28 : decode cX10_kindHere 28 = .ok (.iconst 0, 1) := by decide +kernel
theorem dX10_kindHere_29 : decode cX10_kindHere 29 = .ok (.invokevirtual 141, 3) := by decide +kernel
theorem dX10_kindHere_32 : decode cX10_kindHere 32 = .ok (.ifCond .eq 5, 3) := by decide +kernel
theorem dX10_kindHere_35 : decode cX10_kindHere 35 = .ok (.iconst 1, 1) := by decide +kernel
theorem dX10_kindHere_36 : decode cX10_kindHere 36 = .ok (.ireturn, 1) := by decide +kernel
theorem dX10_kindHere_37 : decode cX10_kindHere 37 = .ok (.aload_n 0, 1) := by decide +kernel
theorem dX10_kindHere_38 : decode cX10_kindHere 38 = .ok (.iconst 2, 1) := by decide +kernel
theorem dX10_kindHere_39 : decode cX10_kindHere 39 = .ok (.iconst 5, 1) := by decide +kernel
theorem dX10_kindHere_40 : decode cX10_kindHere 40 = .ok (.iconst 1, 1) := by decide +kernel
theorem dX10_kindHere_41 : decode cX10_kindHere 41 = .ok (.bipush 13, 2) := by decide +kernel
theorem dX10_kindHere_43 : decode cX10_kindHere 43 = .ok (.iconst 0, 1) := by decide +kernel
theorem dX10_kindHere_44 : decode cX10_kindHere 44 = .ok (.iconst 0, 1) := by decide +kernel
theorem dX10_kindHere_45 : decode cX10_kindHere 45 = .ok (.invokevirtual 141, 3) := by decide +kernel
theorem dX10_kindHere_48 : decode cX10_kindHere 48 = .ok (.ifCond .eq 7, 3) := by decide +kernel
theorem dX10_kindHere_51 : decode cX10_kindHere 51 = .ok (.iconst 2, 1) := by decide +kernel
theorem dX10_kindHere_52 : decode cX10_kindHere 52 = .ok (.goto 4, 3) := by decide +kernel
theorem dX10_kindHere_55 : decode cX10_kindHere 55 = .ok (.iconst (-1), 1) := by decide +kernel
theorem dX10_kindHere_56 : decode cX10_kindHere 56 = .ok (.ireturn, 1) := by decide +kernel
theorem dX10_mostOf_0 : decode cX10_mostOf 0 = .ok (.iload_n 0, 1) := by decide +kernel
theorem dX10_mostOf_1 : decode cX10_mostOf 1 = .ok (.ifCond .ne 8, 3) := by decide +kernel
theorem dX10_mostOf_4 : decode cX10_mostOf 4 = .ok (.bipush 8, 2) := by decide +kernel
theorem dX10_mostOf_6 : decode cX10_mostOf 6 = .ok (.goto 5, 3) := by decide +kernel
theorem dX10_mostOf_9 : decode cX10_mostOf 9 = .ok (.bipush 10, 2) := by decide +kernel
theorem dX10_mostOf_11 : decode cX10_mostOf 11 = .ok (.ireturn, 1) := by decide +kernel
theorem dX10_otherThing_0 : decode cX10_otherThing 0 = .ok (.aload_n 0, 1) := by decide +kernel
theorem dX10_otherThing_1 : decode cX10_otherThing 1 = .ok (.invokevirtual 114, 3) := by decide +kernel
theorem dX10_otherThing_4 : decode cX10_otherThing 4 = .ok (.aload_n 0, 1) := by decide +kernel
theorem dX10_otherThing_5 : decode cX10_otherThing 5 = .ok (.getfield 101, 3) := by decide +kernel
theorem dX10_otherThing_8 : decode cX10_otherThing 8 = .ok (.istore_n 3, 1) := by decide +kernel
theorem dX10_otherThing_9 : decode cX10_otherThing 9 = .ok (.aload_n 0, 1) := by decide +kernel
theorem dX10_otherThing_10 : decode cX10_otherThing 10 = .ok (.iconst 0, 1) := by decide +kernel
theorem dX10_otherThing_11 : decode cX10_otherThing 11 = .ok (.iload_n 2, 1) := by decide +kernel
theorem dX10_otherThing_12 : decode cX10_otherThing 12 = .ok (.iconst 1, 1) := by decide +kernel
theorem dX10_otherThing_13 : decode cX10_otherThing 13 = .ok (.isub, 1) := by decide +kernel
theorem dX10_otherThing_14 : decode cX10_otherThing 14 = .ok (.invokevirtual 154, 3) := by decide +kernel
theorem dX10_otherThing_17 : decode cX10_otherThing 17 = .ok (.istore 4, 2) := by decide +kernel
theorem dX10_otherThing_19 : decode cX10_otherThing 19 = .ok (.aload_n 0, 1) := by decide +kernel
theorem dX10_otherThing_20 : decode cX10_otherThing 20 = .ok (.getfield 108, 3) := by decide +kernel
theorem dX10_otherThing_23 : decode cX10_otherThing 23 = .ok (.ifCond .ne 15, 3) := by decide +kernel
theorem dX10_otherThing_26 : decode cX10_otherThing 26 = .ok (.iload_n 1, 1) := by decide +kernel
theorem dX10_otherThing_27 : decode cX10_otherThing 27 = .ok (.iload 4, 2) := by decide +kernel
theorem dX10_otherThing_29 : decode cX10_otherThing 29 = .ok (.if_icmp .ne 9, 3) := by decide +kernel
theorem dX10_otherThing_32 : decode cX10_otherThing 32 = .ok (.aload_n 0, 1) := by decide +kernel
theorem dX10_otherThing_33 : decode cX10_otherThing 33 = .ok (.iconst 2, 1) := by decide +kernel
theorem dX10_otherThing_34 : decode cX10_otherThing 34 = .ok (.iload_n 3, 1) := by decide +kernel
theorem dX10_otherThing_35 : decode cX10_otherThing 35 = .ok (.invokevirtual 121, 3) := by decide +kernel
theorem dX10_otherThing_38 : decode cX10_otherThing 38 = .ok (.iload 4, 2) := by decide +kernel
theorem dX10_otherThing_40 : decode cX10_otherThing 40 = .ok (.ireturn, 1) := by decide +kernel
theorem dX10_clause_0 : decode cX10_clause 0 = .ok (.aload_n 0, 1) := by decide +kernel
theorem dX10_clause_1 : decode cX10_clause 1 = .ok (.invokevirtual 158, 3) := by decide +kernel
theorem dX10_clause_4 : decode cX10_clause 4 = .ok (.istore_n 1, 1) := by decide +kernel
theorem dX10_clause_5 : decode cX10_clause 5 = .ok (.iload_n 1, 1) := by decide +kernel
theorem dX10_clause_6 : decode cX10_clause 6 = .ok (.iconst (-1), 1) := by decide +kernel
theorem dX10_clause_7 : decode cX10_clause 7 = .ok (.if_icmp .ne 15, 3) := by decide +kernel
theorem dX10_clause_10 : decode cX10_clause 10 = .ok (.aload_n 0, 1) := by decide +kernel
theorem dX10_clause_11 : decode cX10_clause 11 = .ok (.iconst 1, 1) := by decide +kernel
theorem dX10_clause_12 : decode cX10_clause 12 = .ok (.aload_n 0, 1) := by decide +kernel
theorem dX10_clause_13 : decode cX10_clause 13 = .ok (.getfield 101, 3) := by decide +kernel
theorem dX10_clause_16 : decode cX10_clause 16 = .ok (.invokevirtual 121, 3) := by decide +kernel
theorem dX10_clause_19 : decode cX10_clause 19 = .ok (.goto 39, 3) := by decide +kernel
theorem dX10_clause_22 : decode cX10_clause 22 = .ok (.aload_n 0, 1) := by decide +kernel
theorem dX10_clause_23 : decode cX10_clause 23 = .ok (.getfield 148, 3) := by decide +kernel
theorem dX10_clause_26 : decode cX10_clause 26 = .ok (.bipush 60, 2) := by decide +kernel
theorem dX10_clause_28 : decode cX10_clause 28 = .ok (.if_icmp .eq 21, 3) := by decide +kernel
theorem dX10_clause_31 : decode cX10_clause 31 = .ok (.iload_n 1, 1) := by decide +kernel
theorem dX10_clause_32 : decode cX10_clause 32 = .ok (.iconst 2, 1) := by decide +kernel
theorem dX10_clause_33 : decode cX10_clause 33 = .ok (.if_icmp .ge 25, 3) := by decide +kernel
theorem dX10_clause_36 : decode cX10_clause 36 = .ok (.aload_n 0, 1) := by decide +kernel
theorem dX10_clause_37 : decode cX10_clause 37 = .ok (.getfield 20, 3) := by decide +kernel
theorem dX10_clause_40 : decode cX10_clause 40 = .ok (.iload_n 1, 1) := by decide +kernel
theorem dX10_clause_41 : decode cX10_clause 41 = .ok (.iaload, 1) := by decide +kernel
theorem dX10_clause_42 : decode cX10_clause 42 = .ok (.iload_n 1, 1) := by decide +kernel
theorem dX10_clause_43 : decode cX10_clause 43 = .ok (.invokestatic 161, 3) := by decide +kernel
theorem dX10_clause_46 : decode cX10_clause 46 = .ok (.if_icmp .ne 12, 3) := by decide +kernel
theorem dX10_clause_49 : decode cX10_clause 49 = .ok (.aload_n 0, 1) := by decide +kernel
theorem dX10_clause_50 : decode cX10_clause 50 = .ok (.iconst 3, 1) := by decide +kernel
theorem dX10_clause_51 : decode cX10_clause 51 = .ok (.aload_n 0, 1) := by decide +kernel
theorem dX10_clause_52 : decode cX10_clause 52 = .ok (.getfield 101, 3) := by decide +kernel
theorem dX10_clause_55 : decode cX10_clause 55 = .ok (.invokevirtual 121, 3) := by decide +kernel
theorem dX10_clause_58 : decode cX10_clause 58 = .ok (.aload_n 0, 1) := by decide +kernel
theorem dX10_clause_59 : decode cX10_clause 59 = .ok (.getfield 108, 3) := by decide +kernel
theorem dX10_clause_62 : decode cX10_clause 62 = .ok (.ifCond .eq 4, 3) := by decide +kernel
theorem dX10_clause_65 : decode cX10_clause 65 = .ok (.return_, 1) := by decide +kernel
theorem dX10_clause_66 : decode cX10_clause 66 = .ok (.aload_n 0, 1) := by decide +kernel
theorem dX10_clause_67 : decode cX10_clause 67 = .ok (.invokevirtual 145, 3) := by decide +kernel
theorem dX10_clause_70 : decode cX10_clause 70 = .ok (.aload_n 0, 1) := by decide +kernel
theorem dX10_clause_71 : decode cX10_clause 71 = .ok (.dup, 1) := by decide +kernel
theorem dX10_clause_72 : decode cX10_clause 72 = .ok (.getfield 148, 3) := by decide +kernel
theorem dX10_clause_75 : decode cX10_clause 75 = .ok (.iconst 1, 1) := by decide +kernel
theorem dX10_clause_76 : decode cX10_clause 76 = .ok (.iadd, 1) := by decide +kernel
theorem dX10_clause_77 : decode cX10_clause 77 = .ok (.putfield 148, 3) := by decide +kernel
theorem dX10_clause_80 : decode cX10_clause 80 = .ok (.iload_n 1, 1) := by decide +kernel
theorem dX10_clause_81 : decode cX10_clause 81 = .ok (.iconst 2, 1) := by decide +kernel
theorem dX10_clause_82 : decode cX10_clause 82 = .ok (.if_icmp .ge 12, 3) := by decide +kernel
theorem dX10_clause_85 : decode cX10_clause 85 = .ok (.aload_n 0, 1) := by decide +kernel
theorem dX10_clause_86 : decode cX10_clause 86 = .ok (.getfield 20, 3) := by decide +kernel
theorem dX10_clause_89 : decode cX10_clause 89 = .ok (.iload_n 1, 1) := by decide +kernel
theorem dX10_clause_90 : decode cX10_clause 90 = .ok (.iaload, 1) := by decide +kernel
theorem dX10_clause_91 : decode cX10_clause 91 = .ok (.goto 4, 3) := by decide +kernel
theorem dX10_clause_94 : decode cX10_clause 94 = .ok (.iconst 0, 1) := by decide +kernel
theorem dX10_clause_95 : decode cX10_clause 95 = .ok (.istore_n 2, 1) := by decide +kernel
theorem dX10_clause_96 : decode cX10_clause 96 = .ok (.iload_n 1, 1) := by decide +kernel
theorem dX10_clause_97 : decode cX10_clause 97 = .ok (.lookupswitch 123 #[(0, 27), (1, 43)], 27) := by decide +kernel
theorem dX10_clause_124 : decode cX10_clause 124 = .ok (.aload_n 0, 1) := by decide +kernel
theorem dX10_clause_125 : decode cX10_clause 125 = .ok (.getfield 26, 3) := by decide +kernel
theorem dX10_clause_128 : decode cX10_clause 128 = .ok (.iload_n 2, 1) := by decide +kernel
theorem dX10_clause_129 : decode cX10_clause 129 = .ok (.aload_n 0, 1) := by decide +kernel
theorem dX10_clause_130 : decode cX10_clause 130 = .ok (.iconst 1, 1) := by decide +kernel
theorem dX10_clause_131 : decode cX10_clause 131 = .ok (.bipush 60, 2) := by decide +kernel
theorem dX10_clause_133 : decode cX10_clause 133 = .ok (.invokevirtual 154, 3) := by decide +kernel
theorem dX10_clause_136 : decode cX10_clause 136 = .ok (.iastore, 1) := by decide +kernel
theorem dX10_clause_137 : decode cX10_clause 137 = .ok (.goto 126, 3) := by decide +kernel
theorem dX10_clause_140 : decode cX10_clause 140 = .ok (.aload_n 0, 1) := by decide +kernel
theorem dX10_clause_141 : decode cX10_clause 141 = .ok (.getfield 34, 3) := by decide +kernel
theorem dX10_clause_144 : decode cX10_clause 144 = .ok (.iload_n 2, 1) := by decide +kernel
theorem dX10_clause_145 : decode cX10_clause 145 = .ok (.aaload, 1) := by decide +kernel
theorem dX10_clause_146 : decode cX10_clause 146 = .ok (.iconst 0, 1) := by decide +kernel
theorem dX10_clause_147 : decode cX10_clause 147 = .ok (.aload_n 0, 1) := by decide +kernel
theorem dX10_clause_148 : decode cX10_clause 148 = .ok (.iconst 0, 1) := by decide +kernel
theorem dX10_clause_149 : decode cX10_clause 149 = .ok (.aload_n 0, 1) := by decide +kernel
theorem dX10_clause_150 : decode cX10_clause 150 = .ok (.getfield 20, 3) := by decide +kernel
theorem dX10_clause_153 : decode cX10_clause 153 = .ok (.iconst 0, 1) := by decide +kernel
theorem dX10_clause_154 : decode cX10_clause 154 = .ok (.iaload, 1) := by decide +kernel
theorem dX10_clause_155 : decode cX10_clause 155 = .ok (.iconst 1, 1) := by decide +kernel
theorem dX10_clause_156 : decode cX10_clause 156 = .ok (.isub, 1) := by decide +kernel
theorem dX10_clause_157 : decode cX10_clause 157 = .ok (.invokevirtual 154, 3) := by decide +kernel
theorem dX10_clause_160 : decode cX10_clause 160 = .ok (.iastore, 1) := by decide +kernel
theorem dX10_clause_161 : decode cX10_clause 161 = .ok (.aload_n 0, 1) := by decide +kernel
theorem dX10_clause_162 : decode cX10_clause 162 = .ok (.getfield 34, 3) := by decide +kernel
theorem dX10_clause_165 : decode cX10_clause 165 = .ok (.iload_n 2, 1) := by decide +kernel
theorem dX10_clause_166 : decode cX10_clause 166 = .ok (.aaload, 1) := by decide +kernel
theorem dX10_clause_167 : decode cX10_clause 167 = .ok (.iconst 1, 1) := by decide +kernel
theorem dX10_clause_168 : decode cX10_clause 168 = .ok (.aload_n 0, 1) := by decide +kernel
theorem dX10_clause_169 : decode cX10_clause 169 = .ok (.iconst 1, 1) := by decide +kernel
theorem dX10_clause_170 : decode cX10_clause 170 = .ok (.bipush 9, 2) := by decide +kernel
theorem dX10_clause_172 : decode cX10_clause 172 = .ok (.invokevirtual 154, 3) := by decide +kernel
theorem dX10_clause_175 : decode cX10_clause 175 = .ok (.iastore, 1) := by decide +kernel
theorem dX10_clause_176 : decode cX10_clause 176 = .ok (.aload_n 0, 1) := by decide +kernel
theorem dX10_clause_177 : decode cX10_clause 177 = .ok (.getfield 34, 3) := by decide +kernel
theorem dX10_clause_180 : decode cX10_clause 180 = .ok (.iload_n 2, 1) := by decide +kernel
theorem dX10_clause_181 : decode cX10_clause 181 = .ok (.aaload, 1) := by decide +kernel
theorem dX10_clause_182 : decode cX10_clause 182 = .ok (.iconst 2, 1) := by decide +kernel
theorem dX10_clause_183 : decode cX10_clause 183 = .ok (.aload_n 0, 1) := by decide +kernel
theorem dX10_clause_184 : decode cX10_clause 184 = .ok (.aload_n 0, 1) := by decide +kernel
theorem dX10_clause_185 : decode cX10_clause 185 = .ok (.getfield 34, 3) := by decide +kernel
theorem dX10_clause_188 : decode cX10_clause 188 = .ok (.iload_n 2, 1) := by decide +kernel
theorem dX10_clause_189 : decode cX10_clause 189 = .ok (.aaload, 1) := by decide +kernel
theorem dX10_clause_190 : decode cX10_clause 190 = .ok (.iconst 0, 1) := by decide +kernel
theorem dX10_clause_191 : decode cX10_clause 191 = .ok (.iaload, 1) := by decide +kernel
theorem dX10_clause_192 : decode cX10_clause 192 = .ok (.aload_n 0, 1) := by decide +kernel
theorem dX10_clause_193 : decode cX10_clause 193 = .ok (.getfield 20, 3) := by decide +kernel
theorem dX10_clause_196 : decode cX10_clause 196 = .ok (.iconst 0, 1) := by decide +kernel
theorem dX10_clause_197 : decode cX10_clause 197 = .ok (.iaload, 1) := by decide +kernel
theorem dX10_clause_198 : decode cX10_clause 198 = .ok (.invokevirtual 164, 3) := by decide +kernel
theorem dX10_clause_201 : decode cX10_clause 201 = .ok (.iastore, 1) := by decide +kernel
theorem dX10_clause_202 : decode cX10_clause 202 = .ok (.aload_n 0, 1) := by decide +kernel
theorem dX10_clause_203 : decode cX10_clause 203 = .ok (.getfield 34, 3) := by decide +kernel
theorem dX10_clause_206 : decode cX10_clause 206 = .ok (.iload_n 2, 1) := by decide +kernel
theorem dX10_clause_207 : decode cX10_clause 207 = .ok (.aaload, 1) := by decide +kernel
theorem dX10_clause_208 : decode cX10_clause 208 = .ok (.iconst 3, 1) := by decide +kernel
theorem dX10_clause_209 : decode cX10_clause 209 = .ok (.aload_n 0, 1) := by decide +kernel
theorem dX10_clause_210 : decode cX10_clause 210 = .ok (.iconst 1, 1) := by decide +kernel
theorem dX10_clause_211 : decode cX10_clause 211 = .ok (.bipush 9, 2) := by decide +kernel
theorem dX10_clause_213 : decode cX10_clause 213 = .ok (.invokevirtual 154, 3) := by decide +kernel
theorem dX10_clause_216 : decode cX10_clause 216 = .ok (.iastore, 1) := by decide +kernel
theorem dX10_clause_217 : decode cX10_clause 217 = .ok (.goto 46, 3) := by decide +kernel
theorem dX10_clause_220 : decode cX10_clause 220 = .ok (.aload_n 0, 1) := by decide +kernel
theorem dX10_clause_221 : decode cX10_clause 221 = .ok (.iconst 0, 1) := by decide +kernel
theorem dX10_clause_222 : decode cX10_clause 222 = .ok (.bipush 18, 2) := by decide +kernel
theorem dX10_clause_224 : decode cX10_clause 224 = .ok (.invokevirtual 154, 3) := by decide +kernel
theorem dX10_clause_227 : decode cX10_clause 227 = .ok (.istore_n 3, 1) := by decide +kernel
theorem dX10_clause_228 : decode cX10_clause 228 = .ok (.aload_n 0, 1) := by decide +kernel
theorem dX10_clause_229 : decode cX10_clause 229 = .ok (.iconst 0, 1) := by decide +kernel
theorem dX10_clause_230 : decode cX10_clause 230 = .ok (.bipush 9, 2) := by decide +kernel
theorem dX10_clause_232 : decode cX10_clause 232 = .ok (.invokevirtual 154, 3) := by decide +kernel
theorem dX10_clause_235 : decode cX10_clause 235 = .ok (.istore 4, 2) := by decide +kernel
theorem dX10_clause_237 : decode cX10_clause 237 = .ok (.aload_n 0, 1) := by decide +kernel
theorem dX10_clause_238 : decode cX10_clause 238 = .ok (.getfield 108, 3) := by decide +kernel
theorem dX10_clause_241 : decode cX10_clause 241 = .ok (.ifCond .eq 4, 3) := by decide +kernel
theorem dX10_clause_244 : decode cX10_clause 244 = .ok (.return_, 1) := by decide +kernel
theorem dX10_clause_245 : decode cX10_clause 245 = .ok (.aload_n 0, 1) := by decide +kernel
theorem dX10_clause_246 : decode cX10_clause 246 = .ok (.getfield 20, 3) := by decide +kernel
theorem dX10_clause_249 : decode cX10_clause 249 = .ok (.iconst 2, 1) := by decide +kernel
theorem dX10_clause_250 : decode cX10_clause 250 = .ok (.iload_n 3, 1) := by decide +kernel
theorem dX10_clause_251 : decode cX10_clause 251 = .ok (.iastore, 1) := by decide +kernel
theorem dX10_clause_252 : decode cX10_clause 252 = .ok (.aload_n 0, 1) := by decide +kernel
theorem dX10_clause_253 : decode cX10_clause 253 = .ok (.getfield 20, 3) := by decide +kernel
theorem dX10_clause_256 : decode cX10_clause 256 = .ok (.iconst 3, 1) := by decide +kernel
theorem dX10_clause_257 : decode cX10_clause 257 = .ok (.iload 4, 2) := by decide +kernel
theorem dX10_clause_259 : decode cX10_clause 259 = .ok (.iastore, 1) := by decide +kernel
theorem dX10_clause_260 : decode cX10_clause 260 = .ok (.goto 3, 3) := by decide +kernel
theorem dX10_clause_263 : decode cX10_clause 263 = .ok (.aload_n 0, 1) := by decide +kernel
theorem dX10_clause_264 : decode cX10_clause 264 = .ok (.bipush 59, 2) := by decide +kernel
theorem dX10_clause_266 : decode cX10_clause 266 = .ok (.invokevirtual 167, 3) := by decide +kernel
theorem dX10_clause_269 : decode cX10_clause 269 = .ok (.iload_n 1, 1) := by decide +kernel
theorem dX10_clause_270 : decode cX10_clause 270 = .ok (.iconst 2, 1) := by decide +kernel
theorem dX10_clause_271 : decode cX10_clause 271 = .ok (.if_icmp .ge 24, 3) := by decide +kernel
theorem dX10_clause_274 : decode cX10_clause 274 = .ok (.aload_n 0, 1) := by decide +kernel
theorem dX10_clause_275 : decode cX10_clause 275 = .ok (.getfield 20, 3) := by decide +kernel
theorem dX10_clause_278 : decode cX10_clause 278 = .ok (.iload_n 1, 1) := by decide +kernel
theorem dX10_clause_279 : decode cX10_clause 279 = .ok (.dup2, 1) := by decide +kernel
theorem dX10_clause_280 : decode cX10_clause 280 = .ok (.iaload, 1) := by decide +kernel
theorem dX10_clause_281 : decode cX10_clause 281 = .ok (.aload_n 0, 1) := by decide +kernel
theorem dX10_clause_282 : decode cX10_clause 282 = .ok (.getfield 108, 3) := by decide +kernel
theorem dX10_clause_285 : decode cX10_clause 285 = .ok (.ifCond .ne 7, 3) := by decide +kernel
theorem dX10_clause_288 : decode cX10_clause 288 = .ok (.iconst 1, 1) := by decide +kernel
theorem dX10_clause_289 : decode cX10_clause 289 = .ok (.goto 4, 3) := by decide +kernel
theorem dX10_clause_292 : decode cX10_clause 292 = .ok (.iconst 0, 1) := by decide +kernel
theorem dX10_clause_293 : decode cX10_clause 293 = .ok (.iadd, 1) := by decide +kernel
theorem dX10_clause_294 : decode cX10_clause 294 = .ok (.iastore, 1) := by decide +kernel
theorem dX10_clause_295 : decode cX10_clause 295 = .ok (.return_, 1) := by decide +kernel
theorem dX10_market_0 : decode cX10_market 0 = .ok (.aload_n 0, 1) := by decide +kernel
theorem dX10_market_1 : decode cX10_market 1 = .ok (.iconst 0, 1) := by decide +kernel
theorem dX10_market_2 : decode cX10_market 2 = .ok (.putfield 92, 3) := by decide +kernel
theorem dX10_market_5 : decode cX10_market 5 = .ok (.aload_n 0, 1) := by decide +kernel
theorem dX10_market_6 : decode cX10_market 6 = .ok (.iload_n 1, 1) := by decide +kernel
theorem dX10_market_7 : decode cX10_market 7 = .ok (.iconst 0, 1) := by decide +kernel
theorem dX10_market_8 : decode cX10_market 8 = .ok (.aload_n 0, 1) := by decide +kernel
theorem dX10_market_9 : decode cX10_market 9 = .ok (.getfield 95, 3) := by decide +kernel
theorem dX10_market_12 : decode cX10_market 12 = .ok (.invokestatic 126, 3) := by decide +kernel
theorem dX10_market_15 : decode cX10_market 15 = .ok (.ifCond .ne 7, 3) := by decide +kernel
theorem dX10_market_18 : decode cX10_market 18 = .ok (.iconst 1, 1) := by decide +kernel
theorem dX10_market_19 : decode cX10_market 19 = .ok (.goto 4, 3) := by decide +kernel
theorem dX10_market_22 : decode cX10_market 22 = .ok (.iconst 0, 1) := by decide +kernel
theorem dX10_market_23 : decode cX10_market 23 = .ok (.iconst 1, 1) := by decide +kernel
theorem dX10_market_24 : decode cX10_market 24 = .ok (.iconst 1, 1) := by decide +kernel
theorem dX10_market_25 : decode cX10_market 25 = .ok (.invokevirtual 171, 3) := by decide +kernel
theorem dX10_market_28 : decode cX10_market 28 = .ok (.ifCond .eq 5, 3) := by decide +kernel
theorem dX10_market_31 : decode cX10_market 31 = .ok (.iconst 0, 1) := by decide +kernel
theorem dX10_market_32 : decode cX10_market 32 = .ok (.ireturn, 1) := by decide +kernel
theorem dX10_market_33 : decode cX10_market 33 = .ok (.aload_n 0, 1) := by decide +kernel
theorem dX10_market_34 : decode cX10_market 34 = .ok (.iload_n 1, 1) := by decide +kernel
theorem dX10_market_35 : decode cX10_market 35 = .ok (.invokevirtual 175, 3) := by decide +kernel
theorem dX10_market_38 : decode cX10_market 38 = .ok (.aload_n 0, 1) := by decide +kernel
theorem dX10_market_39 : decode cX10_market 39 = .ok (.invokevirtual 86, 3) := by decide +kernel
theorem dX10_market_42 : decode cX10_market 42 = .ok (.aload_n 0, 1) := by decide +kernel
theorem dX10_market_43 : decode cX10_market 43 = .ok (.getfield 108, 3) := by decide +kernel
theorem dX10_market_46 : decode cX10_market 46 = .ok (.ifCond .ne 25, 3) := by decide +kernel
theorem dX10_market_49 : decode cX10_market 49 = .ok (.aload_n 0, 1) := by decide +kernel
theorem dX10_market_50 : decode cX10_market 50 = .ok (.getfield 101, 3) := by decide +kernel
theorem dX10_market_53 : decode cX10_market 53 = .ok (.aload_n 0, 1) := by decide +kernel
theorem dX10_market_54 : decode cX10_market 54 = .ok (.getfield 98, 3) := by decide +kernel
theorem dX10_market_57 : decode cX10_market 57 = .ok (.if_icmp .ge 14, 3) := by decide +kernel
theorem dX10_market_60 : decode cX10_market 60 = .ok (.aload_n 0, 1) := by decide +kernel
theorem dX10_market_61 : decode cX10_market 61 = .ok (.invokevirtual 178, 3) := by decide +kernel
theorem dX10_market_64 : decode cX10_market 64 = .ok (.aload_n 0, 1) := by decide +kernel
theorem dX10_market_65 : decode cX10_market 65 = .ok (.invokevirtual 114, 3) := by decide +kernel
theorem dX10_market_68 : decode cX10_market 68 = .ok (.goto (-26), 3) := by decide +kernel
theorem dX10_market_71 : decode cX10_market 71 = .ok (.aload_n 0, 1) := by decide +kernel
theorem dX10_market_72 : decode cX10_market 72 = .ok (.getfield 108, 3) := by decide +kernel
theorem dX10_market_75 : decode cX10_market 75 = .ok (.ifCond .eq 8, 3) := by decide +kernel
theorem dX10_market_78 : decode cX10_market 78 = .ok (.aload_n 0, 1) := by decide +kernel
theorem dX10_market_79 : decode cX10_market 79 = .ok (.invokevirtual 181, 3) := by decide +kernel
theorem dX10_market_82 : decode cX10_market 82 = .ok (.ireturn, 1) := by decide +kernel
theorem dX10_market_83 : decode cX10_market 83 = .ok (.aload_n 0, 1) := by decide +kernel
theorem dX10_market_84 : decode cX10_market 84 = .ok (.iconst (-1), 1) := by decide +kernel
theorem dX10_market_85 : decode cX10_market 85 = .ok (.putfield 9, 3) := by decide +kernel
theorem dX10_market_88 : decode cX10_market 88 = .ok (.aload_n 0, 1) := by decide +kernel
theorem dX10_market_89 : decode cX10_market 89 = .ok (.invokevirtual 89, 3) := by decide +kernel
theorem dX10_market_92 : decode cX10_market 92 = .ok (.aload_n 0, 1) := by decide +kernel
theorem dX10_market_93 : decode cX10_market 93 = .ok (.getfield 23, 3) := by decide +kernel
theorem dX10_market_96 : decode cX10_market 96 = .ok (.iconst 0, 1) := by decide +kernel
theorem dX10_market_97 : decode cX10_market 97 = .ok (.iaload, 1) := by decide +kernel
theorem dX10_market_98 : decode cX10_market 98 = .ok (.ireturn, 1) := by decide +kernel
theorem dX10_lays_0 : decode cX10_lays 0 = .ok (.iconst 0, 1) := by decide +kernel
theorem dX10_lays_1 : decode cX10_lays 1 = .ok (.istore_n 3, 1) := by decide +kernel
theorem dX10_lays_2 : decode cX10_lays 2 = .ok (.iload_n 3, 1) := by decide +kernel
theorem dX10_lays_3 : decode cX10_lays 3 = .ok (.iload_n 2, 1) := by decide +kernel
theorem dX10_lays_4 : decode cX10_lays 4 = .ok (.if_icmp .ge 39, 3) := by decide +kernel
theorem dX10_lays_7 : decode cX10_lays 7 = .ok (.iconst 0, 1) := by decide +kernel
theorem dX10_lays_8 : decode cX10_lays 8 = .ok (.istore 4, 2) := by decide +kernel
theorem dX10_lays_10 : decode cX10_lays 10 = .ok (.iload 4, 2) := by decide +kernel
theorem dX10_lays_12 : decode cX10_lays 12 = .ok (.aload_n 1, 1) := by decide +kernel
theorem dX10_lays_13 : decode cX10_lays 13 = .ok (.iload_n 3, 1) := by decide +kernel
theorem dX10_lays_14 : decode cX10_lays 14 = .ok (.aaload, 1) := by decide +kernel
theorem dX10_lays_15 : decode cX10_lays 15 = .ok (.arraylength, 1) := by decide +kernel
theorem dX10_lays_16 : decode cX10_lays 16 = .ok (.if_icmp .ge 21, 3) := by decide +kernel
theorem dX10_lays_19 : decode cX10_lays 19 = .ok (.aload_n 1, 1) := by decide +kernel
theorem dX10_lays_20 : decode cX10_lays 20 = .ok (.iload_n 3, 1) := by decide +kernel
theorem dX10_lays_21 : decode cX10_lays 21 = .ok (.aaload, 1) := by decide +kernel
theorem dX10_lays_22 : decode cX10_lays 22 = .ok (.iload 4, 2) := by decide +kernel
theorem dX10_lays_24 : decode cX10_lays 24 = .ok (.aload_n 0, 1) := by decide +kernel
theorem dX10_lays_25 : decode cX10_lays 25 = .ok (.iload_n 3, 1) := by decide +kernel
theorem dX10_lays_26 : decode cX10_lays 26 = .ok (.aaload, 1) := by decide +kernel
theorem dX10_lays_27 : decode cX10_lays 27 = .ok (.iload 4, 2) := by decide +kernel
theorem dX10_lays_29 : decode cX10_lays 29 = .ok (.iaload, 1) := by decide +kernel
theorem dX10_lays_30 : decode cX10_lays 30 = .ok (.iastore, 1) := by decide +kernel
theorem dX10_lays_31 : decode cX10_lays 31 = .ok (.iinc 4 1, 3) := by decide +kernel
theorem dX10_lays_34 : decode cX10_lays 34 = .ok (.goto (-24), 3) := by decide +kernel
theorem dX10_lays_37 : decode cX10_lays 37 = .ok (.iinc 3 1, 3) := by decide +kernel
theorem dX10_lays_40 : decode cX10_lays 40 = .ok (.goto (-38), 3) := by decide +kernel
theorem dX10_lays_43 : decode cX10_lays 43 = .ok (.return_, 1) := by decide +kernel
theorem dX10_copies_0 : decode cX10_copies 0 = .ok (.iconst 0, 1) := by decide +kernel
theorem dX10_copies_1 : decode cX10_copies 1 = .ok (.istore_n 2, 1) := by decide +kernel
theorem dX10_copies_2 : decode cX10_copies 2 = .ok (.iload_n 2, 1) := by decide +kernel
theorem dX10_copies_3 : decode cX10_copies 3 = .ok (.bipush 60, 2) := by decide +kernel
theorem dX10_copies_5 : decode cX10_copies 5 = .ok (.if_icmp .ge 15, 3) := by decide +kernel
theorem dX10_copies_8 : decode cX10_copies 8 = .ok (.aload_n 1, 1) := by decide +kernel
theorem dX10_copies_9 : decode cX10_copies 9 = .ok (.iload_n 2, 1) := by decide +kernel
theorem dX10_copies_10 : decode cX10_copies 10 = .ok (.aload_n 0, 1) := by decide +kernel
theorem dX10_copies_11 : decode cX10_copies 11 = .ok (.iload_n 2, 1) := by decide +kernel
theorem dX10_copies_12 : decode cX10_copies 12 = .ok (.iaload, 1) := by decide +kernel
theorem dX10_copies_13 : decode cX10_copies 13 = .ok (.iastore, 1) := by decide +kernel
theorem dX10_copies_14 : decode cX10_copies 14 = .ok (.iinc 2 1, 3) := by decide +kernel
theorem dX10_copies_17 : decode cX10_copies 17 = .ok (.goto (-15), 3) := by decide +kernel
theorem dX10_copies_20 : decode cX10_copies 20 = .ok (.return_, 1) := by decide +kernel
theorem dX10_beginsAnew_0 : decode cX10_beginsAnew 0 = .ok (.iconst 0, 1) := by decide +kernel
theorem dX10_beginsAnew_1 : decode cX10_beginsAnew 1 = .ok (.istore_n 1, 1) := by decide +kernel
theorem dX10_beginsAnew_2 : decode cX10_beginsAnew 2 = .ok (.iload_n 1, 1) := by decide +kernel
theorem dX10_beginsAnew_3 : decode cX10_beginsAnew 3 = .ok (.iconst 4, 1) := by decide +kernel
theorem dX10_beginsAnew_4 : decode cX10_beginsAnew 4 = .ok (.if_icmp .ge 21, 3) := by decide +kernel
theorem dX10_beginsAnew_7 : decode cX10_beginsAnew 7 = .ok (.aload_n 0, 1) := by decide +kernel
theorem dX10_beginsAnew_8 : decode cX10_beginsAnew 8 = .ok (.getfield 23, 3) := by decide +kernel
theorem dX10_beginsAnew_11 : decode cX10_beginsAnew 11 = .ok (.iload_n 1, 1) := by decide +kernel
theorem dX10_beginsAnew_12 : decode cX10_beginsAnew 12 = .ok (.aload_n 0, 1) := by decide +kernel
theorem dX10_beginsAnew_13 : decode cX10_beginsAnew 13 = .ok (.getfield 20, 3) := by decide +kernel
theorem dX10_beginsAnew_16 : decode cX10_beginsAnew 16 = .ok (.iload_n 1, 1) := by decide +kernel
theorem dX10_beginsAnew_17 : decode cX10_beginsAnew 17 = .ok (.iaload, 1) := by decide +kernel
theorem dX10_beginsAnew_18 : decode cX10_beginsAnew 18 = .ok (.iastore, 1) := by decide +kernel
theorem dX10_beginsAnew_19 : decode cX10_beginsAnew 19 = .ok (.iinc 1 1, 3) := by decide +kernel
theorem dX10_beginsAnew_22 : decode cX10_beginsAnew 22 = .ok (.goto (-20), 3) := by decide +kernel
theorem dX10_beginsAnew_25 : decode cX10_beginsAnew 25 = .ok (.iconst 0, 1) := by decide +kernel
theorem dX10_beginsAnew_26 : decode cX10_beginsAnew 26 = .ok (.istore_n 1, 1) := by decide +kernel
theorem dX10_beginsAnew_27 : decode cX10_beginsAnew 27 = .ok (.iload_n 1, 1) := by decide +kernel
theorem dX10_beginsAnew_28 : decode cX10_beginsAnew 28 = .ok (.bipush 60, 2) := by decide +kernel
theorem dX10_beginsAnew_30 : decode cX10_beginsAnew 30 = .ok (.if_icmp .ge 16, 3) := by decide +kernel
theorem dX10_beginsAnew_33 : decode cX10_beginsAnew 33 = .ok (.aload_n 0, 1) := by decide +kernel
theorem dX10_beginsAnew_34 : decode cX10_beginsAnew 34 = .ok (.getfield 61, 3) := by decide +kernel
theorem dX10_beginsAnew_37 : decode cX10_beginsAnew 37 = .ok (.iload_n 1, 1) := by decide +kernel
theorem dX10_beginsAnew_38 : decode cX10_beginsAnew 38 = .ok (.iconst 0, 1) := by decide +kernel
theorem dX10_beginsAnew_39 : decode cX10_beginsAnew 39 = .ok (.iastore, 1) := by decide +kernel
theorem dX10_beginsAnew_40 : decode cX10_beginsAnew 40 = .ok (.iinc 1 1, 3) := by decide +kernel
theorem dX10_beginsAnew_43 : decode cX10_beginsAnew 43 = .ok (.goto (-16), 3) := by decide +kernel
theorem dX10_beginsAnew_46 : decode cX10_beginsAnew 46 = .ok (.iconst 0, 1) := by decide +kernel
theorem dX10_beginsAnew_47 : decode cX10_beginsAnew 47 = .ok (.istore_n 1, 1) := by decide +kernel
theorem dX10_beginsAnew_48 : decode cX10_beginsAnew 48 = .ok (.iload_n 1, 1) := by decide +kernel
theorem dX10_beginsAnew_49 : decode cX10_beginsAnew 49 = .ok (.aload_n 0, 1) := by decide +kernel
theorem dX10_beginsAnew_50 : decode cX10_beginsAnew 50 = .ok (.getfield 23, 3) := by decide +kernel
theorem dX10_beginsAnew_53 : decode cX10_beginsAnew 53 = .ok (.iconst 0, 1) := by decide +kernel
theorem dX10_beginsAnew_54 : decode cX10_beginsAnew 54 = .ok (.iaload, 1) := by decide +kernel
theorem dX10_beginsAnew_55 : decode cX10_beginsAnew 55 = .ok (.if_icmp .ge 35, 3) := by decide +kernel
theorem dX10_beginsAnew_58 : decode cX10_beginsAnew 58 = .ok (.aload_n 0, 1) := by decide +kernel
theorem dX10_beginsAnew_59 : decode cX10_beginsAnew 59 = .ok (.getfield 29, 3) := by decide +kernel
theorem dX10_beginsAnew_62 : decode cX10_beginsAnew 62 = .ok (.iload_n 1, 1) := by decide +kernel
theorem dX10_beginsAnew_63 : decode cX10_beginsAnew 63 = .ok (.aload_n 0, 1) := by decide +kernel
theorem dX10_beginsAnew_64 : decode cX10_beginsAnew 64 = .ok (.getfield 26, 3) := by decide +kernel
theorem dX10_beginsAnew_67 : decode cX10_beginsAnew 67 = .ok (.iload_n 1, 1) := by decide +kernel
theorem dX10_beginsAnew_68 : decode cX10_beginsAnew 68 = .ok (.iaload, 1) := by decide +kernel
theorem dX10_beginsAnew_69 : decode cX10_beginsAnew 69 = .ok (.iastore, 1) := by decide +kernel
theorem dX10_beginsAnew_70 : decode cX10_beginsAnew 70 = .ok (.aload_n 0, 1) := by decide +kernel
theorem dX10_beginsAnew_71 : decode cX10_beginsAnew 71 = .ok (.getfield 61, 3) := by decide +kernel
theorem dX10_beginsAnew_74 : decode cX10_beginsAnew 74 = .ok (.iconst 0, 1) := by decide +kernel
theorem dX10_beginsAnew_75 : decode cX10_beginsAnew 75 = .ok (.iload_n 1, 1) := by decide +kernel
theorem dX10_beginsAnew_76 : decode cX10_beginsAnew 76 = .ok (.iadd, 1) := by decide +kernel
theorem dX10_beginsAnew_77 : decode cX10_beginsAnew 77 = .ok (.aload_n 0, 1) := by decide +kernel
theorem dX10_beginsAnew_78 : decode cX10_beginsAnew 78 = .ok (.getfield 29, 3) := by decide +kernel
theorem dX10_beginsAnew_81 : decode cX10_beginsAnew 81 = .ok (.iload_n 1, 1) := by decide +kernel
theorem dX10_beginsAnew_82 : decode cX10_beginsAnew 82 = .ok (.iaload, 1) := by decide +kernel
theorem dX10_beginsAnew_83 : decode cX10_beginsAnew 83 = .ok (.iastore, 1) := by decide +kernel
theorem dX10_beginsAnew_84 : decode cX10_beginsAnew 84 = .ok (.iinc 1 1, 3) := by decide +kernel
theorem dX10_beginsAnew_87 : decode cX10_beginsAnew 87 = .ok (.goto (-39), 3) := by decide +kernel
theorem dX10_beginsAnew_90 : decode cX10_beginsAnew 90 = .ok (.aload_n 0, 1) := by decide +kernel
theorem dX10_beginsAnew_91 : decode cX10_beginsAnew 91 = .ok (.getfield 34, 3) := by decide +kernel
theorem dX10_beginsAnew_94 : decode cX10_beginsAnew 94 = .ok (.aload_n 0, 1) := by decide +kernel
theorem dX10_beginsAnew_95 : decode cX10_beginsAnew 95 = .ok (.getfield 37, 3) := by decide +kernel
theorem dX10_beginsAnew_98 : decode cX10_beginsAnew 98 = .ok (.aload_n 0, 1) := by decide +kernel
theorem dX10_beginsAnew_99 : decode cX10_beginsAnew 99 = .ok (.getfield 23, 3) := by decide +kernel
theorem dX10_beginsAnew_102 : decode cX10_beginsAnew 102 = .ok (.iconst 1, 1) := by decide +kernel
theorem dX10_beginsAnew_103 : decode cX10_beginsAnew 103 = .ok (.iaload, 1) := by decide +kernel
theorem dX10_beginsAnew_104 : decode cX10_beginsAnew 104 = .ok (.invokestatic 184, 3) := by decide +kernel
theorem dX10_beginsAnew_107 : decode cX10_beginsAnew 107 = .ok (.iconst 0, 1) := by decide +kernel
theorem dX10_beginsAnew_108 : decode cX10_beginsAnew 108 = .ok (.istore_n 1, 1) := by decide +kernel
theorem dX10_beginsAnew_109 : decode cX10_beginsAnew 109 = .ok (.iload_n 1, 1) := by decide +kernel
theorem dX10_beginsAnew_110 : decode cX10_beginsAnew 110 = .ok (.aload_n 0, 1) := by decide +kernel
theorem dX10_beginsAnew_111 : decode cX10_beginsAnew 111 = .ok (.getfield 23, 3) := by decide +kernel
theorem dX10_beginsAnew_114 : decode cX10_beginsAnew 114 = .ok (.iconst 1, 1) := by decide +kernel
theorem dX10_beginsAnew_115 : decode cX10_beginsAnew 115 = .ok (.iaload, 1) := by decide +kernel
theorem dX10_beginsAnew_116 : decode cX10_beginsAnew 116 = .ok (.if_icmp .ge 43, 3) := by decide +kernel
theorem dX10_beginsAnew_119 : decode cX10_beginsAnew 119 = .ok (.iconst 0, 1) := by decide +kernel
theorem dX10_beginsAnew_120 : decode cX10_beginsAnew 120 = .ok (.istore_n 2, 1) := by decide +kernel
theorem dX10_beginsAnew_121 : decode cX10_beginsAnew 121 = .ok (.iload_n 2, 1) := by decide +kernel
theorem dX10_beginsAnew_122 : decode cX10_beginsAnew 122 = .ok (.iconst 4, 1) := by decide +kernel
theorem dX10_beginsAnew_123 : decode cX10_beginsAnew 123 = .ok (.if_icmp .ge 30, 3) := by decide +kernel
theorem dX10_beginsAnew_126 : decode cX10_beginsAnew 126 = .ok (.aload_n 0, 1) := by decide +kernel
theorem dX10_beginsAnew_127 : decode cX10_beginsAnew 127 = .ok (.getfield 61, 3) := by decide +kernel
theorem dX10_beginsAnew_130 : decode cX10_beginsAnew 130 = .ok (.bipush 16, 2) := by decide +kernel
theorem dX10_beginsAnew_132 : decode cX10_beginsAnew 132 = .ok (.iconst 4, 1) := by decide +kernel
theorem dX10_beginsAnew_133 : decode cX10_beginsAnew 133 = .ok (.iload_n 1, 1) := by decide +kernel
theorem dX10_beginsAnew_134 : decode cX10_beginsAnew 134 = .ok (.imul, 1) := by decide +kernel
theorem dX10_beginsAnew_135 : decode cX10_beginsAnew 135 = .ok (.iadd, 1) := by decide +kernel
theorem dX10_beginsAnew_136 : decode cX10_beginsAnew 136 = .ok (.iload_n 2, 1) := by decide +kernel
theorem dX10_beginsAnew_137 : decode cX10_beginsAnew 137 = .ok (.iadd, 1) := by decide +kernel
theorem dX10_beginsAnew_138 : decode cX10_beginsAnew 138 = .ok (.aload_n 0, 1) := by decide +kernel
theorem dX10_beginsAnew_139 : decode cX10_beginsAnew 139 = .ok (.getfield 37, 3) := by decide +kernel
theorem dX10_beginsAnew_142 : decode cX10_beginsAnew 142 = .ok (.iload_n 1, 1) := by decide +kernel
theorem dX10_beginsAnew_143 : decode cX10_beginsAnew 143 = .ok (.aaload, 1) := by decide +kernel
theorem dX10_beginsAnew_144 : decode cX10_beginsAnew 144 = .ok (.iload_n 2, 1) := by decide +kernel
theorem dX10_beginsAnew_145 : decode cX10_beginsAnew 145 = .ok (.iaload, 1) := by decide +kernel
theorem dX10_beginsAnew_146 : decode cX10_beginsAnew 146 = .ok (.iastore, 1) := by decide +kernel
theorem dX10_beginsAnew_147 : decode cX10_beginsAnew 147 = .ok (.iinc 2 1, 3) := by decide +kernel
theorem dX10_beginsAnew_150 : decode cX10_beginsAnew 150 = .ok (.goto (-29), 3) := by decide +kernel
theorem dX10_beginsAnew_153 : decode cX10_beginsAnew 153 = .ok (.iinc 1 1, 3) := by decide +kernel
theorem dX10_beginsAnew_156 : decode cX10_beginsAnew 156 = .ok (.goto (-47), 3) := by decide +kernel
theorem dX10_beginsAnew_159 : decode cX10_beginsAnew 159 = .ok (.aload_n 0, 1) := by decide +kernel
theorem dX10_beginsAnew_160 : decode cX10_beginsAnew 160 = .ok (.getfield 61, 3) := by decide +kernel
theorem dX10_beginsAnew_163 : decode cX10_beginsAnew 163 = .ok (.bipush 56, 2) := by decide +kernel
theorem dX10_beginsAnew_165 : decode cX10_beginsAnew 165 = .ok (.aload_n 0, 1) := by decide +kernel
theorem dX10_beginsAnew_166 : decode cX10_beginsAnew 166 = .ok (.getfield 23, 3) := by decide +kernel
theorem dX10_beginsAnew_169 : decode cX10_beginsAnew 169 = .ok (.iconst 1, 1) := by decide +kernel
theorem dX10_beginsAnew_170 : decode cX10_beginsAnew 170 = .ok (.iaload, 1) := by decide +kernel
theorem dX10_beginsAnew_171 : decode cX10_beginsAnew 171 = .ok (.iastore, 1) := by decide +kernel
theorem dX10_beginsAnew_172 : decode cX10_beginsAnew 172 = .ok (.aload_n 0, 1) := by decide +kernel
theorem dX10_beginsAnew_173 : decode cX10_beginsAnew 173 = .ok (.getfield 61, 3) := by decide +kernel
theorem dX10_beginsAnew_176 : decode cX10_beginsAnew 176 = .ok (.bipush 57, 2) := by decide +kernel
theorem dX10_beginsAnew_178 : decode cX10_beginsAnew 178 = .ok (.aload_n 0, 1) := by decide +kernel
theorem dX10_beginsAnew_179 : decode cX10_beginsAnew 179 = .ok (.getfield 23, 3) := by decide +kernel
theorem dX10_beginsAnew_182 : decode cX10_beginsAnew 182 = .ok (.iconst 2, 1) := by decide +kernel
theorem dX10_beginsAnew_183 : decode cX10_beginsAnew 183 = .ok (.iaload, 1) := by decide +kernel
theorem dX10_beginsAnew_184 : decode cX10_beginsAnew 184 = .ok (.iastore, 1) := by decide +kernel
theorem dX10_beginsAnew_185 : decode cX10_beginsAnew 185 = .ok (.aload_n 0, 1) := by decide +kernel
theorem dX10_beginsAnew_186 : decode cX10_beginsAnew 186 = .ok (.iconst 0, 1) := by decide +kernel
theorem dX10_beginsAnew_187 : decode cX10_beginsAnew 187 = .ok (.putfield 188, 3) := by decide +kernel
theorem dX10_beginsAnew_190 : decode cX10_beginsAnew 190 = .ok (.aload_n 0, 1) := by decide +kernel
theorem dX10_beginsAnew_191 : decode cX10_beginsAnew 191 = .ok (.iconst 0, 1) := by decide +kernel
theorem dX10_beginsAnew_192 : decode cX10_beginsAnew 192 = .ok (.putfield 191, 3) := by decide +kernel
theorem dX10_beginsAnew_195 : decode cX10_beginsAnew 195 = .ok (.aload_n 0, 1) := by decide +kernel
theorem dX10_beginsAnew_196 : decode cX10_beginsAnew 196 = .ok (.iconst 0, 1) := by decide +kernel
theorem dX10_beginsAnew_197 : decode cX10_beginsAnew 197 = .ok (.putfield 194, 3) := by decide +kernel
theorem dX10_beginsAnew_200 : decode cX10_beginsAnew 200 = .ok (.aload_n 0, 1) := by decide +kernel
theorem dX10_beginsAnew_201 : decode cX10_beginsAnew 201 = .ok (.iconst 0, 1) := by decide +kernel
theorem dX10_beginsAnew_202 : decode cX10_beginsAnew 202 = .ok (.putfield 197, 3) := by decide +kernel
theorem dX10_beginsAnew_205 : decode cX10_beginsAnew 205 = .ok (.aload_n 0, 1) := by decide +kernel
theorem dX10_beginsAnew_206 : decode cX10_beginsAnew 206 = .ok (.iconst 0, 1) := by decide +kernel
theorem dX10_beginsAnew_207 : decode cX10_beginsAnew 207 = .ok (.putfield 200, 3) := by decide +kernel
theorem dX10_beginsAnew_210 : decode cX10_beginsAnew 210 = .ok (.return_, 1) := by decide +kernel
theorem dX10_notes_0 : decode cX10_notes 0 = .ok (.aload_n 0, 1) := by decide +kernel
theorem dX10_notes_1 : decode cX10_notes 1 = .ok (.getfield 108, 3) := by decide +kernel
theorem dX10_notes_4 : decode cX10_notes 4 = .ok (.ifCond .eq 4, 3) := by decide +kernel
theorem dX10_notes_7 : decode cX10_notes 7 = .ok (.return_, 1) := by decide +kernel
theorem dX10_notes_8 : decode cX10_notes 8 = .ok (.aload_n 0, 1) := by decide +kernel
theorem dX10_notes_9 : decode cX10_notes 9 = .ok (.getfield 43, 3) := by decide +kernel
theorem dX10_notes_12 : decode cX10_notes 12 = .ok (.aload_n 0, 1) := by decide +kernel
theorem dX10_notes_13 : decode cX10_notes 13 = .ok (.getfield 203, 3) := by decide +kernel
theorem dX10_notes_16 : decode cX10_notes 16 = .ok (.aaload, 1) := by decide +kernel
theorem dX10_notes_17 : decode cX10_notes 17 = .ok (.iconst 0, 1) := by decide +kernel
theorem dX10_notes_18 : decode cX10_notes 18 = .ok (.iload_n 1, 1) := by decide +kernel
theorem dX10_notes_19 : decode cX10_notes 19 = .ok (.iastore, 1) := by decide +kernel
theorem dX10_notes_20 : decode cX10_notes 20 = .ok (.aload_n 0, 1) := by decide +kernel
theorem dX10_notes_21 : decode cX10_notes 21 = .ok (.getfield 43, 3) := by decide +kernel
theorem dX10_notes_24 : decode cX10_notes 24 = .ok (.aload_n 0, 1) := by decide +kernel
theorem dX10_notes_25 : decode cX10_notes 25 = .ok (.getfield 203, 3) := by decide +kernel
theorem dX10_notes_28 : decode cX10_notes 28 = .ok (.aaload, 1) := by decide +kernel
theorem dX10_notes_29 : decode cX10_notes 29 = .ok (.iconst 1, 1) := by decide +kernel
theorem dX10_notes_30 : decode cX10_notes 30 = .ok (.iload_n 2, 1) := by decide +kernel
theorem dX10_notes_31 : decode cX10_notes 31 = .ok (.iastore, 1) := by decide +kernel
theorem dX10_notes_32 : decode cX10_notes 32 = .ok (.aload_n 0, 1) := by decide +kernel
theorem dX10_notes_33 : decode cX10_notes 33 = .ok (.dup, 1) := by decide +kernel
theorem dX10_notes_34 : decode cX10_notes 34 = .ok (.getfield 203, 3) := by decide +kernel
theorem dX10_notes_37 : decode cX10_notes 37 = .ok (.iconst 1, 1) := by decide +kernel
theorem dX10_notes_38 : decode cX10_notes 38 = .ok (.iadd, 1) := by decide +kernel
theorem dX10_notes_39 : decode cX10_notes 39 = .ok (.putfield 203, 3) := by decide +kernel
theorem dX10_notes_42 : decode cX10_notes 42 = .ok (.return_, 1) := by decide +kernel
theorem dX10_opensOne_0 : decode cX10_opensOne 0 = .ok (.aload_n 0, 1) := by decide +kernel
theorem dX10_opensOne_1 : decode cX10_opensOne 1 = .ok (.getfield 108, 3) := by decide +kernel
theorem dX10_opensOne_4 : decode cX10_opensOne 4 = .ok (.ifCond .ne 24, 3) := by decide +kernel
theorem dX10_opensOne_7 : decode cX10_opensOne 7 = .ok (.aload_n 0, 1) := by decide +kernel
theorem dX10_opensOne_8 : decode cX10_opensOne 8 = .ok (.getfield 151, 3) := by decide +kernel
theorem dX10_opensOne_11 : decode cX10_opensOne 11 = .ok (.bipush 6, 2) := by decide +kernel
theorem dX10_opensOne_13 : decode cX10_opensOne 13 = .ok (.if_icmp .ne 15, 3) := by decide +kernel
theorem dX10_opensOne_16 : decode cX10_opensOne 16 = .ok (.aload_n 0, 1) := by decide +kernel
theorem dX10_opensOne_17 : decode cX10_opensOne 17 = .ok (.iconst 3, 1) := by decide +kernel
theorem dX10_opensOne_18 : decode cX10_opensOne 18 = .ok (.aload_n 0, 1) := by decide +kernel
theorem dX10_opensOne_19 : decode cX10_opensOne 19 = .ok (.getfield 101, 3) := by decide +kernel
theorem dX10_opensOne_22 : decode cX10_opensOne 22 = .ok (.invokevirtual 121, 3) := by decide +kernel
theorem dX10_opensOne_25 : decode cX10_opensOne 25 = .ok (.goto 20, 3) := by decide +kernel
theorem dX10_opensOne_28 : decode cX10_opensOne 28 = .ok (.aload_n 0, 1) := by decide +kernel
theorem dX10_opensOne_29 : decode cX10_opensOne 29 = .ok (.getfield 108, 3) := by decide +kernel
theorem dX10_opensOne_32 : decode cX10_opensOne 32 = .ok (.ifCond .ne 13, 3) := by decide +kernel
theorem dX10_opensOne_35 : decode cX10_opensOne 35 = .ok (.aload_n 0, 1) := by decide +kernel
theorem dX10_opensOne_36 : decode cX10_opensOne 36 = .ok (.dup, 1) := by decide +kernel
theorem dX10_opensOne_37 : decode cX10_opensOne 37 = .ok (.getfield 151, 3) := by decide +kernel
theorem dX10_opensOne_40 : decode cX10_opensOne 40 = .ok (.iconst 1, 1) := by decide +kernel
theorem dX10_opensOne_41 : decode cX10_opensOne 41 = .ok (.iadd, 1) := by decide +kernel
theorem dX10_opensOne_42 : decode cX10_opensOne 42 = .ok (.putfield 151, 3) := by decide +kernel
theorem dX10_opensOne_45 : decode cX10_opensOne 45 = .ok (.aload_n 0, 1) := by decide +kernel
theorem dX10_opensOne_46 : decode cX10_opensOne 46 = .ok (.getfield 108, 3) := by decide +kernel
theorem dX10_opensOne_49 : decode cX10_opensOne 49 = .ok (.ifCond .ne 7, 3) := by decide +kernel
theorem dX10_opensOne_52 : decode cX10_opensOne 52 = .ok (.iconst 1, 1) := by decide +kernel
theorem dX10_opensOne_53 : decode cX10_opensOne 53 = .ok (.goto 4, 3) := by decide +kernel
theorem dX10_opensOne_56 : decode cX10_opensOne 56 = .ok (.iconst 0, 1) := by decide +kernel
theorem dX10_opensOne_57 : decode cX10_opensOne 57 = .ok (.ireturn, 1) := by decide +kernel
theorem dX10_sum_0 : decode cX10_sum 0 = .ok (.aload_n 0, 1) := by decide +kernel
theorem dX10_sum_1 : decode cX10_sum 1 = .ok (.invokevirtual 206, 3) := by decide +kernel
theorem dX10_sum_4 : decode cX10_sum 4 = .ok (.aload_n 0, 1) := by decide +kernel
theorem dX10_sum_5 : decode cX10_sum 5 = .ok (.getfield 108, 3) := by decide +kernel
theorem dX10_sum_8 : decode cX10_sum 8 = .ok (.ifCond .ne 50, 3) := by decide +kernel
theorem dX10_sum_11 : decode cX10_sum 11 = .ok (.aload_n 0, 1) := by decide +kernel
theorem dX10_sum_12 : decode cX10_sum 12 = .ok (.bipush 43, 2) := by decide +kernel
theorem dX10_sum_14 : decode cX10_sum 14 = .ok (.invokevirtual 209, 3) := by decide +kernel
theorem dX10_sum_17 : decode cX10_sum 17 = .ok (.ifCond .eq 7, 3) := by decide +kernel
theorem dX10_sum_20 : decode cX10_sum 20 = .ok (.iconst 2, 1) := by decide +kernel
theorem dX10_sum_21 : decode cX10_sum 21 = .ok (.goto 17, 3) := by decide +kernel
theorem dX10_sum_24 : decode cX10_sum 24 = .ok (.aload_n 0, 1) := by decide +kernel
theorem dX10_sum_25 : decode cX10_sum 25 = .ok (.bipush 45, 2) := by decide +kernel
theorem dX10_sum_27 : decode cX10_sum 27 = .ok (.invokevirtual 209, 3) := by decide +kernel
theorem dX10_sum_30 : decode cX10_sum 30 = .ok (.ifCond .eq 7, 3) := by decide +kernel
theorem dX10_sum_33 : decode cX10_sum 33 = .ok (.iconst 3, 1) := by decide +kernel
theorem dX10_sum_34 : decode cX10_sum 34 = .ok (.goto 4, 3) := by decide +kernel
theorem dX10_sum_37 : decode cX10_sum 37 = .ok (.iconst (-1), 1) := by decide +kernel
theorem dX10_sum_38 : decode cX10_sum 38 = .ok (.istore_n 1, 1) := by decide +kernel
theorem dX10_sum_39 : decode cX10_sum 39 = .ok (.iload_n 1, 1) := by decide +kernel
theorem dX10_sum_40 : decode cX10_sum 40 = .ok (.iconst (-1), 1) := by decide +kernel
theorem dX10_sum_41 : decode cX10_sum 41 = .ok (.if_icmp .ne 4, 3) := by decide +kernel
theorem dX10_sum_44 : decode cX10_sum 44 = .ok (.return_, 1) := by decide +kernel
theorem dX10_sum_45 : decode cX10_sum 45 = .ok (.aload_n 0, 1) := by decide +kernel
theorem dX10_sum_46 : decode cX10_sum 46 = .ok (.invokevirtual 206, 3) := by decide +kernel
theorem dX10_sum_49 : decode cX10_sum 49 = .ok (.aload_n 0, 1) := by decide +kernel
theorem dX10_sum_50 : decode cX10_sum 50 = .ok (.iload_n 1, 1) := by decide +kernel
theorem dX10_sum_51 : decode cX10_sum 51 = .ok (.iconst 0, 1) := by decide +kernel
theorem dX10_sum_52 : decode cX10_sum 52 = .ok (.invokevirtual 212, 3) := by decide +kernel
theorem dX10_sum_55 : decode cX10_sum 55 = .ok (.goto (-51), 3) := by decide +kernel
theorem dX10_sum_58 : decode cX10_sum 58 = .ok (.return_, 1) := by decide +kernel
theorem dX10_product_0 : decode cX10_product 0 = .ok (.aload_n 0, 1) := by decide +kernel
theorem dX10_product_1 : decode cX10_product 1 = .ok (.invokevirtual 215, 3) := by decide +kernel
theorem dX10_product_4 : decode cX10_product 4 = .ok (.aload_n 0, 1) := by decide +kernel
theorem dX10_product_5 : decode cX10_product 5 = .ok (.getfield 108, 3) := by decide +kernel
theorem dX10_product_8 : decode cX10_product 8 = .ok (.ifCond .ne 64, 3) := by decide +kernel
theorem dX10_product_11 : decode cX10_product 11 = .ok (.aload_n 0, 1) := by decide +kernel
theorem dX10_product_12 : decode cX10_product 12 = .ok (.bipush 42, 2) := by decide +kernel
theorem dX10_product_14 : decode cX10_product 14 = .ok (.invokevirtual 209, 3) := by decide +kernel
theorem dX10_product_17 : decode cX10_product 17 = .ok (.ifCond .eq 7, 3) := by decide +kernel
theorem dX10_product_20 : decode cX10_product 20 = .ok (.iconst 4, 1) := by decide +kernel
theorem dX10_product_21 : decode cX10_product 21 = .ok (.goto 31, 3) := by decide +kernel
theorem dX10_product_24 : decode cX10_product 24 = .ok (.aload_n 0, 1) := by decide +kernel
theorem dX10_product_25 : decode cX10_product 25 = .ok (.bipush 47, 2) := by decide +kernel
theorem dX10_product_27 : decode cX10_product 27 = .ok (.invokevirtual 209, 3) := by decide +kernel
theorem dX10_product_30 : decode cX10_product 30 = .ok (.ifCond .eq 7, 3) := by decide +kernel
theorem dX10_product_33 : decode cX10_product 33 = .ok (.iconst 5, 1) := by decide +kernel
theorem dX10_product_34 : decode cX10_product 34 = .ok (.goto 18, 3) := by decide +kernel
theorem dX10_product_37 : decode cX10_product 37 = .ok (.aload_n 0, 1) := by decide +kernel
theorem dX10_product_38 : decode cX10_product 38 = .ok (.bipush 37, 2) := by decide +kernel
theorem dX10_product_40 : decode cX10_product 40 = .ok (.invokevirtual 209, 3) := by decide +kernel
theorem dX10_product_43 : decode cX10_product 43 = .ok (.ifCond .eq 8, 3) := by decide +kernel
theorem dX10_product_46 : decode cX10_product 46 = .ok (.bipush 6, 2) := by decide +kernel
theorem dX10_product_48 : decode cX10_product 48 = .ok (.goto 4, 3) := by decide +kernel
theorem dX10_product_51 : decode cX10_product 51 = .ok (.iconst (-1), 1) := by decide +kernel
theorem dX10_product_52 : decode cX10_product 52 = .ok (.istore_n 1, 1) := by decide +kernel
theorem dX10_product_53 : decode cX10_product 53 = .ok (.iload_n 1, 1) := by decide +kernel
theorem dX10_product_54 : decode cX10_product 54 = .ok (.iconst (-1), 1) := by decide +kernel
theorem dX10_product_55 : decode cX10_product 55 = .ok (.if_icmp .ne 4, 3) := by decide +kernel
theorem dX10_product_58 : decode cX10_product 58 = .ok (.return_, 1) := by decide +kernel
theorem dX10_product_59 : decode cX10_product 59 = .ok (.aload_n 0, 1) := by decide +kernel
theorem dX10_product_60 : decode cX10_product 60 = .ok (.invokevirtual 215, 3) := by decide +kernel
theorem dX10_product_63 : decode cX10_product 63 = .ok (.aload_n 0, 1) := by decide +kernel
theorem dX10_product_64 : decode cX10_product 64 = .ok (.iload_n 1, 1) := by decide +kernel
theorem dX10_product_65 : decode cX10_product 65 = .ok (.iconst 0, 1) := by decide +kernel
theorem dX10_product_66 : decode cX10_product 66 = .ok (.invokevirtual 212, 3) := by decide +kernel
theorem dX10_product_69 : decode cX10_product 69 = .ok (.goto (-65), 3) := by decide +kernel
theorem dX10_product_72 : decode cX10_product 72 = .ok (.return_, 1) := by decide +kernel
theorem dX10_knownHere_0 : decode cX10_knownHere 0 = .ok (.aload_n 0, 1) := by decide +kernel
theorem dX10_knownHere_1 : decode cX10_knownHere 1 = .ok (.bipush 23, 2) := by decide +kernel
theorem dX10_knownHere_3 : decode cX10_knownHere 3 = .ok (.iconst 5, 1) := by decide +kernel
