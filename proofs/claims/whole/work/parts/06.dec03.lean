theorem dX10_sellers_161 : decode cX10_sellers 161 = .ok (.goto (-90), 3) := by decide +kernel
theorem dX10_sellers_164 : decode cX10_sellers 164 = .ok (.iinc 7 1, 3) := by decide +kernel
theorem dX10_sellers_167 : decode cX10_sellers 167 = .ok (.goto (-105), 3) := by decide +kernel
theorem dX10_sellers_170 : decode cX10_sellers 170 = .ok (.iload_n 3, 1) := by decide +kernel
theorem dX10_sellers_171 : decode cX10_sellers 171 = .ok (.ifCond .ne 8, 3) := by decide +kernel
theorem dX10_sellers_174 : decode cX10_sellers 174 = .ok (.iload 4, 2) := by decide +kernel
theorem dX10_sellers_176 : decode cX10_sellers 176 = .ok (.goto 15, 3) := by decide +kernel
theorem dX10_sellers_179 : decode cX10_sellers 179 = .ok (.iload_n 3, 1) := by decide +kernel
theorem dX10_sellers_180 : decode cX10_sellers 180 = .ok (.iconst 1, 1) := by decide +kernel
theorem dX10_sellers_181 : decode cX10_sellers 181 = .ok (.if_icmp .ne 8, 3) := by decide +kernel
theorem dX10_sellers_184 : decode cX10_sellers 184 = .ok (.iload 5, 2) := by decide +kernel
theorem dX10_sellers_186 : decode cX10_sellers 186 = .ok (.goto 5, 3) := by decide +kernel
theorem dX10_sellers_189 : decode cX10_sellers 189 = .ok (.iload 6, 2) := by decide +kernel
theorem dX10_sellers_191 : decode cX10_sellers 191 = .ok (.ireturn, 1) := by decide +kernel
theorem dX10_even_0 : decode cX10_even 0 = .ok (.aload_n 0, 1) := by decide +kernel
theorem dX10_even_1 : decode cX10_even 1 = .ok (.iconst 0, 1) := by decide +kernel
theorem dX10_even_2 : decode cX10_even 2 = .ok (.putfield 92, 3) := by decide +kernel
theorem dX10_even_5 : decode cX10_even 5 = .ok (.aload_n 0, 1) := by decide +kernel
theorem dX10_even_6 : decode cX10_even 6 = .ok (.iload_n 1, 1) := by decide +kernel
theorem dX10_even_7 : decode cX10_even 7 = .ok (.iconst 0, 1) := by decide +kernel
theorem dX10_even_8 : decode cX10_even 8 = .ok (.bipush 12, 2) := by decide +kernel
theorem dX10_even_10 : decode cX10_even 10 = .ok (.invokestatic 126, 3) := by decide +kernel
theorem dX10_even_13 : decode cX10_even 13 = .ok (.ifCond .eq 22, 3) := by decide +kernel
theorem dX10_even_16 : decode cX10_even 16 = .ok (.iload_n 2, 1) := by decide +kernel
theorem dX10_even_17 : decode cX10_even 17 = .ok (.iconst 0, 1) := by decide +kernel
theorem dX10_even_18 : decode cX10_even 18 = .ok (.bipush 16, 2) := by decide +kernel
theorem dX10_even_20 : decode cX10_even 20 = .ok (.invokestatic 126, 3) := by decide +kernel
theorem dX10_even_23 : decode cX10_even 23 = .ok (.ifCond .eq 12, 3) := by decide +kernel
theorem dX10_even_26 : decode cX10_even 26 = .ok (.iload_n 3, 1) := by decide +kernel
theorem dX10_even_27 : decode cX10_even 27 = .ok (.iconst 0, 1) := by decide +kernel
theorem dX10_even_28 : decode cX10_even 28 = .ok (.iconst 1, 1) := by decide +kernel
theorem dX10_even_29 : decode cX10_even 29 = .ok (.invokestatic 126, 3) := by decide +kernel
theorem dX10_even_32 : decode cX10_even 32 = .ok (.ifCond .ne 7, 3) := by decide +kernel
theorem dX10_even_35 : decode cX10_even 35 = .ok (.iconst 1, 1) := by decide +kernel
theorem dX10_even_36 : decode cX10_even 36 = .ok (.goto 4, 3) := by decide +kernel
theorem dX10_even_39 : decode cX10_even 39 = .ok (.iconst 0, 1) := by decide +kernel
theorem dX10_even_40 : decode cX10_even 40 = .ok (.iconst 1, 1) := by decide +kernel
theorem dX10_even_41 : decode cX10_even 41 = .ok (.iconst 1, 1) := by decide +kernel
theorem dX10_even_42 : decode cX10_even 42 = .ok (.invokevirtual 171, 3) := by decide +kernel
theorem dX10_even_45 : decode cX10_even 45 = .ok (.ifCond .eq 5, 3) := by decide +kernel
theorem dX10_even_48 : decode cX10_even 48 = .ok (.lconst 0, 1) := by decide +kernel
theorem dX10_even_49 : decode cX10_even 49 = .ok (.lreturn, 1) := by decide +kernel
theorem dX10_even_50 : decode cX10_even 50 = .ok (.iload_n 1, 1) := by decide +kernel
theorem dX10_even_51 : decode cX10_even 51 = .ok (.iconst 2, 1) := by decide +kernel
theorem dX10_even_52 : decode cX10_even 52 = .ok (.irem, 1) := by decide +kernel
theorem dX10_even_53 : decode cX10_even 53 = .ok (.ifCond .ne 7, 3) := by decide +kernel
theorem dX10_even_56 : decode cX10_even 56 = .ok (.lconst 1, 1) := by decide +kernel
theorem dX10_even_57 : decode cX10_even 57 = .ok (.goto 4, 3) := by decide +kernel
theorem dX10_even_60 : decode cX10_even 60 = .ok (.lconst 0, 1) := by decide +kernel
theorem dX10_even_61 : decode cX10_even 61 = .ok (.lstore 4, 2) := by decide +kernel
theorem dX10_even_63 : decode cX10_even 63 = .ok (.iload_n 1, 1) := by decide +kernel
theorem dX10_even_64 : decode cX10_even 64 = .ok (.iconst 2, 1) := by decide +kernel
theorem dX10_even_65 : decode cX10_even 65 = .ok (.idiv, 1) := by decide +kernel
theorem dX10_even_66 : decode cX10_even 66 = .ok (.istore 6, 2) := by decide +kernel
theorem dX10_even_68 : decode cX10_even 68 = .ok (.iconst 1, 1) := by decide +kernel
theorem dX10_even_69 : decode cX10_even 69 = .ok (.istore 7, 2) := by decide +kernel
theorem dX10_even_71 : decode cX10_even 71 = .ok (.iload 7, 2) := by decide +kernel
theorem dX10_even_73 : decode cX10_even 73 = .ok (.iload 6, 2) := by decide +kernel
theorem dX10_even_75 : decode cX10_even 75 = .ok (.if_icmp .gt 24, 3) := by decide +kernel
theorem dX10_even_78 : decode cX10_even 78 = .ok (.lload 4, 2) := by decide +kernel
theorem dX10_even_80 : decode cX10_even 80 = .ok (.iload 6, 2) := by decide +kernel
theorem dX10_even_82 : decode cX10_even 82 = .ok (.iload 7, 2) := by decide +kernel
theorem dX10_even_84 : decode cX10_even 84 = .ok (.iadd, 1) := by decide +kernel
theorem dX10_even_85 : decode cX10_even 85 = .ok (.i2l, 1) := by decide +kernel
theorem dX10_even_86 : decode cX10_even 86 = .ok (.lmul, 1) := by decide +kernel
theorem dX10_even_87 : decode cX10_even 87 = .ok (.iload 7, 2) := by decide +kernel
theorem dX10_even_89 : decode cX10_even 89 = .ok (.i2l, 1) := by decide +kernel
theorem dX10_even_90 : decode cX10_even 90 = .ok (.ldiv, 1) := by decide +kernel
theorem dX10_even_91 : decode cX10_even 91 = .ok (.lstore 4, 2) := by decide +kernel
theorem dX10_even_93 : decode cX10_even 93 = .ok (.iinc 7 1, 3) := by decide +kernel
theorem dX10_even_96 : decode cX10_even 96 = .ok (.goto (-25), 3) := by decide +kernel
theorem dX10_even_99 : decode cX10_even 99 = .ok (.iconst 0, 1) := by decide +kernel
theorem dX10_even_100 : decode cX10_even 100 = .ok (.istore 7, 2) := by decide +kernel
theorem dX10_even_102 : decode cX10_even 102 = .ok (.iload 7, 2) := by decide +kernel
theorem dX10_even_104 : decode cX10_even 104 = .ok (.iload 6, 2) := by decide +kernel
theorem dX10_even_106 : decode cX10_even 106 = .ok (.if_icmp .ge 21, 3) := by decide +kernel
theorem dX10_even_109 : decode cX10_even 109 = .ok (.lload 4, 2) := by decide +kernel
theorem dX10_even_111 : decode cX10_even 111 = .ok (.iload_n 2, 1) := by decide +kernel
theorem dX10_even_112 : decode cX10_even 112 = .ok (.bipush 16, 2) := by decide +kernel
theorem dX10_even_114 : decode cX10_even 114 = .ok (.iload_n 2, 1) := by decide +kernel
theorem dX10_even_115 : decode cX10_even 115 = .ok (.isub, 1) := by decide +kernel
theorem dX10_even_116 : decode cX10_even 116 = .ok (.imul, 1) := by decide +kernel
theorem dX10_even_117 : decode cX10_even 117 = .ok (.i2l, 1) := by decide +kernel
theorem dX10_even_118 : decode cX10_even 118 = .ok (.lmul, 1) := by decide +kernel
theorem dX10_even_119 : decode cX10_even 119 = .ok (.lstore 4, 2) := by decide +kernel
theorem dX10_even_121 : decode cX10_even 121 = .ok (.iinc 7 1, 3) := by decide +kernel
theorem dX10_even_124 : decode cX10_even 124 = .ok (.goto (-22), 3) := by decide +kernel
theorem dX10_even_127 : decode cX10_even 127 = .ok (.lload 4, 2) := by decide +kernel
theorem dX10_even_129 : decode cX10_even 129 = .ok (.lconst 1, 1) := by decide +kernel
theorem dX10_even_130 : decode cX10_even 130 = .ok (.iconst 4, 1) := by decide +kernel
theorem dX10_even_131 : decode cX10_even 131 = .ok (.iload_n 1, 1) := by decide +kernel
theorem dX10_even_132 : decode cX10_even 132 = .ok (.imul, 1) := by decide +kernel
theorem dX10_even_133 : decode cX10_even 133 = .ok (.lshl, 1) := by decide +kernel
theorem dX10_even_134 : decode cX10_even 134 = .ok (.iload_n 3, 1) := by decide +kernel
theorem dX10_even_135 : decode cX10_even 135 = .ok (.invokestatic 362, 3) := by decide +kernel
theorem dX10_even_138 : decode cX10_even 138 = .ok (.lreturn, 1) := by decide +kernel
theorem dX10_givenBy_0 : decode cX10_givenBy 0 = .ok (.iconst 0, 1) := by decide +kernel
theorem dX10_givenBy_1 : decode cX10_givenBy 1 = .ok (.istore_n 3, 1) := by decide +kernel
theorem dX10_givenBy_2 : decode cX10_givenBy 2 = .ok (.iconst 0, 1) := by decide +kernel
theorem dX10_givenBy_3 : decode cX10_givenBy 3 = .ok (.istore 4, 2) := by decide +kernel
theorem dX10_givenBy_5 : decode cX10_givenBy 5 = .ok (.iload 4, 2) := by decide +kernel
theorem dX10_givenBy_7 : decode cX10_givenBy 7 = .ok (.aload_n 0, 1) := by decide +kernel
theorem dX10_givenBy_8 : decode cX10_givenBy 8 = .ok (.getfield 23, 3) := by decide +kernel
theorem dX10_givenBy_11 : decode cX10_givenBy 11 = .ok (.iconst 0, 1) := by decide +kernel
theorem dX10_givenBy_12 : decode cX10_givenBy 12 = .ok (.iaload, 1) := by decide +kernel
theorem dX10_givenBy_13 : decode cX10_givenBy 13 = .ok (.if_icmp .ge 38, 3) := by decide +kernel
theorem dX10_givenBy_16 : decode cX10_givenBy 16 = .ok (.iload_n 3, 1) := by decide +kernel
theorem dX10_givenBy_17 : decode cX10_givenBy 17 = .ok (.iload_n 1, 1) := by decide +kernel
theorem dX10_givenBy_18 : decode cX10_givenBy 18 = .ok (.iload 4, 2) := by decide +kernel
theorem dX10_givenBy_20 : decode cX10_givenBy 20 = .ok (.invokestatic 345, 3) := by decide +kernel
theorem dX10_givenBy_23 : decode cX10_givenBy 23 = .ok (.ifCond .eq 19, 3) := by decide +kernel
theorem dX10_givenBy_26 : decode cX10_givenBy 26 = .ok (.iload_n 2, 1) := by decide +kernel
theorem dX10_givenBy_27 : decode cX10_givenBy 27 = .ok (.aload_n 0, 1) := by decide +kernel
theorem dX10_givenBy_28 : decode cX10_givenBy 28 = .ok (.getfield 61, 3) := by decide +kernel
theorem dX10_givenBy_31 : decode cX10_givenBy 31 = .ok (.iconst 0, 1) := by decide +kernel
theorem dX10_givenBy_32 : decode cX10_givenBy 32 = .ok (.iload 4, 2) := by decide +kernel
theorem dX10_givenBy_34 : decode cX10_givenBy 34 = .ok (.iadd, 1) := by decide +kernel
theorem dX10_givenBy_35 : decode cX10_givenBy 35 = .ok (.iaload, 1) := by decide +kernel
theorem dX10_givenBy_36 : decode cX10_givenBy 36 = .ok (.invokestatic 235, 3) := by decide +kernel
theorem dX10_givenBy_39 : decode cX10_givenBy 39 = .ok (.goto 4, 3) := by decide +kernel
theorem dX10_givenBy_42 : decode cX10_givenBy 42 = .ok (.iconst 0, 1) := by decide +kernel
theorem dX10_givenBy_43 : decode cX10_givenBy 43 = .ok (.iadd, 1) := by decide +kernel
theorem dX10_givenBy_44 : decode cX10_givenBy 44 = .ok (.istore_n 3, 1) := by decide +kernel
theorem dX10_givenBy_45 : decode cX10_givenBy 45 = .ok (.iinc 4 1, 3) := by decide +kernel
theorem dX10_givenBy_48 : decode cX10_givenBy 48 = .ok (.goto (-43), 3) := by decide +kernel
theorem dX10_givenBy_51 : decode cX10_givenBy 51 = .ok (.iload_n 3, 1) := by decide +kernel
theorem dX10_givenBy_52 : decode cX10_givenBy 52 = .ok (.ireturn, 1) := by decide +kernel
theorem dX10_share_0 : decode cX10_share 0 = .ok (.aload_n 0, 1) := by decide +kernel
theorem dX10_share_1 : decode cX10_share 1 = .ok (.iconst 0, 1) := by decide +kernel
theorem dX10_share_2 : decode cX10_share 2 = .ok (.putfield 92, 3) := by decide +kernel
theorem dX10_share_5 : decode cX10_share 5 = .ok (.aload_n 0, 1) := by decide +kernel
theorem dX10_share_6 : decode cX10_share 6 = .ok (.aload_n 0, 1) := by decide +kernel
theorem dX10_share_7 : decode cX10_share 7 = .ok (.iload_n 1, 1) := by decide +kernel
theorem dX10_share_8 : decode cX10_share 8 = .ok (.invokevirtual 328, 3) := by decide +kernel
theorem dX10_share_11 : decode cX10_share 11 = .ok (.ifCond .ne 7, 3) := by decide +kernel
theorem dX10_share_14 : decode cX10_share 14 = .ok (.iconst 1, 1) := by decide +kernel
theorem dX10_share_15 : decode cX10_share 15 = .ok (.goto 4, 3) := by decide +kernel
theorem dX10_share_18 : decode cX10_share 18 = .ok (.iconst 0, 1) := by decide +kernel
theorem dX10_share_19 : decode cX10_share 19 = .ok (.iconst 1, 1) := by decide +kernel
theorem dX10_share_20 : decode cX10_share 20 = .ok (.iconst 0, 1) := by decide +kernel
theorem dX10_share_21 : decode cX10_share 21 = .ok (.invokevirtual 171, 3) := by decide +kernel
theorem dX10_share_24 : decode cX10_share 24 = .ok (.ifCond .ne 36, 3) := by decide +kernel
theorem dX10_share_27 : decode cX10_share 27 = .ok (.aload_n 0, 1) := by decide +kernel
theorem dX10_share_28 : decode cX10_share 28 = .ok (.aload_n 0, 1) := by decide +kernel
theorem dX10_share_29 : decode cX10_share 29 = .ok (.iload_n 2, 1) := by decide +kernel
theorem dX10_share_30 : decode cX10_share 30 = .ok (.invokevirtual 379, 3) := by decide +kernel
theorem dX10_share_33 : decode cX10_share 33 = .ok (.ifCond .eq 14, 3) := by decide +kernel
theorem dX10_share_36 : decode cX10_share 36 = .ok (.iload_n 3, 1) := by decide +kernel
theorem dX10_share_37 : decode cX10_share 37 = .ok (.iconst 0, 1) := by decide +kernel
theorem dX10_share_38 : decode cX10_share 38 = .ok (.sipush 999, 3) := by decide +kernel
theorem dX10_share_41 : decode cX10_share 41 = .ok (.invokestatic 126, 3) := by decide +kernel
theorem dX10_share_44 : decode cX10_share 44 = .ok (.ifCond .ne 7, 3) := by decide +kernel
theorem dX10_share_47 : decode cX10_share 47 = .ok (.iconst 1, 1) := by decide +kernel
theorem dX10_share_48 : decode cX10_share 48 = .ok (.goto 4, 3) := by decide +kernel
theorem dX10_share_51 : decode cX10_share 51 = .ok (.iconst 0, 1) := by decide +kernel
theorem dX10_share_52 : decode cX10_share 52 = .ok (.iconst 2, 1) := by decide +kernel
theorem dX10_share_53 : decode cX10_share 53 = .ok (.iconst 1, 1) := by decide +kernel
theorem dX10_share_54 : decode cX10_share 54 = .ok (.invokevirtual 171, 3) := by decide +kernel
theorem dX10_share_57 : decode cX10_share 57 = .ok (.ifCond .eq 5, 3) := by decide +kernel
theorem dX10_share_60 : decode cX10_share 60 = .ok (.iconst 0, 1) := by decide +kernel
theorem dX10_share_61 : decode cX10_share 61 = .ok (.ireturn, 1) := by decide +kernel
theorem dX10_share_62 : decode cX10_share 62 = .ok (.iconst 0, 1) := by decide +kernel
theorem dX10_share_63 : decode cX10_share 63 = .ok (.istore 4, 2) := by decide +kernel
theorem dX10_share_65 : decode cX10_share 65 = .ok (.iload 4, 2) := by decide +kernel
theorem dX10_share_67 : decode cX10_share 67 = .ok (.bipush 60, 2) := by decide +kernel
theorem dX10_share_69 : decode cX10_share 69 = .ok (.if_icmp .ge 22, 3) := by decide +kernel
theorem dX10_share_72 : decode cX10_share 72 = .ok (.aload_n 0, 1) := by decide +kernel
theorem dX10_share_73 : decode cX10_share 73 = .ok (.iload_n 2, 1) := by decide +kernel
theorem dX10_share_74 : decode cX10_share 74 = .ok (.iload 4, 2) := by decide +kernel
theorem dX10_share_76 : decode cX10_share 76 = .ok (.iconst 1, 1) := by decide +kernel
theorem dX10_share_77 : decode cX10_share 77 = .ok (.iadd, 1) := by decide +kernel
theorem dX10_share_78 : decode cX10_share 78 = .ok (.invokevirtual 401, 3) := by decide +kernel
theorem dX10_share_81 : decode cX10_share 81 = .ok (.iload_n 3, 1) := by decide +kernel
theorem dX10_share_82 : decode cX10_share 82 = .ok (.if_icmp .gt 9, 3) := by decide +kernel
theorem dX10_share_85 : decode cX10_share 85 = .ok (.iinc 4 1, 3) := by decide +kernel
theorem dX10_share_88 : decode cX10_share 88 = .ok (.goto (-23), 3) := by decide +kernel
theorem dX10_share_91 : decode cX10_share 91 = .ok (.iload_n 2, 1) := by decide +kernel
theorem dX10_share_92 : decode cX10_share 92 = .ok (.iload_n 1, 1) := by decide +kernel
theorem dX10_share_93 : decode cX10_share 93 = .ok (.invokestatic 345, 3) := by decide +kernel
theorem dX10_share_96 : decode cX10_share 96 = .ok (.ifCond .eq 19, 3) := by decide +kernel
theorem dX10_share_99 : decode cX10_share 99 = .ok (.iload 4, 2) := by decide +kernel
theorem dX10_share_101 : decode cX10_share 101 = .ok (.aload_n 0, 1) := by decide +kernel
theorem dX10_share_102 : decode cX10_share 102 = .ok (.getfield 61, 3) := by decide +kernel
theorem dX10_share_105 : decode cX10_share 105 = .ok (.iconst 0, 1) := by decide +kernel
theorem dX10_share_106 : decode cX10_share 106 = .ok (.iload_n 1, 1) := by decide +kernel
theorem dX10_share_107 : decode cX10_share 107 = .ok (.iadd, 1) := by decide +kernel
theorem dX10_share_108 : decode cX10_share 108 = .ok (.iaload, 1) := by decide +kernel
theorem dX10_share_109 : decode cX10_share 109 = .ok (.invokestatic 235, 3) := by decide +kernel
theorem dX10_share_112 : decode cX10_share 112 = .ok (.goto 4, 3) := by decide +kernel
theorem dX10_share_115 : decode cX10_share 115 = .ok (.iconst 0, 1) := by decide +kernel
theorem dX10_share_116 : decode cX10_share 116 = .ok (.ireturn, 1) := by decide +kernel
theorem dX10_heaviest_0 : decode cX10_heaviest 0 = .ok (.aload_n 0, 1) := by decide +kernel
theorem dX10_heaviest_1 : decode cX10_heaviest 1 = .ok (.iconst 0, 1) := by decide +kernel
theorem dX10_heaviest_2 : decode cX10_heaviest 2 = .ok (.putfield 92, 3) := by decide +kernel
theorem dX10_heaviest_5 : decode cX10_heaviest 5 = .ok (.aload_n 0, 1) := by decide +kernel
theorem dX10_heaviest_6 : decode cX10_heaviest 6 = .ok (.iload_n 1, 1) := by decide +kernel
theorem dX10_heaviest_7 : decode cX10_heaviest 7 = .ok (.iconst 0, 1) := by decide +kernel
theorem dX10_heaviest_8 : decode cX10_heaviest 8 = .ok (.iconst 1, 1) := by decide +kernel
theorem dX10_heaviest_9 : decode cX10_heaviest 9 = .ok (.invokestatic 126, 3) := by decide +kernel
theorem dX10_heaviest_12 : decode cX10_heaviest 12 = .ok (.ifCond .ne 7, 3) := by decide +kernel
theorem dX10_heaviest_15 : decode cX10_heaviest 15 = .ok (.iconst 1, 1) := by decide +kernel
theorem dX10_heaviest_16 : decode cX10_heaviest 16 = .ok (.goto 4, 3) := by decide +kernel
theorem dX10_heaviest_19 : decode cX10_heaviest 19 = .ok (.iconst 0, 1) := by decide +kernel
theorem dX10_heaviest_20 : decode cX10_heaviest 20 = .ok (.iconst 1, 1) := by decide +kernel
theorem dX10_heaviest_21 : decode cX10_heaviest 21 = .ok (.iconst 1, 1) := by decide +kernel
theorem dX10_heaviest_22 : decode cX10_heaviest 22 = .ok (.invokevirtual 171, 3) := by decide +kernel
theorem dX10_heaviest_25 : decode cX10_heaviest 25 = .ok (.ifCond .eq 5, 3) := by decide +kernel
theorem dX10_heaviest_28 : decode cX10_heaviest 28 = .ok (.iconst 0, 1) := by decide +kernel
theorem dX10_heaviest_29 : decode cX10_heaviest 29 = .ok (.ireturn, 1) := by decide +kernel
theorem dX10_heaviest_30 : decode cX10_heaviest 30 = .ok (.aload_n 0, 1) := by decide +kernel
theorem dX10_heaviest_31 : decode cX10_heaviest 31 = .ok (.aload_n 0, 1) := by decide +kernel
theorem dX10_heaviest_32 : decode cX10_heaviest 32 = .ok (.getfield 61, 3) := by decide +kernel
theorem dX10_heaviest_35 : decode cX10_heaviest 35 = .ok (.invokevirtual 331, 3) := by decide +kernel
theorem dX10_heaviest_38 : decode cX10_heaviest 38 = .ok (.istore_n 2, 1) := by decide +kernel
theorem dX10_heaviest_39 : decode cX10_heaviest 39 = .ok (.iload_n 1, 1) := by decide +kernel
theorem dX10_heaviest_40 : decode cX10_heaviest 40 = .ok (.ifCond .eq 8, 3) := by decide +kernel
theorem dX10_heaviest_43 : decode cX10_heaviest 43 = .ok (.iload_n 2, 1) := by decide +kernel
theorem dX10_heaviest_44 : decode cX10_heaviest 44 = .ok (.iconst (-1), 1) := by decide +kernel
theorem dX10_heaviest_45 : decode cX10_heaviest 45 = .ok (.if_icmp .ne 7, 3) := by decide +kernel
theorem dX10_heaviest_48 : decode cX10_heaviest 48 = .ok (.iload_n 2, 1) := by decide +kernel
theorem dX10_heaviest_49 : decode cX10_heaviest 49 = .ok (.goto 11, 3) := by decide +kernel
theorem dX10_heaviest_52 : decode cX10_heaviest 52 = .ok (.aload_n 0, 1) := by decide +kernel
theorem dX10_heaviest_53 : decode cX10_heaviest 53 = .ok (.getfield 61, 3) := by decide +kernel
theorem dX10_heaviest_56 : decode cX10_heaviest 56 = .ok (.iconst 0, 1) := by decide +kernel
theorem dX10_heaviest_57 : decode cX10_heaviest 57 = .ok (.iload_n 2, 1) := by decide +kernel
theorem dX10_heaviest_58 : decode cX10_heaviest 58 = .ok (.iadd, 1) := by decide +kernel
theorem dX10_heaviest_59 : decode cX10_heaviest 59 = .ok (.iaload, 1) := by decide +kernel
theorem dX10_heaviest_60 : decode cX10_heaviest 60 = .ok (.ireturn, 1) := by decide +kernel
theorem dX10_alike_0 : decode cX10_alike 0 = .ok (.aload_n 0, 1) := by decide +kernel
theorem dX10_alike_1 : decode cX10_alike 1 = .ok (.iconst 0, 1) := by decide +kernel
theorem dX10_alike_2 : decode cX10_alike 2 = .ok (.putfield 92, 3) := by decide +kernel
theorem dX10_alike_5 : decode cX10_alike 5 = .ok (.aload_n 0, 1) := by decide +kernel
theorem dX10_alike_6 : decode cX10_alike 6 = .ok (.iload_n 1, 1) := by decide +kernel
theorem dX10_alike_7 : decode cX10_alike 7 = .ok (.iconst 0, 1) := by decide +kernel
theorem dX10_alike_8 : decode cX10_alike 8 = .ok (.iconst 1, 1) := by decide +kernel
theorem dX10_alike_9 : decode cX10_alike 9 = .ok (.invokestatic 126, 3) := by decide +kernel
theorem dX10_alike_12 : decode cX10_alike 12 = .ok (.ifCond .ne 7, 3) := by decide +kernel
theorem dX10_alike_15 : decode cX10_alike 15 = .ok (.iconst 1, 1) := by decide +kernel
theorem dX10_alike_16 : decode cX10_alike 16 = .ok (.goto 4, 3) := by decide +kernel
theorem dX10_alike_19 : decode cX10_alike 19 = .ok (.iconst 0, 1) := by decide +kernel
theorem dX10_alike_20 : decode cX10_alike 20 = .ok (.iconst 1, 1) := by decide +kernel
theorem dX10_alike_21 : decode cX10_alike 21 = .ok (.iconst 1, 1) := by decide +kernel
theorem dX10_alike_22 : decode cX10_alike 22 = .ok (.invokevirtual 171, 3) := by decide +kernel
theorem dX10_alike_25 : decode cX10_alike 25 = .ok (.ifCond .eq 5, 3) := by decide +kernel
theorem dX10_alike_28 : decode cX10_alike 28 = .ok (.iconst 0, 1) := by decide +kernel
theorem dX10_alike_29 : decode cX10_alike 29 = .ok (.ireturn, 1) := by decide +kernel
theorem dX10_alike_30 : decode cX10_alike 30 = .ok (.iconst 0, 1) := by decide +kernel
theorem dX10_alike_31 : decode cX10_alike 31 = .ok (.istore_n 2, 1) := by decide +kernel
theorem dX10_alike_32 : decode cX10_alike 32 = .ok (.iconst (-1), 1) := by decide +kernel
theorem dX10_alike_33 : decode cX10_alike 33 = .ok (.istore_n 3, 1) := by decide +kernel
theorem dX10_alike_34 : decode cX10_alike 34 = .ok (.iconst 0, 1) := by decide +kernel
theorem dX10_alike_35 : decode cX10_alike 35 = .ok (.istore 4, 2) := by decide +kernel
theorem dX10_alike_37 : decode cX10_alike 37 = .ok (.iload 4, 2) := by decide +kernel
theorem dX10_alike_39 : decode cX10_alike 39 = .ok (.aload_n 0, 1) := by decide +kernel
theorem dX10_alike_40 : decode cX10_alike 40 = .ok (.getfield 23, 3) := by decide +kernel
theorem dX10_alike_43 : decode cX10_alike 43 = .ok (.iconst 0, 1) := by decide +kernel
theorem dX10_alike_44 : decode cX10_alike 44 = .ok (.iaload, 1) := by decide +kernel
theorem dX10_alike_45 : decode cX10_alike 45 = .ok (.if_icmp .ge 76, 3) := by decide +kernel
theorem dX10_alike_48 : decode cX10_alike 48 = .ok (.iload 4, 2) := by decide +kernel
theorem dX10_alike_50 : decode cX10_alike 50 = .ok (.iconst 1, 1) := by decide +kernel
theorem dX10_alike_51 : decode cX10_alike 51 = .ok (.iadd, 1) := by decide +kernel
theorem dX10_alike_52 : decode cX10_alike 52 = .ok (.istore 5, 2) := by decide +kernel
theorem dX10_alike_54 : decode cX10_alike 54 = .ok (.iload 5, 2) := by decide +kernel
theorem dX10_alike_56 : decode cX10_alike 56 = .ok (.aload_n 0, 1) := by decide +kernel
theorem dX10_alike_57 : decode cX10_alike 57 = .ok (.getfield 23, 3) := by decide +kernel
theorem dX10_alike_60 : decode cX10_alike 60 = .ok (.iconst 0, 1) := by decide +kernel
theorem dX10_alike_61 : decode cX10_alike 61 = .ok (.iaload, 1) := by decide +kernel
theorem dX10_alike_62 : decode cX10_alike 62 = .ok (.if_icmp .ge 53, 3) := by decide +kernel
theorem dX10_alike_65 : decode cX10_alike 65 = .ok (.aload_n 0, 1) := by decide +kernel
theorem dX10_alike_66 : decode cX10_alike 66 = .ok (.getfield 61, 3) := by decide +kernel
theorem dX10_alike_69 : decode cX10_alike 69 = .ok (.iconst 0, 1) := by decide +kernel
theorem dX10_alike_70 : decode cX10_alike 70 = .ok (.iload 4, 2) := by decide +kernel
theorem dX10_alike_72 : decode cX10_alike 72 = .ok (.iadd, 1) := by decide +kernel
theorem dX10_alike_73 : decode cX10_alike 73 = .ok (.iaload, 1) := by decide +kernel
theorem dX10_alike_74 : decode cX10_alike 74 = .ok (.aload_n 0, 1) := by decide +kernel
theorem dX10_alike_75 : decode cX10_alike 75 = .ok (.getfield 61, 3) := by decide +kernel
theorem dX10_alike_78 : decode cX10_alike 78 = .ok (.iconst 0, 1) := by decide +kernel
theorem dX10_alike_79 : decode cX10_alike 79 = .ok (.iload 5, 2) := by decide +kernel
theorem dX10_alike_81 : decode cX10_alike 81 = .ok (.iadd, 1) := by decide +kernel
theorem dX10_alike_82 : decode cX10_alike 82 = .ok (.iaload, 1) := by decide +kernel
theorem dX10_alike_83 : decode cX10_alike 83 = .ok (.if_icmp .eq 6, 3) := by decide +kernel
theorem dX10_alike_86 : decode cX10_alike 86 = .ok (.goto 23, 3) := by decide +kernel
theorem dX10_alike_89 : decode cX10_alike 89 = .ok (.iload_n 2, 1) := by decide +kernel
theorem dX10_alike_90 : decode cX10_alike 90 = .ok (.ifCond .ne 14, 3) := by decide +kernel
theorem dX10_alike_93 : decode cX10_alike 93 = .ok (.bipush 10, 2) := by decide +kernel
theorem dX10_alike_95 : decode cX10_alike 95 = .ok (.iload 4, 2) := by decide +kernel
theorem dX10_alike_97 : decode cX10_alike 97 = .ok (.imul, 1) := by decide +kernel
theorem dX10_alike_98 : decode cX10_alike 98 = .ok (.iload 5, 2) := by decide +kernel
theorem dX10_alike_100 : decode cX10_alike 100 = .ok (.iadd, 1) := by decide +kernel
theorem dX10_alike_101 : decode cX10_alike 101 = .ok (.goto 4, 3) := by decide +kernel
theorem dX10_alike_104 : decode cX10_alike 104 = .ok (.iload_n 3, 1) := by decide +kernel
theorem dX10_alike_105 : decode cX10_alike 105 = .ok (.istore_n 3, 1) := by decide +kernel
theorem dX10_alike_106 : decode cX10_alike 106 = .ok (.iinc 2 1, 3) := by decide +kernel
theorem dX10_alike_109 : decode cX10_alike 109 = .ok (.iinc 5 1, 3) := by decide +kernel
theorem dX10_alike_112 : decode cX10_alike 112 = .ok (.goto (-58), 3) := by decide +kernel
theorem dX10_alike_115 : decode cX10_alike 115 = .ok (.iinc 4 1, 3) := by decide +kernel
theorem dX10_alike_118 : decode cX10_alike 118 = .ok (.goto (-81), 3) := by decide +kernel
theorem dX10_alike_121 : decode cX10_alike 121 = .ok (.iload_n 1, 1) := by decide +kernel
theorem dX10_alike_122 : decode cX10_alike 122 = .ok (.ifCond .ne 7, 3) := by decide +kernel
theorem dX10_alike_125 : decode cX10_alike 125 = .ok (.iload_n 2, 1) := by decide +kernel
theorem dX10_alike_126 : decode cX10_alike 126 = .ok (.goto 4, 3) := by decide +kernel
theorem dX10_alike_129 : decode cX10_alike 129 = .ok (.iload_n 3, 1) := by decide +kernel
theorem dX10_alike_130 : decode cX10_alike 130 = .ok (.ireturn, 1) := by decide +kernel
theorem dX10_against_0 : decode cX10_against 0 = .ok (.aload_n 0, 1) := by decide +kernel
theorem dX10_against_1 : decode cX10_against 1 = .ok (.iconst 0, 1) := by decide +kernel
theorem dX10_against_2 : decode cX10_against 2 = .ok (.putfield 92, 3) := by decide +kernel
theorem dX10_against_5 : decode cX10_against 5 = .ok (.aload_n 0, 1) := by decide +kernel
theorem dX10_against_6 : decode cX10_against 6 = .ok (.aload_n 0, 1) := by decide +kernel
theorem dX10_against_7 : decode cX10_against 7 = .ok (.iload_n 1, 1) := by decide +kernel
theorem dX10_against_8 : decode cX10_against 8 = .ok (.invokevirtual 328, 3) := by decide +kernel
theorem dX10_against_11 : decode cX10_against 11 = .ok (.ifCond .eq 11, 3) := by decide +kernel
theorem dX10_against_14 : decode cX10_against 14 = .ok (.aload_n 0, 1) := by decide +kernel
theorem dX10_against_15 : decode cX10_against 15 = .ok (.iload_n 2, 1) := by decide +kernel
theorem dX10_against_16 : decode cX10_against 16 = .ok (.invokevirtual 328, 3) := by decide +kernel
theorem dX10_against_19 : decode cX10_against 19 = .ok (.ifCond .ne 7, 3) := by decide +kernel
theorem dX10_against_22 : decode cX10_against 22 = .ok (.iconst 1, 1) := by decide +kernel
theorem dX10_against_23 : decode cX10_against 23 = .ok (.goto 4, 3) := by decide +kernel
theorem dX10_against_26 : decode cX10_against 26 = .ok (.iconst 0, 1) := by decide +kernel
theorem dX10_against_27 : decode cX10_against 27 = .ok (.iconst 1, 1) := by decide +kernel
theorem dX10_against_28 : decode cX10_against 28 = .ok (.iconst 0, 1) := by decide +kernel
theorem dX10_against_29 : decode cX10_against 29 = .ok (.invokevirtual 171, 3) := by decide +kernel
theorem dX10_against_32 : decode cX10_against 32 = .ok (.ifCond .eq 5, 3) := by decide +kernel
theorem dX10_against_35 : decode cX10_against 35 = .ok (.iconst 0, 1) := by decide +kernel
theorem dX10_against_36 : decode cX10_against 36 = .ok (.ireturn, 1) := by decide +kernel
theorem dX10_against_37 : decode cX10_against 37 = .ok (.iconst 1, 1) := by decide +kernel
theorem dX10_against_38 : decode cX10_against 38 = .ok (.istore_n 3, 1) := by decide +kernel
theorem dX10_against_39 : decode cX10_against 39 = .ok (.iload_n 3, 1) := by decide +kernel
theorem dX10_against_40 : decode cX10_against 40 = .ok (.bipush 10, 2) := by decide +kernel
theorem dX10_against_42 : decode cX10_against 42 = .ok (.if_icmp .ge 30, 3) := by decide +kernel
theorem dX10_against_45 : decode cX10_against 45 = .ok (.aload_n 0, 1) := by decide +kernel
theorem dX10_against_46 : decode cX10_against 46 = .ok (.getfield 61, 3) := by decide +kernel
theorem dX10_against_49 : decode cX10_against 49 = .ok (.iconst 0, 1) := by decide +kernel
theorem dX10_against_50 : decode cX10_against 50 = .ok (.iload_n 1, 1) := by decide +kernel
theorem dX10_against_51 : decode cX10_against 51 = .ok (.iadd, 1) := by decide +kernel
theorem dX10_against_52 : decode cX10_against 52 = .ok (.iaload, 1) := by decide +kernel
theorem dX10_against_53 : decode cX10_against 53 = .ok (.iload_n 3, 1) := by decide +kernel
theorem dX10_against_54 : decode cX10_against 54 = .ok (.imul, 1) := by decide +kernel
theorem dX10_against_55 : decode cX10_against 55 = .ok (.aload_n 0, 1) := by decide +kernel
theorem dX10_against_56 : decode cX10_against 56 = .ok (.getfield 61, 3) := by decide +kernel
theorem dX10_against_59 : decode cX10_against 59 = .ok (.iconst 0, 1) := by decide +kernel
theorem dX10_against_60 : decode cX10_against 60 = .ok (.iload_n 2, 1) := by decide +kernel
theorem dX10_against_61 : decode cX10_against 61 = .ok (.iadd, 1) := by decide +kernel
theorem dX10_against_62 : decode cX10_against 62 = .ok (.iaload, 1) := by decide +kernel
theorem dX10_against_63 : decode cX10_against 63 = .ok (.if_icmp .ge 9, 3) := by decide +kernel
theorem dX10_against_66 : decode cX10_against 66 = .ok (.iinc 3 1, 3) := by decide +kernel
theorem dX10_against_69 : decode cX10_against 69 = .ok (.goto (-30), 3) := by decide +kernel
theorem dX10_against_72 : decode cX10_against 72 = .ok (.iload_n 3, 1) := by decide +kernel
theorem dX10_against_73 : decode cX10_against 73 = .ok (.bipush 10, 2) := by decide +kernel
theorem dX10_against_75 : decode cX10_against 75 = .ok (.if_icmp .ne 7, 3) := by decide +kernel
theorem dX10_against_78 : decode cX10_against 78 = .ok (.iconst (-1), 1) := by decide +kernel
theorem dX10_against_79 : decode cX10_against 79 = .ok (.goto 4, 3) := by decide +kernel
theorem dX10_against_82 : decode cX10_against 82 = .ok (.iload_n 3, 1) := by decide +kernel
theorem dX10_against_83 : decode cX10_against 83 = .ok (.ireturn, 1) := by decide +kernel
theorem dX10_draw_0 : decode cX10_draw 0 = .ok (.aload_n 0, 1) := by decide +kernel
theorem dX10_draw_1 : decode cX10_draw 1 = .ok (.aload_n 0, 1) := by decide +kernel
theorem dX10_draw_2 : decode cX10_draw 2 = .ok (.getfield 404, 3) := by decide +kernel
theorem dX10_draw_5 : decode cX10_draw 5 = .ok (.ldc_w 407, 3) := by decide +kernel
theorem dX10_draw_8 : decode cX10_draw 8 = .ok (.imul, 1) := by decide +kernel
theorem dX10_draw_9 : decode cX10_draw 9 = .ok (.sipush 12345, 3) := by decide +kernel
theorem dX10_draw_12 : decode cX10_draw 12 = .ok (.iadd, 1) := by decide +kernel
theorem dX10_draw_13 : decode cX10_draw 13 = .ok (.putfield 404, 3) := by decide +kernel
theorem dX10_draw_16 : decode cX10_draw 16 = .ok (.aload_n 0, 1) := by decide +kernel
theorem dX10_draw_17 : decode cX10_draw 17 = .ok (.getfield 404, 3) := by decide +kernel
theorem dX10_draw_20 : decode cX10_draw 20 = .ok (.bipush 16, 2) := by decide +kernel
theorem dX10_draw_22 : decode cX10_draw 22 = .ok (.ishr, 1) := by decide +kernel
theorem dX10_draw_23 : decode cX10_draw 23 = .ok (.sipush 32767, 3) := by decide +kernel
theorem dX10_draw_26 : decode cX10_draw 26 = .ok (.iand, 1) := by decide +kernel
theorem dX10_draw_27 : decode cX10_draw 27 = .ok (.iload_n 1, 1) := by decide +kernel
theorem dX10_draw_28 : decode cX10_draw 28 = .ok (.irem, 1) := by decide +kernel
theorem dX10_draw_29 : decode cX10_draw 29 = .ok (.ireturn, 1) := by decide +kernel
theorem dX10_fairBy_0 : decode cX10_fairBy 0 = .ok (.aload_n 0, 1) := by decide +kernel
theorem dX10_fairBy_1 : decode cX10_fairBy 1 = .ok (.getfield 61, 3) := by decide +kernel
theorem dX10_fairBy_4 : decode cX10_fairBy 4 = .ok (.aload_n 0, 1) := by decide +kernel
theorem dX10_fairBy_5 : decode cX10_fairBy 5 = .ok (.getfield 64, 3) := by decide +kernel
theorem dX10_fairBy_8 : decode cX10_fairBy 8 = .ok (.invokestatic 314, 3) := by decide +kernel
theorem dX10_fairBy_11 : decode cX10_fairBy 11 = .ok (.aload_n 0, 1) := by decide +kernel
theorem dX10_fairBy_12 : decode cX10_fairBy 12 = .ok (.iload_n 1, 1) := by decide +kernel
theorem dX10_fairBy_13 : decode cX10_fairBy 13 = .ok (.putfield 404, 3) := by decide +kernel
theorem dX10_fairBy_16 : decode cX10_fairBy 16 = .ok (.iconst 0, 1) := by decide +kernel
theorem dX10_fairBy_17 : decode cX10_fairBy 17 = .ok (.istore 4, 2) := by decide +kernel
theorem dX10_fairBy_19 : decode cX10_fairBy 19 = .ok (.iload 4, 2) := by decide +kernel
theorem dX10_fairBy_21 : decode cX10_fairBy 21 = .ok (.iload_n 2, 1) := by decide +kernel
theorem dX10_fairBy_22 : decode cX10_fairBy 22 = .ok (.if_icmp .ge 90, 3) := by decide +kernel
theorem dX10_fairBy_25 : decode cX10_fairBy 25 = .ok (.aload_n 0, 1) := by decide +kernel
theorem dX10_fairBy_26 : decode cX10_fairBy 26 = .ok (.getfield 23, 3) := by decide +kernel
theorem dX10_fairBy_29 : decode cX10_fairBy 29 = .ok (.iconst 0, 1) := by decide +kernel
theorem dX10_fairBy_30 : decode cX10_fairBy 30 = .ok (.iaload, 1) := by decide +kernel
theorem dX10_fairBy_31 : decode cX10_fairBy 31 = .ok (.ifCond .le 67, 3) := by decide +kernel
theorem dX10_fairBy_34 : decode cX10_fairBy 34 = .ok (.aload_n 0, 1) := by decide +kernel
theorem dX10_fairBy_35 : decode cX10_fairBy 35 = .ok (.aload_n 0, 1) := by decide +kernel
theorem dX10_fairBy_36 : decode cX10_fairBy 36 = .ok (.getfield 23, 3) := by decide +kernel
theorem dX10_fairBy_39 : decode cX10_fairBy 39 = .ok (.iconst 0, 1) := by decide +kernel
theorem dX10_fairBy_40 : decode cX10_fairBy 40 = .ok (.iaload, 1) := by decide +kernel
theorem dX10_fairBy_41 : decode cX10_fairBy 41 = .ok (.invokevirtual 408, 3) := by decide +kernel
theorem dX10_fairBy_44 : decode cX10_fairBy 44 = .ok (.istore 5, 2) := by decide +kernel
theorem dX10_fairBy_46 : decode cX10_fairBy 46 = .ok (.aload_n 0, 1) := by decide +kernel
theorem dX10_fairBy_47 : decode cX10_fairBy 47 = .ok (.aload_n 0, 1) := by decide +kernel
theorem dX10_fairBy_48 : decode cX10_fairBy 48 = .ok (.getfield 23, 3) := by decide +kernel
theorem dX10_fairBy_51 : decode cX10_fairBy 51 = .ok (.iconst 0, 1) := by decide +kernel
theorem dX10_fairBy_52 : decode cX10_fairBy 52 = .ok (.iaload, 1) := by decide +kernel
theorem dX10_fairBy_53 : decode cX10_fairBy 53 = .ok (.invokevirtual 408, 3) := by decide +kernel
theorem dX10_fairBy_56 : decode cX10_fairBy 56 = .ok (.istore 6, 2) := by decide +kernel
theorem dX10_fairBy_58 : decode cX10_fairBy 58 = .ok (.aload_n 0, 1) := by decide +kernel
theorem dX10_fairBy_59 : decode cX10_fairBy 59 = .ok (.aload_n 0, 1) := by decide +kernel
theorem dX10_fairBy_60 : decode cX10_fairBy 60 = .ok (.getfield 64, 3) := by decide +kernel
theorem dX10_fairBy_63 : decode cX10_fairBy 63 = .ok (.iload 5, 2) := by decide +kernel
theorem dX10_fairBy_65 : decode cX10_fairBy 65 = .ok (.iconst 1, 1) := by decide +kernel
theorem dX10_fairBy_66 : decode cX10_fairBy 66 = .ok (.aload_n 0, 1) := by decide +kernel
theorem dX10_fairBy_67 : decode cX10_fairBy 67 = .ok (.iconst 3, 1) := by decide +kernel
theorem dX10_fairBy_68 : decode cX10_fairBy 68 = .ok (.invokevirtual 408, 3) := by decide +kernel
theorem dX10_fairBy_71 : decode cX10_fairBy 71 = .ok (.iadd, 1) := by decide +kernel
theorem dX10_fairBy_72 : decode cX10_fairBy 72 = .ok (.iload 6, 2) := by decide +kernel
theorem dX10_fairBy_74 : decode cX10_fairBy 74 = .ok (.iconst 1, 1) := by decide +kernel
theorem dX10_fairBy_75 : decode cX10_fairBy 75 = .ok (.invokevirtual 286, 3) := by decide +kernel
theorem dX10_fairBy_78 : decode cX10_fairBy 78 = .ok (.pop, 1) := by decide +kernel
theorem dX10_fairBy_79 : decode cX10_fairBy 79 = .ok (.aload_n 0, 1) := by decide +kernel
theorem dX10_fairBy_80 : decode cX10_fairBy 80 = .ok (.bipush 16, 2) := by decide +kernel
theorem dX10_fairBy_82 : decode cX10_fairBy 82 = .ok (.invokevirtual 408, 3) := by decide +kernel
theorem dX10_fairBy_85 : decode cX10_fairBy 85 = .ok (.iload_n 3, 1) := by decide +kernel
theorem dX10_fairBy_86 : decode cX10_fairBy 86 = .ok (.if_icmp .ge 12, 3) := by decide +kernel
theorem dX10_fairBy_89 : decode cX10_fairBy 89 = .ok (.aload_n 0, 1) := by decide +kernel
theorem dX10_fairBy_90 : decode cX10_fairBy 90 = .ok (.getfield 64, 3) := by decide +kernel
theorem dX10_fairBy_93 : decode cX10_fairBy 93 = .ok (.iconst 0, 1) := by decide +kernel
theorem dX10_fairBy_94 : decode cX10_fairBy 94 = .ok (.invokestatic 289, 3) := by decide +kernel
theorem dX10_fairBy_97 : decode cX10_fairBy 97 = .ok (.pop, 1) := by decide +kernel
theorem dX10_fairBy_98 : decode cX10_fairBy 98 = .ok (.aload_n 0, 1) := by decide +kernel
theorem dX10_fairBy_99 : decode cX10_fairBy 99 = .ok (.aload_n 0, 1) := by decide +kernel
theorem dX10_fairBy_100 : decode cX10_fairBy 100 = .ok (.getfield 64, 3) := by decide +kernel
theorem dX10_fairBy_103 : decode cX10_fairBy 103 = .ok (.invokevirtual 297, 3) := by decide +kernel
theorem dX10_fairBy_106 : decode cX10_fairBy 106 = .ok (.iinc 4 1, 3) := by decide +kernel
theorem dX10_fairBy_109 : decode cX10_fairBy 109 = .ok (.goto (-90), 3) := by decide +kernel
theorem dX10_fairBy_112 : decode cX10_fairBy 112 = .ok (.return_, 1) := by decide +kernel
theorem dX10_isFair_0 : decode cX10_isFair 0 = .ok (.iload_n 0, 1) := by decide +kernel
theorem dX10_isFair_1 : decode cX10_isFair 1 = .ok (.iconst 1, 1) := by decide +kernel
theorem dX10_isFair_2 : decode cX10_isFair 2 = .ok (.bipush 96, 2) := by decide +kernel
theorem dX10_isFair_4 : decode cX10_isFair 4 = .ok (.invokestatic 126, 3) := by decide +kernel
theorem dX10_isFair_7 : decode cX10_isFair 7 = .ok (.ifCond .eq 17, 3) := by decide +kernel
theorem dX10_isFair_10 : decode cX10_isFair 10 = .ok (.iload_n 1, 1) := by decide +kernel
theorem dX10_isFair_11 : decode cX10_isFair 11 = .ok (.iconst 0, 1) := by decide +kernel
theorem dX10_isFair_12 : decode cX10_isFair 12 = .ok (.bipush 16, 2) := by decide +kernel
theorem dX10_isFair_14 : decode cX10_isFair 14 = .ok (.invokestatic 126, 3) := by decide +kernel
theorem dX10_isFair_17 : decode cX10_isFair 17 = .ok (.ifCond .eq 7, 3) := by decide +kernel
theorem dX10_isFair_20 : decode cX10_isFair 20 = .ok (.iconst 1, 1) := by decide +kernel
theorem dX10_isFair_21 : decode cX10_isFair 21 = .ok (.goto 4, 3) := by decide +kernel
theorem dX10_isFair_24 : decode cX10_isFair 24 = .ok (.iconst 0, 1) := by decide +kernel
theorem dX10_isFair_25 : decode cX10_isFair 25 = .ok (.ireturn, 1) := by decide +kernel
theorem dX10_fair_0 : decode cX10_fair 0 = .ok (.aload_n 0, 1) := by decide +kernel
theorem dX10_fair_1 : decode cX10_fair 1 = .ok (.iconst 0, 1) := by decide +kernel
theorem dX10_fair_2 : decode cX10_fair 2 = .ok (.putfield 92, 3) := by decide +kernel
theorem dX10_fair_5 : decode cX10_fair 5 = .ok (.aload_n 0, 1) := by decide +kernel
theorem dX10_fair_6 : decode cX10_fair 6 = .ok (.iload_n 2, 1) := by decide +kernel
theorem dX10_fair_7 : decode cX10_fair 7 = .ok (.iload_n 3, 1) := by decide +kernel
theorem dX10_fair_8 : decode cX10_fair 8 = .ok (.invokestatic 411, 3) := by decide +kernel
theorem dX10_fair_11 : decode cX10_fair 11 = .ok (.ifCond .eq 13, 3) := by decide +kernel
theorem dX10_fair_14 : decode cX10_fair 14 = .ok (.iload 4, 2) := by decide +kernel
theorem dX10_fair_16 : decode cX10_fair 16 = .ok (.iconst 0, 1) := by decide +kernel
theorem dX10_fair_17 : decode cX10_fair 17 = .ok (.iconst 3, 1) := by decide +kernel
theorem dX10_fair_18 : decode cX10_fair 18 = .ok (.invokestatic 126, 3) := by decide +kernel
theorem dX10_fair_21 : decode cX10_fair 21 = .ok (.ifCond .ne 7, 3) := by decide +kernel
theorem dX10_fair_24 : decode cX10_fair 24 = .ok (.iconst 1, 1) := by decide +kernel
theorem dX10_fair_25 : decode cX10_fair 25 = .ok (.goto 4, 3) := by decide +kernel
theorem dX10_fair_28 : decode cX10_fair 28 = .ok (.iconst 0, 1) := by decide +kernel
theorem dX10_fair_29 : decode cX10_fair 29 = .ok (.iconst 1, 1) := by decide +kernel
theorem dX10_fair_30 : decode cX10_fair 30 = .ok (.iconst 1, 1) := by decide +kernel
theorem dX10_fair_31 : decode cX10_fair 31 = .ok (.invokevirtual 171, 3) := by decide +kernel
theorem dX10_fair_34 : decode cX10_fair 34 = .ok (.ifCond .eq 5, 3) := by decide +kernel
theorem dX10_fair_37 : decode cX10_fair 37 = .ok (.iconst 0, 1) := by decide +kernel
theorem dX10_fair_38 : decode cX10_fair 38 = .ok (.ireturn, 1) := by decide +kernel
theorem dX10_fair_39 : decode cX10_fair 39 = .ok (.aload_n 0, 1) := by decide +kernel
theorem dX10_fair_40 : decode cX10_fair 40 = .ok (.iload_n 1, 1) := by decide +kernel
theorem dX10_fair_41 : decode cX10_fair 41 = .ok (.iload_n 2, 1) := by decide +kernel
theorem dX10_fair_42 : decode cX10_fair 42 = .ok (.iload_n 3, 1) := by decide +kernel
theorem dX10_fair_43 : decode cX10_fair 43 = .ok (.invokevirtual 414, 3) := by decide +kernel
theorem dX10_fair_46 : decode cX10_fair 46 = .ok (.iload 4, 2) := by decide +kernel
theorem dX10_fair_48 : decode cX10_fair 48 = .ok (.ifCond .ne 14, 3) := by decide +kernel
theorem dX10_fair_51 : decode cX10_fair 51 = .ok (.aload_n 0, 1) := by decide +kernel
theorem dX10_fair_52 : decode cX10_fair 52 = .ok (.aload_n 0, 1) := by decide +kernel
theorem dX10_fair_53 : decode cX10_fair 53 = .ok (.getfield 64, 3) := by decide +kernel
theorem dX10_fair_56 : decode cX10_fair 56 = .ok (.invokevirtual 318, 3) := by decide +kernel
theorem dX10_fair_59 : decode cX10_fair 59 = .ok (.goto 50, 3) := by decide +kernel
theorem dX10_fair_62 : decode cX10_fair 62 = .ok (.iload 4, 2) := by decide +kernel
theorem dX10_fair_64 : decode cX10_fair 64 = .ok (.iconst 1, 1) := by decide +kernel
theorem dX10_fair_65 : decode cX10_fair 65 = .ok (.if_icmp .ne 13, 3) := by decide +kernel
theorem dX10_fair_68 : decode cX10_fair 68 = .ok (.aload_n 0, 1) := by decide +kernel
theorem dX10_fair_69 : decode cX10_fair 69 = .ok (.getfield 64, 3) := by decide +kernel
theorem dX10_fair_72 : decode cX10_fair 72 = .ok (.bipush 56, 2) := by decide +kernel
theorem dX10_fair_74 : decode cX10_fair 74 = .ok (.iaload, 1) := by decide +kernel
theorem dX10_fair_75 : decode cX10_fair 75 = .ok (.goto 34, 3) := by decide +kernel
theorem dX10_fair_78 : decode cX10_fair 78 = .ok (.iload 4, 2) := by decide +kernel
theorem dX10_fair_80 : decode cX10_fair 80 = .ok (.iconst 2, 1) := by decide +kernel
theorem dX10_fair_81 : decode cX10_fair 81 = .ok (.if_icmp .ne 21, 3) := by decide +kernel
theorem dX10_fair_84 : decode cX10_fair 84 = .ok (.aload_n 0, 1) := by decide +kernel
theorem dX10_fair_85 : decode cX10_fair 85 = .ok (.getfield 64, 3) := by decide +kernel
theorem dX10_fair_88 : decode cX10_fair 88 = .ok (.bipush 58, 2) := by decide +kernel
theorem dX10_fair_90 : decode cX10_fair 90 = .ok (.iaload, 1) := by decide +kernel
theorem dX10_fair_91 : decode cX10_fair 91 = .ok (.aload_n 0, 1) := by decide +kernel
theorem dX10_fair_92 : decode cX10_fair 92 = .ok (.getfield 61, 3) := by decide +kernel
theorem dX10_fair_95 : decode cX10_fair 95 = .ok (.bipush 58, 2) := by decide +kernel
theorem dX10_fair_97 : decode cX10_fair 97 = .ok (.iaload, 1) := by decide +kernel
theorem dX10_fair_98 : decode cX10_fair 98 = .ok (.isub, 1) := by decide +kernel
theorem dX10_fair_99 : decode cX10_fair 99 = .ok (.goto 10, 3) := by decide +kernel
theorem dX10_fair_102 : decode cX10_fair 102 = .ok (.aload_n 0, 1) := by decide +kernel
theorem dX10_fair_103 : decode cX10_fair 103 = .ok (.getfield 64, 3) := by decide +kernel
theorem dX10_fair_106 : decode cX10_fair 106 = .ok (.invokestatic 322, 3) := by decide +kernel
theorem dX10_fair_109 : decode cX10_fair 109 = .ok (.ireturn, 1) := by decide +kernel
theorem dX10_span_0 : decode cX10_span 0 = .ok (.aload_n 0, 1) := by decide +kernel
theorem dX10_span_1 : decode cX10_span 1 = .ok (.iconst 0, 1) := by decide +kernel
theorem dX10_span_2 : decode cX10_span 2 = .ok (.putfield 92, 3) := by decide +kernel
theorem dX10_span_5 : decode cX10_span 5 = .ok (.aload_n 0, 1) := by decide +kernel
theorem dX10_span_6 : decode cX10_span 6 = .ok (.iload_n 2, 1) := by decide +kernel
theorem dX10_span_7 : decode cX10_span 7 = .ok (.iconst 1, 1) := by decide +kernel
theorem dX10_span_8 : decode cX10_span 8 = .ok (.bipush 20, 2) := by decide +kernel
theorem dX10_span_10 : decode cX10_span 10 = .ok (.invokestatic 126, 3) := by decide +kernel
theorem dX10_span_13 : decode cX10_span 13 = .ok (.ifCond .eq 31, 3) := by decide +kernel
theorem dX10_span_16 : decode cX10_span 16 = .ok (.iload_n 3, 1) := by decide +kernel
theorem dX10_span_17 : decode cX10_span 17 = .ok (.iload 4, 2) := by decide +kernel
theorem dX10_span_19 : decode cX10_span 19 = .ok (.invokestatic 411, 3) := by decide +kernel
theorem dX10_span_22 : decode cX10_span 22 = .ok (.ifCond .eq 22, 3) := by decide +kernel
theorem dX10_span_25 : decode cX10_span 25 = .ok (.iload 5, 2) := by decide +kernel
theorem dX10_span_27 : decode cX10_span 27 = .ok (.iconst 0, 1) := by decide +kernel
theorem dX10_span_28 : decode cX10_span 28 = .ok (.iconst 2, 1) := by decide +kernel
theorem dX10_span_29 : decode cX10_span 29 = .ok (.invokestatic 126, 3) := by decide +kernel
theorem dX10_span_32 : decode cX10_span 32 = .ok (.ifCond .eq 12, 3) := by decide +kernel
theorem dX10_span_35 : decode cX10_span 35 = .ok (.aload_n 0, 1) := by decide +kernel
theorem dX10_span_36 : decode cX10_span 36 = .ok (.iload 6, 2) := by decide +kernel
theorem dX10_span_38 : decode cX10_span 38 = .ok (.invokevirtual 328, 3) := by decide +kernel
theorem dX10_span_41 : decode cX10_span 41 = .ok (.ifCond .ne 7, 3) := by decide +kernel
theorem dX10_span_44 : decode cX10_span 44 = .ok (.iconst 1, 1) := by decide +kernel
theorem dX10_span_45 : decode cX10_span 45 = .ok (.goto 4, 3) := by decide +kernel
theorem dX10_span_48 : decode cX10_span 48 = .ok (.iconst 0, 1) := by decide +kernel
theorem dX10_span_49 : decode cX10_span 49 = .ok (.iconst 1, 1) := by decide +kernel
theorem dX10_span_50 : decode cX10_span 50 = .ok (.iconst 1, 1) := by decide +kernel
theorem dX10_span_51 : decode cX10_span 51 = .ok (.invokevirtual 171, 3) := by decide +kernel
theorem dX10_span_54 : decode cX10_span 54 = .ok (.ifCond .eq 5, 3) := by decide +kernel
theorem dX10_span_57 : decode cX10_span 57 = .ok (.iconst 0, 1) := by decide +kernel
theorem dX10_span_58 : decode cX10_span 58 = .ok (.ireturn, 1) := by decide +kernel
theorem dX10_span_59 : decode cX10_span 59 = .ok (.iconst (-1), 1) := by decide +kernel
theorem dX10_span_60 : decode cX10_span 60 = .ok (.istore 7, 2) := by decide +kernel
theorem dX10_span_62 : decode cX10_span 62 = .ok (.iconst 0, 1) := by decide +kernel
theorem dX10_span_63 : decode cX10_span 63 = .ok (.istore 8, 2) := by decide +kernel
theorem dX10_span_65 : decode cX10_span 65 = .ok (.iconst 0, 1) := by decide +kernel
theorem dX10_span_66 : decode cX10_span 66 = .ok (.istore 9, 2) := by decide +kernel
theorem dX10_span_68 : decode cX10_span 68 = .ok (.iconst 0, 1) := by decide +kernel
theorem dX10_span_69 : decode cX10_span 69 = .ok (.istore 10, 2) := by decide +kernel
theorem dX10_span_71 : decode cX10_span 71 = .ok (.iload 10, 2) := by decide +kernel
theorem dX10_span_73 : decode cX10_span 73 = .ok (.iload_n 2, 1) := by decide +kernel
theorem dX10_span_74 : decode cX10_span 74 = .ok (.if_icmp .ge 81, 3) := by decide +kernel
theorem dX10_span_77 : decode cX10_span 77 = .ok (.aload_n 0, 1) := by decide +kernel
theorem dX10_span_78 : decode cX10_span 78 = .ok (.iload_n 1, 1) := by decide +kernel
theorem dX10_span_79 : decode cX10_span 79 = .ok (.iload 10, 2) := by decide +kernel
theorem dX10_span_81 : decode cX10_span 81 = .ok (.iadd, 1) := by decide +kernel
theorem dX10_span_82 : decode cX10_span 82 = .ok (.iload_n 3, 1) := by decide +kernel
theorem dX10_span_83 : decode cX10_span 83 = .ok (.iload 4, 2) := by decide +kernel
theorem dX10_span_85 : decode cX10_span 85 = .ok (.invokevirtual 414, 3) := by decide +kernel
theorem dX10_span_88 : decode cX10_span 88 = .ok (.aload_n 0, 1) := by decide +kernel
theorem dX10_span_89 : decode cX10_span 89 = .ok (.aload_n 0, 1) := by decide +kernel
theorem dX10_span_90 : decode cX10_span 90 = .ok (.getfield 64, 3) := by decide +kernel
theorem dX10_span_93 : decode cX10_span 93 = .ok (.invokevirtual 318, 3) := by decide +kernel
theorem dX10_span_96 : decode cX10_span 96 = .ok (.istore 11, 2) := by decide +kernel
theorem dX10_span_98 : decode cX10_span 98 = .ok (.iload 7, 2) := by decide +kernel
theorem dX10_span_100 : decode cX10_span 100 = .ok (.iconst (-1), 1) := by decide +kernel
theorem dX10_span_101 : decode cX10_span 101 = .ok (.if_icmp .ne 8, 3) := by decide +kernel
theorem dX10_span_104 : decode cX10_span 104 = .ok (.iload 11, 2) := by decide +kernel
theorem dX10_span_106 : decode cX10_span 106 = .ok (.goto 10, 3) := by decide +kernel
theorem dX10_span_109 : decode cX10_span 109 = .ok (.iload 7, 2) := by decide +kernel
theorem dX10_span_111 : decode cX10_span 111 = .ok (.iload 11, 2) := by decide +kernel
theorem dX10_span_113 : decode cX10_span 113 = .ok (.invokestatic 235, 3) := by decide +kernel
theorem dX10_span_116 : decode cX10_span 116 = .ok (.istore 7, 2) := by decide +kernel
theorem dX10_span_118 : decode cX10_span 118 = .ok (.iload 8, 2) := by decide +kernel
theorem dX10_span_120 : decode cX10_span 120 = .ok (.iload 11, 2) := by decide +kernel
theorem dX10_span_122 : decode cX10_span 122 = .ok (.invokestatic 238, 3) := by decide +kernel
theorem dX10_span_125 : decode cX10_span 125 = .ok (.istore 8, 2) := by decide +kernel
theorem dX10_span_127 : decode cX10_span 127 = .ok (.iload 9, 2) := by decide +kernel
theorem dX10_span_129 : decode cX10_span 129 = .ok (.aload_n 0, 1) := by decide +kernel
theorem dX10_span_130 : decode cX10_span 130 = .ok (.getfield 64, 3) := by decide +kernel
theorem dX10_span_133 : decode cX10_span 133 = .ok (.iload 6, 2) := by decide +kernel
theorem dX10_span_135 : decode cX10_span 135 = .ok (.invokestatic 256, 3) := by decide +kernel
theorem dX10_span_138 : decode cX10_span 138 = .ok (.ifCond .ne 7, 3) := by decide +kernel
theorem dX10_span_141 : decode cX10_span 141 = .ok (.iconst 0, 1) := by decide +kernel
theorem dX10_span_142 : decode cX10_span 142 = .ok (.goto 4, 3) := by decide +kernel
theorem dX10_span_145 : decode cX10_span 145 = .ok (.iconst 1, 1) := by decide +kernel
theorem dX10_span_146 : decode cX10_span 146 = .ok (.iadd, 1) := by decide +kernel
theorem dX10_span_147 : decode cX10_span 147 = .ok (.istore 9, 2) := by decide +kernel
theorem dX10_span_149 : decode cX10_span 149 = .ok (.iinc 10 1, 3) := by decide +kernel
theorem dX10_span_152 : decode cX10_span 152 = .ok (.goto (-81), 3) := by decide +kernel
theorem dX10_span_155 : decode cX10_span 155 = .ok (.iload 5, 2) := by decide +kernel
theorem dX10_span_157 : decode cX10_span 157 = .ok (.ifCond .ne 8, 3) := by decide +kernel
theorem dX10_span_160 : decode cX10_span 160 = .ok (.iload 7, 2) := by decide +kernel
theorem dX10_span_162 : decode cX10_span 162 = .ok (.goto 16, 3) := by decide +kernel
theorem dX10_span_165 : decode cX10_span 165 = .ok (.iload 5, 2) := by decide +kernel
theorem dX10_span_167 : decode cX10_span 167 = .ok (.iconst 1, 1) := by decide +kernel
theorem dX10_span_168 : decode cX10_span 168 = .ok (.if_icmp .ne 8, 3) := by decide +kernel
theorem dX10_span_171 : decode cX10_span 171 = .ok (.iload 8, 2) := by decide +kernel
theorem dX10_span_173 : decode cX10_span 173 = .ok (.goto 5, 3) := by decide +kernel
theorem dX10_span_176 : decode cX10_span 176 = .ok (.iload 9, 2) := by decide +kernel
theorem dX10_span_178 : decode cX10_span 178 = .ok (.ireturn, 1) := by decide +kernel
theorem dX10_puts_0 : decode cX10_puts 0 = .ok (.iload_n 3, 1) := by decide +kernel
theorem dX10_puts_1 : decode cX10_puts 1 = .ok (.ifCond .ne 10, 3) := by decide +kernel
theorem dX10_puts_4 : decode cX10_puts 4 = .ok (.aload_n 1, 1) := by decide +kernel
theorem dX10_puts_5 : decode cX10_puts 5 = .ok (.aload_n 0, 1) := by decide +kernel
theorem dX10_puts_6 : decode cX10_puts 6 = .ok (.getfield 418, 3) := by decide +kernel
theorem dX10_puts_9 : decode cX10_puts 9 = .ok (.iload_n 2, 1) := by decide +kernel
theorem dX10_puts_10 : decode cX10_puts 10 = .ok (.iastore, 1) := by decide +kernel
theorem dX10_puts_11 : decode cX10_puts 11 = .ok (.aload_n 0, 1) := by decide +kernel
theorem dX10_puts_12 : decode cX10_puts 12 = .ok (.dup, 1) := by decide +kernel
theorem dX10_puts_13 : decode cX10_puts 13 = .ok (.getfield 418, 3) := by decide +kernel
theorem dX10_puts_16 : decode cX10_puts 16 = .ok (.iconst 1, 1) := by decide +kernel
theorem dX10_puts_17 : decode cX10_puts 17 = .ok (.iadd, 1) := by decide +kernel
theorem dX10_puts_18 : decode cX10_puts 18 = .ok (.putfield 418, 3) := by decide +kernel
theorem dX10_puts_21 : decode cX10_puts 21 = .ok (.aload_n 1, 1) := by decide +kernel
theorem dX10_puts_22 : decode cX10_puts 22 = .ok (.aload_n 0, 1) := by decide +kernel
theorem dX10_puts_23 : decode cX10_puts 23 = .ok (.getfield 418, 3) := by decide +kernel
theorem dX10_puts_26 : decode cX10_puts 26 = .ok (.iconst 1, 1) := by decide +kernel
theorem dX10_puts_27 : decode cX10_puts 27 = .ok (.isub, 1) := by decide +kernel
theorem dX10_puts_28 : decode cX10_puts 28 = .ok (.iaload, 1) := by decide +kernel
theorem dX10_puts_29 : decode cX10_puts 29 = .ok (.ireturn, 1) := by decide +kernel
theorem dX10_putsAll_0 : decode cX10_putsAll 0 = .ok (.aload_n 0, 1) := by decide +kernel
theorem dX10_putsAll_1 : decode cX10_putsAll 1 = .ok (.iconst 0, 1) := by decide +kernel
theorem dX10_putsAll_2 : decode cX10_putsAll 2 = .ok (.putfield 418, 3) := by decide +kernel
theorem dX10_putsAll_5 : decode cX10_putsAll 5 = .ok (.aload_n 0, 1) := by decide +kernel
theorem dX10_putsAll_6 : decode cX10_putsAll 6 = .ok (.aload_n 0, 1) := by decide +kernel
theorem dX10_putsAll_7 : decode cX10_putsAll 7 = .ok (.aload_n 1, 1) := by decide +kernel
theorem dX10_putsAll_8 : decode cX10_putsAll 8 = .ok (.aload_n 0, 1) := by decide +kernel
theorem dX10_putsAll_9 : decode cX10_putsAll 9 = .ok (.getfield 194, 3) := by decide +kernel
theorem dX10_putsAll_12 : decode cX10_putsAll 12 = .ok (.iload_n 2, 1) := by decide +kernel
theorem dX10_putsAll_13 : decode cX10_putsAll 13 = .ok (.invokevirtual 421, 3) := by decide +kernel
theorem dX10_putsAll_16 : decode cX10_putsAll 16 = .ok (.putfield 194, 3) := by decide +kernel
theorem dX10_putsAll_19 : decode cX10_putsAll 19 = .ok (.iconst 0, 1) := by decide +kernel
theorem dX10_putsAll_20 : decode cX10_putsAll 20 = .ok (.istore_n 3, 1) := by decide +kernel
theorem dX10_putsAll_21 : decode cX10_putsAll 21 = .ok (.iload_n 3, 1) := by decide +kernel
theorem dX10_putsAll_22 : decode cX10_putsAll 22 = .ok (.bipush 60, 2) := by decide +kernel
theorem dX10_putsAll_24 : decode cX10_putsAll 24 = .ok (.if_icmp .ge 27, 3) := by decide +kernel
theorem dX10_putsAll_27 : decode cX10_putsAll 27 = .ok (.aload_n 0, 1) := by decide +kernel
theorem dX10_putsAll_28 : decode cX10_putsAll 28 = .ok (.getfield 61, 3) := by decide +kernel
theorem dX10_putsAll_31 : decode cX10_putsAll 31 = .ok (.iload_n 3, 1) := by decide +kernel
theorem dX10_putsAll_32 : decode cX10_putsAll 32 = .ok (.aload_n 0, 1) := by decide +kernel
theorem dX10_putsAll_33 : decode cX10_putsAll 33 = .ok (.aload_n 1, 1) := by decide +kernel
theorem dX10_putsAll_34 : decode cX10_putsAll 34 = .ok (.aload_n 0, 1) := by decide +kernel
theorem dX10_putsAll_35 : decode cX10_putsAll 35 = .ok (.getfield 61, 3) := by decide +kernel
theorem dX10_putsAll_38 : decode cX10_putsAll 38 = .ok (.iload_n 3, 1) := by decide +kernel
theorem dX10_putsAll_39 : decode cX10_putsAll 39 = .ok (.iaload, 1) := by decide +kernel
theorem dX10_putsAll_40 : decode cX10_putsAll 40 = .ok (.iload_n 2, 1) := by decide +kernel
theorem dX10_putsAll_41 : decode cX10_putsAll 41 = .ok (.invokevirtual 421, 3) := by decide +kernel
theorem dX10_putsAll_44 : decode cX10_putsAll 44 = .ok (.iastore, 1) := by decide +kernel
theorem dX10_putsAll_45 : decode cX10_putsAll 45 = .ok (.iinc 3 1, 3) := by decide +kernel
theorem dX10_putsAll_48 : decode cX10_putsAll 48 = .ok (.goto (-27), 3) := by decide +kernel
theorem dX10_putsAll_51 : decode cX10_putsAll 51 = .ok (.iconst 0, 1) := by decide +kernel
theorem dX10_putsAll_52 : decode cX10_putsAll 52 = .ok (.istore_n 3, 1) := by decide +kernel
theorem dX10_putsAll_53 : decode cX10_putsAll 53 = .ok (.iload_n 3, 1) := by decide +kernel
theorem dX10_putsAll_54 : decode cX10_putsAll 54 = .ok (.bipush 16, 2) := by decide +kernel
theorem dX10_putsAll_56 : decode cX10_putsAll 56 = .ok (.if_icmp .ge 49, 3) := by decide +kernel
theorem dX10_putsAll_59 : decode cX10_putsAll 59 = .ok (.iconst 0, 1) := by decide +kernel
theorem dX10_putsAll_60 : decode cX10_putsAll 60 = .ok (.istore 4, 2) := by decide +kernel
theorem dX10_putsAll_62 : decode cX10_putsAll 62 = .ok (.iload 4, 2) := by decide +kernel
theorem dX10_putsAll_64 : decode cX10_putsAll 64 = .ok (.bipush 60, 2) := by decide +kernel
theorem dX10_putsAll_66 : decode cX10_putsAll 66 = .ok (.if_icmp .ge 33, 3) := by decide +kernel
theorem dX10_putsAll_69 : decode cX10_putsAll 69 = .ok (.aload_n 0, 1) := by decide +kernel
theorem dX10_putsAll_70 : decode cX10_putsAll 70 = .ok (.getfield 70, 3) := by decide +kernel
theorem dX10_putsAll_73 : decode cX10_putsAll 73 = .ok (.iload_n 3, 1) := by decide +kernel
theorem dX10_putsAll_74 : decode cX10_putsAll 74 = .ok (.aaload, 1) := by decide +kernel
theorem dX10_putsAll_75 : decode cX10_putsAll 75 = .ok (.iload 4, 2) := by decide +kernel
theorem dX10_putsAll_77 : decode cX10_putsAll 77 = .ok (.aload_n 0, 1) := by decide +kernel
theorem dX10_putsAll_78 : decode cX10_putsAll 78 = .ok (.aload_n 1, 1) := by decide +kernel
theorem dX10_putsAll_79 : decode cX10_putsAll 79 = .ok (.aload_n 0, 1) := by decide +kernel
theorem dX10_putsAll_80 : decode cX10_putsAll 80 = .ok (.getfield 70, 3) := by decide +kernel
theorem dX10_putsAll_83 : decode cX10_putsAll 83 = .ok (.iload_n 3, 1) := by decide +kernel
theorem dX10_putsAll_84 : decode cX10_putsAll 84 = .ok (.aaload, 1) := by decide +kernel
theorem dX10_putsAll_85 : decode cX10_putsAll 85 = .ok (.iload 4, 2) := by decide +kernel
theorem dX10_putsAll_87 : decode cX10_putsAll 87 = .ok (.iaload, 1) := by decide +kernel
theorem dX10_putsAll_88 : decode cX10_putsAll 88 = .ok (.iload_n 2, 1) := by decide +kernel
theorem dX10_putsAll_89 : decode cX10_putsAll 89 = .ok (.invokevirtual 421, 3) := by decide +kernel
theorem dX10_putsAll_92 : decode cX10_putsAll 92 = .ok (.iastore, 1) := by decide +kernel
theorem dX10_putsAll_93 : decode cX10_putsAll 93 = .ok (.iinc 4 1, 3) := by decide +kernel
theorem dX10_putsAll_96 : decode cX10_putsAll 96 = .ok (.goto (-34), 3) := by decide +kernel
theorem dX10_putsAll_99 : decode cX10_putsAll 99 = .ok (.iinc 3 1, 3) := by decide +kernel
theorem dX10_putsAll_102 : decode cX10_putsAll 102 = .ok (.goto (-49), 3) := by decide +kernel
theorem dX10_putsAll_105 : decode cX10_putsAll 105 = .ok (.return_, 1) := by decide +kernel
theorem dX10_image_0 : decode cX10_image 0 = .ok (.aload_n 0, 1) := by decide +kernel
theorem dX10_image_1 : decode cX10_image 1 = .ok (.iconst 0, 1) := by decide +kernel
theorem dX10_image_2 : decode cX10_image 2 = .ok (.putfield 92, 3) := by decide +kernel
theorem dX10_image_5 : decode cX10_image 5 = .ok (.aload_n 0, 1) := by decide +kernel
theorem dX10_image_6 : decode cX10_image 6 = .ok (.getfield 200, 3) := by decide +kernel
theorem dX10_image_9 : decode cX10_image 9 = .ok (.iconst 3, 1) := by decide +kernel
theorem dX10_image_10 : decode cX10_image 10 = .ok (.if_icmp .ne 5, 3) := by decide +kernel
theorem dX10_image_13 : decode cX10_image 13 = .ok (.iconst (-1), 1) := by decide +kernel
theorem dX10_image_14 : decode cX10_image 14 = .ok (.ireturn, 1) := by decide +kernel
theorem dX10_image_15 : decode cX10_image 15 = .ok (.aload_n 0, 1) := by decide +kernel
theorem dX10_image_16 : decode cX10_image 16 = .ok (.aload_n 0, 1) := by decide +kernel
theorem dX10_image_17 : decode cX10_image 17 = .ok (.getfield 73, 3) := by decide +kernel
theorem dX10_image_20 : decode cX10_image 20 = .ok (.aload_n 0, 1) := by decide +kernel
theorem dX10_image_21 : decode cX10_image 21 = .ok (.getfield 200, 3) := by decide +kernel
theorem dX10_image_24 : decode cX10_image 24 = .ok (.aaload, 1) := by decide +kernel
theorem dX10_image_25 : decode cX10_image 25 = .ok (.iconst 0, 1) := by decide +kernel
theorem dX10_image_26 : decode cX10_image 26 = .ok (.invokevirtual 425, 3) := by decide +kernel
theorem dX10_image_29 : decode cX10_image 29 = .ok (.aload_n 0, 1) := by decide +kernel
theorem dX10_image_30 : decode cX10_image 30 = .ok (.dup, 1) := by decide +kernel
theorem dX10_image_31 : decode cX10_image 31 = .ok (.getfield 200, 3) := by decide +kernel
theorem dX10_image_34 : decode cX10_image 34 = .ok (.iconst 1, 1) := by decide +kernel
theorem dX10_image_35 : decode cX10_image 35 = .ok (.iadd, 1) := by decide +kernel
theorem dX10_image_36 : decode cX10_image 36 = .ok (.putfield 200, 3) := by decide +kernel
theorem dX10_image_39 : decode cX10_image 39 = .ok (.aload_n 0, 1) := by decide +kernel
theorem dX10_image_40 : decode cX10_image 40 = .ok (.getfield 200, 3) := by decide +kernel
theorem dX10_image_43 : decode cX10_image 43 = .ok (.ireturn, 1) := by decide +kernel
theorem dX10_restore_0 : decode cX10_restore 0 = .ok (.aload_n 0, 1) := by decide +kernel
theorem dX10_restore_1 : decode cX10_restore 1 = .ok (.iconst 0, 1) := by decide +kernel
theorem dX10_restore_2 : decode cX10_restore 2 = .ok (.putfield 92, 3) := by decide +kernel
theorem dX10_restore_5 : decode cX10_restore 5 = .ok (.aload_n 0, 1) := by decide +kernel
theorem dX10_restore_6 : decode cX10_restore 6 = .ok (.getfield 200, 3) := by decide +kernel
theorem dX10_restore_9 : decode cX10_restore 9 = .ok (.ifCond .ne 5, 3) := by decide +kernel
theorem dX10_restore_12 : decode cX10_restore 12 = .ok (.iconst (-1), 1) := by decide +kernel
theorem dX10_restore_13 : decode cX10_restore 13 = .ok (.ireturn, 1) := by decide +kernel
theorem dX10_restore_14 : decode cX10_restore 14 = .ok (.aload_n 0, 1) := by decide +kernel
theorem dX10_restore_15 : decode cX10_restore 15 = .ok (.dup, 1) := by decide +kernel
theorem dX10_restore_16 : decode cX10_restore 16 = .ok (.getfield 200, 3) := by decide +kernel
theorem dX10_restore_19 : decode cX10_restore 19 = .ok (.iconst 1, 1) := by decide +kernel
theorem dX10_restore_20 : decode cX10_restore 20 = .ok (.isub, 1) := by decide +kernel
theorem dX10_restore_21 : decode cX10_restore 21 = .ok (.putfield 200, 3) := by decide +kernel
theorem dX10_restore_24 : decode cX10_restore 24 = .ok (.aload_n 0, 1) := by decide +kernel
theorem dX10_restore_25 : decode cX10_restore 25 = .ok (.aload_n 0, 1) := by decide +kernel
theorem dX10_restore_26 : decode cX10_restore 26 = .ok (.getfield 73, 3) := by decide +kernel
theorem dX10_restore_29 : decode cX10_restore 29 = .ok (.aload_n 0, 1) := by decide +kernel
theorem dX10_restore_30 : decode cX10_restore 30 = .ok (.getfield 200, 3) := by decide +kernel
theorem dX10_restore_33 : decode cX10_restore 33 = .ok (.aaload, 1) := by decide +kernel
theorem dX10_restore_34 : decode cX10_restore 34 = .ok (.iconst 1, 1) := by decide +kernel
theorem dX10_restore_35 : decode cX10_restore 35 = .ok (.invokevirtual 425, 3) := by decide +kernel
theorem dX10_restore_38 : decode cX10_restore 38 = .ok (.aload_n 0, 1) := by decide +kernel
theorem dX10_restore_39 : decode cX10_restore 39 = .ok (.iconst 0, 1) := by decide +kernel
theorem dX10_restore_40 : decode cX10_restore 40 = .ok (.putfield 197, 3) := by decide +kernel
theorem dX10_restore_43 : decode cX10_restore 43 = .ok (.aload_n 0, 1) := by decide +kernel
theorem dX10_restore_44 : decode cX10_restore 44 = .ok (.getfield 200, 3) := by decide +kernel
theorem dX10_restore_47 : decode cX10_restore 47 = .ok (.ireturn, 1) := by decide +kernel
theorem dX10_status_0 : decode cX10_status 0 = .ok (.aload_n 0, 1) := by decide +kernel
theorem dX10_status_1 : decode cX10_status 1 = .ok (.iconst 0, 1) := by decide +kernel
theorem dX10_status_2 : decode cX10_status 2 = .ok (.putfield 92, 3) := by decide +kernel
theorem dX10_status_5 : decode cX10_status 5 = .ok (.iload_n 1, 1) := by decide +kernel
theorem dX10_status_6 : decode cX10_status 6 = .ok (.iconst 0, 1) := by decide +kernel
theorem dX10_status_7 : decode cX10_status 7 = .ok (.iconst 1, 1) := by decide +kernel
theorem dX10_status_8 : decode cX10_status 8 = .ok (.invokestatic 126, 3) := by decide +kernel
theorem dX10_status_11 : decode cX10_status 11 = .ok (.ifCond .eq 12, 3) := by decide +kernel
theorem dX10_status_14 : decode cX10_status 14 = .ok (.aload_n 0, 1) := by decide +kernel
theorem dX10_status_15 : decode cX10_status 15 = .ok (.getfield 17, 3) := by decide +kernel
theorem dX10_status_18 : decode cX10_status 18 = .ok (.iload_n 1, 1) := by decide +kernel
theorem dX10_status_19 : decode cX10_status 19 = .ok (.iaload, 1) := by decide +kernel
theorem dX10_status_20 : decode cX10_status 20 = .ok (.goto 4, 3) := by decide +kernel
theorem dX10_status_23 : decode cX10_status 23 = .ok (.iconst (-1), 1) := by decide +kernel
theorem dX10_status_24 : decode cX10_status 24 = .ok (.ireturn, 1) := by decide +kernel
theorem dX10_count_0 : decode cX10_count 0 = .ok (.aload_n 0, 1) := by decide +kernel
theorem dX10_count_1 : decode cX10_count 1 = .ok (.iconst 0, 1) := by decide +kernel
theorem dX10_count_2 : decode cX10_count 2 = .ok (.putfield 92, 3) := by decide +kernel
theorem dX10_count_5 : decode cX10_count 5 = .ok (.iload_n 1, 1) := by decide +kernel
theorem dX10_count_6 : decode cX10_count 6 = .ok (.ifCond .ne 10, 3) := by decide +kernel
theorem dX10_count_9 : decode cX10_count 9 = .ok (.aload_n 0, 1) := by decide +kernel
theorem dX10_count_10 : decode cX10_count 10 = .ok (.getfield 200, 3) := by decide +kernel
theorem dX10_count_13 : decode cX10_count 13 = .ok (.goto 28, 3) := by decide +kernel
theorem dX10_count_16 : decode cX10_count 16 = .ok (.iload_n 1, 1) := by decide +kernel
theorem dX10_count_17 : decode cX10_count 17 = .ok (.iconst 1, 1) := by decide +kernel
theorem dX10_count_18 : decode cX10_count 18 = .ok (.if_icmp .ne 10, 3) := by decide +kernel
theorem dX10_count_21 : decode cX10_count 21 = .ok (.aload_n 0, 1) := by decide +kernel
theorem dX10_count_22 : decode cX10_count 22 = .ok (.getfield 95, 3) := by decide +kernel
theorem dX10_count_25 : decode cX10_count 25 = .ok (.goto 16, 3) := by decide +kernel
theorem dX10_count_28 : decode cX10_count 28 = .ok (.iload_n 1, 1) := by decide +kernel
theorem dX10_count_29 : decode cX10_count 29 = .ok (.iconst 2, 1) := by decide +kernel
theorem dX10_count_30 : decode cX10_count 30 = .ok (.if_icmp .ne 10, 3) := by decide +kernel
theorem dX10_count_33 : decode cX10_count 33 = .ok (.aload_n 0, 1) := by decide +kernel
theorem dX10_count_34 : decode cX10_count 34 = .ok (.getfield 194, 3) := by decide +kernel
theorem dX10_count_37 : decode cX10_count 37 = .ok (.goto 4, 3) := by decide +kernel
theorem dX10_count_40 : decode cX10_count 40 = .ok (.iconst (-1), 1) := by decide +kernel
theorem dX10_count_41 : decode cX10_count 41 = .ok (.ireturn, 1) := by decide +kernel
theorem dJ6_bitCount_0f7a4_0 : decode cJ6_bitCount_0f7a4 0 = .ok (.iload_n 0, 1) := by decide +kernel
theorem dJ6_bitCount_0f7a4_1 : decode cJ6_bitCount_0f7a4 1 = .ok (.iload_n 0, 1) := by decide +kernel
theorem dJ6_bitCount_0f7a4_2 : decode cJ6_bitCount_0f7a4 2 = .ok (.iconst 1, 1) := by decide +kernel
theorem dJ6_bitCount_0f7a4_3 : decode cJ6_bitCount_0f7a4 3 = .ok (.iushr, 1) := by decide +kernel
theorem dJ6_bitCount_0f7a4_4 : decode cJ6_bitCount_0f7a4 4 = .ok (.ldc_w 265, 3) := by decide +kernel
theorem dJ6_bitCount_0f7a4_7 : decode cJ6_bitCount_0f7a4 7 = .ok (.iand, 1) := by decide +kernel
theorem dJ6_bitCount_0f7a4_8 : decode cJ6_bitCount_0f7a4 8 = .ok (.isub, 1) := by decide +kernel
theorem dJ6_bitCount_0f7a4_9 : decode cJ6_bitCount_0f7a4 9 = .ok (.istore_n 0, 1) := by decide +kernel
theorem dJ6_bitCount_0f7a4_10 : decode cJ6_bitCount_0f7a4 10 = .ok (.iload_n 0, 1) := by decide +kernel
theorem dJ6_bitCount_0f7a4_11 : decode cJ6_bitCount_0f7a4 11 = .ok (.ldc_w 266, 3) := by decide +kernel
theorem dJ6_bitCount_0f7a4_14 : decode cJ6_bitCount_0f7a4 14 = .ok (.iand, 1) := by decide +kernel
theorem dJ6_bitCount_0f7a4_15 : decode cJ6_bitCount_0f7a4 15 = .ok (.iload_n 0, 1) := by decide +kernel
theorem dJ6_bitCount_0f7a4_16 : decode cJ6_bitCount_0f7a4 16 = .ok (.iconst 2, 1) := by decide +kernel
theorem dJ6_bitCount_0f7a4_17 : decode cJ6_bitCount_0f7a4 17 = .ok (.iushr, 1) := by decide +kernel
theorem dJ6_bitCount_0f7a4_18 : decode cJ6_bitCount_0f7a4 18 = .ok (.ldc_w 266, 3) := by decide +kernel
theorem dJ6_bitCount_0f7a4_21 : decode cJ6_bitCount_0f7a4 21 = .ok (.iand, 1) := by decide +kernel
theorem dJ6_bitCount_0f7a4_22 : decode cJ6_bitCount_0f7a4 22 = .ok (.iadd, 1) := by decide +kernel
theorem dJ6_bitCount_0f7a4_23 : decode cJ6_bitCount_0f7a4 23 = .ok (.istore_n 0, 1) := by decide +kernel
theorem dJ6_bitCount_0f7a4_24 : decode cJ6_bitCount_0f7a4 24 = .ok (.iload_n 0, 1) := by decide +kernel
theorem dJ6_bitCount_0f7a4_25 : decode cJ6_bitCount_0f7a4 25 = .ok (.iload_n 0, 1) := by decide +kernel
theorem dJ6_bitCount_0f7a4_26 : decode cJ6_bitCount_0f7a4 26 = .ok (.iconst 4, 1) := by decide +kernel
theorem dJ6_bitCount_0f7a4_27 : decode cJ6_bitCount_0f7a4 27 = .ok (.iushr, 1) := by decide +kernel
theorem dJ6_bitCount_0f7a4_28 : decode cJ6_bitCount_0f7a4 28 = .ok (.iadd, 1) := by decide +kernel
theorem dJ6_bitCount_0f7a4_29 : decode cJ6_bitCount_0f7a4 29 = .ok (.ldc_w 267, 3) := by decide +kernel
theorem dJ6_bitCount_0f7a4_32 : decode cJ6_bitCount_0f7a4 32 = .ok (.iand, 1) := by decide +kernel
theorem dJ6_bitCount_0f7a4_33 : decode cJ6_bitCount_0f7a4 33 = .ok (.istore_n 0, 1) := by decide +kernel
theorem dJ6_bitCount_0f7a4_34 : decode cJ6_bitCount_0f7a4 34 = .ok (.iload_n 0, 1) := by decide +kernel
theorem dJ6_bitCount_0f7a4_35 : decode cJ6_bitCount_0f7a4 35 = .ok (.iload_n 0, 1) := by decide +kernel
theorem dJ6_bitCount_0f7a4_36 : decode cJ6_bitCount_0f7a4 36 = .ok (.bipush 8, 2) := by decide +kernel
theorem dJ6_bitCount_0f7a4_38 : decode cJ6_bitCount_0f7a4 38 = .ok (.iushr, 1) := by decide +kernel
theorem dJ6_bitCount_0f7a4_39 : decode cJ6_bitCount_0f7a4 39 = .ok (.iadd, 1) := by decide +kernel
theorem dJ6_bitCount_0f7a4_40 : decode cJ6_bitCount_0f7a4 40 = .ok (.istore_n 0, 1) := by decide +kernel
theorem dJ6_bitCount_0f7a4_41 : decode cJ6_bitCount_0f7a4 41 = .ok (.iload_n 0, 1) := by decide +kernel
theorem dJ6_bitCount_0f7a4_42 : decode cJ6_bitCount_0f7a4 42 = .ok (.iload_n 0, 1) := by decide +kernel
theorem dJ6_bitCount_0f7a4_43 : decode cJ6_bitCount_0f7a4 43 = .ok (.bipush 16, 2) := by decide +kernel
theorem dJ6_bitCount_0f7a4_45 : decode cJ6_bitCount_0f7a4 45 = .ok (.iushr, 1) := by decide +kernel
theorem dJ6_bitCount_0f7a4_46 : decode cJ6_bitCount_0f7a4 46 = .ok (.iadd, 1) := by decide +kernel
theorem dJ6_bitCount_0f7a4_47 : decode cJ6_bitCount_0f7a4 47 = .ok (.istore_n 0, 1) := by decide +kernel
theorem dJ6_bitCount_0f7a4_48 : decode cJ6_bitCount_0f7a4 48 = .ok (.iload_n 0, 1) := by decide +kernel
theorem dJ6_bitCount_0f7a4_49 : decode cJ6_bitCount_0f7a4 49 = .ok (.bipush 63, 2) := by decide +kernel
theorem dJ6_bitCount_0f7a4_51 : decode cJ6_bitCount_0f7a4 51 = .ok (.iand, 1) := by decide +kernel
theorem dJ6_bitCount_0f7a4_52 : decode cJ6_bitCount_0f7a4 52 = .ok (.ireturn, 1) := by decide +kernel
theorem dJ9_abs_0f7a4_0 : decode cJ9_abs_0f7a4 0 = .ok (.iload_n 0, 1) := by decide +kernel
theorem dJ9_abs_0f7a4_1 : decode cJ9_abs_0f7a4 1 = .ok (.ifCond .ge 8, 3) := by decide +kernel
theorem dJ9_abs_0f7a4_4 : decode cJ9_abs_0f7a4 4 = .ok (.iload_n 0, 1) := by decide +kernel
theorem dJ9_abs_0f7a4_5 : decode cJ9_abs_0f7a4 5 = .ok (.ineg, 1) := by decide +kernel
theorem dJ9_abs_0f7a4_6 : decode cJ9_abs_0f7a4 6 = .ok (.goto 4, 3) := by decide +kernel
theorem dJ9_abs_0f7a4_9 : decode cJ9_abs_0f7a4 9 = .ok (.iload_n 0, 1) := by decide +kernel
theorem dJ9_abs_0f7a4_10 : decode cJ9_abs_0f7a4 10 = .ok (.ireturn, 1) := by decide +kernel
theorem dJ9_max_7cf53_0 : decode cJ9_max_7cf53 0 = .ok (.iload_n 0, 1) := by decide +kernel
theorem dJ9_max_7cf53_1 : decode cJ9_max_7cf53 1 = .ok (.iload_n 1, 1) := by decide +kernel
theorem dJ9_max_7cf53_2 : decode cJ9_max_7cf53 2 = .ok (.if_icmp .lt 7, 3) := by decide +kernel
theorem dJ9_max_7cf53_5 : decode cJ9_max_7cf53 5 = .ok (.iload_n 0, 1) := by decide +kernel
theorem dJ9_max_7cf53_6 : decode cJ9_max_7cf53 6 = .ok (.goto 4, 3) := by decide +kernel
theorem dJ9_max_7cf53_9 : decode cJ9_max_7cf53 9 = .ok (.iload_n 1, 1) := by decide +kernel
theorem dJ9_max_7cf53_10 : decode cJ9_max_7cf53 10 = .ok (.ireturn, 1) := by decide +kernel
theorem dJ9_min_7cf53_0 : decode cJ9_min_7cf53 0 = .ok (.iload_n 0, 1) := by decide +kernel
theorem dJ9_min_7cf53_1 : decode cJ9_min_7cf53 1 = .ok (.iload_n 1, 1) := by decide +kernel
theorem dJ9_min_7cf53_2 : decode cJ9_min_7cf53 2 = .ok (.if_icmp .gt 7, 3) := by decide +kernel
theorem dJ9_min_7cf53_5 : decode cJ9_min_7cf53 5 = .ok (.iload_n 0, 1) := by decide +kernel
theorem dJ9_min_7cf53_6 : decode cJ9_min_7cf53 6 = .ok (.goto 4, 3) := by decide +kernel
theorem dJ9_min_7cf53_9 : decode cJ9_min_7cf53 9 = .ok (.iload_n 1, 1) := by decide +kernel
theorem dJ9_min_7cf53_10 : decode cJ9_min_7cf53 10 = .ok (.ireturn, 1) := by decide +kernel
theorem dJ0_length_8abf5_0 : decode cJ0_length_8abf5 0 = .ok (.aload_n 0, 1) := by decide +kernel
theorem dJ0_length_8abf5_1 : decode cJ0_length_8abf5 1 = .ok (.getfield 9, 3) := by decide +kernel
theorem dJ0_length_8abf5_4 : decode cJ0_length_8abf5 4 = .ok (.arraylength, 1) := by decide +kernel
theorem dJ0_length_8abf5_5 : decode cJ0_length_8abf5 5 = .ok (.aload_n 0, 1) := by decide +kernel
theorem dJ0_length_8abf5_6 : decode cJ0_length_8abf5 6 = .ok (.invokevirtual 335, 3) := by decide +kernel
theorem dJ0_length_8abf5_9 : decode cJ0_length_8abf5 9 = .ok (.ishr, 1) := by decide +kernel
theorem dJ0_length_8abf5_10 : decode cJ0_length_8abf5 10 = .ok (.ireturn, 1) := by decide +kernel
theorem dJ0_charAt_5068e_0 : decode cJ0_charAt_5068e 0 = .ok (.aload_n 0, 1) := by decide +kernel
theorem dJ0_charAt_5068e_1 : decode cJ0_charAt_5068e 1 = .ok (.invokevirtual 492, 3) := by decide +kernel
theorem dJ0_charAt_5068e_4 : decode cJ0_charAt_5068e 4 = .ok (.ifCond .eq 12, 3) := by decide +kernel
theorem dJ0_charAt_5068e_7 : decode cJ0_charAt_5068e 7 = .ok (.aload_n 0, 1) := by decide +kernel
theorem dJ0_charAt_5068e_8 : decode cJ0_charAt_5068e 8 = .ok (.getfield 9, 3) := by decide +kernel
theorem dJ0_charAt_5068e_11 : decode cJ0_charAt_5068e 11 = .ok (.iload_n 1, 1) := by decide +kernel
theorem dJ0_charAt_5068e_12 : decode cJ0_charAt_5068e 12 = .ok (.invokestatic 495, 3) := by decide +kernel
theorem dJ0_charAt_5068e_15 : decode cJ0_charAt_5068e 15 = .ok (.ireturn, 1) := by decide +kernel
theorem dJ0_charAt_5068e_16 : decode cJ0_charAt_5068e 16 = .ok (.aload_n 0, 1) := by decide +kernel
theorem dJ0_charAt_5068e_17 : decode cJ0_charAt_5068e 17 = .ok (.getfield 9, 3) := by decide +kernel
theorem dJ0_charAt_5068e_20 : decode cJ0_charAt_5068e 20 = .ok (.iload_n 1, 1) := by decide +kernel
theorem dJ0_charAt_5068e_21 : decode cJ0_charAt_5068e 21 = .ok (.invokestatic 498, 3) := by decide +kernel
theorem dJ0_charAt_5068e_24 : decode cJ0_charAt_5068e 24 = .ok (.ireturn, 1) := by decide +kernel
theorem dJ0_coder_7d493_0 : decode cJ0_coder_7d493 0 = .ok (.getstatic 38, 3) := by decide +kernel
theorem dJ0_coder_7d493_3 : decode cJ0_coder_7d493 3 = .ok (.ifCond .eq 10, 3) := by decide +kernel
theorem dJ0_coder_7d493_6 : decode cJ0_coder_7d493 6 = .ok (.aload_n 0, 1) := by decide +kernel
theorem dJ0_coder_7d493_7 : decode cJ0_coder_7d493 7 = .ok (.getfield 15, 3) := by decide +kernel
theorem dJ0_coder_7d493_10 : decode cJ0_coder_7d493 10 = .ok (.goto 4, 3) := by decide +kernel
theorem dJ0_coder_7d493_13 : decode cJ0_coder_7d493 13 = .ok (.iconst 1, 1) := by decide +kernel
theorem dJ0_coder_7d493_14 : decode cJ0_coder_7d493 14 = .ok (.ireturn, 1) := by decide +kernel
theorem dJ0_isLatin1_aae02_0 : decode cJ0_isLatin1_aae02 0 = .ok (.getstatic 38, 3) := by decide +kernel
theorem dJ0_isLatin1_aae02_3 : decode cJ0_isLatin1_aae02 3 = .ok (.ifCond .eq 14, 3) := by decide +kernel
theorem dJ0_isLatin1_aae02_6 : decode cJ0_isLatin1_aae02 6 = .ok (.aload_n 0, 1) := by decide +kernel
theorem dJ0_isLatin1_aae02_7 : decode cJ0_isLatin1_aae02 7 = .ok (.getfield 15, 3) := by decide +kernel
theorem dJ0_isLatin1_aae02_10 : decode cJ0_isLatin1_aae02 10 = .ok (.ifCond .ne 7, 3) := by decide +kernel
theorem dJ0_isLatin1_aae02_13 : decode cJ0_isLatin1_aae02 13 = .ok (.iconst 1, 1) := by decide +kernel
theorem dJ0_isLatin1_aae02_14 : decode cJ0_isLatin1_aae02 14 = .ok (.goto 4, 3) := by decide +kernel
theorem dJ0_isLatin1_aae02_17 : decode cJ0_isLatin1_aae02 17 = .ok (.iconst 0, 1) := by decide +kernel
theorem dJ0_isLatin1_aae02_18 : decode cJ0_isLatin1_aae02 18 = .ok (.ireturn, 1) := by decide +kernel
theorem dJ0_checkIndex_df160_0 : decode cJ0_checkIndex_df160 0 = .ok (.iload_n 0, 1) := by decide +kernel
theorem dJ0_checkIndex_df160_1 : decode cJ0_checkIndex_df160 1 = .ok (.iload_n 1, 1) := by decide +kernel
theorem dJ0_checkIndex_df160_2 : decode cJ0_checkIndex_df160 2 = .ok (.getstatic 1053, 3) := by decide +kernel
theorem dJ0_checkIndex_df160_5 : decode cJ0_checkIndex_df160 5 = .ok (.invokestatic 1059, 3) := by decide +kernel
theorem dJ0_checkIndex_df160_8 : decode cJ0_checkIndex_df160 8 = .ok (.pop, 1) := by decide +kernel
theorem dJ0_checkIndex_df160_9 : decode cJ0_checkIndex_df160 9 = .ok (.return_, 1) := by decide +kernel
theorem dJ1_charAt_3b067_0 : decode cJ1_charAt_3b067 0 = .ok (.iload_n 1, 1) := by decide +kernel
theorem dJ1_charAt_3b067_1 : decode cJ1_charAt_3b067 1 = .ok (.aload_n 0, 1) := by decide +kernel
theorem dJ1_charAt_3b067_2 : decode cJ1_charAt_3b067 2 = .ok (.arraylength, 1) := by decide +kernel
theorem dJ1_charAt_3b067_3 : decode cJ1_charAt_3b067 3 = .ok (.invokestatic 9, 3) := by decide +kernel
theorem dJ1_charAt_3b067_6 : decode cJ1_charAt_3b067 6 = .ok (.aload_n 0, 1) := by decide +kernel
theorem dJ1_charAt_3b067_7 : decode cJ1_charAt_3b067 7 = .ok (.iload_n 1, 1) := by decide +kernel
theorem dJ1_charAt_3b067_8 : decode cJ1_charAt_3b067 8 = .ok (.baload, 1) := by decide +kernel
theorem dJ1_charAt_3b067_9 : decode cJ1_charAt_3b067 9 = .ok (.sipush 255, 3) := by decide +kernel
theorem dJ1_charAt_3b067_12 : decode cJ1_charAt_3b067 12 = .ok (.iand, 1) := by decide +kernel
theorem dJ1_charAt_3b067_13 : decode cJ1_charAt_3b067 13 = .ok (.i2c, 1) := by decide +kernel
theorem dJ1_charAt_3b067_14 : decode cJ1_charAt_3b067 14 = .ok (.ireturn, 1) := by decide +kernel
theorem dJ2_getChar_3b067_0 : decode cJ2_getChar_3b067 0 = .ok (.getstatic 44, 3) := by decide +kernel
theorem dJ2_getChar_3b067_3 : decode cJ2_getChar_3b067 3 = .ok (.ifCond .ne 25, 3) := by decide +kernel
theorem dJ2_getChar_3b067_6 : decode cJ2_getChar_3b067 6 = .ok (.iload_n 1, 1) := by decide +kernel
theorem dJ2_getChar_3b067_7 : decode cJ2_getChar_3b067 7 = .ok (.ifCond .lt 11, 3) := by decide +kernel
theorem dJ2_getChar_3b067_10 : decode cJ2_getChar_3b067 10 = .ok (.iload_n 1, 1) := by decide +kernel
theorem dJ2_getChar_3b067_11 : decode cJ2_getChar_3b067 11 = .ok (.aload_n 0, 1) := by decide +kernel
theorem dJ2_getChar_3b067_12 : decode cJ2_getChar_3b067 12 = .ok (.invokestatic 48, 3) := by decide +kernel
theorem dJ2_getChar_3b067_15 : decode cJ2_getChar_3b067 15 = .ok (.if_icmp .lt 13, 3) := by decide +kernel
theorem dJ2_getChar_3b067_18 : decode cJ2_getChar_3b067 18 = .ok (.new 52, 3) := by decide +kernel
theorem dJ2_getChar_3b067_21 : decode cJ2_getChar_3b067 21 = .ok (.dup, 1) := by decide +kernel
theorem dJ2_getChar_3b067_22 : decode cJ2_getChar_3b067 22 = .ok (.ldc 54, 2) := by decide +kernel
theorem dJ2_getChar_3b067_24 : decode cJ2_getChar_3b067 24 = .ok (.invokespecial 56, 3) := by decide +kernel
theorem dJ2_getChar_3b067_27 : decode cJ2_getChar_3b067 27 = .ok (.athrow, 1) := by decide +kernel
theorem dJ2_getChar_3b067_28 : decode cJ2_getChar_3b067 28 = .ok (.iload_n 1, 1) := by decide +kernel
theorem dJ2_getChar_3b067_29 : decode cJ2_getChar_3b067 29 = .ok (.iconst 1, 1) := by decide +kernel
theorem dJ2_getChar_3b067_30 : decode cJ2_getChar_3b067 30 = .ok (.ishl, 1) := by decide +kernel
theorem dJ2_getChar_3b067_31 : decode cJ2_getChar_3b067 31 = .ok (.istore_n 1, 1) := by decide +kernel
theorem dJ2_getChar_3b067_32 : decode cJ2_getChar_3b067 32 = .ok (.aload_n 0, 1) := by decide +kernel
theorem dJ2_getChar_3b067_33 : decode cJ2_getChar_3b067 33 = .ok (.iload_n 1, 1) := by decide +kernel
theorem dJ2_getChar_3b067_34 : decode cJ2_getChar_3b067 34 = .ok (.iinc 1 1, 3) := by decide +kernel
theorem dJ2_getChar_3b067_37 : decode cJ2_getChar_3b067 37 = .ok (.baload, 1) := by decide +kernel
theorem dJ2_getChar_3b067_38 : decode cJ2_getChar_3b067 38 = .ok (.sipush 255, 3) := by decide +kernel
theorem dJ2_getChar_3b067_41 : decode cJ2_getChar_3b067 41 = .ok (.iand, 1) := by decide +kernel
theorem dJ2_getChar_3b067_42 : decode cJ2_getChar_3b067 42 = .ok (.getstatic 59, 3) := by decide +kernel
theorem dJ2_getChar_3b067_45 : decode cJ2_getChar_3b067 45 = .ok (.ishl, 1) := by decide +kernel
theorem dJ2_getChar_3b067_46 : decode cJ2_getChar_3b067 46 = .ok (.aload_n 0, 1) := by decide +kernel
theorem dJ2_getChar_3b067_47 : decode cJ2_getChar_3b067 47 = .ok (.iload_n 1, 1) := by decide +kernel
theorem dJ2_getChar_3b067_48 : decode cJ2_getChar_3b067 48 = .ok (.baload, 1) := by decide +kernel
theorem dJ2_getChar_3b067_49 : decode cJ2_getChar_3b067 49 = .ok (.sipush 255, 3) := by decide +kernel
theorem dJ2_getChar_3b067_52 : decode cJ2_getChar_3b067 52 = .ok (.iand, 1) := by decide +kernel
theorem dJ2_getChar_3b067_53 : decode cJ2_getChar_3b067 53 = .ok (.getstatic 63, 3) := by decide +kernel
theorem dJ2_getChar_3b067_56 : decode cJ2_getChar_3b067 56 = .ok (.ishl, 1) := by decide +kernel
theorem dJ2_getChar_3b067_57 : decode cJ2_getChar_3b067 57 = .ok (.ior, 1) := by decide +kernel
theorem dJ2_getChar_3b067_58 : decode cJ2_getChar_3b067 58 = .ok (.i2c, 1) := by decide +kernel
theorem dJ2_getChar_3b067_59 : decode cJ2_getChar_3b067 59 = .ok (.ireturn, 1) := by decide +kernel
theorem dJ2_length_9d52b_0 : decode cJ2_length_9d52b 0 = .ok (.aload_n 0, 1) := by decide +kernel
theorem dJ2_length_9d52b_1 : decode cJ2_length_9d52b 1 = .ok (.arraylength, 1) := by decide +kernel
theorem dJ2_length_9d52b_2 : decode cJ2_length_9d52b 2 = .ok (.iconst 1, 1) := by decide +kernel
theorem dJ2_length_9d52b_3 : decode cJ2_length_9d52b 3 = .ok (.ishr, 1) := by decide +kernel
theorem dJ2_length_9d52b_4 : decode cJ2_length_9d52b 4 = .ok (.ireturn, 1) := by decide +kernel
theorem dJ2_charAt_3b067_0 : decode cJ2_charAt_3b067 0 = .ok (.iload_n 1, 1) := by decide +kernel
theorem dJ2_charAt_3b067_1 : decode cJ2_charAt_3b067 1 = .ok (.aload_n 0, 1) := by decide +kernel
theorem dJ2_charAt_3b067_2 : decode cJ2_charAt_3b067 2 = .ok (.invokestatic 67, 3) := by decide +kernel
theorem dJ2_charAt_3b067_5 : decode cJ2_charAt_3b067 5 = .ok (.aload_n 0, 1) := by decide +kernel
theorem dJ2_charAt_3b067_6 : decode cJ2_charAt_3b067 6 = .ok (.iload_n 1, 1) := by decide +kernel
theorem dJ2_charAt_3b067_7 : decode cJ2_charAt_3b067 7 = .ok (.invokestatic 71, 3) := by decide +kernel
theorem dJ2_charAt_3b067_10 : decode cJ2_charAt_3b067 10 = .ok (.ireturn, 1) := by decide +kernel
theorem dJ2_checkIndex_2214a_0 : decode cJ2_checkIndex_2214a 0 = .ok (.iload_n 0, 1) := by decide +kernel
theorem dJ2_checkIndex_2214a_1 : decode cJ2_checkIndex_2214a 1 = .ok (.aload_n 1, 1) := by decide +kernel
theorem dJ2_checkIndex_2214a_2 : decode cJ2_checkIndex_2214a 2 = .ok (.invokestatic 48, 3) := by decide +kernel
theorem dJ2_checkIndex_2214a_5 : decode cJ2_checkIndex_2214a 5 = .ok (.invokestatic 414, 3) := by decide +kernel
theorem dJ2_checkIndex_2214a_8 : decode cJ2_checkIndex_2214a 8 = .ok (.return_, 1) := by decide +kernel
theorem dJ7_fill_53178_0 : decode cJ7_fill_53178 0 = .ok (.iconst 0, 1) := by decide +kernel
theorem dJ7_fill_53178_1 : decode cJ7_fill_53178 1 = .ok (.istore_n 2, 1) := by decide +kernel
theorem dJ7_fill_53178_2 : decode cJ7_fill_53178 2 = .ok (.aload_n 0, 1) := by decide +kernel
theorem dJ7_fill_53178_3 : decode cJ7_fill_53178 3 = .ok (.arraylength, 1) := by decide +kernel
theorem dJ7_fill_53178_4 : decode cJ7_fill_53178 4 = .ok (.istore_n 3, 1) := by decide +kernel
theorem dJ7_fill_53178_5 : decode cJ7_fill_53178 5 = .ok (.iload_n 2, 1) := by decide +kernel
theorem dJ7_fill_53178_6 : decode cJ7_fill_53178 6 = .ok (.iload_n 3, 1) := by decide +kernel
theorem dJ7_fill_53178_7 : decode cJ7_fill_53178 7 = .ok (.if_icmp .ge 13, 3) := by decide +kernel
theorem dJ7_fill_53178_10 : decode cJ7_fill_53178 10 = .ok (.aload_n 0, 1) := by decide +kernel
theorem dJ7_fill_53178_11 : decode cJ7_fill_53178 11 = .ok (.iload_n 2, 1) := by decide +kernel
theorem dJ7_fill_53178_12 : decode cJ7_fill_53178 12 = .ok (.iload_n 1, 1) := by decide +kernel
theorem dJ7_fill_53178_13 : decode cJ7_fill_53178 13 = .ok (.iastore, 1) := by decide +kernel
theorem dJ7_fill_53178_14 : decode cJ7_fill_53178 14 = .ok (.iinc 2 1, 3) := by decide +kernel
theorem dJ7_fill_53178_17 : decode cJ7_fill_53178 17 = .ok (.goto (-12), 3) := by decide +kernel
theorem dJ7_fill_53178_20 : decode cJ7_fill_53178 20 = .ok (.return_, 1) := by decide +kernel
theorem dJ3_checkIndex_8e157_0 : decode cJ3_checkIndex_8e157 0 = .ok (.iload_n 0, 1) := by decide +kernel
theorem dJ3_checkIndex_8e157_1 : decode cJ3_checkIndex_8e157 1 = .ok (.ifCond .lt 8, 3) := by decide +kernel
theorem dJ3_checkIndex_8e157_4 : decode cJ3_checkIndex_8e157 4 = .ok (.iload_n 0, 1) := by decide +kernel
theorem dJ3_checkIndex_8e157_5 : decode cJ3_checkIndex_8e157 5 = .ok (.iload_n 1, 1) := by decide +kernel
theorem dJ3_checkIndex_8e157_6 : decode cJ3_checkIndex_8e157 6 = .ok (.if_icmp .lt 10, 3) := by decide +kernel
theorem dJ3_checkIndex_8e157_9 : decode cJ3_checkIndex_8e157 9 = .ok (.aload_n 2, 1) := by decide +kernel
theorem dJ3_checkIndex_8e157_10 : decode cJ3_checkIndex_8e157 10 = .ok (.iload_n 0, 1) := by decide +kernel
theorem dJ3_checkIndex_8e157_11 : decode cJ3_checkIndex_8e157 11 = .ok (.iload_n 1, 1) := by decide +kernel
theorem dJ3_checkIndex_8e157_12 : decode cJ3_checkIndex_8e157 12 = .ok (.invokestatic 95, 3) := by decide +kernel
theorem dJ3_checkIndex_8e157_15 : decode cJ3_checkIndex_8e157 15 = .ok (.athrow, 1) := by decide +kernel
theorem dJ3_checkIndex_8e157_16 : decode cJ3_checkIndex_8e157 16 = .ok (.iload_n 0, 1) := by decide +kernel
theorem dJ3_checkIndex_8e157_17 : decode cJ3_checkIndex_8e157 17 = .ok (.ireturn, 1) := by decide +kernel
theorem dL_market_0 : decode cL_market 0 = .ok (.aload_n 2, 1) := by decide +kernel
theorem dL_market_1 : decode cL_market 1 = .ok (.iconst 0, 1) := by decide +kernel
theorem dL_market_2 : decode cL_market 2 = .ok (.aload_n 0, 1) := by decide +kernel
theorem dL_market_3 : decode cL_market 3 = .ok (.iload_n 1, 1) := by decide +kernel
theorem dL_market_4 : decode cL_market 4 = .ok (.invokevirtual 7, 3) := by decide +kernel
theorem dL_market_7 : decode cL_market 7 = .ok (.i2l, 1) := by decide +kernel
theorem dL_market_8 : decode cL_market 8 = .ok (.lastore, 1) := by decide +kernel
theorem dL_market_9 : decode cL_market 9 = .ok (.goto 6, 3) := by decide +kernel
theorem dL_market_12 : decode cL_market 12 = .ok (.astore_n 3, 1) := by decide +kernel
theorem dL_market_13 : decode cL_market 13 = .ok (.iconst 1, 1) := by decide +kernel
theorem dL_market_14 : decode cL_market 14 = .ok (.ireturn, 1) := by decide +kernel
theorem dL_market_15 : decode cL_market 15 = .ok (.iconst 0, 1) := by decide +kernel
theorem dL_market_16 : decode cL_market 16 = .ok (.ireturn, 1) := by decide +kernel
theorem dL_law_0 : decode cL_law 0 = .ok (.aload_n 2, 1) := by decide +kernel
theorem dL_law_1 : decode cL_law 1 = .ok (.iconst 0, 1) := by decide +kernel
theorem dL_law_2 : decode cL_law 2 = .ok (.aload_n 0, 1) := by decide +kernel
theorem dL_law_3 : decode cL_law 3 = .ok (.iload_n 1, 1) := by decide +kernel
theorem dL_law_4 : decode cL_law 4 = .ok (.invokevirtual 15, 3) := by decide +kernel
theorem dL_law_7 : decode cL_law 7 = .ok (.i2l, 1) := by decide +kernel
theorem dL_law_8 : decode cL_law 8 = .ok (.lastore, 1) := by decide +kernel
theorem dL_law_9 : decode cL_law 9 = .ok (.goto 6, 3) := by decide +kernel
theorem dL_law_12 : decode cL_law 12 = .ok (.astore_n 3, 1) := by decide +kernel
theorem dL_law_13 : decode cL_law 13 = .ok (.iconst 1, 1) := by decide +kernel
theorem dL_law_14 : decode cL_law 14 = .ok (.ireturn, 1) := by decide +kernel
theorem dL_law_15 : decode cL_law 15 = .ok (.iconst 0, 1) := by decide +kernel
theorem dL_law_16 : decode cL_law 16 = .ok (.ireturn, 1) := by decide +kernel
theorem dL_work_0 : decode cL_work 0 = .ok (.aload_n 2, 1) := by decide +kernel
theorem dL_work_1 : decode cL_work 1 = .ok (.iconst 0, 1) := by decide +kernel
theorem dL_work_2 : decode cL_work 2 = .ok (.aload_n 0, 1) := by decide +kernel
theorem dL_work_3 : decode cL_work 3 = .ok (.iload_n 1, 1) := by decide +kernel
theorem dL_work_4 : decode cL_work 4 = .ok (.invokevirtual 18, 3) := by decide +kernel
theorem dL_work_7 : decode cL_work 7 = .ok (.i2l, 1) := by decide +kernel
theorem dL_work_8 : decode cL_work 8 = .ok (.lastore, 1) := by decide +kernel
theorem dL_work_9 : decode cL_work 9 = .ok (.goto 6, 3) := by decide +kernel
theorem dL_work_12 : decode cL_work 12 = .ok (.astore_n 3, 1) := by decide +kernel
theorem dL_work_13 : decode cL_work 13 = .ok (.iconst 1, 1) := by decide +kernel
theorem dL_work_14 : decode cL_work 14 = .ok (.ireturn, 1) := by decide +kernel
theorem dL_work_15 : decode cL_work 15 = .ok (.iconst 0, 1) := by decide +kernel
theorem dL_work_16 : decode cL_work 16 = .ok (.ireturn, 1) := by decide +kernel
theorem dL_book_0 : decode cL_book 0 = .ok (.aload_n 2, 1) := by decide +kernel
theorem dL_book_1 : decode cL_book 1 = .ok (.iconst 0, 1) := by decide +kernel
theorem dL_book_2 : decode cL_book 2 = .ok (.aload_n 0, 1) := by decide +kernel
theorem dL_book_3 : decode cL_book 3 = .ok (.iload_n 1, 1) := by decide +kernel
theorem dL_book_4 : decode cL_book 4 = .ok (.invokevirtual 21, 3) := by decide +kernel
theorem dL_book_7 : decode cL_book 7 = .ok (.i2l, 1) := by decide +kernel
theorem dL_book_8 : decode cL_book 8 = .ok (.lastore, 1) := by decide +kernel
theorem dL_book_9 : decode cL_book 9 = .ok (.goto 6, 3) := by decide +kernel
theorem dL_book_12 : decode cL_book 12 = .ok (.astore_n 3, 1) := by decide +kernel
theorem dL_book_13 : decode cL_book 13 = .ok (.iconst 1, 1) := by decide +kernel
theorem dL_book_14 : decode cL_book 14 = .ok (.ireturn, 1) := by decide +kernel
theorem dL_book_15 : decode cL_book 15 = .ok (.iconst 0, 1) := by decide +kernel
theorem dL_book_16 : decode cL_book 16 = .ok (.ireturn, 1) := by decide +kernel
theorem dL_told_0 : decode cL_told 0 = .ok (.aload_n 2, 1) := by decide +kernel
theorem dL_told_1 : decode cL_told 1 = .ok (.iconst 0, 1) := by decide +kernel
theorem dL_told_2 : decode cL_told 2 = .ok (.aload_n 0, 1) := by decide +kernel
theorem dL_told_3 : decode cL_told 3 = .ok (.iload_n 1, 1) := by decide +kernel
theorem dL_told_4 : decode cL_told 4 = .ok (.invokevirtual 24, 3) := by decide +kernel
theorem dL_told_7 : decode cL_told 7 = .ok (.i2l, 1) := by decide +kernel
theorem dL_told_8 : decode cL_told 8 = .ok (.lastore, 1) := by decide +kernel
theorem dL_told_9 : decode cL_told 9 = .ok (.goto 6, 3) := by decide +kernel
theorem dL_told_12 : decode cL_told 12 = .ok (.astore_n 3, 1) := by decide +kernel
theorem dL_told_13 : decode cL_told 13 = .ok (.iconst 1, 1) := by decide +kernel
theorem dL_told_14 : decode cL_told 14 = .ok (.ireturn, 1) := by decide +kernel
theorem dL_told_15 : decode cL_told 15 = .ok (.iconst 0, 1) := by decide +kernel
theorem dL_told_16 : decode cL_told 16 = .ok (.ireturn, 1) := by decide +kernel
theorem dL_thing_0 : decode cL_thing 0 = .ok (.aload_n 3, 1) := by decide +kernel
theorem dL_thing_1 : decode cL_thing 1 = .ok (.iconst 0, 1) := by decide +kernel
theorem dL_thing_2 : decode cL_thing 2 = .ok (.aload_n 0, 1) := by decide +kernel
theorem dL_thing_3 : decode cL_thing 3 = .ok (.iload_n 1, 1) := by decide +kernel
theorem dL_thing_4 : decode cL_thing 4 = .ok (.iload_n 2, 1) := by decide +kernel
theorem dL_thing_5 : decode cL_thing 5 = .ok (.invokevirtual 27, 3) := by decide +kernel
theorem dL_thing_8 : decode cL_thing 8 = .ok (.i2l, 1) := by decide +kernel
theorem dL_thing_9 : decode cL_thing 9 = .ok (.lastore, 1) := by decide +kernel
theorem dL_thing_10 : decode cL_thing 10 = .ok (.goto 11, 3) := by decide +kernel
theorem dL_thing_13 : decode cL_thing 13 = .ok (.astore 4, 2) := by decide +kernel
theorem dL_thing_15 : decode cL_thing 15 = .ok (.iconst 1, 1) := by decide +kernel
theorem dL_thing_16 : decode cL_thing 16 = .ok (.ireturn, 1) := by decide +kernel
theorem dL_thing_17 : decode cL_thing 17 = .ok (.astore 4, 2) := by decide +kernel
theorem dL_thing_19 : decode cL_thing 19 = .ok (.iconst 2, 1) := by decide +kernel
theorem dL_thing_20 : decode cL_thing 20 = .ok (.ireturn, 1) := by decide +kernel
theorem dL_thing_21 : decode cL_thing 21 = .ok (.iconst 0, 1) := by decide +kernel
theorem dL_thing_22 : decode cL_thing 22 = .ok (.ireturn, 1) := by decide +kernel
theorem dL_cry_0 : decode cL_cry 0 = .ok (.aload_n 3, 1) := by decide +kernel
theorem dL_cry_1 : decode cL_cry 1 = .ok (.iconst 0, 1) := by decide +kernel
theorem dL_cry_2 : decode cL_cry 2 = .ok (.aload_n 0, 1) := by decide +kernel
theorem dL_cry_3 : decode cL_cry 3 = .ok (.iload_n 1, 1) := by decide +kernel
theorem dL_cry_4 : decode cL_cry 4 = .ok (.iload_n 2, 1) := by decide +kernel
theorem dL_cry_5 : decode cL_cry 5 = .ok (.invokevirtual 33, 3) := by decide +kernel
theorem dL_cry_8 : decode cL_cry 8 = .ok (.i2l, 1) := by decide +kernel
theorem dL_cry_9 : decode cL_cry 9 = .ok (.lastore, 1) := by decide +kernel
theorem dL_cry_10 : decode cL_cry 10 = .ok (.goto 11, 3) := by decide +kernel
theorem dL_cry_13 : decode cL_cry 13 = .ok (.astore 4, 2) := by decide +kernel
theorem dL_cry_15 : decode cL_cry 15 = .ok (.iconst 1, 1) := by decide +kernel
theorem dL_cry_16 : decode cL_cry 16 = .ok (.ireturn, 1) := by decide +kernel
theorem dL_cry_17 : decode cL_cry 17 = .ok (.astore 4, 2) := by decide +kernel
theorem dL_cry_19 : decode cL_cry 19 = .ok (.iconst 2, 1) := by decide +kernel
theorem dL_cry_20 : decode cL_cry 20 = .ok (.ireturn, 1) := by decide +kernel
theorem dL_cry_21 : decode cL_cry 21 = .ok (.iconst 0, 1) := by decide +kernel
theorem dL_cry_22 : decode cL_cry 22 = .ok (.ireturn, 1) := by decide +kernel
theorem dL_stands_0 : decode cL_stands 0 = .ok (.aload 5, 2) := by decide +kernel
theorem dL_stands_2 : decode cL_stands 2 = .ok (.iconst 0, 1) := by decide +kernel
theorem dL_stands_3 : decode cL_stands 3 = .ok (.aload_n 0, 1) := by decide +kernel
theorem dL_stands_4 : decode cL_stands 4 = .ok (.iload_n 1, 1) := by decide +kernel
theorem dL_stands_5 : decode cL_stands 5 = .ok (.iload_n 2, 1) := by decide +kernel
theorem dL_stands_6 : decode cL_stands 6 = .ok (.iload_n 3, 1) := by decide +kernel
theorem dL_stands_7 : decode cL_stands 7 = .ok (.iload 4, 2) := by decide +kernel
theorem dL_stands_9 : decode cL_stands 9 = .ok (.invokevirtual 36, 3) := by decide +kernel
theorem dL_stands_12 : decode cL_stands 12 = .ok (.i2l, 1) := by decide +kernel
theorem dL_stands_13 : decode cL_stands 13 = .ok (.lastore, 1) := by decide +kernel
theorem dL_stands_14 : decode cL_stands 14 = .ok (.goto 11, 3) := by decide +kernel
theorem dL_stands_17 : decode cL_stands 17 = .ok (.astore 6, 2) := by decide +kernel
theorem dL_stands_19 : decode cL_stands 19 = .ok (.iconst 1, 1) := by decide +kernel
theorem dL_stands_20 : decode cL_stands 20 = .ok (.ireturn, 1) := by decide +kernel
theorem dL_stands_21 : decode cL_stands 21 = .ok (.astore 6, 2) := by decide +kernel
theorem dL_stands_23 : decode cL_stands 23 = .ok (.iconst 2, 1) := by decide +kernel
theorem dL_stands_24 : decode cL_stands 24 = .ok (.ireturn, 1) := by decide +kernel
theorem dL_stands_25 : decode cL_stands 25 = .ok (.iconst 0, 1) := by decide +kernel
theorem dL_stands_26 : decode cL_stands 26 = .ok (.ireturn, 1) := by decide +kernel
theorem dL_would_0 : decode cL_would 0 = .ok (.aload 8, 2) := by decide +kernel
theorem dL_would_2 : decode cL_would 2 = .ok (.iconst 0, 1) := by decide +kernel
theorem dL_would_3 : decode cL_would 3 = .ok (.aload_n 0, 1) := by decide +kernel
theorem dL_would_4 : decode cL_would 4 = .ok (.iload_n 1, 1) := by decide +kernel
theorem dL_would_5 : decode cL_would 5 = .ok (.iload_n 2, 1) := by decide +kernel
theorem dL_would_6 : decode cL_would 6 = .ok (.iload_n 3, 1) := by decide +kernel
theorem dL_would_7 : decode cL_would 7 = .ok (.iload 4, 2) := by decide +kernel
theorem dL_would_9 : decode cL_would 9 = .ok (.iload 5, 2) := by decide +kernel
theorem dL_would_11 : decode cL_would 11 = .ok (.iload 6, 2) := by decide +kernel
theorem dL_would_13 : decode cL_would 13 = .ok (.iload 7, 2) := by decide +kernel
theorem dL_would_15 : decode cL_would 15 = .ok (.invokevirtual 40, 3) := by decide +kernel
theorem dL_would_18 : decode cL_would 18 = .ok (.i2l, 1) := by decide +kernel
theorem dL_would_19 : decode cL_would 19 = .ok (.lastore, 1) := by decide +kernel
theorem dL_would_20 : decode cL_would 20 = .ok (.goto 7, 3) := by decide +kernel
theorem dL_would_23 : decode cL_would 23 = .ok (.astore 9, 2) := by decide +kernel
theorem dL_would_25 : decode cL_would 25 = .ok (.iconst 1, 1) := by decide +kernel
theorem dL_would_26 : decode cL_would 26 = .ok (.ireturn, 1) := by decide +kernel
theorem dL_would_27 : decode cL_would 27 = .ok (.iconst 0, 1) := by decide +kernel
theorem dL_would_28 : decode cL_would 28 = .ok (.ireturn, 1) := by decide +kernel
theorem dL_ahead_0 : decode cL_ahead 0 = .ok (.aload_n 3, 1) := by decide +kernel
theorem dL_ahead_1 : decode cL_ahead 1 = .ok (.iconst 0, 1) := by decide +kernel
theorem dL_ahead_2 : decode cL_ahead 2 = .ok (.aload_n 0, 1) := by decide +kernel
theorem dL_ahead_3 : decode cL_ahead 3 = .ok (.iload_n 1, 1) := by decide +kernel
theorem dL_ahead_4 : decode cL_ahead 4 = .ok (.iload_n 2, 1) := by decide +kernel
theorem dL_ahead_5 : decode cL_ahead 5 = .ok (.invokevirtual 44, 3) := by decide +kernel
theorem dL_ahead_8 : decode cL_ahead 8 = .ok (.i2l, 1) := by decide +kernel
theorem dL_ahead_9 : decode cL_ahead 9 = .ok (.lastore, 1) := by decide +kernel
theorem dL_ahead_10 : decode cL_ahead 10 = .ok (.goto 7, 3) := by decide +kernel
theorem dL_ahead_13 : decode cL_ahead 13 = .ok (.astore 4, 2) := by decide +kernel
theorem dL_ahead_15 : decode cL_ahead 15 = .ok (.iconst 1, 1) := by decide +kernel
theorem dL_ahead_16 : decode cL_ahead 16 = .ok (.ireturn, 1) := by decide +kernel
theorem dL_ahead_17 : decode cL_ahead 17 = .ok (.iconst 0, 1) := by decide +kernel
theorem dL_ahead_18 : decode cL_ahead 18 = .ok (.ireturn, 1) := by decide +kernel
theorem dL_worth_0 : decode cL_worth 0 = .ok (.aload 4, 2) := by decide +kernel
theorem dL_worth_2 : decode cL_worth 2 = .ok (.iconst 0, 1) := by decide +kernel
theorem dL_worth_3 : decode cL_worth 3 = .ok (.aload_n 0, 1) := by decide +kernel
theorem dL_worth_4 : decode cL_worth 4 = .ok (.iload_n 1, 1) := by decide +kernel
theorem dL_worth_5 : decode cL_worth 5 = .ok (.iload_n 2, 1) := by decide +kernel
theorem dL_worth_6 : decode cL_worth 6 = .ok (.iload_n 3, 1) := by decide +kernel
theorem dL_worth_7 : decode cL_worth 7 = .ok (.invokevirtual 47, 3) := by decide +kernel
theorem dL_worth_10 : decode cL_worth 10 = .ok (.lastore, 1) := by decide +kernel
theorem dL_worth_11 : decode cL_worth 11 = .ok (.goto 11, 3) := by decide +kernel
theorem dL_worth_14 : decode cL_worth 14 = .ok (.astore 5, 2) := by decide +kernel
theorem dL_worth_16 : decode cL_worth 16 = .ok (.iconst 1, 1) := by decide +kernel
theorem dL_worth_17 : decode cL_worth 17 = .ok (.ireturn, 1) := by decide +kernel
theorem dL_worth_18 : decode cL_worth 18 = .ok (.astore 5, 2) := by decide +kernel
theorem dL_worth_20 : decode cL_worth 20 = .ok (.iconst 2, 1) := by decide +kernel
theorem dL_worth_21 : decode cL_worth 21 = .ok (.ireturn, 1) := by decide +kernel
theorem dL_worth_22 : decode cL_worth 22 = .ok (.iconst 0, 1) := by decide +kernel
theorem dL_worth_23 : decode cL_worth 23 = .ok (.ireturn, 1) := by decide +kernel
theorem dL_fattest_0 : decode cL_fattest 0 = .ok (.aload_n 2, 1) := by decide +kernel
theorem dL_fattest_1 : decode cL_fattest 1 = .ok (.iconst 0, 1) := by decide +kernel
theorem dL_fattest_2 : decode cL_fattest 2 = .ok (.aload_n 0, 1) := by decide +kernel
theorem dL_fattest_3 : decode cL_fattest 3 = .ok (.iload_n 1, 1) := by decide +kernel
theorem dL_fattest_4 : decode cL_fattest 4 = .ok (.invokevirtual 51, 3) := by decide +kernel
theorem dL_fattest_7 : decode cL_fattest 7 = .ok (.lastore, 1) := by decide +kernel
theorem dL_fattest_8 : decode cL_fattest 8 = .ok (.goto 6, 3) := by decide +kernel
theorem dL_fattest_11 : decode cL_fattest 11 = .ok (.astore_n 3, 1) := by decide +kernel
theorem dL_fattest_12 : decode cL_fattest 12 = .ok (.iconst 1, 1) := by decide +kernel
theorem dL_fattest_13 : decode cL_fattest 13 = .ok (.ireturn, 1) := by decide +kernel
theorem dL_fattest_14 : decode cL_fattest 14 = .ok (.iconst 0, 1) := by decide +kernel
theorem dL_fattest_15 : decode cL_fattest 15 = .ok (.ireturn, 1) := by decide +kernel
theorem dL_match_0 : decode cL_match 0 = .ok (.aload_n 3, 1) := by decide +kernel
theorem dL_match_1 : decode cL_match 1 = .ok (.iconst 0, 1) := by decide +kernel
theorem dL_match_2 : decode cL_match 2 = .ok (.aload_n 0, 1) := by decide +kernel
theorem dL_match_3 : decode cL_match 3 = .ok (.iload_n 1, 1) := by decide +kernel
theorem dL_match_4 : decode cL_match 4 = .ok (.iload_n 2, 1) := by decide +kernel
theorem dL_match_5 : decode cL_match 5 = .ok (.invokevirtual 55, 3) := by decide +kernel
theorem dL_match_8 : decode cL_match 8 = .ok (.i2l, 1) := by decide +kernel
theorem dL_match_9 : decode cL_match 9 = .ok (.lastore, 1) := by decide +kernel
theorem dL_match_10 : decode cL_match 10 = .ok (.goto 7, 3) := by decide +kernel
theorem dL_match_13 : decode cL_match 13 = .ok (.astore 4, 2) := by decide +kernel
theorem dL_match_15 : decode cL_match 15 = .ok (.iconst 1, 1) := by decide +kernel
theorem dL_match_16 : decode cL_match 16 = .ok (.ireturn, 1) := by decide +kernel
theorem dL_match_17 : decode cL_match 17 = .ok (.iconst 0, 1) := by decide +kernel
theorem dL_match_18 : decode cL_match 18 = .ok (.ireturn, 1) := by decide +kernel
theorem dL_fewest_0 : decode cL_fewest 0 = .ok (.aload_n 2, 1) := by decide +kernel
theorem dL_fewest_1 : decode cL_fewest 1 = .ok (.iconst 0, 1) := by decide +kernel
theorem dL_fewest_2 : decode cL_fewest 2 = .ok (.aload_n 0, 1) := by decide +kernel
theorem dL_fewest_3 : decode cL_fewest 3 = .ok (.iload_n 1, 1) := by decide +kernel
theorem dL_fewest_4 : decode cL_fewest 4 = .ok (.invokevirtual 58, 3) := by decide +kernel
theorem dL_fewest_7 : decode cL_fewest 7 = .ok (.i2l, 1) := by decide +kernel
theorem dL_fewest_8 : decode cL_fewest 8 = .ok (.lastore, 1) := by decide +kernel
theorem dL_fewest_9 : decode cL_fewest 9 = .ok (.goto 6, 3) := by decide +kernel
theorem dL_fewest_12 : decode cL_fewest 12 = .ok (.astore_n 3, 1) := by decide +kernel
theorem dL_fewest_13 : decode cL_fewest 13 = .ok (.iconst 1, 1) := by decide +kernel
theorem dL_fewest_14 : decode cL_fewest 14 = .ok (.ireturn, 1) := by decide +kernel
theorem dL_fewest_15 : decode cL_fewest 15 = .ok (.iconst 0, 1) := by decide +kernel
theorem dL_fewest_16 : decode cL_fewest 16 = .ok (.ireturn, 1) := by decide +kernel
theorem dL_level_0 : decode cL_level 0 = .ok (.aload_n 3, 1) := by decide +kernel
theorem dL_level_1 : decode cL_level 1 = .ok (.iconst 0, 1) := by decide +kernel
theorem dL_level_2 : decode cL_level 2 = .ok (.aload_n 0, 1) := by decide +kernel
theorem dL_level_3 : decode cL_level 3 = .ok (.iload_n 1, 1) := by decide +kernel
theorem dL_level_4 : decode cL_level 4 = .ok (.iload_n 2, 1) := by decide +kernel
theorem dL_level_5 : decode cL_level 5 = .ok (.invokevirtual 61, 3) := by decide +kernel
theorem dL_level_8 : decode cL_level 8 = .ok (.i2l, 1) := by decide +kernel
theorem dL_level_9 : decode cL_level 9 = .ok (.lastore, 1) := by decide +kernel
theorem dL_level_10 : decode cL_level 10 = .ok (.goto 7, 3) := by decide +kernel
theorem dL_level_13 : decode cL_level 13 = .ok (.astore 4, 2) := by decide +kernel
theorem dL_level_15 : decode cL_level 15 = .ok (.iconst 1, 1) := by decide +kernel
theorem dL_level_16 : decode cL_level 16 = .ok (.ireturn, 1) := by decide +kernel
theorem dL_level_17 : decode cL_level 17 = .ok (.iconst 0, 1) := by decide +kernel
theorem dL_level_18 : decode cL_level 18 = .ok (.ireturn, 1) := by decide +kernel
theorem dL_fits_0 : decode cL_fits 0 = .ok (.aload_n 2, 1) := by decide +kernel
theorem dL_fits_1 : decode cL_fits 1 = .ok (.iconst 0, 1) := by decide +kernel
theorem dL_fits_2 : decode cL_fits 2 = .ok (.aload_n 0, 1) := by decide +kernel
theorem dL_fits_3 : decode cL_fits 3 = .ok (.iload_n 1, 1) := by decide +kernel
theorem dL_fits_4 : decode cL_fits 4 = .ok (.invokevirtual 64, 3) := by decide +kernel
theorem dL_fits_7 : decode cL_fits 7 = .ok (.i2l, 1) := by decide +kernel
theorem dL_fits_8 : decode cL_fits 8 = .ok (.lastore, 1) := by decide +kernel
theorem dL_fits_9 : decode cL_fits 9 = .ok (.goto 6, 3) := by decide +kernel
theorem dL_fits_12 : decode cL_fits 12 = .ok (.astore_n 3, 1) := by decide +kernel
theorem dL_fits_13 : decode cL_fits 13 = .ok (.iconst 1, 1) := by decide +kernel
theorem dL_fits_14 : decode cL_fits 14 = .ok (.ireturn, 1) := by decide +kernel
theorem dL_fits_15 : decode cL_fits 15 = .ok (.iconst 0, 1) := by decide +kernel
theorem dL_fits_16 : decode cL_fits 16 = .ok (.ireturn, 1) := by decide +kernel
theorem dL_look_0 : decode cL_look 0 = .ok (.aload_n 2, 1) := by decide +kernel
theorem dL_look_1 : decode cL_look 1 = .ok (.iconst 0, 1) := by decide +kernel
theorem dL_look_2 : decode cL_look 2 = .ok (.aload_n 0, 1) := by decide +kernel
theorem dL_look_3 : decode cL_look 3 = .ok (.iload_n 1, 1) := by decide +kernel
theorem dL_look_4 : decode cL_look 4 = .ok (.invokevirtual 67, 3) := by decide +kernel
theorem dL_look_7 : decode cL_look 7 = .ok (.i2l, 1) := by decide +kernel
theorem dL_look_8 : decode cL_look 8 = .ok (.lastore, 1) := by decide +kernel
theorem dL_look_9 : decode cL_look 9 = .ok (.goto 6, 3) := by decide +kernel
theorem dL_look_12 : decode cL_look 12 = .ok (.astore_n 3, 1) := by decide +kernel
theorem dL_look_13 : decode cL_look 13 = .ok (.iconst 1, 1) := by decide +kernel
theorem dL_look_14 : decode cL_look 14 = .ok (.ireturn, 1) := by decide +kernel
theorem dL_look_15 : decode cL_look 15 = .ok (.iconst 0, 1) := by decide +kernel
theorem dL_look_16 : decode cL_look 16 = .ok (.ireturn, 1) := by decide +kernel
theorem dL_falsely_0 : decode cL_falsely 0 = .ok (.aload_n 2, 1) := by decide +kernel
theorem dL_falsely_1 : decode cL_falsely 1 = .ok (.iconst 0, 1) := by decide +kernel
theorem dL_falsely_2 : decode cL_falsely 2 = .ok (.aload_n 0, 1) := by decide +kernel
theorem dL_falsely_3 : decode cL_falsely 3 = .ok (.iload_n 1, 1) := by decide +kernel
theorem dL_falsely_4 : decode cL_falsely 4 = .ok (.invokevirtual 70, 3) := by decide +kernel
theorem dL_falsely_7 : decode cL_falsely 7 = .ok (.i2l, 1) := by decide +kernel
theorem dL_falsely_8 : decode cL_falsely 8 = .ok (.lastore, 1) := by decide +kernel
theorem dL_falsely_9 : decode cL_falsely 9 = .ok (.goto 6, 3) := by decide +kernel
theorem dL_falsely_12 : decode cL_falsely 12 = .ok (.astore_n 3, 1) := by decide +kernel
theorem dL_falsely_13 : decode cL_falsely 13 = .ok (.iconst 1, 1) := by decide +kernel
theorem dL_falsely_14 : decode cL_falsely 14 = .ok (.ireturn, 1) := by decide +kernel
theorem dL_falsely_15 : decode cL_falsely 15 = .ok (.iconst 0, 1) := by decide +kernel
theorem dL_falsely_16 : decode cL_falsely 16 = .ok (.ireturn, 1) := by decide +kernel
theorem dL_sellers_0 : decode cL_sellers 0 = .ok (.aload 4, 2) := by decide +kernel
theorem dL_sellers_2 : decode cL_sellers 2 = .ok (.iconst 0, 1) := by decide +kernel
theorem dL_sellers_3 : decode cL_sellers 3 = .ok (.aload_n 0, 1) := by decide +kernel
theorem dL_sellers_4 : decode cL_sellers 4 = .ok (.iload_n 1, 1) := by decide +kernel
theorem dL_sellers_5 : decode cL_sellers 5 = .ok (.iload_n 2, 1) := by decide +kernel
theorem dL_sellers_6 : decode cL_sellers 6 = .ok (.iload_n 3, 1) := by decide +kernel
theorem dL_sellers_7 : decode cL_sellers 7 = .ok (.invokevirtual 73, 3) := by decide +kernel
theorem dL_sellers_10 : decode cL_sellers 10 = .ok (.i2l, 1) := by decide +kernel
theorem dL_sellers_11 : decode cL_sellers 11 = .ok (.lastore, 1) := by decide +kernel
theorem dL_sellers_12 : decode cL_sellers 12 = .ok (.goto 7, 3) := by decide +kernel
theorem dL_sellers_15 : decode cL_sellers 15 = .ok (.astore 5, 2) := by decide +kernel
theorem dL_sellers_17 : decode cL_sellers 17 = .ok (.iconst 1, 1) := by decide +kernel
theorem dL_sellers_18 : decode cL_sellers 18 = .ok (.ireturn, 1) := by decide +kernel
theorem dL_sellers_19 : decode cL_sellers 19 = .ok (.iconst 0, 1) := by decide +kernel
theorem dL_sellers_20 : decode cL_sellers 20 = .ok (.ireturn, 1) := by decide +kernel
theorem dL_even_0 : decode cL_even 0 = .ok (.aload 4, 2) := by decide +kernel
theorem dL_even_2 : decode cL_even 2 = .ok (.iconst 0, 1) := by decide +kernel
theorem dL_even_3 : decode cL_even 3 = .ok (.aload_n 0, 1) := by decide +kernel
theorem dL_even_4 : decode cL_even 4 = .ok (.iload_n 1, 1) := by decide +kernel
theorem dL_even_5 : decode cL_even 5 = .ok (.iload_n 2, 1) := by decide +kernel
theorem dL_even_6 : decode cL_even 6 = .ok (.iload_n 3, 1) := by decide +kernel
theorem dL_even_7 : decode cL_even 7 = .ok (.invokevirtual 77, 3) := by decide +kernel
theorem dL_even_10 : decode cL_even 10 = .ok (.lastore, 1) := by decide +kernel
theorem dL_even_11 : decode cL_even 11 = .ok (.goto 7, 3) := by decide +kernel
theorem dL_even_14 : decode cL_even 14 = .ok (.astore 5, 2) := by decide +kernel
theorem dL_even_16 : decode cL_even 16 = .ok (.iconst 1, 1) := by decide +kernel
theorem dL_even_17 : decode cL_even 17 = .ok (.ireturn, 1) := by decide +kernel
theorem dL_even_18 : decode cL_even 18 = .ok (.iconst 0, 1) := by decide +kernel
theorem dL_even_19 : decode cL_even 19 = .ok (.ireturn, 1) := by decide +kernel
theorem dL_share_0 : decode cL_share 0 = .ok (.aload 4, 2) := by decide +kernel
theorem dL_share_2 : decode cL_share 2 = .ok (.iconst 0, 1) := by decide +kernel
theorem dL_share_3 : decode cL_share 3 = .ok (.aload_n 0, 1) := by decide +kernel
theorem dL_share_4 : decode cL_share 4 = .ok (.iload_n 1, 1) := by decide +kernel
theorem dL_share_5 : decode cL_share 5 = .ok (.iload_n 2, 1) := by decide +kernel
theorem dL_share_6 : decode cL_share 6 = .ok (.iload_n 3, 1) := by decide +kernel
theorem dL_share_7 : decode cL_share 7 = .ok (.invokevirtual 80, 3) := by decide +kernel
theorem dL_share_10 : decode cL_share 10 = .ok (.i2l, 1) := by decide +kernel
theorem dL_share_11 : decode cL_share 11 = .ok (.lastore, 1) := by decide +kernel
theorem dL_share_12 : decode cL_share 12 = .ok (.goto 11, 3) := by decide +kernel
theorem dL_share_15 : decode cL_share 15 = .ok (.astore 5, 2) := by decide +kernel
theorem dL_share_17 : decode cL_share 17 = .ok (.iconst 1, 1) := by decide +kernel
theorem dL_share_18 : decode cL_share 18 = .ok (.ireturn, 1) := by decide +kernel
theorem dL_share_19 : decode cL_share 19 = .ok (.astore 5, 2) := by decide +kernel
theorem dL_share_21 : decode cL_share 21 = .ok (.iconst 2, 1) := by decide +kernel
theorem dL_share_22 : decode cL_share 22 = .ok (.ireturn, 1) := by decide +kernel
theorem dL_share_23 : decode cL_share 23 = .ok (.iconst 0, 1) := by decide +kernel
theorem dL_share_24 : decode cL_share 24 = .ok (.ireturn, 1) := by decide +kernel
theorem dL_heaviest_0 : decode cL_heaviest 0 = .ok (.aload_n 2, 1) := by decide +kernel
theorem dL_heaviest_1 : decode cL_heaviest 1 = .ok (.iconst 0, 1) := by decide +kernel
theorem dL_heaviest_2 : decode cL_heaviest 2 = .ok (.aload_n 0, 1) := by decide +kernel
theorem dL_heaviest_3 : decode cL_heaviest 3 = .ok (.iload_n 1, 1) := by decide +kernel
theorem dL_heaviest_4 : decode cL_heaviest 4 = .ok (.invokevirtual 83, 3) := by decide +kernel
theorem dL_heaviest_7 : decode cL_heaviest 7 = .ok (.i2l, 1) := by decide +kernel
theorem dL_heaviest_8 : decode cL_heaviest 8 = .ok (.lastore, 1) := by decide +kernel
theorem dL_heaviest_9 : decode cL_heaviest 9 = .ok (.goto 6, 3) := by decide +kernel
theorem dL_heaviest_12 : decode cL_heaviest 12 = .ok (.astore_n 3, 1) := by decide +kernel
theorem dL_heaviest_13 : decode cL_heaviest 13 = .ok (.iconst 1, 1) := by decide +kernel
theorem dL_heaviest_14 : decode cL_heaviest 14 = .ok (.ireturn, 1) := by decide +kernel
theorem dL_heaviest_15 : decode cL_heaviest 15 = .ok (.iconst 0, 1) := by decide +kernel
theorem dL_heaviest_16 : decode cL_heaviest 16 = .ok (.ireturn, 1) := by decide +kernel
theorem dL_above_0 : decode cL_above 0 = .ok (.aload_n 2, 1) := by decide +kernel
theorem dL_above_1 : decode cL_above 1 = .ok (.iconst 0, 1) := by decide +kernel
theorem dL_above_2 : decode cL_above 2 = .ok (.aload_n 0, 1) := by decide +kernel
theorem dL_above_3 : decode cL_above 3 = .ok (.iload_n 1, 1) := by decide +kernel
theorem dL_above_4 : decode cL_above 4 = .ok (.invokevirtual 86, 3) := by decide +kernel
theorem dL_above_7 : decode cL_above 7 = .ok (.i2l, 1) := by decide +kernel
theorem dL_above_8 : decode cL_above 8 = .ok (.lastore, 1) := by decide +kernel
theorem dL_above_9 : decode cL_above 9 = .ok (.goto 6, 3) := by decide +kernel
theorem dL_above_12 : decode cL_above 12 = .ok (.astore_n 3, 1) := by decide +kernel
theorem dL_above_13 : decode cL_above 13 = .ok (.iconst 1, 1) := by decide +kernel
theorem dL_above_14 : decode cL_above 14 = .ok (.ireturn, 1) := by decide +kernel
theorem dL_above_15 : decode cL_above 15 = .ok (.iconst 0, 1) := by decide +kernel
theorem dL_above_16 : decode cL_above 16 = .ok (.ireturn, 1) := by decide +kernel
theorem dL_alike_0 : decode cL_alike 0 = .ok (.aload_n 2, 1) := by decide +kernel
theorem dL_alike_1 : decode cL_alike 1 = .ok (.iconst 0, 1) := by decide +kernel
theorem dL_alike_2 : decode cL_alike 2 = .ok (.aload_n 0, 1) := by decide +kernel
theorem dL_alike_3 : decode cL_alike 3 = .ok (.iload_n 1, 1) := by decide +kernel
theorem dL_alike_4 : decode cL_alike 4 = .ok (.invokevirtual 89, 3) := by decide +kernel
theorem dL_alike_7 : decode cL_alike 7 = .ok (.i2l, 1) := by decide +kernel
theorem dL_alike_8 : decode cL_alike 8 = .ok (.lastore, 1) := by decide +kernel
theorem dL_alike_9 : decode cL_alike 9 = .ok (.goto 6, 3) := by decide +kernel
theorem dL_alike_12 : decode cL_alike 12 = .ok (.astore_n 3, 1) := by decide +kernel
theorem dL_alike_13 : decode cL_alike 13 = .ok (.iconst 1, 1) := by decide +kernel
theorem dL_alike_14 : decode cL_alike 14 = .ok (.ireturn, 1) := by decide +kernel
theorem dL_alike_15 : decode cL_alike 15 = .ok (.iconst 0, 1) := by decide +kernel
theorem dL_alike_16 : decode cL_alike 16 = .ok (.ireturn, 1) := by decide +kernel
theorem dL_against_0 : decode cL_against 0 = .ok (.aload_n 3, 1) := by decide +kernel
theorem dL_against_1 : decode cL_against 1 = .ok (.iconst 0, 1) := by decide +kernel
theorem dL_against_2 : decode cL_against 2 = .ok (.aload_n 0, 1) := by decide +kernel
theorem dL_against_3 : decode cL_against 3 = .ok (.iload_n 1, 1) := by decide +kernel
theorem dL_against_4 : decode cL_against 4 = .ok (.iload_n 2, 1) := by decide +kernel
theorem dL_against_5 : decode cL_against 5 = .ok (.invokevirtual 92, 3) := by decide +kernel
theorem dL_against_8 : decode cL_against 8 = .ok (.i2l, 1) := by decide +kernel
theorem dL_against_9 : decode cL_against 9 = .ok (.lastore, 1) := by decide +kernel
theorem dL_against_10 : decode cL_against 10 = .ok (.goto 7, 3) := by decide +kernel
theorem dL_against_13 : decode cL_against 13 = .ok (.astore 4, 2) := by decide +kernel
theorem dL_against_15 : decode cL_against 15 = .ok (.iconst 1, 1) := by decide +kernel
theorem dL_against_16 : decode cL_against 16 = .ok (.ireturn, 1) := by decide +kernel
theorem dL_against_17 : decode cL_against 17 = .ok (.iconst 0, 1) := by decide +kernel
theorem dL_against_18 : decode cL_against 18 = .ok (.ireturn, 1) := by decide +kernel
theorem dL_fair_0 : decode cL_fair 0 = .ok (.aload 5, 2) := by decide +kernel
theorem dL_fair_2 : decode cL_fair 2 = .ok (.iconst 0, 1) := by decide +kernel
theorem dL_fair_3 : decode cL_fair 3 = .ok (.aload_n 0, 1) := by decide +kernel
theorem dL_fair_4 : decode cL_fair 4 = .ok (.iload_n 1, 1) := by decide +kernel
theorem dL_fair_5 : decode cL_fair 5 = .ok (.iload_n 2, 1) := by decide +kernel
theorem dL_fair_6 : decode cL_fair 6 = .ok (.iload_n 3, 1) := by decide +kernel
theorem dL_fair_7 : decode cL_fair 7 = .ok (.iload 4, 2) := by decide +kernel
theorem dL_fair_9 : decode cL_fair 9 = .ok (.invokevirtual 95, 3) := by decide +kernel
theorem dL_fair_12 : decode cL_fair 12 = .ok (.i2l, 1) := by decide +kernel
theorem dL_fair_13 : decode cL_fair 13 = .ok (.lastore, 1) := by decide +kernel
theorem dL_fair_14 : decode cL_fair 14 = .ok (.goto 7, 3) := by decide +kernel
theorem dL_fair_17 : decode cL_fair 17 = .ok (.astore 6, 2) := by decide +kernel
theorem dL_fair_19 : decode cL_fair 19 = .ok (.iconst 1, 1) := by decide +kernel
theorem dL_fair_20 : decode cL_fair 20 = .ok (.ireturn, 1) := by decide +kernel
theorem dL_fair_21 : decode cL_fair 21 = .ok (.iconst 0, 1) := by decide +kernel
theorem dL_fair_22 : decode cL_fair 22 = .ok (.ireturn, 1) := by decide +kernel
theorem dL_span_0 : decode cL_span 0 = .ok (.aload 7, 2) := by decide +kernel
theorem dL_span_2 : decode cL_span 2 = .ok (.iconst 0, 1) := by decide +kernel
theorem dL_span_3 : decode cL_span 3 = .ok (.aload_n 0, 1) := by decide +kernel
theorem dL_span_4 : decode cL_span 4 = .ok (.iload_n 1, 1) := by decide +kernel
theorem dL_span_5 : decode cL_span 5 = .ok (.iload_n 2, 1) := by decide +kernel
theorem dL_span_6 : decode cL_span 6 = .ok (.iload_n 3, 1) := by decide +kernel
theorem dL_span_7 : decode cL_span 7 = .ok (.iload 4, 2) := by decide +kernel
theorem dL_span_9 : decode cL_span 9 = .ok (.iload 5, 2) := by decide +kernel
theorem dL_span_11 : decode cL_span 11 = .ok (.iload 6, 2) := by decide +kernel
theorem dL_span_13 : decode cL_span 13 = .ok (.invokevirtual 98, 3) := by decide +kernel
theorem dL_span_16 : decode cL_span 16 = .ok (.i2l, 1) := by decide +kernel
theorem dL_span_17 : decode cL_span 17 = .ok (.lastore, 1) := by decide +kernel
theorem dL_span_18 : decode cL_span 18 = .ok (.goto 7, 3) := by decide +kernel
theorem dL_span_21 : decode cL_span 21 = .ok (.astore 8, 2) := by decide +kernel
theorem dL_span_23 : decode cL_span 23 = .ok (.iconst 1, 1) := by decide +kernel
theorem dL_span_24 : decode cL_span 24 = .ok (.ireturn, 1) := by decide +kernel
theorem dL_span_25 : decode cL_span 25 = .ok (.iconst 0, 1) := by decide +kernel
theorem dL_span_26 : decode cL_span 26 = .ok (.ireturn, 1) := by decide +kernel
theorem dL_law__0 : decode cL_law_ 0 = .ok (.new 8, 3) := by decide +kernel
theorem dL_law__3 : decode cL_law_ 3 = .ok (.dup, 1) := by decide +kernel
theorem dL_law__4 : decode cL_law_ 4 = .ok (.invokespecial 102, 3) := by decide +kernel
theorem dL_law__7 : decode cL_law_ 7 = .ok (.astore_n 1, 1) := by decide +kernel
theorem dL_law__8 : decode cL_law_ 8 = .ok (.new 103, 3) := by decide +kernel
theorem dL_law__11 : decode cL_law_ 11 = .ok (.dup, 1) := by decide +kernel
theorem dL_law__12 : decode cL_law_ 12 = .ok (.invokespecial 105, 3) := by decide +kernel
theorem dL_law__15 : decode cL_law_ 15 = .ok (.astore_n 2, 1) := by decide +kernel
theorem dL_law__16 : decode cL_law_ 16 = .ok (.iconst 1, 1) := by decide +kernel
theorem dL_law__17 : decode cL_law_ 17 = .ok (.newarray .long, 2) := by decide +kernel
theorem dL_law__19 : decode cL_law_ 19 = .ok (.astore_n 3, 1) := by decide +kernel
theorem dL_law__20 : decode cL_law_ 20 = .ok (.iconst 0, 1) := by decide +kernel
theorem dL_law__21 : decode cL_law_ 21 = .ok (.istore 4, 2) := by decide +kernel
theorem dL_law__23 : decode cL_law_ 23 = .ok (.iload 4, 2) := by decide +kernel
theorem dL_law__25 : decode cL_law_ 25 = .ok (.aload_n 0, 1) := by decide +kernel
theorem dL_law__26 : decode cL_law_ 26 = .ok (.arraylength, 1) := by decide +kernel
theorem dL_law__27 : decode cL_law_ 27 = .ok (.bipush 8, 2) := by decide +kernel
theorem dL_law__29 : decode cL_law_ 29 = .ok (.isub, 1) := by decide +kernel
theorem dL_law__30 : decode cL_law_ 30 = .ok (.if_icmp .gt 2264, 3) := by decide +kernel
theorem dL_law__33 : decode cL_law_ 33 = .ok (.aload_n 0, 1) := by decide +kernel
theorem dL_law__34 : decode cL_law_ 34 = .ok (.iload 4, 2) := by decide +kernel
theorem dL_law__36 : decode cL_law_ 36 = .ok (.iaload, 1) := by decide +kernel
theorem dL_law__37 : decode cL_law_ 37 = .ok (.bipush 63, 2) := by decide +kernel
theorem dL_law__39 : decode cL_law_ 39 = .ok (.iand, 1) := by decide +kernel
theorem dL_law__40 : decode cL_law_ 40 = .ok (.tableswitch 2248 0 35 #[160, 233, 289, 345, 401, 457, 470, 483, 539, 607, 675, 767, 899, 967, 1046, 1101, 1114, 1127, 1195, 1251, 1319, 1375, 1431, 1487, 1567, 1646, 1726, 1782, 1838, 1894, 1962, 2054, 2172, 2185, 2198, 2223], 160) := by decide +kernel
theorem dL_law__200 : decode cL_law_ 200 = .ok (.aload_n 1, 1) := by decide +kernel
theorem dL_law__201 : decode cL_law_ 201 = .ok (.aload_n 0, 1) := by decide +kernel
theorem dL_law__202 : decode cL_law_ 202 = .ok (.iload 4, 2) := by decide +kernel
theorem dL_law__204 : decode cL_law_ 204 = .ok (.iconst 1, 1) := by decide +kernel
theorem dL_law__205 : decode cL_law_ 205 = .ok (.iadd, 1) := by decide +kernel
theorem dL_law__206 : decode cL_law_ 206 = .ok (.iaload, 1) := by decide +kernel
theorem dL_law__207 : decode cL_law_ 207 = .ok (.aload_n 0, 1) := by decide +kernel
theorem dL_law__208 : decode cL_law_ 208 = .ok (.iload 4, 2) := by decide +kernel
theorem dL_law__210 : decode cL_law_ 210 = .ok (.iconst 2, 1) := by decide +kernel
theorem dL_law__211 : decode cL_law_ 211 = .ok (.iadd, 1) := by decide +kernel
theorem dL_law__212 : decode cL_law_ 212 = .ok (.iaload, 1) := by decide +kernel
theorem dL_law__213 : decode cL_law_ 213 = .ok (.aload_n 0, 1) := by decide +kernel
theorem dL_law__214 : decode cL_law_ 214 = .ok (.iload 4, 2) := by decide +kernel
theorem dL_law__216 : decode cL_law_ 216 = .ok (.iconst 3, 1) := by decide +kernel
theorem dL_law__217 : decode cL_law_ 217 = .ok (.iadd, 1) := by decide +kernel
theorem dL_law__218 : decode cL_law_ 218 = .ok (.iaload, 1) := by decide +kernel
theorem dL_law__219 : decode cL_law_ 219 = .ok (.aload_n 0, 1) := by decide +kernel
theorem dL_law__220 : decode cL_law_ 220 = .ok (.iload 4, 2) := by decide +kernel
theorem dL_law__222 : decode cL_law_ 222 = .ok (.iconst 4, 1) := by decide +kernel
theorem dL_law__223 : decode cL_law_ 223 = .ok (.iadd, 1) := by decide +kernel
theorem dL_law__224 : decode cL_law_ 224 = .ok (.iaload, 1) := by decide +kernel
theorem dL_law__225 : decode cL_law_ 225 = .ok (.aload_n 0, 1) := by decide +kernel
theorem dL_law__226 : decode cL_law_ 226 = .ok (.iload 4, 2) := by decide +kernel
theorem dL_law__228 : decode cL_law_ 228 = .ok (.iconst 5, 1) := by decide +kernel
theorem dL_law__229 : decode cL_law_ 229 = .ok (.iadd, 1) := by decide +kernel
theorem dL_law__230 : decode cL_law_ 230 = .ok (.iaload, 1) := by decide +kernel
theorem dL_law__231 : decode cL_law_ 231 = .ok (.invokevirtual 106, 3) := by decide +kernel
theorem dL_law__234 : decode cL_law_ 234 = .ok (.aload_n 2, 1) := by decide +kernel
theorem dL_law__235 : decode cL_law_ 235 = .ok (.aload_n 0, 1) := by decide +kernel
theorem dL_law__236 : decode cL_law_ 236 = .ok (.iload 4, 2) := by decide +kernel
theorem dL_law__238 : decode cL_law_ 238 = .ok (.iconst 1, 1) := by decide +kernel
theorem dL_law__239 : decode cL_law_ 239 = .ok (.iadd, 1) := by decide +kernel
theorem dL_law__240 : decode cL_law_ 240 = .ok (.iaload, 1) := by decide +kernel
theorem dL_law__241 : decode cL_law_ 241 = .ok (.aload_n 0, 1) := by decide +kernel
theorem dL_law__242 : decode cL_law_ 242 = .ok (.iload 4, 2) := by decide +kernel
theorem dL_law__244 : decode cL_law_ 244 = .ok (.iconst 2, 1) := by decide +kernel
theorem dL_law__245 : decode cL_law_ 245 = .ok (.iadd, 1) := by decide +kernel
theorem dL_law__246 : decode cL_law_ 246 = .ok (.iaload, 1) := by decide +kernel
theorem dL_law__247 : decode cL_law_ 247 = .ok (.aload_n 0, 1) := by decide +kernel
theorem dL_law__248 : decode cL_law_ 248 = .ok (.iload 4, 2) := by decide +kernel
theorem dL_law__250 : decode cL_law_ 250 = .ok (.iconst 3, 1) := by decide +kernel
theorem dL_law__251 : decode cL_law_ 251 = .ok (.iadd, 1) := by decide +kernel
theorem dL_law__252 : decode cL_law_ 252 = .ok (.iaload, 1) := by decide +kernel
theorem dL_law__253 : decode cL_law_ 253 = .ok (.aload_n 0, 1) := by decide +kernel
theorem dL_law__254 : decode cL_law_ 254 = .ok (.iload 4, 2) := by decide +kernel
theorem dL_law__256 : decode cL_law_ 256 = .ok (.iconst 4, 1) := by decide +kernel
theorem dL_law__257 : decode cL_law_ 257 = .ok (.iadd, 1) := by decide +kernel
theorem dL_law__258 : decode cL_law_ 258 = .ok (.iaload, 1) := by decide +kernel
theorem dL_law__259 : decode cL_law_ 259 = .ok (.aload_n 0, 1) := by decide +kernel
theorem dL_law__260 : decode cL_law_ 260 = .ok (.iload 4, 2) := by decide +kernel
theorem dL_law__262 : decode cL_law_ 262 = .ok (.iconst 5, 1) := by decide +kernel
theorem dL_law__263 : decode cL_law_ 263 = .ok (.iadd, 1) := by decide +kernel
theorem dL_law__264 : decode cL_law_ 264 = .ok (.iaload, 1) := by decide +kernel
theorem dL_law__265 : decode cL_law_ 265 = .ok (.invokevirtual 110, 3) := by decide +kernel
theorem dL_law__268 : decode cL_law_ 268 = .ok (.if_icmp .eq 2020, 3) := by decide +kernel
theorem dL_law__271 : decode cL_law_ 271 = .ok (.iconst 0, 1) := by decide +kernel
theorem dL_law__272 : decode cL_law_ 272 = .ok (.ireturn, 1) := by decide +kernel
theorem dL_law__273 : decode cL_law_ 273 = .ok (.aload_n 1, 1) := by decide +kernel
theorem dL_law__274 : decode cL_law_ 274 = .ok (.aload_n 0, 1) := by decide +kernel
theorem dL_law__275 : decode cL_law_ 275 = .ok (.iload 4, 2) := by decide +kernel
theorem dL_law__277 : decode cL_law_ 277 = .ok (.iconst 1, 1) := by decide +kernel
theorem dL_law__278 : decode cL_law_ 278 = .ok (.iadd, 1) := by decide +kernel
theorem dL_law__279 : decode cL_law_ 279 = .ok (.iaload, 1) := by decide +kernel
theorem dL_law__280 : decode cL_law_ 280 = .ok (.aload_n 3, 1) := by decide +kernel
theorem dL_law__281 : decode cL_law_ 281 = .ok (.invokestatic 111, 3) := by decide +kernel
theorem dL_law__284 : decode cL_law_ 284 = .ok (.istore 5, 2) := by decide +kernel
theorem dL_law__286 : decode cL_law_ 286 = .ok (.aload_n 2, 1) := by decide +kernel
theorem dL_law__287 : decode cL_law_ 287 = .ok (.aload_n 0, 1) := by decide +kernel
theorem dL_law__288 : decode cL_law_ 288 = .ok (.iload 4, 2) := by decide +kernel
theorem dL_law__290 : decode cL_law_ 290 = .ok (.iconst 1, 1) := by decide +kernel
theorem dL_law__291 : decode cL_law_ 291 = .ok (.iadd, 1) := by decide +kernel
theorem dL_law__292 : decode cL_law_ 292 = .ok (.iaload, 1) := by decide +kernel
theorem dL_law__293 : decode cL_law_ 293 = .ok (.invokevirtual 116, 3) := by decide +kernel
theorem dL_law__296 : decode cL_law_ 296 = .ok (.istore 6, 2) := by decide +kernel
theorem dL_law__298 : decode cL_law_ 298 = .ok (.aload_n 2, 1) := by decide +kernel
theorem dL_law__299 : decode cL_law_ 299 = .ok (.invokevirtual 117, 3) := by decide +kernel
theorem dL_law__302 : decode cL_law_ 302 = .ok (.iload 5, 2) := by decide +kernel
theorem dL_law__304 : decode cL_law_ 304 = .ok (.if_icmp .eq 5, 3) := by decide +kernel
theorem dL_law__307 : decode cL_law_ 307 = .ok (.iconst 0, 1) := by decide +kernel
theorem dL_law__308 : decode cL_law_ 308 = .ok (.ireturn, 1) := by decide +kernel
theorem dL_law__309 : decode cL_law_ 309 = .ok (.iload 5, 2) := by decide +kernel
theorem dL_law__311 : decode cL_law_ 311 = .ok (.ifCond .ne 15, 3) := by decide +kernel
theorem dL_law__314 : decode cL_law_ 314 = .ok (.aload_n 3, 1) := by decide +kernel
theorem dL_law__315 : decode cL_law_ 315 = .ok (.iconst 0, 1) := by decide +kernel
theorem dL_law__316 : decode cL_law_ 316 = .ok (.laload, 1) := by decide +kernel
theorem dL_law__317 : decode cL_law_ 317 = .ok (.iload 6, 2) := by decide +kernel
theorem dL_law__319 : decode cL_law_ 319 = .ok (.i2l, 1) := by decide +kernel
theorem dL_law__320 : decode cL_law_ 320 = .ok (.lcmp, 1) := by decide +kernel
theorem dL_law__321 : decode cL_law_ 321 = .ok (.ifCond .eq 5, 3) := by decide +kernel
theorem dL_law__324 : decode cL_law_ 324 = .ok (.iconst 0, 1) := by decide +kernel
theorem dL_law__325 : decode cL_law_ 325 = .ok (.ireturn, 1) := by decide +kernel
theorem dL_law__326 : decode cL_law_ 326 = .ok (.goto 1962, 3) := by decide +kernel
theorem dL_law__329 : decode cL_law_ 329 = .ok (.aload_n 1, 1) := by decide +kernel
theorem dL_law__330 : decode cL_law_ 330 = .ok (.aload_n 0, 1) := by decide +kernel
theorem dL_law__331 : decode cL_law_ 331 = .ok (.iload 4, 2) := by decide +kernel
theorem dL_law__333 : decode cL_law_ 333 = .ok (.iconst 1, 1) := by decide +kernel
theorem dL_law__334 : decode cL_law_ 334 = .ok (.iadd, 1) := by decide +kernel
theorem dL_law__335 : decode cL_law_ 335 = .ok (.iaload, 1) := by decide +kernel
theorem dL_law__336 : decode cL_law_ 336 = .ok (.aload_n 3, 1) := by decide +kernel
theorem dL_law__337 : decode cL_law_ 337 = .ok (.invokestatic 121, 3) := by decide +kernel
theorem dL_law__340 : decode cL_law_ 340 = .ok (.istore 5, 2) := by decide +kernel
theorem dL_law__342 : decode cL_law_ 342 = .ok (.aload_n 2, 1) := by decide +kernel
theorem dL_law__343 : decode cL_law_ 343 = .ok (.aload_n 0, 1) := by decide +kernel
theorem dL_law__344 : decode cL_law_ 344 = .ok (.iload 4, 2) := by decide +kernel
theorem dL_law__346 : decode cL_law_ 346 = .ok (.iconst 1, 1) := by decide +kernel
theorem dL_law__347 : decode cL_law_ 347 = .ok (.iadd, 1) := by decide +kernel
theorem dL_law__348 : decode cL_law_ 348 = .ok (.iaload, 1) := by decide +kernel
theorem dL_law__349 : decode cL_law_ 349 = .ok (.invokevirtual 123, 3) := by decide +kernel
theorem dL_law__352 : decode cL_law_ 352 = .ok (.istore 6, 2) := by decide +kernel
theorem dL_law__354 : decode cL_law_ 354 = .ok (.aload_n 2, 1) := by decide +kernel
theorem dL_law__355 : decode cL_law_ 355 = .ok (.invokevirtual 117, 3) := by decide +kernel
theorem dL_law__358 : decode cL_law_ 358 = .ok (.iload 5, 2) := by decide +kernel
theorem dL_law__360 : decode cL_law_ 360 = .ok (.if_icmp .eq 5, 3) := by decide +kernel
theorem dL_law__363 : decode cL_law_ 363 = .ok (.iconst 0, 1) := by decide +kernel
theorem dL_law__364 : decode cL_law_ 364 = .ok (.ireturn, 1) := by decide +kernel
theorem dL_law__365 : decode cL_law_ 365 = .ok (.iload 5, 2) := by decide +kernel
theorem dL_law__367 : decode cL_law_ 367 = .ok (.ifCond .ne 15, 3) := by decide +kernel
theorem dL_law__370 : decode cL_law_ 370 = .ok (.aload_n 3, 1) := by decide +kernel
theorem dL_law__371 : decode cL_law_ 371 = .ok (.iconst 0, 1) := by decide +kernel
theorem dL_law__372 : decode cL_law_ 372 = .ok (.laload, 1) := by decide +kernel
theorem dL_law__373 : decode cL_law_ 373 = .ok (.iload 6, 2) := by decide +kernel
theorem dL_law__375 : decode cL_law_ 375 = .ok (.i2l, 1) := by decide +kernel
theorem dL_law__376 : decode cL_law_ 376 = .ok (.lcmp, 1) := by decide +kernel
theorem dL_law__377 : decode cL_law_ 377 = .ok (.ifCond .eq 5, 3) := by decide +kernel
theorem dL_law__380 : decode cL_law_ 380 = .ok (.iconst 0, 1) := by decide +kernel
theorem dL_law__381 : decode cL_law_ 381 = .ok (.ireturn, 1) := by decide +kernel
theorem dL_law__382 : decode cL_law_ 382 = .ok (.goto 1906, 3) := by decide +kernel
theorem dL_law__385 : decode cL_law_ 385 = .ok (.aload_n 1, 1) := by decide +kernel
theorem dL_law__386 : decode cL_law_ 386 = .ok (.aload_n 0, 1) := by decide +kernel
theorem dL_law__387 : decode cL_law_ 387 = .ok (.iload 4, 2) := by decide +kernel
theorem dL_law__389 : decode cL_law_ 389 = .ok (.iconst 1, 1) := by decide +kernel
theorem dL_law__390 : decode cL_law_ 390 = .ok (.iadd, 1) := by decide +kernel
theorem dL_law__391 : decode cL_law_ 391 = .ok (.iaload, 1) := by decide +kernel
theorem dL_law__392 : decode cL_law_ 392 = .ok (.aload_n 3, 1) := by decide +kernel
theorem dL_law__393 : decode cL_law_ 393 = .ok (.invokestatic 124, 3) := by decide +kernel
theorem dL_law__396 : decode cL_law_ 396 = .ok (.istore 5, 2) := by decide +kernel
theorem dL_law__398 : decode cL_law_ 398 = .ok (.aload_n 2, 1) := by decide +kernel
theorem dL_law__399 : decode cL_law_ 399 = .ok (.aload_n 0, 1) := by decide +kernel
theorem dL_law__400 : decode cL_law_ 400 = .ok (.iload 4, 2) := by decide +kernel
theorem dL_law__402 : decode cL_law_ 402 = .ok (.iconst 1, 1) := by decide +kernel
theorem dL_law__403 : decode cL_law_ 403 = .ok (.iadd, 1) := by decide +kernel
theorem dL_law__404 : decode cL_law_ 404 = .ok (.iaload, 1) := by decide +kernel
theorem dL_law__405 : decode cL_law_ 405 = .ok (.invokevirtual 126, 3) := by decide +kernel
theorem dL_law__408 : decode cL_law_ 408 = .ok (.istore 6, 2) := by decide +kernel
theorem dL_law__410 : decode cL_law_ 410 = .ok (.aload_n 2, 1) := by decide +kernel
theorem dL_law__411 : decode cL_law_ 411 = .ok (.invokevirtual 117, 3) := by decide +kernel
theorem dL_law__414 : decode cL_law_ 414 = .ok (.iload 5, 2) := by decide +kernel
theorem dL_law__416 : decode cL_law_ 416 = .ok (.if_icmp .eq 5, 3) := by decide +kernel
theorem dL_law__419 : decode cL_law_ 419 = .ok (.iconst 0, 1) := by decide +kernel
theorem dL_law__420 : decode cL_law_ 420 = .ok (.ireturn, 1) := by decide +kernel
theorem dL_law__421 : decode cL_law_ 421 = .ok (.iload 5, 2) := by decide +kernel
theorem dL_law__423 : decode cL_law_ 423 = .ok (.ifCond .ne 15, 3) := by decide +kernel
theorem dL_law__426 : decode cL_law_ 426 = .ok (.aload_n 3, 1) := by decide +kernel
theorem dL_law__427 : decode cL_law_ 427 = .ok (.iconst 0, 1) := by decide +kernel
theorem dL_law__428 : decode cL_law_ 428 = .ok (.laload, 1) := by decide +kernel
theorem dL_law__429 : decode cL_law_ 429 = .ok (.iload 6, 2) := by decide +kernel
theorem dL_law__431 : decode cL_law_ 431 = .ok (.i2l, 1) := by decide +kernel
theorem dL_law__432 : decode cL_law_ 432 = .ok (.lcmp, 1) := by decide +kernel
theorem dL_law__433 : decode cL_law_ 433 = .ok (.ifCond .eq 5, 3) := by decide +kernel
theorem dL_law__436 : decode cL_law_ 436 = .ok (.iconst 0, 1) := by decide +kernel
theorem dL_law__437 : decode cL_law_ 437 = .ok (.ireturn, 1) := by decide +kernel
theorem dL_law__438 : decode cL_law_ 438 = .ok (.goto 1850, 3) := by decide +kernel
theorem dL_law__441 : decode cL_law_ 441 = .ok (.aload_n 1, 1) := by decide +kernel
theorem dL_law__442 : decode cL_law_ 442 = .ok (.aload_n 0, 1) := by decide +kernel
theorem dL_law__443 : decode cL_law_ 443 = .ok (.iload 4, 2) := by decide +kernel
theorem dL_law__445 : decode cL_law_ 445 = .ok (.iconst 1, 1) := by decide +kernel
theorem dL_law__446 : decode cL_law_ 446 = .ok (.iadd, 1) := by decide +kernel
theorem dL_law__447 : decode cL_law_ 447 = .ok (.iaload, 1) := by decide +kernel
theorem dL_law__448 : decode cL_law_ 448 = .ok (.aload_n 3, 1) := by decide +kernel
theorem dL_law__449 : decode cL_law_ 449 = .ok (.invokestatic 127, 3) := by decide +kernel
theorem dL_law__452 : decode cL_law_ 452 = .ok (.istore 5, 2) := by decide +kernel
theorem dL_law__454 : decode cL_law_ 454 = .ok (.aload_n 2, 1) := by decide +kernel
theorem dL_law__455 : decode cL_law_ 455 = .ok (.aload_n 0, 1) := by decide +kernel
theorem dL_law__456 : decode cL_law_ 456 = .ok (.iload 4, 2) := by decide +kernel
theorem dL_law__458 : decode cL_law_ 458 = .ok (.iconst 1, 1) := by decide +kernel
theorem dL_law__459 : decode cL_law_ 459 = .ok (.iadd, 1) := by decide +kernel
theorem dL_law__460 : decode cL_law_ 460 = .ok (.iaload, 1) := by decide +kernel
theorem dL_law__461 : decode cL_law_ 461 = .ok (.invokevirtual 129, 3) := by decide +kernel
theorem dL_law__464 : decode cL_law_ 464 = .ok (.istore 6, 2) := by decide +kernel
theorem dL_law__466 : decode cL_law_ 466 = .ok (.aload_n 2, 1) := by decide +kernel
theorem dL_law__467 : decode cL_law_ 467 = .ok (.invokevirtual 117, 3) := by decide +kernel
theorem dL_law__470 : decode cL_law_ 470 = .ok (.iload 5, 2) := by decide +kernel
theorem dL_law__472 : decode cL_law_ 472 = .ok (.if_icmp .eq 5, 3) := by decide +kernel
theorem dL_law__475 : decode cL_law_ 475 = .ok (.iconst 0, 1) := by decide +kernel
theorem dL_law__476 : decode cL_law_ 476 = .ok (.ireturn, 1) := by decide +kernel
theorem dL_law__477 : decode cL_law_ 477 = .ok (.iload 5, 2) := by decide +kernel
theorem dL_law__479 : decode cL_law_ 479 = .ok (.ifCond .ne 15, 3) := by decide +kernel
theorem dL_law__482 : decode cL_law_ 482 = .ok (.aload_n 3, 1) := by decide +kernel
theorem dL_law__483 : decode cL_law_ 483 = .ok (.iconst 0, 1) := by decide +kernel
theorem dL_law__484 : decode cL_law_ 484 = .ok (.laload, 1) := by decide +kernel
theorem dL_law__485 : decode cL_law_ 485 = .ok (.iload 6, 2) := by decide +kernel
theorem dL_law__487 : decode cL_law_ 487 = .ok (.i2l, 1) := by decide +kernel
theorem dL_law__488 : decode cL_law_ 488 = .ok (.lcmp, 1) := by decide +kernel
theorem dL_law__489 : decode cL_law_ 489 = .ok (.ifCond .eq 5, 3) := by decide +kernel
theorem dL_law__492 : decode cL_law_ 492 = .ok (.iconst 0, 1) := by decide +kernel
theorem dL_law__493 : decode cL_law_ 493 = .ok (.ireturn, 1) := by decide +kernel
theorem dL_law__494 : decode cL_law_ 494 = .ok (.goto 1794, 3) := by decide +kernel
theorem dL_law__497 : decode cL_law_ 497 = .ok (.aload_n 1, 1) := by decide +kernel
theorem dL_law__498 : decode cL_law_ 498 = .ok (.invokevirtual 130, 3) := by decide +kernel
theorem dL_law__501 : decode cL_law_ 501 = .ok (.aload_n 2, 1) := by decide +kernel
theorem dL_law__502 : decode cL_law_ 502 = .ok (.invokevirtual 133, 3) := by decide +kernel
theorem dL_law__505 : decode cL_law_ 505 = .ok (.if_icmp .eq 1783, 3) := by decide +kernel
theorem dL_law__508 : decode cL_law_ 508 = .ok (.iconst 0, 1) := by decide +kernel
theorem dL_law__509 : decode cL_law_ 509 = .ok (.ireturn, 1) := by decide +kernel
theorem dL_law__510 : decode cL_law_ 510 = .ok (.aload_n 1, 1) := by decide +kernel
theorem dL_law__511 : decode cL_law_ 511 = .ok (.invokevirtual 134, 3) := by decide +kernel
theorem dL_law__514 : decode cL_law_ 514 = .ok (.aload_n 2, 1) := by decide +kernel
theorem dL_law__515 : decode cL_law_ 515 = .ok (.invokevirtual 137, 3) := by decide +kernel
theorem dL_law__518 : decode cL_law_ 518 = .ok (.if_icmp .eq 1770, 3) := by decide +kernel
theorem dL_law__521 : decode cL_law_ 521 = .ok (.iconst 0, 1) := by decide +kernel
theorem dL_law__522 : decode cL_law_ 522 = .ok (.ireturn, 1) := by decide +kernel
theorem dL_law__523 : decode cL_law_ 523 = .ok (.aload_n 1, 1) := by decide +kernel
theorem dL_law__524 : decode cL_law_ 524 = .ok (.aload_n 0, 1) := by decide +kernel
theorem dL_law__525 : decode cL_law_ 525 = .ok (.iload 4, 2) := by decide +kernel
theorem dL_law__527 : decode cL_law_ 527 = .ok (.iconst 1, 1) := by decide +kernel
theorem dL_law__528 : decode cL_law_ 528 = .ok (.iadd, 1) := by decide +kernel
theorem dL_law__529 : decode cL_law_ 529 = .ok (.iaload, 1) := by decide +kernel
theorem dL_law__530 : decode cL_law_ 530 = .ok (.aload_n 3, 1) := by decide +kernel
theorem dL_law__531 : decode cL_law_ 531 = .ok (.invokestatic 138, 3) := by decide +kernel
theorem dL_law__534 : decode cL_law_ 534 = .ok (.istore 5, 2) := by decide +kernel
theorem dL_law__536 : decode cL_law_ 536 = .ok (.aload_n 2, 1) := by decide +kernel
theorem dL_law__537 : decode cL_law_ 537 = .ok (.aload_n 0, 1) := by decide +kernel
theorem dL_law__538 : decode cL_law_ 538 = .ok (.iload 4, 2) := by decide +kernel
theorem dL_law__540 : decode cL_law_ 540 = .ok (.iconst 1, 1) := by decide +kernel
theorem dL_law__541 : decode cL_law_ 541 = .ok (.iadd, 1) := by decide +kernel
theorem dL_law__542 : decode cL_law_ 542 = .ok (.iaload, 1) := by decide +kernel
theorem dL_law__543 : decode cL_law_ 543 = .ok (.invokevirtual 140, 3) := by decide +kernel
theorem dL_law__546 : decode cL_law_ 546 = .ok (.istore 6, 2) := by decide +kernel
theorem dL_law__548 : decode cL_law_ 548 = .ok (.aload_n 2, 1) := by decide +kernel
theorem dL_law__549 : decode cL_law_ 549 = .ok (.invokevirtual 117, 3) := by decide +kernel
theorem dL_law__552 : decode cL_law_ 552 = .ok (.iload 5, 2) := by decide +kernel
theorem dL_law__554 : decode cL_law_ 554 = .ok (.if_icmp .eq 5, 3) := by decide +kernel
theorem dL_law__557 : decode cL_law_ 557 = .ok (.iconst 0, 1) := by decide +kernel
theorem dL_law__558 : decode cL_law_ 558 = .ok (.ireturn, 1) := by decide +kernel
theorem dL_law__559 : decode cL_law_ 559 = .ok (.iload 5, 2) := by decide +kernel
theorem dL_law__561 : decode cL_law_ 561 = .ok (.ifCond .ne 15, 3) := by decide +kernel
theorem dL_law__564 : decode cL_law_ 564 = .ok (.aload_n 3, 1) := by decide +kernel
theorem dL_law__565 : decode cL_law_ 565 = .ok (.iconst 0, 1) := by decide +kernel
theorem dL_law__566 : decode cL_law_ 566 = .ok (.laload, 1) := by decide +kernel
theorem dL_law__567 : decode cL_law_ 567 = .ok (.iload 6, 2) := by decide +kernel
theorem dL_law__569 : decode cL_law_ 569 = .ok (.i2l, 1) := by decide +kernel
theorem dL_law__570 : decode cL_law_ 570 = .ok (.lcmp, 1) := by decide +kernel
theorem dL_law__571 : decode cL_law_ 571 = .ok (.ifCond .eq 5, 3) := by decide +kernel
theorem dL_law__574 : decode cL_law_ 574 = .ok (.iconst 0, 1) := by decide +kernel
theorem dL_law__575 : decode cL_law_ 575 = .ok (.ireturn, 1) := by decide +kernel
theorem dL_law__576 : decode cL_law_ 576 = .ok (.goto 1712, 3) := by decide +kernel
theorem dL_law__579 : decode cL_law_ 579 = .ok (.aload_n 1, 1) := by decide +kernel
theorem dL_law__580 : decode cL_law_ 580 = .ok (.aload_n 0, 1) := by decide +kernel
theorem dL_law__581 : decode cL_law_ 581 = .ok (.iload 4, 2) := by decide +kernel
theorem dL_law__583 : decode cL_law_ 583 = .ok (.iconst 1, 1) := by decide +kernel
theorem dL_law__584 : decode cL_law_ 584 = .ok (.iadd, 1) := by decide +kernel
theorem dL_law__585 : decode cL_law_ 585 = .ok (.iaload, 1) := by decide +kernel
theorem dL_law__586 : decode cL_law_ 586 = .ok (.aload_n 0, 1) := by decide +kernel
theorem dL_law__587 : decode cL_law_ 587 = .ok (.iload 4, 2) := by decide +kernel
theorem dL_law__589 : decode cL_law_ 589 = .ok (.iconst 2, 1) := by decide +kernel
theorem dL_law__590 : decode cL_law_ 590 = .ok (.iadd, 1) := by decide +kernel
theorem dL_law__591 : decode cL_law_ 591 = .ok (.iaload, 1) := by decide +kernel
theorem dL_law__592 : decode cL_law_ 592 = .ok (.aload_n 3, 1) := by decide +kernel
theorem dL_law__593 : decode cL_law_ 593 = .ok (.invokestatic 141, 3) := by decide +kernel
theorem dL_law__596 : decode cL_law_ 596 = .ok (.istore 5, 2) := by decide +kernel
theorem dL_law__598 : decode cL_law_ 598 = .ok (.aload_n 2, 1) := by decide +kernel
theorem dL_law__599 : decode cL_law_ 599 = .ok (.aload_n 0, 1) := by decide +kernel
theorem dL_law__600 : decode cL_law_ 600 = .ok (.iload 4, 2) := by decide +kernel
theorem dL_law__602 : decode cL_law_ 602 = .ok (.iconst 1, 1) := by decide +kernel
theorem dL_law__603 : decode cL_law_ 603 = .ok (.iadd, 1) := by decide +kernel
theorem dL_law__604 : decode cL_law_ 604 = .ok (.iaload, 1) := by decide +kernel
theorem dL_law__605 : decode cL_law_ 605 = .ok (.aload_n 0, 1) := by decide +kernel
theorem dL_law__606 : decode cL_law_ 606 = .ok (.iload 4, 2) := by decide +kernel
theorem dL_law__608 : decode cL_law_ 608 = .ok (.iconst 2, 1) := by decide +kernel
theorem dL_law__609 : decode cL_law_ 609 = .ok (.iadd, 1) := by decide +kernel
theorem dL_law__610 : decode cL_law_ 610 = .ok (.iaload, 1) := by decide +kernel
theorem dL_law__611 : decode cL_law_ 611 = .ok (.invokevirtual 144, 3) := by decide +kernel
theorem dL_law__614 : decode cL_law_ 614 = .ok (.istore 6, 2) := by decide +kernel
theorem dL_law__616 : decode cL_law_ 616 = .ok (.aload_n 2, 1) := by decide +kernel
theorem dL_law__617 : decode cL_law_ 617 = .ok (.invokevirtual 117, 3) := by decide +kernel
theorem dL_law__620 : decode cL_law_ 620 = .ok (.iload 5, 2) := by decide +kernel
theorem dL_law__622 : decode cL_law_ 622 = .ok (.if_icmp .eq 5, 3) := by decide +kernel
theorem dL_law__625 : decode cL_law_ 625 = .ok (.iconst 0, 1) := by decide +kernel
theorem dL_law__626 : decode cL_law_ 626 = .ok (.ireturn, 1) := by decide +kernel
theorem dL_law__627 : decode cL_law_ 627 = .ok (.iload 5, 2) := by decide +kernel
theorem dL_law__629 : decode cL_law_ 629 = .ok (.ifCond .ne 15, 3) := by decide +kernel
theorem dL_law__632 : decode cL_law_ 632 = .ok (.aload_n 3, 1) := by decide +kernel
theorem dL_law__633 : decode cL_law_ 633 = .ok (.iconst 0, 1) := by decide +kernel
theorem dL_law__634 : decode cL_law_ 634 = .ok (.laload, 1) := by decide +kernel
theorem dL_law__635 : decode cL_law_ 635 = .ok (.iload 6, 2) := by decide +kernel
theorem dL_law__637 : decode cL_law_ 637 = .ok (.i2l, 1) := by decide +kernel
theorem dL_law__638 : decode cL_law_ 638 = .ok (.lcmp, 1) := by decide +kernel
theorem dL_law__639 : decode cL_law_ 639 = .ok (.ifCond .eq 5, 3) := by decide +kernel
theorem dL_law__642 : decode cL_law_ 642 = .ok (.iconst 0, 1) := by decide +kernel
theorem dL_law__643 : decode cL_law_ 643 = .ok (.ireturn, 1) := by decide +kernel
theorem dL_law__644 : decode cL_law_ 644 = .ok (.goto 1644, 3) := by decide +kernel
theorem dL_law__647 : decode cL_law_ 647 = .ok (.aload_n 1, 1) := by decide +kernel
theorem dL_law__648 : decode cL_law_ 648 = .ok (.aload_n 0, 1) := by decide +kernel
theorem dL_law__649 : decode cL_law_ 649 = .ok (.iload 4, 2) := by decide +kernel
theorem dL_law__651 : decode cL_law_ 651 = .ok (.iconst 1, 1) := by decide +kernel
theorem dL_law__652 : decode cL_law_ 652 = .ok (.iadd, 1) := by decide +kernel
theorem dL_law__653 : decode cL_law_ 653 = .ok (.iaload, 1) := by decide +kernel
theorem dL_law__654 : decode cL_law_ 654 = .ok (.aload_n 0, 1) := by decide +kernel
theorem dL_law__655 : decode cL_law_ 655 = .ok (.iload 4, 2) := by decide +kernel
theorem dL_law__657 : decode cL_law_ 657 = .ok (.iconst 2, 1) := by decide +kernel
theorem dL_law__658 : decode cL_law_ 658 = .ok (.iadd, 1) := by decide +kernel
theorem dL_law__659 : decode cL_law_ 659 = .ok (.iaload, 1) := by decide +kernel
theorem dL_law__660 : decode cL_law_ 660 = .ok (.aload_n 3, 1) := by decide +kernel
theorem dL_law__661 : decode cL_law_ 661 = .ok (.invokestatic 145, 3) := by decide +kernel
theorem dL_law__664 : decode cL_law_ 664 = .ok (.istore 5, 2) := by decide +kernel
theorem dL_law__666 : decode cL_law_ 666 = .ok (.aload_n 2, 1) := by decide +kernel
theorem dL_law__667 : decode cL_law_ 667 = .ok (.aload_n 0, 1) := by decide +kernel
theorem dL_law__668 : decode cL_law_ 668 = .ok (.iload 4, 2) := by decide +kernel
theorem dL_law__670 : decode cL_law_ 670 = .ok (.iconst 1, 1) := by decide +kernel
theorem dL_law__671 : decode cL_law_ 671 = .ok (.iadd, 1) := by decide +kernel
theorem dL_law__672 : decode cL_law_ 672 = .ok (.iaload, 1) := by decide +kernel
theorem dL_law__673 : decode cL_law_ 673 = .ok (.aload_n 0, 1) := by decide +kernel
theorem dL_law__674 : decode cL_law_ 674 = .ok (.iload 4, 2) := by decide +kernel
theorem dL_law__676 : decode cL_law_ 676 = .ok (.iconst 2, 1) := by decide +kernel
theorem dL_law__677 : decode cL_law_ 677 = .ok (.iadd, 1) := by decide +kernel
theorem dL_law__678 : decode cL_law_ 678 = .ok (.iaload, 1) := by decide +kernel
theorem dL_law__679 : decode cL_law_ 679 = .ok (.invokevirtual 147, 3) := by decide +kernel
theorem dL_law__682 : decode cL_law_ 682 = .ok (.istore 6, 2) := by decide +kernel
theorem dL_law__684 : decode cL_law_ 684 = .ok (.aload_n 2, 1) := by decide +kernel
theorem dL_law__685 : decode cL_law_ 685 = .ok (.invokevirtual 117, 3) := by decide +kernel
theorem dL_law__688 : decode cL_law_ 688 = .ok (.iload 5, 2) := by decide +kernel
theorem dL_law__690 : decode cL_law_ 690 = .ok (.if_icmp .eq 5, 3) := by decide +kernel
theorem dL_law__693 : decode cL_law_ 693 = .ok (.iconst 0, 1) := by decide +kernel
theorem dL_law__694 : decode cL_law_ 694 = .ok (.ireturn, 1) := by decide +kernel
theorem dL_law__695 : decode cL_law_ 695 = .ok (.iload 5, 2) := by decide +kernel
theorem dL_law__697 : decode cL_law_ 697 = .ok (.ifCond .ne 15, 3) := by decide +kernel
theorem dL_law__700 : decode cL_law_ 700 = .ok (.aload_n 3, 1) := by decide +kernel
theorem dL_law__701 : decode cL_law_ 701 = .ok (.iconst 0, 1) := by decide +kernel
theorem dL_law__702 : decode cL_law_ 702 = .ok (.laload, 1) := by decide +kernel
theorem dL_law__703 : decode cL_law_ 703 = .ok (.iload 6, 2) := by decide +kernel
theorem dL_law__705 : decode cL_law_ 705 = .ok (.i2l, 1) := by decide +kernel
theorem dL_law__706 : decode cL_law_ 706 = .ok (.lcmp, 1) := by decide +kernel
theorem dL_law__707 : decode cL_law_ 707 = .ok (.ifCond .eq 5, 3) := by decide +kernel
theorem dL_law__710 : decode cL_law_ 710 = .ok (.iconst 0, 1) := by decide +kernel
theorem dL_law__711 : decode cL_law_ 711 = .ok (.ireturn, 1) := by decide +kernel
theorem dL_law__712 : decode cL_law_ 712 = .ok (.goto 1576, 3) := by decide +kernel
theorem dL_law__715 : decode cL_law_ 715 = .ok (.aload_n 1, 1) := by decide +kernel
theorem dL_law__716 : decode cL_law_ 716 = .ok (.aload_n 0, 1) := by decide +kernel
theorem dL_law__717 : decode cL_law_ 717 = .ok (.iload 4, 2) := by decide +kernel
theorem dL_law__719 : decode cL_law_ 719 = .ok (.iconst 1, 1) := by decide +kernel
theorem dL_law__720 : decode cL_law_ 720 = .ok (.iadd, 1) := by decide +kernel
theorem dL_law__721 : decode cL_law_ 721 = .ok (.iaload, 1) := by decide +kernel
theorem dL_law__722 : decode cL_law_ 722 = .ok (.aload_n 0, 1) := by decide +kernel
theorem dL_law__723 : decode cL_law_ 723 = .ok (.iload 4, 2) := by decide +kernel
theorem dL_law__725 : decode cL_law_ 725 = .ok (.iconst 2, 1) := by decide +kernel
theorem dL_law__726 : decode cL_law_ 726 = .ok (.iadd, 1) := by decide +kernel
theorem dL_law__727 : decode cL_law_ 727 = .ok (.iaload, 1) := by decide +kernel
theorem dL_law__728 : decode cL_law_ 728 = .ok (.aload_n 0, 1) := by decide +kernel
theorem dL_law__729 : decode cL_law_ 729 = .ok (.iload 4, 2) := by decide +kernel
theorem dL_law__731 : decode cL_law_ 731 = .ok (.iconst 3, 1) := by decide +kernel
theorem dL_law__732 : decode cL_law_ 732 = .ok (.iadd, 1) := by decide +kernel
theorem dL_law__733 : decode cL_law_ 733 = .ok (.iaload, 1) := by decide +kernel
theorem dL_law__734 : decode cL_law_ 734 = .ok (.aload_n 0, 1) := by decide +kernel
theorem dL_law__735 : decode cL_law_ 735 = .ok (.iload 4, 2) := by decide +kernel
theorem dL_law__737 : decode cL_law_ 737 = .ok (.iconst 4, 1) := by decide +kernel
theorem dL_law__738 : decode cL_law_ 738 = .ok (.iadd, 1) := by decide +kernel
theorem dL_law__739 : decode cL_law_ 739 = .ok (.iaload, 1) := by decide +kernel
theorem dL_law__740 : decode cL_law_ 740 = .ok (.aload_n 3, 1) := by decide +kernel
theorem dL_law__741 : decode cL_law_ 741 = .ok (.invokestatic 148, 3) := by decide +kernel
theorem dL_law__744 : decode cL_law_ 744 = .ok (.istore 5, 2) := by decide +kernel
theorem dL_law__746 : decode cL_law_ 746 = .ok (.aload_n 2, 1) := by decide +kernel
theorem dL_law__747 : decode cL_law_ 747 = .ok (.aload_n 0, 1) := by decide +kernel
theorem dL_law__748 : decode cL_law_ 748 = .ok (.iload 4, 2) := by decide +kernel
theorem dL_law__750 : decode cL_law_ 750 = .ok (.iconst 1, 1) := by decide +kernel
theorem dL_law__751 : decode cL_law_ 751 = .ok (.iadd, 1) := by decide +kernel
theorem dL_law__752 : decode cL_law_ 752 = .ok (.iaload, 1) := by decide +kernel
theorem dL_law__753 : decode cL_law_ 753 = .ok (.aload_n 0, 1) := by decide +kernel
theorem dL_law__754 : decode cL_law_ 754 = .ok (.iload 4, 2) := by decide +kernel
theorem dL_law__756 : decode cL_law_ 756 = .ok (.iconst 2, 1) := by decide +kernel
theorem dL_law__757 : decode cL_law_ 757 = .ok (.iadd, 1) := by decide +kernel
theorem dL_law__758 : decode cL_law_ 758 = .ok (.iaload, 1) := by decide +kernel
theorem dL_law__759 : decode cL_law_ 759 = .ok (.aload_n 0, 1) := by decide +kernel
theorem dL_law__760 : decode cL_law_ 760 = .ok (.iload 4, 2) := by decide +kernel
theorem dL_law__762 : decode cL_law_ 762 = .ok (.iconst 3, 1) := by decide +kernel
theorem dL_law__763 : decode cL_law_ 763 = .ok (.iadd, 1) := by decide +kernel
theorem dL_law__764 : decode cL_law_ 764 = .ok (.iaload, 1) := by decide +kernel
theorem dL_law__765 : decode cL_law_ 765 = .ok (.aload_n 0, 1) := by decide +kernel
theorem dL_law__766 : decode cL_law_ 766 = .ok (.iload 4, 2) := by decide +kernel
theorem dL_law__768 : decode cL_law_ 768 = .ok (.iconst 4, 1) := by decide +kernel
theorem dL_law__769 : decode cL_law_ 769 = .ok (.iadd, 1) := by decide +kernel
theorem dL_law__770 : decode cL_law_ 770 = .ok (.iaload, 1) := by decide +kernel
theorem dL_law__771 : decode cL_law_ 771 = .ok (.invokevirtual 151, 3) := by decide +kernel
theorem dL_law__774 : decode cL_law_ 774 = .ok (.istore 6, 2) := by decide +kernel
theorem dL_law__776 : decode cL_law_ 776 = .ok (.aload_n 2, 1) := by decide +kernel
theorem dL_law__777 : decode cL_law_ 777 = .ok (.invokevirtual 117, 3) := by decide +kernel
theorem dL_law__780 : decode cL_law_ 780 = .ok (.iload 5, 2) := by decide +kernel
theorem dL_law__782 : decode cL_law_ 782 = .ok (.if_icmp .eq 5, 3) := by decide +kernel
theorem dL_law__785 : decode cL_law_ 785 = .ok (.iconst 0, 1) := by decide +kernel
theorem dL_law__786 : decode cL_law_ 786 = .ok (.ireturn, 1) := by decide +kernel
theorem dL_law__787 : decode cL_law_ 787 = .ok (.iload 5, 2) := by decide +kernel
theorem dL_law__789 : decode cL_law_ 789 = .ok (.ifCond .ne 15, 3) := by decide +kernel
theorem dL_law__792 : decode cL_law_ 792 = .ok (.aload_n 3, 1) := by decide +kernel
theorem dL_law__793 : decode cL_law_ 793 = .ok (.iconst 0, 1) := by decide +kernel
theorem dL_law__794 : decode cL_law_ 794 = .ok (.laload, 1) := by decide +kernel
theorem dL_law__795 : decode cL_law_ 795 = .ok (.iload 6, 2) := by decide +kernel
theorem dL_law__797 : decode cL_law_ 797 = .ok (.i2l, 1) := by decide +kernel
theorem dL_law__798 : decode cL_law_ 798 = .ok (.lcmp, 1) := by decide +kernel
theorem dL_law__799 : decode cL_law_ 799 = .ok (.ifCond .eq 5, 3) := by decide +kernel
theorem dL_law__802 : decode cL_law_ 802 = .ok (.iconst 0, 1) := by decide +kernel
theorem dL_law__803 : decode cL_law_ 803 = .ok (.ireturn, 1) := by decide +kernel
theorem dL_law__804 : decode cL_law_ 804 = .ok (.goto 1484, 3) := by decide +kernel
theorem dL_law__807 : decode cL_law_ 807 = .ok (.aload_n 1, 1) := by decide +kernel
theorem dL_law__808 : decode cL_law_ 808 = .ok (.aload_n 0, 1) := by decide +kernel
theorem dL_law__809 : decode cL_law_ 809 = .ok (.iload 4, 2) := by decide +kernel
theorem dL_law__811 : decode cL_law_ 811 = .ok (.iconst 1, 1) := by decide +kernel
theorem dL_law__812 : decode cL_law_ 812 = .ok (.iadd, 1) := by decide +kernel
theorem dL_law__813 : decode cL_law_ 813 = .ok (.iaload, 1) := by decide +kernel
theorem dL_law__814 : decode cL_law_ 814 = .ok (.aload_n 0, 1) := by decide +kernel
theorem dL_law__815 : decode cL_law_ 815 = .ok (.iload 4, 2) := by decide +kernel
theorem dL_law__817 : decode cL_law_ 817 = .ok (.iconst 2, 1) := by decide +kernel
theorem dL_law__818 : decode cL_law_ 818 = .ok (.iadd, 1) := by decide +kernel
theorem dL_law__819 : decode cL_law_ 819 = .ok (.iaload, 1) := by decide +kernel
theorem dL_law__820 : decode cL_law_ 820 = .ok (.aload_n 0, 1) := by decide +kernel
theorem dL_law__821 : decode cL_law_ 821 = .ok (.iload 4, 2) := by decide +kernel
theorem dL_law__823 : decode cL_law_ 823 = .ok (.iconst 3, 1) := by decide +kernel
theorem dL_law__824 : decode cL_law_ 824 = .ok (.iadd, 1) := by decide +kernel
theorem dL_law__825 : decode cL_law_ 825 = .ok (.iaload, 1) := by decide +kernel
theorem dL_law__826 : decode cL_law_ 826 = .ok (.aload_n 0, 1) := by decide +kernel
theorem dL_law__827 : decode cL_law_ 827 = .ok (.iload 4, 2) := by decide +kernel
theorem dL_law__829 : decode cL_law_ 829 = .ok (.iconst 4, 1) := by decide +kernel
theorem dL_law__830 : decode cL_law_ 830 = .ok (.iadd, 1) := by decide +kernel
theorem dL_law__831 : decode cL_law_ 831 = .ok (.iaload, 1) := by decide +kernel
theorem dL_law__832 : decode cL_law_ 832 = .ok (.aload_n 0, 1) := by decide +kernel
theorem dL_law__833 : decode cL_law_ 833 = .ok (.iload 4, 2) := by decide +kernel
theorem dL_law__835 : decode cL_law_ 835 = .ok (.iconst 5, 1) := by decide +kernel
theorem dL_law__836 : decode cL_law_ 836 = .ok (.iadd, 1) := by decide +kernel
theorem dL_law__837 : decode cL_law_ 837 = .ok (.iaload, 1) := by decide +kernel
theorem dL_law__838 : decode cL_law_ 838 = .ok (.aload_n 0, 1) := by decide +kernel
theorem dL_law__839 : decode cL_law_ 839 = .ok (.iload 4, 2) := by decide +kernel
theorem dL_law__841 : decode cL_law_ 841 = .ok (.bipush 6, 2) := by decide +kernel
theorem dL_law__843 : decode cL_law_ 843 = .ok (.iadd, 1) := by decide +kernel
theorem dL_law__844 : decode cL_law_ 844 = .ok (.iaload, 1) := by decide +kernel
theorem dL_law__845 : decode cL_law_ 845 = .ok (.aload_n 0, 1) := by decide +kernel
theorem dL_law__846 : decode cL_law_ 846 = .ok (.iload 4, 2) := by decide +kernel
theorem dL_law__848 : decode cL_law_ 848 = .ok (.bipush 7, 2) := by decide +kernel
theorem dL_law__850 : decode cL_law_ 850 = .ok (.iadd, 1) := by decide +kernel
theorem dL_law__851 : decode cL_law_ 851 = .ok (.iaload, 1) := by decide +kernel
theorem dL_law__852 : decode cL_law_ 852 = .ok (.aload_n 3, 1) := by decide +kernel
theorem dL_law__853 : decode cL_law_ 853 = .ok (.invokestatic 152, 3) := by decide +kernel
theorem dL_law__856 : decode cL_law_ 856 = .ok (.istore 5, 2) := by decide +kernel
theorem dL_law__858 : decode cL_law_ 858 = .ok (.aload_n 2, 1) := by decide +kernel
theorem dL_law__859 : decode cL_law_ 859 = .ok (.aload_n 0, 1) := by decide +kernel
theorem dL_law__860 : decode cL_law_ 860 = .ok (.iload 4, 2) := by decide +kernel
theorem dL_law__862 : decode cL_law_ 862 = .ok (.iconst 1, 1) := by decide +kernel
theorem dL_law__863 : decode cL_law_ 863 = .ok (.iadd, 1) := by decide +kernel
theorem dL_law__864 : decode cL_law_ 864 = .ok (.iaload, 1) := by decide +kernel
theorem dL_law__865 : decode cL_law_ 865 = .ok (.aload_n 0, 1) := by decide +kernel
theorem dL_law__866 : decode cL_law_ 866 = .ok (.iload 4, 2) := by decide +kernel
theorem dL_law__868 : decode cL_law_ 868 = .ok (.iconst 2, 1) := by decide +kernel
theorem dL_law__869 : decode cL_law_ 869 = .ok (.iadd, 1) := by decide +kernel
theorem dL_law__870 : decode cL_law_ 870 = .ok (.iaload, 1) := by decide +kernel
theorem dL_law__871 : decode cL_law_ 871 = .ok (.aload_n 0, 1) := by decide +kernel
theorem dL_law__872 : decode cL_law_ 872 = .ok (.iload 4, 2) := by decide +kernel
theorem dL_law__874 : decode cL_law_ 874 = .ok (.iconst 3, 1) := by decide +kernel
theorem dL_law__875 : decode cL_law_ 875 = .ok (.iadd, 1) := by decide +kernel
theorem dL_law__876 : decode cL_law_ 876 = .ok (.iaload, 1) := by decide +kernel
theorem dL_law__877 : decode cL_law_ 877 = .ok (.aload_n 0, 1) := by decide +kernel
theorem dL_law__878 : decode cL_law_ 878 = .ok (.iload 4, 2) := by decide +kernel
theorem dL_law__880 : decode cL_law_ 880 = .ok (.iconst 4, 1) := by decide +kernel
theorem dL_law__881 : decode cL_law_ 881 = .ok (.iadd, 1) := by decide +kernel
theorem dL_law__882 : decode cL_law_ 882 = .ok (.iaload, 1) := by decide +kernel
theorem dL_law__883 : decode cL_law_ 883 = .ok (.aload_n 0, 1) := by decide +kernel
theorem dL_law__884 : decode cL_law_ 884 = .ok (.iload 4, 2) := by decide +kernel
theorem dL_law__886 : decode cL_law_ 886 = .ok (.iconst 5, 1) := by decide +kernel
theorem dL_law__887 : decode cL_law_ 887 = .ok (.iadd, 1) := by decide +kernel
theorem dL_law__888 : decode cL_law_ 888 = .ok (.iaload, 1) := by decide +kernel
theorem dL_law__889 : decode cL_law_ 889 = .ok (.aload_n 0, 1) := by decide +kernel
theorem dL_law__890 : decode cL_law_ 890 = .ok (.iload 4, 2) := by decide +kernel
theorem dL_law__892 : decode cL_law_ 892 = .ok (.bipush 6, 2) := by decide +kernel
theorem dL_law__894 : decode cL_law_ 894 = .ok (.iadd, 1) := by decide +kernel
theorem dL_law__895 : decode cL_law_ 895 = .ok (.iaload, 1) := by decide +kernel
theorem dL_law__896 : decode cL_law_ 896 = .ok (.aload_n 0, 1) := by decide +kernel
theorem dL_law__897 : decode cL_law_ 897 = .ok (.iload 4, 2) := by decide +kernel
theorem dL_law__899 : decode cL_law_ 899 = .ok (.bipush 7, 2) := by decide +kernel
theorem dL_law__901 : decode cL_law_ 901 = .ok (.iadd, 1) := by decide +kernel
theorem dL_law__902 : decode cL_law_ 902 = .ok (.iaload, 1) := by decide +kernel
theorem dL_law__903 : decode cL_law_ 903 = .ok (.invokevirtual 155, 3) := by decide +kernel
theorem dL_law__906 : decode cL_law_ 906 = .ok (.istore 6, 2) := by decide +kernel
theorem dL_law__908 : decode cL_law_ 908 = .ok (.aload_n 2, 1) := by decide +kernel
theorem dL_law__909 : decode cL_law_ 909 = .ok (.invokevirtual 117, 3) := by decide +kernel
theorem dL_law__912 : decode cL_law_ 912 = .ok (.iload 5, 2) := by decide +kernel
theorem dL_law__914 : decode cL_law_ 914 = .ok (.if_icmp .eq 5, 3) := by decide +kernel
theorem dL_law__917 : decode cL_law_ 917 = .ok (.iconst 0, 1) := by decide +kernel
theorem dL_law__918 : decode cL_law_ 918 = .ok (.ireturn, 1) := by decide +kernel
theorem dL_law__919 : decode cL_law_ 919 = .ok (.iload 5, 2) := by decide +kernel
theorem dL_law__921 : decode cL_law_ 921 = .ok (.ifCond .ne 15, 3) := by decide +kernel
theorem dL_law__924 : decode cL_law_ 924 = .ok (.aload_n 3, 1) := by decide +kernel
theorem dL_law__925 : decode cL_law_ 925 = .ok (.iconst 0, 1) := by decide +kernel
theorem dL_law__926 : decode cL_law_ 926 = .ok (.laload, 1) := by decide +kernel
theorem dL_law__927 : decode cL_law_ 927 = .ok (.iload 6, 2) := by decide +kernel
theorem dL_law__929 : decode cL_law_ 929 = .ok (.i2l, 1) := by decide +kernel
theorem dL_law__930 : decode cL_law_ 930 = .ok (.lcmp, 1) := by decide +kernel
theorem dL_law__931 : decode cL_law_ 931 = .ok (.ifCond .eq 5, 3) := by decide +kernel
theorem dL_law__934 : decode cL_law_ 934 = .ok (.iconst 0, 1) := by decide +kernel
theorem dL_law__935 : decode cL_law_ 935 = .ok (.ireturn, 1) := by decide +kernel
theorem dL_law__936 : decode cL_law_ 936 = .ok (.goto 1352, 3) := by decide +kernel
theorem dL_law__939 : decode cL_law_ 939 = .ok (.aload_n 1, 1) := by decide +kernel
theorem dL_law__940 : decode cL_law_ 940 = .ok (.aload_n 0, 1) := by decide +kernel
theorem dL_law__941 : decode cL_law_ 941 = .ok (.iload 4, 2) := by decide +kernel
theorem dL_law__943 : decode cL_law_ 943 = .ok (.iconst 1, 1) := by decide +kernel
theorem dL_law__944 : decode cL_law_ 944 = .ok (.iadd, 1) := by decide +kernel
theorem dL_law__945 : decode cL_law_ 945 = .ok (.iaload, 1) := by decide +kernel
theorem dL_law__946 : decode cL_law_ 946 = .ok (.aload_n 0, 1) := by decide +kernel
theorem dL_law__947 : decode cL_law_ 947 = .ok (.iload 4, 2) := by decide +kernel
theorem dL_law__949 : decode cL_law_ 949 = .ok (.iconst 2, 1) := by decide +kernel
theorem dL_law__950 : decode cL_law_ 950 = .ok (.iadd, 1) := by decide +kernel
theorem dL_law__951 : decode cL_law_ 951 = .ok (.iaload, 1) := by decide +kernel
theorem dL_law__952 : decode cL_law_ 952 = .ok (.aload_n 3, 1) := by decide +kernel
theorem dL_law__953 : decode cL_law_ 953 = .ok (.invokestatic 156, 3) := by decide +kernel
theorem dL_law__956 : decode cL_law_ 956 = .ok (.istore 5, 2) := by decide +kernel
theorem dL_law__958 : decode cL_law_ 958 = .ok (.aload_n 2, 1) := by decide +kernel
theorem dL_law__959 : decode cL_law_ 959 = .ok (.aload_n 0, 1) := by decide +kernel
theorem dL_law__960 : decode cL_law_ 960 = .ok (.iload 4, 2) := by decide +kernel
theorem dL_law__962 : decode cL_law_ 962 = .ok (.iconst 1, 1) := by decide +kernel
theorem dL_law__963 : decode cL_law_ 963 = .ok (.iadd, 1) := by decide +kernel
theorem dL_law__964 : decode cL_law_ 964 = .ok (.iaload, 1) := by decide +kernel
theorem dL_law__965 : decode cL_law_ 965 = .ok (.aload_n 0, 1) := by decide +kernel
theorem dL_law__966 : decode cL_law_ 966 = .ok (.iload 4, 2) := by decide +kernel
theorem dL_law__968 : decode cL_law_ 968 = .ok (.iconst 2, 1) := by decide +kernel
theorem dL_law__969 : decode cL_law_ 969 = .ok (.iadd, 1) := by decide +kernel
theorem dL_law__970 : decode cL_law_ 970 = .ok (.iaload, 1) := by decide +kernel
theorem dL_law__971 : decode cL_law_ 971 = .ok (.invokevirtual 158, 3) := by decide +kernel
theorem dL_law__974 : decode cL_law_ 974 = .ok (.istore 6, 2) := by decide +kernel
theorem dL_law__976 : decode cL_law_ 976 = .ok (.aload_n 2, 1) := by decide +kernel
theorem dL_law__977 : decode cL_law_ 977 = .ok (.invokevirtual 117, 3) := by decide +kernel
theorem dL_law__980 : decode cL_law_ 980 = .ok (.iload 5, 2) := by decide +kernel
theorem dL_law__982 : decode cL_law_ 982 = .ok (.if_icmp .eq 5, 3) := by decide +kernel
theorem dL_law__985 : decode cL_law_ 985 = .ok (.iconst 0, 1) := by decide +kernel
theorem dL_law__986 : decode cL_law_ 986 = .ok (.ireturn, 1) := by decide +kernel
theorem dL_law__987 : decode cL_law_ 987 = .ok (.iload 5, 2) := by decide +kernel
theorem dL_law__989 : decode cL_law_ 989 = .ok (.ifCond .ne 15, 3) := by decide +kernel
theorem dL_law__992 : decode cL_law_ 992 = .ok (.aload_n 3, 1) := by decide +kernel
theorem dL_law__993 : decode cL_law_ 993 = .ok (.iconst 0, 1) := by decide +kernel
theorem dL_law__994 : decode cL_law_ 994 = .ok (.laload, 1) := by decide +kernel
theorem dL_law__995 : decode cL_law_ 995 = .ok (.iload 6, 2) := by decide +kernel
theorem dL_law__997 : decode cL_law_ 997 = .ok (.i2l, 1) := by decide +kernel
theorem dL_law__998 : decode cL_law_ 998 = .ok (.lcmp, 1) := by decide +kernel
theorem dL_law__999 : decode cL_law_ 999 = .ok (.ifCond .eq 5, 3) := by decide +kernel
theorem dL_law__1002 : decode cL_law_ 1002 = .ok (.iconst 0, 1) := by decide +kernel
theorem dL_law__1003 : decode cL_law_ 1003 = .ok (.ireturn, 1) := by decide +kernel
theorem dL_law__1004 : decode cL_law_ 1004 = .ok (.goto 1284, 3) := by decide +kernel
theorem dL_law__1007 : decode cL_law_ 1007 = .ok (.aload_n 1, 1) := by decide +kernel
theorem dL_law__1008 : decode cL_law_ 1008 = .ok (.aload_n 0, 1) := by decide +kernel
theorem dL_law__1009 : decode cL_law_ 1009 = .ok (.iload 4, 2) := by decide +kernel
theorem dL_law__1011 : decode cL_law_ 1011 = .ok (.iconst 1, 1) := by decide +kernel
theorem dL_law__1012 : decode cL_law_ 1012 = .ok (.iadd, 1) := by decide +kernel
theorem dL_law__1013 : decode cL_law_ 1013 = .ok (.iaload, 1) := by decide +kernel
theorem dL_law__1014 : decode cL_law_ 1014 = .ok (.aload_n 0, 1) := by decide +kernel
theorem dL_law__1015 : decode cL_law_ 1015 = .ok (.iload 4, 2) := by decide +kernel
theorem dL_law__1017 : decode cL_law_ 1017 = .ok (.iconst 2, 1) := by decide +kernel
theorem dL_law__1018 : decode cL_law_ 1018 = .ok (.iadd, 1) := by decide +kernel
theorem dL_law__1019 : decode cL_law_ 1019 = .ok (.iaload, 1) := by decide +kernel
theorem dL_law__1020 : decode cL_law_ 1020 = .ok (.aload_n 0, 1) := by decide +kernel
theorem dL_law__1021 : decode cL_law_ 1021 = .ok (.iload 4, 2) := by decide +kernel
theorem dL_law__1023 : decode cL_law_ 1023 = .ok (.iconst 3, 1) := by decide +kernel
theorem dL_law__1024 : decode cL_law_ 1024 = .ok (.iadd, 1) := by decide +kernel
theorem dL_law__1025 : decode cL_law_ 1025 = .ok (.iaload, 1) := by decide +kernel
theorem dL_law__1026 : decode cL_law_ 1026 = .ok (.aload_n 3, 1) := by decide +kernel
theorem dL_law__1027 : decode cL_law_ 1027 = .ok (.invokestatic 159, 3) := by decide +kernel
theorem dL_law__1030 : decode cL_law_ 1030 = .ok (.istore 5, 2) := by decide +kernel
theorem dL_law__1032 : decode cL_law_ 1032 = .ok (.aload_n 2, 1) := by decide +kernel
theorem dL_law__1033 : decode cL_law_ 1033 = .ok (.aload_n 0, 1) := by decide +kernel
theorem dL_law__1034 : decode cL_law_ 1034 = .ok (.iload 4, 2) := by decide +kernel
theorem dL_law__1036 : decode cL_law_ 1036 = .ok (.iconst 1, 1) := by decide +kernel
theorem dL_law__1037 : decode cL_law_ 1037 = .ok (.iadd, 1) := by decide +kernel
theorem dL_law__1038 : decode cL_law_ 1038 = .ok (.iaload, 1) := by decide +kernel
theorem dL_law__1039 : decode cL_law_ 1039 = .ok (.aload_n 0, 1) := by decide +kernel
theorem dL_law__1040 : decode cL_law_ 1040 = .ok (.iload 4, 2) := by decide +kernel
theorem dL_law__1042 : decode cL_law_ 1042 = .ok (.iconst 2, 1) := by decide +kernel
theorem dL_law__1043 : decode cL_law_ 1043 = .ok (.iadd, 1) := by decide +kernel
theorem dL_law__1044 : decode cL_law_ 1044 = .ok (.iaload, 1) := by decide +kernel
theorem dL_law__1045 : decode cL_law_ 1045 = .ok (.aload_n 0, 1) := by decide +kernel
theorem dL_law__1046 : decode cL_law_ 1046 = .ok (.iload 4, 2) := by decide +kernel
theorem dL_law__1048 : decode cL_law_ 1048 = .ok (.iconst 3, 1) := by decide +kernel
theorem dL_law__1049 : decode cL_law_ 1049 = .ok (.iadd, 1) := by decide +kernel
theorem dL_law__1050 : decode cL_law_ 1050 = .ok (.iaload, 1) := by decide +kernel
theorem dL_law__1051 : decode cL_law_ 1051 = .ok (.invokevirtual 162, 3) := by decide +kernel
theorem dL_law__1054 : decode cL_law_ 1054 = .ok (.lstore 6, 2) := by decide +kernel
theorem dL_law__1056 : decode cL_law_ 1056 = .ok (.aload_n 2, 1) := by decide +kernel
theorem dL_law__1057 : decode cL_law_ 1057 = .ok (.invokevirtual 117, 3) := by decide +kernel
theorem dL_law__1060 : decode cL_law_ 1060 = .ok (.iload 5, 2) := by decide +kernel
theorem dL_law__1062 : decode cL_law_ 1062 = .ok (.if_icmp .eq 5, 3) := by decide +kernel
theorem dL_law__1065 : decode cL_law_ 1065 = .ok (.iconst 0, 1) := by decide +kernel
theorem dL_law__1066 : decode cL_law_ 1066 = .ok (.ireturn, 1) := by decide +kernel
theorem dL_law__1067 : decode cL_law_ 1067 = .ok (.iload 5, 2) := by decide +kernel
theorem dL_law__1069 : decode cL_law_ 1069 = .ok (.ifCond .ne 14, 3) := by decide +kernel
theorem dL_law__1072 : decode cL_law_ 1072 = .ok (.aload_n 3, 1) := by decide +kernel
theorem dL_law__1073 : decode cL_law_ 1073 = .ok (.iconst 0, 1) := by decide +kernel
theorem dL_law__1074 : decode cL_law_ 1074 = .ok (.laload, 1) := by decide +kernel
theorem dL_law__1075 : decode cL_law_ 1075 = .ok (.lload 6, 2) := by decide +kernel
theorem dL_law__1077 : decode cL_law_ 1077 = .ok (.lcmp, 1) := by decide +kernel
theorem dL_law__1078 : decode cL_law_ 1078 = .ok (.ifCond .eq 5, 3) := by decide +kernel
theorem dL_law__1081 : decode cL_law_ 1081 = .ok (.iconst 0, 1) := by decide +kernel
theorem dL_law__1082 : decode cL_law_ 1082 = .ok (.ireturn, 1) := by decide +kernel
theorem dL_law__1083 : decode cL_law_ 1083 = .ok (.goto 1205, 3) := by decide +kernel
theorem dL_law__1086 : decode cL_law_ 1086 = .ok (.aload_n 1, 1) := by decide +kernel
theorem dL_law__1087 : decode cL_law_ 1087 = .ok (.aload_n 0, 1) := by decide +kernel
theorem dL_law__1088 : decode cL_law_ 1088 = .ok (.iload 4, 2) := by decide +kernel
theorem dL_law__1090 : decode cL_law_ 1090 = .ok (.iconst 1, 1) := by decide +kernel
theorem dL_law__1091 : decode cL_law_ 1091 = .ok (.iadd, 1) := by decide +kernel
theorem dL_law__1092 : decode cL_law_ 1092 = .ok (.iaload, 1) := by decide +kernel
theorem dL_law__1093 : decode cL_law_ 1093 = .ok (.aload_n 3, 1) := by decide +kernel
theorem dL_law__1094 : decode cL_law_ 1094 = .ok (.invokestatic 163, 3) := by decide +kernel
theorem dL_law__1097 : decode cL_law_ 1097 = .ok (.istore 5, 2) := by decide +kernel
theorem dL_law__1099 : decode cL_law_ 1099 = .ok (.aload_n 2, 1) := by decide +kernel
theorem dL_law__1100 : decode cL_law_ 1100 = .ok (.aload_n 0, 1) := by decide +kernel
theorem dL_law__1101 : decode cL_law_ 1101 = .ok (.iload 4, 2) := by decide +kernel
theorem dL_law__1103 : decode cL_law_ 1103 = .ok (.iconst 1, 1) := by decide +kernel
theorem dL_law__1104 : decode cL_law_ 1104 = .ok (.iadd, 1) := by decide +kernel
theorem dL_law__1105 : decode cL_law_ 1105 = .ok (.iaload, 1) := by decide +kernel
theorem dL_law__1106 : decode cL_law_ 1106 = .ok (.invokevirtual 165, 3) := by decide +kernel
theorem dL_law__1109 : decode cL_law_ 1109 = .ok (.lstore 6, 2) := by decide +kernel
theorem dL_law__1111 : decode cL_law_ 1111 = .ok (.aload_n 2, 1) := by decide +kernel
theorem dL_law__1112 : decode cL_law_ 1112 = .ok (.invokevirtual 117, 3) := by decide +kernel
theorem dL_law__1115 : decode cL_law_ 1115 = .ok (.iload 5, 2) := by decide +kernel
theorem dL_law__1117 : decode cL_law_ 1117 = .ok (.if_icmp .eq 5, 3) := by decide +kernel
theorem dL_law__1120 : decode cL_law_ 1120 = .ok (.iconst 0, 1) := by decide +kernel
theorem dL_law__1121 : decode cL_law_ 1121 = .ok (.ireturn, 1) := by decide +kernel
theorem dL_law__1122 : decode cL_law_ 1122 = .ok (.iload 5, 2) := by decide +kernel
theorem dL_law__1124 : decode cL_law_ 1124 = .ok (.ifCond .ne 14, 3) := by decide +kernel
theorem dL_law__1127 : decode cL_law_ 1127 = .ok (.aload_n 3, 1) := by decide +kernel
theorem dL_law__1128 : decode cL_law_ 1128 = .ok (.iconst 0, 1) := by decide +kernel
theorem dL_law__1129 : decode cL_law_ 1129 = .ok (.laload, 1) := by decide +kernel
theorem dL_law__1130 : decode cL_law_ 1130 = .ok (.lload 6, 2) := by decide +kernel
theorem dL_law__1132 : decode cL_law_ 1132 = .ok (.lcmp, 1) := by decide +kernel
theorem dL_law__1133 : decode cL_law_ 1133 = .ok (.ifCond .eq 5, 3) := by decide +kernel
theorem dL_law__1136 : decode cL_law_ 1136 = .ok (.iconst 0, 1) := by decide +kernel
theorem dL_law__1137 : decode cL_law_ 1137 = .ok (.ireturn, 1) := by decide +kernel
theorem dL_law__1138 : decode cL_law_ 1138 = .ok (.goto 1150, 3) := by decide +kernel
theorem dL_law__1141 : decode cL_law_ 1141 = .ok (.aload_n 1, 1) := by decide +kernel
theorem dL_law__1142 : decode cL_law_ 1142 = .ok (.invokevirtual 166, 3) := by decide +kernel
theorem dL_law__1145 : decode cL_law_ 1145 = .ok (.aload_n 2, 1) := by decide +kernel
theorem dL_law__1146 : decode cL_law_ 1146 = .ok (.invokevirtual 169, 3) := by decide +kernel
theorem dL_law__1149 : decode cL_law_ 1149 = .ok (.if_icmp .eq 1139, 3) := by decide +kernel
theorem dL_law__1152 : decode cL_law_ 1152 = .ok (.iconst 0, 1) := by decide +kernel
theorem dL_law__1153 : decode cL_law_ 1153 = .ok (.ireturn, 1) := by decide +kernel
theorem dL_law__1154 : decode cL_law_ 1154 = .ok (.aload_n 1, 1) := by decide +kernel
theorem dL_law__1155 : decode cL_law_ 1155 = .ok (.invokevirtual 170, 3) := by decide +kernel
theorem dL_law__1158 : decode cL_law_ 1158 = .ok (.aload_n 2, 1) := by decide +kernel
theorem dL_law__1159 : decode cL_law_ 1159 = .ok (.invokevirtual 173, 3) := by decide +kernel
theorem dL_law__1162 : decode cL_law_ 1162 = .ok (.if_icmp .eq 1126, 3) := by decide +kernel
theorem dL_law__1165 : decode cL_law_ 1165 = .ok (.iconst 0, 1) := by decide +kernel
theorem dL_law__1166 : decode cL_law_ 1166 = .ok (.ireturn, 1) := by decide +kernel
theorem dL_law__1167 : decode cL_law_ 1167 = .ok (.aload_n 1, 1) := by decide +kernel
theorem dL_law__1168 : decode cL_law_ 1168 = .ok (.aload_n 0, 1) := by decide +kernel
theorem dL_law__1169 : decode cL_law_ 1169 = .ok (.iload 4, 2) := by decide +kernel
theorem dL_law__1171 : decode cL_law_ 1171 = .ok (.iconst 1, 1) := by decide +kernel
theorem dL_law__1172 : decode cL_law_ 1172 = .ok (.iadd, 1) := by decide +kernel
theorem dL_law__1173 : decode cL_law_ 1173 = .ok (.iaload, 1) := by decide +kernel
theorem dL_law__1174 : decode cL_law_ 1174 = .ok (.aload_n 0, 1) := by decide +kernel
theorem dL_law__1175 : decode cL_law_ 1175 = .ok (.iload 4, 2) := by decide +kernel
theorem dL_law__1177 : decode cL_law_ 1177 = .ok (.iconst 2, 1) := by decide +kernel
theorem dL_law__1178 : decode cL_law_ 1178 = .ok (.iadd, 1) := by decide +kernel
theorem dL_law__1179 : decode cL_law_ 1179 = .ok (.iaload, 1) := by decide +kernel
theorem dL_law__1180 : decode cL_law_ 1180 = .ok (.aload_n 3, 1) := by decide +kernel
theorem dL_law__1181 : decode cL_law_ 1181 = .ok (.invokestatic 174, 3) := by decide +kernel
theorem dL_law__1184 : decode cL_law_ 1184 = .ok (.istore 5, 2) := by decide +kernel
theorem dL_law__1186 : decode cL_law_ 1186 = .ok (.aload_n 2, 1) := by decide +kernel
theorem dL_law__1187 : decode cL_law_ 1187 = .ok (.aload_n 0, 1) := by decide +kernel
theorem dL_law__1188 : decode cL_law_ 1188 = .ok (.iload 4, 2) := by decide +kernel
theorem dL_law__1190 : decode cL_law_ 1190 = .ok (.iconst 1, 1) := by decide +kernel
theorem dL_law__1191 : decode cL_law_ 1191 = .ok (.iadd, 1) := by decide +kernel
theorem dL_law__1192 : decode cL_law_ 1192 = .ok (.iaload, 1) := by decide +kernel
theorem dL_law__1193 : decode cL_law_ 1193 = .ok (.aload_n 0, 1) := by decide +kernel
theorem dL_law__1194 : decode cL_law_ 1194 = .ok (.iload 4, 2) := by decide +kernel
theorem dL_law__1196 : decode cL_law_ 1196 = .ok (.iconst 2, 1) := by decide +kernel
theorem dL_law__1197 : decode cL_law_ 1197 = .ok (.iadd, 1) := by decide +kernel
theorem dL_law__1198 : decode cL_law_ 1198 = .ok (.iaload, 1) := by decide +kernel
theorem dL_law__1199 : decode cL_law_ 1199 = .ok (.invokevirtual 176, 3) := by decide +kernel
theorem dL_law__1202 : decode cL_law_ 1202 = .ok (.istore 6, 2) := by decide +kernel
theorem dL_law__1204 : decode cL_law_ 1204 = .ok (.aload_n 2, 1) := by decide +kernel
theorem dL_law__1205 : decode cL_law_ 1205 = .ok (.invokevirtual 117, 3) := by decide +kernel
theorem dL_law__1208 : decode cL_law_ 1208 = .ok (.iload 5, 2) := by decide +kernel
theorem dL_law__1210 : decode cL_law_ 1210 = .ok (.if_icmp .eq 5, 3) := by decide +kernel
theorem dL_law__1213 : decode cL_law_ 1213 = .ok (.iconst 0, 1) := by decide +kernel
theorem dL_law__1214 : decode cL_law_ 1214 = .ok (.ireturn, 1) := by decide +kernel
theorem dL_law__1215 : decode cL_law_ 1215 = .ok (.iload 5, 2) := by decide +kernel
theorem dL_law__1217 : decode cL_law_ 1217 = .ok (.ifCond .ne 15, 3) := by decide +kernel
theorem dL_law__1220 : decode cL_law_ 1220 = .ok (.aload_n 3, 1) := by decide +kernel
theorem dL_law__1221 : decode cL_law_ 1221 = .ok (.iconst 0, 1) := by decide +kernel
theorem dL_law__1222 : decode cL_law_ 1222 = .ok (.laload, 1) := by decide +kernel
theorem dL_law__1223 : decode cL_law_ 1223 = .ok (.iload 6, 2) := by decide +kernel
theorem dL_law__1225 : decode cL_law_ 1225 = .ok (.i2l, 1) := by decide +kernel
theorem dL_law__1226 : decode cL_law_ 1226 = .ok (.lcmp, 1) := by decide +kernel
theorem dL_law__1227 : decode cL_law_ 1227 = .ok (.ifCond .eq 5, 3) := by decide +kernel
theorem dL_law__1230 : decode cL_law_ 1230 = .ok (.iconst 0, 1) := by decide +kernel
theorem dL_law__1231 : decode cL_law_ 1231 = .ok (.ireturn, 1) := by decide +kernel
theorem dL_law__1232 : decode cL_law_ 1232 = .ok (.goto 1056, 3) := by decide +kernel
theorem dL_law__1235 : decode cL_law_ 1235 = .ok (.aload_n 1, 1) := by decide +kernel
theorem dL_law__1236 : decode cL_law_ 1236 = .ok (.aload_n 0, 1) := by decide +kernel
theorem dL_law__1237 : decode cL_law_ 1237 = .ok (.iload 4, 2) := by decide +kernel
theorem dL_law__1239 : decode cL_law_ 1239 = .ok (.iconst 1, 1) := by decide +kernel
theorem dL_law__1240 : decode cL_law_ 1240 = .ok (.iadd, 1) := by decide +kernel
theorem dL_law__1241 : decode cL_law_ 1241 = .ok (.iaload, 1) := by decide +kernel
theorem dL_law__1242 : decode cL_law_ 1242 = .ok (.aload_n 3, 1) := by decide +kernel
theorem dL_law__1243 : decode cL_law_ 1243 = .ok (.invokestatic 177, 3) := by decide +kernel
theorem dL_law__1246 : decode cL_law_ 1246 = .ok (.istore 5, 2) := by decide +kernel
theorem dL_law__1248 : decode cL_law_ 1248 = .ok (.aload_n 2, 1) := by decide +kernel
theorem dL_law__1249 : decode cL_law_ 1249 = .ok (.aload_n 0, 1) := by decide +kernel
theorem dL_law__1250 : decode cL_law_ 1250 = .ok (.iload 4, 2) := by decide +kernel
theorem dL_law__1252 : decode cL_law_ 1252 = .ok (.iconst 1, 1) := by decide +kernel
theorem dL_law__1253 : decode cL_law_ 1253 = .ok (.iadd, 1) := by decide +kernel
theorem dL_law__1254 : decode cL_law_ 1254 = .ok (.iaload, 1) := by decide +kernel
theorem dL_law__1255 : decode cL_law_ 1255 = .ok (.invokevirtual 179, 3) := by decide +kernel
theorem dL_law__1258 : decode cL_law_ 1258 = .ok (.istore 6, 2) := by decide +kernel
theorem dL_law__1260 : decode cL_law_ 1260 = .ok (.aload_n 2, 1) := by decide +kernel
theorem dL_law__1261 : decode cL_law_ 1261 = .ok (.invokevirtual 117, 3) := by decide +kernel
theorem dL_law__1264 : decode cL_law_ 1264 = .ok (.iload 5, 2) := by decide +kernel
theorem dL_law__1266 : decode cL_law_ 1266 = .ok (.if_icmp .eq 5, 3) := by decide +kernel
theorem dL_law__1269 : decode cL_law_ 1269 = .ok (.iconst 0, 1) := by decide +kernel
theorem dL_law__1270 : decode cL_law_ 1270 = .ok (.ireturn, 1) := by decide +kernel
theorem dL_law__1271 : decode cL_law_ 1271 = .ok (.iload 5, 2) := by decide +kernel
theorem dL_law__1273 : decode cL_law_ 1273 = .ok (.ifCond .ne 15, 3) := by decide +kernel
theorem dL_law__1276 : decode cL_law_ 1276 = .ok (.aload_n 3, 1) := by decide +kernel
theorem dL_law__1277 : decode cL_law_ 1277 = .ok (.iconst 0, 1) := by decide +kernel
theorem dL_law__1278 : decode cL_law_ 1278 = .ok (.laload, 1) := by decide +kernel
theorem dL_law__1279 : decode cL_law_ 1279 = .ok (.iload 6, 2) := by decide +kernel
theorem dL_law__1281 : decode cL_law_ 1281 = .ok (.i2l, 1) := by decide +kernel
theorem dL_law__1282 : decode cL_law_ 1282 = .ok (.lcmp, 1) := by decide +kernel
theorem dL_law__1283 : decode cL_law_ 1283 = .ok (.ifCond .eq 5, 3) := by decide +kernel
theorem dL_law__1286 : decode cL_law_ 1286 = .ok (.iconst 0, 1) := by decide +kernel
theorem dL_law__1287 : decode cL_law_ 1287 = .ok (.ireturn, 1) := by decide +kernel
theorem dL_law__1288 : decode cL_law_ 1288 = .ok (.goto 1000, 3) := by decide +kernel
theorem dL_law__1291 : decode cL_law_ 1291 = .ok (.aload_n 1, 1) := by decide +kernel
theorem dL_law__1292 : decode cL_law_ 1292 = .ok (.aload_n 0, 1) := by decide +kernel
theorem dL_law__1293 : decode cL_law_ 1293 = .ok (.iload 4, 2) := by decide +kernel
theorem dL_law__1295 : decode cL_law_ 1295 = .ok (.iconst 1, 1) := by decide +kernel
theorem dL_law__1296 : decode cL_law_ 1296 = .ok (.iadd, 1) := by decide +kernel
theorem dL_law__1297 : decode cL_law_ 1297 = .ok (.iaload, 1) := by decide +kernel
theorem dL_law__1298 : decode cL_law_ 1298 = .ok (.aload_n 0, 1) := by decide +kernel
theorem dL_law__1299 : decode cL_law_ 1299 = .ok (.iload 4, 2) := by decide +kernel
theorem dL_law__1301 : decode cL_law_ 1301 = .ok (.iconst 2, 1) := by decide +kernel
theorem dL_law__1302 : decode cL_law_ 1302 = .ok (.iadd, 1) := by decide +kernel
theorem dL_law__1303 : decode cL_law_ 1303 = .ok (.iaload, 1) := by decide +kernel
theorem dL_law__1304 : decode cL_law_ 1304 = .ok (.aload_n 3, 1) := by decide +kernel
theorem dL_law__1305 : decode cL_law_ 1305 = .ok (.invokestatic 180, 3) := by decide +kernel
theorem dL_law__1308 : decode cL_law_ 1308 = .ok (.istore 5, 2) := by decide +kernel
theorem dL_law__1310 : decode cL_law_ 1310 = .ok (.aload_n 2, 1) := by decide +kernel
theorem dL_law__1311 : decode cL_law_ 1311 = .ok (.aload_n 0, 1) := by decide +kernel
theorem dL_law__1312 : decode cL_law_ 1312 = .ok (.iload 4, 2) := by decide +kernel
theorem dL_law__1314 : decode cL_law_ 1314 = .ok (.iconst 1, 1) := by decide +kernel
theorem dL_law__1315 : decode cL_law_ 1315 = .ok (.iadd, 1) := by decide +kernel
theorem dL_law__1316 : decode cL_law_ 1316 = .ok (.iaload, 1) := by decide +kernel
theorem dL_law__1317 : decode cL_law_ 1317 = .ok (.aload_n 0, 1) := by decide +kernel
theorem dL_law__1318 : decode cL_law_ 1318 = .ok (.iload 4, 2) := by decide +kernel
theorem dL_law__1320 : decode cL_law_ 1320 = .ok (.iconst 2, 1) := by decide +kernel
theorem dL_law__1321 : decode cL_law_ 1321 = .ok (.iadd, 1) := by decide +kernel
theorem dL_law__1322 : decode cL_law_ 1322 = .ok (.iaload, 1) := by decide +kernel
theorem dL_law__1323 : decode cL_law_ 1323 = .ok (.invokevirtual 182, 3) := by decide +kernel
theorem dL_law__1326 : decode cL_law_ 1326 = .ok (.istore 6, 2) := by decide +kernel
theorem dL_law__1328 : decode cL_law_ 1328 = .ok (.aload_n 2, 1) := by decide +kernel
theorem dL_law__1329 : decode cL_law_ 1329 = .ok (.invokevirtual 117, 3) := by decide +kernel
theorem dL_law__1332 : decode cL_law_ 1332 = .ok (.iload 5, 2) := by decide +kernel
theorem dL_law__1334 : decode cL_law_ 1334 = .ok (.if_icmp .eq 5, 3) := by decide +kernel
theorem dL_law__1337 : decode cL_law_ 1337 = .ok (.iconst 0, 1) := by decide +kernel
theorem dL_law__1338 : decode cL_law_ 1338 = .ok (.ireturn, 1) := by decide +kernel
theorem dL_law__1339 : decode cL_law_ 1339 = .ok (.iload 5, 2) := by decide +kernel
theorem dL_law__1341 : decode cL_law_ 1341 = .ok (.ifCond .ne 15, 3) := by decide +kernel
theorem dL_law__1344 : decode cL_law_ 1344 = .ok (.aload_n 3, 1) := by decide +kernel
theorem dL_law__1345 : decode cL_law_ 1345 = .ok (.iconst 0, 1) := by decide +kernel
theorem dL_law__1346 : decode cL_law_ 1346 = .ok (.laload, 1) := by decide +kernel
theorem dL_law__1347 : decode cL_law_ 1347 = .ok (.iload 6, 2) := by decide +kernel
theorem dL_law__1349 : decode cL_law_ 1349 = .ok (.i2l, 1) := by decide +kernel
theorem dL_law__1350 : decode cL_law_ 1350 = .ok (.lcmp, 1) := by decide +kernel
theorem dL_law__1351 : decode cL_law_ 1351 = .ok (.ifCond .eq 5, 3) := by decide +kernel
theorem dL_law__1354 : decode cL_law_ 1354 = .ok (.iconst 0, 1) := by decide +kernel
theorem dL_law__1355 : decode cL_law_ 1355 = .ok (.ireturn, 1) := by decide +kernel
theorem dL_law__1356 : decode cL_law_ 1356 = .ok (.goto 932, 3) := by decide +kernel
theorem dL_law__1359 : decode cL_law_ 1359 = .ok (.aload_n 1, 1) := by decide +kernel
theorem dL_law__1360 : decode cL_law_ 1360 = .ok (.aload_n 0, 1) := by decide +kernel
theorem dL_law__1361 : decode cL_law_ 1361 = .ok (.iload 4, 2) := by decide +kernel
theorem dL_law__1363 : decode cL_law_ 1363 = .ok (.iconst 1, 1) := by decide +kernel
theorem dL_law__1364 : decode cL_law_ 1364 = .ok (.iadd, 1) := by decide +kernel
theorem dL_law__1365 : decode cL_law_ 1365 = .ok (.iaload, 1) := by decide +kernel
theorem dL_law__1366 : decode cL_law_ 1366 = .ok (.aload_n 3, 1) := by decide +kernel
theorem dL_law__1367 : decode cL_law_ 1367 = .ok (.invokestatic 183, 3) := by decide +kernel
theorem dL_law__1370 : decode cL_law_ 1370 = .ok (.istore 5, 2) := by decide +kernel
theorem dL_law__1372 : decode cL_law_ 1372 = .ok (.aload_n 2, 1) := by decide +kernel
theorem dL_law__1373 : decode cL_law_ 1373 = .ok (.aload_n 0, 1) := by decide +kernel
theorem dL_law__1374 : decode cL_law_ 1374 = .ok (.iload 4, 2) := by decide +kernel
theorem dL_law__1376 : decode cL_law_ 1376 = .ok (.iconst 1, 1) := by decide +kernel
theorem dL_law__1377 : decode cL_law_ 1377 = .ok (.iadd, 1) := by decide +kernel
theorem dL_law__1378 : decode cL_law_ 1378 = .ok (.iaload, 1) := by decide +kernel
theorem dL_law__1379 : decode cL_law_ 1379 = .ok (.invokevirtual 185, 3) := by decide +kernel
theorem dL_law__1382 : decode cL_law_ 1382 = .ok (.istore 6, 2) := by decide +kernel
theorem dL_law__1384 : decode cL_law_ 1384 = .ok (.aload_n 2, 1) := by decide +kernel
theorem dL_law__1385 : decode cL_law_ 1385 = .ok (.invokevirtual 117, 3) := by decide +kernel
theorem dL_law__1388 : decode cL_law_ 1388 = .ok (.iload 5, 2) := by decide +kernel
theorem dL_law__1390 : decode cL_law_ 1390 = .ok (.if_icmp .eq 5, 3) := by decide +kernel
theorem dL_law__1393 : decode cL_law_ 1393 = .ok (.iconst 0, 1) := by decide +kernel
theorem dL_law__1394 : decode cL_law_ 1394 = .ok (.ireturn, 1) := by decide +kernel
theorem dL_law__1395 : decode cL_law_ 1395 = .ok (.iload 5, 2) := by decide +kernel
theorem dL_law__1397 : decode cL_law_ 1397 = .ok (.ifCond .ne 15, 3) := by decide +kernel
theorem dL_law__1400 : decode cL_law_ 1400 = .ok (.aload_n 3, 1) := by decide +kernel
theorem dL_law__1401 : decode cL_law_ 1401 = .ok (.iconst 0, 1) := by decide +kernel
theorem dL_law__1402 : decode cL_law_ 1402 = .ok (.laload, 1) := by decide +kernel
theorem dL_law__1403 : decode cL_law_ 1403 = .ok (.iload 6, 2) := by decide +kernel
theorem dL_law__1405 : decode cL_law_ 1405 = .ok (.i2l, 1) := by decide +kernel
theorem dL_law__1406 : decode cL_law_ 1406 = .ok (.lcmp, 1) := by decide +kernel
theorem dL_law__1407 : decode cL_law_ 1407 = .ok (.ifCond .eq 5, 3) := by decide +kernel
theorem dL_law__1410 : decode cL_law_ 1410 = .ok (.iconst 0, 1) := by decide +kernel
theorem dL_law__1411 : decode cL_law_ 1411 = .ok (.ireturn, 1) := by decide +kernel
theorem dL_law__1412 : decode cL_law_ 1412 = .ok (.goto 876, 3) := by decide +kernel
theorem dL_law__1415 : decode cL_law_ 1415 = .ok (.aload_n 1, 1) := by decide +kernel
theorem dL_law__1416 : decode cL_law_ 1416 = .ok (.aload_n 0, 1) := by decide +kernel
theorem dL_law__1417 : decode cL_law_ 1417 = .ok (.iload 4, 2) := by decide +kernel
theorem dL_law__1419 : decode cL_law_ 1419 = .ok (.iconst 1, 1) := by decide +kernel
theorem dL_law__1420 : decode cL_law_ 1420 = .ok (.iadd, 1) := by decide +kernel
theorem dL_law__1421 : decode cL_law_ 1421 = .ok (.iaload, 1) := by decide +kernel
theorem dL_law__1422 : decode cL_law_ 1422 = .ok (.aload_n 3, 1) := by decide +kernel
theorem dL_law__1423 : decode cL_law_ 1423 = .ok (.invokestatic 186, 3) := by decide +kernel
theorem dL_law__1426 : decode cL_law_ 1426 = .ok (.istore 5, 2) := by decide +kernel
theorem dL_law__1428 : decode cL_law_ 1428 = .ok (.aload_n 2, 1) := by decide +kernel
theorem dL_law__1429 : decode cL_law_ 1429 = .ok (.aload_n 0, 1) := by decide +kernel
theorem dL_law__1430 : decode cL_law_ 1430 = .ok (.iload 4, 2) := by decide +kernel
theorem dL_law__1432 : decode cL_law_ 1432 = .ok (.iconst 1, 1) := by decide +kernel
theorem dL_law__1433 : decode cL_law_ 1433 = .ok (.iadd, 1) := by decide +kernel
theorem dL_law__1434 : decode cL_law_ 1434 = .ok (.iaload, 1) := by decide +kernel
theorem dL_law__1435 : decode cL_law_ 1435 = .ok (.invokevirtual 188, 3) := by decide +kernel
theorem dL_law__1438 : decode cL_law_ 1438 = .ok (.istore 6, 2) := by decide +kernel
theorem dL_law__1440 : decode cL_law_ 1440 = .ok (.aload_n 2, 1) := by decide +kernel
theorem dL_law__1441 : decode cL_law_ 1441 = .ok (.invokevirtual 117, 3) := by decide +kernel
theorem dL_law__1444 : decode cL_law_ 1444 = .ok (.iload 5, 2) := by decide +kernel
theorem dL_law__1446 : decode cL_law_ 1446 = .ok (.if_icmp .eq 5, 3) := by decide +kernel
theorem dL_law__1449 : decode cL_law_ 1449 = .ok (.iconst 0, 1) := by decide +kernel
theorem dL_law__1450 : decode cL_law_ 1450 = .ok (.ireturn, 1) := by decide +kernel
theorem dL_law__1451 : decode cL_law_ 1451 = .ok (.iload 5, 2) := by decide +kernel
theorem dL_law__1453 : decode cL_law_ 1453 = .ok (.ifCond .ne 15, 3) := by decide +kernel
theorem dL_law__1456 : decode cL_law_ 1456 = .ok (.aload_n 3, 1) := by decide +kernel
theorem dL_law__1457 : decode cL_law_ 1457 = .ok (.iconst 0, 1) := by decide +kernel
theorem dL_law__1458 : decode cL_law_ 1458 = .ok (.laload, 1) := by decide +kernel
theorem dL_law__1459 : decode cL_law_ 1459 = .ok (.iload 6, 2) := by decide +kernel
theorem dL_law__1461 : decode cL_law_ 1461 = .ok (.i2l, 1) := by decide +kernel
theorem dL_law__1462 : decode cL_law_ 1462 = .ok (.lcmp, 1) := by decide +kernel
theorem dL_law__1463 : decode cL_law_ 1463 = .ok (.ifCond .eq 5, 3) := by decide +kernel
theorem dL_law__1466 : decode cL_law_ 1466 = .ok (.iconst 0, 1) := by decide +kernel
theorem dL_law__1467 : decode cL_law_ 1467 = .ok (.ireturn, 1) := by decide +kernel
theorem dL_law__1468 : decode cL_law_ 1468 = .ok (.goto 820, 3) := by decide +kernel
theorem dL_law__1471 : decode cL_law_ 1471 = .ok (.aload_n 1, 1) := by decide +kernel
theorem dL_law__1472 : decode cL_law_ 1472 = .ok (.aload_n 0, 1) := by decide +kernel
theorem dL_law__1473 : decode cL_law_ 1473 = .ok (.iload 4, 2) := by decide +kernel
theorem dL_law__1475 : decode cL_law_ 1475 = .ok (.iconst 1, 1) := by decide +kernel
theorem dL_law__1476 : decode cL_law_ 1476 = .ok (.iadd, 1) := by decide +kernel
theorem dL_law__1477 : decode cL_law_ 1477 = .ok (.iaload, 1) := by decide +kernel
theorem dL_law__1478 : decode cL_law_ 1478 = .ok (.aload_n 3, 1) := by decide +kernel
theorem dL_law__1479 : decode cL_law_ 1479 = .ok (.invokestatic 189, 3) := by decide +kernel
theorem dL_law__1482 : decode cL_law_ 1482 = .ok (.istore 5, 2) := by decide +kernel
theorem dL_law__1484 : decode cL_law_ 1484 = .ok (.aload_n 2, 1) := by decide +kernel
theorem dL_law__1485 : decode cL_law_ 1485 = .ok (.aload_n 0, 1) := by decide +kernel
theorem dL_law__1486 : decode cL_law_ 1486 = .ok (.iload 4, 2) := by decide +kernel
theorem dL_law__1488 : decode cL_law_ 1488 = .ok (.iconst 1, 1) := by decide +kernel
theorem dL_law__1489 : decode cL_law_ 1489 = .ok (.iadd, 1) := by decide +kernel
theorem dL_law__1490 : decode cL_law_ 1490 = .ok (.iaload, 1) := by decide +kernel
theorem dL_law__1491 : decode cL_law_ 1491 = .ok (.invokevirtual 191, 3) := by decide +kernel
theorem dL_law__1494 : decode cL_law_ 1494 = .ok (.istore 6, 2) := by decide +kernel
theorem dL_law__1496 : decode cL_law_ 1496 = .ok (.aload_n 2, 1) := by decide +kernel
theorem dL_law__1497 : decode cL_law_ 1497 = .ok (.invokevirtual 117, 3) := by decide +kernel
theorem dL_law__1500 : decode cL_law_ 1500 = .ok (.iload 5, 2) := by decide +kernel
theorem dL_law__1502 : decode cL_law_ 1502 = .ok (.if_icmp .eq 5, 3) := by decide +kernel
theorem dL_law__1505 : decode cL_law_ 1505 = .ok (.iconst 0, 1) := by decide +kernel
theorem dL_law__1506 : decode cL_law_ 1506 = .ok (.ireturn, 1) := by decide +kernel
theorem dL_law__1507 : decode cL_law_ 1507 = .ok (.iload 5, 2) := by decide +kernel
theorem dL_law__1509 : decode cL_law_ 1509 = .ok (.ifCond .ne 15, 3) := by decide +kernel
theorem dL_law__1512 : decode cL_law_ 1512 = .ok (.aload_n 3, 1) := by decide +kernel
theorem dL_law__1513 : decode cL_law_ 1513 = .ok (.iconst 0, 1) := by decide +kernel
theorem dL_law__1514 : decode cL_law_ 1514 = .ok (.laload, 1) := by decide +kernel
theorem dL_law__1515 : decode cL_law_ 1515 = .ok (.iload 6, 2) := by decide +kernel
theorem dL_law__1517 : decode cL_law_ 1517 = .ok (.i2l, 1) := by decide +kernel
theorem dL_law__1518 : decode cL_law_ 1518 = .ok (.lcmp, 1) := by decide +kernel
theorem dL_law__1519 : decode cL_law_ 1519 = .ok (.ifCond .eq 5, 3) := by decide +kernel
theorem dL_law__1522 : decode cL_law_ 1522 = .ok (.iconst 0, 1) := by decide +kernel
theorem dL_law__1523 : decode cL_law_ 1523 = .ok (.ireturn, 1) := by decide +kernel
theorem dL_law__1524 : decode cL_law_ 1524 = .ok (.goto 764, 3) := by decide +kernel
theorem dL_law__1527 : decode cL_law_ 1527 = .ok (.aload_n 1, 1) := by decide +kernel
theorem dL_law__1528 : decode cL_law_ 1528 = .ok (.aload_n 0, 1) := by decide +kernel
theorem dL_law__1529 : decode cL_law_ 1529 = .ok (.iload 4, 2) := by decide +kernel
theorem dL_law__1531 : decode cL_law_ 1531 = .ok (.iconst 1, 1) := by decide +kernel
theorem dL_law__1532 : decode cL_law_ 1532 = .ok (.iadd, 1) := by decide +kernel
theorem dL_law__1533 : decode cL_law_ 1533 = .ok (.iaload, 1) := by decide +kernel
theorem dL_law__1534 : decode cL_law_ 1534 = .ok (.aload_n 0, 1) := by decide +kernel
theorem dL_law__1535 : decode cL_law_ 1535 = .ok (.iload 4, 2) := by decide +kernel
theorem dL_law__1537 : decode cL_law_ 1537 = .ok (.iconst 2, 1) := by decide +kernel
theorem dL_law__1538 : decode cL_law_ 1538 = .ok (.iadd, 1) := by decide +kernel
theorem dL_law__1539 : decode cL_law_ 1539 = .ok (.iaload, 1) := by decide +kernel
theorem dL_law__1540 : decode cL_law_ 1540 = .ok (.aload_n 0, 1) := by decide +kernel
theorem dL_law__1541 : decode cL_law_ 1541 = .ok (.iload 4, 2) := by decide +kernel
theorem dL_law__1543 : decode cL_law_ 1543 = .ok (.iconst 3, 1) := by decide +kernel
theorem dL_law__1544 : decode cL_law_ 1544 = .ok (.iadd, 1) := by decide +kernel
theorem dL_law__1545 : decode cL_law_ 1545 = .ok (.iaload, 1) := by decide +kernel
theorem dL_law__1546 : decode cL_law_ 1546 = .ok (.aload_n 3, 1) := by decide +kernel
theorem dL_law__1547 : decode cL_law_ 1547 = .ok (.invokestatic 192, 3) := by decide +kernel
theorem dL_law__1550 : decode cL_law_ 1550 = .ok (.istore 5, 2) := by decide +kernel
theorem dL_law__1552 : decode cL_law_ 1552 = .ok (.aload_n 2, 1) := by decide +kernel
theorem dL_law__1553 : decode cL_law_ 1553 = .ok (.aload_n 0, 1) := by decide +kernel
theorem dL_law__1554 : decode cL_law_ 1554 = .ok (.iload 4, 2) := by decide +kernel
theorem dL_law__1556 : decode cL_law_ 1556 = .ok (.iconst 1, 1) := by decide +kernel
theorem dL_law__1557 : decode cL_law_ 1557 = .ok (.iadd, 1) := by decide +kernel
theorem dL_law__1558 : decode cL_law_ 1558 = .ok (.iaload, 1) := by decide +kernel
theorem dL_law__1559 : decode cL_law_ 1559 = .ok (.aload_n 0, 1) := by decide +kernel
theorem dL_law__1560 : decode cL_law_ 1560 = .ok (.iload 4, 2) := by decide +kernel
theorem dL_law__1562 : decode cL_law_ 1562 = .ok (.iconst 2, 1) := by decide +kernel
theorem dL_law__1563 : decode cL_law_ 1563 = .ok (.iadd, 1) := by decide +kernel
theorem dL_law__1564 : decode cL_law_ 1564 = .ok (.iaload, 1) := by decide +kernel
theorem dL_law__1565 : decode cL_law_ 1565 = .ok (.aload_n 0, 1) := by decide +kernel
theorem dL_law__1566 : decode cL_law_ 1566 = .ok (.iload 4, 2) := by decide +kernel
theorem dL_law__1568 : decode cL_law_ 1568 = .ok (.iconst 3, 1) := by decide +kernel
theorem dL_law__1569 : decode cL_law_ 1569 = .ok (.iadd, 1) := by decide +kernel
theorem dL_law__1570 : decode cL_law_ 1570 = .ok (.iaload, 1) := by decide +kernel
theorem dL_law__1571 : decode cL_law_ 1571 = .ok (.invokevirtual 194, 3) := by decide +kernel
theorem dL_law__1574 : decode cL_law_ 1574 = .ok (.istore 6, 2) := by decide +kernel
theorem dL_law__1576 : decode cL_law_ 1576 = .ok (.aload_n 2, 1) := by decide +kernel
theorem dL_law__1577 : decode cL_law_ 1577 = .ok (.invokevirtual 117, 3) := by decide +kernel
theorem dL_law__1580 : decode cL_law_ 1580 = .ok (.iload 5, 2) := by decide +kernel
theorem dL_law__1582 : decode cL_law_ 1582 = .ok (.if_icmp .eq 5, 3) := by decide +kernel
theorem dL_law__1585 : decode cL_law_ 1585 = .ok (.iconst 0, 1) := by decide +kernel
theorem dL_law__1586 : decode cL_law_ 1586 = .ok (.ireturn, 1) := by decide +kernel
theorem dL_law__1587 : decode cL_law_ 1587 = .ok (.iload 5, 2) := by decide +kernel
theorem dL_law__1589 : decode cL_law_ 1589 = .ok (.ifCond .ne 15, 3) := by decide +kernel
theorem dL_law__1592 : decode cL_law_ 1592 = .ok (.aload_n 3, 1) := by decide +kernel
theorem dL_law__1593 : decode cL_law_ 1593 = .ok (.iconst 0, 1) := by decide +kernel
theorem dL_law__1594 : decode cL_law_ 1594 = .ok (.laload, 1) := by decide +kernel
theorem dL_law__1595 : decode cL_law_ 1595 = .ok (.iload 6, 2) := by decide +kernel
theorem dL_law__1597 : decode cL_law_ 1597 = .ok (.i2l, 1) := by decide +kernel
theorem dL_law__1598 : decode cL_law_ 1598 = .ok (.lcmp, 1) := by decide +kernel
theorem dL_law__1599 : decode cL_law_ 1599 = .ok (.ifCond .eq 5, 3) := by decide +kernel
theorem dL_law__1602 : decode cL_law_ 1602 = .ok (.iconst 0, 1) := by decide +kernel
theorem dL_law__1603 : decode cL_law_ 1603 = .ok (.ireturn, 1) := by decide +kernel
theorem dL_law__1604 : decode cL_law_ 1604 = .ok (.goto 684, 3) := by decide +kernel
theorem dL_law__1607 : decode cL_law_ 1607 = .ok (.aload_n 1, 1) := by decide +kernel
theorem dL_law__1608 : decode cL_law_ 1608 = .ok (.aload_n 0, 1) := by decide +kernel
theorem dL_law__1609 : decode cL_law_ 1609 = .ok (.iload 4, 2) := by decide +kernel
theorem dL_law__1611 : decode cL_law_ 1611 = .ok (.iconst 1, 1) := by decide +kernel
theorem dL_law__1612 : decode cL_law_ 1612 = .ok (.iadd, 1) := by decide +kernel
theorem dL_law__1613 : decode cL_law_ 1613 = .ok (.iaload, 1) := by decide +kernel
theorem dL_law__1614 : decode cL_law_ 1614 = .ok (.aload_n 0, 1) := by decide +kernel
theorem dL_law__1615 : decode cL_law_ 1615 = .ok (.iload 4, 2) := by decide +kernel
theorem dL_law__1617 : decode cL_law_ 1617 = .ok (.iconst 2, 1) := by decide +kernel
theorem dL_law__1618 : decode cL_law_ 1618 = .ok (.iadd, 1) := by decide +kernel
theorem dL_law__1619 : decode cL_law_ 1619 = .ok (.iaload, 1) := by decide +kernel
theorem dL_law__1620 : decode cL_law_ 1620 = .ok (.aload_n 0, 1) := by decide +kernel
theorem dL_law__1621 : decode cL_law_ 1621 = .ok (.iload 4, 2) := by decide +kernel
theorem dL_law__1623 : decode cL_law_ 1623 = .ok (.iconst 3, 1) := by decide +kernel
theorem dL_law__1624 : decode cL_law_ 1624 = .ok (.iadd, 1) := by decide +kernel
theorem dL_law__1625 : decode cL_law_ 1625 = .ok (.iaload, 1) := by decide +kernel
theorem dL_law__1626 : decode cL_law_ 1626 = .ok (.aload_n 3, 1) := by decide +kernel
theorem dL_law__1627 : decode cL_law_ 1627 = .ok (.invokestatic 195, 3) := by decide +kernel
theorem dL_law__1630 : decode cL_law_ 1630 = .ok (.istore 5, 2) := by decide +kernel
theorem dL_law__1632 : decode cL_law_ 1632 = .ok (.aload_n 2, 1) := by decide +kernel
theorem dL_law__1633 : decode cL_law_ 1633 = .ok (.aload_n 0, 1) := by decide +kernel
theorem dL_law__1634 : decode cL_law_ 1634 = .ok (.iload 4, 2) := by decide +kernel
theorem dL_law__1636 : decode cL_law_ 1636 = .ok (.iconst 1, 1) := by decide +kernel
theorem dL_law__1637 : decode cL_law_ 1637 = .ok (.iadd, 1) := by decide +kernel
theorem dL_law__1638 : decode cL_law_ 1638 = .ok (.iaload, 1) := by decide +kernel
theorem dL_law__1639 : decode cL_law_ 1639 = .ok (.aload_n 0, 1) := by decide +kernel
theorem dL_law__1640 : decode cL_law_ 1640 = .ok (.iload 4, 2) := by decide +kernel
theorem dL_law__1642 : decode cL_law_ 1642 = .ok (.iconst 2, 1) := by decide +kernel
theorem dL_law__1643 : decode cL_law_ 1643 = .ok (.iadd, 1) := by decide +kernel
theorem dL_law__1644 : decode cL_law_ 1644 = .ok (.iaload, 1) := by decide +kernel
theorem dL_law__1645 : decode cL_law_ 1645 = .ok (.aload_n 0, 1) := by decide +kernel
theorem dL_law__1646 : decode cL_law_ 1646 = .ok (.iload 4, 2) := by decide +kernel
theorem dL_law__1648 : decode cL_law_ 1648 = .ok (.iconst 3, 1) := by decide +kernel
theorem dL_law__1649 : decode cL_law_ 1649 = .ok (.iadd, 1) := by decide +kernel
theorem dL_law__1650 : decode cL_law_ 1650 = .ok (.iaload, 1) := by decide +kernel
theorem dL_law__1651 : decode cL_law_ 1651 = .ok (.invokevirtual 197, 3) := by decide +kernel
theorem dL_law__1654 : decode cL_law_ 1654 = .ok (.lstore 6, 2) := by decide +kernel
theorem dL_law__1656 : decode cL_law_ 1656 = .ok (.aload_n 2, 1) := by decide +kernel
theorem dL_law__1657 : decode cL_law_ 1657 = .ok (.invokevirtual 117, 3) := by decide +kernel
theorem dL_law__1660 : decode cL_law_ 1660 = .ok (.iload 5, 2) := by decide +kernel
theorem dL_law__1662 : decode cL_law_ 1662 = .ok (.if_icmp .eq 5, 3) := by decide +kernel
theorem dL_law__1665 : decode cL_law_ 1665 = .ok (.iconst 0, 1) := by decide +kernel
theorem dL_law__1666 : decode cL_law_ 1666 = .ok (.ireturn, 1) := by decide +kernel
theorem dL_law__1667 : decode cL_law_ 1667 = .ok (.iload 5, 2) := by decide +kernel
theorem dL_law__1669 : decode cL_law_ 1669 = .ok (.ifCond .ne 14, 3) := by decide +kernel
theorem dL_law__1672 : decode cL_law_ 1672 = .ok (.aload_n 3, 1) := by decide +kernel
theorem dL_law__1673 : decode cL_law_ 1673 = .ok (.iconst 0, 1) := by decide +kernel
theorem dL_law__1674 : decode cL_law_ 1674 = .ok (.laload, 1) := by decide +kernel
theorem dL_law__1675 : decode cL_law_ 1675 = .ok (.lload 6, 2) := by decide +kernel
theorem dL_law__1677 : decode cL_law_ 1677 = .ok (.lcmp, 1) := by decide +kernel
theorem dL_law__1678 : decode cL_law_ 1678 = .ok (.ifCond .eq 5, 3) := by decide +kernel
theorem dL_law__1681 : decode cL_law_ 1681 = .ok (.iconst 0, 1) := by decide +kernel
theorem dL_law__1682 : decode cL_law_ 1682 = .ok (.ireturn, 1) := by decide +kernel
theorem dL_law__1683 : decode cL_law_ 1683 = .ok (.goto 605, 3) := by decide +kernel
theorem dL_law__1686 : decode cL_law_ 1686 = .ok (.aload_n 1, 1) := by decide +kernel
theorem dL_law__1687 : decode cL_law_ 1687 = .ok (.aload_n 0, 1) := by decide +kernel
theorem dL_law__1688 : decode cL_law_ 1688 = .ok (.iload 4, 2) := by decide +kernel
theorem dL_law__1690 : decode cL_law_ 1690 = .ok (.iconst 1, 1) := by decide +kernel
theorem dL_law__1691 : decode cL_law_ 1691 = .ok (.iadd, 1) := by decide +kernel
theorem dL_law__1692 : decode cL_law_ 1692 = .ok (.iaload, 1) := by decide +kernel
theorem dL_law__1693 : decode cL_law_ 1693 = .ok (.aload_n 0, 1) := by decide +kernel
theorem dL_law__1694 : decode cL_law_ 1694 = .ok (.iload 4, 2) := by decide +kernel
theorem dL_law__1696 : decode cL_law_ 1696 = .ok (.iconst 2, 1) := by decide +kernel
theorem dL_law__1697 : decode cL_law_ 1697 = .ok (.iadd, 1) := by decide +kernel
theorem dL_law__1698 : decode cL_law_ 1698 = .ok (.iaload, 1) := by decide +kernel
theorem dL_law__1699 : decode cL_law_ 1699 = .ok (.aload_n 0, 1) := by decide +kernel
theorem dL_law__1700 : decode cL_law_ 1700 = .ok (.iload 4, 2) := by decide +kernel
theorem dL_law__1702 : decode cL_law_ 1702 = .ok (.iconst 3, 1) := by decide +kernel
theorem dL_law__1703 : decode cL_law_ 1703 = .ok (.iadd, 1) := by decide +kernel
theorem dL_law__1704 : decode cL_law_ 1704 = .ok (.iaload, 1) := by decide +kernel
theorem dL_law__1705 : decode cL_law_ 1705 = .ok (.aload_n 3, 1) := by decide +kernel
theorem dL_law__1706 : decode cL_law_ 1706 = .ok (.invokestatic 198, 3) := by decide +kernel
theorem dL_law__1709 : decode cL_law_ 1709 = .ok (.istore 5, 2) := by decide +kernel
theorem dL_law__1711 : decode cL_law_ 1711 = .ok (.aload_n 2, 1) := by decide +kernel
theorem dL_law__1712 : decode cL_law_ 1712 = .ok (.aload_n 0, 1) := by decide +kernel
theorem dL_law__1713 : decode cL_law_ 1713 = .ok (.iload 4, 2) := by decide +kernel
theorem dL_law__1715 : decode cL_law_ 1715 = .ok (.iconst 1, 1) := by decide +kernel
theorem dL_law__1716 : decode cL_law_ 1716 = .ok (.iadd, 1) := by decide +kernel
theorem dL_law__1717 : decode cL_law_ 1717 = .ok (.iaload, 1) := by decide +kernel
theorem dL_law__1718 : decode cL_law_ 1718 = .ok (.aload_n 0, 1) := by decide +kernel
theorem dL_law__1719 : decode cL_law_ 1719 = .ok (.iload 4, 2) := by decide +kernel
theorem dL_law__1721 : decode cL_law_ 1721 = .ok (.iconst 2, 1) := by decide +kernel
theorem dL_law__1722 : decode cL_law_ 1722 = .ok (.iadd, 1) := by decide +kernel
theorem dL_law__1723 : decode cL_law_ 1723 = .ok (.iaload, 1) := by decide +kernel
theorem dL_law__1724 : decode cL_law_ 1724 = .ok (.aload_n 0, 1) := by decide +kernel
theorem dL_law__1725 : decode cL_law_ 1725 = .ok (.iload 4, 2) := by decide +kernel
theorem dL_law__1727 : decode cL_law_ 1727 = .ok (.iconst 3, 1) := by decide +kernel
theorem dL_law__1728 : decode cL_law_ 1728 = .ok (.iadd, 1) := by decide +kernel
theorem dL_law__1729 : decode cL_law_ 1729 = .ok (.iaload, 1) := by decide +kernel
theorem dL_law__1730 : decode cL_law_ 1730 = .ok (.invokevirtual 200, 3) := by decide +kernel
theorem dL_law__1733 : decode cL_law_ 1733 = .ok (.istore 6, 2) := by decide +kernel
theorem dL_law__1735 : decode cL_law_ 1735 = .ok (.aload_n 2, 1) := by decide +kernel
theorem dL_law__1736 : decode cL_law_ 1736 = .ok (.invokevirtual 117, 3) := by decide +kernel
theorem dL_law__1739 : decode cL_law_ 1739 = .ok (.iload 5, 2) := by decide +kernel
theorem dL_law__1741 : decode cL_law_ 1741 = .ok (.if_icmp .eq 5, 3) := by decide +kernel
theorem dL_law__1744 : decode cL_law_ 1744 = .ok (.iconst 0, 1) := by decide +kernel
theorem dL_law__1745 : decode cL_law_ 1745 = .ok (.ireturn, 1) := by decide +kernel
theorem dL_law__1746 : decode cL_law_ 1746 = .ok (.iload 5, 2) := by decide +kernel
theorem dL_law__1748 : decode cL_law_ 1748 = .ok (.ifCond .ne 15, 3) := by decide +kernel
theorem dL_law__1751 : decode cL_law_ 1751 = .ok (.aload_n 3, 1) := by decide +kernel
theorem dL_law__1752 : decode cL_law_ 1752 = .ok (.iconst 0, 1) := by decide +kernel
theorem dL_law__1753 : decode cL_law_ 1753 = .ok (.laload, 1) := by decide +kernel
theorem dL_law__1754 : decode cL_law_ 1754 = .ok (.iload 6, 2) := by decide +kernel
theorem dL_law__1756 : decode cL_law_ 1756 = .ok (.i2l, 1) := by decide +kernel
theorem dL_law__1757 : decode cL_law_ 1757 = .ok (.lcmp, 1) := by decide +kernel
theorem dL_law__1758 : decode cL_law_ 1758 = .ok (.ifCond .eq 5, 3) := by decide +kernel
theorem dL_law__1761 : decode cL_law_ 1761 = .ok (.iconst 0, 1) := by decide +kernel
theorem dL_law__1762 : decode cL_law_ 1762 = .ok (.ireturn, 1) := by decide +kernel
theorem dL_law__1763 : decode cL_law_ 1763 = .ok (.goto 525, 3) := by decide +kernel
theorem dL_law__1766 : decode cL_law_ 1766 = .ok (.aload_n 1, 1) := by decide +kernel
theorem dL_law__1767 : decode cL_law_ 1767 = .ok (.aload_n 0, 1) := by decide +kernel
theorem dL_law__1768 : decode cL_law_ 1768 = .ok (.iload 4, 2) := by decide +kernel
theorem dL_law__1770 : decode cL_law_ 1770 = .ok (.iconst 1, 1) := by decide +kernel
theorem dL_law__1771 : decode cL_law_ 1771 = .ok (.iadd, 1) := by decide +kernel
theorem dL_law__1772 : decode cL_law_ 1772 = .ok (.iaload, 1) := by decide +kernel
theorem dL_law__1773 : decode cL_law_ 1773 = .ok (.aload_n 3, 1) := by decide +kernel
theorem dL_law__1774 : decode cL_law_ 1774 = .ok (.invokestatic 201, 3) := by decide +kernel
theorem dL_law__1777 : decode cL_law_ 1777 = .ok (.istore 5, 2) := by decide +kernel
theorem dL_law__1779 : decode cL_law_ 1779 = .ok (.aload_n 2, 1) := by decide +kernel
theorem dL_law__1780 : decode cL_law_ 1780 = .ok (.aload_n 0, 1) := by decide +kernel
theorem dL_law__1781 : decode cL_law_ 1781 = .ok (.iload 4, 2) := by decide +kernel
theorem dL_law__1783 : decode cL_law_ 1783 = .ok (.iconst 1, 1) := by decide +kernel
theorem dL_law__1784 : decode cL_law_ 1784 = .ok (.iadd, 1) := by decide +kernel
theorem dL_law__1785 : decode cL_law_ 1785 = .ok (.iaload, 1) := by decide +kernel
theorem dL_law__1786 : decode cL_law_ 1786 = .ok (.invokevirtual 203, 3) := by decide +kernel
theorem dL_law__1789 : decode cL_law_ 1789 = .ok (.istore 6, 2) := by decide +kernel
theorem dL_law__1791 : decode cL_law_ 1791 = .ok (.aload_n 2, 1) := by decide +kernel
theorem dL_law__1792 : decode cL_law_ 1792 = .ok (.invokevirtual 117, 3) := by decide +kernel
theorem dL_law__1795 : decode cL_law_ 1795 = .ok (.iload 5, 2) := by decide +kernel
theorem dL_law__1797 : decode cL_law_ 1797 = .ok (.if_icmp .eq 5, 3) := by decide +kernel
theorem dL_law__1800 : decode cL_law_ 1800 = .ok (.iconst 0, 1) := by decide +kernel
theorem dL_law__1801 : decode cL_law_ 1801 = .ok (.ireturn, 1) := by decide +kernel
theorem dL_law__1802 : decode cL_law_ 1802 = .ok (.iload 5, 2) := by decide +kernel
theorem dL_law__1804 : decode cL_law_ 1804 = .ok (.ifCond .ne 15, 3) := by decide +kernel
theorem dL_law__1807 : decode cL_law_ 1807 = .ok (.aload_n 3, 1) := by decide +kernel
theorem dL_law__1808 : decode cL_law_ 1808 = .ok (.iconst 0, 1) := by decide +kernel
theorem dL_law__1809 : decode cL_law_ 1809 = .ok (.laload, 1) := by decide +kernel
theorem dL_law__1810 : decode cL_law_ 1810 = .ok (.iload 6, 2) := by decide +kernel
theorem dL_law__1812 : decode cL_law_ 1812 = .ok (.i2l, 1) := by decide +kernel
theorem dL_law__1813 : decode cL_law_ 1813 = .ok (.lcmp, 1) := by decide +kernel
theorem dL_law__1814 : decode cL_law_ 1814 = .ok (.ifCond .eq 5, 3) := by decide +kernel
theorem dL_law__1817 : decode cL_law_ 1817 = .ok (.iconst 0, 1) := by decide +kernel
theorem dL_law__1818 : decode cL_law_ 1818 = .ok (.ireturn, 1) := by decide +kernel
theorem dL_law__1819 : decode cL_law_ 1819 = .ok (.goto 469, 3) := by decide +kernel
theorem dL_law__1822 : decode cL_law_ 1822 = .ok (.aload_n 1, 1) := by decide +kernel
theorem dL_law__1823 : decode cL_law_ 1823 = .ok (.aload_n 0, 1) := by decide +kernel
theorem dL_law__1824 : decode cL_law_ 1824 = .ok (.iload 4, 2) := by decide +kernel
theorem dL_law__1826 : decode cL_law_ 1826 = .ok (.iconst 1, 1) := by decide +kernel
theorem dL_law__1827 : decode cL_law_ 1827 = .ok (.iadd, 1) := by decide +kernel
theorem dL_law__1828 : decode cL_law_ 1828 = .ok (.iaload, 1) := by decide +kernel
theorem dL_law__1829 : decode cL_law_ 1829 = .ok (.aload_n 3, 1) := by decide +kernel
theorem dL_law__1830 : decode cL_law_ 1830 = .ok (.invokestatic 204, 3) := by decide +kernel
theorem dL_law__1833 : decode cL_law_ 1833 = .ok (.istore 5, 2) := by decide +kernel
theorem dL_law__1835 : decode cL_law_ 1835 = .ok (.aload_n 2, 1) := by decide +kernel
theorem dL_law__1836 : decode cL_law_ 1836 = .ok (.aload_n 0, 1) := by decide +kernel
theorem dL_law__1837 : decode cL_law_ 1837 = .ok (.iload 4, 2) := by decide +kernel
theorem dL_law__1839 : decode cL_law_ 1839 = .ok (.iconst 1, 1) := by decide +kernel
theorem dL_law__1840 : decode cL_law_ 1840 = .ok (.iadd, 1) := by decide +kernel
theorem dL_law__1841 : decode cL_law_ 1841 = .ok (.iaload, 1) := by decide +kernel
theorem dL_law__1842 : decode cL_law_ 1842 = .ok (.invokevirtual 206, 3) := by decide +kernel
theorem dL_law__1845 : decode cL_law_ 1845 = .ok (.istore 6, 2) := by decide +kernel
theorem dL_law__1847 : decode cL_law_ 1847 = .ok (.aload_n 2, 1) := by decide +kernel
theorem dL_law__1848 : decode cL_law_ 1848 = .ok (.invokevirtual 117, 3) := by decide +kernel
theorem dL_law__1851 : decode cL_law_ 1851 = .ok (.iload 5, 2) := by decide +kernel
theorem dL_law__1853 : decode cL_law_ 1853 = .ok (.if_icmp .eq 5, 3) := by decide +kernel
theorem dL_law__1856 : decode cL_law_ 1856 = .ok (.iconst 0, 1) := by decide +kernel
theorem dL_law__1857 : decode cL_law_ 1857 = .ok (.ireturn, 1) := by decide +kernel
theorem dL_law__1858 : decode cL_law_ 1858 = .ok (.iload 5, 2) := by decide +kernel
theorem dL_law__1860 : decode cL_law_ 1860 = .ok (.ifCond .ne 15, 3) := by decide +kernel
theorem dL_law__1863 : decode cL_law_ 1863 = .ok (.aload_n 3, 1) := by decide +kernel
theorem dL_law__1864 : decode cL_law_ 1864 = .ok (.iconst 0, 1) := by decide +kernel
theorem dL_law__1865 : decode cL_law_ 1865 = .ok (.laload, 1) := by decide +kernel
theorem dL_law__1866 : decode cL_law_ 1866 = .ok (.iload 6, 2) := by decide +kernel
theorem dL_law__1868 : decode cL_law_ 1868 = .ok (.i2l, 1) := by decide +kernel
theorem dL_law__1869 : decode cL_law_ 1869 = .ok (.lcmp, 1) := by decide +kernel
theorem dL_law__1870 : decode cL_law_ 1870 = .ok (.ifCond .eq 5, 3) := by decide +kernel
theorem dL_law__1873 : decode cL_law_ 1873 = .ok (.iconst 0, 1) := by decide +kernel
theorem dL_law__1874 : decode cL_law_ 1874 = .ok (.ireturn, 1) := by decide +kernel
theorem dL_law__1875 : decode cL_law_ 1875 = .ok (.goto 413, 3) := by decide +kernel
theorem dL_law__1878 : decode cL_law_ 1878 = .ok (.aload_n 1, 1) := by decide +kernel
theorem dL_law__1879 : decode cL_law_ 1879 = .ok (.aload_n 0, 1) := by decide +kernel
theorem dL_law__1880 : decode cL_law_ 1880 = .ok (.iload 4, 2) := by decide +kernel
theorem dL_law__1882 : decode cL_law_ 1882 = .ok (.iconst 1, 1) := by decide +kernel
theorem dL_law__1883 : decode cL_law_ 1883 = .ok (.iadd, 1) := by decide +kernel
theorem dL_law__1884 : decode cL_law_ 1884 = .ok (.iaload, 1) := by decide +kernel
theorem dL_law__1885 : decode cL_law_ 1885 = .ok (.aload_n 3, 1) := by decide +kernel
theorem dL_law__1886 : decode cL_law_ 1886 = .ok (.invokestatic 207, 3) := by decide +kernel
theorem dL_law__1889 : decode cL_law_ 1889 = .ok (.istore 5, 2) := by decide +kernel
theorem dL_law__1891 : decode cL_law_ 1891 = .ok (.aload_n 2, 1) := by decide +kernel
theorem dL_law__1892 : decode cL_law_ 1892 = .ok (.aload_n 0, 1) := by decide +kernel
theorem dL_law__1893 : decode cL_law_ 1893 = .ok (.iload 4, 2) := by decide +kernel
theorem dL_law__1895 : decode cL_law_ 1895 = .ok (.iconst 1, 1) := by decide +kernel
theorem dL_law__1896 : decode cL_law_ 1896 = .ok (.iadd, 1) := by decide +kernel
theorem dL_law__1897 : decode cL_law_ 1897 = .ok (.iaload, 1) := by decide +kernel
theorem dL_law__1898 : decode cL_law_ 1898 = .ok (.invokevirtual 209, 3) := by decide +kernel
theorem dL_law__1901 : decode cL_law_ 1901 = .ok (.istore 6, 2) := by decide +kernel
theorem dL_law__1903 : decode cL_law_ 1903 = .ok (.aload_n 2, 1) := by decide +kernel
theorem dL_law__1904 : decode cL_law_ 1904 = .ok (.invokevirtual 117, 3) := by decide +kernel
theorem dL_law__1907 : decode cL_law_ 1907 = .ok (.iload 5, 2) := by decide +kernel
theorem dL_law__1909 : decode cL_law_ 1909 = .ok (.if_icmp .eq 5, 3) := by decide +kernel
theorem dL_law__1912 : decode cL_law_ 1912 = .ok (.iconst 0, 1) := by decide +kernel
theorem dL_law__1913 : decode cL_law_ 1913 = .ok (.ireturn, 1) := by decide +kernel
theorem dL_law__1914 : decode cL_law_ 1914 = .ok (.iload 5, 2) := by decide +kernel
theorem dL_law__1916 : decode cL_law_ 1916 = .ok (.ifCond .ne 15, 3) := by decide +kernel
theorem dL_law__1919 : decode cL_law_ 1919 = .ok (.aload_n 3, 1) := by decide +kernel
theorem dL_law__1920 : decode cL_law_ 1920 = .ok (.iconst 0, 1) := by decide +kernel
theorem dL_law__1921 : decode cL_law_ 1921 = .ok (.laload, 1) := by decide +kernel
theorem dL_law__1922 : decode cL_law_ 1922 = .ok (.iload 6, 2) := by decide +kernel
theorem dL_law__1924 : decode cL_law_ 1924 = .ok (.i2l, 1) := by decide +kernel
theorem dL_law__1925 : decode cL_law_ 1925 = .ok (.lcmp, 1) := by decide +kernel
theorem dL_law__1926 : decode cL_law_ 1926 = .ok (.ifCond .eq 5, 3) := by decide +kernel
theorem dL_law__1929 : decode cL_law_ 1929 = .ok (.iconst 0, 1) := by decide +kernel
theorem dL_law__1930 : decode cL_law_ 1930 = .ok (.ireturn, 1) := by decide +kernel
theorem dL_law__1931 : decode cL_law_ 1931 = .ok (.goto 357, 3) := by decide +kernel
theorem dL_law__1934 : decode cL_law_ 1934 = .ok (.aload_n 1, 1) := by decide +kernel
theorem dL_law__1935 : decode cL_law_ 1935 = .ok (.aload_n 0, 1) := by decide +kernel
theorem dL_law__1936 : decode cL_law_ 1936 = .ok (.iload 4, 2) := by decide +kernel
theorem dL_law__1938 : decode cL_law_ 1938 = .ok (.iconst 1, 1) := by decide +kernel
theorem dL_law__1939 : decode cL_law_ 1939 = .ok (.iadd, 1) := by decide +kernel
theorem dL_law__1940 : decode cL_law_ 1940 = .ok (.iaload, 1) := by decide +kernel
theorem dL_law__1941 : decode cL_law_ 1941 = .ok (.aload_n 0, 1) := by decide +kernel
theorem dL_law__1942 : decode cL_law_ 1942 = .ok (.iload 4, 2) := by decide +kernel
theorem dL_law__1944 : decode cL_law_ 1944 = .ok (.iconst 2, 1) := by decide +kernel
theorem dL_law__1945 : decode cL_law_ 1945 = .ok (.iadd, 1) := by decide +kernel
theorem dL_law__1946 : decode cL_law_ 1946 = .ok (.iaload, 1) := by decide +kernel
theorem dL_law__1947 : decode cL_law_ 1947 = .ok (.aload_n 3, 1) := by decide +kernel
theorem dL_law__1948 : decode cL_law_ 1948 = .ok (.invokestatic 210, 3) := by decide +kernel
theorem dL_law__1951 : decode cL_law_ 1951 = .ok (.istore 5, 2) := by decide +kernel
theorem dL_law__1953 : decode cL_law_ 1953 = .ok (.aload_n 2, 1) := by decide +kernel
theorem dL_law__1954 : decode cL_law_ 1954 = .ok (.aload_n 0, 1) := by decide +kernel
theorem dL_law__1955 : decode cL_law_ 1955 = .ok (.iload 4, 2) := by decide +kernel
theorem dL_law__1957 : decode cL_law_ 1957 = .ok (.iconst 1, 1) := by decide +kernel
theorem dL_law__1958 : decode cL_law_ 1958 = .ok (.iadd, 1) := by decide +kernel
theorem dL_law__1959 : decode cL_law_ 1959 = .ok (.iaload, 1) := by decide +kernel
theorem dL_law__1960 : decode cL_law_ 1960 = .ok (.aload_n 0, 1) := by decide +kernel
theorem dL_law__1961 : decode cL_law_ 1961 = .ok (.iload 4, 2) := by decide +kernel
theorem dL_law__1963 : decode cL_law_ 1963 = .ok (.iconst 2, 1) := by decide +kernel
theorem dL_law__1964 : decode cL_law_ 1964 = .ok (.iadd, 1) := by decide +kernel
theorem dL_law__1965 : decode cL_law_ 1965 = .ok (.iaload, 1) := by decide +kernel
theorem dL_law__1966 : decode cL_law_ 1966 = .ok (.invokevirtual 212, 3) := by decide +kernel
theorem dL_law__1969 : decode cL_law_ 1969 = .ok (.istore 6, 2) := by decide +kernel
theorem dL_law__1971 : decode cL_law_ 1971 = .ok (.aload_n 2, 1) := by decide +kernel
theorem dL_law__1972 : decode cL_law_ 1972 = .ok (.invokevirtual 117, 3) := by decide +kernel
theorem dL_law__1975 : decode cL_law_ 1975 = .ok (.iload 5, 2) := by decide +kernel
theorem dL_law__1977 : decode cL_law_ 1977 = .ok (.if_icmp .eq 5, 3) := by decide +kernel
theorem dL_law__1980 : decode cL_law_ 1980 = .ok (.iconst 0, 1) := by decide +kernel
theorem dL_law__1981 : decode cL_law_ 1981 = .ok (.ireturn, 1) := by decide +kernel
theorem dL_law__1982 : decode cL_law_ 1982 = .ok (.iload 5, 2) := by decide +kernel
theorem dL_law__1984 : decode cL_law_ 1984 = .ok (.ifCond .ne 15, 3) := by decide +kernel
theorem dL_law__1987 : decode cL_law_ 1987 = .ok (.aload_n 3, 1) := by decide +kernel
theorem dL_law__1988 : decode cL_law_ 1988 = .ok (.iconst 0, 1) := by decide +kernel
theorem dL_law__1989 : decode cL_law_ 1989 = .ok (.laload, 1) := by decide +kernel
theorem dL_law__1990 : decode cL_law_ 1990 = .ok (.iload 6, 2) := by decide +kernel
theorem dL_law__1992 : decode cL_law_ 1992 = .ok (.i2l, 1) := by decide +kernel
theorem dL_law__1993 : decode cL_law_ 1993 = .ok (.lcmp, 1) := by decide +kernel
theorem dL_law__1994 : decode cL_law_ 1994 = .ok (.ifCond .eq 5, 3) := by decide +kernel
theorem dL_law__1997 : decode cL_law_ 1997 = .ok (.iconst 0, 1) := by decide +kernel
theorem dL_law__1998 : decode cL_law_ 1998 = .ok (.ireturn, 1) := by decide +kernel
theorem dL_law__1999 : decode cL_law_ 1999 = .ok (.goto 289, 3) := by decide +kernel
theorem dL_law__2002 : decode cL_law_ 2002 = .ok (.aload_n 1, 1) := by decide +kernel
theorem dL_law__2003 : decode cL_law_ 2003 = .ok (.aload_n 0, 1) := by decide +kernel
theorem dL_law__2004 : decode cL_law_ 2004 = .ok (.iload 4, 2) := by decide +kernel
theorem dL_law__2006 : decode cL_law_ 2006 = .ok (.iconst 1, 1) := by decide +kernel
theorem dL_law__2007 : decode cL_law_ 2007 = .ok (.iadd, 1) := by decide +kernel
theorem dL_law__2008 : decode cL_law_ 2008 = .ok (.iaload, 1) := by decide +kernel
theorem dL_law__2009 : decode cL_law_ 2009 = .ok (.aload_n 0, 1) := by decide +kernel
theorem dL_law__2010 : decode cL_law_ 2010 = .ok (.iload 4, 2) := by decide +kernel
theorem dL_law__2012 : decode cL_law_ 2012 = .ok (.iconst 2, 1) := by decide +kernel
theorem dL_law__2013 : decode cL_law_ 2013 = .ok (.iadd, 1) := by decide +kernel
theorem dL_law__2014 : decode cL_law_ 2014 = .ok (.iaload, 1) := by decide +kernel
theorem dL_law__2015 : decode cL_law_ 2015 = .ok (.aload_n 0, 1) := by decide +kernel
theorem dL_law__2016 : decode cL_law_ 2016 = .ok (.iload 4, 2) := by decide +kernel
theorem dL_law__2018 : decode cL_law_ 2018 = .ok (.iconst 3, 1) := by decide +kernel
theorem dL_law__2019 : decode cL_law_ 2019 = .ok (.iadd, 1) := by decide +kernel
theorem dL_law__2020 : decode cL_law_ 2020 = .ok (.iaload, 1) := by decide +kernel
theorem dL_law__2021 : decode cL_law_ 2021 = .ok (.aload_n 0, 1) := by decide +kernel
theorem dL_law__2022 : decode cL_law_ 2022 = .ok (.iload 4, 2) := by decide +kernel
theorem dL_law__2024 : decode cL_law_ 2024 = .ok (.iconst 4, 1) := by decide +kernel
theorem dL_law__2025 : decode cL_law_ 2025 = .ok (.iadd, 1) := by decide +kernel
theorem dL_law__2026 : decode cL_law_ 2026 = .ok (.iaload, 1) := by decide +kernel
theorem dL_law__2027 : decode cL_law_ 2027 = .ok (.aload_n 3, 1) := by decide +kernel
theorem dL_law__2028 : decode cL_law_ 2028 = .ok (.invokestatic 213, 3) := by decide +kernel
theorem dL_law__2031 : decode cL_law_ 2031 = .ok (.istore 5, 2) := by decide +kernel
theorem dL_law__2033 : decode cL_law_ 2033 = .ok (.aload_n 2, 1) := by decide +kernel
theorem dL_law__2034 : decode cL_law_ 2034 = .ok (.aload_n 0, 1) := by decide +kernel
theorem dL_law__2035 : decode cL_law_ 2035 = .ok (.iload 4, 2) := by decide +kernel
theorem dL_law__2037 : decode cL_law_ 2037 = .ok (.iconst 1, 1) := by decide +kernel
theorem dL_law__2038 : decode cL_law_ 2038 = .ok (.iadd, 1) := by decide +kernel
theorem dL_law__2039 : decode cL_law_ 2039 = .ok (.iaload, 1) := by decide +kernel
theorem dL_law__2040 : decode cL_law_ 2040 = .ok (.aload_n 0, 1) := by decide +kernel
theorem dL_law__2041 : decode cL_law_ 2041 = .ok (.iload 4, 2) := by decide +kernel
theorem dL_law__2043 : decode cL_law_ 2043 = .ok (.iconst 2, 1) := by decide +kernel
theorem dL_law__2044 : decode cL_law_ 2044 = .ok (.iadd, 1) := by decide +kernel
theorem dL_law__2045 : decode cL_law_ 2045 = .ok (.iaload, 1) := by decide +kernel
theorem dL_law__2046 : decode cL_law_ 2046 = .ok (.aload_n 0, 1) := by decide +kernel
theorem dL_law__2047 : decode cL_law_ 2047 = .ok (.iload 4, 2) := by decide +kernel
theorem dL_law__2049 : decode cL_law_ 2049 = .ok (.iconst 3, 1) := by decide +kernel
theorem dL_law__2050 : decode cL_law_ 2050 = .ok (.iadd, 1) := by decide +kernel
theorem dL_law__2051 : decode cL_law_ 2051 = .ok (.iaload, 1) := by decide +kernel
theorem dL_law__2052 : decode cL_law_ 2052 = .ok (.aload_n 0, 1) := by decide +kernel
theorem dL_law__2053 : decode cL_law_ 2053 = .ok (.iload 4, 2) := by decide +kernel
theorem dL_law__2055 : decode cL_law_ 2055 = .ok (.iconst 4, 1) := by decide +kernel
theorem dL_law__2056 : decode cL_law_ 2056 = .ok (.iadd, 1) := by decide +kernel
theorem dL_law__2057 : decode cL_law_ 2057 = .ok (.iaload, 1) := by decide +kernel
theorem dL_law__2058 : decode cL_law_ 2058 = .ok (.invokevirtual 215, 3) := by decide +kernel
theorem dL_law__2061 : decode cL_law_ 2061 = .ok (.istore 6, 2) := by decide +kernel
theorem dL_law__2063 : decode cL_law_ 2063 = .ok (.aload_n 2, 1) := by decide +kernel
theorem dL_law__2064 : decode cL_law_ 2064 = .ok (.invokevirtual 117, 3) := by decide +kernel
theorem dL_law__2067 : decode cL_law_ 2067 = .ok (.iload 5, 2) := by decide +kernel
theorem dL_law__2069 : decode cL_law_ 2069 = .ok (.if_icmp .eq 5, 3) := by decide +kernel
theorem dL_law__2072 : decode cL_law_ 2072 = .ok (.iconst 0, 1) := by decide +kernel
theorem dL_law__2073 : decode cL_law_ 2073 = .ok (.ireturn, 1) := by decide +kernel
theorem dL_law__2074 : decode cL_law_ 2074 = .ok (.iload 5, 2) := by decide +kernel
theorem dL_law__2076 : decode cL_law_ 2076 = .ok (.ifCond .ne 15, 3) := by decide +kernel
theorem dL_law__2079 : decode cL_law_ 2079 = .ok (.aload_n 3, 1) := by decide +kernel
theorem dL_law__2080 : decode cL_law_ 2080 = .ok (.iconst 0, 1) := by decide +kernel
theorem dL_law__2081 : decode cL_law_ 2081 = .ok (.laload, 1) := by decide +kernel
theorem dL_law__2082 : decode cL_law_ 2082 = .ok (.iload 6, 2) := by decide +kernel
theorem dL_law__2084 : decode cL_law_ 2084 = .ok (.i2l, 1) := by decide +kernel
theorem dL_law__2085 : decode cL_law_ 2085 = .ok (.lcmp, 1) := by decide +kernel
theorem dL_law__2086 : decode cL_law_ 2086 = .ok (.ifCond .eq 5, 3) := by decide +kernel
theorem dL_law__2089 : decode cL_law_ 2089 = .ok (.iconst 0, 1) := by decide +kernel
theorem dL_law__2090 : decode cL_law_ 2090 = .ok (.ireturn, 1) := by decide +kernel
theorem dL_law__2091 : decode cL_law_ 2091 = .ok (.goto 197, 3) := by decide +kernel
theorem dL_law__2094 : decode cL_law_ 2094 = .ok (.aload_n 1, 1) := by decide +kernel
theorem dL_law__2095 : decode cL_law_ 2095 = .ok (.aload_n 0, 1) := by decide +kernel
theorem dL_law__2096 : decode cL_law_ 2096 = .ok (.iload 4, 2) := by decide +kernel
theorem dL_law__2098 : decode cL_law_ 2098 = .ok (.iconst 1, 1) := by decide +kernel
theorem dL_law__2099 : decode cL_law_ 2099 = .ok (.iadd, 1) := by decide +kernel
theorem dL_law__2100 : decode cL_law_ 2100 = .ok (.iaload, 1) := by decide +kernel
theorem dL_law__2101 : decode cL_law_ 2101 = .ok (.aload_n 0, 1) := by decide +kernel
theorem dL_law__2102 : decode cL_law_ 2102 = .ok (.iload 4, 2) := by decide +kernel
theorem dL_law__2104 : decode cL_law_ 2104 = .ok (.iconst 2, 1) := by decide +kernel
theorem dL_law__2105 : decode cL_law_ 2105 = .ok (.iadd, 1) := by decide +kernel
theorem dL_law__2106 : decode cL_law_ 2106 = .ok (.iaload, 1) := by decide +kernel
theorem dL_law__2107 : decode cL_law_ 2107 = .ok (.aload_n 0, 1) := by decide +kernel
theorem dL_law__2108 : decode cL_law_ 2108 = .ok (.iload 4, 2) := by decide +kernel
theorem dL_law__2110 : decode cL_law_ 2110 = .ok (.iconst 3, 1) := by decide +kernel
theorem dL_law__2111 : decode cL_law_ 2111 = .ok (.iadd, 1) := by decide +kernel
theorem dL_law__2112 : decode cL_law_ 2112 = .ok (.iaload, 1) := by decide +kernel
theorem dL_law__2113 : decode cL_law_ 2113 = .ok (.aload_n 0, 1) := by decide +kernel
theorem dL_law__2114 : decode cL_law_ 2114 = .ok (.iload 4, 2) := by decide +kernel
theorem dL_law__2116 : decode cL_law_ 2116 = .ok (.iconst 4, 1) := by decide +kernel
theorem dL_law__2117 : decode cL_law_ 2117 = .ok (.iadd, 1) := by decide +kernel
theorem dL_law__2118 : decode cL_law_ 2118 = .ok (.iaload, 1) := by decide +kernel
theorem dL_law__2119 : decode cL_law_ 2119 = .ok (.aload_n 0, 1) := by decide +kernel
theorem dL_law__2120 : decode cL_law_ 2120 = .ok (.iload 4, 2) := by decide +kernel
theorem dL_law__2122 : decode cL_law_ 2122 = .ok (.iconst 5, 1) := by decide +kernel
theorem dL_law__2123 : decode cL_law_ 2123 = .ok (.iadd, 1) := by decide +kernel
theorem dL_law__2124 : decode cL_law_ 2124 = .ok (.iaload, 1) := by decide +kernel
theorem dL_law__2125 : decode cL_law_ 2125 = .ok (.aload_n 0, 1) := by decide +kernel
theorem dL_law__2126 : decode cL_law_ 2126 = .ok (.iload 4, 2) := by decide +kernel
theorem dL_law__2128 : decode cL_law_ 2128 = .ok (.bipush 6, 2) := by decide +kernel
theorem dL_law__2130 : decode cL_law_ 2130 = .ok (.iadd, 1) := by decide +kernel
theorem dL_law__2131 : decode cL_law_ 2131 = .ok (.iaload, 1) := by decide +kernel
theorem dL_law__2132 : decode cL_law_ 2132 = .ok (.aload_n 3, 1) := by decide +kernel
theorem dL_law__2133 : decode cL_law_ 2133 = .ok (.invokestatic 216, 3) := by decide +kernel
theorem dL_law__2136 : decode cL_law_ 2136 = .ok (.istore 5, 2) := by decide +kernel
theorem dL_law__2138 : decode cL_law_ 2138 = .ok (.aload_n 2, 1) := by decide +kernel
theorem dL_law__2139 : decode cL_law_ 2139 = .ok (.aload_n 0, 1) := by decide +kernel
theorem dL_law__2140 : decode cL_law_ 2140 = .ok (.iload 4, 2) := by decide +kernel
theorem dL_law__2142 : decode cL_law_ 2142 = .ok (.iconst 1, 1) := by decide +kernel
theorem dL_law__2143 : decode cL_law_ 2143 = .ok (.iadd, 1) := by decide +kernel
theorem dL_law__2144 : decode cL_law_ 2144 = .ok (.iaload, 1) := by decide +kernel
theorem dL_law__2145 : decode cL_law_ 2145 = .ok (.aload_n 0, 1) := by decide +kernel
theorem dL_law__2146 : decode cL_law_ 2146 = .ok (.iload 4, 2) := by decide +kernel
theorem dL_law__2148 : decode cL_law_ 2148 = .ok (.iconst 2, 1) := by decide +kernel
theorem dL_law__2149 : decode cL_law_ 2149 = .ok (.iadd, 1) := by decide +kernel
theorem dL_law__2150 : decode cL_law_ 2150 = .ok (.iaload, 1) := by decide +kernel
theorem dL_law__2151 : decode cL_law_ 2151 = .ok (.aload_n 0, 1) := by decide +kernel
theorem dL_law__2152 : decode cL_law_ 2152 = .ok (.iload 4, 2) := by decide +kernel
theorem dL_law__2154 : decode cL_law_ 2154 = .ok (.iconst 3, 1) := by decide +kernel
theorem dL_law__2155 : decode cL_law_ 2155 = .ok (.iadd, 1) := by decide +kernel
theorem dL_law__2156 : decode cL_law_ 2156 = .ok (.iaload, 1) := by decide +kernel
theorem dL_law__2157 : decode cL_law_ 2157 = .ok (.aload_n 0, 1) := by decide +kernel
theorem dL_law__2158 : decode cL_law_ 2158 = .ok (.iload 4, 2) := by decide +kernel
theorem dL_law__2160 : decode cL_law_ 2160 = .ok (.iconst 4, 1) := by decide +kernel
theorem dL_law__2161 : decode cL_law_ 2161 = .ok (.iadd, 1) := by decide +kernel
theorem dL_law__2162 : decode cL_law_ 2162 = .ok (.iaload, 1) := by decide +kernel
theorem dL_law__2163 : decode cL_law_ 2163 = .ok (.aload_n 0, 1) := by decide +kernel
theorem dL_law__2164 : decode cL_law_ 2164 = .ok (.iload 4, 2) := by decide +kernel
theorem dL_law__2166 : decode cL_law_ 2166 = .ok (.iconst 5, 1) := by decide +kernel
theorem dL_law__2167 : decode cL_law_ 2167 = .ok (.iadd, 1) := by decide +kernel
theorem dL_law__2168 : decode cL_law_ 2168 = .ok (.iaload, 1) := by decide +kernel
theorem dL_law__2169 : decode cL_law_ 2169 = .ok (.aload_n 0, 1) := by decide +kernel
theorem dL_law__2170 : decode cL_law_ 2170 = .ok (.iload 4, 2) := by decide +kernel
theorem dL_law__2172 : decode cL_law_ 2172 = .ok (.bipush 6, 2) := by decide +kernel
theorem dL_law__2174 : decode cL_law_ 2174 = .ok (.iadd, 1) := by decide +kernel
theorem dL_law__2175 : decode cL_law_ 2175 = .ok (.iaload, 1) := by decide +kernel
theorem dL_law__2176 : decode cL_law_ 2176 = .ok (.invokevirtual 219, 3) := by decide +kernel
theorem dL_law__2179 : decode cL_law_ 2179 = .ok (.istore 6, 2) := by decide +kernel
theorem dL_law__2181 : decode cL_law_ 2181 = .ok (.aload_n 2, 1) := by decide +kernel
theorem dL_law__2182 : decode cL_law_ 2182 = .ok (.invokevirtual 117, 3) := by decide +kernel
theorem dL_law__2185 : decode cL_law_ 2185 = .ok (.iload 5, 2) := by decide +kernel
theorem dL_law__2187 : decode cL_law_ 2187 = .ok (.if_icmp .eq 5, 3) := by decide +kernel
theorem dL_law__2190 : decode cL_law_ 2190 = .ok (.iconst 0, 1) := by decide +kernel
theorem dL_law__2191 : decode cL_law_ 2191 = .ok (.ireturn, 1) := by decide +kernel
theorem dL_law__2192 : decode cL_law_ 2192 = .ok (.iload 5, 2) := by decide +kernel
theorem dL_law__2194 : decode cL_law_ 2194 = .ok (.ifCond .ne 15, 3) := by decide +kernel
theorem dL_law__2197 : decode cL_law_ 2197 = .ok (.aload_n 3, 1) := by decide +kernel
theorem dL_law__2198 : decode cL_law_ 2198 = .ok (.iconst 0, 1) := by decide +kernel
theorem dL_law__2199 : decode cL_law_ 2199 = .ok (.laload, 1) := by decide +kernel
theorem dL_law__2200 : decode cL_law_ 2200 = .ok (.iload 6, 2) := by decide +kernel
theorem dL_law__2202 : decode cL_law_ 2202 = .ok (.i2l, 1) := by decide +kernel
theorem dL_law__2203 : decode cL_law_ 2203 = .ok (.lcmp, 1) := by decide +kernel
theorem dL_law__2204 : decode cL_law_ 2204 = .ok (.ifCond .eq 5, 3) := by decide +kernel
theorem dL_law__2207 : decode cL_law_ 2207 = .ok (.iconst 0, 1) := by decide +kernel
theorem dL_law__2208 : decode cL_law_ 2208 = .ok (.ireturn, 1) := by decide +kernel
theorem dL_law__2209 : decode cL_law_ 2209 = .ok (.goto 79, 3) := by decide +kernel
theorem dL_law__2212 : decode cL_law_ 2212 = .ok (.aload_n 1, 1) := by decide +kernel
theorem dL_law__2213 : decode cL_law_ 2213 = .ok (.invokevirtual 220, 3) := by decide +kernel
theorem dL_law__2216 : decode cL_law_ 2216 = .ok (.aload_n 2, 1) := by decide +kernel
theorem dL_law__2217 : decode cL_law_ 2217 = .ok (.invokevirtual 223, 3) := by decide +kernel
theorem dL_law__2220 : decode cL_law_ 2220 = .ok (.if_icmp .eq 68, 3) := by decide +kernel
theorem dL_law__2223 : decode cL_law_ 2223 = .ok (.iconst 0, 1) := by decide +kernel
theorem dL_law__2224 : decode cL_law_ 2224 = .ok (.ireturn, 1) := by decide +kernel
theorem dL_law__2225 : decode cL_law_ 2225 = .ok (.aload_n 1, 1) := by decide +kernel
theorem dL_law__2226 : decode cL_law_ 2226 = .ok (.invokevirtual 224, 3) := by decide +kernel
theorem dL_law__2229 : decode cL_law_ 2229 = .ok (.aload_n 2, 1) := by decide +kernel
theorem dL_law__2230 : decode cL_law_ 2230 = .ok (.invokevirtual 227, 3) := by decide +kernel
theorem dL_law__2233 : decode cL_law_ 2233 = .ok (.if_icmp .eq 55, 3) := by decide +kernel
theorem dL_law__2236 : decode cL_law_ 2236 = .ok (.iconst 0, 1) := by decide +kernel
theorem dL_law__2237 : decode cL_law_ 2237 = .ok (.ireturn, 1) := by decide +kernel
theorem dL_law__2238 : decode cL_law_ 2238 = .ok (.aload_n 1, 1) := by decide +kernel
theorem dL_law__2239 : decode cL_law_ 2239 = .ok (.aload_n 0, 1) := by decide +kernel
theorem dL_law__2240 : decode cL_law_ 2240 = .ok (.iload 4, 2) := by decide +kernel
theorem dL_law__2242 : decode cL_law_ 2242 = .ok (.iconst 1, 1) := by decide +kernel
theorem dL_law__2243 : decode cL_law_ 2243 = .ok (.iadd, 1) := by decide +kernel
theorem dL_law__2244 : decode cL_law_ 2244 = .ok (.iaload, 1) := by decide +kernel
theorem dL_law__2245 : decode cL_law_ 2245 = .ok (.invokevirtual 228, 3) := by decide +kernel
theorem dL_law__2248 : decode cL_law_ 2248 = .ok (.aload_n 2, 1) := by decide +kernel
theorem dL_law__2249 : decode cL_law_ 2249 = .ok (.aload_n 0, 1) := by decide +kernel
theorem dL_law__2250 : decode cL_law_ 2250 = .ok (.iload 4, 2) := by decide +kernel
theorem dL_law__2252 : decode cL_law_ 2252 = .ok (.iconst 1, 1) := by decide +kernel
theorem dL_law__2253 : decode cL_law_ 2253 = .ok (.iadd, 1) := by decide +kernel
theorem dL_law__2254 : decode cL_law_ 2254 = .ok (.iaload, 1) := by decide +kernel
theorem dL_law__2255 : decode cL_law_ 2255 = .ok (.invokevirtual 231, 3) := by decide +kernel
theorem dL_law__2258 : decode cL_law_ 2258 = .ok (.if_icmp .eq 30, 3) := by decide +kernel
theorem dL_law__2261 : decode cL_law_ 2261 = .ok (.iconst 0, 1) := by decide +kernel
theorem dL_law__2262 : decode cL_law_ 2262 = .ok (.ireturn, 1) := by decide +kernel
theorem dL_law__2263 : decode cL_law_ 2263 = .ok (.aload_n 1, 1) := by decide +kernel
theorem dL_law__2264 : decode cL_law_ 2264 = .ok (.aload_n 0, 1) := by decide +kernel
theorem dL_law__2265 : decode cL_law_ 2265 = .ok (.iload 4, 2) := by decide +kernel
theorem dL_law__2267 : decode cL_law_ 2267 = .ok (.iconst 1, 1) := by decide +kernel
theorem dL_law__2268 : decode cL_law_ 2268 = .ok (.iadd, 1) := by decide +kernel
theorem dL_law__2269 : decode cL_law_ 2269 = .ok (.iaload, 1) := by decide +kernel
theorem dL_law__2270 : decode cL_law_ 2270 = .ok (.invokevirtual 232, 3) := by decide +kernel
theorem dL_law__2273 : decode cL_law_ 2273 = .ok (.aload_n 2, 1) := by decide +kernel
theorem dL_law__2274 : decode cL_law_ 2274 = .ok (.aload_n 0, 1) := by decide +kernel
theorem dL_law__2275 : decode cL_law_ 2275 = .ok (.iload 4, 2) := by decide +kernel
theorem dL_law__2277 : decode cL_law_ 2277 = .ok (.iconst 1, 1) := by decide +kernel
theorem dL_law__2278 : decode cL_law_ 2278 = .ok (.iadd, 1) := by decide +kernel
theorem dL_law__2279 : decode cL_law_ 2279 = .ok (.iaload, 1) := by decide +kernel
theorem dL_law__2280 : decode cL_law_ 2280 = .ok (.invokevirtual 235, 3) := by decide +kernel
theorem dL_law__2283 : decode cL_law_ 2283 = .ok (.if_icmp .eq 5, 3) := by decide +kernel
theorem dL_law__2286 : decode cL_law_ 2286 = .ok (.iconst 0, 1) := by decide +kernel
theorem dL_law__2287 : decode cL_law_ 2287 = .ok (.ireturn, 1) := by decide +kernel
theorem dL_law__2288 : decode cL_law_ 2288 = .ok (.iinc 4 8, 3) := by decide +kernel
theorem dL_law__2291 : decode cL_law_ 2291 = .ok (.goto (-2268), 3) := by decide +kernel
theorem dL_law__2294 : decode cL_law_ 2294 = .ok (.iconst 1, 1) := by decide +kernel
theorem dL_law__2295 : decode cL_law_ 2295 = .ok (.ireturn, 1) := by decide +kernel
