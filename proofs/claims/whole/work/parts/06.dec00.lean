theorem dX0_init_0 : decode cX0_init 0 = .ok (.aload_n 0, 1) := by decide +kernel
theorem dX0_init_1 : decode cX0_init 1 = .ok (.invokespecial 5, 3) := by decide +kernel
theorem dX0_init_4 : decode cX0_init 4 = .ok (.aload_n 0, 1) := by decide +kernel
theorem dX0_init_5 : decode cX0_init 5 = .ok (.bipush 6, 2) := by decide +kernel
theorem dX0_init_7 : decode cX0_init 7 = .ok (.newarray .int, 2) := by decide +kernel
theorem dX0_init_9 : decode cX0_init 9 = .ok (.putfield 11, 3) := by decide +kernel
theorem dX0_init_12 : decode cX0_init 12 = .ok (.aload_n 0, 1) := by decide +kernel
theorem dX0_init_13 : decode cX0_init 13 = .ok (.bipush 6, 2) := by decide +kernel
theorem dX0_init_15 : decode cX0_init 15 = .ok (.newarray .int, 2) := by decide +kernel
theorem dX0_init_17 : decode cX0_init 17 = .ok (.putfield 15, 3) := by decide +kernel
theorem dX0_init_20 : decode cX0_init 20 = .ok (.aload_n 0, 1) := by decide +kernel
theorem dX0_init_21 : decode cX0_init 21 = .ok (.bipush 6, 2) := by decide +kernel
theorem dX0_init_23 : decode cX0_init 23 = .ok (.newarray .int, 2) := by decide +kernel
theorem dX0_init_25 : decode cX0_init 25 = .ok (.putfield 18, 3) := by decide +kernel
theorem dX0_init_28 : decode cX0_init 28 = .ok (.aload_n 0, 1) := by decide +kernel
theorem dX0_init_29 : decode cX0_init 29 = .ok (.sipush 190, 3) := by decide +kernel
theorem dX0_init_32 : decode cX0_init 32 = .ok (.newarray .boolean, 2) := by decide +kernel
theorem dX0_init_34 : decode cX0_init 34 = .ok (.putfield 21, 3) := by decide +kernel
theorem dX0_init_37 : decode cX0_init 37 = .ok (.aload_n 0, 1) := by decide +kernel
theorem dX0_init_38 : decode cX0_init 38 = .ok (.iconst 3, 1) := by decide +kernel
theorem dX0_init_39 : decode cX0_init 39 = .ok (.newarray .int, 2) := by decide +kernel
theorem dX0_init_41 : decode cX0_init 41 = .ok (.putfield 25, 3) := by decide +kernel
theorem dX0_init_44 : decode cX0_init 44 = .ok (.return_, 1) := by decide +kernel
theorem dX0_readFrom_0 : decode cX0_readFrom 0 = .ok (.aload_n 0, 1) := by decide +kernel
theorem dX0_readFrom_1 : decode cX0_readFrom 1 = .ok (.iconst 0, 1) := by decide +kernel
theorem dX0_readFrom_2 : decode cX0_readFrom 2 = .ok (.putfield 28, 3) := by decide +kernel
theorem dX0_readFrom_5 : decode cX0_readFrom 5 = .ok (.iconst 0, 1) := by decide +kernel
theorem dX0_readFrom_6 : decode cX0_readFrom 6 = .ok (.istore_n 3, 1) := by decide +kernel
theorem dX0_readFrom_7 : decode cX0_readFrom 7 = .ok (.iload_n 3, 1) := by decide +kernel
theorem dX0_readFrom_8 : decode cX0_readFrom 8 = .ok (.bipush 6, 2) := by decide +kernel
theorem dX0_readFrom_10 : decode cX0_readFrom 10 = .ok (.if_icmp .gt 36, 3) := by decide +kernel
theorem dX0_readFrom_13 : decode cX0_readFrom 13 = .ok (.aload_n 1, 1) := by decide +kernel
theorem dX0_readFrom_14 : decode cX0_readFrom 14 = .ok (.invokevirtual 32, 3) := by decide +kernel
theorem dX0_readFrom_17 : decode cX0_readFrom 17 = .ok (.ifCond .eq 29, 3) := by decide +kernel
theorem dX0_readFrom_20 : decode cX0_readFrom 20 = .ok (.aload_n 0, 1) := by decide +kernel
theorem dX0_readFrom_21 : decode cX0_readFrom 21 = .ok (.aload_n 1, 1) := by decide +kernel
theorem dX0_readFrom_22 : decode cX0_readFrom 22 = .ok (.iload_n 2, 1) := by decide +kernel
theorem dX0_readFrom_23 : decode cX0_readFrom 23 = .ok (.invokevirtual 38, 3) := by decide +kernel
theorem dX0_readFrom_26 : decode cX0_readFrom 26 = .ok (.ifCond .eq 12, 3) := by decide +kernel
theorem dX0_readFrom_29 : decode cX0_readFrom 29 = .ok (.aload_n 1, 1) := by decide +kernel
theorem dX0_readFrom_30 : decode cX0_readFrom 30 = .ok (.bipush 59, 2) := by decide +kernel
theorem dX0_readFrom_32 : decode cX0_readFrom 32 = .ok (.invokevirtual 42, 3) := by decide +kernel
theorem dX0_readFrom_35 : decode cX0_readFrom 35 = .ok (.ifCond .ne 5, 3) := by decide +kernel
theorem dX0_readFrom_38 : decode cX0_readFrom 38 = .ok (.iconst 0, 1) := by decide +kernel
theorem dX0_readFrom_39 : decode cX0_readFrom 39 = .ok (.ireturn, 1) := by decide +kernel
theorem dX0_readFrom_40 : decode cX0_readFrom 40 = .ok (.iinc 3 1, 3) := by decide +kernel
theorem dX0_readFrom_43 : decode cX0_readFrom 43 = .ok (.goto (-36), 3) := by decide +kernel
theorem dX0_readFrom_46 : decode cX0_readFrom 46 = .ok (.iconst 1, 1) := by decide +kernel
theorem dX0_readFrom_47 : decode cX0_readFrom 47 = .ok (.ireturn, 1) := by decide +kernel
theorem dX0_readLine_0 : decode cX0_readLine 0 = .ok (.aload_n 1, 1) := by decide +kernel
theorem dX0_readLine_1 : decode cX0_readLine 1 = .ok (.iconst 0, 1) := by decide +kernel
theorem dX0_readLine_2 : decode cX0_readLine 2 = .ok (.iload_n 2, 1) := by decide +kernel
theorem dX0_readLine_3 : decode cX0_readLine 3 = .ok (.iconst 1, 1) := by decide +kernel
theorem dX0_readLine_4 : decode cX0_readLine 4 = .ok (.isub, 1) := by decide +kernel
theorem dX0_readLine_5 : decode cX0_readLine 5 = .ok (.invokevirtual 46, 3) := by decide +kernel
theorem dX0_readLine_8 : decode cX0_readLine 8 = .ok (.ifCond .ne 5, 3) := by decide +kernel
theorem dX0_readLine_11 : decode cX0_readLine 11 = .ok (.iconst 0, 1) := by decide +kernel
theorem dX0_readLine_12 : decode cX0_readLine 12 = .ok (.ireturn, 1) := by decide +kernel
theorem dX0_readLine_13 : decode cX0_readLine 13 = .ok (.aload_n 0, 1) := by decide +kernel
theorem dX0_readLine_14 : decode cX0_readLine 14 = .ok (.getfield 28, 3) := by decide +kernel
theorem dX0_readLine_17 : decode cX0_readLine 17 = .ok (.bipush 6, 2) := by decide +kernel
theorem dX0_readLine_19 : decode cX0_readLine 19 = .ok (.if_icmp .lt 13, 3) := by decide +kernel
theorem dX0_readLine_22 : decode cX0_readLine 22 = .ok (.aload_n 1, 1) := by decide +kernel
theorem dX0_readLine_23 : decode cX0_readLine 23 = .ok (.iconst 3, 1) := by decide +kernel
theorem dX0_readLine_24 : decode cX0_readLine 24 = .ok (.aload_n 1, 1) := by decide +kernel
theorem dX0_readLine_25 : decode cX0_readLine 25 = .ok (.getfield 50, 3) := by decide +kernel
theorem dX0_readLine_28 : decode cX0_readLine 28 = .ok (.invokevirtual 53, 3) := by decide +kernel
theorem dX0_readLine_31 : decode cX0_readLine 31 = .ok (.ireturn, 1) := by decide +kernel
theorem dX0_readLine_32 : decode cX0_readLine 32 = .ok (.aload_n 0, 1) := by decide +kernel
theorem dX0_readLine_33 : decode cX0_readLine 33 = .ok (.getfield 11, 3) := by decide +kernel
theorem dX0_readLine_36 : decode cX0_readLine 36 = .ok (.aload_n 0, 1) := by decide +kernel
theorem dX0_readLine_37 : decode cX0_readLine 37 = .ok (.getfield 28, 3) := by decide +kernel
theorem dX0_readLine_40 : decode cX0_readLine 40 = .ok (.aload_n 1, 1) := by decide +kernel
theorem dX0_readLine_41 : decode cX0_readLine 41 = .ok (.getfield 56, 3) := by decide +kernel
theorem dX0_readLine_44 : decode cX0_readLine 44 = .ok (.iastore, 1) := by decide +kernel
theorem dX0_readLine_45 : decode cX0_readLine 45 = .ok (.aload_n 1, 1) := by decide +kernel
theorem dX0_readLine_46 : decode cX0_readLine 46 = .ok (.iload_n 2, 1) := by decide +kernel
theorem dX0_readLine_47 : decode cX0_readLine 47 = .ok (.aload_n 0, 1) := by decide +kernel
theorem dX0_readLine_48 : decode cX0_readLine 48 = .ok (.getfield 11, 3) := by decide +kernel
theorem dX0_readLine_51 : decode cX0_readLine 51 = .ok (.aload_n 0, 1) := by decide +kernel
theorem dX0_readLine_52 : decode cX0_readLine 52 = .ok (.getfield 28, 3) := by decide +kernel
theorem dX0_readLine_55 : decode cX0_readLine 55 = .ok (.iaload, 1) := by decide +kernel
theorem dX0_readLine_56 : decode cX0_readLine 56 = .ok (.invokevirtual 59, 3) := by decide +kernel
theorem dX0_readLine_59 : decode cX0_readLine 59 = .ok (.ifCond .ne 5, 3) := by decide +kernel
theorem dX0_readLine_62 : decode cX0_readLine 62 = .ok (.iconst 0, 1) := by decide +kernel
theorem dX0_readLine_63 : decode cX0_readLine 63 = .ok (.ireturn, 1) := by decide +kernel
theorem dX0_readLine_64 : decode cX0_readLine 64 = .ok (.aload_n 0, 1) := by decide +kernel
theorem dX0_readLine_65 : decode cX0_readLine 65 = .ok (.getfield 15, 3) := by decide +kernel
theorem dX0_readLine_68 : decode cX0_readLine 68 = .ok (.aload_n 0, 1) := by decide +kernel
theorem dX0_readLine_69 : decode cX0_readLine 69 = .ok (.getfield 28, 3) := by decide +kernel
theorem dX0_readLine_72 : decode cX0_readLine 72 = .ok (.aload_n 1, 1) := by decide +kernel
theorem dX0_readLine_73 : decode cX0_readLine 73 = .ok (.getfield 56, 3) := by decide +kernel
theorem dX0_readLine_76 : decode cX0_readLine 76 = .ok (.iastore, 1) := by decide +kernel
theorem dX0_readLine_77 : decode cX0_readLine 77 = .ok (.aload_n 1, 1) := by decide +kernel
theorem dX0_readLine_78 : decode cX0_readLine 78 = .ok (.iconst 0, 1) := by decide +kernel
theorem dX0_readLine_79 : decode cX0_readLine 79 = .ok (.iconst 2, 1) := by decide +kernel
theorem dX0_readLine_80 : decode cX0_readLine 80 = .ok (.invokevirtual 46, 3) := by decide +kernel
theorem dX0_readLine_83 : decode cX0_readLine 83 = .ok (.ifCond .ne 5, 3) := by decide +kernel
theorem dX0_readLine_86 : decode cX0_readLine 86 = .ok (.iconst 0, 1) := by decide +kernel
theorem dX0_readLine_87 : decode cX0_readLine 87 = .ok (.ireturn, 1) := by decide +kernel
theorem dX0_readLine_88 : decode cX0_readLine 88 = .ok (.aload_n 0, 1) := by decide +kernel
theorem dX0_readLine_89 : decode cX0_readLine 89 = .ok (.getfield 18, 3) := by decide +kernel
theorem dX0_readLine_92 : decode cX0_readLine 92 = .ok (.aload_n 0, 1) := by decide +kernel
theorem dX0_readLine_93 : decode cX0_readLine 93 = .ok (.getfield 28, 3) := by decide +kernel
theorem dX0_readLine_96 : decode cX0_readLine 96 = .ok (.aload_n 1, 1) := by decide +kernel
theorem dX0_readLine_97 : decode cX0_readLine 97 = .ok (.getfield 56, 3) := by decide +kernel
theorem dX0_readLine_100 : decode cX0_readLine 100 = .ok (.iastore, 1) := by decide +kernel
theorem dX0_readLine_101 : decode cX0_readLine 101 = .ok (.aload_n 0, 1) := by decide +kernel
theorem dX0_readLine_102 : decode cX0_readLine 102 = .ok (.dup, 1) := by decide +kernel
theorem dX0_readLine_103 : decode cX0_readLine 103 = .ok (.getfield 28, 3) := by decide +kernel
theorem dX0_readLine_106 : decode cX0_readLine 106 = .ok (.iconst 1, 1) := by decide +kernel
theorem dX0_readLine_107 : decode cX0_readLine 107 = .ok (.iadd, 1) := by decide +kernel
theorem dX0_readLine_108 : decode cX0_readLine 108 = .ok (.putfield 28, 3) := by decide +kernel
theorem dX0_readLine_111 : decode cX0_readLine 111 = .ok (.iconst 1, 1) := by decide +kernel
theorem dX0_readLine_112 : decode cX0_readLine 112 = .ok (.ireturn, 1) := by decide +kernel
theorem dX0_seekPairs_0 : decode cX0_seekPairs 0 = .ok (.aload_n 0, 1) := by decide +kernel
theorem dX0_seekPairs_1 : decode cX0_seekPairs 1 = .ok (.iconst 0, 1) := by decide +kernel
theorem dX0_seekPairs_2 : decode cX0_seekPairs 2 = .ok (.putfield 62, 3) := by decide +kernel
theorem dX0_seekPairs_5 : decode cX0_seekPairs 5 = .ok (.iconst 0, 1) := by decide +kernel
theorem dX0_seekPairs_6 : decode cX0_seekPairs 6 = .ok (.istore_n 2, 1) := by decide +kernel
theorem dX0_seekPairs_7 : decode cX0_seekPairs 7 = .ok (.iload_n 2, 1) := by decide +kernel
theorem dX0_seekPairs_8 : decode cX0_seekPairs 8 = .ok (.sipush 190, 3) := by decide +kernel
theorem dX0_seekPairs_11 : decode cX0_seekPairs 11 = .ok (.if_icmp .ge 44, 3) := by decide +kernel
theorem dX0_seekPairs_14 : decode cX0_seekPairs 14 = .ok (.aload_n 0, 1) := by decide +kernel
theorem dX0_seekPairs_15 : decode cX0_seekPairs 15 = .ok (.getfield 21, 3) := by decide +kernel
theorem dX0_seekPairs_18 : decode cX0_seekPairs 18 = .ok (.iload_n 2, 1) := by decide +kernel
theorem dX0_seekPairs_19 : decode cX0_seekPairs 19 = .ok (.aload_n 0, 1) := by decide +kernel
theorem dX0_seekPairs_20 : decode cX0_seekPairs 20 = .ok (.aload_n 1, 1) := by decide +kernel
theorem dX0_seekPairs_21 : decode cX0_seekPairs 21 = .ok (.iload_n 2, 1) := by decide +kernel
theorem dX0_seekPairs_22 : decode cX0_seekPairs 22 = .ok (.invokevirtual 65, 3) := by decide +kernel
theorem dX0_seekPairs_25 : decode cX0_seekPairs 25 = .ok (.bastore, 1) := by decide +kernel
theorem dX0_seekPairs_26 : decode cX0_seekPairs 26 = .ok (.aload_n 0, 1) := by decide +kernel
theorem dX0_seekPairs_27 : decode cX0_seekPairs 27 = .ok (.dup, 1) := by decide +kernel
theorem dX0_seekPairs_28 : decode cX0_seekPairs 28 = .ok (.getfield 62, 3) := by decide +kernel
theorem dX0_seekPairs_31 : decode cX0_seekPairs 31 = .ok (.aload_n 0, 1) := by decide +kernel
theorem dX0_seekPairs_32 : decode cX0_seekPairs 32 = .ok (.getfield 21, 3) := by decide +kernel
theorem dX0_seekPairs_35 : decode cX0_seekPairs 35 = .ok (.iload_n 2, 1) := by decide +kernel
theorem dX0_seekPairs_36 : decode cX0_seekPairs 36 = .ok (.baload, 1) := by decide +kernel
theorem dX0_seekPairs_37 : decode cX0_seekPairs 37 = .ok (.ifCond .eq 7, 3) := by decide +kernel
theorem dX0_seekPairs_40 : decode cX0_seekPairs 40 = .ok (.iconst 1, 1) := by decide +kernel
theorem dX0_seekPairs_41 : decode cX0_seekPairs 41 = .ok (.goto 4, 3) := by decide +kernel
theorem dX0_seekPairs_44 : decode cX0_seekPairs 44 = .ok (.iconst 0, 1) := by decide +kernel
theorem dX0_seekPairs_45 : decode cX0_seekPairs 45 = .ok (.iadd, 1) := by decide +kernel
theorem dX0_seekPairs_46 : decode cX0_seekPairs 46 = .ok (.putfield 62, 3) := by decide +kernel
theorem dX0_seekPairs_49 : decode cX0_seekPairs 49 = .ok (.iinc 2 1, 3) := by decide +kernel
theorem dX0_seekPairs_52 : decode cX0_seekPairs 52 = .ok (.goto (-45), 3) := by decide +kernel
theorem dX0_seekPairs_55 : decode cX0_seekPairs 55 = .ok (.return_, 1) := by decide +kernel
theorem dX0_isFitting_0 : decode cX0_isFitting 0 = .ok (.iconst 0, 1) := by decide +kernel
theorem dX0_isFitting_1 : decode cX0_isFitting 1 = .ok (.istore_n 3, 1) := by decide +kernel
theorem dX0_isFitting_2 : decode cX0_isFitting 2 = .ok (.iload_n 3, 1) := by decide +kernel
theorem dX0_isFitting_3 : decode cX0_isFitting 3 = .ok (.aload_n 0, 1) := by decide +kernel
theorem dX0_isFitting_4 : decode cX0_isFitting 4 = .ok (.getfield 28, 3) := by decide +kernel
theorem dX0_isFitting_7 : decode cX0_isFitting 7 = .ok (.if_icmp .ge 43, 3) := by decide +kernel
theorem dX0_isFitting_10 : decode cX0_isFitting 10 = .ok (.iload_n 3, 1) := by decide +kernel
theorem dX0_isFitting_11 : decode cX0_isFitting 11 = .ok (.bipush 6, 2) := by decide +kernel
theorem dX0_isFitting_13 : decode cX0_isFitting 13 = .ok (.if_icmp .ge 37, 3) := by decide +kernel
theorem dX0_isFitting_16 : decode cX0_isFitting 16 = .ok (.aload_n 1, 1) := by decide +kernel
theorem dX0_isFitting_17 : decode cX0_isFitting 17 = .ok (.aload_n 0, 1) := by decide +kernel
theorem dX0_isFitting_18 : decode cX0_isFitting 18 = .ok (.getfield 11, 3) := by decide +kernel
theorem dX0_isFitting_21 : decode cX0_isFitting 21 = .ok (.iload_n 3, 1) := by decide +kernel
theorem dX0_isFitting_22 : decode cX0_isFitting 22 = .ok (.iaload, 1) := by decide +kernel
theorem dX0_isFitting_23 : decode cX0_isFitting 23 = .ok (.aload_n 0, 1) := by decide +kernel
theorem dX0_isFitting_24 : decode cX0_isFitting 24 = .ok (.getfield 15, 3) := by decide +kernel
theorem dX0_isFitting_27 : decode cX0_isFitting 27 = .ok (.iload_n 3, 1) := by decide +kernel
theorem dX0_isFitting_28 : decode cX0_isFitting 28 = .ok (.iaload, 1) := by decide +kernel
theorem dX0_isFitting_29 : decode cX0_isFitting 29 = .ok (.iload_n 2, 1) := by decide +kernel
theorem dX0_isFitting_30 : decode cX0_isFitting 30 = .ok (.invokestatic 69, 3) := by decide +kernel
theorem dX0_isFitting_33 : decode cX0_isFitting 33 = .ok (.aload_n 0, 1) := by decide +kernel
theorem dX0_isFitting_34 : decode cX0_isFitting 34 = .ok (.getfield 18, 3) := by decide +kernel
theorem dX0_isFitting_37 : decode cX0_isFitting 37 = .ok (.iload_n 3, 1) := by decide +kernel
theorem dX0_isFitting_38 : decode cX0_isFitting 38 = .ok (.iaload, 1) := by decide +kernel
theorem dX0_isFitting_39 : decode cX0_isFitting 39 = .ok (.if_icmp .eq 5, 3) := by decide +kernel
theorem dX0_isFitting_42 : decode cX0_isFitting 42 = .ok (.iconst 0, 1) := by decide +kernel
theorem dX0_isFitting_43 : decode cX0_isFitting 43 = .ok (.ireturn, 1) := by decide +kernel
theorem dX0_isFitting_44 : decode cX0_isFitting 44 = .ok (.iinc 3 1, 3) := by decide +kernel
theorem dX0_isFitting_47 : decode cX0_isFitting 47 = .ok (.goto (-45), 3) := by decide +kernel
theorem dX0_isFitting_50 : decode cX0_isFitting 50 = .ok (.iconst 1, 1) := by decide +kernel
theorem dX0_isFitting_51 : decode cX0_isFitting 51 = .ok (.ireturn, 1) := by decide +kernel
theorem dX0_standingBy_0 : decode cX0_standingBy 0 = .ok (.aload_n 0, 1) := by decide +kernel
theorem dX0_standingBy_1 : decode cX0_standingBy 1 = .ok (.iload_n 1, 1) := by decide +kernel
theorem dX0_standingBy_2 : decode cX0_standingBy 2 = .ok (.invokevirtual 73, 3) := by decide +kernel
theorem dX0_standingBy_5 : decode cX0_standingBy 5 = .ok (.aload_n 0, 1) := by decide +kernel
theorem dX0_standingBy_6 : decode cX0_standingBy 6 = .ok (.iload_n 2, 1) := by decide +kernel
theorem dX0_standingBy_7 : decode cX0_standingBy 7 = .ok (.invokevirtual 73, 3) := by decide +kernel
theorem dX0_standingBy_10 : decode cX0_standingBy 10 = .ok (.iload_n 3, 1) := by decide +kernel
theorem dX0_standingBy_11 : decode cX0_standingBy 11 = .ok (.bipush 10, 2) := by decide +kernel
theorem dX0_standingBy_13 : decode cX0_standingBy 13 = .ok (.idiv, 1) := by decide +kernel
theorem dX0_standingBy_14 : decode cX0_standingBy 14 = .ok (.iload_n 3, 1) := by decide +kernel
theorem dX0_standingBy_15 : decode cX0_standingBy 15 = .ok (.bipush 10, 2) := by decide +kernel
theorem dX0_standingBy_17 : decode cX0_standingBy 17 = .ok (.irem, 1) := by decide +kernel
theorem dX0_standingBy_18 : decode cX0_standingBy 18 = .ok (.invokestatic 79, 3) := by decide +kernel
theorem dX0_standingBy_21 : decode cX0_standingBy 21 = .ok (.ireturn, 1) := by decide +kernel
theorem dX0_firstPair_0 : decode cX0_firstPair 0 = .ok (.iconst 0, 1) := by decide +kernel
theorem dX0_firstPair_1 : decode cX0_firstPair 1 = .ok (.istore_n 1, 1) := by decide +kernel
theorem dX0_firstPair_2 : decode cX0_firstPair 2 = .ok (.iload_n 1, 1) := by decide +kernel
theorem dX0_firstPair_3 : decode cX0_firstPair 3 = .ok (.sipush 190, 3) := by decide +kernel
theorem dX0_firstPair_6 : decode cX0_firstPair 6 = .ok (.if_icmp .ge 20, 3) := by decide +kernel
theorem dX0_firstPair_9 : decode cX0_firstPair 9 = .ok (.aload_n 0, 1) := by decide +kernel
theorem dX0_firstPair_10 : decode cX0_firstPair 10 = .ok (.getfield 21, 3) := by decide +kernel
theorem dX0_firstPair_13 : decode cX0_firstPair 13 = .ok (.iload_n 1, 1) := by decide +kernel
theorem dX0_firstPair_14 : decode cX0_firstPair 14 = .ok (.baload, 1) := by decide +kernel
theorem dX0_firstPair_15 : decode cX0_firstPair 15 = .ok (.ifCond .eq 5, 3) := by decide +kernel
theorem dX0_firstPair_18 : decode cX0_firstPair 18 = .ok (.iload_n 1, 1) := by decide +kernel
theorem dX0_firstPair_19 : decode cX0_firstPair 19 = .ok (.ireturn, 1) := by decide +kernel
theorem dX0_firstPair_20 : decode cX0_firstPair 20 = .ok (.iinc 1 1, 3) := by decide +kernel
theorem dX0_firstPair_23 : decode cX0_firstPair 23 = .ok (.goto (-21), 3) := by decide +kernel
theorem dX0_firstPair_26 : decode cX0_firstPair 26 = .ok (.iconst (-1), 1) := by decide +kernel
theorem dX0_firstPair_27 : decode cX0_firstPair 27 = .ok (.ireturn, 1) := by decide +kernel
theorem dX0_seekNext_0 : decode cX0_seekNext 0 = .ok (.aload_n 0, 1) := by decide +kernel
theorem dX0_seekNext_1 : decode cX0_seekNext 1 = .ok (.aload_n 1, 1) := by decide +kernel
theorem dX0_seekNext_2 : decode cX0_seekNext 2 = .ok (.invokevirtual 83, 3) := by decide +kernel
theorem dX0_seekNext_5 : decode cX0_seekNext 5 = .ok (.aload_n 0, 1) := by decide +kernel
theorem dX0_seekNext_6 : decode cX0_seekNext 6 = .ok (.iconst (-1), 1) := by decide +kernel
theorem dX0_seekNext_7 : decode cX0_seekNext 7 = .ok (.putfield 87, 3) := by decide +kernel
theorem dX0_seekNext_10 : decode cX0_seekNext 10 = .ok (.aload_n 0, 1) := by decide +kernel
theorem dX0_seekNext_11 : decode cX0_seekNext 11 = .ok (.iconst (-1), 1) := by decide +kernel
theorem dX0_seekNext_12 : decode cX0_seekNext 12 = .ok (.putfield 90, 3) := by decide +kernel
theorem dX0_seekNext_15 : decode cX0_seekNext 15 = .ok (.iconst 0, 1) := by decide +kernel
theorem dX0_seekNext_16 : decode cX0_seekNext 16 = .ok (.istore_n 2, 1) := by decide +kernel
theorem dX0_seekNext_17 : decode cX0_seekNext 17 = .ok (.iload_n 2, 1) := by decide +kernel
theorem dX0_seekNext_18 : decode cX0_seekNext 18 = .ok (.aload_n 1, 1) := by decide +kernel
theorem dX0_seekNext_19 : decode cX0_seekNext 19 = .ok (.getfield 93, 3) := by decide +kernel
theorem dX0_seekNext_22 : decode cX0_seekNext 22 = .ok (.if_icmp .ge 69, 3) := by decide +kernel
theorem dX0_seekNext_25 : decode cX0_seekNext 25 = .ok (.iload_n 2, 1) := by decide +kernel
theorem dX0_seekNext_26 : decode cX0_seekNext 26 = .ok (.iconst 1, 1) := by decide +kernel
theorem dX0_seekNext_27 : decode cX0_seekNext 27 = .ok (.iadd, 1) := by decide +kernel
theorem dX0_seekNext_28 : decode cX0_seekNext 28 = .ok (.istore_n 3, 1) := by decide +kernel
theorem dX0_seekNext_29 : decode cX0_seekNext 29 = .ok (.iload_n 3, 1) := by decide +kernel
theorem dX0_seekNext_30 : decode cX0_seekNext 30 = .ok (.aload_n 1, 1) := by decide +kernel
theorem dX0_seekNext_31 : decode cX0_seekNext 31 = .ok (.getfield 93, 3) := by decide +kernel
theorem dX0_seekNext_34 : decode cX0_seekNext 34 = .ok (.if_icmp .ge 51, 3) := by decide +kernel
theorem dX0_seekNext_37 : decode cX0_seekNext 37 = .ok (.aload_n 0, 1) := by decide +kernel
theorem dX0_seekNext_38 : decode cX0_seekNext 38 = .ok (.aload_n 1, 1) := by decide +kernel
theorem dX0_seekNext_39 : decode cX0_seekNext 39 = .ok (.iload_n 2, 1) := by decide +kernel
theorem dX0_seekNext_40 : decode cX0_seekNext 40 = .ok (.iload_n 3, 1) := by decide +kernel
theorem dX0_seekNext_41 : decode cX0_seekNext 41 = .ok (.invokevirtual 96, 3) := by decide +kernel
theorem dX0_seekNext_44 : decode cX0_seekNext 44 = .ok (.istore 4, 2) := by decide +kernel
theorem dX0_seekNext_46 : decode cX0_seekNext 46 = .ok (.aload_n 0, 1) := by decide +kernel
theorem dX0_seekNext_47 : decode cX0_seekNext 47 = .ok (.getfield 87, 3) := by decide +kernel
theorem dX0_seekNext_50 : decode cX0_seekNext 50 = .ok (.iconst (-1), 1) := by decide +kernel
theorem dX0_seekNext_51 : decode cX0_seekNext 51 = .ok (.if_icmp .eq 12, 3) := by decide +kernel
theorem dX0_seekNext_54 : decode cX0_seekNext 54 = .ok (.iload 4, 2) := by decide +kernel
theorem dX0_seekNext_56 : decode cX0_seekNext 56 = .ok (.aload_n 0, 1) := by decide +kernel
theorem dX0_seekNext_57 : decode cX0_seekNext 57 = .ok (.getfield 90, 3) := by decide +kernel
theorem dX0_seekNext_60 : decode cX0_seekNext 60 = .ok (.if_icmp .ge 19, 3) := by decide +kernel
theorem dX0_seekNext_63 : decode cX0_seekNext 63 = .ok (.aload_n 0, 1) := by decide +kernel
theorem dX0_seekNext_64 : decode cX0_seekNext 64 = .ok (.bipush 10, 2) := by decide +kernel
theorem dX0_seekNext_66 : decode cX0_seekNext 66 = .ok (.iload_n 2, 1) := by decide +kernel
theorem dX0_seekNext_67 : decode cX0_seekNext 67 = .ok (.imul, 1) := by decide +kernel
theorem dX0_seekNext_68 : decode cX0_seekNext 68 = .ok (.iload_n 3, 1) := by decide +kernel
theorem dX0_seekNext_69 : decode cX0_seekNext 69 = .ok (.iadd, 1) := by decide +kernel
theorem dX0_seekNext_70 : decode cX0_seekNext 70 = .ok (.putfield 87, 3) := by decide +kernel
theorem dX0_seekNext_73 : decode cX0_seekNext 73 = .ok (.aload_n 0, 1) := by decide +kernel
theorem dX0_seekNext_74 : decode cX0_seekNext 74 = .ok (.iload 4, 2) := by decide +kernel
theorem dX0_seekNext_76 : decode cX0_seekNext 76 = .ok (.putfield 90, 3) := by decide +kernel
theorem dX0_seekNext_79 : decode cX0_seekNext 79 = .ok (.iinc 3 1, 3) := by decide +kernel
theorem dX0_seekNext_82 : decode cX0_seekNext 82 = .ok (.goto (-53), 3) := by decide +kernel
theorem dX0_seekNext_85 : decode cX0_seekNext 85 = .ok (.iinc 2 1, 3) := by decide +kernel
theorem dX0_seekNext_88 : decode cX0_seekNext 88 = .ok (.goto (-71), 3) := by decide +kernel
theorem dX0_seekNext_91 : decode cX0_seekNext 91 = .ok (.return_, 1) := by decide +kernel
theorem dX0_worstOf_0 : decode cX0_worstOf 0 = .ok (.aload_n 0, 1) := by decide +kernel
theorem dX0_worstOf_1 : decode cX0_worstOf 1 = .ok (.getfield 25, 3) := by decide +kernel
theorem dX0_worstOf_4 : decode cX0_worstOf 4 = .ok (.iconst 0, 1) := by decide +kernel
theorem dX0_worstOf_5 : decode cX0_worstOf 5 = .ok (.invokestatic 100, 3) := by decide +kernel
theorem dX0_worstOf_8 : decode cX0_worstOf 8 = .ok (.iconst 0, 1) := by decide +kernel
theorem dX0_worstOf_9 : decode cX0_worstOf 9 = .ok (.istore 4, 2) := by decide +kernel
theorem dX0_worstOf_11 : decode cX0_worstOf 11 = .ok (.iload 4, 2) := by decide +kernel
theorem dX0_worstOf_13 : decode cX0_worstOf 13 = .ok (.sipush 190, 3) := by decide +kernel
theorem dX0_worstOf_16 : decode cX0_worstOf 16 = .ok (.if_icmp .ge 51, 3) := by decide +kernel
theorem dX0_worstOf_19 : decode cX0_worstOf 19 = .ok (.aload_n 1, 1) := by decide +kernel
theorem dX0_worstOf_20 : decode cX0_worstOf 20 = .ok (.iload_n 2, 1) := by decide +kernel
theorem dX0_worstOf_21 : decode cX0_worstOf 21 = .ok (.iload_n 3, 1) := by decide +kernel
theorem dX0_worstOf_22 : decode cX0_worstOf 22 = .ok (.iload 4, 2) := by decide +kernel
theorem dX0_worstOf_24 : decode cX0_worstOf 24 = .ok (.invokestatic 69, 3) := by decide +kernel
theorem dX0_worstOf_27 : decode cX0_worstOf 27 = .ok (.istore 5, 2) := by decide +kernel
theorem dX0_worstOf_29 : decode cX0_worstOf 29 = .ok (.aload_n 0, 1) := by decide +kernel
theorem dX0_worstOf_30 : decode cX0_worstOf 30 = .ok (.getfield 21, 3) := by decide +kernel
theorem dX0_worstOf_33 : decode cX0_worstOf 33 = .ok (.iload 4, 2) := by decide +kernel
theorem dX0_worstOf_35 : decode cX0_worstOf 35 = .ok (.baload, 1) := by decide +kernel
theorem dX0_worstOf_36 : decode cX0_worstOf 36 = .ok (.ifCond .eq 25, 3) := by decide +kernel
theorem dX0_worstOf_39 : decode cX0_worstOf 39 = .ok (.iload 5, 2) := by decide +kernel
theorem dX0_worstOf_41 : decode cX0_worstOf 41 = .ok (.ifCond .lt 20, 3) := by decide +kernel
theorem dX0_worstOf_44 : decode cX0_worstOf 44 = .ok (.iload 5, 2) := by decide +kernel
theorem dX0_worstOf_46 : decode cX0_worstOf 46 = .ok (.iconst 2, 1) := by decide +kernel
theorem dX0_worstOf_47 : decode cX0_worstOf 47 = .ok (.if_icmp .gt 14, 3) := by decide +kernel
theorem dX0_worstOf_50 : decode cX0_worstOf 50 = .ok (.aload_n 0, 1) := by decide +kernel
theorem dX0_worstOf_51 : decode cX0_worstOf 51 = .ok (.getfield 25, 3) := by decide +kernel
theorem dX0_worstOf_54 : decode cX0_worstOf 54 = .ok (.iload 5, 2) := by decide +kernel
theorem dX0_worstOf_56 : decode cX0_worstOf 56 = .ok (.dup2, 1) := by decide +kernel
theorem dX0_worstOf_57 : decode cX0_worstOf 57 = .ok (.iaload, 1) := by decide +kernel
theorem dX0_worstOf_58 : decode cX0_worstOf 58 = .ok (.iconst 1, 1) := by decide +kernel
theorem dX0_worstOf_59 : decode cX0_worstOf 59 = .ok (.iadd, 1) := by decide +kernel
theorem dX0_worstOf_60 : decode cX0_worstOf 60 = .ok (.iastore, 1) := by decide +kernel
theorem dX0_worstOf_61 : decode cX0_worstOf 61 = .ok (.iinc 4 1, 3) := by decide +kernel
theorem dX0_worstOf_64 : decode cX0_worstOf 64 = .ok (.goto (-53), 3) := by decide +kernel
theorem dX0_worstOf_67 : decode cX0_worstOf 67 = .ok (.aload_n 0, 1) := by decide +kernel
theorem dX0_worstOf_68 : decode cX0_worstOf 68 = .ok (.getfield 25, 3) := by decide +kernel
theorem dX0_worstOf_71 : decode cX0_worstOf 71 = .ok (.iconst 0, 1) := by decide +kernel
theorem dX0_worstOf_72 : decode cX0_worstOf 72 = .ok (.iaload, 1) := by decide +kernel
theorem dX0_worstOf_73 : decode cX0_worstOf 73 = .ok (.aload_n 0, 1) := by decide +kernel
theorem dX0_worstOf_74 : decode cX0_worstOf 74 = .ok (.getfield 25, 3) := by decide +kernel
theorem dX0_worstOf_77 : decode cX0_worstOf 77 = .ok (.iconst 1, 1) := by decide +kernel
theorem dX0_worstOf_78 : decode cX0_worstOf 78 = .ok (.iaload, 1) := by decide +kernel
theorem dX0_worstOf_79 : decode cX0_worstOf 79 = .ok (.aload_n 0, 1) := by decide +kernel
theorem dX0_worstOf_80 : decode cX0_worstOf 80 = .ok (.getfield 25, 3) := by decide +kernel
theorem dX0_worstOf_83 : decode cX0_worstOf 83 = .ok (.iconst 2, 1) := by decide +kernel
theorem dX0_worstOf_84 : decode cX0_worstOf 84 = .ok (.iaload, 1) := by decide +kernel
theorem dX0_worstOf_85 : decode cX0_worstOf 85 = .ok (.invokestatic 106, 3) := by decide +kernel
theorem dX0_worstOf_88 : decode cX0_worstOf 88 = .ok (.invokestatic 106, 3) := by decide +kernel
theorem dX0_worstOf_91 : decode cX0_worstOf 91 = .ok (.ireturn, 1) := by decide +kernel
theorem dX1_init_0 : decode cX1_init 0 = .ok (.aload_n 0, 1) := by decide +kernel
theorem dX1_init_1 : decode cX1_init 1 = .ok (.invokespecial 3, 3) := by decide +kernel
theorem dX1_init_4 : decode cX1_init 4 = .ok (.aload_n 0, 1) := by decide +kernel
theorem dX1_init_5 : decode cX1_init 5 = .ok (.sipush 1024, 3) := by decide +kernel
theorem dX1_init_8 : decode cX1_init 8 = .ok (.newarray .int, 2) := by decide +kernel
theorem dX1_init_10 : decode cX1_init 10 = .ok (.putfield 9, 3) := by decide +kernel
theorem dX1_init_13 : decode cX1_init 13 = .ok (.return_, 1) := by decide +kernel
theorem dX1_seekChain_0 : decode cX1_seekChain 0 = .ok (.aload_n 0, 1) := by decide +kernel
theorem dX1_seekChain_1 : decode cX1_seekChain 1 = .ok (.invokevirtual 15, 3) := by decide +kernel
theorem dX1_seekChain_4 : decode cX1_seekChain 4 = .ok (.aload_n 0, 1) := by decide +kernel
theorem dX1_seekChain_5 : decode cX1_seekChain 5 = .ok (.iload_n 3, 1) := by decide +kernel
theorem dX1_seekChain_6 : decode cX1_seekChain 6 = .ok (.putfield 18, 3) := by decide +kernel
theorem dX1_seekChain_9 : decode cX1_seekChain 9 = .ok (.aload_n 0, 1) := by decide +kernel
theorem dX1_seekChain_10 : decode cX1_seekChain 10 = .ok (.aload_n 1, 1) := by decide +kernel
theorem dX1_seekChain_11 : decode cX1_seekChain 11 = .ok (.iload_n 2, 1) := by decide +kernel
theorem dX1_seekChain_12 : decode cX1_seekChain 12 = .ok (.iconst 1, 1) := by decide +kernel
theorem dX1_seekChain_13 : decode cX1_seekChain 13 = .ok (.iload_n 2, 1) := by decide +kernel
theorem dX1_seekChain_14 : decode cX1_seekChain 14 = .ok (.ishl, 1) := by decide +kernel
theorem dX1_seekChain_15 : decode cX1_seekChain 15 = .ok (.iconst 0, 1) := by decide +kernel
theorem dX1_seekChain_16 : decode cX1_seekChain 16 = .ok (.lconst 1, 1) := by decide +kernel
theorem dX1_seekChain_17 : decode cX1_seekChain 17 = .ok (.lconst 1, 1) := by decide +kernel
theorem dX1_seekChain_18 : decode cX1_seekChain 18 = .ok (.invokevirtual 22, 3) := by decide +kernel
theorem dX1_seekChain_21 : decode cX1_seekChain 21 = .ok (.return_, 1) := by decide +kernel
theorem dX1_seekRings_0 : decode cX1_seekRings 0 = .ok (.aload_n 0, 1) := by decide +kernel
theorem dX1_seekRings_1 : decode cX1_seekRings 1 = .ok (.invokevirtual 15, 3) := by decide +kernel
theorem dX1_seekRings_4 : decode cX1_seekRings 4 = .ok (.iconst 0, 1) := by decide +kernel
theorem dX1_seekRings_5 : decode cX1_seekRings 5 = .ok (.istore_n 2, 1) := by decide +kernel
theorem dX1_seekRings_6 : decode cX1_seekRings 6 = .ok (.iload_n 2, 1) := by decide +kernel
theorem dX1_seekRings_7 : decode cX1_seekRings 7 = .ok (.aload_n 1, 1) := by decide +kernel
theorem dX1_seekRings_8 : decode cX1_seekRings 8 = .ok (.getfield 26, 3) := by decide +kernel
theorem dX1_seekRings_11 : decode cX1_seekRings 11 = .ok (.if_icmp .ge 28, 3) := by decide +kernel
theorem dX1_seekRings_14 : decode cX1_seekRings 14 = .ok (.aload_n 0, 1) := by decide +kernel
theorem dX1_seekRings_15 : decode cX1_seekRings 15 = .ok (.iload_n 2, 1) := by decide +kernel
theorem dX1_seekRings_16 : decode cX1_seekRings 16 = .ok (.putfield 18, 3) := by decide +kernel
theorem dX1_seekRings_19 : decode cX1_seekRings 19 = .ok (.aload_n 0, 1) := by decide +kernel
theorem dX1_seekRings_20 : decode cX1_seekRings 20 = .ok (.aload_n 1, 1) := by decide +kernel
theorem dX1_seekRings_21 : decode cX1_seekRings 21 = .ok (.iload_n 2, 1) := by decide +kernel
theorem dX1_seekRings_22 : decode cX1_seekRings 22 = .ok (.iconst 2, 1) := by decide +kernel
theorem dX1_seekRings_23 : decode cX1_seekRings 23 = .ok (.iload_n 2, 1) := by decide +kernel
theorem dX1_seekRings_24 : decode cX1_seekRings 24 = .ok (.ishl, 1) := by decide +kernel
theorem dX1_seekRings_25 : decode cX1_seekRings 25 = .ok (.iconst 1, 1) := by decide +kernel
theorem dX1_seekRings_26 : decode cX1_seekRings 26 = .ok (.isub, 1) := by decide +kernel
theorem dX1_seekRings_27 : decode cX1_seekRings 27 = .ok (.iconst 0, 1) := by decide +kernel
theorem dX1_seekRings_28 : decode cX1_seekRings 28 = .ok (.lconst 1, 1) := by decide +kernel
theorem dX1_seekRings_29 : decode cX1_seekRings 29 = .ok (.lconst 1, 1) := by decide +kernel
theorem dX1_seekRings_30 : decode cX1_seekRings 30 = .ok (.invokevirtual 22, 3) := by decide +kernel
theorem dX1_seekRings_33 : decode cX1_seekRings 33 = .ok (.iinc 2 1, 3) := by decide +kernel
theorem dX1_seekRings_36 : decode cX1_seekRings 36 = .ok (.goto (-30), 3) := by decide +kernel
theorem dX1_seekRings_39 : decode cX1_seekRings 39 = .ok (.return_, 1) := by decide +kernel
theorem dX1_begin_0 : decode cX1_begin 0 = .ok (.aload_n 0, 1) := by decide +kernel
theorem dX1_begin_1 : decode cX1_begin 1 = .ok (.iconst 0, 1) := by decide +kernel
theorem dX1_begin_2 : decode cX1_begin 2 = .ok (.putfield 31, 3) := by decide +kernel
theorem dX1_begin_5 : decode cX1_begin 5 = .ok (.aload_n 0, 1) := by decide +kernel
theorem dX1_begin_6 : decode cX1_begin 6 = .ok (.iconst (-1), 1) := by decide +kernel
theorem dX1_begin_7 : decode cX1_begin 7 = .ok (.putfield 34, 3) := by decide +kernel
theorem dX1_begin_10 : decode cX1_begin 10 = .ok (.aload_n 0, 1) := by decide +kernel
theorem dX1_begin_11 : decode cX1_begin 11 = .ok (.lconst 0, 1) := by decide +kernel
theorem dX1_begin_12 : decode cX1_begin 12 = .ok (.putfield 37, 3) := by decide +kernel
theorem dX1_begin_15 : decode cX1_begin 15 = .ok (.aload_n 0, 1) := by decide +kernel
theorem dX1_begin_16 : decode cX1_begin 16 = .ok (.lconst 1, 1) := by decide +kernel
theorem dX1_begin_17 : decode cX1_begin 17 = .ok (.putfield 41, 3) := by decide +kernel
theorem dX1_begin_20 : decode cX1_begin 20 = .ok (.return_, 1) := by decide +kernel
theorem dX1_walk_0 : decode cX1_walk 0 = .ok (.iconst 0, 1) := by decide +kernel
theorem dX1_walk_1 : decode cX1_walk 1 = .ok (.istore 9, 2) := by decide +kernel
theorem dX1_walk_3 : decode cX1_walk 3 = .ok (.iload 9, 2) := by decide +kernel
theorem dX1_walk_5 : decode cX1_walk 5 = .ok (.aload_n 1, 1) := by decide +kernel
theorem dX1_walk_6 : decode cX1_walk 6 = .ok (.getfield 44, 3) := by decide +kernel
theorem dX1_walk_9 : decode cX1_walk 9 = .ok (.if_icmp .ge 117, 3) := by decide +kernel
theorem dX1_walk_12 : decode cX1_walk 12 = .ok (.aload_n 1, 1) := by decide +kernel
theorem dX1_walk_13 : decode cX1_walk 13 = .ok (.iload 9, 2) := by decide +kernel
theorem dX1_walk_15 : decode cX1_walk 15 = .ok (.iconst 2, 1) := by decide +kernel
theorem dX1_walk_16 : decode cX1_walk 16 = .ok (.invokevirtual 47, 3) := by decide +kernel
theorem dX1_walk_19 : decode cX1_walk 19 = .ok (.istore 10, 2) := by decide +kernel
theorem dX1_walk_21 : decode cX1_walk 21 = .ok (.aload_n 1, 1) := by decide +kernel
theorem dX1_walk_22 : decode cX1_walk 22 = .ok (.iload 9, 2) := by decide +kernel
theorem dX1_walk_24 : decode cX1_walk 24 = .ok (.iconst 0, 1) := by decide +kernel
theorem dX1_walk_25 : decode cX1_walk 25 = .ok (.invokevirtual 47, 3) := by decide +kernel
theorem dX1_walk_28 : decode cX1_walk 28 = .ok (.iload_n 2, 1) := by decide +kernel
theorem dX1_walk_29 : decode cX1_walk 29 = .ok (.if_icmp .eq 6, 3) := by decide +kernel
theorem dX1_walk_32 : decode cX1_walk 32 = .ok (.goto 88, 3) := by decide +kernel
theorem dX1_walk_35 : decode cX1_walk 35 = .ok (.iload 4, 2) := by decide +kernel
theorem dX1_walk_37 : decode cX1_walk 37 = .ok (.iconst 1, 1) := by decide +kernel
theorem dX1_walk_38 : decode cX1_walk 38 = .ok (.iload 9, 2) := by decide +kernel
theorem dX1_walk_40 : decode cX1_walk 40 = .ok (.ishl, 1) := by decide +kernel
theorem dX1_walk_41 : decode cX1_walk 41 = .ok (.ior, 1) := by decide +kernel
theorem dX1_walk_42 : decode cX1_walk 42 = .ok (.istore 11, 2) := by decide +kernel
theorem dX1_walk_44 : decode cX1_walk 44 = .ok (.lload 5, 2) := by decide +kernel
theorem dX1_walk_46 : decode cX1_walk 46 = .ok (.aload_n 1, 1) := by decide +kernel
theorem dX1_walk_47 : decode cX1_walk 47 = .ok (.iload 9, 2) := by decide +kernel
theorem dX1_walk_49 : decode cX1_walk 49 = .ok (.iconst 3, 1) := by decide +kernel
theorem dX1_walk_50 : decode cX1_walk 50 = .ok (.invokevirtual 47, 3) := by decide +kernel
theorem dX1_walk_53 : decode cX1_walk 53 = .ok (.i2l, 1) := by decide +kernel
theorem dX1_walk_54 : decode cX1_walk 54 = .ok (.lmul, 1) := by decide +kernel
theorem dX1_walk_55 : decode cX1_walk 55 = .ok (.lstore 12, 2) := by decide +kernel
theorem dX1_walk_57 : decode cX1_walk 57 = .ok (.lload 7, 2) := by decide +kernel
theorem dX1_walk_59 : decode cX1_walk 59 = .ok (.aload_n 1, 1) := by decide +kernel
theorem dX1_walk_60 : decode cX1_walk 60 = .ok (.iload 9, 2) := by decide +kernel
theorem dX1_walk_62 : decode cX1_walk 62 = .ok (.iconst 1, 1) := by decide +kernel
theorem dX1_walk_63 : decode cX1_walk 63 = .ok (.invokevirtual 47, 3) := by decide +kernel
theorem dX1_walk_66 : decode cX1_walk 66 = .ok (.i2l, 1) := by decide +kernel
theorem dX1_walk_67 : decode cX1_walk 67 = .ok (.lmul, 1) := by decide +kernel
theorem dX1_walk_68 : decode cX1_walk 68 = .ok (.lstore 14, 2) := by decide +kernel
theorem dX1_walk_70 : decode cX1_walk 70 = .ok (.iload 10, 2) := by decide +kernel
theorem dX1_walk_72 : decode cX1_walk 72 = .ok (.aload_n 0, 1) := by decide +kernel
theorem dX1_walk_73 : decode cX1_walk 73 = .ok (.getfield 18, 3) := by decide +kernel
theorem dX1_walk_76 : decode cX1_walk 76 = .ok (.if_icmp .ne 16, 3) := by decide +kernel
theorem dX1_walk_79 : decode cX1_walk 79 = .ok (.aload_n 0, 1) := by decide +kernel
theorem dX1_walk_80 : decode cX1_walk 80 = .ok (.iload 11, 2) := by decide +kernel
theorem dX1_walk_82 : decode cX1_walk 82 = .ok (.lload 12, 2) := by decide +kernel
theorem dX1_walk_84 : decode cX1_walk 84 = .ok (.lload 14, 2) := by decide +kernel
theorem dX1_walk_86 : decode cX1_walk 86 = .ok (.invokevirtual 51, 3) := by decide +kernel
theorem dX1_walk_89 : decode cX1_walk 89 = .ok (.goto 31, 3) := by decide +kernel
theorem dX1_walk_92 : decode cX1_walk 92 = .ok (.iload_n 3, 1) := by decide +kernel
theorem dX1_walk_93 : decode cX1_walk 93 = .ok (.iload 10, 2) := by decide +kernel
theorem dX1_walk_95 : decode cX1_walk 95 = .ok (.ishr, 1) := by decide +kernel
theorem dX1_walk_96 : decode cX1_walk 96 = .ok (.iconst 1, 1) := by decide +kernel
theorem dX1_walk_97 : decode cX1_walk 97 = .ok (.iand, 1) := by decide +kernel
theorem dX1_walk_98 : decode cX1_walk 98 = .ok (.ifCond .ne 22, 3) := by decide +kernel
theorem dX1_walk_101 : decode cX1_walk 101 = .ok (.aload_n 0, 1) := by decide +kernel
theorem dX1_walk_102 : decode cX1_walk 102 = .ok (.aload_n 1, 1) := by decide +kernel
theorem dX1_walk_103 : decode cX1_walk 103 = .ok (.iload 10, 2) := by decide +kernel
theorem dX1_walk_105 : decode cX1_walk 105 = .ok (.iload_n 3, 1) := by decide +kernel
theorem dX1_walk_106 : decode cX1_walk 106 = .ok (.iconst 1, 1) := by decide +kernel
theorem dX1_walk_107 : decode cX1_walk 107 = .ok (.iload 10, 2) := by decide +kernel
theorem dX1_walk_109 : decode cX1_walk 109 = .ok (.ishl, 1) := by decide +kernel
theorem dX1_walk_110 : decode cX1_walk 110 = .ok (.ior, 1) := by decide +kernel
theorem dX1_walk_111 : decode cX1_walk 111 = .ok (.iload 11, 2) := by decide +kernel
theorem dX1_walk_113 : decode cX1_walk 113 = .ok (.lload 12, 2) := by decide +kernel
theorem dX1_walk_115 : decode cX1_walk 115 = .ok (.lload 14, 2) := by decide +kernel
theorem dX1_walk_117 : decode cX1_walk 117 = .ok (.invokevirtual 22, 3) := by decide +kernel
theorem dX1_walk_120 : decode cX1_walk 120 = .ok (.iinc 9 1, 3) := by decide +kernel
theorem dX1_walk_123 : decode cX1_walk 123 = .ok (.goto (-120), 3) := by decide +kernel
theorem dX1_walk_126 : decode cX1_walk 126 = .ok (.return_, 1) := by decide +kernel
theorem dX1_arrive_0 : decode cX1_arrive 0 = .ok (.lload_n 2, 1) := by decide +kernel
theorem dX1_arrive_1 : decode cX1_arrive 1 = .ok (.aload_n 0, 1) := by decide +kernel
theorem dX1_arrive_2 : decode cX1_arrive 2 = .ok (.getfield 41, 3) := by decide +kernel
theorem dX1_arrive_5 : decode cX1_arrive 5 = .ok (.lmul, 1) := by decide +kernel
theorem dX1_arrive_6 : decode cX1_arrive 6 = .ok (.aload_n 0, 1) := by decide +kernel
theorem dX1_arrive_7 : decode cX1_arrive 7 = .ok (.getfield 37, 3) := by decide +kernel
theorem dX1_arrive_10 : decode cX1_arrive 10 = .ok (.lload 4, 2) := by decide +kernel
theorem dX1_arrive_12 : decode cX1_arrive 12 = .ok (.lmul, 1) := by decide +kernel
theorem dX1_arrive_13 : decode cX1_arrive 13 = .ok (.lcmp, 1) := by decide +kernel
theorem dX1_arrive_14 : decode cX1_arrive 14 = .ok (.ifCond .le 14, 3) := by decide +kernel
theorem dX1_arrive_17 : decode cX1_arrive 17 = .ok (.aload_n 0, 1) := by decide +kernel
theorem dX1_arrive_18 : decode cX1_arrive 18 = .ok (.lload_n 2, 1) := by decide +kernel
theorem dX1_arrive_19 : decode cX1_arrive 19 = .ok (.putfield 37, 3) := by decide +kernel
theorem dX1_arrive_22 : decode cX1_arrive 22 = .ok (.aload_n 0, 1) := by decide +kernel
theorem dX1_arrive_23 : decode cX1_arrive 23 = .ok (.lload 4, 2) := by decide +kernel
theorem dX1_arrive_25 : decode cX1_arrive 25 = .ok (.putfield 41, 3) := by decide +kernel
theorem dX1_arrive_28 : decode cX1_arrive 28 = .ok (.lload_n 2, 1) := by decide +kernel
theorem dX1_arrive_29 : decode cX1_arrive 29 = .ok (.lload 4, 2) := by decide +kernel
theorem dX1_arrive_31 : decode cX1_arrive 31 = .ok (.lcmp, 1) := by decide +kernel
theorem dX1_arrive_32 : decode cX1_arrive 32 = .ok (.ifCond .le 67, 3) := by decide +kernel
theorem dX1_arrive_35 : decode cX1_arrive 35 = .ok (.aload_n 0, 1) := by decide +kernel
theorem dX1_arrive_36 : decode cX1_arrive 36 = .ok (.getfield 31, 3) := by decide +kernel
theorem dX1_arrive_39 : decode cX1_arrive 39 = .ok (.aload_n 0, 1) := by decide +kernel
theorem dX1_arrive_40 : decode cX1_arrive 40 = .ok (.getfield 9, 3) := by decide +kernel
theorem dX1_arrive_43 : decode cX1_arrive 43 = .ok (.arraylength, 1) := by decide +kernel
theorem dX1_arrive_44 : decode cX1_arrive 44 = .ok (.if_icmp .ge 55, 3) := by decide +kernel
theorem dX1_arrive_47 : decode cX1_arrive 47 = .ok (.aload_n 0, 1) := by decide +kernel
theorem dX1_arrive_48 : decode cX1_arrive 48 = .ok (.getfield 9, 3) := by decide +kernel
theorem dX1_arrive_51 : decode cX1_arrive 51 = .ok (.aload_n 0, 1) := by decide +kernel
theorem dX1_arrive_52 : decode cX1_arrive 52 = .ok (.getfield 31, 3) := by decide +kernel
theorem dX1_arrive_55 : decode cX1_arrive 55 = .ok (.iload_n 1, 1) := by decide +kernel
theorem dX1_arrive_56 : decode cX1_arrive 56 = .ok (.iastore, 1) := by decide +kernel
theorem dX1_arrive_57 : decode cX1_arrive 57 = .ok (.aload_n 0, 1) := by decide +kernel
theorem dX1_arrive_58 : decode cX1_arrive 58 = .ok (.dup, 1) := by decide +kernel
theorem dX1_arrive_59 : decode cX1_arrive 59 = .ok (.getfield 31, 3) := by decide +kernel
theorem dX1_arrive_62 : decode cX1_arrive 62 = .ok (.iconst 1, 1) := by decide +kernel
theorem dX1_arrive_63 : decode cX1_arrive 63 = .ok (.iadd, 1) := by decide +kernel
theorem dX1_arrive_64 : decode cX1_arrive 64 = .ok (.putfield 31, 3) := by decide +kernel
theorem dX1_arrive_67 : decode cX1_arrive 67 = .ok (.iload_n 1, 1) := by decide +kernel
theorem dX1_arrive_68 : decode cX1_arrive 68 = .ok (.invokestatic 55, 3) := by decide +kernel
theorem dX1_arrive_71 : decode cX1_arrive 71 = .ok (.istore 6, 2) := by decide +kernel
theorem dX1_arrive_73 : decode cX1_arrive 73 = .ok (.aload_n 0, 1) := by decide +kernel
theorem dX1_arrive_74 : decode cX1_arrive 74 = .ok (.aload_n 0, 1) := by decide +kernel
theorem dX1_arrive_75 : decode cX1_arrive 75 = .ok (.getfield 34, 3) := by decide +kernel
theorem dX1_arrive_78 : decode cX1_arrive 78 = .ok (.iconst (-1), 1) := by decide +kernel
theorem dX1_arrive_79 : decode cX1_arrive 79 = .ok (.if_icmp .ne 8, 3) := by decide +kernel
theorem dX1_arrive_82 : decode cX1_arrive 82 = .ok (.iload 6, 2) := by decide +kernel
theorem dX1_arrive_84 : decode cX1_arrive 84 = .ok (.goto 12, 3) := by decide +kernel
theorem dX1_arrive_87 : decode cX1_arrive 87 = .ok (.aload_n 0, 1) := by decide +kernel
theorem dX1_arrive_88 : decode cX1_arrive 88 = .ok (.getfield 34, 3) := by decide +kernel
theorem dX1_arrive_91 : decode cX1_arrive 91 = .ok (.iload 6, 2) := by decide +kernel
theorem dX1_arrive_93 : decode cX1_arrive 93 = .ok (.invokestatic 61, 3) := by decide +kernel
theorem dX1_arrive_96 : decode cX1_arrive 96 = .ok (.putfield 34, 3) := by decide +kernel
theorem dX1_arrive_99 : decode cX1_arrive 99 = .ok (.return_, 1) := by decide +kernel
theorem dX1_bestPart_0 : decode cX1_bestPart 0 = .ok (.iload_n 1, 1) := by decide +kernel
theorem dX1_bestPart_1 : decode cX1_bestPart 1 = .ok (.ifCond .ne 10, 3) := by decide +kernel
theorem dX1_bestPart_4 : decode cX1_bestPart 4 = .ok (.aload_n 0, 1) := by decide +kernel
theorem dX1_bestPart_5 : decode cX1_bestPart 5 = .ok (.getfield 37, 3) := by decide +kernel
theorem dX1_bestPart_8 : decode cX1_bestPart 8 = .ok (.goto 7, 3) := by decide +kernel
theorem dX1_bestPart_11 : decode cX1_bestPart 11 = .ok (.aload_n 0, 1) := by decide +kernel
theorem dX1_bestPart_12 : decode cX1_bestPart 12 = .ok (.getfield 41, 3) := by decide +kernel
theorem dX1_bestPart_15 : decode cX1_bestPart 15 = .ok (.aload_n 0, 1) := by decide +kernel
theorem dX1_bestPart_16 : decode cX1_bestPart 16 = .ok (.getfield 37, 3) := by decide +kernel
theorem dX1_bestPart_19 : decode cX1_bestPart 19 = .ok (.aload_n 0, 1) := by decide +kernel
theorem dX1_bestPart_20 : decode cX1_bestPart 20 = .ok (.getfield 41, 3) := by decide +kernel
theorem dX1_bestPart_23 : decode cX1_bestPart 23 = .ok (.invokestatic 66, 3) := by decide +kernel
theorem dX1_bestPart_26 : decode cX1_bestPart 26 = .ok (.ldiv, 1) := by decide +kernel
theorem dX1_bestPart_27 : decode cX1_bestPart 27 = .ok (.lreturn, 1) := by decide +kernel
theorem dX1_isOneOrMore_0 : decode cX1_isOneOrMore 0 = .ok (.aload_n 0, 1) := by decide +kernel
theorem dX1_isOneOrMore_1 : decode cX1_isOneOrMore 1 = .ok (.getfield 37, 3) := by decide +kernel
theorem dX1_isOneOrMore_4 : decode cX1_isOneOrMore 4 = .ok (.aload_n 0, 1) := by decide +kernel
theorem dX1_isOneOrMore_5 : decode cX1_isOneOrMore 5 = .ok (.getfield 41, 3) := by decide +kernel
theorem dX1_isOneOrMore_8 : decode cX1_isOneOrMore 8 = .ok (.lcmp, 1) := by decide +kernel
theorem dX1_isOneOrMore_9 : decode cX1_isOneOrMore 9 = .ok (.ifCond .lt 7, 3) := by decide +kernel
theorem dX1_isOneOrMore_12 : decode cX1_isOneOrMore 12 = .ok (.iconst 1, 1) := by decide +kernel
theorem dX1_isOneOrMore_13 : decode cX1_isOneOrMore 13 = .ok (.goto 4, 3) := by decide +kernel
theorem dX1_isOneOrMore_16 : decode cX1_isOneOrMore 16 = .ok (.iconst 0, 1) := by decide +kernel
theorem dX1_isOneOrMore_17 : decode cX1_isOneOrMore 17 = .ok (.ireturn, 1) := by decide +kernel
theorem dX1_fewestGone_0 : decode cX1_fewestGone 0 = .ok (.iconst 1, 1) := by decide +kernel
theorem dX1_fewestGone_1 : decode cX1_fewestGone 1 = .ok (.iload_n 1, 1) := by decide +kernel
theorem dX1_fewestGone_2 : decode cX1_fewestGone 2 = .ok (.ishl, 1) := by decide +kernel
theorem dX1_fewestGone_3 : decode cX1_fewestGone 3 = .ok (.iconst 1, 1) := by decide +kernel
theorem dX1_fewestGone_4 : decode cX1_fewestGone 4 = .ok (.isub, 1) := by decide +kernel
theorem dX1_fewestGone_5 : decode cX1_fewestGone 5 = .ok (.istore_n 2, 1) := by decide +kernel
theorem dX1_fewestGone_6 : decode cX1_fewestGone 6 = .ok (.iconst 0, 1) := by decide +kernel
theorem dX1_fewestGone_7 : decode cX1_fewestGone 7 = .ok (.istore_n 3, 1) := by decide +kernel
theorem dX1_fewestGone_8 : decode cX1_fewestGone 8 = .ok (.iload_n 3, 1) := by decide +kernel
theorem dX1_fewestGone_9 : decode cX1_fewestGone 9 = .ok (.iconst 1, 1) := by decide +kernel
theorem dX1_fewestGone_10 : decode cX1_fewestGone 10 = .ok (.iload_n 1, 1) := by decide +kernel
theorem dX1_fewestGone_11 : decode cX1_fewestGone 11 = .ok (.ishl, 1) := by decide +kernel
theorem dX1_fewestGone_12 : decode cX1_fewestGone 12 = .ok (.if_icmp .ge 30, 3) := by decide +kernel
theorem dX1_fewestGone_15 : decode cX1_fewestGone 15 = .ok (.iload_n 3, 1) := by decide +kernel
theorem dX1_fewestGone_16 : decode cX1_fewestGone 16 = .ok (.invokestatic 55, 3) := by decide +kernel
theorem dX1_fewestGone_19 : decode cX1_fewestGone 19 = .ok (.iload_n 2, 1) := by decide +kernel
theorem dX1_fewestGone_20 : decode cX1_fewestGone 20 = .ok (.invokestatic 55, 3) := by decide +kernel
theorem dX1_fewestGone_23 : decode cX1_fewestGone 23 = .ok (.if_icmp .ge 13, 3) := by decide +kernel
theorem dX1_fewestGone_26 : decode cX1_fewestGone 26 = .ok (.aload_n 0, 1) := by decide +kernel
theorem dX1_fewestGone_27 : decode cX1_fewestGone 27 = .ok (.iload_n 3, 1) := by decide +kernel
theorem dX1_fewestGone_28 : decode cX1_fewestGone 28 = .ok (.invokevirtual 70, 3) := by decide +kernel
theorem dX1_fewestGone_31 : decode cX1_fewestGone 31 = .ok (.ifCond .eq 5, 3) := by decide +kernel
theorem dX1_fewestGone_34 : decode cX1_fewestGone 34 = .ok (.iload_n 3, 1) := by decide +kernel
theorem dX1_fewestGone_35 : decode cX1_fewestGone 35 = .ok (.istore_n 2, 1) := by decide +kernel
theorem dX1_fewestGone_36 : decode cX1_fewestGone 36 = .ok (.iinc 3 1, 3) := by decide +kernel
theorem dX1_fewestGone_39 : decode cX1_fewestGone 39 = .ok (.goto (-31), 3) := by decide +kernel
theorem dX1_fewestGone_42 : decode cX1_fewestGone 42 = .ok (.iload_n 2, 1) := by decide +kernel
theorem dX1_fewestGone_43 : decode cX1_fewestGone 43 = .ok (.ireturn, 1) := by decide +kernel
theorem dX1_breaksAll_0 : decode cX1_breaksAll 0 = .ok (.iconst 0, 1) := by decide +kernel
theorem dX1_breaksAll_1 : decode cX1_breaksAll 1 = .ok (.istore_n 2, 1) := by decide +kernel
theorem dX1_breaksAll_2 : decode cX1_breaksAll 2 = .ok (.iload_n 2, 1) := by decide +kernel
theorem dX1_breaksAll_3 : decode cX1_breaksAll 3 = .ok (.aload_n 0, 1) := by decide +kernel
theorem dX1_breaksAll_4 : decode cX1_breaksAll 4 = .ok (.getfield 31, 3) := by decide +kernel
theorem dX1_breaksAll_7 : decode cX1_breaksAll 7 = .ok (.if_icmp .ge 31, 3) := by decide +kernel
theorem dX1_breaksAll_10 : decode cX1_breaksAll 10 = .ok (.iload_n 2, 1) := by decide +kernel
theorem dX1_breaksAll_11 : decode cX1_breaksAll 11 = .ok (.aload_n 0, 1) := by decide +kernel
theorem dX1_breaksAll_12 : decode cX1_breaksAll 12 = .ok (.getfield 9, 3) := by decide +kernel
theorem dX1_breaksAll_15 : decode cX1_breaksAll 15 = .ok (.arraylength, 1) := by decide +kernel
theorem dX1_breaksAll_16 : decode cX1_breaksAll 16 = .ok (.if_icmp .ge 22, 3) := by decide +kernel
theorem dX1_breaksAll_19 : decode cX1_breaksAll 19 = .ok (.aload_n 0, 1) := by decide +kernel
theorem dX1_breaksAll_20 : decode cX1_breaksAll 20 = .ok (.getfield 9, 3) := by decide +kernel
theorem dX1_breaksAll_23 : decode cX1_breaksAll 23 = .ok (.iload_n 2, 1) := by decide +kernel
theorem dX1_breaksAll_24 : decode cX1_breaksAll 24 = .ok (.iaload, 1) := by decide +kernel
theorem dX1_breaksAll_25 : decode cX1_breaksAll 25 = .ok (.iload_n 1, 1) := by decide +kernel
theorem dX1_breaksAll_26 : decode cX1_breaksAll 26 = .ok (.iand, 1) := by decide +kernel
theorem dX1_breaksAll_27 : decode cX1_breaksAll 27 = .ok (.ifCond .ne 5, 3) := by decide +kernel
theorem dX1_breaksAll_30 : decode cX1_breaksAll 30 = .ok (.iconst 0, 1) := by decide +kernel
theorem dX1_breaksAll_31 : decode cX1_breaksAll 31 = .ok (.ireturn, 1) := by decide +kernel
theorem dX1_breaksAll_32 : decode cX1_breaksAll 32 = .ok (.iinc 2 1, 3) := by decide +kernel
theorem dX1_breaksAll_35 : decode cX1_breaksAll 35 = .ok (.goto (-33), 3) := by decide +kernel
theorem dX1_breaksAll_38 : decode cX1_breaksAll 38 = .ok (.iconst 1, 1) := by decide +kernel
theorem dX1_breaksAll_39 : decode cX1_breaksAll 39 = .ok (.ireturn, 1) := by decide +kernel
theorem dX2_init_0 : decode cX2_init 0 = .ok (.aload_n 0, 1) := by decide +kernel
theorem dX2_init_1 : decode cX2_init 1 = .ok (.invokespecial 1, 3) := by decide +kernel
theorem dX2_init_4 : decode cX2_init 4 = .ok (.aload_n 0, 1) := by decide +kernel
theorem dX2_init_5 : decode cX2_init 5 = .ok (.new 7, 3) := by decide +kernel
theorem dX2_init_8 : decode cX2_init 8 = .ok (.dup, 1) := by decide +kernel
theorem dX2_init_9 : decode cX2_init 9 = .ok (.invokespecial 9, 3) := by decide +kernel
theorem dX2_init_12 : decode cX2_init 12 = .ok (.putfield 10, 3) := by decide +kernel
theorem dX2_init_15 : decode cX2_init 15 = .ok (.return_, 1) := by decide +kernel
theorem dX2_hold_0 : decode cX2_hold 0 = .ok (.aload_n 0, 1) := by decide +kernel
theorem dX2_hold_1 : decode cX2_hold 1 = .ok (.getfield 10, 3) := by decide +kernel
theorem dX2_hold_4 : decode cX2_hold 4 = .ok (.aload_n 1, 1) := by decide +kernel
theorem dX2_hold_5 : decode cX2_hold 5 = .ok (.invokevirtual 16, 3) := by decide +kernel
theorem dX2_hold_8 : decode cX2_hold 8 = .ok (.aload_n 0, 1) := by decide +kernel
theorem dX2_hold_9 : decode cX2_hold 9 = .ok (.iload_n 3, 1) := by decide +kernel
theorem dX2_hold_10 : decode cX2_hold 10 = .ok (.putfield 20, 3) := by decide +kernel
theorem dX2_hold_13 : decode cX2_hold 13 = .ok (.iconst 0, 1) := by decide +kernel
theorem dX2_hold_14 : decode cX2_hold 14 = .ok (.istore 6, 2) := by decide +kernel
theorem dX2_hold_16 : decode cX2_hold 16 = .ok (.iload 6, 2) := by decide +kernel
theorem dX2_hold_18 : decode cX2_hold 18 = .ok (.iload 4, 2) := by decide +kernel
theorem dX2_hold_20 : decode cX2_hold 20 = .ok (.if_icmp .ge 34, 3) := by decide +kernel
theorem dX2_hold_23 : decode cX2_hold 23 = .ok (.aload_n 0, 1) := by decide +kernel
theorem dX2_hold_24 : decode cX2_hold 24 = .ok (.getfield 10, 3) := by decide +kernel
theorem dX2_hold_27 : decode cX2_hold 27 = .ok (.getfield 24, 3) := by decide +kernel
theorem dX2_hold_30 : decode cX2_hold 30 = .ok (.ifCond .le 9, 3) := by decide +kernel
theorem dX2_hold_33 : decode cX2_hold 33 = .ok (.aload_n 0, 1) := by decide +kernel
theorem dX2_hold_34 : decode cX2_hold 34 = .ok (.iload 5, 2) := by decide +kernel
theorem dX2_hold_36 : decode cX2_hold 36 = .ok (.invokevirtual 27, 3) := by decide +kernel
theorem dX2_hold_39 : decode cX2_hold 39 = .ok (.aload_n 0, 1) := by decide +kernel
theorem dX2_hold_40 : decode cX2_hold 40 = .ok (.getfield 10, 3) := by decide +kernel
theorem dX2_hold_43 : decode cX2_hold 43 = .ok (.aload_n 2, 1) := by decide +kernel
theorem dX2_hold_44 : decode cX2_hold 44 = .ok (.invokevirtual 31, 3) := by decide +kernel
theorem dX2_hold_47 : decode cX2_hold 47 = .ok (.pop, 1) := by decide +kernel
theorem dX2_hold_48 : decode cX2_hold 48 = .ok (.iinc 6 1, 3) := by decide +kernel
theorem dX2_hold_51 : decode cX2_hold 51 = .ok (.goto (-35), 3) := by decide +kernel
theorem dX2_hold_54 : decode cX2_hold 54 = .ok (.return_, 1) := by decide +kernel
theorem dX2_dealOnce_0 : decode cX2_dealOnce 0 = .ok (.aload_n 0, 1) := by decide +kernel
theorem dX2_dealOnce_1 : decode cX2_dealOnce 1 = .ok (.aload_n 0, 1) := by decide +kernel
theorem dX2_dealOnce_2 : decode cX2_dealOnce 2 = .ok (.getfield 10, 3) := by decide +kernel
theorem dX2_dealOnce_5 : decode cX2_dealOnce 5 = .ok (.getfield 24, 3) := by decide +kernel
theorem dX2_dealOnce_8 : decode cX2_dealOnce 8 = .ok (.invokevirtual 35, 3) := by decide +kernel
theorem dX2_dealOnce_11 : decode cX2_dealOnce 11 = .ok (.istore_n 2, 1) := by decide +kernel
theorem dX2_dealOnce_12 : decode cX2_dealOnce 12 = .ok (.aload_n 0, 1) := by decide +kernel
theorem dX2_dealOnce_13 : decode cX2_dealOnce 13 = .ok (.aload_n 0, 1) := by decide +kernel
theorem dX2_dealOnce_14 : decode cX2_dealOnce 14 = .ok (.getfield 10, 3) := by decide +kernel
theorem dX2_dealOnce_17 : decode cX2_dealOnce 17 = .ok (.getfield 24, 3) := by decide +kernel
theorem dX2_dealOnce_20 : decode cX2_dealOnce 20 = .ok (.invokevirtual 35, 3) := by decide +kernel
theorem dX2_dealOnce_23 : decode cX2_dealOnce 23 = .ok (.istore_n 3, 1) := by decide +kernel
theorem dX2_dealOnce_24 : decode cX2_dealOnce 24 = .ok (.aload_n 0, 1) := by decide +kernel
theorem dX2_dealOnce_25 : decode cX2_dealOnce 25 = .ok (.iconst 3, 1) := by decide +kernel
theorem dX2_dealOnce_26 : decode cX2_dealOnce 26 = .ok (.invokevirtual 35, 3) := by decide +kernel
theorem dX2_dealOnce_29 : decode cX2_dealOnce 29 = .ok (.iconst 1, 1) := by decide +kernel
theorem dX2_dealOnce_30 : decode cX2_dealOnce 30 = .ok (.iadd, 1) := by decide +kernel
theorem dX2_dealOnce_31 : decode cX2_dealOnce 31 = .ok (.istore 4, 2) := by decide +kernel
theorem dX2_dealOnce_33 : decode cX2_dealOnce 33 = .ok (.aload_n 0, 1) := by decide +kernel
theorem dX2_dealOnce_34 : decode cX2_dealOnce 34 = .ok (.getfield 10, 3) := by decide +kernel
theorem dX2_dealOnce_37 : decode cX2_dealOnce 37 = .ok (.iload_n 2, 1) := by decide +kernel
theorem dX2_dealOnce_38 : decode cX2_dealOnce 38 = .ok (.iload 4, 2) := by decide +kernel
theorem dX2_dealOnce_40 : decode cX2_dealOnce 40 = .ok (.iload_n 3, 1) := by decide +kernel
theorem dX2_dealOnce_41 : decode cX2_dealOnce 41 = .ok (.iconst 1, 1) := by decide +kernel
theorem dX2_dealOnce_42 : decode cX2_dealOnce 42 = .ok (.invokevirtual 39, 3) := by decide +kernel
theorem dX2_dealOnce_45 : decode cX2_dealOnce 45 = .ok (.pop, 1) := by decide +kernel
theorem dX2_dealOnce_46 : decode cX2_dealOnce 46 = .ok (.aload_n 0, 1) := by decide +kernel
theorem dX2_dealOnce_47 : decode cX2_dealOnce 47 = .ok (.bipush 16, 2) := by decide +kernel
theorem dX2_dealOnce_49 : decode cX2_dealOnce 49 = .ok (.invokevirtual 35, 3) := by decide +kernel
theorem dX2_dealOnce_52 : decode cX2_dealOnce 52 = .ok (.iload_n 1, 1) := by decide +kernel
theorem dX2_dealOnce_53 : decode cX2_dealOnce 53 = .ok (.if_icmp .ge 12, 3) := by decide +kernel
theorem dX2_dealOnce_56 : decode cX2_dealOnce 56 = .ok (.aload_n 0, 1) := by decide +kernel
theorem dX2_dealOnce_57 : decode cX2_dealOnce 57 = .ok (.getfield 10, 3) := by decide +kernel
theorem dX2_dealOnce_60 : decode cX2_dealOnce 60 = .ok (.iconst 0, 1) := by decide +kernel
theorem dX2_dealOnce_61 : decode cX2_dealOnce 61 = .ok (.invokevirtual 43, 3) := by decide +kernel
theorem dX2_dealOnce_64 : decode cX2_dealOnce 64 = .ok (.pop, 1) := by decide +kernel
theorem dX2_dealOnce_65 : decode cX2_dealOnce 65 = .ok (.return_, 1) := by decide +kernel
theorem dX2_draw_0 : decode cX2_draw 0 = .ok (.aload_n 0, 1) := by decide +kernel
theorem dX2_draw_1 : decode cX2_draw 1 = .ok (.aload_n 0, 1) := by decide +kernel
theorem dX2_draw_2 : decode cX2_draw 2 = .ok (.getfield 20, 3) := by decide +kernel
theorem dX2_draw_5 : decode cX2_draw 5 = .ok (.ldc 47, 2) := by decide +kernel
theorem dX2_draw_7 : decode cX2_draw 7 = .ok (.imul, 1) := by decide +kernel
theorem dX2_draw_8 : decode cX2_draw 8 = .ok (.sipush 12345, 3) := by decide +kernel
theorem dX2_draw_11 : decode cX2_draw 11 = .ok (.iadd, 1) := by decide +kernel
theorem dX2_draw_12 : decode cX2_draw 12 = .ok (.putfield 20, 3) := by decide +kernel
theorem dX2_draw_15 : decode cX2_draw 15 = .ok (.iload_n 1, 1) := by decide +kernel
theorem dX2_draw_16 : decode cX2_draw 16 = .ok (.ifCond .le 19, 3) := by decide +kernel
theorem dX2_draw_19 : decode cX2_draw 19 = .ok (.aload_n 0, 1) := by decide +kernel
theorem dX2_draw_20 : decode cX2_draw 20 = .ok (.getfield 20, 3) := by decide +kernel
theorem dX2_draw_23 : decode cX2_draw 23 = .ok (.bipush 16, 2) := by decide +kernel
theorem dX2_draw_25 : decode cX2_draw 25 = .ok (.iushr, 1) := by decide +kernel
theorem dX2_draw_26 : decode cX2_draw 26 = .ok (.sipush 32767, 3) := by decide +kernel
theorem dX2_draw_29 : decode cX2_draw 29 = .ok (.iand, 1) := by decide +kernel
theorem dX2_draw_30 : decode cX2_draw 30 = .ok (.iload_n 1, 1) := by decide +kernel
theorem dX2_draw_31 : decode cX2_draw 31 = .ok (.irem, 1) := by decide +kernel
theorem dX2_draw_32 : decode cX2_draw 32 = .ok (.goto 4, 3) := by decide +kernel
theorem dX2_draw_35 : decode cX2_draw 35 = .ok (.iconst 0, 1) := by decide +kernel
theorem dX2_draw_36 : decode cX2_draw 36 = .ok (.ireturn, 1) := by decide +kernel
theorem dX3_init_0 : decode cX3_init 0 = .ok (.aload_n 0, 1) := by decide +kernel
theorem dX3_init_1 : decode cX3_init 1 = .ok (.invokespecial 3, 3) := by decide +kernel
theorem dX3_init_4 : decode cX3_init 4 = .ok (.aload_n 0, 1) := by decide +kernel
theorem dX3_init_5 : decode cX3_init 5 = .ok (.sipush 150, 3) := by decide +kernel
theorem dX3_init_8 : decode cX3_init 8 = .ok (.newarray .int, 2) := by decide +kernel
theorem dX3_init_10 : decode cX3_init 10 = .ok (.putfield 9, 3) := by decide +kernel
theorem dX3_init_13 : decode cX3_init 13 = .ok (.aload_n 0, 1) := by decide +kernel
theorem dX3_init_14 : decode cX3_init 14 = .ok (.sipush 150, 3) := by decide +kernel
theorem dX3_init_17 : decode cX3_init 17 = .ok (.newarray .int, 2) := by decide +kernel
theorem dX3_init_19 : decode cX3_init 19 = .ok (.putfield 15, 3) := by decide +kernel
theorem dX3_init_22 : decode cX3_init 22 = .ok (.aload_n 0, 1) := by decide +kernel
theorem dX3_init_23 : decode cX3_init 23 = .ok (.bipush 7, 2) := by decide +kernel
theorem dX3_init_25 : decode cX3_init 25 = .ok (.newarray .int, 2) := by decide +kernel
theorem dX3_init_27 : decode cX3_init 27 = .ok (.putfield 18, 3) := by decide +kernel
theorem dX3_init_30 : decode cX3_init 30 = .ok (.aload_n 0, 1) := by decide +kernel
theorem dX3_init_31 : decode cX3_init 31 = .ok (.bipush 24, 2) := by decide +kernel
theorem dX3_init_33 : decode cX3_init 33 = .ok (.newarray .int, 2) := by decide +kernel
theorem dX3_init_35 : decode cX3_init 35 = .ok (.putfield 21, 3) := by decide +kernel
theorem dX3_init_38 : decode cX3_init 38 = .ok (.aload_n 0, 1) := by decide +kernel
theorem dX3_init_39 : decode cX3_init 39 = .ok (.invokevirtual 24, 3) := by decide +kernel
theorem dX3_init_42 : decode cX3_init 42 = .ok (.return_, 1) := by decide +kernel
theorem dX3_becomeUsual_0 : decode cX3_becomeUsual 0 = .ok (.aload_n 0, 1) := by decide +kernel
theorem dX3_becomeUsual_1 : decode cX3_becomeUsual 1 = .ok (.iconst 0, 1) := by decide +kernel
theorem dX3_becomeUsual_2 : decode cX3_becomeUsual 2 = .ok (.putfield 27, 3) := by decide +kernel
theorem dX3_becomeUsual_5 : decode cX3_becomeUsual 5 = .ok (.aload_n 0, 1) := by decide +kernel
theorem dX3_becomeUsual_6 : decode cX3_becomeUsual 6 = .ok (.iconst 1, 1) := by decide +kernel
theorem dX3_becomeUsual_7 : decode cX3_becomeUsual 7 = .ok (.iconst 1, 1) := by decide +kernel
theorem dX3_becomeUsual_8 : decode cX3_becomeUsual 8 = .ok (.invokevirtual 31, 3) := by decide +kernel
theorem dX3_becomeUsual_11 : decode cX3_becomeUsual 11 = .ok (.aload_n 0, 1) := by decide +kernel
theorem dX3_becomeUsual_12 : decode cX3_becomeUsual 12 = .ok (.iconst 0, 1) := by decide +kernel
theorem dX3_becomeUsual_13 : decode cX3_becomeUsual 13 = .ok (.iconst 4, 1) := by decide +kernel
theorem dX3_becomeUsual_14 : decode cX3_becomeUsual 14 = .ok (.invokevirtual 31, 3) := by decide +kernel
theorem dX3_becomeUsual_17 : decode cX3_becomeUsual 17 = .ok (.aload_n 0, 1) := by decide +kernel
theorem dX3_becomeUsual_18 : decode cX3_becomeUsual 18 = .ok (.iconst 5, 1) := by decide +kernel
theorem dX3_becomeUsual_19 : decode cX3_becomeUsual 19 = .ok (.iconst 0, 1) := by decide +kernel
theorem dX3_becomeUsual_20 : decode cX3_becomeUsual 20 = .ok (.invokevirtual 31, 3) := by decide +kernel
theorem dX3_becomeUsual_23 : decode cX3_becomeUsual 23 = .ok (.return_, 1) := by decide +kernel
theorem dX3_add_0 : decode cX3_add 0 = .ok (.aload_n 0, 1) := by decide +kernel
theorem dX3_add_1 : decode cX3_add 1 = .ok (.getfield 27, 3) := by decide +kernel
theorem dX3_add_4 : decode cX3_add 4 = .ok (.ifCond .lt 43, 3) := by decide +kernel
theorem dX3_add_7 : decode cX3_add 7 = .ok (.aload_n 0, 1) := by decide +kernel
theorem dX3_add_8 : decode cX3_add 8 = .ok (.getfield 27, 3) := by decide +kernel
theorem dX3_add_11 : decode cX3_add 11 = .ok (.sipush 150, 3) := by decide +kernel
theorem dX3_add_14 : decode cX3_add 14 = .ok (.if_icmp .ge 33, 3) := by decide +kernel
theorem dX3_add_17 : decode cX3_add 17 = .ok (.aload_n 0, 1) := by decide +kernel
theorem dX3_add_18 : decode cX3_add 18 = .ok (.getfield 9, 3) := by decide +kernel
theorem dX3_add_21 : decode cX3_add 21 = .ok (.aload_n 0, 1) := by decide +kernel
theorem dX3_add_22 : decode cX3_add 22 = .ok (.getfield 27, 3) := by decide +kernel
theorem dX3_add_25 : decode cX3_add 25 = .ok (.iload_n 1, 1) := by decide +kernel
theorem dX3_add_26 : decode cX3_add 26 = .ok (.iastore, 1) := by decide +kernel
theorem dX3_add_27 : decode cX3_add 27 = .ok (.aload_n 0, 1) := by decide +kernel
theorem dX3_add_28 : decode cX3_add 28 = .ok (.getfield 15, 3) := by decide +kernel
theorem dX3_add_31 : decode cX3_add 31 = .ok (.aload_n 0, 1) := by decide +kernel
theorem dX3_add_32 : decode cX3_add 32 = .ok (.getfield 27, 3) := by decide +kernel
theorem dX3_add_35 : decode cX3_add 35 = .ok (.iload_n 2, 1) := by decide +kernel
theorem dX3_add_36 : decode cX3_add 36 = .ok (.iastore, 1) := by decide +kernel
theorem dX3_add_37 : decode cX3_add 37 = .ok (.aload_n 0, 1) := by decide +kernel
theorem dX3_add_38 : decode cX3_add 38 = .ok (.dup, 1) := by decide +kernel
theorem dX3_add_39 : decode cX3_add 39 = .ok (.getfield 27, 3) := by decide +kernel
theorem dX3_add_42 : decode cX3_add 42 = .ok (.iconst 1, 1) := by decide +kernel
theorem dX3_add_43 : decode cX3_add 43 = .ok (.iadd, 1) := by decide +kernel
theorem dX3_add_44 : decode cX3_add 44 = .ok (.putfield 27, 3) := by decide +kernel
theorem dX3_add_47 : decode cX3_add 47 = .ok (.return_, 1) := by decide +kernel
theorem dX3_wear_0 : decode cX3_wear 0 = .ok (.aload_n 0, 1) := by decide +kernel
theorem dX3_wear_1 : decode cX3_wear 1 = .ok (.getfield 18, 3) := by decide +kernel
theorem dX3_wear_4 : decode cX3_wear 4 = .ok (.iconst 0, 1) := by decide +kernel
theorem dX3_wear_5 : decode cX3_wear 5 = .ok (.iload_n 1, 1) := by decide +kernel
theorem dX3_wear_6 : decode cX3_wear 6 = .ok (.iastore, 1) := by decide +kernel
theorem dX3_wear_7 : decode cX3_wear 7 = .ok (.aload_n 0, 1) := by decide +kernel
theorem dX3_wear_8 : decode cX3_wear 8 = .ok (.getfield 18, 3) := by decide +kernel
theorem dX3_wear_11 : decode cX3_wear 11 = .ok (.iconst 1, 1) := by decide +kernel
theorem dX3_wear_12 : decode cX3_wear 12 = .ok (.iload_n 2, 1) := by decide +kernel
theorem dX3_wear_13 : decode cX3_wear 13 = .ok (.iastore, 1) := by decide +kernel
theorem dX3_wear_14 : decode cX3_wear 14 = .ok (.aload_n 0, 1) := by decide +kernel
theorem dX3_wear_15 : decode cX3_wear 15 = .ok (.getfield 18, 3) := by decide +kernel
theorem dX3_wear_18 : decode cX3_wear 18 = .ok (.iconst 2, 1) := by decide +kernel
theorem dX3_wear_19 : decode cX3_wear 19 = .ok (.iload_n 3, 1) := by decide +kernel
theorem dX3_wear_20 : decode cX3_wear 20 = .ok (.iastore, 1) := by decide +kernel
theorem dX3_wear_21 : decode cX3_wear 21 = .ok (.aload_n 0, 1) := by decide +kernel
theorem dX3_wear_22 : decode cX3_wear 22 = .ok (.getfield 18, 3) := by decide +kernel
theorem dX3_wear_25 : decode cX3_wear 25 = .ok (.iconst 3, 1) := by decide +kernel
theorem dX3_wear_26 : decode cX3_wear 26 = .ok (.iload 4, 2) := by decide +kernel
theorem dX3_wear_28 : decode cX3_wear 28 = .ok (.iastore, 1) := by decide +kernel
theorem dX3_wear_29 : decode cX3_wear 29 = .ok (.aload_n 0, 1) := by decide +kernel
theorem dX3_wear_30 : decode cX3_wear 30 = .ok (.getfield 18, 3) := by decide +kernel
theorem dX3_wear_33 : decode cX3_wear 33 = .ok (.iconst 4, 1) := by decide +kernel
theorem dX3_wear_34 : decode cX3_wear 34 = .ok (.iload 5, 2) := by decide +kernel
theorem dX3_wear_36 : decode cX3_wear 36 = .ok (.iastore, 1) := by decide +kernel
theorem dX3_wear_37 : decode cX3_wear 37 = .ok (.aload_n 0, 1) := by decide +kernel
theorem dX3_wear_38 : decode cX3_wear 38 = .ok (.getfield 18, 3) := by decide +kernel
theorem dX3_wear_41 : decode cX3_wear 41 = .ok (.iconst 5, 1) := by decide +kernel
theorem dX3_wear_42 : decode cX3_wear 42 = .ok (.iload 6, 2) := by decide +kernel
theorem dX3_wear_44 : decode cX3_wear 44 = .ok (.iastore, 1) := by decide +kernel
theorem dX3_wear_45 : decode cX3_wear 45 = .ok (.aload_n 0, 1) := by decide +kernel
theorem dX3_wear_46 : decode cX3_wear 46 = .ok (.getfield 18, 3) := by decide +kernel
theorem dX3_wear_49 : decode cX3_wear 49 = .ok (.bipush 6, 2) := by decide +kernel
theorem dX3_wear_51 : decode cX3_wear 51 = .ok (.iload 7, 2) := by decide +kernel
theorem dX3_wear_53 : decode cX3_wear 53 = .ok (.iastore, 1) := by decide +kernel
theorem dX3_wear_54 : decode cX3_wear 54 = .ok (.iconst 0, 1) := by decide +kernel
theorem dX3_wear_55 : decode cX3_wear 55 = .ok (.istore 8, 2) := by decide +kernel
theorem dX3_wear_57 : decode cX3_wear 57 = .ok (.iconst 0, 1) := by decide +kernel
theorem dX3_wear_58 : decode cX3_wear 58 = .ok (.istore 9, 2) := by decide +kernel
theorem dX3_wear_60 : decode cX3_wear 60 = .ok (.iload 9, 2) := by decide +kernel
theorem dX3_wear_62 : decode cX3_wear 62 = .ok (.aload_n 0, 1) := by decide +kernel
theorem dX3_wear_63 : decode cX3_wear 63 = .ok (.getfield 27, 3) := by decide +kernel
theorem dX3_wear_66 : decode cX3_wear 66 = .ok (.if_icmp .ge 152, 3) := by decide +kernel
theorem dX3_wear_69 : decode cX3_wear 69 = .ok (.iload 9, 2) := by decide +kernel
theorem dX3_wear_71 : decode cX3_wear 71 = .ok (.sipush 150, 3) := by decide +kernel
theorem dX3_wear_74 : decode cX3_wear 74 = .ok (.if_icmp .ge 144, 3) := by decide +kernel
theorem dX3_wear_77 : decode cX3_wear 77 = .ok (.aload_n 0, 1) := by decide +kernel
theorem dX3_wear_78 : decode cX3_wear 78 = .ok (.getfield 15, 3) := by decide +kernel
theorem dX3_wear_81 : decode cX3_wear 81 = .ok (.iload 9, 2) := by decide +kernel
theorem dX3_wear_83 : decode cX3_wear 83 = .ok (.iaload, 1) := by decide +kernel
theorem dX3_wear_84 : decode cX3_wear 84 = .ok (.istore 10, 2) := by decide +kernel
theorem dX3_wear_86 : decode cX3_wear 86 = .ok (.aload_n 0, 1) := by decide +kernel
theorem dX3_wear_87 : decode cX3_wear 87 = .ok (.getfield 9, 3) := by decide +kernel
theorem dX3_wear_90 : decode cX3_wear 90 = .ok (.iload 9, 2) := by decide +kernel
theorem dX3_wear_92 : decode cX3_wear 92 = .ok (.iaload, 1) := by decide +kernel
theorem dX3_wear_93 : decode cX3_wear 93 = .ok (.ifCond .ne 25, 3) := by decide +kernel
theorem dX3_wear_96 : decode cX3_wear 96 = .ok (.iload 8, 2) := by decide +kernel
theorem dX3_wear_98 : decode cX3_wear 98 = .ok (.bipush 24, 2) := by decide +kernel
theorem dX3_wear_100 : decode cX3_wear 100 = .ok (.if_icmp .ge 18, 3) := by decide +kernel
theorem dX3_wear_103 : decode cX3_wear 103 = .ok (.aload_n 0, 1) := by decide +kernel
theorem dX3_wear_104 : decode cX3_wear 104 = .ok (.getfield 21, 3) := by decide +kernel
theorem dX3_wear_107 : decode cX3_wear 107 = .ok (.iload 8, 2) := by decide +kernel
theorem dX3_wear_109 : decode cX3_wear 109 = .ok (.iload 10, 2) := by decide +kernel
theorem dX3_wear_111 : decode cX3_wear 111 = .ok (.iastore, 1) := by decide +kernel
theorem dX3_wear_112 : decode cX3_wear 112 = .ok (.iinc 8 1, 3) := by decide +kernel
theorem dX3_wear_115 : decode cX3_wear 115 = .ok (.goto 97, 3) := by decide +kernel
theorem dX3_wear_118 : decode cX3_wear 118 = .ok (.aload_n 0, 1) := by decide +kernel
theorem dX3_wear_119 : decode cX3_wear 119 = .ok (.getfield 9, 3) := by decide +kernel
theorem dX3_wear_122 : decode cX3_wear 122 = .ok (.iload 9, 2) := by decide +kernel
theorem dX3_wear_124 : decode cX3_wear 124 = .ok (.iaload, 1) := by decide +kernel
theorem dX3_wear_125 : decode cX3_wear 125 = .ok (.iconst 1, 1) := by decide +kernel
theorem dX3_wear_126 : decode cX3_wear 126 = .ok (.if_icmp .ne 42, 3) := by decide +kernel
theorem dX3_wear_129 : decode cX3_wear 129 = .ok (.iload 8, 2) := by decide +kernel
theorem dX3_wear_131 : decode cX3_wear 131 = .ok (.bipush 24, 2) := by decide +kernel
theorem dX3_wear_133 : decode cX3_wear 133 = .ok (.if_icmp .ge 35, 3) := by decide +kernel
theorem dX3_wear_136 : decode cX3_wear 136 = .ok (.iload 10, 2) := by decide +kernel
theorem dX3_wear_138 : decode cX3_wear 138 = .ok (.ifCond .lt 30, 3) := by decide +kernel
theorem dX3_wear_141 : decode cX3_wear 141 = .ok (.iload 10, 2) := by decide +kernel
theorem dX3_wear_143 : decode cX3_wear 143 = .ok (.bipush 7, 2) := by decide +kernel
theorem dX3_wear_145 : decode cX3_wear 145 = .ok (.if_icmp .ge 23, 3) := by decide +kernel
theorem dX3_wear_148 : decode cX3_wear 148 = .ok (.aload_n 0, 1) := by decide +kernel
theorem dX3_wear_149 : decode cX3_wear 149 = .ok (.getfield 21, 3) := by decide +kernel
theorem dX3_wear_152 : decode cX3_wear 152 = .ok (.iload 8, 2) := by decide +kernel
theorem dX3_wear_154 : decode cX3_wear 154 = .ok (.aload_n 0, 1) := by decide +kernel
theorem dX3_wear_155 : decode cX3_wear 155 = .ok (.getfield 18, 3) := by decide +kernel
theorem dX3_wear_158 : decode cX3_wear 158 = .ok (.iload 10, 2) := by decide +kernel
theorem dX3_wear_160 : decode cX3_wear 160 = .ok (.iaload, 1) := by decide +kernel
theorem dX3_wear_161 : decode cX3_wear 161 = .ok (.iastore, 1) := by decide +kernel
theorem dX3_wear_162 : decode cX3_wear 162 = .ok (.iinc 8 1, 3) := by decide +kernel
theorem dX3_wear_165 : decode cX3_wear 165 = .ok (.goto 47, 3) := by decide +kernel
theorem dX3_wear_168 : decode cX3_wear 168 = .ok (.iload 8, 2) := by decide +kernel
theorem dX3_wear_170 : decode cX3_wear 170 = .ok (.iconst 2, 1) := by decide +kernel
theorem dX3_wear_171 : decode cX3_wear 171 = .ok (.if_icmp .lt 41, 3) := by decide +kernel
theorem dX3_wear_174 : decode cX3_wear 174 = .ok (.iinc 8 (-1), 3) := by decide +kernel
theorem dX3_wear_177 : decode cX3_wear 177 = .ok (.aload_n 0, 1) := by decide +kernel
theorem dX3_wear_178 : decode cX3_wear 178 = .ok (.getfield 21, 3) := by decide +kernel
theorem dX3_wear_181 : decode cX3_wear 181 = .ok (.iload 8, 2) := by decide +kernel
theorem dX3_wear_183 : decode cX3_wear 183 = .ok (.iconst 1, 1) := by decide +kernel
theorem dX3_wear_184 : decode cX3_wear 184 = .ok (.isub, 1) := by decide +kernel
theorem dX3_wear_185 : decode cX3_wear 185 = .ok (.aload_n 0, 1) := by decide +kernel
theorem dX3_wear_186 : decode cX3_wear 186 = .ok (.getfield 9, 3) := by decide +kernel
theorem dX3_wear_189 : decode cX3_wear 189 = .ok (.iload 9, 2) := by decide +kernel
theorem dX3_wear_191 : decode cX3_wear 191 = .ok (.iaload, 1) := by decide +kernel
theorem dX3_wear_192 : decode cX3_wear 192 = .ok (.aload_n 0, 1) := by decide +kernel
theorem dX3_wear_193 : decode cX3_wear 193 = .ok (.getfield 21, 3) := by decide +kernel
theorem dX3_wear_196 : decode cX3_wear 196 = .ok (.iload 8, 2) := by decide +kernel
theorem dX3_wear_198 : decode cX3_wear 198 = .ok (.iconst 1, 1) := by decide +kernel
theorem dX3_wear_199 : decode cX3_wear 199 = .ok (.isub, 1) := by decide +kernel
theorem dX3_wear_200 : decode cX3_wear 200 = .ok (.iaload, 1) := by decide +kernel
theorem dX3_wear_201 : decode cX3_wear 201 = .ok (.aload_n 0, 1) := by decide +kernel
theorem dX3_wear_202 : decode cX3_wear 202 = .ok (.getfield 21, 3) := by decide +kernel
theorem dX3_wear_205 : decode cX3_wear 205 = .ok (.iload 8, 2) := by decide +kernel
theorem dX3_wear_207 : decode cX3_wear 207 = .ok (.iaload, 1) := by decide +kernel
theorem dX3_wear_208 : decode cX3_wear 208 = .ok (.invokestatic 35, 3) := by decide +kernel
theorem dX3_wear_211 : decode cX3_wear 211 = .ok (.iastore, 1) := by decide +kernel
theorem dX3_wear_212 : decode cX3_wear 212 = .ok (.iinc 9 1, 3) := by decide +kernel
theorem dX3_wear_215 : decode cX3_wear 215 = .ok (.goto (-155), 3) := by decide +kernel
theorem dX3_wear_218 : decode cX3_wear 218 = .ok (.iload 8, 2) := by decide +kernel
theorem dX3_wear_220 : decode cX3_wear 220 = .ok (.ifCond .le 12, 3) := by decide +kernel
theorem dX3_wear_223 : decode cX3_wear 223 = .ok (.aload_n 0, 1) := by decide +kernel
theorem dX3_wear_224 : decode cX3_wear 224 = .ok (.getfield 21, 3) := by decide +kernel
theorem dX3_wear_227 : decode cX3_wear 227 = .ok (.iconst 0, 1) := by decide +kernel
theorem dX3_wear_228 : decode cX3_wear 228 = .ok (.iaload, 1) := by decide +kernel
theorem dX3_wear_229 : decode cX3_wear 229 = .ok (.goto 4, 3) := by decide +kernel
theorem dX3_wear_232 : decode cX3_wear 232 = .ok (.iconst 0, 1) := by decide +kernel
theorem dX3_wear_233 : decode cX3_wear 233 = .ok (.istore 9, 2) := by decide +kernel
theorem dX3_wear_235 : decode cX3_wear 235 = .ok (.iload 9, 2) := by decide +kernel
theorem dX3_wear_237 : decode cX3_wear 237 = .ok (.ifCond .ge 7, 3) := by decide +kernel
theorem dX3_wear_240 : decode cX3_wear 240 = .ok (.iconst 0, 1) := by decide +kernel
theorem dX3_wear_241 : decode cX3_wear 241 = .ok (.goto 17, 3) := by decide +kernel
theorem dX3_wear_244 : decode cX3_wear 244 = .ok (.iload 9, 2) := by decide +kernel
theorem dX3_wear_246 : decode cX3_wear 246 = .ok (.bipush 20, 2) := by decide +kernel
theorem dX3_wear_248 : decode cX3_wear 248 = .ok (.if_icmp .le 8, 3) := by decide +kernel
theorem dX3_wear_251 : decode cX3_wear 251 = .ok (.bipush 20, 2) := by decide +kernel
theorem dX3_wear_253 : decode cX3_wear 253 = .ok (.goto 5, 3) := by decide +kernel
theorem dX3_wear_256 : decode cX3_wear 256 = .ok (.iload 9, 2) := by decide +kernel
theorem dX3_wear_258 : decode cX3_wear 258 = .ok (.ireturn, 1) := by decide +kernel
theorem dX3_joined_0 : decode cX3_joined 0 = .ok (.iload_n 0, 1) := by decide +kernel
theorem dX3_joined_1 : decode cX3_joined 1 = .ok (.tableswitch 86 2 7 #[39, 43, 47, 51, 63, 75], 39) := by decide +kernel
theorem dX3_joined_40 : decode cX3_joined 40 = .ok (.iload_n 1, 1) := by decide +kernel
theorem dX3_joined_41 : decode cX3_joined 41 = .ok (.iload_n 2, 1) := by decide +kernel
theorem dX3_joined_42 : decode cX3_joined 42 = .ok (.iadd, 1) := by decide +kernel
theorem dX3_joined_43 : decode cX3_joined 43 = .ok (.ireturn, 1) := by decide +kernel
theorem dX3_joined_44 : decode cX3_joined 44 = .ok (.iload_n 1, 1) := by decide +kernel
theorem dX3_joined_45 : decode cX3_joined 45 = .ok (.iload_n 2, 1) := by decide +kernel
theorem dX3_joined_46 : decode cX3_joined 46 = .ok (.isub, 1) := by decide +kernel
theorem dX3_joined_47 : decode cX3_joined 47 = .ok (.ireturn, 1) := by decide +kernel
theorem dX3_joined_48 : decode cX3_joined 48 = .ok (.iload_n 1, 1) := by decide +kernel
theorem dX3_joined_49 : decode cX3_joined 49 = .ok (.iload_n 2, 1) := by decide +kernel
theorem dX3_joined_50 : decode cX3_joined 50 = .ok (.imul, 1) := by decide +kernel
theorem dX3_joined_51 : decode cX3_joined 51 = .ok (.ireturn, 1) := by decide +kernel
theorem dX3_joined_52 : decode cX3_joined 52 = .ok (.iload_n 2, 1) := by decide +kernel
theorem dX3_joined_53 : decode cX3_joined 53 = .ok (.ifCond .ne 7, 3) := by decide +kernel
theorem dX3_joined_56 : decode cX3_joined 56 = .ok (.iconst 0, 1) := by decide +kernel
theorem dX3_joined_57 : decode cX3_joined 57 = .ok (.goto 6, 3) := by decide +kernel
theorem dX3_joined_60 : decode cX3_joined 60 = .ok (.iload_n 1, 1) := by decide +kernel
theorem dX3_joined_61 : decode cX3_joined 61 = .ok (.iload_n 2, 1) := by decide +kernel
theorem dX3_joined_62 : decode cX3_joined 62 = .ok (.idiv, 1) := by decide +kernel
theorem dX3_joined_63 : decode cX3_joined 63 = .ok (.ireturn, 1) := by decide +kernel
theorem dX3_joined_64 : decode cX3_joined 64 = .ok (.iload_n 2, 1) := by decide +kernel
theorem dX3_joined_65 : decode cX3_joined 65 = .ok (.ifCond .ne 7, 3) := by decide +kernel
theorem dX3_joined_68 : decode cX3_joined 68 = .ok (.iconst 0, 1) := by decide +kernel
theorem dX3_joined_69 : decode cX3_joined 69 = .ok (.goto 6, 3) := by decide +kernel
theorem dX3_joined_72 : decode cX3_joined 72 = .ok (.iload_n 1, 1) := by decide +kernel
theorem dX3_joined_73 : decode cX3_joined 73 = .ok (.iload_n 2, 1) := by decide +kernel
theorem dX3_joined_74 : decode cX3_joined 74 = .ok (.irem, 1) := by decide +kernel
theorem dX3_joined_75 : decode cX3_joined 75 = .ok (.ireturn, 1) := by decide +kernel
theorem dX3_joined_76 : decode cX3_joined 76 = .ok (.iload_n 1, 1) := by decide +kernel
theorem dX3_joined_77 : decode cX3_joined 77 = .ok (.iload_n 2, 1) := by decide +kernel
theorem dX3_joined_78 : decode cX3_joined 78 = .ok (.if_icmp .ge 7, 3) := by decide +kernel
theorem dX3_joined_81 : decode cX3_joined 81 = .ok (.iload_n 1, 1) := by decide +kernel
theorem dX3_joined_82 : decode cX3_joined 82 = .ok (.goto 4, 3) := by decide +kernel
theorem dX3_joined_85 : decode cX3_joined 85 = .ok (.iload_n 2, 1) := by decide +kernel
theorem dX3_joined_86 : decode cX3_joined 86 = .ok (.ireturn, 1) := by decide +kernel
theorem dX3_joined_87 : decode cX3_joined 87 = .ok (.iload_n 1, 1) := by decide +kernel
theorem dX3_joined_88 : decode cX3_joined 88 = .ok (.iload_n 2, 1) := by decide +kernel
theorem dX3_joined_89 : decode cX3_joined 89 = .ok (.if_icmp .le 7, 3) := by decide +kernel
theorem dX3_joined_92 : decode cX3_joined 92 = .ok (.iload_n 1, 1) := by decide +kernel
theorem dX3_joined_93 : decode cX3_joined 93 = .ok (.goto 4, 3) := by decide +kernel
theorem dX3_joined_96 : decode cX3_joined 96 = .ok (.iload_n 2, 1) := by decide +kernel
theorem dX3_joined_97 : decode cX3_joined 97 = .ok (.ireturn, 1) := by decide +kernel
theorem dX3_readFrom_0 : decode cX3_readFrom 0 = .ok (.aload_n 0, 1) := by decide +kernel
theorem dX3_readFrom_1 : decode cX3_readFrom 1 = .ok (.iconst 0, 1) := by decide +kernel
theorem dX3_readFrom_2 : decode cX3_readFrom 2 = .ok (.putfield 27, 3) := by decide +kernel
theorem dX3_readFrom_5 : decode cX3_readFrom 5 = .ok (.aload_n 0, 1) := by decide +kernel
theorem dX3_readFrom_6 : decode cX3_readFrom 6 = .ok (.aload_n 1, 1) := by decide +kernel
theorem dX3_readFrom_7 : decode cX3_readFrom 7 = .ok (.iconst 0, 1) := by decide +kernel
theorem dX3_readFrom_8 : decode cX3_readFrom 8 = .ok (.invokevirtual 39, 3) := by decide +kernel
theorem dX3_readFrom_11 : decode cX3_readFrom 11 = .ok (.ifCond .eq 26, 3) := by decide +kernel
theorem dX3_readFrom_14 : decode cX3_readFrom 14 = .ok (.aload_n 1, 1) := by decide +kernel
theorem dX3_readFrom_15 : decode cX3_readFrom 15 = .ok (.invokevirtual 43, 3) := by decide +kernel
theorem dX3_readFrom_18 : decode cX3_readFrom 18 = .ok (.ifCond .eq 15, 3) := by decide +kernel
theorem dX3_readFrom_21 : decode cX3_readFrom 21 = .ok (.aload_n 1, 1) := by decide +kernel
theorem dX3_readFrom_22 : decode cX3_readFrom 22 = .ok (.iconst 1, 1) := by decide +kernel
theorem dX3_readFrom_23 : decode cX3_readFrom 23 = .ok (.aload_n 1, 1) := by decide +kernel
theorem dX3_readFrom_24 : decode cX3_readFrom 24 = .ok (.getfield 49, 3) := by decide +kernel
theorem dX3_readFrom_27 : decode cX3_readFrom 27 = .ok (.invokevirtual 52, 3) := by decide +kernel
theorem dX3_readFrom_30 : decode cX3_readFrom 30 = .ok (.ifCond .eq 7, 3) := by decide +kernel
theorem dX3_readFrom_33 : decode cX3_readFrom 33 = .ok (.iconst 1, 1) := by decide +kernel
theorem dX3_readFrom_34 : decode cX3_readFrom 34 = .ok (.goto 4, 3) := by decide +kernel
theorem dX3_readFrom_37 : decode cX3_readFrom 37 = .ok (.iconst 0, 1) := by decide +kernel
theorem dX3_readFrom_38 : decode cX3_readFrom 38 = .ok (.ireturn, 1) := by decide +kernel
theorem dX3_readSum_0 : decode cX3_readSum 0 = .ok (.aload_n 0, 1) := by decide +kernel
theorem dX3_readSum_1 : decode cX3_readSum 1 = .ok (.aload_n 1, 1) := by decide +kernel
theorem dX3_readSum_2 : decode cX3_readSum 2 = .ok (.iload_n 2, 1) := by decide +kernel
theorem dX3_readSum_3 : decode cX3_readSum 3 = .ok (.invokevirtual 56, 3) := by decide +kernel
theorem dX3_readSum_6 : decode cX3_readSum 6 = .ok (.ifCond .ne 5, 3) := by decide +kernel
theorem dX3_readSum_9 : decode cX3_readSum 9 = .ok (.iconst 0, 1) := by decide +kernel
theorem dX3_readSum_10 : decode cX3_readSum 10 = .ok (.ireturn, 1) := by decide +kernel
theorem dX3_readSum_11 : decode cX3_readSum 11 = .ok (.iconst 0, 1) := by decide +kernel
theorem dX3_readSum_12 : decode cX3_readSum 12 = .ok (.istore_n 3, 1) := by decide +kernel
theorem dX3_readSum_13 : decode cX3_readSum 13 = .ok (.iload_n 3, 1) := by decide +kernel
theorem dX3_readSum_14 : decode cX3_readSum 14 = .ok (.sipush 150, 3) := by decide +kernel
theorem dX3_readSum_17 : decode cX3_readSum 17 = .ok (.if_icmp .ge 56, 3) := by decide +kernel
theorem dX3_readSum_20 : decode cX3_readSum 20 = .ok (.aload_n 1, 1) := by decide +kernel
theorem dX3_readSum_21 : decode cX3_readSum 21 = .ok (.invokevirtual 59, 3) := by decide +kernel
theorem dX3_readSum_24 : decode cX3_readSum 24 = .ok (.invokestatic 63, 3) := by decide +kernel
theorem dX3_readSum_27 : decode cX3_readSum 27 = .ok (.ifCond .lt 46, 3) := by decide +kernel
theorem dX3_readSum_30 : decode cX3_readSum 30 = .ok (.aload_n 1, 1) := by decide +kernel
theorem dX3_readSum_31 : decode cX3_readSum 31 = .ok (.invokevirtual 59, 3) := by decide +kernel
theorem dX3_readSum_34 : decode cX3_readSum 34 = .ok (.invokestatic 63, 3) := by decide +kernel
theorem dX3_readSum_37 : decode cX3_readSum 37 = .ok (.istore 4, 2) := by decide +kernel
theorem dX3_readSum_39 : decode cX3_readSum 39 = .ok (.aload_n 1, 1) := by decide +kernel
theorem dX3_readSum_40 : decode cX3_readSum 40 = .ok (.dup, 1) := by decide +kernel
theorem dX3_readSum_41 : decode cX3_readSum 41 = .ok (.getfield 67, 3) := by decide +kernel
theorem dX3_readSum_44 : decode cX3_readSum 44 = .ok (.iconst 1, 1) := by decide +kernel
theorem dX3_readSum_45 : decode cX3_readSum 45 = .ok (.iadd, 1) := by decide +kernel
theorem dX3_readSum_46 : decode cX3_readSum 46 = .ok (.putfield 67, 3) := by decide +kernel
theorem dX3_readSum_49 : decode cX3_readSum 49 = .ok (.aload_n 0, 1) := by decide +kernel
theorem dX3_readSum_50 : decode cX3_readSum 50 = .ok (.aload_n 1, 1) := by decide +kernel
theorem dX3_readSum_51 : decode cX3_readSum 51 = .ok (.iload_n 2, 1) := by decide +kernel
theorem dX3_readSum_52 : decode cX3_readSum 52 = .ok (.invokevirtual 56, 3) := by decide +kernel
theorem dX3_readSum_55 : decode cX3_readSum 55 = .ok (.ifCond .ne 5, 3) := by decide +kernel
theorem dX3_readSum_58 : decode cX3_readSum 58 = .ok (.iconst 0, 1) := by decide +kernel
theorem dX3_readSum_59 : decode cX3_readSum 59 = .ok (.ireturn, 1) := by decide +kernel
theorem dX3_readSum_60 : decode cX3_readSum 60 = .ok (.aload_n 0, 1) := by decide +kernel
theorem dX3_readSum_61 : decode cX3_readSum 61 = .ok (.iload 4, 2) := by decide +kernel
theorem dX3_readSum_63 : decode cX3_readSum 63 = .ok (.iconst 0, 1) := by decide +kernel
theorem dX3_readSum_64 : decode cX3_readSum 64 = .ok (.invokevirtual 31, 3) := by decide +kernel
theorem dX3_readSum_67 : decode cX3_readSum 67 = .ok (.iinc 3 1, 3) := by decide +kernel
theorem dX3_readSum_70 : decode cX3_readSum 70 = .ok (.goto (-57), 3) := by decide +kernel
theorem dX3_readSum_73 : decode cX3_readSum 73 = .ok (.iconst 1, 1) := by decide +kernel
theorem dX3_readSum_74 : decode cX3_readSum 74 = .ok (.ireturn, 1) := by decide +kernel
theorem dX3_readProduct_0 : decode cX3_readProduct 0 = .ok (.aload_n 0, 1) := by decide +kernel
theorem dX3_readProduct_1 : decode cX3_readProduct 1 = .ok (.aload_n 1, 1) := by decide +kernel
theorem dX3_readProduct_2 : decode cX3_readProduct 2 = .ok (.iload_n 2, 1) := by decide +kernel
theorem dX3_readProduct_3 : decode cX3_readProduct 3 = .ok (.invokevirtual 70, 3) := by decide +kernel
theorem dX3_readProduct_6 : decode cX3_readProduct 6 = .ok (.ifCond .ne 5, 3) := by decide +kernel
theorem dX3_readProduct_9 : decode cX3_readProduct 9 = .ok (.iconst 0, 1) := by decide +kernel
theorem dX3_readProduct_10 : decode cX3_readProduct 10 = .ok (.ireturn, 1) := by decide +kernel
theorem dX3_readProduct_11 : decode cX3_readProduct 11 = .ok (.iconst 0, 1) := by decide +kernel
theorem dX3_readProduct_12 : decode cX3_readProduct 12 = .ok (.istore_n 3, 1) := by decide +kernel
theorem dX3_readProduct_13 : decode cX3_readProduct 13 = .ok (.iload_n 3, 1) := by decide +kernel
theorem dX3_readProduct_14 : decode cX3_readProduct 14 = .ok (.sipush 150, 3) := by decide +kernel
theorem dX3_readProduct_17 : decode cX3_readProduct 17 = .ok (.if_icmp .ge 56, 3) := by decide +kernel
theorem dX3_readProduct_20 : decode cX3_readProduct 20 = .ok (.aload_n 1, 1) := by decide +kernel
theorem dX3_readProduct_21 : decode cX3_readProduct 21 = .ok (.invokevirtual 59, 3) := by decide +kernel
theorem dX3_readProduct_24 : decode cX3_readProduct 24 = .ok (.invokestatic 73, 3) := by decide +kernel
theorem dX3_readProduct_27 : decode cX3_readProduct 27 = .ok (.ifCond .lt 46, 3) := by decide +kernel
theorem dX3_readProduct_30 : decode cX3_readProduct 30 = .ok (.aload_n 1, 1) := by decide +kernel
theorem dX3_readProduct_31 : decode cX3_readProduct 31 = .ok (.invokevirtual 59, 3) := by decide +kernel
theorem dX3_readProduct_34 : decode cX3_readProduct 34 = .ok (.invokestatic 73, 3) := by decide +kernel
theorem dX3_readProduct_37 : decode cX3_readProduct 37 = .ok (.istore 4, 2) := by decide +kernel
theorem dX3_readProduct_39 : decode cX3_readProduct 39 = .ok (.aload_n 1, 1) := by decide +kernel
theorem dX3_readProduct_40 : decode cX3_readProduct 40 = .ok (.dup, 1) := by decide +kernel
theorem dX3_readProduct_41 : decode cX3_readProduct 41 = .ok (.getfield 67, 3) := by decide +kernel
theorem dX3_readProduct_44 : decode cX3_readProduct 44 = .ok (.iconst 1, 1) := by decide +kernel
theorem dX3_readProduct_45 : decode cX3_readProduct 45 = .ok (.iadd, 1) := by decide +kernel
theorem dX3_readProduct_46 : decode cX3_readProduct 46 = .ok (.putfield 67, 3) := by decide +kernel
theorem dX3_readProduct_49 : decode cX3_readProduct 49 = .ok (.aload_n 0, 1) := by decide +kernel
theorem dX3_readProduct_50 : decode cX3_readProduct 50 = .ok (.aload_n 1, 1) := by decide +kernel
theorem dX3_readProduct_51 : decode cX3_readProduct 51 = .ok (.iload_n 2, 1) := by decide +kernel
theorem dX3_readProduct_52 : decode cX3_readProduct 52 = .ok (.invokevirtual 70, 3) := by decide +kernel
theorem dX3_readProduct_55 : decode cX3_readProduct 55 = .ok (.ifCond .ne 5, 3) := by decide +kernel
theorem dX3_readProduct_58 : decode cX3_readProduct 58 = .ok (.iconst 0, 1) := by decide +kernel
theorem dX3_readProduct_59 : decode cX3_readProduct 59 = .ok (.ireturn, 1) := by decide +kernel
theorem dX3_readProduct_60 : decode cX3_readProduct 60 = .ok (.aload_n 0, 1) := by decide +kernel
theorem dX3_readProduct_61 : decode cX3_readProduct 61 = .ok (.iload 4, 2) := by decide +kernel
theorem dX3_readProduct_63 : decode cX3_readProduct 63 = .ok (.iconst 0, 1) := by decide +kernel
theorem dX3_readProduct_64 : decode cX3_readProduct 64 = .ok (.invokevirtual 31, 3) := by decide +kernel
theorem dX3_readProduct_67 : decode cX3_readProduct 67 = .ok (.iinc 3 1, 3) := by decide +kernel
theorem dX3_readProduct_70 : decode cX3_readProduct 70 = .ok (.goto (-57), 3) := by decide +kernel
theorem dX3_readProduct_73 : decode cX3_readProduct 73 = .ok (.iconst 1, 1) := by decide +kernel
theorem dX3_readProduct_74 : decode cX3_readProduct 74 = .ok (.ireturn, 1) := by decide +kernel
theorem dX3_sumMark_0 : decode cX3_sumMark 0 = .ok (.iload_n 0, 1) := by decide +kernel
theorem dX3_sumMark_1 : decode cX3_sumMark 1 = .ok (.bipush 43, 2) := by decide +kernel
theorem dX3_sumMark_3 : decode cX3_sumMark 3 = .ok (.if_icmp .ne 7, 3) := by decide +kernel
theorem dX3_sumMark_6 : decode cX3_sumMark 6 = .ok (.iconst 2, 1) := by decide +kernel
theorem dX3_sumMark_7 : decode cX3_sumMark 7 = .ok (.goto 14, 3) := by decide +kernel
theorem dX3_sumMark_10 : decode cX3_sumMark 10 = .ok (.iload_n 0, 1) := by decide +kernel
theorem dX3_sumMark_11 : decode cX3_sumMark 11 = .ok (.bipush 45, 2) := by decide +kernel
theorem dX3_sumMark_13 : decode cX3_sumMark 13 = .ok (.if_icmp .ne 7, 3) := by decide +kernel
theorem dX3_sumMark_16 : decode cX3_sumMark 16 = .ok (.iconst 3, 1) := by decide +kernel
theorem dX3_sumMark_17 : decode cX3_sumMark 17 = .ok (.goto 4, 3) := by decide +kernel
theorem dX3_sumMark_20 : decode cX3_sumMark 20 = .ok (.iconst (-1), 1) := by decide +kernel
theorem dX3_sumMark_21 : decode cX3_sumMark 21 = .ok (.ireturn, 1) := by decide +kernel
theorem dX3_productMark_0 : decode cX3_productMark 0 = .ok (.iload_n 0, 1) := by decide +kernel
theorem dX3_productMark_1 : decode cX3_productMark 1 = .ok (.bipush 42, 2) := by decide +kernel
theorem dX3_productMark_3 : decode cX3_productMark 3 = .ok (.if_icmp .ne 7, 3) := by decide +kernel
theorem dX3_productMark_6 : decode cX3_productMark 6 = .ok (.iconst 4, 1) := by decide +kernel
theorem dX3_productMark_7 : decode cX3_productMark 7 = .ok (.goto 25, 3) := by decide +kernel
theorem dX3_productMark_10 : decode cX3_productMark 10 = .ok (.iload_n 0, 1) := by decide +kernel
theorem dX3_productMark_11 : decode cX3_productMark 11 = .ok (.bipush 47, 2) := by decide +kernel
theorem dX3_productMark_13 : decode cX3_productMark 13 = .ok (.if_icmp .ne 7, 3) := by decide +kernel
theorem dX3_productMark_16 : decode cX3_productMark 16 = .ok (.iconst 5, 1) := by decide +kernel
theorem dX3_productMark_17 : decode cX3_productMark 17 = .ok (.goto 15, 3) := by decide +kernel
theorem dX3_productMark_20 : decode cX3_productMark 20 = .ok (.iload_n 0, 1) := by decide +kernel
theorem dX3_productMark_21 : decode cX3_productMark 21 = .ok (.bipush 37, 2) := by decide +kernel
theorem dX3_productMark_23 : decode cX3_productMark 23 = .ok (.if_icmp .ne 8, 3) := by decide +kernel
theorem dX3_productMark_26 : decode cX3_productMark 26 = .ok (.bipush 6, 2) := by decide +kernel
theorem dX3_productMark_28 : decode cX3_productMark 28 = .ok (.goto 4, 3) := by decide +kernel
theorem dX3_productMark_31 : decode cX3_productMark 31 = .ok (.iconst (-1), 1) := by decide +kernel
theorem dX3_productMark_32 : decode cX3_productMark 32 = .ok (.ireturn, 1) := by decide +kernel
theorem dX3_readUnit_0 : decode cX3_readUnit 0 = .ok (.aload_n 1, 1) := by decide +kernel
theorem dX3_readUnit_1 : decode cX3_readUnit 1 = .ok (.invokevirtual 59, 3) := by decide +kernel
theorem dX3_readUnit_4 : decode cX3_readUnit 4 = .ok (.istore_n 3, 1) := by decide +kernel
theorem dX3_readUnit_5 : decode cX3_readUnit 5 = .ok (.iload_n 3, 1) := by decide +kernel
theorem dX3_readUnit_6 : decode cX3_readUnit 6 = .ok (.bipush 40, 2) := by decide +kernel
theorem dX3_readUnit_8 : decode cX3_readUnit 8 = .ok (.if_icmp .ne 10, 3) := by decide +kernel
theorem dX3_readUnit_11 : decode cX3_readUnit 11 = .ok (.aload_n 0, 1) := by decide +kernel
theorem dX3_readUnit_12 : decode cX3_readUnit 12 = .ok (.aload_n 1, 1) := by decide +kernel
theorem dX3_readUnit_13 : decode cX3_readUnit 13 = .ok (.iload_n 2, 1) := by decide +kernel
theorem dX3_readUnit_14 : decode cX3_readUnit 14 = .ok (.invokevirtual 76, 3) := by decide +kernel
theorem dX3_readUnit_17 : decode cX3_readUnit 17 = .ok (.ireturn, 1) := by decide +kernel
theorem dX3_readUnit_18 : decode cX3_readUnit 18 = .ok (.iload_n 3, 1) := by decide +kernel
theorem dX3_readUnit_19 : decode cX3_readUnit 19 = .ok (.bipush 48, 2) := by decide +kernel
theorem dX3_readUnit_21 : decode cX3_readUnit 21 = .ok (.if_icmp .lt 33, 3) := by decide +kernel
theorem dX3_readUnit_24 : decode cX3_readUnit 24 = .ok (.iload_n 3, 1) := by decide +kernel
theorem dX3_readUnit_25 : decode cX3_readUnit 25 = .ok (.bipush 57, 2) := by decide +kernel
theorem dX3_readUnit_27 : decode cX3_readUnit 27 = .ok (.if_icmp .gt 27, 3) := by decide +kernel
theorem dX3_readUnit_30 : decode cX3_readUnit 30 = .ok (.aload_n 1, 1) := by decide +kernel
theorem dX3_readUnit_31 : decode cX3_readUnit 31 = .ok (.iconst 0, 1) := by decide +kernel
theorem dX3_readUnit_32 : decode cX3_readUnit 32 = .ok (.sipush 999, 3) := by decide +kernel
theorem dX3_readUnit_35 : decode cX3_readUnit 35 = .ok (.invokevirtual 79, 3) := by decide +kernel
theorem dX3_readUnit_38 : decode cX3_readUnit 38 = .ok (.ifCond .ne 5, 3) := by decide +kernel
theorem dX3_readUnit_41 : decode cX3_readUnit 41 = .ok (.iconst 0, 1) := by decide +kernel
theorem dX3_readUnit_42 : decode cX3_readUnit 42 = .ok (.ireturn, 1) := by decide +kernel
theorem dX3_readUnit_43 : decode cX3_readUnit 43 = .ok (.aload_n 0, 1) := by decide +kernel
theorem dX3_readUnit_44 : decode cX3_readUnit 44 = .ok (.iconst 0, 1) := by decide +kernel
theorem dX3_readUnit_45 : decode cX3_readUnit 45 = .ok (.aload_n 1, 1) := by decide +kernel
theorem dX3_readUnit_46 : decode cX3_readUnit 46 = .ok (.getfield 82, 3) := by decide +kernel
theorem dX3_readUnit_49 : decode cX3_readUnit 49 = .ok (.invokevirtual 31, 3) := by decide +kernel
theorem dX3_readUnit_52 : decode cX3_readUnit 52 = .ok (.iconst 1, 1) := by decide +kernel
theorem dX3_readUnit_53 : decode cX3_readUnit 53 = .ok (.ireturn, 1) := by decide +kernel
theorem dX3_readUnit_54 : decode cX3_readUnit 54 = .ok (.aload_n 1, 1) := by decide +kernel
theorem dX3_readUnit_55 : decode cX3_readUnit 55 = .ok (.invokevirtual 85, 3) := by decide +kernel
theorem dX3_readUnit_58 : decode cX3_readUnit 58 = .ok (.ifCond .ne 5, 3) := by decide +kernel
theorem dX3_readUnit_61 : decode cX3_readUnit 61 = .ok (.iconst 0, 1) := by decide +kernel
theorem dX3_readUnit_62 : decode cX3_readUnit 62 = .ok (.ireturn, 1) := by decide +kernel
theorem dX3_readUnit_63 : decode cX3_readUnit 63 = .ok (.aload_n 1, 1) := by decide +kernel
theorem dX3_readUnit_64 : decode cX3_readUnit 64 = .ok (.ldc 88, 2) := by decide +kernel
theorem dX3_readUnit_66 : decode cX3_readUnit 66 = .ok (.invokevirtual 90, 3) := by decide +kernel
theorem dX3_readUnit_69 : decode cX3_readUnit 69 = .ok (.ifCond .eq 12, 3) := by decide +kernel
theorem dX3_readUnit_72 : decode cX3_readUnit 72 = .ok (.aload_n 0, 1) := by decide +kernel
theorem dX3_readUnit_73 : decode cX3_readUnit 73 = .ok (.aload_n 1, 1) := by decide +kernel
theorem dX3_readUnit_74 : decode cX3_readUnit 74 = .ok (.iload_n 2, 1) := by decide +kernel
theorem dX3_readUnit_75 : decode cX3_readUnit 75 = .ok (.bipush 7, 2) := by decide +kernel
theorem dX3_readUnit_77 : decode cX3_readUnit 77 = .ok (.invokevirtual 94, 3) := by decide +kernel
theorem dX3_readUnit_80 : decode cX3_readUnit 80 = .ok (.ireturn, 1) := by decide +kernel
theorem dX3_readUnit_81 : decode cX3_readUnit 81 = .ok (.aload_n 1, 1) := by decide +kernel
theorem dX3_readUnit_82 : decode cX3_readUnit 82 = .ok (.ldc 98, 2) := by decide +kernel
theorem dX3_readUnit_84 : decode cX3_readUnit 84 = .ok (.invokevirtual 90, 3) := by decide +kernel
theorem dX3_readUnit_87 : decode cX3_readUnit 87 = .ok (.ifCond .eq 12, 3) := by decide +kernel
theorem dX3_readUnit_90 : decode cX3_readUnit 90 = .ok (.aload_n 0, 1) := by decide +kernel
theorem dX3_readUnit_91 : decode cX3_readUnit 91 = .ok (.aload_n 1, 1) := by decide +kernel
theorem dX3_readUnit_92 : decode cX3_readUnit 92 = .ok (.iload_n 2, 1) := by decide +kernel
theorem dX3_readUnit_93 : decode cX3_readUnit 93 = .ok (.bipush 8, 2) := by decide +kernel
theorem dX3_readUnit_95 : decode cX3_readUnit 95 = .ok (.invokevirtual 94, 3) := by decide +kernel
theorem dX3_readUnit_98 : decode cX3_readUnit 98 = .ok (.ireturn, 1) := by decide +kernel
theorem dX3_readUnit_99 : decode cX3_readUnit 99 = .ok (.aload_n 1, 1) := by decide +kernel
theorem dX3_readUnit_100 : decode cX3_readUnit 100 = .ok (.invokestatic 100, 3) := by decide +kernel
theorem dX3_readUnit_103 : decode cX3_readUnit 103 = .ok (.istore 4, 2) := by decide +kernel
theorem dX3_readUnit_105 : decode cX3_readUnit 105 = .ok (.iload 4, 2) := by decide +kernel
theorem dX3_readUnit_107 : decode cX3_readUnit 107 = .ok (.ifCond .ge 13, 3) := by decide +kernel
theorem dX3_readUnit_110 : decode cX3_readUnit 110 = .ok (.aload_n 1, 1) := by decide +kernel
theorem dX3_readUnit_111 : decode cX3_readUnit 111 = .ok (.iconst 1, 1) := by decide +kernel
theorem dX3_readUnit_112 : decode cX3_readUnit 112 = .ok (.aload_n 1, 1) := by decide +kernel
theorem dX3_readUnit_113 : decode cX3_readUnit 113 = .ok (.getfield 49, 3) := by decide +kernel
theorem dX3_readUnit_116 : decode cX3_readUnit 116 = .ok (.invokevirtual 52, 3) := by decide +kernel
theorem dX3_readUnit_119 : decode cX3_readUnit 119 = .ok (.ireturn, 1) := by decide +kernel
theorem dX3_readUnit_120 : decode cX3_readUnit 120 = .ok (.aload_n 0, 1) := by decide +kernel
theorem dX3_readUnit_121 : decode cX3_readUnit 121 = .ok (.iconst 1, 1) := by decide +kernel
theorem dX3_readUnit_122 : decode cX3_readUnit 122 = .ok (.iload 4, 2) := by decide +kernel
theorem dX3_readUnit_124 : decode cX3_readUnit 124 = .ok (.invokevirtual 31, 3) := by decide +kernel
theorem dX3_readUnit_127 : decode cX3_readUnit 127 = .ok (.iconst 1, 1) := by decide +kernel
theorem dX3_readUnit_128 : decode cX3_readUnit 128 = .ok (.ireturn, 1) := by decide +kernel
theorem dX3_nameOf_0 : decode cX3_nameOf 0 = .ok (.aload_n 0, 1) := by decide +kernel
theorem dX3_nameOf_1 : decode cX3_nameOf 1 = .ok (.ldc 104, 2) := by decide +kernel
theorem dX3_nameOf_3 : decode cX3_nameOf 3 = .ok (.invokevirtual 90, 3) := by decide +kernel
theorem dX3_nameOf_6 : decode cX3_nameOf 6 = .ok (.ifCond .eq 7, 3) := by decide +kernel
theorem dX3_nameOf_9 : decode cX3_nameOf 9 = .ok (.iconst 0, 1) := by decide +kernel
theorem dX3_nameOf_10 : decode cX3_nameOf 10 = .ok (.goto 83, 3) := by decide +kernel
theorem dX3_nameOf_13 : decode cX3_nameOf 13 = .ok (.aload_n 0, 1) := by decide +kernel
theorem dX3_nameOf_14 : decode cX3_nameOf 14 = .ok (.ldc 106, 2) := by decide +kernel
theorem dX3_nameOf_16 : decode cX3_nameOf 16 = .ok (.invokevirtual 90, 3) := by decide +kernel
theorem dX3_nameOf_19 : decode cX3_nameOf 19 = .ok (.ifCond .eq 7, 3) := by decide +kernel
theorem dX3_nameOf_22 : decode cX3_nameOf 22 = .ok (.iconst 1, 1) := by decide +kernel
theorem dX3_nameOf_23 : decode cX3_nameOf 23 = .ok (.goto 70, 3) := by decide +kernel
theorem dX3_nameOf_26 : decode cX3_nameOf 26 = .ok (.aload_n 0, 1) := by decide +kernel
theorem dX3_nameOf_27 : decode cX3_nameOf 27 = .ok (.ldc 108, 2) := by decide +kernel
theorem dX3_nameOf_29 : decode cX3_nameOf 29 = .ok (.invokevirtual 90, 3) := by decide +kernel
theorem dX3_nameOf_32 : decode cX3_nameOf 32 = .ok (.ifCond .eq 7, 3) := by decide +kernel
theorem dX3_nameOf_35 : decode cX3_nameOf 35 = .ok (.iconst 2, 1) := by decide +kernel
theorem dX3_nameOf_36 : decode cX3_nameOf 36 = .ok (.goto 57, 3) := by decide +kernel
theorem dX3_nameOf_39 : decode cX3_nameOf 39 = .ok (.aload_n 0, 1) := by decide +kernel
theorem dX3_nameOf_40 : decode cX3_nameOf 40 = .ok (.ldc 110, 2) := by decide +kernel
theorem dX3_nameOf_42 : decode cX3_nameOf 42 = .ok (.invokevirtual 90, 3) := by decide +kernel
theorem dX3_nameOf_45 : decode cX3_nameOf 45 = .ok (.ifCond .eq 7, 3) := by decide +kernel
theorem dX3_nameOf_48 : decode cX3_nameOf 48 = .ok (.iconst 3, 1) := by decide +kernel
theorem dX3_nameOf_49 : decode cX3_nameOf 49 = .ok (.goto 44, 3) := by decide +kernel
theorem dX3_nameOf_52 : decode cX3_nameOf 52 = .ok (.aload_n 0, 1) := by decide +kernel
theorem dX3_nameOf_53 : decode cX3_nameOf 53 = .ok (.ldc 112, 2) := by decide +kernel
theorem dX3_nameOf_55 : decode cX3_nameOf 55 = .ok (.invokevirtual 90, 3) := by decide +kernel
theorem dX3_nameOf_58 : decode cX3_nameOf 58 = .ok (.ifCond .eq 7, 3) := by decide +kernel
theorem dX3_nameOf_61 : decode cX3_nameOf 61 = .ok (.iconst 4, 1) := by decide +kernel
theorem dX3_nameOf_62 : decode cX3_nameOf 62 = .ok (.goto 31, 3) := by decide +kernel
theorem dX3_nameOf_65 : decode cX3_nameOf 65 = .ok (.aload_n 0, 1) := by decide +kernel
theorem dX3_nameOf_66 : decode cX3_nameOf 66 = .ok (.ldc 114, 2) := by decide +kernel
theorem dX3_nameOf_68 : decode cX3_nameOf 68 = .ok (.invokevirtual 90, 3) := by decide +kernel
theorem dX3_nameOf_71 : decode cX3_nameOf 71 = .ok (.ifCond .eq 7, 3) := by decide +kernel
theorem dX3_nameOf_74 : decode cX3_nameOf 74 = .ok (.iconst 5, 1) := by decide +kernel
theorem dX3_nameOf_75 : decode cX3_nameOf 75 = .ok (.goto 18, 3) := by decide +kernel
theorem dX3_nameOf_78 : decode cX3_nameOf 78 = .ok (.aload_n 0, 1) := by decide +kernel
theorem dX3_nameOf_79 : decode cX3_nameOf 79 = .ok (.ldc 116, 2) := by decide +kernel
theorem dX3_nameOf_81 : decode cX3_nameOf 81 = .ok (.invokevirtual 90, 3) := by decide +kernel
theorem dX3_nameOf_84 : decode cX3_nameOf 84 = .ok (.ifCond .eq 8, 3) := by decide +kernel
theorem dX3_nameOf_87 : decode cX3_nameOf 87 = .ok (.bipush 6, 2) := by decide +kernel
theorem dX3_nameOf_89 : decode cX3_nameOf 89 = .ok (.goto 4, 3) := by decide +kernel
theorem dX3_nameOf_92 : decode cX3_nameOf 92 = .ok (.iconst (-1), 1) := by decide +kernel
theorem dX3_nameOf_93 : decode cX3_nameOf 93 = .ok (.ireturn, 1) := by decide +kernel
theorem dX3_readBraced_0 : decode cX3_readBraced 0 = .ok (.iload_n 2, 1) := by decide +kernel
theorem dX3_readBraced_1 : decode cX3_readBraced 1 = .ok (.bipush 6, 2) := by decide +kernel
theorem dX3_readBraced_3 : decode cX3_readBraced 3 = .ok (.if_icmp .lt 13, 3) := by decide +kernel
theorem dX3_readBraced_6 : decode cX3_readBraced 6 = .ok (.aload_n 1, 1) := by decide +kernel
theorem dX3_readBraced_7 : decode cX3_readBraced 7 = .ok (.iconst 3, 1) := by decide +kernel
theorem dX3_readBraced_8 : decode cX3_readBraced 8 = .ok (.aload_n 1, 1) := by decide +kernel
theorem dX3_readBraced_9 : decode cX3_readBraced 9 = .ok (.getfield 49, 3) := by decide +kernel
theorem dX3_readBraced_12 : decode cX3_readBraced 12 = .ok (.invokevirtual 52, 3) := by decide +kernel
theorem dX3_readBraced_15 : decode cX3_readBraced 15 = .ok (.ireturn, 1) := by decide +kernel
theorem dX3_readBraced_16 : decode cX3_readBraced 16 = .ok (.aload_n 1, 1) := by decide +kernel
theorem dX3_readBraced_17 : decode cX3_readBraced 17 = .ok (.bipush 40, 2) := by decide +kernel
theorem dX3_readBraced_19 : decode cX3_readBraced 19 = .ok (.invokevirtual 118, 3) := by decide +kernel
theorem dX3_readBraced_22 : decode cX3_readBraced 22 = .ok (.ifCond .eq 27, 3) := by decide +kernel
theorem dX3_readBraced_25 : decode cX3_readBraced 25 = .ok (.aload_n 0, 1) := by decide +kernel
theorem dX3_readBraced_26 : decode cX3_readBraced 26 = .ok (.aload_n 1, 1) := by decide +kernel
theorem dX3_readBraced_27 : decode cX3_readBraced 27 = .ok (.iload_n 2, 1) := by decide +kernel
theorem dX3_readBraced_28 : decode cX3_readBraced 28 = .ok (.iconst 1, 1) := by decide +kernel
theorem dX3_readBraced_29 : decode cX3_readBraced 29 = .ok (.iadd, 1) := by decide +kernel
theorem dX3_readBraced_30 : decode cX3_readBraced 30 = .ok (.invokevirtual 39, 3) := by decide +kernel
theorem dX3_readBraced_33 : decode cX3_readBraced 33 = .ok (.ifCond .eq 16, 3) := by decide +kernel
theorem dX3_readBraced_36 : decode cX3_readBraced 36 = .ok (.aload_n 1, 1) := by decide +kernel
theorem dX3_readBraced_37 : decode cX3_readBraced 37 = .ok (.bipush 41, 2) := by decide +kernel
theorem dX3_readBraced_39 : decode cX3_readBraced 39 = .ok (.invokevirtual 118, 3) := by decide +kernel
theorem dX3_readBraced_42 : decode cX3_readBraced 42 = .ok (.ifCond .eq 7, 3) := by decide +kernel
theorem dX3_readBraced_45 : decode cX3_readBraced 45 = .ok (.iconst 1, 1) := by decide +kernel
theorem dX3_readBraced_46 : decode cX3_readBraced 46 = .ok (.goto 4, 3) := by decide +kernel
theorem dX3_readBraced_49 : decode cX3_readBraced 49 = .ok (.iconst 0, 1) := by decide +kernel
theorem dX3_readBraced_50 : decode cX3_readBraced 50 = .ok (.ireturn, 1) := by decide +kernel
theorem dX3_readPair_0 : decode cX3_readPair 0 = .ok (.iload_n 2, 1) := by decide +kernel
theorem dX3_readPair_1 : decode cX3_readPair 1 = .ok (.bipush 6, 2) := by decide +kernel
theorem dX3_readPair_3 : decode cX3_readPair 3 = .ok (.if_icmp .lt 13, 3) := by decide +kernel
theorem dX3_readPair_6 : decode cX3_readPair 6 = .ok (.aload_n 1, 1) := by decide +kernel
theorem dX3_readPair_7 : decode cX3_readPair 7 = .ok (.iconst 3, 1) := by decide +kernel
theorem dX3_readPair_8 : decode cX3_readPair 8 = .ok (.aload_n 1, 1) := by decide +kernel
theorem dX3_readPair_9 : decode cX3_readPair 9 = .ok (.getfield 49, 3) := by decide +kernel
theorem dX3_readPair_12 : decode cX3_readPair 12 = .ok (.invokevirtual 52, 3) := by decide +kernel
theorem dX3_readPair_15 : decode cX3_readPair 15 = .ok (.ireturn, 1) := by decide +kernel
theorem dX3_readPair_16 : decode cX3_readPair 16 = .ok (.aload_n 1, 1) := by decide +kernel
theorem dX3_readPair_17 : decode cX3_readPair 17 = .ok (.bipush 91, 2) := by decide +kernel
theorem dX3_readPair_19 : decode cX3_readPair 19 = .ok (.invokevirtual 118, 3) := by decide +kernel
theorem dX3_readPair_22 : decode cX3_readPair 22 = .ok (.ifCond .eq 47, 3) := by decide +kernel
theorem dX3_readPair_25 : decode cX3_readPair 25 = .ok (.aload_n 0, 1) := by decide +kernel
theorem dX3_readPair_26 : decode cX3_readPair 26 = .ok (.aload_n 1, 1) := by decide +kernel
theorem dX3_readPair_27 : decode cX3_readPair 27 = .ok (.iload_n 2, 1) := by decide +kernel
theorem dX3_readPair_28 : decode cX3_readPair 28 = .ok (.iconst 1, 1) := by decide +kernel
theorem dX3_readPair_29 : decode cX3_readPair 29 = .ok (.iadd, 1) := by decide +kernel
theorem dX3_readPair_30 : decode cX3_readPair 30 = .ok (.invokevirtual 39, 3) := by decide +kernel
theorem dX3_readPair_33 : decode cX3_readPair 33 = .ok (.ifCond .eq 36, 3) := by decide +kernel
theorem dX3_readPair_36 : decode cX3_readPair 36 = .ok (.aload_n 1, 1) := by decide +kernel
theorem dX3_readPair_37 : decode cX3_readPair 37 = .ok (.bipush 44, 2) := by decide +kernel
theorem dX3_readPair_39 : decode cX3_readPair 39 = .ok (.invokevirtual 118, 3) := by decide +kernel
theorem dX3_readPair_42 : decode cX3_readPair 42 = .ok (.ifCond .eq 27, 3) := by decide +kernel
theorem dX3_readPair_45 : decode cX3_readPair 45 = .ok (.aload_n 0, 1) := by decide +kernel
theorem dX3_readPair_46 : decode cX3_readPair 46 = .ok (.aload_n 1, 1) := by decide +kernel
theorem dX3_readPair_47 : decode cX3_readPair 47 = .ok (.iload_n 2, 1) := by decide +kernel
theorem dX3_readPair_48 : decode cX3_readPair 48 = .ok (.iconst 1, 1) := by decide +kernel
theorem dX3_readPair_49 : decode cX3_readPair 49 = .ok (.iadd, 1) := by decide +kernel
theorem dX3_readPair_50 : decode cX3_readPair 50 = .ok (.invokevirtual 39, 3) := by decide +kernel
theorem dX3_readPair_53 : decode cX3_readPair 53 = .ok (.ifCond .eq 16, 3) := by decide +kernel
theorem dX3_readPair_56 : decode cX3_readPair 56 = .ok (.aload_n 1, 1) := by decide +kernel
theorem dX3_readPair_57 : decode cX3_readPair 57 = .ok (.bipush 93, 2) := by decide +kernel
theorem dX3_readPair_59 : decode cX3_readPair 59 = .ok (.invokevirtual 118, 3) := by decide +kernel
theorem dX3_readPair_62 : decode cX3_readPair 62 = .ok (.ifCond .eq 7, 3) := by decide +kernel
theorem dX3_readPair_65 : decode cX3_readPair 65 = .ok (.iconst 1, 1) := by decide +kernel
theorem dX3_readPair_66 : decode cX3_readPair 66 = .ok (.goto 4, 3) := by decide +kernel
theorem dX3_readPair_69 : decode cX3_readPair 69 = .ok (.iconst 0, 1) := by decide +kernel
theorem dX3_readPair_70 : decode cX3_readPair 70 = .ok (.istore 4, 2) := by decide +kernel
theorem dX3_readPair_72 : decode cX3_readPair 72 = .ok (.iload 4, 2) := by decide +kernel
theorem dX3_readPair_74 : decode cX3_readPair 74 = .ok (.ifCond .eq 9, 3) := by decide +kernel
theorem dX3_readPair_77 : decode cX3_readPair 77 = .ok (.aload_n 0, 1) := by decide +kernel
theorem dX3_readPair_78 : decode cX3_readPair 78 = .ok (.iload_n 3, 1) := by decide +kernel
theorem dX3_readPair_79 : decode cX3_readPair 79 = .ok (.iconst 0, 1) := by decide +kernel
theorem dX3_readPair_80 : decode cX3_readPair 80 = .ok (.invokevirtual 31, 3) := by decide +kernel
theorem dX3_readPair_83 : decode cX3_readPair 83 = .ok (.iload 4, 2) := by decide +kernel
theorem dX3_readPair_85 : decode cX3_readPair 85 = .ok (.ireturn, 1) := by decide +kernel
theorem dX4_init_0 : decode cX4_init 0 = .ok (.aload_n 0, 1) := by decide +kernel
theorem dX4_init_1 : decode cX4_init 1 = .ok (.invokespecial 3, 3) := by decide +kernel
theorem dX4_init_4 : decode cX4_init 4 = .ok (.aload_n 0, 1) := by decide +kernel
theorem dX4_init_5 : decode cX4_init 5 = .ok (.sipush 256, 3) := by decide +kernel
theorem dX4_init_8 : decode cX4_init 8 = .ok (.newarray .int, 2) := by decide +kernel
theorem dX4_init_10 : decode cX4_init 10 = .ok (.putfield 9, 3) := by decide +kernel
theorem dX4_init_13 : decode cX4_init 13 = .ok (.aload_n 0, 1) := by decide +kernel
theorem dX4_init_14 : decode cX4_init 14 = .ok (.sipush 481, 3) := by decide +kernel
theorem dX4_init_17 : decode cX4_init 17 = .ok (.newarray .boolean, 2) := by decide +kernel
theorem dX4_init_19 : decode cX4_init 19 = .ok (.putfield 15, 3) := by decide +kernel
theorem dX4_init_22 : decode cX4_init 22 = .ok (.return_, 1) := by decide +kernel
theorem dX4_addUp_0 : decode cX4_addUp 0 = .ok (.iconst 0, 1) := by decide +kernel
theorem dX4_addUp_1 : decode cX4_addUp 1 = .ok (.istore_n 2, 1) := by decide +kernel
theorem dX4_addUp_2 : decode cX4_addUp 2 = .ok (.iload_n 2, 1) := by decide +kernel
theorem dX4_addUp_3 : decode cX4_addUp 3 = .ok (.aload_n 1, 1) := by decide +kernel
theorem dX4_addUp_4 : decode cX4_addUp 4 = .ok (.getfield 19, 3) := by decide +kernel
theorem dX4_addUp_7 : decode cX4_addUp 7 = .ok (.if_icmp .ge 52, 3) := by decide +kernel
theorem dX4_addUp_10 : decode cX4_addUp 10 = .ok (.iload_n 2, 1) := by decide +kernel
theorem dX4_addUp_11 : decode cX4_addUp 11 = .ok (.bipush 8, 2) := by decide +kernel
theorem dX4_addUp_13 : decode cX4_addUp 13 = .ok (.if_icmp .ge 46, 3) := by decide +kernel
theorem dX4_addUp_16 : decode cX4_addUp 16 = .ok (.iconst 0, 1) := by decide +kernel
theorem dX4_addUp_17 : decode cX4_addUp 17 = .ok (.istore_n 3, 1) := by decide +kernel
theorem dX4_addUp_18 : decode cX4_addUp 18 = .ok (.iload_n 3, 1) := by decide +kernel
theorem dX4_addUp_19 : decode cX4_addUp 19 = .ok (.iconst 1, 1) := by decide +kernel
theorem dX4_addUp_20 : decode cX4_addUp 20 = .ok (.iload_n 2, 1) := by decide +kernel
theorem dX4_addUp_21 : decode cX4_addUp 21 = .ok (.ishl, 1) := by decide +kernel
theorem dX4_addUp_22 : decode cX4_addUp 22 = .ok (.if_icmp .ge 31, 3) := by decide +kernel
theorem dX4_addUp_25 : decode cX4_addUp 25 = .ok (.aload_n 0, 1) := by decide +kernel
theorem dX4_addUp_26 : decode cX4_addUp 26 = .ok (.getfield 9, 3) := by decide +kernel
theorem dX4_addUp_29 : decode cX4_addUp 29 = .ok (.iload_n 3, 1) := by decide +kernel
theorem dX4_addUp_30 : decode cX4_addUp 30 = .ok (.iconst 1, 1) := by decide +kernel
theorem dX4_addUp_31 : decode cX4_addUp 31 = .ok (.iload_n 2, 1) := by decide +kernel
theorem dX4_addUp_32 : decode cX4_addUp 32 = .ok (.ishl, 1) := by decide +kernel
theorem dX4_addUp_33 : decode cX4_addUp 33 = .ok (.ior, 1) := by decide +kernel
theorem dX4_addUp_34 : decode cX4_addUp 34 = .ok (.aload_n 0, 1) := by decide +kernel
theorem dX4_addUp_35 : decode cX4_addUp 35 = .ok (.getfield 9, 3) := by decide +kernel
theorem dX4_addUp_38 : decode cX4_addUp 38 = .ok (.iload_n 3, 1) := by decide +kernel
theorem dX4_addUp_39 : decode cX4_addUp 39 = .ok (.iaload, 1) := by decide +kernel
theorem dX4_addUp_40 : decode cX4_addUp 40 = .ok (.aload_n 1, 1) := by decide +kernel
theorem dX4_addUp_41 : decode cX4_addUp 41 = .ok (.iload_n 2, 1) := by decide +kernel
theorem dX4_addUp_42 : decode cX4_addUp 42 = .ok (.invokevirtual 25, 3) := by decide +kernel
theorem dX4_addUp_45 : decode cX4_addUp 45 = .ok (.iadd, 1) := by decide +kernel
theorem dX4_addUp_46 : decode cX4_addUp 46 = .ok (.iastore, 1) := by decide +kernel
theorem dX4_addUp_47 : decode cX4_addUp 47 = .ok (.iinc 3 1, 3) := by decide +kernel
theorem dX4_addUp_50 : decode cX4_addUp 50 = .ok (.goto (-32), 3) := by decide +kernel
theorem dX4_addUp_53 : decode cX4_addUp 53 = .ok (.iinc 2 1, 3) := by decide +kernel
theorem dX4_addUp_56 : decode cX4_addUp 56 = .ok (.goto (-54), 3) := by decide +kernel
theorem dX4_addUp_59 : decode cX4_addUp 59 = .ok (.return_, 1) := by decide +kernel
theorem dX4_sumOf_0 : decode cX4_sumOf 0 = .ok (.iload_n 1, 1) := by decide +kernel
theorem dX4_sumOf_1 : decode cX4_sumOf 1 = .ok (.ifCond .lt 21, 3) := by decide +kernel
theorem dX4_sumOf_4 : decode cX4_sumOf 4 = .ok (.iload_n 1, 1) := by decide +kernel
theorem dX4_sumOf_5 : decode cX4_sumOf 5 = .ok (.aload_n 0, 1) := by decide +kernel
theorem dX4_sumOf_6 : decode cX4_sumOf 6 = .ok (.getfield 9, 3) := by decide +kernel
theorem dX4_sumOf_9 : decode cX4_sumOf 9 = .ok (.arraylength, 1) := by decide +kernel
theorem dX4_sumOf_10 : decode cX4_sumOf 10 = .ok (.if_icmp .ge 12, 3) := by decide +kernel
theorem dX4_sumOf_13 : decode cX4_sumOf 13 = .ok (.aload_n 0, 1) := by decide +kernel
theorem dX4_sumOf_14 : decode cX4_sumOf 14 = .ok (.getfield 9, 3) := by decide +kernel
theorem dX4_sumOf_17 : decode cX4_sumOf 17 = .ok (.iload_n 1, 1) := by decide +kernel
theorem dX4_sumOf_18 : decode cX4_sumOf 18 = .ok (.iaload, 1) := by decide +kernel
theorem dX4_sumOf_19 : decode cX4_sumOf 19 = .ok (.goto 4, 3) := by decide +kernel
theorem dX4_sumOf_22 : decode cX4_sumOf 22 = .ok (.iconst 0, 1) := by decide +kernel
theorem dX4_sumOf_23 : decode cX4_sumOf 23 = .ok (.ireturn, 1) := by decide +kernel
theorem dX4_seekAmounts_0 : decode cX4_seekAmounts 0 = .ok (.aload_n 0, 1) := by decide +kernel
theorem dX4_seekAmounts_1 : decode cX4_seekAmounts 1 = .ok (.aload_n 1, 1) := by decide +kernel
theorem dX4_seekAmounts_2 : decode cX4_seekAmounts 2 = .ok (.invokevirtual 29, 3) := by decide +kernel
theorem dX4_seekAmounts_5 : decode cX4_seekAmounts 5 = .ok (.iconst 0, 1) := by decide +kernel
theorem dX4_seekAmounts_6 : decode cX4_seekAmounts 6 = .ok (.istore_n 3, 1) := by decide +kernel
theorem dX4_seekAmounts_7 : decode cX4_seekAmounts 7 = .ok (.iload_n 3, 1) := by decide +kernel
theorem dX4_seekAmounts_8 : decode cX4_seekAmounts 8 = .ok (.aload_n 0, 1) := by decide +kernel
theorem dX4_seekAmounts_9 : decode cX4_seekAmounts 9 = .ok (.getfield 15, 3) := by decide +kernel
theorem dX4_seekAmounts_12 : decode cX4_seekAmounts 12 = .ok (.arraylength, 1) := by decide +kernel
theorem dX4_seekAmounts_13 : decode cX4_seekAmounts 13 = .ok (.if_icmp .ge 16, 3) := by decide +kernel
theorem dX4_seekAmounts_16 : decode cX4_seekAmounts 16 = .ok (.aload_n 0, 1) := by decide +kernel
theorem dX4_seekAmounts_17 : decode cX4_seekAmounts 17 = .ok (.getfield 15, 3) := by decide +kernel
theorem dX4_seekAmounts_20 : decode cX4_seekAmounts 20 = .ok (.iload_n 3, 1) := by decide +kernel
theorem dX4_seekAmounts_21 : decode cX4_seekAmounts 21 = .ok (.iconst 0, 1) := by decide +kernel
theorem dX4_seekAmounts_22 : decode cX4_seekAmounts 22 = .ok (.bastore, 1) := by decide +kernel
theorem dX4_seekAmounts_23 : decode cX4_seekAmounts 23 = .ok (.iinc 3 1, 3) := by decide +kernel
theorem dX4_seekAmounts_26 : decode cX4_seekAmounts 26 = .ok (.goto (-19), 3) := by decide +kernel
theorem dX4_seekAmounts_29 : decode cX4_seekAmounts 29 = .ok (.iload_n 2, 1) := by decide +kernel
theorem dX4_seekAmounts_30 : decode cX4_seekAmounts 30 = .ok (.istore_n 3, 1) := by decide +kernel
theorem dX4_seekAmounts_31 : decode cX4_seekAmounts 31 = .ok (.iload_n 3, 1) := by decide +kernel
theorem dX4_seekAmounts_32 : decode cX4_seekAmounts 32 = .ok (.ifCond .le 70, 3) := by decide +kernel
theorem dX4_seekAmounts_35 : decode cX4_seekAmounts 35 = .ok (.iload_n 3, 1) := by decide +kernel
theorem dX4_seekAmounts_36 : decode cX4_seekAmounts 36 = .ok (.istore 4, 2) := by decide +kernel
theorem dX4_seekAmounts_38 : decode cX4_seekAmounts 38 = .ok (.iload 4, 2) := by decide +kernel
theorem dX4_seekAmounts_40 : decode cX4_seekAmounts 40 = .ok (.ifCond .le 53, 3) := by decide +kernel
theorem dX4_seekAmounts_43 : decode cX4_seekAmounts 43 = .ok (.iconst 2, 1) := by decide +kernel
theorem dX4_seekAmounts_44 : decode cX4_seekAmounts 44 = .ok (.aload_n 0, 1) := by decide +kernel
theorem dX4_seekAmounts_45 : decode cX4_seekAmounts 45 = .ok (.iload 4, 2) := by decide +kernel
theorem dX4_seekAmounts_47 : decode cX4_seekAmounts 47 = .ok (.invokevirtual 33, 3) := by decide +kernel
theorem dX4_seekAmounts_50 : decode cX4_seekAmounts 50 = .ok (.imul, 1) := by decide +kernel
theorem dX4_seekAmounts_51 : decode cX4_seekAmounts 51 = .ok (.aload_n 0, 1) := by decide +kernel
theorem dX4_seekAmounts_52 : decode cX4_seekAmounts 52 = .ok (.iload_n 3, 1) := by decide +kernel
theorem dX4_seekAmounts_53 : decode cX4_seekAmounts 53 = .ok (.invokevirtual 33, 3) := by decide +kernel
theorem dX4_seekAmounts_56 : decode cX4_seekAmounts 56 = .ok (.isub, 1) := by decide +kernel
theorem dX4_seekAmounts_57 : decode cX4_seekAmounts 57 = .ok (.istore 5, 2) := by decide +kernel
theorem dX4_seekAmounts_59 : decode cX4_seekAmounts 59 = .ok (.iload 5, 2) := by decide +kernel
theorem dX4_seekAmounts_61 : decode cX4_seekAmounts 61 = .ok (.ifCond .le 21, 3) := by decide +kernel
theorem dX4_seekAmounts_64 : decode cX4_seekAmounts 64 = .ok (.iload 5, 2) := by decide +kernel
theorem dX4_seekAmounts_66 : decode cX4_seekAmounts 66 = .ok (.aload_n 0, 1) := by decide +kernel
theorem dX4_seekAmounts_67 : decode cX4_seekAmounts 67 = .ok (.getfield 15, 3) := by decide +kernel
theorem dX4_seekAmounts_70 : decode cX4_seekAmounts 70 = .ok (.arraylength, 1) := by decide +kernel
theorem dX4_seekAmounts_71 : decode cX4_seekAmounts 71 = .ok (.if_icmp .ge 11, 3) := by decide +kernel
theorem dX4_seekAmounts_74 : decode cX4_seekAmounts 74 = .ok (.aload_n 0, 1) := by decide +kernel
theorem dX4_seekAmounts_75 : decode cX4_seekAmounts 75 = .ok (.getfield 15, 3) := by decide +kernel
theorem dX4_seekAmounts_78 : decode cX4_seekAmounts 78 = .ok (.iload 5, 2) := by decide +kernel
theorem dX4_seekAmounts_80 : decode cX4_seekAmounts 80 = .ok (.iconst 1, 1) := by decide +kernel
theorem dX4_seekAmounts_81 : decode cX4_seekAmounts 81 = .ok (.bastore, 1) := by decide +kernel
theorem dX4_seekAmounts_82 : decode cX4_seekAmounts 82 = .ok (.iload 4, 2) := by decide +kernel
theorem dX4_seekAmounts_84 : decode cX4_seekAmounts 84 = .ok (.iconst 1, 1) := by decide +kernel
theorem dX4_seekAmounts_85 : decode cX4_seekAmounts 85 = .ok (.isub, 1) := by decide +kernel
theorem dX4_seekAmounts_86 : decode cX4_seekAmounts 86 = .ok (.iload_n 3, 1) := by decide +kernel
theorem dX4_seekAmounts_87 : decode cX4_seekAmounts 87 = .ok (.iand, 1) := by decide +kernel
theorem dX4_seekAmounts_88 : decode cX4_seekAmounts 88 = .ok (.istore 4, 2) := by decide +kernel
theorem dX4_seekAmounts_90 : decode cX4_seekAmounts 90 = .ok (.goto (-52), 3) := by decide +kernel
theorem dX4_seekAmounts_93 : decode cX4_seekAmounts 93 = .ok (.iload_n 3, 1) := by decide +kernel
theorem dX4_seekAmounts_94 : decode cX4_seekAmounts 94 = .ok (.iconst 1, 1) := by decide +kernel
theorem dX4_seekAmounts_95 : decode cX4_seekAmounts 95 = .ok (.isub, 1) := by decide +kernel
theorem dX4_seekAmounts_96 : decode cX4_seekAmounts 96 = .ok (.iload_n 2, 1) := by decide +kernel
theorem dX4_seekAmounts_97 : decode cX4_seekAmounts 97 = .ok (.iand, 1) := by decide +kernel
theorem dX4_seekAmounts_98 : decode cX4_seekAmounts 98 = .ok (.istore_n 3, 1) := by decide +kernel
theorem dX4_seekAmounts_99 : decode cX4_seekAmounts 99 = .ok (.goto (-68), 3) := by decide +kernel
theorem dX4_seekAmounts_102 : decode cX4_seekAmounts 102 = .ok (.return_, 1) := by decide +kernel
theorem dX4_amounts_0 : decode cX4_amounts 0 = .ok (.iconst 0, 1) := by decide +kernel
theorem dX4_amounts_1 : decode cX4_amounts 1 = .ok (.istore_n 1, 1) := by decide +kernel
theorem dX4_amounts_2 : decode cX4_amounts 2 = .ok (.iconst 1, 1) := by decide +kernel
theorem dX4_amounts_3 : decode cX4_amounts 3 = .ok (.istore_n 2, 1) := by decide +kernel
theorem dX4_amounts_4 : decode cX4_amounts 4 = .ok (.iload_n 2, 1) := by decide +kernel
theorem dX4_amounts_5 : decode cX4_amounts 5 = .ok (.aload_n 0, 1) := by decide +kernel
theorem dX4_amounts_6 : decode cX4_amounts 6 = .ok (.getfield 15, 3) := by decide +kernel
theorem dX4_amounts_9 : decode cX4_amounts 9 = .ok (.arraylength, 1) := by decide +kernel
theorem dX4_amounts_10 : decode cX4_amounts 10 = .ok (.if_icmp .ge 26, 3) := by decide +kernel
theorem dX4_amounts_13 : decode cX4_amounts 13 = .ok (.iload_n 1, 1) := by decide +kernel
theorem dX4_amounts_14 : decode cX4_amounts 14 = .ok (.aload_n 0, 1) := by decide +kernel
theorem dX4_amounts_15 : decode cX4_amounts 15 = .ok (.getfield 15, 3) := by decide +kernel
theorem dX4_amounts_18 : decode cX4_amounts 18 = .ok (.iload_n 2, 1) := by decide +kernel
theorem dX4_amounts_19 : decode cX4_amounts 19 = .ok (.baload, 1) := by decide +kernel
theorem dX4_amounts_20 : decode cX4_amounts 20 = .ok (.ifCond .eq 7, 3) := by decide +kernel
theorem dX4_amounts_23 : decode cX4_amounts 23 = .ok (.iconst 1, 1) := by decide +kernel
theorem dX4_amounts_24 : decode cX4_amounts 24 = .ok (.goto 4, 3) := by decide +kernel
theorem dX4_amounts_27 : decode cX4_amounts 27 = .ok (.iconst 0, 1) := by decide +kernel
theorem dX4_amounts_28 : decode cX4_amounts 28 = .ok (.iadd, 1) := by decide +kernel
theorem dX4_amounts_29 : decode cX4_amounts 29 = .ok (.istore_n 1, 1) := by decide +kernel
theorem dX4_amounts_30 : decode cX4_amounts 30 = .ok (.iinc 2 1, 3) := by decide +kernel
theorem dX4_amounts_33 : decode cX4_amounts 33 = .ok (.goto (-29), 3) := by decide +kernel
theorem dX4_amounts_36 : decode cX4_amounts 36 = .ok (.iload_n 1, 1) := by decide +kernel
theorem dX4_amounts_37 : decode cX4_amounts 37 = .ok (.ireturn, 1) := by decide +kernel
theorem dX4_gap_0 : decode cX4_gap 0 = .ok (.iconst 1, 1) := by decide +kernel
theorem dX4_gap_1 : decode cX4_gap 1 = .ok (.istore_n 1, 1) := by decide +kernel
theorem dX4_gap_2 : decode cX4_gap 2 = .ok (.iload_n 1, 1) := by decide +kernel
theorem dX4_gap_3 : decode cX4_gap 3 = .ok (.aload_n 0, 1) := by decide +kernel
theorem dX4_gap_4 : decode cX4_gap 4 = .ok (.getfield 15, 3) := by decide +kernel
theorem dX4_gap_7 : decode cX4_gap 7 = .ok (.arraylength, 1) := by decide +kernel
theorem dX4_gap_8 : decode cX4_gap 8 = .ok (.if_icmp .ge 20, 3) := by decide +kernel
theorem dX4_gap_11 : decode cX4_gap 11 = .ok (.aload_n 0, 1) := by decide +kernel
theorem dX4_gap_12 : decode cX4_gap 12 = .ok (.getfield 15, 3) := by decide +kernel
theorem dX4_gap_15 : decode cX4_gap 15 = .ok (.iload_n 1, 1) := by decide +kernel
theorem dX4_gap_16 : decode cX4_gap 16 = .ok (.baload, 1) := by decide +kernel
theorem dX4_gap_17 : decode cX4_gap 17 = .ok (.ifCond .ne 5, 3) := by decide +kernel
theorem dX4_gap_20 : decode cX4_gap 20 = .ok (.iload_n 1, 1) := by decide +kernel
theorem dX4_gap_21 : decode cX4_gap 21 = .ok (.ireturn, 1) := by decide +kernel
theorem dX4_gap_22 : decode cX4_gap 22 = .ok (.iinc 1 1, 3) := by decide +kernel
theorem dX4_gap_25 : decode cX4_gap 25 = .ok (.goto (-23), 3) := by decide +kernel
theorem dX4_gap_28 : decode cX4_gap 28 = .ok (.aload_n 0, 1) := by decide +kernel
theorem dX4_gap_29 : decode cX4_gap 29 = .ok (.getfield 15, 3) := by decide +kernel
theorem dX4_gap_32 : decode cX4_gap 32 = .ok (.arraylength, 1) := by decide +kernel
theorem dX4_gap_33 : decode cX4_gap 33 = .ok (.ireturn, 1) := by decide +kernel
theorem dX4_fewestFor_0 : decode cX4_fewestFor 0 = .ok (.aload_n 0, 1) := by decide +kernel
theorem dX4_fewestFor_1 : decode cX4_fewestFor 1 = .ok (.aload_n 1, 1) := by decide +kernel
theorem dX4_fewestFor_2 : decode cX4_fewestFor 2 = .ok (.invokevirtual 29, 3) := by decide +kernel
theorem dX4_fewestFor_5 : decode cX4_fewestFor 5 = .ok (.iconst (-1), 1) := by decide +kernel
theorem dX4_fewestFor_6 : decode cX4_fewestFor 6 = .ok (.istore_n 3, 1) := by decide +kernel
theorem dX4_fewestFor_7 : decode cX4_fewestFor 7 = .ok (.iconst 1, 1) := by decide +kernel
theorem dX4_fewestFor_8 : decode cX4_fewestFor 8 = .ok (.istore 4, 2) := by decide +kernel
theorem dX4_fewestFor_10 : decode cX4_fewestFor 10 = .ok (.iload 4, 2) := by decide +kernel
theorem dX4_fewestFor_12 : decode cX4_fewestFor 12 = .ok (.iconst 1, 1) := by decide +kernel
theorem dX4_fewestFor_13 : decode cX4_fewestFor 13 = .ok (.aload_n 1, 1) := by decide +kernel
theorem dX4_fewestFor_14 : decode cX4_fewestFor 14 = .ok (.getfield 19, 3) := by decide +kernel
theorem dX4_fewestFor_17 : decode cX4_fewestFor 17 = .ok (.ishl, 1) := by decide +kernel
theorem dX4_fewestFor_18 : decode cX4_fewestFor 18 = .ok (.if_icmp .ge 51, 3) := by decide +kernel
theorem dX4_fewestFor_21 : decode cX4_fewestFor 21 = .ok (.iload_n 3, 1) := by decide +kernel
theorem dX4_fewestFor_22 : decode cX4_fewestFor 22 = .ok (.iconst (-1), 1) := by decide +kernel
theorem dX4_fewestFor_23 : decode cX4_fewestFor 23 = .ok (.if_icmp .eq 15, 3) := by decide +kernel
theorem dX4_fewestFor_26 : decode cX4_fewestFor 26 = .ok (.iload 4, 2) := by decide +kernel
theorem dX4_fewestFor_28 : decode cX4_fewestFor 28 = .ok (.invokestatic 36, 3) := by decide +kernel
theorem dX4_fewestFor_31 : decode cX4_fewestFor 31 = .ok (.iload_n 3, 1) := by decide +kernel
theorem dX4_fewestFor_32 : decode cX4_fewestFor 32 = .ok (.invokestatic 36, 3) := by decide +kernel
theorem dX4_fewestFor_35 : decode cX4_fewestFor 35 = .ok (.if_icmp .ge 7, 3) := by decide +kernel
theorem dX4_fewestFor_38 : decode cX4_fewestFor 38 = .ok (.iconst 1, 1) := by decide +kernel
theorem dX4_fewestFor_39 : decode cX4_fewestFor 39 = .ok (.goto 4, 3) := by decide +kernel
theorem dX4_fewestFor_42 : decode cX4_fewestFor 42 = .ok (.iconst 0, 1) := by decide +kernel
theorem dX4_fewestFor_43 : decode cX4_fewestFor 43 = .ok (.istore 5, 2) := by decide +kernel
theorem dX4_fewestFor_45 : decode cX4_fewestFor 45 = .ok (.iload 5, 2) := by decide +kernel
theorem dX4_fewestFor_47 : decode cX4_fewestFor 47 = .ok (.ifCond .eq 16, 3) := by decide +kernel
theorem dX4_fewestFor_50 : decode cX4_fewestFor 50 = .ok (.aload_n 0, 1) := by decide +kernel
theorem dX4_fewestFor_51 : decode cX4_fewestFor 51 = .ok (.iload 4, 2) := by decide +kernel
theorem dX4_fewestFor_53 : decode cX4_fewestFor 53 = .ok (.iload_n 2, 1) := by decide +kernel
theorem dX4_fewestFor_54 : decode cX4_fewestFor 54 = .ok (.invokevirtual 41, 3) := by decide +kernel
theorem dX4_fewestFor_57 : decode cX4_fewestFor 57 = .ok (.ifCond .eq 6, 3) := by decide +kernel
theorem dX4_fewestFor_60 : decode cX4_fewestFor 60 = .ok (.iload 4, 2) := by decide +kernel
theorem dX4_fewestFor_62 : decode cX4_fewestFor 62 = .ok (.istore_n 3, 1) := by decide +kernel
theorem dX4_fewestFor_63 : decode cX4_fewestFor 63 = .ok (.iinc 4 1, 3) := by decide +kernel
theorem dX4_fewestFor_66 : decode cX4_fewestFor 66 = .ok (.goto (-56), 3) := by decide +kernel
theorem dX4_fewestFor_69 : decode cX4_fewestFor 69 = .ok (.iload_n 3, 1) := by decide +kernel
theorem dX4_fewestFor_70 : decode cX4_fewestFor 70 = .ok (.ireturn, 1) := by decide +kernel
theorem dX4_makes_0 : decode cX4_makes 0 = .ok (.iload_n 1, 1) := by decide +kernel
theorem dX4_makes_1 : decode cX4_makes 1 = .ok (.istore_n 3, 1) := by decide +kernel
theorem dX4_makes_2 : decode cX4_makes 2 = .ok (.iload_n 3, 1) := by decide +kernel
theorem dX4_makes_3 : decode cX4_makes 3 = .ok (.ifCond .le 31, 3) := by decide +kernel
theorem dX4_makes_6 : decode cX4_makes 6 = .ok (.iconst 2, 1) := by decide +kernel
theorem dX4_makes_7 : decode cX4_makes 7 = .ok (.aload_n 0, 1) := by decide +kernel
theorem dX4_makes_8 : decode cX4_makes 8 = .ok (.iload_n 3, 1) := by decide +kernel
theorem dX4_makes_9 : decode cX4_makes 9 = .ok (.invokevirtual 33, 3) := by decide +kernel
theorem dX4_makes_12 : decode cX4_makes 12 = .ok (.imul, 1) := by decide +kernel
theorem dX4_makes_13 : decode cX4_makes 13 = .ok (.aload_n 0, 1) := by decide +kernel
theorem dX4_makes_14 : decode cX4_makes 14 = .ok (.iload_n 1, 1) := by decide +kernel
theorem dX4_makes_15 : decode cX4_makes 15 = .ok (.invokevirtual 33, 3) := by decide +kernel
theorem dX4_makes_18 : decode cX4_makes 18 = .ok (.isub, 1) := by decide +kernel
theorem dX4_makes_19 : decode cX4_makes 19 = .ok (.iload_n 2, 1) := by decide +kernel
theorem dX4_makes_20 : decode cX4_makes 20 = .ok (.if_icmp .ne 5, 3) := by decide +kernel
theorem dX4_makes_23 : decode cX4_makes 23 = .ok (.iconst 1, 1) := by decide +kernel
theorem dX4_makes_24 : decode cX4_makes 24 = .ok (.ireturn, 1) := by decide +kernel
theorem dX4_makes_25 : decode cX4_makes 25 = .ok (.iload_n 3, 1) := by decide +kernel
theorem dX4_makes_26 : decode cX4_makes 26 = .ok (.iconst 1, 1) := by decide +kernel
theorem dX4_makes_27 : decode cX4_makes 27 = .ok (.isub, 1) := by decide +kernel
theorem dX4_makes_28 : decode cX4_makes 28 = .ok (.iload_n 1, 1) := by decide +kernel
theorem dX4_makes_29 : decode cX4_makes 29 = .ok (.iand, 1) := by decide +kernel
theorem dX4_makes_30 : decode cX4_makes 30 = .ok (.istore_n 3, 1) := by decide +kernel
theorem dX4_makes_31 : decode cX4_makes 31 = .ok (.goto (-29), 3) := by decide +kernel
theorem dX4_makes_34 : decode cX4_makes 34 = .ok (.iconst 0, 1) := by decide +kernel
theorem dX4_makes_35 : decode cX4_makes 35 = .ok (.ireturn, 1) := by decide +kernel
theorem dX4_layLevel_0 : decode cX4_layLevel 0 = .ok (.aload_n 0, 1) := by decide +kernel
theorem dX4_layLevel_1 : decode cX4_layLevel 1 = .ok (.aload_n 1, 1) := by decide +kernel
theorem dX4_layLevel_2 : decode cX4_layLevel 2 = .ok (.invokevirtual 29, 3) := by decide +kernel
theorem dX4_layLevel_5 : decode cX4_layLevel 5 = .ok (.aload_n 0, 1) := by decide +kernel
theorem dX4_layLevel_6 : decode cX4_layLevel 6 = .ok (.iconst 0, 1) := by decide +kernel
theorem dX4_layLevel_7 : decode cX4_layLevel 7 = .ok (.putfield 45, 3) := by decide +kernel
theorem dX4_layLevel_10 : decode cX4_layLevel 10 = .ok (.aload_n 0, 1) := by decide +kernel
theorem dX4_layLevel_11 : decode cX4_layLevel 11 = .ok (.iconst 0, 1) := by decide +kernel
theorem dX4_layLevel_12 : decode cX4_layLevel 12 = .ok (.putfield 48, 3) := by decide +kernel
theorem dX4_layLevel_15 : decode cX4_layLevel 15 = .ok (.iload_n 2, 1) := by decide +kernel
theorem dX4_layLevel_16 : decode cX4_layLevel 16 = .ok (.iload_n 2, 1) := by decide +kernel
theorem dX4_layLevel_17 : decode cX4_layLevel 17 = .ok (.ineg, 1) := by decide +kernel
theorem dX4_layLevel_18 : decode cX4_layLevel 18 = .ok (.iand, 1) := by decide +kernel
theorem dX4_layLevel_19 : decode cX4_layLevel 19 = .ok (.istore_n 3, 1) := by decide +kernel
theorem dX4_layLevel_20 : decode cX4_layLevel 20 = .ok (.iload_n 2, 1) := by decide +kernel
theorem dX4_layLevel_21 : decode cX4_layLevel 21 = .ok (.istore 4, 2) := by decide +kernel
theorem dX4_layLevel_23 : decode cX4_layLevel 23 = .ok (.iload 4, 2) := by decide +kernel
theorem dX4_layLevel_25 : decode cX4_layLevel 25 = .ok (.ifCond .le 68, 3) := by decide +kernel
theorem dX4_layLevel_28 : decode cX4_layLevel 28 = .ok (.iconst 2, 1) := by decide +kernel
theorem dX4_layLevel_29 : decode cX4_layLevel 29 = .ok (.aload_n 0, 1) := by decide +kernel
theorem dX4_layLevel_30 : decode cX4_layLevel 30 = .ok (.iload 4, 2) := by decide +kernel
theorem dX4_layLevel_32 : decode cX4_layLevel 32 = .ok (.invokevirtual 33, 3) := by decide +kernel
theorem dX4_layLevel_35 : decode cX4_layLevel 35 = .ok (.imul, 1) := by decide +kernel
theorem dX4_layLevel_36 : decode cX4_layLevel 36 = .ok (.aload_n 0, 1) := by decide +kernel
theorem dX4_layLevel_37 : decode cX4_layLevel 37 = .ok (.iload_n 2, 1) := by decide +kernel
theorem dX4_layLevel_38 : decode cX4_layLevel 38 = .ok (.invokevirtual 33, 3) := by decide +kernel
theorem dX4_layLevel_41 : decode cX4_layLevel 41 = .ok (.isub, 1) := by decide +kernel
theorem dX4_layLevel_42 : decode cX4_layLevel 42 = .ok (.invokestatic 51, 3) := by decide +kernel
theorem dX4_layLevel_45 : decode cX4_layLevel 45 = .ok (.istore 5, 2) := by decide +kernel
theorem dX4_layLevel_47 : decode cX4_layLevel 47 = .ok (.iload 4, 2) := by decide +kernel
theorem dX4_layLevel_49 : decode cX4_layLevel 49 = .ok (.iload_n 3, 1) := by decide +kernel
theorem dX4_layLevel_50 : decode cX4_layLevel 50 = .ok (.iand, 1) := by decide +kernel
theorem dX4_layLevel_51 : decode cX4_layLevel 51 = .ok (.ifCond .eq 31, 3) := by decide +kernel
theorem dX4_layLevel_54 : decode cX4_layLevel 54 = .ok (.aload_n 0, 1) := by decide +kernel
theorem dX4_layLevel_55 : decode cX4_layLevel 55 = .ok (.getfield 48, 3) := by decide +kernel
theorem dX4_layLevel_58 : decode cX4_layLevel 58 = .ok (.ifCond .eq 12, 3) := by decide +kernel
theorem dX4_layLevel_61 : decode cX4_layLevel 61 = .ok (.iload 5, 2) := by decide +kernel
theorem dX4_layLevel_63 : decode cX4_layLevel 63 = .ok (.aload_n 0, 1) := by decide +kernel
theorem dX4_layLevel_64 : decode cX4_layLevel 64 = .ok (.getfield 45, 3) := by decide +kernel
theorem dX4_layLevel_67 : decode cX4_layLevel 67 = .ok (.if_icmp .gt 15, 3) := by decide +kernel
theorem dX4_layLevel_70 : decode cX4_layLevel 70 = .ok (.aload_n 0, 1) := by decide +kernel
theorem dX4_layLevel_71 : decode cX4_layLevel 71 = .ok (.iload 5, 2) := by decide +kernel
theorem dX4_layLevel_73 : decode cX4_layLevel 73 = .ok (.putfield 45, 3) := by decide +kernel
theorem dX4_layLevel_76 : decode cX4_layLevel 76 = .ok (.aload_n 0, 1) := by decide +kernel
theorem dX4_layLevel_77 : decode cX4_layLevel 77 = .ok (.iload 4, 2) := by decide +kernel
theorem dX4_layLevel_79 : decode cX4_layLevel 79 = .ok (.putfield 48, 3) := by decide +kernel
theorem dX4_layLevel_82 : decode cX4_layLevel 82 = .ok (.iload 4, 2) := by decide +kernel
theorem dX4_layLevel_84 : decode cX4_layLevel 84 = .ok (.iconst 1, 1) := by decide +kernel
theorem dX4_layLevel_85 : decode cX4_layLevel 85 = .ok (.isub, 1) := by decide +kernel
theorem dX4_layLevel_86 : decode cX4_layLevel 86 = .ok (.iload_n 2, 1) := by decide +kernel
theorem dX4_layLevel_87 : decode cX4_layLevel 87 = .ok (.iand, 1) := by decide +kernel
theorem dX4_layLevel_88 : decode cX4_layLevel 88 = .ok (.istore 4, 2) := by decide +kernel
theorem dX4_layLevel_90 : decode cX4_layLevel 90 = .ok (.goto (-67), 3) := by decide +kernel
theorem dX4_layLevel_93 : decode cX4_layLevel 93 = .ok (.return_, 1) := by decide +kernel
theorem dX4_shareBound_0 : decode cX4_shareBound 0 = .ok (.iconst 0, 1) := by decide +kernel
theorem dX4_shareBound_1 : decode cX4_shareBound 1 = .ok (.istore 4, 2) := by decide +kernel
theorem dX4_shareBound_3 : decode cX4_shareBound 3 = .ok (.iconst 1, 1) := by decide +kernel
theorem dX4_shareBound_4 : decode cX4_shareBound 4 = .ok (.istore 5, 2) := by decide +kernel
theorem dX4_shareBound_6 : decode cX4_shareBound 6 = .ok (.iload 5, 2) := by decide +kernel
theorem dX4_shareBound_8 : decode cX4_shareBound 8 = .ok (.bipush 60, 2) := by decide +kernel
theorem dX4_shareBound_10 : decode cX4_shareBound 10 = .ok (.if_icmp .gt 29, 3) := by decide +kernel
theorem dX4_shareBound_13 : decode cX4_shareBound 13 = .ok (.aload_n 1, 1) := by decide +kernel
theorem dX4_shareBound_14 : decode cX4_shareBound 14 = .ok (.iload_n 2, 1) := by decide +kernel
theorem dX4_shareBound_15 : decode cX4_shareBound 15 = .ok (.iload 5, 2) := by decide +kernel
theorem dX4_shareBound_17 : decode cX4_shareBound 17 = .ok (.invokestatic 56, 3) := by decide +kernel
theorem dX4_shareBound_20 : decode cX4_shareBound 20 = .ok (.iload_n 3, 1) := by decide +kernel
theorem dX4_shareBound_21 : decode cX4_shareBound 21 = .ok (.if_icmp .gt 8, 3) := by decide +kernel
theorem dX4_shareBound_24 : decode cX4_shareBound 24 = .ok (.iload 5, 2) := by decide +kernel
theorem dX4_shareBound_26 : decode cX4_shareBound 26 = .ok (.goto 5, 3) := by decide +kernel
theorem dX4_shareBound_29 : decode cX4_shareBound 29 = .ok (.iload 4, 2) := by decide +kernel
theorem dX4_shareBound_31 : decode cX4_shareBound 31 = .ok (.istore 4, 2) := by decide +kernel
theorem dX4_shareBound_33 : decode cX4_shareBound 33 = .ok (.iinc 5 1, 3) := by decide +kernel
theorem dX4_shareBound_36 : decode cX4_shareBound 36 = .ok (.goto (-30), 3) := by decide +kernel
theorem dX4_shareBound_39 : decode cX4_shareBound 39 = .ok (.iload 4, 2) := by decide +kernel
theorem dX4_shareBound_41 : decode cX4_shareBound 41 = .ok (.ireturn, 1) := by decide +kernel
theorem dX4_givenBy_0 : decode cX4_givenBy 0 = .ok (.iconst 0, 1) := by decide +kernel
theorem dX4_givenBy_1 : decode cX4_givenBy 1 = .ok (.istore_n 3, 1) := by decide +kernel
theorem dX4_givenBy_2 : decode cX4_givenBy 2 = .ok (.iconst 0, 1) := by decide +kernel
theorem dX4_givenBy_3 : decode cX4_givenBy 3 = .ok (.istore 4, 2) := by decide +kernel
theorem dX4_givenBy_5 : decode cX4_givenBy 5 = .ok (.iload 4, 2) := by decide +kernel
theorem dX4_givenBy_7 : decode cX4_givenBy 7 = .ok (.aload_n 0, 1) := by decide +kernel
theorem dX4_givenBy_8 : decode cX4_givenBy 8 = .ok (.getfield 19, 3) := by decide +kernel
theorem dX4_givenBy_11 : decode cX4_givenBy 11 = .ok (.if_icmp .ge 35, 3) := by decide +kernel
theorem dX4_givenBy_14 : decode cX4_givenBy 14 = .ok (.iload_n 3, 1) := by decide +kernel
theorem dX4_givenBy_15 : decode cX4_givenBy 15 = .ok (.iload_n 1, 1) := by decide +kernel
theorem dX4_givenBy_16 : decode cX4_givenBy 16 = .ok (.iload 4, 2) := by decide +kernel
theorem dX4_givenBy_18 : decode cX4_givenBy 18 = .ok (.ishr, 1) := by decide +kernel
theorem dX4_givenBy_19 : decode cX4_givenBy 19 = .ok (.iconst 1, 1) := by decide +kernel
theorem dX4_givenBy_20 : decode cX4_givenBy 20 = .ok (.iand, 1) := by decide +kernel
theorem dX4_givenBy_21 : decode cX4_givenBy 21 = .ok (.ifCond .eq 16, 3) := by decide +kernel
theorem dX4_givenBy_24 : decode cX4_givenBy 24 = .ok (.aload_n 0, 1) := by decide +kernel
theorem dX4_givenBy_25 : decode cX4_givenBy 25 = .ok (.iload 4, 2) := by decide +kernel
theorem dX4_givenBy_27 : decode cX4_givenBy 27 = .ok (.invokevirtual 25, 3) := by decide +kernel
theorem dX4_givenBy_30 : decode cX4_givenBy 30 = .ok (.iload_n 2, 1) := by decide +kernel
theorem dX4_givenBy_31 : decode cX4_givenBy 31 = .ok (.invokestatic 60, 3) := by decide +kernel
theorem dX4_givenBy_34 : decode cX4_givenBy 34 = .ok (.goto 4, 3) := by decide +kernel
theorem dX4_givenBy_37 : decode cX4_givenBy 37 = .ok (.iconst 0, 1) := by decide +kernel
theorem dX4_givenBy_38 : decode cX4_givenBy 38 = .ok (.iadd, 1) := by decide +kernel
theorem dX4_givenBy_39 : decode cX4_givenBy 39 = .ok (.istore_n 3, 1) := by decide +kernel
theorem dX4_givenBy_40 : decode cX4_givenBy 40 = .ok (.iinc 4 1, 3) := by decide +kernel
theorem dX4_givenBy_43 : decode cX4_givenBy 43 = .ok (.goto (-38), 3) := by decide +kernel
theorem dX4_givenBy_46 : decode cX4_givenBy 46 = .ok (.iload_n 3, 1) := by decide +kernel
theorem dX4_givenBy_47 : decode cX4_givenBy 47 = .ok (.ireturn, 1) := by decide +kernel
theorem dX5_init_0 : decode cX5_init 0 = .ok (.aload_n 0, 1) := by decide +kernel
theorem dX5_init_1 : decode cX5_init 1 = .ok (.invokespecial 7, 3) := by decide +kernel
theorem dX5_init_4 : decode cX5_init 4 = .ok (.aload_n 0, 1) := by decide +kernel
theorem dX5_init_5 : decode cX5_init 5 = .ok (.sipush 960, 3) := by decide +kernel
theorem dX5_init_8 : decode cX5_init 8 = .ok (.newarray .int, 2) := by decide +kernel
theorem dX5_init_10 : decode cX5_init 10 = .ok (.putfield 13, 3) := by decide +kernel
theorem dX5_init_13 : decode cX5_init 13 = .ok (.aload_n 0, 1) := by decide +kernel
theorem dX5_init_14 : decode cX5_init 14 = .ok (.sipush 3060, 3) := by decide +kernel
theorem dX5_init_17 : decode cX5_init 17 = .ok (.newarray .int, 2) := by decide +kernel
theorem dX5_init_19 : decode cX5_init 19 = .ok (.putfield 17, 3) := by decide +kernel
theorem dX5_init_22 : decode cX5_init 22 = .ok (.aload_n 0, 1) := by decide +kernel
theorem dX5_init_23 : decode cX5_init 23 = .ok (.iconst 3, 1) := by decide +kernel
theorem dX5_init_24 : decode cX5_init 24 = .ok (.newarray .int, 2) := by decide +kernel
theorem dX5_init_26 : decode cX5_init 26 = .ok (.putfield 20, 3) := by decide +kernel
theorem dX5_init_29 : decode cX5_init 29 = .ok (.return_, 1) := by decide +kernel
theorem dX5_forget_0 : decode cX5_forget 0 = .ok (.aload_n 0, 1) := by decide +kernel
theorem dX5_forget_1 : decode cX5_forget 1 = .ok (.iconst 0, 1) := by decide +kernel
theorem dX5_forget_2 : decode cX5_forget 2 = .ok (.putfield 23, 3) := by decide +kernel
theorem dX5_forget_5 : decode cX5_forget 5 = .ok (.aload_n 0, 1) := by decide +kernel
theorem dX5_forget_6 : decode cX5_forget 6 = .ok (.iconst 0, 1) := by decide +kernel
theorem dX5_forget_7 : decode cX5_forget 7 = .ok (.putfield 27, 3) := by decide +kernel
theorem dX5_forget_10 : decode cX5_forget 10 = .ok (.return_, 1) := by decide +kernel
theorem dX5_keep_0 : decode cX5_keep 0 = .ok (.aload_n 0, 1) := by decide +kernel
theorem dX5_keep_1 : decode cX5_keep 1 = .ok (.getfield 23, 3) := by decide +kernel
theorem dX5_keep_4 : decode cX5_keep 4 = .ok (.ifCond .lt 37, 3) := by decide +kernel
theorem dX5_keep_7 : decode cX5_keep 7 = .ok (.aload_n 0, 1) := by decide +kernel
theorem dX5_keep_8 : decode cX5_keep 8 = .ok (.getfield 23, 3) := by decide +kernel
theorem dX5_keep_11 : decode cX5_keep 11 = .ok (.bipush 16, 2) := by decide +kernel
theorem dX5_keep_13 : decode cX5_keep 13 = .ok (.if_icmp .ge 28, 3) := by decide +kernel
theorem dX5_keep_16 : decode cX5_keep 16 = .ok (.aload_n 1, 1) := by decide +kernel
theorem dX5_keep_17 : decode cX5_keep 17 = .ok (.aload_n 0, 1) := by decide +kernel
theorem dX5_keep_18 : decode cX5_keep 18 = .ok (.getfield 13, 3) := by decide +kernel
theorem dX5_keep_21 : decode cX5_keep 21 = .ok (.aload_n 0, 1) := by decide +kernel
theorem dX5_keep_22 : decode cX5_keep 22 = .ok (.getfield 23, 3) := by decide +kernel
theorem dX5_keep_25 : decode cX5_keep 25 = .ok (.bipush 60, 2) := by decide +kernel
theorem dX5_keep_27 : decode cX5_keep 27 = .ok (.imul, 1) := by decide +kernel
theorem dX5_keep_28 : decode cX5_keep 28 = .ok (.invokevirtual 30, 3) := by decide +kernel
theorem dX5_keep_31 : decode cX5_keep 31 = .ok (.aload_n 0, 1) := by decide +kernel
theorem dX5_keep_32 : decode cX5_keep 32 = .ok (.dup, 1) := by decide +kernel
theorem dX5_keep_33 : decode cX5_keep 33 = .ok (.getfield 23, 3) := by decide +kernel
theorem dX5_keep_36 : decode cX5_keep 36 = .ok (.iconst 1, 1) := by decide +kernel
theorem dX5_keep_37 : decode cX5_keep 37 = .ok (.iadd, 1) := by decide +kernel
theorem dX5_keep_38 : decode cX5_keep 38 = .ok (.putfield 23, 3) := by decide +kernel
theorem dX5_keep_41 : decode cX5_keep 41 = .ok (.return_, 1) := by decide +kernel
theorem dX5_takeBack_0 : decode cX5_takeBack 0 = .ok (.aload_n 0, 1) := by decide +kernel
theorem dX5_takeBack_1 : decode cX5_takeBack 1 = .ok (.getfield 23, 3) := by decide +kernel
theorem dX5_takeBack_4 : decode cX5_takeBack 4 = .ok (.ifCond .le 37, 3) := by decide +kernel
theorem dX5_takeBack_7 : decode cX5_takeBack 7 = .ok (.aload_n 0, 1) := by decide +kernel
theorem dX5_takeBack_8 : decode cX5_takeBack 8 = .ok (.getfield 23, 3) := by decide +kernel
theorem dX5_takeBack_11 : decode cX5_takeBack 11 = .ok (.bipush 16, 2) := by decide +kernel
theorem dX5_takeBack_13 : decode cX5_takeBack 13 = .ok (.if_icmp .gt 28, 3) := by decide +kernel
theorem dX5_takeBack_16 : decode cX5_takeBack 16 = .ok (.aload_n 0, 1) := by decide +kernel
theorem dX5_takeBack_17 : decode cX5_takeBack 17 = .ok (.dup, 1) := by decide +kernel
theorem dX5_takeBack_18 : decode cX5_takeBack 18 = .ok (.getfield 23, 3) := by decide +kernel
theorem dX5_takeBack_21 : decode cX5_takeBack 21 = .ok (.iconst 1, 1) := by decide +kernel
theorem dX5_takeBack_22 : decode cX5_takeBack 22 = .ok (.isub, 1) := by decide +kernel
theorem dX5_takeBack_23 : decode cX5_takeBack 23 = .ok (.putfield 23, 3) := by decide +kernel
theorem dX5_takeBack_26 : decode cX5_takeBack 26 = .ok (.aload_n 1, 1) := by decide +kernel
theorem dX5_takeBack_27 : decode cX5_takeBack 27 = .ok (.aload_n 0, 1) := by decide +kernel
theorem dX5_takeBack_28 : decode cX5_takeBack 28 = .ok (.getfield 13, 3) := by decide +kernel
theorem dX5_takeBack_31 : decode cX5_takeBack 31 = .ok (.aload_n 0, 1) := by decide +kernel
theorem dX5_takeBack_32 : decode cX5_takeBack 32 = .ok (.getfield 23, 3) := by decide +kernel
theorem dX5_takeBack_35 : decode cX5_takeBack 35 = .ok (.bipush 60, 2) := by decide +kernel
theorem dX5_takeBack_37 : decode cX5_takeBack 37 = .ok (.imul, 1) := by decide +kernel
theorem dX5_takeBack_38 : decode cX5_takeBack 38 = .ok (.invokevirtual 34, 3) := by decide +kernel
theorem dX5_takeBack_41 : decode cX5_takeBack 41 = .ok (.return_, 1) := by decide +kernel
theorem dX5_takeImage_0 : decode cX5_takeImage 0 = .ok (.aload_n 0, 1) := by decide +kernel
theorem dX5_takeImage_1 : decode cX5_takeImage 1 = .ok (.getfield 27, 3) := by decide +kernel
theorem dX5_takeImage_4 : decode cX5_takeImage 4 = .ok (.ifCond .lt 77, 3) := by decide +kernel
theorem dX5_takeImage_7 : decode cX5_takeImage 7 = .ok (.aload_n 0, 1) := by decide +kernel
theorem dX5_takeImage_8 : decode cX5_takeImage 8 = .ok (.getfield 27, 3) := by decide +kernel
theorem dX5_takeImage_11 : decode cX5_takeImage 11 = .ok (.iconst 3, 1) := by decide +kernel
theorem dX5_takeImage_12 : decode cX5_takeImage 12 = .ok (.if_icmp .ge 69, 3) := by decide +kernel
theorem dX5_takeImage_15 : decode cX5_takeImage 15 = .ok (.aload_n 0, 1) := by decide +kernel
theorem dX5_takeImage_16 : decode cX5_takeImage 16 = .ok (.getfield 13, 3) := by decide +kernel
theorem dX5_takeImage_19 : decode cX5_takeImage 19 = .ok (.iconst 0, 1) := by decide +kernel
theorem dX5_takeImage_20 : decode cX5_takeImage 20 = .ok (.aload_n 0, 1) := by decide +kernel
theorem dX5_takeImage_21 : decode cX5_takeImage 21 = .ok (.getfield 17, 3) := by decide +kernel
theorem dX5_takeImage_24 : decode cX5_takeImage 24 = .ok (.aload_n 0, 1) := by decide +kernel
theorem dX5_takeImage_25 : decode cX5_takeImage 25 = .ok (.getfield 27, 3) := by decide +kernel
theorem dX5_takeImage_28 : decode cX5_takeImage 28 = .ok (.sipush 1020, 3) := by decide +kernel
theorem dX5_takeImage_31 : decode cX5_takeImage 31 = .ok (.imul, 1) := by decide +kernel
theorem dX5_takeImage_32 : decode cX5_takeImage 32 = .ok (.sipush 960, 3) := by decide +kernel
theorem dX5_takeImage_35 : decode cX5_takeImage 35 = .ok (.invokestatic 37, 3) := by decide +kernel
theorem dX5_takeImage_38 : decode cX5_takeImage 38 = .ok (.aload_n 1, 1) := by decide +kernel
theorem dX5_takeImage_39 : decode cX5_takeImage 39 = .ok (.aload_n 0, 1) := by decide +kernel
theorem dX5_takeImage_40 : decode cX5_takeImage 40 = .ok (.getfield 17, 3) := by decide +kernel
theorem dX5_takeImage_43 : decode cX5_takeImage 43 = .ok (.aload_n 0, 1) := by decide +kernel
theorem dX5_takeImage_44 : decode cX5_takeImage 44 = .ok (.getfield 27, 3) := by decide +kernel
theorem dX5_takeImage_47 : decode cX5_takeImage 47 = .ok (.sipush 1020, 3) := by decide +kernel
theorem dX5_takeImage_50 : decode cX5_takeImage 50 = .ok (.imul, 1) := by decide +kernel
theorem dX5_takeImage_51 : decode cX5_takeImage 51 = .ok (.sipush 960, 3) := by decide +kernel
theorem dX5_takeImage_54 : decode cX5_takeImage 54 = .ok (.iadd, 1) := by decide +kernel
theorem dX5_takeImage_55 : decode cX5_takeImage 55 = .ok (.invokevirtual 30, 3) := by decide +kernel
theorem dX5_takeImage_58 : decode cX5_takeImage 58 = .ok (.aload_n 0, 1) := by decide +kernel
theorem dX5_takeImage_59 : decode cX5_takeImage 59 = .ok (.getfield 20, 3) := by decide +kernel
theorem dX5_takeImage_62 : decode cX5_takeImage 62 = .ok (.aload_n 0, 1) := by decide +kernel
theorem dX5_takeImage_63 : decode cX5_takeImage 63 = .ok (.getfield 27, 3) := by decide +kernel
theorem dX5_takeImage_66 : decode cX5_takeImage 66 = .ok (.aload_n 0, 1) := by decide +kernel
theorem dX5_takeImage_67 : decode cX5_takeImage 67 = .ok (.getfield 23, 3) := by decide +kernel
theorem dX5_takeImage_70 : decode cX5_takeImage 70 = .ok (.iastore, 1) := by decide +kernel
theorem dX5_takeImage_71 : decode cX5_takeImage 71 = .ok (.aload_n 0, 1) := by decide +kernel
theorem dX5_takeImage_72 : decode cX5_takeImage 72 = .ok (.dup, 1) := by decide +kernel
theorem dX5_takeImage_73 : decode cX5_takeImage 73 = .ok (.getfield 27, 3) := by decide +kernel
theorem dX5_takeImage_76 : decode cX5_takeImage 76 = .ok (.iconst 1, 1) := by decide +kernel
theorem dX5_takeImage_77 : decode cX5_takeImage 77 = .ok (.iadd, 1) := by decide +kernel
theorem dX5_takeImage_78 : decode cX5_takeImage 78 = .ok (.putfield 27, 3) := by decide +kernel
theorem dX5_takeImage_81 : decode cX5_takeImage 81 = .ok (.return_, 1) := by decide +kernel
theorem dX5_goBackToImage_0 : decode cX5_goBackToImage 0 = .ok (.aload_n 0, 1) := by decide +kernel
theorem dX5_goBackToImage_1 : decode cX5_goBackToImage 1 = .ok (.getfield 27, 3) := by decide +kernel
theorem dX5_goBackToImage_4 : decode cX5_goBackToImage 4 = .ok (.ifCond .le 77, 3) := by decide +kernel
theorem dX5_goBackToImage_7 : decode cX5_goBackToImage 7 = .ok (.aload_n 0, 1) := by decide +kernel
theorem dX5_goBackToImage_8 : decode cX5_goBackToImage 8 = .ok (.getfield 27, 3) := by decide +kernel
theorem dX5_goBackToImage_11 : decode cX5_goBackToImage 11 = .ok (.iconst 3, 1) := by decide +kernel
theorem dX5_goBackToImage_12 : decode cX5_goBackToImage 12 = .ok (.if_icmp .gt 69, 3) := by decide +kernel
theorem dX5_goBackToImage_15 : decode cX5_goBackToImage 15 = .ok (.aload_n 0, 1) := by decide +kernel
theorem dX5_goBackToImage_16 : decode cX5_goBackToImage 16 = .ok (.dup, 1) := by decide +kernel
theorem dX5_goBackToImage_17 : decode cX5_goBackToImage 17 = .ok (.getfield 27, 3) := by decide +kernel
theorem dX5_goBackToImage_20 : decode cX5_goBackToImage 20 = .ok (.iconst 1, 1) := by decide +kernel
theorem dX5_goBackToImage_21 : decode cX5_goBackToImage 21 = .ok (.isub, 1) := by decide +kernel
theorem dX5_goBackToImage_22 : decode cX5_goBackToImage 22 = .ok (.putfield 27, 3) := by decide +kernel
theorem dX5_goBackToImage_25 : decode cX5_goBackToImage 25 = .ok (.aload_n 0, 1) := by decide +kernel
theorem dX5_goBackToImage_26 : decode cX5_goBackToImage 26 = .ok (.getfield 17, 3) := by decide +kernel
theorem dX5_goBackToImage_29 : decode cX5_goBackToImage 29 = .ok (.aload_n 0, 1) := by decide +kernel
theorem dX5_goBackToImage_30 : decode cX5_goBackToImage 30 = .ok (.getfield 27, 3) := by decide +kernel
theorem dX5_goBackToImage_33 : decode cX5_goBackToImage 33 = .ok (.sipush 1020, 3) := by decide +kernel
theorem dX5_goBackToImage_36 : decode cX5_goBackToImage 36 = .ok (.imul, 1) := by decide +kernel
theorem dX5_goBackToImage_37 : decode cX5_goBackToImage 37 = .ok (.aload_n 0, 1) := by decide +kernel
theorem dX5_goBackToImage_38 : decode cX5_goBackToImage 38 = .ok (.getfield 13, 3) := by decide +kernel
theorem dX5_goBackToImage_41 : decode cX5_goBackToImage 41 = .ok (.iconst 0, 1) := by decide +kernel
theorem dX5_goBackToImage_42 : decode cX5_goBackToImage 42 = .ok (.sipush 960, 3) := by decide +kernel
theorem dX5_goBackToImage_45 : decode cX5_goBackToImage 45 = .ok (.invokestatic 37, 3) := by decide +kernel
theorem dX5_goBackToImage_48 : decode cX5_goBackToImage 48 = .ok (.aload_n 1, 1) := by decide +kernel
theorem dX5_goBackToImage_49 : decode cX5_goBackToImage 49 = .ok (.aload_n 0, 1) := by decide +kernel
theorem dX5_goBackToImage_50 : decode cX5_goBackToImage 50 = .ok (.getfield 17, 3) := by decide +kernel
theorem dX5_goBackToImage_53 : decode cX5_goBackToImage 53 = .ok (.aload_n 0, 1) := by decide +kernel
theorem dX5_goBackToImage_54 : decode cX5_goBackToImage 54 = .ok (.getfield 27, 3) := by decide +kernel
theorem dX5_goBackToImage_57 : decode cX5_goBackToImage 57 = .ok (.sipush 1020, 3) := by decide +kernel
theorem dX5_goBackToImage_60 : decode cX5_goBackToImage 60 = .ok (.imul, 1) := by decide +kernel
theorem dX5_goBackToImage_61 : decode cX5_goBackToImage 61 = .ok (.sipush 960, 3) := by decide +kernel
theorem dX5_goBackToImage_64 : decode cX5_goBackToImage 64 = .ok (.iadd, 1) := by decide +kernel
theorem dX5_goBackToImage_65 : decode cX5_goBackToImage 65 = .ok (.invokevirtual 34, 3) := by decide +kernel
theorem dX5_goBackToImage_68 : decode cX5_goBackToImage 68 = .ok (.aload_n 0, 1) := by decide +kernel
theorem dX5_goBackToImage_69 : decode cX5_goBackToImage 69 = .ok (.aload_n 0, 1) := by decide +kernel
theorem dX5_goBackToImage_70 : decode cX5_goBackToImage 70 = .ok (.getfield 20, 3) := by decide +kernel
theorem dX5_goBackToImage_73 : decode cX5_goBackToImage 73 = .ok (.aload_n 0, 1) := by decide +kernel
theorem dX5_goBackToImage_74 : decode cX5_goBackToImage 74 = .ok (.getfield 27, 3) := by decide +kernel
theorem dX5_goBackToImage_77 : decode cX5_goBackToImage 77 = .ok (.iaload, 1) := by decide +kernel
theorem dX5_goBackToImage_78 : decode cX5_goBackToImage 78 = .ok (.putfield 23, 3) := by decide +kernel
theorem dX5_goBackToImage_81 : decode cX5_goBackToImage 81 = .ok (.return_, 1) := by decide +kernel
theorem dX6_init_0 : decode cX6_init 0 = .ok (.aload_n 0, 1) := by decide +kernel
theorem dX6_init_1 : decode cX6_init 1 = .ok (.invokespecial 5, 3) := by decide +kernel
theorem dX6_init_4 : decode cX6_init 4 = .ok (.aload_n 0, 1) := by decide +kernel
theorem dX6_init_5 : decode cX6_init 5 = .ok (.bipush 8, 2) := by decide +kernel
theorem dX6_init_7 : decode cX6_init 7 = .ok (.newarray .int, 2) := by decide +kernel
theorem dX6_init_9 : decode cX6_init 9 = .ok (.putfield 11, 3) := by decide +kernel
theorem dX6_init_12 : decode cX6_init 12 = .ok (.aload_n 0, 1) := by decide +kernel
theorem dX6_init_13 : decode cX6_init 13 = .ok (.bipush 8, 2) := by decide +kernel
theorem dX6_init_15 : decode cX6_init 15 = .ok (.newarray .int, 2) := by decide +kernel
theorem dX6_init_17 : decode cX6_init 17 = .ok (.putfield 15, 3) := by decide +kernel
theorem dX6_init_20 : decode cX6_init 20 = .ok (.aload_n 0, 1) := by decide +kernel
theorem dX6_init_21 : decode cX6_init 21 = .ok (.bipush 8, 2) := by decide +kernel
theorem dX6_init_23 : decode cX6_init 23 = .ok (.newarray .int, 2) := by decide +kernel
theorem dX6_init_25 : decode cX6_init 25 = .ok (.putfield 18, 3) := by decide +kernel
theorem dX6_init_28 : decode cX6_init 28 = .ok (.aload_n 0, 1) := by decide +kernel
theorem dX6_init_29 : decode cX6_init 29 = .ok (.bipush 8, 2) := by decide +kernel
theorem dX6_init_31 : decode cX6_init 31 = .ok (.newarray .int, 2) := by decide +kernel
theorem dX6_init_33 : decode cX6_init 33 = .ok (.putfield 21, 3) := by decide +kernel
theorem dX6_init_36 : decode cX6_init 36 = .ok (.aload_n 0, 1) := by decide +kernel
theorem dX6_init_37 : decode cX6_init 37 = .ok (.bipush 40, 2) := by decide +kernel
theorem dX6_init_39 : decode cX6_init 39 = .ok (.newarray .int, 2) := by decide +kernel
theorem dX6_init_41 : decode cX6_init 41 = .ok (.putfield 24, 3) := by decide +kernel
theorem dX6_init_44 : decode cX6_init 44 = .ok (.aload_n 0, 1) := by decide +kernel
theorem dX6_init_45 : decode cX6_init 45 = .ok (.bipush 9, 2) := by decide +kernel
theorem dX6_init_47 : decode cX6_init 47 = .ok (.putfield 27, 3) := by decide +kernel
theorem dX6_init_50 : decode cX6_init 50 = .ok (.return_, 1) := by decide +kernel
theorem dX6_becomeEmpty_0 : decode cX6_becomeEmpty 0 = .ok (.aload_n 0, 1) := by decide +kernel
theorem dX6_becomeEmpty_1 : decode cX6_becomeEmpty 1 = .ok (.getfield 11, 3) := by decide +kernel
theorem dX6_becomeEmpty_4 : decode cX6_becomeEmpty 4 = .ok (.iconst 0, 1) := by decide +kernel
theorem dX6_becomeEmpty_5 : decode cX6_becomeEmpty 5 = .ok (.invokestatic 31, 3) := by decide +kernel
theorem dX6_becomeEmpty_8 : decode cX6_becomeEmpty 8 = .ok (.aload_n 0, 1) := by decide +kernel
theorem dX6_becomeEmpty_9 : decode cX6_becomeEmpty 9 = .ok (.getfield 15, 3) := by decide +kernel
theorem dX6_becomeEmpty_12 : decode cX6_becomeEmpty 12 = .ok (.iconst 0, 1) := by decide +kernel
theorem dX6_becomeEmpty_13 : decode cX6_becomeEmpty 13 = .ok (.invokestatic 31, 3) := by decide +kernel
theorem dX6_becomeEmpty_16 : decode cX6_becomeEmpty 16 = .ok (.aload_n 0, 1) := by decide +kernel
theorem dX6_becomeEmpty_17 : decode cX6_becomeEmpty 17 = .ok (.getfield 18, 3) := by decide +kernel
theorem dX6_becomeEmpty_20 : decode cX6_becomeEmpty 20 = .ok (.iconst 0, 1) := by decide +kernel
theorem dX6_becomeEmpty_21 : decode cX6_becomeEmpty 21 = .ok (.invokestatic 31, 3) := by decide +kernel
theorem dX6_becomeEmpty_24 : decode cX6_becomeEmpty 24 = .ok (.aload_n 0, 1) := by decide +kernel
theorem dX6_becomeEmpty_25 : decode cX6_becomeEmpty 25 = .ok (.iconst 0, 1) := by decide +kernel
theorem dX6_becomeEmpty_26 : decode cX6_becomeEmpty 26 = .ok (.putfield 37, 3) := by decide +kernel
theorem dX6_becomeEmpty_29 : decode cX6_becomeEmpty 29 = .ok (.aload_n 0, 1) := by decide +kernel
theorem dX6_becomeEmpty_30 : decode cX6_becomeEmpty 30 = .ok (.iconst 0, 1) := by decide +kernel
theorem dX6_becomeEmpty_31 : decode cX6_becomeEmpty 31 = .ok (.putfield 40, 3) := by decide +kernel
theorem dX6_becomeEmpty_34 : decode cX6_becomeEmpty 34 = .ok (.aload_n 0, 1) := by decide +kernel
theorem dX6_becomeEmpty_35 : decode cX6_becomeEmpty 35 = .ok (.bipush 9, 2) := by decide +kernel
theorem dX6_becomeEmpty_37 : decode cX6_becomeEmpty 37 = .ok (.putfield 27, 3) := by decide +kernel
theorem dX6_becomeEmpty_40 : decode cX6_becomeEmpty 40 = .ok (.aload_n 0, 1) := by decide +kernel
theorem dX6_becomeEmpty_41 : decode cX6_becomeEmpty 41 = .ok (.iconst 0, 1) := by decide +kernel
theorem dX6_becomeEmpty_42 : decode cX6_becomeEmpty 42 = .ok (.putfield 43, 3) := by decide +kernel
theorem dX6_becomeEmpty_45 : decode cX6_becomeEmpty 45 = .ok (.aload_n 0, 1) := by decide +kernel
theorem dX6_becomeEmpty_46 : decode cX6_becomeEmpty 46 = .ok (.iconst 0, 1) := by decide +kernel
theorem dX6_becomeEmpty_47 : decode cX6_becomeEmpty 47 = .ok (.putfield 46, 3) := by decide +kernel
theorem dX6_becomeEmpty_50 : decode cX6_becomeEmpty 50 = .ok (.aload_n 0, 1) := by decide +kernel
theorem dX6_becomeEmpty_51 : decode cX6_becomeEmpty 51 = .ok (.iconst 0, 1) := by decide +kernel
theorem dX6_becomeEmpty_52 : decode cX6_becomeEmpty 52 = .ok (.putfield 49, 3) := by decide +kernel
theorem dX6_becomeEmpty_55 : decode cX6_becomeEmpty 55 = .ok (.return_, 1) := by decide +kernel
theorem dX6_copyFrom_0 : decode cX6_copyFrom 0 = .ok (.aload_n 1, 1) := by decide +kernel
theorem dX6_copyFrom_1 : decode cX6_copyFrom 1 = .ok (.getfield 11, 3) := by decide +kernel
theorem dX6_copyFrom_4 : decode cX6_copyFrom 4 = .ok (.iconst 0, 1) := by decide +kernel
theorem dX6_copyFrom_5 : decode cX6_copyFrom 5 = .ok (.aload_n 0, 1) := by decide +kernel
theorem dX6_copyFrom_6 : decode cX6_copyFrom 6 = .ok (.getfield 11, 3) := by decide +kernel
theorem dX6_copyFrom_9 : decode cX6_copyFrom 9 = .ok (.iconst 0, 1) := by decide +kernel
theorem dX6_copyFrom_10 : decode cX6_copyFrom 10 = .ok (.bipush 8, 2) := by decide +kernel
theorem dX6_copyFrom_12 : decode cX6_copyFrom 12 = .ok (.invokestatic 52, 3) := by decide +kernel
theorem dX6_copyFrom_15 : decode cX6_copyFrom 15 = .ok (.aload_n 1, 1) := by decide +kernel
theorem dX6_copyFrom_16 : decode cX6_copyFrom 16 = .ok (.getfield 15, 3) := by decide +kernel
theorem dX6_copyFrom_19 : decode cX6_copyFrom 19 = .ok (.iconst 0, 1) := by decide +kernel
theorem dX6_copyFrom_20 : decode cX6_copyFrom 20 = .ok (.aload_n 0, 1) := by decide +kernel
theorem dX6_copyFrom_21 : decode cX6_copyFrom 21 = .ok (.getfield 15, 3) := by decide +kernel
theorem dX6_copyFrom_24 : decode cX6_copyFrom 24 = .ok (.iconst 0, 1) := by decide +kernel
theorem dX6_copyFrom_25 : decode cX6_copyFrom 25 = .ok (.bipush 8, 2) := by decide +kernel
theorem dX6_copyFrom_27 : decode cX6_copyFrom 27 = .ok (.invokestatic 52, 3) := by decide +kernel
theorem dX6_copyFrom_30 : decode cX6_copyFrom 30 = .ok (.aload_n 1, 1) := by decide +kernel
theorem dX6_copyFrom_31 : decode cX6_copyFrom 31 = .ok (.getfield 18, 3) := by decide +kernel
theorem dX6_copyFrom_34 : decode cX6_copyFrom 34 = .ok (.iconst 0, 1) := by decide +kernel
theorem dX6_copyFrom_35 : decode cX6_copyFrom 35 = .ok (.aload_n 0, 1) := by decide +kernel
theorem dX6_copyFrom_36 : decode cX6_copyFrom 36 = .ok (.getfield 18, 3) := by decide +kernel
theorem dX6_copyFrom_39 : decode cX6_copyFrom 39 = .ok (.iconst 0, 1) := by decide +kernel
theorem dX6_copyFrom_40 : decode cX6_copyFrom 40 = .ok (.bipush 8, 2) := by decide +kernel
theorem dX6_copyFrom_42 : decode cX6_copyFrom 42 = .ok (.invokestatic 52, 3) := by decide +kernel
theorem dX6_copyFrom_45 : decode cX6_copyFrom 45 = .ok (.aload_n 1, 1) := by decide +kernel
theorem dX6_copyFrom_46 : decode cX6_copyFrom 46 = .ok (.getfield 24, 3) := by decide +kernel
theorem dX6_copyFrom_49 : decode cX6_copyFrom 49 = .ok (.iconst 0, 1) := by decide +kernel
theorem dX6_copyFrom_50 : decode cX6_copyFrom 50 = .ok (.aload_n 0, 1) := by decide +kernel
theorem dX6_copyFrom_51 : decode cX6_copyFrom 51 = .ok (.getfield 24, 3) := by decide +kernel
theorem dX6_copyFrom_54 : decode cX6_copyFrom 54 = .ok (.iconst 0, 1) := by decide +kernel
theorem dX6_copyFrom_55 : decode cX6_copyFrom 55 = .ok (.bipush 40, 2) := by decide +kernel
theorem dX6_copyFrom_57 : decode cX6_copyFrom 57 = .ok (.invokestatic 52, 3) := by decide +kernel
theorem dX6_copyFrom_60 : decode cX6_copyFrom 60 = .ok (.aload_n 0, 1) := by decide +kernel
theorem dX6_copyFrom_61 : decode cX6_copyFrom 61 = .ok (.aload_n 1, 1) := by decide +kernel
theorem dX6_copyFrom_62 : decode cX6_copyFrom 62 = .ok (.getfield 37, 3) := by decide +kernel
theorem dX6_copyFrom_65 : decode cX6_copyFrom 65 = .ok (.putfield 37, 3) := by decide +kernel
theorem dX6_copyFrom_68 : decode cX6_copyFrom 68 = .ok (.aload_n 0, 1) := by decide +kernel
theorem dX6_copyFrom_69 : decode cX6_copyFrom 69 = .ok (.aload_n 1, 1) := by decide +kernel
theorem dX6_copyFrom_70 : decode cX6_copyFrom 70 = .ok (.getfield 40, 3) := by decide +kernel
theorem dX6_copyFrom_73 : decode cX6_copyFrom 73 = .ok (.putfield 40, 3) := by decide +kernel
theorem dX6_copyFrom_76 : decode cX6_copyFrom 76 = .ok (.aload_n 0, 1) := by decide +kernel
theorem dX6_copyFrom_77 : decode cX6_copyFrom 77 = .ok (.aload_n 1, 1) := by decide +kernel
theorem dX6_copyFrom_78 : decode cX6_copyFrom 78 = .ok (.getfield 27, 3) := by decide +kernel
theorem dX6_copyFrom_81 : decode cX6_copyFrom 81 = .ok (.putfield 27, 3) := by decide +kernel
theorem dX6_copyFrom_84 : decode cX6_copyFrom 84 = .ok (.aload_n 0, 1) := by decide +kernel
theorem dX6_copyFrom_85 : decode cX6_copyFrom 85 = .ok (.aload_n 1, 1) := by decide +kernel
theorem dX6_copyFrom_86 : decode cX6_copyFrom 86 = .ok (.getfield 43, 3) := by decide +kernel
theorem dX6_copyFrom_89 : decode cX6_copyFrom 89 = .ok (.putfield 43, 3) := by decide +kernel
theorem dX6_copyFrom_92 : decode cX6_copyFrom 92 = .ok (.aload_n 0, 1) := by decide +kernel
theorem dX6_copyFrom_93 : decode cX6_copyFrom 93 = .ok (.aload_n 1, 1) := by decide +kernel
theorem dX6_copyFrom_94 : decode cX6_copyFrom 94 = .ok (.getfield 46, 3) := by decide +kernel
theorem dX6_copyFrom_97 : decode cX6_copyFrom 97 = .ok (.putfield 46, 3) := by decide +kernel
theorem dX6_copyFrom_100 : decode cX6_copyFrom 100 = .ok (.aload_n 0, 1) := by decide +kernel
theorem dX6_copyFrom_101 : decode cX6_copyFrom 101 = .ok (.aload_n 1, 1) := by decide +kernel
theorem dX6_copyFrom_102 : decode cX6_copyFrom 102 = .ok (.getfield 49, 3) := by decide +kernel
theorem dX6_copyFrom_105 : decode cX6_copyFrom 105 = .ok (.putfield 49, 3) := by decide +kernel
theorem dX6_copyFrom_108 : decode cX6_copyFrom 108 = .ok (.return_, 1) := by decide +kernel
theorem dX6_write_0 : decode cX6_write 0 = .ok (.iload_n 2, 1) := by decide +kernel
theorem dX6_write_1 : decode cX6_write 1 = .ok (.ifCond .lt 12, 3) := by decide +kernel
theorem dX6_write_4 : decode cX6_write 4 = .ok (.iload_n 2, 1) := by decide +kernel
theorem dX6_write_5 : decode cX6_write 5 = .ok (.aload_n 1, 1) := by decide +kernel
theorem dX6_write_6 : decode cX6_write 6 = .ok (.arraylength, 1) := by decide +kernel
theorem dX6_write_7 : decode cX6_write 7 = .ok (.bipush 60, 2) := by decide +kernel
theorem dX6_write_9 : decode cX6_write 9 = .ok (.isub, 1) := by decide +kernel
theorem dX6_write_10 : decode cX6_write 10 = .ok (.if_icmp .le 4, 3) := by decide +kernel
theorem dX6_write_13 : decode cX6_write 13 = .ok (.return_, 1) := by decide +kernel
theorem dX6_write_14 : decode cX6_write 14 = .ok (.aload_n 0, 1) := by decide +kernel
theorem dX6_write_15 : decode cX6_write 15 = .ok (.getfield 15, 3) := by decide +kernel
theorem dX6_write_18 : decode cX6_write 18 = .ok (.iconst 0, 1) := by decide +kernel
theorem dX6_write_19 : decode cX6_write 19 = .ok (.aload_n 1, 1) := by decide +kernel
theorem dX6_write_20 : decode cX6_write 20 = .ok (.iload_n 2, 1) := by decide +kernel
theorem dX6_write_21 : decode cX6_write 21 = .ok (.bipush 8, 2) := by decide +kernel
theorem dX6_write_23 : decode cX6_write 23 = .ok (.invokestatic 52, 3) := by decide +kernel
theorem dX6_write_26 : decode cX6_write 26 = .ok (.aload_n 0, 1) := by decide +kernel
theorem dX6_write_27 : decode cX6_write 27 = .ok (.getfield 18, 3) := by decide +kernel
theorem dX6_write_30 : decode cX6_write 30 = .ok (.iconst 0, 1) := by decide +kernel
theorem dX6_write_31 : decode cX6_write 31 = .ok (.aload_n 1, 1) := by decide +kernel
theorem dX6_write_32 : decode cX6_write 32 = .ok (.iload_n 2, 1) := by decide +kernel
theorem dX6_write_33 : decode cX6_write 33 = .ok (.bipush 8, 2) := by decide +kernel
theorem dX6_write_35 : decode cX6_write 35 = .ok (.iadd, 1) := by decide +kernel
theorem dX6_write_36 : decode cX6_write 36 = .ok (.bipush 8, 2) := by decide +kernel
theorem dX6_write_38 : decode cX6_write 38 = .ok (.invokestatic 52, 3) := by decide +kernel
theorem dX6_write_41 : decode cX6_write 41 = .ok (.aload_n 0, 1) := by decide +kernel
theorem dX6_write_42 : decode cX6_write 42 = .ok (.getfield 24, 3) := by decide +kernel
theorem dX6_write_45 : decode cX6_write 45 = .ok (.iconst 0, 1) := by decide +kernel
theorem dX6_write_46 : decode cX6_write 46 = .ok (.aload_n 1, 1) := by decide +kernel
theorem dX6_write_47 : decode cX6_write 47 = .ok (.iload_n 2, 1) := by decide +kernel
theorem dX6_write_48 : decode cX6_write 48 = .ok (.bipush 16, 2) := by decide +kernel
theorem dX6_write_50 : decode cX6_write 50 = .ok (.iadd, 1) := by decide +kernel
theorem dX6_write_51 : decode cX6_write 51 = .ok (.bipush 40, 2) := by decide +kernel
theorem dX6_write_53 : decode cX6_write 53 = .ok (.invokestatic 52, 3) := by decide +kernel
theorem dX6_write_56 : decode cX6_write 56 = .ok (.aload_n 1, 1) := by decide +kernel
theorem dX6_write_57 : decode cX6_write 57 = .ok (.iload_n 2, 1) := by decide +kernel
theorem dX6_write_58 : decode cX6_write 58 = .ok (.bipush 60, 2) := by decide +kernel
theorem dX6_write_60 : decode cX6_write 60 = .ok (.iadd, 1) := by decide +kernel
theorem dX6_write_61 : decode cX6_write 61 = .ok (.iconst 4, 1) := by decide +kernel
theorem dX6_write_62 : decode cX6_write 62 = .ok (.isub, 1) := by decide +kernel
theorem dX6_write_63 : decode cX6_write 63 = .ok (.aload_n 0, 1) := by decide +kernel
theorem dX6_write_64 : decode cX6_write 64 = .ok (.getfield 40, 3) := by decide +kernel
theorem dX6_write_67 : decode cX6_write 67 = .ok (.iastore, 1) := by decide +kernel
theorem dX6_write_68 : decode cX6_write 68 = .ok (.aload_n 1, 1) := by decide +kernel
theorem dX6_write_69 : decode cX6_write 69 = .ok (.iload_n 2, 1) := by decide +kernel
theorem dX6_write_70 : decode cX6_write 70 = .ok (.bipush 60, 2) := by decide +kernel
theorem dX6_write_72 : decode cX6_write 72 = .ok (.iadd, 1) := by decide +kernel
theorem dX6_write_73 : decode cX6_write 73 = .ok (.iconst 3, 1) := by decide +kernel
theorem dX6_write_74 : decode cX6_write 74 = .ok (.isub, 1) := by decide +kernel
theorem dX6_write_75 : decode cX6_write 75 = .ok (.aload_n 0, 1) := by decide +kernel
theorem dX6_write_76 : decode cX6_write 76 = .ok (.getfield 27, 3) := by decide +kernel
theorem dX6_write_79 : decode cX6_write 79 = .ok (.iastore, 1) := by decide +kernel
theorem dX6_write_80 : decode cX6_write 80 = .ok (.aload_n 1, 1) := by decide +kernel
theorem dX6_write_81 : decode cX6_write 81 = .ok (.iload_n 2, 1) := by decide +kernel
theorem dX6_write_82 : decode cX6_write 82 = .ok (.bipush 60, 2) := by decide +kernel
theorem dX6_write_84 : decode cX6_write 84 = .ok (.iadd, 1) := by decide +kernel
theorem dX6_write_85 : decode cX6_write 85 = .ok (.iconst 2, 1) := by decide +kernel
theorem dX6_write_86 : decode cX6_write 86 = .ok (.isub, 1) := by decide +kernel
theorem dX6_write_87 : decode cX6_write 87 = .ok (.aload_n 0, 1) := by decide +kernel
theorem dX6_write_88 : decode cX6_write 88 = .ok (.getfield 46, 3) := by decide +kernel
theorem dX6_write_91 : decode cX6_write 91 = .ok (.iastore, 1) := by decide +kernel
theorem dX6_write_92 : decode cX6_write 92 = .ok (.aload_n 1, 1) := by decide +kernel
theorem dX6_write_93 : decode cX6_write 93 = .ok (.iload_n 2, 1) := by decide +kernel
theorem dX6_write_94 : decode cX6_write 94 = .ok (.bipush 60, 2) := by decide +kernel
theorem dX6_write_96 : decode cX6_write 96 = .ok (.iadd, 1) := by decide +kernel
theorem dX6_write_97 : decode cX6_write 97 = .ok (.iconst 1, 1) := by decide +kernel
theorem dX6_write_98 : decode cX6_write 98 = .ok (.isub, 1) := by decide +kernel
theorem dX6_write_99 : decode cX6_write 99 = .ok (.aload_n 0, 1) := by decide +kernel
theorem dX6_write_100 : decode cX6_write 100 = .ok (.getfield 49, 3) := by decide +kernel
theorem dX6_write_103 : decode cX6_write 103 = .ok (.iastore, 1) := by decide +kernel
theorem dX6_write_104 : decode cX6_write 104 = .ok (.return_, 1) := by decide +kernel
theorem dX6_read_0 : decode cX6_read 0 = .ok (.iload_n 2, 1) := by decide +kernel
theorem dX6_read_1 : decode cX6_read 1 = .ok (.ifCond .lt 12, 3) := by decide +kernel
theorem dX6_read_4 : decode cX6_read 4 = .ok (.iload_n 2, 1) := by decide +kernel
theorem dX6_read_5 : decode cX6_read 5 = .ok (.aload_n 1, 1) := by decide +kernel
theorem dX6_read_6 : decode cX6_read 6 = .ok (.arraylength, 1) := by decide +kernel
theorem dX6_read_7 : decode cX6_read 7 = .ok (.bipush 60, 2) := by decide +kernel
theorem dX6_read_9 : decode cX6_read 9 = .ok (.isub, 1) := by decide +kernel
theorem dX6_read_10 : decode cX6_read 10 = .ok (.if_icmp .le 4, 3) := by decide +kernel
theorem dX6_read_13 : decode cX6_read 13 = .ok (.return_, 1) := by decide +kernel
theorem dX6_read_14 : decode cX6_read 14 = .ok (.aload_n 1, 1) := by decide +kernel
theorem dX6_read_15 : decode cX6_read 15 = .ok (.iload_n 2, 1) := by decide +kernel
theorem dX6_read_16 : decode cX6_read 16 = .ok (.aload_n 0, 1) := by decide +kernel
theorem dX6_read_17 : decode cX6_read 17 = .ok (.getfield 15, 3) := by decide +kernel
theorem dX6_read_20 : decode cX6_read 20 = .ok (.iconst 0, 1) := by decide +kernel
theorem dX6_read_21 : decode cX6_read 21 = .ok (.bipush 8, 2) := by decide +kernel
theorem dX6_read_23 : decode cX6_read 23 = .ok (.invokestatic 52, 3) := by decide +kernel
theorem dX6_read_26 : decode cX6_read 26 = .ok (.aload_n 1, 1) := by decide +kernel
theorem dX6_read_27 : decode cX6_read 27 = .ok (.iload_n 2, 1) := by decide +kernel
theorem dX6_read_28 : decode cX6_read 28 = .ok (.bipush 8, 2) := by decide +kernel
theorem dX6_read_30 : decode cX6_read 30 = .ok (.iadd, 1) := by decide +kernel
theorem dX6_read_31 : decode cX6_read 31 = .ok (.aload_n 0, 1) := by decide +kernel
theorem dX6_read_32 : decode cX6_read 32 = .ok (.getfield 18, 3) := by decide +kernel
theorem dX6_read_35 : decode cX6_read 35 = .ok (.iconst 0, 1) := by decide +kernel
theorem dX6_read_36 : decode cX6_read 36 = .ok (.bipush 8, 2) := by decide +kernel
theorem dX6_read_38 : decode cX6_read 38 = .ok (.invokestatic 52, 3) := by decide +kernel
theorem dX6_read_41 : decode cX6_read 41 = .ok (.aload_n 1, 1) := by decide +kernel
theorem dX6_read_42 : decode cX6_read 42 = .ok (.iload_n 2, 1) := by decide +kernel
theorem dX6_read_43 : decode cX6_read 43 = .ok (.bipush 16, 2) := by decide +kernel
theorem dX6_read_45 : decode cX6_read 45 = .ok (.iadd, 1) := by decide +kernel
theorem dX6_read_46 : decode cX6_read 46 = .ok (.aload_n 0, 1) := by decide +kernel
theorem dX6_read_47 : decode cX6_read 47 = .ok (.getfield 24, 3) := by decide +kernel
theorem dX6_read_50 : decode cX6_read 50 = .ok (.iconst 0, 1) := by decide +kernel
theorem dX6_read_51 : decode cX6_read 51 = .ok (.bipush 40, 2) := by decide +kernel
theorem dX6_read_53 : decode cX6_read 53 = .ok (.invokestatic 52, 3) := by decide +kernel
theorem dX6_read_56 : decode cX6_read 56 = .ok (.aload_n 0, 1) := by decide +kernel
theorem dX6_read_57 : decode cX6_read 57 = .ok (.aload_n 1, 1) := by decide +kernel
theorem dX6_read_58 : decode cX6_read 58 = .ok (.iload_n 2, 1) := by decide +kernel
theorem dX6_read_59 : decode cX6_read 59 = .ok (.bipush 60, 2) := by decide +kernel
theorem dX6_read_61 : decode cX6_read 61 = .ok (.iadd, 1) := by decide +kernel
theorem dX6_read_62 : decode cX6_read 62 = .ok (.iconst 4, 1) := by decide +kernel
theorem dX6_read_63 : decode cX6_read 63 = .ok (.isub, 1) := by decide +kernel
theorem dX6_read_64 : decode cX6_read 64 = .ok (.iaload, 1) := by decide +kernel
theorem dX6_read_65 : decode cX6_read 65 = .ok (.putfield 40, 3) := by decide +kernel
theorem dX6_read_68 : decode cX6_read 68 = .ok (.aload_n 0, 1) := by decide +kernel
theorem dX6_read_69 : decode cX6_read 69 = .ok (.aload_n 1, 1) := by decide +kernel
theorem dX6_read_70 : decode cX6_read 70 = .ok (.iload_n 2, 1) := by decide +kernel
theorem dX6_read_71 : decode cX6_read 71 = .ok (.bipush 60, 2) := by decide +kernel
theorem dX6_read_73 : decode cX6_read 73 = .ok (.iadd, 1) := by decide +kernel
theorem dX6_read_74 : decode cX6_read 74 = .ok (.iconst 3, 1) := by decide +kernel
theorem dX6_read_75 : decode cX6_read 75 = .ok (.isub, 1) := by decide +kernel
theorem dX6_read_76 : decode cX6_read 76 = .ok (.iaload, 1) := by decide +kernel
theorem dX6_read_77 : decode cX6_read 77 = .ok (.putfield 27, 3) := by decide +kernel
theorem dX6_read_80 : decode cX6_read 80 = .ok (.aload_n 0, 1) := by decide +kernel
theorem dX6_read_81 : decode cX6_read 81 = .ok (.aload_n 1, 1) := by decide +kernel
theorem dX6_read_82 : decode cX6_read 82 = .ok (.iload_n 2, 1) := by decide +kernel
theorem dX6_read_83 : decode cX6_read 83 = .ok (.bipush 60, 2) := by decide +kernel
theorem dX6_read_85 : decode cX6_read 85 = .ok (.iadd, 1) := by decide +kernel
theorem dX6_read_86 : decode cX6_read 86 = .ok (.iconst 2, 1) := by decide +kernel
theorem dX6_read_87 : decode cX6_read 87 = .ok (.isub, 1) := by decide +kernel
theorem dX6_read_88 : decode cX6_read 88 = .ok (.iaload, 1) := by decide +kernel
theorem dX6_read_89 : decode cX6_read 89 = .ok (.putfield 46, 3) := by decide +kernel
theorem dX6_read_92 : decode cX6_read 92 = .ok (.aload_n 0, 1) := by decide +kernel
theorem dX6_read_93 : decode cX6_read 93 = .ok (.aload_n 1, 1) := by decide +kernel
theorem dX6_read_94 : decode cX6_read 94 = .ok (.iload_n 2, 1) := by decide +kernel
theorem dX6_read_95 : decode cX6_read 95 = .ok (.bipush 60, 2) := by decide +kernel
theorem dX6_read_97 : decode cX6_read 97 = .ok (.iadd, 1) := by decide +kernel
theorem dX6_read_98 : decode cX6_read 98 = .ok (.iconst 1, 1) := by decide +kernel
theorem dX6_read_99 : decode cX6_read 99 = .ok (.isub, 1) := by decide +kernel
theorem dX6_read_100 : decode cX6_read 100 = .ok (.iaload, 1) := by decide +kernel
theorem dX6_read_101 : decode cX6_read 101 = .ok (.putfield 49, 3) := by decide +kernel
theorem dX6_read_104 : decode cX6_read 104 = .ok (.return_, 1) := by decide +kernel
theorem dX6_readFrom_0 : decode cX6_readFrom 0 = .ok (.aload_n 0, 1) := by decide +kernel
theorem dX6_readFrom_1 : decode cX6_readFrom 1 = .ok (.invokevirtual 58, 3) := by decide +kernel
theorem dX6_readFrom_4 : decode cX6_readFrom 4 = .ok (.iconst 0, 1) := by decide +kernel
theorem dX6_readFrom_5 : decode cX6_readFrom 5 = .ok (.istore_n 2, 1) := by decide +kernel
theorem dX6_readFrom_6 : decode cX6_readFrom 6 = .ok (.iload_n 2, 1) := by decide +kernel
theorem dX6_readFrom_7 : decode cX6_readFrom 7 = .ok (.bipush 60, 2) := by decide +kernel
theorem dX6_readFrom_9 : decode cX6_readFrom 9 = .ok (.if_icmp .gt 36, 3) := by decide +kernel
theorem dX6_readFrom_12 : decode cX6_readFrom 12 = .ok (.aload_n 1, 1) := by decide +kernel
theorem dX6_readFrom_13 : decode cX6_readFrom 13 = .ok (.invokevirtual 61, 3) := by decide +kernel
theorem dX6_readFrom_16 : decode cX6_readFrom 16 = .ok (.ifCond .eq 29, 3) := by decide +kernel
theorem dX6_readFrom_19 : decode cX6_readFrom 19 = .ok (.aload_n 0, 1) := by decide +kernel
theorem dX6_readFrom_20 : decode cX6_readFrom 20 = .ok (.aload_n 1, 1) := by decide +kernel
theorem dX6_readFrom_21 : decode cX6_readFrom 21 = .ok (.iload_n 2, 1) := by decide +kernel
theorem dX6_readFrom_22 : decode cX6_readFrom 22 = .ok (.invokevirtual 67, 3) := by decide +kernel
theorem dX6_readFrom_25 : decode cX6_readFrom 25 = .ok (.ifCond .eq 12, 3) := by decide +kernel
theorem dX6_readFrom_28 : decode cX6_readFrom 28 = .ok (.aload_n 1, 1) := by decide +kernel
theorem dX6_readFrom_29 : decode cX6_readFrom 29 = .ok (.bipush 59, 2) := by decide +kernel
theorem dX6_readFrom_31 : decode cX6_readFrom 31 = .ok (.invokevirtual 71, 3) := by decide +kernel
theorem dX6_readFrom_34 : decode cX6_readFrom 34 = .ok (.ifCond .ne 5, 3) := by decide +kernel
theorem dX6_readFrom_37 : decode cX6_readFrom 37 = .ok (.iconst 0, 1) := by decide +kernel
theorem dX6_readFrom_38 : decode cX6_readFrom 38 = .ok (.ireturn, 1) := by decide +kernel
theorem dX6_readFrom_39 : decode cX6_readFrom 39 = .ok (.iinc 2 1, 3) := by decide +kernel
theorem dX6_readFrom_42 : decode cX6_readFrom 42 = .ok (.goto (-36), 3) := by decide +kernel
theorem dX6_readFrom_45 : decode cX6_readFrom 45 = .ok (.iconst 1, 1) := by decide +kernel
theorem dX6_readFrom_46 : decode cX6_readFrom 46 = .ok (.ireturn, 1) := by decide +kernel
theorem dX6_readClause_0 : decode cX6_readClause 0 = .ok (.aload_n 1, 1) := by decide +kernel
theorem dX6_readClause_1 : decode cX6_readClause 1 = .ok (.invokevirtual 75, 3) := by decide +kernel
theorem dX6_readClause_4 : decode cX6_readClause 4 = .ok (.ifCond .ne 5, 3) := by decide +kernel
theorem dX6_readClause_7 : decode cX6_readClause 7 = .ok (.iconst 0, 1) := by decide +kernel
theorem dX6_readClause_8 : decode cX6_readClause 8 = .ok (.ireturn, 1) := by decide +kernel
theorem dX6_readClause_9 : decode cX6_readClause 9 = .ok (.iload_n 2, 1) := by decide +kernel
theorem dX6_readClause_10 : decode cX6_readClause 10 = .ok (.bipush 60, 2) := by decide +kernel
theorem dX6_readClause_12 : decode cX6_readClause 12 = .ok (.if_icmp .lt 7, 3) := by decide +kernel
theorem dX6_readClause_15 : decode cX6_readClause 15 = .ok (.iconst 1, 1) := by decide +kernel
theorem dX6_readClause_16 : decode cX6_readClause 16 = .ok (.goto 4, 3) := by decide +kernel
theorem dX6_readClause_19 : decode cX6_readClause 19 = .ok (.iconst 0, 1) := by decide +kernel
theorem dX6_readClause_20 : decode cX6_readClause 20 = .ok (.istore_n 3, 1) := by decide +kernel
theorem dX6_readClause_21 : decode cX6_readClause 21 = .ok (.aload_n 1, 1) := by decide +kernel
theorem dX6_readClause_22 : decode cX6_readClause 22 = .ok (.ldc 78, 2) := by decide +kernel
theorem dX6_readClause_24 : decode cX6_readClause 24 = .ok (.invokevirtual 80, 3) := by decide +kernel
theorem dX6_readClause_27 : decode cX6_readClause 27 = .ok (.ifCond .eq 34, 3) := by decide +kernel
theorem dX6_readClause_30 : decode cX6_readClause 30 = .ok (.iload_n 3, 1) := by decide +kernel
theorem dX6_readClause_31 : decode cX6_readClause 31 = .ok (.ifCond .ne 12, 3) := by decide +kernel
theorem dX6_readClause_34 : decode cX6_readClause 34 = .ok (.aload_n 0, 1) := by decide +kernel
theorem dX6_readClause_35 : decode cX6_readClause 35 = .ok (.getfield 37, 3) := by decide +kernel
theorem dX6_readClause_38 : decode cX6_readClause 38 = .ok (.bipush 8, 2) := by decide +kernel
theorem dX6_readClause_40 : decode cX6_readClause 40 = .ok (.if_icmp .lt 15, 3) := by decide +kernel
theorem dX6_readClause_43 : decode cX6_readClause 43 = .ok (.aload_n 1, 1) := by decide +kernel
theorem dX6_readClause_44 : decode cX6_readClause 44 = .ok (.iconst 3, 1) := by decide +kernel
theorem dX6_readClause_45 : decode cX6_readClause 45 = .ok (.aload_n 1, 1) := by decide +kernel
theorem dX6_readClause_46 : decode cX6_readClause 46 = .ok (.getfield 84, 3) := by decide +kernel
theorem dX6_readClause_49 : decode cX6_readClause 49 = .ok (.invokevirtual 87, 3) := by decide +kernel
theorem dX6_readClause_52 : decode cX6_readClause 52 = .ok (.goto 8, 3) := by decide +kernel
theorem dX6_readClause_55 : decode cX6_readClause 55 = .ok (.aload_n 0, 1) := by decide +kernel
theorem dX6_readClause_56 : decode cX6_readClause 56 = .ok (.aload_n 1, 1) := by decide +kernel
theorem dX6_readClause_57 : decode cX6_readClause 57 = .ok (.invokevirtual 91, 3) := by decide +kernel
theorem dX6_readClause_60 : decode cX6_readClause 60 = .ok (.ireturn, 1) := by decide +kernel
theorem dX6_readClause_61 : decode cX6_readClause 61 = .ok (.aload_n 1, 1) := by decide +kernel
theorem dX6_readClause_62 : decode cX6_readClause 62 = .ok (.ldc 95, 2) := by decide +kernel
theorem dX6_readClause_64 : decode cX6_readClause 64 = .ok (.invokevirtual 80, 3) := by decide +kernel
theorem dX6_readClause_67 : decode cX6_readClause 67 = .ok (.ifCond .eq 34, 3) := by decide +kernel
theorem dX6_readClause_70 : decode cX6_readClause 70 = .ok (.iload_n 3, 1) := by decide +kernel
theorem dX6_readClause_71 : decode cX6_readClause 71 = .ok (.ifCond .ne 12, 3) := by decide +kernel
theorem dX6_readClause_74 : decode cX6_readClause 74 = .ok (.aload_n 0, 1) := by decide +kernel
theorem dX6_readClause_75 : decode cX6_readClause 75 = .ok (.getfield 40, 3) := by decide +kernel
theorem dX6_readClause_78 : decode cX6_readClause 78 = .ok (.bipush 10, 2) := by decide +kernel
theorem dX6_readClause_80 : decode cX6_readClause 80 = .ok (.if_icmp .lt 15, 3) := by decide +kernel
theorem dX6_readClause_83 : decode cX6_readClause 83 = .ok (.aload_n 1, 1) := by decide +kernel
theorem dX6_readClause_84 : decode cX6_readClause 84 = .ok (.iconst 3, 1) := by decide +kernel
theorem dX6_readClause_85 : decode cX6_readClause 85 = .ok (.aload_n 1, 1) := by decide +kernel
theorem dX6_readClause_86 : decode cX6_readClause 86 = .ok (.getfield 84, 3) := by decide +kernel
theorem dX6_readClause_89 : decode cX6_readClause 89 = .ok (.invokevirtual 87, 3) := by decide +kernel
theorem dX6_readClause_92 : decode cX6_readClause 92 = .ok (.goto 8, 3) := by decide +kernel
theorem dX6_readClause_95 : decode cX6_readClause 95 = .ok (.aload_n 0, 1) := by decide +kernel
theorem dX6_readClause_96 : decode cX6_readClause 96 = .ok (.aload_n 1, 1) := by decide +kernel
theorem dX6_readClause_97 : decode cX6_readClause 97 = .ok (.invokevirtual 97, 3) := by decide +kernel
theorem dX6_readClause_100 : decode cX6_readClause 100 = .ok (.ireturn, 1) := by decide +kernel
theorem dX6_readClause_101 : decode cX6_readClause 101 = .ok (.aload_n 1, 1) := by decide +kernel
theorem dX6_readClause_102 : decode cX6_readClause 102 = .ok (.ldc 100, 2) := by decide +kernel
theorem dX6_readClause_104 : decode cX6_readClause 104 = .ok (.invokevirtual 80, 3) := by decide +kernel
theorem dX6_readClause_107 : decode cX6_readClause 107 = .ok (.ifCond .eq 25, 3) := by decide +kernel
theorem dX6_readClause_110 : decode cX6_readClause 110 = .ok (.iload_n 3, 1) := by decide +kernel
theorem dX6_readClause_111 : decode cX6_readClause 111 = .ok (.ifCond .eq 15, 3) := by decide +kernel
theorem dX6_readClause_114 : decode cX6_readClause 114 = .ok (.aload_n 1, 1) := by decide +kernel
theorem dX6_readClause_115 : decode cX6_readClause 115 = .ok (.iconst 3, 1) := by decide +kernel
theorem dX6_readClause_116 : decode cX6_readClause 116 = .ok (.aload_n 1, 1) := by decide +kernel
theorem dX6_readClause_117 : decode cX6_readClause 117 = .ok (.getfield 84, 3) := by decide +kernel
theorem dX6_readClause_120 : decode cX6_readClause 120 = .ok (.invokevirtual 87, 3) := by decide +kernel
theorem dX6_readClause_123 : decode cX6_readClause 123 = .ok (.goto 8, 3) := by decide +kernel
theorem dX6_readClause_126 : decode cX6_readClause 126 = .ok (.aload_n 0, 1) := by decide +kernel
theorem dX6_readClause_127 : decode cX6_readClause 127 = .ok (.aload_n 1, 1) := by decide +kernel
theorem dX6_readClause_128 : decode cX6_readClause 128 = .ok (.invokevirtual 102, 3) := by decide +kernel
theorem dX6_readClause_131 : decode cX6_readClause 131 = .ok (.ireturn, 1) := by decide +kernel
theorem dX6_readClause_132 : decode cX6_readClause 132 = .ok (.aload_n 1, 1) := by decide +kernel
theorem dX6_readClause_133 : decode cX6_readClause 133 = .ok (.iconst 1, 1) := by decide +kernel
theorem dX6_readClause_134 : decode cX6_readClause 134 = .ok (.aload_n 1, 1) := by decide +kernel
theorem dX6_readClause_135 : decode cX6_readClause 135 = .ok (.getfield 84, 3) := by decide +kernel
theorem dX6_readClause_138 : decode cX6_readClause 138 = .ok (.invokevirtual 87, 3) := by decide +kernel
theorem dX6_readClause_141 : decode cX6_readClause 141 = .ok (.ireturn, 1) := by decide +kernel
theorem dX6_readThing_0 : decode cX6_readThing 0 = .ok (.aload_n 1, 1) := by decide +kernel
theorem dX6_readThing_1 : decode cX6_readThing 1 = .ok (.iconst 1, 1) := by decide +kernel
theorem dX6_readThing_2 : decode cX6_readThing 2 = .ok (.bipush 60, 2) := by decide +kernel
theorem dX6_readThing_4 : decode cX6_readThing 4 = .ok (.invokevirtual 105, 3) := by decide +kernel
theorem dX6_readThing_7 : decode cX6_readThing 7 = .ok (.ifCond .eq 12, 3) := by decide +kernel
theorem dX6_readThing_10 : decode cX6_readThing 10 = .ok (.aload_n 0, 1) := by decide +kernel
theorem dX6_readThing_11 : decode cX6_readThing 11 = .ok (.getfield 37, 3) := by decide +kernel
theorem dX6_readThing_14 : decode cX6_readThing 14 = .ok (.bipush 8, 2) := by decide +kernel
theorem dX6_readThing_16 : decode cX6_readThing 16 = .ok (.if_icmp .lt 5, 3) := by decide +kernel
theorem dX6_readThing_19 : decode cX6_readThing 19 = .ok (.iconst 0, 1) := by decide +kernel
theorem dX6_readThing_20 : decode cX6_readThing 20 = .ok (.ireturn, 1) := by decide +kernel
theorem dX6_readThing_21 : decode cX6_readThing 21 = .ok (.aload_n 0, 1) := by decide +kernel
theorem dX6_readThing_22 : decode cX6_readThing 22 = .ok (.getfield 11, 3) := by decide +kernel
theorem dX6_readThing_25 : decode cX6_readThing 25 = .ok (.aload_n 0, 1) := by decide +kernel
theorem dX6_readThing_26 : decode cX6_readThing 26 = .ok (.getfield 37, 3) := by decide +kernel
theorem dX6_readThing_29 : decode cX6_readThing 29 = .ok (.aload_n 1, 1) := by decide +kernel
theorem dX6_readThing_30 : decode cX6_readThing 30 = .ok (.getfield 108, 3) := by decide +kernel
theorem dX6_readThing_33 : decode cX6_readThing 33 = .ok (.iastore, 1) := by decide +kernel
theorem dX6_readThing_34 : decode cX6_readThing 34 = .ok (.aload_n 0, 1) := by decide +kernel
theorem dX6_readThing_35 : decode cX6_readThing 35 = .ok (.getfield 15, 3) := by decide +kernel
theorem dX6_readThing_38 : decode cX6_readThing 38 = .ok (.aload_n 0, 1) := by decide +kernel
theorem dX6_readThing_39 : decode cX6_readThing 39 = .ok (.getfield 37, 3) := by decide +kernel
theorem dX6_readThing_42 : decode cX6_readThing 42 = .ok (.aload_n 1, 1) := by decide +kernel
theorem dX6_readThing_43 : decode cX6_readThing 43 = .ok (.getfield 108, 3) := by decide +kernel
theorem dX6_readThing_46 : decode cX6_readThing 46 = .ok (.iastore, 1) := by decide +kernel
theorem dX6_readThing_47 : decode cX6_readThing 47 = .ok (.aload_n 0, 1) := by decide +kernel
theorem dX6_readThing_48 : decode cX6_readThing 48 = .ok (.dup, 1) := by decide +kernel
theorem dX6_readThing_49 : decode cX6_readThing 49 = .ok (.getfield 37, 3) := by decide +kernel
theorem dX6_readThing_52 : decode cX6_readThing 52 = .ok (.iconst 1, 1) := by decide +kernel
theorem dX6_readThing_53 : decode cX6_readThing 53 = .ok (.iadd, 1) := by decide +kernel
theorem dX6_readThing_54 : decode cX6_readThing 54 = .ok (.putfield 37, 3) := by decide +kernel
theorem dX6_readThing_57 : decode cX6_readThing 57 = .ok (.iconst 1, 1) := by decide +kernel
theorem dX6_readThing_58 : decode cX6_readThing 58 = .ok (.ireturn, 1) := by decide +kernel
theorem dX6_readCry_0 : decode cX6_readCry 0 = .ok (.aload_n 1, 1) := by decide +kernel
theorem dX6_readCry_1 : decode cX6_readCry 1 = .ok (.iconst 0, 1) := by decide +kernel
theorem dX6_readCry_2 : decode cX6_readCry 2 = .ok (.aload_n 0, 1) := by decide +kernel
theorem dX6_readCry_3 : decode cX6_readCry 3 = .ok (.getfield 37, 3) := by decide +kernel
theorem dX6_readCry_6 : decode cX6_readCry 6 = .ok (.iconst 1, 1) := by decide +kernel
theorem dX6_readCry_7 : decode cX6_readCry 7 = .ok (.isub, 1) := by decide +kernel
theorem dX6_readCry_8 : decode cX6_readCry 8 = .ok (.invokevirtual 105, 3) := by decide +kernel
theorem dX6_readCry_11 : decode cX6_readCry 11 = .ok (.ifCond .ne 5, 3) := by decide +kernel
theorem dX6_readCry_14 : decode cX6_readCry 14 = .ok (.iconst 0, 1) := by decide +kernel
theorem dX6_readCry_15 : decode cX6_readCry 15 = .ok (.ireturn, 1) := by decide +kernel
theorem dX6_readCry_16 : decode cX6_readCry 16 = .ok (.aload_n 1, 1) := by decide +kernel
theorem dX6_readCry_17 : decode cX6_readCry 17 = .ok (.getfield 108, 3) := by decide +kernel
theorem dX6_readCry_20 : decode cX6_readCry 20 = .ok (.istore_n 2, 1) := by decide +kernel
theorem dX6_readCry_21 : decode cX6_readCry 21 = .ok (.aload_n 1, 1) := by decide +kernel
theorem dX6_readCry_22 : decode cX6_readCry 22 = .ok (.iconst 1, 1) := by decide +kernel
theorem dX6_readCry_23 : decode cX6_readCry 23 = .ok (.bipush 9, 2) := by decide +kernel
theorem dX6_readCry_25 : decode cX6_readCry 25 = .ok (.invokevirtual 105, 3) := by decide +kernel
theorem dX6_readCry_28 : decode cX6_readCry 28 = .ok (.ifCond .ne 5, 3) := by decide +kernel
theorem dX6_readCry_31 : decode cX6_readCry 31 = .ok (.iconst 0, 1) := by decide +kernel
theorem dX6_readCry_32 : decode cX6_readCry 32 = .ok (.ireturn, 1) := by decide +kernel
theorem dX6_readCry_33 : decode cX6_readCry 33 = .ok (.aload_n 1, 1) := by decide +kernel
theorem dX6_readCry_34 : decode cX6_readCry 34 = .ok (.getfield 108, 3) := by decide +kernel
theorem dX6_readCry_37 : decode cX6_readCry 37 = .ok (.istore_n 3, 1) := by decide +kernel
theorem dX6_readCry_38 : decode cX6_readCry 38 = .ok (.aload_n 1, 1) := by decide +kernel
theorem dX6_readCry_39 : decode cX6_readCry 39 = .ok (.aload_n 0, 1) := by decide +kernel
theorem dX6_readCry_40 : decode cX6_readCry 40 = .ok (.getfield 37, 3) := by decide +kernel
theorem dX6_readCry_43 : decode cX6_readCry 43 = .ok (.iload_n 2, 1) := by decide +kernel
theorem dX6_readCry_44 : decode cX6_readCry 44 = .ok (.invokevirtual 111, 3) := by decide +kernel
theorem dX6_readCry_47 : decode cX6_readCry 47 = .ok (.ifCond .ne 5, 3) := by decide +kernel
theorem dX6_readCry_50 : decode cX6_readCry 50 = .ok (.iconst 0, 1) := by decide +kernel
theorem dX6_readCry_51 : decode cX6_readCry 51 = .ok (.ireturn, 1) := by decide +kernel
theorem dX6_readCry_52 : decode cX6_readCry 52 = .ok (.aload_n 1, 1) := by decide +kernel
theorem dX6_readCry_53 : decode cX6_readCry 53 = .ok (.getfield 108, 3) := by decide +kernel
theorem dX6_readCry_56 : decode cX6_readCry 56 = .ok (.istore 4, 2) := by decide +kernel
theorem dX6_readCry_58 : decode cX6_readCry 58 = .ok (.aload_n 1, 1) := by decide +kernel
theorem dX6_readCry_59 : decode cX6_readCry 59 = .ok (.iconst 1, 1) := by decide +kernel
theorem dX6_readCry_60 : decode cX6_readCry 60 = .ok (.bipush 9, 2) := by decide +kernel
theorem dX6_readCry_62 : decode cX6_readCry 62 = .ok (.invokevirtual 105, 3) := by decide +kernel
theorem dX6_readCry_65 : decode cX6_readCry 65 = .ok (.ifCond .ne 5, 3) := by decide +kernel
theorem dX6_readCry_68 : decode cX6_readCry 68 = .ok (.iconst 0, 1) := by decide +kernel
theorem dX6_readCry_69 : decode cX6_readCry 69 = .ok (.ireturn, 1) := by decide +kernel
theorem dX6_readCry_70 : decode cX6_readCry 70 = .ok (.aload_n 0, 1) := by decide +kernel
theorem dX6_readCry_71 : decode cX6_readCry 71 = .ok (.iload_n 2, 1) := by decide +kernel
theorem dX6_readCry_72 : decode cX6_readCry 72 = .ok (.iload_n 3, 1) := by decide +kernel
theorem dX6_readCry_73 : decode cX6_readCry 73 = .ok (.iload 4, 2) := by decide +kernel
theorem dX6_readCry_75 : decode cX6_readCry 75 = .ok (.aload_n 1, 1) := by decide +kernel
theorem dX6_readCry_76 : decode cX6_readCry 76 = .ok (.getfield 108, 3) := by decide +kernel
theorem dX6_readCry_79 : decode cX6_readCry 79 = .ok (.invokevirtual 114, 3) := by decide +kernel
theorem dX6_readCry_82 : decode cX6_readCry 82 = .ok (.iconst 1, 1) := by decide +kernel
theorem dX6_readCry_83 : decode cX6_readCry 83 = .ok (.ireturn, 1) := by decide +kernel
theorem dX6_readBeam_0 : decode cX6_readBeam 0 = .ok (.aload_n 1, 1) := by decide +kernel
theorem dX6_readBeam_1 : decode cX6_readBeam 1 = .ok (.iconst 0, 1) := by decide +kernel
theorem dX6_readBeam_2 : decode cX6_readBeam 2 = .ok (.bipush 18, 2) := by decide +kernel
theorem dX6_readBeam_4 : decode cX6_readBeam 4 = .ok (.invokevirtual 105, 3) := by decide +kernel
theorem dX6_readBeam_7 : decode cX6_readBeam 7 = .ok (.ifCond .ne 5, 3) := by decide +kernel
theorem dX6_readBeam_10 : decode cX6_readBeam 10 = .ok (.iconst 0, 1) := by decide +kernel
theorem dX6_readBeam_11 : decode cX6_readBeam 11 = .ok (.ireturn, 1) := by decide +kernel
theorem dX6_readBeam_12 : decode cX6_readBeam 12 = .ok (.aload_n 0, 1) := by decide +kernel
theorem dX6_readBeam_13 : decode cX6_readBeam 13 = .ok (.aload_n 1, 1) := by decide +kernel
theorem dX6_readBeam_14 : decode cX6_readBeam 14 = .ok (.getfield 108, 3) := by decide +kernel
theorem dX6_readBeam_17 : decode cX6_readBeam 17 = .ok (.putfield 27, 3) := by decide +kernel
theorem dX6_readBeam_20 : decode cX6_readBeam 20 = .ok (.aload_n 1, 1) := by decide +kernel
theorem dX6_readBeam_21 : decode cX6_readBeam 21 = .ok (.iconst 0, 1) := by decide +kernel
theorem dX6_readBeam_22 : decode cX6_readBeam 22 = .ok (.bipush 9, 2) := by decide +kernel
theorem dX6_readBeam_24 : decode cX6_readBeam 24 = .ok (.invokevirtual 105, 3) := by decide +kernel
theorem dX6_readBeam_27 : decode cX6_readBeam 27 = .ok (.ifCond .ne 5, 3) := by decide +kernel
theorem dX6_readBeam_30 : decode cX6_readBeam 30 = .ok (.iconst 0, 1) := by decide +kernel
theorem dX6_readBeam_31 : decode cX6_readBeam 31 = .ok (.ireturn, 1) := by decide +kernel
theorem dX6_readBeam_32 : decode cX6_readBeam 32 = .ok (.aload_n 0, 1) := by decide +kernel
theorem dX6_readBeam_33 : decode cX6_readBeam 33 = .ok (.aload_n 1, 1) := by decide +kernel
theorem dX6_readBeam_34 : decode cX6_readBeam 34 = .ok (.getfield 108, 3) := by decide +kernel
theorem dX6_readBeam_37 : decode cX6_readBeam 37 = .ok (.putfield 43, 3) := by decide +kernel
theorem dX6_readBeam_40 : decode cX6_readBeam 40 = .ok (.iconst 1, 1) := by decide +kernel
theorem dX6_readBeam_41 : decode cX6_readBeam 41 = .ok (.ireturn, 1) := by decide +kernel
theorem dX6_isThing_0 : decode cX6_isThing 0 = .ok (.iload_n 1, 1) := by decide +kernel
theorem dX6_isThing_1 : decode cX6_isThing 1 = .ok (.ifCond .lt 21, 3) := by decide +kernel
theorem dX6_isThing_4 : decode cX6_isThing 4 = .ok (.iload_n 1, 1) := by decide +kernel
theorem dX6_isThing_5 : decode cX6_isThing 5 = .ok (.aload_n 0, 1) := by decide +kernel
theorem dX6_isThing_6 : decode cX6_isThing 6 = .ok (.getfield 37, 3) := by decide +kernel
theorem dX6_isThing_9 : decode cX6_isThing 9 = .ok (.if_icmp .ge 13, 3) := by decide +kernel
theorem dX6_isThing_12 : decode cX6_isThing 12 = .ok (.iload_n 1, 1) := by decide +kernel
theorem dX6_isThing_13 : decode cX6_isThing 13 = .ok (.bipush 8, 2) := by decide +kernel
theorem dX6_isThing_15 : decode cX6_isThing 15 = .ok (.if_icmp .ge 7, 3) := by decide +kernel
theorem dX6_isThing_18 : decode cX6_isThing 18 = .ok (.iconst 1, 1) := by decide +kernel
theorem dX6_isThing_19 : decode cX6_isThing 19 = .ok (.goto 4, 3) := by decide +kernel
theorem dX6_isThing_22 : decode cX6_isThing 22 = .ok (.iconst 0, 1) := by decide +kernel
theorem dX6_isThing_23 : decode cX6_isThing 23 = .ok (.ireturn, 1) := by decide +kernel
theorem dX6_weightOf_0 : decode cX6_weightOf 0 = .ok (.aload_n 0, 1) := by decide +kernel
theorem dX6_weightOf_1 : decode cX6_weightOf 1 = .ok (.iload_n 1, 1) := by decide +kernel
theorem dX6_weightOf_2 : decode cX6_weightOf 2 = .ok (.invokevirtual 118, 3) := by decide +kernel
theorem dX6_weightOf_5 : decode cX6_weightOf 5 = .ok (.ifCond .eq 12, 3) := by decide +kernel
theorem dX6_weightOf_8 : decode cX6_weightOf 8 = .ok (.aload_n 0, 1) := by decide +kernel
theorem dX6_weightOf_9 : decode cX6_weightOf 9 = .ok (.getfield 15, 3) := by decide +kernel
theorem dX6_weightOf_12 : decode cX6_weightOf 12 = .ok (.iload_n 1, 1) := by decide +kernel
theorem dX6_weightOf_13 : decode cX6_weightOf 13 = .ok (.iaload, 1) := by decide +kernel
theorem dX6_weightOf_14 : decode cX6_weightOf 14 = .ok (.goto 4, 3) := by decide +kernel
theorem dX6_weightOf_17 : decode cX6_weightOf 17 = .ok (.iconst 0, 1) := by decide +kernel
theorem dX6_weightOf_18 : decode cX6_weightOf 18 = .ok (.ireturn, 1) := by decide +kernel
theorem dX6_toldOf_0 : decode cX6_toldOf 0 = .ok (.aload_n 0, 1) := by decide +kernel
theorem dX6_toldOf_1 : decode cX6_toldOf 1 = .ok (.iload_n 1, 1) := by decide +kernel
theorem dX6_toldOf_2 : decode cX6_toldOf 2 = .ok (.invokevirtual 118, 3) := by decide +kernel
theorem dX6_toldOf_5 : decode cX6_toldOf 5 = .ok (.ifCond .eq 12, 3) := by decide +kernel
theorem dX6_toldOf_8 : decode cX6_toldOf 8 = .ok (.aload_n 0, 1) := by decide +kernel
theorem dX6_toldOf_9 : decode cX6_toldOf 9 = .ok (.getfield 11, 3) := by decide +kernel
theorem dX6_toldOf_12 : decode cX6_toldOf 12 = .ok (.iload_n 1, 1) := by decide +kernel
theorem dX6_toldOf_13 : decode cX6_toldOf 13 = .ok (.iaload, 1) := by decide +kernel
theorem dX6_toldOf_14 : decode cX6_toldOf 14 = .ok (.goto 4, 3) := by decide +kernel
theorem dX6_toldOf_17 : decode cX6_toldOf 17 = .ok (.iconst 0, 1) := by decide +kernel
theorem dX6_toldOf_18 : decode cX6_toldOf 18 = .ok (.ireturn, 1) := by decide +kernel
theorem dX6_weighedOf_0 : decode cX6_weighedOf 0 = .ok (.aload_n 0, 1) := by decide +kernel
theorem dX6_weighedOf_1 : decode cX6_weighedOf 1 = .ok (.iload_n 1, 1) := by decide +kernel
theorem dX6_weighedOf_2 : decode cX6_weighedOf 2 = .ok (.invokevirtual 118, 3) := by decide +kernel
theorem dX6_weighedOf_5 : decode cX6_weighedOf 5 = .ok (.ifCond .eq 12, 3) := by decide +kernel
theorem dX6_weighedOf_8 : decode cX6_weighedOf 8 = .ok (.aload_n 0, 1) := by decide +kernel
theorem dX6_weighedOf_9 : decode cX6_weighedOf 9 = .ok (.getfield 18, 3) := by decide +kernel
theorem dX6_weighedOf_12 : decode cX6_weighedOf 12 = .ok (.iload_n 1, 1) := by decide +kernel
theorem dX6_weighedOf_13 : decode cX6_weighedOf 13 = .ok (.iaload, 1) := by decide +kernel
theorem dX6_weighedOf_14 : decode cX6_weighedOf 14 = .ok (.goto 4, 3) := by decide +kernel
theorem dX6_weighedOf_17 : decode cX6_weighedOf 17 = .ok (.iconst 0, 1) := by decide +kernel
theorem dX6_weighedOf_18 : decode cX6_weighedOf 18 = .ok (.ireturn, 1) := by decide +kernel
theorem dX6_cryPart_0 : decode cX6_cryPart 0 = .ok (.iload_n 1, 1) := by decide +kernel
theorem dX6_cryPart_1 : decode cX6_cryPart 1 = .ok (.ifCond .lt 30, 3) := by decide +kernel
theorem dX6_cryPart_4 : decode cX6_cryPart 4 = .ok (.iload_n 1, 1) := by decide +kernel
theorem dX6_cryPart_5 : decode cX6_cryPart 5 = .ok (.aload_n 0, 1) := by decide +kernel
theorem dX6_cryPart_6 : decode cX6_cryPart 6 = .ok (.getfield 40, 3) := by decide +kernel
theorem dX6_cryPart_9 : decode cX6_cryPart 9 = .ok (.if_icmp .ge 22, 3) := by decide +kernel
theorem dX6_cryPart_12 : decode cX6_cryPart 12 = .ok (.iload_n 1, 1) := by decide +kernel
theorem dX6_cryPart_13 : decode cX6_cryPart 13 = .ok (.bipush 10, 2) := by decide +kernel
theorem dX6_cryPart_15 : decode cX6_cryPart 15 = .ok (.if_icmp .ge 16, 3) := by decide +kernel
theorem dX6_cryPart_18 : decode cX6_cryPart 18 = .ok (.iload_n 2, 1) := by decide +kernel
theorem dX6_cryPart_19 : decode cX6_cryPart 19 = .ok (.ifCond .lt 12, 3) := by decide +kernel
theorem dX6_cryPart_22 : decode cX6_cryPart 22 = .ok (.iload_n 2, 1) := by decide +kernel
theorem dX6_cryPart_23 : decode cX6_cryPart 23 = .ok (.iconst 4, 1) := by decide +kernel
theorem dX6_cryPart_24 : decode cX6_cryPart 24 = .ok (.if_icmp .ge 7, 3) := by decide +kernel
theorem dX6_cryPart_27 : decode cX6_cryPart 27 = .ok (.iconst 1, 1) := by decide +kernel
theorem dX6_cryPart_28 : decode cX6_cryPart 28 = .ok (.goto 4, 3) := by decide +kernel
theorem dX6_cryPart_31 : decode cX6_cryPart 31 = .ok (.iconst 0, 1) := by decide +kernel
theorem dX6_cryPart_32 : decode cX6_cryPart 32 = .ok (.istore_n 3, 1) := by decide +kernel
theorem dX6_cryPart_33 : decode cX6_cryPart 33 = .ok (.iload_n 3, 1) := by decide +kernel
theorem dX6_cryPart_34 : decode cX6_cryPart 34 = .ok (.ifCond .eq 16, 3) := by decide +kernel
theorem dX6_cryPart_37 : decode cX6_cryPart 37 = .ok (.aload_n 0, 1) := by decide +kernel
theorem dX6_cryPart_38 : decode cX6_cryPart 38 = .ok (.getfield 24, 3) := by decide +kernel
theorem dX6_cryPart_41 : decode cX6_cryPart 41 = .ok (.iconst 4, 1) := by decide +kernel
theorem dX6_cryPart_42 : decode cX6_cryPart 42 = .ok (.iload_n 1, 1) := by decide +kernel
theorem dX6_cryPart_43 : decode cX6_cryPart 43 = .ok (.imul, 1) := by decide +kernel
theorem dX6_cryPart_44 : decode cX6_cryPart 44 = .ok (.iload_n 2, 1) := by decide +kernel
theorem dX6_cryPart_45 : decode cX6_cryPart 45 = .ok (.iadd, 1) := by decide +kernel
theorem dX6_cryPart_46 : decode cX6_cryPart 46 = .ok (.iaload, 1) := by decide +kernel
theorem dX6_cryPart_47 : decode cX6_cryPart 47 = .ok (.goto 4, 3) := by decide +kernel
theorem dX6_cryPart_50 : decode cX6_cryPart 50 = .ok (.iconst 0, 1) := by decide +kernel
theorem dX6_cryPart_51 : decode cX6_cryPart 51 = .ok (.ireturn, 1) := by decide +kernel
theorem dX6_weightOfAll_0 : decode cX6_weightOfAll 0 = .ok (.iconst 0, 1) := by decide +kernel
theorem dX6_weightOfAll_1 : decode cX6_weightOfAll 1 = .ok (.istore_n 1, 1) := by decide +kernel
theorem dX6_weightOfAll_2 : decode cX6_weightOfAll 2 = .ok (.iconst 0, 1) := by decide +kernel
theorem dX6_weightOfAll_3 : decode cX6_weightOfAll 3 = .ok (.istore_n 2, 1) := by decide +kernel
theorem dX6_weightOfAll_4 : decode cX6_weightOfAll 4 = .ok (.iload_n 2, 1) := by decide +kernel
theorem dX6_weightOfAll_5 : decode cX6_weightOfAll 5 = .ok (.aload_n 0, 1) := by decide +kernel
theorem dX6_weightOfAll_6 : decode cX6_weightOfAll 6 = .ok (.getfield 37, 3) := by decide +kernel
theorem dX6_weightOfAll_9 : decode cX6_weightOfAll 9 = .ok (.if_icmp .ge 17, 3) := by decide +kernel
theorem dX6_weightOfAll_12 : decode cX6_weightOfAll 12 = .ok (.iload_n 1, 1) := by decide +kernel
theorem dX6_weightOfAll_13 : decode cX6_weightOfAll 13 = .ok (.aload_n 0, 1) := by decide +kernel
theorem dX6_weightOfAll_14 : decode cX6_weightOfAll 14 = .ok (.iload_n 2, 1) := by decide +kernel
theorem dX6_weightOfAll_15 : decode cX6_weightOfAll 15 = .ok (.invokevirtual 121, 3) := by decide +kernel
theorem dX6_weightOfAll_18 : decode cX6_weightOfAll 18 = .ok (.iadd, 1) := by decide +kernel
theorem dX6_weightOfAll_19 : decode cX6_weightOfAll 19 = .ok (.istore_n 1, 1) := by decide +kernel
theorem dX6_weightOfAll_20 : decode cX6_weightOfAll 20 = .ok (.iinc 2 1, 3) := by decide +kernel
theorem dX6_weightOfAll_23 : decode cX6_weightOfAll 23 = .ok (.goto (-19), 3) := by decide +kernel
theorem dX6_weightOfAll_26 : decode cX6_weightOfAll 26 = .ok (.iload_n 1, 1) := by decide +kernel
theorem dX6_weightOfAll_27 : decode cX6_weightOfAll 27 = .ok (.ireturn, 1) := by decide +kernel
theorem dX6_heaviestThing_0 : decode cX6_heaviestThing 0 = .ok (.iconst (-1), 1) := by decide +kernel
theorem dX6_heaviestThing_1 : decode cX6_heaviestThing 1 = .ok (.istore_n 1, 1) := by decide +kernel
theorem dX6_heaviestThing_2 : decode cX6_heaviestThing 2 = .ok (.iconst 0, 1) := by decide +kernel
theorem dX6_heaviestThing_3 : decode cX6_heaviestThing 3 = .ok (.istore_n 2, 1) := by decide +kernel
theorem dX6_heaviestThing_4 : decode cX6_heaviestThing 4 = .ok (.iload_n 2, 1) := by decide +kernel
theorem dX6_heaviestThing_5 : decode cX6_heaviestThing 5 = .ok (.aload_n 0, 1) := by decide +kernel
theorem dX6_heaviestThing_6 : decode cX6_heaviestThing 6 = .ok (.getfield 37, 3) := by decide +kernel
theorem dX6_heaviestThing_9 : decode cX6_heaviestThing 9 = .ok (.if_icmp .ge 29, 3) := by decide +kernel
theorem dX6_heaviestThing_12 : decode cX6_heaviestThing 12 = .ok (.iload_n 1, 1) := by decide +kernel
theorem dX6_heaviestThing_13 : decode cX6_heaviestThing 13 = .ok (.iconst (-1), 1) := by decide +kernel
theorem dX6_heaviestThing_14 : decode cX6_heaviestThing 14 = .ok (.if_icmp .eq 16, 3) := by decide +kernel
theorem dX6_heaviestThing_17 : decode cX6_heaviestThing 17 = .ok (.aload_n 0, 1) := by decide +kernel
theorem dX6_heaviestThing_18 : decode cX6_heaviestThing 18 = .ok (.iload_n 2, 1) := by decide +kernel
theorem dX6_heaviestThing_19 : decode cX6_heaviestThing 19 = .ok (.invokevirtual 121, 3) := by decide +kernel
theorem dX6_heaviestThing_22 : decode cX6_heaviestThing 22 = .ok (.aload_n 0, 1) := by decide +kernel
theorem dX6_heaviestThing_23 : decode cX6_heaviestThing 23 = .ok (.iload_n 1, 1) := by decide +kernel
theorem dX6_heaviestThing_24 : decode cX6_heaviestThing 24 = .ok (.invokevirtual 121, 3) := by decide +kernel
theorem dX6_heaviestThing_27 : decode cX6_heaviestThing 27 = .ok (.if_icmp .le 5, 3) := by decide +kernel
theorem dX6_heaviestThing_30 : decode cX6_heaviestThing 30 = .ok (.iload_n 2, 1) := by decide +kernel
theorem dX6_heaviestThing_31 : decode cX6_heaviestThing 31 = .ok (.istore_n 1, 1) := by decide +kernel
theorem dX6_heaviestThing_32 : decode cX6_heaviestThing 32 = .ok (.iinc 2 1, 3) := by decide +kernel
theorem dX6_heaviestThing_35 : decode cX6_heaviestThing 35 = .ok (.goto (-31), 3) := by decide +kernel
theorem dX6_heaviestThing_38 : decode cX6_heaviestThing 38 = .ok (.iload_n 1, 1) := by decide +kernel
theorem dX6_heaviestThing_39 : decode cX6_heaviestThing 39 = .ok (.ireturn, 1) := by decide +kernel
theorem dX6_criesNotSo_0 : decode cX6_criesNotSo 0 = .ok (.iconst 0, 1) := by decide +kernel
theorem dX6_criesNotSo_1 : decode cX6_criesNotSo 1 = .ok (.istore_n 1, 1) := by decide +kernel
theorem dX6_criesNotSo_2 : decode cX6_criesNotSo 2 = .ok (.iconst 0, 1) := by decide +kernel
theorem dX6_criesNotSo_3 : decode cX6_criesNotSo 3 = .ok (.istore_n 2, 1) := by decide +kernel
theorem dX6_criesNotSo_4 : decode cX6_criesNotSo 4 = .ok (.iload_n 2, 1) := by decide +kernel
theorem dX6_criesNotSo_5 : decode cX6_criesNotSo 5 = .ok (.aload_n 0, 1) := by decide +kernel
theorem dX6_criesNotSo_6 : decode cX6_criesNotSo 6 = .ok (.getfield 40, 3) := by decide +kernel
theorem dX6_criesNotSo_9 : decode cX6_criesNotSo 9 = .ok (.if_icmp .ge 62, 3) := by decide +kernel
theorem dX6_criesNotSo_12 : decode cX6_criesNotSo 12 = .ok (.aload_n 0, 1) := by decide +kernel
theorem dX6_criesNotSo_13 : decode cX6_criesNotSo 13 = .ok (.aload_n 0, 1) := by decide +kernel
theorem dX6_criesNotSo_14 : decode cX6_criesNotSo 14 = .ok (.iload_n 2, 1) := by decide +kernel
theorem dX6_criesNotSo_15 : decode cX6_criesNotSo 15 = .ok (.iconst 0, 1) := by decide +kernel
theorem dX6_criesNotSo_16 : decode cX6_criesNotSo 16 = .ok (.invokevirtual 125, 3) := by decide +kernel
theorem dX6_criesNotSo_19 : decode cX6_criesNotSo 19 = .ok (.invokevirtual 121, 3) := by decide +kernel
theorem dX6_criesNotSo_22 : decode cX6_criesNotSo 22 = .ok (.aload_n 0, 1) := by decide +kernel
theorem dX6_criesNotSo_23 : decode cX6_criesNotSo 23 = .ok (.iload_n 2, 1) := by decide +kernel
theorem dX6_criesNotSo_24 : decode cX6_criesNotSo 24 = .ok (.iconst 1, 1) := by decide +kernel
theorem dX6_criesNotSo_25 : decode cX6_criesNotSo 25 = .ok (.invokevirtual 125, 3) := by decide +kernel
theorem dX6_criesNotSo_28 : decode cX6_criesNotSo 28 = .ok (.imul, 1) := by decide +kernel
theorem dX6_criesNotSo_29 : decode cX6_criesNotSo 29 = .ok (.istore_n 3, 1) := by decide +kernel
theorem dX6_criesNotSo_30 : decode cX6_criesNotSo 30 = .ok (.aload_n 0, 1) := by decide +kernel
theorem dX6_criesNotSo_31 : decode cX6_criesNotSo 31 = .ok (.aload_n 0, 1) := by decide +kernel
theorem dX6_criesNotSo_32 : decode cX6_criesNotSo 32 = .ok (.iload_n 2, 1) := by decide +kernel
theorem dX6_criesNotSo_33 : decode cX6_criesNotSo 33 = .ok (.iconst 2, 1) := by decide +kernel
theorem dX6_criesNotSo_34 : decode cX6_criesNotSo 34 = .ok (.invokevirtual 125, 3) := by decide +kernel
theorem dX6_criesNotSo_37 : decode cX6_criesNotSo 37 = .ok (.invokevirtual 121, 3) := by decide +kernel
theorem dX6_criesNotSo_40 : decode cX6_criesNotSo 40 = .ok (.aload_n 0, 1) := by decide +kernel
theorem dX6_criesNotSo_41 : decode cX6_criesNotSo 41 = .ok (.iload_n 2, 1) := by decide +kernel
theorem dX6_criesNotSo_42 : decode cX6_criesNotSo 42 = .ok (.iconst 3, 1) := by decide +kernel
theorem dX6_criesNotSo_43 : decode cX6_criesNotSo 43 = .ok (.invokevirtual 125, 3) := by decide +kernel
theorem dX6_criesNotSo_46 : decode cX6_criesNotSo 46 = .ok (.imul, 1) := by decide +kernel
theorem dX6_criesNotSo_47 : decode cX6_criesNotSo 47 = .ok (.istore 4, 2) := by decide +kernel
theorem dX6_criesNotSo_49 : decode cX6_criesNotSo 49 = .ok (.iload_n 1, 1) := by decide +kernel
theorem dX6_criesNotSo_50 : decode cX6_criesNotSo 50 = .ok (.iload_n 3, 1) := by decide +kernel
theorem dX6_criesNotSo_51 : decode cX6_criesNotSo 51 = .ok (.iload 4, 2) := by decide +kernel
theorem dX6_criesNotSo_53 : decode cX6_criesNotSo 53 = .ok (.if_icmp .ge 9, 3) := by decide +kernel
theorem dX6_criesNotSo_56 : decode cX6_criesNotSo 56 = .ok (.iconst 1, 1) := by decide +kernel
theorem dX6_criesNotSo_57 : decode cX6_criesNotSo 57 = .ok (.iload_n 2, 1) := by decide +kernel
theorem dX6_criesNotSo_58 : decode cX6_criesNotSo 58 = .ok (.ishl, 1) := by decide +kernel
theorem dX6_criesNotSo_59 : decode cX6_criesNotSo 59 = .ok (.goto 4, 3) := by decide +kernel
theorem dX6_criesNotSo_62 : decode cX6_criesNotSo 62 = .ok (.iconst 0, 1) := by decide +kernel
theorem dX6_criesNotSo_63 : decode cX6_criesNotSo 63 = .ok (.ior, 1) := by decide +kernel
theorem dX6_criesNotSo_64 : decode cX6_criesNotSo 64 = .ok (.istore_n 1, 1) := by decide +kernel
theorem dX6_criesNotSo_65 : decode cX6_criesNotSo 65 = .ok (.iinc 2 1, 3) := by decide +kernel
theorem dX6_criesNotSo_68 : decode cX6_criesNotSo 68 = .ok (.goto (-64), 3) := by decide +kernel
theorem dX6_criesNotSo_71 : decode cX6_criesNotSo 71 = .ok (.iload_n 1, 1) := by decide +kernel
theorem dX6_criesNotSo_72 : decode cX6_criesNotSo 72 = .ok (.ireturn, 1) := by decide +kernel
theorem dX6_thingsCried_0 : decode cX6_thingsCried 0 = .ok (.iconst 0, 1) := by decide +kernel
theorem dX6_thingsCried_1 : decode cX6_thingsCried 1 = .ok (.istore_n 1, 1) := by decide +kernel
theorem dX6_thingsCried_2 : decode cX6_thingsCried 2 = .ok (.iconst 0, 1) := by decide +kernel
theorem dX6_thingsCried_3 : decode cX6_thingsCried 3 = .ok (.istore_n 2, 1) := by decide +kernel
theorem dX6_thingsCried_4 : decode cX6_thingsCried 4 = .ok (.iload_n 2, 1) := by decide +kernel
theorem dX6_thingsCried_5 : decode cX6_thingsCried 5 = .ok (.aload_n 0, 1) := by decide +kernel
theorem dX6_thingsCried_6 : decode cX6_thingsCried 6 = .ok (.getfield 40, 3) := by decide +kernel
theorem dX6_thingsCried_9 : decode cX6_thingsCried 9 = .ok (.if_icmp .ge 29, 3) := by decide +kernel
theorem dX6_thingsCried_12 : decode cX6_thingsCried 12 = .ok (.iload_n 1, 1) := by decide +kernel
theorem dX6_thingsCried_13 : decode cX6_thingsCried 13 = .ok (.iconst 1, 1) := by decide +kernel
theorem dX6_thingsCried_14 : decode cX6_thingsCried 14 = .ok (.aload_n 0, 1) := by decide +kernel
theorem dX6_thingsCried_15 : decode cX6_thingsCried 15 = .ok (.iload_n 2, 1) := by decide +kernel
theorem dX6_thingsCried_16 : decode cX6_thingsCried 16 = .ok (.iconst 0, 1) := by decide +kernel
theorem dX6_thingsCried_17 : decode cX6_thingsCried 17 = .ok (.invokevirtual 125, 3) := by decide +kernel
theorem dX6_thingsCried_20 : decode cX6_thingsCried 20 = .ok (.ishl, 1) := by decide +kernel
theorem dX6_thingsCried_21 : decode cX6_thingsCried 21 = .ok (.iconst 1, 1) := by decide +kernel
theorem dX6_thingsCried_22 : decode cX6_thingsCried 22 = .ok (.aload_n 0, 1) := by decide +kernel
theorem dX6_thingsCried_23 : decode cX6_thingsCried 23 = .ok (.iload_n 2, 1) := by decide +kernel
theorem dX6_thingsCried_24 : decode cX6_thingsCried 24 = .ok (.iconst 2, 1) := by decide +kernel
theorem dX6_thingsCried_25 : decode cX6_thingsCried 25 = .ok (.invokevirtual 125, 3) := by decide +kernel
theorem dX6_thingsCried_28 : decode cX6_thingsCried 28 = .ok (.ishl, 1) := by decide +kernel
theorem dX6_thingsCried_29 : decode cX6_thingsCried 29 = .ok (.ior, 1) := by decide +kernel
theorem dX6_thingsCried_30 : decode cX6_thingsCried 30 = .ok (.ior, 1) := by decide +kernel
theorem dX6_thingsCried_31 : decode cX6_thingsCried 31 = .ok (.istore_n 1, 1) := by decide +kernel
theorem dX6_thingsCried_32 : decode cX6_thingsCried 32 = .ok (.iinc 2 1, 3) := by decide +kernel
theorem dX6_thingsCried_35 : decode cX6_thingsCried 35 = .ok (.goto (-31), 3) := by decide +kernel
theorem dX6_thingsCried_38 : decode cX6_thingsCried 38 = .ok (.iload_n 1, 1) := by decide +kernel
theorem dX6_thingsCried_39 : decode cX6_thingsCried 39 = .ok (.ireturn, 1) := by decide +kernel
theorem dX6_criesWith_0 : decode cX6_criesWith 0 = .ok (.iconst 0, 1) := by decide +kernel
theorem dX6_criesWith_1 : decode cX6_criesWith 1 = .ok (.istore_n 2, 1) := by decide +kernel
theorem dX6_criesWith_2 : decode cX6_criesWith 2 = .ok (.iconst 0, 1) := by decide +kernel
theorem dX6_criesWith_3 : decode cX6_criesWith 3 = .ok (.istore_n 3, 1) := by decide +kernel
theorem dX6_criesWith_4 : decode cX6_criesWith 4 = .ok (.iload_n 3, 1) := by decide +kernel
theorem dX6_criesWith_5 : decode cX6_criesWith 5 = .ok (.aload_n 0, 1) := by decide +kernel
theorem dX6_criesWith_6 : decode cX6_criesWith 6 = .ok (.getfield 40, 3) := by decide +kernel
theorem dX6_criesWith_9 : decode cX6_criesWith 9 = .ok (.if_icmp .ge 49, 3) := by decide +kernel
theorem dX6_criesWith_12 : decode cX6_criesWith 12 = .ok (.iload_n 3, 1) := by decide +kernel
theorem dX6_criesWith_13 : decode cX6_criesWith 13 = .ok (.bipush 10, 2) := by decide +kernel
theorem dX6_criesWith_15 : decode cX6_criesWith 15 = .ok (.if_icmp .ge 43, 3) := by decide +kernel
theorem dX6_criesWith_18 : decode cX6_criesWith 18 = .ok (.aload_n 0, 1) := by decide +kernel
theorem dX6_criesWith_19 : decode cX6_criesWith 19 = .ok (.getfield 24, 3) := by decide +kernel
theorem dX6_criesWith_22 : decode cX6_criesWith 22 = .ok (.iconst 4, 1) := by decide +kernel
theorem dX6_criesWith_23 : decode cX6_criesWith 23 = .ok (.iload_n 3, 1) := by decide +kernel
theorem dX6_criesWith_24 : decode cX6_criesWith 24 = .ok (.imul, 1) := by decide +kernel
theorem dX6_criesWith_25 : decode cX6_criesWith 25 = .ok (.iconst 0, 1) := by decide +kernel
theorem dX6_criesWith_26 : decode cX6_criesWith 26 = .ok (.iadd, 1) := by decide +kernel
theorem dX6_criesWith_27 : decode cX6_criesWith 27 = .ok (.iaload, 1) := by decide +kernel
theorem dX6_criesWith_28 : decode cX6_criesWith 28 = .ok (.iload_n 1, 1) := by decide +kernel
theorem dX6_criesWith_29 : decode cX6_criesWith 29 = .ok (.if_icmp .eq 17, 3) := by decide +kernel
theorem dX6_criesWith_32 : decode cX6_criesWith 32 = .ok (.aload_n 0, 1) := by decide +kernel
theorem dX6_criesWith_33 : decode cX6_criesWith 33 = .ok (.getfield 24, 3) := by decide +kernel
theorem dX6_criesWith_36 : decode cX6_criesWith 36 = .ok (.iconst 4, 1) := by decide +kernel
theorem dX6_criesWith_37 : decode cX6_criesWith 37 = .ok (.iload_n 3, 1) := by decide +kernel
theorem dX6_criesWith_38 : decode cX6_criesWith 38 = .ok (.imul, 1) := by decide +kernel
theorem dX6_criesWith_39 : decode cX6_criesWith 39 = .ok (.iconst 2, 1) := by decide +kernel
theorem dX6_criesWith_40 : decode cX6_criesWith 40 = .ok (.iadd, 1) := by decide +kernel
theorem dX6_criesWith_41 : decode cX6_criesWith 41 = .ok (.iaload, 1) := by decide +kernel
theorem dX6_criesWith_42 : decode cX6_criesWith 42 = .ok (.iload_n 1, 1) := by decide +kernel
theorem dX6_criesWith_43 : decode cX6_criesWith 43 = .ok (.if_icmp .ne 9, 3) := by decide +kernel
theorem dX6_criesWith_46 : decode cX6_criesWith 46 = .ok (.iload_n 2, 1) := by decide +kernel
theorem dX6_criesWith_47 : decode cX6_criesWith 47 = .ok (.iconst 1, 1) := by decide +kernel
theorem dX6_criesWith_48 : decode cX6_criesWith 48 = .ok (.iload_n 3, 1) := by decide +kernel
theorem dX6_criesWith_49 : decode cX6_criesWith 49 = .ok (.ishl, 1) := by decide +kernel
theorem dX6_criesWith_50 : decode cX6_criesWith 50 = .ok (.ior, 1) := by decide +kernel
theorem dX6_criesWith_51 : decode cX6_criesWith 51 = .ok (.istore_n 2, 1) := by decide +kernel
theorem dX6_criesWith_52 : decode cX6_criesWith 52 = .ok (.iinc 3 1, 3) := by decide +kernel
theorem dX6_criesWith_55 : decode cX6_criesWith 55 = .ok (.goto (-51), 3) := by decide +kernel
theorem dX6_criesWith_58 : decode cX6_criesWith 58 = .ok (.iload_n 2, 1) := by decide +kernel
theorem dX6_criesWith_59 : decode cX6_criesWith 59 = .ok (.ireturn, 1) := by decide +kernel
theorem dX6_wearOf_0 : decode cX6_wearOf 0 = .ok (.aload_n 0, 1) := by decide +kernel
theorem dX6_wearOf_1 : decode cX6_wearOf 1 = .ok (.iload_n 1, 1) := by decide +kernel
theorem dX6_wearOf_2 : decode cX6_wearOf 2 = .ok (.invokevirtual 129, 3) := by decide +kernel
theorem dX6_wearOf_5 : decode cX6_wearOf 5 = .ok (.invokestatic 132, 3) := by decide +kernel
theorem dX6_wearOf_8 : decode cX6_wearOf 8 = .ok (.istore_n 3, 1) := by decide +kernel
theorem dX6_wearOf_9 : decode cX6_wearOf 9 = .ok (.aload_n 2, 1) := by decide +kernel
theorem dX6_wearOf_10 : decode cX6_wearOf 10 = .ok (.aload_n 0, 1) := by decide +kernel
theorem dX6_wearOf_11 : decode cX6_wearOf 11 = .ok (.iload_n 1, 1) := by decide +kernel
theorem dX6_wearOf_12 : decode cX6_wearOf 12 = .ok (.invokevirtual 121, 3) := by decide +kernel
theorem dX6_wearOf_15 : decode cX6_wearOf 15 = .ok (.aload_n 0, 1) := by decide +kernel
theorem dX6_wearOf_16 : decode cX6_wearOf 16 = .ok (.iload_n 1, 1) := by decide +kernel
theorem dX6_wearOf_17 : decode cX6_wearOf 17 = .ok (.invokevirtual 137, 3) := by decide +kernel
theorem dX6_wearOf_20 : decode cX6_wearOf 20 = .ok (.iload_n 3, 1) := by decide +kernel
theorem dX6_wearOf_21 : decode cX6_wearOf 21 = .ok (.iload_n 1, 1) := by decide +kernel
theorem dX6_wearOf_22 : decode cX6_wearOf 22 = .ok (.aload_n 0, 1) := by decide +kernel
theorem dX6_wearOf_23 : decode cX6_wearOf 23 = .ok (.getfield 46, 3) := by decide +kernel
theorem dX6_wearOf_26 : decode cX6_wearOf 26 = .ok (.aload_n 0, 1) := by decide +kernel
theorem dX6_wearOf_27 : decode cX6_wearOf 27 = .ok (.getfield 27, 3) := by decide +kernel
theorem dX6_wearOf_30 : decode cX6_wearOf 30 = .ok (.aload_n 0, 1) := by decide +kernel
theorem dX6_wearOf_31 : decode cX6_wearOf 31 = .ok (.getfield 43, 3) := by decide +kernel
theorem dX6_wearOf_34 : decode cX6_wearOf 34 = .ok (.invokevirtual 140, 3) := by decide +kernel
theorem dX6_wearOf_37 : decode cX6_wearOf 37 = .ok (.ireturn, 1) := by decide +kernel
theorem dX6_standingOf_0 : decode cX6_standingOf 0 = .ok (.aload_n 0, 1) := by decide +kernel
theorem dX6_standingOf_1 : decode cX6_standingOf 1 = .ok (.iload_n 1, 1) := by decide +kernel
theorem dX6_standingOf_2 : decode cX6_standingOf 2 = .ok (.invokevirtual 121, 3) := by decide +kernel
theorem dX6_standingOf_5 : decode cX6_standingOf 5 = .ok (.iload_n 2, 1) := by decide +kernel
theorem dX6_standingOf_6 : decode cX6_standingOf 6 = .ok (.imul, 1) := by decide +kernel
theorem dX6_standingOf_7 : decode cX6_standingOf 7 = .ok (.aload_n 0, 1) := by decide +kernel
theorem dX6_standingOf_8 : decode cX6_standingOf 8 = .ok (.iload_n 3, 1) := by decide +kernel
theorem dX6_standingOf_9 : decode cX6_standingOf 9 = .ok (.invokevirtual 121, 3) := by decide +kernel
theorem dX6_standingOf_12 : decode cX6_standingOf 12 = .ok (.iload 4, 2) := by decide +kernel
theorem dX6_standingOf_14 : decode cX6_standingOf 14 = .ok (.imul, 1) := by decide +kernel
theorem dX6_standingOf_15 : decode cX6_standingOf 15 = .ok (.aload_n 0, 1) := by decide +kernel
theorem dX6_standingOf_16 : decode cX6_standingOf 16 = .ok (.getfield 27, 3) := by decide +kernel
theorem dX6_standingOf_19 : decode cX6_standingOf 19 = .ok (.aload_n 0, 1) := by decide +kernel
theorem dX6_standingOf_20 : decode cX6_standingOf 20 = .ok (.getfield 43, 3) := by decide +kernel
theorem dX6_standingOf_23 : decode cX6_standingOf 23 = .ok (.invokestatic 145, 3) := by decide +kernel
theorem dX6_standingOf_26 : decode cX6_standingOf 26 = .ok (.ireturn, 1) := by decide +kernel
theorem dX6_standing_0 : decode cX6_standing 0 = .ok (.iload_n 0, 1) := by decide +kernel
theorem dX6_standing_1 : decode cX6_standing 1 = .ok (.iload_n 2, 1) := by decide +kernel
theorem dX6_standing_2 : decode cX6_standing 2 = .ok (.iadd, 1) := by decide +kernel
theorem dX6_standing_3 : decode cX6_standing 3 = .ok (.bipush 9, 2) := by decide +kernel
theorem dX6_standing_5 : decode cX6_standing 5 = .ok (.isub, 1) := by decide +kernel
theorem dX6_standing_6 : decode cX6_standing 6 = .ok (.iload_n 1, 1) := by decide +kernel
theorem dX6_standing_7 : decode cX6_standing 7 = .ok (.isub, 1) := by decide +kernel
theorem dX6_standing_8 : decode cX6_standing 8 = .ok (.istore 4, 2) := by decide +kernel
theorem dX6_standing_10 : decode cX6_standing 10 = .ok (.iload 4, 2) := by decide +kernel
theorem dX6_standing_12 : decode cX6_standing 12 = .ok (.iload_n 3, 1) := by decide +kernel
theorem dX6_standing_13 : decode cX6_standing 13 = .ok (.if_icmp .le 7, 3) := by decide +kernel
theorem dX6_standing_16 : decode cX6_standing 16 = .ok (.iconst 1, 1) := by decide +kernel
theorem dX6_standing_17 : decode cX6_standing 17 = .ok (.goto 15, 3) := by decide +kernel
theorem dX6_standing_20 : decode cX6_standing 20 = .ok (.iload 4, 2) := by decide +kernel
theorem dX6_standing_22 : decode cX6_standing 22 = .ok (.ineg, 1) := by decide +kernel
theorem dX6_standing_23 : decode cX6_standing 23 = .ok (.iload_n 3, 1) := by decide +kernel
theorem dX6_standing_24 : decode cX6_standing 24 = .ok (.if_icmp .le 7, 3) := by decide +kernel
theorem dX6_standing_27 : decode cX6_standing 27 = .ok (.iconst 2, 1) := by decide +kernel
theorem dX6_standing_28 : decode cX6_standing 28 = .ok (.goto 4, 3) := by decide +kernel
theorem dX6_standing_31 : decode cX6_standing 31 = .ok (.iconst 0, 1) := by decide +kernel
theorem dX6_standing_32 : decode cX6_standing 32 = .ok (.ireturn, 1) := by decide +kernel
theorem dX6_weigh_0 : decode cX6_weigh 0 = .ok (.aload_n 0, 1) := by decide +kernel
theorem dX6_weigh_1 : decode cX6_weigh 1 = .ok (.iload_n 1, 1) := by decide +kernel
theorem dX6_weigh_2 : decode cX6_weigh 2 = .ok (.invokevirtual 118, 3) := by decide +kernel
theorem dX6_weigh_5 : decode cX6_weigh 5 = .ok (.ifCond .eq 25, 3) := by decide +kernel
theorem dX6_weigh_8 : decode cX6_weigh 8 = .ok (.aload_n 0, 1) := by decide +kernel
theorem dX6_weigh_9 : decode cX6_weigh 9 = .ok (.iload_n 3, 1) := by decide +kernel
theorem dX6_weigh_10 : decode cX6_weigh 10 = .ok (.invokevirtual 118, 3) := by decide +kernel
theorem dX6_weigh_13 : decode cX6_weigh 13 = .ok (.ifCond .eq 17, 3) := by decide +kernel
theorem dX6_weigh_16 : decode cX6_weigh 16 = .ok (.iload_n 1, 1) := by decide +kernel
theorem dX6_weigh_17 : decode cX6_weigh 17 = .ok (.iload_n 3, 1) := by decide +kernel
theorem dX6_weigh_18 : decode cX6_weigh 18 = .ok (.if_icmp .eq 12, 3) := by decide +kernel
theorem dX6_weigh_21 : decode cX6_weigh 21 = .ok (.aload_n 0, 1) := by decide +kernel
theorem dX6_weigh_22 : decode cX6_weigh 22 = .ok (.getfield 40, 3) := by decide +kernel
theorem dX6_weigh_25 : decode cX6_weigh 25 = .ok (.bipush 10, 2) := by decide +kernel
theorem dX6_weigh_27 : decode cX6_weigh 27 = .ok (.if_icmp .lt 5, 3) := by decide +kernel
theorem dX6_weigh_30 : decode cX6_weigh 30 = .ok (.iconst 0, 1) := by decide +kernel
theorem dX6_weigh_31 : decode cX6_weigh 31 = .ok (.ireturn, 1) := by decide +kernel
theorem dX6_weigh_32 : decode cX6_weigh 32 = .ok (.aload_n 0, 1) := by decide +kernel
theorem dX6_weigh_33 : decode cX6_weigh 33 = .ok (.iload_n 1, 1) := by decide +kernel
theorem dX6_weigh_34 : decode cX6_weigh 34 = .ok (.iload_n 2, 1) := by decide +kernel
theorem dX6_weigh_35 : decode cX6_weigh 35 = .ok (.iload_n 3, 1) := by decide +kernel
theorem dX6_weigh_36 : decode cX6_weigh 36 = .ok (.iload 4, 2) := by decide +kernel
theorem dX6_weigh_38 : decode cX6_weigh 38 = .ok (.invokevirtual 149, 3) := by decide +kernel
theorem dX6_weigh_41 : decode cX6_weigh 41 = .ok (.istore 5, 2) := by decide +kernel
theorem dX6_weigh_43 : decode cX6_weigh 43 = .ok (.iload 5, 2) := by decide +kernel
theorem dX6_weigh_45 : decode cX6_weigh 45 = .ok (.iconst 1, 1) := by decide +kernel
theorem dX6_weigh_46 : decode cX6_weigh 46 = .ok (.if_icmp .ne 15, 3) := by decide +kernel
theorem dX6_weigh_49 : decode cX6_weigh 49 = .ok (.aload_n 0, 1) := by decide +kernel
theorem dX6_weigh_50 : decode cX6_weigh 50 = .ok (.iload_n 1, 1) := by decide +kernel
theorem dX6_weigh_51 : decode cX6_weigh 51 = .ok (.iload_n 2, 1) := by decide +kernel
theorem dX6_weigh_52 : decode cX6_weigh 52 = .ok (.iload_n 3, 1) := by decide +kernel
theorem dX6_weigh_53 : decode cX6_weigh 53 = .ok (.iload 4, 2) := by decide +kernel
theorem dX6_weigh_55 : decode cX6_weigh 55 = .ok (.invokevirtual 152, 3) := by decide +kernel
theorem dX6_weigh_58 : decode cX6_weigh 58 = .ok (.ifCond .eq 21, 3) := by decide +kernel
theorem dX6_weigh_61 : decode cX6_weigh 61 = .ok (.iload 5, 2) := by decide +kernel
theorem dX6_weigh_63 : decode cX6_weigh 63 = .ok (.iconst 2, 1) := by decide +kernel
theorem dX6_weigh_64 : decode cX6_weigh 64 = .ok (.if_icmp .ne 17, 3) := by decide +kernel
theorem dX6_weigh_67 : decode cX6_weigh 67 = .ok (.aload_n 0, 1) := by decide +kernel
theorem dX6_weigh_68 : decode cX6_weigh 68 = .ok (.iload_n 3, 1) := by decide +kernel
theorem dX6_weigh_69 : decode cX6_weigh 69 = .ok (.iload 4, 2) := by decide +kernel
theorem dX6_weigh_71 : decode cX6_weigh 71 = .ok (.iload_n 1, 1) := by decide +kernel
theorem dX6_weigh_72 : decode cX6_weigh 72 = .ok (.iload_n 2, 1) := by decide +kernel
theorem dX6_weigh_73 : decode cX6_weigh 73 = .ok (.invokevirtual 152, 3) := by decide +kernel
theorem dX6_weigh_76 : decode cX6_weigh 76 = .ok (.ifCond .ne 5, 3) := by decide +kernel
theorem dX6_weigh_79 : decode cX6_weigh 79 = .ok (.iconst 0, 1) := by decide +kernel
theorem dX6_weigh_80 : decode cX6_weigh 80 = .ok (.ireturn, 1) := by decide +kernel
theorem dX6_weigh_81 : decode cX6_weigh 81 = .ok (.aload_n 0, 1) := by decide +kernel
theorem dX6_weigh_82 : decode cX6_weigh 82 = .ok (.getfield 18, 3) := by decide +kernel
theorem dX6_weigh_85 : decode cX6_weigh 85 = .ok (.iload_n 1, 1) := by decide +kernel
theorem dX6_weigh_86 : decode cX6_weigh 86 = .ok (.dup2, 1) := by decide +kernel
theorem dX6_weigh_87 : decode cX6_weigh 87 = .ok (.iaload, 1) := by decide +kernel
theorem dX6_weigh_88 : decode cX6_weigh 88 = .ok (.iconst 1, 1) := by decide +kernel
theorem dX6_weigh_89 : decode cX6_weigh 89 = .ok (.iadd, 1) := by decide +kernel
theorem dX6_weigh_90 : decode cX6_weigh 90 = .ok (.iastore, 1) := by decide +kernel
theorem dX6_weigh_91 : decode cX6_weigh 91 = .ok (.aload_n 0, 1) := by decide +kernel
theorem dX6_weigh_92 : decode cX6_weigh 92 = .ok (.getfield 18, 3) := by decide +kernel
theorem dX6_weigh_95 : decode cX6_weigh 95 = .ok (.iload_n 3, 1) := by decide +kernel
theorem dX6_weigh_96 : decode cX6_weigh 96 = .ok (.dup2, 1) := by decide +kernel
theorem dX6_weigh_97 : decode cX6_weigh 97 = .ok (.iaload, 1) := by decide +kernel
theorem dX6_weigh_98 : decode cX6_weigh 98 = .ok (.iconst 1, 1) := by decide +kernel
theorem dX6_weigh_99 : decode cX6_weigh 99 = .ok (.iadd, 1) := by decide +kernel
theorem dX6_weigh_100 : decode cX6_weigh 100 = .ok (.iastore, 1) := by decide +kernel
theorem dX6_weigh_101 : decode cX6_weigh 101 = .ok (.aload_n 0, 1) := by decide +kernel
theorem dX6_weigh_102 : decode cX6_weigh 102 = .ok (.dup, 1) := by decide +kernel
theorem dX6_weigh_103 : decode cX6_weigh 103 = .ok (.getfield 49, 3) := by decide +kernel
theorem dX6_weigh_106 : decode cX6_weigh 106 = .ok (.iconst 1, 1) := by decide +kernel
theorem dX6_weigh_107 : decode cX6_weigh 107 = .ok (.iadd, 1) := by decide +kernel
theorem dX6_weigh_108 : decode cX6_weigh 108 = .ok (.putfield 49, 3) := by decide +kernel
theorem dX6_weigh_111 : decode cX6_weigh 111 = .ok (.iconst 1, 1) := by decide +kernel
theorem dX6_weigh_112 : decode cX6_weigh 112 = .ok (.ireturn, 1) := by decide +kernel
theorem dX6_addNewCry_0 : decode cX6_addNewCry 0 = .ok (.iconst 0, 1) := by decide +kernel
theorem dX6_addNewCry_1 : decode cX6_addNewCry 1 = .ok (.istore 5, 2) := by decide +kernel
theorem dX6_addNewCry_3 : decode cX6_addNewCry 3 = .ok (.iload 5, 2) := by decide +kernel
theorem dX6_addNewCry_5 : decode cX6_addNewCry 5 = .ok (.aload_n 0, 1) := by decide +kernel
theorem dX6_addNewCry_6 : decode cX6_addNewCry 6 = .ok (.getfield 40, 3) := by decide +kernel
theorem dX6_addNewCry_9 : decode cX6_addNewCry 9 = .ok (.if_icmp .ge 56, 3) := by decide +kernel
theorem dX6_addNewCry_12 : decode cX6_addNewCry 12 = .ok (.aload_n 0, 1) := by decide +kernel
theorem dX6_addNewCry_13 : decode cX6_addNewCry 13 = .ok (.iload 5, 2) := by decide +kernel
theorem dX6_addNewCry_15 : decode cX6_addNewCry 15 = .ok (.iconst 0, 1) := by decide +kernel
theorem dX6_addNewCry_16 : decode cX6_addNewCry 16 = .ok (.invokevirtual 125, 3) := by decide +kernel
theorem dX6_addNewCry_19 : decode cX6_addNewCry 19 = .ok (.iload_n 1, 1) := by decide +kernel
theorem dX6_addNewCry_20 : decode cX6_addNewCry 20 = .ok (.if_icmp .ne 39, 3) := by decide +kernel
theorem dX6_addNewCry_23 : decode cX6_addNewCry 23 = .ok (.aload_n 0, 1) := by decide +kernel
theorem dX6_addNewCry_24 : decode cX6_addNewCry 24 = .ok (.iload 5, 2) := by decide +kernel
theorem dX6_addNewCry_26 : decode cX6_addNewCry 26 = .ok (.iconst 1, 1) := by decide +kernel
theorem dX6_addNewCry_27 : decode cX6_addNewCry 27 = .ok (.invokevirtual 125, 3) := by decide +kernel
theorem dX6_addNewCry_30 : decode cX6_addNewCry 30 = .ok (.iload_n 2, 1) := by decide +kernel
theorem dX6_addNewCry_31 : decode cX6_addNewCry 31 = .ok (.if_icmp .ne 28, 3) := by decide +kernel
theorem dX6_addNewCry_34 : decode cX6_addNewCry 34 = .ok (.aload_n 0, 1) := by decide +kernel
theorem dX6_addNewCry_35 : decode cX6_addNewCry 35 = .ok (.iload 5, 2) := by decide +kernel
theorem dX6_addNewCry_37 : decode cX6_addNewCry 37 = .ok (.iconst 2, 1) := by decide +kernel
theorem dX6_addNewCry_38 : decode cX6_addNewCry 38 = .ok (.invokevirtual 125, 3) := by decide +kernel
theorem dX6_addNewCry_41 : decode cX6_addNewCry 41 = .ok (.iload_n 3, 1) := by decide +kernel
theorem dX6_addNewCry_42 : decode cX6_addNewCry 42 = .ok (.if_icmp .ne 17, 3) := by decide +kernel
theorem dX6_addNewCry_45 : decode cX6_addNewCry 45 = .ok (.aload_n 0, 1) := by decide +kernel
theorem dX6_addNewCry_46 : decode cX6_addNewCry 46 = .ok (.iload 5, 2) := by decide +kernel
theorem dX6_addNewCry_48 : decode cX6_addNewCry 48 = .ok (.iconst 3, 1) := by decide +kernel
theorem dX6_addNewCry_49 : decode cX6_addNewCry 49 = .ok (.invokevirtual 125, 3) := by decide +kernel
theorem dX6_addNewCry_52 : decode cX6_addNewCry 52 = .ok (.iload 4, 2) := by decide +kernel
theorem dX6_addNewCry_54 : decode cX6_addNewCry 54 = .ok (.if_icmp .ne 5, 3) := by decide +kernel
theorem dX6_addNewCry_57 : decode cX6_addNewCry 57 = .ok (.iconst 0, 1) := by decide +kernel
theorem dX6_addNewCry_58 : decode cX6_addNewCry 58 = .ok (.ireturn, 1) := by decide +kernel
theorem dX6_addNewCry_59 : decode cX6_addNewCry 59 = .ok (.iinc 5 1, 3) := by decide +kernel
theorem dX6_addNewCry_62 : decode cX6_addNewCry 62 = .ok (.goto (-59), 3) := by decide +kernel
theorem dX6_addNewCry_65 : decode cX6_addNewCry 65 = .ok (.aload_n 0, 1) := by decide +kernel
theorem dX6_addNewCry_66 : decode cX6_addNewCry 66 = .ok (.iload_n 1, 1) := by decide +kernel
theorem dX6_addNewCry_67 : decode cX6_addNewCry 67 = .ok (.iload_n 2, 1) := by decide +kernel
theorem dX6_addNewCry_68 : decode cX6_addNewCry 68 = .ok (.iload_n 3, 1) := by decide +kernel
theorem dX6_addNewCry_69 : decode cX6_addNewCry 69 = .ok (.iload 4, 2) := by decide +kernel
theorem dX6_addNewCry_71 : decode cX6_addNewCry 71 = .ok (.invokevirtual 114, 3) := by decide +kernel
theorem dX6_addNewCry_74 : decode cX6_addNewCry 74 = .ok (.iconst 1, 1) := by decide +kernel
theorem dX6_addNewCry_75 : decode cX6_addNewCry 75 = .ok (.ireturn, 1) := by decide +kernel
theorem dX6_addCry_0 : decode cX6_addCry 0 = .ok (.aload_n 0, 1) := by decide +kernel
theorem dX6_addCry_1 : decode cX6_addCry 1 = .ok (.getfield 40, 3) := by decide +kernel
theorem dX6_addCry_4 : decode cX6_addCry 4 = .ok (.ifCond .lt 12, 3) := by decide +kernel
theorem dX6_addCry_7 : decode cX6_addCry 7 = .ok (.aload_n 0, 1) := by decide +kernel
theorem dX6_addCry_8 : decode cX6_addCry 8 = .ok (.getfield 40, 3) := by decide +kernel
theorem dX6_addCry_11 : decode cX6_addCry 11 = .ok (.bipush 10, 2) := by decide +kernel
theorem dX6_addCry_13 : decode cX6_addCry 13 = .ok (.if_icmp .lt 4, 3) := by decide +kernel
theorem dX6_addCry_16 : decode cX6_addCry 16 = .ok (.return_, 1) := by decide +kernel
theorem dX6_addCry_17 : decode cX6_addCry 17 = .ok (.aload_n 0, 1) := by decide +kernel
theorem dX6_addCry_18 : decode cX6_addCry 18 = .ok (.getfield 24, 3) := by decide +kernel
theorem dX6_addCry_21 : decode cX6_addCry 21 = .ok (.iconst 4, 1) := by decide +kernel
theorem dX6_addCry_22 : decode cX6_addCry 22 = .ok (.aload_n 0, 1) := by decide +kernel
theorem dX6_addCry_23 : decode cX6_addCry 23 = .ok (.getfield 40, 3) := by decide +kernel
theorem dX6_addCry_26 : decode cX6_addCry 26 = .ok (.imul, 1) := by decide +kernel
theorem dX6_addCry_27 : decode cX6_addCry 27 = .ok (.iconst 0, 1) := by decide +kernel
theorem dX6_addCry_28 : decode cX6_addCry 28 = .ok (.iadd, 1) := by decide +kernel
theorem dX6_addCry_29 : decode cX6_addCry 29 = .ok (.iload_n 1, 1) := by decide +kernel
theorem dX6_addCry_30 : decode cX6_addCry 30 = .ok (.iastore, 1) := by decide +kernel
theorem dX6_addCry_31 : decode cX6_addCry 31 = .ok (.aload_n 0, 1) := by decide +kernel
theorem dX6_addCry_32 : decode cX6_addCry 32 = .ok (.getfield 24, 3) := by decide +kernel
theorem dX6_addCry_35 : decode cX6_addCry 35 = .ok (.iconst 4, 1) := by decide +kernel
theorem dX6_addCry_36 : decode cX6_addCry 36 = .ok (.aload_n 0, 1) := by decide +kernel
theorem dX6_addCry_37 : decode cX6_addCry 37 = .ok (.getfield 40, 3) := by decide +kernel
theorem dX6_addCry_40 : decode cX6_addCry 40 = .ok (.imul, 1) := by decide +kernel
theorem dX6_addCry_41 : decode cX6_addCry 41 = .ok (.iconst 1, 1) := by decide +kernel
theorem dX6_addCry_42 : decode cX6_addCry 42 = .ok (.iadd, 1) := by decide +kernel
theorem dX6_addCry_43 : decode cX6_addCry 43 = .ok (.iload_n 2, 1) := by decide +kernel
theorem dX6_addCry_44 : decode cX6_addCry 44 = .ok (.iastore, 1) := by decide +kernel
theorem dX6_addCry_45 : decode cX6_addCry 45 = .ok (.aload_n 0, 1) := by decide +kernel
theorem dX6_addCry_46 : decode cX6_addCry 46 = .ok (.getfield 24, 3) := by decide +kernel
theorem dX6_addCry_49 : decode cX6_addCry 49 = .ok (.iconst 4, 1) := by decide +kernel
theorem dX6_addCry_50 : decode cX6_addCry 50 = .ok (.aload_n 0, 1) := by decide +kernel
theorem dX6_addCry_51 : decode cX6_addCry 51 = .ok (.getfield 40, 3) := by decide +kernel
theorem dX6_addCry_54 : decode cX6_addCry 54 = .ok (.imul, 1) := by decide +kernel
theorem dX6_addCry_55 : decode cX6_addCry 55 = .ok (.iconst 2, 1) := by decide +kernel
theorem dX6_addCry_56 : decode cX6_addCry 56 = .ok (.iadd, 1) := by decide +kernel
theorem dX6_addCry_57 : decode cX6_addCry 57 = .ok (.iload_n 3, 1) := by decide +kernel
theorem dX6_addCry_58 : decode cX6_addCry 58 = .ok (.iastore, 1) := by decide +kernel
theorem dX6_addCry_59 : decode cX6_addCry 59 = .ok (.aload_n 0, 1) := by decide +kernel
theorem dX6_addCry_60 : decode cX6_addCry 60 = .ok (.getfield 24, 3) := by decide +kernel
theorem dX6_addCry_63 : decode cX6_addCry 63 = .ok (.iconst 4, 1) := by decide +kernel
theorem dX6_addCry_64 : decode cX6_addCry 64 = .ok (.aload_n 0, 1) := by decide +kernel
theorem dX6_addCry_65 : decode cX6_addCry 65 = .ok (.getfield 40, 3) := by decide +kernel
theorem dX6_addCry_68 : decode cX6_addCry 68 = .ok (.imul, 1) := by decide +kernel
theorem dX6_addCry_69 : decode cX6_addCry 69 = .ok (.iconst 3, 1) := by decide +kernel
theorem dX6_addCry_70 : decode cX6_addCry 70 = .ok (.iadd, 1) := by decide +kernel
theorem dX6_addCry_71 : decode cX6_addCry 71 = .ok (.iload 4, 2) := by decide +kernel
theorem dX6_addCry_73 : decode cX6_addCry 73 = .ok (.iastore, 1) := by decide +kernel
theorem dX6_addCry_74 : decode cX6_addCry 74 = .ok (.aload_n 0, 1) := by decide +kernel
theorem dX6_addCry_75 : decode cX6_addCry 75 = .ok (.dup, 1) := by decide +kernel
theorem dX6_addCry_76 : decode cX6_addCry 76 = .ok (.getfield 40, 3) := by decide +kernel
theorem dX6_addCry_79 : decode cX6_addCry 79 = .ok (.iconst 1, 1) := by decide +kernel
theorem dX6_addCry_80 : decode cX6_addCry 80 = .ok (.iadd, 1) := by decide +kernel
theorem dX6_addCry_81 : decode cX6_addCry 81 = .ok (.putfield 40, 3) := by decide +kernel
theorem dX6_addCry_84 : decode cX6_addCry 84 = .ok (.return_, 1) := by decide +kernel
theorem dX6_tip_0 : decode cX6_tip 0 = .ok (.iload_n 1, 1) := by decide +kernel
theorem dX6_tip_1 : decode cX6_tip 1 = .ok (.ifCond .lt 20, 3) := by decide +kernel
theorem dX6_tip_4 : decode cX6_tip 4 = .ok (.iload_n 1, 1) := by decide +kernel
theorem dX6_tip_5 : decode cX6_tip 5 = .ok (.aload_n 0, 1) := by decide +kernel
theorem dX6_tip_6 : decode cX6_tip 6 = .ok (.getfield 40, 3) := by decide +kernel
theorem dX6_tip_9 : decode cX6_tip 9 = .ok (.if_icmp .ge 12, 3) := by decide +kernel
theorem dX6_tip_12 : decode cX6_tip 12 = .ok (.aload_n 0, 1) := by decide +kernel
theorem dX6_tip_13 : decode cX6_tip 13 = .ok (.getfield 40, 3) := by decide +kernel
theorem dX6_tip_16 : decode cX6_tip 16 = .ok (.bipush 10, 2) := by decide +kernel
theorem dX6_tip_18 : decode cX6_tip 18 = .ok (.if_icmp .le 5, 3) := by decide +kernel
theorem dX6_tip_21 : decode cX6_tip 21 = .ok (.iconst 0, 1) := by decide +kernel
theorem dX6_tip_22 : decode cX6_tip 22 = .ok (.ireturn, 1) := by decide +kernel
theorem dX6_tip_23 : decode cX6_tip 23 = .ok (.aload_n 0, 1) := by decide +kernel
theorem dX6_tip_24 : decode cX6_tip 24 = .ok (.getfield 24, 3) := by decide +kernel
theorem dX6_tip_27 : decode cX6_tip 27 = .ok (.iconst 4, 1) := by decide +kernel
theorem dX6_tip_28 : decode cX6_tip 28 = .ok (.iload_n 1, 1) := by decide +kernel
theorem dX6_tip_29 : decode cX6_tip 29 = .ok (.iconst 1, 1) := by decide +kernel
theorem dX6_tip_30 : decode cX6_tip 30 = .ok (.iadd, 1) := by decide +kernel
theorem dX6_tip_31 : decode cX6_tip 31 = .ok (.imul, 1) := by decide +kernel
theorem dX6_tip_32 : decode cX6_tip 32 = .ok (.aload_n 0, 1) := by decide +kernel
theorem dX6_tip_33 : decode cX6_tip 33 = .ok (.getfield 24, 3) := by decide +kernel
theorem dX6_tip_36 : decode cX6_tip 36 = .ok (.iconst 4, 1) := by decide +kernel
theorem dX6_tip_37 : decode cX6_tip 37 = .ok (.iload_n 1, 1) := by decide +kernel
theorem dX6_tip_38 : decode cX6_tip 38 = .ok (.imul, 1) := by decide +kernel
theorem dX6_tip_39 : decode cX6_tip 39 = .ok (.iconst 4, 1) := by decide +kernel
theorem dX6_tip_40 : decode cX6_tip 40 = .ok (.aload_n 0, 1) := by decide +kernel
theorem dX6_tip_41 : decode cX6_tip 41 = .ok (.getfield 40, 3) := by decide +kernel
theorem dX6_tip_44 : decode cX6_tip 44 = .ok (.iload_n 1, 1) := by decide +kernel
theorem dX6_tip_45 : decode cX6_tip 45 = .ok (.isub, 1) := by decide +kernel
theorem dX6_tip_46 : decode cX6_tip 46 = .ok (.iconst 1, 1) := by decide +kernel
theorem dX6_tip_47 : decode cX6_tip 47 = .ok (.isub, 1) := by decide +kernel
theorem dX6_tip_48 : decode cX6_tip 48 = .ok (.imul, 1) := by decide +kernel
theorem dX6_tip_49 : decode cX6_tip 49 = .ok (.invokestatic 52, 3) := by decide +kernel
theorem dX6_tip_52 : decode cX6_tip 52 = .ok (.aload_n 0, 1) := by decide +kernel
theorem dX6_tip_53 : decode cX6_tip 53 = .ok (.dup, 1) := by decide +kernel
theorem dX6_tip_54 : decode cX6_tip 54 = .ok (.getfield 40, 3) := by decide +kernel
theorem dX6_tip_57 : decode cX6_tip 57 = .ok (.iconst 1, 1) := by decide +kernel
theorem dX6_tip_58 : decode cX6_tip 58 = .ok (.isub, 1) := by decide +kernel
theorem dX6_tip_59 : decode cX6_tip 59 = .ok (.putfield 40, 3) := by decide +kernel
theorem dX6_tip_62 : decode cX6_tip 62 = .ok (.iconst 1, 1) := by decide +kernel
theorem dX6_tip_63 : decode cX6_tip 63 = .ok (.ireturn, 1) := by decide +kernel
theorem dX6_fatten_0 : decode cX6_fatten 0 = .ok (.aload_n 0, 1) := by decide +kernel
theorem dX6_fatten_1 : decode cX6_fatten 1 = .ok (.iload_n 1, 1) := by decide +kernel
theorem dX6_fatten_2 : decode cX6_fatten 2 = .ok (.invokevirtual 118, 3) := by decide +kernel
theorem dX6_fatten_5 : decode cX6_fatten 5 = .ok (.ifCond .eq 14, 3) := by decide +kernel
theorem dX6_fatten_8 : decode cX6_fatten 8 = .ok (.aload_n 0, 1) := by decide +kernel
theorem dX6_fatten_9 : decode cX6_fatten 9 = .ok (.getfield 15, 3) := by decide +kernel
theorem dX6_fatten_12 : decode cX6_fatten 12 = .ok (.iload_n 1, 1) := by decide +kernel
theorem dX6_fatten_13 : decode cX6_fatten 13 = .ok (.iaload, 1) := by decide +kernel
theorem dX6_fatten_14 : decode cX6_fatten 14 = .ok (.bipush 60, 2) := by decide +kernel
theorem dX6_fatten_16 : decode cX6_fatten 16 = .ok (.if_icmp .lt 5, 3) := by decide +kernel
theorem dX6_fatten_19 : decode cX6_fatten 19 = .ok (.iconst 0, 1) := by decide +kernel
theorem dX6_fatten_20 : decode cX6_fatten 20 = .ok (.ireturn, 1) := by decide +kernel
theorem dX6_fatten_21 : decode cX6_fatten 21 = .ok (.aload_n 0, 1) := by decide +kernel
theorem dX6_fatten_22 : decode cX6_fatten 22 = .ok (.getfield 15, 3) := by decide +kernel
theorem dX6_fatten_25 : decode cX6_fatten 25 = .ok (.iload_n 1, 1) := by decide +kernel
theorem dX6_fatten_26 : decode cX6_fatten 26 = .ok (.aload_n 0, 1) := by decide +kernel
theorem dX6_fatten_27 : decode cX6_fatten 27 = .ok (.getfield 15, 3) := by decide +kernel
theorem dX6_fatten_30 : decode cX6_fatten 30 = .ok (.iload_n 1, 1) := by decide +kernel
theorem dX6_fatten_31 : decode cX6_fatten 31 = .ok (.iaload, 1) := by decide +kernel
theorem dX6_fatten_32 : decode cX6_fatten 32 = .ok (.iload_n 2, 1) := by decide +kernel
theorem dX6_fatten_33 : decode cX6_fatten 33 = .ok (.iadd, 1) := by decide +kernel
theorem dX6_fatten_34 : decode cX6_fatten 34 = .ok (.bipush 60, 2) := by decide +kernel
theorem dX6_fatten_36 : decode cX6_fatten 36 = .ok (.invokestatic 156, 3) := by decide +kernel
theorem dX6_fatten_39 : decode cX6_fatten 39 = .ok (.iastore, 1) := by decide +kernel
theorem dX6_fatten_40 : decode cX6_fatten 40 = .ok (.iconst 1, 1) := by decide +kernel
theorem dX6_fatten_41 : decode cX6_fatten 41 = .ok (.ireturn, 1) := by decide +kernel
theorem dX6_turnBeam_0 : decode cX6_turnBeam 0 = .ok (.aload_n 0, 1) := by decide +kernel
theorem dX6_turnBeam_1 : decode cX6_turnBeam 1 = .ok (.getfield 27, 3) := by decide +kernel
theorem dX6_turnBeam_4 : decode cX6_turnBeam 4 = .ok (.bipush 9, 2) := by decide +kernel
theorem dX6_turnBeam_6 : decode cX6_turnBeam 6 = .ok (.if_icmp .ne 5, 3) := by decide +kernel
theorem dX6_turnBeam_9 : decode cX6_turnBeam 9 = .ok (.iconst 0, 1) := by decide +kernel
theorem dX6_turnBeam_10 : decode cX6_turnBeam 10 = .ok (.ireturn, 1) := by decide +kernel
theorem dX6_turnBeam_11 : decode cX6_turnBeam 11 = .ok (.aload_n 0, 1) := by decide +kernel
theorem dX6_turnBeam_12 : decode cX6_turnBeam 12 = .ok (.bipush 18, 2) := by decide +kernel
theorem dX6_turnBeam_14 : decode cX6_turnBeam 14 = .ok (.aload_n 0, 1) := by decide +kernel
theorem dX6_turnBeam_15 : decode cX6_turnBeam 15 = .ok (.getfield 27, 3) := by decide +kernel
theorem dX6_turnBeam_18 : decode cX6_turnBeam 18 = .ok (.isub, 1) := by decide +kernel
theorem dX6_turnBeam_19 : decode cX6_turnBeam 19 = .ok (.putfield 27, 3) := by decide +kernel
theorem dX6_turnBeam_22 : decode cX6_turnBeam 22 = .ok (.iconst 1, 1) := by decide +kernel
theorem dX6_turnBeam_23 : decode cX6_turnBeam 23 = .ok (.ireturn, 1) := by decide +kernel
theorem dX6_passDay_0 : decode cX6_passDay 0 = .ok (.iconst 0, 1) := by decide +kernel
theorem dX6_passDay_1 : decode cX6_passDay 1 = .ok (.istore_n 2, 1) := by decide +kernel
theorem dX6_passDay_2 : decode cX6_passDay 2 = .ok (.iload_n 2, 1) := by decide +kernel
theorem dX6_passDay_3 : decode cX6_passDay 3 = .ok (.aload_n 0, 1) := by decide +kernel
theorem dX6_passDay_4 : decode cX6_passDay 4 = .ok (.getfield 37, 3) := by decide +kernel
theorem dX6_passDay_7 : decode cX6_passDay 7 = .ok (.if_icmp .ge 27, 3) := by decide +kernel
theorem dX6_passDay_10 : decode cX6_passDay 10 = .ok (.iload_n 2, 1) := by decide +kernel
theorem dX6_passDay_11 : decode cX6_passDay 11 = .ok (.bipush 8, 2) := by decide +kernel
theorem dX6_passDay_13 : decode cX6_passDay 13 = .ok (.if_icmp .ge 21, 3) := by decide +kernel
theorem dX6_passDay_16 : decode cX6_passDay 16 = .ok (.aload_n 0, 1) := by decide +kernel
theorem dX6_passDay_17 : decode cX6_passDay 17 = .ok (.getfield 21, 3) := by decide +kernel
theorem dX6_passDay_20 : decode cX6_passDay 20 = .ok (.iload_n 2, 1) := by decide +kernel
theorem dX6_passDay_21 : decode cX6_passDay 21 = .ok (.aload_n 0, 1) := by decide +kernel
theorem dX6_passDay_22 : decode cX6_passDay 22 = .ok (.iload_n 2, 1) := by decide +kernel
theorem dX6_passDay_23 : decode cX6_passDay 23 = .ok (.aload_n 1, 1) := by decide +kernel
theorem dX6_passDay_24 : decode cX6_passDay 24 = .ok (.invokevirtual 161, 3) := by decide +kernel
theorem dX6_passDay_27 : decode cX6_passDay 27 = .ok (.iastore, 1) := by decide +kernel
theorem dX6_passDay_28 : decode cX6_passDay 28 = .ok (.iinc 2 1, 3) := by decide +kernel
theorem dX6_passDay_31 : decode cX6_passDay 31 = .ok (.goto (-29), 3) := by decide +kernel
theorem dX6_passDay_34 : decode cX6_passDay 34 = .ok (.iconst 0, 1) := by decide +kernel
theorem dX6_passDay_35 : decode cX6_passDay 35 = .ok (.istore_n 2, 1) := by decide +kernel
theorem dX6_passDay_36 : decode cX6_passDay 36 = .ok (.iload_n 2, 1) := by decide +kernel
theorem dX6_passDay_37 : decode cX6_passDay 37 = .ok (.aload_n 0, 1) := by decide +kernel
theorem dX6_passDay_38 : decode cX6_passDay 38 = .ok (.getfield 37, 3) := by decide +kernel
theorem dX6_passDay_41 : decode cX6_passDay 41 = .ok (.if_icmp .ge 38, 3) := by decide +kernel
theorem dX6_passDay_44 : decode cX6_passDay 44 = .ok (.iload_n 2, 1) := by decide +kernel
theorem dX6_passDay_45 : decode cX6_passDay 45 = .ok (.bipush 8, 2) := by decide +kernel
theorem dX6_passDay_47 : decode cX6_passDay 47 = .ok (.if_icmp .ge 32, 3) := by decide +kernel
theorem dX6_passDay_50 : decode cX6_passDay 50 = .ok (.aload_n 0, 1) := by decide +kernel
theorem dX6_passDay_51 : decode cX6_passDay 51 = .ok (.getfield 15, 3) := by decide +kernel
theorem dX6_passDay_54 : decode cX6_passDay 54 = .ok (.iload_n 2, 1) := by decide +kernel
theorem dX6_passDay_55 : decode cX6_passDay 55 = .ok (.aload_n 0, 1) := by decide +kernel
theorem dX6_passDay_56 : decode cX6_passDay 56 = .ok (.getfield 15, 3) := by decide +kernel
theorem dX6_passDay_59 : decode cX6_passDay 59 = .ok (.iload_n 2, 1) := by decide +kernel
theorem dX6_passDay_60 : decode cX6_passDay 60 = .ok (.iaload, 1) := by decide +kernel
theorem dX6_passDay_61 : decode cX6_passDay 61 = .ok (.aload_n 0, 1) := by decide +kernel
theorem dX6_passDay_62 : decode cX6_passDay 62 = .ok (.getfield 21, 3) := by decide +kernel
theorem dX6_passDay_65 : decode cX6_passDay 65 = .ok (.iload_n 2, 1) := by decide +kernel
theorem dX6_passDay_66 : decode cX6_passDay 66 = .ok (.iaload, 1) := by decide +kernel
theorem dX6_passDay_67 : decode cX6_passDay 67 = .ok (.isub, 1) := by decide +kernel
theorem dX6_passDay_68 : decode cX6_passDay 68 = .ok (.iconst 1, 1) := by decide +kernel
theorem dX6_passDay_69 : decode cX6_passDay 69 = .ok (.invokestatic 165, 3) := by decide +kernel
theorem dX6_passDay_72 : decode cX6_passDay 72 = .ok (.iastore, 1) := by decide +kernel
theorem dX6_passDay_73 : decode cX6_passDay 73 = .ok (.iinc 2 1, 3) := by decide +kernel
theorem dX6_passDay_76 : decode cX6_passDay 76 = .ok (.goto (-40), 3) := by decide +kernel
theorem dX6_passDay_79 : decode cX6_passDay 79 = .ok (.aload_n 0, 1) := by decide +kernel
theorem dX6_passDay_80 : decode cX6_passDay 80 = .ok (.dup, 1) := by decide +kernel
theorem dX6_passDay_81 : decode cX6_passDay 81 = .ok (.getfield 46, 3) := by decide +kernel
theorem dX6_passDay_84 : decode cX6_passDay 84 = .ok (.iconst 1, 1) := by decide +kernel
theorem dX6_passDay_85 : decode cX6_passDay 85 = .ok (.iadd, 1) := by decide +kernel
theorem dX6_passDay_86 : decode cX6_passDay 86 = .ok (.putfield 46, 3) := by decide +kernel
theorem dX6_passDay_89 : decode cX6_passDay 89 = .ok (.iconst 1, 1) := by decide +kernel
theorem dX6_passDay_90 : decode cX6_passDay 90 = .ok (.ireturn, 1) := by decide +kernel
theorem dX7_init_0 : decode cX7_init 0 = .ok (.aload_n 0, 1) := by decide +kernel
theorem dX7_init_1 : decode cX7_init 1 = .ok (.invokespecial 3, 3) := by decide +kernel
theorem dX7_init_4 : decode cX7_init 4 = .ok (.aload_n 0, 1) := by decide +kernel
theorem dX7_init_5 : decode cX7_init 5 = .ok (.sipush 600, 3) := by decide +kernel
theorem dX7_init_8 : decode cX7_init 8 = .ok (.newarray .byte, 2) := by decide +kernel
theorem dX7_init_10 : decode cX7_init 10 = .ok (.putfield 9, 3) := by decide +kernel
theorem dX7_init_13 : decode cX7_init 13 = .ok (.aload_n 0, 1) := by decide +kernel
theorem dX7_init_14 : decode cX7_init 14 = .ok (.iconst (-1), 1) := by decide +kernel
theorem dX7_init_15 : decode cX7_init 15 = .ok (.putfield 15, 3) := by decide +kernel
theorem dX7_init_18 : decode cX7_init 18 = .ok (.return_, 1) := by decide +kernel
theorem dX7_put_0 : decode cX7_put 0 = .ok (.bipush 24, 2) := by decide +kernel
theorem dX7_put_2 : decode cX7_put 2 = .ok (.istore_n 2, 1) := by decide +kernel
theorem dX7_put_3 : decode cX7_put 3 = .ok (.iload_n 2, 1) := by decide +kernel
theorem dX7_put_4 : decode cX7_put 4 = .ok (.ifCond .lt 51, 3) := by decide +kernel
theorem dX7_put_7 : decode cX7_put 7 = .ok (.aload_n 0, 1) := by decide +kernel
theorem dX7_put_8 : decode cX7_put 8 = .ok (.getfield 19, 3) := by decide +kernel
theorem dX7_put_11 : decode cX7_put 11 = .ok (.ifCond .lt 38, 3) := by decide +kernel
theorem dX7_put_14 : decode cX7_put 14 = .ok (.aload_n 0, 1) := by decide +kernel
theorem dX7_put_15 : decode cX7_put 15 = .ok (.getfield 19, 3) := by decide +kernel
theorem dX7_put_18 : decode cX7_put 18 = .ok (.aload_n 0, 1) := by decide +kernel
theorem dX7_put_19 : decode cX7_put 19 = .ok (.getfield 9, 3) := by decide +kernel
theorem dX7_put_22 : decode cX7_put 22 = .ok (.arraylength, 1) := by decide +kernel
theorem dX7_put_23 : decode cX7_put 23 = .ok (.if_icmp .ge 26, 3) := by decide +kernel
theorem dX7_put_26 : decode cX7_put 26 = .ok (.aload_n 0, 1) := by decide +kernel
theorem dX7_put_27 : decode cX7_put 27 = .ok (.getfield 9, 3) := by decide +kernel
theorem dX7_put_30 : decode cX7_put 30 = .ok (.aload_n 0, 1) := by decide +kernel
theorem dX7_put_31 : decode cX7_put 31 = .ok (.getfield 19, 3) := by decide +kernel
theorem dX7_put_34 : decode cX7_put 34 = .ok (.iload_n 1, 1) := by decide +kernel
theorem dX7_put_35 : decode cX7_put 35 = .ok (.iload_n 2, 1) := by decide +kernel
theorem dX7_put_36 : decode cX7_put 36 = .ok (.ishr, 1) := by decide +kernel
theorem dX7_put_37 : decode cX7_put 37 = .ok (.i2b, 1) := by decide +kernel
theorem dX7_put_38 : decode cX7_put 38 = .ok (.bastore, 1) := by decide +kernel
theorem dX7_put_39 : decode cX7_put 39 = .ok (.aload_n 0, 1) := by decide +kernel
theorem dX7_put_40 : decode cX7_put 40 = .ok (.dup, 1) := by decide +kernel
theorem dX7_put_41 : decode cX7_put 41 = .ok (.getfield 19, 3) := by decide +kernel
theorem dX7_put_44 : decode cX7_put 44 = .ok (.iconst 1, 1) := by decide +kernel
theorem dX7_put_45 : decode cX7_put 45 = .ok (.iadd, 1) := by decide +kernel
theorem dX7_put_46 : decode cX7_put 46 = .ok (.putfield 19, 3) := by decide +kernel
theorem dX7_put_49 : decode cX7_put 49 = .ok (.iinc 2 (-8), 3) := by decide +kernel
theorem dX7_put_52 : decode cX7_put 52 = .ok (.goto (-49), 3) := by decide +kernel
theorem dX7_put_55 : decode cX7_put 55 = .ok (.return_, 1) := by decide +kernel
theorem dX7_open_0 : decode cX7_open 0 = .ok (.aload_n 0, 1) := by decide +kernel
theorem dX7_open_1 : decode cX7_open 1 = .ok (.iload_n 1, 1) := by decide +kernel
theorem dX7_open_2 : decode cX7_open 2 = .ok (.putfield 22, 3) := by decide +kernel
theorem dX7_open_5 : decode cX7_open 5 = .ok (.aload_n 0, 1) := by decide +kernel
theorem dX7_open_6 : decode cX7_open 6 = .ok (.iconst 0, 1) := by decide +kernel
theorem dX7_open_7 : decode cX7_open 7 = .ok (.putfield 19, 3) := by decide +kernel
theorem dX7_open_10 : decode cX7_open 10 = .ok (.aload_n 0, 1) := by decide +kernel
theorem dX7_open_11 : decode cX7_open 11 = .ok (.iconst 0, 1) := by decide +kernel
theorem dX7_open_12 : decode cX7_open 12 = .ok (.putfield 25, 3) := by decide +kernel
theorem dX7_open_15 : decode cX7_open 15 = .ok (.aload_n 0, 1) := by decide +kernel
theorem dX7_open_16 : decode cX7_open 16 = .ok (.iconst 0, 1) := by decide +kernel
theorem dX7_open_17 : decode cX7_open 17 = .ok (.putfield 28, 3) := by decide +kernel
theorem dX7_open_20 : decode cX7_open 20 = .ok (.aload_n 0, 1) := by decide +kernel
theorem dX7_open_21 : decode cX7_open 21 = .ok (.iconst 0, 1) := by decide +kernel
theorem dX7_open_22 : decode cX7_open 22 = .ok (.putfield 31, 3) := by decide +kernel
theorem dX7_open_25 : decode cX7_open 25 = .ok (.aload_n 0, 1) := by decide +kernel
theorem dX7_open_26 : decode cX7_open 26 = .ok (.iconst (-1), 1) := by decide +kernel
theorem dX7_open_27 : decode cX7_open 27 = .ok (.putfield 15, 3) := by decide +kernel
theorem dX7_open_30 : decode cX7_open 30 = .ok (.return_, 1) := by decide +kernel
theorem dX7_fail_0 : decode cX7_fail 0 = .ok (.aload_n 0, 1) := by decide +kernel
theorem dX7_fail_1 : decode cX7_fail 1 = .ok (.iload_n 1, 1) := by decide +kernel
theorem dX7_fail_2 : decode cX7_fail 2 = .ok (.putfield 31, 3) := by decide +kernel
theorem dX7_fail_5 : decode cX7_fail 5 = .ok (.aload_n 0, 1) := by decide +kernel
theorem dX7_fail_6 : decode cX7_fail 6 = .ok (.iload_n 2, 1) := by decide +kernel
theorem dX7_fail_7 : decode cX7_fail 7 = .ok (.putfield 15, 3) := by decide +kernel
theorem dX7_fail_10 : decode cX7_fail 10 = .ok (.iconst 0, 1) := by decide +kernel
theorem dX7_fail_11 : decode cX7_fail 11 = .ok (.ireturn, 1) := by decide +kernel
theorem dX7_peek_0 : decode cX7_peek 0 = .ok (.aload_n 0, 1) := by decide +kernel
theorem dX7_peek_1 : decode cX7_peek 1 = .ok (.getfield 25, 3) := by decide +kernel
theorem dX7_peek_4 : decode cX7_peek 4 = .ok (.aload_n 0, 1) := by decide +kernel
theorem dX7_peek_5 : decode cX7_peek 5 = .ok (.getfield 22, 3) := by decide +kernel
theorem dX7_peek_8 : decode cX7_peek 8 = .ok (.if_icmp .ge 42, 3) := by decide +kernel
theorem dX7_peek_11 : decode cX7_peek 11 = .ok (.aload_n 0, 1) := by decide +kernel
theorem dX7_peek_12 : decode cX7_peek 12 = .ok (.getfield 25, 3) := by decide +kernel
theorem dX7_peek_15 : decode cX7_peek 15 = .ok (.aload_n 0, 1) := by decide +kernel
theorem dX7_peek_16 : decode cX7_peek 16 = .ok (.getfield 9, 3) := by decide +kernel
theorem dX7_peek_19 : decode cX7_peek 19 = .ok (.arraylength, 1) := by decide +kernel
theorem dX7_peek_20 : decode cX7_peek 20 = .ok (.if_icmp .ge 30, 3) := by decide +kernel
theorem dX7_peek_23 : decode cX7_peek 23 = .ok (.aload_n 0, 1) := by decide +kernel
theorem dX7_peek_24 : decode cX7_peek 24 = .ok (.getfield 9, 3) := by decide +kernel
theorem dX7_peek_27 : decode cX7_peek 27 = .ok (.aload_n 0, 1) := by decide +kernel
theorem dX7_peek_28 : decode cX7_peek 28 = .ok (.getfield 25, 3) := by decide +kernel
theorem dX7_peek_31 : decode cX7_peek 31 = .ok (.baload, 1) := by decide +kernel
theorem dX7_peek_32 : decode cX7_peek 32 = .ok (.bipush 32, 2) := by decide +kernel
theorem dX7_peek_34 : decode cX7_peek 34 = .ok (.if_icmp .ne 16, 3) := by decide +kernel
theorem dX7_peek_37 : decode cX7_peek 37 = .ok (.aload_n 0, 1) := by decide +kernel
theorem dX7_peek_38 : decode cX7_peek 38 = .ok (.dup, 1) := by decide +kernel
theorem dX7_peek_39 : decode cX7_peek 39 = .ok (.getfield 25, 3) := by decide +kernel
theorem dX7_peek_42 : decode cX7_peek 42 = .ok (.iconst 1, 1) := by decide +kernel
theorem dX7_peek_43 : decode cX7_peek 43 = .ok (.iadd, 1) := by decide +kernel
theorem dX7_peek_44 : decode cX7_peek 44 = .ok (.putfield 25, 3) := by decide +kernel
theorem dX7_peek_47 : decode cX7_peek 47 = .ok (.goto (-47), 3) := by decide +kernel
theorem dX7_peek_50 : decode cX7_peek 50 = .ok (.aload_n 0, 1) := by decide +kernel
theorem dX7_peek_51 : decode cX7_peek 51 = .ok (.aload_n 0, 1) := by decide +kernel
theorem dX7_peek_52 : decode cX7_peek 52 = .ok (.getfield 25, 3) := by decide +kernel
theorem dX7_peek_55 : decode cX7_peek 55 = .ok (.putfield 28, 3) := by decide +kernel
theorem dX7_peek_58 : decode cX7_peek 58 = .ok (.aload_n 0, 1) := by decide +kernel
theorem dX7_peek_59 : decode cX7_peek 59 = .ok (.getfield 25, 3) := by decide +kernel
theorem dX7_peek_62 : decode cX7_peek 62 = .ok (.aload_n 0, 1) := by decide +kernel
theorem dX7_peek_63 : decode cX7_peek 63 = .ok (.getfield 22, 3) := by decide +kernel
theorem dX7_peek_66 : decode cX7_peek 66 = .ok (.if_icmp .ge 31, 3) := by decide +kernel
theorem dX7_peek_69 : decode cX7_peek 69 = .ok (.aload_n 0, 1) := by decide +kernel
theorem dX7_peek_70 : decode cX7_peek 70 = .ok (.getfield 25, 3) := by decide +kernel
theorem dX7_peek_73 : decode cX7_peek 73 = .ok (.aload_n 0, 1) := by decide +kernel
theorem dX7_peek_74 : decode cX7_peek 74 = .ok (.getfield 9, 3) := by decide +kernel
theorem dX7_peek_77 : decode cX7_peek 77 = .ok (.arraylength, 1) := by decide +kernel
theorem dX7_peek_78 : decode cX7_peek 78 = .ok (.if_icmp .ge 19, 3) := by decide +kernel
theorem dX7_peek_81 : decode cX7_peek 81 = .ok (.aload_n 0, 1) := by decide +kernel
theorem dX7_peek_82 : decode cX7_peek 82 = .ok (.getfield 9, 3) := by decide +kernel
theorem dX7_peek_85 : decode cX7_peek 85 = .ok (.aload_n 0, 1) := by decide +kernel
theorem dX7_peek_86 : decode cX7_peek 86 = .ok (.getfield 25, 3) := by decide +kernel
theorem dX7_peek_89 : decode cX7_peek 89 = .ok (.baload, 1) := by decide +kernel
theorem dX7_peek_90 : decode cX7_peek 90 = .ok (.sipush 255, 3) := by decide +kernel
theorem dX7_peek_93 : decode cX7_peek 93 = .ok (.iand, 1) := by decide +kernel
theorem dX7_peek_94 : decode cX7_peek 94 = .ok (.goto 4, 3) := by decide +kernel
theorem dX7_peek_97 : decode cX7_peek 97 = .ok (.iconst (-1), 1) := by decide +kernel
theorem dX7_peek_98 : decode cX7_peek 98 = .ok (.ireturn, 1) := by decide +kernel
theorem dX7_hasMore_0 : decode cX7_hasMore 0 = .ok (.aload_n 0, 1) := by decide +kernel
theorem dX7_hasMore_1 : decode cX7_hasMore 1 = .ok (.invokevirtual 34, 3) := by decide +kernel
theorem dX7_hasMore_4 : decode cX7_hasMore 4 = .ok (.iconst (-1), 1) := by decide +kernel
theorem dX7_hasMore_5 : decode cX7_hasMore 5 = .ok (.if_icmp .eq 7, 3) := by decide +kernel
theorem dX7_hasMore_8 : decode cX7_hasMore 8 = .ok (.iconst 1, 1) := by decide +kernel
theorem dX7_hasMore_9 : decode cX7_hasMore 9 = .ok (.goto 4, 3) := by decide +kernel
theorem dX7_hasMore_12 : decode cX7_hasMore 12 = .ok (.iconst 0, 1) := by decide +kernel
theorem dX7_hasMore_13 : decode cX7_hasMore 13 = .ok (.ireturn, 1) := by decide +kernel
theorem dX7_takeSign_0 : decode cX7_takeSign 0 = .ok (.aload_n 0, 1) := by decide +kernel
theorem dX7_takeSign_1 : decode cX7_takeSign 1 = .ok (.invokevirtual 34, 3) := by decide +kernel
theorem dX7_takeSign_4 : decode cX7_takeSign 4 = .ok (.iload_n 1, 1) := by decide +kernel
theorem dX7_takeSign_5 : decode cX7_takeSign 5 = .ok (.if_icmp .eq 13, 3) := by decide +kernel
theorem dX7_takeSign_8 : decode cX7_takeSign 8 = .ok (.aload_n 0, 1) := by decide +kernel
theorem dX7_takeSign_9 : decode cX7_takeSign 9 = .ok (.iconst 1, 1) := by decide +kernel
theorem dX7_takeSign_10 : decode cX7_takeSign 10 = .ok (.aload_n 0, 1) := by decide +kernel
theorem dX7_takeSign_11 : decode cX7_takeSign 11 = .ok (.getfield 28, 3) := by decide +kernel
theorem dX7_takeSign_14 : decode cX7_takeSign 14 = .ok (.invokevirtual 38, 3) := by decide +kernel
theorem dX7_takeSign_17 : decode cX7_takeSign 17 = .ok (.ireturn, 1) := by decide +kernel
theorem dX7_takeSign_18 : decode cX7_takeSign 18 = .ok (.aload_n 0, 1) := by decide +kernel
theorem dX7_takeSign_19 : decode cX7_takeSign 19 = .ok (.dup, 1) := by decide +kernel
theorem dX7_takeSign_20 : decode cX7_takeSign 20 = .ok (.getfield 25, 3) := by decide +kernel
theorem dX7_takeSign_23 : decode cX7_takeSign 23 = .ok (.iconst 1, 1) := by decide +kernel
theorem dX7_takeSign_24 : decode cX7_takeSign 24 = .ok (.iadd, 1) := by decide +kernel
theorem dX7_takeSign_25 : decode cX7_takeSign 25 = .ok (.putfield 25, 3) := by decide +kernel
theorem dX7_takeSign_28 : decode cX7_takeSign 28 = .ok (.iconst 1, 1) := by decide +kernel
theorem dX7_takeSign_29 : decode cX7_takeSign 29 = .ok (.ireturn, 1) := by decide +kernel
theorem dX7_takeNumber_0 : decode cX7_takeNumber 0 = .ok (.aload_n 0, 1) := by decide +kernel
theorem dX7_takeNumber_1 : decode cX7_takeNumber 1 = .ok (.invokevirtual 34, 3) := by decide +kernel
theorem dX7_takeNumber_4 : decode cX7_takeNumber 4 = .ok (.invokestatic 42, 3) := by decide +kernel
theorem dX7_takeNumber_7 : decode cX7_takeNumber 7 = .ok (.ifCond .ne 13, 3) := by decide +kernel
theorem dX7_takeNumber_10 : decode cX7_takeNumber 10 = .ok (.aload_n 0, 1) := by decide +kernel
theorem dX7_takeNumber_11 : decode cX7_takeNumber 11 = .ok (.iconst 1, 1) := by decide +kernel
theorem dX7_takeNumber_12 : decode cX7_takeNumber 12 = .ok (.aload_n 0, 1) := by decide +kernel
theorem dX7_takeNumber_13 : decode cX7_takeNumber 13 = .ok (.getfield 28, 3) := by decide +kernel
theorem dX7_takeNumber_16 : decode cX7_takeNumber 16 = .ok (.invokevirtual 38, 3) := by decide +kernel
theorem dX7_takeNumber_19 : decode cX7_takeNumber 19 = .ok (.ireturn, 1) := by decide +kernel
theorem dX7_takeNumber_20 : decode cX7_takeNumber 20 = .ok (.aload_n 0, 1) := by decide +kernel
theorem dX7_takeNumber_21 : decode cX7_takeNumber 21 = .ok (.iconst 0, 1) := by decide +kernel
theorem dX7_takeNumber_22 : decode cX7_takeNumber 22 = .ok (.putfield 46, 3) := by decide +kernel
theorem dX7_takeNumber_25 : decode cX7_takeNumber 25 = .ok (.aload_n 0, 1) := by decide +kernel
theorem dX7_takeNumber_26 : decode cX7_takeNumber 26 = .ok (.getfield 25, 3) := by decide +kernel
theorem dX7_takeNumber_29 : decode cX7_takeNumber 29 = .ok (.aload_n 0, 1) := by decide +kernel
theorem dX7_takeNumber_30 : decode cX7_takeNumber 30 = .ok (.getfield 22, 3) := by decide +kernel
theorem dX7_takeNumber_33 : decode cX7_takeNumber 33 = .ok (.if_icmp .ge 58, 3) := by decide +kernel
theorem dX7_takeNumber_36 : decode cX7_takeNumber 36 = .ok (.aload_n 0, 1) := by decide +kernel
theorem dX7_takeNumber_37 : decode cX7_takeNumber 37 = .ok (.aload_n 0, 1) := by decide +kernel
theorem dX7_takeNumber_38 : decode cX7_takeNumber 38 = .ok (.getfield 25, 3) := by decide +kernel
theorem dX7_takeNumber_41 : decode cX7_takeNumber 41 = .ok (.invokevirtual 49, 3) := by decide +kernel
theorem dX7_takeNumber_44 : decode cX7_takeNumber 44 = .ok (.invokestatic 42, 3) := by decide +kernel
theorem dX7_takeNumber_47 : decode cX7_takeNumber 47 = .ok (.ifCond .eq 44, 3) := by decide +kernel
theorem dX7_takeNumber_50 : decode cX7_takeNumber 50 = .ok (.aload_n 0, 1) := by decide +kernel
theorem dX7_takeNumber_51 : decode cX7_takeNumber 51 = .ok (.aload_n 0, 1) := by decide +kernel
theorem dX7_takeNumber_52 : decode cX7_takeNumber 52 = .ok (.getfield 46, 3) := by decide +kernel
theorem dX7_takeNumber_55 : decode cX7_takeNumber 55 = .ok (.bipush 10, 2) := by decide +kernel
theorem dX7_takeNumber_57 : decode cX7_takeNumber 57 = .ok (.imul, 1) := by decide +kernel
theorem dX7_takeNumber_58 : decode cX7_takeNumber 58 = .ok (.aload_n 0, 1) := by decide +kernel
theorem dX7_takeNumber_59 : decode cX7_takeNumber 59 = .ok (.aload_n 0, 1) := by decide +kernel
theorem dX7_takeNumber_60 : decode cX7_takeNumber 60 = .ok (.getfield 25, 3) := by decide +kernel
theorem dX7_takeNumber_63 : decode cX7_takeNumber 63 = .ok (.invokevirtual 49, 3) := by decide +kernel
theorem dX7_takeNumber_66 : decode cX7_takeNumber 66 = .ok (.iadd, 1) := by decide +kernel
theorem dX7_takeNumber_67 : decode cX7_takeNumber 67 = .ok (.bipush 48, 2) := by decide +kernel
theorem dX7_takeNumber_69 : decode cX7_takeNumber 69 = .ok (.isub, 1) := by decide +kernel
theorem dX7_takeNumber_70 : decode cX7_takeNumber 70 = .ok (.ldc 53, 2) := by decide +kernel
theorem dX7_takeNumber_72 : decode cX7_takeNumber 72 = .ok (.invokestatic 54, 3) := by decide +kernel
theorem dX7_takeNumber_75 : decode cX7_takeNumber 75 = .ok (.putfield 46, 3) := by decide +kernel
theorem dX7_takeNumber_78 : decode cX7_takeNumber 78 = .ok (.aload_n 0, 1) := by decide +kernel
theorem dX7_takeNumber_79 : decode cX7_takeNumber 79 = .ok (.dup, 1) := by decide +kernel
theorem dX7_takeNumber_80 : decode cX7_takeNumber 80 = .ok (.getfield 25, 3) := by decide +kernel
theorem dX7_takeNumber_83 : decode cX7_takeNumber 83 = .ok (.iconst 1, 1) := by decide +kernel
theorem dX7_takeNumber_84 : decode cX7_takeNumber 84 = .ok (.iadd, 1) := by decide +kernel
theorem dX7_takeNumber_85 : decode cX7_takeNumber 85 = .ok (.putfield 25, 3) := by decide +kernel
theorem dX7_takeNumber_88 : decode cX7_takeNumber 88 = .ok (.goto (-63), 3) := by decide +kernel
theorem dX7_takeNumber_91 : decode cX7_takeNumber 91 = .ok (.aload_n 0, 1) := by decide +kernel
theorem dX7_takeNumber_92 : decode cX7_takeNumber 92 = .ok (.getfield 46, 3) := by decide +kernel
theorem dX7_takeNumber_95 : decode cX7_takeNumber 95 = .ok (.iload_n 1, 1) := by decide +kernel
theorem dX7_takeNumber_96 : decode cX7_takeNumber 96 = .ok (.if_icmp .lt 11, 3) := by decide +kernel
theorem dX7_takeNumber_99 : decode cX7_takeNumber 99 = .ok (.aload_n 0, 1) := by decide +kernel
theorem dX7_takeNumber_100 : decode cX7_takeNumber 100 = .ok (.getfield 46, 3) := by decide +kernel
theorem dX7_takeNumber_103 : decode cX7_takeNumber 103 = .ok (.iload_n 2, 1) := by decide +kernel
theorem dX7_takeNumber_104 : decode cX7_takeNumber 104 = .ok (.if_icmp .le 15, 3) := by decide +kernel
theorem dX7_takeNumber_107 : decode cX7_takeNumber 107 = .ok (.aload_n 0, 1) := by decide +kernel
theorem dX7_takeNumber_108 : decode cX7_takeNumber 108 = .ok (.iconst 2, 1) := by decide +kernel
theorem dX7_takeNumber_109 : decode cX7_takeNumber 109 = .ok (.aload_n 0, 1) := by decide +kernel
theorem dX7_takeNumber_110 : decode cX7_takeNumber 110 = .ok (.getfield 28, 3) := by decide +kernel
theorem dX7_takeNumber_113 : decode cX7_takeNumber 113 = .ok (.invokevirtual 38, 3) := by decide +kernel
theorem dX7_takeNumber_116 : decode cX7_takeNumber 116 = .ok (.ifCond .eq 7, 3) := by decide +kernel
theorem dX7_takeNumber_119 : decode cX7_takeNumber 119 = .ok (.iconst 1, 1) := by decide +kernel
theorem dX7_takeNumber_120 : decode cX7_takeNumber 120 = .ok (.goto 4, 3) := by decide +kernel
theorem dX7_takeNumber_123 : decode cX7_takeNumber 123 = .ok (.iconst 0, 1) := by decide +kernel
theorem dX7_takeNumber_124 : decode cX7_takeNumber 124 = .ok (.ireturn, 1) := by decide +kernel
theorem dX7_takeOther_0 : decode cX7_takeOther 0 = .ok (.aload_n 0, 1) := by decide +kernel
theorem dX7_takeOther_1 : decode cX7_takeOther 1 = .ok (.iconst 0, 1) := by decide +kernel
theorem dX7_takeOther_2 : decode cX7_takeOther 2 = .ok (.iload_n 1, 1) := by decide +kernel
theorem dX7_takeOther_3 : decode cX7_takeOther 3 = .ok (.iconst 1, 1) := by decide +kernel
theorem dX7_takeOther_4 : decode cX7_takeOther 4 = .ok (.isub, 1) := by decide +kernel
theorem dX7_takeOther_5 : decode cX7_takeOther 5 = .ok (.invokevirtual 60, 3) := by decide +kernel
theorem dX7_takeOther_8 : decode cX7_takeOther 8 = .ok (.ifCond .eq 27, 3) := by decide +kernel
theorem dX7_takeOther_11 : decode cX7_takeOther 11 = .ok (.aload_n 0, 1) := by decide +kernel
theorem dX7_takeOther_12 : decode cX7_takeOther 12 = .ok (.getfield 46, 3) := by decide +kernel
theorem dX7_takeOther_15 : decode cX7_takeOther 15 = .ok (.iload_n 2, 1) := by decide +kernel
theorem dX7_takeOther_16 : decode cX7_takeOther 16 = .ok (.if_icmp .ne 15, 3) := by decide +kernel
theorem dX7_takeOther_19 : decode cX7_takeOther 19 = .ok (.aload_n 0, 1) := by decide +kernel
theorem dX7_takeOther_20 : decode cX7_takeOther 20 = .ok (.iconst 2, 1) := by decide +kernel
theorem dX7_takeOther_21 : decode cX7_takeOther 21 = .ok (.aload_n 0, 1) := by decide +kernel
theorem dX7_takeOther_22 : decode cX7_takeOther 22 = .ok (.getfield 28, 3) := by decide +kernel
theorem dX7_takeOther_25 : decode cX7_takeOther 25 = .ok (.invokevirtual 38, 3) := by decide +kernel
theorem dX7_takeOther_28 : decode cX7_takeOther 28 = .ok (.ifCond .eq 7, 3) := by decide +kernel
theorem dX7_takeOther_31 : decode cX7_takeOther 31 = .ok (.iconst 1, 1) := by decide +kernel
theorem dX7_takeOther_32 : decode cX7_takeOther 32 = .ok (.goto 4, 3) := by decide +kernel
theorem dX7_takeOther_35 : decode cX7_takeOther 35 = .ok (.iconst 0, 1) := by decide +kernel
theorem dX7_takeOther_36 : decode cX7_takeOther 36 = .ok (.ireturn, 1) := by decide +kernel
theorem dX7_takeWord_0 : decode cX7_takeWord 0 = .ok (.aload_n 0, 1) := by decide +kernel
theorem dX7_takeWord_1 : decode cX7_takeWord 1 = .ok (.invokevirtual 34, 3) := by decide +kernel
theorem dX7_takeWord_4 : decode cX7_takeWord 4 = .ok (.pop, 1) := by decide +kernel
theorem dX7_takeWord_5 : decode cX7_takeWord 5 = .ok (.aload_n 0, 1) := by decide +kernel
theorem dX7_takeWord_6 : decode cX7_takeWord 6 = .ok (.getfield 25, 3) := by decide +kernel
theorem dX7_takeWord_9 : decode cX7_takeWord 9 = .ok (.aload_n 0, 1) := by decide +kernel
theorem dX7_takeWord_10 : decode cX7_takeWord 10 = .ok (.getfield 22, 3) := by decide +kernel
theorem dX7_takeWord_13 : decode cX7_takeWord 13 = .ok (.if_icmp .ge 30, 3) := by decide +kernel
theorem dX7_takeWord_16 : decode cX7_takeWord 16 = .ok (.aload_n 0, 1) := by decide +kernel
theorem dX7_takeWord_17 : decode cX7_takeWord 17 = .ok (.aload_n 0, 1) := by decide +kernel
theorem dX7_takeWord_18 : decode cX7_takeWord 18 = .ok (.getfield 25, 3) := by decide +kernel
theorem dX7_takeWord_21 : decode cX7_takeWord 21 = .ok (.invokevirtual 49, 3) := by decide +kernel
theorem dX7_takeWord_24 : decode cX7_takeWord 24 = .ok (.invokestatic 63, 3) := by decide +kernel
theorem dX7_takeWord_27 : decode cX7_takeWord 27 = .ok (.ifCond .eq 16, 3) := by decide +kernel
theorem dX7_takeWord_30 : decode cX7_takeWord 30 = .ok (.aload_n 0, 1) := by decide +kernel
theorem dX7_takeWord_31 : decode cX7_takeWord 31 = .ok (.dup, 1) := by decide +kernel
theorem dX7_takeWord_32 : decode cX7_takeWord 32 = .ok (.getfield 25, 3) := by decide +kernel
theorem dX7_takeWord_35 : decode cX7_takeWord 35 = .ok (.iconst 1, 1) := by decide +kernel
theorem dX7_takeWord_36 : decode cX7_takeWord 36 = .ok (.iadd, 1) := by decide +kernel
theorem dX7_takeWord_37 : decode cX7_takeWord 37 = .ok (.putfield 25, 3) := by decide +kernel
theorem dX7_takeWord_40 : decode cX7_takeWord 40 = .ok (.goto (-35), 3) := by decide +kernel
theorem dX7_takeWord_43 : decode cX7_takeWord 43 = .ok (.aload_n 0, 1) := by decide +kernel
theorem dX7_takeWord_44 : decode cX7_takeWord 44 = .ok (.getfield 25, 3) := by decide +kernel
theorem dX7_takeWord_47 : decode cX7_takeWord 47 = .ok (.aload_n 0, 1) := by decide +kernel
theorem dX7_takeWord_48 : decode cX7_takeWord 48 = .ok (.getfield 28, 3) := by decide +kernel
theorem dX7_takeWord_51 : decode cX7_takeWord 51 = .ok (.if_icmp .gt 15, 3) := by decide +kernel
theorem dX7_takeWord_54 : decode cX7_takeWord 54 = .ok (.aload_n 0, 1) := by decide +kernel
theorem dX7_takeWord_55 : decode cX7_takeWord 55 = .ok (.iconst 1, 1) := by decide +kernel
theorem dX7_takeWord_56 : decode cX7_takeWord 56 = .ok (.aload_n 0, 1) := by decide +kernel
theorem dX7_takeWord_57 : decode cX7_takeWord 57 = .ok (.getfield 28, 3) := by decide +kernel
theorem dX7_takeWord_60 : decode cX7_takeWord 60 = .ok (.invokevirtual 38, 3) := by decide +kernel
theorem dX7_takeWord_63 : decode cX7_takeWord 63 = .ok (.ifCond .eq 7, 3) := by decide +kernel
theorem dX7_takeWord_66 : decode cX7_takeWord 66 = .ok (.iconst 1, 1) := by decide +kernel
theorem dX7_takeWord_67 : decode cX7_takeWord 67 = .ok (.goto 4, 3) := by decide +kernel
theorem dX7_takeWord_70 : decode cX7_takeWord 70 = .ok (.iconst 0, 1) := by decide +kernel
theorem dX7_takeWord_71 : decode cX7_takeWord 71 = .ok (.ireturn, 1) := by decide +kernel
theorem dX7_wordIs_0 : decode cX7_wordIs 0 = .ok (.aload_n 0, 1) := by decide +kernel
theorem dX7_wordIs_1 : decode cX7_wordIs 1 = .ok (.getfield 25, 3) := by decide +kernel
theorem dX7_wordIs_4 : decode cX7_wordIs 4 = .ok (.aload_n 0, 1) := by decide +kernel
theorem dX7_wordIs_5 : decode cX7_wordIs 5 = .ok (.getfield 28, 3) := by decide +kernel
theorem dX7_wordIs_8 : decode cX7_wordIs 8 = .ok (.isub, 1) := by decide +kernel
theorem dX7_wordIs_9 : decode cX7_wordIs 9 = .ok (.aload_n 1, 1) := by decide +kernel
theorem dX7_wordIs_10 : decode cX7_wordIs 10 = .ok (.invokevirtual 66, 3) := by decide +kernel
theorem dX7_wordIs_13 : decode cX7_wordIs 13 = .ok (.if_icmp .eq 5, 3) := by decide +kernel
theorem dX7_wordIs_16 : decode cX7_wordIs 16 = .ok (.iconst 0, 1) := by decide +kernel
theorem dX7_wordIs_17 : decode cX7_wordIs 17 = .ok (.ireturn, 1) := by decide +kernel
theorem dX7_wordIs_18 : decode cX7_wordIs 18 = .ok (.iconst 0, 1) := by decide +kernel
theorem dX7_wordIs_19 : decode cX7_wordIs 19 = .ok (.istore_n 2, 1) := by decide +kernel
theorem dX7_wordIs_20 : decode cX7_wordIs 20 = .ok (.iload_n 2, 1) := by decide +kernel
theorem dX7_wordIs_21 : decode cX7_wordIs 21 = .ok (.aload_n 1, 1) := by decide +kernel
theorem dX7_wordIs_22 : decode cX7_wordIs 22 = .ok (.invokevirtual 66, 3) := by decide +kernel
theorem dX7_wordIs_25 : decode cX7_wordIs 25 = .ok (.if_icmp .ge 29, 3) := by decide +kernel
theorem dX7_wordIs_28 : decode cX7_wordIs 28 = .ok (.aload_n 0, 1) := by decide +kernel
theorem dX7_wordIs_29 : decode cX7_wordIs 29 = .ok (.aload_n 0, 1) := by decide +kernel
theorem dX7_wordIs_30 : decode cX7_wordIs 30 = .ok (.getfield 28, 3) := by decide +kernel
theorem dX7_wordIs_33 : decode cX7_wordIs 33 = .ok (.iload_n 2, 1) := by decide +kernel
theorem dX7_wordIs_34 : decode cX7_wordIs 34 = .ok (.iadd, 1) := by decide +kernel
theorem dX7_wordIs_35 : decode cX7_wordIs 35 = .ok (.invokevirtual 49, 3) := by decide +kernel
theorem dX7_wordIs_38 : decode cX7_wordIs 38 = .ok (.aload_n 1, 1) := by decide +kernel
theorem dX7_wordIs_39 : decode cX7_wordIs 39 = .ok (.iload_n 2, 1) := by decide +kernel
theorem dX7_wordIs_40 : decode cX7_wordIs 40 = .ok (.invokevirtual 70, 3) := by decide +kernel
theorem dX7_wordIs_43 : decode cX7_wordIs 43 = .ok (.if_icmp .eq 5, 3) := by decide +kernel
theorem dX7_wordIs_46 : decode cX7_wordIs 46 = .ok (.iconst 0, 1) := by decide +kernel
theorem dX7_wordIs_47 : decode cX7_wordIs 47 = .ok (.ireturn, 1) := by decide +kernel
theorem dX7_wordIs_48 : decode cX7_wordIs 48 = .ok (.iinc 2 1, 3) := by decide +kernel
theorem dX7_wordIs_51 : decode cX7_wordIs 51 = .ok (.goto (-31), 3) := by decide +kernel
theorem dX7_wordIs_54 : decode cX7_wordIs 54 = .ok (.iconst 1, 1) := by decide +kernel
theorem dX7_wordIs_55 : decode cX7_wordIs 55 = .ok (.ireturn, 1) := by decide +kernel
theorem dX7_byteAt_0 : decode cX7_byteAt 0 = .ok (.iload_n 1, 1) := by decide +kernel
theorem dX7_byteAt_1 : decode cX7_byteAt 1 = .ok (.ifCond .lt 33, 3) := by decide +kernel
theorem dX7_byteAt_4 : decode cX7_byteAt 4 = .ok (.iload_n 1, 1) := by decide +kernel
theorem dX7_byteAt_5 : decode cX7_byteAt 5 = .ok (.aload_n 0, 1) := by decide +kernel
theorem dX7_byteAt_6 : decode cX7_byteAt 6 = .ok (.getfield 22, 3) := by decide +kernel
theorem dX7_byteAt_9 : decode cX7_byteAt 9 = .ok (.if_icmp .ge 25, 3) := by decide +kernel
theorem dX7_byteAt_12 : decode cX7_byteAt 12 = .ok (.iload_n 1, 1) := by decide +kernel
theorem dX7_byteAt_13 : decode cX7_byteAt 13 = .ok (.aload_n 0, 1) := by decide +kernel
theorem dX7_byteAt_14 : decode cX7_byteAt 14 = .ok (.getfield 9, 3) := by decide +kernel
theorem dX7_byteAt_17 : decode cX7_byteAt 17 = .ok (.arraylength, 1) := by decide +kernel
theorem dX7_byteAt_18 : decode cX7_byteAt 18 = .ok (.if_icmp .ge 16, 3) := by decide +kernel
theorem dX7_byteAt_21 : decode cX7_byteAt 21 = .ok (.aload_n 0, 1) := by decide +kernel
theorem dX7_byteAt_22 : decode cX7_byteAt 22 = .ok (.getfield 9, 3) := by decide +kernel
theorem dX7_byteAt_25 : decode cX7_byteAt 25 = .ok (.iload_n 1, 1) := by decide +kernel
theorem dX7_byteAt_26 : decode cX7_byteAt 26 = .ok (.baload, 1) := by decide +kernel
theorem dX7_byteAt_27 : decode cX7_byteAt 27 = .ok (.sipush 255, 3) := by decide +kernel
theorem dX7_byteAt_30 : decode cX7_byteAt 30 = .ok (.iand, 1) := by decide +kernel
theorem dX7_byteAt_31 : decode cX7_byteAt 31 = .ok (.goto 4, 3) := by decide +kernel
theorem dX7_byteAt_34 : decode cX7_byteAt 34 = .ok (.iconst (-1), 1) := by decide +kernel
theorem dX7_byteAt_35 : decode cX7_byteAt 35 = .ok (.ireturn, 1) := by decide +kernel
theorem dX7_isDigit_0 : decode cX7_isDigit 0 = .ok (.iload_n 0, 1) := by decide +kernel
theorem dX7_isDigit_1 : decode cX7_isDigit 1 = .ok (.bipush 48, 2) := by decide +kernel
theorem dX7_isDigit_3 : decode cX7_isDigit 3 = .ok (.if_icmp .lt 13, 3) := by decide +kernel
theorem dX7_isDigit_6 : decode cX7_isDigit 6 = .ok (.iload_n 0, 1) := by decide +kernel
theorem dX7_isDigit_7 : decode cX7_isDigit 7 = .ok (.bipush 57, 2) := by decide +kernel
theorem dX7_isDigit_9 : decode cX7_isDigit 9 = .ok (.if_icmp .gt 7, 3) := by decide +kernel
theorem dX7_isDigit_12 : decode cX7_isDigit 12 = .ok (.iconst 1, 1) := by decide +kernel
theorem dX7_isDigit_13 : decode cX7_isDigit 13 = .ok (.goto 4, 3) := by decide +kernel
theorem dX7_isDigit_16 : decode cX7_isDigit 16 = .ok (.iconst 0, 1) := by decide +kernel
theorem dX7_isDigit_17 : decode cX7_isDigit 17 = .ok (.ireturn, 1) := by decide +kernel
theorem dX7_isLetter_0 : decode cX7_isLetter 0 = .ok (.iload_n 0, 1) := by decide +kernel
theorem dX7_isLetter_1 : decode cX7_isLetter 1 = .ok (.bipush 97, 2) := by decide +kernel
theorem dX7_isLetter_3 : decode cX7_isLetter 3 = .ok (.if_icmp .lt 13, 3) := by decide +kernel
theorem dX7_isLetter_6 : decode cX7_isLetter 6 = .ok (.iload_n 0, 1) := by decide +kernel
theorem dX7_isLetter_7 : decode cX7_isLetter 7 = .ok (.bipush 122, 2) := by decide +kernel
theorem dX7_isLetter_9 : decode cX7_isLetter 9 = .ok (.if_icmp .gt 7, 3) := by decide +kernel
theorem dX7_isLetter_12 : decode cX7_isLetter 12 = .ok (.iconst 1, 1) := by decide +kernel
theorem dX7_isLetter_13 : decode cX7_isLetter 13 = .ok (.goto 4, 3) := by decide +kernel
theorem dX7_isLetter_16 : decode cX7_isLetter 16 = .ok (.iconst 0, 1) := by decide +kernel
theorem dX7_isLetter_17 : decode cX7_isLetter 17 = .ok (.ireturn, 1) := by decide +kernel
theorem dX8_init_0 : decode cX8_init 0 = .ok (.aload_n 0, 1) := by decide +kernel
theorem dX8_init_1 : decode cX8_init 1 = .ok (.invokespecial 3, 3) := by decide +kernel
theorem dX8_init_4 : decode cX8_init 4 = .ok (.aload_n 0, 1) := by decide +kernel
theorem dX8_init_5 : decode cX8_init 5 = .ok (.sipush 190, 3) := by decide +kernel
theorem dX8_init_8 : decode cX8_init 8 = .ok (.newarray .int, 2) := by decide +kernel
theorem dX8_init_10 : decode cX8_init 10 = .ok (.putfield 11, 3) := by decide +kernel
theorem dX8_init_13 : decode cX8_init 13 = .ok (.return_, 1) := by decide +kernel
theorem dX8_readFrom_0 : decode cX8_readFrom 0 = .ok (.aload_n 0, 1) := by decide +kernel
theorem dX8_readFrom_1 : decode cX8_readFrom 1 = .ok (.iconst 0, 1) := by decide +kernel
theorem dX8_readFrom_2 : decode cX8_readFrom 2 = .ok (.putfield 15, 3) := by decide +kernel
theorem dX8_readFrom_5 : decode cX8_readFrom 5 = .ok (.aload_n 0, 1) := by decide +kernel
theorem dX8_readFrom_6 : decode cX8_readFrom 6 = .ok (.aload_n 1, 1) := by decide +kernel
theorem dX8_readFrom_7 : decode cX8_readFrom 7 = .ok (.iload_n 2, 1) := by decide +kernel
theorem dX8_readFrom_8 : decode cX8_readFrom 8 = .ok (.iconst 0, 1) := by decide +kernel
theorem dX8_readFrom_9 : decode cX8_readFrom 9 = .ok (.invokevirtual 19, 3) := by decide +kernel
theorem dX8_readFrom_12 : decode cX8_readFrom 12 = .ok (.ireturn, 1) := by decide +kernel
theorem dX8_readSteps_0 : decode cX8_readSteps 0 = .ok (.iconst 0, 1) := by decide +kernel
theorem dX8_readSteps_1 : decode cX8_readSteps 1 = .ok (.istore 4, 2) := by decide +kernel
theorem dX8_readSteps_3 : decode cX8_readSteps 3 = .ok (.iload 4, 2) := by decide +kernel
theorem dX8_readSteps_5 : decode cX8_readSteps 5 = .ok (.bipush 38, 2) := by decide +kernel
theorem dX8_readSteps_7 : decode cX8_readSteps 7 = .ok (.if_icmp .ge 52, 3) := by decide +kernel
theorem dX8_readSteps_10 : decode cX8_readSteps 10 = .ok (.aload_n 1, 1) := by decide +kernel
theorem dX8_readSteps_11 : decode cX8_readSteps 11 = .ok (.invokevirtual 23, 3) := by decide +kernel
theorem dX8_readSteps_14 : decode cX8_readSteps 14 = .ok (.ifCond .eq 45, 3) := by decide +kernel
theorem dX8_readSteps_17 : decode cX8_readSteps 17 = .ok (.iload_n 3, 1) := by decide +kernel
theorem dX8_readSteps_18 : decode cX8_readSteps 18 = .ok (.ifCond .le 14, 3) := by decide +kernel
theorem dX8_readSteps_21 : decode cX8_readSteps 21 = .ok (.aload_n 1, 1) := by decide +kernel
theorem dX8_readSteps_22 : decode cX8_readSteps 22 = .ok (.invokevirtual 29, 3) := by decide +kernel
theorem dX8_readSteps_25 : decode cX8_readSteps 25 = .ok (.bipush 93, 2) := by decide +kernel
theorem dX8_readSteps_27 : decode cX8_readSteps 27 = .ok (.if_icmp .ne 5, 3) := by decide +kernel
theorem dX8_readSteps_30 : decode cX8_readSteps 30 = .ok (.iconst 1, 1) := by decide +kernel
theorem dX8_readSteps_31 : decode cX8_readSteps 31 = .ok (.ireturn, 1) := by decide +kernel
theorem dX8_readSteps_32 : decode cX8_readSteps 32 = .ok (.aload_n 0, 1) := by decide +kernel
theorem dX8_readSteps_33 : decode cX8_readSteps 33 = .ok (.aload_n 1, 1) := by decide +kernel
theorem dX8_readSteps_34 : decode cX8_readSteps 34 = .ok (.iload_n 2, 1) := by decide +kernel
theorem dX8_readSteps_35 : decode cX8_readSteps 35 = .ok (.iload_n 3, 1) := by decide +kernel
theorem dX8_readSteps_36 : decode cX8_readSteps 36 = .ok (.invokevirtual 33, 3) := by decide +kernel
theorem dX8_readSteps_39 : decode cX8_readSteps 39 = .ok (.ifCond .eq 12, 3) := by decide +kernel
theorem dX8_readSteps_42 : decode cX8_readSteps 42 = .ok (.aload_n 1, 1) := by decide +kernel
theorem dX8_readSteps_43 : decode cX8_readSteps 43 = .ok (.bipush 59, 2) := by decide +kernel
theorem dX8_readSteps_45 : decode cX8_readSteps 45 = .ok (.invokevirtual 36, 3) := by decide +kernel
theorem dX8_readSteps_48 : decode cX8_readSteps 48 = .ok (.ifCond .ne 5, 3) := by decide +kernel
theorem dX8_readSteps_51 : decode cX8_readSteps 51 = .ok (.iconst 0, 1) := by decide +kernel
theorem dX8_readSteps_52 : decode cX8_readSteps 52 = .ok (.ireturn, 1) := by decide +kernel
theorem dX8_readSteps_53 : decode cX8_readSteps 53 = .ok (.iinc 4 1, 3) := by decide +kernel
theorem dX8_readSteps_56 : decode cX8_readSteps 56 = .ok (.goto (-53), 3) := by decide +kernel
theorem dX8_readSteps_59 : decode cX8_readSteps 59 = .ok (.iconst 1, 1) := by decide +kernel
theorem dX8_readSteps_60 : decode cX8_readSteps 60 = .ok (.ireturn, 1) := by decide +kernel
theorem dX8_readStep_0 : decode cX8_readStep 0 = .ok (.aload_n 1, 1) := by decide +kernel
theorem dX8_readStep_1 : decode cX8_readStep 1 = .ok (.invokevirtual 40, 3) := by decide +kernel
theorem dX8_readStep_4 : decode cX8_readStep 4 = .ok (.ifCond .ne 5, 3) := by decide +kernel
theorem dX8_readStep_7 : decode cX8_readStep 7 = .ok (.iconst 0, 1) := by decide +kernel
theorem dX8_readStep_8 : decode cX8_readStep 8 = .ok (.ireturn, 1) := by decide +kernel
theorem dX8_readStep_9 : decode cX8_readStep 9 = .ok (.aload_n 0, 1) := by decide +kernel
theorem dX8_readStep_10 : decode cX8_readStep 10 = .ok (.getfield 15, 3) := by decide +kernel
theorem dX8_readStep_13 : decode cX8_readStep 13 = .ok (.istore 4, 2) := by decide +kernel
theorem dX8_readStep_15 : decode cX8_readStep 15 = .ok (.aload_n 1, 1) := by decide +kernel
theorem dX8_readStep_16 : decode cX8_readStep 16 = .ok (.ldc 43, 2) := by decide +kernel
theorem dX8_readStep_18 : decode cX8_readStep 18 = .ok (.invokevirtual 45, 3) := by decide +kernel
theorem dX8_readStep_21 : decode cX8_readStep 21 = .ok (.ifCond .eq 28, 3) := by decide +kernel
theorem dX8_readStep_24 : decode cX8_readStep 24 = .ok (.aload_n 0, 1) := by decide +kernel
theorem dX8_readStep_25 : decode cX8_readStep 25 = .ok (.iconst 0, 1) := by decide +kernel
theorem dX8_readStep_26 : decode cX8_readStep 26 = .ok (.invokevirtual 49, 3) := by decide +kernel
theorem dX8_readStep_29 : decode cX8_readStep 29 = .ok (.ifCond .eq 18, 3) := by decide +kernel
theorem dX8_readStep_32 : decode cX8_readStep 32 = .ok (.aload_n 0, 1) := by decide +kernel
theorem dX8_readStep_33 : decode cX8_readStep 33 = .ok (.aload_n 1, 1) := by decide +kernel
theorem dX8_readStep_34 : decode cX8_readStep 34 = .ok (.iload_n 2, 1) := by decide +kernel
theorem dX8_readStep_35 : decode cX8_readStep 35 = .ok (.iload 4, 2) := by decide +kernel
theorem dX8_readStep_37 : decode cX8_readStep 37 = .ok (.invokevirtual 52, 3) := by decide +kernel
theorem dX8_readStep_40 : decode cX8_readStep 40 = .ok (.ifCond .eq 7, 3) := by decide +kernel
theorem dX8_readStep_43 : decode cX8_readStep 43 = .ok (.iconst 1, 1) := by decide +kernel
theorem dX8_readStep_44 : decode cX8_readStep 44 = .ok (.goto 4, 3) := by decide +kernel
theorem dX8_readStep_47 : decode cX8_readStep 47 = .ok (.iconst 0, 1) := by decide +kernel
theorem dX8_readStep_48 : decode cX8_readStep 48 = .ok (.ireturn, 1) := by decide +kernel
theorem dX8_readStep_49 : decode cX8_readStep 49 = .ok (.aload_n 1, 1) := by decide +kernel
theorem dX8_readStep_50 : decode cX8_readStep 50 = .ok (.ldc 55, 2) := by decide +kernel
theorem dX8_readStep_52 : decode cX8_readStep 52 = .ok (.invokevirtual 45, 3) := by decide +kernel
theorem dX8_readStep_55 : decode cX8_readStep 55 = .ok (.ifCond .eq 31, 3) := by decide +kernel
theorem dX8_readStep_58 : decode cX8_readStep 58 = .ok (.aload_n 0, 1) := by decide +kernel
theorem dX8_readStep_59 : decode cX8_readStep 59 = .ok (.iconst 1, 1) := by decide +kernel
theorem dX8_readStep_60 : decode cX8_readStep 60 = .ok (.invokevirtual 49, 3) := by decide +kernel
theorem dX8_readStep_63 : decode cX8_readStep 63 = .ok (.ifCond .eq 21, 3) := by decide +kernel
theorem dX8_readStep_66 : decode cX8_readStep 66 = .ok (.aload_n 0, 1) := by decide +kernel
theorem dX8_readStep_67 : decode cX8_readStep 67 = .ok (.aload_n 1, 1) := by decide +kernel
theorem dX8_readStep_68 : decode cX8_readStep 68 = .ok (.iconst 0, 1) := by decide +kernel
theorem dX8_readStep_69 : decode cX8_readStep 69 = .ok (.bipush 9, 2) := by decide +kernel
theorem dX8_readStep_71 : decode cX8_readStep 71 = .ok (.iload 4, 2) := by decide +kernel
