set_option maxRecDepth 20000 in
theorem ggX5_canEnd_X9_isIn : GoodIn wsX5_canEnd wsX9_isIn := goodIn_r _ [6] rfl (by decide +kernel)
set_option maxRecDepth 20000 in
theorem gX5_canEnd_X9_isIn_n99 : GoodIn wsX5_canEnd (wsX9_isIn) := ggX5_canEnd_X9_isIn
set_option maxRecDepth 20000 in
theorem ggX5_canEnd_J6_bitCount_0f7a4 : GoodIn wsX5_canEnd wsJ6_bitCount_0f7a4 := goodIn_r _ [10, 11, 12, 13] rfl (by decide +kernel)
set_option maxRecDepth 20000 in
theorem gX5_canEnd_J6_bitCount_0f7a4 : GoodIn wsX5_canEnd (va_wsS RX5 81 yJ6_bitCount_0f7a4 wsJ6_bitCount_0f7a4) := goodIn_app (goodIn_of _ (by decide +kernel)) ggX5_canEnd_J6_bitCount_0f7a4
theorem dX5_canEnd_0 : decode cX5_canEnd 0 = .ok (.ldc2_w 124, 3) := dc_Bk (by decide +kernel)
theorem dX5_canEnd_3 : decode cX5_canEnd 3 = .ok (.lstore 4, 2) := dc_Bk (by decide +kernel)
theorem dX5_canEnd_5 : decode cX5_canEnd 5 = .ok (.iconst 0, 1) := dc_Bk (by decide +kernel)
theorem dX5_canEnd_6 : decode cX5_canEnd 6 = .ok (.istore 6, 2) := dc_Bk (by decide +kernel)
theorem dX5_canEnd_8 : decode cX5_canEnd 8 = .ok (.iload 6, 2) := dc_Bk (by decide +kernel)
theorem dX5_canEnd_10 : decode cX5_canEnd 10 = .ok (.bipush 6, 2) := dc_Bk (by decide +kernel)
theorem dX5_canEnd_12 : decode cX5_canEnd 12 = .ok (.if_icmp .ge 29, 3) := dc_Bk (by decide +kernel)
theorem dX5_canEnd_15 : decode cX5_canEnd 15 = .ok (.iload_n 3, 1) := dc_Bk (by decide +kernel)
theorem dX5_canEnd_16 : decode cX5_canEnd 16 = .ok (.iload 6, 2) := dc_Bk (by decide +kernel)
theorem dX5_canEnd_18 : decode cX5_canEnd 18 = .ok (.invokestatic 99, 3) := dc_Bk (by decide +kernel)
theorem dX5_canEnd_21 : decode cX5_canEnd 21 = .ok (.ifCond .eq 14, 3) := dc_Bk (by decide +kernel)
theorem dX5_canEnd_24 : decode cX5_canEnd 24 = .ok (.lload 4, 2) := dc_Bk (by decide +kernel)
theorem dX5_canEnd_26 : decode cX5_canEnd 26 = .ok (.getstatic 114, 3) := dc_Bk (by decide +kernel)
theorem dX5_canEnd_29 : decode cX5_canEnd 29 = .ok (.iload 6, 2) := dc_Bk (by decide +kernel)
theorem dX5_canEnd_31 : decode cX5_canEnd 31 = .ok (.laload, 1) := dc_Bk (by decide +kernel)
theorem dX5_canEnd_32 : decode cX5_canEnd 32 = .ok (.land, 1) := dc_Bk (by decide +kernel)
theorem dX5_canEnd_33 : decode cX5_canEnd 33 = .ok (.lstore 4, 2) := dc_Bk (by decide +kernel)
theorem dX5_canEnd_35 : decode cX5_canEnd 35 = .ok (.iinc 6 1, 3) := dc_Bk (by decide +kernel)
theorem dX5_canEnd_38 : decode cX5_canEnd 38 = .ok (.goto (-30), 3) := dc_Bk (by decide +kernel)
theorem dX5_canEnd_41 : decode cX5_canEnd 41 = .ok (.iload_n 3, 1) := dc_Bk (by decide +kernel)
theorem dX5_canEnd_42 : decode cX5_canEnd 42 = .ok (.bipush 6, 2) := dc_Bk (by decide +kernel)
theorem dX5_canEnd_44 : decode cX5_canEnd 44 = .ok (.invokestatic 99, 3) := dc_Bk (by decide +kernel)
theorem dX5_canEnd_47 : decode cX5_canEnd 47 = .ok (.ifCond .eq 7, 3) := dc_Bk (by decide +kernel)
theorem dX5_canEnd_50 : decode cX5_canEnd 50 = .ok (.lconst 0, 1) := dc_Bk (by decide +kernel)
theorem dX5_canEnd_51 : decode cX5_canEnd 51 = .ok (.goto 5, 3) := dc_Bk (by decide +kernel)
theorem dX5_canEnd_54 : decode cX5_canEnd 54 = .ok (.lload 4, 2) := dc_Bk (by decide +kernel)
theorem dX5_canEnd_56 : decode cX5_canEnd 56 = .ok (.lstore 6, 2) := dc_Bk (by decide +kernel)
theorem dX5_canEnd_58 : decode cX5_canEnd 58 = .ok (.iconst 0, 1) := dc_Bk (by decide +kernel)
theorem dX5_canEnd_59 : decode cX5_canEnd 59 = .ok (.istore 8, 2) := dc_Bk (by decide +kernel)
theorem dX5_canEnd_61 : decode cX5_canEnd 61 = .ok (.iload 8, 2) := dc_Bk (by decide +kernel)
theorem dX5_canEnd_63 : decode cX5_canEnd 63 = .ok (.sipush 128, 3) := dc_Bk (by decide +kernel)
theorem dX5_canEnd_66 : decode cX5_canEnd 66 = .ok (.if_icmp .ge 56, 3) := dc_Bk (by decide +kernel)
theorem dX5_canEnd_69 : decode cX5_canEnd 69 = .ok (.iload 8, 2) := dc_Bk (by decide +kernel)
theorem dX5_canEnd_71 : decode cX5_canEnd 71 = .ok (.iload_n 2, 1) := dc_Bk (by decide +kernel)
theorem dX5_canEnd_72 : decode cX5_canEnd 72 = .ok (.iand, 1) := dc_Bk (by decide +kernel)
theorem dX5_canEnd_73 : decode cX5_canEnd 73 = .ok (.ifCond .ne 43, 3) := dc_Bk (by decide +kernel)
theorem dX5_canEnd_76 : decode cX5_canEnd 76 = .ok (.iload 8, 2) := dc_Bk (by decide +kernel)
theorem dX5_canEnd_78 : decode cX5_canEnd 78 = .ok (.invokestatic 81, 3) := dc_Bk (by decide +kernel)
theorem dX5_canEnd_81 : decode cX5_canEnd 81 = .ok (.iload_n 1, 1) := dc_Bk (by decide +kernel)
theorem dX5_canEnd_82 : decode cX5_canEnd 82 = .ok (.if_icmp .eq 6, 3) := dc_Bk (by decide +kernel)
theorem dX5_canEnd_85 : decode cX5_canEnd 85 = .ok (.goto 31, 3) := dc_Bk (by decide +kernel)
theorem dX5_canEnd_88 : decode cX5_canEnd 88 = .ok (.aload_n 0, 1) := dc_Bk (by decide +kernel)
theorem dX5_canEnd_89 : decode cX5_canEnd 89 = .ok (.getfield 35, 3) := dc_Bk (by decide +kernel)
theorem dX5_canEnd_92 : decode cX5_canEnd 92 = .ok (.iload 8, 2) := dc_Bk (by decide +kernel)
theorem dX5_canEnd_94 : decode cX5_canEnd 94 = .ok (.laload, 1) := dc_Bk (by decide +kernel)
theorem dX5_canEnd_95 : decode cX5_canEnd 95 = .ok (.lload 4, 2) := dc_Bk (by decide +kernel)
theorem dX5_canEnd_97 : decode cX5_canEnd 97 = .ok (.land, 1) := dc_Bk (by decide +kernel)
theorem dX5_canEnd_98 : decode cX5_canEnd 98 = .ok (.aload_n 0, 1) := dc_Bk (by decide +kernel)
theorem dX5_canEnd_99 : decode cX5_canEnd 99 = .ok (.getfield 38, 3) := dc_Bk (by decide +kernel)
theorem dX5_canEnd_102 : decode cX5_canEnd 102 = .ok (.iload 8, 2) := dc_Bk (by decide +kernel)
theorem dX5_canEnd_104 : decode cX5_canEnd 104 = .ok (.laload, 1) := dc_Bk (by decide +kernel)
theorem dX5_canEnd_105 : decode cX5_canEnd 105 = .ok (.lload 6, 2) := dc_Bk (by decide +kernel)
theorem dX5_canEnd_107 : decode cX5_canEnd 107 = .ok (.land, 1) := dc_Bk (by decide +kernel)
theorem dX5_canEnd_108 : decode cX5_canEnd 108 = .ok (.lor, 1) := dc_Bk (by decide +kernel)
theorem dX5_canEnd_109 : decode cX5_canEnd 109 = .ok (.lconst 0, 1) := dc_Bk (by decide +kernel)
theorem dX5_canEnd_110 : decode cX5_canEnd 110 = .ok (.lcmp, 1) := dc_Bk (by decide +kernel)
theorem dX5_canEnd_111 : decode cX5_canEnd 111 = .ok (.ifCond .eq 5, 3) := dc_Bk (by decide +kernel)
theorem dX5_canEnd_114 : decode cX5_canEnd 114 = .ok (.iconst 1, 1) := dc_Bk (by decide +kernel)
theorem dX5_canEnd_115 : decode cX5_canEnd 115 = .ok (.ireturn, 1) := dc_Bk (by decide +kernel)
theorem dX5_canEnd_116 : decode cX5_canEnd 116 = .ok (.iinc 8 1, 3) := dc_Bk (by decide +kernel)
theorem dX5_canEnd_119 : decode cX5_canEnd 119 = .ok (.goto (-58), 3) := dc_Bk (by decide +kernel)
theorem dX5_canEnd_122 : decode cX5_canEnd 122 = .ok (.iconst 0, 1) := dc_Bk (by decide +kernel)
theorem dX5_canEnd_123 : decode cX5_canEnd 123 = .ok (.ireturn, 1) := dc_Bk (by decide +kernel)
set_option maxRecDepth 20000 in
theorem ggX5_leastPair_X9_isIn : GoodIn wsX5_leastPair wsX9_isIn := goodIn_r _ [4] rfl (by decide +kernel)
set_option maxRecDepth 20000 in
theorem gX5_leastPair_X9_isIn_n99 : GoodIn wsX5_leastPair (wsX9_isIn) := ggX5_leastPair_X9_isIn
set_option maxRecDepth 20000 in
theorem ggX5_leastPair_X5_canEnd : GoodIn wsX5_leastPair wsX5_canEnd := goodIn_r _ [9, 10, 11, 12, 2, 3, 4, 13, 14, 15, 16, 17, 18, 19, 20, 21, 22, 23, 24, 25, 26, 27, 28, 29] rfl (by decide +kernel)
set_option maxRecDepth 20000 in
theorem gX5_leastPair_X5_canEnd : GoodIn wsX5_leastPair (wsV RX5 120 RX5 yX5_canEnd wsX5_canEnd) := goodIn_app (goodIn_of _ (by decide +kernel)) ggX5_leastPair_X5_canEnd
theorem dX5_leastPair_0 : decode cX5_leastPair 0 = .ok (.iconst 0, 1) := dc_Bk (by decide +kernel)
theorem dX5_leastPair_1 : decode cX5_leastPair 1 = .ok (.istore 4, 2) := dc_Bk (by decide +kernel)
theorem dX5_leastPair_3 : decode cX5_leastPair 3 = .ok (.iload 4, 2) := dc_Bk (by decide +kernel)
theorem dX5_leastPair_5 : decode cX5_leastPair 5 = .ok (.bipush 7, 2) := dc_Bk (by decide +kernel)
theorem dX5_leastPair_7 : decode cX5_leastPair 7 = .ok (.if_icmp .ge 98, 3) := dc_Bk (by decide +kernel)
theorem dX5_leastPair_10 : decode cX5_leastPair 10 = .ok (.iload_n 2, 1) := dc_Bk (by decide +kernel)
theorem dX5_leastPair_11 : decode cX5_leastPair 11 = .ok (.iload 4, 2) := dc_Bk (by decide +kernel)
theorem dX5_leastPair_13 : decode cX5_leastPair 13 = .ok (.invokestatic 99, 3) := dc_Bk (by decide +kernel)
theorem dX5_leastPair_16 : decode cX5_leastPair 16 = .ok (.ifCond .eq 7, 3) := dc_Bk (by decide +kernel)
theorem dX5_leastPair_19 : decode cX5_leastPair 19 = .ok (.iconst 0, 1) := dc_Bk (by decide +kernel)
theorem dX5_leastPair_20 : decode cX5_leastPair 20 = .ok (.goto 19, 3) := dc_Bk (by decide +kernel)
theorem dX5_leastPair_23 : decode cX5_leastPair 23 = .ok (.aload_n 0, 1) := dc_Bk (by decide +kernel)
theorem dX5_leastPair_24 : decode cX5_leastPair 24 = .ok (.getfield 41, 3) := dc_Bk (by decide +kernel)
theorem dX5_leastPair_27 : decode cX5_leastPair 27 = .ok (.iload_n 1, 1) := dc_Bk (by decide +kernel)
theorem dX5_leastPair_28 : decode cX5_leastPair 28 = .ok (.bipush 7, 2) := dc_Bk (by decide +kernel)
theorem dX5_leastPair_30 : decode cX5_leastPair 30 = .ok (.imul, 1) := dc_Bk (by decide +kernel)
theorem dX5_leastPair_31 : decode cX5_leastPair 31 = .ok (.iload 4, 2) := dc_Bk (by decide +kernel)
theorem dX5_leastPair_33 : decode cX5_leastPair 33 = .ok (.iadd, 1) := dc_Bk (by decide +kernel)
theorem dX5_leastPair_34 : decode cX5_leastPair 34 = .ok (.iaload, 1) := dc_Bk (by decide +kernel)
theorem dX5_leastPair_35 : decode cX5_leastPair 35 = .ok (.iload_n 3, 1) := dc_Bk (by decide +kernel)
theorem dX5_leastPair_36 : decode cX5_leastPair 36 = .ok (.iconst (-1), 1) := dc_Bk (by decide +kernel)
theorem dX5_leastPair_37 : decode cX5_leastPair 37 = .ok (.ixor, 1) := dc_Bk (by decide +kernel)
theorem dX5_leastPair_38 : decode cX5_leastPair 38 = .ok (.iand, 1) := dc_Bk (by decide +kernel)
theorem dX5_leastPair_39 : decode cX5_leastPair 39 = .ok (.istore 5, 2) := dc_Bk (by decide +kernel)
theorem dX5_leastPair_41 : decode cX5_leastPair 41 = .ok (.iconst 0, 1) := dc_Bk (by decide +kernel)
theorem dX5_leastPair_42 : decode cX5_leastPair 42 = .ok (.istore 6, 2) := dc_Bk (by decide +kernel)
theorem dX5_leastPair_44 : decode cX5_leastPair 44 = .ok (.iload 6, 2) := dc_Bk (by decide +kernel)
theorem dX5_leastPair_46 : decode cX5_leastPair 46 = .ok (.bipush 7, 2) := dc_Bk (by decide +kernel)
theorem dX5_leastPair_48 : decode cX5_leastPair 48 = .ok (.if_icmp .ge 51, 3) := dc_Bk (by decide +kernel)
theorem dX5_leastPair_51 : decode cX5_leastPair 51 = .ok (.iload 5, 2) := dc_Bk (by decide +kernel)
theorem dX5_leastPair_53 : decode cX5_leastPair 53 = .ok (.iload 6, 2) := dc_Bk (by decide +kernel)
theorem dX5_leastPair_55 : decode cX5_leastPair 55 = .ok (.invokestatic 99, 3) := dc_Bk (by decide +kernel)
theorem dX5_leastPair_58 : decode cX5_leastPair 58 = .ok (.ifCond .ne 6, 3) := dc_Bk (by decide +kernel)
theorem dX5_leastPair_61 : decode cX5_leastPair 61 = .ok (.goto 32, 3) := dc_Bk (by decide +kernel)
theorem dX5_leastPair_64 : decode cX5_leastPair 64 = .ok (.aload_n 0, 1) := dc_Bk (by decide +kernel)
theorem dX5_leastPair_65 : decode cX5_leastPair 65 = .ok (.iload_n 1, 1) := dc_Bk (by decide +kernel)
theorem dX5_leastPair_66 : decode cX5_leastPair 66 = .ok (.iload_n 2, 1) := dc_Bk (by decide +kernel)
theorem dX5_leastPair_67 : decode cX5_leastPair 67 = .ok (.iconst 1, 1) := dc_Bk (by decide +kernel)
theorem dX5_leastPair_68 : decode cX5_leastPair 68 = .ok (.iload 4, 2) := dc_Bk (by decide +kernel)
theorem dX5_leastPair_70 : decode cX5_leastPair 70 = .ok (.ishl, 1) := dc_Bk (by decide +kernel)
theorem dX5_leastPair_71 : decode cX5_leastPair 71 = .ok (.ior, 1) := dc_Bk (by decide +kernel)
theorem dX5_leastPair_72 : decode cX5_leastPair 72 = .ok (.iload_n 3, 1) := dc_Bk (by decide +kernel)
theorem dX5_leastPair_73 : decode cX5_leastPair 73 = .ok (.iconst 1, 1) := dc_Bk (by decide +kernel)
theorem dX5_leastPair_74 : decode cX5_leastPair 74 = .ok (.iload 6, 2) := dc_Bk (by decide +kernel)
theorem dX5_leastPair_76 : decode cX5_leastPair 76 = .ok (.ishl, 1) := dc_Bk (by decide +kernel)
theorem dX5_leastPair_77 : decode cX5_leastPair 77 = .ok (.ior, 1) := dc_Bk (by decide +kernel)
theorem dX5_leastPair_78 : decode cX5_leastPair 78 = .ok (.invokevirtual 120, 3) := dc_Bk (by decide +kernel)
theorem dX5_leastPair_81 : decode cX5_leastPair 81 = .ok (.ifCond .eq 12, 3) := dc_Bk (by decide +kernel)
theorem dX5_leastPair_84 : decode cX5_leastPair 84 = .ok (.iload 4, 2) := dc_Bk (by decide +kernel)
theorem dX5_leastPair_86 : decode cX5_leastPair 86 = .ok (.bipush 7, 2) := dc_Bk (by decide +kernel)
theorem dX5_leastPair_88 : decode cX5_leastPair 88 = .ok (.imul, 1) := dc_Bk (by decide +kernel)
theorem dX5_leastPair_89 : decode cX5_leastPair 89 = .ok (.iload 6, 2) := dc_Bk (by decide +kernel)
theorem dX5_leastPair_91 : decode cX5_leastPair 91 = .ok (.iadd, 1) := dc_Bk (by decide +kernel)
theorem dX5_leastPair_92 : decode cX5_leastPair 92 = .ok (.ireturn, 1) := dc_Bk (by decide +kernel)
theorem dX5_leastPair_93 : decode cX5_leastPair 93 = .ok (.iinc 6 1, 3) := dc_Bk (by decide +kernel)
theorem dX5_leastPair_96 : decode cX5_leastPair 96 = .ok (.goto (-52), 3) := dc_Bk (by decide +kernel)
theorem dX5_leastPair_99 : decode cX5_leastPair 99 = .ok (.iinc 4 1, 3) := dc_Bk (by decide +kernel)
theorem dX5_leastPair_102 : decode cX5_leastPair 102 = .ok (.goto (-99), 3) := dc_Bk (by decide +kernel)
theorem dX5_leastPair_105 : decode cX5_leastPair 105 = .ok (.iconst (-1), 1) := dc_Bk (by decide +kernel)
theorem dX5_leastPair_106 : decode cX5_leastPair 106 = .ok (.ireturn, 1) := dc_Bk (by decide +kernel)
set_option maxRecDepth 20000 in
theorem ggX5_readRow_X5_leastPair : GoodIn wsX5_readRow wsX5_leastPair := goodIn_r _ [7, 8, 9, 10, 11, 12, 13, 14, 6, 15, 16, 17, 18, 19, 20, 21, 22, 23, 24, 25, 26, 27, 28, 29, 30, 31, 32, 33, 34, 35] rfl (by decide +kernel)
set_option maxRecDepth 20000 in
theorem gX5_readRow_X5_leastPair : GoodIn wsX5_readRow (wsV RX5 117 RX5 yX5_leastPair wsX5_leastPair) := goodIn_app (goodIn_of _ (by decide +kernel)) ggX5_readRow_X5_leastPair
theorem dX5_readRow_0 : decode cX5_readRow 0 = .ok (.iconst 0, 1) := dc_Bk (by decide +kernel)
theorem dX5_readRow_1 : decode cX5_readRow 1 = .ok (.istore_n 2, 1) := dc_Bk (by decide +kernel)
theorem dX5_readRow_2 : decode cX5_readRow 2 = .ok (.iconst 0, 1) := dc_Bk (by decide +kernel)
theorem dX5_readRow_3 : decode cX5_readRow 3 = .ok (.istore_n 3, 1) := dc_Bk (by decide +kernel)
theorem dX5_readRow_4 : decode cX5_readRow 4 = .ok (.iconst 0, 1) := dc_Bk (by decide +kernel)
theorem dX5_readRow_5 : decode cX5_readRow 5 = .ok (.istore 4, 2) := dc_Bk (by decide +kernel)
theorem dX5_readRow_7 : decode cX5_readRow 7 = .ok (.iload 4, 2) := dc_Bk (by decide +kernel)
theorem dX5_readRow_9 : decode cX5_readRow 9 = .ok (.iload_n 1, 1) := dc_Bk (by decide +kernel)
theorem dX5_readRow_10 : decode cX5_readRow 10 = .ok (.if_icmp .ge 91, 3) := dc_Bk (by decide +kernel)
theorem dX5_readRow_13 : decode cX5_readRow 13 = .ok (.aload_n 0, 1) := dc_Bk (by decide +kernel)
theorem dX5_readRow_14 : decode cX5_readRow 14 = .ok (.iload_n 1, 1) := dc_Bk (by decide +kernel)
theorem dX5_readRow_15 : decode cX5_readRow 15 = .ok (.iconst 1, 1) := dc_Bk (by decide +kernel)
theorem dX5_readRow_16 : decode cX5_readRow 16 = .ok (.isub, 1) := dc_Bk (by decide +kernel)
theorem dX5_readRow_17 : decode cX5_readRow 17 = .ok (.iload 4, 2) := dc_Bk (by decide +kernel)
theorem dX5_readRow_19 : decode cX5_readRow 19 = .ok (.isub, 1) := dc_Bk (by decide +kernel)
theorem dX5_readRow_20 : decode cX5_readRow 20 = .ok (.iload_n 2, 1) := dc_Bk (by decide +kernel)
theorem dX5_readRow_21 : decode cX5_readRow 21 = .ok (.iload_n 3, 1) := dc_Bk (by decide +kernel)
theorem dX5_readRow_22 : decode cX5_readRow 22 = .ok (.invokevirtual 117, 3) := dc_Bk (by decide +kernel)
theorem dX5_readRow_25 : decode cX5_readRow 25 = .ok (.istore 5, 2) := dc_Bk (by decide +kernel)
theorem dX5_readRow_27 : decode cX5_readRow 27 = .ok (.aload_n 0, 1) := dc_Bk (by decide +kernel)
theorem dX5_readRow_28 : decode cX5_readRow 28 = .ok (.getfield 9, 3) := dc_Bk (by decide +kernel)
theorem dX5_readRow_31 : decode cX5_readRow 31 = .ok (.iload 4, 2) := dc_Bk (by decide +kernel)
theorem dX5_readRow_33 : decode cX5_readRow 33 = .ok (.iload 5, 2) := dc_Bk (by decide +kernel)
theorem dX5_readRow_35 : decode cX5_readRow 35 = .ok (.iconst (-1), 1) := dc_Bk (by decide +kernel)
theorem dX5_readRow_36 : decode cX5_readRow 36 = .ok (.if_icmp .ne 7, 3) := dc_Bk (by decide +kernel)
theorem dX5_readRow_39 : decode cX5_readRow 39 = .ok (.iconst 0, 1) := dc_Bk (by decide +kernel)
theorem dX5_readRow_40 : decode cX5_readRow 40 = .ok (.goto 8, 3) := dc_Bk (by decide +kernel)
theorem dX5_readRow_43 : decode cX5_readRow 43 = .ok (.iload 5, 2) := dc_Bk (by decide +kernel)
theorem dX5_readRow_45 : decode cX5_readRow 45 = .ok (.bipush 7, 2) := dc_Bk (by decide +kernel)
theorem dX5_readRow_47 : decode cX5_readRow 47 = .ok (.idiv, 1) := dc_Bk (by decide +kernel)
theorem dX5_readRow_48 : decode cX5_readRow 48 = .ok (.iastore, 1) := dc_Bk (by decide +kernel)
theorem dX5_readRow_49 : decode cX5_readRow 49 = .ok (.aload_n 0, 1) := dc_Bk (by decide +kernel)
theorem dX5_readRow_50 : decode cX5_readRow 50 = .ok (.getfield 15, 3) := dc_Bk (by decide +kernel)
theorem dX5_readRow_53 : decode cX5_readRow 53 = .ok (.iload 4, 2) := dc_Bk (by decide +kernel)
theorem dX5_readRow_55 : decode cX5_readRow 55 = .ok (.iload 5, 2) := dc_Bk (by decide +kernel)
theorem dX5_readRow_57 : decode cX5_readRow 57 = .ok (.iconst (-1), 1) := dc_Bk (by decide +kernel)
theorem dX5_readRow_58 : decode cX5_readRow 58 = .ok (.if_icmp .ne 7, 3) := dc_Bk (by decide +kernel)
theorem dX5_readRow_61 : decode cX5_readRow 61 = .ok (.iconst 0, 1) := dc_Bk (by decide +kernel)
theorem dX5_readRow_62 : decode cX5_readRow 62 = .ok (.goto 8, 3) := dc_Bk (by decide +kernel)
theorem dX5_readRow_65 : decode cX5_readRow 65 = .ok (.iload 5, 2) := dc_Bk (by decide +kernel)
theorem dX5_readRow_67 : decode cX5_readRow 67 = .ok (.bipush 7, 2) := dc_Bk (by decide +kernel)
theorem dX5_readRow_69 : decode cX5_readRow 69 = .ok (.irem, 1) := dc_Bk (by decide +kernel)
theorem dX5_readRow_70 : decode cX5_readRow 70 = .ok (.iastore, 1) := dc_Bk (by decide +kernel)
theorem dX5_readRow_71 : decode cX5_readRow 71 = .ok (.iload_n 2, 1) := dc_Bk (by decide +kernel)
theorem dX5_readRow_72 : decode cX5_readRow 72 = .ok (.iconst 1, 1) := dc_Bk (by decide +kernel)
theorem dX5_readRow_73 : decode cX5_readRow 73 = .ok (.aload_n 0, 1) := dc_Bk (by decide +kernel)
theorem dX5_readRow_74 : decode cX5_readRow 74 = .ok (.getfield 9, 3) := dc_Bk (by decide +kernel)
theorem dX5_readRow_77 : decode cX5_readRow 77 = .ok (.iload 4, 2) := dc_Bk (by decide +kernel)
theorem dX5_readRow_79 : decode cX5_readRow 79 = .ok (.iaload, 1) := dc_Bk (by decide +kernel)
theorem dX5_readRow_80 : decode cX5_readRow 80 = .ok (.ishl, 1) := dc_Bk (by decide +kernel)
theorem dX5_readRow_81 : decode cX5_readRow 81 = .ok (.ior, 1) := dc_Bk (by decide +kernel)
theorem dX5_readRow_82 : decode cX5_readRow 82 = .ok (.istore_n 2, 1) := dc_Bk (by decide +kernel)
theorem dX5_readRow_83 : decode cX5_readRow 83 = .ok (.iload_n 3, 1) := dc_Bk (by decide +kernel)
theorem dX5_readRow_84 : decode cX5_readRow 84 = .ok (.iconst 1, 1) := dc_Bk (by decide +kernel)
theorem dX5_readRow_85 : decode cX5_readRow 85 = .ok (.aload_n 0, 1) := dc_Bk (by decide +kernel)
theorem dX5_readRow_86 : decode cX5_readRow 86 = .ok (.getfield 15, 3) := dc_Bk (by decide +kernel)
theorem dX5_readRow_89 : decode cX5_readRow 89 = .ok (.iload 4, 2) := dc_Bk (by decide +kernel)
theorem dX5_readRow_91 : decode cX5_readRow 91 = .ok (.iaload, 1) := dc_Bk (by decide +kernel)
theorem dX5_readRow_92 : decode cX5_readRow 92 = .ok (.ishl, 1) := dc_Bk (by decide +kernel)
theorem dX5_readRow_93 : decode cX5_readRow 93 = .ok (.ior, 1) := dc_Bk (by decide +kernel)
theorem dX5_readRow_94 : decode cX5_readRow 94 = .ok (.istore_n 3, 1) := dc_Bk (by decide +kernel)
theorem dX5_readRow_95 : decode cX5_readRow 95 = .ok (.iinc 4 1, 3) := dc_Bk (by decide +kernel)
theorem dX5_readRow_98 : decode cX5_readRow 98 = .ok (.goto (-91), 3) := dc_Bk (by decide +kernel)
theorem dX5_readRow_101 : decode cX5_readRow 101 = .ok (.return_, 1) := dc_Bk (by decide +kernel)
theorem dX5_addSleepers_0 : decode cX5_addSleepers 0 = .ok (.iconst 0, 1) := dc_Bk (by decide +kernel)
theorem dX5_addSleepers_1 : decode cX5_addSleepers 1 = .ok (.istore_n 3, 1) := dc_Bk (by decide +kernel)
theorem dX5_addSleepers_2 : decode cX5_addSleepers 2 = .ok (.iload_n 3, 1) := dc_Bk (by decide +kernel)
theorem dX5_addSleepers_3 : decode cX5_addSleepers 3 = .ok (.bipush 7, 2) := dc_Bk (by decide +kernel)
theorem dX5_addSleepers_5 : decode cX5_addSleepers 5 = .ok (.if_icmp .ge 148, 3) := dc_Bk (by decide +kernel)
theorem dX5_addSleepers_8 : decode cX5_addSleepers 8 = .ok (.iload_n 1, 1) := dc_Bk (by decide +kernel)
theorem dX5_addSleepers_9 : decode cX5_addSleepers 9 = .ok (.iconst 1, 1) := dc_Bk (by decide +kernel)
theorem dX5_addSleepers_10 : decode cX5_addSleepers 10 = .ok (.iload_n 3, 1) := dc_Bk (by decide +kernel)
theorem dX5_addSleepers_11 : decode cX5_addSleepers 11 = .ok (.ishl, 1) := dc_Bk (by decide +kernel)
theorem dX5_addSleepers_12 : decode cX5_addSleepers 12 = .ok (.ior, 1) := dc_Bk (by decide +kernel)
theorem dX5_addSleepers_13 : decode cX5_addSleepers 13 = .ok (.istore 4, 2) := dc_Bk (by decide +kernel)
theorem dX5_addSleepers_15 : decode cX5_addSleepers 15 = .ok (.iload 4, 2) := dc_Bk (by decide +kernel)
theorem dX5_addSleepers_17 : decode cX5_addSleepers 17 = .ok (.iload_n 1, 1) := dc_Bk (by decide +kernel)
theorem dX5_addSleepers_18 : decode cX5_addSleepers 18 = .ok (.if_icmp .ne 7, 3) := dc_Bk (by decide +kernel)
theorem dX5_addSleepers_21 : decode cX5_addSleepers 21 = .ok (.iconst 0, 1) := dc_Bk (by decide +kernel)
theorem dX5_addSleepers_22 : decode cX5_addSleepers 22 = .ok (.goto 14, 3) := dc_Bk (by decide +kernel)
theorem dX5_addSleepers_25 : decode cX5_addSleepers 25 = .ok (.aload_n 0, 1) := dc_Bk (by decide +kernel)
theorem dX5_addSleepers_26 : decode cX5_addSleepers 26 = .ok (.getfield 41, 3) := dc_Bk (by decide +kernel)
theorem dX5_addSleepers_29 : decode cX5_addSleepers 29 = .ok (.iload_n 2, 1) := dc_Bk (by decide +kernel)
theorem dX5_addSleepers_30 : decode cX5_addSleepers 30 = .ok (.bipush 7, 2) := dc_Bk (by decide +kernel)
theorem dX5_addSleepers_32 : decode cX5_addSleepers 32 = .ok (.imul, 1) := dc_Bk (by decide +kernel)
theorem dX5_addSleepers_33 : decode cX5_addSleepers 33 = .ok (.iload_n 3, 1) := dc_Bk (by decide +kernel)
theorem dX5_addSleepers_34 : decode cX5_addSleepers 34 = .ok (.iadd, 1) := dc_Bk (by decide +kernel)
theorem dX5_addSleepers_35 : decode cX5_addSleepers 35 = .ok (.iaload, 1) := dc_Bk (by decide +kernel)
theorem dX5_addSleepers_36 : decode cX5_addSleepers 36 = .ok (.istore 5, 2) := dc_Bk (by decide +kernel)
theorem dX5_addSleepers_38 : decode cX5_addSleepers 38 = .ok (.iconst 0, 1) := dc_Bk (by decide +kernel)
theorem dX5_addSleepers_39 : decode cX5_addSleepers 39 = .ok (.istore 6, 2) := dc_Bk (by decide +kernel)
theorem dX5_addSleepers_41 : decode cX5_addSleepers 41 = .ok (.iload 6, 2) := dc_Bk (by decide +kernel)
theorem dX5_addSleepers_43 : decode cX5_addSleepers 43 = .ok (.bipush 6, 2) := dc_Bk (by decide +kernel)
theorem dX5_addSleepers_45 : decode cX5_addSleepers 45 = .ok (.if_icmp .ge 78, 3) := dc_Bk (by decide +kernel)
theorem dX5_addSleepers_48 : decode cX5_addSleepers 48 = .ok (.iload 5, 2) := dc_Bk (by decide +kernel)
theorem dX5_addSleepers_50 : decode cX5_addSleepers 50 = .ok (.iload 6, 2) := dc_Bk (by decide +kernel)
theorem dX5_addSleepers_52 : decode cX5_addSleepers 52 = .ok (.ishr, 1) := dc_Bk (by decide +kernel)
theorem dX5_addSleepers_53 : decode cX5_addSleepers 53 = .ok (.iconst 1, 1) := dc_Bk (by decide +kernel)
theorem dX5_addSleepers_54 : decode cX5_addSleepers 54 = .ok (.iand, 1) := dc_Bk (by decide +kernel)
theorem dX5_addSleepers_55 : decode cX5_addSleepers 55 = .ok (.ifCond .ne 6, 3) := dc_Bk (by decide +kernel)
theorem dX5_addSleepers_58 : decode cX5_addSleepers 58 = .ok (.goto 59, 3) := dc_Bk (by decide +kernel)
theorem dX5_addSleepers_61 : decode cX5_addSleepers 61 = .ok (.aload_n 0, 1) := dc_Bk (by decide +kernel)
theorem dX5_addSleepers_62 : decode cX5_addSleepers 62 = .ok (.getfield 35, 3) := dc_Bk (by decide +kernel)
theorem dX5_addSleepers_65 : decode cX5_addSleepers 65 = .ok (.iload 4, 2) := dc_Bk (by decide +kernel)
theorem dX5_addSleepers_67 : decode cX5_addSleepers 67 = .ok (.dup2, 1) := dc_Bk (by decide +kernel)
theorem dX5_addSleepers_68 : decode cX5_addSleepers 68 = .ok (.laload, 1) := dc_Bk (by decide +kernel)
theorem dX5_addSleepers_69 : decode cX5_addSleepers 69 = .ok (.aload_n 0, 1) := dc_Bk (by decide +kernel)
theorem dX5_addSleepers_70 : decode cX5_addSleepers 70 = .ok (.getfield 35, 3) := dc_Bk (by decide +kernel)
theorem dX5_addSleepers_73 : decode cX5_addSleepers 73 = .ok (.iload_n 1, 1) := dc_Bk (by decide +kernel)
theorem dX5_addSleepers_74 : decode cX5_addSleepers 74 = .ok (.laload, 1) := dc_Bk (by decide +kernel)
theorem dX5_addSleepers_75 : decode cX5_addSleepers 75 = .ok (.getstatic 114, 3) := dc_Bk (by decide +kernel)
theorem dX5_addSleepers_78 : decode cX5_addSleepers 78 = .ok (.iload 6, 2) := dc_Bk (by decide +kernel)
theorem dX5_addSleepers_80 : decode cX5_addSleepers 80 = .ok (.laload, 1) := dc_Bk (by decide +kernel)
theorem dX5_addSleepers_81 : decode cX5_addSleepers 81 = .ok (.land, 1) := dc_Bk (by decide +kernel)
theorem dX5_addSleepers_82 : decode cX5_addSleepers 82 = .ok (.iconst 1, 1) := dc_Bk (by decide +kernel)
theorem dX5_addSleepers_83 : decode cX5_addSleepers 83 = .ok (.iload 6, 2) := dc_Bk (by decide +kernel)
theorem dX5_addSleepers_85 : decode cX5_addSleepers 85 = .ok (.ishl, 1) := dc_Bk (by decide +kernel)
theorem dX5_addSleepers_86 : decode cX5_addSleepers 86 = .ok (.lshl, 1) := dc_Bk (by decide +kernel)
theorem dX5_addSleepers_87 : decode cX5_addSleepers 87 = .ok (.lor, 1) := dc_Bk (by decide +kernel)
theorem dX5_addSleepers_88 : decode cX5_addSleepers 88 = .ok (.lastore, 1) := dc_Bk (by decide +kernel)
theorem dX5_addSleepers_89 : decode cX5_addSleepers 89 = .ok (.aload_n 0, 1) := dc_Bk (by decide +kernel)
theorem dX5_addSleepers_90 : decode cX5_addSleepers 90 = .ok (.getfield 38, 3) := dc_Bk (by decide +kernel)
theorem dX5_addSleepers_93 : decode cX5_addSleepers 93 = .ok (.iload 4, 2) := dc_Bk (by decide +kernel)
theorem dX5_addSleepers_95 : decode cX5_addSleepers 95 = .ok (.dup2, 1) := dc_Bk (by decide +kernel)
theorem dX5_addSleepers_96 : decode cX5_addSleepers 96 = .ok (.laload, 1) := dc_Bk (by decide +kernel)
theorem dX5_addSleepers_97 : decode cX5_addSleepers 97 = .ok (.aload_n 0, 1) := dc_Bk (by decide +kernel)
theorem dX5_addSleepers_98 : decode cX5_addSleepers 98 = .ok (.getfield 38, 3) := dc_Bk (by decide +kernel)
theorem dX5_addSleepers_101 : decode cX5_addSleepers 101 = .ok (.iload_n 1, 1) := dc_Bk (by decide +kernel)
theorem dX5_addSleepers_102 : decode cX5_addSleepers 102 = .ok (.laload, 1) := dc_Bk (by decide +kernel)
theorem dX5_addSleepers_103 : decode cX5_addSleepers 103 = .ok (.getstatic 114, 3) := dc_Bk (by decide +kernel)
theorem dX5_addSleepers_106 : decode cX5_addSleepers 106 = .ok (.iload 6, 2) := dc_Bk (by decide +kernel)
theorem dX5_addSleepers_108 : decode cX5_addSleepers 108 = .ok (.laload, 1) := dc_Bk (by decide +kernel)
theorem dX5_addSleepers_109 : decode cX5_addSleepers 109 = .ok (.land, 1) := dc_Bk (by decide +kernel)
theorem dX5_addSleepers_110 : decode cX5_addSleepers 110 = .ok (.iconst 1, 1) := dc_Bk (by decide +kernel)
theorem dX5_addSleepers_111 : decode cX5_addSleepers 111 = .ok (.iload 6, 2) := dc_Bk (by decide +kernel)
theorem dX5_addSleepers_113 : decode cX5_addSleepers 113 = .ok (.ishl, 1) := dc_Bk (by decide +kernel)
theorem dX5_addSleepers_114 : decode cX5_addSleepers 114 = .ok (.lshl, 1) := dc_Bk (by decide +kernel)
theorem dX5_addSleepers_115 : decode cX5_addSleepers 115 = .ok (.lor, 1) := dc_Bk (by decide +kernel)
theorem dX5_addSleepers_116 : decode cX5_addSleepers 116 = .ok (.lastore, 1) := dc_Bk (by decide +kernel)
theorem dX5_addSleepers_117 : decode cX5_addSleepers 117 = .ok (.iinc 6 1, 3) := dc_Bk (by decide +kernel)
theorem dX5_addSleepers_120 : decode cX5_addSleepers 120 = .ok (.goto (-79), 3) := dc_Bk (by decide +kernel)
theorem dX5_addSleepers_123 : decode cX5_addSleepers 123 = .ok (.iload 5, 2) := dc_Bk (by decide +kernel)
theorem dX5_addSleepers_125 : decode cX5_addSleepers 125 = .ok (.bipush 6, 2) := dc_Bk (by decide +kernel)
theorem dX5_addSleepers_127 : decode cX5_addSleepers 127 = .ok (.ishr, 1) := dc_Bk (by decide +kernel)
theorem dX5_addSleepers_128 : decode cX5_addSleepers 128 = .ok (.ifCond .eq 19, 3) := dc_Bk (by decide +kernel)
theorem dX5_addSleepers_131 : decode cX5_addSleepers 131 = .ok (.aload_n 0, 1) := dc_Bk (by decide +kernel)
theorem dX5_addSleepers_132 : decode cX5_addSleepers 132 = .ok (.getfield 38, 3) := dc_Bk (by decide +kernel)
theorem dX5_addSleepers_135 : decode cX5_addSleepers 135 = .ok (.iload 4, 2) := dc_Bk (by decide +kernel)
theorem dX5_addSleepers_137 : decode cX5_addSleepers 137 = .ok (.dup2, 1) := dc_Bk (by decide +kernel)
theorem dX5_addSleepers_138 : decode cX5_addSleepers 138 = .ok (.laload, 1) := dc_Bk (by decide +kernel)
theorem dX5_addSleepers_139 : decode cX5_addSleepers 139 = .ok (.aload_n 0, 1) := dc_Bk (by decide +kernel)
theorem dX5_addSleepers_140 : decode cX5_addSleepers 140 = .ok (.getfield 35, 3) := dc_Bk (by decide +kernel)
theorem dX5_addSleepers_143 : decode cX5_addSleepers 143 = .ok (.iload_n 1, 1) := dc_Bk (by decide +kernel)
theorem dX5_addSleepers_144 : decode cX5_addSleepers 144 = .ok (.laload, 1) := dc_Bk (by decide +kernel)
theorem dX5_addSleepers_145 : decode cX5_addSleepers 145 = .ok (.lor, 1) := dc_Bk (by decide +kernel)
theorem dX5_addSleepers_146 : decode cX5_addSleepers 146 = .ok (.lastore, 1) := dc_Bk (by decide +kernel)
theorem dX5_addSleepers_147 : decode cX5_addSleepers 147 = .ok (.iinc 3 1, 3) := dc_Bk (by decide +kernel)
theorem dX5_addSleepers_150 : decode cX5_addSleepers 150 = .ok (.goto (-148), 3) := dc_Bk (by decide +kernel)
theorem dX5_addSleepers_153 : decode cX5_addSleepers 153 = .ok (.return_, 1) := dc_Bk (by decide +kernel)
set_option maxRecDepth 20000 in
theorem ggX5_reach_J7_fill_d0a16 : GoodIn wsX5_reach wsJ7_fill_d0a16 := goodIn_r _ [6] rfl (by decide +kernel)
set_option maxRecDepth 20000 in
theorem gX5_reach_J7_fill_d0a16 : GoodIn wsX5_reach (va_wsS RX5 58 yJ7_fill_d0a16 wsJ7_fill_d0a16) := goodIn_app (goodIn_of _ (by decide +kernel)) ggX5_reach_J7_fill_d0a16
set_option maxRecDepth 20000 in
theorem ggX5_reach_J6_bitCount_0f7a4 : GoodIn wsX5_reach wsJ6_bitCount_0f7a4 := goodIn_r _ [10, 11, 12, 13] rfl (by decide +kernel)
set_option maxRecDepth 20000 in
theorem gX5_reach_J6_bitCount_0f7a4 : GoodIn wsX5_reach (va_wsS RX5 81 yJ6_bitCount_0f7a4 wsJ6_bitCount_0f7a4) := goodIn_app (goodIn_of _ (by decide +kernel)) ggX5_reach_J6_bitCount_0f7a4
set_option maxRecDepth 20000 in
theorem ggX5_reach_X5_addSleepers : GoodIn wsX5_reach wsX5_addSleepers := goodIn_r _ [18, 19, 1, 2, 20, 21, 22, 23, 24, 25, 26, 27, 28, 29] rfl (by decide +kernel)
set_option maxRecDepth 20000 in
theorem gX5_reach_X5_addSleepers : GoodIn wsX5_reach (wsV RX5 110 RX5 yX5_addSleepers wsX5_addSleepers) := goodIn_app (goodIn_of _ (by decide +kernel)) ggX5_reach_X5_addSleepers
theorem dX5_reach_0 : decode cX5_reach 0 = .ok (.aload_n 0, 1) := dc_Bk (by decide +kernel)
theorem dX5_reach_1 : decode cX5_reach 1 = .ok (.getfield 35, 3) := dc_Bk (by decide +kernel)
theorem dX5_reach_4 : decode cX5_reach 4 = .ok (.lconst 0, 1) := dc_Bk (by decide +kernel)
theorem dX5_reach_5 : decode cX5_reach 5 = .ok (.invokestatic 58, 3) := dc_Bk (by decide +kernel)
theorem dX5_reach_8 : decode cX5_reach 8 = .ok (.aload_n 0, 1) := dc_Bk (by decide +kernel)
theorem dX5_reach_9 : decode cX5_reach 9 = .ok (.getfield 38, 3) := dc_Bk (by decide +kernel)
theorem dX5_reach_12 : decode cX5_reach 12 = .ok (.lconst 0, 1) := dc_Bk (by decide +kernel)
theorem dX5_reach_13 : decode cX5_reach 13 = .ok (.invokestatic 58, 3) := dc_Bk (by decide +kernel)
theorem dX5_reach_16 : decode cX5_reach 16 = .ok (.aload_n 0, 1) := dc_Bk (by decide +kernel)
theorem dX5_reach_17 : decode cX5_reach 17 = .ok (.getfield 35, 3) := dc_Bk (by decide +kernel)
theorem dX5_reach_20 : decode cX5_reach 20 = .ok (.iconst 0, 1) := dc_Bk (by decide +kernel)
theorem dX5_reach_21 : decode cX5_reach 21 = .ok (.lconst 1, 1) := dc_Bk (by decide +kernel)
theorem dX5_reach_22 : decode cX5_reach 22 = .ok (.lastore, 1) := dc_Bk (by decide +kernel)
theorem dX5_reach_23 : decode cX5_reach 23 = .ok (.iconst 0, 1) := dc_Bk (by decide +kernel)
theorem dX5_reach_24 : decode cX5_reach 24 = .ok (.istore_n 2, 1) := dc_Bk (by decide +kernel)
theorem dX5_reach_25 : decode cX5_reach 25 = .ok (.iconst 0, 1) := dc_Bk (by decide +kernel)
theorem dX5_reach_26 : decode cX5_reach 26 = .ok (.istore_n 3, 1) := dc_Bk (by decide +kernel)
theorem dX5_reach_27 : decode cX5_reach 27 = .ok (.iload_n 3, 1) := dc_Bk (by decide +kernel)
theorem dX5_reach_28 : decode cX5_reach 28 = .ok (.sipush 128, 3) := dc_Bk (by decide +kernel)
theorem dX5_reach_31 : decode cX5_reach 31 = .ok (.if_icmp .ge 60, 3) := dc_Bk (by decide +kernel)
theorem dX5_reach_34 : decode cX5_reach 34 = .ok (.iload_n 3, 1) := dc_Bk (by decide +kernel)
theorem dX5_reach_35 : decode cX5_reach 35 = .ok (.invokestatic 81, 3) := dc_Bk (by decide +kernel)
theorem dX5_reach_38 : decode cX5_reach 38 = .ok (.istore 4, 2) := dc_Bk (by decide +kernel)
theorem dX5_reach_40 : decode cX5_reach 40 = .ok (.iload 4, 2) := dc_Bk (by decide +kernel)
theorem dX5_reach_42 : decode cX5_reach 42 = .ok (.iload_n 1, 1) := dc_Bk (by decide +kernel)
theorem dX5_reach_43 : decode cX5_reach 43 = .ok (.if_icmp .gt 42, 3) := dc_Bk (by decide +kernel)
theorem dX5_reach_46 : decode cX5_reach 46 = .ok (.aload_n 0, 1) := dc_Bk (by decide +kernel)
theorem dX5_reach_47 : decode cX5_reach 47 = .ok (.getfield 35, 3) := dc_Bk (by decide +kernel)
theorem dX5_reach_50 : decode cX5_reach 50 = .ok (.iload_n 3, 1) := dc_Bk (by decide +kernel)
theorem dX5_reach_51 : decode cX5_reach 51 = .ok (.laload, 1) := dc_Bk (by decide +kernel)
theorem dX5_reach_52 : decode cX5_reach 52 = .ok (.aload_n 0, 1) := dc_Bk (by decide +kernel)
theorem dX5_reach_53 : decode cX5_reach 53 = .ok (.getfield 38, 3) := dc_Bk (by decide +kernel)
theorem dX5_reach_56 : decode cX5_reach 56 = .ok (.iload_n 3, 1) := dc_Bk (by decide +kernel)
theorem dX5_reach_57 : decode cX5_reach 57 = .ok (.laload, 1) := dc_Bk (by decide +kernel)
theorem dX5_reach_58 : decode cX5_reach 58 = .ok (.lor, 1) := dc_Bk (by decide +kernel)
theorem dX5_reach_59 : decode cX5_reach 59 = .ok (.lconst 0, 1) := dc_Bk (by decide +kernel)
theorem dX5_reach_60 : decode cX5_reach 60 = .ok (.lcmp, 1) := dc_Bk (by decide +kernel)
theorem dX5_reach_61 : decode cX5_reach 61 = .ok (.ifCond .ne 6, 3) := dc_Bk (by decide +kernel)
theorem dX5_reach_64 : decode cX5_reach 64 = .ok (.goto 21, 3) := dc_Bk (by decide +kernel)
theorem dX5_reach_67 : decode cX5_reach 67 = .ok (.iload 4, 2) := dc_Bk (by decide +kernel)
theorem dX5_reach_69 : decode cX5_reach 69 = .ok (.iload_n 1, 1) := dc_Bk (by decide +kernel)
theorem dX5_reach_70 : decode cX5_reach 70 = .ok (.if_icmp .ne 8, 3) := dc_Bk (by decide +kernel)
theorem dX5_reach_73 : decode cX5_reach 73 = .ok (.iconst 1, 1) := dc_Bk (by decide +kernel)
theorem dX5_reach_74 : decode cX5_reach 74 = .ok (.istore_n 2, 1) := dc_Bk (by decide +kernel)
theorem dX5_reach_75 : decode cX5_reach 75 = .ok (.goto 10, 3) := dc_Bk (by decide +kernel)
theorem dX5_reach_78 : decode cX5_reach 78 = .ok (.aload_n 0, 1) := dc_Bk (by decide +kernel)
theorem dX5_reach_79 : decode cX5_reach 79 = .ok (.iload_n 3, 1) := dc_Bk (by decide +kernel)
theorem dX5_reach_80 : decode cX5_reach 80 = .ok (.iload 4, 2) := dc_Bk (by decide +kernel)
theorem dX5_reach_82 : decode cX5_reach 82 = .ok (.invokevirtual 110, 3) := dc_Bk (by decide +kernel)
theorem dX5_reach_85 : decode cX5_reach 85 = .ok (.iinc 3 1, 3) := dc_Bk (by decide +kernel)
theorem dX5_reach_88 : decode cX5_reach 88 = .ok (.goto (-61), 3) := dc_Bk (by decide +kernel)
theorem dX5_reach_91 : decode cX5_reach 91 = .ok (.iload_n 2, 1) := dc_Bk (by decide +kernel)
theorem dX5_reach_92 : decode cX5_reach 92 = .ok (.ireturn, 1) := dc_Bk (by decide +kernel)
def bcn (i : Nat) : Nat := (bcA (nI i)).toNatClampNeg
theorem bc_n : ∀ i, i < 128 → bcA (nI i) = nI (bcn i) ∧ bcn i ≤ 7 := by decide +kernel
theorem or_n : ∀ i, i < 128 → ∀ j, j < 7 → nI i ||| ((1 : Int32) <<< (nI j &&& 31)) = nI (i ||| 2 ^ j) ∧ i ||| 2 ^ j < 128 := by decide +kernel
theorem mn_n {d : Nat} (h : d < 2 ^ 31) : mn 7 (nI d) = nI (min 7 d) := by
  unfold mn
  by_cases h0 : d < 7
  · rw [if_pos (show nI d < 7 from nI_lt (b := 7) h0 (by decide)), Nat.min_eq_right (by omega)]
  · rw [if_neg (show ¬ nI d < 7 from nI_nlt (b := 7) (by omega) h), Nat.min_eq_left (by omega)]
    rfl
theorem nar01 {r : Int32} (h : r = 0 ∨ r = 1) : narrow .boolean (.int r) = .int r := by rcases h with rfl | rfl <;> rfl
theorem slk_le {al : Nat → Nat} {d : Nat} : slk al d ≤ d := by
  unfold slk
  split
  · exact Nat.le_refl _
  · omega

theorem lg_z (x y : Int64) : lg_cmp x y = 0 ↔ x = y := by
  unfold lg_cmp
  by_cases h1 : y < x
  · have h2 : ¬ x = y := fun q => by rw [q] at h1; exact absurd h1 Int64.lt_irrefl
    simp [h1, h2]
  · by_cases h3 : x = y
    · subst h3
      simp [h1]
    · simp [h1, h3]
def bt (x : Int64) (b : Nat) : Bool := x.toBitVec.getLsbD b
theorem bt_or (x y : Int64) (b : Nat) : bt (x ||| y) b = (bt x b || bt y b) := by
  show (x.toBitVec ||| y.toBitVec).getLsbD b = _
  simp [bt]
theorem bt_and (x y : Int64) (b : Nat) : bt (x &&& y) b = (bt x b && bt y b) := by
  show (x.toBitVec &&& y.toBitVec).getLsbD b = _
  simp [bt]
theorem bt_zero (b : Nat) : bt 0 b = false := by
  show (0#64).getLsbD b = false
  simp
theorem and1 (y : BitVec 64) : y &&& 1#64 = 1#64 ↔ y.getLsbD 0 = true := by
  rw [BitVec.and_one_eq_setWidth_ofBool_getLsbD]
  cases y.getLsbD 0 <;> decide
theorem and1L (y : Int64) : y &&& 1 = 1 ↔ bt y 0 = true := Int64.toBitVec_inj.symm.trans (and1 y.toBitVec)
theorem sh_n : ∀ b, b < 64 → (((nI b).toInt64 &&& 63).toBitVec.smod 64).toNat = b := by decide +kernel
theorem bt_shr {x : Int64} {b : Nat} (hb : b < 64) : (x >>> ((nI b).toInt64 &&& 63)) &&& 1 = 1 ↔ bt x b = true := by
  rw [and1L]
  have e : bt (x >>> ((nI b).toInt64 &&& 63)) 0 = bt x b := by
    show (x.toBitVec.sshiftRight' (((nI b).toInt64 &&& 63).toBitVec.smod 64)).getLsbD 0 = x.toBitVec.getLsbD b
    rw [BitVec.getLsbD_sshiftRight', sh_n b hb]
    simp [hb]
  rw [e]
theorem us_n : ∀ h, h < 6 → ((((1 : Int32) <<< (nI h &&& 31)).toInt64.toUInt64 &&& Int64.toUInt64 63).toBitVec % 64).toNat = 2 ^ h := by decide +kernel
theorem bt_ushr {x : Int64} {h b : Nat} (hh : h < 6) : bt ((x.toUInt64 >>> (((1 : Int32) <<< (nI h &&& 31)).toInt64.toUInt64 &&& Int64.toUInt64 63)).toInt64) b = bt x (2 ^ h + b) := by
  show (x.toBitVec >>> ((((1 : Int32) <<< (nI h &&& 31)).toInt64.toUInt64 &&& Int64.toUInt64 63).toBitVec % 64)).getLsbD b = x.toBitVec.getLsbD (2 ^ h + b)
  rw [BitVec.ushiftRight_eq', BitVec.getLsbD_ushiftRight, us_n h hh]
def wHl : List Int64 := [6148914691236517205, 3689348814741910323, 1085102592571150095, 71777214294589695, 281470681808895, 4294967295]
def wH (h : Nat) : Int64 := wHl.getD h (-1)
theorem wH_n : ∀ h, h < 6 → ∀ b, b < 64 → bt (wH h) b = !b.testBit h := by decide +kernel
def lk (a j : Nat) : Bool := !a.testBit j
theorem or_b : ∀ a, a < 128 → ∀ j, j < 7 → lk a j = true → bcn (a ||| 2 ^ j) = bcn a + 1 ∧ ¬ a ||| 2 ^ j = a := by decide +kernel
theorem or_lo : ∀ a, a < 64 → ∀ j, j < 6 → lk a j = true → a ||| 2 ^ j = 2 ^ j + a ∧ a ||| 2 ^ j < 64 := by decide +kernel
theorem or_hi : ∀ a, a < 64 → ∀ j, j < 6 → lk a j = true → (64 + a) ||| 2 ^ j = 64 + (2 ^ j + a) ∧ lk (64 + a) j = true := by decide +kernel
theorem or_6 : ∀ a, a < 64 → a ||| 2 ^ 6 = 64 + a ∧ lk a 6 = true := by decide +kernel
def cb (lo hi : Nat → Int64) (w x : Nat) : Bool := if x < 64 then bt (lo w) x else bt (hi w) (x - 64)
theorem cb_lo {lo hi : Nat → Int64} {w x : Nat} (h : x < 64) : cb lo hi w x = bt (lo w) x := if_pos h
theorem cb_hi {lo hi : Nat → Int64} {w x : Nat} : cb lo hi w (64 + x) = bt (hi w) x := by
  unfold cb
  rw [if_neg (by omega), show 64 + x - 64 = x by omega]
theorem cb_eq {lo hi l9 h9 : Nat → Int64} {w x : Nat} (h : l9 w = lo w ∧ h9 w = hi w) : cb l9 h9 w x = cb lo hi w x := by
  unfold cb
  rw [h.1, h.2]

theorem bcn0z : bcn 0 = 0 := by decide +kernel
/-- bit by bit: which SETs of houses go with a SET of sleepers -/
theorem sl_n : ∀ h, h < 6 → ((((1 : Int32) <<< (nI h &&& 31)).toInt64 &&& 63).toBitVec.smod 64).toNat = 2 ^ h := by decide +kernel
theorem tb_sh : ∀ h, h < 6 → ∀ b, b < 64 → (!decide (b < 2 ^ h) && !(b - 2 ^ h).testBit h) = b.testBit h := by decide +kernel
theorem bt_shl {x : Int64} {h b : Nat} (hh : h < 6) (hb : b < 64) : bt ((x &&& wH h) <<< (((1 : Int32) <<< (nI h &&& 31)).toInt64 &&& 63)) b = (b.testBit h && bt x (b - 2 ^ h)) := by
  have e : bt ((x &&& wH h) <<< (((1 : Int32) <<< (nI h &&& 31)).toInt64 &&& 63)) b = (!decide (b < 2 ^ h) && bt (x &&& wH h) (b - 2 ^ h)) := by
    show ((x &&& wH h).toBitVec <<< ((((1 : Int32) <<< (nI h &&& 31)).toInt64 &&& 63).toBitVec.smod 64)).getLsbD b = _
    rw [BitVec.shiftLeft_eq', sl_n h hh, BitVec.getLsbD_shiftLeft, decide_eq_true hb, Bool.true_and]
    rfl
  rw [e, bt_and, wH_n h hh (b - 2 ^ h) (Nat.lt_of_le_of_lt (Nat.sub_le _ _) hb), ← tb_sh h hh b hb]
  generalize decide (b < 2 ^ h) = p
  generalize bt x (b - 2 ^ h) = r
  generalize (b - 2 ^ h).testBit h = t
  cases p <;> cases r <;> cases t <;> rfl
theorem tb_or : ∀ x, x < 128 → ∀ h, h < 7 → x.testBit h = true → lk (x - 2 ^ h) h = true ∧ (x - 2 ^ h) ||| 2 ^ h = x := by decide +kernel
theorem tb_un : ∀ x, x < 128 → ∀ h, h < 7 → lk x h = true → (x ||| 2 ^ h).testBit h = true ∧ (x ||| 2 ^ h) - 2 ^ h = x ∧ x ||| 2 ^ h < 128 ∧ x < x ||| 2 ^ h := by decide +kernel
theorem tb_hi : ∀ x, x < 64 → ∀ h, h < 6 → (64 + x).testBit h = x.testBit h ∧ (x.testBit h = true → 64 + x - 2 ^ h = 64 + (x - 2 ^ h)) := by decide +kernel
theorem tb_6 : ∀ x, x < 128 → x.testBit 6 = decide (64 ≤ x) := by decide +kernel
theorem cb_h {L7 L8 : Nat → Int64} {se h x : Nat} {u v : Int64} (hh : h < 6) (hx : x < 128) (hu : ∀ b, b < 64 → bt u b = (b.testBit h && bt (L7 se) (b - 2 ^ h))) (hv : ∀ b, b < 64 → bt v b = (b.testBit h && bt (L8 se) (b - 2 ^ h))) : (if x < 64 then bt u x else bt v (x - 64)) = (x.testBit h && cb L7 L8 se (x - 2 ^ h)) := by
  by_cases c : x < 64
  · rw [if_pos c, hu x c, cb_lo (Nat.lt_of_le_of_lt (Nat.sub_le x (2 ^ h)) c)]
  · rw [if_neg c]
    obtain ⟨y, rfl⟩ : ∃ y, x = 64 + y := ⟨x - 64, by omega⟩
    have hy : y < 64 := by omega
    obtain ⟨t1, t2⟩ := tb_hi y hy h hh
    rw [show 64 + y - 64 = y by omega, hv y hy, t1]
    by_cases t : y.testBit h = true
    · rw [t, t2 t, cb_hi]
    · rw [Bool.eq_false_iff.mpr t]; rfl
/-- the houses that are open, by days to the end and by sleeper -/
def ob (o9 : Nat → Int32) (sl s h : Nat) : Bool := (o9 (sl * 7 + s)).toNatClampNeg.testBit h
def OB (o9 : Nat → Int32) : Prop := ∀ j, j < 49 → ∃ v : Nat, v < 128 ∧ o9 j = nI v
def AD (o9 : Nat → Int32) (L7 L8 : Nat → Int64) (se sl : Nat) (P : Nat → Nat → Prop) (w x : Nat) : Prop := ∃ s h x0, s < 7 ∧ h < 7 ∧ x0 < 128 ∧ P s h ∧ lk se s = true ∧ lk x0 h = true ∧ w = se ||| 2 ^ s ∧ x = x0 ||| 2 ^ h ∧ ob o9 sl s h = true ∧ cb L7 L8 se x0 = true
def AS (o9 : Nat → Int32) (L7 L8 M7 M8 : Nat → Int64) (se sl : Nat) (P : Nat → Nat → Prop) : Prop := (M7 se = L7 se ∧ M8 se = L8 se) ∧ ∀ w x, w < 128 → x < 128 → (cb M7 M8 w x = true ↔ cb L7 L8 w x = true ∨ AD o9 L7 L8 se sl P w x)
section
variable {o9 : Nat → Int32} {L7 L8 M7 M8 N7 N8 : Nat → Int64} {se sl nn i j : Nat} {P Q : Nat → Nat → Prop}
theorem AS_0 (h : ∀ s t, ¬ P s t) : AS o9 L7 L8 L7 L8 se sl P := ⟨⟨rfl, rfl⟩, fun w x _ _ => ⟨Or.inl, fun k => k.elim id (fun ⟨s, t, _, _, _, _, p, _⟩ => absurd p (h s t))⟩⟩
theorem AS_cg (h : AS o9 L7 L8 M7 M8 se sl P) (e : ∀ s t, s < 7 → t < 7 → lk se s = true → ob o9 sl s t = true → (P s t ↔ Q s t)) : AS o9 L7 L8 M7 M8 se sl Q := by
  refine ⟨h.1, fun w x hw hx => (h.2 w x hw hx).trans ⟨fun k => k.imp id ?_, fun k => k.imp id ?_⟩⟩
  · rintro ⟨s, t, x0, a1, a2, a3, a4, a5, a6, a7, a8, a9, b1⟩
    exact ⟨s, t, x0, a1, a2, a3, (e s t a1 a2 a5 a9).mp a4, a5, a6, a7, a8, a9, b1⟩
  · rintro ⟨s, t, x0, a1, a2, a3, a4, a5, a6, a7, a8, a9, b1⟩
    exact ⟨s, t, x0, a1, a2, a3, (e s t a1 a2 a5 a9).mpr a4, a5, a6, a7, a8, a9, b1⟩
theorem AS_u (h : AS o9 L7 L8 M7 M8 se sl P) (hse : se < 128) (hi : i < 7) (hj : j < 7) (hl : lk se i = true) (ho : ob o9 sl i j = true) (hk : ∀ w, ¬ w = se ||| 2 ^ i → N7 w = M7 w ∧ N8 w = M8 w) (hc : ∀ x, x < 128 → cb N7 N8 (se ||| 2 ^ i) x = (cb M7 M8 (se ||| 2 ^ i) x || (x.testBit j && cb L7 L8 se (x - 2 ^ j)))) : AS o9 L7 L8 N7 N8 se sl (fun s t => P s t ∨ (s = i ∧ t = j)) := by
  obtain ⟨-, -, u3, u4⟩ := tb_un se hse i hi hl
  have hn : ¬ se = se ||| 2 ^ i := by omega
  refine ⟨⟨(hk se hn).1.trans h.1.1, (hk se hn).2.trans h.1.2⟩, fun w x hw hx => ?_⟩
  by_cases e : w = se ||| 2 ^ i
  · subst e
    rw [hc x hx, Bool.or_eq_true, h.2 _ x u3 hx, Bool.and_eq_true]
    constructor
    · rintro ((k | ⟨s, t, x0, a1, a2, a3, a4, a5⟩) | ⟨k1, k2⟩)
      · exact Or.inl k
      · exact Or.inr ⟨s, t, x0, a1, a2, a3, Or.inl a4, a5⟩
      · obtain ⟨t1, t2⟩ := tb_or x hx j hj k1
        exact Or.inr ⟨i, j, x - 2 ^ j, hi, hj, Nat.lt_of_le_of_lt (Nat.sub_le _ _) hx, Or.inr ⟨rfl, rfl⟩, hl, t1, rfl, t2.symm, ho, k2⟩
    · rintro (k | ⟨s, t, x0, a1, a2, a3, a4, a5, a6, a7, a8, a9, b1⟩)
      · exact Or.inl (Or.inl k)
      · rcases a4 with a4 | ⟨a4, b4⟩
        · exact Or.inl (Or.inr ⟨s, t, x0, a1, a2, a3, a4, a5, a6, a7, a8, a9, b1⟩)
        · subst b4
          obtain ⟨t1, t2, -⟩ := tb_un x0 a3 t a2 a6
          rw [a8, t2]
          exact Or.inr ⟨t1, b1⟩
  · rw [cb_eq (hk w e), h.2 w x hw hx]
    constructor
    · rintro (k | ⟨s, t, x0, a1, a2, a3, a4, a5⟩)
      · exact Or.inl k
      · exact Or.inr ⟨s, t, x0, a1, a2, a3, Or.inl a4, a5⟩
    · rintro (k | ⟨s, t, x0, a1, a2, a3, a4, a5, a6, a7, a8⟩)
      · exact Or.inl k
      · rcases a4 with a4 | ⟨a4, b4⟩
        · exact Or.inr ⟨s, t, x0, a1, a2, a3, a4, a5, a6, a7, a8⟩
        · rw [a4] at a7; exact absurd a7 e
theorem cb_up {mo x : Nat} {u v : Int64} (hx : x < 128) : cb (vp_updL M7 mo (M7 mo ||| u)) (vp_updL M8 mo (M8 mo ||| v)) mo x = (cb M7 M8 mo x || (if x < 64 then bt u x else bt v (x - 64))) := by
  unfold cb
  rw [pk_uLs, pk_uLs]
  by_cases c : x < 64
  · rw [if_pos c, if_pos c, if_pos c, bt_or]
  · rw [if_neg c, if_neg c, if_neg c, bt_or]
theorem AS_h (h : AS o9 L7 L8 M7 M8 se sl P) (hse : se < 128) (hi : i < 7) (hj : j < 6) (hl : lk se i = true) (ho : ob o9 sl i j = true) {u v : Int64} (hu : ∀ b, b < 64 → bt u b = (b.testBit j && bt (M7 se) (b - 2 ^ j))) (hv : ∀ b, b < 64 → bt v b = (b.testBit j && bt (M8 se) (b - 2 ^ j))) : AS o9 L7 L8 (vp_updL M7 (se ||| 2 ^ i) (M7 (se ||| 2 ^ i) ||| u)) (vp_updL M8 (se ||| 2 ^ i) (M8 (se ||| 2 ^ i) ||| v)) se sl (fun s t => P s t ∨ (s = i ∧ t = j)) := by
  refine AS_u h hse hi (by omega) hl ho (fun w hw => ⟨pk_uLn hw, pk_uLn hw⟩) (fun x hx => ?_)
  rw [cb_up hx, cb_h hj hx hu hv, cb_eq h.1]
theorem AS_6 (h : AS o9 L7 L8 M7 M8 se sl P) (hse : se < 128) (hi : i < 7) (hl : lk se i = true) (ho : ob o9 sl i 6 = true) : AS o9 L7 L8 M7 (vp_updL M8 (se ||| 2 ^ i) (M8 (se ||| 2 ^ i) ||| M7 se)) se sl (fun s t => P s t ∨ (s = i ∧ t = 6)) := by
  refine AS_u h hse hi (by omega) hl ho (fun w hw => ⟨rfl, pk_uLn hw⟩) (fun x hx => ?_)
  rw [tb_6 x hx]
  by_cases c : x < 64
  · rw [cb_lo c, cb_lo c, decide_eq_false (by omega), Bool.false_and, Bool.or_false]
  · obtain ⟨y, rfl⟩ : ∃ y, x = 64 + y := ⟨x - 64, by omega⟩
    rw [cb_hi, cb_hi, pk_uLs, bt_or, decide_eq_true (by omega), Bool.true_and, show 64 + y - 2 ^ 6 = y by omega, cb_lo (by omega), h.1.1]
/-- SET by SET -/
def RS (o9 : Nat → Int32) (nn i : Nat) (M7 M8 : Nat → Int64) : Prop := ∀ w x, w < 128 → x < 128 → (cb M7 M8 w x = true ↔ (w = 0 ∧ x = 0) ∨ ∃ w0 s h x0, w0 < i ∧ w0 < 128 ∧ s < 7 ∧ h < 7 ∧ x0 < 128 ∧ bcn w0 < nn ∧ lk w0 s = true ∧ lk x0 h = true ∧ w = w0 ||| 2 ^ s ∧ x = x0 ||| 2 ^ h ∧ ob o9 (bcn w0) s h = true ∧ cb M7 M8 w0 x0 = true)
theorem RS_k (h : RS o9 nn i M7 M8) (hn : ¬ bcn i < nn ∨ ∀ x, x < 128 → ¬ cb M7 M8 i x = true) : RS o9 nn (i + 1) M7 M8 := fun w x hw hx => by
  rw [h w x hw hx]
  refine ⟨fun k => k.imp id ?_, fun k => k.imp id ?_⟩
  · rintro ⟨w0, s, t, x0, a1, a2⟩
    exact ⟨w0, s, t, x0, by omega, a2⟩
  · rintro ⟨w0, s, t, x0, a1, a2, a3, a4, a5, a6, a7, a8, a9, b1, b2, b3⟩
    by_cases e : w0 = i
    · rw [e] at a6 b3
      rcases hn with hn | hn
      · exact absurd a6 hn
      · exact absurd b3 (hn x0 a5)
    · exact ⟨w0, s, t, x0, by omega, a2, a3, a4, a5, a6, a7, a8, a9, b1, b2, b3⟩
theorem RS_a (h : RS o9 nn i M7 M8) (hi : i < 128) (hn : bcn i < nn) (k : AS o9 M7 M8 N7 N8 i (bcn i) (fun _ _ => True)) : RS o9 nn (i + 1) N7 N8 := by
  have low : ∀ w0 x0, w0 < i + 1 → x0 < 128 → (cb N7 N8 w0 x0 = true ↔ cb M7 M8 w0 x0 = true) := fun w0 x0 h0 hx0 => by
    rw [k.2 w0 x0 (by omega) hx0]
    refine ⟨fun q => q.elim id ?_, Or.inl⟩
    rintro ⟨s, t, y, a1, a2, a3, -, a5, a6, a7, -⟩
    have := (tb_un i hi s a1 a5).2.2.2
    omega
  intro w x hw hx
  rw [k.2 w x hw hx, h w x hw hx]
  constructor
  · rintro ((q | ⟨w0, s, t, x0, a1, a2, a3, a4, a5, a6, a7, a8, a9, b1, b2, b3⟩) | ⟨s, t, x0, a1, a2, a3, -, a5, a6, a7, a8, a9, b1⟩)
    · exact Or.inl q
    · exact Or.inr ⟨w0, s, t, x0, by omega, a2, a3, a4, a5, a6, a7, a8, a9, b1, b2, (low w0 x0 (by omega) a5).mpr b3⟩
    · exact Or.inr ⟨i, s, t, x0, by omega, hi, a1, a2, a3, hn, a5, a6, a7, a8, a9, (low i x0 (by omega) a3).mpr b1⟩
  · rintro (q | ⟨w0, s, t, x0, a1, a2, a3, a4, a5, a6, a7, a8, a9, b1, b2, b3⟩)
    · exact Or.inl (Or.inl q)
    · have b4 := (low w0 x0 a1 a5).mp b3
      by_cases e : w0 = i
      · rw [e] at a7 a9 b2 b4
        exact Or.inr ⟨s, t, x0, a3, a4, a5, trivial, a7, a8, a9, b1, b2, b4⟩
      · exact Or.inl (Or.inr ⟨w0, s, t, x0, by omega, a2, a3, a4, a5, a6, a7, a8, a9, b1, b2, b4⟩)
theorem bt_one : ∀ b, b < 64 → bt 1 b = decide (b = 0) := by decide +kernel
theorem RS_0 : RS o9 nn 0 (vp_updL (fl_l L7 0 128) 0 1) (fl_l L8 0 128) := fun w x hw hx => by
  have z : ∀ w, w < 128 → ∀ f : Nat → Int64, fl_l f 0 128 w = 0 := fun w hw f => if_pos hw
  have e : cb (vp_updL (fl_l L7 0 128) 0 1) (fl_l L8 0 128) w x = (decide (w = 0) && decide (x = 0)) := by
    unfold cb
    rw [z w hw]
    by_cases c : w = 0
    · rw [c, pk_uLs, bt_zero]
      by_cases d : x < 64
      · rw [if_pos d, bt_one x d]; rfl
      · rw [if_neg d, decide_eq_false (show ¬ x = 0 by omega), Bool.and_false]
    · rw [pk_uLn c, z w hw, bt_zero, bt_zero, decide_eq_false c, Bool.false_and, ite_self]
  rw [e, Bool.and_eq_true, decide_eq_true_eq, decide_eq_true_eq]
  exact ⟨Or.inl, fun k => k.elim id (fun ⟨w0, _, _, _, a1, _⟩ => absurd a1 (Nat.not_lt_zero w0))⟩
end
/-- a row backwards from its end -/
def BS (ok : Nat → Nat → Nat → Bool) : Nat → Nat → Nat → Prop
  | 0, w, x => w = 0 ∧ x = 0
  | k + 1, w, x => ∃ w0 x0 s h, w0 < 128 ∧ x0 < 128 ∧ s < 7 ∧ h < 7 ∧ lk w0 s = true ∧ lk x0 h = true ∧ w = w0 ||| 2 ^ s ∧ x = x0 ||| 2 ^ h ∧ ok k s h = true ∧ BS ok k w0 x0
theorem BS_b {ok : Nat → Nat → Nat → Bool} : ∀ {k w x}, BS ok k w x → bcn w = k ∧ w < 128 ∧ x < 128
  | 0, w, x, h => by rw [h.1, h.2]; exact ⟨bcn0z, by decide, by decide⟩
  | k + 1, w, x, ⟨w0, x0, s, t, a1, a2, a3, a4, a5, a6, a7, a8, a9, b1⟩ => by
    rw [a7, a8, (or_b w0 a1 s a3 a5).1, (BS_b b1).1]
    exact ⟨rfl, (tb_un w0 a1 s a3 a5).2.2.1, (tb_un x0 a2 t a4 a6).2.2.1⟩
theorem bc_z : ∀ w, w < 128 → bcn w = 0 → w = 0 := by decide +kernel
theorem RS_B {o9 : Nat → Int32} {nn : Nat} {M7 M8 : Nat → Int64} (h : RS o9 nn 128 M7 M8) : ∀ k w x, w < 128 → x < 128 → bcn w = k → (cb M7 M8 w x = true ↔ k ≤ nn ∧ BS (ob o9) k w x)
  | 0, w, x, hw, hx, e => by
    have e0 := bc_z w hw e
    rw [h w x hw hx]
    constructor
    · rintro (q | ⟨w0, s, t, x0, a1, a2, a3, a4, a5, a6, a7, a8, a9, -⟩)
      · exact ⟨Nat.zero_le _, q⟩
      · have := (tb_un w0 a2 s a3 a7).2.2.2
        omega
    · exact fun q => Or.inl q.2
  | k + 1, w, x, hw, hx, e => by
    rw [h w x hw hx]
    constructor
    · rintro (q | ⟨w0, s, t, x0, a1, a2, a3, a4, a5, a6, a7, a8, a9, b1, b2, b3⟩)
      · rw [q.1, bcn0z] at e; omega
      · have eb : bcn w0 = k := by have := (or_b w0 a2 s a3 a7).1; rw [← a9, e] at this; omega
        obtain ⟨-, c2⟩ := (RS_B h k w0 x0 a2 a5 eb).mp b3
        rw [eb] at a6 b2
        exact ⟨a6, w0, x0, s, t, a2, a5, a3, a4, a7, a8, a9, b1, b2, c2⟩
    · rintro ⟨q, w0, x0, s, t, a1, a2, a3, a4, a5, a6, a7, a8, a9, b1⟩
      have eb := (BS_b b1).1
      exact Or.inr ⟨w0, s, t, x0, a1, a1, a3, a4, a2, by omega, a5, a6, a7, a8, by rw [eb]; exact a9, (RS_B h k w0 x0 a1 a2 eb).mpr ⟨by omega, b1⟩⟩
/-- the same row forwards from its beginning -/
def FS (ms : Nat → Nat → Nat → Bool) (sp ho : Nat) : Nat → Nat → Nat → Nat → Prop
  | 0, _, _, _ => True
  | r + 1, d, w, x => ∃ s h, s < sp ∧ h < ho ∧ lk w s = true ∧ lk x h = true ∧ ms d s h = true ∧ FS ms sp ho r (d + 1) (w ||| 2 ^ s) (x ||| 2 ^ h)
def DJ (a b : Nat) : Prop := ∀ i, ¬ (a.testBit i = true ∧ b.testBit i = true)
theorem lk_i {a j : Nat} : lk a j = true ↔ ¬ a.testBit j = true := by unfold lk; cases a.testBit j <;> decide
theorem tb_p {a s i : Nat} : (a ||| 2 ^ s).testBit i = true ↔ a.testBit i = true ∨ s = i := by
  rw [Nat.testBit_or, Nat.testBit_two_pow, Bool.or_eq_true, decide_eq_true_eq]
theorem DJ_r {a b s : Nat} : DJ a (b ||| 2 ^ s) ↔ DJ a b ∧ lk a s = true := by
  rw [lk_i]
  constructor
  · intro h
    exact ⟨fun i q => h i ⟨q.1, tb_p.mpr (Or.inl q.2)⟩, fun q => h s ⟨q, tb_p.mpr (Or.inr rfl)⟩⟩
  · rintro ⟨h1, h2⟩ i ⟨q1, q2⟩
    rcases tb_p.mp q2 with q2 | q2
    · exact h1 i ⟨q1, q2⟩
    · rw [q2] at h2; exact h2 q1
theorem DJ_l {a b s : Nat} : DJ (a ||| 2 ^ s) b ↔ DJ a b ∧ lk b s = true := by
  have sy : ∀ {u v : Nat}, DJ u v ↔ DJ v u := fun {u v} => ⟨fun h i q => h i ⟨q.2, q.1⟩, fun h i q => h i ⟨q.2, q.1⟩⟩
  rw [sy, DJ_r, sy]
theorem FB {ms : Nat → Nat → Nat → Bool} {ok : Nat → Nat → Nat → Bool} {sp ho e : Nat} (hsp : sp ≤ 7) (hho : ho ≤ 7) : ∀ r d w0 x0, d + r = e + 1 → (∀ k s h, k < r → s < 7 → h < 7 → (ok k s h = true ↔ s < sp ∧ h < ho ∧ ms (e - k) s h = true)) → (FS ms sp ho r d w0 x0 ↔ ∃ w x, BS ok r w x ∧ DJ w w0 ∧ DJ x x0)
  | 0, d, w0, x0, _, _ => ⟨fun _ => ⟨0, 0, ⟨rfl, rfl⟩, fun i q => by rw [Nat.zero_testBit] at q; exact absurd q.1 (by decide), fun i q => by rw [Nat.zero_testBit] at q; exact absurd q.1 (by decide)⟩, fun _ => trivial⟩
  | r + 1, d, w0, x0, hd, hk => by
    have ih := fun w x => FB hsp hho r (d + 1) w x (by omega) (fun k s h a => hk k s h (by omega))
    have hdr : e - r = d := by omega
    constructor
    · rintro ⟨s, t, a1, a2, a3, a4, a5, a6⟩
      obtain ⟨w, x, b1, b2, b3⟩ := (ih _ _).mp a6
      obtain ⟨c1, c2⟩ := DJ_r.mp b2
      obtain ⟨c3, c4⟩ := DJ_r.mp b3
      obtain ⟨-, d1, d2⟩ := BS_b b1
      exact ⟨w ||| 2 ^ s, x ||| 2 ^ t, ⟨w, x, s, t, d1, d2, by omega, by omega, c2, c4, rfl, rfl, (hk r s t (by omega) (by omega) (by omega)).mpr ⟨a1, a2, by rw [hdr]; exact a5⟩, b1⟩, DJ_l.mpr ⟨c1, a3⟩, DJ_l.mpr ⟨c3, a4⟩⟩
    · rintro ⟨w', x', ⟨w, x, s, t, a1, a2, a3, a4, a5, a6, rfl, rfl, a9, b1⟩, b2, b3⟩
      obtain ⟨c1, c2⟩ := DJ_l.mp b2
      obtain ⟨c3, c4⟩ := DJ_l.mp b3
      obtain ⟨d1, d2, d3⟩ := (hk r s t (by omega) a3 a4).mp a9
      rw [hdr] at d3
      exact ⟨s, t, d1, d2, c2, c4, d3, (ih _ _).mpr ⟨w, x, b1, DJ_r.mpr ⟨c1, a5⟩, DJ_r.mpr ⟨c3, a6⟩⟩⟩

theorem or_sm : ∀ a, a < 128 → ∀ j, j < 7 → ¬ lk a j = true → a ||| 2 ^ j = a := by decide +kernel
theorem hb_n : ∀ v, v < 128 → ∀ j, j < 7 → ((nI v >>> (nI j &&& 31)) &&& 1 = 0 ↔ ¬ v.testBit j = true) := by decide +kernel
theorem hb_6 : ∀ v, v < 128 → (nI v >>> ((6 : Int32) &&& 31) = 0 ↔ ¬ v.testBit 6 = true) := by decide +kernel
theorem ob_n {o9 : Nat → Int32} {sl i j v : Nat} (e : o9 (sl * 7 + i) = nI v) (hv : v < 128) : ob o9 sl i j = v.testBit j := by
  unfold ob; rw [e, nI_clamp (by omega)]
section
variable {o9 : Nat → Int32} {L7 L8 M7 M8 N7 N8 : Nat → Int64} {se sl nn i j : Nat} {rd : Int32}
theorem AS_i (h : AS o9 L7 L8 M7 M8 se sl (fun s t => s < i ∨ (s = i ∧ t < j))) (hno : ¬ (lk se i = true ∧ ob o9 sl i j = true)) : AS o9 L7 L8 M7 M8 se sl (fun s t => s < i ∨ (s = i ∧ t < j + 1)) := AS_cg h (fun s t _ _ hl ho => ⟨fun q => q.imp id (fun w => ⟨w.1, by omega⟩), fun q => q.imp id (fun w => ⟨w.1, by
  by_cases e : t = j
  · exact absurd ⟨by rw [← w.1]; exact hl, by rw [← w.1, ← e]; exact ho⟩ hno
  · omega⟩)⟩)
theorem AS_j (h : AS o9 L7 L8 M7 M8 se sl (fun s t => (s < i ∨ (s = i ∧ t < j)) ∨ (s = i ∧ t = j))) : AS o9 L7 L8 M7 M8 se sl (fun s t => s < i ∨ (s = i ∧ t < j + 1)) := AS_cg h (fun s t _ _ _ _ => ⟨fun q => by rcases q with (q | q) | q <;> omega, fun q => by
  by_cases e : t = j
  · rcases q with q | q
    · exact Or.inl (Or.inl q)
    · exact Or.inr ⟨q.1, e⟩
  · exact Or.inl (q.imp id (fun w => ⟨w.1, by omega⟩))⟩)
theorem AS_o (h : AS o9 L7 L8 M7 M8 se sl (fun s t => s < i ∨ (s = i ∧ t < 6 + 1))) : AS o9 L7 L8 M7 M8 se sl (fun s _ => s < i + 1) := AS_cg h (fun s t _ ht _ _ => ⟨fun q => by rcases q with q | q <;> omega, fun q => by
  by_cases e : s = i
  · exact Or.inr ⟨e, by omega⟩
  · exact Or.inl (by omega)⟩)
theorem AS_b (h : AS o9 L7 L8 M7 M8 se sl (fun s _ => s < i)) : AS o9 L7 L8 M7 M8 se sl (fun s t => s < i ∨ (s = i ∧ t < 0)) := AS_cg h (fun s t _ _ _ _ => ⟨Or.inl, fun q => by rcases q with q | q <;> omega⟩)
theorem AS_e (h : AS o9 L7 L8 M7 M8 se sl (fun s _ => s < i)) (hi : 7 ≤ i) : AS o9 L7 L8 M7 M8 se sl (fun _ _ => True) := AS_cg h (fun s t hs _ _ _ => ⟨fun _ => trivial, fun _ => by omega⟩)
/-- no bit, some bit -/
theorem no_bt {x y : Int64} (h : x ||| y = 0) (b : Nat) : bt x b = false ∧ bt y b = false := by
  have e := bt_or x y b
  rw [h, bt_zero] at e
  revert e
  cases bt x b <;> cases bt y b <;> decide
theorem no_cb (h : M7 i ||| M8 i = 0) (x : Nat) : ¬ cb M7 M8 i x = true := by
  unfold cb
  by_cases c : x < 64
  · rw [if_pos c, (no_bt h x).1]; decide
  · rw [if_neg c, (no_bt h (x - 64)).2]; decide
theorem so_bt {x : Int64} (h : ¬ x = 0) : ∃ b, b < 64 ∧ bt x b = true := by
  by_cases k : ∃ b, b < 64 ∧ bt x b = true
  · exact k
  · exfalso
    apply h
    apply Int64.toBitVec_inj.mp
    apply BitVec.eq_of_getLsbD_eq
    intro b hb
    have e : bt x b = false := Bool.eq_false_iff.mpr (fun q => k ⟨b, hb, q⟩)
    have z : bt 0 b = false := bt_zero b
    exact e.trans z.symm
theorem so_cb (h : ¬ M7 i ||| M8 i = 0) : ∃ x, x < 128 ∧ cb M7 M8 i x = true := by
  obtain ⟨b, hb, e⟩ := so_bt h
  rw [bt_or, Bool.or_eq_true] at e
  rcases e with e | e
  · exact ⟨b, by omega, by rw [cb_lo hb]; exact e⟩
  · exact ⟨64 + b, by omega, by rw [cb_hi]; exact e⟩
def RR (nn i : Nat) (rd : Int32) (M7 M8 : Nat → Int64) : Prop := rd = 1 ↔ ∃ w x, w < i ∧ x < 128 ∧ bcn w = nn ∧ cb M7 M8 w x = true
theorem RR_0 : RR nn 0 0 M7 M8 := ⟨fun h => absurd h (by decide), fun ⟨w, _, h, _⟩ => absurd h (Nat.not_lt_zero w)⟩
theorem RR_k (h : RR nn i rd M7 M8) (hn : ¬ bcn i = nn ∨ ∀ x, ¬ cb M7 M8 i x = true) : RR nn (i + 1) rd M7 M8 := h.trans ⟨fun ⟨w, x, a1, a2⟩ => ⟨w, x, by omega, a2⟩, fun ⟨w, x, a1, a2, a3, a4⟩ => ⟨w, x, by
  by_cases e : w = i
  · rw [e] at a3 a4
    rcases hn with hn | hn
    · exact absurd a3 hn
    · exact absurd a4 (hn x)
  · omega, a2, a3, a4⟩⟩
theorem RR_1 (hb : bcn i = nn) (h : ∃ x, x < 128 ∧ cb M7 M8 i x = true) : RR nn (i + 1) 1 M7 M8 := ⟨fun _ => by obtain ⟨x, h1, h2⟩ := h; exact ⟨i, x, by omega, h1, hb, h2⟩, fun _ => rfl⟩
theorem RR_a (h : RR nn i rd M7 M8) (hi : i < 128) (hn : bcn i < nn) (k : AS o9 M7 M8 N7 N8 i (bcn i) (fun _ _ => True)) : RR nn (i + 1) rd N7 N8 := by
  have low : ∀ w0 x0, w0 < i + 1 → x0 < 128 → (cb N7 N8 w0 x0 = true ↔ cb M7 M8 w0 x0 = true) := fun w0 x0 h0 hx0 => by
    rw [k.2 w0 x0 (by omega) hx0]
    refine ⟨fun q => q.elim id ?_, Or.inl⟩
    rintro ⟨s, t, y, a1, a2, a3, -, a5, a6, a7, -⟩
    have := (tb_un i hi s a1 a5).2.2.2
    omega
  refine h.trans ⟨fun ⟨w, x, a1, a2, a3, a4⟩ => ⟨w, x, by omega, a2, a3, (low w x (by omega) a2).mpr a4⟩, fun ⟨w, x, a1, a2, a3, a4⟩ => ⟨w, x, ?_, a2, a3, (low w x (by omega) a2).mp a4⟩⟩
  by_cases e : w = i
  · rw [e] at a3; omega
  · omega
end

theorem stv5_n : ∀ h, h < 6 → stv5 h = wH h := by decide +kernel
/-- reading a row: what can still be ended -/
theorem rd_S : ∀ o, o < 128 → ∀ h, h < 7 → (o.testBit h = true ↔ ¬ inS (nI o) (nI h) = 0) := by decide +kernel
theorem rd_S6 : ∀ o, o < 128 → (o.testBit 6 = true ↔ ¬ inS (nI o) 6 = 0) := by decide +kernel
theorem rd_z : ∀ a, a < 7 → inS 0 (nI a) = 0 := by decide +kernel
theorem rd_m1 : ∀ b, b < 64 → bt (-1) b = true := by decide +kernel
theorem rd_f : ∀ h, h < 7 → (-1 : Int32).toBitVec.getLsbD h = true := by decide +kernel
theorem nI_and {a b : Nat} (ha : a < 128) (hb : b < 128) : nI a &&& nI b = nI (a &&& b) := by
  have h : a &&& b ≤ a := Nat.and_le_left
  apply Int32.toBitVec_inj.mp
  apply BitVec.eq_of_toNat_eq
  rw [Int32.toBitVec_and, BitVec.toNat_and, pk_tn (by omega), pk_tn (by omega), pk_tn (by omega)]
theorem DJ_and {a b : Nat} : a &&& b = 0 ↔ DJ a b := by
  constructor
  · intro h i q
    have e := Nat.testBit_and a b i
    rw [h, Nat.zero_testBit, q.1, q.2] at e
    exact absurd e (by decide)
  · intro h
    apply Nat.eq_of_testBit_eq
    intro i
    rw [Nat.testBit_and, Nat.zero_testBit]
    have k := h i
    revert k
    generalize a.testBit i = p
    generalize b.testBit i = r
    cases p <;> cases r <;> decide
theorem an_0 {a b : Nat} (ha : a < 128) (hb : b < 128) : nI a &&& nI b = 0 ↔ DJ a b := by
  have h : a &&& b ≤ a := Nat.and_le_left
  rw [nI_and ha hb, ← DJ_and]
  exact nI_eq (b := 0) (by omega) (by decide)
theorem an_nt {v u : Nat} (hv : v < 128) (hu : u < 128) : ∃ z : Nat, z < 128 ∧ nI v &&& (nI u ^^^ (-1)) = nI z ∧ ∀ h, h < 7 → (z.testBit h = true ↔ v.testBit h = true ∧ lk u h = true) := by
  have e : (nI v &&& (nI u ^^^ (-1))).toBitVec.toNat = v &&& (nI u ^^^ (-1)).toBitVec.toNat := by
    rw [Int32.toBitVec_and, BitVec.toNat_and, pk_tn (by omega)]
  have h : v &&& (nI u ^^^ (-1)).toBitVec.toNat ≤ v := Nat.and_le_left
  refine ⟨v &&& (nI u ^^^ (-1)).toBitVec.toNat, by omega, ?_, fun j hj => ?_⟩
  · apply Int32.toBitVec_inj.mp
    apply BitVec.eq_of_toNat_eq
    rw [e, pk_tn (by omega)]
  · have b1 : (nI u ^^^ (-1)).toBitVec.toNat.testBit j = !u.testBit j := by
      rw [BitVec.testBit_toNat, Int32.toBitVec_xor, BitVec.getLsbD_xor, rd_f j hj, ← BitVec.testBit_toNat, pk_tn (by omega)]
      cases u.testBit j <;> rfl
    rw [Nat.testBit_and, b1, Bool.and_eq_true]
    exact Iff.rfl
def LLx (uh i : Nat) (ll : Int64) : Prop := ∀ b, b < 64 → (bt ll b = true ↔ ∀ h, h < i → ¬ (uh.testBit h = true ∧ b.testBit h = true))
theorem LL_0 {uh : Nat} : LLx uh 0 (-1) := fun b hb => ⟨fun _ h q => absurd q (Nat.not_lt_zero h), fun _ => rd_m1 b hb⟩
theorem LL_n {uh i : Nat} {ll : Int64} (h : LLx uh i ll) (hn : ¬ uh.testBit i = true) : LLx uh (i + 1) ll := fun b hb => (h b hb).trans ⟨fun k j hj q => by
  by_cases e : j = i
  · rw [e] at q; exact hn q.1
  · exact k j (by omega) q, fun k j hj => k j (by omega)⟩
theorem LL_s {uh i : Nat} {ll : Int64} (h : LLx uh i ll) (hi : i < 6) (hy : uh.testBit i = true) : LLx uh (i + 1) (ll &&& wH i) := fun b hb => by
  rw [bt_and, wH_n i hi b hb, Bool.and_eq_true, h b hb]
  constructor
  · rintro ⟨k1, k2⟩ j hj q
    by_cases e : j = i
    · rw [e] at q; rw [q.2] at k2; exact absurd k2 (by decide)
    · exact k1 j (by omega) q
  · intro k
    refine ⟨fun j hj => k j (by omega), ?_⟩
    have k2 := k i (by omega)
    by_cases e : b.testBit i = true
    · exact absurd ⟨hy, e⟩ k2
    · rw [Bool.eq_false_iff.mpr e]; rfl
theorem DJ_lo {b uh : Nat} (hb : b < 64) : DJ b uh ↔ ∀ h, h < 6 → ¬ (uh.testBit h = true ∧ b.testBit h = true) := by
  constructor
  · intro k h _ q
    exact k h ⟨q.2, q.1⟩
  · intro k i q
    by_cases c : i < 6
    · exact k i c ⟨q.2, q.1⟩
    · have h6 : b < 2 ^ 6 := by omega
      have z : b.testBit i = false := Nat.testBit_lt_two_pow (Nat.lt_of_lt_of_le h6 (Nat.pow_le_pow_right (n := 2) (by decide) (show 6 ≤ i by omega)))
      rw [z] at q
      exact absurd q.1 (by decide)
theorem DJ_hi {b uh : Nat} (hb : b < 64) : DJ (64 + b) uh ↔ ¬ uh.testBit 6 = true ∧ ∀ h, h < 6 → ¬ (uh.testBit h = true ∧ b.testBit h = true) := by
  have t6 : (64 + b).testBit 6 = true := by rw [tb_6 (64 + b) (by omega)]; exact decide_eq_true (by omega)
  constructor
  · intro k
    refine ⟨fun q => k 6 ⟨t6, q⟩, fun h hh q => k h ⟨?_, q.1⟩⟩
    rw [(tb_hi b hb h hh).1]; exact q.2
  · rintro ⟨k1, k2⟩ i q
    by_cases c : i < 6
    · rw [(tb_hi b hb i c).1] at q; exact k2 i c ⟨q.2, q.1⟩
    · by_cases d : i = 6
      · rw [d] at q; exact k1 q.2
      · have h7 : 64 + b < 2 ^ 7 := by omega
        have z : (64 + b).testBit i = false := Nat.testBit_lt_two_pow (Nat.lt_of_lt_of_le h7 (Nat.pow_le_pow_right (n := 2) (by decide) (show 7 ≤ i by omega)))
        rw [z] at q
        exact absurd q.1 (by decide)
theorem CE_i {L7 L8 : Nat → Int64} {w uh : Nat} {ll hl : Int64} (hll : LLx uh 6 ll) (hhl : (uh.testBit 6 = true ∧ hl = 0) ∨ (¬ uh.testBit 6 = true ∧ hl = ll)) : (L7 w &&& ll) ||| (L8 w &&& hl) = 0 ↔ ¬ ∃ x, x < 128 ∧ cb L7 L8 w x = true ∧ DJ x uh := by
  constructor
  · rintro h ⟨x, hx, hc, hd⟩
    by_cases c : x < 64
    · have b1 := (no_bt h x).1
      rw [bt_and] at b1
      rw [cb_lo c] at hc
      rw [hc, (hll x c).mpr ((DJ_lo c).mp hd)] at b1
      exact absurd b1 (by decide)
    · obtain ⟨y, rfl⟩ : ∃ y, x = 64 + y := ⟨x - 64, by omega⟩
      have hy : y < 64 := by omega
      obtain ⟨d1, d2⟩ := (DJ_hi hy).mp hd
      have b1 := (no_bt h y).2
      rcases hhl with ⟨k, -⟩ | ⟨-, k⟩
      · exact d1 k
      · rw [k, bt_and] at b1
        rw [cb_hi] at hc
        rw [hc, (hll y hy).mpr d2] at b1
        exact absurd b1 (by decide)
  · intro h
    by_cases z : (L7 w &&& ll) ||| (L8 w &&& hl) = 0
    · exact z
    · exfalso
      obtain ⟨b, hb, e⟩ := so_bt z
      rw [bt_or, Bool.or_eq_true, bt_and, bt_and, Bool.and_eq_true, Bool.and_eq_true] at e
      rcases e with ⟨e1, e2⟩ | ⟨e1, e2⟩
      · exact h ⟨b, by omega, by rw [cb_lo hb]; exact e1, (DJ_lo hb).mpr ((hll b hb).mp e2)⟩
      · rcases hhl with ⟨-, k⟩ | ⟨k0, k⟩
        · rw [k, bt_zero] at e2; exact absurd e2 (by decide)
        · rw [k] at e2
          exact h ⟨64 + b, by omega, by rw [cb_hi]; exact e1, (DJ_hi hb).mpr ⟨k0, (hll b hb).mp e2⟩⟩
def CE (L7 L8 : Nat → Int64) (le us uh : Nat) : Prop := ∃ w x, w < 128 ∧ x < 128 ∧ bcn w = le ∧ cb L7 L8 w x = true ∧ DJ w us ∧ DJ x uh
def CEn (L7 L8 : Nat → Int64) (le us uh i : Nat) : Prop := ∀ w x, w < i → x < 128 → bcn w = le → cb L7 L8 w x = true → DJ w us → ¬ DJ x uh
section
variable {o9 : Nat → Int32} {L7 L8 : Nat → Int64} {le us uh i nn wo wr : Nat} {r : Int32}
theorem CEn_0 : CEn L7 L8 le us uh 0 := fun w _ h => absurd h (Nat.not_lt_zero w)
theorem CEn_s (h : CEn L7 L8 le us uh i) (k : ¬ DJ i us ∨ ¬ bcn i = le ∨ ¬ ∃ x, x < 128 ∧ cb L7 L8 i x = true ∧ DJ x uh) : CEn L7 L8 le us uh (i + 1) := fun w x hw hx hb hc hd he => by
  by_cases e : w = i
  · rw [e] at hb hc hd
    rcases k with k | k | k
    · exact k hd
    · exact k hb
    · exact k ⟨x, hx, hc, he⟩
  · exact h w x (by omega) hx hb hc hd he
theorem CE_y (hi : i < 128) (hd : DJ i us) (hb : bcn i = le) (h : ¬ ¬ ∃ x, x < 128 ∧ cb L7 L8 i x = true ∧ DJ x uh) : CE L7 L8 le us uh := by
  obtain ⟨x, h1, h2, h3⟩ := Classical.not_not.mp h
  exact ⟨i, x, hi, h1, hb, h2, hd, h3⟩
theorem CE_n (h : CEn L7 L8 le us uh 128) : ¬ CE L7 L8 le us uh := fun ⟨w, x, a1, a2, a3, a4, a5, a6⟩ => h w x a1 a2 a3 a4 a5 a6
def PPx (o9 : Nat → Int32) (L7 L8 : Nat → Int64) (le us uh s h : Nat) : Prop := lk us s = true ∧ lk uh h = true ∧ ob o9 le s h = true ∧ CE L7 L8 le (us ||| 2 ^ s) (uh ||| 2 ^ h)
def LPP (o9 : Nat → Int32) (L7 L8 : Nat → Int64) (le us uh : Nat) (r : Int32) : Prop := (r = -1 ∧ ∀ a b, a < 7 → b < 7 → ¬ PPx o9 L7 L8 le us uh a b) ∨ (∃ s h, s < 7 ∧ h < 7 ∧ r = nI (s * 7 + h) ∧ PPx o9 L7 L8 le us uh s h ∧ ∀ a b, a < 7 → b < 7 → (a < s ∨ (a = s ∧ b < h)) → ¬ PPx o9 L7 L8 le us uh a b)
/-- the least pair with which a row can still be ended, and a row of such -/
def PPb (ok : Nat → Nat → Nat → Bool) (r w x s h : Nat) : Prop := lk w s = true ∧ lk x h = true ∧ ok r s h = true ∧ ∃ W X, BS ok r W X ∧ DJ W (w ||| 2 ^ s) ∧ DJ X (x ||| 2 ^ h)
def LEX (P : Nat → Nat → Prop) (s h : Nat) : Prop := P s h ∧ ∀ a b, a < 7 → b < 7 → (a < s ∨ (a = s ∧ b < h)) → ¬ P a b
def PK (ok : Nat → Nat → Nat → Bool) (nn k w x s h : Nat) : Prop := LEX (PPb ok (nn - 1 - k) w x) s h
def RX (P : Nat → Nat → Nat → Nat → Nat → Prop) (u0 u1 : Nat → Int32) : Nat → Nat → Nat → Prop
  | 0, w, x => w = 0 ∧ x = 0
  | k + 1, w, x => ∃ w0 x0 s h, RX P u0 u1 k w0 x0 ∧ s < 7 ∧ h < 7 ∧ P k w0 x0 s h ∧ u0 k = nI s ∧ u1 k = nI h ∧ w = w0 ||| 2 ^ s ∧ x = x0 ||| 2 ^ h
theorem RX_c {P : Nat → Nat → Nat → Nat → Nat → Prop} {u0 u1 v0 v1 : Nat → Int32} : ∀ {n w x}, (∀ j, j < n → v0 j = u0 j ∧ v1 j = u1 j) → RX P u0 u1 n w x → RX P v0 v1 n w x
  | 0, _, _, _, h => h
  | n + 1, w, x, e, ⟨w0, x0, s, t, a1, a2, a3, a4, a5, a6, a7, a8⟩ => ⟨w0, x0, s, t, RX_c (fun j hj => e j (by omega)) a1, a2, a3, a4, (e n (by omega)).1.trans a5, (e n (by omega)).2.trans a6, a7, a8⟩
theorem RX_s {P : Nat → Nat → Nat → Nat → Nat → Prop} {u0 u1 : Nat → Int32} {n w x s t : Nat} (h : RX P u0 u1 n w x) (hs : s < 7) (ht : t < 7) (hp : P n w x s t) : RX P (upd u0 n (nI s)) (upd u1 n (nI t)) (n + 1) (w ||| 2 ^ s) (x ||| 2 ^ t) := ⟨w, x, s, t, RX_c (fun j hj => ⟨pk_un (by omega), pk_un (by omega)⟩) h, hs, ht, hp, pk_us, pk_us, rfl, rfl⟩
theorem LEX_u {A B : Nat → Nat → Prop} {s t a b : Nat} (e : ∀ s t, s < 7 → t < 7 → (A s t ↔ B s t)) (hs : s < 7) (ht : t < 7) (ha : a < 7) (hb : b < 7) (h : LEX A s t) (k : LEX B a b) : s = a ∧ t = b := by
  by_cases c1 : s < a ∨ (s = a ∧ t < b)
  · exact absurd ((e s t hs ht).mp h.1) (k.2 s t hs ht c1)
  · by_cases c2 : a < s ∨ (a = s ∧ b < t)
    · exact absurd ((e a b ha hb).mpr k.1) (h.2 a b ha hb c2)
    · omega
theorem RX_u {P Q : Nat → Nat → Nat → Nat → Nat → Prop} {u0 u1 v0 v1 : Nat → Int32} : ∀ n {w x w2 x2}, (∀ k w x s h a b, k < n → s < 7 → h < 7 → a < 7 → b < 7 → P k w x s h → Q k w x a b → s = a ∧ h = b) → RX P u0 u1 n w x → RX Q v0 v1 n w2 x2 → w = w2 ∧ x = x2 ∧ ∀ j, j < n → u0 j = v0 j ∧ u1 j = v1 j
  | 0, _, _, _, _, _, h, k => ⟨h.1.trans k.1.symm, h.2.trans k.2.symm, fun j hj => absurd hj (Nat.not_lt_zero j)⟩
  | n + 1, w, x, w2, x2, e, ⟨w0, x0, s, t, a1, a2, a3, a4, a5, a6, a7, a8⟩, ⟨y0, z0, s2, t2, b1, b2, b3, b4, b5, b6, b7, b8⟩ => by
    obtain ⟨c1, c2, c3⟩ := RX_u n (fun k w x s h a b hk => e k w x s h a b (by omega)) a1 b1
    subst c1
    subst c2
    obtain ⟨d1, d2⟩ := e n w0 x0 s t s2 t2 (by omega) a2 a3 b2 b3 a4 b4
    subst d1
    subst d2
    refine ⟨a7.trans b7.symm, a8.trans b8.symm, fun j hj => ?_⟩
    by_cases q : j = n
    · rw [q]; exact ⟨a5.trans b5.symm, a6.trans b6.symm⟩
    · exact c3 j (by omega)
theorem CE_b (hR : RS o9 nn 128 L7 L8) (hr : le ≤ nn) : CE L7 L8 le us uh ↔ ∃ W X, BS (ob o9) le W X ∧ DJ W us ∧ DJ X uh := by
  constructor
  · rintro ⟨w, x, a1, a2, a3, a4, a5, a6⟩
    exact ⟨w, x, ((RS_B hR le w x a1 a2 a3).mp a4).2, a5, a6⟩
  · rintro ⟨w, x, b, a5, a6⟩
    obtain ⟨b1, b2, b3⟩ := BS_b b
    exact ⟨w, x, b2, b3, b1, (RS_B hR le w x b2 b3 b1).mpr ⟨hr, b⟩, a5, a6⟩
theorem PP_b (hR : RS o9 nn 128 L7 L8) (hr : le ≤ nn) (a b : Nat) : PPx o9 L7 L8 le us uh a b ↔ PPb (ob o9) le us uh a b := by
  unfold PPx PPb
  rw [CE_b hR hr]
theorem EX_d {ok : Nat → Nat → Nat → Bool} (h : ∃ W X, BS ok (le + 1) W X ∧ DJ W us ∧ DJ X uh) : ∃ s t, s < 7 ∧ t < 7 ∧ PPb ok le us uh s t := by
  obtain ⟨W, X, ⟨w0, x0, s, t, a1, a2, a3, a4, a5, a6, rfl, rfl, a9, b1⟩, d1, d2⟩ := h
  obtain ⟨c1, c2⟩ := DJ_l.mp d1
  obtain ⟨c3, c4⟩ := DJ_l.mp d2
  exact ⟨s, t, a3, a4, c2, c4, a9, w0, x0, b1, DJ_r.mpr ⟨c1, a5⟩, DJ_r.mpr ⟨c3, a6⟩⟩
theorem RR_e (hR : RS o9 nn 128 L7 L8) (h : ∃ w x, w < 128 ∧ x < 128 ∧ bcn w = nn ∧ cb L7 L8 w x = true) : ∃ W X, BS (ob o9) nn W X := by
  obtain ⟨w, x, a1, a2, a3, a4⟩ := h
  exact ⟨w, x, ((RS_B hR nn w x a1 a2 a3).mp a4).2⟩
theorem LP_ex (hR : RS o9 nn 128 L7 L8) (hi : i < nn) (h : LPP o9 L7 L8 (nn - 1 - i) wo wr r) (he : ∃ W X, BS (ob o9) (nn - i) W X ∧ DJ W wo ∧ DJ X wr) : ∃ s t, s < 7 ∧ t < 7 ∧ r = nI (s * 7 + t) ∧ PK (ob o9) nn i wo wr s t := by
  have e : ∀ a b, PPx o9 L7 L8 (nn - 1 - i) wo wr a b ↔ PPb (ob o9) (nn - 1 - i) wo wr a b := PP_b hR (by omega)
  rcases h with ⟨-, h⟩ | ⟨s, t, h1, h2, h3, h4, h5⟩
  · rw [show nn - i = nn - 1 - i + 1 by omega] at he
    obtain ⟨s, t, h1, h2, h3⟩ := EX_d he
    exact absurd ((e s t).mpr h3) (h s t h1 h2)
  · exact ⟨s, t, h1, h2, h3, (e s t).mp h4, fun a b ha hb hl k => h5 a b ha hb hl ((e a b).mpr k)⟩
end

abbrev c_X5_canEnd (k : Nat → ClassId) (z : Nat → Nat) (h : Nat) (r0 : Nat) (r1 : Nat) (t0 : Nat) (nk : Nat) (r4 : Nat) (r5 : Nat) (r6 : Nat) (r7 : Nat) (r8 : Nat) (r9 : Nat) (L7 : Nat → Int64) (L8 : Nat → Int64) (le : Nat) (us : Nat) (uh : Nat) : va_W := [(h, .inr (5, [.ref r0, .ref r1, .ref t0, .ref nk, .ref r4, .ref r5, .ref r6, .ref r7, .ref r8, .ref r9])), (r7, .inl (k 1, 128, .inr (.inl L7))), (r8, .inl (k 1, 128, .inr (.inl L8)))]
abbrev r_X5_canEnd : Room := { frames := 1, cells := 0, slots := 0, locals := 21 }
abbrev q_X5_canEnd (k : Nat → ClassId) (z : Nat → Nat) (h : Nat) (r0 : Nat) (r1 : Nat) (t0 : Nat) (nk : Nat) (r4 : Nat) (r5 : Nat) (r6 : Nat) (r7 : Nat) (r8 : Nat) (r9 : Nat) (L7 : Nat → Int64) (L8 : Nat → Int64) (le : Nat) (us : Nat) (uh : Nat) : Array Value → State → Outcome → State → Prop := vp_Si (fun r => ((r = 0 ∨ r = 1) ∧ (r = 1 ↔ CE L7 L8 le us uh)))
set_option maxHeartbeats 2000000 in
set_option maxRecDepth 100000 in
theorem X5_canEnd (l : Launch) (D : va_G) (k : Nat → ClassId) (z : Nat → Nat) (h : Nat) (r0 : Nat) (r1 : Nat) (t0 : Nat) (nk : Nat) (r4 : Nat) (r5 : Nat) (r6 : Nat) (r7 : Nat) (r8 : Nat) (r9 : Nat) (L7 : Nat → Int64) (L8 : Nat → Int64) (le : Nat) (us : Nat) (uh : Nat) (hle : le ≤ 7) (hus : us < 128) (huh : uh < 128) : Met l yX5_canEnd wsX5_canEnd r_X5_canEnd (va_Pc [.ref h, .int (nI le), .int (nI us), .int (nI uh)] (PU D k (c_X5_canEnd k z h r0 r1 t0 nk r4 r5 r6 r7 r8 r9 L7 L8 le us uh) z)) (q_X5_canEnd k z h r0 r1 t0 nk r4 r5 r6 r7 r8 r9 L7 L8 le us uh) 0 0 (fun _ => False) := by
  refine Met.ofW (cc := cX5_canEnd) (maxL := 9) (ret := (some .boolean)) (by decide) rfl ?_
  intro p e s m args below meth c s₁ B hml hv
  obtain ⟨rfl, ⟨hP, hG⟩, hZ⟩ := hv
  have hS : va_S (fun _ => False) s.heap s.heap [] := va_S.rf
  have hx := B.exec
  have hb := B.bytes
  have hr := B.returns
  have hts := atoms_spec (ws := wsX5_canEnd) B.pre
  have hown : s.vm.findClass RX5 = some m.cls := findClass_of_methodNamed B.named
  have hlocks := B.notSynchronized
  have hi5 : ∀ w ∈ wsX50, w ∈ wsX5_canEnd := fun _ h => List.mem_cons_of_mem _ (List.mem_append_right _ h)
  have hP : va_P D vwCl [(h, .inr (5, [.ref r0, .ref r1, .ref t0, .ref nk, .ref r4, .ref r5, .ref r6, .ref r7, .ref r8, .ref r9])), (r7, .inl (k 1, 128, .inr (.inl L7))), (r8, .inl (k 1, 128, .inr (.inl L8)))] s.heap := hP
  have hl := lv_entry ([.ref h, .int (nI le), .int (nI us), .int (nI uh)]) (n := 9) (Nat.le_of_ble_eq_true rfl)
  rw [lg_entry_eq]
  generalize (lg_sl ([.ref h, .int (nI le), .int (nI us), .int (nI uh)]) ++ List.replicate (9 - (lg_sl ([.ref h, .int (nI le), .int (nI us), .int (nI uh)])).length) Slot.unset).toArray = ls at hl ⊢
  have hl : lv_has ls 9 [(0, .ref h), (1, .int (nI le)), (2, .int (nI us)), (3, .int (nI uh))] := hl
  refine lv_ldc2 (v := (-1)) hx hb hown (hts (.constantLong RX5 124 (-1)) (List.mem_cons_of_mem _ (List.mem_append_left _ (List.mem_of_getElem? (i := 0) rfl)))) dX5_canEnd_0 ?_
  refine lv_lstore (lv' := [(4, .long (-1)), (0, .ref h), (1, .int (nI le)), (2, .int (nI us)), (3, .int (nI uh))]) hx hb dX5_canEnd_3 hl (by decide) rfl (fun ls hl => ?_)
  refine lv_iconst (v := 0) hx hb dX5_canEnd_5 (by decide) ?_
  refine lv_istore (lv' := [(6, .int 0), (4, .long (-1)), (0, .ref h), (1, .int (nI le)), (2, .int (nI us)), (3, .int (nI uh))]) hx hb dX5_canEnd_6 hl (by decide) rfl (fun ls hl => ?_)
  have L1 : ∀ (fu9 : Nat) (i : Nat) (ll : Int64), (i ≤ 6) → (LLx uh i ll) → 6 - i < fu9 → ∀ (ls : Array Slot), lv_has ls 9 [(6, .int (nI i)), (4, .long ll), (0, .ref h), (1, .int (nI le)), (2, .int (nI us)), (3, .int (nI uh))] → W p l e r_X5_canEnd s m ([.ref h, .int (nI le), .int (nI us), .int (nI uh)] : List Value).toArray below meth c s.heap [] 0 0 (MQ below (q_X5_canEnd k z h r0 r1 t0 nk r4 r5 r6 r7 r8 r9 L7 L8 le us uh) ([.ref h, .int (nI le), .int (nI us), .int (nI uh)] : List Value).toArray s 0 0 (fun _ => False)) (F0 m 8 ls []) := by
    intro fu9
    induction fu9 with
    | zero => intro i ll hi hLL hmu; exact absurd hmu (Nat.not_lt_zero _)
    | succ fu9 ih =>
      intro i ll hi hLL hmu ls hl
      refine lv_iload hx hb dX5_canEnd_8 (lv_at hl 0 rfl) ?_
      refine lv_bipush (v := 6) hx hb dX5_canEnd_10 (by decide) ?_
      refine bn_ge (i := i) (j := 6) (tgt := 41) hx hb dX5_canEnd_12 (by decide) (by omega) (by omega) (fun c2 => ?_) (fun c2 => ?_)
      · skip
        have hi6 : i = 6 := by omega
        rw [hi6] at hLL
        refine lv_iload_n hx hb dX5_canEnd_41 rfl (lv_at hl 5 rfl) ?_
        refine lv_bipush (v := 6) hx hb dX5_canEnd_42 (by decide) ?_
        have hPc := hP.sub (ws' := (c_X9_isIn k (nI uh) 6)) [] rfl
        refine vp_callSi (va_Run.run (va_runSN (As := [.int (nI uh), .int 6]) (rest := []) ⟨hx, hb, hml, hown, hts⟩ (X9_isIn l D k (nI uh) 6 ) ⟨(va_cnB (own := RX5) (index := 99) (y := yX9_isIn) (host := RX9) 2 hts ggX5_canEnd_X9_isIn rfl rfl rfl (hG.2.1 _ (List.mem_of_getElem? (i := 8) rfl)) (hts (.initialized RX9) (List.mem_cons_of_mem _ (List.mem_append_left _ (List.mem_of_getElem? (i := 4) rfl)))) (by decide +kernel) ⟨Nat.le_of_ble_eq_true rfl, Nat.le_of_ble_eq_true rfl⟩), hts (.static yX9_isIn) (List.mem_cons_of_mem _ (List.mem_append_left _ (List.mem_of_getElem? (i := 3) rfl))), trivial⟩ ⟨PS.blind _ _ _ _, PS.pre hPc hG [.int (nI uh), .int 6]⟩ rfl rfl hl.1 rfl (lv_room (Nat.le_of_ble_eq_true rfl)) dX5_canEnd_44 ⟨Nat.le_of_ble_eq_true rfl, Nat.le_of_ble_eq_true rfl⟩)) (fun r hq => ?_)
        generalize r = y3 at hq ⊢
        have hq : y3 = inS (nI uh) 6 := hq
        refine tp_i (y := inS (nI uh) 6) (hq) ?_
        refine lv_if_eq (x := inS (nI uh) 6) (tgt := 54) hx hb dX5_canEnd_47 (by decide) (fun c4 => ?_) (fun c4 => ?_)
        · skip
          have hhl : (uh.testBit 6 = true ∧ ll = 0) ∨ (¬ uh.testBit 6 = true ∧ ll = ll) := Or.inr ⟨fun q8 => (rd_S6 uh huh).mp q8 c4, rfl⟩
          refine lv_lload hx hb dX5_canEnd_54 (lv_at hl 1 rfl) ?_
          refine lv_lstore (lv' := [(6, .long ll), (4, .long ll), (0, .ref h), (1, .int (nI le)), (2, .int (nI us)), (3, .int (nI uh))]) hx hb dX5_canEnd_56 hl (by decide) rfl (fun ls hl => ?_)
          refine lv_iconst (v := 0) hx hb dX5_canEnd_58 (by decide) ?_
          refine lv_istore (lv' := [(8, .int 0), (6, .long ll), (4, .long ll), (0, .ref h), (1, .int (nI le)), (2, .int (nI us)), (3, .int (nI uh))]) hx hb dX5_canEnd_59 hl (by decide) rfl (fun ls hl => ?_)
          have L5 : ∀ (fu9 : Nat) (i2 : Nat), (i2 ≤ 128) → (CEn L7 L8 le us uh i2) → 128 - i2 < fu9 → ∀ (ls : Array Slot), lv_has ls 9 [(8, .int (nI i2)), (6, .long ll), (4, .long ll), (0, .ref h), (1, .int (nI le)), (2, .int (nI us)), (3, .int (nI uh))] → W p l e r_X5_canEnd s m ([.ref h, .int (nI le), .int (nI us), .int (nI uh)] : List Value).toArray below meth c s.heap [] 0 0 (MQ below (q_X5_canEnd k z h r0 r1 t0 nk r4 r5 r6 r7 r8 r9 L7 L8 le us uh) ([.ref h, .int (nI le), .int (nI us), .int (nI uh)] : List Value).toArray s 0 0 (fun _ => False)) (F0 m 61 ls []) := by
            intro fu9L5
            induction fu9L5 with
            | zero => intro i2 hi2 hno hmuL5; exact absurd hmuL5 (Nat.not_lt_zero _)
            | succ fu9L5 ihL5 =>
              intro i2 hi2 hno hmuL5 ls hl
              refine lv_iload hx hb dX5_canEnd_61 (lv_at hl 0 rfl) ?_
              refine lv_sipush (v := 128) hx hb dX5_canEnd_63 (by decide) ?_
              refine bn_ge (i := i2) (j := 128) (tgt := 122) hx hb dX5_canEnd_66 (by decide) (by omega) (by omega) (fun c6 => ?_) (fun c6 => ?_)
              · skip
                have hi28 : i2 = 128 := by omega
                refine lv_iconst (v := 0) hx hb dX5_canEnd_122 (by decide) ?_
                exact W.zret (v := 0) hx hb hr (rfl) (fun t9 ht _ => ⟨0, rfl, ⟨Or.inl rfl, fun q8 => absurd q8 (by decide), fun q8 => absurd q8 (CE_n (by rw [hi28] at hno; exact hno))⟩, ht⟩) (fun q h => by cases h) dX5_canEnd_123
              · skip
                refine lv_iload hx hb dX5_canEnd_69 (lv_at hl 0 rfl) ?_
                refine lv_iload_n hx hb dX5_canEnd_71 rfl (lv_at hl 5 rfl) ?_
                refine lv_iand hx hb dX5_canEnd_72 ?_
                refine lv_if_ne (x := (nI i2) &&& (nI us)) (tgt := 116) hx hb dX5_canEnd_73 (by decide) (fun c7 => ?_) (fun c7 => ?_)
                · skip
                  have k73 : ¬ DJ i2 us := fun q8 => c7 ((an_0 (by omega) hus).mpr q8)
                  refine lv_iinc (v := nI (i2 + 1)) (lv' := [(8, .int (nI (i2 + 1))), (6, .long ll), (4, .long ll), (0, .ref h), (1, .int (nI le)), (2, .int (nI us)), (3, .int (nI uh))]) hx hb dX5_canEnd_116 hl (k := 0) rfl (nI_add i2 1) (by decide) rfl (fun ls hl => ?_)
                  refine lv_goto (tgt := 61) hx hb dX5_canEnd_119 (by decide) ?_
                  exact ihL5 (i2 + 1) (by omega) (CEn_s hno (Or.inl k73)) (by omega) ls (lv_sub hl [0, 1, 2, 3, 4, 5, 6] rfl)
                · skip
                  have k73 : DJ i2 us := (an_0 (by omega) hus).mp c7
                  have hbc := bc_n i2 (by omega)
                  refine lv_iload hx hb dX5_canEnd_76 (lv_at hl 0 rfl) ?_
                  have hPc := hP.sub (ws' := (c_J6_bitCount k (nI i2))) [] rfl
                  refine vp_callSi (va_Run.run (va_runS (As := [.int (nI i2)]) (rest := []) ⟨hx, hb, hml, hown, hts⟩ (J6_bitCount l D k (nI i2) ) (va_cwS 1 hts gX5_canEnd_J6_bitCount_0f7a4 rfl rfl rfl (by decide +kernel) ⟨Nat.le_of_ble_eq_true rfl, Nat.le_of_ble_eq_true rfl⟩) ⟨PS.blind _ _ _ _, PS.pre hPc hG [.int (nI i2)]⟩ rfl rfl hl.1 rfl (lv_room (Nat.le_of_ble_eq_true rfl)) dX5_canEnd_78 ⟨Nat.le_of_ble_eq_true rfl, Nat.le_of_ble_eq_true rfl⟩)) (fun r hq => ?_)
                  generalize r = y8 at hq ⊢
                  have hq : y8 = bcA (nI i2) := hq
                  refine tp_i (y := nI (bcn i2)) (hq.trans hbc.1) ?_
                  refine lv_iload_n hx hb dX5_canEnd_81 rfl (lv_at hl 4 rfl) ?_
                  refine lv_icmp_eq (x := nI (bcn i2)) (y := nI le) (tgt := 88) hx hb dX5_canEnd_82 (by decide) (fun c9 => ?_) (fun c9 => ?_)
                  · skip
                    have k82 : bcn i2 = le := (nI_eq (by omega) (by omega)).mp c9
                    refine lv_aload_n hx hb dX5_canEnd_88 rfl (lv_at hl 3 rfl) ?_
                    refine va_get (D := D) (ci := 5) (v := .ref r7) (C := RX5) (T := TX5) (N := 10) hx hb hts hi5 hown hG.1 hP 0 rfl rfl 7 (by decide) (hts (.fieldLink RX5 35 "SleptMatters$Rows" "low" "[J") (List.mem_cons_of_mem _ (List.mem_append_left _ (List.mem_of_getElem? (i := 1) rfl)))) (fun _ h9 => h9) rfl dX5_canEnd_89 ?_
                    refine lv_iload hx hb dX5_canEnd_92 (lv_at hl 0 rfl) ?_
                    refine va_lald hx hb hG.1 hP 1 1 rfl rfl (vp_in_nI (by omega) (by omega)) dX5_canEnd_94 ?_
                    refine tp_l (y := L7 i2) (congrArg _ (nI_clamp (n := i2) (by omega))) ?_
                    refine lv_lload hx hb dX5_canEnd_95 (lv_at hl 2 rfl) ?_
                    refine lv_land hx hb dX5_canEnd_97 ?_
                    refine lv_aload_n hx hb dX5_canEnd_98 rfl (lv_at hl 3 rfl) ?_
                    refine va_get (D := D) (ci := 5) (v := .ref r8) (C := RX5) (T := TX5) (N := 10) hx hb hts hi5 hown hG.1 hP 0 rfl rfl 8 (by decide) (hts (.fieldLink RX5 38 "SleptMatters$Rows" "high" "[J") (List.mem_cons_of_mem _ (List.mem_append_left _ (List.mem_of_getElem? (i := 2) rfl)))) (fun _ h9 => h9) rfl dX5_canEnd_99 ?_
                    refine lv_iload hx hb dX5_canEnd_102 (lv_at hl 0 rfl) ?_
                    refine va_lald hx hb hG.1 hP 2 1 rfl rfl (vp_in_nI (by omega) (by omega)) dX5_canEnd_104 ?_
                    refine tp_l (y := L8 i2) (congrArg _ (nI_clamp (n := i2) (by omega))) ?_
                    refine lv_lload hx hb dX5_canEnd_105 (lv_at hl 1 rfl) ?_
                    refine lv_land hx hb dX5_canEnd_107 ?_
                    refine lv_lor hx hb dX5_canEnd_108 ?_
                    refine lv_lconst (v := 0) hx hb dX5_canEnd_109 (by decide) ?_
                    refine W.lcmp hx hb dX5_canEnd_110 ?_
                    refine lv_if_eq (x := lg_cmp (((L7 i2) &&& ll) ||| ((L8 i2) &&& ll)) 0) (tgt := 116) hx hb dX5_canEnd_111 (by decide) (fun c10 => ?_) (fun c10 => ?_)
                    · skip
                      have hz9 : ¬ ∃ x, x < 128 ∧ cb L7 L8 i2 x = true ∧ DJ x uh := (CE_i hLL hhl).mp ((lg_z _ _).mp c10)
                      refine lv_iinc (v := nI (i2 + 1)) (lv' := [(8, .int (nI (i2 + 1))), (6, .long ll), (4, .long ll), (0, .ref h), (1, .int (nI le)), (2, .int (nI us)), (3, .int (nI uh))]) hx hb dX5_canEnd_116 hl (k := 0) rfl (nI_add i2 1) (by decide) rfl (fun ls hl => ?_)
                      refine lv_goto (tgt := 61) hx hb dX5_canEnd_119 (by decide) ?_
                      exact ihL5 (i2 + 1) (by omega) (CEn_s hno (Or.inr (Or.inr hz9))) (by omega) ls (lv_sub hl [0, 1, 2, 3, 4, 5, 6] rfl)
                    · skip
                      have hz9 : ¬ ¬ ∃ x, x < 128 ∧ cb L7 L8 i2 x = true ∧ DJ x uh := fun q8 => c10 ((lg_z _ _).mpr ((CE_i hLL hhl).mpr q8))
                      refine lv_iconst (v := 1) hx hb dX5_canEnd_114 (by decide) ?_
                      exact W.zret (v := 1) hx hb hr (rfl) (fun t9 ht _ => ⟨1, rfl, ⟨Or.inr rfl, fun _ => CE_y (by omega) k73 k82 hz9, fun _ => rfl⟩, ht⟩) (fun q h => by cases h) dX5_canEnd_115
                  · skip
                    have k82 : ¬ bcn i2 = le := fun q8 => c9 (by rw [q8])
                    refine lv_goto (tgt := 116) hx hb dX5_canEnd_85 (by decide) ?_
                    refine lv_iinc (v := nI (i2 + 1)) (lv' := [(8, .int (nI (i2 + 1))), (6, .long ll), (4, .long ll), (0, .ref h), (1, .int (nI le)), (2, .int (nI us)), (3, .int (nI uh))]) hx hb dX5_canEnd_116 hl (k := 0) rfl (nI_add i2 1) (by decide) rfl (fun ls hl => ?_)
                    refine lv_goto (tgt := 61) hx hb dX5_canEnd_119 (by decide) ?_
                    exact ihL5 (i2 + 1) (by omega) (CEn_s hno (Or.inr (Or.inl k82))) (by omega) ls (lv_sub hl [0, 1, 2, 3, 4, 5, 6] rfl)
          exact L5 _ 0 (Nat.zero_le _) (CEn_0) (Nat.lt_succ_self _) ls (lv_sub hl [0, 1, 2, 3, 4, 5, 6] rfl)
        · skip
          have hhl : (uh.testBit 6 = true ∧ (0 : Int64) = 0) ∨ (¬ uh.testBit 6 = true ∧ (0 : Int64) = ll) := Or.inl ⟨(rd_S6 uh huh).mpr c4, rfl⟩
          refine lv_lconst (v := 0) hx hb dX5_canEnd_50 (by decide) ?_
          refine lv_goto (tgt := 56) hx hb dX5_canEnd_51 (by decide) ?_
          refine lv_lstore (lv' := [(6, .long 0), (4, .long ll), (0, .ref h), (1, .int (nI le)), (2, .int (nI us)), (3, .int (nI uh))]) hx hb dX5_canEnd_56 hl (by decide) rfl (fun ls hl => ?_)
          refine lv_iconst (v := 0) hx hb dX5_canEnd_58 (by decide) ?_
          refine lv_istore (lv' := [(8, .int 0), (6, .long 0), (4, .long ll), (0, .ref h), (1, .int (nI le)), (2, .int (nI us)), (3, .int (nI uh))]) hx hb dX5_canEnd_59 hl (by decide) rfl (fun ls hl => ?_)
          have L11 : ∀ (fu9 : Nat) (i2 : Nat), (i2 ≤ 128) → (CEn L7 L8 le us uh i2) → 128 - i2 < fu9 → ∀ (ls : Array Slot), lv_has ls 9 [(8, .int (nI i2)), (6, .long 0), (4, .long ll), (0, .ref h), (1, .int (nI le)), (2, .int (nI us)), (3, .int (nI uh))] → W p l e r_X5_canEnd s m ([.ref h, .int (nI le), .int (nI us), .int (nI uh)] : List Value).toArray below meth c s.heap [] 0 0 (MQ below (q_X5_canEnd k z h r0 r1 t0 nk r4 r5 r6 r7 r8 r9 L7 L8 le us uh) ([.ref h, .int (nI le), .int (nI us), .int (nI uh)] : List Value).toArray s 0 0 (fun _ => False)) (F0 m 61 ls []) := by
            intro fu9L11
            induction fu9L11 with
            | zero => intro i2 hi2 hno hmuL11; exact absurd hmuL11 (Nat.not_lt_zero _)
            | succ fu9L11 ihL11 =>
              intro i2 hi2 hno hmuL11 ls hl
              refine lv_iload hx hb dX5_canEnd_61 (lv_at hl 0 rfl) ?_
              refine lv_sipush (v := 128) hx hb dX5_canEnd_63 (by decide) ?_
              refine bn_ge (i := i2) (j := 128) (tgt := 122) hx hb dX5_canEnd_66 (by decide) (by omega) (by omega) (fun c12 => ?_) (fun c12 => ?_)
              · skip
                have hi28 : i2 = 128 := by omega
                refine lv_iconst (v := 0) hx hb dX5_canEnd_122 (by decide) ?_
                exact W.zret (v := 0) hx hb hr (rfl) (fun t9 ht _ => ⟨0, rfl, ⟨Or.inl rfl, fun q8 => absurd q8 (by decide), fun q8 => absurd q8 (CE_n (by rw [hi28] at hno; exact hno))⟩, ht⟩) (fun q h => by cases h) dX5_canEnd_123
              · skip
                refine lv_iload hx hb dX5_canEnd_69 (lv_at hl 0 rfl) ?_
                refine lv_iload_n hx hb dX5_canEnd_71 rfl (lv_at hl 5 rfl) ?_
                refine lv_iand hx hb dX5_canEnd_72 ?_
                refine lv_if_ne (x := (nI i2) &&& (nI us)) (tgt := 116) hx hb dX5_canEnd_73 (by decide) (fun c13 => ?_) (fun c13 => ?_)
                · skip
                  have k73 : ¬ DJ i2 us := fun q8 => c13 ((an_0 (by omega) hus).mpr q8)
                  refine lv_iinc (v := nI (i2 + 1)) (lv' := [(8, .int (nI (i2 + 1))), (6, .long 0), (4, .long ll), (0, .ref h), (1, .int (nI le)), (2, .int (nI us)), (3, .int (nI uh))]) hx hb dX5_canEnd_116 hl (k := 0) rfl (nI_add i2 1) (by decide) rfl (fun ls hl => ?_)
                  refine lv_goto (tgt := 61) hx hb dX5_canEnd_119 (by decide) ?_
                  exact ihL11 (i2 + 1) (by omega) (CEn_s hno (Or.inl k73)) (by omega) ls (lv_sub hl [0, 1, 2, 3, 4, 5, 6] rfl)
                · skip
                  have k73 : DJ i2 us := (an_0 (by omega) hus).mp c13
                  have hbc := bc_n i2 (by omega)
                  refine lv_iload hx hb dX5_canEnd_76 (lv_at hl 0 rfl) ?_
                  have hPc := hP.sub (ws' := (c_J6_bitCount k (nI i2))) [] rfl
                  refine vp_callSi (va_Run.run (va_runS (As := [.int (nI i2)]) (rest := []) ⟨hx, hb, hml, hown, hts⟩ (J6_bitCount l D k (nI i2) ) (va_cwS 1 hts gX5_canEnd_J6_bitCount_0f7a4 rfl rfl rfl (by decide +kernel) ⟨Nat.le_of_ble_eq_true rfl, Nat.le_of_ble_eq_true rfl⟩) ⟨PS.blind _ _ _ _, PS.pre hPc hG [.int (nI i2)]⟩ rfl rfl hl.1 rfl (lv_room (Nat.le_of_ble_eq_true rfl)) dX5_canEnd_78 ⟨Nat.le_of_ble_eq_true rfl, Nat.le_of_ble_eq_true rfl⟩)) (fun r hq => ?_)
                  generalize r = y14 at hq ⊢
                  have hq : y14 = bcA (nI i2) := hq
                  refine tp_i (y := nI (bcn i2)) (hq.trans hbc.1) ?_
                  refine lv_iload_n hx hb dX5_canEnd_81 rfl (lv_at hl 4 rfl) ?_
                  refine lv_icmp_eq (x := nI (bcn i2)) (y := nI le) (tgt := 88) hx hb dX5_canEnd_82 (by decide) (fun c15 => ?_) (fun c15 => ?_)
                  · skip
                    have k82 : bcn i2 = le := (nI_eq (by omega) (by omega)).mp c15
                    refine lv_aload_n hx hb dX5_canEnd_88 rfl (lv_at hl 3 rfl) ?_
                    refine va_get (D := D) (ci := 5) (v := .ref r7) (C := RX5) (T := TX5) (N := 10) hx hb hts hi5 hown hG.1 hP 0 rfl rfl 7 (by decide) (hts (.fieldLink RX5 35 "SleptMatters$Rows" "low" "[J") (List.mem_cons_of_mem _ (List.mem_append_left _ (List.mem_of_getElem? (i := 1) rfl)))) (fun _ h9 => h9) rfl dX5_canEnd_89 ?_
                    refine lv_iload hx hb dX5_canEnd_92 (lv_at hl 0 rfl) ?_
                    refine va_lald hx hb hG.1 hP 1 1 rfl rfl (vp_in_nI (by omega) (by omega)) dX5_canEnd_94 ?_
                    refine tp_l (y := L7 i2) (congrArg _ (nI_clamp (n := i2) (by omega))) ?_
                    refine lv_lload hx hb dX5_canEnd_95 (lv_at hl 2 rfl) ?_
                    refine lv_land hx hb dX5_canEnd_97 ?_
                    refine lv_aload_n hx hb dX5_canEnd_98 rfl (lv_at hl 3 rfl) ?_
                    refine va_get (D := D) (ci := 5) (v := .ref r8) (C := RX5) (T := TX5) (N := 10) hx hb hts hi5 hown hG.1 hP 0 rfl rfl 8 (by decide) (hts (.fieldLink RX5 38 "SleptMatters$Rows" "high" "[J") (List.mem_cons_of_mem _ (List.mem_append_left _ (List.mem_of_getElem? (i := 2) rfl)))) (fun _ h9 => h9) rfl dX5_canEnd_99 ?_
                    refine lv_iload hx hb dX5_canEnd_102 (lv_at hl 0 rfl) ?_
                    refine va_lald hx hb hG.1 hP 2 1 rfl rfl (vp_in_nI (by omega) (by omega)) dX5_canEnd_104 ?_
                    refine tp_l (y := L8 i2) (congrArg _ (nI_clamp (n := i2) (by omega))) ?_
                    refine lv_lload hx hb dX5_canEnd_105 (lv_at hl 1 rfl) ?_
                    refine lv_land hx hb dX5_canEnd_107 ?_
                    refine lv_lor hx hb dX5_canEnd_108 ?_
                    refine lv_lconst (v := 0) hx hb dX5_canEnd_109 (by decide) ?_
                    refine W.lcmp hx hb dX5_canEnd_110 ?_
                    refine lv_if_eq (x := lg_cmp (((L7 i2) &&& ll) ||| ((L8 i2) &&& 0)) 0) (tgt := 116) hx hb dX5_canEnd_111 (by decide) (fun c16 => ?_) (fun c16 => ?_)
                    · skip
                      have hz9 : ¬ ∃ x, x < 128 ∧ cb L7 L8 i2 x = true ∧ DJ x uh := (CE_i hLL hhl).mp ((lg_z _ _).mp c16)
                      refine lv_iinc (v := nI (i2 + 1)) (lv' := [(8, .int (nI (i2 + 1))), (6, .long 0), (4, .long ll), (0, .ref h), (1, .int (nI le)), (2, .int (nI us)), (3, .int (nI uh))]) hx hb dX5_canEnd_116 hl (k := 0) rfl (nI_add i2 1) (by decide) rfl (fun ls hl => ?_)
                      refine lv_goto (tgt := 61) hx hb dX5_canEnd_119 (by decide) ?_
                      exact ihL11 (i2 + 1) (by omega) (CEn_s hno (Or.inr (Or.inr hz9))) (by omega) ls (lv_sub hl [0, 1, 2, 3, 4, 5, 6] rfl)
                    · skip
                      have hz9 : ¬ ¬ ∃ x, x < 128 ∧ cb L7 L8 i2 x = true ∧ DJ x uh := fun q8 => c16 ((lg_z _ _).mpr ((CE_i hLL hhl).mpr q8))
                      refine lv_iconst (v := 1) hx hb dX5_canEnd_114 (by decide) ?_
                      exact W.zret (v := 1) hx hb hr (rfl) (fun t9 ht _ => ⟨1, rfl, ⟨Or.inr rfl, fun _ => CE_y (by omega) k73 k82 hz9, fun _ => rfl⟩, ht⟩) (fun q h => by cases h) dX5_canEnd_115
                  · skip
                    have k82 : ¬ bcn i2 = le := fun q8 => c15 (by rw [q8])
                    refine lv_goto (tgt := 116) hx hb dX5_canEnd_85 (by decide) ?_
                    refine lv_iinc (v := nI (i2 + 1)) (lv' := [(8, .int (nI (i2 + 1))), (6, .long 0), (4, .long ll), (0, .ref h), (1, .int (nI le)), (2, .int (nI us)), (3, .int (nI uh))]) hx hb dX5_canEnd_116 hl (k := 0) rfl (nI_add i2 1) (by decide) rfl (fun ls hl => ?_)
                    refine lv_goto (tgt := 61) hx hb dX5_canEnd_119 (by decide) ?_
                    exact ihL11 (i2 + 1) (by omega) (CEn_s hno (Or.inr (Or.inl k82))) (by omega) ls (lv_sub hl [0, 1, 2, 3, 4, 5, 6] rfl)
          exact L11 _ 0 (Nat.zero_le _) (CEn_0) (Nat.lt_succ_self _) ls (lv_sub hl [0, 1, 2, 3, 4, 5, 6] rfl)
      · skip
        refine lv_iload_n hx hb dX5_canEnd_15 rfl (lv_at hl 5 rfl) ?_
        refine lv_iload hx hb dX5_canEnd_16 (lv_at hl 0 rfl) ?_
        have hPc := hP.sub (ws' := (c_X9_isIn k (nI uh) (nI i))) [] rfl
        refine vp_callSi (va_Run.run (va_runSN (As := [.int (nI uh), .int (nI i)]) (rest := []) ⟨hx, hb, hml, hown, hts⟩ (X9_isIn l D k (nI uh) (nI i) ) ⟨(va_cnB (own := RX5) (index := 99) (y := yX9_isIn) (host := RX9) 2 hts ggX5_canEnd_X9_isIn rfl rfl rfl (hG.2.1 _ (List.mem_of_getElem? (i := 8) rfl)) (hts (.initialized RX9) (List.mem_cons_of_mem _ (List.mem_append_left _ (List.mem_of_getElem? (i := 4) rfl)))) (by decide +kernel) ⟨Nat.le_of_ble_eq_true rfl, Nat.le_of_ble_eq_true rfl⟩), hts (.static yX9_isIn) (List.mem_cons_of_mem _ (List.mem_append_left _ (List.mem_of_getElem? (i := 3) rfl))), trivial⟩ ⟨PS.blind _ _ _ _, PS.pre hPc hG [.int (nI uh), .int (nI i)]⟩ rfl rfl hl.1 rfl (lv_room (Nat.le_of_ble_eq_true rfl)) dX5_canEnd_18 ⟨Nat.le_of_ble_eq_true rfl, Nat.le_of_ble_eq_true rfl⟩)) (fun r hq => ?_)
        generalize r = y17 at hq ⊢
        have hq : y17 = inS (nI uh) (nI i) := hq
        refine tp_i (y := inS (nI uh) (nI i)) (hq) ?_
        refine lv_if_eq (x := inS (nI uh) (nI i)) (tgt := 35) hx hb dX5_canEnd_21 (by decide) (fun c18 => ?_) (fun c18 => ?_)
        · skip
          have hnb : ¬ uh.testBit i = true := fun q8 => (rd_S uh huh i (by omega)).mp q8 c18
          refine lv_iinc (v := nI (i + 1)) (lv' := [(6, .int (nI (i + 1))), (4, .long ll), (0, .ref h), (1, .int (nI le)), (2, .int (nI us)), (3, .int (nI uh))]) hx hb dX5_canEnd_35 hl (k := 0) rfl (nI_add i 1) (by decide) rfl (fun ls hl => ?_)
          refine lv_goto (tgt := 8) hx hb dX5_canEnd_38 (by decide) ?_
          exact ih (i + 1) ll (by omega) (LL_n hLL hnb) (by omega) ls (lv_sub hl [0, 1, 2, 3, 4, 5] rfl)
        · skip
          have hbb : uh.testBit i = true := (rd_S uh huh i (by omega)).mpr c18
          refine lv_lload hx hb dX5_canEnd_24 (lv_at hl 1 rfl) ?_
          refine va_getsN (C := RX9) (ref := RX9) (host := RX9) hx hb (hZ.2.2.2.2.2.2.2.2.2.2.2.2.2.2.2.2.2.2.2.1) hS hown (va_Nw.use rfl hZ.2.2.2.2.2.1) (fun _ h9 => h9) dX5_canEnd_26 ?_
          refine lv_iload hx hb dX5_canEnd_29 (lv_at hl 0 rfl) ?_
          refine va_tl (v := .long (stv5 i)) hx hb (hZ.2.2.2.2.2.2.2.2.2.2.2.2.2.2.2.2.2.2.2.2.1) hS (vp_in_nI (by omega) (by omega)) (congrArg (fun j => Value.long (stv5 j)) (nI_clamp (n := i) (by omega))) dX5_canEnd_31 ?_
          refine lv_land hx hb dX5_canEnd_32 ?_
          refine lv_lstore (lv' := [(4, .long (ll &&& (stv5 i))), (6, .int (nI i)), (0, .ref h), (1, .int (nI le)), (2, .int (nI us)), (3, .int (nI uh))]) hx hb dX5_canEnd_33 hl (by decide) rfl (fun ls hl => ?_)
          refine lv_iinc (v := nI (i + 1)) (lv' := [(6, .int (nI (i + 1))), (4, .long (ll &&& (stv5 i))), (0, .ref h), (1, .int (nI le)), (2, .int (nI us)), (3, .int (nI uh))]) hx hb dX5_canEnd_35 hl (k := 1) rfl (nI_add i 1) (by decide) rfl (fun ls hl => ?_)
          refine lv_goto (tgt := 8) hx hb dX5_canEnd_38 (by decide) ?_
          exact ih (i + 1) (ll &&& (stv5 i)) (by omega) (by rw [stv5_n i (by omega)]; exact LL_s hLL (by omega) hbb) (by omega) ls (lv_sub hl [0, 1, 2, 3, 4, 5] rfl)
  exact L1 _ 0 (-1) (Nat.zero_le _) (LL_0) (Nat.lt_succ_self _) ls (lv_sub hl [0, 1, 2, 3, 4, 5] rfl)

abbrev c_X5_leastPair (k : Nat → ClassId) (z : Nat → Nat) (h : Nat) (r0 : Nat) (r1 : Nat) (t0 : Nat) (nk : Nat) (r4 : Nat) (r5 : Nat) (r6 : Nat) (r7 : Nat) (r8 : Nat) (r9 : Nat) (L7 : Nat → Int64) (L8 : Nat → Int64) (o9 : Nat → Int32) (le : Nat) (us : Nat) (uh : Nat) : va_W := [(h, .inr (5, [.ref r0, .ref r1, .ref t0, .ref nk, .ref r4, .ref r5, .ref r6, .ref r7, .ref r8, .ref r9])), (r7, .inl (k 1, 128, .inr (.inl L7))), (r8, .inl (k 1, 128, .inr (.inl L8))), (r9, .inl (k 0, 49, .inl o9))]
abbrev r_X5_leastPair : Room := { frames := 2, cells := 0, slots := 0, locals := 49 }
abbrev q_X5_leastPair (k : Nat → ClassId) (z : Nat → Nat) (h : Nat) (r0 : Nat) (r1 : Nat) (t0 : Nat) (nk : Nat) (r4 : Nat) (r5 : Nat) (r6 : Nat) (r7 : Nat) (r8 : Nat) (r9 : Nat) (L7 : Nat → Int64) (L8 : Nat → Int64) (o9 : Nat → Int32) (le : Nat) (us : Nat) (uh : Nat) : Array Value → State → Outcome → State → Prop := vp_Si (fun r => LPP o9 L7 L8 le us uh r)
set_option maxHeartbeats 2000000 in
set_option maxRecDepth 100000 in
theorem X5_leastPair (l : Launch) (D : va_G) (k : Nat → ClassId) (z : Nat → Nat) (h : Nat) (r0 : Nat) (r1 : Nat) (t0 : Nat) (nk : Nat) (r4 : Nat) (r5 : Nat) (r6 : Nat) (r7 : Nat) (r8 : Nat) (r9 : Nat) (L7 : Nat → Int64) (L8 : Nat → Int64) (o9 : Nat → Int32) (le : Nat) (us : Nat) (uh : Nat) (hle : le < 7) (hus : us < 128) (huh : uh < 128) (hOB : OB o9) : Met l yX5_leastPair wsX5_leastPair r_X5_leastPair (va_Pc [.ref h, .int (nI le), .int (nI us), .int (nI uh)] (PU D k (c_X5_leastPair k z h r0 r1 t0 nk r4 r5 r6 r7 r8 r9 L7 L8 o9 le us uh) z)) (q_X5_leastPair k z h r0 r1 t0 nk r4 r5 r6 r7 r8 r9 L7 L8 o9 le us uh) 0 0 (fun _ => False) := by
  refine Met.ofW (cc := cX5_leastPair) (maxL := 7) (ret := (some .int)) (by decide) rfl ?_
  intro p e s m args below meth c s₁ B hml hv
  obtain ⟨rfl, ⟨hP, hG⟩, hZ⟩ := hv
  have hS : va_S (fun _ => False) s.heap s.heap [] := va_S.rf
  have hx := B.exec
  have hb := B.bytes
  have hr := B.returns
  have hts := atoms_spec (ws := wsX5_leastPair) B.pre
  have hown : s.vm.findClass RX5 = some m.cls := findClass_of_methodNamed B.named
  have hlocks := B.notSynchronized
  have hi5 : ∀ w ∈ wsX50, w ∈ wsX5_leastPair := fun _ h => List.mem_cons_of_mem _ (List.mem_append_right _ h)
  have hP : va_P D vwCl [(h, .inr (5, [.ref r0, .ref r1, .ref t0, .ref nk, .ref r4, .ref r5, .ref r6, .ref r7, .ref r8, .ref r9])), (r7, .inl (k 1, 128, .inr (.inl L7))), (r8, .inl (k 1, 128, .inr (.inl L8))), (r9, .inl (k 0, 49, .inl o9))] s.heap := hP
  have hl := lv_entry ([.ref h, .int (nI le), .int (nI us), .int (nI uh)]) (n := 7) (Nat.le_of_ble_eq_true rfl)
  rw [lg_entry_eq]
  generalize (lg_sl ([.ref h, .int (nI le), .int (nI us), .int (nI uh)]) ++ List.replicate (7 - (lg_sl ([.ref h, .int (nI le), .int (nI us), .int (nI uh)])).length) Slot.unset).toArray = ls at hl ⊢
  have hl : lv_has ls 7 [(0, .ref h), (1, .int (nI le)), (2, .int (nI us)), (3, .int (nI uh))] := hl
  refine lv_iconst (v := 0) hx hb dX5_leastPair_0 (by decide) ?_
  refine lv_istore (lv' := [(4, .int 0), (0, .ref h), (1, .int (nI le)), (2, .int (nI us)), (3, .int (nI uh))]) hx hb dX5_leastPair_1 hl (by decide) rfl (fun ls hl => ?_)
  have L1 : ∀ (fu9 : Nat) (i : Nat), (i ≤ 7) → (∀ a b, a < i → b < 7 → ¬ PPx o9 L7 L8 le us uh a b) → 7 - i < fu9 → ∀ (ls : Array Slot), lv_has ls 7 [(4, .int (nI i)), (0, .ref h), (1, .int (nI le)), (2, .int (nI us)), (3, .int (nI uh))] → W p l e r_X5_leastPair s m ([.ref h, .int (nI le), .int (nI us), .int (nI uh)] : List Value).toArray below meth c s.heap [] 0 0 (MQ below (q_X5_leastPair k z h r0 r1 t0 nk r4 r5 r6 r7 r8 r9 L7 L8 o9 le us uh) ([.ref h, .int (nI le), .int (nI us), .int (nI uh)] : List Value).toArray s 0 0 (fun _ => False)) (F0 m 3 ls []) := by
    intro fu9
    induction fu9 with
    | zero => intro i hi hA9 hmu; exact absurd hmu (Nat.not_lt_zero _)
    | succ fu9 ih =>
      intro i hi hA9 hmu ls hl
      refine lv_iload hx hb dX5_leastPair_3 (lv_at hl 0 rfl) ?_
      refine lv_bipush (v := 7) hx hb dX5_leastPair_5 (by decide) ?_
      refine bn_ge (i := i) (j := 7) (tgt := 105) hx hb dX5_leastPair_7 (by decide) (by omega) (by omega) (fun c2 => ?_) (fun c2 => ?_)
      · skip
        refine lv_iconst (v := (-1)) hx hb dX5_leastPair_105 (by decide) ?_
        exact W.iret (v := (-1)) hx hb hr (fun t9 ht _ => ⟨(-1), rfl, Or.inl ⟨rfl, fun a b ha hb => hA9 a b (by omega) hb⟩, ht⟩) (fun q h => by cases h) dX5_leastPair_106
      · skip
        refine lv_iload_n hx hb dX5_leastPair_10 rfl (lv_at hl 3 rfl) ?_
        refine lv_iload hx hb dX5_leastPair_11 (lv_at hl 0 rfl) ?_
        have hPc := hP.sub (ws' := (c_X9_isIn k (nI us) (nI i))) [] rfl
        refine vp_callSi (va_Run.run (va_runSN (As := [.int (nI us), .int (nI i)]) (rest := []) ⟨hx, hb, hml, hown, hts⟩ (X9_isIn l D k (nI us) (nI i) ) ⟨(va_cnB (own := RX5) (index := 99) (y := yX9_isIn) (host := RX9) 2 hts ggX5_leastPair_X9_isIn rfl rfl rfl (hG.2.1 _ (List.mem_of_getElem? (i := 8) rfl)) (hts (.initialized RX9) (List.mem_cons_of_mem _ (List.mem_append_left _ (List.mem_of_getElem? (i := 2) rfl)))) (by decide +kernel) ⟨Nat.le_of_ble_eq_true rfl, Nat.le_of_ble_eq_true rfl⟩), hts (.static yX9_isIn) (List.mem_cons_of_mem _ (List.mem_append_left _ (List.mem_of_getElem? (i := 1) rfl))), trivial⟩ ⟨PS.blind _ _ _ _, PS.pre hPc hG [.int (nI us), .int (nI i)]⟩ rfl rfl hl.1 rfl (lv_room (Nat.le_of_ble_eq_true rfl)) dX5_leastPair_13 ⟨Nat.le_of_ble_eq_true rfl, Nat.le_of_ble_eq_true rfl⟩)) (fun r hq => ?_)
        generalize r = y3 at hq ⊢
        have hq : y3 = inS (nI us) (nI i) := hq
        refine tp_i (y := inS (nI us) (nI i)) (hq) ?_
        refine lv_if_eq (x := inS (nI us) (nI i)) (tgt := 23) hx hb dX5_leastPair_16 (by decide) (fun c4 => ?_) (fun c4 => ?_)
        · skip
          have hlk : lk us i = true := lk_i.mpr (fun q8 => (rd_S us hus i (by omega)).mp q8 c4)
          refine lv_aload_n hx hb dX5_leastPair_23 rfl (lv_at hl 1 rfl) ?_
          refine va_get (D := D) (ci := 5) (v := .ref r9) (C := RX5) (T := TX5) (N := 10) hx hb hts hi5 hown hG.1 hP 0 rfl rfl 9 (by decide) (hts (.fieldLink RX5 41 "SleptMatters$Rows" "open" "[I") (List.mem_cons_of_mem _ (List.mem_append_left _ (List.mem_of_getElem? (i := 0) rfl)))) (fun _ h9 => h9) rfl dX5_leastPair_24 ?_
          refine lv_iload_n hx hb dX5_leastPair_27 rfl (lv_at hl 2 rfl) ?_
          refine lv_bipush (v := 7) hx hb dX5_leastPair_28 (by decide) ?_
          refine lv_imul hx hb dX5_leastPair_30 ?_
          refine tp_i (y := nI (le * 7)) (pk_mul le 7) ?_
          refine lv_iload hx hb dX5_leastPair_31 (lv_at hl 0 rfl) ?_
          refine lv_iadd hx hb dX5_leastPair_33 ?_
          refine tp_i (y := nI (le * 7 + i)) (nI_add (le * 7) i) ?_
          refine va_iald hx hb hG.1 hP 3 0 rfl rfl (vp_in_nI (by omega) (by omega)) dX5_leastPair_34 ?_
          refine tp_i (y := o9 (le * 7 + i)) (congrArg _ (nI_clamp (n := le * 7 + i) (by omega))) ?_
          refine lv_iload_n hx hb dX5_leastPair_35 rfl (lv_at hl 4 rfl) ?_
          refine lv_iconst (v := (-1)) hx hb dX5_leastPair_36 (by decide) ?_
          refine lv_ixor hx hb dX5_leastPair_37 ?_
          refine lv_iand hx hb dX5_leastPair_38 ?_
          obtain ⟨vv, hvv, evv⟩ := hOB (le * 7 + i) (by omega)
          obtain ⟨zz, hzz, ezz, bzz⟩ := an_nt hvv huh
          refine tp_i (y := nI zz) ((congrArg (fun z9 => z9 &&& (nI uh ^^^ (-1))) evv).trans ezz) ?_
          refine lv_istore (lv' := [(5, .int (nI zz)), (4, .int (nI i)), (0, .ref h), (1, .int (nI le)), (2, .int (nI us)), (3, .int (nI uh))]) hx hb dX5_leastPair_39 hl (by decide) rfl (fun ls hl => ?_)
          refine lv_iconst (v := 0) hx hb dX5_leastPair_41 (by decide) ?_
          refine lv_istore (lv' := [(6, .int 0), (5, .int (nI zz)), (4, .int (nI i)), (0, .ref h), (1, .int (nI le)), (2, .int (nI us)), (3, .int (nI uh))]) hx hb dX5_leastPair_42 hl (by decide) rfl (fun ls hl => ?_)
          have L5 : ∀ (fu9 : Nat) (i2 : Nat), (i2 ≤ 7) → (∀ b, b < i2 → ¬ PPx o9 L7 L8 le us uh i b) → 7 - i2 < fu9 → ∀ (ls : Array Slot), lv_has ls 7 [(6, .int (nI i2)), (5, .int (nI zz)), (4, .int (nI i)), (0, .ref h), (1, .int (nI le)), (2, .int (nI us)), (3, .int (nI uh))] → W p l e r_X5_leastPair s m ([.ref h, .int (nI le), .int (nI us), .int (nI uh)] : List Value).toArray below meth c s.heap [] 0 0 (MQ below (q_X5_leastPair k z h r0 r1 t0 nk r4 r5 r6 r7 r8 r9 L7 L8 o9 le us uh) ([.ref h, .int (nI le), .int (nI us), .int (nI uh)] : List Value).toArray s 0 0 (fun _ => False)) (F0 m 44 ls []) := by
            intro fu9L5
            induction fu9L5 with
            | zero => intro i2 hi2 hB hmuL5; exact absurd hmuL5 (Nat.not_lt_zero _)
            | succ fu9L5 ihL5 =>
              intro i2 hi2 hB hmuL5 ls hl
              refine lv_iload hx hb dX5_leastPair_44 (lv_at hl 0 rfl) ?_
              refine lv_bipush (v := 7) hx hb dX5_leastPair_46 (by decide) ?_
              refine bn_ge (i := i2) (j := 7) (tgt := 99) hx hb dX5_leastPair_48 (by decide) (by omega) (by omega) (fun c6 => ?_) (fun c6 => ?_)
              · skip
                have hi27 : i2 = 7 := by omega
                refine lv_iinc (v := nI (i + 1)) (lv' := [(4, .int (nI (i + 1))), (6, .int (nI i2)), (5, .int (nI zz)), (0, .ref h), (1, .int (nI le)), (2, .int (nI us)), (3, .int (nI uh))]) hx hb dX5_leastPair_99 hl (k := 2) rfl (nI_add i 1) (by decide) rfl (fun ls hl => ?_)
                refine lv_goto (tgt := 3) hx hb dX5_leastPair_102 (by decide) ?_
                exact ih (i + 1) (by omega) (fun a b ha hb => by by_cases q8 : a = i; rw [q8]; exact hB b (by omega); exact hA9 a b (by omega) hb) (by omega) ls (lv_sub hl [0, 3, 4, 5, 6] rfl)
              · skip
                refine lv_iload hx hb dX5_leastPair_51 (lv_at hl 1 rfl) ?_
                refine lv_iload hx hb dX5_leastPair_53 (lv_at hl 0 rfl) ?_
                have hPc := hP.sub (ws' := (c_X9_isIn k (nI zz) (nI i2))) [] rfl
                refine vp_callSi (va_Run.run (va_runSN (As := [.int (nI zz), .int (nI i2)]) (rest := []) ⟨hx, hb, hml, hown, hts⟩ (X9_isIn l D k (nI zz) (nI i2) ) ⟨(va_cnB (own := RX5) (index := 99) (y := yX9_isIn) (host := RX9) 2 hts ggX5_leastPair_X9_isIn rfl rfl rfl (hG.2.1 _ (List.mem_of_getElem? (i := 8) rfl)) (hts (.initialized RX9) (List.mem_cons_of_mem _ (List.mem_append_left _ (List.mem_of_getElem? (i := 2) rfl)))) (by decide +kernel) ⟨Nat.le_of_ble_eq_true rfl, Nat.le_of_ble_eq_true rfl⟩), hts (.static yX9_isIn) (List.mem_cons_of_mem _ (List.mem_append_left _ (List.mem_of_getElem? (i := 1) rfl))), trivial⟩ ⟨PS.blind _ _ _ _, PS.pre hPc hG [.int (nI zz), .int (nI i2)]⟩ rfl rfl hl.1 rfl (lv_room (Nat.le_of_ble_eq_true rfl)) dX5_leastPair_55 ⟨Nat.le_of_ble_eq_true rfl, Nat.le_of_ble_eq_true rfl⟩)) (fun r hq => ?_)
                generalize r = y7 at hq ⊢
                have hq : y7 = inS (nI zz) (nI i2) := hq
                refine tp_i (y := inS (nI zz) (nI i2)) (hq) ?_
                refine lv_if_ne (x := inS (nI zz) (nI i2)) (tgt := 64) hx hb dX5_leastPair_58 (by decide) (fun c8 => ?_) (fun c8 => ?_)
                · skip
                  obtain ⟨hv9, hl9⟩ := (bzz i2 (by omega)).mp ((rd_S zz hzz i2 (by omega)).mpr c8)
                  have hob : ob o9 le i i2 = true := by rw [ob_n evv hvv]; exact hv9
                  refine lv_aload_n hx hb dX5_leastPair_64 rfl (lv_at hl 3 rfl) ?_
                  refine lv_iload_n hx hb dX5_leastPair_65 rfl (lv_at hl 4 rfl) ?_
                  refine lv_iload_n hx hb dX5_leastPair_66 rfl (lv_at hl 5 rfl) ?_
                  refine lv_iconst (v := 1) hx hb dX5_leastPair_67 (by decide) ?_
                  refine lv_iload hx hb dX5_leastPair_68 (lv_at hl 2 rfl) ?_
                  refine lv_ishl hx hb dX5_leastPair_70 ?_
                  refine lv_ior hx hb dX5_leastPair_71 ?_
                  refine tp_i (y := nI (us ||| 2 ^ i)) (or_n us hus i (by omega)).1 ?_
                  refine lv_iload_n hx hb dX5_leastPair_72 rfl (lv_at hl 6 rfl) ?_
                  refine lv_iconst (v := 1) hx hb dX5_leastPair_73 (by decide) ?_
                  refine lv_iload hx hb dX5_leastPair_74 (lv_at hl 0 rfl) ?_
                  refine lv_ishl hx hb dX5_leastPair_76 ?_
                  refine lv_ior hx hb dX5_leastPair_77 ?_
                  refine tp_i (y := nI (uh ||| 2 ^ i2)) (or_n uh huh i2 (by omega)).1 ?_
                  have hPc := hP.sub (ws' := (c_X5_canEnd k z h r0 r1 t0 nk r4 r5 r6 r7 r8 r9 L7 L8 le (us ||| 2 ^ i) (uh ||| 2 ^ i2))) [0, 1, 2] rfl
                  refine vp_callSi (va_Run.run (va_runV (As := [.int (nI le), .int (nI (us ||| 2 ^ i)), .int (nI (uh ||| 2 ^ i2))]) (rest := []) ⟨hx, hb, hml, hown, hts⟩ (X5_canEnd l D k z h r0 r1 t0 nk r4 r5 r6 r7 r8 r9 L7 L8 le (us ||| 2 ^ i) (uh ||| 2 ^ i2) (by omega) ((or_n us hus i (by omega)).2) ((or_n uh huh i2 (by omega)).2)) (cwV 3 hts gX5_leastPair_X5_canEnd rfl rfl rfl (by decide +kernel) ⟨Nat.le_of_ble_eq_true rfl, Nat.le_of_ble_eq_true rfl⟩) ⟨PU.blind _ _ _ _ _, va_recv hG.1 hP (ci := 5) (q0 := 0) rfl rfl, PU.pre hPc hG hZ hS [.ref h, .int (nI le), .int (nI (us ||| 2 ^ i)), .int (nI (uh ||| 2 ^ i2))]⟩ rfl rfl hl.1 rfl (lv_room (Nat.le_of_ble_eq_true rfl)) dX5_leastPair_78 ⟨Nat.le_of_ble_eq_true rfl, Nat.le_of_ble_eq_true rfl⟩)) (fun r hq => ?_)
                  generalize r = y9 at hq ⊢
                  have hq : ((y9 = 0 ∨ y9 = 1) ∧ (y9 = 1 ↔ CE L7 L8 le (us ||| 2 ^ i) (uh ||| 2 ^ i2))) := hq
                  refine lv_if_eq (x := y9) (tgt := 93) hx hb dX5_leastPair_81 (by decide) (fun c10 => ?_) (fun c10 => ?_)
                  · skip
                    have hnp : ¬ PPx o9 L7 L8 le us uh i i2 := fun q8 => absurd ((hq.2.mpr q8.2.2.2).symm.trans c10) (by decide)
                    refine lv_iinc (v := nI (i2 + 1)) (lv' := [(6, .int (nI (i2 + 1))), (5, .int (nI zz)), (4, .int (nI i)), (0, .ref h), (1, .int (nI le)), (2, .int (nI us)), (3, .int (nI uh))]) hx hb dX5_leastPair_93 hl (k := 0) rfl (nI_add i2 1) (by decide) rfl (fun ls hl => ?_)
                    refine lv_goto (tgt := 44) hx hb dX5_leastPair_96 (by decide) ?_
                    exact ihL5 (i2 + 1) (by omega) (fun b hb => by by_cases q8 : b = i2; rw [q8]; exact hnp; exact hB b (by omega)) (by omega) ls (lv_sub hl [0, 1, 2, 3, 4, 5, 6] rfl)
                  · skip
                    have hce := hq.2.mp (hq.1.resolve_left c10)
                    refine lv_iload hx hb dX5_leastPair_84 (lv_at hl 2 rfl) ?_
                    refine lv_bipush (v := 7) hx hb dX5_leastPair_86 (by decide) ?_
                    refine lv_imul hx hb dX5_leastPair_88 ?_
                    refine tp_i (y := nI (i * 7)) (pk_mul i 7) ?_
                    refine lv_iload hx hb dX5_leastPair_89 (lv_at hl 0 rfl) ?_
                    refine lv_iadd hx hb dX5_leastPair_91 ?_
                    refine tp_i (y := nI (i * 7 + i2)) (nI_add (i * 7) i2) ?_
                    exact W.iret (v := nI (i * 7 + i2)) hx hb hr (fun t9 ht _ => ⟨nI (i * 7 + i2), rfl, Or.inr ⟨i, i2, by omega, by omega, rfl, ⟨hlk, hl9, hob, hce⟩, fun a b ha hb hab => hab.elim (fun q8 => hA9 a b q8 hb) (fun q8 => by rw [q8.1]; exact hB b q8.2)⟩, ht⟩) (fun q h => by cases h) dX5_leastPair_92
                · skip
                  have hnp : ¬ PPx o9 L7 L8 le us uh i i2 := fun q8 => (rd_S zz hzz i2 (by omega)).mp ((bzz i2 (by omega)).mpr ⟨by rw [← ob_n evv hvv]; exact q8.2.2.1, q8.2.1⟩) c8
                  refine lv_goto (tgt := 93) hx hb dX5_leastPair_61 (by decide) ?_
                  refine lv_iinc (v := nI (i2 + 1)) (lv' := [(6, .int (nI (i2 + 1))), (5, .int (nI zz)), (4, .int (nI i)), (0, .ref h), (1, .int (nI le)), (2, .int (nI us)), (3, .int (nI uh))]) hx hb dX5_leastPair_93 hl (k := 0) rfl (nI_add i2 1) (by decide) rfl (fun ls hl => ?_)
                  refine lv_goto (tgt := 44) hx hb dX5_leastPair_96 (by decide) ?_
                  exact ihL5 (i2 + 1) (by omega) (fun b hb => by by_cases q8 : b = i2; rw [q8]; exact hnp; exact hB b (by omega)) (by omega) ls (lv_sub hl [0, 1, 2, 3, 4, 5, 6] rfl)
          exact L5 _ 0 (Nat.zero_le _) (fun b h => absurd h (Nat.not_lt_zero b)) (Nat.lt_succ_self _) ls (lv_sub hl [0, 1, 2, 3, 4, 5, 6] rfl)
        · skip
          have hnl : ¬ lk us i = true := fun q8 => lk_i.mp q8 ((rd_S us hus i (by omega)).mpr c4)
          refine lv_iconst (v := 0) hx hb dX5_leastPair_19 (by decide) ?_
          refine lv_goto (tgt := 39) hx hb dX5_leastPair_20 (by decide) ?_
          refine lv_istore (lv' := [(5, .int 0), (4, .int (nI i)), (0, .ref h), (1, .int (nI le)), (2, .int (nI us)), (3, .int (nI uh))]) hx hb dX5_leastPair_39 hl (by decide) rfl (fun ls hl => ?_)
          refine lv_iconst (v := 0) hx hb dX5_leastPair_41 (by decide) ?_
          refine lv_istore (lv' := [(6, .int 0), (5, .int 0), (4, .int (nI i)), (0, .ref h), (1, .int (nI le)), (2, .int (nI us)), (3, .int (nI uh))]) hx hb dX5_leastPair_42 hl (by decide) rfl (fun ls hl => ?_)
          have L11 : ∀ (fu9 : Nat) (i2 : Nat), (i2 ≤ 7) → (∀ b, b < i2 → ¬ PPx o9 L7 L8 le us uh i b) → 7 - i2 < fu9 → ∀ (ls : Array Slot), lv_has ls 7 [(6, .int (nI i2)), (5, .int 0), (4, .int (nI i)), (0, .ref h), (1, .int (nI le)), (2, .int (nI us)), (3, .int (nI uh))] → W p l e r_X5_leastPair s m ([.ref h, .int (nI le), .int (nI us), .int (nI uh)] : List Value).toArray below meth c s.heap [] 0 0 (MQ below (q_X5_leastPair k z h r0 r1 t0 nk r4 r5 r6 r7 r8 r9 L7 L8 o9 le us uh) ([.ref h, .int (nI le), .int (nI us), .int (nI uh)] : List Value).toArray s 0 0 (fun _ => False)) (F0 m 44 ls []) := by
            intro fu9L11
            induction fu9L11 with
            | zero => intro i2 hi2 hB hmuL11; exact absurd hmuL11 (Nat.not_lt_zero _)
            | succ fu9L11 ihL11 =>
              intro i2 hi2 hB hmuL11 ls hl
              refine lv_iload hx hb dX5_leastPair_44 (lv_at hl 0 rfl) ?_
              refine lv_bipush (v := 7) hx hb dX5_leastPair_46 (by decide) ?_
              refine bn_ge (i := i2) (j := 7) (tgt := 99) hx hb dX5_leastPair_48 (by decide) (by omega) (by omega) (fun c12 => ?_) (fun c12 => ?_)
              · skip
                have hi27 : i2 = 7 := by omega
                refine lv_iinc (v := nI (i + 1)) (lv' := [(4, .int (nI (i + 1))), (6, .int (nI i2)), (5, .int 0), (0, .ref h), (1, .int (nI le)), (2, .int (nI us)), (3, .int (nI uh))]) hx hb dX5_leastPair_99 hl (k := 2) rfl (nI_add i 1) (by decide) rfl (fun ls hl => ?_)
                refine lv_goto (tgt := 3) hx hb dX5_leastPair_102 (by decide) ?_
                exact ih (i + 1) (by omega) (fun a b ha hb => by by_cases q8 : a = i; rw [q8]; exact hB b (by omega); exact hA9 a b (by omega) hb) (by omega) ls (lv_sub hl [0, 3, 4, 5, 6] rfl)
              · skip
                refine lv_iload hx hb dX5_leastPair_51 (lv_at hl 1 rfl) ?_
                refine lv_iload hx hb dX5_leastPair_53 (lv_at hl 0 rfl) ?_
                have hPc := hP.sub (ws' := (c_X9_isIn k 0 (nI i2))) [] rfl
                refine vp_callSi (va_Run.run (va_runSN (As := [.int 0, .int (nI i2)]) (rest := []) ⟨hx, hb, hml, hown, hts⟩ (X9_isIn l D k 0 (nI i2) ) ⟨(va_cnB (own := RX5) (index := 99) (y := yX9_isIn) (host := RX9) 2 hts ggX5_leastPair_X9_isIn rfl rfl rfl (hG.2.1 _ (List.mem_of_getElem? (i := 8) rfl)) (hts (.initialized RX9) (List.mem_cons_of_mem _ (List.mem_append_left _ (List.mem_of_getElem? (i := 2) rfl)))) (by decide +kernel) ⟨Nat.le_of_ble_eq_true rfl, Nat.le_of_ble_eq_true rfl⟩), hts (.static yX9_isIn) (List.mem_cons_of_mem _ (List.mem_append_left _ (List.mem_of_getElem? (i := 1) rfl))), trivial⟩ ⟨PS.blind _ _ _ _, PS.pre hPc hG [.int 0, .int (nI i2)]⟩ rfl rfl hl.1 rfl (lv_room (Nat.le_of_ble_eq_true rfl)) dX5_leastPair_55 ⟨Nat.le_of_ble_eq_true rfl, Nat.le_of_ble_eq_true rfl⟩)) (fun r hq => ?_)
                generalize r = y13 at hq ⊢
                have hq : y13 = inS 0 (nI i2) := hq
                refine tp_i (y := inS 0 (nI i2)) (hq) ?_
                refine lv_if_ne (x := inS 0 (nI i2)) (tgt := 64) hx hb dX5_leastPair_58 (by decide) (fun c14 => absurd (rd_z i2 (by omega)) c14) (fun c14 => ?_)
                refine lv_goto (tgt := 93) hx hb dX5_leastPair_61 (by decide) ?_
                refine lv_iinc (v := nI (i2 + 1)) (lv' := [(6, .int (nI (i2 + 1))), (5, .int 0), (4, .int (nI i)), (0, .ref h), (1, .int (nI le)), (2, .int (nI us)), (3, .int (nI uh))]) hx hb dX5_leastPair_93 hl (k := 0) rfl (nI_add i2 1) (by decide) rfl (fun ls hl => ?_)
                refine lv_goto (tgt := 44) hx hb dX5_leastPair_96 (by decide) ?_
                exact ihL11 (i2 + 1) (by omega) (fun b hb => by by_cases q8 : b = i2; rw [q8]; exact (fun q7 => hnl q7.1); exact hB b (by omega)) (by omega) ls (lv_sub hl [0, 1, 2, 3, 4, 5, 6] rfl)
          exact L11 _ 0 (Nat.zero_le _) (fun b h => absurd h (Nat.not_lt_zero b)) (Nat.lt_succ_self _) ls (lv_sub hl [0, 1, 2, 3, 4, 5, 6] rfl)
  exact L1 _ 0 (Nat.zero_le _) (fun a b h => absurd h (Nat.not_lt_zero a)) (Nat.lt_succ_self _) ls (lv_sub hl [0, 1, 2, 3, 4] rfl)

abbrev c_X5_readRow (k : Nat → ClassId) (z : Nat → Nat) (h : Nat) (r0 : Nat) (r1 : Nat) (t0 : Nat) (nk : Nat) (r4 : Nat) (r5 : Nat) (r6 : Nat) (r7 : Nat) (r8 : Nat) (r9 : Nat) (L7 : Nat → Int64) (L8 : Nat → Int64) (o9 : Nat → Int32) (e0 : Nat → Int32) (e1 : Nat → Int32) (nn : Nat) : va_W := [(h, .inr (5, [.ref r0, .ref r1, .ref t0, .ref nk, .ref r4, .ref r5, .ref r6, .ref r7, .ref r8, .ref r9])), (r7, .inl (k 1, 128, .inr (.inl L7))), (r8, .inl (k 1, 128, .inr (.inl L8))), (r9, .inl (k 0, 49, .inl o9)), (r0, .inl (k 0, 7, .inl e0)), (r1, .inl (k 0, 7, .inl e1))]
abbrev r_X5_readRow : Room := { frames := 3, cells := 0, slots := 0, locals := 75 }
def w_X5_readRow (k : Nat → ClassId) (z : Nat → Nat) (h : Nat) (r0 : Nat) (r1 : Nat) (t0 : Nat) (nk : Nat) (r4 : Nat) (r5 : Nat) (r6 : Nat) (r7 : Nat) (r8 : Nat) (r9 : Nat) (L7 : Nat → Int64) (L8 : Nat → Int64) (o9 : Nat → Int32) (e0 : Nat → Int32) (e1 : Nat → Int32) (nn : Nat) : (Nat → Int32) × (Nat → Int32) → va_W := fun u => match u with | (u0, u1) => [(h, .inr (5, [.ref r0, .ref r1, .ref t0, .ref nk, .ref r4, .ref r5, .ref r6, .ref r7, .ref r8, .ref r9])), (r7, .inl (k 1, 128, .inr (.inl L7))), (r8, .inl (k 1, 128, .inr (.inl L8))), (r9, .inl (k 0, 49, .inl o9)), (r0, .inl (k 0, 7, .inl u0)), (r1, .inl (k 0, 7, .inl u1))]
def p_X5_readRow (k : Nat → ClassId) (z : Nat → Nat) (h : Nat) (r0 : Nat) (r1 : Nat) (t0 : Nat) (nk : Nat) (r4 : Nat) (r5 : Nat) (r6 : Nat) (r7 : Nat) (r8 : Nat) (r9 : Nat) (L7 : Nat → Int64) (L8 : Nat → Int64) (o9 : Nat → Int32) (e0 : Nat → Int32) (e1 : Nat → Int32) (nn : Nat) : (Nat → Int32) × (Nat → Int32) → Prop := fun (u : (Nat → Int32) × (Nat → Int32)) => match u with | (u0, u1) => (∃ w x, RX (PK (ob o9) nn) u0 u1 nn w x)
abbrev q_X5_readRow (D : va_G) (k : Nat → ClassId) (z : Nat → Nat) (h : Nat) (r0 : Nat) (r1 : Nat) (t0 : Nat) (nk : Nat) (r4 : Nat) (r5 : Nat) (r6 : Nat) (r7 : Nat) (r8 : Nat) (r9 : Nat) (L7 : Nat → Int64) (L8 : Nat → Int64) (o9 : Nat → Int32) (e0 : Nat → Int32) (e1 : Nat → Int32) (nn : Nat) (A : Nat → Prop) : Array Value → State → Outcome → State → Prop := va_Qv (p_X5_readRow k z h r0 r1 t0 nk r4 r5 r6 r7 r8 r9 L7 L8 o9 e0 e1 nn) (fun u9 t9 => BO D (w_X5_readRow k z h r0 r1 t0 nk r4 r5 r6 r7 r8 r9 L7 L8 o9 e0 e1 nn u9) A t9) A
set_option maxHeartbeats 2000000 in
set_option maxRecDepth 100000 in
theorem X5_readRow (l : Launch) (D : va_G) (k : Nat → ClassId) (sz : Nat) (z : Nat → Nat) (h : Nat) (r0 : Nat) (r1 : Nat) (t0 : Nat) (nk : Nat) (r4 : Nat) (r5 : Nat) (r6 : Nat) (r7 : Nat) (r8 : Nat) (r9 : Nat) (L7 : Nat → Int64) (L8 : Nat → Int64) (o9 : Nat → Int32) (e0 : Nat → Int32) (e1 : Nat → Int32) (nn : Nat) (hnn : nn ≤ 7) (hOB : OB o9) (hRS : RS o9 nn 128 L7 L8) (hEX : ∃ W X, BS (ob o9) nn W X) : Met l yX5_readRow wsX5_readRow r_X5_readRow (va_Pc [.ref h, .int (nI nn)] (PT D k (c_X5_readRow k z h r0 r1 t0 nk r4 r5 r6 r7 r8 r9 L7 L8 o9 e0 e1 nn) sz z)) (q_X5_readRow D k z h r0 r1 t0 nk r4 r5 r6 r7 r8 r9 L7 L8 o9 e0 e1 nn (va_A (c_X5_readRow k z h r0 r1 t0 nk r4 r5 r6 r7 r8 r9 L7 L8 o9 e0 e1 nn) sz)) 0 0 (va_A (c_X5_readRow k z h r0 r1 t0 nk r4 r5 r6 r7 r8 r9 L7 L8 o9 e0 e1 nn) sz) := by
  refine Met.ofW (cc := cX5_readRow) (maxL := 6) (ret := none) (by decide) rfl ?_
  intro p e s m args below meth c s₁ B hml hv
  obtain ⟨rfl, ⟨hsz, hP, hG, hD0⟩, hZ⟩ := hv
  have hx := B.exec
  have hb := B.bytes
  have hr := B.returns
  have hts := atoms_spec (ws := wsX5_readRow) B.pre
  have hown : s.vm.findClass RX5 = some m.cls := findClass_of_methodNamed B.named
  have hlocks := B.notSynchronized
  have hi5 : ∀ w ∈ wsX50, w ∈ wsX5_readRow := fun _ h => List.mem_cons_of_mem _ (List.mem_append_right _ h)
  subst hsz
  have hD := hD0.self (sz := s.heap.size)
  generalize hAe : va_A (c_X5_readRow k z h r0 r1 t0 nk r4 r5 r6 r7 r8 r9 L7 L8 o9 e0 e1 nn) s.heap.size = A at hD hZ ⊢
  have hA : ∀ q : Nat, s.heap.size ≤ q → A q := fun q h => by rw [← hAe]; exact Or.inr h
  have hS : va_S A s.heap s.heap [] := va_S.rf
  have hP : va_P D vwCl [(h, .inr (5, [.ref r0, .ref r1, .ref t0, .ref nk, .ref r4, .ref r5, .ref r6, .ref r7, .ref r8, .ref r9])), (r7, .inl (k 1, 128, .inr (.inl L7))), (r8, .inl (k 1, 128, .inr (.inl L8))), (r9, .inl (k 0, 49, .inl o9)), (r0, .inl (k 0, 7, .inl e0)), (r1, .inl (k 0, 7, .inl e1))] s.heap := hP
  have hD : va_D A [(h, .inr (5, [.ref r0, .ref r1, .ref t0, .ref nk, .ref r4, .ref r5, .ref r6, .ref r7, .ref r8, .ref r9])), (r7, .inl (k 1, 128, .inr (.inl L7))), (r8, .inl (k 1, 128, .inr (.inl L8))), (r9, .inl (k 0, 49, .inl o9)), (r0, .inl (k 0, 7, .inl e0)), (r1, .inl (k 0, 7, .inl e1))] := hD
  have hl := lv_entry ([.ref h, .int (nI nn)]) (n := 6) (Nat.le_of_ble_eq_true rfl)
  rw [lg_entry_eq]
  generalize (lg_sl ([.ref h, .int (nI nn)]) ++ List.replicate (6 - (lg_sl ([.ref h, .int (nI nn)])).length) Slot.unset).toArray = ls at hl ⊢
  have hl : lv_has ls 6 [(0, .ref h), (1, .int (nI nn))] := hl
  refine lv_iconst (v := 0) hx hb dX5_readRow_0 (by decide) ?_
  refine lv_istore_n (lv' := [(2, .int 0), (0, .ref h), (1, .int (nI nn))]) hx hb dX5_readRow_1 rfl hl (by decide) rfl (fun ls hl => ?_)
  refine lv_iconst (v := 0) hx hb dX5_readRow_2 (by decide) ?_
  refine lv_istore_n (lv' := [(3, .int 0), (2, .int 0), (0, .ref h), (1, .int (nI nn))]) hx hb dX5_readRow_3 rfl hl (by decide) rfl (fun ls hl => ?_)
  refine lv_iconst (v := 0) hx hb dX5_readRow_4 (by decide) ?_
  refine lv_istore (lv' := [(4, .int 0), (3, .int 0), (2, .int 0), (0, .ref h), (1, .int (nI nn))]) hx hb dX5_readRow_5 hl (by decide) rfl (fun ls hl => ?_)
  have L1 : ∀ (fu9 : Nat) (i : Nat) (wo : Nat) (wr : Nat) (u0 : Nat → Int32) (u1 : Nat → Int32), (i ≤ nn) → (wo < 128) → (wr < 128) → (RX (PK (ob o9) nn) u0 u1 i wo wr) → (∃ W X, BS (ob o9) (nn - i) W X ∧ DJ W wo ∧ DJ X wr) → nn - i < fu9 → ∀ (H : Heap) (locs : List Loc), va_P D vwCl [(h, .inr (5, [.ref r0, .ref r1, .ref t0, .ref nk, .ref r4, .ref r5, .ref r6, .ref r7, .ref r8, .ref r9])), (r7, .inl (k 1, 128, .inr (.inl L7))), (r8, .inl (k 1, 128, .inr (.inl L8))), (r9, .inl (k 0, 49, .inl o9)), (r0, .inl (k 0, 7, .inl u0)), (r1, .inl (k 0, 7, .inl u1))] H → va_D A [(h, .inr (5, [.ref r0, .ref r1, .ref t0, .ref nk, .ref r4, .ref r5, .ref r6, .ref r7, .ref r8, .ref r9])), (r7, .inl (k 1, 128, .inr (.inl L7))), (r8, .inl (k 1, 128, .inr (.inl L8))), (r9, .inl (k 0, 49, .inl o9)), (r0, .inl (k 0, 7, .inl u0)), (r1, .inl (k 0, 7, .inl u1))] → va_S A s.heap H locs → ∀ (ls : Array Slot), lv_has ls 6 [(4, .int (nI i)), (3, .int (nI wr)), (2, .int (nI wo)), (0, .ref h), (1, .int (nI nn))] → W p l e r_X5_readRow s m ([.ref h, .int (nI nn)] : List Value).toArray below meth c H locs 0 0 (MQ below (q_X5_readRow D k z h r0 r1 t0 nk r4 r5 r6 r7 r8 r9 L7 L8 o9 e0 e1 nn A) ([.ref h, .int (nI nn)] : List Value).toArray s 0 0 A) (F0 m 7 ls []) := by
    intro fu9
    induction fu9 with
    | zero => intro i wo wr u0 u1 hi hwo hwr hRX hEx hmu; exact absurd hmu (Nat.not_lt_zero _)
    | succ fu9 ih =>
      intro i wo wr u0 u1 hi hwo hwr hRX hEx hmu H locs hP hD hS ls hl
      refine lv_iload hx hb dX5_readRow_7 (lv_at hl 0 rfl) ?_
      refine lv_iload_n hx hb dX5_readRow_9 rfl (lv_at hl 4 rfl) ?_
      refine bn_ge (i := i) (j := nn) (tgt := 101) hx hb dX5_readRow_10 (by decide) (by omega) (by omega) (fun c2 => ?_) (fun c2 => ?_)
      · skip
        have hin : i = nn := by omega
        rw [hin] at hRX
        have hP9 := hP.sub (ws' := [(h, .inr (5, [.ref r0, .ref r1, .ref t0, .ref nk, .ref r4, .ref r5, .ref r6, .ref r7, .ref r8, .ref r9])), (r7, .inl (k 1, 128, .inr (.inl L7))), (r8, .inl (k 1, 128, .inr (.inl L8))), (r9, .inl (k 0, 49, .inl o9)), (r0, .inl (k 0, 7, .inl u0)), (r1, .inl (k 0, 7, .inl u1))]) [0, 1, 2, 3, 4, 5] rfl
        have hD9 := hD.sub (ws' := [(h, .inr (5, [.ref r0, .ref r1, .ref t0, .ref nk, .ref r4, .ref r5, .ref r6, .ref r7, .ref r8, .ref r9])), (r7, .inl (k 1, 128, .inr (.inl L7))), (r8, .inl (k 1, 128, .inr (.inl L8))), (r9, .inl (k 0, 49, .inl o9)), (r0, .inl (k 0, 7, .inl u0)), (r1, .inl (k 0, 7, .inl u1))]) [0, 1, 2, 3, 4, 5] (by decide +kernel) rfl
        exact W.vret hx hb hr (fun t9 ht _ => ⟨⟨(u0, u1), rfl, ⟨wo, wr, hRX⟩, by rw [ht]; exact hP9, hD9⟩, hS.F ht⟩) hS.2.2 dX5_readRow_101
      · skip
        refine lv_aload_n hx hb dX5_readRow_13 rfl (lv_at hl 3 rfl) ?_
        refine lv_iload_n hx hb dX5_readRow_14 rfl (lv_at hl 4 rfl) ?_
        refine lv_iconst (v := 1) hx hb dX5_readRow_15 (by decide) ?_
        refine lv_isub hx hb dX5_readRow_16 ?_
        refine tp_i (y := nI (nn - 1)) (pk_sub (b := 1) (by omega)) ?_
        refine lv_iload hx hb dX5_readRow_17 (lv_at hl 0 rfl) ?_
        refine lv_isub hx hb dX5_readRow_19 ?_
        refine tp_i (y := nI (nn - 1 - i)) (pk_sub (by omega)) ?_
        refine lv_iload_n hx hb dX5_readRow_20 rfl (lv_at hl 2 rfl) ?_
        refine lv_iload_n hx hb dX5_readRow_21 rfl (lv_at hl 1 rfl) ?_
        have hPc := hP.sub (ws' := (c_X5_leastPair k z h r0 r1 t0 nk r4 r5 r6 r7 r8 r9 L7 L8 o9 (nn - 1 - i) wo wr)) [0, 1, 2, 3] rfl
        refine vp_callSi (va_Run.run (va_runV (As := [.int (nI (nn - 1 - i)), .int (nI wo), .int (nI wr)]) (rest := []) ⟨hx, hb, hml, hown, hts⟩ (X5_leastPair l D k z h r0 r1 t0 nk r4 r5 r6 r7 r8 r9 L7 L8 o9 (nn - 1 - i) wo wr (by omega) (hwo) (hwr) (hOB)) (cwV 3 hts gX5_readRow_X5_leastPair rfl rfl rfl (by decide +kernel) ⟨Nat.le_of_ble_eq_true rfl, Nat.le_of_ble_eq_true rfl⟩) ⟨PU.blind _ _ _ _ _, va_recv hG.1 hP (ci := 5) (q0 := 0) rfl rfl, PU.pre hPc hG hZ hS [.ref h, .int (nI (nn - 1 - i)), .int (nI wo), .int (nI wr)]⟩ rfl rfl hl.1 rfl (lv_room (Nat.le_of_ble_eq_true rfl)) dX5_readRow_22 ⟨Nat.le_of_ble_eq_true rfl, Nat.le_of_ble_eq_true rfl⟩)) (fun r hq => ?_)
        generalize r = y3 at hq ⊢
        have hq : LPP o9 L7 L8 (nn - 1 - i) wo wr y3 := hq
        obtain ⟨sa, sh, hsa, hsh, epr, hpk⟩ := LP_ex hRS (by omega) hq hEx
        refine tp_i (y := nI (sa * 7 + sh)) epr ?_
        refine lv_istore (lv' := [(5, .int (nI (sa * 7 + sh))), (4, .int (nI i)), (3, .int (nI wr)), (2, .int (nI wo)), (0, .ref h), (1, .int (nI nn))]) hx hb dX5_readRow_25 hl (by decide) rfl (fun ls hl => ?_)
        refine lv_aload_n hx hb dX5_readRow_27 rfl (lv_at hl 4 rfl) ?_
        refine va_get (D := D) (ci := 5) (v := .ref r0) (C := RX5) (T := TX5) (N := 10) hx hb hts hi5 hown hG.1 hP 0 rfl rfl 0 (by decide) (hts (.fieldLink RX5 9 "SleptMatters$Rows" "rowSleepers" "[I") (List.mem_cons_of_mem _ (List.mem_append_left _ (List.mem_append_left _ (List.mem_of_getElem? (i := 0) rfl))))) (fun _ h9 => h9) rfl dX5_readRow_28 ?_
        refine lv_iload hx hb dX5_readRow_31 (lv_at hl 1 rfl) ?_
        refine lv_iload hx hb dX5_readRow_33 (lv_at hl 0 rfl) ?_
        refine lv_iconst (v := (-1)) hx hb dX5_readRow_35 (by decide) ?_
        refine lv_icmp_ne (x := nI (sa * 7 + sh)) (y := (-1)) (tgt := 43) hx hb dX5_readRow_36 (by decide) (fun c4 => ?_) (fun c4 => absurd c4 (fun q8 => nI_pos (n := sa * 7 + sh) (by omega) (by rw [q8]; decide)))
        refine lv_iload hx hb dX5_readRow_43 (lv_at hl 0 rfl) ?_
        refine lv_bipush (v := 7) hx hb dX5_readRow_45 (by decide) ?_
        refine lv_idiv hx hb dX5_readRow_47 (by decide) ?_
        refine tp_i (y := nI sa) ((pk_div (d := 7) (by omega) (by decide) (by decide)).trans (congrArg nI (show (sa * 7 + sh) / 7 = sa by omega))) ?_
        refine va_iast hx hb hG.1 hP hD hS 4 0 rfl rfl (vp_in_nI (by omega) (by omega)) dX5_readRow_48 (fun H locs hP hD hS => ?_)
        rw [nI_clamp (n := i) (by omega)] at hP hD
        have hP : va_P D vwCl [(h, .inr (5, [.ref r0, .ref r1, .ref t0, .ref nk, .ref r4, .ref r5, .ref r6, .ref r7, .ref r8, .ref r9])), (r7, .inl (k 1, 128, .inr (.inl L7))), (r8, .inl (k 1, 128, .inr (.inl L8))), (r9, .inl (k 0, 49, .inl o9)), (r0, .inl (k 0, 7, .inl (upd u0 i (nI sa)))), (r1, .inl (k 0, 7, .inl u1))] H := hP
        have hD : va_D A [(h, .inr (5, [.ref r0, .ref r1, .ref t0, .ref nk, .ref r4, .ref r5, .ref r6, .ref r7, .ref r8, .ref r9])), (r7, .inl (k 1, 128, .inr (.inl L7))), (r8, .inl (k 1, 128, .inr (.inl L8))), (r9, .inl (k 0, 49, .inl o9)), (r0, .inl (k 0, 7, .inl (upd u0 i (nI sa)))), (r1, .inl (k 0, 7, .inl u1))] := hD
        refine lv_aload_n hx hb dX5_readRow_49 rfl (lv_at hl 4 rfl) ?_
        refine va_get (D := D) (ci := 5) (v := .ref r1) (C := RX5) (T := TX5) (N := 10) hx hb hts hi5 hown hG.1 hP 0 rfl rfl 1 (by decide) (hts (.fieldLink RX5 15 "SleptMatters$Rows" "rowHouses" "[I") (List.mem_cons_of_mem _ (List.mem_append_left _ (List.mem_append_left _ (List.mem_of_getElem? (i := 1) rfl))))) (fun _ h9 => h9) rfl dX5_readRow_50 ?_
        refine lv_iload hx hb dX5_readRow_53 (lv_at hl 1 rfl) ?_
        refine lv_iload hx hb dX5_readRow_55 (lv_at hl 0 rfl) ?_
        refine lv_iconst (v := (-1)) hx hb dX5_readRow_57 (by decide) ?_
        refine lv_icmp_ne (x := nI (sa * 7 + sh)) (y := (-1)) (tgt := 65) hx hb dX5_readRow_58 (by decide) (fun c5 => ?_) (fun c5 => absurd c5 (fun q8 => nI_pos (n := sa * 7 + sh) (by omega) (by rw [q8]; decide)))
        refine lv_iload hx hb dX5_readRow_65 (lv_at hl 0 rfl) ?_
        refine lv_bipush (v := 7) hx hb dX5_readRow_67 (by decide) ?_
        refine lv_irem hx hb dX5_readRow_69 (by decide) ?_
        refine tp_i (y := nI sh) ((pk_rem (d := 7) (by omega) (by decide) (by decide)).trans (congrArg nI (show (sa * 7 + sh) % 7 = sh by omega))) ?_
        refine va_iast hx hb hG.1 hP hD hS 5 0 rfl rfl (vp_in_nI (by omega) (by omega)) dX5_readRow_70 (fun H locs hP hD hS => ?_)
        rw [nI_clamp (n := i) (by omega)] at hP hD
        have hP : va_P D vwCl [(h, .inr (5, [.ref r0, .ref r1, .ref t0, .ref nk, .ref r4, .ref r5, .ref r6, .ref r7, .ref r8, .ref r9])), (r7, .inl (k 1, 128, .inr (.inl L7))), (r8, .inl (k 1, 128, .inr (.inl L8))), (r9, .inl (k 0, 49, .inl o9)), (r0, .inl (k 0, 7, .inl (upd u0 i (nI sa)))), (r1, .inl (k 0, 7, .inl (upd u1 i (nI sh))))] H := hP
        have hD : va_D A [(h, .inr (5, [.ref r0, .ref r1, .ref t0, .ref nk, .ref r4, .ref r5, .ref r6, .ref r7, .ref r8, .ref r9])), (r7, .inl (k 1, 128, .inr (.inl L7))), (r8, .inl (k 1, 128, .inr (.inl L8))), (r9, .inl (k 0, 49, .inl o9)), (r0, .inl (k 0, 7, .inl (upd u0 i (nI sa)))), (r1, .inl (k 0, 7, .inl (upd u1 i (nI sh))))] := hD
        refine lv_iload_n hx hb dX5_readRow_71 rfl (lv_at hl 3 rfl) ?_
        refine lv_iconst (v := 1) hx hb dX5_readRow_72 (by decide) ?_
        refine lv_aload_n hx hb dX5_readRow_73 rfl (lv_at hl 4 rfl) ?_
        refine va_get (D := D) (ci := 5) (v := .ref r0) (C := RX5) (T := TX5) (N := 10) hx hb hts hi5 hown hG.1 hP 0 rfl rfl 0 (by decide) (hts (.fieldLink RX5 9 "SleptMatters$Rows" "rowSleepers" "[I") (List.mem_cons_of_mem _ (List.mem_append_left _ (List.mem_append_left _ (List.mem_of_getElem? (i := 0) rfl))))) (fun _ h9 => h9) rfl dX5_readRow_74 ?_
        refine lv_iload hx hb dX5_readRow_77 (lv_at hl 1 rfl) ?_
        refine va_iald hx hb hG.1 hP 4 0 rfl rfl (vp_in_nI (by omega) (by omega)) dX5_readRow_79 ?_
        refine tp_i (y := nI sa) ((congrArg (upd u0 i (nI sa)) (nI_clamp (n := i) (by omega))).trans pk_us) ?_
        refine lv_ishl hx hb dX5_readRow_80 ?_
        refine lv_ior hx hb dX5_readRow_81 ?_
        refine tp_i (y := nI (wo ||| 2 ^ sa)) (or_n wo hwo sa (by omega)).1 ?_
        refine lv_istore_n (lv' := [(2, .int (nI (wo ||| 2 ^ sa))), (5, .int (nI (sa * 7 + sh))), (4, .int (nI i)), (3, .int (nI wr)), (0, .ref h), (1, .int (nI nn))]) hx hb dX5_readRow_82 rfl hl (by decide) rfl (fun ls hl => ?_)
        refine lv_iload_n hx hb dX5_readRow_83 rfl (lv_at hl 3 rfl) ?_
        refine lv_iconst (v := 1) hx hb dX5_readRow_84 (by decide) ?_
        refine lv_aload_n hx hb dX5_readRow_85 rfl (lv_at hl 4 rfl) ?_
        refine va_get (D := D) (ci := 5) (v := .ref r1) (C := RX5) (T := TX5) (N := 10) hx hb hts hi5 hown hG.1 hP 0 rfl rfl 1 (by decide) (hts (.fieldLink RX5 15 "SleptMatters$Rows" "rowHouses" "[I") (List.mem_cons_of_mem _ (List.mem_append_left _ (List.mem_append_left _ (List.mem_of_getElem? (i := 1) rfl))))) (fun _ h9 => h9) rfl dX5_readRow_86 ?_
        refine lv_iload hx hb dX5_readRow_89 (lv_at hl 2 rfl) ?_
        refine va_iald hx hb hG.1 hP 5 0 rfl rfl (vp_in_nI (by omega) (by omega)) dX5_readRow_91 ?_
        refine tp_i (y := nI sh) ((congrArg (upd u1 i (nI sh)) (nI_clamp (n := i) (by omega))).trans pk_us) ?_
        refine lv_ishl hx hb dX5_readRow_92 ?_
        refine lv_ior hx hb dX5_readRow_93 ?_
        refine tp_i (y := nI (wr ||| 2 ^ sh)) (or_n wr hwr sh (by omega)).1 ?_
        refine lv_istore_n (lv' := [(3, .int (nI (wr ||| 2 ^ sh))), (2, .int (nI (wo ||| 2 ^ sa))), (5, .int (nI (sa * 7 + sh))), (4, .int (nI i)), (0, .ref h), (1, .int (nI nn))]) hx hb dX5_readRow_94 rfl hl (by decide) rfl (fun ls hl => ?_)
        refine lv_iinc (v := nI (i + 1)) (lv' := [(4, .int (nI (i + 1))), (3, .int (nI (wr ||| 2 ^ sh))), (2, .int (nI (wo ||| 2 ^ sa))), (5, .int (nI (sa * 7 + sh))), (0, .ref h), (1, .int (nI nn))]) hx hb dX5_readRow_95 hl (k := 3) rfl (nI_add i 1) (by decide) rfl (fun ls hl => ?_)
        refine lv_goto (tgt := 7) hx hb dX5_readRow_98 (by decide) ?_
        exact ih (i + 1) (wo ||| 2 ^ sa) (wr ||| 2 ^ sh) (upd u0 i (nI sa)) (upd u1 i (nI sh)) (by omega) ((or_n wo hwo sa hsa).2) ((or_n wr hwr sh hsh).2) (RX_s hRX hsa hsh hpk) (by rw [show nn - (i + 1) = nn - 1 - i by omega]; exact hpk.1.2.2.2) (by omega) _ _ (hP.sub [0, 1, 2, 3, 4, 5] rfl) (hD.sub [0, 1, 2, 3, 4, 5] (by decide +kernel) rfl) hS ls (lv_sub hl [0, 1, 2, 4, 5] rfl)
  exact L1 _ 0 0 0 e0 e1 (Nat.zero_le _) (by decide) (by decide) (⟨rfl, rfl⟩) (by obtain ⟨W, X, k⟩ := hEX; exact ⟨W, X, k, fun j q => by rw [Nat.zero_testBit] at q; exact absurd q.2 (by decide), fun j q => by rw [Nat.zero_testBit] at q; exact absurd q.2 (by decide)⟩) (Nat.lt_succ_self _) _ _ hP hD hS ls (lv_sub hl [0, 1, 2, 3, 4] rfl)

abbrev c_X5_addSleepers (k : Nat → ClassId) (z : Nat → Nat) (h : Nat) (r0 : Nat) (r1 : Nat) (t0 : Nat) (nk : Nat) (r4 : Nat) (r5 : Nat) (r6 : Nat) (r7 : Nat) (r8 : Nat) (r9 : Nat) (L7 : Nat → Int64) (L8 : Nat → Int64) (o9 : Nat → Int32) (se : Nat) (sl : Nat) : va_W := [(h, .inr (5, [.ref r0, .ref r1, .ref t0, .ref nk, .ref r4, .ref r5, .ref r6, .ref r7, .ref r8, .ref r9])), (r7, .inl (k 1, 128, .inr (.inl L7))), (r8, .inl (k 1, 128, .inr (.inl L8))), (r9, .inl (k 0, 49, .inl o9))]
abbrev r_X5_addSleepers : Room := { frames := 0, cells := 0, slots := 0, locals := 0 }
def w_X5_addSleepers (k : Nat → ClassId) (z : Nat → Nat) (h : Nat) (r0 : Nat) (r1 : Nat) (t0 : Nat) (nk : Nat) (r4 : Nat) (r5 : Nat) (r6 : Nat) (r7 : Nat) (r8 : Nat) (r9 : Nat) (L7 : Nat → Int64) (L8 : Nat → Int64) (o9 : Nat → Int32) (se : Nat) (sl : Nat) : (Nat → Int64) × (Nat → Int64) → va_W := fun u => match u with | (M7, M8) => [(h, .inr (5, [.ref r0, .ref r1, .ref t0, .ref nk, .ref r4, .ref r5, .ref r6, .ref r7, .ref r8, .ref r9])), (r7, .inl (k 1, 128, .inr (.inl M7))), (r8, .inl (k 1, 128, .inr (.inl M8))), (r9, .inl (k 0, 49, .inl o9))]
def p_X5_addSleepers (k : Nat → ClassId) (z : Nat → Nat) (h : Nat) (r0 : Nat) (r1 : Nat) (t0 : Nat) (nk : Nat) (r4 : Nat) (r5 : Nat) (r6 : Nat) (r7 : Nat) (r8 : Nat) (r9 : Nat) (L7 : Nat → Int64) (L8 : Nat → Int64) (o9 : Nat → Int32) (se : Nat) (sl : Nat) : (Nat → Int64) × (Nat → Int64) → Prop := fun (u : (Nat → Int64) × (Nat → Int64)) => match u with | (M7, M8) => AS o9 L7 L8 M7 M8 se sl (fun _ _ => True)
abbrev q_X5_addSleepers (D : va_G) (k : Nat → ClassId) (z : Nat → Nat) (h : Nat) (r0 : Nat) (r1 : Nat) (t0 : Nat) (nk : Nat) (r4 : Nat) (r5 : Nat) (r6 : Nat) (r7 : Nat) (r8 : Nat) (r9 : Nat) (L7 : Nat → Int64) (L8 : Nat → Int64) (o9 : Nat → Int32) (se : Nat) (sl : Nat) (A : Nat → Prop) : Array Value → State → Outcome → State → Prop := va_Qv (p_X5_addSleepers k z h r0 r1 t0 nk r4 r5 r6 r7 r8 r9 L7 L8 o9 se sl) (fun u9 t9 => BO D (w_X5_addSleepers k z h r0 r1 t0 nk r4 r5 r6 r7 r8 r9 L7 L8 o9 se sl u9) A t9) A
set_option maxHeartbeats 2000000 in
set_option maxRecDepth 100000 in
theorem X5_addSleepers (l : Launch) (D : va_G) (k : Nat → ClassId) (sz : Nat) (z : Nat → Nat) (h : Nat) (r0 : Nat) (r1 : Nat) (t0 : Nat) (nk : Nat) (r4 : Nat) (r5 : Nat) (r6 : Nat) (r7 : Nat) (r8 : Nat) (r9 : Nat) (L7 : Nat → Int64) (L8 : Nat → Int64) (o9 : Nat → Int32) (se : Nat) (sl : Nat) (hse : se < 128) (hsl : sl < 7) (hOB : OB o9) : Met l yX5_addSleepers wsX5_addSleepers r_X5_addSleepers (va_Pc [.ref h, .int (nI se), .int (nI sl)] (PT D k (c_X5_addSleepers k z h r0 r1 t0 nk r4 r5 r6 r7 r8 r9 L7 L8 o9 se sl) sz z)) (q_X5_addSleepers D k z h r0 r1 t0 nk r4 r5 r6 r7 r8 r9 L7 L8 o9 se sl (va_A (c_X5_addSleepers k z h r0 r1 t0 nk r4 r5 r6 r7 r8 r9 L7 L8 o9 se sl) sz)) 0 0 (va_A (c_X5_addSleepers k z h r0 r1 t0 nk r4 r5 r6 r7 r8 r9 L7 L8 o9 se sl) sz) := by
  refine Met.ofW (cc := cX5_addSleepers) (maxL := 7) (ret := none) (by decide) rfl ?_
  intro p e s m args below meth c s₁ B hml hv
  obtain ⟨rfl, ⟨hsz, hP, hG, hD0⟩, hZ⟩ := hv
  have hx := B.exec
  have hb := B.bytes
  have hr := B.returns
  have hts := atoms_spec (ws := wsX5_addSleepers) B.pre
  have hown : s.vm.findClass RX5 = some m.cls := findClass_of_methodNamed B.named
  have hlocks := B.notSynchronized
  have hi5 : ∀ w ∈ wsX50, w ∈ wsX5_addSleepers := fun _ h => List.mem_cons_of_mem _ (List.mem_append_right _ h)
  subst hsz
  have hD := hD0.self (sz := s.heap.size)
  generalize hAe : va_A (c_X5_addSleepers k z h r0 r1 t0 nk r4 r5 r6 r7 r8 r9 L7 L8 o9 se sl) s.heap.size = A at hD hZ ⊢
  have hA : ∀ q : Nat, s.heap.size ≤ q → A q := fun q h => by rw [← hAe]; exact Or.inr h
  have hS : va_S A s.heap s.heap [] := va_S.rf
  have hP : va_P D vwCl [(h, .inr (5, [.ref r0, .ref r1, .ref t0, .ref nk, .ref r4, .ref r5, .ref r6, .ref r7, .ref r8, .ref r9])), (r7, .inl (k 1, 128, .inr (.inl L7))), (r8, .inl (k 1, 128, .inr (.inl L8))), (r9, .inl (k 0, 49, .inl o9))] s.heap := hP
  have hD : va_D A [(h, .inr (5, [.ref r0, .ref r1, .ref t0, .ref nk, .ref r4, .ref r5, .ref r6, .ref r7, .ref r8, .ref r9])), (r7, .inl (k 1, 128, .inr (.inl L7))), (r8, .inl (k 1, 128, .inr (.inl L8))), (r9, .inl (k 0, 49, .inl o9))] := hD
  have hl := lv_entry ([.ref h, .int (nI se), .int (nI sl)]) (n := 7) (Nat.le_of_ble_eq_true rfl)
  rw [lg_entry_eq]
  generalize (lg_sl ([.ref h, .int (nI se), .int (nI sl)]) ++ List.replicate (7 - (lg_sl ([.ref h, .int (nI se), .int (nI sl)])).length) Slot.unset).toArray = ls at hl ⊢
  have hl : lv_has ls 7 [(0, .ref h), (1, .int (nI se)), (2, .int (nI sl))] := hl
  refine lv_iconst (v := 0) hx hb dX5_addSleepers_0 (by decide) ?_
  refine lv_istore_n (lv' := [(3, .int 0), (0, .ref h), (1, .int (nI se)), (2, .int (nI sl))]) hx hb dX5_addSleepers_1 rfl hl (by decide) rfl (fun ls hl => ?_)
  have L1 : ∀ (fu9 : Nat) (i : Nat) (M7 : Nat → Int64) (M8 : Nat → Int64), (i ≤ 7) → (AS o9 L7 L8 M7 M8 se sl (fun s _ => s < i)) → 7 - i < fu9 → ∀ (H : Heap) (locs : List Loc), va_P D vwCl [(h, .inr (5, [.ref r0, .ref r1, .ref t0, .ref nk, .ref r4, .ref r5, .ref r6, .ref r7, .ref r8, .ref r9])), (r7, .inl (k 1, 128, .inr (.inl M7))), (r8, .inl (k 1, 128, .inr (.inl M8))), (r9, .inl (k 0, 49, .inl o9))] H → va_D A [(h, .inr (5, [.ref r0, .ref r1, .ref t0, .ref nk, .ref r4, .ref r5, .ref r6, .ref r7, .ref r8, .ref r9])), (r7, .inl (k 1, 128, .inr (.inl M7))), (r8, .inl (k 1, 128, .inr (.inl M8))), (r9, .inl (k 0, 49, .inl o9))] → va_S A s.heap H locs → ∀ (ls : Array Slot), lv_has ls 7 [(3, .int (nI i)), (0, .ref h), (1, .int (nI se)), (2, .int (nI sl))] → W p l e r_X5_addSleepers s m ([.ref h, .int (nI se), .int (nI sl)] : List Value).toArray below meth c H locs 0 0 (MQ below (q_X5_addSleepers D k z h r0 r1 t0 nk r4 r5 r6 r7 r8 r9 L7 L8 o9 se sl A) ([.ref h, .int (nI se), .int (nI sl)] : List Value).toArray s 0 0 A) (F0 m 2 ls []) := by
    intro fu9
    induction fu9 with
    | zero => intro i M7 M8 hi hAS hmu; exact absurd hmu (Nat.not_lt_zero _)
    | succ fu9 ih =>
      intro i M7 M8 hi hAS hmu H locs hP hD hS ls hl
      refine lv_iload_n hx hb dX5_addSleepers_2 rfl (lv_at hl 0 rfl) ?_
      refine lv_bipush (v := 7) hx hb dX5_addSleepers_3 (by decide) ?_
      refine bn_ge (i := i) (j := 7) (tgt := 153) hx hb dX5_addSleepers_5 (by decide) (by omega) (by omega) (fun c2 => ?_) (fun c2 => ?_)
      · skip
        have hP9 := hP.sub (ws' := [(h, .inr (5, [.ref r0, .ref r1, .ref t0, .ref nk, .ref r4, .ref r5, .ref r6, .ref r7, .ref r8, .ref r9])), (r7, .inl (k 1, 128, .inr (.inl M7))), (r8, .inl (k 1, 128, .inr (.inl M8))), (r9, .inl (k 0, 49, .inl o9))]) [0, 1, 2, 3] rfl
        have hD9 := hD.sub (ws' := [(h, .inr (5, [.ref r0, .ref r1, .ref t0, .ref nk, .ref r4, .ref r5, .ref r6, .ref r7, .ref r8, .ref r9])), (r7, .inl (k 1, 128, .inr (.inl M7))), (r8, .inl (k 1, 128, .inr (.inl M8))), (r9, .inl (k 0, 49, .inl o9))]) [0, 1, 2, 3] (by decide +kernel) rfl
        exact W.vret hx hb hr (fun t9 ht _ => ⟨⟨(M7, M8), rfl, AS_e hAS (by omega), by rw [ht]; exact hP9, hD9⟩, hS.F ht⟩) hS.2.2 dX5_addSleepers_153
      · skip
        refine lv_iload_n hx hb dX5_addSleepers_8 rfl (lv_at hl 2 rfl) ?_
        refine lv_iconst (v := 1) hx hb dX5_addSleepers_9 (by decide) ?_
        refine lv_iload_n hx hb dX5_addSleepers_10 rfl (lv_at hl 0 rfl) ?_
        refine lv_ishl hx hb dX5_addSleepers_11 ?_
        refine lv_ior hx hb dX5_addSleepers_12 ?_
        obtain ⟨mo, emo⟩ : ∃ z9 : Nat, z9 = se ||| 2 ^ i := ⟨_, rfl⟩
        have hmo : mo < 128 := by rw [emo]; exact (or_n se hse i (by omega)).2
        refine tp_i (y := nI mo) ((or_n se hse i (by omega)).1.trans (congrArg nI emo.symm)) ?_
        refine lv_istore (lv' := [(4, .int (nI mo)), (3, .int (nI i)), (0, .ref h), (1, .int (nI se)), (2, .int (nI sl))]) hx hb dX5_addSleepers_13 hl (by decide) rfl (fun ls hl => ?_)
        refine lv_iload hx hb dX5_addSleepers_15 (lv_at hl 0 rfl) ?_
        refine lv_iload_n hx hb dX5_addSleepers_17 rfl (lv_at hl 3 rfl) ?_
        refine lv_icmp_ne (x := nI mo) (y := nI se) (tgt := 25) hx hb dX5_addSleepers_18 (by decide) (fun c3 => ?_) (fun c3 => ?_)
        · skip
          have hlk : lk se i = true := by by_cases q8 : lk se i = true; exact q8; exact absurd (congrArg nI (emo.trans (or_sm se hse i (by omega) q8))) c3
          refine lv_aload_n hx hb dX5_addSleepers_25 rfl (lv_at hl 2 rfl) ?_
          refine va_get (D := D) (ci := 5) (v := .ref r9) (C := RX5) (T := TX5) (N := 10) hx hb hts hi5 hown hG.1 hP 0 rfl rfl 9 (by decide) (hts (.fieldLink RX5 41 "SleptMatters$Rows" "open" "[I") (List.mem_cons_of_mem _ (List.mem_append_left _ (List.mem_of_getElem? (i := 0) rfl)))) (fun _ h9 => h9) rfl dX5_addSleepers_26 ?_
          refine lv_iload_n hx hb dX5_addSleepers_29 rfl (lv_at hl 4 rfl) ?_
          refine lv_bipush (v := 7) hx hb dX5_addSleepers_30 (by decide) ?_
          refine lv_imul hx hb dX5_addSleepers_32 ?_
          refine tp_i (y := nI (sl * 7)) (pk_mul sl 7) ?_
          refine lv_iload_n hx hb dX5_addSleepers_33 rfl (lv_at hl 1 rfl) ?_
          refine lv_iadd hx hb dX5_addSleepers_34 ?_
          refine tp_i (y := nI (sl * 7 + i)) (nI_add (sl * 7) i) ?_
          refine va_iald hx hb hG.1 hP 3 0 rfl rfl (vp_in_nI (by omega) (by omega)) dX5_addSleepers_35 ?_
          refine tp_i (y := o9 (sl * 7 + i)) (congrArg _ (nI_clamp (n := sl * 7 + i) (by omega))) ?_
          obtain ⟨vv, hvv, evv⟩ := hOB (sl * 7 + i) (by omega)
          refine tp_i (y := nI vv) evv ?_
          refine lv_istore (lv' := [(5, .int (nI vv)), (4, .int (nI mo)), (3, .int (nI i)), (0, .ref h), (1, .int (nI se)), (2, .int (nI sl))]) hx hb dX5_addSleepers_36 hl (by decide) rfl (fun ls hl => ?_)
          refine lv_iconst (v := 0) hx hb dX5_addSleepers_38 (by decide) ?_
          refine lv_istore (lv' := [(6, .int 0), (5, .int (nI vv)), (4, .int (nI mo)), (3, .int (nI i)), (0, .ref h), (1, .int (nI se)), (2, .int (nI sl))]) hx hb dX5_addSleepers_39 hl (by decide) rfl (fun ls hl => ?_)
          have L4 : ∀ (fu9 : Nat) (i2 : Nat) (N7 : Nat → Int64) (N8 : Nat → Int64), (i2 ≤ 6) → (AS o9 L7 L8 N7 N8 se sl (fun s t => s < i ∨ (s = i ∧ t < i2))) → 6 - i2 < fu9 → ∀ (H : Heap) (locs : List Loc), va_P D vwCl [(h, .inr (5, [.ref r0, .ref r1, .ref t0, .ref nk, .ref r4, .ref r5, .ref r6, .ref r7, .ref r8, .ref r9])), (r7, .inl (k 1, 128, .inr (.inl N7))), (r8, .inl (k 1, 128, .inr (.inl N8))), (r9, .inl (k 0, 49, .inl o9))] H → va_D A [(h, .inr (5, [.ref r0, .ref r1, .ref t0, .ref nk, .ref r4, .ref r5, .ref r6, .ref r7, .ref r8, .ref r9])), (r7, .inl (k 1, 128, .inr (.inl N7))), (r8, .inl (k 1, 128, .inr (.inl N8))), (r9, .inl (k 0, 49, .inl o9))] → va_S A s.heap H locs → ∀ (ls : Array Slot), lv_has ls 7 [(6, .int (nI i2)), (5, .int (nI vv)), (4, .int (nI mo)), (3, .int (nI i)), (0, .ref h), (1, .int (nI se)), (2, .int (nI sl))] → W p l e r_X5_addSleepers s m ([.ref h, .int (nI se), .int (nI sl)] : List Value).toArray below meth c H locs 0 0 (MQ below (q_X5_addSleepers D k z h r0 r1 t0 nk r4 r5 r6 r7 r8 r9 L7 L8 o9 se sl A) ([.ref h, .int (nI se), .int (nI sl)] : List Value).toArray s 0 0 A) (F0 m 41 ls []) := by
            intro fu9L4
            induction fu9L4 with
            | zero => intro i2 N7 N8 hi2 hAS8 hmuL4; exact absurd hmuL4 (Nat.not_lt_zero _)
            | succ fu9L4 ihL4 =>
              intro i2 N7 N8 hi2 hAS8 hmuL4 H locs hP hD hS ls hl
              refine lv_iload hx hb dX5_addSleepers_41 (lv_at hl 0 rfl) ?_
              refine lv_bipush (v := 6) hx hb dX5_addSleepers_43 (by decide) ?_
              refine bn_ge (i := i2) (j := 6) (tgt := 123) hx hb dX5_addSleepers_45 (by decide) (by omega) (by omega) (fun c5 => ?_) (fun c5 => ?_)
              · skip
                have hi26 : i2 = 6 := by omega
                refine lv_iload hx hb dX5_addSleepers_123 (lv_at hl 1 rfl) ?_
                refine lv_bipush (v := 6) hx hb dX5_addSleepers_125 (by decide) ?_
                refine lv_ishr hx hb dX5_addSleepers_127 ?_
                refine lv_if_eq (x := (nI vv) >>> ((6 : Int32) &&& 31)) (tgt := 147) hx hb dX5_addSleepers_128 (by decide) (fun c6 => ?_) (fun c6 => ?_)
                · skip
                  have hno6 : ¬ (lk se i = true ∧ ob o9 sl i 6 = true) := fun q8 => (hb_6 vv hvv).mp c6 (by rw [← ob_n evv hvv]; exact q8.2)
                  refine lv_iinc (v := nI (i + 1)) (lv' := [(3, .int (nI (i + 1))), (6, .int (nI i2)), (5, .int (nI vv)), (4, .int (nI mo)), (0, .ref h), (1, .int (nI se)), (2, .int (nI sl))]) hx hb dX5_addSleepers_147 hl (k := 3) rfl (nI_add i 1) (by decide) rfl (fun ls hl => ?_)
                  refine lv_goto (tgt := 2) hx hb dX5_addSleepers_150 (by decide) ?_
                  exact ih (i + 1) N7 N8 (by omega) (by rw [hi26] at hAS8; exact AS_o (AS_i hAS8 hno6)) (by omega) _ _ (hP.sub [0, 1, 2, 3] rfl) (hD.sub [0, 1, 2, 3] (by decide +kernel) rfl) hS ls (lv_sub hl [0, 4, 5, 6] rfl)
                · skip
                  have hob6 : ob o9 sl i 6 = true := by rw [ob_n evv hvv]; by_cases q8 : vv.testBit 6 = true; exact q8; exact absurd ((hb_6 vv hvv).mpr q8) c6
                  refine lv_aload_n hx hb dX5_addSleepers_131 rfl (lv_at hl 4 rfl) ?_
                  refine va_get (D := D) (ci := 5) (v := .ref r8) (C := RX5) (T := TX5) (N := 10) hx hb hts hi5 hown hG.1 hP 0 rfl rfl 8 (by decide) (hts (.fieldLink RX5 38 "SleptMatters$Rows" "high" "[J") (List.mem_cons_of_mem _ (List.mem_append_left _ (List.mem_of_getElem? (i := 2) rfl)))) (fun _ h9 => h9) rfl dX5_addSleepers_132 ?_
                  refine lv_iload hx hb dX5_addSleepers_135 (lv_at hl 2 rfl) ?_
                  refine lv_dup2_11 hx hb dX5_addSleepers_137 rfl rfl ?_
                  refine va_lald hx hb hG.1 hP 2 1 rfl rfl (vp_in_nI (by omega) (by omega)) dX5_addSleepers_138 ?_
                  refine tp_l (y := N8 mo) (congrArg _ (nI_clamp (n := mo) (by omega))) ?_
                  refine lv_aload_n hx hb dX5_addSleepers_139 rfl (lv_at hl 4 rfl) ?_
                  refine va_get (D := D) (ci := 5) (v := .ref r7) (C := RX5) (T := TX5) (N := 10) hx hb hts hi5 hown hG.1 hP 0 rfl rfl 7 (by decide) (hts (.fieldLink RX5 35 "SleptMatters$Rows" "low" "[J") (List.mem_cons_of_mem _ (List.mem_append_left _ (List.mem_of_getElem? (i := 1) rfl)))) (fun _ h9 => h9) rfl dX5_addSleepers_140 ?_
                  refine lv_iload_n hx hb dX5_addSleepers_143 rfl (lv_at hl 5 rfl) ?_
                  refine va_lald hx hb hG.1 hP 1 1 rfl rfl (vp_in_nI (by omega) (by omega)) dX5_addSleepers_144 ?_
                  refine tp_l (y := N7 se) (congrArg _ (nI_clamp (n := se) (by omega))) ?_
                  refine lv_lor hx hb dX5_addSleepers_145 ?_
                  refine va_last hx hb hG.1 hP hD hS 2 1 rfl rfl (vp_in_nI (by omega) (by omega)) dX5_addSleepers_146 (fun H locs hP hD hS => ?_)
                  rw [nI_clamp (n := mo) (by omega)] at hP hD
                  have hP : va_P D vwCl [(h, .inr (5, [.ref r0, .ref r1, .ref t0, .ref nk, .ref r4, .ref r5, .ref r6, .ref r7, .ref r8, .ref r9])), (r7, .inl (k 1, 128, .inr (.inl N7))), (r8, .inl (k 1, 128, .inr (.inl (vp_updL N8 mo ((N8 mo) ||| (N7 se)))))), (r9, .inl (k 0, 49, .inl o9))] H := hP
                  have hD : va_D A [(h, .inr (5, [.ref r0, .ref r1, .ref t0, .ref nk, .ref r4, .ref r5, .ref r6, .ref r7, .ref r8, .ref r9])), (r7, .inl (k 1, 128, .inr (.inl N7))), (r8, .inl (k 1, 128, .inr (.inl (vp_updL N8 mo ((N8 mo) ||| (N7 se)))))), (r9, .inl (k 0, 49, .inl o9))] := hD
                  refine lv_iinc (v := nI (i + 1)) (lv' := [(3, .int (nI (i + 1))), (6, .int (nI i2)), (5, .int (nI vv)), (4, .int (nI mo)), (0, .ref h), (1, .int (nI se)), (2, .int (nI sl))]) hx hb dX5_addSleepers_147 hl (k := 3) rfl (nI_add i 1) (by decide) rfl (fun ls hl => ?_)
                  refine lv_goto (tgt := 2) hx hb dX5_addSleepers_150 (by decide) ?_
                  exact ih (i + 1) N7 (vp_updL N8 mo ((N8 mo) ||| (N7 se))) (by omega) (by rw [hi26] at hAS8; rw [emo]; exact AS_o (AS_j (AS_6 hAS8 hse (by omega) hlk hob6))) (by omega) _ _ (hP.sub [0, 1, 2, 3] rfl) (hD.sub [0, 1, 2, 3] (by decide +kernel) rfl) hS ls (lv_sub hl [0, 4, 5, 6] rfl)
              · skip
                refine lv_iload hx hb dX5_addSleepers_48 (lv_at hl 1 rfl) ?_
                refine lv_iload hx hb dX5_addSleepers_50 (lv_at hl 0 rfl) ?_
                refine lv_ishr hx hb dX5_addSleepers_52 ?_
                refine lv_iconst (v := 1) hx hb dX5_addSleepers_53 (by decide) ?_
                refine lv_iand hx hb dX5_addSleepers_54 ?_
                refine lv_if_ne (x := ((nI vv) >>> ((nI i2) &&& 31)) &&& 1) (tgt := 61) hx hb dX5_addSleepers_55 (by decide) (fun c7 => ?_) (fun c7 => ?_)
                · skip
                  have hob : ob o9 sl i i2 = true := by rw [ob_n evv hvv]; by_cases q8 : vv.testBit i2 = true; exact q8; exact absurd ((hb_n vv hvv i2 (by omega)).mpr q8) c7
                  refine lv_aload_n hx hb dX5_addSleepers_61 rfl (lv_at hl 4 rfl) ?_
                  refine va_get (D := D) (ci := 5) (v := .ref r7) (C := RX5) (T := TX5) (N := 10) hx hb hts hi5 hown hG.1 hP 0 rfl rfl 7 (by decide) (hts (.fieldLink RX5 35 "SleptMatters$Rows" "low" "[J") (List.mem_cons_of_mem _ (List.mem_append_left _ (List.mem_of_getElem? (i := 1) rfl)))) (fun _ h9 => h9) rfl dX5_addSleepers_62 ?_
                  refine lv_iload hx hb dX5_addSleepers_65 (lv_at hl 2 rfl) ?_
                  refine lv_dup2_11 hx hb dX5_addSleepers_67 rfl rfl ?_
                  refine va_lald hx hb hG.1 hP 1 1 rfl rfl (vp_in_nI (by omega) (by omega)) dX5_addSleepers_68 ?_
                  refine tp_l (y := N7 mo) (congrArg _ (nI_clamp (n := mo) (by omega))) ?_
                  refine lv_aload_n hx hb dX5_addSleepers_69 rfl (lv_at hl 4 rfl) ?_
                  refine va_get (D := D) (ci := 5) (v := .ref r7) (C := RX5) (T := TX5) (N := 10) hx hb hts hi5 hown hG.1 hP 0 rfl rfl 7 (by decide) (hts (.fieldLink RX5 35 "SleptMatters$Rows" "low" "[J") (List.mem_cons_of_mem _ (List.mem_append_left _ (List.mem_of_getElem? (i := 1) rfl)))) (fun _ h9 => h9) rfl dX5_addSleepers_70 ?_
                  refine lv_iload_n hx hb dX5_addSleepers_73 rfl (lv_at hl 5 rfl) ?_
                  refine va_lald hx hb hG.1 hP 1 1 rfl rfl (vp_in_nI (by omega) (by omega)) dX5_addSleepers_74 ?_
                  refine tp_l (y := N7 se) (congrArg _ (nI_clamp (n := se) (by omega))) ?_
                  refine va_getsN (C := RX9) (ref := RX9) (host := RX9) hx hb (hZ.2.2.2.2.2.2.2.2.2.2.2.2.2.2.2.2.2.2.2.1) hS hown (va_Nw.use rfl hZ.2.2.2.2.2.1) (fun _ h9 => h9) dX5_addSleepers_75 ?_
                  refine lv_iload hx hb dX5_addSleepers_78 (lv_at hl 0 rfl) ?_
                  refine va_tl (v := .long (stv5 i2)) hx hb (hZ.2.2.2.2.2.2.2.2.2.2.2.2.2.2.2.2.2.2.2.2.1) hS (vp_in_nI (by omega) (by omega)) (congrArg (fun j => Value.long (stv5 j)) (nI_clamp (n := i2) (by omega))) dX5_addSleepers_80 ?_
                  refine lv_land hx hb dX5_addSleepers_81 ?_
                  refine lv_iconst (v := 1) hx hb dX5_addSleepers_82 (by decide) ?_
                  refine lv_iload hx hb dX5_addSleepers_83 (lv_at hl 0 rfl) ?_
                  refine lv_ishl hx hb dX5_addSleepers_85 ?_
                  refine lv_lshl (v := ((N7 se) &&& (stv5 i2)) <<< (((1 : Int32) <<< ((nI i2) &&& 31)).toInt64 &&& 63)) hx hb dX5_addSleepers_86 rfl ?_
                  refine lv_lor hx hb dX5_addSleepers_87 ?_
                  refine va_last hx hb hG.1 hP hD hS 1 1 rfl rfl (vp_in_nI (by omega) (by omega)) dX5_addSleepers_88 (fun H locs hP hD hS => ?_)
                  rw [nI_clamp (n := mo) (by omega)] at hP hD
                  have hP : va_P D vwCl [(h, .inr (5, [.ref r0, .ref r1, .ref t0, .ref nk, .ref r4, .ref r5, .ref r6, .ref r7, .ref r8, .ref r9])), (r7, .inl (k 1, 128, .inr (.inl (vp_updL N7 mo ((N7 mo) ||| (((N7 se) &&& (stv5 i2)) <<< (((1 : Int32) <<< ((nI i2) &&& 31)).toInt64 &&& 63))))))), (r8, .inl (k 1, 128, .inr (.inl N8))), (r9, .inl (k 0, 49, .inl o9))] H := hP
                  have hD : va_D A [(h, .inr (5, [.ref r0, .ref r1, .ref t0, .ref nk, .ref r4, .ref r5, .ref r6, .ref r7, .ref r8, .ref r9])), (r7, .inl (k 1, 128, .inr (.inl (vp_updL N7 mo ((N7 mo) ||| (((N7 se) &&& (stv5 i2)) <<< (((1 : Int32) <<< ((nI i2) &&& 31)).toInt64 &&& 63))))))), (r8, .inl (k 1, 128, .inr (.inl N8))), (r9, .inl (k 0, 49, .inl o9))] := hD
                  refine lv_aload_n hx hb dX5_addSleepers_89 rfl (lv_at hl 4 rfl) ?_
                  refine va_get (D := D) (ci := 5) (v := .ref r8) (C := RX5) (T := TX5) (N := 10) hx hb hts hi5 hown hG.1 hP 0 rfl rfl 8 (by decide) (hts (.fieldLink RX5 38 "SleptMatters$Rows" "high" "[J") (List.mem_cons_of_mem _ (List.mem_append_left _ (List.mem_of_getElem? (i := 2) rfl)))) (fun _ h9 => h9) rfl dX5_addSleepers_90 ?_
                  refine lv_iload hx hb dX5_addSleepers_93 (lv_at hl 2 rfl) ?_
                  refine lv_dup2_11 hx hb dX5_addSleepers_95 rfl rfl ?_
                  refine va_lald hx hb hG.1 hP 2 1 rfl rfl (vp_in_nI (by omega) (by omega)) dX5_addSleepers_96 ?_
                  refine tp_l (y := N8 mo) (congrArg _ (nI_clamp (n := mo) (by omega))) ?_
                  refine lv_aload_n hx hb dX5_addSleepers_97 rfl (lv_at hl 4 rfl) ?_
                  refine va_get (D := D) (ci := 5) (v := .ref r8) (C := RX5) (T := TX5) (N := 10) hx hb hts hi5 hown hG.1 hP 0 rfl rfl 8 (by decide) (hts (.fieldLink RX5 38 "SleptMatters$Rows" "high" "[J") (List.mem_cons_of_mem _ (List.mem_append_left _ (List.mem_of_getElem? (i := 2) rfl)))) (fun _ h9 => h9) rfl dX5_addSleepers_98 ?_
                  refine lv_iload_n hx hb dX5_addSleepers_101 rfl (lv_at hl 5 rfl) ?_
                  refine va_lald hx hb hG.1 hP 2 1 rfl rfl (vp_in_nI (by omega) (by omega)) dX5_addSleepers_102 ?_
                  refine tp_l (y := N8 se) (congrArg _ (nI_clamp (n := se) (by omega))) ?_
                  refine va_getsN (C := RX9) (ref := RX9) (host := RX9) hx hb (hZ.2.2.2.2.2.2.2.2.2.2.2.2.2.2.2.2.2.2.2.1) hS hown (va_Nw.use rfl hZ.2.2.2.2.2.1) (fun _ h9 => h9) dX5_addSleepers_103 ?_
                  refine lv_iload hx hb dX5_addSleepers_106 (lv_at hl 0 rfl) ?_
                  refine va_tl (v := .long (stv5 i2)) hx hb (hZ.2.2.2.2.2.2.2.2.2.2.2.2.2.2.2.2.2.2.2.2.1) hS (vp_in_nI (by omega) (by omega)) (congrArg (fun j => Value.long (stv5 j)) (nI_clamp (n := i2) (by omega))) dX5_addSleepers_108 ?_
                  refine lv_land hx hb dX5_addSleepers_109 ?_
                  refine lv_iconst (v := 1) hx hb dX5_addSleepers_110 (by decide) ?_
                  refine lv_iload hx hb dX5_addSleepers_111 (lv_at hl 0 rfl) ?_
                  refine lv_ishl hx hb dX5_addSleepers_113 ?_
                  refine lv_lshl (v := ((N8 se) &&& (stv5 i2)) <<< (((1 : Int32) <<< ((nI i2) &&& 31)).toInt64 &&& 63)) hx hb dX5_addSleepers_114 rfl ?_
                  refine lv_lor hx hb dX5_addSleepers_115 ?_
                  refine va_last hx hb hG.1 hP hD hS 2 1 rfl rfl (vp_in_nI (by omega) (by omega)) dX5_addSleepers_116 (fun H locs hP hD hS => ?_)
                  rw [nI_clamp (n := mo) (by omega)] at hP hD
                  have hP : va_P D vwCl [(h, .inr (5, [.ref r0, .ref r1, .ref t0, .ref nk, .ref r4, .ref r5, .ref r6, .ref r7, .ref r8, .ref r9])), (r7, .inl (k 1, 128, .inr (.inl (vp_updL N7 mo ((N7 mo) ||| (((N7 se) &&& (stv5 i2)) <<< (((1 : Int32) <<< ((nI i2) &&& 31)).toInt64 &&& 63))))))), (r8, .inl (k 1, 128, .inr (.inl (vp_updL N8 mo ((N8 mo) ||| (((N8 se) &&& (stv5 i2)) <<< (((1 : Int32) <<< ((nI i2) &&& 31)).toInt64 &&& 63))))))), (r9, .inl (k 0, 49, .inl o9))] H := hP
                  have hD : va_D A [(h, .inr (5, [.ref r0, .ref r1, .ref t0, .ref nk, .ref r4, .ref r5, .ref r6, .ref r7, .ref r8, .ref r9])), (r7, .inl (k 1, 128, .inr (.inl (vp_updL N7 mo ((N7 mo) ||| (((N7 se) &&& (stv5 i2)) <<< (((1 : Int32) <<< ((nI i2) &&& 31)).toInt64 &&& 63))))))), (r8, .inl (k 1, 128, .inr (.inl (vp_updL N8 mo ((N8 mo) ||| (((N8 se) &&& (stv5 i2)) <<< (((1 : Int32) <<< ((nI i2) &&& 31)).toInt64 &&& 63))))))), (r9, .inl (k 0, 49, .inl o9))] := hD
                  refine lv_iinc (v := nI (i2 + 1)) (lv' := [(6, .int (nI (i2 + 1))), (5, .int (nI vv)), (4, .int (nI mo)), (3, .int (nI i)), (0, .ref h), (1, .int (nI se)), (2, .int (nI sl))]) hx hb dX5_addSleepers_117 hl (k := 0) rfl (nI_add i2 1) (by decide) rfl (fun ls hl => ?_)
                  refine lv_goto (tgt := 41) hx hb dX5_addSleepers_120 (by decide) ?_
                  exact ihL4 (i2 + 1) (vp_updL N7 mo ((N7 mo) ||| (((N7 se) &&& (stv5 i2)) <<< (((1 : Int32) <<< ((nI i2) &&& 31)).toInt64 &&& 63)))) (vp_updL N8 mo ((N8 mo) ||| (((N8 se) &&& (stv5 i2)) <<< (((1 : Int32) <<< ((nI i2) &&& 31)).toInt64 &&& 63)))) (by omega) (by rw [emo]; exact AS_j (AS_h hAS8 hse (by omega) (by omega) hlk hob (fun b hb => by rw [stv5_n i2 (by omega)]; exact bt_shl (by omega) hb) (fun b hb => by rw [stv5_n i2 (by omega)]; exact bt_shl (by omega) hb))) (by omega) _ _ (hP.sub [0, 1, 2, 3] rfl) (hD.sub [0, 1, 2, 3] (by decide +kernel) rfl) hS ls (lv_sub hl [0, 1, 2, 3, 4, 5, 6] rfl)
                · skip
                  have hno : ¬ (lk se i = true ∧ ob o9 sl i i2 = true) := fun q8 => (hb_n vv hvv i2 (by omega)).mp c7 (by rw [← ob_n evv hvv]; exact q8.2)
                  refine lv_goto (tgt := 117) hx hb dX5_addSleepers_58 (by decide) ?_
                  refine lv_iinc (v := nI (i2 + 1)) (lv' := [(6, .int (nI (i2 + 1))), (5, .int (nI vv)), (4, .int (nI mo)), (3, .int (nI i)), (0, .ref h), (1, .int (nI se)), (2, .int (nI sl))]) hx hb dX5_addSleepers_117 hl (k := 0) rfl (nI_add i2 1) (by decide) rfl (fun ls hl => ?_)
                  refine lv_goto (tgt := 41) hx hb dX5_addSleepers_120 (by decide) ?_
                  exact ihL4 (i2 + 1) N7 N8 (by omega) (AS_i hAS8 hno) (by omega) _ _ (hP.sub [0, 1, 2, 3] rfl) (hD.sub [0, 1, 2, 3] (by decide +kernel) rfl) hS ls (lv_sub hl [0, 1, 2, 3, 4, 5, 6] rfl)
          exact L4 _ 0 M7 M8 (Nat.zero_le _) (AS_b hAS) (Nat.lt_succ_self _) _ _ hP hD hS ls (lv_sub hl [0, 1, 2, 3, 4, 5, 6] rfl)
        · skip
          have hnl : ¬ lk se i = true := fun q8 => (or_b se hse i (by omega) q8).2 (emo.symm.trans ((nI_eq (by omega) (by omega)).mp c3))
          refine lv_iconst (v := 0) hx hb dX5_addSleepers_21 (by decide) ?_
          refine lv_goto (tgt := 36) hx hb dX5_addSleepers_22 (by decide) ?_
          obtain ⟨vv, hvv, evv, hz9⟩ : ∃ v : Nat, v < 128 ∧ (0 : Int32) = nI v ∧ v = 0 := ⟨0, by decide, rfl, rfl⟩
          refine tp_i (y := nI vv) evv ?_
          refine lv_istore (lv' := [(5, .int (nI vv)), (4, .int (nI mo)), (3, .int (nI i)), (0, .ref h), (1, .int (nI se)), (2, .int (nI sl))]) hx hb dX5_addSleepers_36 hl (by decide) rfl (fun ls hl => ?_)
          refine lv_iconst (v := 0) hx hb dX5_addSleepers_38 (by decide) ?_
          refine lv_istore (lv' := [(6, .int 0), (5, .int (nI vv)), (4, .int (nI mo)), (3, .int (nI i)), (0, .ref h), (1, .int (nI se)), (2, .int (nI sl))]) hx hb dX5_addSleepers_39 hl (by decide) rfl (fun ls hl => ?_)
          have L8 : ∀ (fu9 : Nat) (i2 : Nat) (N7 : Nat → Int64) (N8 : Nat → Int64), (i2 ≤ 6) → (AS o9 L7 L8 N7 N8 se sl (fun s t => s < i ∨ (s = i ∧ t < i2))) → 6 - i2 < fu9 → ∀ (H : Heap) (locs : List Loc), va_P D vwCl [(h, .inr (5, [.ref r0, .ref r1, .ref t0, .ref nk, .ref r4, .ref r5, .ref r6, .ref r7, .ref r8, .ref r9])), (r7, .inl (k 1, 128, .inr (.inl N7))), (r8, .inl (k 1, 128, .inr (.inl N8))), (r9, .inl (k 0, 49, .inl o9))] H → va_D A [(h, .inr (5, [.ref r0, .ref r1, .ref t0, .ref nk, .ref r4, .ref r5, .ref r6, .ref r7, .ref r8, .ref r9])), (r7, .inl (k 1, 128, .inr (.inl N7))), (r8, .inl (k 1, 128, .inr (.inl N8))), (r9, .inl (k 0, 49, .inl o9))] → va_S A s.heap H locs → ∀ (ls : Array Slot), lv_has ls 7 [(6, .int (nI i2)), (5, .int (nI vv)), (4, .int (nI mo)), (3, .int (nI i)), (0, .ref h), (1, .int (nI se)), (2, .int (nI sl))] → W p l e r_X5_addSleepers s m ([.ref h, .int (nI se), .int (nI sl)] : List Value).toArray below meth c H locs 0 0 (MQ below (q_X5_addSleepers D k z h r0 r1 t0 nk r4 r5 r6 r7 r8 r9 L7 L8 o9 se sl A) ([.ref h, .int (nI se), .int (nI sl)] : List Value).toArray s 0 0 A) (F0 m 41 ls []) := by
            intro fu9L8
            induction fu9L8 with
            | zero => intro i2 N7 N8 hi2 hAS8 hmuL8; exact absurd hmuL8 (Nat.not_lt_zero _)
            | succ fu9L8 ihL8 =>
              intro i2 N7 N8 hi2 hAS8 hmuL8 H locs hP hD hS ls hl
              refine lv_iload hx hb dX5_addSleepers_41 (lv_at hl 0 rfl) ?_
              refine lv_bipush (v := 6) hx hb dX5_addSleepers_43 (by decide) ?_
              refine bn_ge (i := i2) (j := 6) (tgt := 123) hx hb dX5_addSleepers_45 (by decide) (by omega) (by omega) (fun c9 => ?_) (fun c9 => ?_)
              · skip
                have hi26 : i2 = 6 := by omega
                refine lv_iload hx hb dX5_addSleepers_123 (lv_at hl 1 rfl) ?_
                refine lv_bipush (v := 6) hx hb dX5_addSleepers_125 (by decide) ?_
                refine lv_ishr hx hb dX5_addSleepers_127 ?_
                refine lv_if_eq (x := (nI vv) >>> ((6 : Int32) &&& 31)) (tgt := 147) hx hb dX5_addSleepers_128 (by decide) (fun c10 => ?_) (fun c10 => absurd ((hb_6 vv hvv).mpr (by rw [hz9, Nat.zero_testBit]; decide)) c10)
                refine lv_iinc (v := nI (i + 1)) (lv' := [(3, .int (nI (i + 1))), (6, .int (nI i2)), (5, .int (nI vv)), (4, .int (nI mo)), (0, .ref h), (1, .int (nI se)), (2, .int (nI sl))]) hx hb dX5_addSleepers_147 hl (k := 3) rfl (nI_add i 1) (by decide) rfl (fun ls hl => ?_)
                refine lv_goto (tgt := 2) hx hb dX5_addSleepers_150 (by decide) ?_
                exact ih (i + 1) N7 N8 (by omega) (by rw [hi26] at hAS8; exact AS_o (AS_i hAS8 (fun q8 => hnl q8.1))) (by omega) _ _ (hP.sub [0, 1, 2, 3] rfl) (hD.sub [0, 1, 2, 3] (by decide +kernel) rfl) hS ls (lv_sub hl [0, 4, 5, 6] rfl)
              · skip
                refine lv_iload hx hb dX5_addSleepers_48 (lv_at hl 1 rfl) ?_
                refine lv_iload hx hb dX5_addSleepers_50 (lv_at hl 0 rfl) ?_
                refine lv_ishr hx hb dX5_addSleepers_52 ?_
                refine lv_iconst (v := 1) hx hb dX5_addSleepers_53 (by decide) ?_
                refine lv_iand hx hb dX5_addSleepers_54 ?_
                refine lv_if_ne (x := ((nI vv) >>> ((nI i2) &&& 31)) &&& 1) (tgt := 61) hx hb dX5_addSleepers_55 (by decide) (fun c11 => absurd ((hb_n vv hvv i2 (by omega)).mpr (by rw [hz9, Nat.zero_testBit]; decide)) c11) (fun c11 => ?_)
                refine lv_goto (tgt := 117) hx hb dX5_addSleepers_58 (by decide) ?_
                refine lv_iinc (v := nI (i2 + 1)) (lv' := [(6, .int (nI (i2 + 1))), (5, .int (nI vv)), (4, .int (nI mo)), (3, .int (nI i)), (0, .ref h), (1, .int (nI se)), (2, .int (nI sl))]) hx hb dX5_addSleepers_117 hl (k := 0) rfl (nI_add i2 1) (by decide) rfl (fun ls hl => ?_)
                refine lv_goto (tgt := 41) hx hb dX5_addSleepers_120 (by decide) ?_
                exact ihL8 (i2 + 1) N7 N8 (by omega) (AS_i hAS8 (fun q8 => hnl q8.1)) (by omega) _ _ (hP.sub [0, 1, 2, 3] rfl) (hD.sub [0, 1, 2, 3] (by decide +kernel) rfl) hS ls (lv_sub hl [0, 1, 2, 3, 4, 5, 6] rfl)
          exact L8 _ 0 M7 M8 (Nat.zero_le _) (AS_b hAS) (Nat.lt_succ_self _) _ _ hP hD hS ls (lv_sub hl [0, 1, 2, 3, 4, 5, 6] rfl)
  exact L1 _ 0 L7 L8 (Nat.zero_le _) (AS_0 (fun s _ q8 => absurd q8 (Nat.not_lt_zero s))) (Nat.lt_succ_self _) _ _ hP hD hS ls (lv_sub hl [0, 1, 2, 3] rfl)

abbrev c_X5_reach (k : Nat → ClassId) (z : Nat → Nat) (h : Nat) (r0 : Nat) (r1 : Nat) (t0 : Nat) (nk : Nat) (r4 : Nat) (r5 : Nat) (r6 : Nat) (r7 : Nat) (r8 : Nat) (r9 : Nat) (L7 : Nat → Int64) (L8 : Nat → Int64) (o9 : Nat → Int32) (nn : Nat) : va_W := [(h, .inr (5, [.ref r0, .ref r1, .ref t0, .ref nk, .ref r4, .ref r5, .ref r6, .ref r7, .ref r8, .ref r9])), (r7, .inl (k 1, 128, .inr (.inl L7))), (r8, .inl (k 1, 128, .inr (.inl L8))), (r9, .inl (k 0, 49, .inl o9))]
abbrev r_X5_reach : Room := { frames := 1, cells := 0, slots := 0, locals := 26 }
def w_X5_reach (k : Nat → ClassId) (z : Nat → Nat) (h : Nat) (r0 : Nat) (r1 : Nat) (t0 : Nat) (nk : Nat) (r4 : Nat) (r5 : Nat) (r6 : Nat) (r7 : Nat) (r8 : Nat) (r9 : Nat) (L7 : Nat → Int64) (L8 : Nat → Int64) (o9 : Nat → Int32) (nn : Nat) : (Nat → Int64) × (Nat → Int64) → va_W := fun u => match u with | (M7, M8) => [(h, .inr (5, [.ref r0, .ref r1, .ref t0, .ref nk, .ref r4, .ref r5, .ref r6, .ref r7, .ref r8, .ref r9])), (r7, .inl (k 1, 128, .inr (.inl M7))), (r8, .inl (k 1, 128, .inr (.inl M8))), (r9, .inl (k 0, 49, .inl o9))]
def p_X5_reach (k : Nat → ClassId) (z : Nat → Nat) (h : Nat) (r0 : Nat) (r1 : Nat) (t0 : Nat) (nk : Nat) (r4 : Nat) (r5 : Nat) (r6 : Nat) (r7 : Nat) (r8 : Nat) (r9 : Nat) (L7 : Nat → Int64) (L8 : Nat → Int64) (o9 : Nat → Int32) (nn : Nat) : Int32 → (Nat → Int64) × (Nat → Int64) → Prop := fun (r : Int32) (u : (Nat → Int64) × (Nat → Int64)) => match u with | (M7, M8) => ((r = 0 ∨ r = 1) ∧ RS o9 nn 128 M7 M8 ∧ RR nn 128 r M7 M8)
abbrev q_X5_reach (D : va_G) (k : Nat → ClassId) (z : Nat → Nat) (h : Nat) (r0 : Nat) (r1 : Nat) (t0 : Nat) (nk : Nat) (r4 : Nat) (r5 : Nat) (r6 : Nat) (r7 : Nat) (r8 : Nat) (r9 : Nat) (L7 : Nat → Int64) (L8 : Nat → Int64) (o9 : Nat → Int32) (nn : Nat) (A : Nat → Prop) : Array Value → State → Outcome → State → Prop := va_Qi (p_X5_reach k z h r0 r1 t0 nk r4 r5 r6 r7 r8 r9 L7 L8 o9 nn) (fun u9 t9 => BO D (w_X5_reach k z h r0 r1 t0 nk r4 r5 r6 r7 r8 r9 L7 L8 o9 nn u9) A t9) A
set_option maxHeartbeats 2000000 in
set_option maxRecDepth 100000 in
theorem X5_reach (l : Launch) (D : va_G) (k : Nat → ClassId) (sz : Nat) (z : Nat → Nat) (h : Nat) (r0 : Nat) (r1 : Nat) (t0 : Nat) (nk : Nat) (r4 : Nat) (r5 : Nat) (r6 : Nat) (r7 : Nat) (r8 : Nat) (r9 : Nat) (L7 : Nat → Int64) (L8 : Nat → Int64) (o9 : Nat → Int32) (nn : Nat) (hnn : nn ≤ 7) (hOB : OB o9) : Met l yX5_reach wsX5_reach r_X5_reach (va_Pc [.ref h, .int (nI nn)] (PT D k (c_X5_reach k z h r0 r1 t0 nk r4 r5 r6 r7 r8 r9 L7 L8 o9 nn) sz z)) (q_X5_reach D k z h r0 r1 t0 nk r4 r5 r6 r7 r8 r9 L7 L8 o9 nn (va_A (c_X5_reach k z h r0 r1 t0 nk r4 r5 r6 r7 r8 r9 L7 L8 o9 nn) sz)) 0 0 (va_A (c_X5_reach k z h r0 r1 t0 nk r4 r5 r6 r7 r8 r9 L7 L8 o9 nn) sz) := by
  refine Met.ofW (cc := cX5_reach) (maxL := 5) (ret := (some .boolean)) (by decide) rfl ?_
  intro p e s m args below meth c s₁ B hml hv
  obtain ⟨rfl, ⟨hsz, hP, hG, hD0⟩, hZ⟩ := hv
  have hx := B.exec
  have hb := B.bytes
  have hr := B.returns
  have hts := atoms_spec (ws := wsX5_reach) B.pre
  have hown : s.vm.findClass RX5 = some m.cls := findClass_of_methodNamed B.named
  have hlocks := B.notSynchronized
  have hi5 : ∀ w ∈ wsX50, w ∈ wsX5_reach := fun _ h => List.mem_cons_of_mem _ (List.mem_append_right _ h)
  subst hsz
  have hD := hD0.self (sz := s.heap.size)
  generalize hAe : va_A (c_X5_reach k z h r0 r1 t0 nk r4 r5 r6 r7 r8 r9 L7 L8 o9 nn) s.heap.size = A at hD hZ ⊢
  have hA : ∀ q : Nat, s.heap.size ≤ q → A q := fun q h => by rw [← hAe]; exact Or.inr h
  have hS : va_S A s.heap s.heap [] := va_S.rf
  have hP : va_P D vwCl [(h, .inr (5, [.ref r0, .ref r1, .ref t0, .ref nk, .ref r4, .ref r5, .ref r6, .ref r7, .ref r8, .ref r9])), (r7, .inl (k 1, 128, .inr (.inl L7))), (r8, .inl (k 1, 128, .inr (.inl L8))), (r9, .inl (k 0, 49, .inl o9))] s.heap := hP
  have hD : va_D A [(h, .inr (5, [.ref r0, .ref r1, .ref t0, .ref nk, .ref r4, .ref r5, .ref r6, .ref r7, .ref r8, .ref r9])), (r7, .inl (k 1, 128, .inr (.inl L7))), (r8, .inl (k 1, 128, .inr (.inl L8))), (r9, .inl (k 0, 49, .inl o9))] := hD
  have hl := lv_entry ([.ref h, .int (nI nn)]) (n := 5) (Nat.le_of_ble_eq_true rfl)
  rw [lg_entry_eq]
  generalize (lg_sl ([.ref h, .int (nI nn)]) ++ List.replicate (5 - (lg_sl ([.ref h, .int (nI nn)])).length) Slot.unset).toArray = ls at hl ⊢
  have hl : lv_has ls 5 [(0, .ref h), (1, .int (nI nn))] := hl
  refine lv_aload_n hx hb dX5_reach_0 rfl (lv_at hl 0 rfl) ?_
  refine va_get (D := D) (ci := 5) (v := .ref r7) (C := RX5) (T := TX5) (N := 10) hx hb hts hi5 hown hG.1 hP 0 rfl rfl 7 (by decide) (hts (.fieldLink RX5 35 "SleptMatters$Rows" "low" "[J") (List.mem_cons_of_mem _ (List.mem_append_left _ (List.mem_of_getElem? (i := 0) rfl)))) (fun _ h9 => h9) rfl dX5_reach_1 ?_
  refine lv_lconst (v := 0) hx hb dX5_reach_4 (by decide) ?_
  have hPc := hP.sub (ws' := (c_fillL k r7 128 L7 0)) [1] rfl
  have hDc := hD.sub (ws' := (c_fillL k r7 128 L7 0)) [1] (by decide +kernel) rfl
  refine cl_v (w1 := w_fillL k r7 128 L7 0) (wr := [(h, .inr (5, [.ref r0, .ref r1, .ref t0, .ref nk, .ref r4, .ref r5, .ref r6, .ref r7, .ref r8, .ref r9])), (r8, .inl (k 1, 128, .inr (.inl L8))), (r9, .inl (k 0, 49, .inl o9))]) (va_runS (As := [.ref r7, .long 0]) (rest := []) ⟨hx, hb, hml, hown, hts⟩ (fillL l D k s.heap.size r7 128 L7 0 (by decide)) (va_cwS 2 hts gX5_reach_J7_fill_d0a16 rfl rfl rfl (by decide +kernel) ⟨Nat.le_of_ble_eq_true rfl, Nat.le_of_ble_eq_true rfl⟩) ⟨PR.blind _ _ _ _ _, PR.pre hPc hDc hG [.ref r7, .long 0]⟩ rfl rfl hl.1 rfl (lv_room (Nat.le_of_ble_eq_true rfl)) dX5_reach_5 ⟨Nat.le_of_ble_eq_true rfl, Nat.le_of_ble_eq_true rfl⟩) hP hD hS hA [1] [0, 2, 3] rfl rfl (by decide +kernel) (by decide +kernel) (fun u H locs hq hP hD hS => ?_)
  cases u
  have hP : va_P D vwCl [(h, .inr (5, [.ref r0, .ref r1, .ref t0, .ref nk, .ref r4, .ref r5, .ref r6, .ref r7, .ref r8, .ref r9])), (r8, .inl (k 1, 128, .inr (.inl L8))), (r9, .inl (k 0, 49, .inl o9)), (r7, .inl (k 1, 128, .inr (.inl (fl_l L7 0 128))))] H := hP
  have hD : va_D A [(h, .inr (5, [.ref r0, .ref r1, .ref t0, .ref nk, .ref r4, .ref r5, .ref r6, .ref r7, .ref r8, .ref r9])), (r8, .inl (k 1, 128, .inr (.inl L8))), (r9, .inl (k 0, 49, .inl o9)), (r7, .inl (k 1, 128, .inr (.inl (fl_l L7 0 128))))] := hD
  refine lv_aload_n hx hb dX5_reach_8 rfl (lv_at hl 0 rfl) ?_
  refine va_get (D := D) (ci := 5) (v := .ref r8) (C := RX5) (T := TX5) (N := 10) hx hb hts hi5 hown hG.1 hP 0 rfl rfl 8 (by decide) (hts (.fieldLink RX5 38 "SleptMatters$Rows" "high" "[J") (List.mem_cons_of_mem _ (List.mem_append_left _ (List.mem_of_getElem? (i := 1) rfl)))) (fun _ h9 => h9) rfl dX5_reach_9 ?_
  refine lv_lconst (v := 0) hx hb dX5_reach_12 (by decide) ?_
  have hPc := hP.sub (ws' := (c_fillL k r8 128 L8 0)) [1] rfl
  have hDc := hD.sub (ws' := (c_fillL k r8 128 L8 0)) [1] (by decide +kernel) rfl
  refine cl_v (w1 := w_fillL k r8 128 L8 0) (wr := [(h, .inr (5, [.ref r0, .ref r1, .ref t0, .ref nk, .ref r4, .ref r5, .ref r6, .ref r7, .ref r8, .ref r9])), (r9, .inl (k 0, 49, .inl o9)), (r7, .inl (k 1, 128, .inr (.inl (fl_l L7 0 128))))]) (va_runS (As := [.ref r8, .long 0]) (rest := []) ⟨hx, hb, hml, hown, hts⟩ (fillL l D k H.size r8 128 L8 0 (by decide)) (va_cwS 2 hts gX5_reach_J7_fill_d0a16 rfl rfl rfl (by decide +kernel) ⟨Nat.le_of_ble_eq_true rfl, Nat.le_of_ble_eq_true rfl⟩) ⟨PR.blind _ _ _ _ _, PR.pre hPc hDc hG [.ref r8, .long 0]⟩ rfl rfl hl.1 rfl (lv_room (Nat.le_of_ble_eq_true rfl)) dX5_reach_13 ⟨Nat.le_of_ble_eq_true rfl, Nat.le_of_ble_eq_true rfl⟩) hP hD hS hA [1] [0, 2, 3] rfl rfl (by decide +kernel) (by decide +kernel) (fun u H locs hq hP hD hS => ?_)
  cases u
  have hP : va_P D vwCl [(h, .inr (5, [.ref r0, .ref r1, .ref t0, .ref nk, .ref r4, .ref r5, .ref r6, .ref r7, .ref r8, .ref r9])), (r9, .inl (k 0, 49, .inl o9)), (r7, .inl (k 1, 128, .inr (.inl (fl_l L7 0 128)))), (r8, .inl (k 1, 128, .inr (.inl (fl_l L8 0 128))))] H := hP
  have hD : va_D A [(h, .inr (5, [.ref r0, .ref r1, .ref t0, .ref nk, .ref r4, .ref r5, .ref r6, .ref r7, .ref r8, .ref r9])), (r9, .inl (k 0, 49, .inl o9)), (r7, .inl (k 1, 128, .inr (.inl (fl_l L7 0 128)))), (r8, .inl (k 1, 128, .inr (.inl (fl_l L8 0 128))))] := hD
  refine lv_aload_n hx hb dX5_reach_16 rfl (lv_at hl 0 rfl) ?_
  refine va_get (D := D) (ci := 5) (v := .ref r7) (C := RX5) (T := TX5) (N := 10) hx hb hts hi5 hown hG.1 hP 0 rfl rfl 7 (by decide) (hts (.fieldLink RX5 35 "SleptMatters$Rows" "low" "[J") (List.mem_cons_of_mem _ (List.mem_append_left _ (List.mem_of_getElem? (i := 0) rfl)))) (fun _ h9 => h9) rfl dX5_reach_17 ?_
  refine lv_iconst (v := 0) hx hb dX5_reach_20 (by decide) ?_
  refine lv_lconst (v := 1) hx hb dX5_reach_21 (by decide) ?_
  refine va_last hx hb hG.1 hP hD hS 2 1 rfl rfl (vp_in_nI (n := 0) (by omega) (by omega)) dX5_reach_22 (fun H locs hP hD hS => ?_)
  have hP : va_P D vwCl [(h, .inr (5, [.ref r0, .ref r1, .ref t0, .ref nk, .ref r4, .ref r5, .ref r6, .ref r7, .ref r8, .ref r9])), (r9, .inl (k 0, 49, .inl o9)), (r7, .inl (k 1, 128, .inr (.inl (vp_updL (fl_l L7 0 128) 0 1)))), (r8, .inl (k 1, 128, .inr (.inl (fl_l L8 0 128))))] H := hP
  have hD : va_D A [(h, .inr (5, [.ref r0, .ref r1, .ref t0, .ref nk, .ref r4, .ref r5, .ref r6, .ref r7, .ref r8, .ref r9])), (r9, .inl (k 0, 49, .inl o9)), (r7, .inl (k 1, 128, .inr (.inl (vp_updL (fl_l L7 0 128) 0 1)))), (r8, .inl (k 1, 128, .inr (.inl (fl_l L8 0 128))))] := hD
  refine lv_iconst (v := 0) hx hb dX5_reach_23 (by decide) ?_
  refine lv_istore_n (lv' := [(2, .int 0), (0, .ref h), (1, .int (nI nn))]) hx hb dX5_reach_24 rfl hl (by decide) rfl (fun ls hl => ?_)
  refine lv_iconst (v := 0) hx hb dX5_reach_25 (by decide) ?_
  refine lv_istore_n (lv' := [(3, .int 0), (2, .int 0), (0, .ref h), (1, .int (nI nn))]) hx hb dX5_reach_26 rfl hl (by decide) rfl (fun ls hl => ?_)
  have L1 : ∀ (fu9 : Nat) (i : Nat) (rd : Int32) (M7 : Nat → Int64) (M8 : Nat → Int64), (i ≤ 128) → (rd = 0 ∨ rd = 1) → (RS o9 nn i M7 M8) → (RR nn i rd M7 M8) → 128 - i < fu9 → ∀ (H : Heap) (locs : List Loc), va_P D vwCl [(h, .inr (5, [.ref r0, .ref r1, .ref t0, .ref nk, .ref r4, .ref r5, .ref r6, .ref r7, .ref r8, .ref r9])), (r9, .inl (k 0, 49, .inl o9)), (r7, .inl (k 1, 128, .inr (.inl M7))), (r8, .inl (k 1, 128, .inr (.inl M8)))] H → va_D A [(h, .inr (5, [.ref r0, .ref r1, .ref t0, .ref nk, .ref r4, .ref r5, .ref r6, .ref r7, .ref r8, .ref r9])), (r9, .inl (k 0, 49, .inl o9)), (r7, .inl (k 1, 128, .inr (.inl M7))), (r8, .inl (k 1, 128, .inr (.inl M8)))] → va_S A s.heap H locs → ∀ (ls : Array Slot), lv_has ls 5 [(3, .int (nI i)), (2, .int rd), (0, .ref h), (1, .int (nI nn))] → W p l e r_X5_reach s m ([.ref h, .int (nI nn)] : List Value).toArray below meth c H locs 0 0 (MQ below (q_X5_reach D k z h r0 r1 t0 nk r4 r5 r6 r7 r8 r9 L7 L8 o9 nn A) ([.ref h, .int (nI nn)] : List Value).toArray s 0 0 A) (F0 m 27 ls []) := by
    intro fu9
    induction fu9 with
    | zero => intro i rd M7 M8 hi hrd hRS hRR hmu; exact absurd hmu (Nat.not_lt_zero _)
    | succ fu9 ih =>
      intro i rd M7 M8 hi hrd hRS hRR hmu H locs hP hD hS ls hl
      refine lv_iload_n hx hb dX5_reach_27 rfl (lv_at hl 0 rfl) ?_
      refine lv_sipush (v := 128) hx hb dX5_reach_28 (by decide) ?_
      refine bn_ge (i := i) (j := 128) (tgt := 91) hx hb dX5_reach_31 (by decide) (by omega) (by omega) (fun c2 => ?_) (fun c2 => ?_)
      · skip
        have hi8 : i = 128 := by omega
        refine lv_iload_n hx hb dX5_reach_91 rfl (lv_at hl 1 rfl) ?_
        have hP9 := hP.sub (ws' := [(h, .inr (5, [.ref r0, .ref r1, .ref t0, .ref nk, .ref r4, .ref r5, .ref r6, .ref r7, .ref r8, .ref r9])), (r7, .inl (k 1, 128, .inr (.inl M7))), (r8, .inl (k 1, 128, .inr (.inl M8))), (r9, .inl (k 0, 49, .inl o9))]) [0, 2, 3, 1] rfl
        have hD9 := hD.sub (ws' := [(h, .inr (5, [.ref r0, .ref r1, .ref t0, .ref nk, .ref r4, .ref r5, .ref r6, .ref r7, .ref r8, .ref r9])), (r7, .inl (k 1, 128, .inr (.inl M7))), (r8, .inl (k 1, 128, .inr (.inl M8))), (r9, .inl (k 0, 49, .inl o9))]) [0, 2, 3, 1] (by decide +kernel) rfl
        exact W.zret (v := rd) hx hb hr (nar01 hrd) (fun t9 ht _ => ⟨⟨rd, (M7, M8), rfl, ⟨hrd, by rw [← hi8]; exact hRS, by rw [← hi8]; exact hRR⟩, by rw [ht]; exact hP9, hD9⟩, hS.F ht⟩) hS.2.2 dX5_reach_92
      · skip
        have hbc := bc_n i (by omega)
        refine lv_iload_n hx hb dX5_reach_34 rfl (lv_at hl 0 rfl) ?_
        have hPc := hP.sub (ws' := (c_J6_bitCount k (nI i))) [] rfl
        refine vp_callSi (va_Run.run (va_runS (As := [.int (nI i)]) (rest := []) ⟨hx, hb, hml, hown, hts⟩ (J6_bitCount l D k (nI i) ) (va_cwS 1 hts gX5_reach_J6_bitCount_0f7a4 rfl rfl rfl (by decide +kernel) ⟨Nat.le_of_ble_eq_true rfl, Nat.le_of_ble_eq_true rfl⟩) ⟨PS.blind _ _ _ _, PS.pre hPc hG [.int (nI i)]⟩ rfl rfl hl.1 rfl (lv_room (Nat.le_of_ble_eq_true rfl)) dX5_reach_35 ⟨Nat.le_of_ble_eq_true rfl, Nat.le_of_ble_eq_true rfl⟩)) (fun r hq => ?_)
        generalize r = y3 at hq ⊢
        have hq : y3 = bcA (nI i) := hq
        refine tp_i (y := nI (bcn i)) (hq.trans hbc.1) ?_
        refine lv_istore (lv' := [(4, .int (nI (bcn i))), (3, .int (nI i)), (2, .int rd), (0, .ref h), (1, .int (nI nn))]) hx hb dX5_reach_38 hl (by decide) rfl (fun ls hl => ?_)
        refine lv_iload hx hb dX5_reach_40 (lv_at hl 0 rfl) ?_
        refine lv_iload_n hx hb dX5_reach_42 rfl (lv_at hl 4 rfl) ?_
        refine bn_gt (i := bcn i) (j := nn) (tgt := 85) hx hb dX5_reach_43 (by decide) (by omega) (by omega) (fun c4 => ?_) (fun c4 => ?_)
        · skip
          refine lv_iinc (v := nI (i + 1)) (lv' := [(3, .int (nI (i + 1))), (4, .int (nI (bcn i))), (2, .int rd), (0, .ref h), (1, .int (nI nn))]) hx hb dX5_reach_85 hl (k := 1) rfl (nI_add i 1) (by decide) rfl (fun ls hl => ?_)
          refine lv_goto (tgt := 27) hx hb dX5_reach_88 (by decide) ?_
          exact ih (i + 1) rd M7 M8 (by omega) (hrd) (RS_k hRS (Or.inl (by omega))) (RR_k hRR (Or.inl (by omega))) (by omega) _ _ (hP.sub [0, 1, 2, 3] rfl) (hD.sub [0, 1, 2, 3] (by decide +kernel) rfl) hS ls (lv_sub hl [0, 2, 3, 4] rfl)
        · skip
          refine lv_aload_n hx hb dX5_reach_46 rfl (lv_at hl 3 rfl) ?_
          refine va_get (D := D) (ci := 5) (v := .ref r7) (C := RX5) (T := TX5) (N := 10) hx hb hts hi5 hown hG.1 hP 0 rfl rfl 7 (by decide) (hts (.fieldLink RX5 35 "SleptMatters$Rows" "low" "[J") (List.mem_cons_of_mem _ (List.mem_append_left _ (List.mem_of_getElem? (i := 0) rfl)))) (fun _ h9 => h9) rfl dX5_reach_47 ?_
          refine lv_iload_n hx hb dX5_reach_50 rfl (lv_at hl 1 rfl) ?_
          refine va_lald hx hb hG.1 hP 2 1 rfl rfl (vp_in_nI (by omega) (by omega)) dX5_reach_51 ?_
          refine tp_l (y := M7 i) (congrArg _ (nI_clamp (n := i) (by omega))) ?_
          refine lv_aload_n hx hb dX5_reach_52 rfl (lv_at hl 3 rfl) ?_
          refine va_get (D := D) (ci := 5) (v := .ref r8) (C := RX5) (T := TX5) (N := 10) hx hb hts hi5 hown hG.1 hP 0 rfl rfl 8 (by decide) (hts (.fieldLink RX5 38 "SleptMatters$Rows" "high" "[J") (List.mem_cons_of_mem _ (List.mem_append_left _ (List.mem_of_getElem? (i := 1) rfl)))) (fun _ h9 => h9) rfl dX5_reach_53 ?_
          refine lv_iload_n hx hb dX5_reach_56 rfl (lv_at hl 1 rfl) ?_
          refine va_lald hx hb hG.1 hP 3 1 rfl rfl (vp_in_nI (by omega) (by omega)) dX5_reach_57 ?_
          refine tp_l (y := M8 i) (congrArg _ (nI_clamp (n := i) (by omega))) ?_
          refine lv_lor hx hb dX5_reach_58 ?_
          refine lv_lconst (v := 0) hx hb dX5_reach_59 (by decide) ?_
          refine W.lcmp hx hb dX5_reach_60 ?_
          refine lv_if_ne (x := lg_cmp ((M7 i) ||| (M8 i)) 0) (tgt := 67) hx hb dX5_reach_61 (by decide) (fun c5 => ?_) (fun c5 => ?_)
          · skip
            have k61 := c5
            refine lv_iload hx hb dX5_reach_67 (lv_at hl 0 rfl) ?_
            refine lv_iload_n hx hb dX5_reach_69 rfl (lv_at hl 4 rfl) ?_
            refine lv_icmp_ne (x := nI (bcn i)) (y := nI nn) (tgt := 78) hx hb dX5_reach_70 (by decide) (fun c6 => ?_) (fun c6 => ?_)
            · skip
              have k1 : ¬ bcn i = nn := fun q9 => c6 (by rw [q9])
              refine lv_aload_n hx hb dX5_reach_78 rfl (lv_at hl 3 rfl) ?_
              refine lv_iload_n hx hb dX5_reach_79 rfl (lv_at hl 1 rfl) ?_
              refine lv_iload hx hb dX5_reach_80 (lv_at hl 0 rfl) ?_
              have hPc := hP.sub (ws' := (c_X5_addSleepers k z h r0 r1 t0 nk r4 r5 r6 r7 r8 r9 M7 M8 o9 i (bcn i))) [0, 2, 3, 1] rfl
              have hDc := hD.sub (ws' := (c_X5_addSleepers k z h r0 r1 t0 nk r4 r5 r6 r7 r8 r9 M7 M8 o9 i (bcn i))) [0, 2, 3, 1] (by decide +kernel) rfl
              refine cl_v (w1 := w_X5_addSleepers k z h r0 r1 t0 nk r4 r5 r6 r7 r8 r9 M7 M8 o9 i (bcn i)) (wr := []) (va_runV (As := [.int (nI i), .int (nI (bcn i))]) (rest := []) ⟨hx, hb, hml, hown, hts⟩ (X5_addSleepers l D k H.size z h r0 r1 t0 nk r4 r5 r6 r7 r8 r9 M7 M8 o9 i (bcn i) (by omega) (by omega) (hOB)) (cwV 2 hts gX5_reach_X5_addSleepers rfl rfl rfl (by decide +kernel) ⟨Nat.le_of_ble_eq_true rfl, Nat.le_of_ble_eq_true rfl⟩) ⟨PT.blind _ _ _ _ _ _, va_recv hG.1 hP (ci := 5) (q0 := 0) rfl rfl, PT.pre hPc hDc hG hZ hS (va_free hD hS hA [0, 2, 3, 1] rfl) [.ref h, .int (nI i), .int (nI (bcn i))]⟩ rfl rfl hl.1 rfl (lv_room (Nat.le_of_ble_eq_true rfl)) dX5_reach_82 ⟨Nat.le_of_ble_eq_true rfl, Nat.le_of_ble_eq_true rfl⟩) hP hD hS hA [0, 2, 3, 1] [] rfl rfl (by decide +kernel) (by decide +kernel) (fun u H locs hq hP hD hS => ?_)
              obtain ⟨zu7, zu8⟩ := u
              have hq : AS o9 M7 M8 zu7 zu8 i (bcn i) (fun _ _ => True) := hq
              have hP : va_P D vwCl [(h, .inr (5, [.ref r0, .ref r1, .ref t0, .ref nk, .ref r4, .ref r5, .ref r6, .ref r7, .ref r8, .ref r9])), (r7, .inl (k 1, 128, .inr (.inl zu7))), (r8, .inl (k 1, 128, .inr (.inl zu8))), (r9, .inl (k 0, 49, .inl o9))] H := hP
              have hD : va_D A [(h, .inr (5, [.ref r0, .ref r1, .ref t0, .ref nk, .ref r4, .ref r5, .ref r6, .ref r7, .ref r8, .ref r9])), (r7, .inl (k 1, 128, .inr (.inl zu7))), (r8, .inl (k 1, 128, .inr (.inl zu8))), (r9, .inl (k 0, 49, .inl o9))] := hD
              refine lv_iinc (v := nI (i + 1)) (lv' := [(3, .int (nI (i + 1))), (4, .int (nI (bcn i))), (2, .int rd), (0, .ref h), (1, .int (nI nn))]) hx hb dX5_reach_85 hl (k := 1) rfl (nI_add i 1) (by decide) rfl (fun ls hl => ?_)
              refine lv_goto (tgt := 27) hx hb dX5_reach_88 (by decide) ?_
              exact ih (i + 1) rd zu7 zu8 (by omega) (hrd) (RS_a hRS (by omega) (by omega) hq) (RR_a hRR (by omega) (by omega) hq) (by omega) _ _ (hP.sub [0, 3, 1, 2] rfl) (hD.sub [0, 3, 1, 2] (by decide +kernel) rfl) hS ls (lv_sub hl [0, 2, 3, 4] rfl)
            · skip
              have k70 : bcn i = nn := (nI_eq (by omega) (by omega)).mp c6
              refine lv_iconst (v := 1) hx hb dX5_reach_73 (by decide) ?_
              refine lv_istore_n (lv' := [(2, .int 1), (4, .int (nI (bcn i))), (3, .int (nI i)), (0, .ref h), (1, .int (nI nn))]) hx hb dX5_reach_74 rfl hl (by decide) rfl (fun ls hl => ?_)
              refine lv_goto (tgt := 85) hx hb dX5_reach_75 (by decide) ?_
              refine lv_iinc (v := nI (i + 1)) (lv' := [(3, .int (nI (i + 1))), (2, .int 1), (4, .int (nI (bcn i))), (0, .ref h), (1, .int (nI nn))]) hx hb dX5_reach_85 hl (k := 2) rfl (nI_add i 1) (by decide) rfl (fun ls hl => ?_)
              refine lv_goto (tgt := 27) hx hb dX5_reach_88 (by decide) ?_
              exact ih (i + 1) 1 M7 M8 (by omega) (Or.inr rfl) (RS_k hRS (Or.inl (by omega))) (RR_1 k70 (so_cb (fun q8 => k61 ((lg_z _ _).mpr q8)))) (by omega) _ _ (hP.sub [0, 1, 2, 3] rfl) (hD.sub [0, 1, 2, 3] (by decide +kernel) rfl) hS ls (lv_sub hl [0, 1, 3, 4] rfl)
          · skip
            have k61 := c5
            refine lv_goto (tgt := 85) hx hb dX5_reach_64 (by decide) ?_
            refine lv_iinc (v := nI (i + 1)) (lv' := [(3, .int (nI (i + 1))), (4, .int (nI (bcn i))), (2, .int rd), (0, .ref h), (1, .int (nI nn))]) hx hb dX5_reach_85 hl (k := 1) rfl (nI_add i 1) (by decide) rfl (fun ls hl => ?_)
            refine lv_goto (tgt := 27) hx hb dX5_reach_88 (by decide) ?_
            exact ih (i + 1) rd M7 M8 (by omega) (hrd) (RS_k hRS (Or.inr (fun x _ => no_cb ((lg_z _ _).mp k61) x))) (RR_k hRR (Or.inr (fun x => no_cb ((lg_z _ _).mp k61) x))) (by omega) _ _ (hP.sub [0, 1, 2, 3] rfl) (hD.sub [0, 1, 2, 3] (by decide +kernel) rfl) hS ls (lv_sub hl [0, 2, 3, 4] rfl)
  exact L1 _ 0 0 (vp_updL (fl_l L7 0 128) 0 1) (fl_l L8 0 128) (Nat.zero_le _) (Or.inl rfl) (RS_0) (RR_0) (Nat.lt_succ_self _) _ _ hP hD hS ls (lv_sub hl [0, 1, 2, 3] rfl)
