set_option maxRecDepth 20000 in
theorem ggX5_prepare_X6_busySleepers : GoodIn wsX5_prepare wsX6_busySleepers := goodIn_r _ [8, 9, 10, 11, 12, 13, 7, 14, 15, 16, 68, 69, 70, 71, 72] rfl (by decide +kernel)
set_option maxRecDepth 20000 in
theorem gX5_prepare_X6_busySleepers : GoodIn wsX5_prepare (wsV RX5 92 RX6 yX6_busySleepers wsX6_busySleepers) := goodIn_app (goodIn_of _ (by decide +kernel)) ggX5_prepare_X6_busySleepers
set_option maxRecDepth 20000 in
theorem ggX5_prepare_X6_fullHouses : GoodIn wsX5_prepare wsX6_fullHouses := goodIn_r _ [20, 9, 21, 11, 12, 13, 7, 14, 15, 16, 68, 69, 70, 71, 72] rfl (by decide +kernel)
set_option maxRecDepth 20000 in
theorem gX5_prepare_X6_fullHouses : GoodIn wsX5_prepare (wsV RX5 95 RX6 yX6_fullHouses wsX6_fullHouses) := goodIn_app (goodIn_of _ (by decide +kernel)) ggX5_prepare_X6_fullHouses
set_option maxRecDepth 20000 in
theorem ggX5_prepare_X9_isIn : GoodIn wsX5_prepare wsX9_isIn := goodIn_r _ [24] rfl (by decide +kernel)
set_option maxRecDepth 20000 in
theorem gX5_prepare_X9_isIn_n99 : GoodIn wsX5_prepare (wsX9_isIn) := ggX5_prepare_X9_isIn
set_option maxRecDepth 20000 in
theorem ggX5_prepare_X8_calmHouses : GoodIn wsX5_prepare wsX8_calmHouses := goodIn_r _ [29, 30, 31, 32, 33, 28, 34, 35, 73, 74, 75, 76, 77] rfl (by decide +kernel)
set_option maxRecDepth 20000 in
theorem gX5_prepare_X8_calmHouses : GoodIn wsX5_prepare (wsV RX5 103 RX8 yX8_calmHouses wsX8_calmHouses) := goodIn_app (goodIn_of _ (by decide +kernel)) ggX5_prepare_X8_calmHouses
set_option maxRecDepth 20000 in
theorem ggX5_prepare_X5_reach : GoodIn wsX5_prepare wsX5_reach := goodIn_r _ [40, 41, 42, 43, 44, 45, 46, 47, 48, 49, 50, 51, 52, 53, 54, 55, 56, 39, 57, 3, 58, 59, 60, 61, 62, 63, 64, 65, 66, 67] rfl (by decide +kernel)
set_option maxRecDepth 20000 in
theorem gX5_prepare_X5_reach : GoodIn wsX5_prepare (wsV RX5 106 RX5 yX5_reach wsX5_reach) := goodIn_app (goodIn_of _ (by decide +kernel)) ggX5_prepare_X5_reach
theorem dX5_prepare_0 : decode cX5_prepare 0 = .ok (.iconst 0, 1) := dc_Bk (by decide +kernel)
theorem dX5_prepare_1 : decode cX5_prepare 1 = .ok (.istore 4, 2) := dc_Bk (by decide +kernel)
theorem dX5_prepare_3 : decode cX5_prepare 3 = .ok (.iload 4, 2) := dc_Bk (by decide +kernel)
theorem dX5_prepare_5 : decode cX5_prepare 5 = .ok (.iload_n 2, 1) := dc_Bk (by decide +kernel)
theorem dX5_prepare_6 : decode cX5_prepare 6 = .ok (.if_icmp .ge 98, 3) := dc_Bk (by decide +kernel)
theorem dX5_prepare_9 : decode cX5_prepare 9 = .ok (.aload_n 3, 1) := dc_Bk (by decide +kernel)
theorem dX5_prepare_10 : decode cX5_prepare 10 = .ok (.iload_n 1, 1) := dc_Bk (by decide +kernel)
theorem dX5_prepare_11 : decode cX5_prepare 11 = .ok (.iload 4, 2) := dc_Bk (by decide +kernel)
theorem dX5_prepare_13 : decode cX5_prepare 13 = .ok (.isub, 1) := dc_Bk (by decide +kernel)
theorem dX5_prepare_14 : decode cX5_prepare 14 = .ok (.invokevirtual 92, 3) := dc_Bk (by decide +kernel)
theorem dX5_prepare_17 : decode cX5_prepare 17 = .ok (.istore 5, 2) := dc_Bk (by decide +kernel)
theorem dX5_prepare_19 : decode cX5_prepare 19 = .ok (.aload_n 3, 1) := dc_Bk (by decide +kernel)
theorem dX5_prepare_20 : decode cX5_prepare 20 = .ok (.iload_n 1, 1) := dc_Bk (by decide +kernel)
theorem dX5_prepare_21 : decode cX5_prepare 21 = .ok (.iload 4, 2) := dc_Bk (by decide +kernel)
theorem dX5_prepare_23 : decode cX5_prepare 23 = .ok (.isub, 1) := dc_Bk (by decide +kernel)
theorem dX5_prepare_24 : decode cX5_prepare 24 = .ok (.aload_n 0, 1) := dc_Bk (by decide +kernel)
theorem dX5_prepare_25 : decode cX5_prepare 25 = .ok (.getfield 25, 3) := dc_Bk (by decide +kernel)
theorem dX5_prepare_28 : decode cX5_prepare 28 = .ok (.invokevirtual 95, 3) := dc_Bk (by decide +kernel)
theorem dX5_prepare_31 : decode cX5_prepare 31 = .ok (.istore 6, 2) := dc_Bk (by decide +kernel)
theorem dX5_prepare_33 : decode cX5_prepare 33 = .ok (.iconst 0, 1) := dc_Bk (by decide +kernel)
theorem dX5_prepare_34 : decode cX5_prepare 34 = .ok (.istore 7, 2) := dc_Bk (by decide +kernel)
theorem dX5_prepare_36 : decode cX5_prepare 36 = .ok (.iload 7, 2) := dc_Bk (by decide +kernel)
theorem dX5_prepare_38 : decode cX5_prepare 38 = .ok (.bipush 7, 2) := dc_Bk (by decide +kernel)
theorem dX5_prepare_40 : decode cX5_prepare 40 = .ok (.if_icmp .ge 58, 3) := dc_Bk (by decide +kernel)
theorem dX5_prepare_43 : decode cX5_prepare 43 = .ok (.iload 5, 2) := dc_Bk (by decide +kernel)
theorem dX5_prepare_45 : decode cX5_prepare 45 = .ok (.iload 7, 2) := dc_Bk (by decide +kernel)
theorem dX5_prepare_47 : decode cX5_prepare 47 = .ok (.invokestatic 99, 3) := dc_Bk (by decide +kernel)
theorem dX5_prepare_50 : decode cX5_prepare 50 = .ok (.ifCond .eq 7, 3) := dc_Bk (by decide +kernel)
theorem dX5_prepare_53 : decode cX5_prepare 53 = .ok (.iconst 0, 1) := dc_Bk (by decide +kernel)
theorem dX5_prepare_54 : decode cX5_prepare 54 = .ok (.goto 21, 3) := dc_Bk (by decide +kernel)
theorem dX5_prepare_57 : decode cX5_prepare 57 = .ok (.aload_n 0, 1) := dc_Bk (by decide +kernel)
theorem dX5_prepare_58 : decode cX5_prepare 58 = .ok (.getfield 44, 3) := dc_Bk (by decide +kernel)
theorem dX5_prepare_61 : decode cX5_prepare 61 = .ok (.iload 7, 2) := dc_Bk (by decide +kernel)
theorem dX5_prepare_63 : decode cX5_prepare 63 = .ok (.iload_n 1, 1) := dc_Bk (by decide +kernel)
theorem dX5_prepare_64 : decode cX5_prepare 64 = .ok (.iload 4, 2) := dc_Bk (by decide +kernel)
theorem dX5_prepare_66 : decode cX5_prepare 66 = .ok (.isub, 1) := dc_Bk (by decide +kernel)
theorem dX5_prepare_67 : decode cX5_prepare 67 = .ok (.invokevirtual 103, 3) := dc_Bk (by decide +kernel)
theorem dX5_prepare_70 : decode cX5_prepare 70 = .ok (.iload 6, 2) := dc_Bk (by decide +kernel)
theorem dX5_prepare_72 : decode cX5_prepare 72 = .ok (.iconst (-1), 1) := dc_Bk (by decide +kernel)
theorem dX5_prepare_73 : decode cX5_prepare 73 = .ok (.ixor, 1) := dc_Bk (by decide +kernel)
theorem dX5_prepare_74 : decode cX5_prepare 74 = .ok (.iand, 1) := dc_Bk (by decide +kernel)
theorem dX5_prepare_75 : decode cX5_prepare 75 = .ok (.istore 8, 2) := dc_Bk (by decide +kernel)
theorem dX5_prepare_77 : decode cX5_prepare 77 = .ok (.aload_n 0, 1) := dc_Bk (by decide +kernel)
theorem dX5_prepare_78 : decode cX5_prepare 78 = .ok (.getfield 41, 3) := dc_Bk (by decide +kernel)
theorem dX5_prepare_81 : decode cX5_prepare 81 = .ok (.iload 4, 2) := dc_Bk (by decide +kernel)
theorem dX5_prepare_83 : decode cX5_prepare 83 = .ok (.bipush 7, 2) := dc_Bk (by decide +kernel)
theorem dX5_prepare_85 : decode cX5_prepare 85 = .ok (.imul, 1) := dc_Bk (by decide +kernel)
theorem dX5_prepare_86 : decode cX5_prepare 86 = .ok (.iload 7, 2) := dc_Bk (by decide +kernel)
theorem dX5_prepare_88 : decode cX5_prepare 88 = .ok (.iadd, 1) := dc_Bk (by decide +kernel)
theorem dX5_prepare_89 : decode cX5_prepare 89 = .ok (.iload 8, 2) := dc_Bk (by decide +kernel)
theorem dX5_prepare_91 : decode cX5_prepare 91 = .ok (.iastore, 1) := dc_Bk (by decide +kernel)
theorem dX5_prepare_92 : decode cX5_prepare 92 = .ok (.iinc 7 1, 3) := dc_Bk (by decide +kernel)
theorem dX5_prepare_95 : decode cX5_prepare 95 = .ok (.goto (-59), 3) := dc_Bk (by decide +kernel)
theorem dX5_prepare_98 : decode cX5_prepare 98 = .ok (.iinc 4 1, 3) := dc_Bk (by decide +kernel)
theorem dX5_prepare_101 : decode cX5_prepare 101 = .ok (.goto (-98), 3) := dc_Bk (by decide +kernel)
theorem dX5_prepare_104 : decode cX5_prepare 104 = .ok (.aload_n 0, 1) := dc_Bk (by decide +kernel)
theorem dX5_prepare_105 : decode cX5_prepare 105 = .ok (.iload_n 2, 1) := dc_Bk (by decide +kernel)
theorem dX5_prepare_106 : decode cX5_prepare 106 = .ok (.invokevirtual 106, 3) := dc_Bk (by decide +kernel)
theorem dX5_prepare_109 : decode cX5_prepare 109 = .ok (.ireturn, 1) := dc_Bk (by decide +kernel)
set_option maxRecDepth 20000 in
theorem ggX5_longestUpTo_X8_soonestLike : GoodIn wsX5_longestUpTo wsX8_soonestLike := goodIn_r _ [18, 19, 87, 88, 89, 90, 91] rfl (by decide +kernel)
set_option maxRecDepth 20000 in
theorem gX5_longestUpTo_X8_soonestLike : GoodIn wsX5_longestUpTo (wsV RX5 67 RX8 yX8_soonestLike wsX8_soonestLike) := goodIn_app (goodIn_of _ (by decide +kernel)) ggX5_longestUpTo_X8_soonestLike
set_option maxRecDepth 20000 in
theorem ggX5_longestUpTo_X5_prepare : GoodIn wsX5_longestUpTo wsX5_prepare := goodIn_r _ [24, 25, 1, 26, 27, 28, 29, 30, 31, 32, 33, 34, 35, 36, 37, 38, 39, 40, 41, 42, 43, 44, 45, 46, 47, 48, 49, 50, 17, 51, 52, 53, 54, 55, 56, 57, 58, 59, 60, 23, 61, 8, 9, 62, 63, 64, 65, 66, 67, 68, 69, 70, 71, 72, 73, 74, 75, 76, 77, 78, 79, 80, 81, 82, 83, 84, 85, 86, 92, 93, 94, 95, 96, 87, 88, 89, 90, 91] rfl (by decide +kernel)
set_option maxRecDepth 20000 in
theorem gX5_longestUpTo_X5_prepare : GoodIn wsX5_longestUpTo (wsV RX5 77 RX5 yX5_prepare wsX5_prepare) := goodIn_app (goodIn_of _ (by decide +kernel)) ggX5_longestUpTo_X5_prepare
set_option maxRecDepth 20000 in
theorem ggX5_longestUpTo_J6_bitCount_0f7a4 : GoodIn wsX5_longestUpTo wsJ6_bitCount_0f7a4 := goodIn_r _ [69, 70, 71, 72] rfl (by decide +kernel)
set_option maxRecDepth 20000 in
theorem gX5_longestUpTo_J6_bitCount_0f7a4 : GoodIn wsX5_longestUpTo (va_wsS RX5 81 yJ6_bitCount_0f7a4 wsJ6_bitCount_0f7a4) := goodIn_app (goodIn_of _ (by decide +kernel)) ggX5_longestUpTo_J6_bitCount_0f7a4
theorem dX5_longestUpTo_0 : decode cX5_longestUpTo 0 = .ok (.iload_n 1, 1) := dc_Bk (by decide +kernel)
theorem dX5_longestUpTo_1 : decode cX5_longestUpTo 1 = .ok (.ifCond .lt 9, 3) := dc_Bk (by decide +kernel)
theorem dX5_longestUpTo_4 : decode cX5_longestUpTo 4 = .ok (.iload_n 1, 1) := dc_Bk (by decide +kernel)
theorem dX5_longestUpTo_5 : decode cX5_longestUpTo 5 = .ok (.bipush 100, 2) := dc_Bk (by decide +kernel)
theorem dX5_longestUpTo_7 : decode cX5_longestUpTo 7 = .ok (.if_icmp .lt 5, 3) := dc_Bk (by decide +kernel)
theorem dX5_longestUpTo_10 : decode cX5_longestUpTo 10 = .ok (.iconst 0, 1) := dc_Bk (by decide +kernel)
theorem dX5_longestUpTo_11 : decode cX5_longestUpTo 11 = .ok (.ireturn, 1) := dc_Bk (by decide +kernel)
theorem dX5_longestUpTo_12 : decode cX5_longestUpTo 12 = .ok (.aload_n 0, 1) := dc_Bk (by decide +kernel)
theorem dX5_longestUpTo_13 : decode cX5_longestUpTo 13 = .ok (.getfield 44, 3) := dc_Bk (by decide +kernel)
theorem dX5_longestUpTo_16 : decode cX5_longestUpTo 16 = .ok (.iload_n 1, 1) := dc_Bk (by decide +kernel)
theorem dX5_longestUpTo_17 : decode cX5_longestUpTo 17 = .ok (.invokevirtual 67, 3) := dc_Bk (by decide +kernel)
theorem dX5_longestUpTo_20 : decode cX5_longestUpTo 20 = .ok (.istore_n 2, 1) := dc_Bk (by decide +kernel)
theorem dX5_longestUpTo_21 : decode cX5_longestUpTo 21 = .ok (.aload_n 0, 1) := dc_Bk (by decide +kernel)
theorem dX5_longestUpTo_22 : decode cX5_longestUpTo 22 = .ok (.getfield 28, 3) := dc_Bk (by decide +kernel)
theorem dX5_longestUpTo_25 : decode cX5_longestUpTo 25 = .ok (.iload_n 2, 1) := dc_Bk (by decide +kernel)
theorem dX5_longestUpTo_26 : decode cX5_longestUpTo 26 = .ok (.iaload, 1) := dc_Bk (by decide +kernel)
theorem dX5_longestUpTo_27 : decode cX5_longestUpTo 27 = .ok (.iconst (-1), 1) := dc_Bk (by decide +kernel)
theorem dX5_longestUpTo_28 : decode cX5_longestUpTo 28 = .ok (.if_icmp .eq 10, 3) := dc_Bk (by decide +kernel)
theorem dX5_longestUpTo_31 : decode cX5_longestUpTo 31 = .ok (.aload_n 0, 1) := dc_Bk (by decide +kernel)
theorem dX5_longestUpTo_32 : decode cX5_longestUpTo 32 = .ok (.getfield 28, 3) := dc_Bk (by decide +kernel)
theorem dX5_longestUpTo_35 : decode cX5_longestUpTo 35 = .ok (.iload_n 2, 1) := dc_Bk (by decide +kernel)
theorem dX5_longestUpTo_36 : decode cX5_longestUpTo 36 = .ok (.iaload, 1) := dc_Bk (by decide +kernel)
theorem dX5_longestUpTo_37 : decode cX5_longestUpTo 37 = .ok (.ireturn, 1) := dc_Bk (by decide +kernel)
theorem dX5_longestUpTo_38 : decode cX5_longestUpTo 38 = .ok (.aload_n 0, 1) := dc_Bk (by decide +kernel)
theorem dX5_longestUpTo_39 : decode cX5_longestUpTo 39 = .ok (.iload_n 2, 1) := dc_Bk (by decide +kernel)
theorem dX5_longestUpTo_40 : decode cX5_longestUpTo 40 = .ok (.bipush 7, 2) := dc_Bk (by decide +kernel)
theorem dX5_longestUpTo_42 : decode cX5_longestUpTo 42 = .ok (.iload_n 2, 1) := dc_Bk (by decide +kernel)
theorem dX5_longestUpTo_43 : decode cX5_longestUpTo 43 = .ok (.iconst 1, 1) := dc_Bk (by decide +kernel)
theorem dX5_longestUpTo_44 : decode cX5_longestUpTo 44 = .ok (.iadd, 1) := dc_Bk (by decide +kernel)
theorem dX5_longestUpTo_45 : decode cX5_longestUpTo 45 = .ok (.invokestatic 71, 3) := dc_Bk (by decide +kernel)
theorem dX5_longestUpTo_48 : decode cX5_longestUpTo 48 = .ok (.aload_n 0, 1) := dc_Bk (by decide +kernel)
theorem dX5_longestUpTo_49 : decode cX5_longestUpTo 49 = .ok (.getfield 21, 3) := dc_Bk (by decide +kernel)
theorem dX5_longestUpTo_52 : decode cX5_longestUpTo 52 = .ok (.invokevirtual 77, 3) := dc_Bk (by decide +kernel)
theorem dX5_longestUpTo_55 : decode cX5_longestUpTo 55 = .ok (.pop, 1) := dc_Bk (by decide +kernel)
theorem dX5_longestUpTo_56 : decode cX5_longestUpTo 56 = .ok (.iconst 0, 1) := dc_Bk (by decide +kernel)
theorem dX5_longestUpTo_57 : decode cX5_longestUpTo 57 = .ok (.istore_n 3, 1) := dc_Bk (by decide +kernel)
theorem dX5_longestUpTo_58 : decode cX5_longestUpTo 58 = .ok (.iconst 0, 1) := dc_Bk (by decide +kernel)
theorem dX5_longestUpTo_59 : decode cX5_longestUpTo 59 = .ok (.istore 4, 2) := dc_Bk (by decide +kernel)
theorem dX5_longestUpTo_61 : decode cX5_longestUpTo 61 = .ok (.iload 4, 2) := dc_Bk (by decide +kernel)
theorem dX5_longestUpTo_63 : decode cX5_longestUpTo 63 = .ok (.sipush 128, 3) := dc_Bk (by decide +kernel)
theorem dX5_longestUpTo_66 : decode cX5_longestUpTo 66 = .ok (.if_icmp .ge 66, 3) := dc_Bk (by decide +kernel)
theorem dX5_longestUpTo_69 : decode cX5_longestUpTo 69 = .ok (.aload_n 0, 1) := dc_Bk (by decide +kernel)
theorem dX5_longestUpTo_70 : decode cX5_longestUpTo 70 = .ok (.getfield 35, 3) := dc_Bk (by decide +kernel)
theorem dX5_longestUpTo_73 : decode cX5_longestUpTo 73 = .ok (.iload 4, 2) := dc_Bk (by decide +kernel)
theorem dX5_longestUpTo_75 : decode cX5_longestUpTo 75 = .ok (.laload, 1) := dc_Bk (by decide +kernel)
theorem dX5_longestUpTo_76 : decode cX5_longestUpTo 76 = .ok (.aload_n 0, 1) := dc_Bk (by decide +kernel)
theorem dX5_longestUpTo_77 : decode cX5_longestUpTo 77 = .ok (.getfield 38, 3) := dc_Bk (by decide +kernel)
theorem dX5_longestUpTo_80 : decode cX5_longestUpTo 80 = .ok (.iload 4, 2) := dc_Bk (by decide +kernel)
theorem dX5_longestUpTo_82 : decode cX5_longestUpTo 82 = .ok (.laload, 1) := dc_Bk (by decide +kernel)
theorem dX5_longestUpTo_83 : decode cX5_longestUpTo 83 = .ok (.lor, 1) := dc_Bk (by decide +kernel)
theorem dX5_longestUpTo_84 : decode cX5_longestUpTo 84 = .ok (.lconst 0, 1) := dc_Bk (by decide +kernel)
theorem dX5_longestUpTo_85 : decode cX5_longestUpTo 85 = .ok (.lcmp, 1) := dc_Bk (by decide +kernel)
theorem dX5_longestUpTo_86 : decode cX5_longestUpTo 86 = .ok (.ifCond .ne 6, 3) := dc_Bk (by decide +kernel)
theorem dX5_longestUpTo_89 : decode cX5_longestUpTo 89 = .ok (.goto 37, 3) := dc_Bk (by decide +kernel)
theorem dX5_longestUpTo_92 : decode cX5_longestUpTo 92 = .ok (.iload_n 3, 1) := dc_Bk (by decide +kernel)
theorem dX5_longestUpTo_93 : decode cX5_longestUpTo 93 = .ok (.iload 4, 2) := dc_Bk (by decide +kernel)
theorem dX5_longestUpTo_95 : decode cX5_longestUpTo 95 = .ok (.invokestatic 81, 3) := dc_Bk (by decide +kernel)
theorem dX5_longestUpTo_98 : decode cX5_longestUpTo 98 = .ok (.invokestatic 86, 3) := dc_Bk (by decide +kernel)
theorem dX5_longestUpTo_101 : decode cX5_longestUpTo 101 = .ok (.istore_n 3, 1) := dc_Bk (by decide +kernel)
theorem dX5_longestUpTo_102 : decode cX5_longestUpTo 102 = .ok (.aload_n 0, 1) := dc_Bk (by decide +kernel)
theorem dX5_longestUpTo_103 : decode cX5_longestUpTo 103 = .ok (.getfield 31, 3) := dc_Bk (by decide +kernel)
theorem dX5_longestUpTo_106 : decode cX5_longestUpTo 106 = .ok (.iload_n 2, 1) := dc_Bk (by decide +kernel)
theorem dX5_longestUpTo_107 : decode cX5_longestUpTo 107 = .ok (.iconst 2, 1) := dc_Bk (by decide +kernel)
theorem dX5_longestUpTo_108 : decode cX5_longestUpTo 108 = .ok (.imul, 1) := dc_Bk (by decide +kernel)
theorem dX5_longestUpTo_109 : decode cX5_longestUpTo 109 = .ok (.iload 4, 2) := dc_Bk (by decide +kernel)
theorem dX5_longestUpTo_111 : decode cX5_longestUpTo 111 = .ok (.bipush 64, 2) := dc_Bk (by decide +kernel)
theorem dX5_longestUpTo_113 : decode cX5_longestUpTo 113 = .ok (.idiv, 1) := dc_Bk (by decide +kernel)
theorem dX5_longestUpTo_114 : decode cX5_longestUpTo 114 = .ok (.iadd, 1) := dc_Bk (by decide +kernel)
theorem dX5_longestUpTo_115 : decode cX5_longestUpTo 115 = .ok (.dup2, 1) := dc_Bk (by decide +kernel)
theorem dX5_longestUpTo_116 : decode cX5_longestUpTo 116 = .ok (.laload, 1) := dc_Bk (by decide +kernel)
theorem dX5_longestUpTo_117 : decode cX5_longestUpTo 117 = .ok (.lconst 1, 1) := dc_Bk (by decide +kernel)
theorem dX5_longestUpTo_118 : decode cX5_longestUpTo 118 = .ok (.iload 4, 2) := dc_Bk (by decide +kernel)
theorem dX5_longestUpTo_120 : decode cX5_longestUpTo 120 = .ok (.bipush 64, 2) := dc_Bk (by decide +kernel)
theorem dX5_longestUpTo_122 : decode cX5_longestUpTo 122 = .ok (.irem, 1) := dc_Bk (by decide +kernel)
theorem dX5_longestUpTo_123 : decode cX5_longestUpTo 123 = .ok (.lshl, 1) := dc_Bk (by decide +kernel)
theorem dX5_longestUpTo_124 : decode cX5_longestUpTo 124 = .ok (.lor, 1) := dc_Bk (by decide +kernel)
theorem dX5_longestUpTo_125 : decode cX5_longestUpTo 125 = .ok (.lastore, 1) := dc_Bk (by decide +kernel)
theorem dX5_longestUpTo_126 : decode cX5_longestUpTo 126 = .ok (.iinc 4 1, 3) := dc_Bk (by decide +kernel)
theorem dX5_longestUpTo_129 : decode cX5_longestUpTo 129 = .ok (.goto (-68), 3) := dc_Bk (by decide +kernel)
theorem dX5_longestUpTo_132 : decode cX5_longestUpTo 132 = .ok (.aload_n 0, 1) := dc_Bk (by decide +kernel)
theorem dX5_longestUpTo_133 : decode cX5_longestUpTo 133 = .ok (.getfield 28, 3) := dc_Bk (by decide +kernel)
theorem dX5_longestUpTo_136 : decode cX5_longestUpTo 136 = .ok (.iload_n 2, 1) := dc_Bk (by decide +kernel)
theorem dX5_longestUpTo_137 : decode cX5_longestUpTo 137 = .ok (.iload_n 3, 1) := dc_Bk (by decide +kernel)
theorem dX5_longestUpTo_138 : decode cX5_longestUpTo 138 = .ok (.iastore, 1) := dc_Bk (by decide +kernel)
theorem dX5_longestUpTo_139 : decode cX5_longestUpTo 139 = .ok (.iload_n 3, 1) := dc_Bk (by decide +kernel)
theorem dX5_longestUpTo_140 : decode cX5_longestUpTo 140 = .ok (.ireturn, 1) := dc_Bk (by decide +kernel)
set_option maxRecDepth 20000 in
theorem ggX5_soonestEnd_X5_longestUpTo : GoodIn wsX5_soonestEnd wsX5_longestUpTo := goodIn_r _ [5, 6, 7, 8, 9, 10, 11, 12, 13, 14, 15, 16, 17, 18, 19, 20, 21, 22, 23, 24, 25, 26, 27, 4, 28, 29, 30, 31, 32, 33, 34, 35, 36, 37, 38, 39, 40, 41, 42, 43, 44, 45, 46, 47, 48, 49, 50, 51, 52, 53, 54, 55, 56, 57, 58, 59, 60, 61, 62, 63, 64, 65, 66, 67, 68, 69, 70, 71, 72, 73, 74, 75, 76, 77, 78, 79, 80, 81, 82, 83, 84, 85, 86, 87, 88, 89, 90, 91, 92, 93, 94, 95, 96, 97, 98, 99, 100] rfl (by decide +kernel)
set_option maxRecDepth 20000 in
theorem gX5_soonestEnd_X5_longestUpTo : GoodIn wsX5_soonestEnd (wsV RX5 89 RX5 yX5_longestUpTo wsX5_longestUpTo) := goodIn_app (goodIn_of _ (by decide +kernel)) ggX5_soonestEnd_X5_longestUpTo
theorem dX5_soonestEnd_0 : decode cX5_soonestEnd 0 = .ok (.iload_n 1, 1) := dc_Bk (by decide +kernel)
theorem dX5_soonestEnd_1 : decode cX5_soonestEnd 1 = .ok (.iload_n 2, 1) := dc_Bk (by decide +kernel)
theorem dX5_soonestEnd_2 : decode cX5_soonestEnd 2 = .ok (.iadd, 1) := dc_Bk (by decide +kernel)
theorem dX5_soonestEnd_3 : decode cX5_soonestEnd 3 = .ok (.iconst 1, 1) := dc_Bk (by decide +kernel)
theorem dX5_soonestEnd_4 : decode cX5_soonestEnd 4 = .ok (.isub, 1) := dc_Bk (by decide +kernel)
theorem dX5_soonestEnd_5 : decode cX5_soonestEnd 5 = .ok (.istore 4, 2) := dc_Bk (by decide +kernel)
theorem dX5_soonestEnd_7 : decode cX5_soonestEnd 7 = .ok (.iload 4, 2) := dc_Bk (by decide +kernel)
theorem dX5_soonestEnd_9 : decode cX5_soonestEnd 9 = .ok (.iload_n 3, 1) := dc_Bk (by decide +kernel)
theorem dX5_soonestEnd_10 : decode cX5_soonestEnd 10 = .ok (.if_icmp .gt 22, 3) := dc_Bk (by decide +kernel)
theorem dX5_soonestEnd_13 : decode cX5_soonestEnd 13 = .ok (.aload_n 0, 1) := dc_Bk (by decide +kernel)
theorem dX5_soonestEnd_14 : decode cX5_soonestEnd 14 = .ok (.iload 4, 2) := dc_Bk (by decide +kernel)
theorem dX5_soonestEnd_16 : decode cX5_soonestEnd 16 = .ok (.invokevirtual 89, 3) := dc_Bk (by decide +kernel)
theorem dX5_soonestEnd_19 : decode cX5_soonestEnd 19 = .ok (.iload_n 2, 1) := dc_Bk (by decide +kernel)
theorem dX5_soonestEnd_20 : decode cX5_soonestEnd 20 = .ok (.if_icmp .lt 6, 3) := dc_Bk (by decide +kernel)
theorem dX5_soonestEnd_23 : decode cX5_soonestEnd 23 = .ok (.iload 4, 2) := dc_Bk (by decide +kernel)
theorem dX5_soonestEnd_25 : decode cX5_soonestEnd 25 = .ok (.ireturn, 1) := dc_Bk (by decide +kernel)
theorem dX5_soonestEnd_26 : decode cX5_soonestEnd 26 = .ok (.iinc 4 1, 3) := dc_Bk (by decide +kernel)
theorem dX5_soonestEnd_29 : decode cX5_soonestEnd 29 = .ok (.goto (-22), 3) := dc_Bk (by decide +kernel)
theorem dX5_soonestEnd_32 : decode cX5_soonestEnd 32 = .ok (.iconst (-1), 1) := dc_Bk (by decide +kernel)
theorem dX5_soonestEnd_33 : decode cX5_soonestEnd 33 = .ok (.ireturn, 1) := dc_Bk (by decide +kernel)
set_option maxRecDepth 20000 in
theorem ggX5_soonestEndOf_J6_bitCount_0f7a4 : GoodIn wsX5_soonestEndOf wsJ6_bitCount_0f7a4 := goodIn_r _ [6, 7, 8, 9] rfl (by decide +kernel)
set_option maxRecDepth 20000 in
theorem gX5_soonestEndOf_J6_bitCount_0f7a4 : GoodIn wsX5_soonestEndOf (va_wsS RX5 81 yJ6_bitCount_0f7a4 wsJ6_bitCount_0f7a4) := goodIn_app (goodIn_of _ (by decide +kernel)) ggX5_soonestEndOf_J6_bitCount_0f7a4
set_option maxRecDepth 20000 in
theorem ggX5_soonestEndOf_X5_longestUpTo : GoodIn wsX5_soonestEndOf wsX5_longestUpTo := goodIn_r _ [14, 2, 15, 16, 17, 18, 19, 20, 21, 22, 23, 24, 25, 1, 26, 27, 28, 29, 30, 31, 32, 33, 34, 13, 35, 36, 37, 38, 39, 40, 41, 42, 43, 44, 45, 46, 47, 48, 49, 50, 51, 52, 53, 54, 55, 56, 57, 58, 59, 60, 61, 62, 63, 64, 65, 66, 67, 68, 69, 70, 71, 72, 73, 74, 75, 76, 3, 4, 5, 6, 7, 8, 9, 77, 78, 79, 80, 81, 82, 83, 84, 85, 86, 87, 88, 89, 90, 91, 92, 93, 94, 95, 96, 97, 98, 99, 100] rfl (by decide +kernel)
set_option maxRecDepth 20000 in
theorem gX5_soonestEndOf_X5_longestUpTo : GoodIn wsX5_soonestEndOf (wsV RX5 89 RX5 yX5_longestUpTo wsX5_longestUpTo) := goodIn_app (goodIn_of _ (by decide +kernel)) ggX5_soonestEndOf_X5_longestUpTo
set_option maxRecDepth 20000 in
theorem ggX5_soonestEndOf_X8_soonestLike : GoodIn wsX5_soonestEndOf wsX8_soonestLike := goodIn_r _ [30, 31, 91, 92, 93, 94, 95] rfl (by decide +kernel)
set_option maxRecDepth 20000 in
theorem gX5_soonestEndOf_X8_soonestLike : GoodIn wsX5_soonestEndOf (wsV RX5 67 RX8 yX8_soonestLike wsX8_soonestLike) := goodIn_app (goodIn_of _ (by decide +kernel)) ggX5_soonestEndOf_X8_soonestLike
theorem dX5_soonestEndOf_0 : decode cX5_soonestEndOf 0 = .ok (.iload_n 1, 1) := dc_Bk (by decide +kernel)
theorem dX5_soonestEndOf_1 : decode cX5_soonestEndOf 1 = .ok (.invokestatic 81, 3) := dc_Bk (by decide +kernel)
theorem dX5_soonestEndOf_4 : decode cX5_soonestEndOf 4 = .ok (.istore 4, 2) := dc_Bk (by decide +kernel)
theorem dX5_soonestEndOf_6 : decode cX5_soonestEndOf 6 = .ok (.iload_n 2, 1) := dc_Bk (by decide +kernel)
theorem dX5_soonestEndOf_7 : decode cX5_soonestEndOf 7 = .ok (.iload 4, 2) := dc_Bk (by decide +kernel)
theorem dX5_soonestEndOf_9 : decode cX5_soonestEndOf 9 = .ok (.iadd, 1) := dc_Bk (by decide +kernel)
theorem dX5_soonestEndOf_10 : decode cX5_soonestEndOf 10 = .ok (.iconst 1, 1) := dc_Bk (by decide +kernel)
theorem dX5_soonestEndOf_11 : decode cX5_soonestEndOf 11 = .ok (.isub, 1) := dc_Bk (by decide +kernel)
theorem dX5_soonestEndOf_12 : decode cX5_soonestEndOf 12 = .ok (.istore 5, 2) := dc_Bk (by decide +kernel)
theorem dX5_soonestEndOf_14 : decode cX5_soonestEndOf 14 = .ok (.iload 5, 2) := dc_Bk (by decide +kernel)
theorem dX5_soonestEndOf_16 : decode cX5_soonestEndOf 16 = .ok (.iload_n 3, 1) := dc_Bk (by decide +kernel)
theorem dX5_soonestEndOf_17 : decode cX5_soonestEndOf 17 = .ok (.if_icmp .gt 63, 3) := dc_Bk (by decide +kernel)
theorem dX5_soonestEndOf_20 : decode cX5_soonestEndOf 20 = .ok (.aload_n 0, 1) := dc_Bk (by decide +kernel)
theorem dX5_soonestEndOf_21 : decode cX5_soonestEndOf 21 = .ok (.iload 5, 2) := dc_Bk (by decide +kernel)
theorem dX5_soonestEndOf_23 : decode cX5_soonestEndOf 23 = .ok (.invokevirtual 89, 3) := dc_Bk (by decide +kernel)
theorem dX5_soonestEndOf_26 : decode cX5_soonestEndOf 26 = .ok (.iload 4, 2) := dc_Bk (by decide +kernel)
theorem dX5_soonestEndOf_28 : decode cX5_soonestEndOf 28 = .ok (.if_icmp .ge 6, 3) := dc_Bk (by decide +kernel)
theorem dX5_soonestEndOf_31 : decode cX5_soonestEndOf 31 = .ok (.goto 43, 3) := dc_Bk (by decide +kernel)
theorem dX5_soonestEndOf_34 : decode cX5_soonestEndOf 34 = .ok (.aload_n 0, 1) := dc_Bk (by decide +kernel)
theorem dX5_soonestEndOf_35 : decode cX5_soonestEndOf 35 = .ok (.getfield 31, 3) := dc_Bk (by decide +kernel)
theorem dX5_soonestEndOf_38 : decode cX5_soonestEndOf 38 = .ok (.aload_n 0, 1) := dc_Bk (by decide +kernel)
theorem dX5_soonestEndOf_39 : decode cX5_soonestEndOf 39 = .ok (.getfield 44, 3) := dc_Bk (by decide +kernel)
theorem dX5_soonestEndOf_42 : decode cX5_soonestEndOf 42 = .ok (.iload 5, 2) := dc_Bk (by decide +kernel)
theorem dX5_soonestEndOf_44 : decode cX5_soonestEndOf 44 = .ok (.invokevirtual 67, 3) := dc_Bk (by decide +kernel)
theorem dX5_soonestEndOf_47 : decode cX5_soonestEndOf 47 = .ok (.iconst 2, 1) := dc_Bk (by decide +kernel)
theorem dX5_soonestEndOf_48 : decode cX5_soonestEndOf 48 = .ok (.imul, 1) := dc_Bk (by decide +kernel)
theorem dX5_soonestEndOf_49 : decode cX5_soonestEndOf 49 = .ok (.iload_n 1, 1) := dc_Bk (by decide +kernel)
theorem dX5_soonestEndOf_50 : decode cX5_soonestEndOf 50 = .ok (.bipush 64, 2) := dc_Bk (by decide +kernel)
theorem dX5_soonestEndOf_52 : decode cX5_soonestEndOf 52 = .ok (.idiv, 1) := dc_Bk (by decide +kernel)
theorem dX5_soonestEndOf_53 : decode cX5_soonestEndOf 53 = .ok (.iadd, 1) := dc_Bk (by decide +kernel)
theorem dX5_soonestEndOf_54 : decode cX5_soonestEndOf 54 = .ok (.laload, 1) := dc_Bk (by decide +kernel)
theorem dX5_soonestEndOf_55 : decode cX5_soonestEndOf 55 = .ok (.lstore 6, 2) := dc_Bk (by decide +kernel)
theorem dX5_soonestEndOf_57 : decode cX5_soonestEndOf 57 = .ok (.lload 6, 2) := dc_Bk (by decide +kernel)
theorem dX5_soonestEndOf_59 : decode cX5_soonestEndOf 59 = .ok (.iload_n 1, 1) := dc_Bk (by decide +kernel)
theorem dX5_soonestEndOf_60 : decode cX5_soonestEndOf 60 = .ok (.bipush 64, 2) := dc_Bk (by decide +kernel)
theorem dX5_soonestEndOf_62 : decode cX5_soonestEndOf 62 = .ok (.irem, 1) := dc_Bk (by decide +kernel)
theorem dX5_soonestEndOf_63 : decode cX5_soonestEndOf 63 = .ok (.lushr, 1) := dc_Bk (by decide +kernel)
theorem dX5_soonestEndOf_64 : decode cX5_soonestEndOf 64 = .ok (.lconst 1, 1) := dc_Bk (by decide +kernel)
theorem dX5_soonestEndOf_65 : decode cX5_soonestEndOf 65 = .ok (.land, 1) := dc_Bk (by decide +kernel)
theorem dX5_soonestEndOf_66 : decode cX5_soonestEndOf 66 = .ok (.lconst 0, 1) := dc_Bk (by decide +kernel)
theorem dX5_soonestEndOf_67 : decode cX5_soonestEndOf 67 = .ok (.lcmp, 1) := dc_Bk (by decide +kernel)
theorem dX5_soonestEndOf_68 : decode cX5_soonestEndOf 68 = .ok (.ifCond .eq 6, 3) := dc_Bk (by decide +kernel)
theorem dX5_soonestEndOf_71 : decode cX5_soonestEndOf 71 = .ok (.iload 5, 2) := dc_Bk (by decide +kernel)
theorem dX5_soonestEndOf_73 : decode cX5_soonestEndOf 73 = .ok (.ireturn, 1) := dc_Bk (by decide +kernel)
theorem dX5_soonestEndOf_74 : decode cX5_soonestEndOf 74 = .ok (.iinc 5 1, 3) := dc_Bk (by decide +kernel)
theorem dX5_soonestEndOf_77 : decode cX5_soonestEndOf 77 = .ok (.goto (-63), 3) := dc_Bk (by decide +kernel)
theorem dX5_soonestEndOf_80 : decode cX5_soonestEndOf 80 = .ok (.iconst (-1), 1) := dc_Bk (by decide +kernel)
theorem dX5_soonestEndOf_81 : decode cX5_soonestEndOf 81 = .ok (.ireturn, 1) := dc_Bk (by decide +kernel)
set_option maxRecDepth 20000 in
theorem ggX5_loudDay_X5_longestUpTo : GoodIn wsX5_loudDay wsX5_longestUpTo := goodIn_r _ [5, 6, 7, 8, 9, 10, 11, 12, 13, 14, 15, 16, 17, 18, 19, 20, 21, 22, 23, 24, 25, 26, 27, 4, 28, 29, 30, 31, 32, 33, 34, 35, 36, 37, 38, 39, 40, 41, 42, 43, 44, 45, 46, 47, 48, 49, 50, 51, 52, 53, 54, 55, 56, 57, 58, 59, 60, 61, 62, 63, 64, 65, 66, 67, 68, 69, 70, 71, 72, 73, 74, 75, 76, 77, 78, 79, 80, 81, 82, 83, 84, 85, 86, 87, 88, 89, 90, 91, 92, 93, 94, 95, 96, 97, 98, 99, 100] rfl (by decide +kernel)
set_option maxRecDepth 20000 in
theorem gX5_loudDay_X5_longestUpTo : GoodIn wsX5_loudDay (wsV RX5 89 RX5 yX5_longestUpTo wsX5_longestUpTo) := goodIn_app (goodIn_of _ (by decide +kernel)) ggX5_loudDay_X5_longestUpTo
theorem dX5_loudDay_0 : decode cX5_loudDay 0 = .ok (.iconst 0, 1) := dc_Bk (by decide +kernel)
theorem dX5_loudDay_1 : decode cX5_loudDay 1 = .ok (.istore 5, 2) := dc_Bk (by decide +kernel)
theorem dX5_loudDay_3 : decode cX5_loudDay 3 = .ok (.iload_n 1, 1) := dc_Bk (by decide +kernel)
theorem dX5_loudDay_4 : decode cX5_loudDay 4 = .ok (.iconst 1, 1) := dc_Bk (by decide +kernel)
theorem dX5_loudDay_5 : decode cX5_loudDay 5 = .ok (.isub, 1) := dc_Bk (by decide +kernel)
theorem dX5_loudDay_6 : decode cX5_loudDay 6 = .ok (.istore 6, 2) := dc_Bk (by decide +kernel)
theorem dX5_loudDay_8 : decode cX5_loudDay 8 = .ok (.iload_n 1, 1) := dc_Bk (by decide +kernel)
theorem dX5_loudDay_9 : decode cX5_loudDay 9 = .ok (.iload_n 2, 1) := dc_Bk (by decide +kernel)
theorem dX5_loudDay_10 : decode cX5_loudDay 10 = .ok (.iadd, 1) := dc_Bk (by decide +kernel)
theorem dX5_loudDay_11 : decode cX5_loudDay 11 = .ok (.iconst 1, 1) := dc_Bk (by decide +kernel)
theorem dX5_loudDay_12 : decode cX5_loudDay 12 = .ok (.isub, 1) := dc_Bk (by decide +kernel)
theorem dX5_loudDay_13 : decode cX5_loudDay 13 = .ok (.istore 7, 2) := dc_Bk (by decide +kernel)
theorem dX5_loudDay_15 : decode cX5_loudDay 15 = .ok (.iload 7, 2) := dc_Bk (by decide +kernel)
theorem dX5_loudDay_17 : decode cX5_loudDay 17 = .ok (.iload_n 3, 1) := dc_Bk (by decide +kernel)
theorem dX5_loudDay_18 : decode cX5_loudDay 18 = .ok (.if_icmp .gt 48, 3) := dc_Bk (by decide +kernel)
theorem dX5_loudDay_21 : decode cX5_loudDay 21 = .ok (.iload 7, 2) := dc_Bk (by decide +kernel)
theorem dX5_loudDay_23 : decode cX5_loudDay 23 = .ok (.iload_n 2, 1) := dc_Bk (by decide +kernel)
theorem dX5_loudDay_24 : decode cX5_loudDay 24 = .ok (.isub, 1) := dc_Bk (by decide +kernel)
theorem dX5_loudDay_25 : decode cX5_loudDay 25 = .ok (.iload 6, 2) := dc_Bk (by decide +kernel)
theorem dX5_loudDay_27 : decode cX5_loudDay 27 = .ok (.if_icmp .lt 33, 3) := dc_Bk (by decide +kernel)
theorem dX5_loudDay_30 : decode cX5_loudDay 30 = .ok (.aload_n 0, 1) := dc_Bk (by decide +kernel)
theorem dX5_loudDay_31 : decode cX5_loudDay 31 = .ok (.iload 7, 2) := dc_Bk (by decide +kernel)
theorem dX5_loudDay_33 : decode cX5_loudDay 33 = .ok (.invokevirtual 89, 3) := dc_Bk (by decide +kernel)
theorem dX5_loudDay_36 : decode cX5_loudDay 36 = .ok (.iload_n 2, 1) := dc_Bk (by decide +kernel)
theorem dX5_loudDay_37 : decode cX5_loudDay 37 = .ok (.if_icmp .ge 6, 3) := dc_Bk (by decide +kernel)
theorem dX5_loudDay_40 : decode cX5_loudDay 40 = .ok (.goto 20, 3) := dc_Bk (by decide +kernel)
theorem dX5_loudDay_43 : decode cX5_loudDay 43 = .ok (.iload 5, 2) := dc_Bk (by decide +kernel)
theorem dX5_loudDay_45 : decode cX5_loudDay 45 = .ok (.iload 4, 2) := dc_Bk (by decide +kernel)
theorem dX5_loudDay_47 : decode cX5_loudDay 47 = .ok (.if_icmp .ne 6, 3) := dc_Bk (by decide +kernel)
theorem dX5_loudDay_50 : decode cX5_loudDay 50 = .ok (.iload 7, 2) := dc_Bk (by decide +kernel)
theorem dX5_loudDay_52 : decode cX5_loudDay 52 = .ok (.ireturn, 1) := dc_Bk (by decide +kernel)
theorem dX5_loudDay_53 : decode cX5_loudDay 53 = .ok (.iload 7, 2) := dc_Bk (by decide +kernel)
theorem dX5_loudDay_55 : decode cX5_loudDay 55 = .ok (.istore 6, 2) := dc_Bk (by decide +kernel)
theorem dX5_loudDay_57 : decode cX5_loudDay 57 = .ok (.iinc 5 1, 3) := dc_Bk (by decide +kernel)
theorem dX5_loudDay_60 : decode cX5_loudDay 60 = .ok (.iinc 7 1, 3) := dc_Bk (by decide +kernel)
theorem dX5_loudDay_63 : decode cX5_loudDay 63 = .ok (.goto (-48), 3) := dc_Bk (by decide +kernel)
theorem dX5_loudDay_66 : decode cX5_loudDay 66 = .ok (.iload 4, 2) := dc_Bk (by decide +kernel)
theorem dX5_loudDay_68 : decode cX5_loudDay 68 = .ok (.iconst (-1), 1) := dc_Bk (by decide +kernel)
theorem dX5_loudDay_69 : decode cX5_loudDay 69 = .ok (.if_icmp .ne 13, 3) := dc_Bk (by decide +kernel)
theorem dX5_loudDay_72 : decode cX5_loudDay 72 = .ok (.iload 5, 2) := dc_Bk (by decide +kernel)
theorem dX5_loudDay_74 : decode cX5_loudDay 74 = .ok (.ifCond .le 8, 3) := dc_Bk (by decide +kernel)
theorem dX5_loudDay_77 : decode cX5_loudDay 77 = .ok (.iload 5, 2) := dc_Bk (by decide +kernel)
theorem dX5_loudDay_79 : decode cX5_loudDay 79 = .ok (.goto 4, 3) := dc_Bk (by decide +kernel)
theorem dX5_loudDay_82 : decode cX5_loudDay 82 = .ok (.iconst (-1), 1) := dc_Bk (by decide +kernel)
theorem dX5_loudDay_83 : decode cX5_loudDay 83 = .ok (.ireturn, 1) := dc_Bk (by decide +kernel)
set_option maxRecDepth 20000 in
theorem ggX5_moveTo_J7_fill_53178 : GoodIn wsX5_moveTo wsJ7_fill_53178 := goodIn_r _ [8] rfl (by decide +kernel)
set_option maxRecDepth 20000 in
theorem gX5_moveTo_J7_fill_53178 : GoodIn wsX5_moveTo (va_wsS RX5 52 yJ7_fill_53178 wsJ7_fill_53178) := goodIn_app (goodIn_of _ (by decide +kernel)) ggX5_moveTo_J7_fill_53178
set_option maxRecDepth 20000 in
theorem ggX5_moveTo_J7_fill_d0a16 : GoodIn wsX5_moveTo wsJ7_fill_d0a16 := goodIn_r _ [11] rfl (by decide +kernel)
set_option maxRecDepth 20000 in
theorem gX5_moveTo_J7_fill_d0a16 : GoodIn wsX5_moveTo (va_wsS RX5 58 yJ7_fill_d0a16 wsJ7_fill_d0a16) := goodIn_app (goodIn_of _ (by decide +kernel)) ggX5_moveTo_J7_fill_d0a16
set_option maxRecDepth 20000 in
theorem ggX5_moveTo_X8_part : GoodIn wsX5_moveTo wsX8_part := goodIn_r _ [16, 17, 18, 19, 20, 15, 21, 22, 33, 34, 35, 36, 37] rfl (by decide +kernel)
set_option maxRecDepth 20000 in
theorem gX5_moveTo_X8_part : GoodIn wsX5_moveTo (wsV RX5 61 RX8 yX8_part wsX8_part) := goodIn_app (goodIn_of _ (by decide +kernel)) ggX5_moveTo_X8_part
theorem dX5_moveTo_0 : decode cX5_moveTo 0 = .ok (.aload_n 0, 1) := dc_Bk (by decide +kernel)
theorem dX5_moveTo_1 : decode cX5_moveTo 1 = .ok (.aload_n 1, 1) := dc_Bk (by decide +kernel)
theorem dX5_moveTo_2 : decode cX5_moveTo 2 = .ok (.putfield 44, 3) := dc_Bk (by decide +kernel)
theorem dX5_moveTo_5 : decode cX5_moveTo 5 = .ok (.aload_n 0, 1) := dc_Bk (by decide +kernel)
theorem dX5_moveTo_6 : decode cX5_moveTo 6 = .ok (.getfield 28, 3) := dc_Bk (by decide +kernel)
theorem dX5_moveTo_9 : decode cX5_moveTo 9 = .ok (.iconst (-1), 1) := dc_Bk (by decide +kernel)
theorem dX5_moveTo_10 : decode cX5_moveTo 10 = .ok (.invokestatic 52, 3) := dc_Bk (by decide +kernel)
theorem dX5_moveTo_13 : decode cX5_moveTo 13 = .ok (.aload_n 0, 1) := dc_Bk (by decide +kernel)
theorem dX5_moveTo_14 : decode cX5_moveTo 14 = .ok (.getfield 31, 3) := dc_Bk (by decide +kernel)
theorem dX5_moveTo_17 : decode cX5_moveTo 17 = .ok (.lconst 0, 1) := dc_Bk (by decide +kernel)
theorem dX5_moveTo_18 : decode cX5_moveTo 18 = .ok (.invokestatic 58, 3) := dc_Bk (by decide +kernel)
theorem dX5_moveTo_21 : decode cX5_moveTo 21 = .ok (.iconst 0, 1) := dc_Bk (by decide +kernel)
theorem dX5_moveTo_22 : decode cX5_moveTo 22 = .ok (.istore_n 2, 1) := dc_Bk (by decide +kernel)
theorem dX5_moveTo_23 : decode cX5_moveTo 23 = .ok (.iload_n 2, 1) := dc_Bk (by decide +kernel)
theorem dX5_moveTo_24 : decode cX5_moveTo 24 = .ok (.bipush 7, 2) := dc_Bk (by decide +kernel)
theorem dX5_moveTo_26 : decode cX5_moveTo 26 = .ok (.if_icmp .ge 22, 3) := dc_Bk (by decide +kernel)
theorem dX5_moveTo_29 : decode cX5_moveTo 29 = .ok (.aload_n 0, 1) := dc_Bk (by decide +kernel)
theorem dX5_moveTo_30 : decode cX5_moveTo 30 = .ok (.getfield 25, 3) := dc_Bk (by decide +kernel)
theorem dX5_moveTo_33 : decode cX5_moveTo 33 = .ok (.iload_n 2, 1) := dc_Bk (by decide +kernel)
theorem dX5_moveTo_34 : decode cX5_moveTo 34 = .ok (.aload_n 1, 1) := dc_Bk (by decide +kernel)
theorem dX5_moveTo_35 : decode cX5_moveTo 35 = .ok (.iconst 0, 1) := dc_Bk (by decide +kernel)
theorem dX5_moveTo_36 : decode cX5_moveTo 36 = .ok (.iload_n 2, 1) := dc_Bk (by decide +kernel)
theorem dX5_moveTo_37 : decode cX5_moveTo 37 = .ok (.iconst 1, 1) := dc_Bk (by decide +kernel)
theorem dX5_moveTo_38 : decode cX5_moveTo 38 = .ok (.invokevirtual 61, 3) := dc_Bk (by decide +kernel)
theorem dX5_moveTo_41 : decode cX5_moveTo 41 = .ok (.iastore, 1) := dc_Bk (by decide +kernel)
theorem dX5_moveTo_42 : decode cX5_moveTo 42 = .ok (.iinc 2 1, 3) := dc_Bk (by decide +kernel)
theorem dX5_moveTo_45 : decode cX5_moveTo 45 = .ok (.goto (-22), 3) := dc_Bk (by decide +kernel)
theorem dX5_moveTo_48 : decode cX5_moveTo 48 = .ok (.return_, 1) := dc_Bk (by decide +kernel)
/-- what is open on a day, with what rows ahead have taken -/
def opn (q1 : Nat) (cf st ts th be : Nat → Int32) (tw ck : Nat) (ed : Int32) (b s : Nat) : Int32 := if ¬ inS (bsS st ts tw (ed - nI b) ck) (nI s) = 0 then 0 else (chA q1 cf (nI s) (ed - (nI b))) &&& ((fhR st th be tw ck (ed - (nI b))) ^^^ (-1))
def CFB (q1 : Nat) (cf : Nat → Int32) : Prop := ∀ d s, d < 100 → s < q1 → ∃ v : Nat, v < 128 ∧ cf (d * 7 + s) = nI v
def chE (q1 : Nat) (cf : Nat → Int32) (d s : Nat) : Int32 := if s < q1 then cf (d * 7 + s) else 0
theorem and_l {v : Nat} (hv : v < 128) (y : Int32) : ∃ u : Nat, u < 128 ∧ nI v &&& y = nI u := by
  have e : (nI v &&& y).toBitVec.toNat = v &&& y.toBitVec.toNat := by
    rw [Int32.toBitVec_and, BitVec.toNat_and, pk_tn (by omega)]
  have h : v &&& y.toBitVec.toNat ≤ v := Nat.and_le_left
  refine ⟨v &&& y.toBitVec.toNat, by omega, ?_⟩
  apply Int32.toBitVec_inj.mp
  apply BitVec.eq_of_toNat_eq
  rw [e, pk_tn (by omega)]
section
variable {q1 tw ck nn i j dd d n : Nat} {cf st ts th be o9 o8 lg : Nat → Int32} {al : Nat → Nat} {ed mo : Int32} {L7 L8 M7 M8 N7 N8 : Nat → Int64} {P Q : Nat → Nat → Prop}
theorem ch_n {s : Nat} (hq : q1 ≤ 7) (hs7 : s < 7) (hd : d < 100) : chA q1 cf (nI s) (nI d) = chE q1 cf d s := by
  unfold chA chE
  by_cases c : s < q1
  · rw [hs_in c (by omega), if_neg (by decide), if_neg (nI_pos (by omega)), if_neg (show ¬ (100 : Int32) ≤ nI d from nI_ge (b := 100) hd (by decide)), if_pos c]
    have e : nI d * 7 + nI s = nI (d * 7 + s) := by rw [← nI_add, ← pk_mul]; rfl
    rw [e, nI_clamp (by omega)]
  · have z : hs q1 (nI s) = 0 := by
      unfold hs
      rw [if_neg (nI_pos (by omega)), if_pos (nI_le (by omega) (by omega))]
    rw [z, if_pos rfl, if_neg c]
theorem ch_v (hC : CFB q1 cf) (sa dy : Int32) (hq : q1 ≤ 7) : ∃ v : Nat, v < 128 ∧ chA q1 cf sa dy = nI v := by
  unfold chA
  by_cases c1 : hs q1 sa = 0
  · exact ⟨0, by decide, by rw [if_pos c1]; rfl⟩
  · rw [if_neg c1]
    by_cases c2 : dy < 0
    · exact ⟨0, by decide, by rw [if_pos c2]; rfl⟩
    · rw [if_neg c2]
      by_cases c3 : 100 ≤ dy
      · exact ⟨0, by decide, by rw [if_pos c3]; rfl⟩
      · rw [if_neg c3]
        obtain ⟨s, hs, rfl⟩ := hs_ne (by omega) c1
        obtain ⟨d, hd, rfl⟩ := nI_of c2
        have hd1 : d < 100 := Nat.not_le.mp (fun q => c3 (nI_le (a := 100) q hd))
        have e : nI d * 7 + nI s = nI (d * 7 + s) := by rw [← nI_add, ← pk_mul]; rfl
        rw [e, nI_clamp (by omega)]
        exact hC d s hd1 hs
theorem opn_v (hC : CFB q1 cf) (hq : q1 ≤ 7) (b s : Nat) : ∃ v : Nat, v < 128 ∧ opn q1 cf st ts th be tw ck ed b s = nI v := by
  unfold opn
  by_cases c : inS (bsS st ts tw (ed - nI b) ck) (nI s) = 0
  · rw [if_neg (show ¬ ¬ inS (bsS st ts tw (ed - nI b) ck) (nI s) = 0 from fun q => q c)]
    obtain ⟨v, hv, e⟩ := ch_v hC (nI s) (ed - nI b) hq
    rw [e]
    exact and_l hv _
  · rw [if_pos c]; exact ⟨0, by decide, rfl⟩
def OPx (q1 : Nat) (cf st ts th be : Nat → Int32) (tw ck : Nat) (ed : Int32) (P : Nat → Nat → Prop) (o : Nat → Int32) : Prop := OB o ∧ ∀ b s, b < 7 → s < 7 → P b s → o (b * 7 + s) = opn q1 cf st ts th be tw ck ed b s
theorem OPx_0 (h : OB o9) (k : ∀ b s, ¬ P b s) : OPx q1 cf st ts th be tw ck ed P o9 := ⟨h, fun b s _ _ p => absurd p (k b s)⟩
theorem OPx_u {v : Int32} (h : OPx q1 cf st ts th be tw ck ed P o9) (hC : CFB q1 cf) (hq : q1 ≤ 7) (hi : i < 7) (hj : j < 7) (hv : v = opn q1 cf st ts th be tw ck ed i j) (hP : ∀ b s, b < 7 → s < 7 → Q b s → P b s ∨ (b = i ∧ s = j)) : OPx q1 cf st ts th be tw ck ed Q (upd o9 (i * 7 + j) v) := by
  refine ⟨fun t ht => ?_, fun b s hb hs p => ?_⟩
  · by_cases e : t = i * 7 + j
    · rw [e, pk_us, hv]; exact opn_v hC hq i j
    · rw [pk_un e]; exact h.1 t ht
  · by_cases e : b = i ∧ s = j
    · rw [e.1, e.2, pk_us, hv]
    · rw [pk_un (fun k => e (by omega))]
      exact h.2 b s hb hs ((hP b s hb hs p).resolve_right e)
theorem OPx_c (h : OPx q1 cf st ts th be tw ck ed P o9) (k : ∀ b s, b < 7 → s < 7 → Q b s → P b s) : OPx q1 cf st ts th be tw ck ed Q o9 := ⟨h.1, fun b s hb hs p => h.2 b s hb hs (k b s hb hs p)⟩
theorem opn_0 {b s : Nat} (h : inS (bsS st ts tw (ed - nI b) ck) (nI s) = 0) : (chA q1 cf (nI s) (ed - (nI b))) &&& ((fhR st th be tw ck (ed - (nI b))) ^^^ (-1)) = opn q1 cf st ts th be tw ck ed b s := (if_neg (fun q => q h)).symm
theorem opn_1 {b s : Nat} (h : ¬ inS (bsS st ts tw (ed - nI b) ck) (nI s) = 0) : (0 : Int32) = opn q1 cf st ts th be tw ck ed b s := (if_pos h).symm
theorem an_m1 : ∀ v, v < 128 → nI v &&& ((0 : Int32) ^^^ (-1)) = nI v := by decide +kernel
theorem in_00 : ∀ a, a < 7 → inS 0 (nI a) = 0 := by decide +kernel
theorem opn_n (hC : CFB q1 cf) (hq : q1 ≤ 7) {b s : Nat} (hs : s < 7) : opn q1 cf st ts th be 0 0 ed b s = chA q1 cf (nI s) (ed - nI b) := by
  obtain ⟨v, hv, e⟩ := ch_v hC (nI s) (ed - nI b) hq
  have z : fhR st th be 0 0 (ed - nI b) = 0 := if_pos rfl
  have y : bsS st ts 0 (ed - nI b) 0 = 0 := rfl
  unfold opn
  rw [y, if_neg (show ¬ ¬ inS 0 (nI s) = 0 from fun k => k (in_00 s hs)), z, e, an_m1 v hv]
/-- which rows end on a day, with all beds and sleepers free -/
def okE (q1 : Nat) (cf : Nat → Int32) (e k s h : Nat) : Bool := (chE q1 cf (e - k) s).toNatClampNeg.testBit h
def LE (q1 : Nat) (cf : Nat → Int32) (e n : Nat) : Prop := ∃ w x, BS (okE q1 cf e) n w x
theorem BS_c {ok ok2 : Nat → Nat → Nat → Bool} : ∀ {n w x}, (∀ k s h, k < n → s < 7 → h < 7 → ok k s h = ok2 k s h) → BS ok n w x → BS ok2 n w x
  | 0, w, x, _, h => h
  | n + 1, w, x, e, ⟨w0, x0, s, t, a1, a2, a3, a4, a5, a6, a7, a8, a9, b1⟩ => ⟨w0, x0, s, t, a1, a2, a3, a4, a5, a6, a7, a8, by rw [← e n s t (by omega) a3 a4]; exact a9, BS_c (fun k s h hk => e k s h (by omega)) b1⟩
theorem BS_d {ok : Nat → Nat → Nat → Bool} : ∀ j {n w x}, BS ok (n + j) w x → ∃ w0 x0, BS ok n w0 x0
  | 0, n, w, x, h => ⟨w, x, h⟩
  | j + 1, n, w, x, ⟨w0, x0, s, t, a1, a2, a3, a4, a5, a6, a7, a8, a9, b1⟩ => BS_d j b1
theorem LE_d (h : LE q1 cf d n) (hj : j ≤ n) : LE q1 cf d j := by
  obtain ⟨w, x, h⟩ := h
  obtain ⟨k, rfl⟩ : ∃ k, n = j + k := ⟨n - j, by omega⟩
  exact BS_d k h
def AK (q1 : Nat) (cf : Nat → Int32) (al : Nat → Nat) : Prop := ∀ d, d < 100 → al d ≤ d + 1 ∧ ∀ j, j < al d → ∀ s, s < q1 → cf ((d - j) * 7 + s) = cf (d * 7 + s)
theorem LE_k (h : AK q1 cf al) (hd : d < 100) (hn : n ≤ 7) (hn1 : n ≤ d + 1) : n ≤ slk al d + 1 ∧ (LE q1 cf (slk al d) n ↔ LE q1 cf d n) := by
  obtain ⟨h1, h2⟩ := h d hd
  unfold slk
  by_cases c : al d ≤ 7
  · rw [if_pos c]; exact ⟨hn1, Iff.rfl⟩
  · rw [if_neg c]
    have e : ∀ k s h, k < n → s < 7 → h < 7 → okE q1 cf (d + 7 - al d) k s h = okE q1 cf d k s h := fun k s h hk hs _ => by
      unfold okE chE
      by_cases g : s < q1
      · rw [if_pos g, if_pos g, h2 k (by omega) s g, show d + 7 - al d - k = d - (al d - 7 + k) by omega, h2 (al d - 7 + k) (by omega) s g]
      · rw [if_neg g, if_neg g]
    exact ⟨by omega, ⟨fun ⟨w, x, k⟩ => ⟨w, x, BS_c e k⟩, fun ⟨w, x, k⟩ => ⟨w, x, BS_c (fun a b c d1 d2 d3 => (e a b c d1 d2 d3).symm) k⟩⟩⟩
def LX (i : Nat) (mo : Int32) (M7 M8 : Nat → Int64) : Prop := ∃ mm : Nat, mo = nI mm ∧ mm ≤ 7 ∧ (∀ w x, w < i → x < 128 → cb M7 M8 w x = true → bcn w ≤ mm) ∧ (mm = 0 ∨ ∃ w x, w < i ∧ x < 128 ∧ cb M7 M8 w x = true ∧ bcn w = mm)
theorem LX_0 : LX 0 0 M7 M8 := ⟨0, rfl, by decide, fun w x h => absurd h (Nat.not_lt_zero w), Or.inl rfl⟩
theorem LX_k (h : LX i mo M7 M8) (hn : ∀ x, ¬ cb M7 M8 i x = true) : LX (i + 1) mo M7 M8 := by
  obtain ⟨mm, h1, h2, h3, h4⟩ := h
  refine ⟨mm, h1, h2, fun w x hw hx k => ?_, h4.imp id (fun ⟨w, x, a1, a2⟩ => ⟨w, x, by omega, a2⟩)⟩
  by_cases e : w = i
  · rw [e] at k; exact absurd k (hn x)
  · exact h3 w x (by omega) hx k
theorem mx_n {a b : Nat} (ha : a < 2 ^ 31) (hb : b < 2 ^ 31) : mx (nI a) (nI b) = nI (max a b) := by
  unfold mx
  by_cases c : a < b
  · rw [if_pos ((nI_ltI ha hb).mpr c), Nat.max_eq_right (by omega)]
  · rw [if_neg (fun k => c ((nI_ltI ha hb).mp k)), Nat.max_eq_left (by omega)]
theorem LX_s (h : LX i mo M7 M8) (hi : i < 128) (hs : ∃ x, x < 128 ∧ cb M7 M8 i x = true) : LX (i + 1) (mx mo (nI (bcn i))) M7 M8 := by
  obtain ⟨mm, h1, h2, h3, h4⟩ := h
  have hb := (bc_n i hi).2
  refine ⟨max mm (bcn i), by rw [h1, mx_n (by omega) (by omega)], by omega, fun w x hw hx k => ?_, ?_⟩
  · by_cases e : w = i
    · rw [e]; exact Nat.le_max_right _ _
    · exact Nat.le_trans (h3 w x (by omega) hx k) (Nat.le_max_left _ _)
  · by_cases c : mm ≤ bcn i
    · rw [Nat.max_eq_right c]
      obtain ⟨x, hx, hc⟩ := hs
      exact Or.inr ⟨i, x, by omega, hx, hc, rfl⟩
    · rw [Nat.max_eq_left (by omega)]
      exact h4.imp id (fun ⟨w, x, a1, a2⟩ => ⟨w, x, by omega, a2⟩)
def LNg (q1 : Nat) (cf : Nat → Int32) (d mm : Nat) : Prop := mm ≤ 7 ∧ ∀ n, 1 ≤ n → n ≤ 7 → n ≤ d + 1 → (n ≤ mm ↔ LE q1 cf d n)
def EBx (q1 : Nat) (cf : Nat → Int32) (e w : Nat) : Prop := ∃ x, BS (okE q1 cf e) (bcn w) w x
def ABt (ab : Nat → Int64) (d w : Nat) : Bool := bt (ab (d * 2 + w / 64)) (w % 64)
def MEM (q1 : Nat) (cf lg : Nat → Int32) (ab : Nat → Int64) : Prop := ∀ d, d < 100 → (lg d = -1 ∧ ab (d * 2) = 0 ∧ ab (d * 2 + 1) = 0) ∨ ∃ mm : Nat, lg d = nI mm ∧ LNg q1 cf d mm ∧ ∀ w, w < 128 → (ABt ab d w = true ↔ bcn w ≤ min 7 (d + 1) ∧ EBx q1 cf d w)
theorem LX_m (hC : CFB q1 cf) (hq : q1 ≤ 7) (hd : d < 100) (hR : RS o8 (min 7 (d + 1)) 128 M7 M8) (hO : ∀ b s, b < min 7 (d + 1) → s < 7 → o8 (b * 7 + s) = opn q1 cf st ts th be 0 0 (nI d) b s) (h : LX 128 mo M7 M8) : ∃ mm : Nat, mo = nI mm ∧ LNg q1 cf d mm := by
  obtain ⟨mm, h1, h2, h3, h4⟩ := h
  have e : ∀ k s h, k < min 7 (d + 1) → s < 7 → h < 7 → ob o8 k s h = okE q1 cf d k s h := fun k s h hk hs _ => by
    unfold ob okE
    rw [hO k s hk hs, opn_n hC hq hs, pk_sub (by omega), ch_n hq hs (by omega)]
  refine ⟨mm, h1, h2, fun n n1 n7 nd => ⟨fun k => ?_, fun k => ?_⟩⟩
  · rcases h4 with h4 | ⟨w, x, a1, a2, a3, a4⟩
    · omega
    · obtain ⟨b1, b2⟩ := (RS_B hR (bcn w) w x a1 a2 rfl).mp a3
      rw [a4] at b1 b2
      exact LE_d ⟨w, x, BS_c (fun k s h hk => e k s h (by omega)) b2⟩ k
  · obtain ⟨w, x, b⟩ := k
    obtain ⟨b1, b2, b3⟩ := BS_b b
    have c := (RS_B hR n w x b2 b3 b1).mpr ⟨by omega, BS_c (fun k s h hk a b => (e k s h (by omega) a b).symm) b⟩
    have := h3 w x b2 b3 c
    omega
theorem LN_k {mm : Nat} (h : AK q1 cf al) (hd : d < 100) (k : LNg q1 cf (slk al d) mm) : LNg q1 cf d mm := ⟨k.1, fun n n1 n7 nd => (k.2 n n1 n7 (LE_k h hd n7 nd).1).trans (LE_k h hd n7 nd).2⟩
/-- the soonest end -/
def SE (q1 : Nat) (cf : Nat → Int32) (fi nn un : Nat) (r : Int32) : Prop := (r = -1 ∧ ∀ e, fi + nn ≤ e + 1 → e ≤ un → ¬ LE q1 cf e nn) ∨ (∃ e : Nat, r = nI e ∧ fi + nn ≤ e + 1 ∧ e ≤ un ∧ LE q1 cf e nn ∧ ∀ g, fi + nn ≤ g + 1 → g < e → ¬ LE q1 cf g nn)
end

theorem ob_okE {q1 e nn : Nat} {cf st ts th be o9 : Nat → Int32} (hC : CFB q1 cf) (hq : q1 ≤ 7) (he : e < 100) (hn : nn ≤ e + 1) (hO : ∀ b s, b < nn → s < 7 → o9 (b * 7 + s) = opn q1 cf st ts th be 0 0 (nI e) b s) : ∀ k s h, k < nn → s < 7 → h < 7 → ob o9 k s h = okE q1 cf e k s h := fun k s h hk hs _ => by
  unfold ob okE
  rw [hO k s hk hs, opn_n hC hq hs, pk_sub (by omega), ch_n hq hs (by omega)]
/-- which SETs of sleepers have a row up to a day, and that the memory holds them -/
theorem sh1_n : ∀ b, b < 64 → ∀ j, j < 64 → bt ((1 : Int64) <<< ((nI b).toInt64 &&& 63)) j = decide (j = b) := by decide +kernel
theorem us_b : ∀ b, b < 64 → (((nI b).toInt64.toUInt64 &&& Int64.toUInt64 63).toBitVec % 64).toNat = b := by decide +kernel
theorem and0L (y : Int64) : y &&& 1 = 0 ↔ ¬ bt y 0 = true := by
  rw [← and1L]
  constructor
  · intro h k
    rw [h] at k
    exact absurd k (by decide)
  · intro h
    have e : y.toBitVec &&& 1#64 = if y.toBitVec.getLsbD 0 = true then 1#64 else 0#64 := by
      rw [BitVec.and_one_eq_setWidth_ofBool_getLsbD]
      cases y.toBitVec.getLsbD 0 <;> decide
    have n : ¬ y.toBitVec.getLsbD 0 = true := fun k => h ((and1L y).mpr k)
    rw [if_neg n] at e
    exact Int64.toBitVec_inj.mp e
theorem bt_us0 {x : Int64} {b : Nat} (hb : b < 64) : ((x.toUInt64 >>> ((nI b).toInt64.toUInt64 &&& Int64.toUInt64 63)).toInt64) &&& 1 = 0 ↔ ¬ bt x b = true := by
  rw [and0L]
  have e : bt ((x.toUInt64 >>> ((nI b).toInt64.toUInt64 &&& Int64.toUInt64 63)).toInt64) 0 = bt x b := by
    show (x.toBitVec >>> (((nI b).toInt64.toUInt64 &&& Int64.toUInt64 63).toBitVec % 64)).getLsbD 0 = x.toBitVec.getLsbD b
    rw [BitVec.ushiftRight_eq', BitVec.getLsbD_ushiftRight, us_b b hb, Nat.add_zero]
  rw [e]
section
variable {q1 d n w i dd fi un e mm : Nat} {cf lg o8 : Nat → Int32} {al : Nat → Nat} {ab ab9 M7 M8 : Nat → Int64} {r : Int32}
theorem EB_L (h : EBx q1 cf e w) : LE q1 cf e (bcn w) := by
  obtain ⟨x, b⟩ := h
  exact ⟨w, x, b⟩
theorem EB_k (h : AK q1 cf al) (hd : d < 100) (hn : bcn w ≤ 7) (hn1 : bcn w ≤ d + 1) : bcn w ≤ slk al d + 1 ∧ (EBx q1 cf (slk al d) w ↔ EBx q1 cf d w) := by
  obtain ⟨h1, h2⟩ := h d hd
  unfold slk
  by_cases c : al d ≤ 7
  · rw [if_pos c]; exact ⟨hn1, Iff.rfl⟩
  · rw [if_neg c]
    have e : ∀ k s h, k < bcn w → s < 7 → h < 7 → okE q1 cf (d + 7 - al d) k s h = okE q1 cf d k s h := fun k s h hk hs _ => by
      unfold okE chE
      by_cases g : s < q1
      · rw [if_pos g, if_pos g, h2 k (by omega) s g, show d + 7 - al d - k = d - (al d - 7 + k) by omega, h2 (al d - 7 + k) (by omega) s g]
      · rw [if_neg g, if_neg g]
    exact ⟨by omega, ⟨fun ⟨x, k⟩ => ⟨x, BS_c e k⟩, fun ⟨x, k⟩ => ⟨x, BS_c (fun a b c d1 d2 d3 => (e a b c d1 d2 d3).symm) k⟩⟩⟩
def AB9 (ab ab9 M7 M8 : Nat → Int64) (dd i : Nat) : Prop := (∀ j, ¬ j = dd * 2 → ¬ j = dd * 2 + 1 → ab9 j = ab j) ∧ ∀ w, w < 128 → (ABt ab9 dd w = true ↔ w < i ∧ ∃ x, x < 128 ∧ cb M7 M8 w x = true)
theorem AB9_0 (h1 : ab (dd * 2) = 0) (h2 : ab (dd * 2 + 1) = 0) : AB9 ab ab M7 M8 dd 0 := ⟨fun _ _ _ => rfl, fun w hw => ⟨fun k => by
  exfalso
  have z : ab (dd * 2 + w / 64) = 0 := by
    by_cases c : w < 64
    · rw [show w / 64 = 0 by omega]; exact h1
    · rw [show w / 64 = 1 by omega]; exact h2
  unfold ABt at k
  rw [z, bt_zero] at k
  exact absurd k (by decide), fun k => absurd k.1 (Nat.not_lt_zero w)⟩⟩
theorem AB9_k (h : AB9 ab ab9 M7 M8 dd i) (hn : ∀ x, ¬ cb M7 M8 i x = true) : AB9 ab ab9 M7 M8 dd (i + 1) := ⟨h.1, fun w hw => (h.2 w hw).trans ⟨fun k => ⟨by omega, k.2⟩, fun ⟨k1, x, hx, hc⟩ => ⟨by
  by_cases e : w = i
  · rw [e] at hc; exact absurd hc (hn x)
  · omega, x, hx, hc⟩⟩⟩
theorem AB9_s (h : AB9 ab ab9 M7 M8 dd i) (hi : i < 128) (hs : ∃ x, x < 128 ∧ cb M7 M8 i x = true) : AB9 ab (vp_updL ab9 (dd * 2 + i / 64) (ab9 (dd * 2 + i / 64) ||| ((1 : Int64) <<< ((nI (i % 64)).toInt64 &&& 63)))) M7 M8 dd (i + 1) := by
  refine ⟨fun j h1 h2 => (pk_uLn (by omega)).trans (h.1 j h1 h2), fun w hw => ?_⟩
  have k := h.2 w hw
  unfold ABt at k ⊢
  by_cases e : w / 64 = i / 64
  · rw [e] at k ⊢
    rw [pk_uLs, bt_or, sh1_n (i % 64) (by omega) (w % 64) (by omega), Bool.or_eq_true, decide_eq_true_eq, k]
    constructor
    · rintro (⟨q1, q2⟩ | q)
      · exact ⟨by omega, q2⟩
      · have e2 : w = i := by omega
        rw [e2]; exact ⟨by omega, hs⟩
    · rintro ⟨q1, q2⟩
      by_cases e2 : w = i
      · exact Or.inr (by rw [e2])
      · exact Or.inl ⟨by omega, q2⟩
  · rw [pk_uLn (by omega), k]
    exact ⟨fun q => ⟨by omega, q.2⟩, fun q => ⟨by
      by_cases e2 : w = i
      · rw [e2] at e; exact absurd rfl e
      · omega, q.2⟩⟩
theorem MEM_w (h : MEM q1 cf lg ab) (k : LNg q1 cf dd mm) (hA : AB9 ab ab9 M7 M8 dd 128) (hR : RS o8 (min 7 (dd + 1)) 128 M7 M8) (hO : ∀ k s h, k < min 7 (dd + 1) → s < 7 → h < 7 → ob o8 k s h = okE q1 cf dd k s h) : MEM q1 cf (upd lg dd (nI mm)) ab9 := fun d hd => by
  by_cases e : d = dd
  · rw [e, pk_us]
    refine Or.inr ⟨mm, rfl, k, fun w hw => (hA.2 w hw).trans ⟨fun ⟨_, x, hx, hc⟩ => ?_, fun ⟨b1, x, b2⟩ => ?_⟩⟩
    · obtain ⟨b1, b2⟩ := (RS_B hR (bcn w) w x hw hx rfl).mp hc
      exact ⟨b1, x, BS_c (fun a s t ha => hO a s t (by omega)) b2⟩
    · exact ⟨hw, x, (BS_b b2).2.2, (RS_B hR (bcn w) w x hw (BS_b b2).2.2 rfl).mpr ⟨b1, BS_c (fun a s t ha hs ht => (hO a s t (by omega) hs ht).symm) b2⟩⟩
  · rw [pk_un e]
    rcases h d hd with ⟨a1, a2, a3⟩ | ⟨m2, a1, a2, a3⟩
    · exact Or.inl ⟨a1, (hA.1 _ (by omega) (by omega)).trans a2, (hA.1 _ (by omega) (by omega)).trans a3⟩
    · refine Or.inr ⟨m2, a1, a2, fun w hw => ?_⟩
      have z : ABt ab9 d w = ABt ab d w := by
        unfold ABt
        rw [hA.1 _ (by omega) (by omega)]
      rw [z]; exact a3 w hw
theorem MEM_z (h : MEM q1 cf lg ab) (hd : dd < 100) (e : lg dd = -1) : ab (dd * 2) = 0 ∧ ab (dd * 2 + 1) = 0 := by
  rcases h dd hd with ⟨-, a2, a3⟩ | ⟨m2, a1, a2, -⟩
  · exact ⟨a2, a3⟩
  · exact (nI_pos (n := m2) (by have := a2.1; omega) (by rw [← a1, e]; decide)).elim
theorem MEM_e (h : MEM q1 cf lg ab) (hA : AK q1 cf al) (hd : d < 100) (hne : ¬ lg (slk al d) = -1) (hw : w < 128) (hn : bcn w ≤ 7) (hn1 : bcn w ≤ d + 1) : ABt ab (slk al d) w = true ↔ EBx q1 cf d w := by
  have hs : slk al d < 100 := Nat.lt_of_le_of_lt slk_le hd
  obtain ⟨k1, k2⟩ := EB_k (w := w) hA hd hn hn1
  rcases h _ hs with ⟨a1, -, -⟩ | ⟨m2, a1, a2, a3⟩
  · exact absurd a1 hne
  · rw [a3 w hw, k2]
    exact ⟨fun q => q.2, fun q => ⟨by omega, q⟩⟩
/-- the soonest end of a row with a SET -/
def SEw (q1 : Nat) (cf : Nat → Int32) (w fi un : Nat) (r : Int32) : Prop := (r = -1 ∧ ∀ e, fi + bcn w ≤ e + 1 → e ≤ un → ¬ EBx q1 cf e w) ∨ (∃ e : Nat, r = nI e ∧ fi + bcn w ≤ e + 1 ∧ e ≤ un ∧ EBx q1 cf e w ∧ ∀ g, fi + bcn w ≤ g + 1 → g < e → ¬ EBx q1 cf g w)
end
/-- wages and odds of a SET -/
def wgS (n : Nat) (G : Nat → Int32) (w : Nat) : Nat → Int32
  | 0 => 0
  | s + 1 => if w.testBit s = true then wgS n G w s + pt n G (nI s) 2 else wgS n G w s
def drS (y : Int32) (f : Nat → Int32) (j : Nat) : Nat → Int32 := upd (upd f (j + 1) (f (j + 1) + f j * y / 100)) j (upd f (j + 1) (f (j + 1) + f j * y / 100) j - f j * y / 100)
def drD (y : Int32) : Nat → (Nat → Int32) → Nat → Int32
  | 0, f => f
  | d + 1, f => drD y d (drS y f d)
def odC (n : Nat) (G : Nat → Int32) (w : Nat) (f : Nat → Int32) : Nat → Nat → Int32
  | 0 => f
  | s + 1 => if w.testBit s = true then drD (pt n G (nI s) 1) 7 (odC n G w f s) else odC n G w f s
def smU (f : Nat → Int32) (a : Nat) : Nat → Int32
  | 0 => 0
  | n + 1 => smU f a n + f (a + n)
def od0 (n : Nat) : Nat → Int32 := upd (fl_i (fun _ => 0) 0 n) 0 1000000
theorem od0_c {f : Nat → Int32} {n j : Nat} (h : j < n) : upd (fl_i f 0 n) 0 1000000 j = od0 n j := by
  unfold od0
  by_cases e : j = 0
  · rw [e, pk_us, pk_us]
  · rw [pk_un e, pk_un e, fl_i_in h, fl_i_in h]
/-- the best of what was looked at: by value, then by end, then by SET -/
def BTR (lt : Int32 → Int32 → Prop) (V : Nat → Int32) (a g w e : Nat) : Prop := lt (V a) (V w) ∨ (V a = V w ∧ (g < e ∨ (g = e ∧ a < w)))
def STO (lt : Int32 → Int32 → Prop) : Prop := (∀ x, ¬ lt x x) ∧ (∀ x y z, lt x y → lt y z → lt x z) ∧ ∀ x y, ¬ lt x y → ¬ lt y x → x = y
theorem STO_l : STO (fun x y => x < y) := ⟨fun _ => Int32.lt_irrefl, fun _ _ _ => Int32.lt_trans, fun _ _ h k => Int32.le_antisymm (Int32.not_lt.mp k) (Int32.not_lt.mp h)⟩
theorem STO_g : STO (fun x y => y < x) := ⟨fun _ => Int32.lt_irrefl, fun _ _ _ h k => Int32.lt_trans k h, fun _ _ h k => Int32.le_antisymm (Int32.not_lt.mp h) (Int32.not_lt.mp k)⟩
def BSF (lt : Int32 → Int32 → Prop) (V : Nat → Int32) (S Pr : Nat → Nat → Prop) (bw be bh : Int32) : Prop := (be = -1 ∧ ∀ w e, Pr w e → ¬ S w e) ∨ (∃ w e : Nat, Pr w e ∧ S w e ∧ bw = V w ∧ be = nI e ∧ bh = nI w ∧ ∀ a g, Pr a g → S a g → ¬ BTR lt V a g w e)
section
variable {lt : Int32 → Int32 → Prop} {V : Nat → Int32} {S Pr Pq : Nat → Nat → Prop} {bw be bh : Int32} {w e a g i : Nat}
theorem BTR_t (hL : STO lt) {b k : Nat} (h : BTR lt V a g w e) (h2 : BTR lt V w e b k) : BTR lt V a g b k := by
  rcases h with h | ⟨h, h3⟩ <;> rcases h2 with h2 | ⟨h2, h4⟩
  · exact Or.inl (hL.2.1 _ _ _ h h2)
  · exact Or.inl (by rw [← h2]; exact h)
  · exact Or.inl (by rw [h]; exact h2)
  · exact Or.inr ⟨h.trans h2, by omega⟩
theorem BSF_c (h : BSF lt V S Pr bw be bh) (hc : ∀ w e, S w e → (Pr w e ↔ Pq w e)) : BSF lt V S Pq bw be bh := by
  rcases h with ⟨h1, h2⟩ | ⟨w, e, h1, h2, h3, h4, h5, h6⟩
  · exact Or.inl ⟨h1, fun w e p s => h2 w e ((hc w e s).mpr p) s⟩
  · exact Or.inr ⟨w, e, (hc w e h2).mp h1, h2, h3, h4, h5, fun a g p s => h6 a g ((hc a g s).mpr p) s⟩
/-- the first one -/
theorem BSF_f (hL : STO lt) (h : BSF lt V S Pr bw be bh) (hE : ∀ w e, S w e → e ≤ 99) (hb : be = -1) (hs : S i e) {N : Nat → Prop} (hN : N e) (hN2 : ∀ g, N g → e ≤ g) (hq : ∀ w g, S w g → (Pq w g ↔ Pr w g ∨ (w = i ∧ N g))) : BSF lt V S Pq (V i) (nI e) (nI i) := by
  rcases h with ⟨-, h2⟩ | ⟨w0, e0, -, h2, -, h4, -⟩
  · refine Or.inr ⟨i, e, (hq i e hs).mpr (Or.inr ⟨rfl, hN⟩), hs, rfl, rfl, rfl, fun a g p s => ?_⟩
    rcases (hq a g s).mp p with p | ⟨p1, p2⟩
    · exact absurd s (h2 a g p)
    · have p3 := hN2 g p2
      rw [p1]
      rintro (k | ⟨-, k⟩)
      · exact hL.1 _ k
      · omega
  · exact (nI_pos (n := e0) (by have := hE w0 e0 h2; omega) (by rw [← h4, hb]; decide)).elim
/-- a better one -/
theorem BSF_s (hL : STO lt) (h : BSF lt V S Pr bw be bh) (hE : ∀ w e, S w e → e ≤ 99) (hb : ¬ be = -1) (hs : S i e) (hk : lt (V i) bw ∨ (V i = bw ∧ nI e < be)) {N : Nat → Prop} (hN : N e) (hN2 : ∀ g, N g → e ≤ g) (hq : ∀ w g, S w g → (Pq w g ↔ Pr w g ∨ (w = i ∧ N g))) : BSF lt V S Pq (V i) (nI e) (nI i) := by
  rcases h with ⟨h1, -⟩ | ⟨w0, e0, h1, h2, h3, h4, h5, h6⟩
  · exact absurd h1 hb
  · have ee := hE i e hs
    have e00 := hE w0 e0 h2
    have b0 : BTR lt V i e w0 e0 := by
      rcases hk with k | ⟨k1, k2⟩
      · exact Or.inl (by rw [← h3]; exact k)
      · rw [h4] at k2
        exact Or.inr ⟨k1.trans h3, Or.inl ((nI_ltI (by omega) (by omega)).mp k2)⟩
    refine Or.inr ⟨i, e, (hq i e hs).mpr (Or.inr ⟨rfl, hN⟩), hs, rfl, rfl, rfl, fun a g p s k => ?_⟩
    rcases (hq a g s).mp p with p | ⟨p1, p2⟩
    · exact h6 a g p s (BTR_t hL k b0)
    · have p3 := hN2 g p2
      rw [p1] at k
      rcases k with k | ⟨-, k⟩
      · exact hL.1 _ k
      · omega
/-- one that is not better -/
theorem BSF_k (h : BSF lt V S Pr bw be bh) (hE : ∀ w e, S w e → e ≤ 99) (hb : ¬ be = -1) (hs : S i e) (hk : ¬ lt (V i) bw) (hk2 : ¬ (V i = bw ∧ nI e < be)) (hl : ∀ w g, Pr w g → w < i ∨ g < e) {N : Nat → Prop} (hN : N e) (hN2 : ∀ g, N g → e ≤ g) (hq : ∀ w g, S w g → (Pq w g ↔ Pr w g ∨ (w = i ∧ N g))) : BSF lt V S Pq bw be bh := by
  rcases h with ⟨h1, -⟩ | ⟨w0, e0, h1, h2, h3, h4, h5, h6⟩
  · exact absurd h1 hb
  · have ee := hE i e hs
    have e00 := hE w0 e0 h2
    refine Or.inr ⟨w0, e0, (hq w0 e0 h2).mpr (Or.inl h1), h2, h3, h4, h5, fun a g p s k => ?_⟩
    rcases (hq a g s).mp p with p | ⟨p1, p2⟩
    · exact h6 a g p s k
    · have p3 := hN2 g p2
      rw [p1] at k
      rcases k with k | ⟨k1, k2⟩
      · exact hk (by rw [h3]; exact k)
      · have n1 : ¬ e < e0 := fun q => hk2 ⟨k1.trans h3.symm, by rw [h4]; exact (nI_ltI (by omega) (by omega)).mpr q⟩
        have n2 := hl w0 e0 h1
        omega
/-- behind all that was looked at -/
theorem BSF_r (h : BSF lt V S Pr bw be bh) (hE : ∀ w e, S w e → e ≤ 99) (hb : ¬ be = -1) (hs : S i e) (hk : ¬ lt (V i) bw) (hl : ∀ w g, Pr w g → g < e ∨ (g = e ∧ w < i)) {N : Nat → Prop} (hN : N e) (hN2 : ∀ g, N g → e ≤ g) (hq : ∀ w g, S w g → (Pq w g ↔ Pr w g ∨ (w = i ∧ N g))) : BSF lt V S Pq bw be bh := by
  refine BSF_k h hE hb hs hk (fun q => ?_) (fun w g p => by have := hl w g p; omega) hN hN2 hq
  rcases h with ⟨h1, -⟩ | ⟨w0, e0, h1, h2, h3, h4, h5, h6⟩
  · exact absurd h1 hb
  · have ee := hE i e hs
    have e00 := hE w0 e0 h2
    have q2 := q.2
    rw [h4] at q2
    have q3 := (nI_ltI (by omega) (by omega)).mp q2
    have q4 := hl w0 e0 h1
    omega
theorem BSF_n (h : BSF lt V S Pr bw be bh) (hq : ∀ w g, S w g → (Pq w g ↔ Pr w g)) : BSF lt V S Pq bw be bh := BSF_c h (fun w e s => (hq w e s).symm)
/-- two bests of the same are one -/
theorem BSF_u {V2 : Nat → Int32} {lt2 : Int32 → Int32 → Prop} {S2 P2 : Nat → Nat → Prop} {bw2 be2 bh2 : Int32} (hL : STO lt) (hE : ∀ w e, S w e → e ≤ 99) (hS : ∀ w e, S w e ↔ S2 w e) (hP : ∀ w e, S w e → Pr w e) (hP2 : ∀ w e, S w e → P2 w e) (hV : ∀ a g w e, S a g → S w e → (lt (V a) (V w) ↔ lt2 (V2 a) (V2 w)) ∧ (V a = V w ↔ V2 a = V2 w)) (h : BSF lt V S Pr bw be bh) (k : BSF lt2 V2 S2 P2 bw2 be2 bh2) : (be = -1 ∧ be2 = -1) ∨ (∃ w e : Nat, S w e ∧ e ≤ 99 ∧ bw = V w ∧ bw2 = V2 w ∧ be = nI e ∧ be2 = nI e ∧ bh = nI w ∧ bh2 = nI w) := by
  rcases h with ⟨h1, h2⟩ | ⟨w, e, h1, h2, h3, h4, h5, h6⟩
  · rcases k with ⟨k1, -⟩ | ⟨a, g, -, k2, -⟩
    · exact Or.inl ⟨h1, k1⟩
    · have s := (hS a g).mpr k2
      exact absurd s (h2 a g (hP a g s))
  · rcases k with ⟨-, k2⟩ | ⟨a, g, k1, k2, k3, k4, k5, k6⟩
    · exact absurd ((hS w e).mp h2) (k2 w e (hP2 w e h2))
    · have s := (hS a g).mpr k2
      have n1 := h6 a g (hP a g s) s
      have n2 := k6 w e (hP2 w e h2) ((hS w e).mp h2)
      have n3 : ¬ BTR lt V w e a g := fun q => n2 (by
        rcases q with q | ⟨q1, q2⟩
        · exact Or.inl ((hV w e a g h2 s).1.mp q)
        · exact Or.inr ⟨(hV w e a g h2 s).2.mp q1, q2⟩)
      have v : V a = V w := hL.2.2 _ _ (fun q => n1 (Or.inl q)) (fun q => n3 (Or.inl q))
      have c1 : ¬ (g < e ∨ (g = e ∧ a < w)) := fun q => n1 (Or.inr ⟨v, q⟩)
      have c2 : ¬ (e < g ∨ (e = g ∧ w < a)) := fun q => n3 (Or.inr ⟨v.symm, q⟩)
      have e1 : a = w := by omega
      have e2 : g = e := by omega
      rw [e1] at k3 k5
      rw [e2] at k4
      exact Or.inr ⟨w, e, h2, hE w e h2, h3, k3, h4, k4, h5, k5⟩
end
/-- pairs of a SET and an end, of the class -/
def SSx (q1 : Nat) (cf : Nat → Int32) (nn fi un w e : Nat) : Prop := w < 128 ∧ bcn w = nn ∧ fi + nn ≤ e + 1 ∧ e ≤ un ∧ EBx q1 cf e w
section
variable {q1 nn fi un i e : Nat} {cf : Nat → Int32}
theorem SS_q (h : ∀ g, fi + bcn i ≤ g + 1 → g < e → ¬ EBx q1 cf g i) : ∀ w g, SSx q1 cf nn fi un w g → (w < i + 1 ↔ w < i ∨ (w = i ∧ e ≤ g)) := fun w g s => by
  constructor
  · intro k
    by_cases q : w = i
    · refine Or.inr ⟨q, Nat.not_lt.mp (fun c => ?_)⟩
      obtain ⟨-, s2, s3, -, s5⟩ := s
      rw [q] at s2 s5
      exact h g (by omega) c s5
    · exact Or.inl (by omega)
  · rintro (k | k) <;> omega
theorem SS_n (h : ∀ e, fi + bcn i ≤ e + 1 → e ≤ un → ¬ EBx q1 cf e i) : ∀ w g, SSx q1 cf nn fi un w g → (w < i + 1 ↔ w < i) := fun w g s => by
  refine ⟨fun k => ?_, fun k => by omega⟩
  by_cases q : w = i
  · obtain ⟨-, s2, s3, s4, s5⟩ := s
    rw [q] at s2 s5
    exact absurd s5 (h g (by omega) s4)
  · omega
theorem SS_m (h : ¬ bcn i = nn) : ∀ w g, SSx q1 cf nn fi un w g → (w < i + 1 ↔ w < i) := fun w g s => by
  refine ⟨fun k => ?_, fun k => by omega⟩
  by_cases q : w = i
  · have s2 := s.2.1
    rw [q] at s2
    exact absurd s2 h
  · omega
end
theorem drS_c {y : Int32} {f g : Nat → Int32} {d n : Nat} (h : ∀ k, k < n → f k = g k) (hd : d + 1 < n) : ∀ k, k < n → drS y f d k = drS y g d k := fun k hk => by
  unfold drS
  rw [h d (by omega), h (d + 1) hd]
  have e : ∀ j, j < n → upd f (d + 1) (g (d + 1) + g d * y / 100) j = upd g (d + 1) (g (d + 1) + g d * y / 100) j := fun j hj => by
    by_cases q : j = d + 1
    · rw [q, pk_us, pk_us]
    · rw [pk_un q, pk_un q, h j hj]
  rw [e d (by omega)]
  by_cases q : k = d
  · rw [q, pk_us, pk_us]
  · rw [pk_un q, pk_un q, e k hk]
theorem drD_c {y : Int32} {n : Nat} : ∀ d {f g : Nat → Int32}, d < n → (∀ k, k < n → f k = g k) → ∀ k, k < n → drD y d f k = drD y d g k
  | 0, _, _, _, h => h
  | d + 1, _, _, hd, h => drD_c d (by omega) (drS_c h hd)
theorem odC_c {n w : Nat} {G f g : Nat → Int32} (h : ∀ k, k < 8 → f k = g k) : ∀ s k, k < 8 → odC n G w f s k = odC n G w g s k
  | 0, k, hk => h k hk
  | s + 1, k, hk => by
    rw [odC, odC]
    by_cases c : w.testBit s = true
    · rw [if_pos c, if_pos c]; exact drD_c 7 (by decide) (fun j hj => odC_c h s j hj) k hk
    · rw [if_neg c, if_neg c]; exact odC_c h s k hk
theorem smU_c {f g : Nat → Int32} {a : Nat} : ∀ n, (∀ k, a ≤ k → k < a + n → f k = g k) → smU f a n = smU g a n
  | 0, _ => rfl
  | n + 1, h => by
    rw [smU, smU, smU_c n (fun k h1 h2 => h k h1 (by omega)), h (a + n) (by omega) (by omega)]
theorem smU_s {f : Nat → Int32} {a j : Nat} (h : a ≤ j) : smU f a (j - a) + f j = smU f a (j + 1 - a) := by
  rw [show j + 1 - a = j - a + 1 by omega, smU, show a + (j - a) = j by omega]
def odV (n : Nat) (G : Nat → Int32) (yy w : Nat) : Int32 := smU (odC n G w (od0 8) 7) yy (8 - yy)

abbrev c_X5_prepare (k : Nat → ClassId) (z : Nat → Nat) (h : Nat) (r0 : Nat) (r1 : Nat) (t0 : Nat) (nk : Nat) (r4 : Nat) (r5 : Nat) (r6 : Nat) (r7 : Nat) (r8 : Nat) (r9 : Nat) (t : Nat) (tn : Nat) (tl : Nat) (tc : Nat) (ta : Nat) (q : Nat → Nat) (cf : Nat → Int32) (tk : Nat) (tk1 : Nat) (tk2 : Nat) (tk3 : Nat) (ck : Nat) (tw : Nat) (st : Nat → Int32) (ts : Nat → Int32) (th : Nat → Int32) (L7 : Nat → Int64) (L8 : Nat → Int64) (o9 : Nat → Int32) (be : Nat → Int32) (ed : Int32) (nn : Nat) : va_W := [(h, .inr (5, [.ref r0, .ref r1, .ref t0, .ref nk, .ref r4, .ref r5, .ref r6, .ref r7, .ref r8, .ref r9])), (r4, .inl (k 0, 7, .inl be)), (r7, .inl (k 1, 128, .inr (.inl L7))), (r8, .inl (k 1, 128, .inr (.inl L8))), (r9, .inl (k 0, 49, .inl o9)), (t0, .inr (8, [.ref t, .ref tn, .ref tl, .ref tc, .ref ta])), (t, .inl (k 0, 4, .inl (cI q))), (tc, .inl (k 0, 700, .inl cf)), (tk, .inr (6, [.int (nI ck), .int (nI tw), .ref tk1, .ref tk2, .ref tk3])), (tk1, .inl (k 0, 3, .inl st)), (tk2, .inl (k 0, 21, .inl ts)), (tk3, .inl (k 0, 21, .inl th))]
abbrev r_X5_prepare : Room := { frames := 2, cells := 0, slots := 0, locals := 50 }
def w_X5_prepare (k : Nat → ClassId) (z : Nat → Nat) (h : Nat) (r0 : Nat) (r1 : Nat) (t0 : Nat) (nk : Nat) (r4 : Nat) (r5 : Nat) (r6 : Nat) (r7 : Nat) (r8 : Nat) (r9 : Nat) (t : Nat) (tn : Nat) (tl : Nat) (tc : Nat) (ta : Nat) (q : Nat → Nat) (cf : Nat → Int32) (tk : Nat) (tk1 : Nat) (tk2 : Nat) (tk3 : Nat) (ck : Nat) (tw : Nat) (st : Nat → Int32) (ts : Nat → Int32) (th : Nat → Int32) (L7 : Nat → Int64) (L8 : Nat → Int64) (o9 : Nat → Int32) (be : Nat → Int32) (ed : Int32) (nn : Nat) : (Nat → Int64) × (Nat → Int64) × (Nat → Int32) → va_W := fun u => match u with | (M7, M8, o8) => [(h, .inr (5, [.ref r0, .ref r1, .ref t0, .ref nk, .ref r4, .ref r5, .ref r6, .ref r7, .ref r8, .ref r9])), (r4, .inl (k 0, 7, .inl be)), (r7, .inl (k 1, 128, .inr (.inl M7))), (r8, .inl (k 1, 128, .inr (.inl M8))), (r9, .inl (k 0, 49, .inl o8)), (t0, .inr (8, [.ref t, .ref tn, .ref tl, .ref tc, .ref ta])), (t, .inl (k 0, 4, .inl (cI q))), (tc, .inl (k 0, 700, .inl cf)), (tk, .inr (6, [.int (nI ck), .int (nI tw), .ref tk1, .ref tk2, .ref tk3])), (tk1, .inl (k 0, 3, .inl st)), (tk2, .inl (k 0, 21, .inl ts)), (tk3, .inl (k 0, 21, .inl th))]
def p_X5_prepare (k : Nat → ClassId) (z : Nat → Nat) (h : Nat) (r0 : Nat) (r1 : Nat) (t0 : Nat) (nk : Nat) (r4 : Nat) (r5 : Nat) (r6 : Nat) (r7 : Nat) (r8 : Nat) (r9 : Nat) (t : Nat) (tn : Nat) (tl : Nat) (tc : Nat) (ta : Nat) (q : Nat → Nat) (cf : Nat → Int32) (tk : Nat) (tk1 : Nat) (tk2 : Nat) (tk3 : Nat) (ck : Nat) (tw : Nat) (st : Nat → Int32) (ts : Nat → Int32) (th : Nat → Int32) (L7 : Nat → Int64) (L8 : Nat → Int64) (o9 : Nat → Int32) (be : Nat → Int32) (ed : Int32) (nn : Nat) : Int32 → (Nat → Int64) × (Nat → Int64) × (Nat → Int32) → Prop := fun (r : Int32) (u : (Nat → Int64) × (Nat → Int64) × (Nat → Int32)) => match u with | (M7, M8, o8) => ((r = 0 ∨ r = 1) ∧ OB o8 ∧ (∀ b s, b < nn → s < 7 → o8 (b * 7 + s) = opn (q 1) cf st ts th be tw ck ed b s) ∧ RS o8 nn 128 M7 M8 ∧ RR nn 128 r M7 M8)
abbrev q_X5_prepare (D : va_G) (k : Nat → ClassId) (z : Nat → Nat) (h : Nat) (r0 : Nat) (r1 : Nat) (t0 : Nat) (nk : Nat) (r4 : Nat) (r5 : Nat) (r6 : Nat) (r7 : Nat) (r8 : Nat) (r9 : Nat) (t : Nat) (tn : Nat) (tl : Nat) (tc : Nat) (ta : Nat) (q : Nat → Nat) (cf : Nat → Int32) (tk : Nat) (tk1 : Nat) (tk2 : Nat) (tk3 : Nat) (ck : Nat) (tw : Nat) (st : Nat → Int32) (ts : Nat → Int32) (th : Nat → Int32) (L7 : Nat → Int64) (L8 : Nat → Int64) (o9 : Nat → Int32) (be : Nat → Int32) (ed : Int32) (nn : Nat) (A : Nat → Prop) : Array Value → State → Outcome → State → Prop := va_Qi (p_X5_prepare k z h r0 r1 t0 nk r4 r5 r6 r7 r8 r9 t tn tl tc ta q cf tk tk1 tk2 tk3 ck tw st ts th L7 L8 o9 be ed nn) (fun u9 t9 => BO D (w_X5_prepare k z h r0 r1 t0 nk r4 r5 r6 r7 r8 r9 t tn tl tc ta q cf tk tk1 tk2 tk3 ck tw st ts th L7 L8 o9 be ed nn u9) A t9) A
set_option maxHeartbeats 2000000 in
set_option maxRecDepth 100000 in
theorem X5_prepare (l : Launch) (D : va_G) (k : Nat → ClassId) (sz : Nat) (z : Nat → Nat) (h : Nat) (r0 : Nat) (r1 : Nat) (t0 : Nat) (nk : Nat) (r4 : Nat) (r5 : Nat) (r6 : Nat) (r7 : Nat) (r8 : Nat) (r9 : Nat) (t : Nat) (tn : Nat) (tl : Nat) (tc : Nat) (ta : Nat) (q : Nat → Nat) (cf : Nat → Int32) (tk : Nat) (tk1 : Nat) (tk2 : Nat) (tk3 : Nat) (ck : Nat) (tw : Nat) (st : Nat → Int32) (ts : Nat → Int32) (th : Nat → Int32) (L7 : Nat → Int64) (L8 : Nat → Int64) (o9 : Nat → Int32) (be : Nat → Int32) (ed : Int32) (nn : Nat) (hq1 : q 1 ≤ 7) (hnn : nn ≤ 7) (hc3 : ck ≤ 3) (ht7 : tw ≤ 7) (hOB : OB o9) (hCB : CFB (q 1) cf) : Met l yX5_prepare wsX5_prepare r_X5_prepare (va_Pc [.ref h, .int ed, .int (nI nn), .ref tk] (PT D k (c_X5_prepare k z h r0 r1 t0 nk r4 r5 r6 r7 r8 r9 t tn tl tc ta q cf tk tk1 tk2 tk3 ck tw st ts th L7 L8 o9 be ed nn) sz z)) (q_X5_prepare D k z h r0 r1 t0 nk r4 r5 r6 r7 r8 r9 t tn tl tc ta q cf tk tk1 tk2 tk3 ck tw st ts th L7 L8 o9 be ed nn (va_A (c_X5_prepare k z h r0 r1 t0 nk r4 r5 r6 r7 r8 r9 t tn tl tc ta q cf tk tk1 tk2 tk3 ck tw st ts th L7 L8 o9 be ed nn) sz)) 0 0 (va_A (c_X5_prepare k z h r0 r1 t0 nk r4 r5 r6 r7 r8 r9 t tn tl tc ta q cf tk tk1 tk2 tk3 ck tw st ts th L7 L8 o9 be ed nn) sz) := by
  refine Met.ofW (cc := cX5_prepare) (maxL := 9) (ret := (some .boolean)) (by decide) rfl ?_
  intro p e s m args below meth c s₁ B hml hv
  obtain ⟨rfl, ⟨hsz, hP, hG, hD0⟩, hZ⟩ := hv
  have hx := B.exec
  have hb := B.bytes
  have hr := B.returns
  have hts := atoms_spec (ws := wsX5_prepare) B.pre
  have hown : s.vm.findClass RX5 = some m.cls := findClass_of_methodNamed B.named
  have hlocks := B.notSynchronized
  have hi5 : ∀ w ∈ wsX50, w ∈ wsX5_prepare := fun _ h => List.mem_cons_of_mem _ (List.mem_append_left _ (List.mem_append_left _ (List.mem_append_right _ h)))
  have hi6 : ∀ w ∈ wsX60, w ∈ wsX5_prepare := fun _ h => List.mem_cons_of_mem _ (List.mem_append_left _ (List.mem_append_right _ h))
  have hi8 : ∀ w ∈ wsX80, w ∈ wsX5_prepare := fun _ h => List.mem_cons_of_mem _ (List.mem_append_right _ h)
  subst hsz
  have hD := hD0.self (sz := s.heap.size)
  generalize hAe : va_A (c_X5_prepare k z h r0 r1 t0 nk r4 r5 r6 r7 r8 r9 t tn tl tc ta q cf tk tk1 tk2 tk3 ck tw st ts th L7 L8 o9 be ed nn) s.heap.size = A at hD hZ ⊢
  have hA : ∀ q : Nat, s.heap.size ≤ q → A q := fun q h => by rw [← hAe]; exact Or.inr h
  have hS : va_S A s.heap s.heap [] := va_S.rf
  have hP : va_P D vwCl [(h, .inr (5, [.ref r0, .ref r1, .ref t0, .ref nk, .ref r4, .ref r5, .ref r6, .ref r7, .ref r8, .ref r9])), (r4, .inl (k 0, 7, .inl be)), (r7, .inl (k 1, 128, .inr (.inl L7))), (r8, .inl (k 1, 128, .inr (.inl L8))), (r9, .inl (k 0, 49, .inl o9)), (t0, .inr (8, [.ref t, .ref tn, .ref tl, .ref tc, .ref ta])), (t, .inl (k 0, 4, .inl (cI q))), (tc, .inl (k 0, 700, .inl cf)), (tk, .inr (6, [.int (nI ck), .int (nI tw), .ref tk1, .ref tk2, .ref tk3])), (tk1, .inl (k 0, 3, .inl st)), (tk2, .inl (k 0, 21, .inl ts)), (tk3, .inl (k 0, 21, .inl th))] s.heap := hP
  have hD : va_D A [(h, .inr (5, [.ref r0, .ref r1, .ref t0, .ref nk, .ref r4, .ref r5, .ref r6, .ref r7, .ref r8, .ref r9])), (r4, .inl (k 0, 7, .inl be)), (r7, .inl (k 1, 128, .inr (.inl L7))), (r8, .inl (k 1, 128, .inr (.inl L8))), (r9, .inl (k 0, 49, .inl o9)), (t0, .inr (8, [.ref t, .ref tn, .ref tl, .ref tc, .ref ta])), (t, .inl (k 0, 4, .inl (cI q))), (tc, .inl (k 0, 700, .inl cf)), (tk, .inr (6, [.int (nI ck), .int (nI tw), .ref tk1, .ref tk2, .ref tk3])), (tk1, .inl (k 0, 3, .inl st)), (tk2, .inl (k 0, 21, .inl ts)), (tk3, .inl (k 0, 21, .inl th))] := hD
  have hl := lv_entry ([.ref h, .int ed, .int (nI nn), .ref tk]) (n := 9) (Nat.le_of_ble_eq_true rfl)
  rw [lg_entry_eq]
  generalize (lg_sl ([.ref h, .int ed, .int (nI nn), .ref tk]) ++ List.replicate (9 - (lg_sl ([.ref h, .int ed, .int (nI nn), .ref tk])).length) Slot.unset).toArray = ls at hl ⊢
  have hl : lv_has ls 9 [(0, .ref h), (1, .int ed), (2, .int (nI nn)), (3, .ref tk)] := hl
  refine lv_iconst (v := 0) hx hb dX5_prepare_0 (by decide) ?_
  refine lv_istore (lv' := [(4, .int 0), (0, .ref h), (1, .int ed), (2, .int (nI nn)), (3, .ref tk)]) hx hb dX5_prepare_1 hl (by decide) rfl (fun ls hl => ?_)
  have L1 : ∀ (fu9 : Nat) (i : Nat) (p9 : Nat → Int32), (i ≤ nn) → (OPx (q 1) cf st ts th be tw ck ed (fun b _ => b < i) p9) → nn - i < fu9 → ∀ (H : Heap) (locs : List Loc), va_P D vwCl [(h, .inr (5, [.ref r0, .ref r1, .ref t0, .ref nk, .ref r4, .ref r5, .ref r6, .ref r7, .ref r8, .ref r9])), (r4, .inl (k 0, 7, .inl be)), (r7, .inl (k 1, 128, .inr (.inl L7))), (r8, .inl (k 1, 128, .inr (.inl L8))), (r9, .inl (k 0, 49, .inl p9)), (t0, .inr (8, [.ref t, .ref tn, .ref tl, .ref tc, .ref ta])), (t, .inl (k 0, 4, .inl (cI q))), (tc, .inl (k 0, 700, .inl cf)), (tk, .inr (6, [.int (nI ck), .int (nI tw), .ref tk1, .ref tk2, .ref tk3])), (tk1, .inl (k 0, 3, .inl st)), (tk2, .inl (k 0, 21, .inl ts)), (tk3, .inl (k 0, 21, .inl th))] H → va_D A [(h, .inr (5, [.ref r0, .ref r1, .ref t0, .ref nk, .ref r4, .ref r5, .ref r6, .ref r7, .ref r8, .ref r9])), (r4, .inl (k 0, 7, .inl be)), (r7, .inl (k 1, 128, .inr (.inl L7))), (r8, .inl (k 1, 128, .inr (.inl L8))), (r9, .inl (k 0, 49, .inl p9)), (t0, .inr (8, [.ref t, .ref tn, .ref tl, .ref tc, .ref ta])), (t, .inl (k 0, 4, .inl (cI q))), (tc, .inl (k 0, 700, .inl cf)), (tk, .inr (6, [.int (nI ck), .int (nI tw), .ref tk1, .ref tk2, .ref tk3])), (tk1, .inl (k 0, 3, .inl st)), (tk2, .inl (k 0, 21, .inl ts)), (tk3, .inl (k 0, 21, .inl th))] → va_S A s.heap H locs → ∀ (ls : Array Slot), lv_has ls 9 [(4, .int (nI i)), (0, .ref h), (1, .int ed), (2, .int (nI nn)), (3, .ref tk)] → W p l e r_X5_prepare s m ([.ref h, .int ed, .int (nI nn), .ref tk] : List Value).toArray below meth c H locs 0 0 (MQ below (q_X5_prepare D k z h r0 r1 t0 nk r4 r5 r6 r7 r8 r9 t tn tl tc ta q cf tk tk1 tk2 tk3 ck tw st ts th L7 L8 o9 be ed nn A) ([.ref h, .int ed, .int (nI nn), .ref tk] : List Value).toArray s 0 0 A) (F0 m 3 ls []) := by
    intro fu9
    induction fu9 with
    | zero => intro i p9 hi hOP hmu; exact absurd hmu (Nat.not_lt_zero _)
    | succ fu9 ih =>
      intro i p9 hi hOP hmu H locs hP hD hS ls hl
      refine lv_iload hx hb dX5_prepare_3 (lv_at hl 0 rfl) ?_
      refine lv_iload_n hx hb dX5_prepare_5 rfl (lv_at hl 3 rfl) ?_
      refine bn_ge (i := i) (j := nn) (tgt := 104) hx hb dX5_prepare_6 (by decide) (by omega) (by omega) (fun c2 => ?_) (fun c2 => ?_)
      · skip
        have hiN : i = nn := by omega
        refine lv_aload_n hx hb dX5_prepare_104 rfl (lv_at hl 1 rfl) ?_
        refine lv_iload_n hx hb dX5_prepare_105 rfl (lv_at hl 3 rfl) ?_
        have hPc := hP.sub (ws' := (c_X5_reach k z h r0 r1 t0 nk r4 r5 r6 r7 r8 r9 L7 L8 p9 nn)) [0, 2, 3, 4] rfl
        have hDc := hD.sub (ws' := (c_X5_reach k z h r0 r1 t0 nk r4 r5 r6 r7 r8 r9 L7 L8 p9 nn)) [0, 2, 3, 4] (by decide +kernel) rfl
        refine cl_i (w1 := w_X5_reach k z h r0 r1 t0 nk r4 r5 r6 r7 r8 r9 L7 L8 p9 nn) (wr := [(r4, .inl (k 0, 7, .inl be)), (t0, .inr (8, [.ref t, .ref tn, .ref tl, .ref tc, .ref ta])), (t, .inl (k 0, 4, .inl (cI q))), (tc, .inl (k 0, 700, .inl cf)), (tk, .inr (6, [.int (nI ck), .int (nI tw), .ref tk1, .ref tk2, .ref tk3])), (tk1, .inl (k 0, 3, .inl st)), (tk2, .inl (k 0, 21, .inl ts)), (tk3, .inl (k 0, 21, .inl th))]) (va_runV (As := [.int (nI nn)]) (rest := []) ⟨hx, hb, hml, hown, hts⟩ (X5_reach l D k H.size z h r0 r1 t0 nk r4 r5 r6 r7 r8 r9 L7 L8 p9 nn (hnn) (hOP.1)) (cwV 1 hts gX5_prepare_X5_reach rfl rfl rfl (by decide +kernel) ⟨Nat.le_of_ble_eq_true rfl, Nat.le_of_ble_eq_true rfl⟩) ⟨PT.blind _ _ _ _ _ _, va_recv hG.1 hP (ci := 5) (q0 := 0) rfl rfl, PT.pre hPc hDc hG hZ hS (va_free hD hS hA [0, 2, 3, 4] rfl) [.ref h, .int (nI nn)]⟩ rfl rfl hl.1 rfl (lv_room (Nat.le_of_ble_eq_true rfl)) dX5_prepare_106 ⟨Nat.le_of_ble_eq_true rfl, Nat.le_of_ble_eq_true rfl⟩) hP hD hS hA [0, 2, 3, 4] [1, 5, 6, 7, 8, 9, 10, 11] rfl rfl (by decide +kernel) (by decide +kernel) (fun r u H locs hq hP hD hS => ?_)
        obtain ⟨M7, M8⟩ := u
        generalize r = y3 at hq ⊢
        have hq : ((y3 = 0 ∨ y3 = 1) ∧ RS p9 nn 128 M7 M8 ∧ RR nn 128 y3 M7 M8) := hq
        have hP : va_P D vwCl [(r4, .inl (k 0, 7, .inl be)), (t0, .inr (8, [.ref t, .ref tn, .ref tl, .ref tc, .ref ta])), (t, .inl (k 0, 4, .inl (cI q))), (tc, .inl (k 0, 700, .inl cf)), (tk, .inr (6, [.int (nI ck), .int (nI tw), .ref tk1, .ref tk2, .ref tk3])), (tk1, .inl (k 0, 3, .inl st)), (tk2, .inl (k 0, 21, .inl ts)), (tk3, .inl (k 0, 21, .inl th)), (h, .inr (5, [.ref r0, .ref r1, .ref t0, .ref nk, .ref r4, .ref r5, .ref r6, .ref r7, .ref r8, .ref r9])), (r7, .inl (k 1, 128, .inr (.inl M7))), (r8, .inl (k 1, 128, .inr (.inl M8))), (r9, .inl (k 0, 49, .inl p9))] H := hP
        have hD : va_D A [(r4, .inl (k 0, 7, .inl be)), (t0, .inr (8, [.ref t, .ref tn, .ref tl, .ref tc, .ref ta])), (t, .inl (k 0, 4, .inl (cI q))), (tc, .inl (k 0, 700, .inl cf)), (tk, .inr (6, [.int (nI ck), .int (nI tw), .ref tk1, .ref tk2, .ref tk3])), (tk1, .inl (k 0, 3, .inl st)), (tk2, .inl (k 0, 21, .inl ts)), (tk3, .inl (k 0, 21, .inl th)), (h, .inr (5, [.ref r0, .ref r1, .ref t0, .ref nk, .ref r4, .ref r5, .ref r6, .ref r7, .ref r8, .ref r9])), (r7, .inl (k 1, 128, .inr (.inl M7))), (r8, .inl (k 1, 128, .inr (.inl M8))), (r9, .inl (k 0, 49, .inl p9))] := hD
        have hP9 := hP.sub (ws' := [(h, .inr (5, [.ref r0, .ref r1, .ref t0, .ref nk, .ref r4, .ref r5, .ref r6, .ref r7, .ref r8, .ref r9])), (r4, .inl (k 0, 7, .inl be)), (r7, .inl (k 1, 128, .inr (.inl M7))), (r8, .inl (k 1, 128, .inr (.inl M8))), (r9, .inl (k 0, 49, .inl p9)), (t0, .inr (8, [.ref t, .ref tn, .ref tl, .ref tc, .ref ta])), (t, .inl (k 0, 4, .inl (cI q))), (tc, .inl (k 0, 700, .inl cf)), (tk, .inr (6, [.int (nI ck), .int (nI tw), .ref tk1, .ref tk2, .ref tk3])), (tk1, .inl (k 0, 3, .inl st)), (tk2, .inl (k 0, 21, .inl ts)), (tk3, .inl (k 0, 21, .inl th))]) [8, 0, 9, 10, 11, 1, 2, 3, 4, 5, 6, 7] rfl
        have hD9 := hD.sub (ws' := [(h, .inr (5, [.ref r0, .ref r1, .ref t0, .ref nk, .ref r4, .ref r5, .ref r6, .ref r7, .ref r8, .ref r9])), (r4, .inl (k 0, 7, .inl be)), (r7, .inl (k 1, 128, .inr (.inl M7))), (r8, .inl (k 1, 128, .inr (.inl M8))), (r9, .inl (k 0, 49, .inl p9)), (t0, .inr (8, [.ref t, .ref tn, .ref tl, .ref tc, .ref ta])), (t, .inl (k 0, 4, .inl (cI q))), (tc, .inl (k 0, 700, .inl cf)), (tk, .inr (6, [.int (nI ck), .int (nI tw), .ref tk1, .ref tk2, .ref tk3])), (tk1, .inl (k 0, 3, .inl st)), (tk2, .inl (k 0, 21, .inl ts)), (tk3, .inl (k 0, 21, .inl th))]) [8, 0, 9, 10, 11, 1, 2, 3, 4, 5, 6, 7] (by decide +kernel) rfl
        exact W.zret (v := y3) hx hb hr (nar01 hq.1) (fun t9 ht _ => ⟨⟨y3, (M7, M8, p9), rfl, ⟨hq.1, hOP.1, fun b s hb hs => hOP.2 b s (by omega) hs (by omega), hq.2⟩, by rw [ht]; exact hP9, hD9⟩, hS.F ht⟩) hS.2.2 dX5_prepare_109
      · skip
        refine lv_aload_n hx hb dX5_prepare_9 rfl (lv_at hl 4 rfl) ?_
        refine lv_iload_n hx hb dX5_prepare_10 rfl (lv_at hl 2 rfl) ?_
        refine lv_iload hx hb dX5_prepare_11 (lv_at hl 0 rfl) ?_
        refine lv_isub hx hb dX5_prepare_13 ?_
        have hPc := hP.sub (ws' := (c_X6_busySleepers k tk tk1 tk2 tk3 ck tw st ts (ed - (nI i)))) [8, 9, 10] rfl
        refine vp_callSi (va_Run.run (va_runV (As := [.int (ed - (nI i))]) (rest := []) ⟨hx, hb, hml, hown, hts⟩ (X6_busySleepers l D k tk tk1 tk2 tk3 ck tw st ts (ed - (nI i)) (hc3) (ht7)) (cwV 1 hts gX5_prepare_X6_busySleepers rfl rfl rfl (by decide +kernel) ⟨Nat.le_of_ble_eq_true rfl, Nat.le_of_ble_eq_true rfl⟩) ⟨PS.blind _ _ _ _, va_recv hG.1 hP (ci := 6) (q0 := 8) rfl rfl, PS.pre hPc hG [.ref tk, .int (ed - (nI i))]⟩ rfl rfl hl.1 rfl (lv_room (Nat.le_of_ble_eq_true rfl)) dX5_prepare_14 ⟨Nat.le_of_ble_eq_true rfl, Nat.le_of_ble_eq_true rfl⟩)) (fun r hq => ?_)
        generalize r = y4 at hq ⊢
        have hq : y4 = bsS st ts tw (ed - (nI i)) ck := hq
        refine tp_i (y := bsS st ts tw (ed - (nI i)) ck) (hq) ?_
        refine lv_istore (lv' := [(5, .int (bsS st ts tw (ed - (nI i)) ck)), (4, .int (nI i)), (0, .ref h), (1, .int ed), (2, .int (nI nn)), (3, .ref tk)]) hx hb dX5_prepare_17 hl (by decide) rfl (fun ls hl => ?_)
        refine lv_aload_n hx hb dX5_prepare_19 rfl (lv_at hl 5 rfl) ?_
        refine lv_iload_n hx hb dX5_prepare_20 rfl (lv_at hl 3 rfl) ?_
        refine lv_iload hx hb dX5_prepare_21 (lv_at hl 1 rfl) ?_
        refine lv_isub hx hb dX5_prepare_23 ?_
        refine lv_aload_n hx hb dX5_prepare_24 rfl (lv_at hl 2 rfl) ?_
        refine va_get (D := D) (ci := 5) (v := .ref r4) (C := RX5) (T := TX5) (N := 10) hx hb hts hi5 hown hG.1 hP 0 rfl rfl 4 (by decide) (hts (.fieldLink RX5 25 "SleptMatters$Rows" "beds" "[I") (List.mem_cons_of_mem _ (List.mem_append_left _ (List.mem_append_left _ (List.mem_append_left _ (List.mem_append_left _ (List.mem_of_getElem? (i := 0) rfl))))))) (fun _ h9 => h9) rfl dX5_prepare_25 ?_
        have hPc := hP.sub (ws' := (c_X6_fullHouses k tk tk1 tk2 tk3 ck tw st th r4 be (ed - (nI i)))) [8, 9, 11, 1] rfl
        refine vp_callSi (va_Run.run (va_runV (As := [.int (ed - (nI i)), .ref r4]) (rest := []) ⟨hx, hb, hml, hown, hts⟩ (X6_fullHouses l D k tk tk1 tk2 tk3 ck tw st th r4 be (ed - (nI i)) (hc3) (ht7)) (cwV 2 hts gX5_prepare_X6_fullHouses rfl rfl rfl (by decide +kernel) ⟨Nat.le_of_ble_eq_true rfl, Nat.le_of_ble_eq_true rfl⟩) ⟨PS.blind _ _ _ _, va_recv hG.1 hP (ci := 6) (q0 := 8) rfl rfl, PS.pre hPc hG [.ref tk, .int (ed - (nI i)), .ref r4]⟩ rfl rfl hl.1 rfl (lv_room (Nat.le_of_ble_eq_true rfl)) dX5_prepare_28 ⟨Nat.le_of_ble_eq_true rfl, Nat.le_of_ble_eq_true rfl⟩)) (fun r hq => ?_)
        generalize r = y5 at hq ⊢
        have hq : y5 = fhR st th be tw ck (ed - (nI i)) := hq
        refine tp_i (y := fhR st th be tw ck (ed - (nI i))) (hq) ?_
        refine lv_istore (lv' := [(6, .int (fhR st th be tw ck (ed - (nI i)))), (5, .int (bsS st ts tw (ed - (nI i)) ck)), (4, .int (nI i)), (0, .ref h), (1, .int ed), (2, .int (nI nn)), (3, .ref tk)]) hx hb dX5_prepare_31 hl (by decide) rfl (fun ls hl => ?_)
        refine lv_iconst (v := 0) hx hb dX5_prepare_33 (by decide) ?_
        refine lv_istore (lv' := [(7, .int 0), (6, .int (fhR st th be tw ck (ed - (nI i)))), (5, .int (bsS st ts tw (ed - (nI i)) ck)), (4, .int (nI i)), (0, .ref h), (1, .int ed), (2, .int (nI nn)), (3, .ref tk)]) hx hb dX5_prepare_34 hl (by decide) rfl (fun ls hl => ?_)
        have L6 : ∀ (fu9 : Nat) (i2 : Nat) (p8 : Nat → Int32), (i2 ≤ 7) → (OPx (q 1) cf st ts th be tw ck ed (fun b s => b < i ∨ (b = i ∧ s < i2)) p8) → 7 - i2 < fu9 → ∀ (H : Heap) (locs : List Loc), va_P D vwCl [(h, .inr (5, [.ref r0, .ref r1, .ref t0, .ref nk, .ref r4, .ref r5, .ref r6, .ref r7, .ref r8, .ref r9])), (r4, .inl (k 0, 7, .inl be)), (r7, .inl (k 1, 128, .inr (.inl L7))), (r8, .inl (k 1, 128, .inr (.inl L8))), (r9, .inl (k 0, 49, .inl p8)), (t0, .inr (8, [.ref t, .ref tn, .ref tl, .ref tc, .ref ta])), (t, .inl (k 0, 4, .inl (cI q))), (tc, .inl (k 0, 700, .inl cf)), (tk, .inr (6, [.int (nI ck), .int (nI tw), .ref tk1, .ref tk2, .ref tk3])), (tk1, .inl (k 0, 3, .inl st)), (tk2, .inl (k 0, 21, .inl ts)), (tk3, .inl (k 0, 21, .inl th))] H → va_D A [(h, .inr (5, [.ref r0, .ref r1, .ref t0, .ref nk, .ref r4, .ref r5, .ref r6, .ref r7, .ref r8, .ref r9])), (r4, .inl (k 0, 7, .inl be)), (r7, .inl (k 1, 128, .inr (.inl L7))), (r8, .inl (k 1, 128, .inr (.inl L8))), (r9, .inl (k 0, 49, .inl p8)), (t0, .inr (8, [.ref t, .ref tn, .ref tl, .ref tc, .ref ta])), (t, .inl (k 0, 4, .inl (cI q))), (tc, .inl (k 0, 700, .inl cf)), (tk, .inr (6, [.int (nI ck), .int (nI tw), .ref tk1, .ref tk2, .ref tk3])), (tk1, .inl (k 0, 3, .inl st)), (tk2, .inl (k 0, 21, .inl ts)), (tk3, .inl (k 0, 21, .inl th))] → va_S A s.heap H locs → ∀ (ls : Array Slot), lv_has ls 9 [(7, .int (nI i2)), (6, .int (fhR st th be tw ck (ed - (nI i)))), (5, .int (bsS st ts tw (ed - (nI i)) ck)), (4, .int (nI i)), (0, .ref h), (1, .int ed), (2, .int (nI nn)), (3, .ref tk)] → W p l e r_X5_prepare s m ([.ref h, .int ed, .int (nI nn), .ref tk] : List Value).toArray below meth c H locs 0 0 (MQ below (q_X5_prepare D k z h r0 r1 t0 nk r4 r5 r6 r7 r8 r9 t tn tl tc ta q cf tk tk1 tk2 tk3 ck tw st ts th L7 L8 o9 be ed nn A) ([.ref h, .int ed, .int (nI nn), .ref tk] : List Value).toArray s 0 0 A) (F0 m 36 ls []) := by
          intro fu9L6
          induction fu9L6 with
          | zero => intro i2 p8 hi2 hOP8 hmuL6; exact absurd hmuL6 (Nat.not_lt_zero _)
          | succ fu9L6 ihL6 =>
            intro i2 p8 hi2 hOP8 hmuL6 H locs hP hD hS ls hl
            refine lv_iload hx hb dX5_prepare_36 (lv_at hl 0 rfl) ?_
            refine lv_bipush (v := 7) hx hb dX5_prepare_38 (by decide) ?_
            refine bn_ge (i := i2) (j := 7) (tgt := 98) hx hb dX5_prepare_40 (by decide) (by omega) (by omega) (fun c7 => ?_) (fun c7 => ?_)
            · skip
              have hi27 : i2 = 7 := by omega
              refine lv_iinc (v := nI (i + 1)) (lv' := [(4, .int (nI (i + 1))), (7, .int (nI i2)), (6, .int (fhR st th be tw ck (ed - (nI i)))), (5, .int (bsS st ts tw (ed - (nI i)) ck)), (0, .ref h), (1, .int ed), (2, .int (nI nn)), (3, .ref tk)]) hx hb dX5_prepare_98 hl (k := 3) rfl (nI_add i 1) (by decide) rfl (fun ls hl => ?_)
              refine lv_goto (tgt := 3) hx hb dX5_prepare_101 (by decide) ?_
              exact ih (i + 1) p8 (by omega) (OPx_c hOP8 (fun b s _ _ q8 => by omega)) (by omega) _ _ (hP.sub [0, 1, 2, 3, 4, 5, 6, 7, 8, 9, 10, 11] rfl) (hD.sub [0, 1, 2, 3, 4, 5, 6, 7, 8, 9, 10, 11] (by decide +kernel) rfl) hS ls (lv_sub hl [0, 4, 5, 6, 7] rfl)
            · skip
              refine lv_iload hx hb dX5_prepare_43 (lv_at hl 2 rfl) ?_
              refine lv_iload hx hb dX5_prepare_45 (lv_at hl 0 rfl) ?_
              have hPc := hP.sub (ws' := (c_X9_isIn k (bsS st ts tw (ed - (nI i)) ck) (nI i2))) [] rfl
              refine vp_callSi (va_Run.run (va_runSN (As := [.int (bsS st ts tw (ed - (nI i)) ck), .int (nI i2)]) (rest := []) ⟨hx, hb, hml, hown, hts⟩ (X9_isIn l D k (bsS st ts tw (ed - (nI i)) ck) (nI i2) ) ⟨(va_cnB (own := RX5) (index := 99) (y := yX9_isIn) (host := RX9) 2 hts ggX5_prepare_X9_isIn rfl rfl rfl (hG.2.1 _ (List.mem_of_getElem? (i := 8) rfl)) (hts (.initialized RX9) (List.mem_cons_of_mem _ (List.mem_append_left _ (List.mem_append_left _ (List.mem_append_left _ (List.mem_append_left _ (List.mem_of_getElem? (i := 22) rfl))))))) (by decide +kernel) ⟨Nat.le_of_ble_eq_true rfl, Nat.le_of_ble_eq_true rfl⟩), hts (.static yX9_isIn) (List.mem_cons_of_mem _ (List.mem_append_left _ (List.mem_append_left _ (List.mem_append_left _ (List.mem_append_left _ (List.mem_of_getElem? (i := 21) rfl)))))), trivial⟩ ⟨PS.blind _ _ _ _, PS.pre hPc hG [.int (bsS st ts tw (ed - (nI i)) ck), .int (nI i2)]⟩ rfl rfl hl.1 rfl (lv_room (Nat.le_of_ble_eq_true rfl)) dX5_prepare_47 ⟨Nat.le_of_ble_eq_true rfl, Nat.le_of_ble_eq_true rfl⟩)) (fun r hq => ?_)
              generalize r = y8 at hq ⊢
              have hq : y8 = inS (bsS st ts tw (ed - (nI i)) ck) (nI i2) := hq
              refine tp_i (y := inS (bsS st ts tw (ed - (nI i)) ck) (nI i2)) (hq) ?_
              refine lv_if_eq (x := inS (bsS st ts tw (ed - (nI i)) ck) (nI i2)) (tgt := 57) hx hb dX5_prepare_50 (by decide) (fun c9 => ?_) (fun c9 => ?_)
              · skip
                have k50 := c9
                refine lv_aload_n hx hb dX5_prepare_57 rfl (lv_at hl 4 rfl) ?_
                refine va_get (D := D) (ci := 5) (v := .ref t0) (C := RX5) (T := TX5) (N := 10) hx hb hts hi5 hown hG.1 hP 0 rfl rfl 2 (by decide) (hts (.fieldLink RX5 44 "SleptMatters$Rows" "town" "LSleptMatters$Town;") (List.mem_cons_of_mem _ (List.mem_append_left _ (List.mem_append_left _ (List.mem_append_left _ (List.mem_append_left _ (List.mem_of_getElem? (i := 1) rfl))))))) (fun _ h9 => h9) rfl dX5_prepare_58 ?_
                refine lv_iload hx hb dX5_prepare_61 (lv_at hl 0 rfl) ?_
                refine lv_iload_n hx hb dX5_prepare_63 rfl (lv_at hl 5 rfl) ?_
                refine lv_iload hx hb dX5_prepare_64 (lv_at hl 3 rfl) ?_
                refine lv_isub hx hb dX5_prepare_66 ?_
                have hPc := hP.sub (ws' := (c_X8_calmHouses k t0 t tn tl tc ta q cf (nI i2) (ed - (nI i)))) [5, 6, 7] rfl
                refine vp_callSi (va_Run.run (va_runV (As := [.int (nI i2), .int (ed - (nI i))]) (rest := []) ⟨hx, hb, hml, hown, hts⟩ (X8_calmHouses l D k t0 t tn tl tc ta q cf (nI i2) (ed - (nI i)) (hq1)) (cwV 2 hts gX5_prepare_X8_calmHouses rfl rfl rfl (by decide +kernel) ⟨Nat.le_of_ble_eq_true rfl, Nat.le_of_ble_eq_true rfl⟩) ⟨PS.blind _ _ _ _, va_recv hG.1 hP (ci := 8) (q0 := 5) rfl rfl, PS.pre hPc hG [.ref t0, .int (nI i2), .int (ed - (nI i))]⟩ rfl rfl hl.1 rfl (lv_room (Nat.le_of_ble_eq_true rfl)) dX5_prepare_67 ⟨Nat.le_of_ble_eq_true rfl, Nat.le_of_ble_eq_true rfl⟩)) (fun r hq => ?_)
                generalize r = y10 at hq ⊢
                have hq : y10 = chA (q 1) cf (nI i2) (ed - (nI i)) := hq
                refine tp_i (y := chA (q 1) cf (nI i2) (ed - (nI i))) (hq) ?_
                refine lv_iload hx hb dX5_prepare_70 (lv_at hl 1 rfl) ?_
                refine lv_iconst (v := (-1)) hx hb dX5_prepare_72 (by decide) ?_
                refine lv_ixor hx hb dX5_prepare_73 ?_
                refine lv_iand hx hb dX5_prepare_74 ?_
                refine lv_istore (lv' := [(8, .int ((chA (q 1) cf (nI i2) (ed - (nI i))) &&& ((fhR st th be tw ck (ed - (nI i))) ^^^ (-1)))), (7, .int (nI i2)), (6, .int (fhR st th be tw ck (ed - (nI i)))), (5, .int (bsS st ts tw (ed - (nI i)) ck)), (4, .int (nI i)), (0, .ref h), (1, .int ed), (2, .int (nI nn)), (3, .ref tk)]) hx hb dX5_prepare_75 hl (by decide) rfl (fun ls hl => ?_)
                refine lv_aload_n hx hb dX5_prepare_77 rfl (lv_at hl 5 rfl) ?_
                refine va_get (D := D) (ci := 5) (v := .ref r9) (C := RX5) (T := TX5) (N := 10) hx hb hts hi5 hown hG.1 hP 0 rfl rfl 9 (by decide) (hts (.fieldLink RX5 41 "SleptMatters$Rows" "open" "[I") (List.mem_cons_of_mem _ (List.mem_append_left _ (List.mem_append_left _ (List.mem_append_left _ (List.mem_append_left _ (List.mem_of_getElem? (i := 2) rfl))))))) (fun _ h9 => h9) rfl dX5_prepare_78 ?_
                refine lv_iload hx hb dX5_prepare_81 (lv_at hl 4 rfl) ?_
                refine lv_bipush (v := 7) hx hb dX5_prepare_83 (by decide) ?_
                refine lv_imul hx hb dX5_prepare_85 ?_
                refine tp_i (y := nI (i * 7)) (pk_mul i 7) ?_
                refine lv_iload hx hb dX5_prepare_86 (lv_at hl 1 rfl) ?_
                refine lv_iadd hx hb dX5_prepare_88 ?_
                refine tp_i (y := nI (i * 7 + i2)) (nI_add (i * 7) i2) ?_
                refine lv_iload hx hb dX5_prepare_89 (lv_at hl 0 rfl) ?_
                refine va_iast hx hb hG.1 hP hD hS 4 0 rfl rfl (vp_in_nI (by omega) (by omega)) dX5_prepare_91 (fun H locs hP hD hS => ?_)
                rw [nI_clamp (n := i * 7 + i2) (by omega)] at hP hD
                have hP : va_P D vwCl [(h, .inr (5, [.ref r0, .ref r1, .ref t0, .ref nk, .ref r4, .ref r5, .ref r6, .ref r7, .ref r8, .ref r9])), (r4, .inl (k 0, 7, .inl be)), (r7, .inl (k 1, 128, .inr (.inl L7))), (r8, .inl (k 1, 128, .inr (.inl L8))), (r9, .inl (k 0, 49, .inl (upd p8 (i * 7 + i2) ((chA (q 1) cf (nI i2) (ed - (nI i))) &&& ((fhR st th be tw ck (ed - (nI i))) ^^^ (-1)))))), (t0, .inr (8, [.ref t, .ref tn, .ref tl, .ref tc, .ref ta])), (t, .inl (k 0, 4, .inl (cI q))), (tc, .inl (k 0, 700, .inl cf)), (tk, .inr (6, [.int (nI ck), .int (nI tw), .ref tk1, .ref tk2, .ref tk3])), (tk1, .inl (k 0, 3, .inl st)), (tk2, .inl (k 0, 21, .inl ts)), (tk3, .inl (k 0, 21, .inl th))] H := hP
                have hD : va_D A [(h, .inr (5, [.ref r0, .ref r1, .ref t0, .ref nk, .ref r4, .ref r5, .ref r6, .ref r7, .ref r8, .ref r9])), (r4, .inl (k 0, 7, .inl be)), (r7, .inl (k 1, 128, .inr (.inl L7))), (r8, .inl (k 1, 128, .inr (.inl L8))), (r9, .inl (k 0, 49, .inl (upd p8 (i * 7 + i2) ((chA (q 1) cf (nI i2) (ed - (nI i))) &&& ((fhR st th be tw ck (ed - (nI i))) ^^^ (-1)))))), (t0, .inr (8, [.ref t, .ref tn, .ref tl, .ref tc, .ref ta])), (t, .inl (k 0, 4, .inl (cI q))), (tc, .inl (k 0, 700, .inl cf)), (tk, .inr (6, [.int (nI ck), .int (nI tw), .ref tk1, .ref tk2, .ref tk3])), (tk1, .inl (k 0, 3, .inl st)), (tk2, .inl (k 0, 21, .inl ts)), (tk3, .inl (k 0, 21, .inl th))] := hD
                refine lv_iinc (v := nI (i2 + 1)) (lv' := [(7, .int (nI (i2 + 1))), (8, .int ((chA (q 1) cf (nI i2) (ed - (nI i))) &&& ((fhR st th be tw ck (ed - (nI i))) ^^^ (-1)))), (6, .int (fhR st th be tw ck (ed - (nI i)))), (5, .int (bsS st ts tw (ed - (nI i)) ck)), (4, .int (nI i)), (0, .ref h), (1, .int ed), (2, .int (nI nn)), (3, .ref tk)]) hx hb dX5_prepare_92 hl (k := 1) rfl (nI_add i2 1) (by decide) rfl (fun ls hl => ?_)
                refine lv_goto (tgt := 36) hx hb dX5_prepare_95 (by decide) ?_
                exact ihL6 (i2 + 1) (upd p8 (i * 7 + i2) ((chA (q 1) cf (nI i2) (ed - (nI i))) &&& ((fhR st th be tw ck (ed - (nI i))) ^^^ (-1)))) (by omega) (OPx_u hOP8 hCB hq1 (by omega) (by omega) (opn_0 k50) (fun b s _ _ q8 => by omega)) (by omega) _ _ (hP.sub [0, 1, 2, 3, 4, 5, 6, 7, 8, 9, 10, 11] rfl) (hD.sub [0, 1, 2, 3, 4, 5, 6, 7, 8, 9, 10, 11] (by decide +kernel) rfl) hS ls (lv_sub hl [0, 2, 3, 4, 5, 6, 7, 8] rfl)
              · skip
                have k50 := c9
                refine lv_iconst (v := 0) hx hb dX5_prepare_53 (by decide) ?_
                refine lv_goto (tgt := 75) hx hb dX5_prepare_54 (by decide) ?_
                refine lv_istore (lv' := [(8, .int 0), (7, .int (nI i2)), (6, .int (fhR st th be tw ck (ed - (nI i)))), (5, .int (bsS st ts tw (ed - (nI i)) ck)), (4, .int (nI i)), (0, .ref h), (1, .int ed), (2, .int (nI nn)), (3, .ref tk)]) hx hb dX5_prepare_75 hl (by decide) rfl (fun ls hl => ?_)
                refine lv_aload_n hx hb dX5_prepare_77 rfl (lv_at hl 5 rfl) ?_
                refine va_get (D := D) (ci := 5) (v := .ref r9) (C := RX5) (T := TX5) (N := 10) hx hb hts hi5 hown hG.1 hP 0 rfl rfl 9 (by decide) (hts (.fieldLink RX5 41 "SleptMatters$Rows" "open" "[I") (List.mem_cons_of_mem _ (List.mem_append_left _ (List.mem_append_left _ (List.mem_append_left _ (List.mem_append_left _ (List.mem_of_getElem? (i := 2) rfl))))))) (fun _ h9 => h9) rfl dX5_prepare_78 ?_
                refine lv_iload hx hb dX5_prepare_81 (lv_at hl 4 rfl) ?_
                refine lv_bipush (v := 7) hx hb dX5_prepare_83 (by decide) ?_
                refine lv_imul hx hb dX5_prepare_85 ?_
                refine tp_i (y := nI (i * 7)) (pk_mul i 7) ?_
                refine lv_iload hx hb dX5_prepare_86 (lv_at hl 1 rfl) ?_
                refine lv_iadd hx hb dX5_prepare_88 ?_
                refine tp_i (y := nI (i * 7 + i2)) (nI_add (i * 7) i2) ?_
                refine lv_iload hx hb dX5_prepare_89 (lv_at hl 0 rfl) ?_
                refine va_iast hx hb hG.1 hP hD hS 4 0 rfl rfl (vp_in_nI (by omega) (by omega)) dX5_prepare_91 (fun H locs hP hD hS => ?_)
                rw [nI_clamp (n := i * 7 + i2) (by omega)] at hP hD
                have hP : va_P D vwCl [(h, .inr (5, [.ref r0, .ref r1, .ref t0, .ref nk, .ref r4, .ref r5, .ref r6, .ref r7, .ref r8, .ref r9])), (r4, .inl (k 0, 7, .inl be)), (r7, .inl (k 1, 128, .inr (.inl L7))), (r8, .inl (k 1, 128, .inr (.inl L8))), (r9, .inl (k 0, 49, .inl (upd p8 (i * 7 + i2) 0))), (t0, .inr (8, [.ref t, .ref tn, .ref tl, .ref tc, .ref ta])), (t, .inl (k 0, 4, .inl (cI q))), (tc, .inl (k 0, 700, .inl cf)), (tk, .inr (6, [.int (nI ck), .int (nI tw), .ref tk1, .ref tk2, .ref tk3])), (tk1, .inl (k 0, 3, .inl st)), (tk2, .inl (k 0, 21, .inl ts)), (tk3, .inl (k 0, 21, .inl th))] H := hP
                have hD : va_D A [(h, .inr (5, [.ref r0, .ref r1, .ref t0, .ref nk, .ref r4, .ref r5, .ref r6, .ref r7, .ref r8, .ref r9])), (r4, .inl (k 0, 7, .inl be)), (r7, .inl (k 1, 128, .inr (.inl L7))), (r8, .inl (k 1, 128, .inr (.inl L8))), (r9, .inl (k 0, 49, .inl (upd p8 (i * 7 + i2) 0))), (t0, .inr (8, [.ref t, .ref tn, .ref tl, .ref tc, .ref ta])), (t, .inl (k 0, 4, .inl (cI q))), (tc, .inl (k 0, 700, .inl cf)), (tk, .inr (6, [.int (nI ck), .int (nI tw), .ref tk1, .ref tk2, .ref tk3])), (tk1, .inl (k 0, 3, .inl st)), (tk2, .inl (k 0, 21, .inl ts)), (tk3, .inl (k 0, 21, .inl th))] := hD
                refine lv_iinc (v := nI (i2 + 1)) (lv' := [(7, .int (nI (i2 + 1))), (8, .int 0), (6, .int (fhR st th be tw ck (ed - (nI i)))), (5, .int (bsS st ts tw (ed - (nI i)) ck)), (4, .int (nI i)), (0, .ref h), (1, .int ed), (2, .int (nI nn)), (3, .ref tk)]) hx hb dX5_prepare_92 hl (k := 1) rfl (nI_add i2 1) (by decide) rfl (fun ls hl => ?_)
                refine lv_goto (tgt := 36) hx hb dX5_prepare_95 (by decide) ?_
                exact ihL6 (i2 + 1) (upd p8 (i * 7 + i2) 0) (by omega) (OPx_u hOP8 hCB hq1 (by omega) (by omega) (opn_1 k50) (fun b s _ _ q8 => by omega)) (by omega) _ _ (hP.sub [0, 1, 2, 3, 4, 5, 6, 7, 8, 9, 10, 11] rfl) (hD.sub [0, 1, 2, 3, 4, 5, 6, 7, 8, 9, 10, 11] (by decide +kernel) rfl) hS ls (lv_sub hl [0, 2, 3, 4, 5, 6, 7, 8] rfl)
        exact L6 _ 0 p9 (Nat.zero_le _) (OPx_c hOP (fun b s _ _ q8 => by omega)) (Nat.lt_succ_self _) _ _ hP hD hS ls (lv_sub hl [0, 1, 2, 3, 4, 5, 6, 7] rfl)
  exact L1 _ 0 o9 (Nat.zero_le _) (OPx_0 hOB (fun b _ q8 => absurd q8 (Nat.not_lt_zero b))) (Nat.lt_succ_self _) _ _ hP hD hS ls (lv_sub hl [0, 1, 2, 3, 4] rfl)

abbrev c_X5_longestUpTo (k : Nat → ClassId) (z : Nat → Nat) (h : Nat) (r0 : Nat) (r1 : Nat) (t0 : Nat) (nk : Nat) (r4 : Nat) (r5 : Nat) (r6 : Nat) (r7 : Nat) (r8 : Nat) (r9 : Nat) (t : Nat) (tn : Nat) (tl : Nat) (tc : Nat) (ta : Nat) (q : Nat → Nat) (cf : Nat → Int32) (al : Nat → Nat) (nk1 : Nat) (nk2 : Nat) (nk3 : Nat) (n1 : Nat → Int32) (n2 : Nat → Int32) (n3 : Nat → Int32) (be : Nat → Int32) (lg : Nat → Int32) (ab : Nat → Int64) (L7 : Nat → Int64) (L8 : Nat → Int64) (o9 : Nat → Int32) (ed : Int32) : va_W := [(h, .inr (5, [.ref r0, .ref r1, .ref t0, .ref nk, .ref r4, .ref r5, .ref r6, .ref r7, .ref r8, .ref r9])), (r4, .inl (k 0, 7, .inl be)), (r5, .inl (k 0, 100, .inl lg)), (r6, .inl (k 1, 200, .inr (.inl ab))), (r7, .inl (k 1, 128, .inr (.inl L7))), (r8, .inl (k 1, 128, .inr (.inl L8))), (r9, .inl (k 0, 49, .inl o9)), (t0, .inr (8, [.ref t, .ref tn, .ref tl, .ref tc, .ref ta])), (t, .inl (k 0, 4, .inl (cI q))), (tc, .inl (k 0, 700, .inl cf)), (ta, .inl (k 0, 100, .inl (cI al))), (nk, .inr (6, [.int 0, .int 0, .ref nk1, .ref nk2, .ref nk3])), (nk1, .inl (k 0, 3, .inl n1)), (nk2, .inl (k 0, 21, .inl n2)), (nk3, .inl (k 0, 21, .inl n3))]
abbrev r_X5_longestUpTo : Room := { frames := 3, cells := 0, slots := 0, locals := 78 }
def w_X5_longestUpTo (k : Nat → ClassId) (z : Nat → Nat) (h : Nat) (r0 : Nat) (r1 : Nat) (t0 : Nat) (nk : Nat) (r4 : Nat) (r5 : Nat) (r6 : Nat) (r7 : Nat) (r8 : Nat) (r9 : Nat) (t : Nat) (tn : Nat) (tl : Nat) (tc : Nat) (ta : Nat) (q : Nat → Nat) (cf : Nat → Int32) (al : Nat → Nat) (nk1 : Nat) (nk2 : Nat) (nk3 : Nat) (n1 : Nat → Int32) (n2 : Nat → Int32) (n3 : Nat → Int32) (be : Nat → Int32) (lg : Nat → Int32) (ab : Nat → Int64) (L7 : Nat → Int64) (L8 : Nat → Int64) (o9 : Nat → Int32) (ed : Int32) : (Nat → Int32) × (Nat → Int64) × (Nat → Int64) × (Nat → Int64) × (Nat → Int32) → va_W := fun u => match u with | (lg9, ab9, M7, M8, o8) => [(h, .inr (5, [.ref r0, .ref r1, .ref t0, .ref nk, .ref r4, .ref r5, .ref r6, .ref r7, .ref r8, .ref r9])), (r4, .inl (k 0, 7, .inl be)), (r5, .inl (k 0, 100, .inl lg9)), (r6, .inl (k 1, 200, .inr (.inl ab9))), (r7, .inl (k 1, 128, .inr (.inl M7))), (r8, .inl (k 1, 128, .inr (.inl M8))), (r9, .inl (k 0, 49, .inl o8)), (t0, .inr (8, [.ref t, .ref tn, .ref tl, .ref tc, .ref ta])), (t, .inl (k 0, 4, .inl (cI q))), (tc, .inl (k 0, 700, .inl cf)), (ta, .inl (k 0, 100, .inl (cI al))), (nk, .inr (6, [.int 0, .int 0, .ref nk1, .ref nk2, .ref nk3])), (nk1, .inl (k 0, 3, .inl n1)), (nk2, .inl (k 0, 21, .inl n2)), (nk3, .inl (k 0, 21, .inl n3))]
def p_X5_longestUpTo (k : Nat → ClassId) (z : Nat → Nat) (h : Nat) (r0 : Nat) (r1 : Nat) (t0 : Nat) (nk : Nat) (r4 : Nat) (r5 : Nat) (r6 : Nat) (r7 : Nat) (r8 : Nat) (r9 : Nat) (t : Nat) (tn : Nat) (tl : Nat) (tc : Nat) (ta : Nat) (q : Nat → Nat) (cf : Nat → Int32) (al : Nat → Nat) (nk1 : Nat) (nk2 : Nat) (nk3 : Nat) (n1 : Nat → Int32) (n2 : Nat → Int32) (n3 : Nat → Int32) (be : Nat → Int32) (lg : Nat → Int32) (ab : Nat → Int64) (L7 : Nat → Int64) (L8 : Nat → Int64) (o9 : Nat → Int32) (ed : Int32) : Int32 → (Nat → Int32) × (Nat → Int64) × (Nat → Int64) × (Nat → Int64) × (Nat → Int32) → Prop := fun (r : Int32) (u : (Nat → Int32) × (Nat → Int64) × (Nat → Int64) × (Nat → Int64) × (Nat → Int32)) => match u with | (lg9, ab9, M7, M8, o8) => (OB o8 ∧ MEM (q 1) cf lg9 ab9 ∧ ∀ d : Nat, d < 100 → ed = nI d → ∃ mm : Nat, r = nI mm ∧ LNg (q 1) cf d mm ∧ ¬ lg9 (slk al d) = -1)
abbrev q_X5_longestUpTo (D : va_G) (k : Nat → ClassId) (z : Nat → Nat) (h : Nat) (r0 : Nat) (r1 : Nat) (t0 : Nat) (nk : Nat) (r4 : Nat) (r5 : Nat) (r6 : Nat) (r7 : Nat) (r8 : Nat) (r9 : Nat) (t : Nat) (tn : Nat) (tl : Nat) (tc : Nat) (ta : Nat) (q : Nat → Nat) (cf : Nat → Int32) (al : Nat → Nat) (nk1 : Nat) (nk2 : Nat) (nk3 : Nat) (n1 : Nat → Int32) (n2 : Nat → Int32) (n3 : Nat → Int32) (be : Nat → Int32) (lg : Nat → Int32) (ab : Nat → Int64) (L7 : Nat → Int64) (L8 : Nat → Int64) (o9 : Nat → Int32) (ed : Int32) (A : Nat → Prop) : Array Value → State → Outcome → State → Prop := va_Qi (p_X5_longestUpTo k z h r0 r1 t0 nk r4 r5 r6 r7 r8 r9 t tn tl tc ta q cf al nk1 nk2 nk3 n1 n2 n3 be lg ab L7 L8 o9 ed) (fun u9 t9 => BO D (w_X5_longestUpTo k z h r0 r1 t0 nk r4 r5 r6 r7 r8 r9 t tn tl tc ta q cf al nk1 nk2 nk3 n1 n2 n3 be lg ab L7 L8 o9 ed u9) A t9) A
set_option maxHeartbeats 2000000 in
set_option maxRecDepth 100000 in
theorem X5_longestUpTo (l : Launch) (D : va_G) (k : Nat → ClassId) (sz : Nat) (z : Nat → Nat) (h : Nat) (r0 : Nat) (r1 : Nat) (t0 : Nat) (nk : Nat) (r4 : Nat) (r5 : Nat) (r6 : Nat) (r7 : Nat) (r8 : Nat) (r9 : Nat) (t : Nat) (tn : Nat) (tl : Nat) (tc : Nat) (ta : Nat) (q : Nat → Nat) (cf : Nat → Int32) (al : Nat → Nat) (nk1 : Nat) (nk2 : Nat) (nk3 : Nat) (n1 : Nat → Int32) (n2 : Nat → Int32) (n3 : Nat → Int32) (be : Nat → Int32) (lg : Nat → Int32) (ab : Nat → Int64) (L7 : Nat → Int64) (L8 : Nat → Int64) (o9 : Nat → Int32) (ed : Int32) (hq1 : q 1 ≤ 7) (hal : ∀ d, d < 100 → al d ≤ d + 1) (hOB : OB o9) (hCB : CFB (q 1) cf) (hAK : AK (q 1) cf al) (hMM : MEM (q 1) cf lg ab) : Met l yX5_longestUpTo wsX5_longestUpTo r_X5_longestUpTo (va_Pc [.ref h, .int ed] (PT D k (c_X5_longestUpTo k z h r0 r1 t0 nk r4 r5 r6 r7 r8 r9 t tn tl tc ta q cf al nk1 nk2 nk3 n1 n2 n3 be lg ab L7 L8 o9 ed) sz z)) (q_X5_longestUpTo D k z h r0 r1 t0 nk r4 r5 r6 r7 r8 r9 t tn tl tc ta q cf al nk1 nk2 nk3 n1 n2 n3 be lg ab L7 L8 o9 ed (va_A (c_X5_longestUpTo k z h r0 r1 t0 nk r4 r5 r6 r7 r8 r9 t tn tl tc ta q cf al nk1 nk2 nk3 n1 n2 n3 be lg ab L7 L8 o9 ed) sz)) 0 0 (va_A (c_X5_longestUpTo k z h r0 r1 t0 nk r4 r5 r6 r7 r8 r9 t tn tl tc ta q cf al nk1 nk2 nk3 n1 n2 n3 be lg ab L7 L8 o9 ed) sz) := by
  refine Met.ofW (cc := cX5_longestUpTo) (maxL := 5) (ret := (some .int)) (by decide) rfl ?_
  intro p e s m args below meth c s₁ B hml hv
  obtain ⟨rfl, ⟨hsz, hP, hG, hD0⟩, hZ⟩ := hv
  have hx := B.exec
  have hb := B.bytes
  have hr := B.returns
  have hts := atoms_spec (ws := wsX5_longestUpTo) B.pre
  have hown : s.vm.findClass RX5 = some m.cls := findClass_of_methodNamed B.named
  have hlocks := B.notSynchronized
  have hi5 : ∀ w ∈ wsX50, w ∈ wsX5_longestUpTo := fun _ h => List.mem_cons_of_mem _ (List.mem_append_left _ (List.mem_append_left _ (List.mem_append_right _ h)))
  have hi8 : ∀ w ∈ wsX80, w ∈ wsX5_longestUpTo := fun _ h => List.mem_cons_of_mem _ (List.mem_append_left _ (List.mem_append_right _ h))
  have hi6 : ∀ w ∈ wsX60, w ∈ wsX5_longestUpTo := fun _ h => List.mem_cons_of_mem _ (List.mem_append_right _ h)
  subst hsz
  have hD := hD0.self (sz := s.heap.size)
  generalize hAe : va_A (c_X5_longestUpTo k z h r0 r1 t0 nk r4 r5 r6 r7 r8 r9 t tn tl tc ta q cf al nk1 nk2 nk3 n1 n2 n3 be lg ab L7 L8 o9 ed) s.heap.size = A at hD hZ ⊢
  have hA : ∀ q : Nat, s.heap.size ≤ q → A q := fun q h => by rw [← hAe]; exact Or.inr h
  have hS : va_S A s.heap s.heap [] := va_S.rf
  have hP : va_P D vwCl [(h, .inr (5, [.ref r0, .ref r1, .ref t0, .ref nk, .ref r4, .ref r5, .ref r6, .ref r7, .ref r8, .ref r9])), (r4, .inl (k 0, 7, .inl be)), (r5, .inl (k 0, 100, .inl lg)), (r6, .inl (k 1, 200, .inr (.inl ab))), (r7, .inl (k 1, 128, .inr (.inl L7))), (r8, .inl (k 1, 128, .inr (.inl L8))), (r9, .inl (k 0, 49, .inl o9)), (t0, .inr (8, [.ref t, .ref tn, .ref tl, .ref tc, .ref ta])), (t, .inl (k 0, 4, .inl (cI q))), (tc, .inl (k 0, 700, .inl cf)), (ta, .inl (k 0, 100, .inl (cI al))), (nk, .inr (6, [.int 0, .int 0, .ref nk1, .ref nk2, .ref nk3])), (nk1, .inl (k 0, 3, .inl n1)), (nk2, .inl (k 0, 21, .inl n2)), (nk3, .inl (k 0, 21, .inl n3))] s.heap := hP
  have hD : va_D A [(h, .inr (5, [.ref r0, .ref r1, .ref t0, .ref nk, .ref r4, .ref r5, .ref r6, .ref r7, .ref r8, .ref r9])), (r4, .inl (k 0, 7, .inl be)), (r5, .inl (k 0, 100, .inl lg)), (r6, .inl (k 1, 200, .inr (.inl ab))), (r7, .inl (k 1, 128, .inr (.inl L7))), (r8, .inl (k 1, 128, .inr (.inl L8))), (r9, .inl (k 0, 49, .inl o9)), (t0, .inr (8, [.ref t, .ref tn, .ref tl, .ref tc, .ref ta])), (t, .inl (k 0, 4, .inl (cI q))), (tc, .inl (k 0, 700, .inl cf)), (ta, .inl (k 0, 100, .inl (cI al))), (nk, .inr (6, [.int 0, .int 0, .ref nk1, .ref nk2, .ref nk3])), (nk1, .inl (k 0, 3, .inl n1)), (nk2, .inl (k 0, 21, .inl n2)), (nk3, .inl (k 0, 21, .inl n3))] := hD
  have hl := lv_entry ([.ref h, .int ed]) (n := 5) (Nat.le_of_ble_eq_true rfl)
  rw [lg_entry_eq]
  generalize (lg_sl ([.ref h, .int ed]) ++ List.replicate (5 - (lg_sl ([.ref h, .int ed])).length) Slot.unset).toArray = ls at hl ⊢
  have hl : lv_has ls 5 [(0, .ref h), (1, .int ed)] := hl
  refine lv_iload_n hx hb dX5_longestUpTo_0 rfl (lv_at hl 1 rfl) ?_
  refine lv_if_lt (x := ed) (tgt := 10) hx hb dX5_longestUpTo_1 (by decide) (fun c1 => ?_) (fun c1 => ?_)
  · skip
    have hout : ¬ ((0 : Int32) ≤ ed ∧ ed < 100) := fun q8 => absurd c1 (Int32.not_lt.mpr q8.1)
    refine lv_iconst (v := 0) hx hb dX5_longestUpTo_10 (by decide) ?_
    have hP9 := hP.sub (ws' := [(h, .inr (5, [.ref r0, .ref r1, .ref t0, .ref nk, .ref r4, .ref r5, .ref r6, .ref r7, .ref r8, .ref r9])), (r4, .inl (k 0, 7, .inl be)), (r5, .inl (k 0, 100, .inl lg)), (r6, .inl (k 1, 200, .inr (.inl ab))), (r7, .inl (k 1, 128, .inr (.inl L7))), (r8, .inl (k 1, 128, .inr (.inl L8))), (r9, .inl (k 0, 49, .inl o9)), (t0, .inr (8, [.ref t, .ref tn, .ref tl, .ref tc, .ref ta])), (t, .inl (k 0, 4, .inl (cI q))), (tc, .inl (k 0, 700, .inl cf)), (ta, .inl (k 0, 100, .inl (cI al))), (nk, .inr (6, [.int 0, .int 0, .ref nk1, .ref nk2, .ref nk3])), (nk1, .inl (k 0, 3, .inl n1)), (nk2, .inl (k 0, 21, .inl n2)), (nk3, .inl (k 0, 21, .inl n3))]) [0, 1, 2, 3, 4, 5, 6, 7, 8, 9, 10, 11, 12, 13, 14] rfl
    have hD9 := hD.sub (ws' := [(h, .inr (5, [.ref r0, .ref r1, .ref t0, .ref nk, .ref r4, .ref r5, .ref r6, .ref r7, .ref r8, .ref r9])), (r4, .inl (k 0, 7, .inl be)), (r5, .inl (k 0, 100, .inl lg)), (r6, .inl (k 1, 200, .inr (.inl ab))), (r7, .inl (k 1, 128, .inr (.inl L7))), (r8, .inl (k 1, 128, .inr (.inl L8))), (r9, .inl (k 0, 49, .inl o9)), (t0, .inr (8, [.ref t, .ref tn, .ref tl, .ref tc, .ref ta])), (t, .inl (k 0, 4, .inl (cI q))), (tc, .inl (k 0, 700, .inl cf)), (ta, .inl (k 0, 100, .inl (cI al))), (nk, .inr (6, [.int 0, .int 0, .ref nk1, .ref nk2, .ref nk3])), (nk1, .inl (k 0, 3, .inl n1)), (nk2, .inl (k 0, 21, .inl n2)), (nk3, .inl (k 0, 21, .inl n3))]) [0, 1, 2, 3, 4, 5, 6, 7, 8, 9, 10, 11, 12, 13, 14] (by decide +kernel) rfl
    exact W.iret (v := 0) hx hb hr (fun t9 ht _ => ⟨⟨0, (lg, ab, L7, L8, o9), rfl, ⟨hOB, hMM, fun d hd ed9 => absurd (show (0 : Int32) ≤ ed ∧ ed < 100 by rw [ed9]; exact ⟨nI_pos' (by omega), nI_lt (b := 100) hd (by decide)⟩) hout⟩, by rw [ht]; exact hP9, hD9⟩, hS.F ht⟩) hS.2.2 dX5_longestUpTo_11
  · skip
    have h0 := c1
    refine lv_iload_n hx hb dX5_longestUpTo_4 rfl (lv_at hl 1 rfl) ?_
    refine lv_bipush (v := 100) hx hb dX5_longestUpTo_5 (by decide) ?_
    refine lv_icmp_lt (x := ed) (y := 100) (tgt := 12) hx hb dX5_longestUpTo_7 (by decide) (fun c2 => ?_) (fun c2 => ?_)
    · skip
      obtain ⟨d, hd, eD⟩ : ∃ d : Nat, d < 100 ∧ ed = nI d := by obtain ⟨j, hj, ej⟩ := nI_of h0; have h8 := c2; rw [ej] at h8; exact ⟨j, (nI_ltI (b := 100) hj (by decide)).mp h8, ej⟩
      have hl : lv_has ls 5 [(0, .ref h), (1, .int (nI d))] := by rw [← eD]; exact hl
      refine lv_aload_n hx hb dX5_longestUpTo_12 rfl (lv_at hl 0 rfl) ?_
      refine va_get (D := D) (ci := 5) (v := .ref t0) (C := RX5) (T := TX5) (N := 10) hx hb hts hi5 hown hG.1 hP 0 rfl rfl 2 (by decide) (hts (.fieldLink RX5 44 "SleptMatters$Rows" "town" "LSleptMatters$Town;") (List.mem_cons_of_mem _ (List.mem_append_left _ (List.mem_append_left _ (List.mem_append_left _ (List.mem_append_left _ (List.mem_of_getElem? (i := 0) rfl))))))) (fun _ h9 => h9) rfl dX5_longestUpTo_13 ?_
      refine lv_iload_n hx hb dX5_longestUpTo_16 rfl (lv_at hl 1 rfl) ?_
      have hPc := hP.sub (ws' := (c_X8_soonestLike k t0 t tn tl tc ta al d)) [7, 10] rfl
      refine vp_callSi (va_Run.run (va_runV (As := [.int (nI d)]) (rest := []) ⟨hx, hb, hml, hown, hts⟩ (X8_soonestLike l D k t0 t tn tl tc ta al d (hd) (hal d hd)) (cwV 1 hts gX5_longestUpTo_X8_soonestLike rfl rfl rfl (by decide +kernel) ⟨Nat.le_of_ble_eq_true rfl, Nat.le_of_ble_eq_true rfl⟩) ⟨PS.blind _ _ _ _, va_recv hG.1 hP (ci := 8) (q0 := 7) rfl rfl, PS.pre hPc hG [.ref t0, .int (nI d)]⟩ rfl rfl hl.1 rfl (lv_room (Nat.le_of_ble_eq_true rfl)) dX5_longestUpTo_17 ⟨Nat.le_of_ble_eq_true rfl, Nat.le_of_ble_eq_true rfl⟩)) (fun r hq => ?_)
      generalize r = y3 at hq ⊢
      have hq : y3 = nI (slk al d) := hq
      refine tp_i (y := nI (slk al d)) (hq) ?_
      obtain ⟨dd, edd⟩ : ∃ z9 : Nat, z9 = slk al d := ⟨_, rfl⟩
      have hdd : dd < 100 := by rw [edd]; exact Nat.lt_of_le_of_lt slk_le (by omega)
      refine tp_i (y := nI dd) (congrArg nI edd.symm) ?_
      refine lv_istore_n (lv' := [(2, .int (nI dd)), (0, .ref h), (1, .int (nI d))]) hx hb dX5_longestUpTo_20 rfl hl (by decide) rfl (fun ls hl => ?_)
      refine lv_aload_n hx hb dX5_longestUpTo_21 rfl (lv_at hl 1 rfl) ?_
      refine va_get (D := D) (ci := 5) (v := .ref r5) (C := RX5) (T := TX5) (N := 10) hx hb hts hi5 hown hG.1 hP 0 rfl rfl 5 (by decide) (hts (.fieldLink RX5 28 "SleptMatters$Rows" "longest" "[I") (List.mem_cons_of_mem _ (List.mem_append_left _ (List.mem_append_left _ (List.mem_append_left _ (List.mem_append_left _ (List.mem_of_getElem? (i := 1) rfl))))))) (fun _ h9 => h9) rfl dX5_longestUpTo_22 ?_
      refine lv_iload_n hx hb dX5_longestUpTo_25 rfl (lv_at hl 0 rfl) ?_
      refine va_iald hx hb hG.1 hP 2 0 rfl rfl (vp_in_nI (by omega) (by omega)) dX5_longestUpTo_26 ?_
      refine tp_i (y := lg dd) (congrArg _ (nI_clamp (n := dd) (by omega))) ?_
      refine lv_iconst (v := (-1)) hx hb dX5_longestUpTo_27 (by decide) ?_
      refine lv_icmp_eq (x := lg dd) (y := (-1)) (tgt := 38) hx hb dX5_longestUpTo_28 (by decide) (fun c4 => ?_) (fun c4 => ?_)
      · skip
        have hz9 := MEM_z hMM hdd c4
        refine lv_aload_n hx hb dX5_longestUpTo_38 rfl (lv_at hl 1 rfl) ?_
        refine lv_iload_n hx hb dX5_longestUpTo_39 rfl (lv_at hl 0 rfl) ?_
        refine lv_bipush (v := 7) hx hb dX5_longestUpTo_40 (by decide) ?_
        refine lv_iload_n hx hb dX5_longestUpTo_42 rfl (lv_at hl 0 rfl) ?_
        refine lv_iconst (v := 1) hx hb dX5_longestUpTo_43 (by decide) ?_
        refine lv_iadd hx hb dX5_longestUpTo_44 ?_
        refine tp_i (y := nI (dd + 1)) (nI_add dd 1) ?_
        refine va_mmin hx hb (hml.trans hl.1.symm) hown (hts (.methodLink RX5 71 Lib.Math.min.name) (List.mem_cons_of_mem _ (List.mem_append_left _ (List.mem_append_left _ (List.mem_append_left _ (List.mem_append_left _ (List.mem_of_getElem? (i := 2) rfl))))))) (hts (.static Lib.Math.min.name) (List.mem_cons_of_mem _ (List.mem_append_left _ (List.mem_append_left _ (List.mem_append_left _ (List.mem_append_left _ (List.mem_of_getElem? (i := 3) rfl))))))) (hts (.initialized "java/lang/Math") (List.mem_cons_of_mem _ (List.mem_append_left _ (List.mem_append_left _ (List.mem_append_left _ (List.mem_append_left _ (List.mem_of_getElem? (i := 4) rfl))))))) (hts (.code Lib.Math.min.name Lib.Math.min.code 2 (some .int)) (List.mem_cons_of_mem _ (List.mem_append_left _ (List.mem_append_left _ (List.mem_append_left _ (List.mem_append_left _ (List.mem_of_getElem? (i := 5) rfl))))))) (Nat.le_of_ble_eq_true rfl) (Nat.le_of_ble_eq_true rfl) (Nat.le_of_ble_eq_true rfl) (Nat.le_of_ble_eq_true rfl) dX5_longestUpTo_45 ?_
        refine tp_i (y := mn 7 (nI (dd + 1))) rfl ?_
        refine tp_i (y := nI (min 7 (dd + 1))) (mn_n (by omega)) ?_
        refine lv_aload_n hx hb dX5_longestUpTo_48 rfl (lv_at hl 1 rfl) ?_
        refine va_get (D := D) (ci := 5) (v := .ref nk) (C := RX5) (T := TX5) (N := 10) hx hb hts hi5 hown hG.1 hP 0 rfl rfl 3 (by decide) (hts (.fieldLink RX5 21 "SleptMatters$Rows" "nothing" "LSleptMatters$Taken;") (List.mem_cons_of_mem _ (List.mem_append_left _ (List.mem_append_left _ (List.mem_append_left _ (List.mem_append_left _ (List.mem_of_getElem? (i := 6) rfl))))))) (fun _ h9 => h9) rfl dX5_longestUpTo_49 ?_
        have hPc := hP.sub (ws' := (c_X5_prepare k z h r0 r1 t0 nk r4 r5 r6 r7 r8 r9 t tn tl tc ta q cf nk nk1 nk2 nk3 0 0 n1 n2 n3 L7 L8 o9 be (nI dd) (min 7 (dd + 1)))) [0, 1, 4, 5, 6, 7, 8, 9, 11, 12, 13, 14] rfl
        have hDc := hD.sub (ws' := (c_X5_prepare k z h r0 r1 t0 nk r4 r5 r6 r7 r8 r9 t tn tl tc ta q cf nk nk1 nk2 nk3 0 0 n1 n2 n3 L7 L8 o9 be (nI dd) (min 7 (dd + 1)))) [0, 1, 4, 5, 6, 7, 8, 9, 11, 12, 13, 14] (by decide +kernel) rfl
        refine cl_i (w1 := w_X5_prepare k z h r0 r1 t0 nk r4 r5 r6 r7 r8 r9 t tn tl tc ta q cf nk nk1 nk2 nk3 0 0 n1 n2 n3 L7 L8 o9 be (nI dd) (min 7 (dd + 1))) (wr := [(r5, .inl (k 0, 100, .inl lg)), (r6, .inl (k 1, 200, .inr (.inl ab))), (ta, .inl (k 0, 100, .inl (cI al)))]) (va_runV (As := [.int (nI dd), .int (nI (min 7 (dd + 1))), .ref nk]) (rest := []) ⟨hx, hb, hml, hown, hts⟩ (X5_prepare l D k s.heap.size z h r0 r1 t0 nk r4 r5 r6 r7 r8 r9 t tn tl tc ta q cf nk nk1 nk2 nk3 0 0 n1 n2 n3 L7 L8 o9 be (nI dd) (min 7 (dd + 1)) (hq1) (by omega) (by decide) (by decide) (hOB) (hCB)) (cwV 3 hts gX5_longestUpTo_X5_prepare rfl rfl rfl (by decide +kernel) ⟨Nat.le_of_ble_eq_true rfl, Nat.le_of_ble_eq_true rfl⟩) ⟨PT.blind _ _ _ _ _ _, va_recv hG.1 hP (ci := 5) (q0 := 0) rfl rfl, PT.pre hPc hDc hG hZ hS (va_free hD hS hA [0, 1, 4, 5, 6, 7, 8, 9, 11, 12, 13, 14] rfl) [.ref h, .int (nI dd), .int (nI (min 7 (dd + 1))), .ref nk]⟩ rfl rfl hl.1 rfl (lv_room (Nat.le_of_ble_eq_true rfl)) dX5_longestUpTo_52 ⟨Nat.le_of_ble_eq_true rfl, Nat.le_of_ble_eq_true rfl⟩) hP hD hS hA [0, 1, 4, 5, 6, 7, 8, 9, 11, 12, 13, 14] [2, 3, 10] rfl rfl (by decide +kernel) (by decide +kernel) (fun r u H locs hq hP hD hS => ?_)
        obtain ⟨M7, M8, o8⟩ := u
        generalize r = y5 at hq ⊢
        have hq : ((y5 = 0 ∨ y5 = 1) ∧ OB o8 ∧ (∀ b s, b < (min 7 (dd + 1)) → s < 7 → o8 (b * 7 + s) = opn (q 1) cf n1 n2 n3 be 0 0 (nI dd) b s) ∧ RS o8 (min 7 (dd + 1)) 128 M7 M8 ∧ RR (min 7 (dd + 1)) 128 y5 M7 M8) := hq
        have hP : va_P D vwCl [(r5, .inl (k 0, 100, .inl lg)), (r6, .inl (k 1, 200, .inr (.inl ab))), (ta, .inl (k 0, 100, .inl (cI al))), (h, .inr (5, [.ref r0, .ref r1, .ref t0, .ref nk, .ref r4, .ref r5, .ref r6, .ref r7, .ref r8, .ref r9])), (r4, .inl (k 0, 7, .inl be)), (r7, .inl (k 1, 128, .inr (.inl M7))), (r8, .inl (k 1, 128, .inr (.inl M8))), (r9, .inl (k 0, 49, .inl o8)), (t0, .inr (8, [.ref t, .ref tn, .ref tl, .ref tc, .ref ta])), (t, .inl (k 0, 4, .inl (cI q))), (tc, .inl (k 0, 700, .inl cf)), (nk, .inr (6, [.int (nI 0), .int (nI 0), .ref nk1, .ref nk2, .ref nk3])), (nk1, .inl (k 0, 3, .inl n1)), (nk2, .inl (k 0, 21, .inl n2)), (nk3, .inl (k 0, 21, .inl n3))] H := hP
        have hD : va_D A [(r5, .inl (k 0, 100, .inl lg)), (r6, .inl (k 1, 200, .inr (.inl ab))), (ta, .inl (k 0, 100, .inl (cI al))), (h, .inr (5, [.ref r0, .ref r1, .ref t0, .ref nk, .ref r4, .ref r5, .ref r6, .ref r7, .ref r8, .ref r9])), (r4, .inl (k 0, 7, .inl be)), (r7, .inl (k 1, 128, .inr (.inl M7))), (r8, .inl (k 1, 128, .inr (.inl M8))), (r9, .inl (k 0, 49, .inl o8)), (t0, .inr (8, [.ref t, .ref tn, .ref tl, .ref tc, .ref ta])), (t, .inl (k 0, 4, .inl (cI q))), (tc, .inl (k 0, 700, .inl cf)), (nk, .inr (6, [.int (nI 0), .int (nI 0), .ref nk1, .ref nk2, .ref nk3])), (nk1, .inl (k 0, 3, .inl n1)), (nk2, .inl (k 0, 21, .inl n2)), (nk3, .inl (k 0, 21, .inl n3))] := hD
        have hpr := hq
        refine lv_pop hx hb dX5_longestUpTo_55 rfl ?_
        refine lv_iconst (v := 0) hx hb dX5_longestUpTo_56 (by decide) ?_
        refine lv_istore_n (lv' := [(3, .int 0), (2, .int (nI dd)), (0, .ref h), (1, .int (nI d))]) hx hb dX5_longestUpTo_57 rfl hl (by decide) rfl (fun ls hl => ?_)
        refine lv_iconst (v := 0) hx hb dX5_longestUpTo_58 (by decide) ?_
        refine lv_istore (lv' := [(4, .int 0), (3, .int 0), (2, .int (nI dd)), (0, .ref h), (1, .int (nI d))]) hx hb dX5_longestUpTo_59 hl (by decide) rfl (fun ls hl => ?_)
        have L6 : ∀ (fu9 : Nat) (i : Nat) (mo : Int32) (ab9 : Nat → Int64), (i ≤ 128) → (LX i mo M7 M8) → (AB9 ab ab9 M7 M8 dd i) → 128 - i < fu9 → ∀ (H : Heap) (locs : List Loc), va_P D vwCl [(r5, .inl (k 0, 100, .inl lg)), (r6, .inl (k 1, 200, .inr (.inl ab9))), (ta, .inl (k 0, 100, .inl (cI al))), (h, .inr (5, [.ref r0, .ref r1, .ref t0, .ref nk, .ref r4, .ref r5, .ref r6, .ref r7, .ref r8, .ref r9])), (r4, .inl (k 0, 7, .inl be)), (r7, .inl (k 1, 128, .inr (.inl M7))), (r8, .inl (k 1, 128, .inr (.inl M8))), (r9, .inl (k 0, 49, .inl o8)), (t0, .inr (8, [.ref t, .ref tn, .ref tl, .ref tc, .ref ta])), (t, .inl (k 0, 4, .inl (cI q))), (tc, .inl (k 0, 700, .inl cf)), (nk, .inr (6, [.int (nI 0), .int (nI 0), .ref nk1, .ref nk2, .ref nk3])), (nk1, .inl (k 0, 3, .inl n1)), (nk2, .inl (k 0, 21, .inl n2)), (nk3, .inl (k 0, 21, .inl n3))] H → va_D A [(r5, .inl (k 0, 100, .inl lg)), (r6, .inl (k 1, 200, .inr (.inl ab9))), (ta, .inl (k 0, 100, .inl (cI al))), (h, .inr (5, [.ref r0, .ref r1, .ref t0, .ref nk, .ref r4, .ref r5, .ref r6, .ref r7, .ref r8, .ref r9])), (r4, .inl (k 0, 7, .inl be)), (r7, .inl (k 1, 128, .inr (.inl M7))), (r8, .inl (k 1, 128, .inr (.inl M8))), (r9, .inl (k 0, 49, .inl o8)), (t0, .inr (8, [.ref t, .ref tn, .ref tl, .ref tc, .ref ta])), (t, .inl (k 0, 4, .inl (cI q))), (tc, .inl (k 0, 700, .inl cf)), (nk, .inr (6, [.int (nI 0), .int (nI 0), .ref nk1, .ref nk2, .ref nk3])), (nk1, .inl (k 0, 3, .inl n1)), (nk2, .inl (k 0, 21, .inl n2)), (nk3, .inl (k 0, 21, .inl n3))] → va_S A s.heap H locs → ∀ (ls : Array Slot), lv_has ls 5 [(4, .int (nI i)), (3, .int mo), (2, .int (nI dd)), (0, .ref h), (1, .int (nI d))] → W p l e r_X5_longestUpTo s m ([.ref h, .int ed] : List Value).toArray below meth c H locs 0 0 (MQ below (q_X5_longestUpTo D k z h r0 r1 t0 nk r4 r5 r6 r7 r8 r9 t tn tl tc ta q cf al nk1 nk2 nk3 n1 n2 n3 be lg ab L7 L8 o9 ed A) ([.ref h, .int ed] : List Value).toArray s 0 0 A) (F0 m 61 ls []) := by
          intro fu9
          induction fu9 with
          | zero => intro i mo ab9 hi hLX hAB hmu; exact absurd hmu (Nat.not_lt_zero _)
          | succ fu9 ih =>
            intro i mo ab9 hi hLX hAB hmu H locs hP hD hS ls hl
            refine lv_iload hx hb dX5_longestUpTo_61 (lv_at hl 0 rfl) ?_
            refine lv_sipush (v := 128) hx hb dX5_longestUpTo_63 (by decide) ?_
            refine bn_ge (i := i) (j := 128) (tgt := 132) hx hb dX5_longestUpTo_66 (by decide) (by omega) (by omega) (fun c7 => ?_) (fun c7 => ?_)
            · skip
              have hi8 : i = 128 := by omega
              refine lv_aload_n hx hb dX5_longestUpTo_132 rfl (lv_at hl 3 rfl) ?_
              refine va_get (D := D) (ci := 5) (v := .ref r5) (C := RX5) (T := TX5) (N := 10) hx hb hts hi5 hown hG.1 hP 3 rfl rfl 5 (by decide) (hts (.fieldLink RX5 28 "SleptMatters$Rows" "longest" "[I") (List.mem_cons_of_mem _ (List.mem_append_left _ (List.mem_append_left _ (List.mem_append_left _ (List.mem_append_left _ (List.mem_of_getElem? (i := 1) rfl))))))) (fun _ h9 => h9) rfl dX5_longestUpTo_133 ?_
              refine lv_iload_n hx hb dX5_longestUpTo_136 rfl (lv_at hl 2 rfl) ?_
              refine lv_iload_n hx hb dX5_longestUpTo_137 rfl (lv_at hl 1 rfl) ?_
              refine va_iast hx hb hG.1 hP hD hS 0 0 rfl rfl (vp_in_nI (by omega) (by omega)) dX5_longestUpTo_138 (fun H locs hP hD hS => ?_)
              rw [nI_clamp (n := dd) (by omega)] at hP hD
              have hP : va_P D vwCl [(r5, .inl (k 0, 100, .inl (upd lg dd mo))), (r6, .inl (k 1, 200, .inr (.inl ab9))), (ta, .inl (k 0, 100, .inl (cI al))), (h, .inr (5, [.ref r0, .ref r1, .ref t0, .ref nk, .ref r4, .ref r5, .ref r6, .ref r7, .ref r8, .ref r9])), (r4, .inl (k 0, 7, .inl be)), (r7, .inl (k 1, 128, .inr (.inl M7))), (r8, .inl (k 1, 128, .inr (.inl M8))), (r9, .inl (k 0, 49, .inl o8)), (t0, .inr (8, [.ref t, .ref tn, .ref tl, .ref tc, .ref ta])), (t, .inl (k 0, 4, .inl (cI q))), (tc, .inl (k 0, 700, .inl cf)), (nk, .inr (6, [.int (nI 0), .int (nI 0), .ref nk1, .ref nk2, .ref nk3])), (nk1, .inl (k 0, 3, .inl n1)), (nk2, .inl (k 0, 21, .inl n2)), (nk3, .inl (k 0, 21, .inl n3))] H := hP
              have hD : va_D A [(r5, .inl (k 0, 100, .inl (upd lg dd mo))), (r6, .inl (k 1, 200, .inr (.inl ab9))), (ta, .inl (k 0, 100, .inl (cI al))), (h, .inr (5, [.ref r0, .ref r1, .ref t0, .ref nk, .ref r4, .ref r5, .ref r6, .ref r7, .ref r8, .ref r9])), (r4, .inl (k 0, 7, .inl be)), (r7, .inl (k 1, 128, .inr (.inl M7))), (r8, .inl (k 1, 128, .inr (.inl M8))), (r9, .inl (k 0, 49, .inl o8)), (t0, .inr (8, [.ref t, .ref tn, .ref tl, .ref tc, .ref ta])), (t, .inl (k 0, 4, .inl (cI q))), (tc, .inl (k 0, 700, .inl cf)), (nk, .inr (6, [.int (nI 0), .int (nI 0), .ref nk1, .ref nk2, .ref nk3])), (nk1, .inl (k 0, 3, .inl n1)), (nk2, .inl (k 0, 21, .inl n2)), (nk3, .inl (k 0, 21, .inl n3))] := hD
              refine lv_iload_n hx hb dX5_longestUpTo_139 rfl (lv_at hl 1 rfl) ?_
              obtain ⟨mm, emm, hmm⟩ := LX_m hCB hq1 hdd hpr.2.2.2.1 hpr.2.2.1 (by rw [← hi8]; exact hLX)
              have hP9 := hP.sub (ws' := [(h, .inr (5, [.ref r0, .ref r1, .ref t0, .ref nk, .ref r4, .ref r5, .ref r6, .ref r7, .ref r8, .ref r9])), (r4, .inl (k 0, 7, .inl be)), (r5, .inl (k 0, 100, .inl (upd lg dd mo))), (r6, .inl (k 1, 200, .inr (.inl ab9))), (r7, .inl (k 1, 128, .inr (.inl M7))), (r8, .inl (k 1, 128, .inr (.inl M8))), (r9, .inl (k 0, 49, .inl o8)), (t0, .inr (8, [.ref t, .ref tn, .ref tl, .ref tc, .ref ta])), (t, .inl (k 0, 4, .inl (cI q))), (tc, .inl (k 0, 700, .inl cf)), (ta, .inl (k 0, 100, .inl (cI al))), (nk, .inr (6, [.int 0, .int 0, .ref nk1, .ref nk2, .ref nk3])), (nk1, .inl (k 0, 3, .inl n1)), (nk2, .inl (k 0, 21, .inl n2)), (nk3, .inl (k 0, 21, .inl n3))]) [3, 4, 0, 1, 5, 6, 7, 8, 9, 10, 2, 11, 12, 13, 14] rfl
              have hD9 := hD.sub (ws' := [(h, .inr (5, [.ref r0, .ref r1, .ref t0, .ref nk, .ref r4, .ref r5, .ref r6, .ref r7, .ref r8, .ref r9])), (r4, .inl (k 0, 7, .inl be)), (r5, .inl (k 0, 100, .inl (upd lg dd mo))), (r6, .inl (k 1, 200, .inr (.inl ab9))), (r7, .inl (k 1, 128, .inr (.inl M7))), (r8, .inl (k 1, 128, .inr (.inl M8))), (r9, .inl (k 0, 49, .inl o8)), (t0, .inr (8, [.ref t, .ref tn, .ref tl, .ref tc, .ref ta])), (t, .inl (k 0, 4, .inl (cI q))), (tc, .inl (k 0, 700, .inl cf)), (ta, .inl (k 0, 100, .inl (cI al))), (nk, .inr (6, [.int 0, .int 0, .ref nk1, .ref nk2, .ref nk3])), (nk1, .inl (k 0, 3, .inl n1)), (nk2, .inl (k 0, 21, .inl n2)), (nk3, .inl (k 0, 21, .inl n3))]) [3, 4, 0, 1, 5, 6, 7, 8, 9, 10, 2, 11, 12, 13, 14] (by decide +kernel) rfl
              exact W.iret (v := mo) hx hb hr (fun t9 ht _ => ⟨⟨mo, (upd lg dd mo, ab9, M7, M8, o8), rfl, ⟨hpr.2.1, by rw [emm]; exact MEM_w hMM hmm (by rw [← hi8]; exact hAB) hpr.2.2.2.1 (ob_okE hCB hq1 hdd (by omega) hpr.2.2.1), fun d9 hd9 ed9 => by have e8 : d9 = d := (nI_eq (by omega) (by omega)).mp (ed9.symm.trans eD); rw [e8]; exact ⟨mm, emm, LN_k hAK hd (by rw [← edd]; exact hmm), by rw [← edd, pk_us]; exact fun q8 => nI_pos (n := mm) (by have := hmm.1; omega) (by rw [← emm, q8]; decide)⟩⟩, by rw [ht]; exact hP9, hD9⟩, hS.F ht⟩) hS.2.2 dX5_longestUpTo_140
            · skip
              refine lv_aload_n hx hb dX5_longestUpTo_69 rfl (lv_at hl 3 rfl) ?_
              refine va_get (D := D) (ci := 5) (v := .ref r7) (C := RX5) (T := TX5) (N := 10) hx hb hts hi5 hown hG.1 hP 3 rfl rfl 7 (by decide) (hts (.fieldLink RX5 35 "SleptMatters$Rows" "low" "[J") (List.mem_cons_of_mem _ (List.mem_append_left _ (List.mem_append_left _ (List.mem_append_left _ (List.mem_append_left _ (List.mem_of_getElem? (i := 7) rfl))))))) (fun _ h9 => h9) rfl dX5_longestUpTo_70 ?_
              refine lv_iload hx hb dX5_longestUpTo_73 (lv_at hl 0 rfl) ?_
              refine va_lald hx hb hG.1 hP 5 1 rfl rfl (vp_in_nI (by omega) (by omega)) dX5_longestUpTo_75 ?_
              refine tp_l (y := M7 i) (congrArg _ (nI_clamp (n := i) (by omega))) ?_
              refine lv_aload_n hx hb dX5_longestUpTo_76 rfl (lv_at hl 3 rfl) ?_
              refine va_get (D := D) (ci := 5) (v := .ref r8) (C := RX5) (T := TX5) (N := 10) hx hb hts hi5 hown hG.1 hP 3 rfl rfl 8 (by decide) (hts (.fieldLink RX5 38 "SleptMatters$Rows" "high" "[J") (List.mem_cons_of_mem _ (List.mem_append_left _ (List.mem_append_left _ (List.mem_append_left _ (List.mem_append_left _ (List.mem_of_getElem? (i := 8) rfl))))))) (fun _ h9 => h9) rfl dX5_longestUpTo_77 ?_
              refine lv_iload hx hb dX5_longestUpTo_80 (lv_at hl 0 rfl) ?_
              refine va_lald hx hb hG.1 hP 6 1 rfl rfl (vp_in_nI (by omega) (by omega)) dX5_longestUpTo_82 ?_
              refine tp_l (y := M8 i) (congrArg _ (nI_clamp (n := i) (by omega))) ?_
              refine lv_lor hx hb dX5_longestUpTo_83 ?_
              refine lv_lconst (v := 0) hx hb dX5_longestUpTo_84 (by decide) ?_
              refine W.lcmp hx hb dX5_longestUpTo_85 ?_
              refine lv_if_ne (x := lg_cmp ((M7 i) ||| (M8 i)) 0) (tgt := 92) hx hb dX5_longestUpTo_86 (by decide) (fun c8 => ?_) (fun c8 => ?_)
              · skip
                have k86 := c8
                have hbc := bc_n i (by omega)
                refine lv_iload_n hx hb dX5_longestUpTo_92 rfl (lv_at hl 1 rfl) ?_
                refine lv_iload hx hb dX5_longestUpTo_93 (lv_at hl 0 rfl) ?_
                have hPc := hP.sub (ws' := (c_J6_bitCount k (nI i))) [] rfl
                refine vp_callSi (va_Run.run (va_runS (As := [.int (nI i)]) (rest := [.int mo]) ⟨hx, hb, hml, hown, hts⟩ (J6_bitCount l D k (nI i) ) (va_cwS 1 hts gX5_longestUpTo_J6_bitCount_0f7a4 rfl rfl rfl (by decide +kernel) ⟨Nat.le_of_ble_eq_true rfl, Nat.le_of_ble_eq_true rfl⟩) ⟨PS.blind _ _ _ _, PS.pre hPc hG [.int (nI i)]⟩ rfl rfl hl.1 rfl (lv_room (Nat.le_of_ble_eq_true rfl)) dX5_longestUpTo_95 ⟨Nat.le_of_ble_eq_true rfl, Nat.le_of_ble_eq_true rfl⟩)) (fun r hq => ?_)
                generalize r = y9 at hq ⊢
                have hq : y9 = bcA (nI i) := hq
                refine tp_i (y := nI (bcn i)) (hq.trans hbc.1) ?_
                refine va_mmax hx hb (hml.trans hl.1.symm) hown (hts (.methodLink RX5 86 Lib.Math.max.name) (List.mem_cons_of_mem _ (List.mem_append_left _ (List.mem_append_left _ (List.mem_append_left _ (List.mem_append_left _ (List.mem_of_getElem? (i := 9) rfl))))))) (hts (.static Lib.Math.max.name) (List.mem_cons_of_mem _ (List.mem_append_left _ (List.mem_append_left _ (List.mem_append_left _ (List.mem_append_left _ (List.mem_of_getElem? (i := 10) rfl))))))) (hts (.initialized "java/lang/Math") (List.mem_cons_of_mem _ (List.mem_append_left _ (List.mem_append_left _ (List.mem_append_left _ (List.mem_append_left _ (List.mem_of_getElem? (i := 4) rfl))))))) (hts (.code Lib.Math.max.name Lib.Math.max.code 2 (some .int)) (List.mem_cons_of_mem _ (List.mem_append_left _ (List.mem_append_left _ (List.mem_append_left _ (List.mem_append_left _ (List.mem_of_getElem? (i := 11) rfl))))))) (Nat.le_of_ble_eq_true rfl) (Nat.le_of_ble_eq_true rfl) (Nat.le_of_ble_eq_true rfl) (Nat.le_of_ble_eq_true rfl) dX5_longestUpTo_98 ?_
                refine tp_i (y := mx mo (nI (bcn i))) rfl ?_
                refine lv_istore_n (lv' := [(3, .int (mx mo (nI (bcn i)))), (4, .int (nI i)), (2, .int (nI dd)), (0, .ref h), (1, .int (nI d))]) hx hb dX5_longestUpTo_101 rfl hl (by decide) rfl (fun ls hl => ?_)
                refine lv_aload_n hx hb dX5_longestUpTo_102 rfl (lv_at hl 3 rfl) ?_
                refine va_get (D := D) (ci := 5) (v := .ref r6) (C := RX5) (T := TX5) (N := 10) hx hb hts hi5 hown hG.1 hP 3 rfl rfl 6 (by decide) (hts (.fieldLink RX5 31 "SleptMatters$Rows" "able" "[J") (List.mem_cons_of_mem _ (List.mem_append_left _ (List.mem_append_left _ (List.mem_append_left _ (List.mem_append_left _ (List.mem_of_getElem? (i := 12) rfl))))))) (fun _ h9 => h9) rfl dX5_longestUpTo_103 ?_
                refine lv_iload_n hx hb dX5_longestUpTo_106 rfl (lv_at hl 2 rfl) ?_
                refine lv_iconst (v := 2) hx hb dX5_longestUpTo_107 (by decide) ?_
                refine lv_imul hx hb dX5_longestUpTo_108 ?_
                refine tp_i (y := nI (dd * 2)) (pk_mul dd 2) ?_
                refine lv_iload hx hb dX5_longestUpTo_109 (lv_at hl 1 rfl) ?_
                refine lv_bipush (v := 64) hx hb dX5_longestUpTo_111 (by decide) ?_
                refine lv_idiv hx hb dX5_longestUpTo_113 (by decide) ?_
                refine tp_i (y := nI (i / 64)) (pk_div (d := 64) (by omega) (by decide) (by decide)) ?_
                refine lv_iadd hx hb dX5_longestUpTo_114 ?_
                refine tp_i (y := nI (dd * 2 + i / 64)) (nI_add (dd * 2) (i / 64)) ?_
                refine lv_dup2_11 hx hb dX5_longestUpTo_115 rfl rfl ?_
                refine va_lald hx hb hG.1 hP 1 1 rfl rfl (vp_in_nI (by omega) (by omega)) dX5_longestUpTo_116 ?_
                refine tp_l (y := ab9 (dd * 2 + i / 64)) (congrArg _ (nI_clamp (n := dd * 2 + i / 64) (by omega))) ?_
                refine lv_lconst (v := 1) hx hb dX5_longestUpTo_117 (by decide) ?_
                refine lv_iload hx hb dX5_longestUpTo_118 (lv_at hl 1 rfl) ?_
                refine lv_bipush (v := 64) hx hb dX5_longestUpTo_120 (by decide) ?_
                refine lv_irem hx hb dX5_longestUpTo_122 (by decide) ?_
                refine tp_i (y := nI (i % 64)) (pk_rem (d := 64) (by omega) (by decide) (by decide)) ?_
                refine lv_lshl (v := 1 <<< ((nI (i % 64)).toInt64 &&& 63)) hx hb dX5_longestUpTo_123 rfl ?_
                refine lv_lor hx hb dX5_longestUpTo_124 ?_
                refine va_last hx hb hG.1 hP hD hS 1 1 rfl rfl (vp_in_nI (by omega) (by omega)) dX5_longestUpTo_125 (fun H locs hP hD hS => ?_)
                rw [nI_clamp (n := dd * 2 + i / 64) (by omega)] at hP hD
                have hP : va_P D vwCl [(r5, .inl (k 0, 100, .inl lg)), (r6, .inl (k 1, 200, .inr (.inl (vp_updL ab9 (dd * 2 + i / 64) ((ab9 (dd * 2 + i / 64)) ||| (1 <<< ((nI (i % 64)).toInt64 &&& 63))))))), (ta, .inl (k 0, 100, .inl (cI al))), (h, .inr (5, [.ref r0, .ref r1, .ref t0, .ref nk, .ref r4, .ref r5, .ref r6, .ref r7, .ref r8, .ref r9])), (r4, .inl (k 0, 7, .inl be)), (r7, .inl (k 1, 128, .inr (.inl M7))), (r8, .inl (k 1, 128, .inr (.inl M8))), (r9, .inl (k 0, 49, .inl o8)), (t0, .inr (8, [.ref t, .ref tn, .ref tl, .ref tc, .ref ta])), (t, .inl (k 0, 4, .inl (cI q))), (tc, .inl (k 0, 700, .inl cf)), (nk, .inr (6, [.int (nI 0), .int (nI 0), .ref nk1, .ref nk2, .ref nk3])), (nk1, .inl (k 0, 3, .inl n1)), (nk2, .inl (k 0, 21, .inl n2)), (nk3, .inl (k 0, 21, .inl n3))] H := hP
                have hD : va_D A [(r5, .inl (k 0, 100, .inl lg)), (r6, .inl (k 1, 200, .inr (.inl (vp_updL ab9 (dd * 2 + i / 64) ((ab9 (dd * 2 + i / 64)) ||| (1 <<< ((nI (i % 64)).toInt64 &&& 63))))))), (ta, .inl (k 0, 100, .inl (cI al))), (h, .inr (5, [.ref r0, .ref r1, .ref t0, .ref nk, .ref r4, .ref r5, .ref r6, .ref r7, .ref r8, .ref r9])), (r4, .inl (k 0, 7, .inl be)), (r7, .inl (k 1, 128, .inr (.inl M7))), (r8, .inl (k 1, 128, .inr (.inl M8))), (r9, .inl (k 0, 49, .inl o8)), (t0, .inr (8, [.ref t, .ref tn, .ref tl, .ref tc, .ref ta])), (t, .inl (k 0, 4, .inl (cI q))), (tc, .inl (k 0, 700, .inl cf)), (nk, .inr (6, [.int (nI 0), .int (nI 0), .ref nk1, .ref nk2, .ref nk3])), (nk1, .inl (k 0, 3, .inl n1)), (nk2, .inl (k 0, 21, .inl n2)), (nk3, .inl (k 0, 21, .inl n3))] := hD
                refine lv_iinc (v := nI (i + 1)) (lv' := [(4, .int (nI (i + 1))), (3, .int (mx mo (nI (bcn i)))), (2, .int (nI dd)), (0, .ref h), (1, .int (nI d))]) hx hb dX5_longestUpTo_126 hl (k := 1) rfl (nI_add i 1) (by decide) rfl (fun ls hl => ?_)
                refine lv_goto (tgt := 61) hx hb dX5_longestUpTo_129 (by decide) ?_
                exact ih (i + 1) (mx mo (nI (bcn i))) (vp_updL ab9 (dd * 2 + i / 64) ((ab9 (dd * 2 + i / 64)) ||| (1 <<< ((nI (i % 64)).toInt64 &&& 63)))) (by omega) (LX_s hLX (by omega) (so_cb (fun q8 => k86 ((lg_z _ _).mpr q8)))) (AB9_s hAB (by omega) (so_cb (fun q8 => k86 ((lg_z _ _).mpr q8)))) (by omega) _ _ (hP.sub [0, 1, 2, 3, 4, 5, 6, 7, 8, 9, 10, 11, 12, 13, 14] rfl) (hD.sub [0, 1, 2, 3, 4, 5, 6, 7, 8, 9, 10, 11, 12, 13, 14] (by decide +kernel) rfl) hS ls (lv_sub hl [0, 1, 2, 3, 4] rfl)
              · skip
                have k86 := c8
                refine lv_goto (tgt := 126) hx hb dX5_longestUpTo_89 (by decide) ?_
                refine lv_iinc (v := nI (i + 1)) (lv' := [(4, .int (nI (i + 1))), (3, .int mo), (2, .int (nI dd)), (0, .ref h), (1, .int (nI d))]) hx hb dX5_longestUpTo_126 hl (k := 0) rfl (nI_add i 1) (by decide) rfl (fun ls hl => ?_)
                refine lv_goto (tgt := 61) hx hb dX5_longestUpTo_129 (by decide) ?_
                exact ih (i + 1) mo ab9 (by omega) (LX_k hLX (fun x => no_cb ((lg_z _ _).mp k86) x)) (AB9_k hAB (fun x => no_cb ((lg_z _ _).mp k86) x)) (by omega) _ _ (hP.sub [0, 1, 2, 3, 4, 5, 6, 7, 8, 9, 10, 11, 12, 13, 14] rfl) (hD.sub [0, 1, 2, 3, 4, 5, 6, 7, 8, 9, 10, 11, 12, 13, 14] (by decide +kernel) rfl) hS ls (lv_sub hl [0, 1, 2, 3, 4] rfl)
        exact L6 _ 0 0 ab (Nat.zero_le _) (LX_0) (AB9_0 hz9.1 hz9.2) (Nat.lt_succ_self _) _ _ hP hD hS ls (lv_sub hl [0, 1, 2, 3, 4] rfl)
      · skip
        have hne : ¬ lg dd = -1 := c4
        obtain ⟨mm, emm, hmm, -⟩ := (hMM dd hdd).resolve_left (fun q8 => hne q8.1)
        refine lv_aload_n hx hb dX5_longestUpTo_31 rfl (lv_at hl 1 rfl) ?_
        refine va_get (D := D) (ci := 5) (v := .ref r5) (C := RX5) (T := TX5) (N := 10) hx hb hts hi5 hown hG.1 hP 0 rfl rfl 5 (by decide) (hts (.fieldLink RX5 28 "SleptMatters$Rows" "longest" "[I") (List.mem_cons_of_mem _ (List.mem_append_left _ (List.mem_append_left _ (List.mem_append_left _ (List.mem_append_left _ (List.mem_of_getElem? (i := 1) rfl))))))) (fun _ h9 => h9) rfl dX5_longestUpTo_32 ?_
        refine lv_iload_n hx hb dX5_longestUpTo_35 rfl (lv_at hl 0 rfl) ?_
        refine va_iald hx hb hG.1 hP 2 0 rfl rfl (vp_in_nI (by omega) (by omega)) dX5_longestUpTo_36 ?_
        refine tp_i (y := lg dd) (congrArg _ (nI_clamp (n := dd) (by omega))) ?_
        have hP9 := hP.sub (ws' := [(h, .inr (5, [.ref r0, .ref r1, .ref t0, .ref nk, .ref r4, .ref r5, .ref r6, .ref r7, .ref r8, .ref r9])), (r4, .inl (k 0, 7, .inl be)), (r5, .inl (k 0, 100, .inl lg)), (r6, .inl (k 1, 200, .inr (.inl ab))), (r7, .inl (k 1, 128, .inr (.inl L7))), (r8, .inl (k 1, 128, .inr (.inl L8))), (r9, .inl (k 0, 49, .inl o9)), (t0, .inr (8, [.ref t, .ref tn, .ref tl, .ref tc, .ref ta])), (t, .inl (k 0, 4, .inl (cI q))), (tc, .inl (k 0, 700, .inl cf)), (ta, .inl (k 0, 100, .inl (cI al))), (nk, .inr (6, [.int 0, .int 0, .ref nk1, .ref nk2, .ref nk3])), (nk1, .inl (k 0, 3, .inl n1)), (nk2, .inl (k 0, 21, .inl n2)), (nk3, .inl (k 0, 21, .inl n3))]) [0, 1, 2, 3, 4, 5, 6, 7, 8, 9, 10, 11, 12, 13, 14] rfl
        have hD9 := hD.sub (ws' := [(h, .inr (5, [.ref r0, .ref r1, .ref t0, .ref nk, .ref r4, .ref r5, .ref r6, .ref r7, .ref r8, .ref r9])), (r4, .inl (k 0, 7, .inl be)), (r5, .inl (k 0, 100, .inl lg)), (r6, .inl (k 1, 200, .inr (.inl ab))), (r7, .inl (k 1, 128, .inr (.inl L7))), (r8, .inl (k 1, 128, .inr (.inl L8))), (r9, .inl (k 0, 49, .inl o9)), (t0, .inr (8, [.ref t, .ref tn, .ref tl, .ref tc, .ref ta])), (t, .inl (k 0, 4, .inl (cI q))), (tc, .inl (k 0, 700, .inl cf)), (ta, .inl (k 0, 100, .inl (cI al))), (nk, .inr (6, [.int 0, .int 0, .ref nk1, .ref nk2, .ref nk3])), (nk1, .inl (k 0, 3, .inl n1)), (nk2, .inl (k 0, 21, .inl n2)), (nk3, .inl (k 0, 21, .inl n3))]) [0, 1, 2, 3, 4, 5, 6, 7, 8, 9, 10, 11, 12, 13, 14] (by decide +kernel) rfl
        exact W.iret (v := lg dd) hx hb hr (fun t9 ht _ => ⟨⟨lg dd, (lg, ab, L7, L8, o9), rfl, ⟨hOB, hMM, fun d9 hd9 ed9 => by have e8 : d9 = d := (nI_eq (by omega) (by omega)).mp (ed9.symm.trans eD); rw [e8]; exact ⟨mm, emm, LN_k hAK hd (by rw [← edd]; exact hmm), by rw [← edd]; exact hne⟩⟩, by rw [ht]; exact hP9, hD9⟩, hS.F ht⟩) hS.2.2 dX5_longestUpTo_37
    · skip
      have hout : ¬ ((0 : Int32) ≤ ed ∧ ed < 100) := fun q8 => c2 q8.2
      refine lv_iconst (v := 0) hx hb dX5_longestUpTo_10 (by decide) ?_
      have hP9 := hP.sub (ws' := [(h, .inr (5, [.ref r0, .ref r1, .ref t0, .ref nk, .ref r4, .ref r5, .ref r6, .ref r7, .ref r8, .ref r9])), (r4, .inl (k 0, 7, .inl be)), (r5, .inl (k 0, 100, .inl lg)), (r6, .inl (k 1, 200, .inr (.inl ab))), (r7, .inl (k 1, 128, .inr (.inl L7))), (r8, .inl (k 1, 128, .inr (.inl L8))), (r9, .inl (k 0, 49, .inl o9)), (t0, .inr (8, [.ref t, .ref tn, .ref tl, .ref tc, .ref ta])), (t, .inl (k 0, 4, .inl (cI q))), (tc, .inl (k 0, 700, .inl cf)), (ta, .inl (k 0, 100, .inl (cI al))), (nk, .inr (6, [.int 0, .int 0, .ref nk1, .ref nk2, .ref nk3])), (nk1, .inl (k 0, 3, .inl n1)), (nk2, .inl (k 0, 21, .inl n2)), (nk3, .inl (k 0, 21, .inl n3))]) [0, 1, 2, 3, 4, 5, 6, 7, 8, 9, 10, 11, 12, 13, 14] rfl
      have hD9 := hD.sub (ws' := [(h, .inr (5, [.ref r0, .ref r1, .ref t0, .ref nk, .ref r4, .ref r5, .ref r6, .ref r7, .ref r8, .ref r9])), (r4, .inl (k 0, 7, .inl be)), (r5, .inl (k 0, 100, .inl lg)), (r6, .inl (k 1, 200, .inr (.inl ab))), (r7, .inl (k 1, 128, .inr (.inl L7))), (r8, .inl (k 1, 128, .inr (.inl L8))), (r9, .inl (k 0, 49, .inl o9)), (t0, .inr (8, [.ref t, .ref tn, .ref tl, .ref tc, .ref ta])), (t, .inl (k 0, 4, .inl (cI q))), (tc, .inl (k 0, 700, .inl cf)), (ta, .inl (k 0, 100, .inl (cI al))), (nk, .inr (6, [.int 0, .int 0, .ref nk1, .ref nk2, .ref nk3])), (nk1, .inl (k 0, 3, .inl n1)), (nk2, .inl (k 0, 21, .inl n2)), (nk3, .inl (k 0, 21, .inl n3))]) [0, 1, 2, 3, 4, 5, 6, 7, 8, 9, 10, 11, 12, 13, 14] (by decide +kernel) rfl
      exact W.iret (v := 0) hx hb hr (fun t9 ht _ => ⟨⟨0, (lg, ab, L7, L8, o9), rfl, ⟨hOB, hMM, fun d hd ed9 => absurd (show (0 : Int32) ≤ ed ∧ ed < 100 by rw [ed9]; exact ⟨nI_pos' (by omega), nI_lt (b := 100) hd (by decide)⟩) hout⟩, by rw [ht]; exact hP9, hD9⟩, hS.F ht⟩) hS.2.2 dX5_longestUpTo_11

abbrev c_X5_soonestEnd (k : Nat → ClassId) (z : Nat → Nat) (h : Nat) (r0 : Nat) (r1 : Nat) (t0 : Nat) (nk : Nat) (r4 : Nat) (r5 : Nat) (r6 : Nat) (r7 : Nat) (r8 : Nat) (r9 : Nat) (t : Nat) (tn : Nat) (tl : Nat) (tc : Nat) (ta : Nat) (q : Nat → Nat) (cf : Nat → Int32) (al : Nat → Nat) (nk1 : Nat) (nk2 : Nat) (nk3 : Nat) (n1 : Nat → Int32) (n2 : Nat → Int32) (n3 : Nat → Int32) (be : Nat → Int32) (lg : Nat → Int32) (ab : Nat → Int64) (L7 : Nat → Int64) (L8 : Nat → Int64) (o9 : Nat → Int32) (fi : Nat) (nn : Nat) (un : Nat) : va_W := [(h, .inr (5, [.ref r0, .ref r1, .ref t0, .ref nk, .ref r4, .ref r5, .ref r6, .ref r7, .ref r8, .ref r9])), (r4, .inl (k 0, 7, .inl be)), (r5, .inl (k 0, 100, .inl lg)), (r6, .inl (k 1, 200, .inr (.inl ab))), (r7, .inl (k 1, 128, .inr (.inl L7))), (r8, .inl (k 1, 128, .inr (.inl L8))), (r9, .inl (k 0, 49, .inl o9)), (t0, .inr (8, [.ref t, .ref tn, .ref tl, .ref tc, .ref ta])), (t, .inl (k 0, 4, .inl (cI q))), (tc, .inl (k 0, 700, .inl cf)), (ta, .inl (k 0, 100, .inl (cI al))), (nk, .inr (6, [.int 0, .int 0, .ref nk1, .ref nk2, .ref nk3])), (nk1, .inl (k 0, 3, .inl n1)), (nk2, .inl (k 0, 21, .inl n2)), (nk3, .inl (k 0, 21, .inl n3))]
abbrev r_X5_soonestEnd : Room := { frames := 4, cells := 0, slots := 0, locals := 102 }
def w_X5_soonestEnd (k : Nat → ClassId) (z : Nat → Nat) (h : Nat) (r0 : Nat) (r1 : Nat) (t0 : Nat) (nk : Nat) (r4 : Nat) (r5 : Nat) (r6 : Nat) (r7 : Nat) (r8 : Nat) (r9 : Nat) (t : Nat) (tn : Nat) (tl : Nat) (tc : Nat) (ta : Nat) (q : Nat → Nat) (cf : Nat → Int32) (al : Nat → Nat) (nk1 : Nat) (nk2 : Nat) (nk3 : Nat) (n1 : Nat → Int32) (n2 : Nat → Int32) (n3 : Nat → Int32) (be : Nat → Int32) (lg : Nat → Int32) (ab : Nat → Int64) (L7 : Nat → Int64) (L8 : Nat → Int64) (o9 : Nat → Int32) (fi : Nat) (nn : Nat) (un : Nat) : (Nat → Int32) × (Nat → Int64) × (Nat → Int64) × (Nat → Int64) × (Nat → Int32) → va_W := fun u => match u with | (lg9, ab9, M7, M8, o8) => [(h, .inr (5, [.ref r0, .ref r1, .ref t0, .ref nk, .ref r4, .ref r5, .ref r6, .ref r7, .ref r8, .ref r9])), (r4, .inl (k 0, 7, .inl be)), (r5, .inl (k 0, 100, .inl lg9)), (r6, .inl (k 1, 200, .inr (.inl ab9))), (r7, .inl (k 1, 128, .inr (.inl M7))), (r8, .inl (k 1, 128, .inr (.inl M8))), (r9, .inl (k 0, 49, .inl o8)), (t0, .inr (8, [.ref t, .ref tn, .ref tl, .ref tc, .ref ta])), (t, .inl (k 0, 4, .inl (cI q))), (tc, .inl (k 0, 700, .inl cf)), (ta, .inl (k 0, 100, .inl (cI al))), (nk, .inr (6, [.int 0, .int 0, .ref nk1, .ref nk2, .ref nk3])), (nk1, .inl (k 0, 3, .inl n1)), (nk2, .inl (k 0, 21, .inl n2)), (nk3, .inl (k 0, 21, .inl n3))]
def p_X5_soonestEnd (k : Nat → ClassId) (z : Nat → Nat) (h : Nat) (r0 : Nat) (r1 : Nat) (t0 : Nat) (nk : Nat) (r4 : Nat) (r5 : Nat) (r6 : Nat) (r7 : Nat) (r8 : Nat) (r9 : Nat) (t : Nat) (tn : Nat) (tl : Nat) (tc : Nat) (ta : Nat) (q : Nat → Nat) (cf : Nat → Int32) (al : Nat → Nat) (nk1 : Nat) (nk2 : Nat) (nk3 : Nat) (n1 : Nat → Int32) (n2 : Nat → Int32) (n3 : Nat → Int32) (be : Nat → Int32) (lg : Nat → Int32) (ab : Nat → Int64) (L7 : Nat → Int64) (L8 : Nat → Int64) (o9 : Nat → Int32) (fi : Nat) (nn : Nat) (un : Nat) : Int32 → (Nat → Int32) × (Nat → Int64) × (Nat → Int64) × (Nat → Int64) × (Nat → Int32) → Prop := fun (r : Int32) (u : (Nat → Int32) × (Nat → Int64) × (Nat → Int64) × (Nat → Int64) × (Nat → Int32)) => match u with | (lg9, ab9, M7, M8, o8) => (OB o8 ∧ MEM (q 1) cf lg9 ab9 ∧ SE (q 1) cf fi nn un r)
abbrev q_X5_soonestEnd (D : va_G) (k : Nat → ClassId) (z : Nat → Nat) (h : Nat) (r0 : Nat) (r1 : Nat) (t0 : Nat) (nk : Nat) (r4 : Nat) (r5 : Nat) (r6 : Nat) (r7 : Nat) (r8 : Nat) (r9 : Nat) (t : Nat) (tn : Nat) (tl : Nat) (tc : Nat) (ta : Nat) (q : Nat → Nat) (cf : Nat → Int32) (al : Nat → Nat) (nk1 : Nat) (nk2 : Nat) (nk3 : Nat) (n1 : Nat → Int32) (n2 : Nat → Int32) (n3 : Nat → Int32) (be : Nat → Int32) (lg : Nat → Int32) (ab : Nat → Int64) (L7 : Nat → Int64) (L8 : Nat → Int64) (o9 : Nat → Int32) (fi : Nat) (nn : Nat) (un : Nat) (A : Nat → Prop) : Array Value → State → Outcome → State → Prop := va_Qi (p_X5_soonestEnd k z h r0 r1 t0 nk r4 r5 r6 r7 r8 r9 t tn tl tc ta q cf al nk1 nk2 nk3 n1 n2 n3 be lg ab L7 L8 o9 fi nn un) (fun u9 t9 => BO D (w_X5_soonestEnd k z h r0 r1 t0 nk r4 r5 r6 r7 r8 r9 t tn tl tc ta q cf al nk1 nk2 nk3 n1 n2 n3 be lg ab L7 L8 o9 fi nn un u9) A t9) A
set_option maxHeartbeats 2000000 in
set_option maxRecDepth 100000 in
theorem X5_soonestEnd (l : Launch) (D : va_G) (k : Nat → ClassId) (sz : Nat) (z : Nat → Nat) (h : Nat) (r0 : Nat) (r1 : Nat) (t0 : Nat) (nk : Nat) (r4 : Nat) (r5 : Nat) (r6 : Nat) (r7 : Nat) (r8 : Nat) (r9 : Nat) (t : Nat) (tn : Nat) (tl : Nat) (tc : Nat) (ta : Nat) (q : Nat → Nat) (cf : Nat → Int32) (al : Nat → Nat) (nk1 : Nat) (nk2 : Nat) (nk3 : Nat) (n1 : Nat → Int32) (n2 : Nat → Int32) (n3 : Nat → Int32) (be : Nat → Int32) (lg : Nat → Int32) (ab : Nat → Int64) (L7 : Nat → Int64) (L8 : Nat → Int64) (o9 : Nat → Int32) (fi : Nat) (nn : Nat) (un : Nat) (hq1 : q 1 ≤ 7) (hal : ∀ d, d < 100 → al d ≤ d + 1) (hOB : OB o9) (hCB : CFB (q 1) cf) (hAK : AK (q 1) cf al) (hMM : MEM (q 1) cf lg ab) (hfi : fi ≤ 100000) (hnn : 1 ≤ nn ∧ nn ≤ 7) (hun : un ≤ 99) : Met l yX5_soonestEnd wsX5_soonestEnd r_X5_soonestEnd (va_Pc [.ref h, .int (nI fi), .int (nI nn), .int (nI un)] (PT D k (c_X5_soonestEnd k z h r0 r1 t0 nk r4 r5 r6 r7 r8 r9 t tn tl tc ta q cf al nk1 nk2 nk3 n1 n2 n3 be lg ab L7 L8 o9 fi nn un) sz z)) (q_X5_soonestEnd D k z h r0 r1 t0 nk r4 r5 r6 r7 r8 r9 t tn tl tc ta q cf al nk1 nk2 nk3 n1 n2 n3 be lg ab L7 L8 o9 fi nn un (va_A (c_X5_soonestEnd k z h r0 r1 t0 nk r4 r5 r6 r7 r8 r9 t tn tl tc ta q cf al nk1 nk2 nk3 n1 n2 n3 be lg ab L7 L8 o9 fi nn un) sz)) 0 0 (va_A (c_X5_soonestEnd k z h r0 r1 t0 nk r4 r5 r6 r7 r8 r9 t tn tl tc ta q cf al nk1 nk2 nk3 n1 n2 n3 be lg ab L7 L8 o9 fi nn un) sz) := by
  refine Met.ofW (cc := cX5_soonestEnd) (maxL := 5) (ret := (some .int)) (by decide) rfl ?_
  intro p e s m args below meth c s₁ B hml hv
  obtain ⟨rfl, ⟨hsz, hP, hG, hD0⟩, hZ⟩ := hv
  have hx := B.exec
  have hb := B.bytes
  have hr := B.returns
  have hts := atoms_spec (ws := wsX5_soonestEnd) B.pre
  have hown : s.vm.findClass RX5 = some m.cls := findClass_of_methodNamed B.named
  have hlocks := B.notSynchronized
  have hi5 : ∀ w ∈ wsX50, w ∈ wsX5_soonestEnd := fun _ h => List.mem_cons_of_mem _ (List.mem_append_left _ (List.mem_append_left _ (List.mem_append_right _ h)))
  have hi8 : ∀ w ∈ wsX80, w ∈ wsX5_soonestEnd := fun _ h => List.mem_cons_of_mem _ (List.mem_append_left _ (List.mem_append_right _ h))
  have hi6 : ∀ w ∈ wsX60, w ∈ wsX5_soonestEnd := fun _ h => List.mem_cons_of_mem _ (List.mem_append_right _ h)
  subst hsz
  have hD := hD0.self (sz := s.heap.size)
  generalize hAe : va_A (c_X5_soonestEnd k z h r0 r1 t0 nk r4 r5 r6 r7 r8 r9 t tn tl tc ta q cf al nk1 nk2 nk3 n1 n2 n3 be lg ab L7 L8 o9 fi nn un) s.heap.size = A at hD hZ ⊢
  have hA : ∀ q : Nat, s.heap.size ≤ q → A q := fun q h => by rw [← hAe]; exact Or.inr h
  have hS : va_S A s.heap s.heap [] := va_S.rf
  have hP : va_P D vwCl [(h, .inr (5, [.ref r0, .ref r1, .ref t0, .ref nk, .ref r4, .ref r5, .ref r6, .ref r7, .ref r8, .ref r9])), (r4, .inl (k 0, 7, .inl be)), (r5, .inl (k 0, 100, .inl lg)), (r6, .inl (k 1, 200, .inr (.inl ab))), (r7, .inl (k 1, 128, .inr (.inl L7))), (r8, .inl (k 1, 128, .inr (.inl L8))), (r9, .inl (k 0, 49, .inl o9)), (t0, .inr (8, [.ref t, .ref tn, .ref tl, .ref tc, .ref ta])), (t, .inl (k 0, 4, .inl (cI q))), (tc, .inl (k 0, 700, .inl cf)), (ta, .inl (k 0, 100, .inl (cI al))), (nk, .inr (6, [.int 0, .int 0, .ref nk1, .ref nk2, .ref nk3])), (nk1, .inl (k 0, 3, .inl n1)), (nk2, .inl (k 0, 21, .inl n2)), (nk3, .inl (k 0, 21, .inl n3))] s.heap := hP
  have hD : va_D A [(h, .inr (5, [.ref r0, .ref r1, .ref t0, .ref nk, .ref r4, .ref r5, .ref r6, .ref r7, .ref r8, .ref r9])), (r4, .inl (k 0, 7, .inl be)), (r5, .inl (k 0, 100, .inl lg)), (r6, .inl (k 1, 200, .inr (.inl ab))), (r7, .inl (k 1, 128, .inr (.inl L7))), (r8, .inl (k 1, 128, .inr (.inl L8))), (r9, .inl (k 0, 49, .inl o9)), (t0, .inr (8, [.ref t, .ref tn, .ref tl, .ref tc, .ref ta])), (t, .inl (k 0, 4, .inl (cI q))), (tc, .inl (k 0, 700, .inl cf)), (ta, .inl (k 0, 100, .inl (cI al))), (nk, .inr (6, [.int 0, .int 0, .ref nk1, .ref nk2, .ref nk3])), (nk1, .inl (k 0, 3, .inl n1)), (nk2, .inl (k 0, 21, .inl n2)), (nk3, .inl (k 0, 21, .inl n3))] := hD
  have hl := lv_entry ([.ref h, .int (nI fi), .int (nI nn), .int (nI un)]) (n := 5) (Nat.le_of_ble_eq_true rfl)
  rw [lg_entry_eq]
  generalize (lg_sl ([.ref h, .int (nI fi), .int (nI nn), .int (nI un)]) ++ List.replicate (5 - (lg_sl ([.ref h, .int (nI fi), .int (nI nn), .int (nI un)])).length) Slot.unset).toArray = ls at hl ⊢
  have hl : lv_has ls 5 [(0, .ref h), (1, .int (nI fi)), (2, .int (nI nn)), (3, .int (nI un))] := hl
  refine lv_iload_n hx hb dX5_soonestEnd_0 rfl (lv_at hl 1 rfl) ?_
  refine lv_iload_n hx hb dX5_soonestEnd_1 rfl (lv_at hl 2 rfl) ?_
  refine lv_iadd hx hb dX5_soonestEnd_2 ?_
  refine tp_i (y := nI (fi + nn)) (nI_add fi nn) ?_
  refine lv_iconst (v := 1) hx hb dX5_soonestEnd_3 (by decide) ?_
  refine lv_isub hx hb dX5_soonestEnd_4 ?_
  refine tp_i (y := nI (fi + nn - 1)) (pk_sub (b := 1) (by omega)) ?_
  refine lv_istore (lv' := [(4, .int (nI (fi + nn - 1))), (0, .ref h), (1, .int (nI fi)), (2, .int (nI nn)), (3, .int (nI un))]) hx hb dX5_soonestEnd_5 hl (by decide) rfl (fun ls hl => ?_)
  have L1 : ∀ (fu9 : Nat) (e9 : Nat) (lg9 : Nat → Int32) (ab9 : Nat → Int64) (M7 : Nat → Int64) (M8 : Nat → Int64) (o8 : Nat → Int32), (e9 ≤ fi + 200) → (fi + nn ≤ e9 + 1) → (OB o8) → (MEM (q 1) cf lg9 ab9) → (∀ g, fi + nn ≤ g + 1 → g < e9 → ¬ LE (q 1) cf g nn) → un + 1 - e9 < fu9 → ∀ (H : Heap) (locs : List Loc), va_P D vwCl [(h, .inr (5, [.ref r0, .ref r1, .ref t0, .ref nk, .ref r4, .ref r5, .ref r6, .ref r7, .ref r8, .ref r9])), (r4, .inl (k 0, 7, .inl be)), (r5, .inl (k 0, 100, .inl lg9)), (r6, .inl (k 1, 200, .inr (.inl ab9))), (r7, .inl (k 1, 128, .inr (.inl M7))), (r8, .inl (k 1, 128, .inr (.inl M8))), (r9, .inl (k 0, 49, .inl o8)), (t0, .inr (8, [.ref t, .ref tn, .ref tl, .ref tc, .ref ta])), (t, .inl (k 0, 4, .inl (cI q))), (tc, .inl (k 0, 700, .inl cf)), (ta, .inl (k 0, 100, .inl (cI al))), (nk, .inr (6, [.int 0, .int 0, .ref nk1, .ref nk2, .ref nk3])), (nk1, .inl (k 0, 3, .inl n1)), (nk2, .inl (k 0, 21, .inl n2)), (nk3, .inl (k 0, 21, .inl n3))] H → va_D A [(h, .inr (5, [.ref r0, .ref r1, .ref t0, .ref nk, .ref r4, .ref r5, .ref r6, .ref r7, .ref r8, .ref r9])), (r4, .inl (k 0, 7, .inl be)), (r5, .inl (k 0, 100, .inl lg9)), (r6, .inl (k 1, 200, .inr (.inl ab9))), (r7, .inl (k 1, 128, .inr (.inl M7))), (r8, .inl (k 1, 128, .inr (.inl M8))), (r9, .inl (k 0, 49, .inl o8)), (t0, .inr (8, [.ref t, .ref tn, .ref tl, .ref tc, .ref ta])), (t, .inl (k 0, 4, .inl (cI q))), (tc, .inl (k 0, 700, .inl cf)), (ta, .inl (k 0, 100, .inl (cI al))), (nk, .inr (6, [.int 0, .int 0, .ref nk1, .ref nk2, .ref nk3])), (nk1, .inl (k 0, 3, .inl n1)), (nk2, .inl (k 0, 21, .inl n2)), (nk3, .inl (k 0, 21, .inl n3))] → va_S A s.heap H locs → ∀ (ls : Array Slot), lv_has ls 5 [(4, .int (nI e9)), (0, .ref h), (1, .int (nI fi)), (2, .int (nI nn)), (3, .int (nI un))] → W p l e r_X5_soonestEnd s m ([.ref h, .int (nI fi), .int (nI nn), .int (nI un)] : List Value).toArray below meth c H locs 0 0 (MQ below (q_X5_soonestEnd D k z h r0 r1 t0 nk r4 r5 r6 r7 r8 r9 t tn tl tc ta q cf al nk1 nk2 nk3 n1 n2 n3 be lg ab L7 L8 o9 fi nn un A) ([.ref h, .int (nI fi), .int (nI nn), .int (nI un)] : List Value).toArray s 0 0 A) (F0 m 7 ls []) := by
    intro fu9
    induction fu9 with
    | zero => intro e9 lg9 ab9 M7 M8 o8 he9 he1 hOB9 hMM9 hns hmu; exact absurd hmu (Nat.not_lt_zero _)
    | succ fu9 ih =>
      intro e9 lg9 ab9 M7 M8 o8 he9 he1 hOB9 hMM9 hns hmu H locs hP hD hS ls hl
      refine lv_iload hx hb dX5_soonestEnd_7 (lv_at hl 0 rfl) ?_
      refine lv_iload_n hx hb dX5_soonestEnd_9 rfl (lv_at hl 4 rfl) ?_
      refine bn_gt (i := e9) (j := un) (tgt := 32) hx hb dX5_soonestEnd_10 (by decide) (by omega) (by omega) (fun c2 => ?_) (fun c2 => ?_)
      · skip
        refine lv_iconst (v := (-1)) hx hb dX5_soonestEnd_32 (by decide) ?_
        have hP9 := hP.sub (ws' := [(h, .inr (5, [.ref r0, .ref r1, .ref t0, .ref nk, .ref r4, .ref r5, .ref r6, .ref r7, .ref r8, .ref r9])), (r4, .inl (k 0, 7, .inl be)), (r5, .inl (k 0, 100, .inl lg9)), (r6, .inl (k 1, 200, .inr (.inl ab9))), (r7, .inl (k 1, 128, .inr (.inl M7))), (r8, .inl (k 1, 128, .inr (.inl M8))), (r9, .inl (k 0, 49, .inl o8)), (t0, .inr (8, [.ref t, .ref tn, .ref tl, .ref tc, .ref ta])), (t, .inl (k 0, 4, .inl (cI q))), (tc, .inl (k 0, 700, .inl cf)), (ta, .inl (k 0, 100, .inl (cI al))), (nk, .inr (6, [.int 0, .int 0, .ref nk1, .ref nk2, .ref nk3])), (nk1, .inl (k 0, 3, .inl n1)), (nk2, .inl (k 0, 21, .inl n2)), (nk3, .inl (k 0, 21, .inl n3))]) [0, 1, 2, 3, 4, 5, 6, 7, 8, 9, 10, 11, 12, 13, 14] rfl
        have hD9 := hD.sub (ws' := [(h, .inr (5, [.ref r0, .ref r1, .ref t0, .ref nk, .ref r4, .ref r5, .ref r6, .ref r7, .ref r8, .ref r9])), (r4, .inl (k 0, 7, .inl be)), (r5, .inl (k 0, 100, .inl lg9)), (r6, .inl (k 1, 200, .inr (.inl ab9))), (r7, .inl (k 1, 128, .inr (.inl M7))), (r8, .inl (k 1, 128, .inr (.inl M8))), (r9, .inl (k 0, 49, .inl o8)), (t0, .inr (8, [.ref t, .ref tn, .ref tl, .ref tc, .ref ta])), (t, .inl (k 0, 4, .inl (cI q))), (tc, .inl (k 0, 700, .inl cf)), (ta, .inl (k 0, 100, .inl (cI al))), (nk, .inr (6, [.int 0, .int 0, .ref nk1, .ref nk2, .ref nk3])), (nk1, .inl (k 0, 3, .inl n1)), (nk2, .inl (k 0, 21, .inl n2)), (nk3, .inl (k 0, 21, .inl n3))]) [0, 1, 2, 3, 4, 5, 6, 7, 8, 9, 10, 11, 12, 13, 14] (by decide +kernel) rfl
        exact W.iret (v := (-1)) hx hb hr (fun t9 ht _ => ⟨⟨(-1), (lg9, ab9, M7, M8, o8), rfl, ⟨hOB9, hMM9, Or.inl ⟨rfl, fun g h1 h2 => hns g h1 (by omega)⟩⟩, by rw [ht]; exact hP9, hD9⟩, hS.F ht⟩) hS.2.2 dX5_soonestEnd_33
      · skip
        refine lv_aload_n hx hb dX5_soonestEnd_13 rfl (lv_at hl 1 rfl) ?_
        refine lv_iload hx hb dX5_soonestEnd_14 (lv_at hl 0 rfl) ?_
        have hPc := hP.sub (ws' := (c_X5_longestUpTo k z h r0 r1 t0 nk r4 r5 r6 r7 r8 r9 t tn tl tc ta q cf al nk1 nk2 nk3 n1 n2 n3 be lg9 ab9 M7 M8 o8 (nI e9))) [0, 1, 2, 3, 4, 5, 6, 7, 8, 9, 10, 11, 12, 13, 14] rfl
        have hDc := hD.sub (ws' := (c_X5_longestUpTo k z h r0 r1 t0 nk r4 r5 r6 r7 r8 r9 t tn tl tc ta q cf al nk1 nk2 nk3 n1 n2 n3 be lg9 ab9 M7 M8 o8 (nI e9))) [0, 1, 2, 3, 4, 5, 6, 7, 8, 9, 10, 11, 12, 13, 14] (by decide +kernel) rfl
        refine cl_i (w1 := w_X5_longestUpTo k z h r0 r1 t0 nk r4 r5 r6 r7 r8 r9 t tn tl tc ta q cf al nk1 nk2 nk3 n1 n2 n3 be lg9 ab9 M7 M8 o8 (nI e9)) (wr := []) (va_runV (As := [.int (nI e9)]) (rest := []) ⟨hx, hb, hml, hown, hts⟩ (X5_longestUpTo l D k H.size z h r0 r1 t0 nk r4 r5 r6 r7 r8 r9 t tn tl tc ta q cf al nk1 nk2 nk3 n1 n2 n3 be lg9 ab9 M7 M8 o8 (nI e9) (hq1) (hal) (hOB9) (hCB) (hAK) (hMM9)) (cwV 1 hts gX5_soonestEnd_X5_longestUpTo rfl rfl rfl (by decide +kernel) ⟨Nat.le_of_ble_eq_true rfl, Nat.le_of_ble_eq_true rfl⟩) ⟨PT.blind _ _ _ _ _ _, va_recv hG.1 hP (ci := 5) (q0 := 0) rfl rfl, PT.pre hPc hDc hG hZ hS (va_free hD hS hA [0, 1, 2, 3, 4, 5, 6, 7, 8, 9, 10, 11, 12, 13, 14] rfl) [.ref h, .int (nI e9)]⟩ rfl rfl hl.1 rfl (lv_room (Nat.le_of_ble_eq_true rfl)) dX5_soonestEnd_16 ⟨Nat.le_of_ble_eq_true rfl, Nat.le_of_ble_eq_true rfl⟩) hP hD hS hA [0, 1, 2, 3, 4, 5, 6, 7, 8, 9, 10, 11, 12, 13, 14] [] rfl rfl (by decide +kernel) (by decide +kernel) (fun r u H locs hq hP hD hS => ?_)
        obtain ⟨lg8, ab8, N7, N8, o7⟩ := u
        generalize r = y3 at hq ⊢
        have hq : (OB o7 ∧ MEM (q 1) cf lg8 ab8 ∧ ∀ d : Nat, d < 100 → (nI e9) = nI d → ∃ mm : Nat, y3 = nI mm ∧ LNg (q 1) cf d mm ∧ ¬ lg8 (slk al d) = -1) := hq
        have hP : va_P D vwCl [(h, .inr (5, [.ref r0, .ref r1, .ref t0, .ref nk, .ref r4, .ref r5, .ref r6, .ref r7, .ref r8, .ref r9])), (r4, .inl (k 0, 7, .inl be)), (r5, .inl (k 0, 100, .inl lg8)), (r6, .inl (k 1, 200, .inr (.inl ab8))), (r7, .inl (k 1, 128, .inr (.inl N7))), (r8, .inl (k 1, 128, .inr (.inl N8))), (r9, .inl (k 0, 49, .inl o7)), (t0, .inr (8, [.ref t, .ref tn, .ref tl, .ref tc, .ref ta])), (t, .inl (k 0, 4, .inl (cI q))), (tc, .inl (k 0, 700, .inl cf)), (ta, .inl (k 0, 100, .inl (cI al))), (nk, .inr (6, [.int 0, .int 0, .ref nk1, .ref nk2, .ref nk3])), (nk1, .inl (k 0, 3, .inl n1)), (nk2, .inl (k 0, 21, .inl n2)), (nk3, .inl (k 0, 21, .inl n3))] H := hP
        have hD : va_D A [(h, .inr (5, [.ref r0, .ref r1, .ref t0, .ref nk, .ref r4, .ref r5, .ref r6, .ref r7, .ref r8, .ref r9])), (r4, .inl (k 0, 7, .inl be)), (r5, .inl (k 0, 100, .inl lg8)), (r6, .inl (k 1, 200, .inr (.inl ab8))), (r7, .inl (k 1, 128, .inr (.inl N7))), (r8, .inl (k 1, 128, .inr (.inl N8))), (r9, .inl (k 0, 49, .inl o7)), (t0, .inr (8, [.ref t, .ref tn, .ref tl, .ref tc, .ref ta])), (t, .inl (k 0, 4, .inl (cI q))), (tc, .inl (k 0, 700, .inl cf)), (ta, .inl (k 0, 100, .inl (cI al))), (nk, .inr (6, [.int 0, .int 0, .ref nk1, .ref nk2, .ref nk3])), (nk1, .inl (k 0, 3, .inl n1)), (nk2, .inl (k 0, 21, .inl n2)), (nk3, .inl (k 0, 21, .inl n3))] := hD
        have hOB8 := hq.1
        have hMM8 := hq.2.1
        obtain ⟨mm, emm, hmm, hne9⟩ := hq.2.2 e9 (by omega) rfl
        have hmm7 := hmm.1
        refine tp_i (y := nI mm) emm ?_
        refine lv_iload_n hx hb dX5_soonestEnd_19 rfl (lv_at hl 3 rfl) ?_
        refine bn_lt (i := mm) (j := nn) (tgt := 26) hx hb dX5_soonestEnd_20 (by decide) (by omega) (by omega) (fun c4 => ?_) (fun c4 => ?_)
        · skip
          have hno : ¬ LE (q 1) cf e9 nn := fun q8 => absurd ((hmm.2 nn hnn.1 hnn.2 (by omega)).mpr q8) (by omega)
          refine lv_iinc (v := nI (e9 + 1)) (lv' := [(4, .int (nI (e9 + 1))), (0, .ref h), (1, .int (nI fi)), (2, .int (nI nn)), (3, .int (nI un))]) hx hb dX5_soonestEnd_26 hl (k := 0) rfl (nI_add e9 1) (by decide) rfl (fun ls hl => ?_)
          refine lv_goto (tgt := 7) hx hb dX5_soonestEnd_29 (by decide) ?_
          exact ih (e9 + 1) lg8 ab8 N7 N8 o7 (by omega) (by omega) (hOB8) (hMM8) (fun g h1 h2 => by by_cases q8 : g = e9; rw [q8]; exact hno; exact hns g h1 (by omega)) (by omega) _ _ (hP.sub [0, 1, 2, 3, 4, 5, 6, 7, 8, 9, 10, 11, 12, 13, 14] rfl) (hD.sub [0, 1, 2, 3, 4, 5, 6, 7, 8, 9, 10, 11, 12, 13, 14] (by decide +kernel) rfl) hS ls (lv_sub hl [0, 1, 2, 3, 4] rfl)
        · skip
          have hyes : LE (q 1) cf e9 nn := (hmm.2 nn hnn.1 hnn.2 (by omega)).mp (by omega)
          refine lv_iload hx hb dX5_soonestEnd_23 (lv_at hl 0 rfl) ?_
          have hP9 := hP.sub (ws' := [(h, .inr (5, [.ref r0, .ref r1, .ref t0, .ref nk, .ref r4, .ref r5, .ref r6, .ref r7, .ref r8, .ref r9])), (r4, .inl (k 0, 7, .inl be)), (r5, .inl (k 0, 100, .inl lg8)), (r6, .inl (k 1, 200, .inr (.inl ab8))), (r7, .inl (k 1, 128, .inr (.inl N7))), (r8, .inl (k 1, 128, .inr (.inl N8))), (r9, .inl (k 0, 49, .inl o7)), (t0, .inr (8, [.ref t, .ref tn, .ref tl, .ref tc, .ref ta])), (t, .inl (k 0, 4, .inl (cI q))), (tc, .inl (k 0, 700, .inl cf)), (ta, .inl (k 0, 100, .inl (cI al))), (nk, .inr (6, [.int 0, .int 0, .ref nk1, .ref nk2, .ref nk3])), (nk1, .inl (k 0, 3, .inl n1)), (nk2, .inl (k 0, 21, .inl n2)), (nk3, .inl (k 0, 21, .inl n3))]) [0, 1, 2, 3, 4, 5, 6, 7, 8, 9, 10, 11, 12, 13, 14] rfl
          have hD9 := hD.sub (ws' := [(h, .inr (5, [.ref r0, .ref r1, .ref t0, .ref nk, .ref r4, .ref r5, .ref r6, .ref r7, .ref r8, .ref r9])), (r4, .inl (k 0, 7, .inl be)), (r5, .inl (k 0, 100, .inl lg8)), (r6, .inl (k 1, 200, .inr (.inl ab8))), (r7, .inl (k 1, 128, .inr (.inl N7))), (r8, .inl (k 1, 128, .inr (.inl N8))), (r9, .inl (k 0, 49, .inl o7)), (t0, .inr (8, [.ref t, .ref tn, .ref tl, .ref tc, .ref ta])), (t, .inl (k 0, 4, .inl (cI q))), (tc, .inl (k 0, 700, .inl cf)), (ta, .inl (k 0, 100, .inl (cI al))), (nk, .inr (6, [.int 0, .int 0, .ref nk1, .ref nk2, .ref nk3])), (nk1, .inl (k 0, 3, .inl n1)), (nk2, .inl (k 0, 21, .inl n2)), (nk3, .inl (k 0, 21, .inl n3))]) [0, 1, 2, 3, 4, 5, 6, 7, 8, 9, 10, 11, 12, 13, 14] (by decide +kernel) rfl
          exact W.iret (v := nI e9) hx hb hr (fun t9 ht _ => ⟨⟨nI e9, (lg8, ab8, N7, N8, o7), rfl, ⟨hOB8, hMM8, Or.inr ⟨e9, rfl, he1, by omega, hyes, hns⟩⟩, by rw [ht]; exact hP9, hD9⟩, hS.F ht⟩) hS.2.2 dX5_soonestEnd_25
  exact L1 _ (fi + nn - 1) lg ab L7 L8 o9 (by omega) (by omega) (hOB) (hMM) (fun g h1 h2 => by omega) (Nat.lt_succ_self _) _ _ hP hD hS ls (lv_sub hl [0, 1, 2, 3, 4] rfl)

abbrev c_X5_soonestEndOf (k : Nat → ClassId) (z : Nat → Nat) (h : Nat) (r0 : Nat) (r1 : Nat) (t0 : Nat) (nk : Nat) (r4 : Nat) (r5 : Nat) (r6 : Nat) (r7 : Nat) (r8 : Nat) (r9 : Nat) (t : Nat) (tn : Nat) (tl : Nat) (tc : Nat) (ta : Nat) (q : Nat → Nat) (cf : Nat → Int32) (al : Nat → Nat) (nk1 : Nat) (nk2 : Nat) (nk3 : Nat) (n1 : Nat → Int32) (n2 : Nat → Int32) (n3 : Nat → Int32) (be : Nat → Int32) (lg : Nat → Int32) (ab : Nat → Int64) (L7 : Nat → Int64) (L8 : Nat → Int64) (o9 : Nat → Int32) (se : Nat) (fi : Nat) (un : Nat) : va_W := [(h, .inr (5, [.ref r0, .ref r1, .ref t0, .ref nk, .ref r4, .ref r5, .ref r6, .ref r7, .ref r8, .ref r9])), (r4, .inl (k 0, 7, .inl be)), (r5, .inl (k 0, 100, .inl lg)), (r6, .inl (k 1, 200, .inr (.inl ab))), (r7, .inl (k 1, 128, .inr (.inl L7))), (r8, .inl (k 1, 128, .inr (.inl L8))), (r9, .inl (k 0, 49, .inl o9)), (t0, .inr (8, [.ref t, .ref tn, .ref tl, .ref tc, .ref ta])), (t, .inl (k 0, 4, .inl (cI q))), (tc, .inl (k 0, 700, .inl cf)), (ta, .inl (k 0, 100, .inl (cI al))), (nk, .inr (6, [.int 0, .int 0, .ref nk1, .ref nk2, .ref nk3])), (nk1, .inl (k 0, 3, .inl n1)), (nk2, .inl (k 0, 21, .inl n2)), (nk3, .inl (k 0, 21, .inl n3))]
abbrev r_X5_soonestEndOf : Room := { frames := 4, cells := 0, slots := 0, locals := 102 }
def w_X5_soonestEndOf (k : Nat → ClassId) (z : Nat → Nat) (h : Nat) (r0 : Nat) (r1 : Nat) (t0 : Nat) (nk : Nat) (r4 : Nat) (r5 : Nat) (r6 : Nat) (r7 : Nat) (r8 : Nat) (r9 : Nat) (t : Nat) (tn : Nat) (tl : Nat) (tc : Nat) (ta : Nat) (q : Nat → Nat) (cf : Nat → Int32) (al : Nat → Nat) (nk1 : Nat) (nk2 : Nat) (nk3 : Nat) (n1 : Nat → Int32) (n2 : Nat → Int32) (n3 : Nat → Int32) (be : Nat → Int32) (lg : Nat → Int32) (ab : Nat → Int64) (L7 : Nat → Int64) (L8 : Nat → Int64) (o9 : Nat → Int32) (se : Nat) (fi : Nat) (un : Nat) : (Nat → Int32) × (Nat → Int64) × (Nat → Int64) × (Nat → Int64) × (Nat → Int32) → va_W := fun u => match u with | (lg9, ab9, M7, M8, o8) => [(h, .inr (5, [.ref r0, .ref r1, .ref t0, .ref nk, .ref r4, .ref r5, .ref r6, .ref r7, .ref r8, .ref r9])), (r4, .inl (k 0, 7, .inl be)), (r5, .inl (k 0, 100, .inl lg9)), (r6, .inl (k 1, 200, .inr (.inl ab9))), (r7, .inl (k 1, 128, .inr (.inl M7))), (r8, .inl (k 1, 128, .inr (.inl M8))), (r9, .inl (k 0, 49, .inl o8)), (t0, .inr (8, [.ref t, .ref tn, .ref tl, .ref tc, .ref ta])), (t, .inl (k 0, 4, .inl (cI q))), (tc, .inl (k 0, 700, .inl cf)), (ta, .inl (k 0, 100, .inl (cI al))), (nk, .inr (6, [.int 0, .int 0, .ref nk1, .ref nk2, .ref nk3])), (nk1, .inl (k 0, 3, .inl n1)), (nk2, .inl (k 0, 21, .inl n2)), (nk3, .inl (k 0, 21, .inl n3))]
def p_X5_soonestEndOf (k : Nat → ClassId) (z : Nat → Nat) (h : Nat) (r0 : Nat) (r1 : Nat) (t0 : Nat) (nk : Nat) (r4 : Nat) (r5 : Nat) (r6 : Nat) (r7 : Nat) (r8 : Nat) (r9 : Nat) (t : Nat) (tn : Nat) (tl : Nat) (tc : Nat) (ta : Nat) (q : Nat → Nat) (cf : Nat → Int32) (al : Nat → Nat) (nk1 : Nat) (nk2 : Nat) (nk3 : Nat) (n1 : Nat → Int32) (n2 : Nat → Int32) (n3 : Nat → Int32) (be : Nat → Int32) (lg : Nat → Int32) (ab : Nat → Int64) (L7 : Nat → Int64) (L8 : Nat → Int64) (o9 : Nat → Int32) (se : Nat) (fi : Nat) (un : Nat) : Int32 → (Nat → Int32) × (Nat → Int64) × (Nat → Int64) × (Nat → Int64) × (Nat → Int32) → Prop := fun (r : Int32) (u : (Nat → Int32) × (Nat → Int64) × (Nat → Int64) × (Nat → Int64) × (Nat → Int32)) => match u with | (lg9, ab9, M7, M8, o8) => (OB o8 ∧ MEM (q 1) cf lg9 ab9 ∧ SEw (q 1) cf se fi un r)
abbrev q_X5_soonestEndOf (D : va_G) (k : Nat → ClassId) (z : Nat → Nat) (h : Nat) (r0 : Nat) (r1 : Nat) (t0 : Nat) (nk : Nat) (r4 : Nat) (r5 : Nat) (r6 : Nat) (r7 : Nat) (r8 : Nat) (r9 : Nat) (t : Nat) (tn : Nat) (tl : Nat) (tc : Nat) (ta : Nat) (q : Nat → Nat) (cf : Nat → Int32) (al : Nat → Nat) (nk1 : Nat) (nk2 : Nat) (nk3 : Nat) (n1 : Nat → Int32) (n2 : Nat → Int32) (n3 : Nat → Int32) (be : Nat → Int32) (lg : Nat → Int32) (ab : Nat → Int64) (L7 : Nat → Int64) (L8 : Nat → Int64) (o9 : Nat → Int32) (se : Nat) (fi : Nat) (un : Nat) (A : Nat → Prop) : Array Value → State → Outcome → State → Prop := va_Qi (p_X5_soonestEndOf k z h r0 r1 t0 nk r4 r5 r6 r7 r8 r9 t tn tl tc ta q cf al nk1 nk2 nk3 n1 n2 n3 be lg ab L7 L8 o9 se fi un) (fun u9 t9 => BO D (w_X5_soonestEndOf k z h r0 r1 t0 nk r4 r5 r6 r7 r8 r9 t tn tl tc ta q cf al nk1 nk2 nk3 n1 n2 n3 be lg ab L7 L8 o9 se fi un u9) A t9) A
set_option maxHeartbeats 2000000 in
set_option maxRecDepth 100000 in
theorem X5_soonestEndOf (l : Launch) (D : va_G) (k : Nat → ClassId) (sz : Nat) (z : Nat → Nat) (h : Nat) (r0 : Nat) (r1 : Nat) (t0 : Nat) (nk : Nat) (r4 : Nat) (r5 : Nat) (r6 : Nat) (r7 : Nat) (r8 : Nat) (r9 : Nat) (t : Nat) (tn : Nat) (tl : Nat) (tc : Nat) (ta : Nat) (q : Nat → Nat) (cf : Nat → Int32) (al : Nat → Nat) (nk1 : Nat) (nk2 : Nat) (nk3 : Nat) (n1 : Nat → Int32) (n2 : Nat → Int32) (n3 : Nat → Int32) (be : Nat → Int32) (lg : Nat → Int32) (ab : Nat → Int64) (L7 : Nat → Int64) (L8 : Nat → Int64) (o9 : Nat → Int32) (se : Nat) (fi : Nat) (un : Nat) (hq1 : q 1 ≤ 7) (hal : ∀ d, d < 100 → al d ≤ d + 1) (hOB : OB o9) (hCB : CFB (q 1) cf) (hAK : AK (q 1) cf al) (hMM : MEM (q 1) cf lg ab) (hse : se < 128) (hbs : 1 ≤ bcn se) (hfi : fi ≤ 100000) (hun : un ≤ 99) : Met l yX5_soonestEndOf wsX5_soonestEndOf r_X5_soonestEndOf (va_Pc [.ref h, .int (nI se), .int (nI fi), .int (nI un)] (PT D k (c_X5_soonestEndOf k z h r0 r1 t0 nk r4 r5 r6 r7 r8 r9 t tn tl tc ta q cf al nk1 nk2 nk3 n1 n2 n3 be lg ab L7 L8 o9 se fi un) sz z)) (q_X5_soonestEndOf D k z h r0 r1 t0 nk r4 r5 r6 r7 r8 r9 t tn tl tc ta q cf al nk1 nk2 nk3 n1 n2 n3 be lg ab L7 L8 o9 se fi un (va_A (c_X5_soonestEndOf k z h r0 r1 t0 nk r4 r5 r6 r7 r8 r9 t tn tl tc ta q cf al nk1 nk2 nk3 n1 n2 n3 be lg ab L7 L8 o9 se fi un) sz)) 0 0 (va_A (c_X5_soonestEndOf k z h r0 r1 t0 nk r4 r5 r6 r7 r8 r9 t tn tl tc ta q cf al nk1 nk2 nk3 n1 n2 n3 be lg ab L7 L8 o9 se fi un) sz) := by
  refine Met.ofW (cc := cX5_soonestEndOf) (maxL := 8) (ret := (some .int)) (by decide) rfl ?_
  intro p e s m args below meth c s₁ B hml hv
  obtain ⟨rfl, ⟨hsz, hP, hG, hD0⟩, hZ⟩ := hv
  have hx := B.exec
  have hb := B.bytes
  have hr := B.returns
  have hts := atoms_spec (ws := wsX5_soonestEndOf) B.pre
  have hown : s.vm.findClass RX5 = some m.cls := findClass_of_methodNamed B.named
  have hlocks := B.notSynchronized
  have hi5 : ∀ w ∈ wsX50, w ∈ wsX5_soonestEndOf := fun _ h => List.mem_cons_of_mem _ (List.mem_append_left _ (List.mem_append_left _ (List.mem_append_right _ h)))
  have hi8 : ∀ w ∈ wsX80, w ∈ wsX5_soonestEndOf := fun _ h => List.mem_cons_of_mem _ (List.mem_append_left _ (List.mem_append_right _ h))
  have hi6 : ∀ w ∈ wsX60, w ∈ wsX5_soonestEndOf := fun _ h => List.mem_cons_of_mem _ (List.mem_append_right _ h)
  subst hsz
  have hD := hD0.self (sz := s.heap.size)
  generalize hAe : va_A (c_X5_soonestEndOf k z h r0 r1 t0 nk r4 r5 r6 r7 r8 r9 t tn tl tc ta q cf al nk1 nk2 nk3 n1 n2 n3 be lg ab L7 L8 o9 se fi un) s.heap.size = A at hD hZ ⊢
  have hA : ∀ q : Nat, s.heap.size ≤ q → A q := fun q h => by rw [← hAe]; exact Or.inr h
  have hS : va_S A s.heap s.heap [] := va_S.rf
  have hP : va_P D vwCl [(h, .inr (5, [.ref r0, .ref r1, .ref t0, .ref nk, .ref r4, .ref r5, .ref r6, .ref r7, .ref r8, .ref r9])), (r4, .inl (k 0, 7, .inl be)), (r5, .inl (k 0, 100, .inl lg)), (r6, .inl (k 1, 200, .inr (.inl ab))), (r7, .inl (k 1, 128, .inr (.inl L7))), (r8, .inl (k 1, 128, .inr (.inl L8))), (r9, .inl (k 0, 49, .inl o9)), (t0, .inr (8, [.ref t, .ref tn, .ref tl, .ref tc, .ref ta])), (t, .inl (k 0, 4, .inl (cI q))), (tc, .inl (k 0, 700, .inl cf)), (ta, .inl (k 0, 100, .inl (cI al))), (nk, .inr (6, [.int 0, .int 0, .ref nk1, .ref nk2, .ref nk3])), (nk1, .inl (k 0, 3, .inl n1)), (nk2, .inl (k 0, 21, .inl n2)), (nk3, .inl (k 0, 21, .inl n3))] s.heap := hP
  have hD : va_D A [(h, .inr (5, [.ref r0, .ref r1, .ref t0, .ref nk, .ref r4, .ref r5, .ref r6, .ref r7, .ref r8, .ref r9])), (r4, .inl (k 0, 7, .inl be)), (r5, .inl (k 0, 100, .inl lg)), (r6, .inl (k 1, 200, .inr (.inl ab))), (r7, .inl (k 1, 128, .inr (.inl L7))), (r8, .inl (k 1, 128, .inr (.inl L8))), (r9, .inl (k 0, 49, .inl o9)), (t0, .inr (8, [.ref t, .ref tn, .ref tl, .ref tc, .ref ta])), (t, .inl (k 0, 4, .inl (cI q))), (tc, .inl (k 0, 700, .inl cf)), (ta, .inl (k 0, 100, .inl (cI al))), (nk, .inr (6, [.int 0, .int 0, .ref nk1, .ref nk2, .ref nk3])), (nk1, .inl (k 0, 3, .inl n1)), (nk2, .inl (k 0, 21, .inl n2)), (nk3, .inl (k 0, 21, .inl n3))] := hD
  have hl := lv_entry ([.ref h, .int (nI se), .int (nI fi), .int (nI un)]) (n := 8) (Nat.le_of_ble_eq_true rfl)
  rw [lg_entry_eq]
  generalize (lg_sl ([.ref h, .int (nI se), .int (nI fi), .int (nI un)]) ++ List.replicate (8 - (lg_sl ([.ref h, .int (nI se), .int (nI fi), .int (nI un)])).length) Slot.unset).toArray = ls at hl ⊢
  have hl : lv_has ls 8 [(0, .ref h), (1, .int (nI se)), (2, .int (nI fi)), (3, .int (nI un))] := hl
  have hbc := bc_n se hse
  refine lv_iload_n hx hb dX5_soonestEndOf_0 rfl (lv_at hl 1 rfl) ?_
  have hPc := hP.sub (ws' := (c_J6_bitCount k (nI se))) [] rfl
  refine vp_callSi (va_Run.run (va_runS (As := [.int (nI se)]) (rest := []) ⟨hx, hb, hml, hown, hts⟩ (J6_bitCount l D k (nI se) ) (va_cwS 1 hts gX5_soonestEndOf_J6_bitCount_0f7a4 rfl rfl rfl (by decide +kernel) ⟨Nat.le_of_ble_eq_true rfl, Nat.le_of_ble_eq_true rfl⟩) ⟨PS.blind _ _ _ _, PS.pre hPc hG [.int (nI se)]⟩ rfl rfl hl.1 rfl (lv_room (Nat.le_of_ble_eq_true rfl)) dX5_soonestEndOf_1 ⟨Nat.le_of_ble_eq_true rfl, Nat.le_of_ble_eq_true rfl⟩)) (fun r hq => ?_)
  generalize r = y1 at hq ⊢
  have hq : y1 = bcA (nI se) := hq
  refine tp_i (y := nI (bcn se)) (hq.trans hbc.1) ?_
  refine lv_istore (lv' := [(4, .int (nI (bcn se))), (0, .ref h), (1, .int (nI se)), (2, .int (nI fi)), (3, .int (nI un))]) hx hb dX5_soonestEndOf_4 hl (by decide) rfl (fun ls hl => ?_)
  refine lv_iload_n hx hb dX5_soonestEndOf_6 rfl (lv_at hl 3 rfl) ?_
  refine lv_iload hx hb dX5_soonestEndOf_7 (lv_at hl 0 rfl) ?_
  refine lv_iadd hx hb dX5_soonestEndOf_9 ?_
  refine tp_i (y := nI (fi + bcn se)) (nI_add fi (bcn se)) ?_
  refine lv_iconst (v := 1) hx hb dX5_soonestEndOf_10 (by decide) ?_
  refine lv_isub hx hb dX5_soonestEndOf_11 ?_
  refine tp_i (y := nI (fi + bcn se - 1)) (pk_sub (b := 1) (by omega)) ?_
  refine lv_istore (lv' := [(5, .int (nI (fi + bcn se - 1))), (4, .int (nI (bcn se))), (0, .ref h), (1, .int (nI se)), (2, .int (nI fi)), (3, .int (nI un))]) hx hb dX5_soonestEndOf_12 hl (by decide) rfl (fun ls hl => ?_)
  have L2 : ∀ (fu9 : Nat) (e9 : Nat) (lg9 : Nat → Int32) (ab9 : Nat → Int64) (M7 : Nat → Int64) (M8 : Nat → Int64) (o8 : Nat → Int32), (e9 ≤ fi + 200) → (fi + bcn se ≤ e9 + 1) → (OB o8) → (MEM (q 1) cf lg9 ab9) → (∀ g, fi + bcn se ≤ g + 1 → g < e9 → ¬ EBx (q 1) cf g se) → un + 1 - e9 < fu9 → ∀ (H : Heap) (locs : List Loc), va_P D vwCl [(h, .inr (5, [.ref r0, .ref r1, .ref t0, .ref nk, .ref r4, .ref r5, .ref r6, .ref r7, .ref r8, .ref r9])), (r4, .inl (k 0, 7, .inl be)), (r5, .inl (k 0, 100, .inl lg9)), (r6, .inl (k 1, 200, .inr (.inl ab9))), (r7, .inl (k 1, 128, .inr (.inl M7))), (r8, .inl (k 1, 128, .inr (.inl M8))), (r9, .inl (k 0, 49, .inl o8)), (t0, .inr (8, [.ref t, .ref tn, .ref tl, .ref tc, .ref ta])), (t, .inl (k 0, 4, .inl (cI q))), (tc, .inl (k 0, 700, .inl cf)), (ta, .inl (k 0, 100, .inl (cI al))), (nk, .inr (6, [.int 0, .int 0, .ref nk1, .ref nk2, .ref nk3])), (nk1, .inl (k 0, 3, .inl n1)), (nk2, .inl (k 0, 21, .inl n2)), (nk3, .inl (k 0, 21, .inl n3))] H → va_D A [(h, .inr (5, [.ref r0, .ref r1, .ref t0, .ref nk, .ref r4, .ref r5, .ref r6, .ref r7, .ref r8, .ref r9])), (r4, .inl (k 0, 7, .inl be)), (r5, .inl (k 0, 100, .inl lg9)), (r6, .inl (k 1, 200, .inr (.inl ab9))), (r7, .inl (k 1, 128, .inr (.inl M7))), (r8, .inl (k 1, 128, .inr (.inl M8))), (r9, .inl (k 0, 49, .inl o8)), (t0, .inr (8, [.ref t, .ref tn, .ref tl, .ref tc, .ref ta])), (t, .inl (k 0, 4, .inl (cI q))), (tc, .inl (k 0, 700, .inl cf)), (ta, .inl (k 0, 100, .inl (cI al))), (nk, .inr (6, [.int 0, .int 0, .ref nk1, .ref nk2, .ref nk3])), (nk1, .inl (k 0, 3, .inl n1)), (nk2, .inl (k 0, 21, .inl n2)), (nk3, .inl (k 0, 21, .inl n3))] → va_S A s.heap H locs → ∀ (ls : Array Slot), lv_has ls 8 [(5, .int (nI e9)), (4, .int (nI (bcn se))), (0, .ref h), (1, .int (nI se)), (2, .int (nI fi)), (3, .int (nI un))] → W p l e r_X5_soonestEndOf s m ([.ref h, .int (nI se), .int (nI fi), .int (nI un)] : List Value).toArray below meth c H locs 0 0 (MQ below (q_X5_soonestEndOf D k z h r0 r1 t0 nk r4 r5 r6 r7 r8 r9 t tn tl tc ta q cf al nk1 nk2 nk3 n1 n2 n3 be lg ab L7 L8 o9 se fi un A) ([.ref h, .int (nI se), .int (nI fi), .int (nI un)] : List Value).toArray s 0 0 A) (F0 m 14 ls []) := by
    intro fu9
    induction fu9 with
    | zero => intro e9 lg9 ab9 M7 M8 o8 he9 he1 hOB9 hMM9 hns hmu; exact absurd hmu (Nat.not_lt_zero _)
    | succ fu9 ih =>
      intro e9 lg9 ab9 M7 M8 o8 he9 he1 hOB9 hMM9 hns hmu H locs hP hD hS ls hl
      refine lv_iload hx hb dX5_soonestEndOf_14 (lv_at hl 0 rfl) ?_
      refine lv_iload_n hx hb dX5_soonestEndOf_16 rfl (lv_at hl 5 rfl) ?_
      refine bn_gt (i := e9) (j := un) (tgt := 80) hx hb dX5_soonestEndOf_17 (by decide) (by omega) (by omega) (fun c3 => ?_) (fun c3 => ?_)
      · skip
        refine lv_iconst (v := (-1)) hx hb dX5_soonestEndOf_80 (by decide) ?_
        have hP9 := hP.sub (ws' := [(h, .inr (5, [.ref r0, .ref r1, .ref t0, .ref nk, .ref r4, .ref r5, .ref r6, .ref r7, .ref r8, .ref r9])), (r4, .inl (k 0, 7, .inl be)), (r5, .inl (k 0, 100, .inl lg9)), (r6, .inl (k 1, 200, .inr (.inl ab9))), (r7, .inl (k 1, 128, .inr (.inl M7))), (r8, .inl (k 1, 128, .inr (.inl M8))), (r9, .inl (k 0, 49, .inl o8)), (t0, .inr (8, [.ref t, .ref tn, .ref tl, .ref tc, .ref ta])), (t, .inl (k 0, 4, .inl (cI q))), (tc, .inl (k 0, 700, .inl cf)), (ta, .inl (k 0, 100, .inl (cI al))), (nk, .inr (6, [.int 0, .int 0, .ref nk1, .ref nk2, .ref nk3])), (nk1, .inl (k 0, 3, .inl n1)), (nk2, .inl (k 0, 21, .inl n2)), (nk3, .inl (k 0, 21, .inl n3))]) [0, 1, 2, 3, 4, 5, 6, 7, 8, 9, 10, 11, 12, 13, 14] rfl
        have hD9 := hD.sub (ws' := [(h, .inr (5, [.ref r0, .ref r1, .ref t0, .ref nk, .ref r4, .ref r5, .ref r6, .ref r7, .ref r8, .ref r9])), (r4, .inl (k 0, 7, .inl be)), (r5, .inl (k 0, 100, .inl lg9)), (r6, .inl (k 1, 200, .inr (.inl ab9))), (r7, .inl (k 1, 128, .inr (.inl M7))), (r8, .inl (k 1, 128, .inr (.inl M8))), (r9, .inl (k 0, 49, .inl o8)), (t0, .inr (8, [.ref t, .ref tn, .ref tl, .ref tc, .ref ta])), (t, .inl (k 0, 4, .inl (cI q))), (tc, .inl (k 0, 700, .inl cf)), (ta, .inl (k 0, 100, .inl (cI al))), (nk, .inr (6, [.int 0, .int 0, .ref nk1, .ref nk2, .ref nk3])), (nk1, .inl (k 0, 3, .inl n1)), (nk2, .inl (k 0, 21, .inl n2)), (nk3, .inl (k 0, 21, .inl n3))]) [0, 1, 2, 3, 4, 5, 6, 7, 8, 9, 10, 11, 12, 13, 14] (by decide +kernel) rfl
        exact W.iret (v := (-1)) hx hb hr (fun t9 ht _ => ⟨⟨(-1), (lg9, ab9, M7, M8, o8), rfl, ⟨hOB9, hMM9, Or.inl ⟨rfl, fun g h1 h2 => hns g h1 (by omega)⟩⟩, by rw [ht]; exact hP9, hD9⟩, hS.F ht⟩) hS.2.2 dX5_soonestEndOf_81
      · skip
        refine lv_aload_n hx hb dX5_soonestEndOf_20 rfl (lv_at hl 2 rfl) ?_
        refine lv_iload hx hb dX5_soonestEndOf_21 (lv_at hl 0 rfl) ?_
        have hPc := hP.sub (ws' := (c_X5_longestUpTo k z h r0 r1 t0 nk r4 r5 r6 r7 r8 r9 t tn tl tc ta q cf al nk1 nk2 nk3 n1 n2 n3 be lg9 ab9 M7 M8 o8 (nI e9))) [0, 1, 2, 3, 4, 5, 6, 7, 8, 9, 10, 11, 12, 13, 14] rfl
        have hDc := hD.sub (ws' := (c_X5_longestUpTo k z h r0 r1 t0 nk r4 r5 r6 r7 r8 r9 t tn tl tc ta q cf al nk1 nk2 nk3 n1 n2 n3 be lg9 ab9 M7 M8 o8 (nI e9))) [0, 1, 2, 3, 4, 5, 6, 7, 8, 9, 10, 11, 12, 13, 14] (by decide +kernel) rfl
        refine cl_i (w1 := w_X5_longestUpTo k z h r0 r1 t0 nk r4 r5 r6 r7 r8 r9 t tn tl tc ta q cf al nk1 nk2 nk3 n1 n2 n3 be lg9 ab9 M7 M8 o8 (nI e9)) (wr := []) (va_runV (As := [.int (nI e9)]) (rest := []) ⟨hx, hb, hml, hown, hts⟩ (X5_longestUpTo l D k H.size z h r0 r1 t0 nk r4 r5 r6 r7 r8 r9 t tn tl tc ta q cf al nk1 nk2 nk3 n1 n2 n3 be lg9 ab9 M7 M8 o8 (nI e9) (hq1) (hal) (hOB9) (hCB) (hAK) (hMM9)) (cwV 1 hts gX5_soonestEndOf_X5_longestUpTo rfl rfl rfl (by decide +kernel) ⟨Nat.le_of_ble_eq_true rfl, Nat.le_of_ble_eq_true rfl⟩) ⟨PT.blind _ _ _ _ _ _, va_recv hG.1 hP (ci := 5) (q0 := 0) rfl rfl, PT.pre hPc hDc hG hZ hS (va_free hD hS hA [0, 1, 2, 3, 4, 5, 6, 7, 8, 9, 10, 11, 12, 13, 14] rfl) [.ref h, .int (nI e9)]⟩ rfl rfl hl.1 rfl (lv_room (Nat.le_of_ble_eq_true rfl)) dX5_soonestEndOf_23 ⟨Nat.le_of_ble_eq_true rfl, Nat.le_of_ble_eq_true rfl⟩) hP hD hS hA [0, 1, 2, 3, 4, 5, 6, 7, 8, 9, 10, 11, 12, 13, 14] [] rfl rfl (by decide +kernel) (by decide +kernel) (fun r u H locs hq hP hD hS => ?_)
        obtain ⟨lg8, ab8, N7, N8, o7⟩ := u
        generalize r = y4 at hq ⊢
        have hq : (OB o7 ∧ MEM (q 1) cf lg8 ab8 ∧ ∀ d : Nat, d < 100 → (nI e9) = nI d → ∃ mm : Nat, y4 = nI mm ∧ LNg (q 1) cf d mm ∧ ¬ lg8 (slk al d) = -1) := hq
        have hP : va_P D vwCl [(h, .inr (5, [.ref r0, .ref r1, .ref t0, .ref nk, .ref r4, .ref r5, .ref r6, .ref r7, .ref r8, .ref r9])), (r4, .inl (k 0, 7, .inl be)), (r5, .inl (k 0, 100, .inl lg8)), (r6, .inl (k 1, 200, .inr (.inl ab8))), (r7, .inl (k 1, 128, .inr (.inl N7))), (r8, .inl (k 1, 128, .inr (.inl N8))), (r9, .inl (k 0, 49, .inl o7)), (t0, .inr (8, [.ref t, .ref tn, .ref tl, .ref tc, .ref ta])), (t, .inl (k 0, 4, .inl (cI q))), (tc, .inl (k 0, 700, .inl cf)), (ta, .inl (k 0, 100, .inl (cI al))), (nk, .inr (6, [.int 0, .int 0, .ref nk1, .ref nk2, .ref nk3])), (nk1, .inl (k 0, 3, .inl n1)), (nk2, .inl (k 0, 21, .inl n2)), (nk3, .inl (k 0, 21, .inl n3))] H := hP
        have hD : va_D A [(h, .inr (5, [.ref r0, .ref r1, .ref t0, .ref nk, .ref r4, .ref r5, .ref r6, .ref r7, .ref r8, .ref r9])), (r4, .inl (k 0, 7, .inl be)), (r5, .inl (k 0, 100, .inl lg8)), (r6, .inl (k 1, 200, .inr (.inl ab8))), (r7, .inl (k 1, 128, .inr (.inl N7))), (r8, .inl (k 1, 128, .inr (.inl N8))), (r9, .inl (k 0, 49, .inl o7)), (t0, .inr (8, [.ref t, .ref tn, .ref tl, .ref tc, .ref ta])), (t, .inl (k 0, 4, .inl (cI q))), (tc, .inl (k 0, 700, .inl cf)), (ta, .inl (k 0, 100, .inl (cI al))), (nk, .inr (6, [.int 0, .int 0, .ref nk1, .ref nk2, .ref nk3])), (nk1, .inl (k 0, 3, .inl n1)), (nk2, .inl (k 0, 21, .inl n2)), (nk3, .inl (k 0, 21, .inl n3))] := hD
        have hOB8 := hq.1
        have hMM8 := hq.2.1
        obtain ⟨mm, emm, hmm, hne9⟩ := hq.2.2 e9 (by omega) rfl
        have hmm7 := hmm.1
        refine tp_i (y := nI mm) emm ?_
        refine lv_iload hx hb dX5_soonestEndOf_26 (lv_at hl 1 rfl) ?_
        refine bn_ge (i := mm) (j := bcn se) (tgt := 34) hx hb dX5_soonestEndOf_28 (by decide) (by omega) (by omega) (fun c5 => ?_) (fun c5 => ?_)
        · skip
          refine lv_aload_n hx hb dX5_soonestEndOf_34 rfl (lv_at hl 2 rfl) ?_
          refine va_get (D := D) (ci := 5) (v := .ref r6) (C := RX5) (T := TX5) (N := 10) hx hb hts hi5 hown hG.1 hP 0 rfl rfl 6 (by decide) (hts (.fieldLink RX5 31 "SleptMatters$Rows" "able" "[J") (List.mem_cons_of_mem _ (List.mem_append_left _ (List.mem_append_left _ (List.mem_append_left _ (List.mem_append_left _ (List.mem_of_getElem? (i := 0) rfl))))))) (fun _ h9 => h9) rfl dX5_soonestEndOf_35 ?_
          refine lv_aload_n hx hb dX5_soonestEndOf_38 rfl (lv_at hl 2 rfl) ?_
          refine va_get (D := D) (ci := 5) (v := .ref t0) (C := RX5) (T := TX5) (N := 10) hx hb hts hi5 hown hG.1 hP 0 rfl rfl 2 (by decide) (hts (.fieldLink RX5 44 "SleptMatters$Rows" "town" "LSleptMatters$Town;") (List.mem_cons_of_mem _ (List.mem_append_left _ (List.mem_append_left _ (List.mem_append_left _ (List.mem_append_left _ (List.mem_of_getElem? (i := 1) rfl))))))) (fun _ h9 => h9) rfl dX5_soonestEndOf_39 ?_
          refine lv_iload hx hb dX5_soonestEndOf_42 (lv_at hl 0 rfl) ?_
          have hPc := hP.sub (ws' := (c_X8_soonestLike k t0 t tn tl tc ta al e9)) [7, 10] rfl
          refine vp_callSi (va_Run.run (va_runV (As := [.int (nI e9)]) (rest := [.ref r6]) ⟨hx, hb, hml, hown, hts⟩ (X8_soonestLike l D k t0 t tn tl tc ta al e9 (by omega) (hal _ (by omega))) (cwV 1 hts gX5_soonestEndOf_X8_soonestLike rfl rfl rfl (by decide +kernel) ⟨Nat.le_of_ble_eq_true rfl, Nat.le_of_ble_eq_true rfl⟩) ⟨PS.blind _ _ _ _, va_recv hG.1 hP (ci := 8) (q0 := 7) rfl rfl, PS.pre hPc hG [.ref t0, .int (nI e9)]⟩ rfl rfl hl.1 rfl (lv_room (Nat.le_of_ble_eq_true rfl)) dX5_soonestEndOf_44 ⟨Nat.le_of_ble_eq_true rfl, Nat.le_of_ble_eq_true rfl⟩)) (fun r hq => ?_)
          generalize r = y6 at hq ⊢
          have hq : y6 = nI (slk al e9) := hq
          refine tp_i (y := nI (slk al e9)) (hq) ?_
          obtain ⟨dd, edd⟩ : ∃ z9 : Nat, z9 = slk al e9 := ⟨_, rfl⟩
          have hdd : dd < 100 := by rw [edd]; exact Nat.lt_of_le_of_lt slk_le (by omega)
          refine tp_i (y := nI dd) (congrArg nI edd.symm) ?_
          have hbit : ABt ab8 dd se = true ↔ EBx (q 1) cf e9 se := by rw [edd]; exact MEM_e hMM8 hAK (by omega) hne9 hse hbc.2 (by omega)
          refine lv_iconst (v := 2) hx hb dX5_soonestEndOf_47 (by decide) ?_
          refine lv_imul hx hb dX5_soonestEndOf_48 ?_
          refine tp_i (y := nI (dd * 2)) (pk_mul dd 2) ?_
          refine lv_iload_n hx hb dX5_soonestEndOf_49 rfl (lv_at hl 3 rfl) ?_
          refine lv_bipush (v := 64) hx hb dX5_soonestEndOf_50 (by decide) ?_
          refine lv_idiv hx hb dX5_soonestEndOf_52 (by decide) ?_
          refine tp_i (y := nI (se / 64)) (pk_div (d := 64) (by omega) (by decide) (by decide)) ?_
          refine lv_iadd hx hb dX5_soonestEndOf_53 ?_
          refine tp_i (y := nI (dd * 2 + se / 64)) (nI_add (dd * 2) (se / 64)) ?_
          refine va_lald hx hb hG.1 hP 3 1 rfl rfl (vp_in_nI (by omega) (by omega)) dX5_soonestEndOf_54 ?_
          refine tp_l (y := ab8 (dd * 2 + se / 64)) (congrArg _ (nI_clamp (n := dd * 2 + se / 64) (by omega))) ?_
          refine lv_lstore (lv' := [(6, .long (ab8 (dd * 2 + se / 64))), (5, .int (nI e9)), (4, .int (nI (bcn se))), (0, .ref h), (1, .int (nI se)), (2, .int (nI fi)), (3, .int (nI un))]) hx hb dX5_soonestEndOf_55 hl (by decide) rfl (fun ls hl => ?_)
          refine lv_lload hx hb dX5_soonestEndOf_57 (lv_at hl 0 rfl) ?_
          refine lv_iload_n hx hb dX5_soonestEndOf_59 rfl (lv_at hl 4 rfl) ?_
          refine lv_bipush (v := 64) hx hb dX5_soonestEndOf_60 (by decide) ?_
          refine lv_irem hx hb dX5_soonestEndOf_62 (by decide) ?_
          refine tp_i (y := nI (se % 64)) (pk_rem (d := 64) (by omega) (by decide) (by decide)) ?_
          refine lv_lushr (v := ((ab8 (dd * 2 + se / 64)).toUInt64 >>> ((nI (se % 64)).toInt64.toUInt64 &&& Int64.toUInt64 63)).toInt64) hx hb dX5_soonestEndOf_63 rfl ?_
          refine lv_lconst (v := 1) hx hb dX5_soonestEndOf_64 (by decide) ?_
          refine lv_land hx hb dX5_soonestEndOf_65 ?_
          refine lv_lconst (v := 0) hx hb dX5_soonestEndOf_66 (by decide) ?_
          refine W.lcmp hx hb dX5_soonestEndOf_67 ?_
          refine lv_if_eq (x := lg_cmp ((((ab8 (dd * 2 + se / 64)).toUInt64 >>> ((nI (se % 64)).toInt64.toUInt64 &&& Int64.toUInt64 63)).toInt64) &&& 1) 0) (tgt := 74) hx hb dX5_soonestEndOf_68 (by decide) (fun c7 => ?_) (fun c7 => ?_)
          · skip
            have hno : ¬ EBx (q 1) cf e9 se := fun q8 => (bt_us0 (by omega)).mp ((lg_z _ _).mp c7) (hbit.mpr q8)
            refine lv_iinc (v := nI (e9 + 1)) (lv' := [(5, .int (nI (e9 + 1))), (6, .long (ab8 (dd * 2 + se / 64))), (4, .int (nI (bcn se))), (0, .ref h), (1, .int (nI se)), (2, .int (nI fi)), (3, .int (nI un))]) hx hb dX5_soonestEndOf_74 hl (k := 1) rfl (nI_add e9 1) (by decide) rfl (fun ls hl => ?_)
            refine lv_goto (tgt := 14) hx hb dX5_soonestEndOf_77 (by decide) ?_
            exact ih (e9 + 1) lg8 ab8 N7 N8 o7 (by omega) (by omega) (hOB8) (hMM8) (fun g h1 h2 => by by_cases q8 : g = e9; rw [q8]; exact hno; exact hns g h1 (by omega)) (by omega) _ _ (hP.sub [0, 1, 2, 3, 4, 5, 6, 7, 8, 9, 10, 11, 12, 13, 14] rfl) (hD.sub [0, 1, 2, 3, 4, 5, 6, 7, 8, 9, 10, 11, 12, 13, 14] (by decide +kernel) rfl) hS ls (lv_sub hl [0, 2, 3, 4, 5, 6] rfl)
          · skip
            have hyes : EBx (q 1) cf e9 se := hbit.mp (Classical.byContradiction (fun q8 => c7 ((lg_z _ _).mpr ((bt_us0 (by omega)).mpr q8))))
            refine lv_iload hx hb dX5_soonestEndOf_71 (lv_at hl 1 rfl) ?_
            have hP9 := hP.sub (ws' := [(h, .inr (5, [.ref r0, .ref r1, .ref t0, .ref nk, .ref r4, .ref r5, .ref r6, .ref r7, .ref r8, .ref r9])), (r4, .inl (k 0, 7, .inl be)), (r5, .inl (k 0, 100, .inl lg8)), (r6, .inl (k 1, 200, .inr (.inl ab8))), (r7, .inl (k 1, 128, .inr (.inl N7))), (r8, .inl (k 1, 128, .inr (.inl N8))), (r9, .inl (k 0, 49, .inl o7)), (t0, .inr (8, [.ref t, .ref tn, .ref tl, .ref tc, .ref ta])), (t, .inl (k 0, 4, .inl (cI q))), (tc, .inl (k 0, 700, .inl cf)), (ta, .inl (k 0, 100, .inl (cI al))), (nk, .inr (6, [.int 0, .int 0, .ref nk1, .ref nk2, .ref nk3])), (nk1, .inl (k 0, 3, .inl n1)), (nk2, .inl (k 0, 21, .inl n2)), (nk3, .inl (k 0, 21, .inl n3))]) [0, 1, 2, 3, 4, 5, 6, 7, 8, 9, 10, 11, 12, 13, 14] rfl
            have hD9 := hD.sub (ws' := [(h, .inr (5, [.ref r0, .ref r1, .ref t0, .ref nk, .ref r4, .ref r5, .ref r6, .ref r7, .ref r8, .ref r9])), (r4, .inl (k 0, 7, .inl be)), (r5, .inl (k 0, 100, .inl lg8)), (r6, .inl (k 1, 200, .inr (.inl ab8))), (r7, .inl (k 1, 128, .inr (.inl N7))), (r8, .inl (k 1, 128, .inr (.inl N8))), (r9, .inl (k 0, 49, .inl o7)), (t0, .inr (8, [.ref t, .ref tn, .ref tl, .ref tc, .ref ta])), (t, .inl (k 0, 4, .inl (cI q))), (tc, .inl (k 0, 700, .inl cf)), (ta, .inl (k 0, 100, .inl (cI al))), (nk, .inr (6, [.int 0, .int 0, .ref nk1, .ref nk2, .ref nk3])), (nk1, .inl (k 0, 3, .inl n1)), (nk2, .inl (k 0, 21, .inl n2)), (nk3, .inl (k 0, 21, .inl n3))]) [0, 1, 2, 3, 4, 5, 6, 7, 8, 9, 10, 11, 12, 13, 14] (by decide +kernel) rfl
            exact W.iret (v := nI e9) hx hb hr (fun t9 ht _ => ⟨⟨nI e9, (lg8, ab8, N7, N8, o7), rfl, ⟨hOB8, hMM8, Or.inr ⟨e9, rfl, he1, by omega, hyes, hns⟩⟩, by rw [ht]; exact hP9, hD9⟩, hS.F ht⟩) hS.2.2 dX5_soonestEndOf_73
        · skip
          have hno : ¬ EBx (q 1) cf e9 se := fun q8 => absurd ((hmm.2 (bcn se) hbs hbc.2 (by omega)).mpr (EB_L q8)) (by omega)
          refine lv_goto (tgt := 74) hx hb dX5_soonestEndOf_31 (by decide) ?_
          refine lv_iinc (v := nI (e9 + 1)) (lv' := [(5, .int (nI (e9 + 1))), (4, .int (nI (bcn se))), (0, .ref h), (1, .int (nI se)), (2, .int (nI fi)), (3, .int (nI un))]) hx hb dX5_soonestEndOf_74 hl (k := 0) rfl (nI_add e9 1) (by decide) rfl (fun ls hl => ?_)
          refine lv_goto (tgt := 14) hx hb dX5_soonestEndOf_77 (by decide) ?_
          exact ih (e9 + 1) lg8 ab8 N7 N8 o7 (by omega) (by omega) (hOB8) (hMM8) (fun g h1 h2 => by by_cases q8 : g = e9; rw [q8]; exact hno; exact hns g h1 (by omega)) (by omega) _ _ (hP.sub [0, 1, 2, 3, 4, 5, 6, 7, 8, 9, 10, 11, 12, 13, 14] rfl) (hD.sub [0, 1, 2, 3, 4, 5, 6, 7, 8, 9, 10, 11, 12, 13, 14] (by decide +kernel) rfl) hS ls (lv_sub hl [0, 1, 2, 3, 4, 5] rfl)
  exact L2 _ (fi + bcn se - 1) lg ab L7 L8 o9 (by omega) (by omega) (hOB) (hMM) (fun g h1 h2 => by omega) (Nat.lt_succ_self _) _ _ hP hD hS ls (lv_sub hl [0, 1, 2, 3, 4, 5] rfl)

/-- the loud days, one behind the other -/
noncomputable def leB (q1 : Nat) (cf : Nat → Int32) (n e : Nat) : Bool := @decide (LE q1 cf e n) (Classical.propDecidable _)
theorem leB_t {q1 : Nat} {cf : Nat → Int32} {n e : Nat} : leB q1 cf n e = true ↔ LE q1 cf e n := ⟨fun h => @of_decide_eq_true _ (Classical.propDecidable _) h, fun h => @decide_eq_true _ (Classical.propDecidable _) h⟩
theorem leB_f {q1 : Nat} {cf : Nat → Int32} {n e : Nat} (h : ¬ LE q1 cf e n) : leB q1 cf n e = false := Bool.eq_false_iff.mpr (fun k => h (leB_t.mp k))
def ldZs (p : Nat → Bool) (nn e : Nat) (x : Nat × Nat) : Nat × Nat := if e + 1 < x.2 + nn ∨ p e = false then x else (x.1 + 1, e + 1)
def ldI (p : Nat → Bool) (fi nn : Nat) : Nat → Nat × Nat
  | 0 => (0, fi)
  | k + 1 => ldZs p nn (fi + nn - 1 + k) (ldI p fi nn k)
def ldH (p : Nat → Bool) (fi nn k : Nat) : Prop := ¬ (fi + nn - 1 + k + 1 < (ldI p fi nn k).2 + nn ∨ p (fi + nn - 1 + k) = false)
def LDA (p : Nat → Bool) (fi nn un : Nat) (ii r : Int32) : Prop := (∃ k, fi + nn - 1 + k ≤ un ∧ ldH p fi nn k ∧ ii = nI (ldI p fi nn k).1 ∧ r = nI (fi + nn - 1 + k)) ∨ ((∀ k, fi + nn - 1 + k ≤ un → ldH p fi nn k → ¬ ii = nI (ldI p fi nn k).1) ∧ ((ii = -1 ∧ 0 < (ldI p fi nn (un + 2 - fi - nn)).1 ∧ r = nI (ldI p fi nn (un + 2 - fi - nn)).1) ∨ (¬ (ii = -1 ∧ 0 < (ldI p fi nn (un + 2 - fi - nn)).1) ∧ r = -1)))
theorem ld_k {p : Nat → Bool} {fi nn k : Nat} {x : Nat × Nat} (h : ldI p fi nn k = x) (hs : fi + nn - 1 + k + 1 < x.2 + nn ∨ p (fi + nn - 1 + k) = false) : ldI p fi nn (k + 1) = x := by
  rw [ldI, h]; exact if_pos hs
theorem ld_s {p : Nat → Bool} {fi nn k : Nat} {x : Nat × Nat} (h : ldI p fi nn k = x) (hs : ¬ (fi + nn - 1 + k + 1 < x.2 + nn ∨ p (fi + nn - 1 + k) = false)) : ldI p fi nn (k + 1) = (x.1 + 1, fi + nn - 1 + k + 1) := by
  rw [ldI, h]; exact if_neg hs
theorem ld_lt {a b c : Nat} (ha : a < 2 ^ 30) (hb : b < 2 ^ 30) (hc : c < 2 ^ 30) : nI a - nI b < nI c - 1 ↔ a + 1 < c + b := by
  rw [show nI c - 1 = nI c - nI 1 from rfl, Int32.lt_iff_toInt_lt, pk_sub_toInt ha hb, pk_sub_toInt hc (by decide)]
  omega

abbrev c_X5_loudDay (k : Nat → ClassId) (z : Nat → Nat) (h : Nat) (r0 : Nat) (r1 : Nat) (t0 : Nat) (nk : Nat) (r4 : Nat) (r5 : Nat) (r6 : Nat) (r7 : Nat) (r8 : Nat) (r9 : Nat) (t : Nat) (tn : Nat) (tl : Nat) (tc : Nat) (ta : Nat) (q : Nat → Nat) (cf : Nat → Int32) (al : Nat → Nat) (nk1 : Nat) (nk2 : Nat) (nk3 : Nat) (n1 : Nat → Int32) (n2 : Nat → Int32) (n3 : Nat → Int32) (be : Nat → Int32) (lg : Nat → Int32) (ab : Nat → Int64) (L7 : Nat → Int64) (L8 : Nat → Int64) (o9 : Nat → Int32) (fi : Nat) (nn : Nat) (un : Nat) (ii : Int32) : va_W := [(h, .inr (5, [.ref r0, .ref r1, .ref t0, .ref nk, .ref r4, .ref r5, .ref r6, .ref r7, .ref r8, .ref r9])), (r4, .inl (k 0, 7, .inl be)), (r5, .inl (k 0, 100, .inl lg)), (r6, .inl (k 1, 200, .inr (.inl ab))), (r7, .inl (k 1, 128, .inr (.inl L7))), (r8, .inl (k 1, 128, .inr (.inl L8))), (r9, .inl (k 0, 49, .inl o9)), (t0, .inr (8, [.ref t, .ref tn, .ref tl, .ref tc, .ref ta])), (t, .inl (k 0, 4, .inl (cI q))), (tc, .inl (k 0, 700, .inl cf)), (ta, .inl (k 0, 100, .inl (cI al))), (nk, .inr (6, [.int 0, .int 0, .ref nk1, .ref nk2, .ref nk3])), (nk1, .inl (k 0, 3, .inl n1)), (nk2, .inl (k 0, 21, .inl n2)), (nk3, .inl (k 0, 21, .inl n3))]
abbrev r_X5_loudDay : Room := { frames := 4, cells := 0, slots := 0, locals := 102 }
def w_X5_loudDay (k : Nat → ClassId) (z : Nat → Nat) (h : Nat) (r0 : Nat) (r1 : Nat) (t0 : Nat) (nk : Nat) (r4 : Nat) (r5 : Nat) (r6 : Nat) (r7 : Nat) (r8 : Nat) (r9 : Nat) (t : Nat) (tn : Nat) (tl : Nat) (tc : Nat) (ta : Nat) (q : Nat → Nat) (cf : Nat → Int32) (al : Nat → Nat) (nk1 : Nat) (nk2 : Nat) (nk3 : Nat) (n1 : Nat → Int32) (n2 : Nat → Int32) (n3 : Nat → Int32) (be : Nat → Int32) (lg : Nat → Int32) (ab : Nat → Int64) (L7 : Nat → Int64) (L8 : Nat → Int64) (o9 : Nat → Int32) (fi : Nat) (nn : Nat) (un : Nat) (ii : Int32) : (Nat → Int32) × (Nat → Int64) × (Nat → Int64) × (Nat → Int64) × (Nat → Int32) → va_W := fun u => match u with | (lg9, ab9, M7, M8, o8) => [(h, .inr (5, [.ref r0, .ref r1, .ref t0, .ref nk, .ref r4, .ref r5, .ref r6, .ref r7, .ref r8, .ref r9])), (r4, .inl (k 0, 7, .inl be)), (r5, .inl (k 0, 100, .inl lg9)), (r6, .inl (k 1, 200, .inr (.inl ab9))), (r7, .inl (k 1, 128, .inr (.inl M7))), (r8, .inl (k 1, 128, .inr (.inl M8))), (r9, .inl (k 0, 49, .inl o8)), (t0, .inr (8, [.ref t, .ref tn, .ref tl, .ref tc, .ref ta])), (t, .inl (k 0, 4, .inl (cI q))), (tc, .inl (k 0, 700, .inl cf)), (ta, .inl (k 0, 100, .inl (cI al))), (nk, .inr (6, [.int 0, .int 0, .ref nk1, .ref nk2, .ref nk3])), (nk1, .inl (k 0, 3, .inl n1)), (nk2, .inl (k 0, 21, .inl n2)), (nk3, .inl (k 0, 21, .inl n3))]
def p_X5_loudDay (k : Nat → ClassId) (z : Nat → Nat) (h : Nat) (r0 : Nat) (r1 : Nat) (t0 : Nat) (nk : Nat) (r4 : Nat) (r5 : Nat) (r6 : Nat) (r7 : Nat) (r8 : Nat) (r9 : Nat) (t : Nat) (tn : Nat) (tl : Nat) (tc : Nat) (ta : Nat) (q : Nat → Nat) (cf : Nat → Int32) (al : Nat → Nat) (nk1 : Nat) (nk2 : Nat) (nk3 : Nat) (n1 : Nat → Int32) (n2 : Nat → Int32) (n3 : Nat → Int32) (be : Nat → Int32) (lg : Nat → Int32) (ab : Nat → Int64) (L7 : Nat → Int64) (L8 : Nat → Int64) (o9 : Nat → Int32) (fi : Nat) (nn : Nat) (un : Nat) (ii : Int32) : Int32 → (Nat → Int32) × (Nat → Int64) × (Nat → Int64) × (Nat → Int64) × (Nat → Int32) → Prop := fun (r : Int32) (u : (Nat → Int32) × (Nat → Int64) × (Nat → Int64) × (Nat → Int64) × (Nat → Int32)) => match u with | (lg9, ab9, M7, M8, o8) => (OB o8 ∧ MEM (q 1) cf lg9 ab9 ∧ LDA (leB (q 1) cf nn) fi nn un ii r)
abbrev q_X5_loudDay (D : va_G) (k : Nat → ClassId) (z : Nat → Nat) (h : Nat) (r0 : Nat) (r1 : Nat) (t0 : Nat) (nk : Nat) (r4 : Nat) (r5 : Nat) (r6 : Nat) (r7 : Nat) (r8 : Nat) (r9 : Nat) (t : Nat) (tn : Nat) (tl : Nat) (tc : Nat) (ta : Nat) (q : Nat → Nat) (cf : Nat → Int32) (al : Nat → Nat) (nk1 : Nat) (nk2 : Nat) (nk3 : Nat) (n1 : Nat → Int32) (n2 : Nat → Int32) (n3 : Nat → Int32) (be : Nat → Int32) (lg : Nat → Int32) (ab : Nat → Int64) (L7 : Nat → Int64) (L8 : Nat → Int64) (o9 : Nat → Int32) (fi : Nat) (nn : Nat) (un : Nat) (ii : Int32) (A : Nat → Prop) : Array Value → State → Outcome → State → Prop := va_Qi (p_X5_loudDay k z h r0 r1 t0 nk r4 r5 r6 r7 r8 r9 t tn tl tc ta q cf al nk1 nk2 nk3 n1 n2 n3 be lg ab L7 L8 o9 fi nn un ii) (fun u9 t9 => BO D (w_X5_loudDay k z h r0 r1 t0 nk r4 r5 r6 r7 r8 r9 t tn tl tc ta q cf al nk1 nk2 nk3 n1 n2 n3 be lg ab L7 L8 o9 fi nn un ii u9) A t9) A
set_option maxHeartbeats 2000000 in
set_option maxRecDepth 100000 in
theorem X5_loudDay (l : Launch) (D : va_G) (k : Nat → ClassId) (sz : Nat) (z : Nat → Nat) (h : Nat) (r0 : Nat) (r1 : Nat) (t0 : Nat) (nk : Nat) (r4 : Nat) (r5 : Nat) (r6 : Nat) (r7 : Nat) (r8 : Nat) (r9 : Nat) (t : Nat) (tn : Nat) (tl : Nat) (tc : Nat) (ta : Nat) (q : Nat → Nat) (cf : Nat → Int32) (al : Nat → Nat) (nk1 : Nat) (nk2 : Nat) (nk3 : Nat) (n1 : Nat → Int32) (n2 : Nat → Int32) (n3 : Nat → Int32) (be : Nat → Int32) (lg : Nat → Int32) (ab : Nat → Int64) (L7 : Nat → Int64) (L8 : Nat → Int64) (o9 : Nat → Int32) (fi : Nat) (nn : Nat) (un : Nat) (ii : Int32) (hq1 : q 1 ≤ 7) (hal : ∀ d, d < 100 → al d ≤ d + 1) (hOB : OB o9) (hCB : CFB (q 1) cf) (hAK : AK (q 1) cf al) (hMM : MEM (q 1) cf lg ab) (hfi : fi ≤ 100000) (hnn : 1 ≤ nn ∧ nn ≤ 7) (hun : un ≤ 99) : Met l yX5_loudDay wsX5_loudDay r_X5_loudDay (va_Pc [.ref h, .int (nI fi), .int (nI nn), .int (nI un), .int ii] (PT D k (c_X5_loudDay k z h r0 r1 t0 nk r4 r5 r6 r7 r8 r9 t tn tl tc ta q cf al nk1 nk2 nk3 n1 n2 n3 be lg ab L7 L8 o9 fi nn un ii) sz z)) (q_X5_loudDay D k z h r0 r1 t0 nk r4 r5 r6 r7 r8 r9 t tn tl tc ta q cf al nk1 nk2 nk3 n1 n2 n3 be lg ab L7 L8 o9 fi nn un ii (va_A (c_X5_loudDay k z h r0 r1 t0 nk r4 r5 r6 r7 r8 r9 t tn tl tc ta q cf al nk1 nk2 nk3 n1 n2 n3 be lg ab L7 L8 o9 fi nn un ii) sz)) 0 0 (va_A (c_X5_loudDay k z h r0 r1 t0 nk r4 r5 r6 r7 r8 r9 t tn tl tc ta q cf al nk1 nk2 nk3 n1 n2 n3 be lg ab L7 L8 o9 fi nn un ii) sz) := by
  refine Met.ofW (cc := cX5_loudDay) (maxL := 8) (ret := (some .int)) (by decide) rfl ?_
  intro p e s m args below meth c s₁ B hml hv
  obtain ⟨rfl, ⟨hsz, hP, hG, hD0⟩, hZ⟩ := hv
  have hx := B.exec
  have hb := B.bytes
  have hr := B.returns
  have hts := atoms_spec (ws := wsX5_loudDay) B.pre
  have hown : s.vm.findClass RX5 = some m.cls := findClass_of_methodNamed B.named
  have hlocks := B.notSynchronized
  have hi5 : ∀ w ∈ wsX50, w ∈ wsX5_loudDay := fun _ h => List.mem_cons_of_mem _ (List.mem_append_left _ (List.mem_append_left _ (List.mem_append_right _ h)))
  have hi8 : ∀ w ∈ wsX80, w ∈ wsX5_loudDay := fun _ h => List.mem_cons_of_mem _ (List.mem_append_left _ (List.mem_append_right _ h))
  have hi6 : ∀ w ∈ wsX60, w ∈ wsX5_loudDay := fun _ h => List.mem_cons_of_mem _ (List.mem_append_right _ h)
  subst hsz
  have hD := hD0.self (sz := s.heap.size)
  generalize hAe : va_A (c_X5_loudDay k z h r0 r1 t0 nk r4 r5 r6 r7 r8 r9 t tn tl tc ta q cf al nk1 nk2 nk3 n1 n2 n3 be lg ab L7 L8 o9 fi nn un ii) s.heap.size = A at hD hZ ⊢
  have hA : ∀ q : Nat, s.heap.size ≤ q → A q := fun q h => by rw [← hAe]; exact Or.inr h
  have hS : va_S A s.heap s.heap [] := va_S.rf
  have hP : va_P D vwCl [(h, .inr (5, [.ref r0, .ref r1, .ref t0, .ref nk, .ref r4, .ref r5, .ref r6, .ref r7, .ref r8, .ref r9])), (r4, .inl (k 0, 7, .inl be)), (r5, .inl (k 0, 100, .inl lg)), (r6, .inl (k 1, 200, .inr (.inl ab))), (r7, .inl (k 1, 128, .inr (.inl L7))), (r8, .inl (k 1, 128, .inr (.inl L8))), (r9, .inl (k 0, 49, .inl o9)), (t0, .inr (8, [.ref t, .ref tn, .ref tl, .ref tc, .ref ta])), (t, .inl (k 0, 4, .inl (cI q))), (tc, .inl (k 0, 700, .inl cf)), (ta, .inl (k 0, 100, .inl (cI al))), (nk, .inr (6, [.int 0, .int 0, .ref nk1, .ref nk2, .ref nk3])), (nk1, .inl (k 0, 3, .inl n1)), (nk2, .inl (k 0, 21, .inl n2)), (nk3, .inl (k 0, 21, .inl n3))] s.heap := hP
  have hD : va_D A [(h, .inr (5, [.ref r0, .ref r1, .ref t0, .ref nk, .ref r4, .ref r5, .ref r6, .ref r7, .ref r8, .ref r9])), (r4, .inl (k 0, 7, .inl be)), (r5, .inl (k 0, 100, .inl lg)), (r6, .inl (k 1, 200, .inr (.inl ab))), (r7, .inl (k 1, 128, .inr (.inl L7))), (r8, .inl (k 1, 128, .inr (.inl L8))), (r9, .inl (k 0, 49, .inl o9)), (t0, .inr (8, [.ref t, .ref tn, .ref tl, .ref tc, .ref ta])), (t, .inl (k 0, 4, .inl (cI q))), (tc, .inl (k 0, 700, .inl cf)), (ta, .inl (k 0, 100, .inl (cI al))), (nk, .inr (6, [.int 0, .int 0, .ref nk1, .ref nk2, .ref nk3])), (nk1, .inl (k 0, 3, .inl n1)), (nk2, .inl (k 0, 21, .inl n2)), (nk3, .inl (k 0, 21, .inl n3))] := hD
  have hl := lv_entry ([.ref h, .int (nI fi), .int (nI nn), .int (nI un), .int ii]) (n := 8) (Nat.le_of_ble_eq_true rfl)
  rw [lg_entry_eq]
  generalize (lg_sl ([.ref h, .int (nI fi), .int (nI nn), .int (nI un), .int ii]) ++ List.replicate (8 - (lg_sl ([.ref h, .int (nI fi), .int (nI nn), .int (nI un), .int ii])).length) Slot.unset).toArray = ls at hl ⊢
  have hl : lv_has ls 8 [(0, .ref h), (1, .int (nI fi)), (2, .int (nI nn)), (3, .int (nI un)), (4, .int ii)] := hl
  refine lv_iconst (v := 0) hx hb dX5_loudDay_0 (by decide) ?_
  refine lv_istore (lv' := [(5, .int 0), (0, .ref h), (1, .int (nI fi)), (2, .int (nI nn)), (3, .int (nI un)), (4, .int ii)]) hx hb dX5_loudDay_1 hl (by decide) rfl (fun ls hl => ?_)
  refine lv_iload_n hx hb dX5_loudDay_3 rfl (lv_at hl 2 rfl) ?_
  refine lv_iconst (v := 1) hx hb dX5_loudDay_4 (by decide) ?_
  refine lv_isub hx hb dX5_loudDay_5 ?_
  refine lv_istore (lv' := [(6, .int ((nI fi) - 1)), (5, .int 0), (0, .ref h), (1, .int (nI fi)), (2, .int (nI nn)), (3, .int (nI un)), (4, .int ii)]) hx hb dX5_loudDay_6 hl (by decide) rfl (fun ls hl => ?_)
  refine lv_iload_n hx hb dX5_loudDay_8 rfl (lv_at hl 3 rfl) ?_
  refine lv_iload_n hx hb dX5_loudDay_9 rfl (lv_at hl 4 rfl) ?_
  refine lv_iadd hx hb dX5_loudDay_10 ?_
  refine tp_i (y := nI (fi + nn)) (nI_add fi nn) ?_
  refine lv_iconst (v := 1) hx hb dX5_loudDay_11 (by decide) ?_
  refine lv_isub hx hb dX5_loudDay_12 ?_
  refine tp_i (y := nI (fi + nn - 1)) (pk_sub (b := 1) (by omega)) ?_
  refine lv_istore (lv' := [(7, .int (nI (fi + nn - 1))), (6, .int ((nI fi) - 1)), (5, .int 0), (0, .ref h), (1, .int (nI fi)), (2, .int (nI nn)), (3, .int (nI un)), (4, .int ii)]) hx hb dX5_loudDay_13 hl (by decide) rfl (fun ls hl => ?_)
  have L1 : ∀ (fu9 : Nat) (e9 : Nat) (k9 : Nat) (ct : Nat) (l1 : Nat) (lg9 : Nat → Int32) (ab9 : Nat → Int64) (M7 : Nat → Int64) (M8 : Nat → Int64) (o8 : Nat → Int32), (e9 ≤ fi + 200) → (e9 = fi + nn - 1 + k9) → (k9 = 0 ∨ e9 ≤ un + 1) → (OB o8) → (MEM (q 1) cf lg9 ab9) → (ldI (leB (q 1) cf nn) fi nn k9 = (ct, l1)) → (ct ≤ k9) → (l1 ≤ e9 + 1) → (∀ k8, k8 < k9 → ldH (leB (q 1) cf nn) fi nn k8 → ¬ ii = nI (ldI (leB (q 1) cf nn) fi nn k8).1) → un + 1 - e9 < fu9 → ∀ (H : Heap) (locs : List Loc), va_P D vwCl [(h, .inr (5, [.ref r0, .ref r1, .ref t0, .ref nk, .ref r4, .ref r5, .ref r6, .ref r7, .ref r8, .ref r9])), (r4, .inl (k 0, 7, .inl be)), (r5, .inl (k 0, 100, .inl lg9)), (r6, .inl (k 1, 200, .inr (.inl ab9))), (r7, .inl (k 1, 128, .inr (.inl M7))), (r8, .inl (k 1, 128, .inr (.inl M8))), (r9, .inl (k 0, 49, .inl o8)), (t0, .inr (8, [.ref t, .ref tn, .ref tl, .ref tc, .ref ta])), (t, .inl (k 0, 4, .inl (cI q))), (tc, .inl (k 0, 700, .inl cf)), (ta, .inl (k 0, 100, .inl (cI al))), (nk, .inr (6, [.int 0, .int 0, .ref nk1, .ref nk2, .ref nk3])), (nk1, .inl (k 0, 3, .inl n1)), (nk2, .inl (k 0, 21, .inl n2)), (nk3, .inl (k 0, 21, .inl n3))] H → va_D A [(h, .inr (5, [.ref r0, .ref r1, .ref t0, .ref nk, .ref r4, .ref r5, .ref r6, .ref r7, .ref r8, .ref r9])), (r4, .inl (k 0, 7, .inl be)), (r5, .inl (k 0, 100, .inl lg9)), (r6, .inl (k 1, 200, .inr (.inl ab9))), (r7, .inl (k 1, 128, .inr (.inl M7))), (r8, .inl (k 1, 128, .inr (.inl M8))), (r9, .inl (k 0, 49, .inl o8)), (t0, .inr (8, [.ref t, .ref tn, .ref tl, .ref tc, .ref ta])), (t, .inl (k 0, 4, .inl (cI q))), (tc, .inl (k 0, 700, .inl cf)), (ta, .inl (k 0, 100, .inl (cI al))), (nk, .inr (6, [.int 0, .int 0, .ref nk1, .ref nk2, .ref nk3])), (nk1, .inl (k 0, 3, .inl n1)), (nk2, .inl (k 0, 21, .inl n2)), (nk3, .inl (k 0, 21, .inl n3))] → va_S A s.heap H locs → ∀ (ls : Array Slot), lv_has ls 8 [(7, .int (nI e9)), (6, .int (nI l1 - 1)), (5, .int (nI ct)), (0, .ref h), (1, .int (nI fi)), (2, .int (nI nn)), (3, .int (nI un)), (4, .int ii)] → W p l e r_X5_loudDay s m ([.ref h, .int (nI fi), .int (nI nn), .int (nI un), .int ii] : List Value).toArray below meth c H locs 0 0 (MQ below (q_X5_loudDay D k z h r0 r1 t0 nk r4 r5 r6 r7 r8 r9 t tn tl tc ta q cf al nk1 nk2 nk3 n1 n2 n3 be lg ab L7 L8 o9 fi nn un ii A) ([.ref h, .int (nI fi), .int (nI nn), .int (nI un), .int ii] : List Value).toArray s 0 0 A) (F0 m 15 ls []) := by
    intro fu9
    induction fu9 with
    | zero => intro e9 k9 ct l1 lg9 ab9 M7 M8 o8 he9 hk9 hke hOB9 hMM9 hld hct hl1 hnone hmu; exact absurd hmu (Nat.not_lt_zero _)
    | succ fu9 ih =>
      intro e9 k9 ct l1 lg9 ab9 M7 M8 o8 he9 hk9 hke hOB9 hMM9 hld hct hl1 hnone hmu H locs hP hD hS ls hl
      refine lv_iload hx hb dX5_loudDay_15 (lv_at hl 0 rfl) ?_
      refine lv_iload_n hx hb dX5_loudDay_17 rfl (lv_at hl 6 rfl) ?_
      refine bn_gt (i := e9) (j := un) (tgt := 66) hx hb dX5_loudDay_18 (by decide) (by omega) (by omega) (fun c2 => ?_) (fun c2 => ?_)
      · skip
        have hKK : k9 = un + 2 - fi - nn := by omega
        refine lv_iload hx hb dX5_loudDay_66 (lv_at hl 7 rfl) ?_
        refine lv_iconst (v := (-1)) hx hb dX5_loudDay_68 (by decide) ?_
        refine lv_icmp_ne (x := ii) (y := (-1)) (tgt := 82) hx hb dX5_loudDay_69 (by decide) (fun c3 => ?_) (fun c3 => ?_)
        · skip
          have hneg : ¬ (ii = -1 ∧ 0 < ct) := fun q8 => c3 q8.1
          refine lv_iconst (v := (-1)) hx hb dX5_loudDay_82 (by decide) ?_
          have hP9 := hP.sub (ws' := [(h, .inr (5, [.ref r0, .ref r1, .ref t0, .ref nk, .ref r4, .ref r5, .ref r6, .ref r7, .ref r8, .ref r9])), (r4, .inl (k 0, 7, .inl be)), (r5, .inl (k 0, 100, .inl lg9)), (r6, .inl (k 1, 200, .inr (.inl ab9))), (r7, .inl (k 1, 128, .inr (.inl M7))), (r8, .inl (k 1, 128, .inr (.inl M8))), (r9, .inl (k 0, 49, .inl o8)), (t0, .inr (8, [.ref t, .ref tn, .ref tl, .ref tc, .ref ta])), (t, .inl (k 0, 4, .inl (cI q))), (tc, .inl (k 0, 700, .inl cf)), (ta, .inl (k 0, 100, .inl (cI al))), (nk, .inr (6, [.int 0, .int 0, .ref nk1, .ref nk2, .ref nk3])), (nk1, .inl (k 0, 3, .inl n1)), (nk2, .inl (k 0, 21, .inl n2)), (nk3, .inl (k 0, 21, .inl n3))]) [0, 1, 2, 3, 4, 5, 6, 7, 8, 9, 10, 11, 12, 13, 14] rfl
          have hD9 := hD.sub (ws' := [(h, .inr (5, [.ref r0, .ref r1, .ref t0, .ref nk, .ref r4, .ref r5, .ref r6, .ref r7, .ref r8, .ref r9])), (r4, .inl (k 0, 7, .inl be)), (r5, .inl (k 0, 100, .inl lg9)), (r6, .inl (k 1, 200, .inr (.inl ab9))), (r7, .inl (k 1, 128, .inr (.inl M7))), (r8, .inl (k 1, 128, .inr (.inl M8))), (r9, .inl (k 0, 49, .inl o8)), (t0, .inr (8, [.ref t, .ref tn, .ref tl, .ref tc, .ref ta])), (t, .inl (k 0, 4, .inl (cI q))), (tc, .inl (k 0, 700, .inl cf)), (ta, .inl (k 0, 100, .inl (cI al))), (nk, .inr (6, [.int 0, .int 0, .ref nk1, .ref nk2, .ref nk3])), (nk1, .inl (k 0, 3, .inl n1)), (nk2, .inl (k 0, 21, .inl n2)), (nk3, .inl (k 0, 21, .inl n3))]) [0, 1, 2, 3, 4, 5, 6, 7, 8, 9, 10, 11, 12, 13, 14] (by decide +kernel) rfl
          exact W.iret (v := (-1)) hx hb hr (fun t9 ht _ => ⟨⟨(-1), (lg9, ab9, M7, M8, o8), rfl, ⟨hOB9, hMM9, Or.inr ⟨fun k8 h8 H8 => hnone k8 (by omega) H8, Or.inr ⟨fun q8 => by rw [← hKK, hld] at q8; exact hneg q8, rfl⟩⟩⟩, by rw [ht]; exact hP9, hD9⟩, hS.F ht⟩) hS.2.2 dX5_loudDay_83
        · skip
          have k69 := c3
          refine lv_iload hx hb dX5_loudDay_72 (lv_at hl 2 rfl) ?_
          refine lv_if_le (x := nI ct) (tgt := 82) hx hb dX5_loudDay_74 (by decide) (fun c4 => ?_) (fun c4 => ?_)
          · skip
            have hneg : ¬ (ii = -1 ∧ 0 < ct) := fun q8 => absurd c4 (nI_nle q8.2 (by omega))
            refine lv_iconst (v := (-1)) hx hb dX5_loudDay_82 (by decide) ?_
            have hP9 := hP.sub (ws' := [(h, .inr (5, [.ref r0, .ref r1, .ref t0, .ref nk, .ref r4, .ref r5, .ref r6, .ref r7, .ref r8, .ref r9])), (r4, .inl (k 0, 7, .inl be)), (r5, .inl (k 0, 100, .inl lg9)), (r6, .inl (k 1, 200, .inr (.inl ab9))), (r7, .inl (k 1, 128, .inr (.inl M7))), (r8, .inl (k 1, 128, .inr (.inl M8))), (r9, .inl (k 0, 49, .inl o8)), (t0, .inr (8, [.ref t, .ref tn, .ref tl, .ref tc, .ref ta])), (t, .inl (k 0, 4, .inl (cI q))), (tc, .inl (k 0, 700, .inl cf)), (ta, .inl (k 0, 100, .inl (cI al))), (nk, .inr (6, [.int 0, .int 0, .ref nk1, .ref nk2, .ref nk3])), (nk1, .inl (k 0, 3, .inl n1)), (nk2, .inl (k 0, 21, .inl n2)), (nk3, .inl (k 0, 21, .inl n3))]) [0, 1, 2, 3, 4, 5, 6, 7, 8, 9, 10, 11, 12, 13, 14] rfl
            have hD9 := hD.sub (ws' := [(h, .inr (5, [.ref r0, .ref r1, .ref t0, .ref nk, .ref r4, .ref r5, .ref r6, .ref r7, .ref r8, .ref r9])), (r4, .inl (k 0, 7, .inl be)), (r5, .inl (k 0, 100, .inl lg9)), (r6, .inl (k 1, 200, .inr (.inl ab9))), (r7, .inl (k 1, 128, .inr (.inl M7))), (r8, .inl (k 1, 128, .inr (.inl M8))), (r9, .inl (k 0, 49, .inl o8)), (t0, .inr (8, [.ref t, .ref tn, .ref tl, .ref tc, .ref ta])), (t, .inl (k 0, 4, .inl (cI q))), (tc, .inl (k 0, 700, .inl cf)), (ta, .inl (k 0, 100, .inl (cI al))), (nk, .inr (6, [.int 0, .int 0, .ref nk1, .ref nk2, .ref nk3])), (nk1, .inl (k 0, 3, .inl n1)), (nk2, .inl (k 0, 21, .inl n2)), (nk3, .inl (k 0, 21, .inl n3))]) [0, 1, 2, 3, 4, 5, 6, 7, 8, 9, 10, 11, 12, 13, 14] (by decide +kernel) rfl
            exact W.iret (v := (-1)) hx hb hr (fun t9 ht _ => ⟨⟨(-1), (lg9, ab9, M7, M8, o8), rfl, ⟨hOB9, hMM9, Or.inr ⟨fun k8 h8 H8 => hnone k8 (by omega) H8, Or.inr ⟨fun q8 => by rw [← hKK, hld] at q8; exact hneg q8, rfl⟩⟩⟩, by rw [ht]; exact hP9, hD9⟩, hS.F ht⟩) hS.2.2 dX5_loudDay_83
          · skip
            have hpos : 0 < ct := Nat.pos_of_ne_zero (fun q8 => c4 (by rw [q8]; decide))
            refine lv_iload hx hb dX5_loudDay_77 (lv_at hl 2 rfl) ?_
            refine lv_goto (tgt := 83) hx hb dX5_loudDay_79 (by decide) ?_
            have hP9 := hP.sub (ws' := [(h, .inr (5, [.ref r0, .ref r1, .ref t0, .ref nk, .ref r4, .ref r5, .ref r6, .ref r7, .ref r8, .ref r9])), (r4, .inl (k 0, 7, .inl be)), (r5, .inl (k 0, 100, .inl lg9)), (r6, .inl (k 1, 200, .inr (.inl ab9))), (r7, .inl (k 1, 128, .inr (.inl M7))), (r8, .inl (k 1, 128, .inr (.inl M8))), (r9, .inl (k 0, 49, .inl o8)), (t0, .inr (8, [.ref t, .ref tn, .ref tl, .ref tc, .ref ta])), (t, .inl (k 0, 4, .inl (cI q))), (tc, .inl (k 0, 700, .inl cf)), (ta, .inl (k 0, 100, .inl (cI al))), (nk, .inr (6, [.int 0, .int 0, .ref nk1, .ref nk2, .ref nk3])), (nk1, .inl (k 0, 3, .inl n1)), (nk2, .inl (k 0, 21, .inl n2)), (nk3, .inl (k 0, 21, .inl n3))]) [0, 1, 2, 3, 4, 5, 6, 7, 8, 9, 10, 11, 12, 13, 14] rfl
            have hD9 := hD.sub (ws' := [(h, .inr (5, [.ref r0, .ref r1, .ref t0, .ref nk, .ref r4, .ref r5, .ref r6, .ref r7, .ref r8, .ref r9])), (r4, .inl (k 0, 7, .inl be)), (r5, .inl (k 0, 100, .inl lg9)), (r6, .inl (k 1, 200, .inr (.inl ab9))), (r7, .inl (k 1, 128, .inr (.inl M7))), (r8, .inl (k 1, 128, .inr (.inl M8))), (r9, .inl (k 0, 49, .inl o8)), (t0, .inr (8, [.ref t, .ref tn, .ref tl, .ref tc, .ref ta])), (t, .inl (k 0, 4, .inl (cI q))), (tc, .inl (k 0, 700, .inl cf)), (ta, .inl (k 0, 100, .inl (cI al))), (nk, .inr (6, [.int 0, .int 0, .ref nk1, .ref nk2, .ref nk3])), (nk1, .inl (k 0, 3, .inl n1)), (nk2, .inl (k 0, 21, .inl n2)), (nk3, .inl (k 0, 21, .inl n3))]) [0, 1, 2, 3, 4, 5, 6, 7, 8, 9, 10, 11, 12, 13, 14] (by decide +kernel) rfl
            exact W.iret (v := nI ct) hx hb hr (fun t9 ht _ => ⟨⟨nI ct, (lg9, ab9, M7, M8, o8), rfl, ⟨hOB9, hMM9, Or.inr ⟨fun k8 h8 H8 => hnone k8 (by omega) H8, Or.inl ⟨k69, by rw [← hKK, hld]; exact hpos, by rw [← hKK, hld]⟩⟩⟩, by rw [ht]; exact hP9, hD9⟩, hS.F ht⟩) hS.2.2 dX5_loudDay_83
      · skip
        refine lv_iload hx hb dX5_loudDay_21 (lv_at hl 0 rfl) ?_
        refine lv_iload_n hx hb dX5_loudDay_23 rfl (lv_at hl 5 rfl) ?_
        refine lv_isub hx hb dX5_loudDay_24 ?_
        refine lv_iload hx hb dX5_loudDay_25 (lv_at hl 1 rfl) ?_
        refine lv_icmp_lt (x := (nI e9) - (nI nn)) (y := nI l1 - 1) (tgt := 60) hx hb dX5_loudDay_27 (by decide) (fun c5 => ?_) (fun c5 => ?_)
        · skip
          have hsk : e9 + 1 < l1 + nn := (ld_lt (by omega) (by omega) (by omega)).mp c5
          refine lv_iinc (v := nI (e9 + 1)) (lv' := [(7, .int (nI (e9 + 1))), (6, .int (nI l1 - 1)), (5, .int (nI ct)), (0, .ref h), (1, .int (nI fi)), (2, .int (nI nn)), (3, .int (nI un)), (4, .int ii)]) hx hb dX5_loudDay_60 hl (k := 0) rfl (nI_add e9 1) (by decide) rfl (fun ls hl => ?_)
          refine lv_goto (tgt := 15) hx hb dX5_loudDay_63 (by decide) ?_
          exact ih (e9 + 1) (k9 + 1) ct l1 lg9 ab9 M7 M8 o8 (by omega) (by omega) (Or.inr (by omega)) (hOB9) (hMM9) (ld_k hld (Or.inl (show fi + nn - 1 + k9 + 1 < l1 + nn by omega))) (by omega) (by omega) (fun k8 h8 H8 => by by_cases q7 : k8 = k9; rw [q7] at H8; exact absurd H8 (fun q8 => q8 (Or.inl (by rw [hld]; show fi + nn - 1 + k9 + 1 < l1 + nn; omega))); exact hnone k8 (by omega) H8) (by omega) _ _ (hP.sub [0, 1, 2, 3, 4, 5, 6, 7, 8, 9, 10, 11, 12, 13, 14] rfl) (hD.sub [0, 1, 2, 3, 4, 5, 6, 7, 8, 9, 10, 11, 12, 13, 14] (by decide +kernel) rfl) hS ls (lv_sub hl [0, 1, 2, 3, 4, 5, 6, 7] rfl)
        · skip
          have hns : ¬ e9 + 1 < l1 + nn := fun q8 => c5 ((ld_lt (by omega) (by omega) (by omega)).mpr q8)
          refine lv_aload_n hx hb dX5_loudDay_30 rfl (lv_at hl 3 rfl) ?_
          refine lv_iload hx hb dX5_loudDay_31 (lv_at hl 0 rfl) ?_
          have hPc := hP.sub (ws' := (c_X5_longestUpTo k z h r0 r1 t0 nk r4 r5 r6 r7 r8 r9 t tn tl tc ta q cf al nk1 nk2 nk3 n1 n2 n3 be lg9 ab9 M7 M8 o8 (nI e9))) [0, 1, 2, 3, 4, 5, 6, 7, 8, 9, 10, 11, 12, 13, 14] rfl
          have hDc := hD.sub (ws' := (c_X5_longestUpTo k z h r0 r1 t0 nk r4 r5 r6 r7 r8 r9 t tn tl tc ta q cf al nk1 nk2 nk3 n1 n2 n3 be lg9 ab9 M7 M8 o8 (nI e9))) [0, 1, 2, 3, 4, 5, 6, 7, 8, 9, 10, 11, 12, 13, 14] (by decide +kernel) rfl
          refine cl_i (w1 := w_X5_longestUpTo k z h r0 r1 t0 nk r4 r5 r6 r7 r8 r9 t tn tl tc ta q cf al nk1 nk2 nk3 n1 n2 n3 be lg9 ab9 M7 M8 o8 (nI e9)) (wr := []) (va_runV (As := [.int (nI e9)]) (rest := []) ⟨hx, hb, hml, hown, hts⟩ (X5_longestUpTo l D k H.size z h r0 r1 t0 nk r4 r5 r6 r7 r8 r9 t tn tl tc ta q cf al nk1 nk2 nk3 n1 n2 n3 be lg9 ab9 M7 M8 o8 (nI e9) (hq1) (hal) (hOB9) (hCB) (hAK) (hMM9)) (cwV 1 hts gX5_loudDay_X5_longestUpTo rfl rfl rfl (by decide +kernel) ⟨Nat.le_of_ble_eq_true rfl, Nat.le_of_ble_eq_true rfl⟩) ⟨PT.blind _ _ _ _ _ _, va_recv hG.1 hP (ci := 5) (q0 := 0) rfl rfl, PT.pre hPc hDc hG hZ hS (va_free hD hS hA [0, 1, 2, 3, 4, 5, 6, 7, 8, 9, 10, 11, 12, 13, 14] rfl) [.ref h, .int (nI e9)]⟩ rfl rfl hl.1 rfl (lv_room (Nat.le_of_ble_eq_true rfl)) dX5_loudDay_33 ⟨Nat.le_of_ble_eq_true rfl, Nat.le_of_ble_eq_true rfl⟩) hP hD hS hA [0, 1, 2, 3, 4, 5, 6, 7, 8, 9, 10, 11, 12, 13, 14] [] rfl rfl (by decide +kernel) (by decide +kernel) (fun r u H locs hq hP hD hS => ?_)
          obtain ⟨lg8, ab8, N7, N8, o7⟩ := u
          generalize r = y6 at hq ⊢
          have hq : (OB o7 ∧ MEM (q 1) cf lg8 ab8 ∧ ∀ d : Nat, d < 100 → (nI e9) = nI d → ∃ mm : Nat, y6 = nI mm ∧ LNg (q 1) cf d mm ∧ ¬ lg8 (slk al d) = -1) := hq
          have hP : va_P D vwCl [(h, .inr (5, [.ref r0, .ref r1, .ref t0, .ref nk, .ref r4, .ref r5, .ref r6, .ref r7, .ref r8, .ref r9])), (r4, .inl (k 0, 7, .inl be)), (r5, .inl (k 0, 100, .inl lg8)), (r6, .inl (k 1, 200, .inr (.inl ab8))), (r7, .inl (k 1, 128, .inr (.inl N7))), (r8, .inl (k 1, 128, .inr (.inl N8))), (r9, .inl (k 0, 49, .inl o7)), (t0, .inr (8, [.ref t, .ref tn, .ref tl, .ref tc, .ref ta])), (t, .inl (k 0, 4, .inl (cI q))), (tc, .inl (k 0, 700, .inl cf)), (ta, .inl (k 0, 100, .inl (cI al))), (nk, .inr (6, [.int 0, .int 0, .ref nk1, .ref nk2, .ref nk3])), (nk1, .inl (k 0, 3, .inl n1)), (nk2, .inl (k 0, 21, .inl n2)), (nk3, .inl (k 0, 21, .inl n3))] H := hP
          have hD : va_D A [(h, .inr (5, [.ref r0, .ref r1, .ref t0, .ref nk, .ref r4, .ref r5, .ref r6, .ref r7, .ref r8, .ref r9])), (r4, .inl (k 0, 7, .inl be)), (r5, .inl (k 0, 100, .inl lg8)), (r6, .inl (k 1, 200, .inr (.inl ab8))), (r7, .inl (k 1, 128, .inr (.inl N7))), (r8, .inl (k 1, 128, .inr (.inl N8))), (r9, .inl (k 0, 49, .inl o7)), (t0, .inr (8, [.ref t, .ref tn, .ref tl, .ref tc, .ref ta])), (t, .inl (k 0, 4, .inl (cI q))), (tc, .inl (k 0, 700, .inl cf)), (ta, .inl (k 0, 100, .inl (cI al))), (nk, .inr (6, [.int 0, .int 0, .ref nk1, .ref nk2, .ref nk3])), (nk1, .inl (k 0, 3, .inl n1)), (nk2, .inl (k 0, 21, .inl n2)), (nk3, .inl (k 0, 21, .inl n3))] := hD
          have hOB8 := hq.1
          have hMM8 := hq.2.1
          obtain ⟨mm, emm, hmm, hne9⟩ := hq.2.2 e9 (by omega) rfl
          have hmm7 := hmm.1
          refine tp_i (y := nI mm) emm ?_
          refine lv_iload_n hx hb dX5_loudDay_36 rfl (lv_at hl 5 rfl) ?_
          refine bn_ge (i := mm) (j := nn) (tgt := 43) hx hb dX5_loudDay_37 (by decide) (by omega) (by omega) (fun c7 => ?_) (fun c7 => ?_)
          · skip
            have hyes : leB (q 1) cf nn e9 = true := leB_t.mpr ((hmm.2 nn hnn.1 hnn.2 (by omega)).mp (by omega))
            have hst : ¬ (fi + nn - 1 + k9 + 1 < (ct, l1).2 + nn ∨ leB (q 1) cf nn (fi + nn - 1 + k9) = false) := fun q8 => by rcases q8 with q8 | q8; have q9 : fi + nn - 1 + k9 + 1 < l1 + nn := q8; omega; rw [← hk9, hyes] at q8; exact absurd q8 (by decide)
            refine lv_iload hx hb dX5_loudDay_43 (lv_at hl 2 rfl) ?_
            refine lv_iload hx hb dX5_loudDay_45 (lv_at hl 7 rfl) ?_
            refine lv_icmp_ne (x := nI ct) (y := ii) (tgt := 53) hx hb dX5_loudDay_47 (by decide) (fun c8 => ?_) (fun c8 => ?_)
            · skip
              have k47 := c8
              refine lv_iload hx hb dX5_loudDay_53 (lv_at hl 0 rfl) ?_
              refine lv_istore (lv' := [(6, .int (nI e9)), (7, .int (nI e9)), (5, .int (nI ct)), (0, .ref h), (1, .int (nI fi)), (2, .int (nI nn)), (3, .int (nI un)), (4, .int ii)]) hx hb dX5_loudDay_55 hl (by decide) rfl (fun ls hl => ?_)
              refine lv_iinc (v := nI (ct + 1)) (lv' := [(5, .int (nI (ct + 1))), (6, .int (nI e9)), (7, .int (nI e9)), (0, .ref h), (1, .int (nI fi)), (2, .int (nI nn)), (3, .int (nI un)), (4, .int ii)]) hx hb dX5_loudDay_57 hl (k := 2) rfl (nI_add ct 1) (by decide) rfl (fun ls hl => ?_)
              refine lv_iinc (v := nI (e9 + 1)) (lv' := [(7, .int (nI (e9 + 1))), (5, .int (nI (ct + 1))), (6, .int (nI e9)), (0, .ref h), (1, .int (nI fi)), (2, .int (nI nn)), (3, .int (nI un)), (4, .int ii)]) hx hb dX5_loudDay_60 hl (k := 2) rfl (nI_add e9 1) (by decide) rfl (fun ls hl => ?_)
              refine lv_goto (tgt := 15) hx hb dX5_loudDay_63 (by decide) ?_
              rw [show nI e9 = nI (e9 + 1) - 1 from (nI_pred e9).symm] at hl
              exact ih (e9 + 1) (k9 + 1) (ct + 1) (e9 + 1) lg8 ab8 N7 N8 o7 (by omega) (by omega) (Or.inr (by omega)) (hOB8) (hMM8) ((ld_s hld hst).trans (by rw [hk9])) (by omega) (by omega) (fun k8 h8 H8 => by by_cases q7 : k8 = k9; rw [q7, hld]; exact fun q8 => k47 q8.symm; exact hnone k8 (by omega) H8) (by omega) _ _ (hP.sub [0, 1, 2, 3, 4, 5, 6, 7, 8, 9, 10, 11, 12, 13, 14] rfl) (hD.sub [0, 1, 2, 3, 4, 5, 6, 7, 8, 9, 10, 11, 12, 13, 14] (by decide +kernel) rfl) hS ls (lv_sub hl [0, 2, 1, 3, 4, 5, 6, 7] rfl)
            · skip
              have k47 := c8
              refine lv_iload hx hb dX5_loudDay_50 (lv_at hl 0 rfl) ?_
              have hP9 := hP.sub (ws' := [(h, .inr (5, [.ref r0, .ref r1, .ref t0, .ref nk, .ref r4, .ref r5, .ref r6, .ref r7, .ref r8, .ref r9])), (r4, .inl (k 0, 7, .inl be)), (r5, .inl (k 0, 100, .inl lg8)), (r6, .inl (k 1, 200, .inr (.inl ab8))), (r7, .inl (k 1, 128, .inr (.inl N7))), (r8, .inl (k 1, 128, .inr (.inl N8))), (r9, .inl (k 0, 49, .inl o7)), (t0, .inr (8, [.ref t, .ref tn, .ref tl, .ref tc, .ref ta])), (t, .inl (k 0, 4, .inl (cI q))), (tc, .inl (k 0, 700, .inl cf)), (ta, .inl (k 0, 100, .inl (cI al))), (nk, .inr (6, [.int 0, .int 0, .ref nk1, .ref nk2, .ref nk3])), (nk1, .inl (k 0, 3, .inl n1)), (nk2, .inl (k 0, 21, .inl n2)), (nk3, .inl (k 0, 21, .inl n3))]) [0, 1, 2, 3, 4, 5, 6, 7, 8, 9, 10, 11, 12, 13, 14] rfl
              have hD9 := hD.sub (ws' := [(h, .inr (5, [.ref r0, .ref r1, .ref t0, .ref nk, .ref r4, .ref r5, .ref r6, .ref r7, .ref r8, .ref r9])), (r4, .inl (k 0, 7, .inl be)), (r5, .inl (k 0, 100, .inl lg8)), (r6, .inl (k 1, 200, .inr (.inl ab8))), (r7, .inl (k 1, 128, .inr (.inl N7))), (r8, .inl (k 1, 128, .inr (.inl N8))), (r9, .inl (k 0, 49, .inl o7)), (t0, .inr (8, [.ref t, .ref tn, .ref tl, .ref tc, .ref ta])), (t, .inl (k 0, 4, .inl (cI q))), (tc, .inl (k 0, 700, .inl cf)), (ta, .inl (k 0, 100, .inl (cI al))), (nk, .inr (6, [.int 0, .int 0, .ref nk1, .ref nk2, .ref nk3])), (nk1, .inl (k 0, 3, .inl n1)), (nk2, .inl (k 0, 21, .inl n2)), (nk3, .inl (k 0, 21, .inl n3))]) [0, 1, 2, 3, 4, 5, 6, 7, 8, 9, 10, 11, 12, 13, 14] (by decide +kernel) rfl
              exact W.iret (v := nI e9) hx hb hr (fun t9 ht _ => ⟨⟨nI e9, (lg8, ab8, N7, N8, o7), rfl, ⟨hOB8, hMM8, Or.inl ⟨k9, by omega, by rw [ldH, hld]; exact hst, by rw [hld]; exact k47.symm, congrArg nI hk9⟩⟩, by rw [ht]; exact hP9, hD9⟩, hS.F ht⟩) hS.2.2 dX5_loudDay_52
          · skip
            have hnoL : leB (q 1) cf nn e9 = false := leB_f (fun q8 => absurd ((hmm.2 nn hnn.1 hnn.2 (by omega)).mpr q8) (by omega))
            refine lv_goto (tgt := 60) hx hb dX5_loudDay_40 (by decide) ?_
            refine lv_iinc (v := nI (e9 + 1)) (lv' := [(7, .int (nI (e9 + 1))), (6, .int (nI l1 - 1)), (5, .int (nI ct)), (0, .ref h), (1, .int (nI fi)), (2, .int (nI nn)), (3, .int (nI un)), (4, .int ii)]) hx hb dX5_loudDay_60 hl (k := 0) rfl (nI_add e9 1) (by decide) rfl (fun ls hl => ?_)
            refine lv_goto (tgt := 15) hx hb dX5_loudDay_63 (by decide) ?_
            exact ih (e9 + 1) (k9 + 1) ct l1 lg8 ab8 N7 N8 o7 (by omega) (by omega) (Or.inr (by omega)) (hOB8) (hMM8) (ld_k hld (Or.inr (by rw [← hk9]; exact hnoL))) (by omega) (by omega) (fun k8 h8 H8 => by by_cases q7 : k8 = k9; rw [q7] at H8; exact absurd H8 (fun q8 => q8 (Or.inr (by rw [← hk9]; exact hnoL))); exact hnone k8 (by omega) H8) (by omega) _ _ (hP.sub [0, 1, 2, 3, 4, 5, 6, 7, 8, 9, 10, 11, 12, 13, 14] rfl) (hD.sub [0, 1, 2, 3, 4, 5, 6, 7, 8, 9, 10, 11, 12, 13, 14] (by decide +kernel) rfl) hS ls (lv_sub hl [0, 1, 2, 3, 4, 5, 6, 7] rfl)
  exact L1 _ (fi + nn - 1) 0 0 fi lg ab L7 L8 o9 (by omega) (rfl) (Or.inl rfl) (hOB) (hMM) (rfl) (Nat.le_refl _) (by omega) (fun k8 h8 => absurd h8 (Nat.not_lt_zero k8)) (Nat.lt_succ_self _) _ _ hP hD hS ls (lv_sub hl [0, 1, 2, 3, 4, 5, 6, 7] rfl)

def BEx (q0 : Nat) (G0 be : Nat → Int32) : Prop := ∀ h, h < q0 → be h = G0 (h * 4 + 1)
abbrev c_X5_moveTo (k : Nat → ClassId) (h : Nat) (r0 : Nat) (r1 : Nat) (t0 : Nat) (nk : Nat) (r4 : Nat) (r5 : Nat) (r6 : Nat) (r7 : Nat) (r8 : Nat) (r9 : Nat) (tw : Nat) (t : Nat) (tn : Nat) (tl : Nat) (tc : Nat) (ta : Nat) (rw : Nat → Nat) (q : Nat → Nat) (G0 : Nat → Int32) (be : Nat → Int32) (lg : Nat → Int32) (ab : Nat → Int64) : va_W := [(h, .inr (5, [.ref r0, .ref r1, .ref t0, .ref nk, .ref r4, .ref r5, .ref r6, .ref r7, .ref r8, .ref r9])), (r4, .inl (k 0, 7, .inl be)), (r5, .inl (k 0, 100, .inl lg)), (r6, .inl (k 1, 200, .inr (.inl ab))), (tw, .inr (8, [.ref t, .ref tn, .ref tl, .ref tc, .ref ta])), (t, .inl (k 0, 4, .inl (cI q))), (tn, .inl (k 4, 4, .inr (.inr (.inr (.inr (gr4 rw)))))), ((rw 0), .inl (k 0, 80, .inl G0))]
abbrev r_X5_moveTo : Room := { frames := 2, cells := 0, slots := 0, locals := 45 }
def w_X5_moveTo (k : Nat → ClassId) (h : Nat) (r0 : Nat) (r1 : Nat) (t0 : Nat) (nk : Nat) (r4 : Nat) (r5 : Nat) (r6 : Nat) (r7 : Nat) (r8 : Nat) (r9 : Nat) (tw : Nat) (t : Nat) (tn : Nat) (tl : Nat) (tc : Nat) (ta : Nat) (rw : Nat → Nat) (q : Nat → Nat) (G0 : Nat → Int32) (be : Nat → Int32) (lg : Nat → Int32) (ab : Nat → Int64) : (Nat → Int32) → va_W := fun be9 => [(h, .inr (5, [.ref r0, .ref r1, .ref tw, .ref nk, .ref r4, .ref r5, .ref r6, .ref r7, .ref r8, .ref r9])), (r4, .inl (k 0, 7, .inl be9)), (r5, .inl (k 0, 100, .inl (fl_i lg (-1) 100))), (r6, .inl (k 1, 200, .inr (.inl (fl_l ab 0 200)))), (tw, .inr (8, [.ref t, .ref tn, .ref tl, .ref tc, .ref ta])), (t, .inl (k 0, 4, .inl (cI q))), (tn, .inl (k 4, 4, .inr (.inr (.inr (.inr (gr4 rw)))))), ((rw 0), .inl (k 0, 80, .inl G0))]
def p_X5_moveTo (k : Nat → ClassId) (h : Nat) (r0 : Nat) (r1 : Nat) (t0 : Nat) (nk : Nat) (r4 : Nat) (r5 : Nat) (r6 : Nat) (r7 : Nat) (r8 : Nat) (r9 : Nat) (tw : Nat) (t : Nat) (tn : Nat) (tl : Nat) (tc : Nat) (ta : Nat) (rw : Nat → Nat) (q : Nat → Nat) (G0 : Nat → Int32) (be : Nat → Int32) (lg : Nat → Int32) (ab : Nat → Int64) : (Nat → Int32) → Prop := fun (u : (Nat → Int32)) => BEx (q 0) G0 u
abbrev q_X5_moveTo (D : va_G) (k : Nat → ClassId) (h : Nat) (r0 : Nat) (r1 : Nat) (t0 : Nat) (nk : Nat) (r4 : Nat) (r5 : Nat) (r6 : Nat) (r7 : Nat) (r8 : Nat) (r9 : Nat) (tw : Nat) (t : Nat) (tn : Nat) (tl : Nat) (tc : Nat) (ta : Nat) (rw : Nat → Nat) (q : Nat → Nat) (G0 : Nat → Int32) (be : Nat → Int32) (lg : Nat → Int32) (ab : Nat → Int64) (A : Nat → Prop) : Array Value → State → Outcome → State → Prop := va_Qv (p_X5_moveTo k h r0 r1 t0 nk r4 r5 r6 r7 r8 r9 tw t tn tl tc ta rw q G0 be lg ab) (fun u9 t9 => BO D (w_X5_moveTo k h r0 r1 t0 nk r4 r5 r6 r7 r8 r9 tw t tn tl tc ta rw q G0 be lg ab u9) A t9) A
set_option maxHeartbeats 2000000 in
set_option maxRecDepth 100000 in
theorem X5_moveTo (l : Launch) (D : va_G) (k : Nat → ClassId) (sz : Nat) (h : Nat) (r0 : Nat) (r1 : Nat) (t0 : Nat) (nk : Nat) (r4 : Nat) (r5 : Nat) (r6 : Nat) (r7 : Nat) (r8 : Nat) (r9 : Nat) (tw : Nat) (t : Nat) (tn : Nat) (tl : Nat) (tc : Nat) (ta : Nat) (rw : Nat → Nat) (q : Nat → Nat) (G0 : Nat → Int32) (be : Nat → Int32) (lg : Nat → Int32) (ab : Nat → Int64) (hq0 : q 0 ≤ 7) : Met l yX5_moveTo wsX5_moveTo r_X5_moveTo (va_Pc [.ref h, .ref tw] (PR D k (c_X5_moveTo k h r0 r1 t0 nk r4 r5 r6 r7 r8 r9 tw t tn tl tc ta rw q G0 be lg ab) sz)) (q_X5_moveTo D k h r0 r1 t0 nk r4 r5 r6 r7 r8 r9 tw t tn tl tc ta rw q G0 be lg ab (va_A (c_X5_moveTo k h r0 r1 t0 nk r4 r5 r6 r7 r8 r9 tw t tn tl tc ta rw q G0 be lg ab) sz)) 0 0 (va_A (c_X5_moveTo k h r0 r1 t0 nk r4 r5 r6 r7 r8 r9 tw t tn tl tc ta rw q G0 be lg ab) sz) := by
  refine Met.ofW (cc := cX5_moveTo) (maxL := 3) (ret := none) (by decide) rfl ?_
  intro p e s m args below meth c s₁ B hml hv
  obtain ⟨rfl, hsz, hP, hG, hD0⟩ := hv
  have hx := B.exec
  have hb := B.bytes
  have hr := B.returns
  have hts := atoms_spec (ws := wsX5_moveTo) B.pre
  have hown : s.vm.findClass RX5 = some m.cls := findClass_of_methodNamed B.named
  have hlocks := B.notSynchronized
  have hi5 : ∀ w ∈ wsX50, w ∈ wsX5_moveTo := fun _ h => List.mem_cons_of_mem _ (List.mem_append_left _ (List.mem_append_right _ h))
  have hi8 : ∀ w ∈ wsX80, w ∈ wsX5_moveTo := fun _ h => List.mem_cons_of_mem _ (List.mem_append_right _ h)
  subst hsz
  have hD := hD0.self (sz := s.heap.size)
  generalize hAe : va_A (c_X5_moveTo k h r0 r1 t0 nk r4 r5 r6 r7 r8 r9 tw t tn tl tc ta rw q G0 be lg ab) s.heap.size = A at hD ⊢
  have hA : ∀ q : Nat, s.heap.size ≤ q → A q := fun q h => by rw [← hAe]; exact Or.inr h
  have hS : va_S A s.heap s.heap [] := va_S.rf
  have hP : va_P D vwCl [(h, .inr (5, [.ref r0, .ref r1, .ref t0, .ref nk, .ref r4, .ref r5, .ref r6, .ref r7, .ref r8, .ref r9])), (r4, .inl (k 0, 7, .inl be)), (r5, .inl (k 0, 100, .inl lg)), (r6, .inl (k 1, 200, .inr (.inl ab))), (tw, .inr (8, [.ref t, .ref tn, .ref tl, .ref tc, .ref ta])), (t, .inl (k 0, 4, .inl (cI q))), (tn, .inl (k 4, 4, .inr (.inr (.inr (.inr (gr4 rw)))))), ((rw 0), .inl (k 0, 80, .inl G0))] s.heap := hP
  have hD : va_D A [(h, .inr (5, [.ref r0, .ref r1, .ref t0, .ref nk, .ref r4, .ref r5, .ref r6, .ref r7, .ref r8, .ref r9])), (r4, .inl (k 0, 7, .inl be)), (r5, .inl (k 0, 100, .inl lg)), (r6, .inl (k 1, 200, .inr (.inl ab))), (tw, .inr (8, [.ref t, .ref tn, .ref tl, .ref tc, .ref ta])), (t, .inl (k 0, 4, .inl (cI q))), (tn, .inl (k 4, 4, .inr (.inr (.inr (.inr (gr4 rw)))))), ((rw 0), .inl (k 0, 80, .inl G0))] := hD
  have hl := lv_entry ([.ref h, .ref tw]) (n := 3) (Nat.le_of_ble_eq_true rfl)
  rw [lg_entry_eq]
  generalize (lg_sl ([.ref h, .ref tw]) ++ List.replicate (3 - (lg_sl ([.ref h, .ref tw])).length) Slot.unset).toArray = ls at hl ⊢
  have hl : lv_has ls 3 [(0, .ref h), (1, .ref tw)] := hl
  refine lv_aload_n hx hb dX5_moveTo_0 rfl (lv_at hl 0 rfl) ?_
  refine lv_aload_n hx hb dX5_moveTo_1 rfl (lv_at hl 1 rfl) ?_
  refine va_put (D := D) (ci := 5) (v := .ref tw) (ty := (tyX5 2)) (C := RX5) (T := TX5) (N := 10) hx hb hts hi5 tyX5 tyX5_ok nmX5 hown hG.1 hP hD hS 0 rfl rfl 2 (by decide) (hts (.fieldLink RX5 44 "SleptMatters$Rows" "town" "LSleptMatters$Town;") (List.mem_cons_of_mem _ (List.mem_append_left _ (List.mem_append_left _ (List.mem_of_getElem? (i := 0) rfl))))) (fun _ h9 => h9) rfl (by decide +kernel) rfl rfl (Nat.le_of_ble_eq_true rfl) dX5_moveTo_2 (fun H locs hP hD hS => ?_)
  have hP : va_P D vwCl [(h, .inr (5, [.ref r0, .ref r1, .ref tw, .ref nk, .ref r4, .ref r5, .ref r6, .ref r7, .ref r8, .ref r9])), (r4, .inl (k 0, 7, .inl be)), (r5, .inl (k 0, 100, .inl lg)), (r6, .inl (k 1, 200, .inr (.inl ab))), (tw, .inr (8, [.ref t, .ref tn, .ref tl, .ref tc, .ref ta])), (t, .inl (k 0, 4, .inl (cI q))), (tn, .inl (k 4, 4, .inr (.inr (.inr (.inr (gr4 rw)))))), ((rw 0), .inl (k 0, 80, .inl G0))] H := hP
  have hD : va_D A [(h, .inr (5, [.ref r0, .ref r1, .ref tw, .ref nk, .ref r4, .ref r5, .ref r6, .ref r7, .ref r8, .ref r9])), (r4, .inl (k 0, 7, .inl be)), (r5, .inl (k 0, 100, .inl lg)), (r6, .inl (k 1, 200, .inr (.inl ab))), (tw, .inr (8, [.ref t, .ref tn, .ref tl, .ref tc, .ref ta])), (t, .inl (k 0, 4, .inl (cI q))), (tn, .inl (k 4, 4, .inr (.inr (.inr (.inr (gr4 rw)))))), ((rw 0), .inl (k 0, 80, .inl G0))] := hD
  refine lv_aload_n hx hb dX5_moveTo_5 rfl (lv_at hl 0 rfl) ?_
  refine va_get (D := D) (ci := 5) (v := .ref r5) (C := RX5) (T := TX5) (N := 10) hx hb hts hi5 hown hG.1 hP 0 rfl rfl 5 (by decide) (hts (.fieldLink RX5 28 "SleptMatters$Rows" "longest" "[I") (List.mem_cons_of_mem _ (List.mem_append_left _ (List.mem_append_left _ (List.mem_of_getElem? (i := 1) rfl))))) (fun _ h9 => h9) rfl dX5_moveTo_6 ?_
  refine lv_iconst (v := (-1)) hx hb dX5_moveTo_9 (by decide) ?_
  have hPc := hP.sub (ws' := (c_fillI k r5 100 lg (-1))) [2] rfl
  have hDc := hD.sub (ws' := (c_fillI k r5 100 lg (-1))) [2] (by decide +kernel) rfl
  refine cl_v (w1 := w_fillI k r5 100 lg (-1)) (wr := [(h, .inr (5, [.ref r0, .ref r1, .ref tw, .ref nk, .ref r4, .ref r5, .ref r6, .ref r7, .ref r8, .ref r9])), (r4, .inl (k 0, 7, .inl be)), (r6, .inl (k 1, 200, .inr (.inl ab))), (tw, .inr (8, [.ref t, .ref tn, .ref tl, .ref tc, .ref ta])), (t, .inl (k 0, 4, .inl (cI q))), (tn, .inl (k 4, 4, .inr (.inr (.inr (.inr (gr4 rw)))))), ((rw 0), .inl (k 0, 80, .inl G0))]) (va_runS (As := [.ref r5, .int (-1)]) (rest := []) ⟨hx, hb, hml, hown, hts⟩ (fillI l D k H.size r5 100 lg (-1) (by decide)) (va_cwS 2 hts gX5_moveTo_J7_fill_53178 rfl rfl rfl (by decide +kernel) ⟨Nat.le_of_ble_eq_true rfl, Nat.le_of_ble_eq_true rfl⟩) ⟨PR.blind _ _ _ _ _, PR.pre hPc hDc hG [.ref r5, .int (-1)]⟩ rfl rfl hl.1 rfl (lv_room (Nat.le_of_ble_eq_true rfl)) dX5_moveTo_10 ⟨Nat.le_of_ble_eq_true rfl, Nat.le_of_ble_eq_true rfl⟩) hP hD hS hA [2] [0, 1, 3, 4, 5, 6, 7] rfl rfl (by decide +kernel) (by decide +kernel) (fun u H locs hq hP hD hS => ?_)
  cases u
  have hP : va_P D vwCl [(h, .inr (5, [.ref r0, .ref r1, .ref tw, .ref nk, .ref r4, .ref r5, .ref r6, .ref r7, .ref r8, .ref r9])), (r4, .inl (k 0, 7, .inl be)), (r6, .inl (k 1, 200, .inr (.inl ab))), (tw, .inr (8, [.ref t, .ref tn, .ref tl, .ref tc, .ref ta])), (t, .inl (k 0, 4, .inl (cI q))), (tn, .inl (k 4, 4, .inr (.inr (.inr (.inr (gr4 rw)))))), ((rw 0), .inl (k 0, 80, .inl G0)), (r5, .inl (k 0, 100, .inl (fl_i lg (-1) 100)))] H := hP
  have hD : va_D A [(h, .inr (5, [.ref r0, .ref r1, .ref tw, .ref nk, .ref r4, .ref r5, .ref r6, .ref r7, .ref r8, .ref r9])), (r4, .inl (k 0, 7, .inl be)), (r6, .inl (k 1, 200, .inr (.inl ab))), (tw, .inr (8, [.ref t, .ref tn, .ref tl, .ref tc, .ref ta])), (t, .inl (k 0, 4, .inl (cI q))), (tn, .inl (k 4, 4, .inr (.inr (.inr (.inr (gr4 rw)))))), ((rw 0), .inl (k 0, 80, .inl G0)), (r5, .inl (k 0, 100, .inl (fl_i lg (-1) 100)))] := hD
  refine lv_aload_n hx hb dX5_moveTo_13 rfl (lv_at hl 0 rfl) ?_
  refine va_get (D := D) (ci := 5) (v := .ref r6) (C := RX5) (T := TX5) (N := 10) hx hb hts hi5 hown hG.1 hP 0 rfl rfl 6 (by decide) (hts (.fieldLink RX5 31 "SleptMatters$Rows" "able" "[J") (List.mem_cons_of_mem _ (List.mem_append_left _ (List.mem_append_left _ (List.mem_of_getElem? (i := 2) rfl))))) (fun _ h9 => h9) rfl dX5_moveTo_14 ?_
  refine lv_lconst (v := 0) hx hb dX5_moveTo_17 (by decide) ?_
  have hPc := hP.sub (ws' := (c_fillL k r6 200 ab 0)) [2] rfl
  have hDc := hD.sub (ws' := (c_fillL k r6 200 ab 0)) [2] (by decide +kernel) rfl
  refine cl_v (w1 := w_fillL k r6 200 ab 0) (wr := [(h, .inr (5, [.ref r0, .ref r1, .ref tw, .ref nk, .ref r4, .ref r5, .ref r6, .ref r7, .ref r8, .ref r9])), (r4, .inl (k 0, 7, .inl be)), (tw, .inr (8, [.ref t, .ref tn, .ref tl, .ref tc, .ref ta])), (t, .inl (k 0, 4, .inl (cI q))), (tn, .inl (k 4, 4, .inr (.inr (.inr (.inr (gr4 rw)))))), ((rw 0), .inl (k 0, 80, .inl G0)), (r5, .inl (k 0, 100, .inl (fl_i lg (-1) 100)))]) (va_runS (As := [.ref r6, .long 0]) (rest := []) ⟨hx, hb, hml, hown, hts⟩ (fillL l D k H.size r6 200 ab 0 (by decide)) (va_cwS 2 hts gX5_moveTo_J7_fill_d0a16 rfl rfl rfl (by decide +kernel) ⟨Nat.le_of_ble_eq_true rfl, Nat.le_of_ble_eq_true rfl⟩) ⟨PR.blind _ _ _ _ _, PR.pre hPc hDc hG [.ref r6, .long 0]⟩ rfl rfl hl.1 rfl (lv_room (Nat.le_of_ble_eq_true rfl)) dX5_moveTo_18 ⟨Nat.le_of_ble_eq_true rfl, Nat.le_of_ble_eq_true rfl⟩) hP hD hS hA [2] [0, 1, 3, 4, 5, 6, 7] rfl rfl (by decide +kernel) (by decide +kernel) (fun u H locs hq hP hD hS => ?_)
  cases u
  have hP : va_P D vwCl [(h, .inr (5, [.ref r0, .ref r1, .ref tw, .ref nk, .ref r4, .ref r5, .ref r6, .ref r7, .ref r8, .ref r9])), (r4, .inl (k 0, 7, .inl be)), (tw, .inr (8, [.ref t, .ref tn, .ref tl, .ref tc, .ref ta])), (t, .inl (k 0, 4, .inl (cI q))), (tn, .inl (k 4, 4, .inr (.inr (.inr (.inr (gr4 rw)))))), ((rw 0), .inl (k 0, 80, .inl G0)), (r5, .inl (k 0, 100, .inl (fl_i lg (-1) 100))), (r6, .inl (k 1, 200, .inr (.inl (fl_l ab 0 200))))] H := hP
  have hD : va_D A [(h, .inr (5, [.ref r0, .ref r1, .ref tw, .ref nk, .ref r4, .ref r5, .ref r6, .ref r7, .ref r8, .ref r9])), (r4, .inl (k 0, 7, .inl be)), (tw, .inr (8, [.ref t, .ref tn, .ref tl, .ref tc, .ref ta])), (t, .inl (k 0, 4, .inl (cI q))), (tn, .inl (k 4, 4, .inr (.inr (.inr (.inr (gr4 rw)))))), ((rw 0), .inl (k 0, 80, .inl G0)), (r5, .inl (k 0, 100, .inl (fl_i lg (-1) 100))), (r6, .inl (k 1, 200, .inr (.inl (fl_l ab 0 200))))] := hD
  refine lv_iconst (v := 0) hx hb dX5_moveTo_21 (by decide) ?_
  refine lv_istore_n (lv' := [(2, .int 0), (0, .ref h), (1, .ref tw)]) hx hb dX5_moveTo_22 rfl hl (by decide) rfl (fun ls hl => ?_)
  have L1 : ∀ (fu9 : Nat) (i : Nat) (be9 : Nat → Int32), (i ≤ 7) → (∀ h9, h9 < i → h9 < q 0 → be9 h9 = G0 (h9 * 4 + 1)) → 7 - i < fu9 → ∀ (H : Heap) (locs : List Loc), va_P D vwCl [(h, .inr (5, [.ref r0, .ref r1, .ref tw, .ref nk, .ref r4, .ref r5, .ref r6, .ref r7, .ref r8, .ref r9])), (r4, .inl (k 0, 7, .inl be9)), (tw, .inr (8, [.ref t, .ref tn, .ref tl, .ref tc, .ref ta])), (t, .inl (k 0, 4, .inl (cI q))), (tn, .inl (k 4, 4, .inr (.inr (.inr (.inr (gr4 rw)))))), ((rw 0), .inl (k 0, 80, .inl G0)), (r5, .inl (k 0, 100, .inl (fl_i lg (-1) 100))), (r6, .inl (k 1, 200, .inr (.inl (fl_l ab 0 200))))] H → va_D A [(h, .inr (5, [.ref r0, .ref r1, .ref tw, .ref nk, .ref r4, .ref r5, .ref r6, .ref r7, .ref r8, .ref r9])), (r4, .inl (k 0, 7, .inl be9)), (tw, .inr (8, [.ref t, .ref tn, .ref tl, .ref tc, .ref ta])), (t, .inl (k 0, 4, .inl (cI q))), (tn, .inl (k 4, 4, .inr (.inr (.inr (.inr (gr4 rw)))))), ((rw 0), .inl (k 0, 80, .inl G0)), (r5, .inl (k 0, 100, .inl (fl_i lg (-1) 100))), (r6, .inl (k 1, 200, .inr (.inl (fl_l ab 0 200))))] → va_S A s.heap H locs → ∀ (ls : Array Slot), lv_has ls 3 [(2, .int (nI i)), (0, .ref h), (1, .ref tw)] → W p l e r_X5_moveTo s m ([.ref h, .ref tw] : List Value).toArray below meth c H locs 0 0 (MQ below (q_X5_moveTo D k h r0 r1 t0 nk r4 r5 r6 r7 r8 r9 tw t tn tl tc ta rw q G0 be lg ab A) ([.ref h, .ref tw] : List Value).toArray s 0 0 A) (F0 m 23 ls []) := by
    intro fu9
    induction fu9 with
    | zero => intro i be9 hi hBE hmu; exact absurd hmu (Nat.not_lt_zero _)
    | succ fu9 ih =>
      intro i be9 hi hBE hmu H locs hP hD hS ls hl
      refine lv_iload_n hx hb dX5_moveTo_23 rfl (lv_at hl 0 rfl) ?_
      refine lv_bipush (v := 7) hx hb dX5_moveTo_24 (by decide) ?_
      refine bn_ge (i := i) (j := 7) (tgt := 48) hx hb dX5_moveTo_26 (by decide) (by omega) (by omega) (fun c2 => ?_) (fun c2 => ?_)
      · skip
        have hP9 := hP.sub (ws' := [(h, .inr (5, [.ref r0, .ref r1, .ref tw, .ref nk, .ref r4, .ref r5, .ref r6, .ref r7, .ref r8, .ref r9])), (r4, .inl (k 0, 7, .inl be9)), (r5, .inl (k 0, 100, .inl (fl_i lg (-1) 100))), (r6, .inl (k 1, 200, .inr (.inl (fl_l ab 0 200)))), (tw, .inr (8, [.ref t, .ref tn, .ref tl, .ref tc, .ref ta])), (t, .inl (k 0, 4, .inl (cI q))), (tn, .inl (k 4, 4, .inr (.inr (.inr (.inr (gr4 rw)))))), ((rw 0), .inl (k 0, 80, .inl G0))]) [0, 1, 6, 7, 2, 3, 4, 5] rfl
        have hD9 := hD.sub (ws' := [(h, .inr (5, [.ref r0, .ref r1, .ref tw, .ref nk, .ref r4, .ref r5, .ref r6, .ref r7, .ref r8, .ref r9])), (r4, .inl (k 0, 7, .inl be9)), (r5, .inl (k 0, 100, .inl (fl_i lg (-1) 100))), (r6, .inl (k 1, 200, .inr (.inl (fl_l ab 0 200)))), (tw, .inr (8, [.ref t, .ref tn, .ref tl, .ref tc, .ref ta])), (t, .inl (k 0, 4, .inl (cI q))), (tn, .inl (k 4, 4, .inr (.inr (.inr (.inr (gr4 rw)))))), ((rw 0), .inl (k 0, 80, .inl G0))]) [0, 1, 6, 7, 2, 3, 4, 5] (by decide +kernel) rfl
        exact W.vret hx hb hr (fun t9 ht _ => ⟨⟨(be9), rfl, fun h9 a9 => hBE h9 (by omega) a9, by rw [ht]; exact hP9, hD9⟩, hS.F ht⟩) hS.2.2 dX5_moveTo_48
      · skip
        refine lv_aload_n hx hb dX5_moveTo_29 rfl (lv_at hl 1 rfl) ?_
        refine va_get (D := D) (ci := 5) (v := .ref r4) (C := RX5) (T := TX5) (N := 10) hx hb hts hi5 hown hG.1 hP 0 rfl rfl 4 (by decide) (hts (.fieldLink RX5 25 "SleptMatters$Rows" "beds" "[I") (List.mem_cons_of_mem _ (List.mem_append_left _ (List.mem_append_left _ (List.mem_of_getElem? (i := 3) rfl))))) (fun _ h9 => h9) rfl dX5_moveTo_30 ?_
        refine lv_iload_n hx hb dX5_moveTo_33 rfl (lv_at hl 0 rfl) ?_
        refine lv_aload_n hx hb dX5_moveTo_34 rfl (lv_at hl 2 rfl) ?_
        refine lv_iconst (v := 0) hx hb dX5_moveTo_35 (by decide) ?_
        refine lv_iload_n hx hb dX5_moveTo_36 rfl (lv_at hl 0 rfl) ?_
        refine lv_iconst (v := 1) hx hb dX5_moveTo_37 (by decide) ?_
        have hPc := hP.sub (ws' := (c_X8_part0 k tw t tn tl tc ta rw q G0 (nI i) 1)) [2, 3, 4, 5] rfl
        refine vp_callSi (va_Run.run (va_runV (As := [.int 0, .int (nI i), .int 1]) (rest := [.int (nI i), .ref r4]) ⟨hx, hb, hml, hown, hts⟩ (X8_part0 l D k tw t tn tl tc ta rw q G0 (nI i) 1 (by omega) (by decide)) (cwV 3 hts gX5_moveTo_X8_part rfl rfl rfl (by decide +kernel) ⟨Nat.le_of_ble_eq_true rfl, Nat.le_of_ble_eq_true rfl⟩) ⟨PS.blind _ _ _ _, va_recv hG.1 hP (ci := 8) (q0 := 2) rfl rfl, PS.pre hPc hG [.ref tw, .int 0, .int (nI i), .int 1]⟩ rfl rfl hl.1 rfl (lv_room (Nat.le_of_ble_eq_true rfl)) dX5_moveTo_38 ⟨Nat.le_of_ble_eq_true rfl, Nat.le_of_ble_eq_true rfl⟩)) (fun r hq => ?_)
        generalize r = y3 at hq ⊢
        have hq : y3 = pt (q 0) G0 (nI i) 1 := hq
        refine tp_i (y := pt (q 0) G0 (nI i) 1) (hq) ?_
        refine va_iast hx hb hG.1 hP hD hS 1 0 rfl rfl (vp_in_nI (by omega) (by omega)) dX5_moveTo_41 (fun H locs hP hD hS => ?_)
        rw [nI_clamp (n := i) (by omega)] at hP hD
        have hP : va_P D vwCl [(h, .inr (5, [.ref r0, .ref r1, .ref tw, .ref nk, .ref r4, .ref r5, .ref r6, .ref r7, .ref r8, .ref r9])), (r4, .inl (k 0, 7, .inl (upd be9 i (pt (q 0) G0 (nI i) 1)))), (tw, .inr (8, [.ref t, .ref tn, .ref tl, .ref tc, .ref ta])), (t, .inl (k 0, 4, .inl (cI q))), (tn, .inl (k 4, 4, .inr (.inr (.inr (.inr (gr4 rw)))))), ((rw 0), .inl (k 0, 80, .inl G0)), (r5, .inl (k 0, 100, .inl (fl_i lg (-1) 100))), (r6, .inl (k 1, 200, .inr (.inl (fl_l ab 0 200))))] H := hP
        have hD : va_D A [(h, .inr (5, [.ref r0, .ref r1, .ref tw, .ref nk, .ref r4, .ref r5, .ref r6, .ref r7, .ref r8, .ref r9])), (r4, .inl (k 0, 7, .inl (upd be9 i (pt (q 0) G0 (nI i) 1)))), (tw, .inr (8, [.ref t, .ref tn, .ref tl, .ref tc, .ref ta])), (t, .inl (k 0, 4, .inl (cI q))), (tn, .inl (k 4, 4, .inr (.inr (.inr (.inr (gr4 rw)))))), ((rw 0), .inl (k 0, 80, .inl G0)), (r5, .inl (k 0, 100, .inl (fl_i lg (-1) 100))), (r6, .inl (k 1, 200, .inr (.inl (fl_l ab 0 200))))] := hD
        refine lv_iinc (v := nI (i + 1)) (lv' := [(2, .int (nI (i + 1))), (0, .ref h), (1, .ref tw)]) hx hb dX5_moveTo_42 hl (k := 0) rfl (nI_add i 1) (by decide) rfl (fun ls hl => ?_)
        refine lv_goto (tgt := 23) hx hb dX5_moveTo_45 (by decide) ?_
        exact ih (i + 1) (upd be9 i (pt (q 0) G0 (nI i) 1)) (by omega) (fun h9 a9 b9 => by by_cases q8 : h9 = i; rw [q8, pk_us]; rw [q8] at b9; exact pt_in b9 (by omega); rw [pk_un q8]; exact hBE h9 (by omega) b9) (by omega) _ _ (hP.sub [0, 1, 2, 3, 4, 5, 6, 7] rfl) (hD.sub [0, 1, 2, 3, 4, 5, 6, 7] (by decide +kernel) rfl) hS ls (lv_sub hl [0, 1, 2] rfl)
  exact L1 _ 0 be (Nat.zero_le _) (fun h9 a9 => absurd a9 (Nat.not_lt_zero h9)) (Nat.lt_succ_self _) _ _ hP hD hS ls (lv_sub hl [0, 1, 2] rfl)
