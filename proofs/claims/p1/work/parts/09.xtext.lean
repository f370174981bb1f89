theorem dX7_startReading_0 : decode cX7_startReading 0 = .ok (.aload_n 0, 1) := by decide +kernel
theorem dX7_startReading_1 : decode cX7_startReading 1 = .ok (.iconst 0, 1) := by decide +kernel
theorem dX7_startReading_2 : decode cX7_startReading 2 = .ok (.putfield 34, 3) := by decide +kernel
theorem dX7_startReading_5 : decode cX7_startReading 5 = .ok (.aload_n 0, 1) := by decide +kernel
theorem dX7_startReading_6 : decode cX7_startReading 6 = .ok (.iconst 0, 1) := by decide +kernel
theorem dX7_startReading_7 : decode cX7_startReading 7 = .ok (.putfield 25, 3) := by decide +kernel
theorem dX7_startReading_10 : decode cX7_startReading 10 = .ok (.aload_n 0, 1) := by decide +kernel
theorem dX7_startReading_11 : decode cX7_startReading 11 = .ok (.iconst (-1), 1) := by decide +kernel
theorem dX7_startReading_12 : decode cX7_startReading 12 = .ok (.putfield 28, 3) := by decide +kernel
theorem dX7_startReading_15 : decode cX7_startReading 15 = .ok (.return_, 1) := by decide +kernel
theorem dX7_isFaulty_0 : decode cX7_isFaulty 0 = .ok (.aload_n 0, 1) := by decide +kernel
theorem dX7_isFaulty_1 : decode cX7_isFaulty 1 = .ok (.getfield 25, 3) := by decide +kernel
theorem dX7_isFaulty_4 : decode cX7_isFaulty 4 = .ok (.ifCond .eq 7, 3) := by decide +kernel
theorem dX7_isFaulty_7 : decode cX7_isFaulty 7 = .ok (.iconst 1, 1) := by decide +kernel
theorem dX7_isFaulty_8 : decode cX7_isFaulty 8 = .ok (.goto 4, 3) := by decide +kernel
theorem dX7_isFaulty_11 : decode cX7_isFaulty 11 = .ok (.iconst 0, 1) := by decide +kernel
theorem dX7_isFaulty_12 : decode cX7_isFaulty 12 = .ok (.ireturn, 1) := by decide +kernel
theorem dX7_skipBlanks_0 : decode cX7_skipBlanks 0 = .ok (.aload_n 0, 1) := by decide +kernel
theorem dX7_skipBlanks_1 : decode cX7_skipBlanks 1 = .ok (.getfield 34, 3) := by decide +kernel
theorem dX7_skipBlanks_4 : decode cX7_skipBlanks 4 = .ok (.aload_n 0, 1) := by decide +kernel
theorem dX7_skipBlanks_5 : decode cX7_skipBlanks 5 = .ok (.getfield 15, 3) := by decide +kernel
theorem dX7_skipBlanks_8 : decode cX7_skipBlanks 8 = .ok (.if_icmp .ge 30, 3) := by decide +kernel
theorem dX7_skipBlanks_11 : decode cX7_skipBlanks 11 = .ok (.aload_n 0, 1) := by decide +kernel
theorem dX7_skipBlanks_12 : decode cX7_skipBlanks 12 = .ok (.getfield 9, 3) := by decide +kernel
theorem dX7_skipBlanks_15 : decode cX7_skipBlanks 15 = .ok (.aload_n 0, 1) := by decide +kernel
theorem dX7_skipBlanks_16 : decode cX7_skipBlanks 16 = .ok (.getfield 34, 3) := by decide +kernel
theorem dX7_skipBlanks_19 : decode cX7_skipBlanks 19 = .ok (.iaload, 1) := by decide +kernel
theorem dX7_skipBlanks_20 : decode cX7_skipBlanks 20 = .ok (.bipush 32, 2) := by decide +kernel
theorem dX7_skipBlanks_22 : decode cX7_skipBlanks 22 = .ok (.if_icmp .ne 16, 3) := by decide +kernel
theorem dX7_skipBlanks_25 : decode cX7_skipBlanks 25 = .ok (.aload_n 0, 1) := by decide +kernel
theorem dX7_skipBlanks_26 : decode cX7_skipBlanks 26 = .ok (.dup, 1) := by decide +kernel
theorem dX7_skipBlanks_27 : decode cX7_skipBlanks 27 = .ok (.getfield 34, 3) := by decide +kernel
theorem dX7_skipBlanks_30 : decode cX7_skipBlanks 30 = .ok (.iconst 1, 1) := by decide +kernel
theorem dX7_skipBlanks_31 : decode cX7_skipBlanks 31 = .ok (.iadd, 1) := by decide +kernel
theorem dX7_skipBlanks_32 : decode cX7_skipBlanks 32 = .ok (.putfield 34, 3) := by decide +kernel
theorem dX7_skipBlanks_35 : decode cX7_skipBlanks 35 = .ok (.goto (-35), 3) := by decide +kernel
theorem dX7_skipBlanks_38 : decode cX7_skipBlanks 38 = .ok (.return_, 1) := by decide +kernel
set_option maxRecDepth 20000 in
theorem ggX7_hasMore_X7_skipBlanks : GoodIn wsX7_hasMore wsX7_skipBlanks := goodIn_r _ [7, 1, 2, 8, 9, 10, 11, 12, 13, 14, 15, 16] rfl (by decide +kernel)
set_option maxRecDepth 20000 in
theorem gX7_hasMore_X7_skipBlanks : GoodIn wsX7_hasMore (wsV RX7 43 RX7 yX7_skipBlanks wsX7_skipBlanks) := goodIn_app (goodIn_of _ (by decide +kernel)) ggX7_hasMore_X7_skipBlanks
theorem dX7_hasMore_0 : decode cX7_hasMore 0 = .ok (.aload_n 0, 1) := by decide +kernel
theorem dX7_hasMore_1 : decode cX7_hasMore 1 = .ok (.invokevirtual 43, 3) := by decide +kernel
theorem dX7_hasMore_4 : decode cX7_hasMore 4 = .ok (.aload_n 0, 1) := by decide +kernel
theorem dX7_hasMore_5 : decode cX7_hasMore 5 = .ok (.getfield 34, 3) := by decide +kernel
theorem dX7_hasMore_8 : decode cX7_hasMore 8 = .ok (.aload_n 0, 1) := by decide +kernel
theorem dX7_hasMore_9 : decode cX7_hasMore 9 = .ok (.getfield 15, 3) := by decide +kernel
theorem dX7_hasMore_12 : decode cX7_hasMore 12 = .ok (.if_icmp .ge 7, 3) := by decide +kernel
theorem dX7_hasMore_15 : decode cX7_hasMore 15 = .ok (.iconst 1, 1) := by decide +kernel
theorem dX7_hasMore_16 : decode cX7_hasMore 16 = .ok (.goto 4, 3) := by decide +kernel
theorem dX7_hasMore_19 : decode cX7_hasMore 19 = .ok (.iconst 0, 1) := by decide +kernel
theorem dX7_hasMore_20 : decode cX7_hasMore 20 = .ok (.ireturn, 1) := by decide +kernel
set_option maxRecDepth 20000 in
theorem ggX8_sumNoise_J7_fill_53178 : GoodIn wsX8_sumNoise wsJ7_fill_53178 := goodIn_r _ [6] rfl (by decide +kernel)
set_option maxRecDepth 20000 in
theorem gX8_sumNoise_J7_fill_53178 : GoodIn wsX8_sumNoise (va_wsS RX8 33 yJ7_fill_53178 wsJ7_fill_53178) := goodIn_app (goodIn_of _ (by decide +kernel)) ggX8_sumNoise_J7_fill_53178
set_option maxRecDepth 20000 in
theorem ggX8_sumNoise_X8_part : GoodIn wsX8_sumNoise wsX8_part := goodIn_r _ [11, 12, 13, 14, 15, 10, 16, 2, 17, 18, 19, 20, 21] rfl (by decide +kernel)
set_option maxRecDepth 20000 in
theorem gX8_sumNoise_X8_part : GoodIn wsX8_sumNoise (wsV RX8 120 RX8 yX8_part wsX8_part) := goodIn_app (goodIn_of _ (by decide +kernel)) ggX8_sumNoise_X8_part
theorem dX8_sumNoise_0 : decode cX8_sumNoise 0 = .ok (.aload_n 0, 1) := by decide +kernel
theorem dX8_sumNoise_1 : decode cX8_sumNoise 1 = .ok (.getfield 20, 3) := by decide +kernel
theorem dX8_sumNoise_4 : decode cX8_sumNoise 4 = .ok (.iconst 0, 1) := by decide +kernel
theorem dX8_sumNoise_5 : decode cX8_sumNoise 5 = .ok (.invokestatic 33, 3) := by decide +kernel
theorem dX8_sumNoise_8 : decode cX8_sumNoise 8 = .ok (.iconst 0, 1) := by decide +kernel
theorem dX8_sumNoise_9 : decode cX8_sumNoise 9 = .ok (.istore_n 1, 1) := by decide +kernel
theorem dX8_sumNoise_10 : decode cX8_sumNoise 10 = .ok (.iload_n 1, 1) := by decide +kernel
theorem dX8_sumNoise_11 : decode cX8_sumNoise 11 = .ok (.aload_n 0, 1) := by decide +kernel
theorem dX8_sumNoise_12 : decode cX8_sumNoise 12 = .ok (.getfield 9, 3) := by decide +kernel
theorem dX8_sumNoise_15 : decode cX8_sumNoise 15 = .ok (.iconst 2, 1) := by decide +kernel
theorem dX8_sumNoise_16 : decode cX8_sumNoise 16 = .ok (.iaload, 1) := by decide +kernel
theorem dX8_sumNoise_17 : decode cX8_sumNoise 17 = .ok (.if_icmp .ge 68, 3) := by decide +kernel
theorem dX8_sumNoise_20 : decode cX8_sumNoise 20 = .ok (.aload_n 0, 1) := by decide +kernel
theorem dX8_sumNoise_21 : decode cX8_sumNoise 21 = .ok (.iconst 2, 1) := by decide +kernel
theorem dX8_sumNoise_22 : decode cX8_sumNoise 22 = .ok (.iload_n 1, 1) := by decide +kernel
theorem dX8_sumNoise_23 : decode cX8_sumNoise 23 = .ok (.iconst 0, 1) := by decide +kernel
theorem dX8_sumNoise_24 : decode cX8_sumNoise 24 = .ok (.invokevirtual 120, 3) := by decide +kernel
theorem dX8_sumNoise_27 : decode cX8_sumNoise 27 = .ok (.bipush 100, 2) := by decide +kernel
theorem dX8_sumNoise_29 : decode cX8_sumNoise 29 = .ok (.imul, 1) := by decide +kernel
theorem dX8_sumNoise_30 : decode cX8_sumNoise 30 = .ok (.istore_n 2, 1) := by decide +kernel
theorem dX8_sumNoise_31 : decode cX8_sumNoise 31 = .ok (.aload_n 0, 1) := by decide +kernel
theorem dX8_sumNoise_32 : decode cX8_sumNoise 32 = .ok (.iconst 2, 1) := by decide +kernel
theorem dX8_sumNoise_33 : decode cX8_sumNoise 33 = .ok (.iload_n 1, 1) := by decide +kernel
theorem dX8_sumNoise_34 : decode cX8_sumNoise 34 = .ok (.iconst 2, 1) := by decide +kernel
theorem dX8_sumNoise_35 : decode cX8_sumNoise 35 = .ok (.invokevirtual 120, 3) := by decide +kernel
theorem dX8_sumNoise_38 : decode cX8_sumNoise 38 = .ok (.istore_n 3, 1) := by decide +kernel
theorem dX8_sumNoise_39 : decode cX8_sumNoise 39 = .ok (.aload_n 0, 1) := by decide +kernel
theorem dX8_sumNoise_40 : decode cX8_sumNoise 40 = .ok (.iconst 2, 1) := by decide +kernel
theorem dX8_sumNoise_41 : decode cX8_sumNoise 41 = .ok (.iload_n 1, 1) := by decide +kernel
theorem dX8_sumNoise_42 : decode cX8_sumNoise 42 = .ok (.iconst 1, 1) := by decide +kernel
theorem dX8_sumNoise_43 : decode cX8_sumNoise 43 = .ok (.invokevirtual 120, 3) := by decide +kernel
theorem dX8_sumNoise_46 : decode cX8_sumNoise 46 = .ok (.istore 4, 2) := by decide +kernel
theorem dX8_sumNoise_48 : decode cX8_sumNoise 48 = .ok (.iload 4, 2) := by decide +kernel
theorem dX8_sumNoise_50 : decode cX8_sumNoise 50 = .ok (.iload_n 3, 1) := by decide +kernel
theorem dX8_sumNoise_51 : decode cX8_sumNoise 51 = .ok (.if_icmp .gt 28, 3) := by decide +kernel
theorem dX8_sumNoise_54 : decode cX8_sumNoise 54 = .ok (.aload_n 0, 1) := by decide +kernel
theorem dX8_sumNoise_55 : decode cX8_sumNoise 55 = .ok (.getfield 20, 3) := by decide +kernel
theorem dX8_sumNoise_58 : decode cX8_sumNoise 58 = .ok (.iload_n 2, 1) := by decide +kernel
theorem dX8_sumNoise_59 : decode cX8_sumNoise 59 = .ok (.iload 4, 2) := by decide +kernel
theorem dX8_sumNoise_61 : decode cX8_sumNoise 61 = .ok (.iadd, 1) := by decide +kernel
theorem dX8_sumNoise_62 : decode cX8_sumNoise 62 = .ok (.dup2, 1) := by decide +kernel
theorem dX8_sumNoise_63 : decode cX8_sumNoise 63 = .ok (.iaload, 1) := by decide +kernel
theorem dX8_sumNoise_64 : decode cX8_sumNoise 64 = .ok (.aload_n 0, 1) := by decide +kernel
theorem dX8_sumNoise_65 : decode cX8_sumNoise 65 = .ok (.iconst 2, 1) := by decide +kernel
theorem dX8_sumNoise_66 : decode cX8_sumNoise 66 = .ok (.iload_n 1, 1) := by decide +kernel
theorem dX8_sumNoise_67 : decode cX8_sumNoise 67 = .ok (.iconst 3, 1) := by decide +kernel
theorem dX8_sumNoise_68 : decode cX8_sumNoise 68 = .ok (.invokevirtual 120, 3) := by decide +kernel
theorem dX8_sumNoise_71 : decode cX8_sumNoise 71 = .ok (.iadd, 1) := by decide +kernel
theorem dX8_sumNoise_72 : decode cX8_sumNoise 72 = .ok (.iastore, 1) := by decide +kernel
theorem dX8_sumNoise_73 : decode cX8_sumNoise 73 = .ok (.iinc 4 1, 3) := by decide +kernel
theorem dX8_sumNoise_76 : decode cX8_sumNoise 76 = .ok (.goto (-28), 3) := by decide +kernel
theorem dX8_sumNoise_79 : decode cX8_sumNoise 79 = .ok (.iinc 1 1, 3) := by decide +kernel
theorem dX8_sumNoise_82 : decode cX8_sumNoise 82 = .ok (.goto (-72), 3) := by decide +kernel
theorem dX8_sumNoise_85 : decode cX8_sumNoise 85 = .ok (.return_, 1) := by decide +kernel
set_option maxRecDepth 20000 in
theorem ggX8_findCalm_X8_isWoken : GoodIn wsX8_findCalm wsX8_isWoken := goodIn_r _ [7, 8, 9, 10, 6, 11, 12, 13, 14, 15, 16, 1, 17, 18, 19, 20, 21, 22, 23, 24, 25, 26] rfl (by decide +kernel)
set_option maxRecDepth 20000 in
theorem gX8_findCalm_X8_isWoken : GoodIn wsX8_findCalm (wsV RX8 124 RX8 yX8_isWoken wsX8_isWoken) := goodIn_app (goodIn_of _ (by decide +kernel)) ggX8_findCalm_X8_isWoken
theorem dX8_findCalm_0 : decode cX8_findCalm 0 = .ok (.iconst 0, 1) := by decide +kernel
theorem dX8_findCalm_1 : decode cX8_findCalm 1 = .ok (.istore_n 1, 1) := by decide +kernel
theorem dX8_findCalm_2 : decode cX8_findCalm 2 = .ok (.iload_n 1, 1) := by decide +kernel
theorem dX8_findCalm_3 : decode cX8_findCalm 3 = .ok (.bipush 100, 2) := by decide +kernel
theorem dX8_findCalm_5 : decode cX8_findCalm 5 = .ok (.if_icmp .ge 79, 3) := by decide +kernel
theorem dX8_findCalm_8 : decode cX8_findCalm 8 = .ok (.iconst 0, 1) := by decide +kernel
theorem dX8_findCalm_9 : decode cX8_findCalm 9 = .ok (.istore_n 2, 1) := by decide +kernel
theorem dX8_findCalm_10 : decode cX8_findCalm 10 = .ok (.iload_n 2, 1) := by decide +kernel
theorem dX8_findCalm_11 : decode cX8_findCalm 11 = .ok (.aload_n 0, 1) := by decide +kernel
theorem dX8_findCalm_12 : decode cX8_findCalm 12 = .ok (.getfield 9, 3) := by decide +kernel
theorem dX8_findCalm_15 : decode cX8_findCalm 15 = .ok (.iconst 1, 1) := by decide +kernel
theorem dX8_findCalm_16 : decode cX8_findCalm 16 = .ok (.iaload, 1) := by decide +kernel
theorem dX8_findCalm_17 : decode cX8_findCalm 17 = .ok (.if_icmp .ge 61, 3) := by decide +kernel
theorem dX8_findCalm_20 : decode cX8_findCalm 20 = .ok (.iconst 0, 1) := by decide +kernel
theorem dX8_findCalm_21 : decode cX8_findCalm 21 = .ok (.istore_n 3, 1) := by decide +kernel
theorem dX8_findCalm_22 : decode cX8_findCalm 22 = .ok (.iconst 0, 1) := by decide +kernel
theorem dX8_findCalm_23 : decode cX8_findCalm 23 = .ok (.istore 4, 2) := by decide +kernel
theorem dX8_findCalm_25 : decode cX8_findCalm 25 = .ok (.iload 4, 2) := by decide +kernel
theorem dX8_findCalm_27 : decode cX8_findCalm 27 = .ok (.aload_n 0, 1) := by decide +kernel
theorem dX8_findCalm_28 : decode cX8_findCalm 28 = .ok (.getfield 9, 3) := by decide +kernel
theorem dX8_findCalm_31 : decode cX8_findCalm 31 = .ok (.iconst 0, 1) := by decide +kernel
theorem dX8_findCalm_32 : decode cX8_findCalm 32 = .ok (.iaload, 1) := by decide +kernel
theorem dX8_findCalm_33 : decode cX8_findCalm 33 = .ok (.if_icmp .ge 27, 3) := by decide +kernel
theorem dX8_findCalm_36 : decode cX8_findCalm 36 = .ok (.aload_n 0, 1) := by decide +kernel
theorem dX8_findCalm_37 : decode cX8_findCalm 37 = .ok (.iload_n 2, 1) := by decide +kernel
theorem dX8_findCalm_38 : decode cX8_findCalm 38 = .ok (.iload 4, 2) := by decide +kernel
theorem dX8_findCalm_40 : decode cX8_findCalm 40 = .ok (.iload_n 1, 1) := by decide +kernel
theorem dX8_findCalm_41 : decode cX8_findCalm 41 = .ok (.invokevirtual 124, 3) := by decide +kernel
theorem dX8_findCalm_44 : decode cX8_findCalm 44 = .ok (.ifCond .ne 10, 3) := by decide +kernel
theorem dX8_findCalm_47 : decode cX8_findCalm 47 = .ok (.iload_n 3, 1) := by decide +kernel
theorem dX8_findCalm_48 : decode cX8_findCalm 48 = .ok (.iconst 1, 1) := by decide +kernel
theorem dX8_findCalm_49 : decode cX8_findCalm 49 = .ok (.iload 4, 2) := by decide +kernel
theorem dX8_findCalm_51 : decode cX8_findCalm 51 = .ok (.ishl, 1) := by decide +kernel
theorem dX8_findCalm_52 : decode cX8_findCalm 52 = .ok (.ior, 1) := by decide +kernel
theorem dX8_findCalm_53 : decode cX8_findCalm 53 = .ok (.istore_n 3, 1) := by decide +kernel
theorem dX8_findCalm_54 : decode cX8_findCalm 54 = .ok (.iinc 4 1, 3) := by decide +kernel
theorem dX8_findCalm_57 : decode cX8_findCalm 57 = .ok (.goto (-32), 3) := by decide +kernel
theorem dX8_findCalm_60 : decode cX8_findCalm 60 = .ok (.aload_n 0, 1) := by decide +kernel
theorem dX8_findCalm_61 : decode cX8_findCalm 61 = .ok (.getfield 23, 3) := by decide +kernel
theorem dX8_findCalm_64 : decode cX8_findCalm 64 = .ok (.iload_n 1, 1) := by decide +kernel
theorem dX8_findCalm_65 : decode cX8_findCalm 65 = .ok (.bipush 7, 2) := by decide +kernel
theorem dX8_findCalm_67 : decode cX8_findCalm 67 = .ok (.imul, 1) := by decide +kernel
theorem dX8_findCalm_68 : decode cX8_findCalm 68 = .ok (.iload_n 2, 1) := by decide +kernel
theorem dX8_findCalm_69 : decode cX8_findCalm 69 = .ok (.iadd, 1) := by decide +kernel
theorem dX8_findCalm_70 : decode cX8_findCalm 70 = .ok (.iload_n 3, 1) := by decide +kernel
theorem dX8_findCalm_71 : decode cX8_findCalm 71 = .ok (.iastore, 1) := by decide +kernel
theorem dX8_findCalm_72 : decode cX8_findCalm 72 = .ok (.iinc 2 1, 3) := by decide +kernel
theorem dX8_findCalm_75 : decode cX8_findCalm 75 = .ok (.goto (-65), 3) := by decide +kernel
theorem dX8_findCalm_78 : decode cX8_findCalm 78 = .ok (.iinc 1 1, 3) := by decide +kernel
theorem dX8_findCalm_81 : decode cX8_findCalm 81 = .ok (.goto (-79), 3) := by decide +kernel
theorem dX8_findCalm_84 : decode cX8_findCalm 84 = .ok (.return_, 1) := by decide +kernel
theorem dX8_isLikeTheDayAhead_0 : decode cX8_isLikeTheDayAhead 0 = .ok (.iload_n 1, 1) := by decide +kernel
theorem dX8_isLikeTheDayAhead_1 : decode cX8_isLikeTheDayAhead 1 = .ok (.bipush 7, 2) := by decide +kernel
theorem dX8_isLikeTheDayAhead_3 : decode cX8_isLikeTheDayAhead 3 = .ok (.imul, 1) := by decide +kernel
theorem dX8_isLikeTheDayAhead_4 : decode cX8_isLikeTheDayAhead 4 = .ok (.istore_n 2, 1) := by decide +kernel
theorem dX8_isLikeTheDayAhead_5 : decode cX8_isLikeTheDayAhead 5 = .ok (.iconst 0, 1) := by decide +kernel
theorem dX8_isLikeTheDayAhead_6 : decode cX8_isLikeTheDayAhead 6 = .ok (.istore_n 3, 1) := by decide +kernel
theorem dX8_isLikeTheDayAhead_7 : decode cX8_isLikeTheDayAhead 7 = .ok (.iload_n 3, 1) := by decide +kernel
theorem dX8_isLikeTheDayAhead_8 : decode cX8_isLikeTheDayAhead 8 = .ok (.aload_n 0, 1) := by decide +kernel
theorem dX8_isLikeTheDayAhead_9 : decode cX8_isLikeTheDayAhead 9 = .ok (.getfield 9, 3) := by decide +kernel
theorem dX8_isLikeTheDayAhead_12 : decode cX8_isLikeTheDayAhead 12 = .ok (.iconst 1, 1) := by decide +kernel
theorem dX8_isLikeTheDayAhead_13 : decode cX8_isLikeTheDayAhead 13 = .ok (.iaload, 1) := by decide +kernel
theorem dX8_isLikeTheDayAhead_14 : decode cX8_isLikeTheDayAhead 14 = .ok (.if_icmp .ge 33, 3) := by decide +kernel
theorem dX8_isLikeTheDayAhead_17 : decode cX8_isLikeTheDayAhead 17 = .ok (.aload_n 0, 1) := by decide +kernel
theorem dX8_isLikeTheDayAhead_18 : decode cX8_isLikeTheDayAhead 18 = .ok (.getfield 23, 3) := by decide +kernel
theorem dX8_isLikeTheDayAhead_21 : decode cX8_isLikeTheDayAhead 21 = .ok (.iload_n 2, 1) := by decide +kernel
theorem dX8_isLikeTheDayAhead_22 : decode cX8_isLikeTheDayAhead 22 = .ok (.iload_n 3, 1) := by decide +kernel
theorem dX8_isLikeTheDayAhead_23 : decode cX8_isLikeTheDayAhead 23 = .ok (.iadd, 1) := by decide +kernel
theorem dX8_isLikeTheDayAhead_24 : decode cX8_isLikeTheDayAhead 24 = .ok (.iaload, 1) := by decide +kernel
theorem dX8_isLikeTheDayAhead_25 : decode cX8_isLikeTheDayAhead 25 = .ok (.aload_n 0, 1) := by decide +kernel
theorem dX8_isLikeTheDayAhead_26 : decode cX8_isLikeTheDayAhead 26 = .ok (.getfield 23, 3) := by decide +kernel
theorem dX8_isLikeTheDayAhead_29 : decode cX8_isLikeTheDayAhead 29 = .ok (.iload_n 2, 1) := by decide +kernel
theorem dX8_isLikeTheDayAhead_30 : decode cX8_isLikeTheDayAhead 30 = .ok (.bipush 7, 2) := by decide +kernel
theorem dX8_isLikeTheDayAhead_32 : decode cX8_isLikeTheDayAhead 32 = .ok (.isub, 1) := by decide +kernel
theorem dX8_isLikeTheDayAhead_33 : decode cX8_isLikeTheDayAhead 33 = .ok (.iload_n 3, 1) := by decide +kernel
theorem dX8_isLikeTheDayAhead_34 : decode cX8_isLikeTheDayAhead 34 = .ok (.iadd, 1) := by decide +kernel
theorem dX8_isLikeTheDayAhead_35 : decode cX8_isLikeTheDayAhead 35 = .ok (.iaload, 1) := by decide +kernel
theorem dX8_isLikeTheDayAhead_36 : decode cX8_isLikeTheDayAhead 36 = .ok (.if_icmp .eq 5, 3) := by decide +kernel
theorem dX8_isLikeTheDayAhead_39 : decode cX8_isLikeTheDayAhead 39 = .ok (.iconst 0, 1) := by decide +kernel
theorem dX8_isLikeTheDayAhead_40 : decode cX8_isLikeTheDayAhead 40 = .ok (.ireturn, 1) := by decide +kernel
theorem dX8_isLikeTheDayAhead_41 : decode cX8_isLikeTheDayAhead 41 = .ok (.iinc 3 1, 3) := by decide +kernel
theorem dX8_isLikeTheDayAhead_44 : decode cX8_isLikeTheDayAhead 44 = .ok (.goto (-37), 3) := by decide +kernel
theorem dX8_isLikeTheDayAhead_47 : decode cX8_isLikeTheDayAhead 47 = .ok (.iconst 1, 1) := by decide +kernel
theorem dX8_isLikeTheDayAhead_48 : decode cX8_isLikeTheDayAhead 48 = .ok (.ireturn, 1) := by decide +kernel
set_option maxRecDepth 20000 in
theorem ggX8_countAlike_X8_isLikeTheDayAhead : GoodIn wsX8_countAlike wsX8_isLikeTheDayAhead := goodIn_r _ [6, 7, 8, 9, 10, 11, 12, 13] rfl (by decide +kernel)
set_option maxRecDepth 20000 in
theorem gX8_countAlike_X8_isLikeTheDayAhead : GoodIn wsX8_countAlike (wsV RX8 128 RX8 yX8_isLikeTheDayAhead wsX8_isLikeTheDayAhead) := goodIn_app (goodIn_of _ (by decide +kernel)) ggX8_countAlike_X8_isLikeTheDayAhead
theorem dX8_countAlike_0 : decode cX8_countAlike 0 = .ok (.iconst 0, 1) := by decide +kernel
theorem dX8_countAlike_1 : decode cX8_countAlike 1 = .ok (.istore_n 1, 1) := by decide +kernel
theorem dX8_countAlike_2 : decode cX8_countAlike 2 = .ok (.iload_n 1, 1) := by decide +kernel
theorem dX8_countAlike_3 : decode cX8_countAlike 3 = .ok (.bipush 100, 2) := by decide +kernel
theorem dX8_countAlike_5 : decode cX8_countAlike 5 = .ok (.if_icmp .ge 41, 3) := by decide +kernel
theorem dX8_countAlike_8 : decode cX8_countAlike 8 = .ok (.aload_n 0, 1) := by decide +kernel
theorem dX8_countAlike_9 : decode cX8_countAlike 9 = .ok (.getfield 26, 3) := by decide +kernel
theorem dX8_countAlike_12 : decode cX8_countAlike 12 = .ok (.iload_n 1, 1) := by decide +kernel
theorem dX8_countAlike_13 : decode cX8_countAlike 13 = .ok (.iload_n 1, 1) := by decide +kernel
theorem dX8_countAlike_14 : decode cX8_countAlike 14 = .ok (.ifCond .le 24, 3) := by decide +kernel
theorem dX8_countAlike_17 : decode cX8_countAlike 17 = .ok (.aload_n 0, 1) := by decide +kernel
theorem dX8_countAlike_18 : decode cX8_countAlike 18 = .ok (.iload_n 1, 1) := by decide +kernel
theorem dX8_countAlike_19 : decode cX8_countAlike 19 = .ok (.invokevirtual 128, 3) := by decide +kernel
theorem dX8_countAlike_22 : decode cX8_countAlike 22 = .ok (.ifCond .eq 16, 3) := by decide +kernel
theorem dX8_countAlike_25 : decode cX8_countAlike 25 = .ok (.aload_n 0, 1) := by decide +kernel
theorem dX8_countAlike_26 : decode cX8_countAlike 26 = .ok (.getfield 26, 3) := by decide +kernel
theorem dX8_countAlike_29 : decode cX8_countAlike 29 = .ok (.iload_n 1, 1) := by decide +kernel
theorem dX8_countAlike_30 : decode cX8_countAlike 30 = .ok (.iconst 1, 1) := by decide +kernel
theorem dX8_countAlike_31 : decode cX8_countAlike 31 = .ok (.isub, 1) := by decide +kernel
theorem dX8_countAlike_32 : decode cX8_countAlike 32 = .ok (.iaload, 1) := by decide +kernel
theorem dX8_countAlike_33 : decode cX8_countAlike 33 = .ok (.iconst 1, 1) := by decide +kernel
theorem dX8_countAlike_34 : decode cX8_countAlike 34 = .ok (.iadd, 1) := by decide +kernel
theorem dX8_countAlike_35 : decode cX8_countAlike 35 = .ok (.goto 4, 3) := by decide +kernel
theorem dX8_countAlike_38 : decode cX8_countAlike 38 = .ok (.iconst 1, 1) := by decide +kernel
theorem dX8_countAlike_39 : decode cX8_countAlike 39 = .ok (.iastore, 1) := by decide +kernel
theorem dX8_countAlike_40 : decode cX8_countAlike 40 = .ok (.iinc 1 1, 3) := by decide +kernel
theorem dX8_countAlike_43 : decode cX8_countAlike 43 = .ok (.goto (-41), 3) := by decide +kernel
theorem dX8_countAlike_46 : decode cX8_countAlike 46 = .ok (.return_, 1) := by decide +kernel
set_option maxRecDepth 20000 in
theorem ggX8_readFrom_J7_fill_53178 : GoodIn wsX8_readFrom wsJ7_fill_53178 := goodIn_r _ [5] rfl (by decide +kernel)
set_option maxRecDepth 20000 in
theorem gX8_readFrom_J7_fill_53178 : GoodIn wsX8_readFrom (va_wsS RX8 33 yJ7_fill_53178 wsJ7_fill_53178) := goodIn_app (goodIn_of _ (by decide +kernel)) ggX8_readFrom_J7_fill_53178
set_option maxRecDepth 20000 in
theorem ggX8_readFrom_X7_startReading : GoodIn wsX8_readFrom wsX7_startReading := goodIn_r _ [10, 11, 12, 13, 161, 162, 163, 164, 165, 166, 167, 168] rfl (by decide +kernel)
set_option maxRecDepth 20000 in
theorem gX8_readFrom_X7_startReading : GoodIn wsX8_readFrom (wsV RX8 39 RX7 yX7_startReading wsX7_startReading) := goodIn_app (goodIn_of _ (by decide +kernel)) ggX8_readFrom_X7_startReading
set_option maxRecDepth 20000 in
theorem ggX8_readFrom_X7_isFaulty : GoodIn wsX8_readFrom wsX7_isFaulty := goodIn_r _ [17, 12, 161, 162, 163, 164, 165, 166, 167, 168] rfl (by decide +kernel)
set_option maxRecDepth 20000 in
theorem gX8_readFrom_X7_isFaulty : GoodIn wsX8_readFrom (wsV RX8 44 RX7 yX7_isFaulty wsX7_isFaulty) := goodIn_app (goodIn_of _ (by decide +kernel)) ggX8_readFrom_X7_isFaulty
set_option maxRecDepth 20000 in
theorem ggX8_readFrom_X7_hasMore : GoodIn wsX8_readFrom wsX7_hasMore := goodIn_r _ [21, 11, 22, 23, 24, 25, 9, 26, 27, 161, 162, 163, 164, 165, 166, 167, 168] rfl (by decide +kernel)
set_option maxRecDepth 20000 in
theorem gX8_readFrom_X7_hasMore : GoodIn wsX8_readFrom (wsV RX8 48 RX7 yX7_hasMore wsX7_hasMore) := goodIn_app (goodIn_of _ (by decide +kernel)) ggX8_readFrom_X7_hasMore
set_option maxRecDepth 20000 in
theorem ggX8_readFrom_X8_readClause : GoodIn wsX8_readFrom wsX8_readClause := goodIn_r _ [32, 33, 1, 34, 35, 36, 9, 37, 11, 38, 39, 23, 24, 25, 26, 22, 27, 40, 41, 42, 43, 44, 45, 31, 46, 47, 48, 49, 50, 51, 52, 53, 54, 55, 56, 57, 58, 59, 60, 61, 62, 63, 64, 65, 66, 67, 68, 69, 70, 71, 72, 73, 74, 75, 76, 77, 78, 79, 80, 81, 82, 83, 84, 85, 86, 87, 88, 89, 90, 91, 92, 93, 94, 95, 96, 97, 98, 99, 100, 101, 102, 103, 12, 13, 104, 15, 16, 17, 105, 106, 107, 108, 109, 110, 111, 112, 113, 114, 115, 116, 117, 118, 119, 120, 161, 162, 163, 164, 165, 166, 167, 168, 156, 157, 158, 159, 160] rfl (by decide +kernel)
set_option maxRecDepth 20000 in
theorem gX8_readFrom_X8_readClause : GoodIn wsX8_readFrom (wsV RX8 51 RX8 yX8_readClause wsX8_readClause) := goodIn_app (goodIn_of _ (by decide +kernel)) ggX8_readFrom_X8_readClause
set_option maxRecDepth 20000 in
theorem ggX8_readFrom_X8_sumNoise : GoodIn wsX8_readFrom wsX8_sumNoise := goodIn_r _ [124, 125, 1, 2, 3, 4, 5, 126, 127, 128, 31, 129, 110, 130, 131, 132, 133, 156, 157, 158, 159, 160] rfl (by decide +kernel)
set_option maxRecDepth 20000 in
theorem gX8_readFrom_X8_sumNoise : GoodIn wsX8_readFrom (wsV RX8 55 RX8 yX8_sumNoise wsX8_sumNoise) := goodIn_app (goodIn_of _ (by decide +kernel)) ggX8_readFrom_X8_sumNoise
set_option maxRecDepth 20000 in
theorem ggX8_readFrom_X8_findCalm : GoodIn wsX8_readFrom wsX8_findCalm := goodIn_r _ [137, 1, 138, 139, 140, 141, 31, 142, 126, 127, 128, 129, 110, 130, 131, 132, 133, 143, 144, 145, 146, 125, 156, 157, 158, 159, 160] rfl (by decide +kernel)
set_option maxRecDepth 20000 in
theorem gX8_readFrom_X8_findCalm : GoodIn wsX8_readFrom (wsV RX8 58 RX8 yX8_findCalm wsX8_findCalm) := goodIn_app (goodIn_of _ (by decide +kernel)) ggX8_readFrom_X8_findCalm
set_option maxRecDepth 20000 in
theorem ggX8_readFrom_X8_countAlike : GoodIn wsX8_readFrom wsX8_countAlike := goodIn_r _ [150, 151, 152, 153, 154, 31, 155, 1, 138, 156, 157, 158, 159, 160] rfl (by decide +kernel)
set_option maxRecDepth 20000 in
theorem gX8_readFrom_X8_countAlike : GoodIn wsX8_readFrom (wsV RX8 61 RX8 yX8_countAlike wsX8_countAlike) := goodIn_app (goodIn_of _ (by decide +kernel)) ggX8_readFrom_X8_countAlike
theorem dX8_readFrom_0 : decode cX8_readFrom 0 = .ok (.aload_n 0, 1) := by decide +kernel
theorem dX8_readFrom_1 : decode cX8_readFrom 1 = .ok (.getfield 9, 3) := by decide +kernel
theorem dX8_readFrom_4 : decode cX8_readFrom 4 = .ok (.iconst 0, 1) := by decide +kernel
theorem dX8_readFrom_5 : decode cX8_readFrom 5 = .ok (.invokestatic 33, 3) := by decide +kernel
theorem dX8_readFrom_8 : decode cX8_readFrom 8 = .ok (.aload_n 1, 1) := by decide +kernel
theorem dX8_readFrom_9 : decode cX8_readFrom 9 = .ok (.invokevirtual 39, 3) := by decide +kernel
theorem dX8_readFrom_12 : decode cX8_readFrom 12 = .ok (.iconst 0, 1) := by decide +kernel
theorem dX8_readFrom_13 : decode cX8_readFrom 13 = .ok (.istore_n 2, 1) := by decide +kernel
theorem dX8_readFrom_14 : decode cX8_readFrom 14 = .ok (.iload_n 2, 1) := by decide +kernel
theorem dX8_readFrom_15 : decode cX8_readFrom 15 = .ok (.sipush 500, 3) := by decide +kernel
theorem dX8_readFrom_18 : decode cX8_readFrom 18 = .ok (.if_icmp .ge 28, 3) := by decide +kernel
theorem dX8_readFrom_21 : decode cX8_readFrom 21 = .ok (.aload_n 1, 1) := by decide +kernel
theorem dX8_readFrom_22 : decode cX8_readFrom 22 = .ok (.invokevirtual 44, 3) := by decide +kernel
theorem dX8_readFrom_25 : decode cX8_readFrom 25 = .ok (.ifCond .ne 21, 3) := by decide +kernel
theorem dX8_readFrom_28 : decode cX8_readFrom 28 = .ok (.aload_n 1, 1) := by decide +kernel
theorem dX8_readFrom_29 : decode cX8_readFrom 29 = .ok (.invokevirtual 48, 3) := by decide +kernel
theorem dX8_readFrom_32 : decode cX8_readFrom 32 = .ok (.ifCond .eq 14, 3) := by decide +kernel
theorem dX8_readFrom_35 : decode cX8_readFrom 35 = .ok (.aload_n 0, 1) := by decide +kernel
theorem dX8_readFrom_36 : decode cX8_readFrom 36 = .ok (.aload_n 1, 1) := by decide +kernel
theorem dX8_readFrom_37 : decode cX8_readFrom 37 = .ok (.invokevirtual 51, 3) := by decide +kernel
theorem dX8_readFrom_40 : decode cX8_readFrom 40 = .ok (.iinc 2 1, 3) := by decide +kernel
theorem dX8_readFrom_43 : decode cX8_readFrom 43 = .ok (.goto (-29), 3) := by decide +kernel
theorem dX8_readFrom_46 : decode cX8_readFrom 46 = .ok (.aload_n 1, 1) := by decide +kernel
theorem dX8_readFrom_47 : decode cX8_readFrom 47 = .ok (.invokevirtual 44, 3) := by decide +kernel
theorem dX8_readFrom_50 : decode cX8_readFrom 50 = .ok (.ifCond .eq 4, 3) := by decide +kernel
theorem dX8_readFrom_53 : decode cX8_readFrom 53 = .ok (.return_, 1) := by decide +kernel
theorem dX8_readFrom_54 : decode cX8_readFrom 54 = .ok (.aload_n 0, 1) := by decide +kernel
theorem dX8_readFrom_55 : decode cX8_readFrom 55 = .ok (.invokevirtual 55, 3) := by decide +kernel
theorem dX8_readFrom_58 : decode cX8_readFrom 58 = .ok (.aload_n 0, 1) := by decide +kernel
theorem dX8_readFrom_59 : decode cX8_readFrom 59 = .ok (.invokevirtual 58, 3) := by decide +kernel
theorem dX8_readFrom_62 : decode cX8_readFrom 62 = .ok (.aload_n 0, 1) := by decide +kernel
theorem dX8_readFrom_63 : decode cX8_readFrom 63 = .ok (.invokevirtual 61, 3) := by decide +kernel
theorem dX8_readFrom_66 : decode cX8_readFrom 66 = .ok (.return_, 1) := by decide +kernel
theorem dX9_endReading_0 : decode cX9_endReading 0 = .ok (.aload_n 0, 1) := by decide +kernel
theorem dX9_endReading_1 : decode cX9_endReading 1 = .ok (.aload_n 0, 1) := by decide +kernel
theorem dX9_endReading_2 : decode cX9_endReading 2 = .ok (.getfield 10, 3) := by decide +kernel
theorem dX9_endReading_5 : decode cX9_endReading 5 = .ok (.getfield 280, 3) := by decide +kernel
theorem dX9_endReading_8 : decode cX9_endReading 8 = .ok (.putfield 58, 3) := by decide +kernel
theorem dX9_endReading_11 : decode cX9_endReading 11 = .ok (.aload_n 0, 1) := by decide +kernel
theorem dX9_endReading_12 : decode cX9_endReading 12 = .ok (.getfield 10, 3) := by decide +kernel
theorem dX9_endReading_15 : decode cX9_endReading 15 = .ok (.iconst 0, 1) := by decide +kernel
theorem dX9_endReading_16 : decode cX9_endReading 16 = .ok (.putfield 88, 3) := by decide +kernel
theorem dX9_endReading_19 : decode cX9_endReading 19 = .ok (.aload_n 0, 1) := by decide +kernel
theorem dX9_endReading_20 : decode cX9_endReading 20 = .ok (.getfield 10, 3) := by decide +kernel
theorem dX9_endReading_23 : decode cX9_endReading 23 = .ok (.getfield 283, 3) := by decide +kernel
theorem dX9_endReading_26 : decode cX9_endReading 26 = .ok (.ireturn, 1) := by decide +kernel
set_option maxRecDepth 20000 in
theorem ggX9_town_X8_readFrom : GoodIn wsX9_town wsX8_readFrom := goodIn_r _ [15, 16, 17, 18, 19, 20, 21, 22, 23, 24, 25, 26, 27, 28, 29, 30, 31, 32, 33, 34, 35, 36, 37, 38, 39, 40, 41, 42, 43, 44, 45, 14, 46, 47, 48, 49, 50, 51, 52, 53, 54, 55, 56, 57, 58, 59, 60, 61, 62, 63, 64, 65, 66, 67, 68, 69, 70, 71, 72, 73, 74, 75, 76, 77, 78, 79, 80, 81, 82, 83, 84, 85, 86, 87, 88, 89, 90, 91, 92, 93, 94, 95, 96, 97, 98, 99, 100, 101, 102, 103, 104, 105, 106, 107, 108, 109, 110, 111, 112, 113, 114, 115, 116, 117, 118, 119, 120, 121, 122, 123, 124, 125, 126, 127, 128, 129, 130, 131, 132, 133, 134, 135, 136, 137, 138, 139, 140, 141, 142, 143, 144, 145, 146, 147, 148, 149, 150, 151, 152, 153, 154, 155, 156, 157, 158, 159, 160, 161, 162, 163, 164, 165, 166, 167, 168, 169, 242, 243, 244, 245, 246, 247, 248, 249, 250, 251, 252, 253, 254] rfl (by decide +kernel)
set_option maxRecDepth 20000 in
theorem gX9_town_X8_readFrom : GoodIn wsX9_town (wsV RX9 96 RX8 yX8_readFrom wsX8_readFrom) := goodIn_app (goodIn_of _ (by decide +kernel)) ggX9_town_X8_readFrom
set_option maxRecDepth 20000 in
theorem ggX9_town_X9_endReading : GoodIn wsX9_town wsX9_endReading := goodIn_r _ [174, 2, 175, 176, 177, 178, 216, 217, 218, 219, 220, 221, 222, 223, 224, 225, 226, 227, 228, 247, 248, 249, 250, 251, 252, 253, 254] rfl (by decide +kernel)
set_option maxRecDepth 20000 in
theorem gX9_town_X9_endReading : GoodIn wsX9_town (wsV RX9 100 RX9 yX9_endReading wsX9_endReading) := goodIn_app (goodIn_of _ (by decide +kernel)) ggX9_town_X9_endReading
set_option maxRecDepth 20000 in
theorem ggX9_town_X5_moveTo : GoodIn wsX9_town wsX5_moveTo := goodIn_r _ [183, 184, 185, 186, 187, 188, 18, 19, 20, 189, 190, 191, 192, 141, 142, 14, 143, 124, 144, 145, 146, 147, 16, 255, 256, 257, 258, 259, 260, 261, 262, 263, 264, 242, 243, 244, 245, 246] rfl (by decide +kernel)
set_option maxRecDepth 20000 in
theorem gX9_town_X5_moveTo : GoodIn wsX9_town (wsV RX9 104 RX5 yX5_moveTo wsX5_moveTo) := goodIn_app (goodIn_of _ (by decide +kernel)) ggX9_town_X5_moveTo
set_option maxRecDepth 20000 in
theorem ggX9_town_X2_startAgain : GoodIn wsX9_town wsX2_startAgain := goodIn_r _ [197, 198, 199, 200, 201, 202, 203, 204, 205, 18, 19, 20, 206, 207, 208, 196, 209, 210, 211, 265, 266, 267, 268, 269, 270, 271, 272, 273, 274] rfl (by decide +kernel)
set_option maxRecDepth 20000 in
theorem gX9_town_X2_startAgain : GoodIn wsX9_town (wsV RX9 111 RX2 yX2_startAgain wsX2_startAgain) := goodIn_app (goodIn_of _ (by decide +kernel)) ggX9_town_X2_startAgain
set_option maxRecDepth 20000 in
theorem ggX9_town_X8_count : GoodIn wsX9_town wsX8_count := goodIn_r _ [215, 16, 242, 243, 244, 245, 246] rfl (by decide +kernel)
set_option maxRecDepth 20000 in
theorem gX9_town_X8_count : GoodIn wsX9_town (wsV RX9 115 RX8 yX8_count wsX8_count) := goodIn_app (goodIn_of _ (by decide +kernel)) ggX9_town_X8_count
theorem dX9_town_0 : decode cX9_town 0 = .ok (.aload_n 0, 1) := by decide +kernel
theorem dX9_town_1 : decode cX9_town 1 = .ok (.getfield 45, 3) := by decide +kernel
theorem dX9_town_4 : decode cX9_town 4 = .ok (.aload_n 0, 1) := by decide +kernel
theorem dX9_town_5 : decode cX9_town 5 = .ok (.getfield 10, 3) := by decide +kernel
theorem dX9_town_8 : decode cX9_town 8 = .ok (.invokevirtual 96, 3) := by decide +kernel
theorem dX9_town_11 : decode cX9_town 11 = .ok (.aload_n 0, 1) := by decide +kernel
theorem dX9_town_12 : decode cX9_town 12 = .ok (.invokevirtual 100, 3) := by decide +kernel
theorem dX9_town_15 : decode cX9_town 15 = .ok (.istore_n 1, 1) := by decide +kernel
theorem dX9_town_16 : decode cX9_town 16 = .ok (.iload_n 1, 1) := by decide +kernel
theorem dX9_town_17 : decode cX9_town 17 = .ok (.ifCond .eq 8, 3) := by decide +kernel
theorem dX9_town_20 : decode cX9_town 20 = .ok (.bipush (-10), 2) := by decide +kernel
theorem dX9_town_22 : decode cX9_town 22 = .ok (.iload_n 1, 1) := by decide +kernel
theorem dX9_town_23 : decode cX9_town 23 = .ok (.isub, 1) := by decide +kernel
theorem dX9_town_24 : decode cX9_town 24 = .ok (.ireturn, 1) := by decide +kernel
theorem dX9_town_25 : decode cX9_town 25 = .ok (.aload_n 0, 1) := by decide +kernel
theorem dX9_town_26 : decode cX9_town 26 = .ok (.getfield 41, 3) := by decide +kernel
theorem dX9_town_29 : decode cX9_town 29 = .ok (.astore_n 2, 1) := by decide +kernel
theorem dX9_town_30 : decode cX9_town 30 = .ok (.aload_n 0, 1) := by decide +kernel
theorem dX9_town_31 : decode cX9_town 31 = .ok (.aload_n 0, 1) := by decide +kernel
theorem dX9_town_32 : decode cX9_town 32 = .ok (.getfield 45, 3) := by decide +kernel
theorem dX9_town_35 : decode cX9_town 35 = .ok (.putfield 41, 3) := by decide +kernel
theorem dX9_town_38 : decode cX9_town 38 = .ok (.aload_n 0, 1) := by decide +kernel
theorem dX9_town_39 : decode cX9_town 39 = .ok (.aload_n 2, 1) := by decide +kernel
theorem dX9_town_40 : decode cX9_town 40 = .ok (.putfield 45, 3) := by decide +kernel
theorem dX9_town_43 : decode cX9_town 43 = .ok (.aload_n 0, 1) := by decide +kernel
theorem dX9_town_44 : decode cX9_town 44 = .ok (.getfield 67, 3) := by decide +kernel
theorem dX9_town_47 : decode cX9_town 47 = .ok (.aload_n 0, 1) := by decide +kernel
theorem dX9_town_48 : decode cX9_town 48 = .ok (.getfield 41, 3) := by decide +kernel
theorem dX9_town_51 : decode cX9_town 51 = .ok (.invokevirtual 104, 3) := by decide +kernel
theorem dX9_town_54 : decode cX9_town 54 = .ok (.aload_n 0, 1) := by decide +kernel
theorem dX9_town_55 : decode cX9_town 55 = .ok (.getfield 76, 3) := by decide +kernel
theorem dX9_town_58 : decode cX9_town 58 = .ok (.iconst 0, 1) := by decide +kernel
theorem dX9_town_59 : decode cX9_town 59 = .ok (.putfield 107, 3) := by decide +kernel
theorem dX9_town_62 : decode cX9_town 62 = .ok (.aload_n 0, 1) := by decide +kernel
theorem dX9_town_63 : decode cX9_town 63 = .ok (.getfield 19, 3) := by decide +kernel
theorem dX9_town_66 : decode cX9_town 66 = .ok (.invokevirtual 111, 3) := by decide +kernel
theorem dX9_town_69 : decode cX9_town 69 = .ok (.aload_n 0, 1) := by decide +kernel
theorem dX9_town_70 : decode cX9_town 70 = .ok (.getfield 34, 3) := by decide +kernel
theorem dX9_town_73 : decode cX9_town 73 = .ok (.iconst 0, 1) := by decide +kernel
theorem dX9_town_74 : decode cX9_town 74 = .ok (.putfield 114, 3) := by decide +kernel
theorem dX9_town_77 : decode cX9_town 77 = .ok (.iconst 0, 1) := by decide +kernel
theorem dX9_town_78 : decode cX9_town 78 = .ok (.istore_n 3, 1) := by decide +kernel
theorem dX9_town_79 : decode cX9_town 79 = .ok (.iload_n 3, 1) := by decide +kernel
theorem dX9_town_80 : decode cX9_town 80 = .ok (.iconst 2, 1) := by decide +kernel
theorem dX9_town_81 : decode cX9_town 81 = .ok (.if_icmp .ge 16, 3) := by decide +kernel
theorem dX9_town_84 : decode cX9_town 84 = .ok (.aload_n 0, 1) := by decide +kernel
theorem dX9_town_85 : decode cX9_town 85 = .ok (.getfield 27, 3) := by decide +kernel
theorem dX9_town_88 : decode cX9_town 88 = .ok (.iload_n 3, 1) := by decide +kernel
theorem dX9_town_89 : decode cX9_town 89 = .ok (.iconst 0, 1) := by decide +kernel
theorem dX9_town_90 : decode cX9_town 90 = .ok (.bastore, 1) := by decide +kernel
theorem dX9_town_91 : decode cX9_town 91 = .ok (.iinc 3 1, 3) := by decide +kernel
theorem dX9_town_94 : decode cX9_town 94 = .ok (.goto (-15), 3) := by decide +kernel
theorem dX9_town_97 : decode cX9_town 97 = .ok (.aload_n 0, 1) := by decide +kernel
theorem dX9_town_98 : decode cX9_town 98 = .ok (.getfield 41, 3) := by decide +kernel
theorem dX9_town_101 : decode cX9_town 101 = .ok (.iconst 3, 1) := by decide +kernel
theorem dX9_town_102 : decode cX9_town 102 = .ok (.invokevirtual 115, 3) := by decide +kernel
theorem dX9_town_105 : decode cX9_town 105 = .ok (.ireturn, 1) := by decide +kernel
set_option maxRecDepth 20000 in
theorem ggX3_readFrom_X7_startReading : GoodIn wsX3_readFrom wsX7_startReading := goodIn_r _ [10, 11, 12, 13, 127, 128, 129, 130, 131, 132, 133, 134] rfl (by decide +kernel)
set_option maxRecDepth 20000 in
theorem gX3_readFrom_X7_startReading : GoodIn wsX3_readFrom (wsV RX3 28 RX7 yX7_startReading wsX7_startReading) := goodIn_app (goodIn_of _ (by decide +kernel)) ggX3_readFrom_X7_startReading
set_option maxRecDepth 20000 in
theorem ggX3_readFrom_X7_isFaulty : GoodIn wsX3_readFrom wsX7_isFaulty := goodIn_r _ [17, 12, 127, 128, 129, 130, 131, 132, 133, 134] rfl (by decide +kernel)
set_option maxRecDepth 20000 in
theorem gX3_readFrom_X7_isFaulty : GoodIn wsX3_readFrom (wsV RX3 33 RX7 yX7_isFaulty wsX7_isFaulty) := goodIn_app (goodIn_of _ (by decide +kernel)) ggX3_readFrom_X7_isFaulty
set_option maxRecDepth 20000 in
theorem ggX3_readFrom_X7_hasMore : GoodIn wsX3_readFrom wsX7_hasMore := goodIn_r _ [21, 11, 22, 23, 24, 25, 9, 26, 27, 127, 128, 129, 130, 131, 132, 133, 134] rfl (by decide +kernel)
set_option maxRecDepth 20000 in
theorem gX3_readFrom_X7_hasMore : GoodIn wsX3_readFrom (wsV RX3 37 RX7 yX7_hasMore wsX7_hasMore) := goodIn_app (goodIn_of _ (by decide +kernel)) ggX3_readFrom_X7_hasMore
set_option maxRecDepth 20000 in
theorem ggX3_readFrom_X3_readClause : GoodIn wsX3_readFrom wsX3_readClause := goodIn_r _ [32, 33, 5, 4, 34, 35, 36, 9, 37, 11, 38, 39, 23, 24, 25, 26, 22, 27, 40, 41, 42, 43, 44, 45, 31, 46, 47, 48, 49, 50, 51, 52, 53, 54, 55, 56, 57, 58, 59, 60, 61, 62, 63, 64, 65, 66, 67, 68, 69, 70, 71, 72, 73, 74, 75, 76, 77, 78, 79, 80, 81, 82, 83, 84, 85, 86, 87, 88, 89, 90, 91, 92, 93, 94, 95, 96, 97, 98, 99, 100, 101, 102, 103, 12, 13, 104, 15, 16, 17, 105, 106, 107, 108, 109, 110, 111, 1, 2, 3, 112, 113, 114, 115, 116, 117, 118, 119, 120, 121, 127, 128, 129, 130, 131, 132, 133, 134, 122, 123, 124, 125, 126] rfl (by decide +kernel)
set_option maxRecDepth 20000 in
theorem gX3_readFrom_X3_readClause : GoodIn wsX3_readFrom (wsV RX3 40 RX3 yX3_readClause wsX3_readClause) := goodIn_app (goodIn_of _ (by decide +kernel)) ggX3_readFrom_X3_readClause
theorem dX3_readFrom_0 : decode cX3_readFrom 0 = .ok (.aload_n 0, 1) := by decide +kernel
theorem dX3_readFrom_1 : decode cX3_readFrom 1 = .ok (.bipush 7, 2) := by decide +kernel
theorem dX3_readFrom_3 : decode cX3_readFrom 3 = .ok (.putfield 9, 3) := by decide +kernel
theorem dX3_readFrom_6 : decode cX3_readFrom 6 = .ok (.aload_n 0, 1) := by decide +kernel
theorem dX3_readFrom_7 : decode cX3_readFrom 7 = .ok (.iconst (-1), 1) := by decide +kernel
theorem dX3_readFrom_8 : decode cX3_readFrom 8 = .ok (.putfield 15, 3) := by decide +kernel
theorem dX3_readFrom_11 : decode cX3_readFrom 11 = .ok (.aload_n 0, 1) := by decide +kernel
theorem dX3_readFrom_12 : decode cX3_readFrom 12 = .ok (.iconst 1, 1) := by decide +kernel
theorem dX3_readFrom_13 : decode cX3_readFrom 13 = .ok (.putfield 18, 3) := by decide +kernel
theorem dX3_readFrom_16 : decode cX3_readFrom 16 = .ok (.aload_n 0, 1) := by decide +kernel
theorem dX3_readFrom_17 : decode cX3_readFrom 17 = .ok (.iconst 0, 1) := by decide +kernel
theorem dX3_readFrom_18 : decode cX3_readFrom 18 = .ok (.putfield 22, 3) := by decide +kernel
theorem dX3_readFrom_21 : decode cX3_readFrom 21 = .ok (.aload_n 0, 1) := by decide +kernel
theorem dX3_readFrom_22 : decode cX3_readFrom 22 = .ok (.iconst 0, 1) := by decide +kernel
theorem dX3_readFrom_23 : decode cX3_readFrom 23 = .ok (.putfield 25, 3) := by decide +kernel
theorem dX3_readFrom_26 : decode cX3_readFrom 26 = .ok (.aload_n 1, 1) := by decide +kernel
theorem dX3_readFrom_27 : decode cX3_readFrom 27 = .ok (.invokevirtual 28, 3) := by decide +kernel
theorem dX3_readFrom_30 : decode cX3_readFrom 30 = .ok (.iconst 0, 1) := by decide +kernel
theorem dX3_readFrom_31 : decode cX3_readFrom 31 = .ok (.istore_n 2, 1) := by decide +kernel
theorem dX3_readFrom_32 : decode cX3_readFrom 32 = .ok (.iload_n 2, 1) := by decide +kernel
theorem dX3_readFrom_33 : decode cX3_readFrom 33 = .ok (.sipush 200, 3) := by decide +kernel
theorem dX3_readFrom_36 : decode cX3_readFrom 36 = .ok (.if_icmp .ge 28, 3) := by decide +kernel
theorem dX3_readFrom_39 : decode cX3_readFrom 39 = .ok (.aload_n 1, 1) := by decide +kernel
theorem dX3_readFrom_40 : decode cX3_readFrom 40 = .ok (.invokevirtual 33, 3) := by decide +kernel
theorem dX3_readFrom_43 : decode cX3_readFrom 43 = .ok (.ifCond .ne 21, 3) := by decide +kernel
theorem dX3_readFrom_46 : decode cX3_readFrom 46 = .ok (.aload_n 1, 1) := by decide +kernel
theorem dX3_readFrom_47 : decode cX3_readFrom 47 = .ok (.invokevirtual 37, 3) := by decide +kernel
theorem dX3_readFrom_50 : decode cX3_readFrom 50 = .ok (.ifCond .eq 14, 3) := by decide +kernel
theorem dX3_readFrom_53 : decode cX3_readFrom 53 = .ok (.aload_n 0, 1) := by decide +kernel
theorem dX3_readFrom_54 : decode cX3_readFrom 54 = .ok (.aload_n 1, 1) := by decide +kernel
theorem dX3_readFrom_55 : decode cX3_readFrom 55 = .ok (.invokevirtual 40, 3) := by decide +kernel
theorem dX3_readFrom_58 : decode cX3_readFrom 58 = .ok (.iinc 2 1, 3) := by decide +kernel
theorem dX3_readFrom_61 : decode cX3_readFrom 61 = .ok (.goto (-29), 3) := by decide +kernel
theorem dX3_readFrom_64 : decode cX3_readFrom 64 = .ok (.aload_n 0, 1) := by decide +kernel
theorem dX3_readFrom_65 : decode cX3_readFrom 65 = .ok (.getfield 15, 3) := by decide +kernel
theorem dX3_readFrom_68 : decode cX3_readFrom 68 = .ok (.iconst (-1), 1) := by decide +kernel
theorem dX3_readFrom_69 : decode cX3_readFrom 69 = .ok (.if_icmp .ne 15, 3) := by decide +kernel
theorem dX3_readFrom_72 : decode cX3_readFrom 72 = .ok (.aload_n 0, 1) := by decide +kernel
theorem dX3_readFrom_73 : decode cX3_readFrom 73 = .ok (.aload_n 0, 1) := by decide +kernel
theorem dX3_readFrom_74 : decode cX3_readFrom 74 = .ok (.getfield 9, 3) := by decide +kernel
theorem dX3_readFrom_77 : decode cX3_readFrom 77 = .ok (.iconst 2, 1) := by decide +kernel
theorem dX3_readFrom_78 : decode cX3_readFrom 78 = .ok (.idiv, 1) := by decide +kernel
theorem dX3_readFrom_79 : decode cX3_readFrom 79 = .ok (.iconst 1, 1) := by decide +kernel
theorem dX3_readFrom_80 : decode cX3_readFrom 80 = .ok (.iadd, 1) := by decide +kernel
theorem dX3_readFrom_81 : decode cX3_readFrom 81 = .ok (.putfield 15, 3) := by decide +kernel
theorem dX3_readFrom_84 : decode cX3_readFrom 84 = .ok (.return_, 1) := by decide +kernel
set_option maxRecDepth 20000 in
theorem ggX9_laws_X3_readFrom : GoodIn wsX9_laws wsX3_readFrom := goodIn_r _ [13, 14, 15, 16, 17, 18, 19, 20, 21, 22, 23, 24, 25, 26, 27, 28, 29, 30, 31, 32, 33, 34, 35, 36, 37, 38, 39, 40, 41, 42, 43, 12, 44, 45, 46, 47, 48, 49, 50, 51, 52, 53, 54, 55, 56, 57, 58, 59, 60, 61, 62, 63, 64, 65, 66, 67, 68, 69, 70, 71, 72, 73, 74, 75, 76, 77, 78, 79, 80, 81, 82, 83, 84, 85, 86, 87, 88, 89, 90, 91, 92, 93, 94, 95, 96, 97, 98, 99, 100, 101, 102, 103, 104, 105, 106, 107, 108, 109, 110, 111, 112, 113, 114, 115, 116, 117, 118, 119, 120, 121, 122, 123, 124, 125, 126, 127, 128, 129, 130, 131, 132, 133, 171, 172, 173, 174, 175, 154, 155, 156, 157, 158, 159, 160, 161] rfl (by decide +kernel)
set_option maxRecDepth 20000 in
theorem gX9_laws_X3_readFrom : GoodIn wsX9_laws (wsV RX9 120 RX3 yX3_readFrom wsX3_readFrom) := goodIn_app (goodIn_of _ (by decide +kernel)) ggX9_laws_X3_readFrom
set_option maxRecDepth 20000 in
theorem ggX9_laws_X9_endReading : GoodIn wsX9_laws wsX9_endReading := goodIn_r _ [137, 1, 138, 139, 2, 140, 141, 142, 143, 144, 145, 146, 147, 148, 149, 150, 151, 152, 153, 154, 155, 156, 157, 158, 159, 160, 161] rfl (by decide +kernel)
set_option maxRecDepth 20000 in
theorem gX9_laws_X9_endReading : GoodIn wsX9_laws (wsV RX9 100 RX9 yX9_endReading wsX9_endReading) := goodIn_app (goodIn_of _ (by decide +kernel)) ggX9_laws_X9_endReading
theorem dX9_laws_0 : decode cX9_laws 0 = .ok (.aload_n 0, 1) := by decide +kernel
theorem dX9_laws_1 : decode cX9_laws 1 = .ok (.getfield 10, 3) := by decide +kernel
theorem dX9_laws_4 : decode cX9_laws 4 = .ok (.getfield 88, 3) := by decide +kernel
theorem dX9_laws_7 : decode cX9_laws 7 = .ok (.sipush 200, 3) := by decide +kernel
theorem dX9_laws_10 : decode cX9_laws 10 = .ok (.if_icmp .le 6, 3) := by decide +kernel
theorem dX9_laws_13 : decode cX9_laws 13 = .ok (.ldc 119, 2) := by decide +kernel
theorem dX9_laws_15 : decode cX9_laws 15 = .ok (.ireturn, 1) := by decide +kernel
theorem dX9_laws_16 : decode cX9_laws 16 = .ok (.aload_n 0, 1) := by decide +kernel
theorem dX9_laws_17 : decode cX9_laws 17 = .ok (.getfield 55, 3) := by decide +kernel
theorem dX9_laws_20 : decode cX9_laws 20 = .ok (.aload_n 0, 1) := by decide +kernel
theorem dX9_laws_21 : decode cX9_laws 21 = .ok (.getfield 10, 3) := by decide +kernel
theorem dX9_laws_24 : decode cX9_laws 24 = .ok (.invokevirtual 120, 3) := by decide +kernel
theorem dX9_laws_27 : decode cX9_laws 27 = .ok (.aload_n 0, 1) := by decide +kernel
theorem dX9_laws_28 : decode cX9_laws 28 = .ok (.invokevirtual 100, 3) := by decide +kernel
theorem dX9_laws_31 : decode cX9_laws 31 = .ok (.istore_n 1, 1) := by decide +kernel
theorem dX9_laws_32 : decode cX9_laws 32 = .ok (.iload_n 1, 1) := by decide +kernel
theorem dX9_laws_33 : decode cX9_laws 33 = .ok (.ifCond .eq 8, 3) := by decide +kernel
theorem dX9_laws_36 : decode cX9_laws 36 = .ok (.bipush (-10), 2) := by decide +kernel
theorem dX9_laws_38 : decode cX9_laws 38 = .ok (.iload_n 1, 1) := by decide +kernel
theorem dX9_laws_39 : decode cX9_laws 39 = .ok (.isub, 1) := by decide +kernel
theorem dX9_laws_40 : decode cX9_laws 40 = .ok (.ireturn, 1) := by decide +kernel
theorem dX9_laws_41 : decode cX9_laws 41 = .ok (.aload_n 0, 1) := by decide +kernel
theorem dX9_laws_42 : decode cX9_laws 42 = .ok (.getfield 51, 3) := by decide +kernel
theorem dX9_laws_45 : decode cX9_laws 45 = .ok (.astore_n 2, 1) := by decide +kernel
theorem dX9_laws_46 : decode cX9_laws 46 = .ok (.aload_n 0, 1) := by decide +kernel
theorem dX9_laws_47 : decode cX9_laws 47 = .ok (.aload_n 0, 1) := by decide +kernel
theorem dX9_laws_48 : decode cX9_laws 48 = .ok (.getfield 55, 3) := by decide +kernel
theorem dX9_laws_51 : decode cX9_laws 51 = .ok (.putfield 51, 3) := by decide +kernel
theorem dX9_laws_54 : decode cX9_laws 54 = .ok (.aload_n 0, 1) := by decide +kernel
theorem dX9_laws_55 : decode cX9_laws 55 = .ok (.aload_n 2, 1) := by decide +kernel
theorem dX9_laws_56 : decode cX9_laws 56 = .ok (.putfield 55, 3) := by decide +kernel
theorem dX9_laws_59 : decode cX9_laws 59 = .ok (.aload_n 0, 1) := by decide +kernel
theorem dX9_laws_60 : decode cX9_laws 60 = .ok (.getfield 76, 3) := by decide +kernel
theorem dX9_laws_63 : decode cX9_laws 63 = .ok (.iconst 0, 1) := by decide +kernel
theorem dX9_laws_64 : decode cX9_laws 64 = .ok (.putfield 107, 3) := by decide +kernel
theorem dX9_laws_67 : decode cX9_laws 67 = .ok (.aload_n 0, 1) := by decide +kernel
theorem dX9_laws_68 : decode cX9_laws 68 = .ok (.getfield 51, 3) := by decide +kernel
theorem dX9_laws_71 : decode cX9_laws 71 = .ok (.getfield 121, 3) := by decide +kernel
theorem dX9_laws_74 : decode cX9_laws 74 = .ok (.ireturn, 1) := by decide +kernel
theorem pos_of {i : Nat} (h : ¬ nI i ≤ 0) : 1 ≤ i := by
  rcases i with _ | i
  · exact absurd (by decide) h
  · omega

abbrev c_X7_startReading (k : Nat → ClassId) (h : Nat) (qb : Nat) (w1 : Int32) (w2 : Int32) (w3 : Int32) (w4 : Int32) (w5 : Int32) (w6 : Int32) (w7 : Int32) : va_W := [(h, .inr (7, [.ref qb, .int w1, .int w2, .int w3, .int w4, .int w5, .int w6, .int w7]))]
abbrev r_X7_startReading : Room := { frames := 0, cells := 0, slots := 0, locals := 0 }
def w_X7_startReading (k : Nat → ClassId) (h : Nat) (qb : Nat) (w1 : Int32) (w2 : Int32) (w3 : Int32) (w4 : Int32) (w5 : Int32) (w6 : Int32) (w7 : Int32) : Unit → va_W := fun _ => [(h, .inr (7, [.ref qb, .int w1, .int w2, .int w3, .int 0, .int (-1), .int w6, .int 0]))]
def p_X7_startReading (k : Nat → ClassId) (h : Nat) (qb : Nat) (w1 : Int32) (w2 : Int32) (w3 : Int32) (w4 : Int32) (w5 : Int32) (w6 : Int32) (w7 : Int32) : Unit → Prop := fun (u : Unit) => True
abbrev q_X7_startReading (D : va_G) (k : Nat → ClassId) (h : Nat) (qb : Nat) (w1 : Int32) (w2 : Int32) (w3 : Int32) (w4 : Int32) (w5 : Int32) (w6 : Int32) (w7 : Int32) (A : Nat → Prop) : Array Value → State → Outcome → State → Prop := va_Qv (p_X7_startReading k h qb w1 w2 w3 w4 w5 w6 w7) (fun u9 t9 => BO D (w_X7_startReading k h qb w1 w2 w3 w4 w5 w6 w7 u9) A t9) A
set_option maxHeartbeats 2000000 in
set_option maxRecDepth 100000 in
theorem X7_startReading (l : Launch) (D : va_G) (k : Nat → ClassId) (sz : Nat) (h : Nat) (qb : Nat) (w1 : Int32) (w2 : Int32) (w3 : Int32) (w4 : Int32) (w5 : Int32) (w6 : Int32) (w7 : Int32)  : Met l yX7_startReading wsX7_startReading r_X7_startReading (va_Pc [.ref h] (PR D k (c_X7_startReading k h qb w1 w2 w3 w4 w5 w6 w7) sz)) (q_X7_startReading D k h qb w1 w2 w3 w4 w5 w6 w7 (va_A (c_X7_startReading k h qb w1 w2 w3 w4 w5 w6 w7) sz)) 0 0 (va_A (c_X7_startReading k h qb w1 w2 w3 w4 w5 w6 w7) sz) := by
  refine Met.ofW (cc := cX7_startReading) (maxL := 1) (ret := none) (by decide) rfl ?_
  intro p e s m args below meth c s₁ B hml hv
  obtain ⟨rfl, hsz, hP, hG, hD0⟩ := hv
  have hx := B.exec
  have hb := B.bytes
  have hr := B.returns
  have hts := atoms_spec (ws := wsX7_startReading) B.pre
  have hown : s.vm.findClass RX7 = some m.cls := findClass_of_methodNamed B.named
  have hlocks := B.notSynchronized
  have hi7 : ∀ w ∈ wsX70, w ∈ wsX7_startReading := fun _ h => List.mem_cons_of_mem _ (List.mem_append_right _ h)
  subst hsz
  have hD := hD0.self (sz := s.heap.size)
  generalize hAe : va_A (c_X7_startReading k h qb w1 w2 w3 w4 w5 w6 w7) s.heap.size = A at hD ⊢
  have hA : ∀ q : Nat, s.heap.size ≤ q → A q := fun q h => by rw [← hAe]; exact Or.inr h
  have hS : va_S A s.heap s.heap [] := va_S.rf
  have hP : va_P D vwCl [(h, .inr (7, [.ref qb, .int w1, .int w2, .int w3, .int w4, .int w5, .int w6, .int w7]))] s.heap := hP
  have hD : va_D A [(h, .inr (7, [.ref qb, .int w1, .int w2, .int w3, .int w4, .int w5, .int w6, .int w7]))] := hD
  have hl := lv_entry ([.ref h]) (n := 1) (Nat.le_of_ble_eq_true rfl)
  rw [lg_entry_eq]
  generalize (lg_sl ([.ref h]) ++ List.replicate (1 - (lg_sl ([.ref h])).length) Slot.unset).toArray = ls at hl ⊢
  have hl : lv_has ls 1 [(0, .ref h)] := hl
  refine lv_aload_n hx hb dX7_startReading_0 rfl (lv_at hl 0 rfl) ?_
  refine lv_iconst (v := 0) hx hb dX7_startReading_1 (by decide) ?_
  refine va_put (D := D) (ci := 7) (v := .int 0) (ty := .int) (C := RX7) (T := TX7) (N := 8) hx hb hts hi7 tyX7 tyX7_ok nmX7 hown hG.1 hP hD hS 0 rfl rfl 7 (by decide) (hts (.fieldLink RX7 34 "SleptMatters$Text" "at" "I") (List.mem_cons_of_mem _ (List.mem_append_left _ (List.mem_of_getElem? (i := 0) rfl)))) (fun _ h9 => h9) rfl (by decide +kernel) rfl rfl (Nat.le_of_ble_eq_true rfl) dX7_startReading_2 (fun H locs hP hD hS => ?_)
  have hP : va_P D vwCl [(h, .inr (7, [.ref qb, .int w1, .int w2, .int w3, .int w4, .int w5, .int w6, .int 0]))] H := hP
  have hD : va_D A [(h, .inr (7, [.ref qb, .int w1, .int w2, .int w3, .int w4, .int w5, .int w6, .int 0]))] := hD
  refine lv_aload_n hx hb dX7_startReading_5 rfl (lv_at hl 0 rfl) ?_
  refine lv_iconst (v := 0) hx hb dX7_startReading_6 (by decide) ?_
  refine va_put (D := D) (ci := 7) (v := .int 0) (ty := .int) (C := RX7) (T := TX7) (N := 8) hx hb hts hi7 tyX7 tyX7_ok nmX7 hown hG.1 hP hD hS 0 rfl rfl 4 (by decide) (hts (.fieldLink RX7 25 "SleptMatters$Text" "faultNumber" "I") (List.mem_cons_of_mem _ (List.mem_append_left _ (List.mem_of_getElem? (i := 1) rfl)))) (fun _ h9 => h9) rfl (by decide +kernel) rfl rfl (Nat.le_of_ble_eq_true rfl) dX7_startReading_7 (fun H locs hP hD hS => ?_)
  have hP : va_P D vwCl [(h, .inr (7, [.ref qb, .int w1, .int w2, .int w3, .int 0, .int w5, .int w6, .int 0]))] H := hP
  have hD : va_D A [(h, .inr (7, [.ref qb, .int w1, .int w2, .int w3, .int 0, .int w5, .int w6, .int 0]))] := hD
  refine lv_aload_n hx hb dX7_startReading_10 rfl (lv_at hl 0 rfl) ?_
  refine lv_iconst (v := (-1)) hx hb dX7_startReading_11 (by decide) ?_
  refine va_put (D := D) (ci := 7) (v := .int (-1)) (ty := .int) (C := RX7) (T := TX7) (N := 8) hx hb hts hi7 tyX7 tyX7_ok nmX7 hown hG.1 hP hD hS 0 rfl rfl 5 (by decide) (hts (.fieldLink RX7 28 "SleptMatters$Text" "faultAt" "I") (List.mem_cons_of_mem _ (List.mem_append_left _ (List.mem_of_getElem? (i := 2) rfl)))) (fun _ h9 => h9) rfl (by decide +kernel) rfl rfl (Nat.le_of_ble_eq_true rfl) dX7_startReading_12 (fun H locs hP hD hS => ?_)
  have hP : va_P D vwCl [(h, .inr (7, [.ref qb, .int w1, .int w2, .int w3, .int 0, .int (-1), .int w6, .int 0]))] H := hP
  have hD : va_D A [(h, .inr (7, [.ref qb, .int w1, .int w2, .int w3, .int 0, .int (-1), .int w6, .int 0]))] := hD
  have hP9 := hP.sub (ws' := [(h, .inr (7, [.ref qb, .int w1, .int w2, .int w3, .int 0, .int (-1), .int w6, .int 0]))]) [0] rfl
  have hD9 := hD.sub (ws' := [(h, .inr (7, [.ref qb, .int w1, .int w2, .int w3, .int 0, .int (-1), .int w6, .int 0]))]) [0] (by decide +kernel) rfl
  exact W.vret hx hb hr (fun t9 ht _ => ⟨⟨(), rfl, trivial, by rw [ht]; exact hP9, hD9⟩, hS.F ht⟩) hS.2.2 dX7_startReading_15

abbrev c_X7_isFaulty (k : Nat → ClassId) (h : Nat) (qb : Nat) (w1 : Int32) (w2 : Int32) (w3 : Int32) (w5 : Int32) (w6 : Int32) (w7 : Int32) : va_W := [(h, .inr (7, [.ref qb, .int w1, .int w2, .int w3, .int 0, .int w5, .int w6, .int w7]))]
abbrev r_X7_isFaulty : Room := { frames := 0, cells := 0, slots := 0, locals := 0 }
abbrev q_X7_isFaulty (k : Nat → ClassId) (h : Nat) (qb : Nat) (w1 : Int32) (w2 : Int32) (w3 : Int32) (w5 : Int32) (w6 : Int32) (w7 : Int32) : Array Value → State → Outcome → State → Prop := vp_Si (fun r => r = 0)
set_option maxHeartbeats 2000000 in
set_option maxRecDepth 100000 in
theorem X7_isFaulty (l : Launch) (D : va_G) (k : Nat → ClassId) (h : Nat) (qb : Nat) (w1 : Int32) (w2 : Int32) (w3 : Int32) (w5 : Int32) (w6 : Int32) (w7 : Int32)  : Met l yX7_isFaulty wsX7_isFaulty r_X7_isFaulty (va_Pc [.ref h] (PS D k (c_X7_isFaulty k h qb w1 w2 w3 w5 w6 w7))) (q_X7_isFaulty k h qb w1 w2 w3 w5 w6 w7) 0 0 (fun _ => False) := by
  refine Met.ofW (cc := cX7_isFaulty) (maxL := 1) (ret := (some .boolean)) (by decide) rfl ?_
  intro p e s m args below meth c s₁ B hml hv
  obtain ⟨rfl, hP, hG⟩ := hv
  have hx := B.exec
  have hb := B.bytes
  have hr := B.returns
  have hts := atoms_spec (ws := wsX7_isFaulty) B.pre
  have hown : s.vm.findClass RX7 = some m.cls := findClass_of_methodNamed B.named
  have hlocks := B.notSynchronized
  have hi7 : ∀ w ∈ wsX70, w ∈ wsX7_isFaulty := fun _ h => List.mem_cons_of_mem _ (List.mem_append_right _ h)
  have hP : va_P D vwCl [(h, .inr (7, [.ref qb, .int w1, .int w2, .int w3, .int 0, .int w5, .int w6, .int w7]))] s.heap := hP
  have hl := lv_entry ([.ref h]) (n := 1) (Nat.le_of_ble_eq_true rfl)
  rw [lg_entry_eq]
  generalize (lg_sl ([.ref h]) ++ List.replicate (1 - (lg_sl ([.ref h])).length) Slot.unset).toArray = ls at hl ⊢
  have hl : lv_has ls 1 [(0, .ref h)] := hl
  refine lv_aload_n hx hb dX7_isFaulty_0 rfl (lv_at hl 0 rfl) ?_
  refine va_get (D := D) (ci := 7) (v := .int 0) (C := RX7) (T := TX7) (N := 8) hx hb hts hi7 hown hG.1 hP 0 rfl rfl 4 (by decide) (hts (.fieldLink RX7 25 "SleptMatters$Text" "faultNumber" "I") (List.mem_cons_of_mem _ (List.mem_append_left _ (List.mem_of_getElem? (i := 0) rfl)))) (fun _ h9 => h9) rfl dX7_isFaulty_1 ?_
  refine lv_if_eq (x := 0) (tgt := 11) hx hb dX7_isFaulty_4 (by decide) (fun c1 => ?_) (fun c1 => absurd c1 (by decide))
  refine lv_iconst (v := 0) hx hb dX7_isFaulty_11 (by decide) ?_
  exact W.zret (v := 0) hx hb hr (rfl) (fun t9 ht _ => ⟨0, rfl, rfl, ht⟩) (fun q h => by cases h) dX7_isFaulty_12

abbrev c_X7_skipBlanks (k : Nat → ClassId) (h : Nat) (qb : Nat) (w2 : Int32) (w3 : Int32) (w4 : Int32) (w5 : Int32) (w6 : Int32) : va_W := [(h, .inr (7, [.ref qb, .int 0, .int w2, .int w3, .int w4, .int w5, .int w6, .int 0]))]
abbrev r_X7_skipBlanks : Room := { frames := 0, cells := 0, slots := 0, locals := 0 }
def w_X7_skipBlanks (k : Nat → ClassId) (h : Nat) (qb : Nat) (w2 : Int32) (w3 : Int32) (w4 : Int32) (w5 : Int32) (w6 : Int32) : Unit → va_W := fun _ => [(h, .inr (7, [.ref qb, .int 0, .int w2, .int w3, .int w4, .int w5, .int w6, .int 0]))]
def p_X7_skipBlanks (k : Nat → ClassId) (h : Nat) (qb : Nat) (w2 : Int32) (w3 : Int32) (w4 : Int32) (w5 : Int32) (w6 : Int32) : Unit → Prop := fun (u : Unit) => True
abbrev q_X7_skipBlanks (D : va_G) (k : Nat → ClassId) (h : Nat) (qb : Nat) (w2 : Int32) (w3 : Int32) (w4 : Int32) (w5 : Int32) (w6 : Int32) (A : Nat → Prop) : Array Value → State → Outcome → State → Prop := va_Qv (p_X7_skipBlanks k h qb w2 w3 w4 w5 w6) (fun u9 t9 => BO D (w_X7_skipBlanks k h qb w2 w3 w4 w5 w6 u9) A t9) A
set_option maxHeartbeats 2000000 in
set_option maxRecDepth 100000 in
theorem X7_skipBlanks (l : Launch) (D : va_G) (k : Nat → ClassId) (sz : Nat) (h : Nat) (qb : Nat) (w2 : Int32) (w3 : Int32) (w4 : Int32) (w5 : Int32) (w6 : Int32)  : Met l yX7_skipBlanks wsX7_skipBlanks r_X7_skipBlanks (va_Pc [.ref h] (PR D k (c_X7_skipBlanks k h qb w2 w3 w4 w5 w6) sz)) (q_X7_skipBlanks D k h qb w2 w3 w4 w5 w6 (va_A (c_X7_skipBlanks k h qb w2 w3 w4 w5 w6) sz)) 0 0 (va_A (c_X7_skipBlanks k h qb w2 w3 w4 w5 w6) sz) := by
  refine Met.ofW (cc := cX7_skipBlanks) (maxL := 1) (ret := none) (by decide) rfl ?_
  intro p e s m args below meth c s₁ B hml hv
  obtain ⟨rfl, hsz, hP, hG, hD0⟩ := hv
  have hx := B.exec
  have hb := B.bytes
  have hr := B.returns
  have hts := atoms_spec (ws := wsX7_skipBlanks) B.pre
  have hown : s.vm.findClass RX7 = some m.cls := findClass_of_methodNamed B.named
  have hlocks := B.notSynchronized
  have hi7 : ∀ w ∈ wsX70, w ∈ wsX7_skipBlanks := fun _ h => List.mem_cons_of_mem _ (List.mem_append_right _ h)
  subst hsz
  have hD := hD0.self (sz := s.heap.size)
  generalize hAe : va_A (c_X7_skipBlanks k h qb w2 w3 w4 w5 w6) s.heap.size = A at hD ⊢
  have hA : ∀ q : Nat, s.heap.size ≤ q → A q := fun q h => by rw [← hAe]; exact Or.inr h
  have hS : va_S A s.heap s.heap [] := va_S.rf
  have hP : va_P D vwCl [(h, .inr (7, [.ref qb, .int 0, .int w2, .int w3, .int w4, .int w5, .int w6, .int 0]))] s.heap := hP
  have hD : va_D A [(h, .inr (7, [.ref qb, .int 0, .int w2, .int w3, .int w4, .int w5, .int w6, .int 0]))] := hD
  have hl := lv_entry ([.ref h]) (n := 1) (Nat.le_of_ble_eq_true rfl)
  rw [lg_entry_eq]
  generalize (lg_sl ([.ref h]) ++ List.replicate (1 - (lg_sl ([.ref h])).length) Slot.unset).toArray = ls at hl ⊢
  have hl : lv_has ls 1 [(0, .ref h)] := hl
  refine lv_aload_n hx hb dX7_skipBlanks_0 rfl (lv_at hl 0 rfl) ?_
  refine va_get (D := D) (ci := 7) (v := .int 0) (C := RX7) (T := TX7) (N := 8) hx hb hts hi7 hown hG.1 hP 0 rfl rfl 7 (by decide) (hts (.fieldLink RX7 34 "SleptMatters$Text" "at" "I") (List.mem_cons_of_mem _ (List.mem_append_left _ (List.mem_of_getElem? (i := 0) rfl)))) (fun _ h9 => h9) rfl dX7_skipBlanks_1 ?_
  refine lv_aload_n hx hb dX7_skipBlanks_4 rfl (lv_at hl 0 rfl) ?_
  refine va_get (D := D) (ci := 7) (v := .int 0) (C := RX7) (T := TX7) (N := 8) hx hb hts hi7 hown hG.1 hP 0 rfl rfl 1 (by decide) (hts (.fieldLink RX7 15 "SleptMatters$Text" "size" "I") (List.mem_cons_of_mem _ (List.mem_append_left _ (List.mem_of_getElem? (i := 1) rfl)))) (fun _ h9 => h9) rfl dX7_skipBlanks_5 ?_
  refine lv_icmp_ge (x := 0) (y := 0) (tgt := 38) hx hb dX7_skipBlanks_8 (by decide) (fun c1 => ?_) (fun c1 => absurd c1 (by decide))
  have hP9 := hP.sub (ws' := [(h, .inr (7, [.ref qb, .int 0, .int w2, .int w3, .int w4, .int w5, .int w6, .int 0]))]) [0] rfl
  have hD9 := hD.sub (ws' := [(h, .inr (7, [.ref qb, .int 0, .int w2, .int w3, .int w4, .int w5, .int w6, .int 0]))]) [0] (by decide +kernel) rfl
  exact W.vret hx hb hr (fun t9 ht _ => ⟨⟨(), rfl, trivial, by rw [ht]; exact hP9, hD9⟩, hS.F ht⟩) hS.2.2 dX7_skipBlanks_38

abbrev c_X7_hasMore (k : Nat → ClassId) (h : Nat) (qb : Nat) (w2 : Int32) (w3 : Int32) (w4 : Int32) (w5 : Int32) (w6 : Int32) : va_W := [(h, .inr (7, [.ref qb, .int 0, .int w2, .int w3, .int w4, .int w5, .int w6, .int 0]))]
abbrev r_X7_hasMore : Room := { frames := 1, cells := 0, slots := 0, locals := 20 }
def w_X7_hasMore (k : Nat → ClassId) (h : Nat) (qb : Nat) (w2 : Int32) (w3 : Int32) (w4 : Int32) (w5 : Int32) (w6 : Int32) : Unit → va_W := fun _ => [(h, .inr (7, [.ref qb, .int 0, .int w2, .int w3, .int w4, .int w5, .int w6, .int 0]))]
def p_X7_hasMore (k : Nat → ClassId) (h : Nat) (qb : Nat) (w2 : Int32) (w3 : Int32) (w4 : Int32) (w5 : Int32) (w6 : Int32) : Int32 → Unit → Prop := fun (r : Int32) (u : Unit) => r = 0
abbrev q_X7_hasMore (D : va_G) (k : Nat → ClassId) (h : Nat) (qb : Nat) (w2 : Int32) (w3 : Int32) (w4 : Int32) (w5 : Int32) (w6 : Int32) (A : Nat → Prop) : Array Value → State → Outcome → State → Prop := va_Qi (p_X7_hasMore k h qb w2 w3 w4 w5 w6) (fun u9 t9 => BO D (w_X7_hasMore k h qb w2 w3 w4 w5 w6 u9) A t9) A
set_option maxHeartbeats 2000000 in
set_option maxRecDepth 100000 in
theorem X7_hasMore (l : Launch) (D : va_G) (k : Nat → ClassId) (sz : Nat) (h : Nat) (qb : Nat) (w2 : Int32) (w3 : Int32) (w4 : Int32) (w5 : Int32) (w6 : Int32)  : Met l yX7_hasMore wsX7_hasMore r_X7_hasMore (va_Pc [.ref h] (PR D k (c_X7_hasMore k h qb w2 w3 w4 w5 w6) sz)) (q_X7_hasMore D k h qb w2 w3 w4 w5 w6 (va_A (c_X7_hasMore k h qb w2 w3 w4 w5 w6) sz)) 0 0 (va_A (c_X7_hasMore k h qb w2 w3 w4 w5 w6) sz) := by
  refine Met.ofW (cc := cX7_hasMore) (maxL := 1) (ret := (some .boolean)) (by decide) rfl ?_
  intro p e s m args below meth c s₁ B hml hv
  obtain ⟨rfl, hsz, hP, hG, hD0⟩ := hv
  have hx := B.exec
  have hb := B.bytes
  have hr := B.returns
  have hts := atoms_spec (ws := wsX7_hasMore) B.pre
  have hown : s.vm.findClass RX7 = some m.cls := findClass_of_methodNamed B.named
  have hlocks := B.notSynchronized
  have hi7 : ∀ w ∈ wsX70, w ∈ wsX7_hasMore := fun _ h => List.mem_cons_of_mem _ (List.mem_append_right _ h)
  subst hsz
  have hD := hD0.self (sz := s.heap.size)
  generalize hAe : va_A (c_X7_hasMore k h qb w2 w3 w4 w5 w6) s.heap.size = A at hD ⊢
  have hA : ∀ q : Nat, s.heap.size ≤ q → A q := fun q h => by rw [← hAe]; exact Or.inr h
  have hS : va_S A s.heap s.heap [] := va_S.rf
  have hP : va_P D vwCl [(h, .inr (7, [.ref qb, .int 0, .int w2, .int w3, .int w4, .int w5, .int w6, .int 0]))] s.heap := hP
  have hD : va_D A [(h, .inr (7, [.ref qb, .int 0, .int w2, .int w3, .int w4, .int w5, .int w6, .int 0]))] := hD
  have hl := lv_entry ([.ref h]) (n := 1) (Nat.le_of_ble_eq_true rfl)
  rw [lg_entry_eq]
  generalize (lg_sl ([.ref h]) ++ List.replicate (1 - (lg_sl ([.ref h])).length) Slot.unset).toArray = ls at hl ⊢
  have hl : lv_has ls 1 [(0, .ref h)] := hl
  refine lv_aload_n hx hb dX7_hasMore_0 rfl (lv_at hl 0 rfl) ?_
  have hPc := hP.sub (ws' := (c_X7_skipBlanks k h qb w2 w3 w4 w5 w6)) [0] rfl
  have hDc := hD.sub (ws' := (c_X7_skipBlanks k h qb w2 w3 w4 w5 w6)) [0] (by decide +kernel) rfl
  refine cl_v (w1 := w_X7_skipBlanks k h qb w2 w3 w4 w5 w6) (wr := []) (va_runV (As := []) (rest := []) ⟨hx, hb, hml, hown, hts⟩ (X7_skipBlanks l D k s.heap.size h qb w2 w3 w4 w5 w6 ) (cwV 0 hts gX7_hasMore_X7_skipBlanks rfl rfl rfl (by decide +kernel) ⟨Nat.le_of_ble_eq_true rfl, Nat.le_of_ble_eq_true rfl⟩) ⟨PR.blind _ _ _ _ _, va_recv hG.1 hP (ci := 7) (q0 := 0) rfl rfl, PR.pre hPc hDc hG [.ref h]⟩ rfl rfl hl.1 rfl (lv_room (Nat.le_of_ble_eq_true rfl)) dX7_hasMore_1 ⟨Nat.le_of_ble_eq_true rfl, Nat.le_of_ble_eq_true rfl⟩) hP hD hS hA [0] [] rfl rfl (by decide +kernel) (by decide +kernel) (fun u H locs hq hP hD hS => ?_)
  cases u
  have hP : va_P D vwCl [(h, .inr (7, [.ref qb, .int 0, .int w2, .int w3, .int w4, .int w5, .int w6, .int 0]))] H := hP
  have hD : va_D A [(h, .inr (7, [.ref qb, .int 0, .int w2, .int w3, .int w4, .int w5, .int w6, .int 0]))] := hD
  refine lv_aload_n hx hb dX7_hasMore_4 rfl (lv_at hl 0 rfl) ?_
  refine va_get (D := D) (ci := 7) (v := .int 0) (C := RX7) (T := TX7) (N := 8) hx hb hts hi7 hown hG.1 hP 0 rfl rfl 7 (by decide) (hts (.fieldLink RX7 34 "SleptMatters$Text" "at" "I") (List.mem_cons_of_mem _ (List.mem_append_left _ (List.mem_of_getElem? (i := 0) rfl)))) (fun _ h9 => h9) rfl dX7_hasMore_5 ?_
  refine lv_aload_n hx hb dX7_hasMore_8 rfl (lv_at hl 0 rfl) ?_
  refine va_get (D := D) (ci := 7) (v := .int 0) (C := RX7) (T := TX7) (N := 8) hx hb hts hi7 hown hG.1 hP 0 rfl rfl 1 (by decide) (hts (.fieldLink RX7 15 "SleptMatters$Text" "size" "I") (List.mem_cons_of_mem _ (List.mem_append_left _ (List.mem_of_getElem? (i := 1) rfl)))) (fun _ h9 => h9) rfl dX7_hasMore_9 ?_
  refine lv_icmp_ge (x := 0) (y := 0) (tgt := 19) hx hb dX7_hasMore_12 (by decide) (fun c1 => ?_) (fun c1 => absurd c1 (by decide))
  refine lv_iconst (v := 0) hx hb dX7_hasMore_19 (by decide) ?_
  have hP9 := hP.sub (ws' := [(h, .inr (7, [.ref qb, .int 0, .int w2, .int w3, .int w4, .int w5, .int w6, .int 0]))]) [0] rfl
  have hD9 := hD.sub (ws' := [(h, .inr (7, [.ref qb, .int 0, .int w2, .int w3, .int w4, .int w5, .int w6, .int 0]))]) [0] (by decide +kernel) rfl
  exact W.zret (v := 0) hx hb hr (rfl) (fun t9 ht _ => ⟨⟨0, (), rfl, rfl, by rw [ht]; exact hP9, hD9⟩, hS.F ht⟩) hS.2.2 dX7_hasMore_20

abbrev c_X8_sumNoise (k : Nat → ClassId) (h : Nat) (t : Nat) (tn : Nat) (tl : Nat) (tc : Nat) (ta : Nat) (f : Nat → Int32) (g : Nat → Int32) : va_W := [(h, .inr (8, [.ref t, .ref tn, .ref tl, .ref tc, .ref ta])), (t, .inl (k 0, 4, .inl f)), (tl, .inl (k 0, 400, .inl g))]
abbrev r_X8_sumNoise : Room := { frames := 1, cells := 0, slots := 0, locals := 23 }
def w_X8_sumNoise (k : Nat → ClassId) (h : Nat) (t : Nat) (tn : Nat) (tl : Nat) (tc : Nat) (ta : Nat) (f : Nat → Int32) (g : Nat → Int32) : Unit → va_W := fun _ => [(h, .inr (8, [.ref t, .ref tn, .ref tl, .ref tc, .ref ta])), (t, .inl (k 0, 4, .inl f)), (tl, .inl (k 0, 400, .inl (fl_i g 0 400)))]
def p_X8_sumNoise (k : Nat → ClassId) (h : Nat) (t : Nat) (tn : Nat) (tl : Nat) (tc : Nat) (ta : Nat) (f : Nat → Int32) (g : Nat → Int32) : Unit → Prop := fun (u : Unit) => True
abbrev q_X8_sumNoise (D : va_G) (k : Nat → ClassId) (h : Nat) (t : Nat) (tn : Nat) (tl : Nat) (tc : Nat) (ta : Nat) (f : Nat → Int32) (g : Nat → Int32) (A : Nat → Prop) : Array Value → State → Outcome → State → Prop := va_Qv (p_X8_sumNoise k h t tn tl tc ta f g) (fun u9 t9 => BO D (w_X8_sumNoise k h t tn tl tc ta f g u9) A t9) A
set_option maxHeartbeats 2000000 in
set_option maxRecDepth 100000 in
theorem X8_sumNoise (l : Launch) (D : va_G) (k : Nat → ClassId) (sz : Nat) (h : Nat) (t : Nat) (tn : Nat) (tl : Nat) (tc : Nat) (ta : Nat) (f : Nat → Int32) (g : Nat → Int32) (h2 : f 2 = 0) : Met l yX8_sumNoise wsX8_sumNoise r_X8_sumNoise (va_Pc [.ref h] (PR D k (c_X8_sumNoise k h t tn tl tc ta f g) sz)) (q_X8_sumNoise D k h t tn tl tc ta f g (va_A (c_X8_sumNoise k h t tn tl tc ta f g) sz)) 0 0 (va_A (c_X8_sumNoise k h t tn tl tc ta f g) sz) := by
  refine Met.ofW (cc := cX8_sumNoise) (maxL := 5) (ret := none) (by decide) rfl ?_
  intro p e s m args below meth c s₁ B hml hv
  obtain ⟨rfl, hsz, hP, hG, hD0⟩ := hv
  have hx := B.exec
  have hb := B.bytes
  have hr := B.returns
  have hts := atoms_spec (ws := wsX8_sumNoise) B.pre
  have hown : s.vm.findClass RX8 = some m.cls := findClass_of_methodNamed B.named
  have hlocks := B.notSynchronized
  have hi8 : ∀ w ∈ wsX80, w ∈ wsX8_sumNoise := fun _ h => List.mem_cons_of_mem _ (List.mem_append_right _ h)
  subst hsz
  have hD := hD0.self (sz := s.heap.size)
  generalize hAe : va_A (c_X8_sumNoise k h t tn tl tc ta f g) s.heap.size = A at hD ⊢
  have hA : ∀ q : Nat, s.heap.size ≤ q → A q := fun q h => by rw [← hAe]; exact Or.inr h
  have hS : va_S A s.heap s.heap [] := va_S.rf
  have hP : va_P D vwCl [(h, .inr (8, [.ref t, .ref tn, .ref tl, .ref tc, .ref ta])), (t, .inl (k 0, 4, .inl f)), (tl, .inl (k 0, 400, .inl g))] s.heap := hP
  have hD : va_D A [(h, .inr (8, [.ref t, .ref tn, .ref tl, .ref tc, .ref ta])), (t, .inl (k 0, 4, .inl f)), (tl, .inl (k 0, 400, .inl g))] := hD
  have hl := lv_entry ([.ref h]) (n := 5) (Nat.le_of_ble_eq_true rfl)
  rw [lg_entry_eq]
  generalize (lg_sl ([.ref h]) ++ List.replicate (5 - (lg_sl ([.ref h])).length) Slot.unset).toArray = ls at hl ⊢
  have hl : lv_has ls 5 [(0, .ref h)] := hl
  refine lv_aload_n hx hb dX8_sumNoise_0 rfl (lv_at hl 0 rfl) ?_
  refine va_get (D := D) (ci := 8) (v := .ref tl) (C := RX8) (T := TX8) (N := 5) hx hb hts hi8 hown hG.1 hP 0 rfl rfl 2 (by decide) (hts (.fieldLink RX8 20 "SleptMatters$Town" "loudness" "[I") (List.mem_cons_of_mem _ (List.mem_append_left _ (List.mem_of_getElem? (i := 0) rfl)))) (fun _ h9 => h9) rfl dX8_sumNoise_1 ?_
  refine lv_iconst (v := 0) hx hb dX8_sumNoise_4 (by decide) ?_
  have hPc := hP.sub (ws' := (c_fillI k tl 400 g 0)) [2] rfl
  have hDc := hD.sub (ws' := (c_fillI k tl 400 g 0)) [2] (by decide +kernel) rfl
  refine cl_v (w1 := w_fillI k tl 400 g 0) (wr := [(h, .inr (8, [.ref t, .ref tn, .ref tl, .ref tc, .ref ta])), (t, .inl (k 0, 4, .inl f))]) (va_runS (As := [.ref tl, .int 0]) (rest := []) ⟨hx, hb, hml, hown, hts⟩ (fillI l D k s.heap.size tl 400 g 0 (by decide)) (va_cwS 2 hts gX8_sumNoise_J7_fill_53178 rfl rfl rfl (by decide +kernel) ⟨Nat.le_of_ble_eq_true rfl, Nat.le_of_ble_eq_true rfl⟩) ⟨PR.blind _ _ _ _ _, PR.pre hPc hDc hG [.ref tl, .int 0]⟩ rfl rfl hl.1 rfl (lv_room (Nat.le_of_ble_eq_true rfl)) dX8_sumNoise_5 ⟨Nat.le_of_ble_eq_true rfl, Nat.le_of_ble_eq_true rfl⟩) hP hD hS hA [2] [0, 1] rfl rfl (by decide +kernel) (by decide +kernel) (fun u H locs hq hP hD hS => ?_)
  cases u
  have hP : va_P D vwCl [(h, .inr (8, [.ref t, .ref tn, .ref tl, .ref tc, .ref ta])), (t, .inl (k 0, 4, .inl f)), (tl, .inl (k 0, 400, .inl (fl_i g 0 400)))] H := hP
  have hD : va_D A [(h, .inr (8, [.ref t, .ref tn, .ref tl, .ref tc, .ref ta])), (t, .inl (k 0, 4, .inl f)), (tl, .inl (k 0, 400, .inl (fl_i g 0 400)))] := hD
  refine lv_iconst (v := 0) hx hb dX8_sumNoise_8 (by decide) ?_
  refine lv_istore_n (lv' := [(1, .int 0), (0, .ref h)]) hx hb dX8_sumNoise_9 rfl hl (by decide) rfl (fun ls hl => ?_)
  refine lv_iload_n hx hb dX8_sumNoise_10 rfl (lv_at hl 0 rfl) ?_
  refine lv_aload_n hx hb dX8_sumNoise_11 rfl (lv_at hl 1 rfl) ?_
  refine va_get (D := D) (ci := 8) (v := .ref t) (C := RX8) (T := TX8) (N := 5) hx hb hts hi8 hown hG.1 hP 0 rfl rfl 0 (by decide) (hts (.fieldLink RX8 9 "SleptMatters$Town" "counts" "[I") (List.mem_cons_of_mem _ (List.mem_append_left _ (List.mem_of_getElem? (i := 1) rfl)))) (fun _ h9 => h9) rfl dX8_sumNoise_12 ?_
  refine lv_iconst (v := 2) hx hb dX8_sumNoise_15 (by decide) ?_
  refine va_iald hx hb hG.1 hP 1 0 rfl rfl (vp_in_nI (n := 2) (by omega) (by omega)) dX8_sumNoise_16 ?_
  refine tp_i (y := 0) (h2) ?_
  refine lv_icmp_ge (x := 0) (y := 0) (tgt := 85) hx hb dX8_sumNoise_17 (by decide) (fun c1 => ?_) (fun c1 => absurd c1 (by decide))
  have hP9 := hP.sub (ws' := [(h, .inr (8, [.ref t, .ref tn, .ref tl, .ref tc, .ref ta])), (t, .inl (k 0, 4, .inl f)), (tl, .inl (k 0, 400, .inl (fl_i g 0 400)))]) [0, 1, 2] rfl
  have hD9 := hD.sub (ws' := [(h, .inr (8, [.ref t, .ref tn, .ref tl, .ref tc, .ref ta])), (t, .inl (k 0, 4, .inl f)), (tl, .inl (k 0, 400, .inl (fl_i g 0 400)))]) [0, 1, 2] (by decide +kernel) rfl
  exact W.vret hx hb hr (fun t9 ht _ => ⟨⟨(), rfl, trivial, by rw [ht]; exact hP9, hD9⟩, hS.F ht⟩) hS.2.2 dX8_sumNoise_85

abbrev c_X8_findCalm (k : Nat → ClassId) (h : Nat) (t : Nat) (tn : Nat) (tl : Nat) (tc : Nat) (ta : Nat) (f : Nat → Int32) : va_W := [(h, .inr (8, [.ref t, .ref tn, .ref tl, .ref tc, .ref ta])), (t, .inl (k 0, 4, .inl f))]
abbrev r_X8_findCalm : Room := { frames := 0, cells := 0, slots := 0, locals := 0 }
def w_X8_findCalm (k : Nat → ClassId) (h : Nat) (t : Nat) (tn : Nat) (tl : Nat) (tc : Nat) (ta : Nat) (f : Nat → Int32) : Unit → va_W := fun _ => [(h, .inr (8, [.ref t, .ref tn, .ref tl, .ref tc, .ref ta])), (t, .inl (k 0, 4, .inl f))]
def p_X8_findCalm (k : Nat → ClassId) (h : Nat) (t : Nat) (tn : Nat) (tl : Nat) (tc : Nat) (ta : Nat) (f : Nat → Int32) : Unit → Prop := fun (u : Unit) => True
abbrev q_X8_findCalm (D : va_G) (k : Nat → ClassId) (h : Nat) (t : Nat) (tn : Nat) (tl : Nat) (tc : Nat) (ta : Nat) (f : Nat → Int32) (A : Nat → Prop) : Array Value → State → Outcome → State → Prop := va_Qv (p_X8_findCalm k h t tn tl tc ta f) (fun u9 t9 => BO D (w_X8_findCalm k h t tn tl tc ta f u9) A t9) A
set_option maxHeartbeats 2000000 in
set_option maxRecDepth 100000 in
theorem X8_findCalm (l : Launch) (D : va_G) (k : Nat → ClassId) (sz : Nat) (h : Nat) (t : Nat) (tn : Nat) (tl : Nat) (tc : Nat) (ta : Nat) (f : Nat → Int32) (h1 : f 1 = 0) : Met l yX8_findCalm wsX8_findCalm r_X8_findCalm (va_Pc [.ref h] (PR D k (c_X8_findCalm k h t tn tl tc ta f) sz)) (q_X8_findCalm D k h t tn tl tc ta f (va_A (c_X8_findCalm k h t tn tl tc ta f) sz)) 0 0 (va_A (c_X8_findCalm k h t tn tl tc ta f) sz) := by
  refine Met.ofW (cc := cX8_findCalm) (maxL := 5) (ret := none) (by decide) rfl ?_
  intro p e s m args below meth c s₁ B hml hv
  obtain ⟨rfl, hsz, hP, hG, hD0⟩ := hv
  have hx := B.exec
  have hb := B.bytes
  have hr := B.returns
  have hts := atoms_spec (ws := wsX8_findCalm) B.pre
  have hown : s.vm.findClass RX8 = some m.cls := findClass_of_methodNamed B.named
  have hlocks := B.notSynchronized
  have hi8 : ∀ w ∈ wsX80, w ∈ wsX8_findCalm := fun _ h => List.mem_cons_of_mem _ (List.mem_append_right _ h)
  subst hsz
  have hD := hD0.self (sz := s.heap.size)
  generalize hAe : va_A (c_X8_findCalm k h t tn tl tc ta f) s.heap.size = A at hD ⊢
  have hA : ∀ q : Nat, s.heap.size ≤ q → A q := fun q h => by rw [← hAe]; exact Or.inr h
  have hS : va_S A s.heap s.heap [] := va_S.rf
  have hP : va_P D vwCl [(h, .inr (8, [.ref t, .ref tn, .ref tl, .ref tc, .ref ta])), (t, .inl (k 0, 4, .inl f))] s.heap := hP
  have hD : va_D A [(h, .inr (8, [.ref t, .ref tn, .ref tl, .ref tc, .ref ta])), (t, .inl (k 0, 4, .inl f))] := hD
  have hl := lv_entry ([.ref h]) (n := 5) (Nat.le_of_ble_eq_true rfl)
  rw [lg_entry_eq]
  generalize (lg_sl ([.ref h]) ++ List.replicate (5 - (lg_sl ([.ref h])).length) Slot.unset).toArray = ls at hl ⊢
  have hl : lv_has ls 5 [(0, .ref h)] := hl
  refine lv_iconst (v := 0) hx hb dX8_findCalm_0 (by decide) ?_
  refine lv_istore_n (lv' := [(1, .int 0), (0, .ref h)]) hx hb dX8_findCalm_1 rfl hl (by decide) rfl (fun ls hl => ?_)
  have L1 : ∀ (n : Nat) (i : Nat), (i ≤ 100) → 100 - i < n → ∀ (H : Heap) (locs : List Loc), va_P D vwCl [(h, .inr (8, [.ref t, .ref tn, .ref tl, .ref tc, .ref ta])), (t, .inl (k 0, 4, .inl f))] H → va_D A [(h, .inr (8, [.ref t, .ref tn, .ref tl, .ref tc, .ref ta])), (t, .inl (k 0, 4, .inl f))] → va_S A s.heap H locs → ∀ (ls : Array Slot), lv_has ls 5 [(1, .int (nI i)), (0, .ref h)] → W p l e r_X8_findCalm s m ([.ref h] : List Value).toArray below meth c H locs 0 0 (MQ below (q_X8_findCalm D k h t tn tl tc ta f A) ([.ref h] : List Value).toArray s 0 0 A) (F0 m 2 ls []) := by
    intro n
    induction n with
    | zero => intro i hi hmu; exact absurd hmu (Nat.not_lt_zero _)
    | succ n ih =>
      intro i hi hmu H locs hP hD hS ls hl
      refine lv_iload_n hx hb dX8_findCalm_2 rfl (lv_at hl 0 rfl) ?_
      refine lv_bipush (v := 100) hx hb dX8_findCalm_3 (by decide) ?_
      refine bn_ge (i := i) (j := 100) (tgt := 84) hx hb dX8_findCalm_5 (by decide) (by omega) (by omega) (fun c2 => ?_) (fun c2 => ?_)
      · skip
        have hP9 := hP.sub (ws' := [(h, .inr (8, [.ref t, .ref tn, .ref tl, .ref tc, .ref ta])), (t, .inl (k 0, 4, .inl f))]) [0, 1] rfl
        have hD9 := hD.sub (ws' := [(h, .inr (8, [.ref t, .ref tn, .ref tl, .ref tc, .ref ta])), (t, .inl (k 0, 4, .inl f))]) [0, 1] (by decide +kernel) rfl
        exact W.vret hx hb hr (fun t9 ht _ => ⟨⟨(), rfl, trivial, by rw [ht]; exact hP9, hD9⟩, hS.F ht⟩) hS.2.2 dX8_findCalm_84
      · skip
        refine lv_iconst (v := 0) hx hb dX8_findCalm_8 (by decide) ?_
        refine lv_istore_n (lv' := [(2, .int 0), (1, .int (nI i)), (0, .ref h)]) hx hb dX8_findCalm_9 rfl hl (by decide) rfl (fun ls hl => ?_)
        refine lv_iload_n hx hb dX8_findCalm_10 rfl (lv_at hl 0 rfl) ?_
        refine lv_aload_n hx hb dX8_findCalm_11 rfl (lv_at hl 2 rfl) ?_
        refine va_get (D := D) (ci := 8) (v := .ref t) (C := RX8) (T := TX8) (N := 5) hx hb hts hi8 hown hG.1 hP 0 rfl rfl 0 (by decide) (hts (.fieldLink RX8 9 "SleptMatters$Town" "counts" "[I") (List.mem_cons_of_mem _ (List.mem_append_left _ (List.mem_of_getElem? (i := 0) rfl)))) (fun _ h9 => h9) rfl dX8_findCalm_12 ?_
        refine lv_iconst (v := 1) hx hb dX8_findCalm_15 (by decide) ?_
        refine va_iald hx hb hG.1 hP 1 0 rfl rfl (vp_in_nI (n := 1) (by omega) (by omega)) dX8_findCalm_16 ?_
        refine tp_i (y := 0) (h1) ?_
        refine lv_icmp_ge (x := 0) (y := 0) (tgt := 78) hx hb dX8_findCalm_17 (by decide) (fun c3 => ?_) (fun c3 => absurd c3 (by decide))
        refine lv_iinc (v := nI (i + 1)) (lv' := [(1, .int (nI (i + 1))), (2, .int 0), (0, .ref h)]) hx hb dX8_findCalm_78 hl (k := 1) rfl (nI_add i 1) (by decide) rfl (fun ls hl => ?_)
        refine lv_goto (tgt := 2) hx hb dX8_findCalm_81 (by decide) ?_
        exact ih (i + 1) (by omega) (by omega) _ _ (hP.sub [0, 1] rfl) (hD.sub [0, 1] (by decide +kernel) rfl) hS ls (lv_sub hl [0, 2] rfl)
  exact L1 _ 0 (Nat.zero_le _) (Nat.lt_succ_self _) _ _ hP hD hS ls (lv_sub hl [0, 1] rfl)

abbrev c_X8_isLike (k : Nat → ClassId) (h : Nat) (t : Nat) (tn : Nat) (tl : Nat) (tc : Nat) (ta : Nat) (f : Nat → Int32) (d : Nat) : va_W := [(h, .inr (8, [.ref t, .ref tn, .ref tl, .ref tc, .ref ta])), (t, .inl (k 0, 4, .inl f))]
abbrev r_X8_isLike : Room := { frames := 0, cells := 0, slots := 0, locals := 0 }
abbrev q_X8_isLike (k : Nat → ClassId) (h : Nat) (t : Nat) (tn : Nat) (tl : Nat) (tc : Nat) (ta : Nat) (f : Nat → Int32) (d : Nat) : Array Value → State → Outcome → State → Prop := vp_Si (fun r => r = 1)
set_option maxHeartbeats 2000000 in
set_option maxRecDepth 100000 in
theorem X8_isLike (l : Launch) (D : va_G) (k : Nat → ClassId) (h : Nat) (t : Nat) (tn : Nat) (tl : Nat) (tc : Nat) (ta : Nat) (f : Nat → Int32) (d : Nat) (h1 : f 1 = 0) : Met l yX8_isLikeTheDayAhead wsX8_isLikeTheDayAhead r_X8_isLike (va_Pc [.ref h, .int (nI d)] (PS D k (c_X8_isLike k h t tn tl tc ta f d))) (q_X8_isLike k h t tn tl tc ta f d) 0 0 (fun _ => False) := by
  refine Met.ofW (cc := cX8_isLikeTheDayAhead) (maxL := 4) (ret := (some .boolean)) (by decide) rfl ?_
  intro p e s m args below meth c s₁ B hml hv
  obtain ⟨rfl, hP, hG⟩ := hv
  have hx := B.exec
  have hb := B.bytes
  have hr := B.returns
  have hts := atoms_spec (ws := wsX8_isLikeTheDayAhead) B.pre
  have hown : s.vm.findClass RX8 = some m.cls := findClass_of_methodNamed B.named
  have hlocks := B.notSynchronized
  have hi8 : ∀ w ∈ wsX80, w ∈ wsX8_isLikeTheDayAhead := fun _ h => List.mem_cons_of_mem _ (List.mem_append_right _ h)
  have hP : va_P D vwCl [(h, .inr (8, [.ref t, .ref tn, .ref tl, .ref tc, .ref ta])), (t, .inl (k 0, 4, .inl f))] s.heap := hP
  have hl := lv_entry ([.ref h, .int (nI d)]) (n := 4) (Nat.le_of_ble_eq_true rfl)
  rw [lg_entry_eq]
  generalize (lg_sl ([.ref h, .int (nI d)]) ++ List.replicate (4 - (lg_sl ([.ref h, .int (nI d)])).length) Slot.unset).toArray = ls at hl ⊢
  have hl : lv_has ls 4 [(0, .ref h), (1, .int (nI d))] := hl
  refine lv_iload_n hx hb dX8_isLikeTheDayAhead_0 rfl (lv_at hl 1 rfl) ?_
  refine lv_bipush (v := 7) hx hb dX8_isLikeTheDayAhead_1 (by decide) ?_
  refine lv_imul hx hb dX8_isLikeTheDayAhead_3 ?_
  refine tp_i (y := nI (d * 7)) (pk_mul d 7) ?_
  refine lv_istore_n (lv' := [(2, .int (nI (d * 7))), (0, .ref h), (1, .int (nI d))]) hx hb dX8_isLikeTheDayAhead_4 rfl hl (by decide) rfl (fun ls hl => ?_)
  refine lv_iconst (v := 0) hx hb dX8_isLikeTheDayAhead_5 (by decide) ?_
  refine lv_istore_n (lv' := [(3, .int 0), (2, .int (nI (d * 7))), (0, .ref h), (1, .int (nI d))]) hx hb dX8_isLikeTheDayAhead_6 rfl hl (by decide) rfl (fun ls hl => ?_)
  refine lv_iload_n hx hb dX8_isLikeTheDayAhead_7 rfl (lv_at hl 0 rfl) ?_
  refine lv_aload_n hx hb dX8_isLikeTheDayAhead_8 rfl (lv_at hl 2 rfl) ?_
  refine va_get (D := D) (ci := 8) (v := .ref t) (C := RX8) (T := TX8) (N := 5) hx hb hts hi8 hown hG.1 hP 0 rfl rfl 0 (by decide) (hts (.fieldLink RX8 9 "SleptMatters$Town" "counts" "[I") (List.mem_cons_of_mem _ (List.mem_append_left _ (List.mem_of_getElem? (i := 0) rfl)))) (fun _ h9 => h9) rfl dX8_isLikeTheDayAhead_9 ?_
  refine lv_iconst (v := 1) hx hb dX8_isLikeTheDayAhead_12 (by decide) ?_
  refine va_iald hx hb hG.1 hP 1 0 rfl rfl (vp_in_nI (n := 1) (by omega) (by omega)) dX8_isLikeTheDayAhead_13 ?_
  refine tp_i (y := 0) (h1) ?_
  refine lv_icmp_ge (x := 0) (y := 0) (tgt := 47) hx hb dX8_isLikeTheDayAhead_14 (by decide) (fun c1 => ?_) (fun c1 => absurd c1 (by decide))
  refine lv_iconst (v := 1) hx hb dX8_isLikeTheDayAhead_47 (by decide) ?_
  exact W.zret (v := 1) hx hb hr (rfl) (fun t9 ht _ => ⟨1, rfl, rfl, ht⟩) (fun q h => by cases h) dX8_isLikeTheDayAhead_48

abbrev c_X8_countAlike (k : Nat → ClassId) (h : Nat) (t : Nat) (tn : Nat) (tl : Nat) (tc : Nat) (ta : Nat) (f : Nat → Int32) (g : Nat → Int32) : va_W := [(h, .inr (8, [.ref t, .ref tn, .ref tl, .ref tc, .ref ta])), (t, .inl (k 0, 4, .inl f)), (ta, .inl (k 0, 100, .inl g))]
abbrev r_X8_countAlike : Room := { frames := 1, cells := 0, slots := 0, locals := 23 }
def w_X8_countAlike (k : Nat → ClassId) (h : Nat) (t : Nat) (tn : Nat) (tl : Nat) (tc : Nat) (ta : Nat) (f : Nat → Int32) (g : Nat → Int32) : (Nat → Int32) → va_W := fun ga => [(h, .inr (8, [.ref t, .ref tn, .ref tl, .ref tc, .ref ta])), (t, .inl (k 0, 4, .inl f)), (ta, .inl (k 0, 100, .inl ga))]
def p_X8_countAlike (k : Nat → ClassId) (h : Nat) (t : Nat) (tn : Nat) (tl : Nat) (tc : Nat) (ta : Nat) (f : Nat → Int32) (g : Nat → Int32) : (Nat → Int32) → Prop := fun (u : (Nat → Int32)) => True
abbrev q_X8_countAlike (D : va_G) (k : Nat → ClassId) (h : Nat) (t : Nat) (tn : Nat) (tl : Nat) (tc : Nat) (ta : Nat) (f : Nat → Int32) (g : Nat → Int32) (A : Nat → Prop) : Array Value → State → Outcome → State → Prop := va_Qv (p_X8_countAlike k h t tn tl tc ta f g) (fun u9 t9 => BO D (w_X8_countAlike k h t tn tl tc ta f g u9) A t9) A
set_option maxHeartbeats 2000000 in
set_option maxRecDepth 100000 in
theorem X8_countAlike (l : Launch) (D : va_G) (k : Nat → ClassId) (sz : Nat) (h : Nat) (t : Nat) (tn : Nat) (tl : Nat) (tc : Nat) (ta : Nat) (f : Nat → Int32) (g : Nat → Int32) (h1 : f 1 = 0) : Met l yX8_countAlike wsX8_countAlike r_X8_countAlike (va_Pc [.ref h] (PR D k (c_X8_countAlike k h t tn tl tc ta f g) sz)) (q_X8_countAlike D k h t tn tl tc ta f g (va_A (c_X8_countAlike k h t tn tl tc ta f g) sz)) 0 0 (va_A (c_X8_countAlike k h t tn tl tc ta f g) sz) := by
  refine Met.ofW (cc := cX8_countAlike) (maxL := 2) (ret := none) (by decide) rfl ?_
  intro p e s m args below meth c s₁ B hml hv
  obtain ⟨rfl, hsz, hP, hG, hD0⟩ := hv
  have hx := B.exec
  have hb := B.bytes
  have hr := B.returns
  have hts := atoms_spec (ws := wsX8_countAlike) B.pre
  have hown : s.vm.findClass RX8 = some m.cls := findClass_of_methodNamed B.named
  have hlocks := B.notSynchronized
  have hi8 : ∀ w ∈ wsX80, w ∈ wsX8_countAlike := fun _ h => List.mem_cons_of_mem _ (List.mem_append_right _ h)
  subst hsz
  have hD := hD0.self (sz := s.heap.size)
  generalize hAe : va_A (c_X8_countAlike k h t tn tl tc ta f g) s.heap.size = A at hD ⊢
  have hA : ∀ q : Nat, s.heap.size ≤ q → A q := fun q h => by rw [← hAe]; exact Or.inr h
  have hS : va_S A s.heap s.heap [] := va_S.rf
  have hP : va_P D vwCl [(h, .inr (8, [.ref t, .ref tn, .ref tl, .ref tc, .ref ta])), (t, .inl (k 0, 4, .inl f)), (ta, .inl (k 0, 100, .inl g))] s.heap := hP
  have hD : va_D A [(h, .inr (8, [.ref t, .ref tn, .ref tl, .ref tc, .ref ta])), (t, .inl (k 0, 4, .inl f)), (ta, .inl (k 0, 100, .inl g))] := hD
  have hl := lv_entry ([.ref h]) (n := 2) (Nat.le_of_ble_eq_true rfl)
  rw [lg_entry_eq]
  generalize (lg_sl ([.ref h]) ++ List.replicate (2 - (lg_sl ([.ref h])).length) Slot.unset).toArray = ls at hl ⊢
  have hl : lv_has ls 2 [(0, .ref h)] := hl
  refine lv_iconst (v := 0) hx hb dX8_countAlike_0 (by decide) ?_
  refine lv_istore_n (lv' := [(1, .int 0), (0, .ref h)]) hx hb dX8_countAlike_1 rfl hl (by decide) rfl (fun ls hl => ?_)
  have L1 : ∀ (n : Nat) (i : Nat) (ga : Nat → Int32), (i ≤ 100) → 100 - i < n → ∀ (H : Heap) (locs : List Loc), va_P D vwCl [(h, .inr (8, [.ref t, .ref tn, .ref tl, .ref tc, .ref ta])), (t, .inl (k 0, 4, .inl f)), (ta, .inl (k 0, 100, .inl ga))] H → va_D A [(h, .inr (8, [.ref t, .ref tn, .ref tl, .ref tc, .ref ta])), (t, .inl (k 0, 4, .inl f)), (ta, .inl (k 0, 100, .inl ga))] → va_S A s.heap H locs → ∀ (ls : Array Slot), lv_has ls 2 [(1, .int (nI i)), (0, .ref h)] → W p l e r_X8_countAlike s m ([.ref h] : List Value).toArray below meth c H locs 0 0 (MQ below (q_X8_countAlike D k h t tn tl tc ta f g A) ([.ref h] : List Value).toArray s 0 0 A) (F0 m 2 ls []) := by
    intro n
    induction n with
    | zero => intro i ga hi hmu; exact absurd hmu (Nat.not_lt_zero _)
    | succ n ih =>
      intro i ga hi hmu H locs hP hD hS ls hl
      refine lv_iload_n hx hb dX8_countAlike_2 rfl (lv_at hl 0 rfl) ?_
      refine lv_bipush (v := 100) hx hb dX8_countAlike_3 (by decide) ?_
      refine bn_ge (i := i) (j := 100) (tgt := 46) hx hb dX8_countAlike_5 (by decide) (by omega) (by omega) (fun c2 => ?_) (fun c2 => ?_)
      · skip
        have hP9 := hP.sub (ws' := [(h, .inr (8, [.ref t, .ref tn, .ref tl, .ref tc, .ref ta])), (t, .inl (k 0, 4, .inl f)), (ta, .inl (k 0, 100, .inl ga))]) [0, 1, 2] rfl
        have hD9 := hD.sub (ws' := [(h, .inr (8, [.ref t, .ref tn, .ref tl, .ref tc, .ref ta])), (t, .inl (k 0, 4, .inl f)), (ta, .inl (k 0, 100, .inl ga))]) [0, 1, 2] (by decide +kernel) rfl
        exact W.vret hx hb hr (fun t9 ht _ => ⟨⟨(ga), rfl, trivial, by rw [ht]; exact hP9, hD9⟩, hS.F ht⟩) hS.2.2 dX8_countAlike_46
      · skip
        refine lv_aload_n hx hb dX8_countAlike_8 rfl (lv_at hl 1 rfl) ?_
        refine va_get (D := D) (ci := 8) (v := .ref ta) (C := RX8) (T := TX8) (N := 5) hx hb hts hi8 hown hG.1 hP 0 rfl rfl 4 (by decide) (hts (.fieldLink RX8 26 "SleptMatters$Town" "alike" "[I") (List.mem_cons_of_mem _ (List.mem_append_left _ (List.mem_of_getElem? (i := 0) rfl)))) (fun _ h9 => h9) rfl dX8_countAlike_9 ?_
        refine lv_iload_n hx hb dX8_countAlike_12 rfl (lv_at hl 0 rfl) ?_
        refine lv_iload_n hx hb dX8_countAlike_13 rfl (lv_at hl 0 rfl) ?_
        refine lv_if_le (x := nI i) (tgt := 38) hx hb dX8_countAlike_14 (by decide) (fun c3 => ?_) (fun c3 => ?_)
        · skip
          refine lv_iconst (v := 1) hx hb dX8_countAlike_38 (by decide) ?_
          refine va_iast hx hb hG.1 hP hD hS 2 0 rfl rfl (vp_in_nI (by omega) (by omega)) dX8_countAlike_39 (fun H locs hP hD hS => ?_)
          rw [nI_clamp (n := i) (by omega)] at hP hD
          have hP : va_P D vwCl [(h, .inr (8, [.ref t, .ref tn, .ref tl, .ref tc, .ref ta])), (t, .inl (k 0, 4, .inl f)), (ta, .inl (k 0, 100, .inl (upd ga i 1)))] H := hP
          have hD : va_D A [(h, .inr (8, [.ref t, .ref tn, .ref tl, .ref tc, .ref ta])), (t, .inl (k 0, 4, .inl f)), (ta, .inl (k 0, 100, .inl (upd ga i 1)))] := hD
          refine lv_iinc (v := nI (i + 1)) (lv' := [(1, .int (nI (i + 1))), (0, .ref h)]) hx hb dX8_countAlike_40 hl (k := 0) rfl (nI_add i 1) (by decide) rfl (fun ls hl => ?_)
          refine lv_goto (tgt := 2) hx hb dX8_countAlike_43 (by decide) ?_
          exact ih (i + 1) (upd ga i 1) (by omega) (by omega) _ _ (hP.sub [0, 1, 2] rfl) (hD.sub [0, 1, 2] (by decide +kernel) rfl) hS ls (lv_sub hl [0, 1] rfl)
        · skip
          have hp := pos_of c3
          refine lv_aload_n hx hb dX8_countAlike_17 rfl (lv_at hl 1 rfl) ?_
          refine lv_iload_n hx hb dX8_countAlike_18 rfl (lv_at hl 0 rfl) ?_
          have hPc := hP.sub (ws' := (c_X8_isLike k h t tn tl tc ta f i)) [0, 1] rfl
          refine vp_callSi (va_Run.run (va_runV (As := [.int (nI i)]) (rest := [.int (nI i), .ref ta]) ⟨hx, hb, hml, hown, hts⟩ (X8_isLike l D k h t tn tl tc ta f i (h1)) (cwV 1 hts gX8_countAlike_X8_isLikeTheDayAhead rfl rfl rfl (by decide +kernel) ⟨Nat.le_of_ble_eq_true rfl, Nat.le_of_ble_eq_true rfl⟩) ⟨PS.blind _ _ _ _, va_recv hG.1 hP (ci := 8) (q0 := 0) rfl rfl, PS.pre hPc hG [.ref h, .int (nI i)]⟩ rfl rfl hl.1 rfl (lv_room (Nat.le_of_ble_eq_true rfl)) dX8_countAlike_19 ⟨Nat.le_of_ble_eq_true rfl, Nat.le_of_ble_eq_true rfl⟩)) (fun r hq => ?_)
          generalize r = y4 at hq ⊢
          have hq : y4 = 1 := hq
          refine tp_i (y := 1) (hq) ?_
          refine lv_if_eq (x := 1) (tgt := 38) hx hb dX8_countAlike_22 (by decide) (fun c5 => absurd c5 (by decide)) (fun c5 => ?_)
          refine lv_aload_n hx hb dX8_countAlike_25 rfl (lv_at hl 1 rfl) ?_
          refine va_get (D := D) (ci := 8) (v := .ref ta) (C := RX8) (T := TX8) (N := 5) hx hb hts hi8 hown hG.1 hP 0 rfl rfl 4 (by decide) (hts (.fieldLink RX8 26 "SleptMatters$Town" "alike" "[I") (List.mem_cons_of_mem _ (List.mem_append_left _ (List.mem_of_getElem? (i := 0) rfl)))) (fun _ h9 => h9) rfl dX8_countAlike_26 ?_
          refine lv_iload_n hx hb dX8_countAlike_29 rfl (lv_at hl 0 rfl) ?_
          refine lv_iconst (v := 1) hx hb dX8_countAlike_30 (by decide) ?_
          refine lv_isub hx hb dX8_countAlike_31 ?_
          refine tp_i (y := nI (i - 1)) (pk_sub (a := i) (b := 1) hp) ?_
          refine va_iald hx hb hG.1 hP 2 0 rfl rfl (vp_in_nI (by omega) (by omega)) dX8_countAlike_32 ?_
          refine tp_i (y := ga (i - 1)) (congrArg _ (nI_clamp (n := i - 1) (by omega))) ?_
          refine lv_iconst (v := 1) hx hb dX8_countAlike_33 (by decide) ?_
          refine lv_iadd hx hb dX8_countAlike_34 ?_
          refine lv_goto (tgt := 39) hx hb dX8_countAlike_35 (by decide) ?_
          refine va_iast hx hb hG.1 hP hD hS 2 0 rfl rfl (vp_in_nI (by omega) (by omega)) dX8_countAlike_39 (fun H locs hP hD hS => ?_)
          rw [nI_clamp (n := i) (by omega)] at hP hD
          have hP : va_P D vwCl [(h, .inr (8, [.ref t, .ref tn, .ref tl, .ref tc, .ref ta])), (t, .inl (k 0, 4, .inl f)), (ta, .inl (k 0, 100, .inl (upd ga i ((ga (i - 1)) + 1))))] H := hP
          have hD : va_D A [(h, .inr (8, [.ref t, .ref tn, .ref tl, .ref tc, .ref ta])), (t, .inl (k 0, 4, .inl f)), (ta, .inl (k 0, 100, .inl (upd ga i ((ga (i - 1)) + 1))))] := hD
          refine lv_iinc (v := nI (i + 1)) (lv' := [(1, .int (nI (i + 1))), (0, .ref h)]) hx hb dX8_countAlike_40 hl (k := 0) rfl (nI_add i 1) (by decide) rfl (fun ls hl => ?_)
          refine lv_goto (tgt := 2) hx hb dX8_countAlike_43 (by decide) ?_
          exact ih (i + 1) (upd ga i ((ga (i - 1)) + 1)) (by omega) (by omega) _ _ (hP.sub [0, 1, 2] rfl) (hD.sub [0, 1, 2] (by decide +kernel) rfl) hS ls (lv_sub hl [0, 1] rfl)
  exact L1 _ 0 g (Nat.zero_le _) (Nat.lt_succ_self _) _ _ hP hD hS ls (lv_sub hl [0, 1] rfl)

abbrev c_X8_readFrom (k : Nat → ClassId) (h : Nat) (t : Nat) (tn : Nat) (tl : Nat) (tc : Nat) (ta : Nat) (f : Nat → Int32) (g : Nat → Int32) (gq : Nat → Int32) (x7 : Nat) (qb : Nat) (w2 : Int32) (w3 : Int32) (w4 : Int32) (w5 : Int32) (w6 : Int32) (w7 : Int32) : va_W := [(h, .inr (8, [.ref t, .ref tn, .ref tl, .ref tc, .ref ta])), (t, .inl (k 0, 4, .inl f)), (tl, .inl (k 0, 400, .inl g)), (ta, .inl (k 0, 100, .inl gq)), (x7, .inr (7, [.ref qb, .int 0, .int w2, .int w3, .int w4, .int w5, .int w6, .int w7]))]
abbrev r_X8_readFrom : Room := { frames := 2, cells := 0, slots := 0, locals := 47 }
def w_X8_readFrom (k : Nat → ClassId) (h : Nat) (t : Nat) (tn : Nat) (tl : Nat) (tc : Nat) (ta : Nat) (f : Nat → Int32) (g : Nat → Int32) (gq : Nat → Int32) (x7 : Nat) (qb : Nat) (w2 : Int32) (w3 : Int32) (w4 : Int32) (w5 : Int32) (w6 : Int32) (w7 : Int32) : (Nat → Int32) → va_W := fun ga => [(h, .inr (8, [.ref t, .ref tn, .ref tl, .ref tc, .ref ta])), (t, .inl (k 0, 4, .inl (fl_i f 0 4))), (tl, .inl (k 0, 400, .inl (fl_i g 0 400))), (ta, .inl (k 0, 100, .inl ga)), (x7, .inr (7, [.ref qb, .int 0, .int w2, .int w3, .int 0, .int (-1), .int w6, .int 0]))]
def p_X8_readFrom (k : Nat → ClassId) (h : Nat) (t : Nat) (tn : Nat) (tl : Nat) (tc : Nat) (ta : Nat) (f : Nat → Int32) (g : Nat → Int32) (gq : Nat → Int32) (x7 : Nat) (qb : Nat) (w2 : Int32) (w3 : Int32) (w4 : Int32) (w5 : Int32) (w6 : Int32) (w7 : Int32) : (Nat → Int32) → Prop := fun (u : (Nat → Int32)) => True
abbrev q_X8_readFrom (D : va_G) (k : Nat → ClassId) (h : Nat) (t : Nat) (tn : Nat) (tl : Nat) (tc : Nat) (ta : Nat) (f : Nat → Int32) (g : Nat → Int32) (gq : Nat → Int32) (x7 : Nat) (qb : Nat) (w2 : Int32) (w3 : Int32) (w4 : Int32) (w5 : Int32) (w6 : Int32) (w7 : Int32) (A : Nat → Prop) : Array Value → State → Outcome → State → Prop := va_Qv (p_X8_readFrom k h t tn tl tc ta f g gq x7 qb w2 w3 w4 w5 w6 w7) (fun u9 t9 => BO D (w_X8_readFrom k h t tn tl tc ta f g gq x7 qb w2 w3 w4 w5 w6 w7 u9) A t9) A
set_option maxHeartbeats 2000000 in
set_option maxRecDepth 100000 in
theorem X8_readFrom (l : Launch) (D : va_G) (k : Nat → ClassId) (sz : Nat) (h : Nat) (t : Nat) (tn : Nat) (tl : Nat) (tc : Nat) (ta : Nat) (f : Nat → Int32) (g : Nat → Int32) (gq : Nat → Int32) (x7 : Nat) (qb : Nat) (w2 : Int32) (w3 : Int32) (w4 : Int32) (w5 : Int32) (w6 : Int32) (w7 : Int32)  : Met l yX8_readFrom wsX8_readFrom r_X8_readFrom (va_Pc [.ref h, .ref x7] (PR D k (c_X8_readFrom k h t tn tl tc ta f g gq x7 qb w2 w3 w4 w5 w6 w7) sz)) (q_X8_readFrom D k h t tn tl tc ta f g gq x7 qb w2 w3 w4 w5 w6 w7 (va_A (c_X8_readFrom k h t tn tl tc ta f g gq x7 qb w2 w3 w4 w5 w6 w7) sz)) 0 0 (va_A (c_X8_readFrom k h t tn tl tc ta f g gq x7 qb w2 w3 w4 w5 w6 w7) sz) := by
  refine Met.ofW (cc := cX8_readFrom) (maxL := 3) (ret := none) (by decide) rfl ?_
  intro p e s m args below meth c s₁ B hml hv
  obtain ⟨rfl, hsz, hP, hG, hD0⟩ := hv
  have hx := B.exec
  have hb := B.bytes
  have hr := B.returns
  have hts := atoms_spec (ws := wsX8_readFrom) B.pre
  have hown : s.vm.findClass RX8 = some m.cls := findClass_of_methodNamed B.named
  have hlocks := B.notSynchronized
  have hi8 : ∀ w ∈ wsX80, w ∈ wsX8_readFrom := fun _ h => List.mem_cons_of_mem _ (List.mem_append_left _ (List.mem_append_right _ h))
  have hi7 : ∀ w ∈ wsX70, w ∈ wsX8_readFrom := fun _ h => List.mem_cons_of_mem _ (List.mem_append_right _ h)
  subst hsz
  have hD := hD0.self (sz := s.heap.size)
  generalize hAe : va_A (c_X8_readFrom k h t tn tl tc ta f g gq x7 qb w2 w3 w4 w5 w6 w7) s.heap.size = A at hD ⊢
  have hA : ∀ q : Nat, s.heap.size ≤ q → A q := fun q h => by rw [← hAe]; exact Or.inr h
  have hS : va_S A s.heap s.heap [] := va_S.rf
  have hP : va_P D vwCl [(h, .inr (8, [.ref t, .ref tn, .ref tl, .ref tc, .ref ta])), (t, .inl (k 0, 4, .inl f)), (tl, .inl (k 0, 400, .inl g)), (ta, .inl (k 0, 100, .inl gq)), (x7, .inr (7, [.ref qb, .int 0, .int w2, .int w3, .int w4, .int w5, .int w6, .int w7]))] s.heap := hP
  have hD : va_D A [(h, .inr (8, [.ref t, .ref tn, .ref tl, .ref tc, .ref ta])), (t, .inl (k 0, 4, .inl f)), (tl, .inl (k 0, 400, .inl g)), (ta, .inl (k 0, 100, .inl gq)), (x7, .inr (7, [.ref qb, .int 0, .int w2, .int w3, .int w4, .int w5, .int w6, .int w7]))] := hD
  have hl := lv_entry ([.ref h, .ref x7]) (n := 3) (Nat.le_of_ble_eq_true rfl)
  rw [lg_entry_eq]
  generalize (lg_sl ([.ref h, .ref x7]) ++ List.replicate (3 - (lg_sl ([.ref h, .ref x7])).length) Slot.unset).toArray = ls at hl ⊢
  have hl : lv_has ls 3 [(0, .ref h), (1, .ref x7)] := hl
  refine lv_aload_n hx hb dX8_readFrom_0 rfl (lv_at hl 0 rfl) ?_
  refine va_get (D := D) (ci := 8) (v := .ref t) (C := RX8) (T := TX8) (N := 5) hx hb hts hi8 hown hG.1 hP 0 rfl rfl 0 (by decide) (hts (.fieldLink RX8 9 "SleptMatters$Town" "counts" "[I") (List.mem_cons_of_mem _ (List.mem_append_left _ (List.mem_append_left _ (List.mem_append_left _ (List.mem_of_getElem? (i := 0) rfl)))))) (fun _ h9 => h9) rfl dX8_readFrom_1 ?_
  refine lv_iconst (v := 0) hx hb dX8_readFrom_4 (by decide) ?_
  have hPc := hP.sub (ws' := (c_fillI k t 4 f 0)) [1] rfl
  have hDc := hD.sub (ws' := (c_fillI k t 4 f 0)) [1] (by decide +kernel) rfl
  refine cl_v (w1 := w_fillI k t 4 f 0) (wr := [(h, .inr (8, [.ref t, .ref tn, .ref tl, .ref tc, .ref ta])), (tl, .inl (k 0, 400, .inl g)), (ta, .inl (k 0, 100, .inl gq)), (x7, .inr (7, [.ref qb, .int 0, .int w2, .int w3, .int w4, .int w5, .int w6, .int w7]))]) (va_runS (As := [.ref t, .int 0]) (rest := []) ⟨hx, hb, hml, hown, hts⟩ (fillI l D k s.heap.size t 4 f 0 (by decide)) (va_cwS 2 hts gX8_readFrom_J7_fill_53178 rfl rfl rfl (by decide +kernel) ⟨Nat.le_of_ble_eq_true rfl, Nat.le_of_ble_eq_true rfl⟩) ⟨PR.blind _ _ _ _ _, PR.pre hPc hDc hG [.ref t, .int 0]⟩ rfl rfl hl.1 rfl (lv_room (Nat.le_of_ble_eq_true rfl)) dX8_readFrom_5 ⟨Nat.le_of_ble_eq_true rfl, Nat.le_of_ble_eq_true rfl⟩) hP hD hS hA [1] [0, 2, 3, 4] rfl rfl (by decide +kernel) (by decide +kernel) (fun u H locs hq hP hD hS => ?_)
  cases u
  have hP : va_P D vwCl [(h, .inr (8, [.ref t, .ref tn, .ref tl, .ref tc, .ref ta])), (tl, .inl (k 0, 400, .inl g)), (ta, .inl (k 0, 100, .inl gq)), (x7, .inr (7, [.ref qb, .int 0, .int w2, .int w3, .int w4, .int w5, .int w6, .int w7])), (t, .inl (k 0, 4, .inl (fl_i f 0 4)))] H := hP
  have hD : va_D A [(h, .inr (8, [.ref t, .ref tn, .ref tl, .ref tc, .ref ta])), (tl, .inl (k 0, 400, .inl g)), (ta, .inl (k 0, 100, .inl gq)), (x7, .inr (7, [.ref qb, .int 0, .int w2, .int w3, .int w4, .int w5, .int w6, .int w7])), (t, .inl (k 0, 4, .inl (fl_i f 0 4)))] := hD
  refine lv_aload_n hx hb dX8_readFrom_8 rfl (lv_at hl 1 rfl) ?_
  have hPc := hP.sub (ws' := (c_X7_startReading k x7 qb 0 w2 w3 w4 w5 w6 w7)) [3] rfl
  have hDc := hD.sub (ws' := (c_X7_startReading k x7 qb 0 w2 w3 w4 w5 w6 w7)) [3] (by decide +kernel) rfl
  refine cl_v (w1 := w_X7_startReading k x7 qb 0 w2 w3 w4 w5 w6 w7) (wr := [(h, .inr (8, [.ref t, .ref tn, .ref tl, .ref tc, .ref ta])), (tl, .inl (k 0, 400, .inl g)), (ta, .inl (k 0, 100, .inl gq)), (t, .inl (k 0, 4, .inl (fl_i f 0 4)))]) (va_runV (As := []) (rest := []) ⟨hx, hb, hml, hown, hts⟩ (X7_startReading l D k H.size x7 qb 0 w2 w3 w4 w5 w6 w7 ) (cwV 0 hts gX8_readFrom_X7_startReading rfl rfl rfl (by decide +kernel) ⟨Nat.le_of_ble_eq_true rfl, Nat.le_of_ble_eq_true rfl⟩) ⟨PR.blind _ _ _ _ _, va_recv hG.1 hP (ci := 7) (q0 := 3) rfl rfl, PR.pre hPc hDc hG [.ref x7]⟩ rfl rfl hl.1 rfl (lv_room (Nat.le_of_ble_eq_true rfl)) dX8_readFrom_9 ⟨Nat.le_of_ble_eq_true rfl, Nat.le_of_ble_eq_true rfl⟩) hP hD hS hA [3] [0, 1, 2, 4] rfl rfl (by decide +kernel) (by decide +kernel) (fun u H locs hq hP hD hS => ?_)
  cases u
  have hP : va_P D vwCl [(h, .inr (8, [.ref t, .ref tn, .ref tl, .ref tc, .ref ta])), (tl, .inl (k 0, 400, .inl g)), (ta, .inl (k 0, 100, .inl gq)), (t, .inl (k 0, 4, .inl (fl_i f 0 4))), (x7, .inr (7, [.ref qb, .int 0, .int w2, .int w3, .int 0, .int (-1), .int w6, .int 0]))] H := hP
  have hD : va_D A [(h, .inr (8, [.ref t, .ref tn, .ref tl, .ref tc, .ref ta])), (tl, .inl (k 0, 400, .inl g)), (ta, .inl (k 0, 100, .inl gq)), (t, .inl (k 0, 4, .inl (fl_i f 0 4))), (x7, .inr (7, [.ref qb, .int 0, .int w2, .int w3, .int 0, .int (-1), .int w6, .int 0]))] := hD
  refine lv_iconst (v := 0) hx hb dX8_readFrom_12 (by decide) ?_
  refine lv_istore_n (lv' := [(2, .int 0), (0, .ref h), (1, .ref x7)]) hx hb dX8_readFrom_13 rfl hl (by decide) rfl (fun ls hl => ?_)
  refine lv_iload_n hx hb dX8_readFrom_14 rfl (lv_at hl 0 rfl) ?_
  refine lv_sipush (v := 500) hx hb dX8_readFrom_15 (by decide) ?_
  refine lv_icmp_ge (x := 0) (y := 500) (tgt := 46) hx hb dX8_readFrom_18 (by decide) (fun c1 => absurd c1 (by decide)) (fun c1 => ?_)
  refine lv_aload_n hx hb dX8_readFrom_21 rfl (lv_at hl 2 rfl) ?_
  have hPc := hP.sub (ws' := (c_X7_isFaulty k x7 qb 0 w2 w3 (-1) w6 0)) [4] rfl
  refine vp_callSi (va_Run.run (va_runV (As := []) (rest := []) ⟨hx, hb, hml, hown, hts⟩ (X7_isFaulty l D k x7 qb 0 w2 w3 (-1) w6 0 ) (cwV 0 hts gX8_readFrom_X7_isFaulty rfl rfl rfl (by decide +kernel) ⟨Nat.le_of_ble_eq_true rfl, Nat.le_of_ble_eq_true rfl⟩) ⟨PS.blind _ _ _ _, va_recv hG.1 hP (ci := 7) (q0 := 4) rfl rfl, PS.pre hPc hG [.ref x7]⟩ rfl rfl hl.1 rfl (lv_room (Nat.le_of_ble_eq_true rfl)) dX8_readFrom_22 ⟨Nat.le_of_ble_eq_true rfl, Nat.le_of_ble_eq_true rfl⟩)) (fun r hq => ?_)
  generalize r = y2 at hq ⊢
  have hq : y2 = 0 := hq
  refine tp_i (y := 0) (hq) ?_
  refine lv_if_ne (x := 0) (tgt := 46) hx hb dX8_readFrom_25 (by decide) (fun c3 => absurd c3 (by decide)) (fun c3 => ?_)
  refine lv_aload_n hx hb dX8_readFrom_28 rfl (lv_at hl 2 rfl) ?_
  have hPc := hP.sub (ws' := (c_X7_hasMore k x7 qb w2 w3 0 (-1) w6)) [4] rfl
  have hDc := hD.sub (ws' := (c_X7_hasMore k x7 qb w2 w3 0 (-1) w6)) [4] (by decide +kernel) rfl
  refine cl_i (w1 := w_X7_hasMore k x7 qb w2 w3 0 (-1) w6) (wr := [(h, .inr (8, [.ref t, .ref tn, .ref tl, .ref tc, .ref ta])), (tl, .inl (k 0, 400, .inl g)), (ta, .inl (k 0, 100, .inl gq)), (t, .inl (k 0, 4, .inl (fl_i f 0 4)))]) (va_runV (As := []) (rest := []) ⟨hx, hb, hml, hown, hts⟩ (X7_hasMore l D k H.size x7 qb w2 w3 0 (-1) w6 ) (cwV 0 hts gX8_readFrom_X7_hasMore rfl rfl rfl (by decide +kernel) ⟨Nat.le_of_ble_eq_true rfl, Nat.le_of_ble_eq_true rfl⟩) ⟨PR.blind _ _ _ _ _, va_recv hG.1 hP (ci := 7) (q0 := 4) rfl rfl, PR.pre hPc hDc hG [.ref x7]⟩ rfl rfl hl.1 rfl (lv_room (Nat.le_of_ble_eq_true rfl)) dX8_readFrom_29 ⟨Nat.le_of_ble_eq_true rfl, Nat.le_of_ble_eq_true rfl⟩) hP hD hS hA [4] [0, 1, 2, 3] rfl rfl (by decide +kernel) (by decide +kernel) (fun r u H locs hq hP hD hS => ?_)
  cases u
  generalize r = y4 at hq ⊢
  have hq : y4 = 0 := hq
  have hP : va_P D vwCl [(h, .inr (8, [.ref t, .ref tn, .ref tl, .ref tc, .ref ta])), (tl, .inl (k 0, 400, .inl g)), (ta, .inl (k 0, 100, .inl gq)), (t, .inl (k 0, 4, .inl (fl_i f 0 4))), (x7, .inr (7, [.ref qb, .int 0, .int w2, .int w3, .int 0, .int (-1), .int w6, .int 0]))] H := hP
  have hD : va_D A [(h, .inr (8, [.ref t, .ref tn, .ref tl, .ref tc, .ref ta])), (tl, .inl (k 0, 400, .inl g)), (ta, .inl (k 0, 100, .inl gq)), (t, .inl (k 0, 4, .inl (fl_i f 0 4))), (x7, .inr (7, [.ref qb, .int 0, .int w2, .int w3, .int 0, .int (-1), .int w6, .int 0]))] := hD
  refine tp_i (y := 0) (hq) ?_
  refine lv_if_eq (x := 0) (tgt := 46) hx hb dX8_readFrom_32 (by decide) (fun c5 => ?_) (fun c5 => absurd c5 (by decide))
  refine lv_aload_n hx hb dX8_readFrom_46 rfl (lv_at hl 2 rfl) ?_
  have hPc := hP.sub (ws' := (c_X7_isFaulty k x7 qb 0 w2 w3 (-1) w6 0)) [4] rfl
  refine vp_callSi (va_Run.run (va_runV (As := []) (rest := []) ⟨hx, hb, hml, hown, hts⟩ (X7_isFaulty l D k x7 qb 0 w2 w3 (-1) w6 0 ) (cwV 0 hts gX8_readFrom_X7_isFaulty rfl rfl rfl (by decide +kernel) ⟨Nat.le_of_ble_eq_true rfl, Nat.le_of_ble_eq_true rfl⟩) ⟨PS.blind _ _ _ _, va_recv hG.1 hP (ci := 7) (q0 := 4) rfl rfl, PS.pre hPc hG [.ref x7]⟩ rfl rfl hl.1 rfl (lv_room (Nat.le_of_ble_eq_true rfl)) dX8_readFrom_47 ⟨Nat.le_of_ble_eq_true rfl, Nat.le_of_ble_eq_true rfl⟩)) (fun r hq => ?_)
  generalize r = y6 at hq ⊢
  have hq : y6 = 0 := hq
  refine tp_i (y := 0) (hq) ?_
  refine lv_if_eq (x := 0) (tgt := 54) hx hb dX8_readFrom_50 (by decide) (fun c7 => ?_) (fun c7 => absurd c7 (by decide))
  refine lv_aload_n hx hb dX8_readFrom_54 rfl (lv_at hl 1 rfl) ?_
  have hPc := hP.sub (ws' := (c_X8_sumNoise k h t tn tl tc ta (fl_i f 0 4) g)) [0, 3, 1] rfl
  have hDc := hD.sub (ws' := (c_X8_sumNoise k h t tn tl tc ta (fl_i f 0 4) g)) [0, 3, 1] (by decide +kernel) rfl
  refine cl_v (w1 := w_X8_sumNoise k h t tn tl tc ta (fl_i f 0 4) g) (wr := [(ta, .inl (k 0, 100, .inl gq)), (x7, .inr (7, [.ref qb, .int 0, .int w2, .int w3, .int 0, .int (-1), .int w6, .int 0]))]) (va_runV (As := []) (rest := []) ⟨hx, hb, hml, hown, hts⟩ (X8_sumNoise l D k H.size h t tn tl tc ta (fl_i f 0 4) g (fl_i_in (by decide))) (cwV 0 hts gX8_readFrom_X8_sumNoise rfl rfl rfl (by decide +kernel) ⟨Nat.le_of_ble_eq_true rfl, Nat.le_of_ble_eq_true rfl⟩) ⟨PR.blind _ _ _ _ _, va_recv hG.1 hP (ci := 8) (q0 := 0) rfl rfl, PR.pre hPc hDc hG [.ref h]⟩ rfl rfl hl.1 rfl (lv_room (Nat.le_of_ble_eq_true rfl)) dX8_readFrom_55 ⟨Nat.le_of_ble_eq_true rfl, Nat.le_of_ble_eq_true rfl⟩) hP hD hS hA [0, 3, 1] [2, 4] rfl rfl (by decide +kernel) (by decide +kernel) (fun u H locs hq hP hD hS => ?_)
  cases u
  have hP : va_P D vwCl [(ta, .inl (k 0, 100, .inl gq)), (x7, .inr (7, [.ref qb, .int 0, .int w2, .int w3, .int 0, .int (-1), .int w6, .int 0])), (h, .inr (8, [.ref t, .ref tn, .ref tl, .ref tc, .ref ta])), (t, .inl (k 0, 4, .inl (fl_i f 0 4))), (tl, .inl (k 0, 400, .inl (fl_i g 0 400)))] H := hP
  have hD : va_D A [(ta, .inl (k 0, 100, .inl gq)), (x7, .inr (7, [.ref qb, .int 0, .int w2, .int w3, .int 0, .int (-1), .int w6, .int 0])), (h, .inr (8, [.ref t, .ref tn, .ref tl, .ref tc, .ref ta])), (t, .inl (k 0, 4, .inl (fl_i f 0 4))), (tl, .inl (k 0, 400, .inl (fl_i g 0 400)))] := hD
  refine lv_aload_n hx hb dX8_readFrom_58 rfl (lv_at hl 1 rfl) ?_
  have hPc := hP.sub (ws' := (c_X8_findCalm k h t tn tl tc ta (fl_i f 0 4))) [2, 3] rfl
  have hDc := hD.sub (ws' := (c_X8_findCalm k h t tn tl tc ta (fl_i f 0 4))) [2, 3] (by decide +kernel) rfl
  refine cl_v (w1 := w_X8_findCalm k h t tn tl tc ta (fl_i f 0 4)) (wr := [(ta, .inl (k 0, 100, .inl gq)), (x7, .inr (7, [.ref qb, .int 0, .int w2, .int w3, .int 0, .int (-1), .int w6, .int 0])), (tl, .inl (k 0, 400, .inl (fl_i g 0 400)))]) (va_runV (As := []) (rest := []) ⟨hx, hb, hml, hown, hts⟩ (X8_findCalm l D k H.size h t tn tl tc ta (fl_i f 0 4) (fl_i_in (by decide))) (cwV 0 hts gX8_readFrom_X8_findCalm rfl rfl rfl (by decide +kernel) ⟨Nat.le_of_ble_eq_true rfl, Nat.le_of_ble_eq_true rfl⟩) ⟨PR.blind _ _ _ _ _, va_recv hG.1 hP (ci := 8) (q0 := 2) rfl rfl, PR.pre hPc hDc hG [.ref h]⟩ rfl rfl hl.1 rfl (lv_room (Nat.le_of_ble_eq_true rfl)) dX8_readFrom_59 ⟨Nat.le_of_ble_eq_true rfl, Nat.le_of_ble_eq_true rfl⟩) hP hD hS hA [2, 3] [0, 1, 4] rfl rfl (by decide +kernel) (by decide +kernel) (fun u H locs hq hP hD hS => ?_)
  cases u
  have hP : va_P D vwCl [(ta, .inl (k 0, 100, .inl gq)), (x7, .inr (7, [.ref qb, .int 0, .int w2, .int w3, .int 0, .int (-1), .int w6, .int 0])), (tl, .inl (k 0, 400, .inl (fl_i g 0 400))), (h, .inr (8, [.ref t, .ref tn, .ref tl, .ref tc, .ref ta])), (t, .inl (k 0, 4, .inl (fl_i f 0 4)))] H := hP
  have hD : va_D A [(ta, .inl (k 0, 100, .inl gq)), (x7, .inr (7, [.ref qb, .int 0, .int w2, .int w3, .int 0, .int (-1), .int w6, .int 0])), (tl, .inl (k 0, 400, .inl (fl_i g 0 400))), (h, .inr (8, [.ref t, .ref tn, .ref tl, .ref tc, .ref ta])), (t, .inl (k 0, 4, .inl (fl_i f 0 4)))] := hD
  refine lv_aload_n hx hb dX8_readFrom_62 rfl (lv_at hl 1 rfl) ?_
  have hPc := hP.sub (ws' := (c_X8_countAlike k h t tn tl tc ta (fl_i f 0 4) gq)) [3, 4, 0] rfl
  have hDc := hD.sub (ws' := (c_X8_countAlike k h t tn tl tc ta (fl_i f 0 4) gq)) [3, 4, 0] (by decide +kernel) rfl
  refine cl_v (w1 := w_X8_countAlike k h t tn tl tc ta (fl_i f 0 4) gq) (wr := [(x7, .inr (7, [.ref qb, .int 0, .int w2, .int w3, .int 0, .int (-1), .int w6, .int 0])), (tl, .inl (k 0, 400, .inl (fl_i g 0 400)))]) (va_runV (As := []) (rest := []) ⟨hx, hb, hml, hown, hts⟩ (X8_countAlike l D k H.size h t tn tl tc ta (fl_i f 0 4) gq (fl_i_in (by decide))) (cwV 0 hts gX8_readFrom_X8_countAlike rfl rfl rfl (by decide +kernel) ⟨Nat.le_of_ble_eq_true rfl, Nat.le_of_ble_eq_true rfl⟩) ⟨PR.blind _ _ _ _ _, va_recv hG.1 hP (ci := 8) (q0 := 3) rfl rfl, PR.pre hPc hDc hG [.ref h]⟩ rfl rfl hl.1 rfl (lv_room (Nat.le_of_ble_eq_true rfl)) dX8_readFrom_63 ⟨Nat.le_of_ble_eq_true rfl, Nat.le_of_ble_eq_true rfl⟩) hP hD hS hA [3, 4, 0] [1, 2] rfl rfl (by decide +kernel) (by decide +kernel) (fun u H locs hq hP hD hS => ?_)
  obtain ⟨ga, rfl⟩ : ∃ z, z = u := ⟨_, rfl⟩
  have hP : va_P D vwCl [(x7, .inr (7, [.ref qb, .int 0, .int w2, .int w3, .int 0, .int (-1), .int w6, .int 0])), (tl, .inl (k 0, 400, .inl (fl_i g 0 400))), (h, .inr (8, [.ref t, .ref tn, .ref tl, .ref tc, .ref ta])), (t, .inl (k 0, 4, .inl (fl_i f 0 4))), (ta, .inl (k 0, 100, .inl ga))] H := hP
  have hD : va_D A [(x7, .inr (7, [.ref qb, .int 0, .int w2, .int w3, .int 0, .int (-1), .int w6, .int 0])), (tl, .inl (k 0, 400, .inl (fl_i g 0 400))), (h, .inr (8, [.ref t, .ref tn, .ref tl, .ref tc, .ref ta])), (t, .inl (k 0, 4, .inl (fl_i f 0 4))), (ta, .inl (k 0, 100, .inl ga))] := hD
  have hP9 := hP.sub (ws' := [(h, .inr (8, [.ref t, .ref tn, .ref tl, .ref tc, .ref ta])), (t, .inl (k 0, 4, .inl (fl_i f 0 4))), (tl, .inl (k 0, 400, .inl (fl_i g 0 400))), (ta, .inl (k 0, 100, .inl ga)), (x7, .inr (7, [.ref qb, .int 0, .int w2, .int w3, .int 0, .int (-1), .int w6, .int 0]))]) [2, 3, 1, 4, 0] rfl
  have hD9 := hD.sub (ws' := [(h, .inr (8, [.ref t, .ref tn, .ref tl, .ref tc, .ref ta])), (t, .inl (k 0, 4, .inl (fl_i f 0 4))), (tl, .inl (k 0, 400, .inl (fl_i g 0 400))), (ta, .inl (k 0, 100, .inl ga)), (x7, .inr (7, [.ref qb, .int 0, .int w2, .int w3, .int 0, .int (-1), .int w6, .int 0]))]) [2, 3, 1, 4, 0] (by decide +kernel) rfl
  exact W.vret hx hb hr (fun t9 ht _ => ⟨⟨(ga), rfl, trivial, by rw [ht]; exact hP9, hD9⟩, hS.F ht⟩) hS.2.2 dX8_readFrom_66

abbrev c_X9_endReading (k : Nat → ClassId) (x : Nat) (xt : Nat) (xc : Nat) (xi : Nat) (xk : Nat) (xb : Nat) (xr : Nat) (xp : Nat) (xo : Nat) (xl : Nat) (xm : Nat) (xw : Nat) (xv : Nat) (fb : Int32) (xtb : Nat) (w1 : Int32) (w2 : Int32) (w3 : Int32) (w4 : Int32) (w5 : Int32) (w6 : Int32) (w7 : Int32) : va_W := [(x, .inr (9, [.ref xt, .ref xc, .ref xi, .ref xk, .ref xb, .ref xr, .ref xp, .ref xo, .ref xl, .ref xm, .ref xw, .ref xv, .int fb])), (xt, .inr (7, [.ref xtb, .int w1, .int w2, .int w3, .int w4, .int w5, .int w6, .int w7]))]
abbrev r_X9_endReading : Room := { frames := 0, cells := 0, slots := 0, locals := 0 }
def w_X9_endReading (k : Nat → ClassId) (x : Nat) (xt : Nat) (xc : Nat) (xi : Nat) (xk : Nat) (xb : Nat) (xr : Nat) (xp : Nat) (xo : Nat) (xl : Nat) (xm : Nat) (xw : Nat) (xv : Nat) (fb : Int32) (xtb : Nat) (w1 : Int32) (w2 : Int32) (w3 : Int32) (w4 : Int32) (w5 : Int32) (w6 : Int32) (w7 : Int32) : Unit → va_W := fun _ => [(x, .inr (9, [.ref xt, .ref xc, .ref xi, .ref xk, .ref xb, .ref xr, .ref xp, .ref xo, .ref xl, .ref xm, .ref xw, .ref xv, .int w5])), (xt, .inr (7, [.ref xtb, .int 0, .int w2, .int w3, .int w4, .int w5, .int w6, .int w7]))]
def p_X9_endReading (k : Nat → ClassId) (x : Nat) (xt : Nat) (xc : Nat) (xi : Nat) (xk : Nat) (xb : Nat) (xr : Nat) (xp : Nat) (xo : Nat) (xl : Nat) (xm : Nat) (xw : Nat) (xv : Nat) (fb : Int32) (xtb : Nat) (w1 : Int32) (w2 : Int32) (w3 : Int32) (w4 : Int32) (w5 : Int32) (w6 : Int32) (w7 : Int32) : Int32 → Unit → Prop := fun (r : Int32) (u : Unit) => r = w4
abbrev q_X9_endReading (D : va_G) (k : Nat → ClassId) (x : Nat) (xt : Nat) (xc : Nat) (xi : Nat) (xk : Nat) (xb : Nat) (xr : Nat) (xp : Nat) (xo : Nat) (xl : Nat) (xm : Nat) (xw : Nat) (xv : Nat) (fb : Int32) (xtb : Nat) (w1 : Int32) (w2 : Int32) (w3 : Int32) (w4 : Int32) (w5 : Int32) (w6 : Int32) (w7 : Int32) (A : Nat → Prop) : Array Value → State → Outcome → State → Prop := va_Qi (p_X9_endReading k x xt xc xi xk xb xr xp xo xl xm xw xv fb xtb w1 w2 w3 w4 w5 w6 w7) (fun u9 t9 => BO D (w_X9_endReading k x xt xc xi xk xb xr xp xo xl xm xw xv fb xtb w1 w2 w3 w4 w5 w6 w7 u9) A t9) A
set_option maxHeartbeats 2000000 in
set_option maxRecDepth 100000 in
theorem X9_endReading (l : Launch) (D : va_G) (k : Nat → ClassId) (sz : Nat) (x : Nat) (xt : Nat) (xc : Nat) (xi : Nat) (xk : Nat) (xb : Nat) (xr : Nat) (xp : Nat) (xo : Nat) (xl : Nat) (xm : Nat) (xw : Nat) (xv : Nat) (fb : Int32) (xtb : Nat) (w1 : Int32) (w2 : Int32) (w3 : Int32) (w4 : Int32) (w5 : Int32) (w6 : Int32) (w7 : Int32)  : Met l yX9_endReading wsX9_endReading r_X9_endReading (va_Pc [.ref x] (PR D k (c_X9_endReading k x xt xc xi xk xb xr xp xo xl xm xw xv fb xtb w1 w2 w3 w4 w5 w6 w7) sz)) (q_X9_endReading D k x xt xc xi xk xb xr xp xo xl xm xw xv fb xtb w1 w2 w3 w4 w5 w6 w7 (va_A (c_X9_endReading k x xt xc xi xk xb xr xp xo xl xm xw xv fb xtb w1 w2 w3 w4 w5 w6 w7) sz)) 0 0 (va_A (c_X9_endReading k x xt xc xi xk xb xr xp xo xl xm xw xv fb xtb w1 w2 w3 w4 w5 w6 w7) sz) := by
  refine Met.ofW (cc := cX9_endReading) (maxL := 1) (ret := (some .int)) (by decide) rfl ?_
  intro p e s m args below meth c s₁ B hml hv
  obtain ⟨rfl, hsz, hP, hG, hD0⟩ := hv
  have hx := B.exec
  have hb := B.bytes
  have hr := B.returns
  have hts := atoms_spec (ws := wsX9_endReading) B.pre
  have hown : s.vm.findClass RX9 = some m.cls := findClass_of_methodNamed B.named
  have hlocks := B.notSynchronized
  have hi9 : ∀ w ∈ wsX90, w ∈ wsX9_endReading := fun _ h => List.mem_cons_of_mem _ (List.mem_append_left _ (List.mem_append_right _ h))
  have hi7 : ∀ w ∈ wsX70, w ∈ wsX9_endReading := fun _ h => List.mem_cons_of_mem _ (List.mem_append_right _ h)
  subst hsz
  have hD := hD0.self (sz := s.heap.size)
  generalize hAe : va_A (c_X9_endReading k x xt xc xi xk xb xr xp xo xl xm xw xv fb xtb w1 w2 w3 w4 w5 w6 w7) s.heap.size = A at hD ⊢
  have hA : ∀ q : Nat, s.heap.size ≤ q → A q := fun q h => by rw [← hAe]; exact Or.inr h
  have hS : va_S A s.heap s.heap [] := va_S.rf
  have hP : va_P D vwCl [(x, .inr (9, [.ref xt, .ref xc, .ref xi, .ref xk, .ref xb, .ref xr, .ref xp, .ref xo, .ref xl, .ref xm, .ref xw, .ref xv, .int fb])), (xt, .inr (7, [.ref xtb, .int w1, .int w2, .int w3, .int w4, .int w5, .int w6, .int w7]))] s.heap := hP
  have hD : va_D A [(x, .inr (9, [.ref xt, .ref xc, .ref xi, .ref xk, .ref xb, .ref xr, .ref xp, .ref xo, .ref xl, .ref xm, .ref xw, .ref xv, .int fb])), (xt, .inr (7, [.ref xtb, .int w1, .int w2, .int w3, .int w4, .int w5, .int w6, .int w7]))] := hD
  have hl := lv_entry ([.ref x]) (n := 1) (Nat.le_of_ble_eq_true rfl)
  rw [lg_entry_eq]
  generalize (lg_sl ([.ref x]) ++ List.replicate (1 - (lg_sl ([.ref x])).length) Slot.unset).toArray = ls at hl ⊢
  have hl : lv_has ls 1 [(0, .ref x)] := hl
  refine lv_aload_n hx hb dX9_endReading_0 rfl (lv_at hl 0 rfl) ?_
  refine lv_aload_n hx hb dX9_endReading_1 rfl (lv_at hl 0 rfl) ?_
  refine va_get (D := D) (ci := 9) (v := .ref xt) (C := RX9) (T := TX9) (N := 13) hx hb hts hi9 hown hG.1 hP 0 rfl rfl 0 (by decide) (hts (.fieldLink RX9 10 "SleptMatters" "text" "LSleptMatters$Text;") (List.mem_cons_of_mem _ (List.mem_append_left _ (List.mem_append_left _ (List.mem_of_getElem? (i := 0) rfl))))) (fun _ h9 => h9) rfl dX9_endReading_2 ?_
  refine va_get (D := D) (ci := 7) (v := .int w5) (C := RX7) (T := TX7) (N := 8) hx hb hts hi7 hown hG.1 hP 1 rfl rfl 5 (by decide) (hts (.fieldLink RX9 280 "SleptMatters$Text" "faultAt" "I") (List.mem_cons_of_mem _ (List.mem_append_left _ (List.mem_append_left _ (List.mem_of_getElem? (i := 1) rfl))))) (fun _ h9 => h9) rfl dX9_endReading_5 ?_
  refine va_put (D := D) (ci := 9) (v := .int w5) (ty := .int) (C := RX9) (T := TX9) (N := 13) hx hb hts hi9 tyX9 tyX9_ok nmX9 hown hG.1 hP hD hS 0 rfl rfl 12 (by decide) (hts (.fieldLink RX9 58 "SleptMatters" "faultByte" "I") (List.mem_cons_of_mem _ (List.mem_append_left _ (List.mem_append_left _ (List.mem_of_getElem? (i := 2) rfl))))) (fun _ h9 => h9) rfl (by decide +kernel) rfl rfl (Nat.le_of_ble_eq_true rfl) dX9_endReading_8 (fun H locs hP hD hS => ?_)
  have hP : va_P D vwCl [(x, .inr (9, [.ref xt, .ref xc, .ref xi, .ref xk, .ref xb, .ref xr, .ref xp, .ref xo, .ref xl, .ref xm, .ref xw, .ref xv, .int w5])), (xt, .inr (7, [.ref xtb, .int w1, .int w2, .int w3, .int w4, .int w5, .int w6, .int w7]))] H := hP
  have hD : va_D A [(x, .inr (9, [.ref xt, .ref xc, .ref xi, .ref xk, .ref xb, .ref xr, .ref xp, .ref xo, .ref xl, .ref xm, .ref xw, .ref xv, .int w5])), (xt, .inr (7, [.ref xtb, .int w1, .int w2, .int w3, .int w4, .int w5, .int w6, .int w7]))] := hD
  refine lv_aload_n hx hb dX9_endReading_11 rfl (lv_at hl 0 rfl) ?_
  refine va_get (D := D) (ci := 9) (v := .ref xt) (C := RX9) (T := TX9) (N := 13) hx hb hts hi9 hown hG.1 hP 0 rfl rfl 0 (by decide) (hts (.fieldLink RX9 10 "SleptMatters" "text" "LSleptMatters$Text;") (List.mem_cons_of_mem _ (List.mem_append_left _ (List.mem_append_left _ (List.mem_of_getElem? (i := 0) rfl))))) (fun _ h9 => h9) rfl dX9_endReading_12 ?_
  refine lv_iconst (v := 0) hx hb dX9_endReading_15 (by decide) ?_
  refine va_put (D := D) (ci := 7) (v := .int 0) (ty := .int) (C := RX7) (T := TX7) (N := 8) hx hb hts hi7 tyX7 tyX7_ok nmX7 hown hG.1 hP hD hS 1 rfl rfl 1 (by decide) (hts (.fieldLink RX9 88 "SleptMatters$Text" "size" "I") (List.mem_cons_of_mem _ (List.mem_append_left _ (List.mem_append_left _ (List.mem_of_getElem? (i := 3) rfl))))) (fun _ h9 => h9) rfl (by decide +kernel) rfl rfl (Nat.le_of_ble_eq_true rfl) dX9_endReading_16 (fun H locs hP hD hS => ?_)
  have hP : va_P D vwCl [(x, .inr (9, [.ref xt, .ref xc, .ref xi, .ref xk, .ref xb, .ref xr, .ref xp, .ref xo, .ref xl, .ref xm, .ref xw, .ref xv, .int w5])), (xt, .inr (7, [.ref xtb, .int 0, .int w2, .int w3, .int w4, .int w5, .int w6, .int w7]))] H := hP
  have hD : va_D A [(x, .inr (9, [.ref xt, .ref xc, .ref xi, .ref xk, .ref xb, .ref xr, .ref xp, .ref xo, .ref xl, .ref xm, .ref xw, .ref xv, .int w5])), (xt, .inr (7, [.ref xtb, .int 0, .int w2, .int w3, .int w4, .int w5, .int w6, .int w7]))] := hD
  refine lv_aload_n hx hb dX9_endReading_19 rfl (lv_at hl 0 rfl) ?_
  refine va_get (D := D) (ci := 9) (v := .ref xt) (C := RX9) (T := TX9) (N := 13) hx hb hts hi9 hown hG.1 hP 0 rfl rfl 0 (by decide) (hts (.fieldLink RX9 10 "SleptMatters" "text" "LSleptMatters$Text;") (List.mem_cons_of_mem _ (List.mem_append_left _ (List.mem_append_left _ (List.mem_of_getElem? (i := 0) rfl))))) (fun _ h9 => h9) rfl dX9_endReading_20 ?_
  refine va_get (D := D) (ci := 7) (v := .int w4) (C := RX7) (T := TX7) (N := 8) hx hb hts hi7 hown hG.1 hP 1 rfl rfl 4 (by decide) (hts (.fieldLink RX9 283 "SleptMatters$Text" "faultNumber" "I") (List.mem_cons_of_mem _ (List.mem_append_left _ (List.mem_append_left _ (List.mem_of_getElem? (i := 4) rfl))))) (fun _ h9 => h9) rfl dX9_endReading_23 ?_
  have hP9 := hP.sub (ws' := [(x, .inr (9, [.ref xt, .ref xc, .ref xi, .ref xk, .ref xb, .ref xr, .ref xp, .ref xo, .ref xl, .ref xm, .ref xw, .ref xv, .int w5])), (xt, .inr (7, [.ref xtb, .int 0, .int w2, .int w3, .int w4, .int w5, .int w6, .int w7]))]) [0, 1] rfl
  have hD9 := hD.sub (ws' := [(x, .inr (9, [.ref xt, .ref xc, .ref xi, .ref xk, .ref xb, .ref xr, .ref xp, .ref xo, .ref xl, .ref xm, .ref xw, .ref xv, .int w5])), (xt, .inr (7, [.ref xtb, .int 0, .int w2, .int w3, .int w4, .int w5, .int w6, .int w7]))]) [0, 1] (by decide +kernel) rfl
  exact W.iret (v := w4) hx hb hr (fun t9 ht _ => ⟨⟨w4, (), rfl, rfl, by rw [ht]; exact hP9, hD9⟩, hS.F ht⟩) hS.2.2 dX9_endReading_26

abbrev c_X9_town (k : Nat → ClassId) (x : Nat) (xt : Nat) (xc : Nat) (xi : Nat) (xk : Nat) (xb : Nat) (xr : Nat) (xp : Nat) (xo : Nat) (xl : Nat) (xm : Nat) (xw : Nat) (xv : Nat) (fb : Int32) (xtb : Nat) (w2 : Int32) (w3 : Int32) (w4 : Int32) (w5 : Int32) (w6 : Int32) (w7 : Int32) (mt : Nat) (mtn : Nat) (mtl : Nat) (mtc : Nat) (mta : Nat) (r0 : Nat) (r1 : Nat) (r3 : Nat) (r4 : Nat) (r5 : Nat) (r6 : Nat) (r7 : Nat) (r8 : Nat) (r9 : Nat) (gb : Nat → Int32) (od : Nat) (en : Nat) (te : Nat) (tk : Nat) (c0 : Nat) (c1 : Nat) (c2 : Nat) (c3 : Nat) (c4 : Nat) (c5 : Nat) (c6 : Nat) (b1 : Nat) (b2 : Nat) (b3 : Nat) : va_W := [(x, .inr (9, [.ref xt, .ref xc, .ref xi, .ref xk, .ref xb, .ref xr, .ref xp, .ref xo, .ref xl, .ref xm, .ref xw, .ref xv, .int fb])), (xt, .inr (7, [.ref xtb, .int 0, .int w2, .int w3, .int w4, .int w5, .int w6, .int w7])), (xm, .inr (8, [.ref mt, .ref mtn, .ref mtl, .ref mtc, .ref mta])), (mt, .inl (k 0, 4, .inl (fun _ => 0))), (mtl, .inl (k 0, 400, .inl (fun _ => 0))), (mta, .inl (k 0, 100, .inl (fun _ => 0))), (xr, .inr (5, [.ref r0, .ref r1, .ref xl, .ref r3, .ref r4, .ref r5, .ref r6, .ref r7, .ref r8, .ref r9])), (r4, .inl (k 0, 7, .inl gb)), (r5, .inl (k 0, 100, .inl (fl_i (fun _ => 0) (-1) 100))), (r6, .inl (k 1, 200, .inr (.inl (fl_l (fun _ => 0) 0 200)))), (xp, .inr (4, [.int 0, .int 0, .ref od, .ref en, .ref te, .ref tk, .ref xr, .int 0, .int 0])), (xc, .inr (2, [.ref c0, .ref c1, .ref c2, .ref c3, .ref c4, .ref c5, .ref c6, .int 0, .int 0, .int 0])), (c0, .inl (k 0, 3, .inl (fl_i (fun _ => 0) 0 3))), (c1, .inl (k 0, 3, .inl (fl_i (fun _ => 0) 0 3))), (c2, .inl (k 0, 3, .inl (fl_i (fun _ => 0) 0 3))), (c3, .inl (k 0, 3, .inl (fl_i (fun _ => 0) 0 3))), (c4, .inl (k 0, 3, .inl (fl_i (fun _ => 0) (-1) 3))), (c5, .inl (k 0, 3, .inl (fl_i (fun _ => 0) (-1) 3))), (c6, .inl (k 0, 3, .inl (fl_i (fun _ => 0) (-1) 3))), (xb, .inr (0, [.int 0, .ref b1, .ref b2, .ref b3])), (xk, .inl (k 2, 2, .inl (fun _ => 0)))]
abbrev r_X9_town : Room := { frames := 3, cells := 0, slots := 0, locals := 69 }
def w_X9_town (k : Nat → ClassId) (x : Nat) (xt : Nat) (xc : Nat) (xi : Nat) (xk : Nat) (xb : Nat) (xr : Nat) (xp : Nat) (xo : Nat) (xl : Nat) (xm : Nat) (xw : Nat) (xv : Nat) (fb : Int32) (xtb : Nat) (w2 : Int32) (w3 : Int32) (w4 : Int32) (w5 : Int32) (w6 : Int32) (w7 : Int32) (mt : Nat) (mtn : Nat) (mtl : Nat) (mtc : Nat) (mta : Nat) (r0 : Nat) (r1 : Nat) (r3 : Nat) (r4 : Nat) (r5 : Nat) (r6 : Nat) (r7 : Nat) (r8 : Nat) (r9 : Nat) (gb : Nat → Int32) (od : Nat) (en : Nat) (te : Nat) (tk : Nat) (c0 : Nat) (c1 : Nat) (c2 : Nat) (c3 : Nat) (c4 : Nat) (c5 : Nat) (c6 : Nat) (b1 : Nat) (b2 : Nat) (b3 : Nat) : Unit → va_W := fun _ => []
def p_X9_town (k : Nat → ClassId) (x : Nat) (xt : Nat) (xc : Nat) (xi : Nat) (xk : Nat) (xb : Nat) (xr : Nat) (xp : Nat) (xo : Nat) (xl : Nat) (xm : Nat) (xw : Nat) (xv : Nat) (fb : Int32) (xtb : Nat) (w2 : Int32) (w3 : Int32) (w4 : Int32) (w5 : Int32) (w6 : Int32) (w7 : Int32) (mt : Nat) (mtn : Nat) (mtl : Nat) (mtc : Nat) (mta : Nat) (r0 : Nat) (r1 : Nat) (r3 : Nat) (r4 : Nat) (r5 : Nat) (r6 : Nat) (r7 : Nat) (r8 : Nat) (r9 : Nat) (gb : Nat → Int32) (od : Nat) (en : Nat) (te : Nat) (tk : Nat) (c0 : Nat) (c1 : Nat) (c2 : Nat) (c3 : Nat) (c4 : Nat) (c5 : Nat) (c6 : Nat) (b1 : Nat) (b2 : Nat) (b3 : Nat) : Int32 → Unit → Prop := fun (r : Int32) (u : Unit) => r = 0
abbrev q_X9_town (D : va_G) (k : Nat → ClassId) (x : Nat) (xt : Nat) (xc : Nat) (xi : Nat) (xk : Nat) (xb : Nat) (xr : Nat) (xp : Nat) (xo : Nat) (xl : Nat) (xm : Nat) (xw : Nat) (xv : Nat) (fb : Int32) (xtb : Nat) (w2 : Int32) (w3 : Int32) (w4 : Int32) (w5 : Int32) (w6 : Int32) (w7 : Int32) (mt : Nat) (mtn : Nat) (mtl : Nat) (mtc : Nat) (mta : Nat) (r0 : Nat) (r1 : Nat) (r3 : Nat) (r4 : Nat) (r5 : Nat) (r6 : Nat) (r7 : Nat) (r8 : Nat) (r9 : Nat) (gb : Nat → Int32) (od : Nat) (en : Nat) (te : Nat) (tk : Nat) (c0 : Nat) (c1 : Nat) (c2 : Nat) (c3 : Nat) (c4 : Nat) (c5 : Nat) (c6 : Nat) (b1 : Nat) (b2 : Nat) (b3 : Nat) (A : Nat → Prop) : Array Value → State → Outcome → State → Prop := va_Qi (p_X9_town k x xt xc xi xk xb xr xp xo xl xm xw xv fb xtb w2 w3 w4 w5 w6 w7 mt mtn mtl mtc mta r0 r1 r3 r4 r5 r6 r7 r8 r9 gb od en te tk c0 c1 c2 c3 c4 c5 c6 b1 b2 b3) (fun u9 t9 => BO D (w_X9_town k x xt xc xi xk xb xr xp xo xl xm xw xv fb xtb w2 w3 w4 w5 w6 w7 mt mtn mtl mtc mta r0 r1 r3 r4 r5 r6 r7 r8 r9 gb od en te tk c0 c1 c2 c3 c4 c5 c6 b1 b2 b3 u9) A t9) A
set_option maxHeartbeats 2000000 in
set_option maxRecDepth 100000 in
theorem X9_town (l : Launch) (D : va_G) (k : Nat → ClassId) (sz : Nat) (x : Nat) (xt : Nat) (xc : Nat) (xi : Nat) (xk : Nat) (xb : Nat) (xr : Nat) (xp : Nat) (xo : Nat) (xl : Nat) (xm : Nat) (xw : Nat) (xv : Nat) (fb : Int32) (xtb : Nat) (w2 : Int32) (w3 : Int32) (w4 : Int32) (w5 : Int32) (w6 : Int32) (w7 : Int32) (mt : Nat) (mtn : Nat) (mtl : Nat) (mtc : Nat) (mta : Nat) (r0 : Nat) (r1 : Nat) (r3 : Nat) (r4 : Nat) (r5 : Nat) (r6 : Nat) (r7 : Nat) (r8 : Nat) (r9 : Nat) (gb : Nat → Int32) (od : Nat) (en : Nat) (te : Nat) (tk : Nat) (c0 : Nat) (c1 : Nat) (c2 : Nat) (c3 : Nat) (c4 : Nat) (c5 : Nat) (c6 : Nat) (b1 : Nat) (b2 : Nat) (b3 : Nat)  : Met l yX9_town wsX9_town r_X9_town (va_Pc [.ref x] (PR D k (c_X9_town k x xt xc xi xk xb xr xp xo xl xm xw xv fb xtb w2 w3 w4 w5 w6 w7 mt mtn mtl mtc mta r0 r1 r3 r4 r5 r6 r7 r8 r9 gb od en te tk c0 c1 c2 c3 c4 c5 c6 b1 b2 b3) sz)) (q_X9_town D k x xt xc xi xk xb xr xp xo xl xm xw xv fb xtb w2 w3 w4 w5 w6 w7 mt mtn mtl mtc mta r0 r1 r3 r4 r5 r6 r7 r8 r9 gb od en te tk c0 c1 c2 c3 c4 c5 c6 b1 b2 b3 (va_A (c_X9_town k x xt xc xi xk xb xr xp xo xl xm xw xv fb xtb w2 w3 w4 w5 w6 w7 mt mtn mtl mtc mta r0 r1 r3 r4 r5 r6 r7 r8 r9 gb od en te tk c0 c1 c2 c3 c4 c5 c6 b1 b2 b3) sz)) 0 0 (va_A (c_X9_town k x xt xc xi xk xb xr xp xo xl xm xw xv fb xtb w2 w3 w4 w5 w6 w7 mt mtn mtl mtc mta r0 r1 r3 r4 r5 r6 r7 r8 r9 gb od en te tk c0 c1 c2 c3 c4 c5 c6 b1 b2 b3) sz) := by
  refine Met.ofW (cc := cX9_town) (maxL := 4) (ret := (some .int)) (by decide) rfl ?_
  intro p e s m args below meth c s₁ B hml hv
  obtain ⟨rfl, hsz, hP, hG, hD0⟩ := hv
  have hx := B.exec
  have hb := B.bytes
  have hr := B.returns
  have hts := atoms_spec (ws := wsX9_town) B.pre
  have hown : s.vm.findClass RX9 = some m.cls := findClass_of_methodNamed B.named
  have hlocks := B.notSynchronized
  have hi9 : ∀ w ∈ wsX90, w ∈ wsX9_town := fun _ h => List.mem_cons_of_mem _ (List.mem_append_left _ (List.mem_append_left _ (List.mem_append_left _ (List.mem_append_left _ (List.mem_append_left _ (List.mem_append_left _ (List.mem_append_right _ h)))))))
  have hi4 : ∀ w ∈ wsX40, w ∈ wsX9_town := fun _ h => List.mem_cons_of_mem _ (List.mem_append_left _ (List.mem_append_left _ (List.mem_append_left _ (List.mem_append_left _ (List.mem_append_left _ (List.mem_append_right _ h))))))
  have hi0 : ∀ w ∈ wsX00, w ∈ wsX9_town := fun _ h => List.mem_cons_of_mem _ (List.mem_append_left _ (List.mem_append_left _ (List.mem_append_left _ (List.mem_append_left _ (List.mem_append_right _ h)))))
  have hi8 : ∀ w ∈ wsX80, w ∈ wsX9_town := fun _ h => List.mem_cons_of_mem _ (List.mem_append_left _ (List.mem_append_left _ (List.mem_append_left _ (List.mem_append_right _ h))))
  have hi7 : ∀ w ∈ wsX70, w ∈ wsX9_town := fun _ h => List.mem_cons_of_mem _ (List.mem_append_left _ (List.mem_append_left _ (List.mem_append_right _ h)))
  have hi5 : ∀ w ∈ wsX50, w ∈ wsX9_town := fun _ h => List.mem_cons_of_mem _ (List.mem_append_left _ (List.mem_append_right _ h))
  have hi2 : ∀ w ∈ wsX20, w ∈ wsX9_town := fun _ h => List.mem_cons_of_mem _ (List.mem_append_right _ h)
  subst hsz
  have hD := hD0.self (sz := s.heap.size)
  generalize hAe : va_A (c_X9_town k x xt xc xi xk xb xr xp xo xl xm xw xv fb xtb w2 w3 w4 w5 w6 w7 mt mtn mtl mtc mta r0 r1 r3 r4 r5 r6 r7 r8 r9 gb od en te tk c0 c1 c2 c3 c4 c5 c6 b1 b2 b3) s.heap.size = A at hD ⊢
  have hA : ∀ q : Nat, s.heap.size ≤ q → A q := fun q h => by rw [← hAe]; exact Or.inr h
  have hS : va_S A s.heap s.heap [] := va_S.rf
  have hP : va_P D vwCl [(x, .inr (9, [.ref xt, .ref xc, .ref xi, .ref xk, .ref xb, .ref xr, .ref xp, .ref xo, .ref xl, .ref xm, .ref xw, .ref xv, .int fb])), (xt, .inr (7, [.ref xtb, .int 0, .int w2, .int w3, .int w4, .int w5, .int w6, .int w7])), (xm, .inr (8, [.ref mt, .ref mtn, .ref mtl, .ref mtc, .ref mta])), (mt, .inl (k 0, 4, .inl (fun _ => 0))), (mtl, .inl (k 0, 400, .inl (fun _ => 0))), (mta, .inl (k 0, 100, .inl (fun _ => 0))), (xr, .inr (5, [.ref r0, .ref r1, .ref xl, .ref r3, .ref r4, .ref r5, .ref r6, .ref r7, .ref r8, .ref r9])), (r4, .inl (k 0, 7, .inl gb)), (r5, .inl (k 0, 100, .inl (fl_i (fun _ => 0) (-1) 100))), (r6, .inl (k 1, 200, .inr (.inl (fl_l (fun _ => 0) 0 200)))), (xp, .inr (4, [.int 0, .int 0, .ref od, .ref en, .ref te, .ref tk, .ref xr, .int 0, .int 0])), (xc, .inr (2, [.ref c0, .ref c1, .ref c2, .ref c3, .ref c4, .ref c5, .ref c6, .int 0, .int 0, .int 0])), (c0, .inl (k 0, 3, .inl (fl_i (fun _ => 0) 0 3))), (c1, .inl (k 0, 3, .inl (fl_i (fun _ => 0) 0 3))), (c2, .inl (k 0, 3, .inl (fl_i (fun _ => 0) 0 3))), (c3, .inl (k 0, 3, .inl (fl_i (fun _ => 0) 0 3))), (c4, .inl (k 0, 3, .inl (fl_i (fun _ => 0) (-1) 3))), (c5, .inl (k 0, 3, .inl (fl_i (fun _ => 0) (-1) 3))), (c6, .inl (k 0, 3, .inl (fl_i (fun _ => 0) (-1) 3))), (xb, .inr (0, [.int 0, .ref b1, .ref b2, .ref b3])), (xk, .inl (k 2, 2, .inl (fun _ => 0)))] s.heap := hP
  have hD : va_D A [(x, .inr (9, [.ref xt, .ref xc, .ref xi, .ref xk, .ref xb, .ref xr, .ref xp, .ref xo, .ref xl, .ref xm, .ref xw, .ref xv, .int fb])), (xt, .inr (7, [.ref xtb, .int 0, .int w2, .int w3, .int w4, .int w5, .int w6, .int w7])), (xm, .inr (8, [.ref mt, .ref mtn, .ref mtl, .ref mtc, .ref mta])), (mt, .inl (k 0, 4, .inl (fun _ => 0))), (mtl, .inl (k 0, 400, .inl (fun _ => 0))), (mta, .inl (k 0, 100, .inl (fun _ => 0))), (xr, .inr (5, [.ref r0, .ref r1, .ref xl, .ref r3, .ref r4, .ref r5, .ref r6, .ref r7, .ref r8, .ref r9])), (r4, .inl (k 0, 7, .inl gb)), (r5, .inl (k 0, 100, .inl (fl_i (fun _ => 0) (-1) 100))), (r6, .inl (k 1, 200, .inr (.inl (fl_l (fun _ => 0) 0 200)))), (xp, .inr (4, [.int 0, .int 0, .ref od, .ref en, .ref te, .ref tk, .ref xr, .int 0, .int 0])), (xc, .inr (2, [.ref c0, .ref c1, .ref c2, .ref c3, .ref c4, .ref c5, .ref c6, .int 0, .int 0, .int 0])), (c0, .inl (k 0, 3, .inl (fl_i (fun _ => 0) 0 3))), (c1, .inl (k 0, 3, .inl (fl_i (fun _ => 0) 0 3))), (c2, .inl (k 0, 3, .inl (fl_i (fun _ => 0) 0 3))), (c3, .inl (k 0, 3, .inl (fl_i (fun _ => 0) 0 3))), (c4, .inl (k 0, 3, .inl (fl_i (fun _ => 0) (-1) 3))), (c5, .inl (k 0, 3, .inl (fl_i (fun _ => 0) (-1) 3))), (c6, .inl (k 0, 3, .inl (fl_i (fun _ => 0) (-1) 3))), (xb, .inr (0, [.int 0, .ref b1, .ref b2, .ref b3])), (xk, .inl (k 2, 2, .inl (fun _ => 0)))] := hD
  have hl := lv_entry ([.ref x]) (n := 4) (Nat.le_of_ble_eq_true rfl)
  rw [lg_entry_eq]
  generalize (lg_sl ([.ref x]) ++ List.replicate (4 - (lg_sl ([.ref x])).length) Slot.unset).toArray = ls at hl ⊢
  have hl : lv_has ls 4 [(0, .ref x)] := hl
  refine lv_aload_n hx hb dX9_town_0 rfl (lv_at hl 0 rfl) ?_
  refine va_get (D := D) (ci := 9) (v := .ref xm) (C := RX9) (T := TX9) (N := 13) hx hb hts hi9 hown hG.1 hP 0 rfl rfl 9 (by decide) (hts (.fieldLink RX9 45 "SleptMatters" "placeInMaking" "LSleptMatters$Town;") (List.mem_cons_of_mem _ (List.mem_append_left _ (List.mem_append_left _ (List.mem_append_left _ (List.mem_append_left _ (List.mem_append_left _ (List.mem_append_left _ (List.mem_append_left _ (List.mem_append_left _ (List.mem_of_getElem? (i := 0) rfl))))))))))) (fun _ h9 => h9) rfl dX9_town_1 ?_
  refine lv_aload_n hx hb dX9_town_4 rfl (lv_at hl 0 rfl) ?_
  refine va_get (D := D) (ci := 9) (v := .ref xt) (C := RX9) (T := TX9) (N := 13) hx hb hts hi9 hown hG.1 hP 0 rfl rfl 0 (by decide) (hts (.fieldLink RX9 10 "SleptMatters" "text" "LSleptMatters$Text;") (List.mem_cons_of_mem _ (List.mem_append_left _ (List.mem_append_left _ (List.mem_append_left _ (List.mem_append_left _ (List.mem_append_left _ (List.mem_append_left _ (List.mem_append_left _ (List.mem_append_left _ (List.mem_of_getElem? (i := 1) rfl))))))))))) (fun _ h9 => h9) rfl dX9_town_5 ?_
  have hPc := hP.sub (ws' := (c_X8_readFrom k xm mt mtn mtl mtc mta (fun _ => 0) (fun _ => 0) (fun _ => 0) xt xtb w2 w3 w4 w5 w6 w7)) [2, 3, 4, 5, 1] rfl
  have hDc := hD.sub (ws' := (c_X8_readFrom k xm mt mtn mtl mtc mta (fun _ => 0) (fun _ => 0) (fun _ => 0) xt xtb w2 w3 w4 w5 w6 w7)) [2, 3, 4, 5, 1] (by decide +kernel) rfl
  refine cl_v (w1 := w_X8_readFrom k xm mt mtn mtl mtc mta (fun _ => 0) (fun _ => 0) (fun _ => 0) xt xtb w2 w3 w4 w5 w6 w7) (wr := [(x, .inr (9, [.ref xt, .ref xc, .ref xi, .ref xk, .ref xb, .ref xr, .ref xp, .ref xo, .ref xl, .ref xm, .ref xw, .ref xv, .int fb])), (xr, .inr (5, [.ref r0, .ref r1, .ref xl, .ref r3, .ref r4, .ref r5, .ref r6, .ref r7, .ref r8, .ref r9])), (r4, .inl (k 0, 7, .inl gb)), (r5, .inl (k 0, 100, .inl (fl_i (fun _ => 0) (-1) 100))), (r6, .inl (k 1, 200, .inr (.inl (fl_l (fun _ => 0) 0 200)))), (xp, .inr (4, [.int 0, .int 0, .ref od, .ref en, .ref te, .ref tk, .ref xr, .int 0, .int 0])), (xc, .inr (2, [.ref c0, .ref c1, .ref c2, .ref c3, .ref c4, .ref c5, .ref c6, .int 0, .int 0, .int 0])), (c0, .inl (k 0, 3, .inl (fl_i (fun _ => 0) 0 3))), (c1, .inl (k 0, 3, .inl (fl_i (fun _ => 0) 0 3))), (c2, .inl (k 0, 3, .inl (fl_i (fun _ => 0) 0 3))), (c3, .inl (k 0, 3, .inl (fl_i (fun _ => 0) 0 3))), (c4, .inl (k 0, 3, .inl (fl_i (fun _ => 0) (-1) 3))), (c5, .inl (k 0, 3, .inl (fl_i (fun _ => 0) (-1) 3))), (c6, .inl (k 0, 3, .inl (fl_i (fun _ => 0) (-1) 3))), (xb, .inr (0, [.int 0, .ref b1, .ref b2, .ref b3])), (xk, .inl (k 2, 2, .inl (fun _ => 0)))]) (va_runV (As := [.ref xt]) (rest := []) ⟨hx, hb, hml, hown, hts⟩ (X8_readFrom l D k s.heap.size xm mt mtn mtl mtc mta (fun _ => 0) (fun _ => 0) (fun _ => 0) xt xtb w2 w3 w4 w5 w6 w7 ) (cwV 1 hts gX9_town_X8_readFrom rfl rfl rfl (by decide +kernel) ⟨Nat.le_of_ble_eq_true rfl, Nat.le_of_ble_eq_true rfl⟩) ⟨PR.blind _ _ _ _ _, va_recv hG.1 hP (ci := 8) (q0 := 2) rfl rfl, PR.pre hPc hDc hG [.ref xm, .ref xt]⟩ rfl rfl hl.1 rfl (lv_room (Nat.le_of_ble_eq_true rfl)) dX9_town_8 ⟨Nat.le_of_ble_eq_true rfl, Nat.le_of_ble_eq_true rfl⟩) hP hD hS hA [2, 3, 4, 5, 1] [0, 6, 7, 8, 9, 10, 11, 12, 13, 14, 15, 16, 17, 18, 19, 20] rfl rfl (by decide +kernel) (by decide +kernel) (fun u H locs hq hP hD hS => ?_)
  obtain ⟨ga, rfl⟩ : ∃ z, z = u := ⟨_, rfl⟩
  have hP : va_P D vwCl [(x, .inr (9, [.ref xt, .ref xc, .ref xi, .ref xk, .ref xb, .ref xr, .ref xp, .ref xo, .ref xl, .ref xm, .ref xw, .ref xv, .int fb])), (xr, .inr (5, [.ref r0, .ref r1, .ref xl, .ref r3, .ref r4, .ref r5, .ref r6, .ref r7, .ref r8, .ref r9])), (r4, .inl (k 0, 7, .inl gb)), (r5, .inl (k 0, 100, .inl (fl_i (fun _ => 0) (-1) 100))), (r6, .inl (k 1, 200, .inr (.inl (fl_l (fun _ => 0) 0 200)))), (xp, .inr (4, [.int 0, .int 0, .ref od, .ref en, .ref te, .ref tk, .ref xr, .int 0, .int 0])), (xc, .inr (2, [.ref c0, .ref c1, .ref c2, .ref c3, .ref c4, .ref c5, .ref c6, .int 0, .int 0, .int 0])), (c0, .inl (k 0, 3, .inl (fl_i (fun _ => 0) 0 3))), (c1, .inl (k 0, 3, .inl (fl_i (fun _ => 0) 0 3))), (c2, .inl (k 0, 3, .inl (fl_i (fun _ => 0) 0 3))), (c3, .inl (k 0, 3, .inl (fl_i (fun _ => 0) 0 3))), (c4, .inl (k 0, 3, .inl (fl_i (fun _ => 0) (-1) 3))), (c5, .inl (k 0, 3, .inl (fl_i (fun _ => 0) (-1) 3))), (c6, .inl (k 0, 3, .inl (fl_i (fun _ => 0) (-1) 3))), (xb, .inr (0, [.int 0, .ref b1, .ref b2, .ref b3])), (xk, .inl (k 2, 2, .inl (fun _ => 0))), (xm, .inr (8, [.ref mt, .ref mtn, .ref mtl, .ref mtc, .ref mta])), (mt, .inl (k 0, 4, .inl (fl_i (fun _ => 0) 0 4))), (mtl, .inl (k 0, 400, .inl (fl_i (fun _ => 0) 0 400))), (mta, .inl (k 0, 100, .inl ga)), (xt, .inr (7, [.ref xtb, .int 0, .int w2, .int w3, .int 0, .int (-1), .int w6, .int 0]))] H := hP
  have hD : va_D A [(x, .inr (9, [.ref xt, .ref xc, .ref xi, .ref xk, .ref xb, .ref xr, .ref xp, .ref xo, .ref xl, .ref xm, .ref xw, .ref xv, .int fb])), (xr, .inr (5, [.ref r0, .ref r1, .ref xl, .ref r3, .ref r4, .ref r5, .ref r6, .ref r7, .ref r8, .ref r9])), (r4, .inl (k 0, 7, .inl gb)), (r5, .inl (k 0, 100, .inl (fl_i (fun _ => 0) (-1) 100))), (r6, .inl (k 1, 200, .inr (.inl (fl_l (fun _ => 0) 0 200)))), (xp, .inr (4, [.int 0, .int 0, .ref od, .ref en, .ref te, .ref tk, .ref xr, .int 0, .int 0])), (xc, .inr (2, [.ref c0, .ref c1, .ref c2, .ref c3, .ref c4, .ref c5, .ref c6, .int 0, .int 0, .int 0])), (c0, .inl (k 0, 3, .inl (fl_i (fun _ => 0) 0 3))), (c1, .inl (k 0, 3, .inl (fl_i (fun _ => 0) 0 3))), (c2, .inl (k 0, 3, .inl (fl_i (fun _ => 0) 0 3))), (c3, .inl (k 0, 3, .inl (fl_i (fun _ => 0) 0 3))), (c4, .inl (k 0, 3, .inl (fl_i (fun _ => 0) (-1) 3))), (c5, .inl (k 0, 3, .inl (fl_i (fun _ => 0) (-1) 3))), (c6, .inl (k 0, 3, .inl (fl_i (fun _ => 0) (-1) 3))), (xb, .inr (0, [.int 0, .ref b1, .ref b2, .ref b3])), (xk, .inl (k 2, 2, .inl (fun _ => 0))), (xm, .inr (8, [.ref mt, .ref mtn, .ref mtl, .ref mtc, .ref mta])), (mt, .inl (k 0, 4, .inl (fl_i (fun _ => 0) 0 4))), (mtl, .inl (k 0, 400, .inl (fl_i (fun _ => 0) 0 400))), (mta, .inl (k 0, 100, .inl ga)), (xt, .inr (7, [.ref xtb, .int 0, .int w2, .int w3, .int 0, .int (-1), .int w6, .int 0]))] := hD
  refine lv_aload_n hx hb dX9_town_11 rfl (lv_at hl 0 rfl) ?_
  have hPc := hP.sub (ws' := (c_X9_endReading k x xt xc xi xk xb xr xp xo xl xm xw xv fb xtb 0 w2 w3 0 (-1) w6 0)) [0, 20] rfl
  have hDc := hD.sub (ws' := (c_X9_endReading k x xt xc xi xk xb xr xp xo xl xm xw xv fb xtb 0 w2 w3 0 (-1) w6 0)) [0, 20] (by decide +kernel) rfl
  refine cl_i (w1 := w_X9_endReading k x xt xc xi xk xb xr xp xo xl xm xw xv fb xtb 0 w2 w3 0 (-1) w6 0) (wr := [(xr, .inr (5, [.ref r0, .ref r1, .ref xl, .ref r3, .ref r4, .ref r5, .ref r6, .ref r7, .ref r8, .ref r9])), (r4, .inl (k 0, 7, .inl gb)), (r5, .inl (k 0, 100, .inl (fl_i (fun _ => 0) (-1) 100))), (r6, .inl (k 1, 200, .inr (.inl (fl_l (fun _ => 0) 0 200)))), (xp, .inr (4, [.int 0, .int 0, .ref od, .ref en, .ref te, .ref tk, .ref xr, .int 0, .int 0])), (xc, .inr (2, [.ref c0, .ref c1, .ref c2, .ref c3, .ref c4, .ref c5, .ref c6, .int 0, .int 0, .int 0])), (c0, .inl (k 0, 3, .inl (fl_i (fun _ => 0) 0 3))), (c1, .inl (k 0, 3, .inl (fl_i (fun _ => 0) 0 3))), (c2, .inl (k 0, 3, .inl (fl_i (fun _ => 0) 0 3))), (c3, .inl (k 0, 3, .inl (fl_i (fun _ => 0) 0 3))), (c4, .inl (k 0, 3, .inl (fl_i (fun _ => 0) (-1) 3))), (c5, .inl (k 0, 3, .inl (fl_i (fun _ => 0) (-1) 3))), (c6, .inl (k 0, 3, .inl (fl_i (fun _ => 0) (-1) 3))), (xb, .inr (0, [.int 0, .ref b1, .ref b2, .ref b3])), (xk, .inl (k 2, 2, .inl (fun _ => 0))), (xm, .inr (8, [.ref mt, .ref mtn, .ref mtl, .ref mtc, .ref mta])), (mt, .inl (k 0, 4, .inl (fl_i (fun _ => 0) 0 4))), (mtl, .inl (k 0, 400, .inl (fl_i (fun _ => 0) 0 400))), (mta, .inl (k 0, 100, .inl ga))]) (va_runV (As := []) (rest := []) ⟨hx, hb, hml, hown, hts⟩ (X9_endReading l D k H.size x xt xc xi xk xb xr xp xo xl xm xw xv fb xtb 0 w2 w3 0 (-1) w6 0 ) (cwV 0 hts gX9_town_X9_endReading rfl rfl rfl (by decide +kernel) ⟨Nat.le_of_ble_eq_true rfl, Nat.le_of_ble_eq_true rfl⟩) ⟨PR.blind _ _ _ _ _, va_recv hG.1 hP (ci := 9) (q0 := 0) rfl rfl, PR.pre hPc hDc hG [.ref x]⟩ rfl rfl hl.1 rfl (lv_room (Nat.le_of_ble_eq_true rfl)) dX9_town_12 ⟨Nat.le_of_ble_eq_true rfl, Nat.le_of_ble_eq_true rfl⟩) hP hD hS hA [0, 20] [1, 2, 3, 4, 5, 6, 7, 8, 9, 10, 11, 12, 13, 14, 15, 16, 17, 18, 19] rfl rfl (by decide +kernel) (by decide +kernel) (fun r u H locs hq hP hD hS => ?_)
  cases u
  generalize r = y1 at hq ⊢
  have hq : y1 = 0 := hq
  have hP : va_P D vwCl [(xr, .inr (5, [.ref r0, .ref r1, .ref xl, .ref r3, .ref r4, .ref r5, .ref r6, .ref r7, .ref r8, .ref r9])), (r4, .inl (k 0, 7, .inl gb)), (r5, .inl (k 0, 100, .inl (fl_i (fun _ => 0) (-1) 100))), (r6, .inl (k 1, 200, .inr (.inl (fl_l (fun _ => 0) 0 200)))), (xp, .inr (4, [.int 0, .int 0, .ref od, .ref en, .ref te, .ref tk, .ref xr, .int 0, .int 0])), (xc, .inr (2, [.ref c0, .ref c1, .ref c2, .ref c3, .ref c4, .ref c5, .ref c6, .int 0, .int 0, .int 0])), (c0, .inl (k 0, 3, .inl (fl_i (fun _ => 0) 0 3))), (c1, .inl (k 0, 3, .inl (fl_i (fun _ => 0) 0 3))), (c2, .inl (k 0, 3, .inl (fl_i (fun _ => 0) 0 3))), (c3, .inl (k 0, 3, .inl (fl_i (fun _ => 0) 0 3))), (c4, .inl (k 0, 3, .inl (fl_i (fun _ => 0) (-1) 3))), (c5, .inl (k 0, 3, .inl (fl_i (fun _ => 0) (-1) 3))), (c6, .inl (k 0, 3, .inl (fl_i (fun _ => 0) (-1) 3))), (xb, .inr (0, [.int 0, .ref b1, .ref b2, .ref b3])), (xk, .inl (k 2, 2, .inl (fun _ => 0))), (xm, .inr (8, [.ref mt, .ref mtn, .ref mtl, .ref mtc, .ref mta])), (mt, .inl (k 0, 4, .inl (fl_i (fun _ => 0) 0 4))), (mtl, .inl (k 0, 400, .inl (fl_i (fun _ => 0) 0 400))), (mta, .inl (k 0, 100, .inl ga)), (x, .inr (9, [.ref xt, .ref xc, .ref xi, .ref xk, .ref xb, .ref xr, .ref xp, .ref xo, .ref xl, .ref xm, .ref xw, .ref xv, .int (-1)])), (xt, .inr (7, [.ref xtb, .int 0, .int w2, .int w3, .int 0, .int (-1), .int w6, .int 0]))] H := hP
  have hD : va_D A [(xr, .inr (5, [.ref r0, .ref r1, .ref xl, .ref r3, .ref r4, .ref r5, .ref r6, .ref r7, .ref r8, .ref r9])), (r4, .inl (k 0, 7, .inl gb)), (r5, .inl (k 0, 100, .inl (fl_i (fun _ => 0) (-1) 100))), (r6, .inl (k 1, 200, .inr (.inl (fl_l (fun _ => 0) 0 200)))), (xp, .inr (4, [.int 0, .int 0, .ref od, .ref en, .ref te, .ref tk, .ref xr, .int 0, .int 0])), (xc, .inr (2, [.ref c0, .ref c1, .ref c2, .ref c3, .ref c4, .ref c5, .ref c6, .int 0, .int 0, .int 0])), (c0, .inl (k 0, 3, .inl (fl_i (fun _ => 0) 0 3))), (c1, .inl (k 0, 3, .inl (fl_i (fun _ => 0) 0 3))), (c2, .inl (k 0, 3, .inl (fl_i (fun _ => 0) 0 3))), (c3, .inl (k 0, 3, .inl (fl_i (fun _ => 0) 0 3))), (c4, .inl (k 0, 3, .inl (fl_i (fun _ => 0) (-1) 3))), (c5, .inl (k 0, 3, .inl (fl_i (fun _ => 0) (-1) 3))), (c6, .inl (k 0, 3, .inl (fl_i (fun _ => 0) (-1) 3))), (xb, .inr (0, [.int 0, .ref b1, .ref b2, .ref b3])), (xk, .inl (k 2, 2, .inl (fun _ => 0))), (xm, .inr (8, [.ref mt, .ref mtn, .ref mtl, .ref mtc, .ref mta])), (mt, .inl (k 0, 4, .inl (fl_i (fun _ => 0) 0 4))), (mtl, .inl (k 0, 400, .inl (fl_i (fun _ => 0) 0 400))), (mta, .inl (k 0, 100, .inl ga)), (x, .inr (9, [.ref xt, .ref xc, .ref xi, .ref xk, .ref xb, .ref xr, .ref xp, .ref xo, .ref xl, .ref xm, .ref xw, .ref xv, .int (-1)])), (xt, .inr (7, [.ref xtb, .int 0, .int w2, .int w3, .int 0, .int (-1), .int w6, .int 0]))] := hD
  refine tp_i (y := 0) (hq) ?_
  refine lv_istore_n (lv' := [(1, .int 0), (0, .ref x)]) hx hb dX9_town_15 rfl hl (by decide) rfl (fun ls hl => ?_)
  refine lv_iload_n hx hb dX9_town_16 rfl (lv_at hl 0 rfl) ?_
  refine lv_if_eq (x := 0) (tgt := 25) hx hb dX9_town_17 (by decide) (fun hc2 => ?_) (fun hc2 => absurd hc2 (by decide))
  refine lv_aload_n hx hb dX9_town_25 rfl (lv_at hl 1 rfl) ?_
  refine va_get (D := D) (ci := 9) (v := .ref xl) (C := RX9) (T := TX9) (N := 13) hx hb hts hi9 hown hG.1 hP 19 rfl rfl 8 (by decide) (hts (.fieldLink RX9 41 "SleptMatters" "place" "LSleptMatters$Town;") (List.mem_cons_of_mem _ (List.mem_append_left _ (List.mem_append_left _ (List.mem_append_left _ (List.mem_append_left _ (List.mem_append_left _ (List.mem_append_left _ (List.mem_append_left _ (List.mem_append_left _ (List.mem_of_getElem? (i := 2) rfl))))))))))) (fun _ h9 => h9) rfl dX9_town_26 ?_
  refine lv_astore_n (lv' := [(2, .ref xl), (1, .int 0), (0, .ref x)]) hx hb dX9_town_29 rfl hl (by decide) rfl (fun ls hl => ?_)
  refine lv_aload_n hx hb dX9_town_30 rfl (lv_at hl 2 rfl) ?_
  refine lv_aload_n hx hb dX9_town_31 rfl (lv_at hl 2 rfl) ?_
  refine va_get (D := D) (ci := 9) (v := .ref xm) (C := RX9) (T := TX9) (N := 13) hx hb hts hi9 hown hG.1 hP 19 rfl rfl 9 (by decide) (hts (.fieldLink RX9 45 "SleptMatters" "placeInMaking" "LSleptMatters$Town;") (List.mem_cons_of_mem _ (List.mem_append_left _ (List.mem_append_left _ (List.mem_append_left _ (List.mem_append_left _ (List.mem_append_left _ (List.mem_append_left _ (List.mem_append_left _ (List.mem_append_left _ (List.mem_of_getElem? (i := 0) rfl))))))))))) (fun _ h9 => h9) rfl dX9_town_32 ?_
  refine va_put (D := D) (ci := 9) (v := .ref xm) (ty := (tyX9 8)) (C := RX9) (T := TX9) (N := 13) hx hb hts hi9 tyX9 tyX9_ok nmX9 hown hG.1 hP hD hS 19 rfl rfl 8 (by decide) (hts (.fieldLink RX9 41 "SleptMatters" "place" "LSleptMatters$Town;") (List.mem_cons_of_mem _ (List.mem_append_left _ (List.mem_append_left _ (List.mem_append_left _ (List.mem_append_left _ (List.mem_append_left _ (List.mem_append_left _ (List.mem_append_left _ (List.mem_append_left _ (List.mem_of_getElem? (i := 2) rfl))))))))))) (fun _ h9 => h9) rfl (by decide +kernel) rfl rfl (Nat.le_of_ble_eq_true rfl) dX9_town_35 (fun H locs hP hD hS => ?_)
  have hP : va_P D vwCl [(xr, .inr (5, [.ref r0, .ref r1, .ref xl, .ref r3, .ref r4, .ref r5, .ref r6, .ref r7, .ref r8, .ref r9])), (r4, .inl (k 0, 7, .inl gb)), (r5, .inl (k 0, 100, .inl (fl_i (fun _ => 0) (-1) 100))), (r6, .inl (k 1, 200, .inr (.inl (fl_l (fun _ => 0) 0 200)))), (xp, .inr (4, [.int 0, .int 0, .ref od, .ref en, .ref te, .ref tk, .ref xr, .int 0, .int 0])), (xc, .inr (2, [.ref c0, .ref c1, .ref c2, .ref c3, .ref c4, .ref c5, .ref c6, .int 0, .int 0, .int 0])), (c0, .inl (k 0, 3, .inl (fl_i (fun _ => 0) 0 3))), (c1, .inl (k 0, 3, .inl (fl_i (fun _ => 0) 0 3))), (c2, .inl (k 0, 3, .inl (fl_i (fun _ => 0) 0 3))), (c3, .inl (k 0, 3, .inl (fl_i (fun _ => 0) 0 3))), (c4, .inl (k 0, 3, .inl (fl_i (fun _ => 0) (-1) 3))), (c5, .inl (k 0, 3, .inl (fl_i (fun _ => 0) (-1) 3))), (c6, .inl (k 0, 3, .inl (fl_i (fun _ => 0) (-1) 3))), (xb, .inr (0, [.int 0, .ref b1, .ref b2, .ref b3])), (xk, .inl (k 2, 2, .inl (fun _ => 0))), (xm, .inr (8, [.ref mt, .ref mtn, .ref mtl, .ref mtc, .ref mta])), (mt, .inl (k 0, 4, .inl (fl_i (fun _ => 0) 0 4))), (mtl, .inl (k 0, 400, .inl (fl_i (fun _ => 0) 0 400))), (mta, .inl (k 0, 100, .inl ga)), (x, .inr (9, [.ref xt, .ref xc, .ref xi, .ref xk, .ref xb, .ref xr, .ref xp, .ref xo, .ref xm, .ref xm, .ref xw, .ref xv, .int (-1)])), (xt, .inr (7, [.ref xtb, .int 0, .int w2, .int w3, .int 0, .int (-1), .int w6, .int 0]))] H := hP
  have hD : va_D A [(xr, .inr (5, [.ref r0, .ref r1, .ref xl, .ref r3, .ref r4, .ref r5, .ref r6, .ref r7, .ref r8, .ref r9])), (r4, .inl (k 0, 7, .inl gb)), (r5, .inl (k 0, 100, .inl (fl_i (fun _ => 0) (-1) 100))), (r6, .inl (k 1, 200, .inr (.inl (fl_l (fun _ => 0) 0 200)))), (xp, .inr (4, [.int 0, .int 0, .ref od, .ref en, .ref te, .ref tk, .ref xr, .int 0, .int 0])), (xc, .inr (2, [.ref c0, .ref c1, .ref c2, .ref c3, .ref c4, .ref c5, .ref c6, .int 0, .int 0, .int 0])), (c0, .inl (k 0, 3, .inl (fl_i (fun _ => 0) 0 3))), (c1, .inl (k 0, 3, .inl (fl_i (fun _ => 0) 0 3))), (c2, .inl (k 0, 3, .inl (fl_i (fun _ => 0) 0 3))), (c3, .inl (k 0, 3, .inl (fl_i (fun _ => 0) 0 3))), (c4, .inl (k 0, 3, .inl (fl_i (fun _ => 0) (-1) 3))), (c5, .inl (k 0, 3, .inl (fl_i (fun _ => 0) (-1) 3))), (c6, .inl (k 0, 3, .inl (fl_i (fun _ => 0) (-1) 3))), (xb, .inr (0, [.int 0, .ref b1, .ref b2, .ref b3])), (xk, .inl (k 2, 2, .inl (fun _ => 0))), (xm, .inr (8, [.ref mt, .ref mtn, .ref mtl, .ref mtc, .ref mta])), (mt, .inl (k 0, 4, .inl (fl_i (fun _ => 0) 0 4))), (mtl, .inl (k 0, 400, .inl (fl_i (fun _ => 0) 0 400))), (mta, .inl (k 0, 100, .inl ga)), (x, .inr (9, [.ref xt, .ref xc, .ref xi, .ref xk, .ref xb, .ref xr, .ref xp, .ref xo, .ref xm, .ref xm, .ref xw, .ref xv, .int (-1)])), (xt, .inr (7, [.ref xtb, .int 0, .int w2, .int w3, .int 0, .int (-1), .int w6, .int 0]))] := hD
  refine lv_aload_n hx hb dX9_town_38 rfl (lv_at hl 2 rfl) ?_
  refine lv_aload_n hx hb dX9_town_39 rfl (lv_at hl 0 rfl) ?_
  refine va_put (D := D) (ci := 9) (v := .ref xl) (ty := (tyX9 9)) (C := RX9) (T := TX9) (N := 13) hx hb hts hi9 tyX9 tyX9_ok nmX9 hown hG.1 hP hD hS 19 rfl rfl 9 (by decide) (hts (.fieldLink RX9 45 "SleptMatters" "placeInMaking" "LSleptMatters$Town;") (List.mem_cons_of_mem _ (List.mem_append_left _ (List.mem_append_left _ (List.mem_append_left _ (List.mem_append_left _ (List.mem_append_left _ (List.mem_append_left _ (List.mem_append_left _ (List.mem_append_left _ (List.mem_of_getElem? (i := 0) rfl))))))))))) (fun _ h9 => h9) rfl (by decide +kernel) rfl rfl (Nat.le_of_ble_eq_true rfl) dX9_town_40 (fun H locs hP hD hS => ?_)
  have hP : va_P D vwCl [(xr, .inr (5, [.ref r0, .ref r1, .ref xl, .ref r3, .ref r4, .ref r5, .ref r6, .ref r7, .ref r8, .ref r9])), (r4, .inl (k 0, 7, .inl gb)), (r5, .inl (k 0, 100, .inl (fl_i (fun _ => 0) (-1) 100))), (r6, .inl (k 1, 200, .inr (.inl (fl_l (fun _ => 0) 0 200)))), (xp, .inr (4, [.int 0, .int 0, .ref od, .ref en, .ref te, .ref tk, .ref xr, .int 0, .int 0])), (xc, .inr (2, [.ref c0, .ref c1, .ref c2, .ref c3, .ref c4, .ref c5, .ref c6, .int 0, .int 0, .int 0])), (c0, .inl (k 0, 3, .inl (fl_i (fun _ => 0) 0 3))), (c1, .inl (k 0, 3, .inl (fl_i (fun _ => 0) 0 3))), (c2, .inl (k 0, 3, .inl (fl_i (fun _ => 0) 0 3))), (c3, .inl (k 0, 3, .inl (fl_i (fun _ => 0) 0 3))), (c4, .inl (k 0, 3, .inl (fl_i (fun _ => 0) (-1) 3))), (c5, .inl (k 0, 3, .inl (fl_i (fun _ => 0) (-1) 3))), (c6, .inl (k 0, 3, .inl (fl_i (fun _ => 0) (-1) 3))), (xb, .inr (0, [.int 0, .ref b1, .ref b2, .ref b3])), (xk, .inl (k 2, 2, .inl (fun _ => 0))), (xm, .inr (8, [.ref mt, .ref mtn, .ref mtl, .ref mtc, .ref mta])), (mt, .inl (k 0, 4, .inl (fl_i (fun _ => 0) 0 4))), (mtl, .inl (k 0, 400, .inl (fl_i (fun _ => 0) 0 400))), (mta, .inl (k 0, 100, .inl ga)), (x, .inr (9, [.ref xt, .ref xc, .ref xi, .ref xk, .ref xb, .ref xr, .ref xp, .ref xo, .ref xm, .ref xl, .ref xw, .ref xv, .int (-1)])), (xt, .inr (7, [.ref xtb, .int 0, .int w2, .int w3, .int 0, .int (-1), .int w6, .int 0]))] H := hP
  have hD : va_D A [(xr, .inr (5, [.ref r0, .ref r1, .ref xl, .ref r3, .ref r4, .ref r5, .ref r6, .ref r7, .ref r8, .ref r9])), (r4, .inl (k 0, 7, .inl gb)), (r5, .inl (k 0, 100, .inl (fl_i (fun _ => 0) (-1) 100))), (r6, .inl (k 1, 200, .inr (.inl (fl_l (fun _ => 0) 0 200)))), (xp, .inr (4, [.int 0, .int 0, .ref od, .ref en, .ref te, .ref tk, .ref xr, .int 0, .int 0])), (xc, .inr (2, [.ref c0, .ref c1, .ref c2, .ref c3, .ref c4, .ref c5, .ref c6, .int 0, .int 0, .int 0])), (c0, .inl (k 0, 3, .inl (fl_i (fun _ => 0) 0 3))), (c1, .inl (k 0, 3, .inl (fl_i (fun _ => 0) 0 3))), (c2, .inl (k 0, 3, .inl (fl_i (fun _ => 0) 0 3))), (c3, .inl (k 0, 3, .inl (fl_i (fun _ => 0) 0 3))), (c4, .inl (k 0, 3, .inl (fl_i (fun _ => 0) (-1) 3))), (c5, .inl (k 0, 3, .inl (fl_i (fun _ => 0) (-1) 3))), (c6, .inl (k 0, 3, .inl (fl_i (fun _ => 0) (-1) 3))), (xb, .inr (0, [.int 0, .ref b1, .ref b2, .ref b3])), (xk, .inl (k 2, 2, .inl (fun _ => 0))), (xm, .inr (8, [.ref mt, .ref mtn, .ref mtl, .ref mtc, .ref mta])), (mt, .inl (k 0, 4, .inl (fl_i (fun _ => 0) 0 4))), (mtl, .inl (k 0, 400, .inl (fl_i (fun _ => 0) 0 400))), (mta, .inl (k 0, 100, .inl ga)), (x, .inr (9, [.ref xt, .ref xc, .ref xi, .ref xk, .ref xb, .ref xr, .ref xp, .ref xo, .ref xm, .ref xl, .ref xw, .ref xv, .int (-1)])), (xt, .inr (7, [.ref xtb, .int 0, .int w2, .int w3, .int 0, .int (-1), .int w6, .int 0]))] := hD
  refine lv_aload_n hx hb dX9_town_43 rfl (lv_at hl 2 rfl) ?_
  refine va_get (D := D) (ci := 9) (v := .ref xr) (C := RX9) (T := TX9) (N := 13) hx hb hts hi9 hown hG.1 hP 19 rfl rfl 5 (by decide) (hts (.fieldLink RX9 67 "SleptMatters" "rows" "LSleptMatters$Rows;") (List.mem_cons_of_mem _ (List.mem_append_left _ (List.mem_append_left _ (List.mem_append_left _ (List.mem_append_left _ (List.mem_append_left _ (List.mem_append_left _ (List.mem_append_left _ (List.mem_append_left _ (List.mem_of_getElem? (i := 3) rfl))))))))))) (fun _ h9 => h9) rfl dX9_town_44 ?_
  refine lv_aload_n hx hb dX9_town_47 rfl (lv_at hl 2 rfl) ?_
  refine va_get (D := D) (ci := 9) (v := .ref xm) (C := RX9) (T := TX9) (N := 13) hx hb hts hi9 hown hG.1 hP 19 rfl rfl 8 (by decide) (hts (.fieldLink RX9 41 "SleptMatters" "place" "LSleptMatters$Town;") (List.mem_cons_of_mem _ (List.mem_append_left _ (List.mem_append_left _ (List.mem_append_left _ (List.mem_append_left _ (List.mem_append_left _ (List.mem_append_left _ (List.mem_append_left _ (List.mem_append_left _ (List.mem_of_getElem? (i := 2) rfl))))))))))) (fun _ h9 => h9) rfl dX9_town_48 ?_
  have hPc := hP.sub (ws' := (c_X5_moveTo k xr r0 r1 xl r3 r4 r5 r6 r7 r8 r9 xm mt mtn mtl mtc mta (fl_i (fun _ => 0) 0 4) gb (fl_i (fun _ => 0) (-1) 100) (fl_l (fun _ => 0) 0 200))) [0, 15, 16, 1, 2, 3] rfl
  have hDc := hD.sub (ws' := (c_X5_moveTo k xr r0 r1 xl r3 r4 r5 r6 r7 r8 r9 xm mt mtn mtl mtc mta (fl_i (fun _ => 0) 0 4) gb (fl_i (fun _ => 0) (-1) 100) (fl_l (fun _ => 0) 0 200))) [0, 15, 16, 1, 2, 3] (by decide +kernel) rfl
  refine cl_v (w1 := w_X5_moveTo k xr r0 r1 xl r3 r4 r5 r6 r7 r8 r9 xm mt mtn mtl mtc mta (fl_i (fun _ => 0) 0 4) gb (fl_i (fun _ => 0) (-1) 100) (fl_l (fun _ => 0) 0 200)) (wr := [(xp, .inr (4, [.int 0, .int 0, .ref od, .ref en, .ref te, .ref tk, .ref xr, .int 0, .int 0])), (xc, .inr (2, [.ref c0, .ref c1, .ref c2, .ref c3, .ref c4, .ref c5, .ref c6, .int 0, .int 0, .int 0])), (c0, .inl (k 0, 3, .inl (fl_i (fun _ => 0) 0 3))), (c1, .inl (k 0, 3, .inl (fl_i (fun _ => 0) 0 3))), (c2, .inl (k 0, 3, .inl (fl_i (fun _ => 0) 0 3))), (c3, .inl (k 0, 3, .inl (fl_i (fun _ => 0) 0 3))), (c4, .inl (k 0, 3, .inl (fl_i (fun _ => 0) (-1) 3))), (c5, .inl (k 0, 3, .inl (fl_i (fun _ => 0) (-1) 3))), (c6, .inl (k 0, 3, .inl (fl_i (fun _ => 0) (-1) 3))), (xb, .inr (0, [.int 0, .ref b1, .ref b2, .ref b3])), (xk, .inl (k 2, 2, .inl (fun _ => 0))), (mtl, .inl (k 0, 400, .inl (fl_i (fun _ => 0) 0 400))), (mta, .inl (k 0, 100, .inl ga)), (x, .inr (9, [.ref xt, .ref xc, .ref xi, .ref xk, .ref xb, .ref xr, .ref xp, .ref xo, .ref xm, .ref xl, .ref xw, .ref xv, .int (-1)])), (xt, .inr (7, [.ref xtb, .int 0, .int w2, .int w3, .int 0, .int (-1), .int w6, .int 0]))]) (va_runV (As := [.ref xm]) (rest := []) ⟨hx, hb, hml, hown, hts⟩ (X5_moveTo l D k H.size xr r0 r1 xl r3 r4 r5 r6 r7 r8 r9 xm mt mtn mtl mtc mta (fl_i (fun _ => 0) 0 4) gb (fl_i (fun _ => 0) (-1) 100) (fl_l (fun _ => 0) 0 200) (fl_i_in (by decide))) (cwV 1 hts gX9_town_X5_moveTo rfl rfl rfl (by decide +kernel) ⟨Nat.le_of_ble_eq_true rfl, Nat.le_of_ble_eq_true rfl⟩) ⟨PR.blind _ _ _ _ _, va_recv hG.1 hP (ci := 5) (q0 := 0) rfl rfl, PR.pre hPc hDc hG [.ref xr, .ref xm]⟩ rfl rfl hl.1 rfl (lv_room (Nat.le_of_ble_eq_true rfl)) dX9_town_51 ⟨Nat.le_of_ble_eq_true rfl, Nat.le_of_ble_eq_true rfl⟩) hP hD hS hA [0, 15, 16, 1, 2, 3] [4, 5, 6, 7, 8, 9, 10, 11, 12, 13, 14, 17, 18, 19, 20] rfl rfl (by decide +kernel) (by decide +kernel) (fun u H locs hq hP hD hS => ?_)
  obtain ⟨gx, rfl⟩ : ∃ z, z = u := ⟨_, rfl⟩
  have hP : va_P D vwCl [(xp, .inr (4, [.int 0, .int 0, .ref od, .ref en, .ref te, .ref tk, .ref xr, .int 0, .int 0])), (xc, .inr (2, [.ref c0, .ref c1, .ref c2, .ref c3, .ref c4, .ref c5, .ref c6, .int 0, .int 0, .int 0])), (c0, .inl (k 0, 3, .inl (fl_i (fun _ => 0) 0 3))), (c1, .inl (k 0, 3, .inl (fl_i (fun _ => 0) 0 3))), (c2, .inl (k 0, 3, .inl (fl_i (fun _ => 0) 0 3))), (c3, .inl (k 0, 3, .inl (fl_i (fun _ => 0) 0 3))), (c4, .inl (k 0, 3, .inl (fl_i (fun _ => 0) (-1) 3))), (c5, .inl (k 0, 3, .inl (fl_i (fun _ => 0) (-1) 3))), (c6, .inl (k 0, 3, .inl (fl_i (fun _ => 0) (-1) 3))), (xb, .inr (0, [.int 0, .ref b1, .ref b2, .ref b3])), (xk, .inl (k 2, 2, .inl (fun _ => 0))), (mtl, .inl (k 0, 400, .inl (fl_i (fun _ => 0) 0 400))), (mta, .inl (k 0, 100, .inl ga)), (x, .inr (9, [.ref xt, .ref xc, .ref xi, .ref xk, .ref xb, .ref xr, .ref xp, .ref xo, .ref xm, .ref xl, .ref xw, .ref xv, .int (-1)])), (xt, .inr (7, [.ref xtb, .int 0, .int w2, .int w3, .int 0, .int (-1), .int w6, .int 0])), (xr, .inr (5, [.ref r0, .ref r1, .ref xm, .ref r3, .ref r4, .ref r5, .ref r6, .ref r7, .ref r8, .ref r9])), (xm, .inr (8, [.ref mt, .ref mtn, .ref mtl, .ref mtc, .ref mta])), (mt, .inl (k 0, 4, .inl (fl_i (fun _ => 0) 0 4))), (r4, .inl (k 0, 7, .inl gx)), (r5, .inl (k 0, 100, .inl (fl_i (fl_i (fun _ => 0) (-1) 100) (-1) 100))), (r6, .inl (k 1, 200, .inr (.inl (fl_l (fl_l (fun _ => 0) 0 200) 0 200))))] H := hP
  have hD : va_D A [(xp, .inr (4, [.int 0, .int 0, .ref od, .ref en, .ref te, .ref tk, .ref xr, .int 0, .int 0])), (xc, .inr (2, [.ref c0, .ref c1, .ref c2, .ref c3, .ref c4, .ref c5, .ref c6, .int 0, .int 0, .int 0])), (c0, .inl (k 0, 3, .inl (fl_i (fun _ => 0) 0 3))), (c1, .inl (k 0, 3, .inl (fl_i (fun _ => 0) 0 3))), (c2, .inl (k 0, 3, .inl (fl_i (fun _ => 0) 0 3))), (c3, .inl (k 0, 3, .inl (fl_i (fun _ => 0) 0 3))), (c4, .inl (k 0, 3, .inl (fl_i (fun _ => 0) (-1) 3))), (c5, .inl (k 0, 3, .inl (fl_i (fun _ => 0) (-1) 3))), (c6, .inl (k 0, 3, .inl (fl_i (fun _ => 0) (-1) 3))), (xb, .inr (0, [.int 0, .ref b1, .ref b2, .ref b3])), (xk, .inl (k 2, 2, .inl (fun _ => 0))), (mtl, .inl (k 0, 400, .inl (fl_i (fun _ => 0) 0 400))), (mta, .inl (k 0, 100, .inl ga)), (x, .inr (9, [.ref xt, .ref xc, .ref xi, .ref xk, .ref xb, .ref xr, .ref xp, .ref xo, .ref xm, .ref xl, .ref xw, .ref xv, .int (-1)])), (xt, .inr (7, [.ref xtb, .int 0, .int w2, .int w3, .int 0, .int (-1), .int w6, .int 0])), (xr, .inr (5, [.ref r0, .ref r1, .ref xm, .ref r3, .ref r4, .ref r5, .ref r6, .ref r7, .ref r8, .ref r9])), (xm, .inr (8, [.ref mt, .ref mtn, .ref mtl, .ref mtc, .ref mta])), (mt, .inl (k 0, 4, .inl (fl_i (fun _ => 0) 0 4))), (r4, .inl (k 0, 7, .inl gx)), (r5, .inl (k 0, 100, .inl (fl_i (fl_i (fun _ => 0) (-1) 100) (-1) 100))), (r6, .inl (k 1, 200, .inr (.inl (fl_l (fl_l (fun _ => 0) 0 200) 0 200))))] := hD
  refine lv_aload_n hx hb dX9_town_54 rfl (lv_at hl 2 rfl) ?_
  refine va_get (D := D) (ci := 9) (v := .ref xp) (C := RX9) (T := TX9) (N := 13) hx hb hts hi9 hown hG.1 hP 13 rfl rfl 6 (by decide) (hts (.fieldLink RX9 76 "SleptMatters" "plan" "LSleptMatters$Plan;") (List.mem_cons_of_mem _ (List.mem_append_left _ (List.mem_append_left _ (List.mem_append_left _ (List.mem_append_left _ (List.mem_append_left _ (List.mem_append_left _ (List.mem_append_left _ (List.mem_append_left _ (List.mem_of_getElem? (i := 4) rfl))))))))))) (fun _ h9 => h9) rfl dX9_town_55 ?_
  refine lv_iconst (v := 0) hx hb dX9_town_58 (by decide) ?_
  refine va_put (D := D) (ci := 4) (v := .int 0) (ty := .boolean) (C := RX4) (T := TX4) (N := 9) hx hb hts hi4 tyX4 tyX4_ok nmX4 hown hG.1 hP hD hS 0 rfl rfl 0 (by decide) (hts (.fieldLink RX9 107 "SleptMatters$Plan" "isKnown" "Z") (List.mem_cons_of_mem _ (List.mem_append_left _ (List.mem_append_left _ (List.mem_append_left _ (List.mem_append_left _ (List.mem_append_left _ (List.mem_append_left _ (List.mem_append_left _ (List.mem_append_left _ (List.mem_of_getElem? (i := 5) rfl))))))))))) (fun _ h9 => h9) rfl (by decide +kernel) rfl rfl (Nat.le_of_ble_eq_true rfl) dX9_town_59 (fun H locs hP hD hS => ?_)
  have hP : va_P D vwCl [(xp, .inr (4, [.int 0, .int 0, .ref od, .ref en, .ref te, .ref tk, .ref xr, .int 0, .int 0])), (xc, .inr (2, [.ref c0, .ref c1, .ref c2, .ref c3, .ref c4, .ref c5, .ref c6, .int 0, .int 0, .int 0])), (c0, .inl (k 0, 3, .inl (fl_i (fun _ => 0) 0 3))), (c1, .inl (k 0, 3, .inl (fl_i (fun _ => 0) 0 3))), (c2, .inl (k 0, 3, .inl (fl_i (fun _ => 0) 0 3))), (c3, .inl (k 0, 3, .inl (fl_i (fun _ => 0) 0 3))), (c4, .inl (k 0, 3, .inl (fl_i (fun _ => 0) (-1) 3))), (c5, .inl (k 0, 3, .inl (fl_i (fun _ => 0) (-1) 3))), (c6, .inl (k 0, 3, .inl (fl_i (fun _ => 0) (-1) 3))), (xb, .inr (0, [.int 0, .ref b1, .ref b2, .ref b3])), (xk, .inl (k 2, 2, .inl (fun _ => 0))), (mtl, .inl (k 0, 400, .inl (fl_i (fun _ => 0) 0 400))), (mta, .inl (k 0, 100, .inl ga)), (x, .inr (9, [.ref xt, .ref xc, .ref xi, .ref xk, .ref xb, .ref xr, .ref xp, .ref xo, .ref xm, .ref xl, .ref xw, .ref xv, .int (-1)])), (xt, .inr (7, [.ref xtb, .int 0, .int w2, .int w3, .int 0, .int (-1), .int w6, .int 0])), (xr, .inr (5, [.ref r0, .ref r1, .ref xm, .ref r3, .ref r4, .ref r5, .ref r6, .ref r7, .ref r8, .ref r9])), (xm, .inr (8, [.ref mt, .ref mtn, .ref mtl, .ref mtc, .ref mta])), (mt, .inl (k 0, 4, .inl (fl_i (fun _ => 0) 0 4))), (r4, .inl (k 0, 7, .inl gx)), (r5, .inl (k 0, 100, .inl (fl_i (fl_i (fun _ => 0) (-1) 100) (-1) 100))), (r6, .inl (k 1, 200, .inr (.inl (fl_l (fl_l (fun _ => 0) 0 200) 0 200))))] H := hP
  have hD : va_D A [(xp, .inr (4, [.int 0, .int 0, .ref od, .ref en, .ref te, .ref tk, .ref xr, .int 0, .int 0])), (xc, .inr (2, [.ref c0, .ref c1, .ref c2, .ref c3, .ref c4, .ref c5, .ref c6, .int 0, .int 0, .int 0])), (c0, .inl (k 0, 3, .inl (fl_i (fun _ => 0) 0 3))), (c1, .inl (k 0, 3, .inl (fl_i (fun _ => 0) 0 3))), (c2, .inl (k 0, 3, .inl (fl_i (fun _ => 0) 0 3))), (c3, .inl (k 0, 3, .inl (fl_i (fun _ => 0) 0 3))), (c4, .inl (k 0, 3, .inl (fl_i (fun _ => 0) (-1) 3))), (c5, .inl (k 0, 3, .inl (fl_i (fun _ => 0) (-1) 3))), (c6, .inl (k 0, 3, .inl (fl_i (fun _ => 0) (-1) 3))), (xb, .inr (0, [.int 0, .ref b1, .ref b2, .ref b3])), (xk, .inl (k 2, 2, .inl (fun _ => 0))), (mtl, .inl (k 0, 400, .inl (fl_i (fun _ => 0) 0 400))), (mta, .inl (k 0, 100, .inl ga)), (x, .inr (9, [.ref xt, .ref xc, .ref xi, .ref xk, .ref xb, .ref xr, .ref xp, .ref xo, .ref xm, .ref xl, .ref xw, .ref xv, .int (-1)])), (xt, .inr (7, [.ref xtb, .int 0, .int w2, .int w3, .int 0, .int (-1), .int w6, .int 0])), (xr, .inr (5, [.ref r0, .ref r1, .ref xm, .ref r3, .ref r4, .ref r5, .ref r6, .ref r7, .ref r8, .ref r9])), (xm, .inr (8, [.ref mt, .ref mtn, .ref mtl, .ref mtc, .ref mta])), (mt, .inl (k 0, 4, .inl (fl_i (fun _ => 0) 0 4))), (r4, .inl (k 0, 7, .inl gx)), (r5, .inl (k 0, 100, .inl (fl_i (fl_i (fun _ => 0) (-1) 100) (-1) 100))), (r6, .inl (k 1, 200, .inr (.inl (fl_l (fl_l (fun _ => 0) 0 200) 0 200))))] := hD
  refine lv_aload_n hx hb dX9_town_62 rfl (lv_at hl 2 rfl) ?_
  refine va_get (D := D) (ci := 9) (v := .ref xc) (C := RX9) (T := TX9) (N := 13) hx hb hts hi9 hown hG.1 hP 13 rfl rfl 1 (by decide) (hts (.fieldLink RX9 19 "SleptMatters" "course" "LSleptMatters$Course;") (List.mem_cons_of_mem _ (List.mem_append_left _ (List.mem_append_left _ (List.mem_append_left _ (List.mem_append_left _ (List.mem_append_left _ (List.mem_append_left _ (List.mem_append_left _ (List.mem_append_left _ (List.mem_of_getElem? (i := 6) rfl))))))))))) (fun _ h9 => h9) rfl dX9_town_63 ?_
  have hPc := hP.sub (ws' := (c_X2_startAgain k xc c0 c1 c2 c3 c4 c5 c6 (fl_i (fun _ => 0) 0 3) (fl_i (fun _ => 0) 0 3) (fl_i (fun _ => 0) 0 3) (fl_i (fun _ => 0) 0 3) (fl_i (fun _ => 0) (-1) 3) (fl_i (fun _ => 0) (-1) 3) (fl_i (fun _ => 0) (-1) 3) 0 0 0)) [1, 2, 3, 4, 5, 6, 7, 8] rfl
  have hDc := hD.sub (ws' := (c_X2_startAgain k xc c0 c1 c2 c3 c4 c5 c6 (fl_i (fun _ => 0) 0 3) (fl_i (fun _ => 0) 0 3) (fl_i (fun _ => 0) 0 3) (fl_i (fun _ => 0) 0 3) (fl_i (fun _ => 0) (-1) 3) (fl_i (fun _ => 0) (-1) 3) (fl_i (fun _ => 0) (-1) 3) 0 0 0)) [1, 2, 3, 4, 5, 6, 7, 8] (by decide +kernel) rfl
  refine cl_v (w1 := w_X2_startAgain k xc c0 c1 c2 c3 c4 c5 c6 (fl_i (fun _ => 0) 0 3) (fl_i (fun _ => 0) 0 3) (fl_i (fun _ => 0) 0 3) (fl_i (fun _ => 0) 0 3) (fl_i (fun _ => 0) (-1) 3) (fl_i (fun _ => 0) (-1) 3) (fl_i (fun _ => 0) (-1) 3) 0 0 0) (wr := [(xp, .inr (4, [.int 0, .int 0, .ref od, .ref en, .ref te, .ref tk, .ref xr, .int 0, .int 0])), (xb, .inr (0, [.int 0, .ref b1, .ref b2, .ref b3])), (xk, .inl (k 2, 2, .inl (fun _ => 0))), (mtl, .inl (k 0, 400, .inl (fl_i (fun _ => 0) 0 400))), (mta, .inl (k 0, 100, .inl ga)), (x, .inr (9, [.ref xt, .ref xc, .ref xi, .ref xk, .ref xb, .ref xr, .ref xp, .ref xo, .ref xm, .ref xl, .ref xw, .ref xv, .int (-1)])), (xt, .inr (7, [.ref xtb, .int 0, .int w2, .int w3, .int 0, .int (-1), .int w6, .int 0])), (xr, .inr (5, [.ref r0, .ref r1, .ref xm, .ref r3, .ref r4, .ref r5, .ref r6, .ref r7, .ref r8, .ref r9])), (xm, .inr (8, [.ref mt, .ref mtn, .ref mtl, .ref mtc, .ref mta])), (mt, .inl (k 0, 4, .inl (fl_i (fun _ => 0) 0 4))), (r4, .inl (k 0, 7, .inl gx)), (r5, .inl (k 0, 100, .inl (fl_i (fl_i (fun _ => 0) (-1) 100) (-1) 100))), (r6, .inl (k 1, 200, .inr (.inl (fl_l (fl_l (fun _ => 0) 0 200) 0 200))))]) (va_runV (As := []) (rest := []) ⟨hx, hb, hml, hown, hts⟩ (X2_startAgain l D k H.size xc c0 c1 c2 c3 c4 c5 c6 (fl_i (fun _ => 0) 0 3) (fl_i (fun _ => 0) 0 3) (fl_i (fun _ => 0) 0 3) (fl_i (fun _ => 0) 0 3) (fl_i (fun _ => 0) (-1) 3) (fl_i (fun _ => 0) (-1) 3) (fl_i (fun _ => 0) (-1) 3) 0 0 0 ) (cwV 0 hts gX9_town_X2_startAgain rfl rfl rfl (by decide +kernel) ⟨Nat.le_of_ble_eq_true rfl, Nat.le_of_ble_eq_true rfl⟩) ⟨PR.blind _ _ _ _ _, va_recv hG.1 hP (ci := 2) (q0 := 1) rfl rfl, PR.pre hPc hDc hG [.ref xc]⟩ rfl rfl hl.1 rfl (lv_room (Nat.le_of_ble_eq_true rfl)) dX9_town_66 ⟨Nat.le_of_ble_eq_true rfl, Nat.le_of_ble_eq_true rfl⟩) hP hD hS hA [1, 2, 3, 4, 5, 6, 7, 8] [0, 9, 10, 11, 12, 13, 14, 15, 16, 17, 18, 19, 20] rfl rfl (by decide +kernel) (by decide +kernel) (fun u H locs hq hP hD hS => ?_)
  cases u
  have hP : va_P D vwCl [(xp, .inr (4, [.int 0, .int 0, .ref od, .ref en, .ref te, .ref tk, .ref xr, .int 0, .int 0])), (xb, .inr (0, [.int 0, .ref b1, .ref b2, .ref b3])), (xk, .inl (k 2, 2, .inl (fun _ => 0))), (mtl, .inl (k 0, 400, .inl (fl_i (fun _ => 0) 0 400))), (mta, .inl (k 0, 100, .inl ga)), (x, .inr (9, [.ref xt, .ref xc, .ref xi, .ref xk, .ref xb, .ref xr, .ref xp, .ref xo, .ref xm, .ref xl, .ref xw, .ref xv, .int (-1)])), (xt, .inr (7, [.ref xtb, .int 0, .int w2, .int w3, .int 0, .int (-1), .int w6, .int 0])), (xr, .inr (5, [.ref r0, .ref r1, .ref xm, .ref r3, .ref r4, .ref r5, .ref r6, .ref r7, .ref r8, .ref r9])), (xm, .inr (8, [.ref mt, .ref mtn, .ref mtl, .ref mtc, .ref mta])), (mt, .inl (k 0, 4, .inl (fl_i (fun _ => 0) 0 4))), (r4, .inl (k 0, 7, .inl gx)), (r5, .inl (k 0, 100, .inl (fl_i (fl_i (fun _ => 0) (-1) 100) (-1) 100))), (r6, .inl (k 1, 200, .inr (.inl (fl_l (fl_l (fun _ => 0) 0 200) 0 200)))), (xc, .inr (2, [.ref c0, .ref c1, .ref c2, .ref c3, .ref c4, .ref c5, .ref c6, .int 0, .int 0, .int 0])), (c0, .inl (k 0, 3, .inl (fl_i (fl_i (fun _ => 0) 0 3) 0 3))), (c1, .inl (k 0, 3, .inl (fl_i (fl_i (fun _ => 0) 0 3) 0 3))), (c2, .inl (k 0, 3, .inl (fl_i (fl_i (fun _ => 0) 0 3) 0 3))), (c3, .inl (k 0, 3, .inl (fl_i (fl_i (fun _ => 0) 0 3) 0 3))), (c4, .inl (k 0, 3, .inl (fl_i (fl_i (fun _ => 0) (-1) 3) (-1) 3))), (c5, .inl (k 0, 3, .inl (fl_i (fl_i (fun _ => 0) (-1) 3) (-1) 3))), (c6, .inl (k 0, 3, .inl (fl_i (fl_i (fun _ => 0) (-1) 3) (-1) 3)))] H := hP
  have hD : va_D A [(xp, .inr (4, [.int 0, .int 0, .ref od, .ref en, .ref te, .ref tk, .ref xr, .int 0, .int 0])), (xb, .inr (0, [.int 0, .ref b1, .ref b2, .ref b3])), (xk, .inl (k 2, 2, .inl (fun _ => 0))), (mtl, .inl (k 0, 400, .inl (fl_i (fun _ => 0) 0 400))), (mta, .inl (k 0, 100, .inl ga)), (x, .inr (9, [.ref xt, .ref xc, .ref xi, .ref xk, .ref xb, .ref xr, .ref xp, .ref xo, .ref xm, .ref xl, .ref xw, .ref xv, .int (-1)])), (xt, .inr (7, [.ref xtb, .int 0, .int w2, .int w3, .int 0, .int (-1), .int w6, .int 0])), (xr, .inr (5, [.ref r0, .ref r1, .ref xm, .ref r3, .ref r4, .ref r5, .ref r6, .ref r7, .ref r8, .ref r9])), (xm, .inr (8, [.ref mt, .ref mtn, .ref mtl, .ref mtc, .ref mta])), (mt, .inl (k 0, 4, .inl (fl_i (fun _ => 0) 0 4))), (r4, .inl (k 0, 7, .inl gx)), (r5, .inl (k 0, 100, .inl (fl_i (fl_i (fun _ => 0) (-1) 100) (-1) 100))), (r6, .inl (k 1, 200, .inr (.inl (fl_l (fl_l (fun _ => 0) 0 200) 0 200)))), (xc, .inr (2, [.ref c0, .ref c1, .ref c2, .ref c3, .ref c4, .ref c5, .ref c6, .int 0, .int 0, .int 0])), (c0, .inl (k 0, 3, .inl (fl_i (fl_i (fun _ => 0) 0 3) 0 3))), (c1, .inl (k 0, 3, .inl (fl_i (fl_i (fun _ => 0) 0 3) 0 3))), (c2, .inl (k 0, 3, .inl (fl_i (fl_i (fun _ => 0) 0 3) 0 3))), (c3, .inl (k 0, 3, .inl (fl_i (fl_i (fun _ => 0) 0 3) 0 3))), (c4, .inl (k 0, 3, .inl (fl_i (fl_i (fun _ => 0) (-1) 3) (-1) 3))), (c5, .inl (k 0, 3, .inl (fl_i (fl_i (fun _ => 0) (-1) 3) (-1) 3))), (c6, .inl (k 0, 3, .inl (fl_i (fl_i (fun _ => 0) (-1) 3) (-1) 3)))] := hD
  refine lv_aload_n hx hb dX9_town_69 rfl (lv_at hl 2 rfl) ?_
  refine va_get (D := D) (ci := 9) (v := .ref xb) (C := RX9) (T := TX9) (N := 13) hx hb hts hi9 hown hG.1 hP 5 rfl rfl 4 (by decide) (hts (.fieldLink RX9 34 "SleptMatters" "book" "LSleptMatters$Book;") (List.mem_cons_of_mem _ (List.mem_append_left _ (List.mem_append_left _ (List.mem_append_left _ (List.mem_append_left _ (List.mem_append_left _ (List.mem_append_left _ (List.mem_append_left _ (List.mem_append_left _ (List.mem_of_getElem? (i := 7) rfl))))))))))) (fun _ h9 => h9) rfl dX9_town_70 ?_
  refine lv_iconst (v := 0) hx hb dX9_town_73 (by decide) ?_
  refine va_put (D := D) (ci := 0) (v := .int 0) (ty := .int) (C := RX0) (T := TX0) (N := 4) hx hb hts hi0 tyX0 tyX0_ok nmX0 hown hG.1 hP hD hS 1 rfl rfl 0 (by decide) (hts (.fieldLink RX9 114 "SleptMatters$Book" "size" "I") (List.mem_cons_of_mem _ (List.mem_append_left _ (List.mem_append_left _ (List.mem_append_left _ (List.mem_append_left _ (List.mem_append_left _ (List.mem_append_left _ (List.mem_append_left _ (List.mem_append_left _ (List.mem_of_getElem? (i := 8) rfl))))))))))) (fun _ h9 => h9) rfl (by decide +kernel) rfl rfl (Nat.le_of_ble_eq_true rfl) dX9_town_74 (fun H locs hP hD hS => ?_)
  have hP : va_P D vwCl [(xp, .inr (4, [.int 0, .int 0, .ref od, .ref en, .ref te, .ref tk, .ref xr, .int 0, .int 0])), (xb, .inr (0, [.int 0, .ref b1, .ref b2, .ref b3])), (xk, .inl (k 2, 2, .inl (fun _ => 0))), (mtl, .inl (k 0, 400, .inl (fl_i (fun _ => 0) 0 400))), (mta, .inl (k 0, 100, .inl ga)), (x, .inr (9, [.ref xt, .ref xc, .ref xi, .ref xk, .ref xb, .ref xr, .ref xp, .ref xo, .ref xm, .ref xl, .ref xw, .ref xv, .int (-1)])), (xt, .inr (7, [.ref xtb, .int 0, .int w2, .int w3, .int 0, .int (-1), .int w6, .int 0])), (xr, .inr (5, [.ref r0, .ref r1, .ref xm, .ref r3, .ref r4, .ref r5, .ref r6, .ref r7, .ref r8, .ref r9])), (xm, .inr (8, [.ref mt, .ref mtn, .ref mtl, .ref mtc, .ref mta])), (mt, .inl (k 0, 4, .inl (fl_i (fun _ => 0) 0 4))), (r4, .inl (k 0, 7, .inl gx)), (r5, .inl (k 0, 100, .inl (fl_i (fl_i (fun _ => 0) (-1) 100) (-1) 100))), (r6, .inl (k 1, 200, .inr (.inl (fl_l (fl_l (fun _ => 0) 0 200) 0 200)))), (xc, .inr (2, [.ref c0, .ref c1, .ref c2, .ref c3, .ref c4, .ref c5, .ref c6, .int 0, .int 0, .int 0])), (c0, .inl (k 0, 3, .inl (fl_i (fl_i (fun _ => 0) 0 3) 0 3))), (c1, .inl (k 0, 3, .inl (fl_i (fl_i (fun _ => 0) 0 3) 0 3))), (c2, .inl (k 0, 3, .inl (fl_i (fl_i (fun _ => 0) 0 3) 0 3))), (c3, .inl (k 0, 3, .inl (fl_i (fl_i (fun _ => 0) 0 3) 0 3))), (c4, .inl (k 0, 3, .inl (fl_i (fl_i (fun _ => 0) (-1) 3) (-1) 3))), (c5, .inl (k 0, 3, .inl (fl_i (fl_i (fun _ => 0) (-1) 3) (-1) 3))), (c6, .inl (k 0, 3, .inl (fl_i (fl_i (fun _ => 0) (-1) 3) (-1) 3)))] H := hP
  have hD : va_D A [(xp, .inr (4, [.int 0, .int 0, .ref od, .ref en, .ref te, .ref tk, .ref xr, .int 0, .int 0])), (xb, .inr (0, [.int 0, .ref b1, .ref b2, .ref b3])), (xk, .inl (k 2, 2, .inl (fun _ => 0))), (mtl, .inl (k 0, 400, .inl (fl_i (fun _ => 0) 0 400))), (mta, .inl (k 0, 100, .inl ga)), (x, .inr (9, [.ref xt, .ref xc, .ref xi, .ref xk, .ref xb, .ref xr, .ref xp, .ref xo, .ref xm, .ref xl, .ref xw, .ref xv, .int (-1)])), (xt, .inr (7, [.ref xtb, .int 0, .int w2, .int w3, .int 0, .int (-1), .int w6, .int 0])), (xr, .inr (5, [.ref r0, .ref r1, .ref xm, .ref r3, .ref r4, .ref r5, .ref r6, .ref r7, .ref r8, .ref r9])), (xm, .inr (8, [.ref mt, .ref mtn, .ref mtl, .ref mtc, .ref mta])), (mt, .inl (k 0, 4, .inl (fl_i (fun _ => 0) 0 4))), (r4, .inl (k 0, 7, .inl gx)), (r5, .inl (k 0, 100, .inl (fl_i (fl_i (fun _ => 0) (-1) 100) (-1) 100))), (r6, .inl (k 1, 200, .inr (.inl (fl_l (fl_l (fun _ => 0) 0 200) 0 200)))), (xc, .inr (2, [.ref c0, .ref c1, .ref c2, .ref c3, .ref c4, .ref c5, .ref c6, .int 0, .int 0, .int 0])), (c0, .inl (k 0, 3, .inl (fl_i (fl_i (fun _ => 0) 0 3) 0 3))), (c1, .inl (k 0, 3, .inl (fl_i (fl_i (fun _ => 0) 0 3) 0 3))), (c2, .inl (k 0, 3, .inl (fl_i (fl_i (fun _ => 0) 0 3) 0 3))), (c3, .inl (k 0, 3, .inl (fl_i (fl_i (fun _ => 0) 0 3) 0 3))), (c4, .inl (k 0, 3, .inl (fl_i (fl_i (fun _ => 0) (-1) 3) (-1) 3))), (c5, .inl (k 0, 3, .inl (fl_i (fl_i (fun _ => 0) (-1) 3) (-1) 3))), (c6, .inl (k 0, 3, .inl (fl_i (fl_i (fun _ => 0) (-1) 3) (-1) 3)))] := hD
  refine lv_iconst (v := 0) hx hb dX9_town_77 (by decide) ?_
  refine lv_istore_n (lv' := [(3, .int 0), (2, .ref xl), (1, .int 0), (0, .ref x)]) hx hb dX9_town_78 rfl hl (by decide) rfl (fun ls hl => ?_)
  refine lv_iload_n hx hb dX9_town_79 rfl (lv_at hl 0 rfl) ?_
  refine lv_iconst (v := 2) hx hb dX9_town_80 (by decide) ?_
  refine lv_icmp_ge (x := 0) (y := 2) (tgt := 97) hx hb dX9_town_81 (by decide) (fun hc3 => absurd hc3 (by decide)) (fun hc3 => ?_)
  refine lv_aload_n hx hb dX9_town_84 rfl (lv_at hl 3 rfl) ?_
  refine va_get (D := D) (ci := 9) (v := .ref xk) (C := RX9) (T := TX9) (N := 13) hx hb hts hi9 hown hG.1 hP 5 rfl rfl 3 (by decide) (hts (.fieldLink RX9 27 "SleptMatters" "imageKept" "[Z") (List.mem_cons_of_mem _ (List.mem_append_left _ (List.mem_append_left _ (List.mem_append_left _ (List.mem_append_left _ (List.mem_append_left _ (List.mem_append_left _ (List.mem_append_left _ (List.mem_append_left _ (List.mem_of_getElem? (i := 9) rfl))))))))))) (fun _ h9 => h9) rfl dX9_town_85 ?_
  refine lv_iload_n hx hb dX9_town_88 rfl (lv_at hl 0 rfl) ?_
  refine lv_iconst (v := 0) hx hb dX9_town_89 (by decide) ?_
  refine va_zast hx hb hG.1 hP hD hS 2 2 rfl rfl (vp_in_nI (n := 0) (by omega) (by omega)) dX9_town_90 (fun H locs hP hD hS => ?_)
  have hP : va_P D vwCl [(xp, .inr (4, [.int 0, .int 0, .ref od, .ref en, .ref te, .ref tk, .ref xr, .int 0, .int 0])), (xb, .inr (0, [.int 0, .ref b1, .ref b2, .ref b3])), (xk, .inl (k 2, 2, .inl (upd (fun _ => 0) 0 (vp_nar .boolean 0)))), (mtl, .inl (k 0, 400, .inl (fl_i (fun _ => 0) 0 400))), (mta, .inl (k 0, 100, .inl ga)), (x, .inr (9, [.ref xt, .ref xc, .ref xi, .ref xk, .ref xb, .ref xr, .ref xp, .ref xo, .ref xm, .ref xl, .ref xw, .ref xv, .int (-1)])), (xt, .inr (7, [.ref xtb, .int 0, .int w2, .int w3, .int 0, .int (-1), .int w6, .int 0])), (xr, .inr (5, [.ref r0, .ref r1, .ref xm, .ref r3, .ref r4, .ref r5, .ref r6, .ref r7, .ref r8, .ref r9])), (xm, .inr (8, [.ref mt, .ref mtn, .ref mtl, .ref mtc, .ref mta])), (mt, .inl (k 0, 4, .inl (fl_i (fun _ => 0) 0 4))), (r4, .inl (k 0, 7, .inl gx)), (r5, .inl (k 0, 100, .inl (fl_i (fl_i (fun _ => 0) (-1) 100) (-1) 100))), (r6, .inl (k 1, 200, .inr (.inl (fl_l (fl_l (fun _ => 0) 0 200) 0 200)))), (xc, .inr (2, [.ref c0, .ref c1, .ref c2, .ref c3, .ref c4, .ref c5, .ref c6, .int 0, .int 0, .int 0])), (c0, .inl (k 0, 3, .inl (fl_i (fl_i (fun _ => 0) 0 3) 0 3))), (c1, .inl (k 0, 3, .inl (fl_i (fl_i (fun _ => 0) 0 3) 0 3))), (c2, .inl (k 0, 3, .inl (fl_i (fl_i (fun _ => 0) 0 3) 0 3))), (c3, .inl (k 0, 3, .inl (fl_i (fl_i (fun _ => 0) 0 3) 0 3))), (c4, .inl (k 0, 3, .inl (fl_i (fl_i (fun _ => 0) (-1) 3) (-1) 3))), (c5, .inl (k 0, 3, .inl (fl_i (fl_i (fun _ => 0) (-1) 3) (-1) 3))), (c6, .inl (k 0, 3, .inl (fl_i (fl_i (fun _ => 0) (-1) 3) (-1) 3)))] H := hP
  have hD : va_D A [(xp, .inr (4, [.int 0, .int 0, .ref od, .ref en, .ref te, .ref tk, .ref xr, .int 0, .int 0])), (xb, .inr (0, [.int 0, .ref b1, .ref b2, .ref b3])), (xk, .inl (k 2, 2, .inl (upd (fun _ => 0) 0 (vp_nar .boolean 0)))), (mtl, .inl (k 0, 400, .inl (fl_i (fun _ => 0) 0 400))), (mta, .inl (k 0, 100, .inl ga)), (x, .inr (9, [.ref xt, .ref xc, .ref xi, .ref xk, .ref xb, .ref xr, .ref xp, .ref xo, .ref xm, .ref xl, .ref xw, .ref xv, .int (-1)])), (xt, .inr (7, [.ref xtb, .int 0, .int w2, .int w3, .int 0, .int (-1), .int w6, .int 0])), (xr, .inr (5, [.ref r0, .ref r1, .ref xm, .ref r3, .ref r4, .ref r5, .ref r6, .ref r7, .ref r8, .ref r9])), (xm, .inr (8, [.ref mt, .ref mtn, .ref mtl, .ref mtc, .ref mta])), (mt, .inl (k 0, 4, .inl (fl_i (fun _ => 0) 0 4))), (r4, .inl (k 0, 7, .inl gx)), (r5, .inl (k 0, 100, .inl (fl_i (fl_i (fun _ => 0) (-1) 100) (-1) 100))), (r6, .inl (k 1, 200, .inr (.inl (fl_l (fl_l (fun _ => 0) 0 200) 0 200)))), (xc, .inr (2, [.ref c0, .ref c1, .ref c2, .ref c3, .ref c4, .ref c5, .ref c6, .int 0, .int 0, .int 0])), (c0, .inl (k 0, 3, .inl (fl_i (fl_i (fun _ => 0) 0 3) 0 3))), (c1, .inl (k 0, 3, .inl (fl_i (fl_i (fun _ => 0) 0 3) 0 3))), (c2, .inl (k 0, 3, .inl (fl_i (fl_i (fun _ => 0) 0 3) 0 3))), (c3, .inl (k 0, 3, .inl (fl_i (fl_i (fun _ => 0) 0 3) 0 3))), (c4, .inl (k 0, 3, .inl (fl_i (fl_i (fun _ => 0) (-1) 3) (-1) 3))), (c5, .inl (k 0, 3, .inl (fl_i (fl_i (fun _ => 0) (-1) 3) (-1) 3))), (c6, .inl (k 0, 3, .inl (fl_i (fl_i (fun _ => 0) (-1) 3) (-1) 3)))] := hD
  refine lv_iinc (v := 1) (lv' := [(3, .int 1), (2, .ref xl), (1, .int 0), (0, .ref x)]) hx hb dX9_town_91 hl (k := 0) rfl (by decide) (by decide) rfl (fun ls hl => ?_)
  refine lv_goto (tgt := 79) hx hb dX9_town_94 (by decide) ?_
  refine lv_iload_n hx hb dX9_town_79 rfl (lv_at hl 0 rfl) ?_
  refine lv_iconst (v := 2) hx hb dX9_town_80 (by decide) ?_
  refine lv_icmp_ge (x := 1) (y := 2) (tgt := 97) hx hb dX9_town_81 (by decide) (fun hc4 => absurd hc4 (by decide)) (fun hc4 => ?_)
  refine lv_aload_n hx hb dX9_town_84 rfl (lv_at hl 3 rfl) ?_
  refine va_get (D := D) (ci := 9) (v := .ref xk) (C := RX9) (T := TX9) (N := 13) hx hb hts hi9 hown hG.1 hP 5 rfl rfl 3 (by decide) (hts (.fieldLink RX9 27 "SleptMatters" "imageKept" "[Z") (List.mem_cons_of_mem _ (List.mem_append_left _ (List.mem_append_left _ (List.mem_append_left _ (List.mem_append_left _ (List.mem_append_left _ (List.mem_append_left _ (List.mem_append_left _ (List.mem_append_left _ (List.mem_of_getElem? (i := 9) rfl))))))))))) (fun _ h9 => h9) rfl dX9_town_85 ?_
  refine lv_iload_n hx hb dX9_town_88 rfl (lv_at hl 0 rfl) ?_
  refine lv_iconst (v := 0) hx hb dX9_town_89 (by decide) ?_
  refine va_zast hx hb hG.1 hP hD hS 2 2 rfl rfl (vp_in_nI (n := 1) (by omega) (by omega)) dX9_town_90 (fun H locs hP hD hS => ?_)
  have hP : va_P D vwCl [(xp, .inr (4, [.int 0, .int 0, .ref od, .ref en, .ref te, .ref tk, .ref xr, .int 0, .int 0])), (xb, .inr (0, [.int 0, .ref b1, .ref b2, .ref b3])), (xk, .inl (k 2, 2, .inl (upd (upd (fun _ => 0) 0 (vp_nar .boolean 0)) 1 (vp_nar .boolean 0)))), (mtl, .inl (k 0, 400, .inl (fl_i (fun _ => 0) 0 400))), (mta, .inl (k 0, 100, .inl ga)), (x, .inr (9, [.ref xt, .ref xc, .ref xi, .ref xk, .ref xb, .ref xr, .ref xp, .ref xo, .ref xm, .ref xl, .ref xw, .ref xv, .int (-1)])), (xt, .inr (7, [.ref xtb, .int 0, .int w2, .int w3, .int 0, .int (-1), .int w6, .int 0])), (xr, .inr (5, [.ref r0, .ref r1, .ref xm, .ref r3, .ref r4, .ref r5, .ref r6, .ref r7, .ref r8, .ref r9])), (xm, .inr (8, [.ref mt, .ref mtn, .ref mtl, .ref mtc, .ref mta])), (mt, .inl (k 0, 4, .inl (fl_i (fun _ => 0) 0 4))), (r4, .inl (k 0, 7, .inl gx)), (r5, .inl (k 0, 100, .inl (fl_i (fl_i (fun _ => 0) (-1) 100) (-1) 100))), (r6, .inl (k 1, 200, .inr (.inl (fl_l (fl_l (fun _ => 0) 0 200) 0 200)))), (xc, .inr (2, [.ref c0, .ref c1, .ref c2, .ref c3, .ref c4, .ref c5, .ref c6, .int 0, .int 0, .int 0])), (c0, .inl (k 0, 3, .inl (fl_i (fl_i (fun _ => 0) 0 3) 0 3))), (c1, .inl (k 0, 3, .inl (fl_i (fl_i (fun _ => 0) 0 3) 0 3))), (c2, .inl (k 0, 3, .inl (fl_i (fl_i (fun _ => 0) 0 3) 0 3))), (c3, .inl (k 0, 3, .inl (fl_i (fl_i (fun _ => 0) 0 3) 0 3))), (c4, .inl (k 0, 3, .inl (fl_i (fl_i (fun _ => 0) (-1) 3) (-1) 3))), (c5, .inl (k 0, 3, .inl (fl_i (fl_i (fun _ => 0) (-1) 3) (-1) 3))), (c6, .inl (k 0, 3, .inl (fl_i (fl_i (fun _ => 0) (-1) 3) (-1) 3)))] H := hP
  have hD : va_D A [(xp, .inr (4, [.int 0, .int 0, .ref od, .ref en, .ref te, .ref tk, .ref xr, .int 0, .int 0])), (xb, .inr (0, [.int 0, .ref b1, .ref b2, .ref b3])), (xk, .inl (k 2, 2, .inl (upd (upd (fun _ => 0) 0 (vp_nar .boolean 0)) 1 (vp_nar .boolean 0)))), (mtl, .inl (k 0, 400, .inl (fl_i (fun _ => 0) 0 400))), (mta, .inl (k 0, 100, .inl ga)), (x, .inr (9, [.ref xt, .ref xc, .ref xi, .ref xk, .ref xb, .ref xr, .ref xp, .ref xo, .ref xm, .ref xl, .ref xw, .ref xv, .int (-1)])), (xt, .inr (7, [.ref xtb, .int 0, .int w2, .int w3, .int 0, .int (-1), .int w6, .int 0])), (xr, .inr (5, [.ref r0, .ref r1, .ref xm, .ref r3, .ref r4, .ref r5, .ref r6, .ref r7, .ref r8, .ref r9])), (xm, .inr (8, [.ref mt, .ref mtn, .ref mtl, .ref mtc, .ref mta])), (mt, .inl (k 0, 4, .inl (fl_i (fun _ => 0) 0 4))), (r4, .inl (k 0, 7, .inl gx)), (r5, .inl (k 0, 100, .inl (fl_i (fl_i (fun _ => 0) (-1) 100) (-1) 100))), (r6, .inl (k 1, 200, .inr (.inl (fl_l (fl_l (fun _ => 0) 0 200) 0 200)))), (xc, .inr (2, [.ref c0, .ref c1, .ref c2, .ref c3, .ref c4, .ref c5, .ref c6, .int 0, .int 0, .int 0])), (c0, .inl (k 0, 3, .inl (fl_i (fl_i (fun _ => 0) 0 3) 0 3))), (c1, .inl (k 0, 3, .inl (fl_i (fl_i (fun _ => 0) 0 3) 0 3))), (c2, .inl (k 0, 3, .inl (fl_i (fl_i (fun _ => 0) 0 3) 0 3))), (c3, .inl (k 0, 3, .inl (fl_i (fl_i (fun _ => 0) 0 3) 0 3))), (c4, .inl (k 0, 3, .inl (fl_i (fl_i (fun _ => 0) (-1) 3) (-1) 3))), (c5, .inl (k 0, 3, .inl (fl_i (fl_i (fun _ => 0) (-1) 3) (-1) 3))), (c6, .inl (k 0, 3, .inl (fl_i (fl_i (fun _ => 0) (-1) 3) (-1) 3)))] := hD
  refine lv_iinc (v := 2) (lv' := [(3, .int 2), (2, .ref xl), (1, .int 0), (0, .ref x)]) hx hb dX9_town_91 hl (k := 0) rfl (by decide) (by decide) rfl (fun ls hl => ?_)
  refine lv_goto (tgt := 79) hx hb dX9_town_94 (by decide) ?_
  refine lv_iload_n hx hb dX9_town_79 rfl (lv_at hl 0 rfl) ?_
  refine lv_iconst (v := 2) hx hb dX9_town_80 (by decide) ?_
  refine lv_icmp_ge (x := 2) (y := 2) (tgt := 97) hx hb dX9_town_81 (by decide) (fun hc5 => ?_) (fun hc5 => absurd hc5 (by decide))
  refine lv_aload_n hx hb dX9_town_97 rfl (lv_at hl 3 rfl) ?_
  refine va_get (D := D) (ci := 9) (v := .ref xm) (C := RX9) (T := TX9) (N := 13) hx hb hts hi9 hown hG.1 hP 5 rfl rfl 8 (by decide) (hts (.fieldLink RX9 41 "SleptMatters" "place" "LSleptMatters$Town;") (List.mem_cons_of_mem _ (List.mem_append_left _ (List.mem_append_left _ (List.mem_append_left _ (List.mem_append_left _ (List.mem_append_left _ (List.mem_append_left _ (List.mem_append_left _ (List.mem_append_left _ (List.mem_of_getElem? (i := 2) rfl))))))))))) (fun _ h9 => h9) rfl dX9_town_98 ?_
  refine lv_iconst (v := 3) hx hb dX9_town_101 (by decide) ?_
  have hPc := hP.sub (ws' := (c_X8_count k xm mt mtn mtl mtc mta (fl_i (fun _ => 0) 0 4) 3)) [8, 9] rfl
  refine vp_callSi (va_Run.run (va_runV (As := [.int 3]) (rest := []) ⟨hx, hb, hml, hown, hts⟩ (X8_count l D k xm mt mtn mtl mtc mta (fl_i (fun _ => 0) 0 4) 3 (by decide)) (cwV 1 hts gX9_town_X8_count rfl rfl rfl (by decide +kernel) ⟨Nat.le_of_ble_eq_true rfl, Nat.le_of_ble_eq_true rfl⟩) ⟨PS.blind _ _ _ _, va_recv hG.1 hP (ci := 8) (q0 := 8) rfl rfl, PS.pre hPc hG [.ref xm, .int 3]⟩ rfl rfl hl.1 rfl (lv_room (Nat.le_of_ble_eq_true rfl)) dX9_town_102 ⟨Nat.le_of_ble_eq_true rfl, Nat.le_of_ble_eq_true rfl⟩)) (fun r hq => ?_)
  generalize r = y6 at hq ⊢
  have hq : y6 = (fl_i (fun _ => 0) 0 4) 3 := hq
  refine tp_i (y := 0) (hq.trans (fl_i_in (by decide))) ?_
  have hP9 := hP.sub (ws' := []) [] rfl
  have hD9 := hD.sub (ws' := []) [] (by decide +kernel) rfl
  exact W.iret (v := 0) hx hb hr (fun t9 ht _ => ⟨⟨0, (), rfl, rfl, by rw [ht]; exact hP9, hD9⟩, hS.F ht⟩) hS.2.2 dX9_town_105

abbrev c_X3_readFrom (k : Nat → ClassId) (h : Nat) (v1 : Int32) (v2 : Int32) (v3 : Int32) (v4 : Int32) (v5 : Int32) (x7 : Nat) (qb : Nat) (w2 : Int32) (w3 : Int32) (w4 : Int32) (w5 : Int32) (w6 : Int32) (w7 : Int32) : va_W := [(h, .inr (3, [.int v1, .int v2, .int v3, .int v4, .int v5])), (x7, .inr (7, [.ref qb, .int 0, .int w2, .int w3, .int w4, .int w5, .int w6, .int w7]))]
abbrev r_X3_readFrom : Room := { frames := 2, cells := 0, slots := 0, locals := 40 }
def w_X3_readFrom (k : Nat → ClassId) (h : Nat) (v1 : Int32) (v2 : Int32) (v3 : Int32) (v4 : Int32) (v5 : Int32) (x7 : Nat) (qb : Nat) (w2 : Int32) (w3 : Int32) (w4 : Int32) (w5 : Int32) (w6 : Int32) (w7 : Int32) : Unit → va_W := fun _ => [(h, .inr (3, [.int 7, .int 4, .int 1, .int 0, .int 0])), (x7, .inr (7, [.ref qb, .int 0, .int w2, .int w3, .int 0, .int (-1), .int w6, .int 0]))]
def p_X3_readFrom (k : Nat → ClassId) (h : Nat) (v1 : Int32) (v2 : Int32) (v3 : Int32) (v4 : Int32) (v5 : Int32) (x7 : Nat) (qb : Nat) (w2 : Int32) (w3 : Int32) (w4 : Int32) (w5 : Int32) (w6 : Int32) (w7 : Int32) : Unit → Prop := fun (u : Unit) => True
abbrev q_X3_readFrom (D : va_G) (k : Nat → ClassId) (h : Nat) (v1 : Int32) (v2 : Int32) (v3 : Int32) (v4 : Int32) (v5 : Int32) (x7 : Nat) (qb : Nat) (w2 : Int32) (w3 : Int32) (w4 : Int32) (w5 : Int32) (w6 : Int32) (w7 : Int32) (A : Nat → Prop) : Array Value → State → Outcome → State → Prop := va_Qv (p_X3_readFrom k h v1 v2 v3 v4 v5 x7 qb w2 w3 w4 w5 w6 w7) (fun u9 t9 => BO D (w_X3_readFrom k h v1 v2 v3 v4 v5 x7 qb w2 w3 w4 w5 w6 w7 u9) A t9) A
set_option maxHeartbeats 2000000 in
set_option maxRecDepth 100000 in
theorem X3_readFrom (l : Launch) (D : va_G) (k : Nat → ClassId) (sz : Nat) (h : Nat) (v1 : Int32) (v2 : Int32) (v3 : Int32) (v4 : Int32) (v5 : Int32) (x7 : Nat) (qb : Nat) (w2 : Int32) (w3 : Int32) (w4 : Int32) (w5 : Int32) (w6 : Int32) (w7 : Int32)  : Met l yX3_readFrom wsX3_readFrom r_X3_readFrom (va_Pc [.ref h, .ref x7] (PR D k (c_X3_readFrom k h v1 v2 v3 v4 v5 x7 qb w2 w3 w4 w5 w6 w7) sz)) (q_X3_readFrom D k h v1 v2 v3 v4 v5 x7 qb w2 w3 w4 w5 w6 w7 (va_A (c_X3_readFrom k h v1 v2 v3 v4 v5 x7 qb w2 w3 w4 w5 w6 w7) sz)) 0 0 (va_A (c_X3_readFrom k h v1 v2 v3 v4 v5 x7 qb w2 w3 w4 w5 w6 w7) sz) := by
  refine Met.ofW (cc := cX3_readFrom) (maxL := 3) (ret := none) (by decide) rfl ?_
  intro p e s m args below meth c s₁ B hml hv
  obtain ⟨rfl, hsz, hP, hG, hD0⟩ := hv
  have hx := B.exec
  have hb := B.bytes
  have hr := B.returns
  have hts := atoms_spec (ws := wsX3_readFrom) B.pre
  have hown : s.vm.findClass RX3 = some m.cls := findClass_of_methodNamed B.named
  have hlocks := B.notSynchronized
  have hi3 : ∀ w ∈ wsX30, w ∈ wsX3_readFrom := fun _ h => List.mem_cons_of_mem _ (List.mem_append_left _ (List.mem_append_right _ h))
  have hi7 : ∀ w ∈ wsX70, w ∈ wsX3_readFrom := fun _ h => List.mem_cons_of_mem _ (List.mem_append_right _ h)
  subst hsz
  have hD := hD0.self (sz := s.heap.size)
  generalize hAe : va_A (c_X3_readFrom k h v1 v2 v3 v4 v5 x7 qb w2 w3 w4 w5 w6 w7) s.heap.size = A at hD ⊢
  have hA : ∀ q : Nat, s.heap.size ≤ q → A q := fun q h => by rw [← hAe]; exact Or.inr h
  have hS : va_S A s.heap s.heap [] := va_S.rf
  have hP : va_P D vwCl [(h, .inr (3, [.int v1, .int v2, .int v3, .int v4, .int v5])), (x7, .inr (7, [.ref qb, .int 0, .int w2, .int w3, .int w4, .int w5, .int w6, .int w7]))] s.heap := hP
  have hD : va_D A [(h, .inr (3, [.int v1, .int v2, .int v3, .int v4, .int v5])), (x7, .inr (7, [.ref qb, .int 0, .int w2, .int w3, .int w4, .int w5, .int w6, .int w7]))] := hD
  have hl := lv_entry ([.ref h, .ref x7]) (n := 3) (Nat.le_of_ble_eq_true rfl)
  rw [lg_entry_eq]
  generalize (lg_sl ([.ref h, .ref x7]) ++ List.replicate (3 - (lg_sl ([.ref h, .ref x7])).length) Slot.unset).toArray = ls at hl ⊢
  have hl : lv_has ls 3 [(0, .ref h), (1, .ref x7)] := hl
  refine lv_aload_n hx hb dX3_readFrom_0 rfl (lv_at hl 0 rfl) ?_
  refine lv_bipush (v := 7) hx hb dX3_readFrom_1 (by decide) ?_
  refine va_put (D := D) (ci := 3) (v := .int 7) (ty := .int) (C := RX3) (T := TX3) (N := 5) hx hb hts hi3 tyX3 tyX3_ok nmX3 hown hG.1 hP hD hS 0 rfl rfl 0 (by decide) (hts (.fieldLink RX3 9 "SleptMatters$Law" "nights" "I") (List.mem_cons_of_mem _ (List.mem_append_left _ (List.mem_append_left _ (List.mem_append_left _ (List.mem_of_getElem? (i := 0) rfl)))))) (fun _ h9 => h9) rfl (by decide +kernel) rfl rfl (Nat.le_of_ble_eq_true rfl) dX3_readFrom_3 (fun H locs hP hD hS => ?_)
  have hP : va_P D vwCl [(h, .inr (3, [.int 7, .int v2, .int v3, .int v4, .int v5])), (x7, .inr (7, [.ref qb, .int 0, .int w2, .int w3, .int w4, .int w5, .int w6, .int w7]))] H := hP
  have hD : va_D A [(h, .inr (3, [.int 7, .int v2, .int v3, .int v4, .int v5])), (x7, .inr (7, [.ref qb, .int 0, .int w2, .int w3, .int w4, .int w5, .int w6, .int w7]))] := hD
  refine lv_aload_n hx hb dX3_readFrom_6 rfl (lv_at hl 0 rfl) ?_
  refine lv_iconst (v := (-1)) hx hb dX3_readFrom_7 (by decide) ?_
  refine va_put (D := D) (ci := 3) (v := .int (-1)) (ty := .int) (C := RX3) (T := TX3) (N := 5) hx hb hts hi3 tyX3 tyX3_ok nmX3 hown hG.1 hP hD hS 0 rfl rfl 1 (by decide) (hts (.fieldLink RX3 15 "SleptMatters$Law" "yes" "I") (List.mem_cons_of_mem _ (List.mem_append_left _ (List.mem_append_left _ (List.mem_append_left _ (List.mem_of_getElem? (i := 1) rfl)))))) (fun _ h9 => h9) rfl (by decide +kernel) rfl rfl (Nat.le_of_ble_eq_true rfl) dX3_readFrom_8 (fun H locs hP hD hS => ?_)
  have hP : va_P D vwCl [(h, .inr (3, [.int 7, .int (-1), .int v3, .int v4, .int v5])), (x7, .inr (7, [.ref qb, .int 0, .int w2, .int w3, .int w4, .int w5, .int w6, .int w7]))] H := hP
  have hD : va_D A [(h, .inr (3, [.int 7, .int (-1), .int v3, .int v4, .int v5])), (x7, .inr (7, [.ref qb, .int 0, .int w2, .int w3, .int w4, .int w5, .int w6, .int w7]))] := hD
  refine lv_aload_n hx hb dX3_readFrom_11 rfl (lv_at hl 0 rfl) ?_
  refine lv_iconst (v := 1) hx hb dX3_readFrom_12 (by decide) ?_
  refine va_put (D := D) (ci := 3) (v := .int 1) (ty := .boolean) (C := RX3) (T := TX3) (N := 5) hx hb hts hi3 tyX3 tyX3_ok nmX3 hown hG.1 hP hD hS 0 rfl rfl 2 (by decide) (hts (.fieldLink RX3 18 "SleptMatters$Law" "again" "Z") (List.mem_cons_of_mem _ (List.mem_append_left _ (List.mem_append_left _ (List.mem_append_left _ (List.mem_of_getElem? (i := 2) rfl)))))) (fun _ h9 => h9) rfl (by decide +kernel) rfl rfl (Nat.le_of_ble_eq_true rfl) dX3_readFrom_13 (fun H locs hP hD hS => ?_)
  have hP : va_P D vwCl [(h, .inr (3, [.int 7, .int (-1), .int 1, .int v4, .int v5])), (x7, .inr (7, [.ref qb, .int 0, .int w2, .int w3, .int w4, .int w5, .int w6, .int w7]))] H := hP
  have hD : va_D A [(h, .inr (3, [.int 7, .int (-1), .int 1, .int v4, .int v5])), (x7, .inr (7, [.ref qb, .int 0, .int w2, .int w3, .int w4, .int w5, .int w6, .int w7]))] := hD
  refine lv_aload_n hx hb dX3_readFrom_16 rfl (lv_at hl 0 rfl) ?_
  refine lv_iconst (v := 0) hx hb dX3_readFrom_17 (by decide) ?_
  refine va_put (D := D) (ci := 3) (v := .int 0) (ty := .int) (C := RX3) (T := TX3) (N := 5) hx hb hts hi3 tyX3 tyX3_ok nmX3 hown hG.1 hP hD hS 0 rfl rfl 3 (by decide) (hts (.fieldLink RX3 22 "SleptMatters$Law" "clauses" "I") (List.mem_cons_of_mem _ (List.mem_append_left _ (List.mem_append_left _ (List.mem_append_left _ (List.mem_of_getElem? (i := 3) rfl)))))) (fun _ h9 => h9) rfl (by decide +kernel) rfl rfl (Nat.le_of_ble_eq_true rfl) dX3_readFrom_18 (fun H locs hP hD hS => ?_)
  have hP : va_P D vwCl [(h, .inr (3, [.int 7, .int (-1), .int 1, .int 0, .int v5])), (x7, .inr (7, [.ref qb, .int 0, .int w2, .int w3, .int w4, .int w5, .int w6, .int w7]))] H := hP
  have hD : va_D A [(h, .inr (3, [.int 7, .int (-1), .int 1, .int 0, .int v5])), (x7, .inr (7, [.ref qb, .int 0, .int w2, .int w3, .int w4, .int w5, .int w6, .int w7]))] := hD
  refine lv_aload_n hx hb dX3_readFrom_21 rfl (lv_at hl 0 rfl) ?_
  refine lv_iconst (v := 0) hx hb dX3_readFrom_22 (by decide) ?_
  refine va_put (D := D) (ci := 3) (v := .int 0) (ty := .int) (C := RX3) (T := TX3) (N := 5) hx hb hts hi3 tyX3 tyX3_ok nmX3 hown hG.1 hP hD hS 0 rfl rfl 4 (by decide) (hts (.fieldLink RX3 25 "SleptMatters$Law" "toldClauses" "I") (List.mem_cons_of_mem _ (List.mem_append_left _ (List.mem_append_left _ (List.mem_append_left _ (List.mem_of_getElem? (i := 4) rfl)))))) (fun _ h9 => h9) rfl (by decide +kernel) rfl rfl (Nat.le_of_ble_eq_true rfl) dX3_readFrom_23 (fun H locs hP hD hS => ?_)
  have hP : va_P D vwCl [(h, .inr (3, [.int 7, .int (-1), .int 1, .int 0, .int 0])), (x7, .inr (7, [.ref qb, .int 0, .int w2, .int w3, .int w4, .int w5, .int w6, .int w7]))] H := hP
  have hD : va_D A [(h, .inr (3, [.int 7, .int (-1), .int 1, .int 0, .int 0])), (x7, .inr (7, [.ref qb, .int 0, .int w2, .int w3, .int w4, .int w5, .int w6, .int w7]))] := hD
  refine lv_aload_n hx hb dX3_readFrom_26 rfl (lv_at hl 1 rfl) ?_
  have hPc := hP.sub (ws' := (c_X7_startReading k x7 qb 0 w2 w3 w4 w5 w6 w7)) [1] rfl
  have hDc := hD.sub (ws' := (c_X7_startReading k x7 qb 0 w2 w3 w4 w5 w6 w7)) [1] (by decide +kernel) rfl
  refine cl_v (w1 := w_X7_startReading k x7 qb 0 w2 w3 w4 w5 w6 w7) (wr := [(h, .inr (3, [.int 7, .int (-1), .int 1, .int 0, .int 0]))]) (va_runV (As := []) (rest := []) ⟨hx, hb, hml, hown, hts⟩ (X7_startReading l D k H.size x7 qb 0 w2 w3 w4 w5 w6 w7 ) (cwV 0 hts gX3_readFrom_X7_startReading rfl rfl rfl (by decide +kernel) ⟨Nat.le_of_ble_eq_true rfl, Nat.le_of_ble_eq_true rfl⟩) ⟨PR.blind _ _ _ _ _, va_recv hG.1 hP (ci := 7) (q0 := 1) rfl rfl, PR.pre hPc hDc hG [.ref x7]⟩ rfl rfl hl.1 rfl (lv_room (Nat.le_of_ble_eq_true rfl)) dX3_readFrom_27 ⟨Nat.le_of_ble_eq_true rfl, Nat.le_of_ble_eq_true rfl⟩) hP hD hS hA [1] [0] rfl rfl (by decide +kernel) (by decide +kernel) (fun u H locs hq hP hD hS => ?_)
  cases u
  have hP : va_P D vwCl [(h, .inr (3, [.int 7, .int (-1), .int 1, .int 0, .int 0])), (x7, .inr (7, [.ref qb, .int 0, .int w2, .int w3, .int 0, .int (-1), .int w6, .int 0]))] H := hP
  have hD : va_D A [(h, .inr (3, [.int 7, .int (-1), .int 1, .int 0, .int 0])), (x7, .inr (7, [.ref qb, .int 0, .int w2, .int w3, .int 0, .int (-1), .int w6, .int 0]))] := hD
  refine lv_iconst (v := 0) hx hb dX3_readFrom_30 (by decide) ?_
  refine lv_istore_n (lv' := [(2, .int 0), (0, .ref h), (1, .ref x7)]) hx hb dX3_readFrom_31 rfl hl (by decide) rfl (fun ls hl => ?_)
  refine lv_iload_n hx hb dX3_readFrom_32 rfl (lv_at hl 0 rfl) ?_
  refine lv_sipush (v := 200) hx hb dX3_readFrom_33 (by decide) ?_
  refine lv_icmp_ge (x := 0) (y := 200) (tgt := 64) hx hb dX3_readFrom_36 (by decide) (fun c1 => absurd c1 (by decide)) (fun c1 => ?_)
  refine lv_aload_n hx hb dX3_readFrom_39 rfl (lv_at hl 2 rfl) ?_
  have hPc := hP.sub (ws' := (c_X7_isFaulty k x7 qb 0 w2 w3 (-1) w6 0)) [1] rfl
  refine vp_callSi (va_Run.run (va_runV (As := []) (rest := []) ⟨hx, hb, hml, hown, hts⟩ (X7_isFaulty l D k x7 qb 0 w2 w3 (-1) w6 0 ) (cwV 0 hts gX3_readFrom_X7_isFaulty rfl rfl rfl (by decide +kernel) ⟨Nat.le_of_ble_eq_true rfl, Nat.le_of_ble_eq_true rfl⟩) ⟨PS.blind _ _ _ _, va_recv hG.1 hP (ci := 7) (q0 := 1) rfl rfl, PS.pre hPc hG [.ref x7]⟩ rfl rfl hl.1 rfl (lv_room (Nat.le_of_ble_eq_true rfl)) dX3_readFrom_40 ⟨Nat.le_of_ble_eq_true rfl, Nat.le_of_ble_eq_true rfl⟩)) (fun r hq => ?_)
  generalize r = y2 at hq ⊢
  have hq : y2 = 0 := hq
  refine tp_i (y := 0) (hq) ?_
  refine lv_if_ne (x := 0) (tgt := 64) hx hb dX3_readFrom_43 (by decide) (fun c3 => absurd c3 (by decide)) (fun c3 => ?_)
  refine lv_aload_n hx hb dX3_readFrom_46 rfl (lv_at hl 2 rfl) ?_
  have hPc := hP.sub (ws' := (c_X7_hasMore k x7 qb w2 w3 0 (-1) w6)) [1] rfl
  have hDc := hD.sub (ws' := (c_X7_hasMore k x7 qb w2 w3 0 (-1) w6)) [1] (by decide +kernel) rfl
  refine cl_i (w1 := w_X7_hasMore k x7 qb w2 w3 0 (-1) w6) (wr := [(h, .inr (3, [.int 7, .int (-1), .int 1, .int 0, .int 0]))]) (va_runV (As := []) (rest := []) ⟨hx, hb, hml, hown, hts⟩ (X7_hasMore l D k H.size x7 qb w2 w3 0 (-1) w6 ) (cwV 0 hts gX3_readFrom_X7_hasMore rfl rfl rfl (by decide +kernel) ⟨Nat.le_of_ble_eq_true rfl, Nat.le_of_ble_eq_true rfl⟩) ⟨PR.blind _ _ _ _ _, va_recv hG.1 hP (ci := 7) (q0 := 1) rfl rfl, PR.pre hPc hDc hG [.ref x7]⟩ rfl rfl hl.1 rfl (lv_room (Nat.le_of_ble_eq_true rfl)) dX3_readFrom_47 ⟨Nat.le_of_ble_eq_true rfl, Nat.le_of_ble_eq_true rfl⟩) hP hD hS hA [1] [0] rfl rfl (by decide +kernel) (by decide +kernel) (fun r u H locs hq hP hD hS => ?_)
  cases u
  generalize r = y4 at hq ⊢
  have hq : y4 = 0 := hq
  have hP : va_P D vwCl [(h, .inr (3, [.int 7, .int (-1), .int 1, .int 0, .int 0])), (x7, .inr (7, [.ref qb, .int 0, .int w2, .int w3, .int 0, .int (-1), .int w6, .int 0]))] H := hP
  have hD : va_D A [(h, .inr (3, [.int 7, .int (-1), .int 1, .int 0, .int 0])), (x7, .inr (7, [.ref qb, .int 0, .int w2, .int w3, .int 0, .int (-1), .int w6, .int 0]))] := hD
  refine tp_i (y := 0) (hq) ?_
  refine lv_if_eq (x := 0) (tgt := 64) hx hb dX3_readFrom_50 (by decide) (fun c5 => ?_) (fun c5 => absurd c5 (by decide))
  refine lv_aload_n hx hb dX3_readFrom_64 rfl (lv_at hl 1 rfl) ?_
  refine va_get (D := D) (ci := 3) (v := .int (-1)) (C := RX3) (T := TX3) (N := 5) hx hb hts hi3 hown hG.1 hP 0 rfl rfl 1 (by decide) (hts (.fieldLink RX3 15 "SleptMatters$Law" "yes" "I") (List.mem_cons_of_mem _ (List.mem_append_left _ (List.mem_append_left _ (List.mem_append_left _ (List.mem_of_getElem? (i := 1) rfl)))))) (fun _ h9 => h9) rfl dX3_readFrom_65 ?_
  refine lv_iconst (v := (-1)) hx hb dX3_readFrom_68 (by decide) ?_
  refine lv_icmp_ne (x := (-1)) (y := (-1)) (tgt := 84) hx hb dX3_readFrom_69 (by decide) (fun c6 => absurd c6 (by decide)) (fun c6 => ?_)
  refine lv_aload_n hx hb dX3_readFrom_72 rfl (lv_at hl 1 rfl) ?_
  refine lv_aload_n hx hb dX3_readFrom_73 rfl (lv_at hl 1 rfl) ?_
  refine va_get (D := D) (ci := 3) (v := .int 7) (C := RX3) (T := TX3) (N := 5) hx hb hts hi3 hown hG.1 hP 0 rfl rfl 0 (by decide) (hts (.fieldLink RX3 9 "SleptMatters$Law" "nights" "I") (List.mem_cons_of_mem _ (List.mem_append_left _ (List.mem_append_left _ (List.mem_append_left _ (List.mem_of_getElem? (i := 0) rfl)))))) (fun _ h9 => h9) rfl dX3_readFrom_74 ?_
  refine lv_iconst (v := 2) hx hb dX3_readFrom_77 (by decide) ?_
  refine lv_idiv hx hb dX3_readFrom_78 (by decide) ?_
  refine tp_i (y := 3) (by decide) ?_
  refine lv_iconst (v := 1) hx hb dX3_readFrom_79 (by decide) ?_
  refine lv_iadd hx hb dX3_readFrom_80 ?_
  refine tp_i (y := 4) (by decide) ?_
  refine va_put (D := D) (ci := 3) (v := .int 4) (ty := .int) (C := RX3) (T := TX3) (N := 5) hx hb hts hi3 tyX3 tyX3_ok nmX3 hown hG.1 hP hD hS 0 rfl rfl 1 (by decide) (hts (.fieldLink RX3 15 "SleptMatters$Law" "yes" "I") (List.mem_cons_of_mem _ (List.mem_append_left _ (List.mem_append_left _ (List.mem_append_left _ (List.mem_of_getElem? (i := 1) rfl)))))) (fun _ h9 => h9) rfl (by decide +kernel) rfl rfl (Nat.le_of_ble_eq_true rfl) dX3_readFrom_81 (fun H locs hP hD hS => ?_)
  have hP : va_P D vwCl [(h, .inr (3, [.int 7, .int 4, .int 1, .int 0, .int 0])), (x7, .inr (7, [.ref qb, .int 0, .int w2, .int w3, .int 0, .int (-1), .int w6, .int 0]))] H := hP
  have hD : va_D A [(h, .inr (3, [.int 7, .int 4, .int 1, .int 0, .int 0])), (x7, .inr (7, [.ref qb, .int 0, .int w2, .int w3, .int 0, .int (-1), .int w6, .int 0]))] := hD
  have hP9 := hP.sub (ws' := [(h, .inr (3, [.int 7, .int 4, .int 1, .int 0, .int 0])), (x7, .inr (7, [.ref qb, .int 0, .int w2, .int w3, .int 0, .int (-1), .int w6, .int 0]))]) [0, 1] rfl
  have hD9 := hD.sub (ws' := [(h, .inr (3, [.int 7, .int 4, .int 1, .int 0, .int 0])), (x7, .inr (7, [.ref qb, .int 0, .int w2, .int w3, .int 0, .int (-1), .int w6, .int 0]))]) [0, 1] (by decide +kernel) rfl
  exact W.vret hx hb hr (fun t9 ht _ => ⟨⟨(), rfl, trivial, by rw [ht]; exact hP9, hD9⟩, hS.F ht⟩) hS.2.2 dX3_readFrom_84

abbrev c_X9_laws (k : Nat → ClassId) (x : Nat) (xt : Nat) (xc : Nat) (xi : Nat) (xk : Nat) (xb : Nat) (xr : Nat) (xp : Nat) (xo : Nat) (xl : Nat) (xm : Nat) (xw : Nat) (xv : Nat) (fb : Int32) (xtb : Nat) (w2 : Int32) (w3 : Int32) (w4 : Int32) (w5 : Int32) (w6 : Int32) (w7 : Int32) (od : Nat) (en : Nat) (te : Nat) (tk : Nat) : va_W := [(x, .inr (9, [.ref xt, .ref xc, .ref xi, .ref xk, .ref xb, .ref xr, .ref xp, .ref xo, .ref xl, .ref xm, .ref xw, .ref xv, .int fb])), (xt, .inr (7, [.ref xtb, .int 0, .int w2, .int w3, .int w4, .int w5, .int w6, .int w7])), (xv, .inr (3, [.int 7, .int 4, .int 1, .int 0, .int 0])), (xp, .inr (4, [.int 0, .int 0, .ref od, .ref en, .ref te, .ref tk, .ref xr, .int 0, .int 0]))]
abbrev r_X9_laws : Room := { frames := 3, cells := 0, slots := 0, locals := 62 }
def w_X9_laws (k : Nat → ClassId) (x : Nat) (xt : Nat) (xc : Nat) (xi : Nat) (xk : Nat) (xb : Nat) (xr : Nat) (xp : Nat) (xo : Nat) (xl : Nat) (xm : Nat) (xw : Nat) (xv : Nat) (fb : Int32) (xtb : Nat) (w2 : Int32) (w3 : Int32) (w4 : Int32) (w5 : Int32) (w6 : Int32) (w7 : Int32) (od : Nat) (en : Nat) (te : Nat) (tk : Nat) : Unit → va_W := fun _ => []
def p_X9_laws (k : Nat → ClassId) (x : Nat) (xt : Nat) (xc : Nat) (xi : Nat) (xk : Nat) (xb : Nat) (xr : Nat) (xp : Nat) (xo : Nat) (xl : Nat) (xm : Nat) (xw : Nat) (xv : Nat) (fb : Int32) (xtb : Nat) (w2 : Int32) (w3 : Int32) (w4 : Int32) (w5 : Int32) (w6 : Int32) (w7 : Int32) (od : Nat) (en : Nat) (te : Nat) (tk : Nat) : Int32 → Unit → Prop := fun (r : Int32) (u : Unit) => r = 0
abbrev q_X9_laws (D : va_G) (k : Nat → ClassId) (x : Nat) (xt : Nat) (xc : Nat) (xi : Nat) (xk : Nat) (xb : Nat) (xr : Nat) (xp : Nat) (xo : Nat) (xl : Nat) (xm : Nat) (xw : Nat) (xv : Nat) (fb : Int32) (xtb : Nat) (w2 : Int32) (w3 : Int32) (w4 : Int32) (w5 : Int32) (w6 : Int32) (w7 : Int32) (od : Nat) (en : Nat) (te : Nat) (tk : Nat) (A : Nat → Prop) : Array Value → State → Outcome → State → Prop := va_Qi (p_X9_laws k x xt xc xi xk xb xr xp xo xl xm xw xv fb xtb w2 w3 w4 w5 w6 w7 od en te tk) (fun u9 t9 => BO D (w_X9_laws k x xt xc xi xk xb xr xp xo xl xm xw xv fb xtb w2 w3 w4 w5 w6 w7 od en te tk u9) A t9) A
set_option maxHeartbeats 2000000 in
set_option maxRecDepth 100000 in
theorem X9_laws (l : Launch) (D : va_G) (k : Nat → ClassId) (sz : Nat) (x : Nat) (xt : Nat) (xc : Nat) (xi : Nat) (xk : Nat) (xb : Nat) (xr : Nat) (xp : Nat) (xo : Nat) (xl : Nat) (xm : Nat) (xw : Nat) (xv : Nat) (fb : Int32) (xtb : Nat) (w2 : Int32) (w3 : Int32) (w4 : Int32) (w5 : Int32) (w6 : Int32) (w7 : Int32) (od : Nat) (en : Nat) (te : Nat) (tk : Nat)  : Met l yX9_laws wsX9_laws r_X9_laws (va_Pc [.ref x] (PR D k (c_X9_laws k x xt xc xi xk xb xr xp xo xl xm xw xv fb xtb w2 w3 w4 w5 w6 w7 od en te tk) sz)) (q_X9_laws D k x xt xc xi xk xb xr xp xo xl xm xw xv fb xtb w2 w3 w4 w5 w6 w7 od en te tk (va_A (c_X9_laws k x xt xc xi xk xb xr xp xo xl xm xw xv fb xtb w2 w3 w4 w5 w6 w7 od en te tk) sz)) 0 0 (va_A (c_X9_laws k x xt xc xi xk xb xr xp xo xl xm xw xv fb xtb w2 w3 w4 w5 w6 w7 od en te tk) sz) := by
  refine Met.ofW (cc := cX9_laws) (maxL := 3) (ret := (some .int)) (by decide) rfl ?_
  intro p e s m args below meth c s₁ B hml hv
  obtain ⟨rfl, hsz, hP, hG, hD0⟩ := hv
  have hx := B.exec
  have hb := B.bytes
  have hr := B.returns
  have hts := atoms_spec (ws := wsX9_laws) B.pre
  have hown : s.vm.findClass RX9 = some m.cls := findClass_of_methodNamed B.named
  have hlocks := B.notSynchronized
  have hi9 : ∀ w ∈ wsX90, w ∈ wsX9_laws := fun _ h => List.mem_cons_of_mem _ (List.mem_append_left _ (List.mem_append_left _ (List.mem_append_left _ (List.mem_append_right _ h))))
  have hi7 : ∀ w ∈ wsX70, w ∈ wsX9_laws := fun _ h => List.mem_cons_of_mem _ (List.mem_append_left _ (List.mem_append_left _ (List.mem_append_right _ h)))
  have hi4 : ∀ w ∈ wsX40, w ∈ wsX9_laws := fun _ h => List.mem_cons_of_mem _ (List.mem_append_left _ (List.mem_append_right _ h))
  have hi3 : ∀ w ∈ wsX30, w ∈ wsX9_laws := fun _ h => List.mem_cons_of_mem _ (List.mem_append_right _ h)
  subst hsz
  have hD := hD0.self (sz := s.heap.size)
  generalize hAe : va_A (c_X9_laws k x xt xc xi xk xb xr xp xo xl xm xw xv fb xtb w2 w3 w4 w5 w6 w7 od en te tk) s.heap.size = A at hD ⊢
  have hA : ∀ q : Nat, s.heap.size ≤ q → A q := fun q h => by rw [← hAe]; exact Or.inr h
  have hS : va_S A s.heap s.heap [] := va_S.rf
  have hP : va_P D vwCl [(x, .inr (9, [.ref xt, .ref xc, .ref xi, .ref xk, .ref xb, .ref xr, .ref xp, .ref xo, .ref xl, .ref xm, .ref xw, .ref xv, .int fb])), (xt, .inr (7, [.ref xtb, .int 0, .int w2, .int w3, .int w4, .int w5, .int w6, .int w7])), (xv, .inr (3, [.int 7, .int 4, .int 1, .int 0, .int 0])), (xp, .inr (4, [.int 0, .int 0, .ref od, .ref en, .ref te, .ref tk, .ref xr, .int 0, .int 0]))] s.heap := hP
  have hD : va_D A [(x, .inr (9, [.ref xt, .ref xc, .ref xi, .ref xk, .ref xb, .ref xr, .ref xp, .ref xo, .ref xl, .ref xm, .ref xw, .ref xv, .int fb])), (xt, .inr (7, [.ref xtb, .int 0, .int w2, .int w3, .int w4, .int w5, .int w6, .int w7])), (xv, .inr (3, [.int 7, .int 4, .int 1, .int 0, .int 0])), (xp, .inr (4, [.int 0, .int 0, .ref od, .ref en, .ref te, .ref tk, .ref xr, .int 0, .int 0]))] := hD
  have hl := lv_entry ([.ref x]) (n := 3) (Nat.le_of_ble_eq_true rfl)
  rw [lg_entry_eq]
  generalize (lg_sl ([.ref x]) ++ List.replicate (3 - (lg_sl ([.ref x])).length) Slot.unset).toArray = ls at hl ⊢
  have hl : lv_has ls 3 [(0, .ref x)] := hl
  refine lv_aload_n hx hb dX9_laws_0 rfl (lv_at hl 0 rfl) ?_
  refine va_get (D := D) (ci := 9) (v := .ref xt) (C := RX9) (T := TX9) (N := 13) hx hb hts hi9 hown hG.1 hP 0 rfl rfl 0 (by decide) (hts (.fieldLink RX9 10 "SleptMatters" "text" "LSleptMatters$Text;") (List.mem_cons_of_mem _ (List.mem_append_left _ (List.mem_append_left _ (List.mem_append_left _ (List.mem_append_left _ (List.mem_append_left _ (List.mem_of_getElem? (i := 0) rfl)))))))) (fun _ h9 => h9) rfl dX9_laws_1 ?_
  refine va_get (D := D) (ci := 7) (v := .int 0) (C := RX7) (T := TX7) (N := 8) hx hb hts hi7 hown hG.1 hP 1 rfl rfl 1 (by decide) (hts (.fieldLink RX9 88 "SleptMatters$Text" "size" "I") (List.mem_cons_of_mem _ (List.mem_append_left _ (List.mem_append_left _ (List.mem_append_left _ (List.mem_append_left _ (List.mem_append_left _ (List.mem_of_getElem? (i := 1) rfl)))))))) (fun _ h9 => h9) rfl dX9_laws_4 ?_
  refine lv_sipush (v := 200) hx hb dX9_laws_7 (by decide) ?_
  refine lv_icmp_le (x := 0) (y := 200) (tgt := 16) hx hb dX9_laws_10 (by decide) (fun c1 => ?_) (fun c1 => absurd c1 (by decide))
  refine lv_aload_n hx hb dX9_laws_16 rfl (lv_at hl 0 rfl) ?_
  refine va_get (D := D) (ci := 9) (v := .ref xv) (C := RX9) (T := TX9) (N := 13) hx hb hts hi9 hown hG.1 hP 0 rfl rfl 11 (by decide) (hts (.fieldLink RX9 55 "SleptMatters" "lawInMaking" "LSleptMatters$Law;") (List.mem_cons_of_mem _ (List.mem_append_left _ (List.mem_append_left _ (List.mem_append_left _ (List.mem_append_left _ (List.mem_append_left _ (List.mem_of_getElem? (i := 3) rfl)))))))) (fun _ h9 => h9) rfl dX9_laws_17 ?_
  refine lv_aload_n hx hb dX9_laws_20 rfl (lv_at hl 0 rfl) ?_
  refine va_get (D := D) (ci := 9) (v := .ref xt) (C := RX9) (T := TX9) (N := 13) hx hb hts hi9 hown hG.1 hP 0 rfl rfl 0 (by decide) (hts (.fieldLink RX9 10 "SleptMatters" "text" "LSleptMatters$Text;") (List.mem_cons_of_mem _ (List.mem_append_left _ (List.mem_append_left _ (List.mem_append_left _ (List.mem_append_left _ (List.mem_append_left _ (List.mem_of_getElem? (i := 0) rfl)))))))) (fun _ h9 => h9) rfl dX9_laws_21 ?_
  have hPc := hP.sub (ws' := (c_X3_readFrom k xv 7 4 1 0 0 xt xtb w2 w3 w4 w5 w6 w7)) [2, 1] rfl
  have hDc := hD.sub (ws' := (c_X3_readFrom k xv 7 4 1 0 0 xt xtb w2 w3 w4 w5 w6 w7)) [2, 1] (by decide +kernel) rfl
  refine cl_v (w1 := w_X3_readFrom k xv 7 4 1 0 0 xt xtb w2 w3 w4 w5 w6 w7) (wr := [(x, .inr (9, [.ref xt, .ref xc, .ref xi, .ref xk, .ref xb, .ref xr, .ref xp, .ref xo, .ref xl, .ref xm, .ref xw, .ref xv, .int fb])), (xp, .inr (4, [.int 0, .int 0, .ref od, .ref en, .ref te, .ref tk, .ref xr, .int 0, .int 0]))]) (va_runV (As := [.ref xt]) (rest := []) ⟨hx, hb, hml, hown, hts⟩ (X3_readFrom l D k s.heap.size xv 7 4 1 0 0 xt xtb w2 w3 w4 w5 w6 w7 ) (cwV 1 hts gX9_laws_X3_readFrom rfl rfl rfl (by decide +kernel) ⟨Nat.le_of_ble_eq_true rfl, Nat.le_of_ble_eq_true rfl⟩) ⟨PR.blind _ _ _ _ _, va_recv hG.1 hP (ci := 3) (q0 := 2) rfl rfl, PR.pre hPc hDc hG [.ref xv, .ref xt]⟩ rfl rfl hl.1 rfl (lv_room (Nat.le_of_ble_eq_true rfl)) dX9_laws_24 ⟨Nat.le_of_ble_eq_true rfl, Nat.le_of_ble_eq_true rfl⟩) hP hD hS hA [2, 1] [0, 3] rfl rfl (by decide +kernel) (by decide +kernel) (fun u H locs hq hP hD hS => ?_)
  cases u
  have hP : va_P D vwCl [(x, .inr (9, [.ref xt, .ref xc, .ref xi, .ref xk, .ref xb, .ref xr, .ref xp, .ref xo, .ref xl, .ref xm, .ref xw, .ref xv, .int fb])), (xp, .inr (4, [.int 0, .int 0, .ref od, .ref en, .ref te, .ref tk, .ref xr, .int 0, .int 0])), (xv, .inr (3, [.int 7, .int 4, .int 1, .int 0, .int 0])), (xt, .inr (7, [.ref xtb, .int 0, .int w2, .int w3, .int 0, .int (-1), .int w6, .int 0]))] H := hP
  have hD : va_D A [(x, .inr (9, [.ref xt, .ref xc, .ref xi, .ref xk, .ref xb, .ref xr, .ref xp, .ref xo, .ref xl, .ref xm, .ref xw, .ref xv, .int fb])), (xp, .inr (4, [.int 0, .int 0, .ref od, .ref en, .ref te, .ref tk, .ref xr, .int 0, .int 0])), (xv, .inr (3, [.int 7, .int 4, .int 1, .int 0, .int 0])), (xt, .inr (7, [.ref xtb, .int 0, .int w2, .int w3, .int 0, .int (-1), .int w6, .int 0]))] := hD
  refine lv_aload_n hx hb dX9_laws_27 rfl (lv_at hl 0 rfl) ?_
  have hPc := hP.sub (ws' := (c_X9_endReading k x xt xc xi xk xb xr xp xo xl xm xw xv fb xtb 0 w2 w3 0 (-1) w6 0)) [0, 3] rfl
  have hDc := hD.sub (ws' := (c_X9_endReading k x xt xc xi xk xb xr xp xo xl xm xw xv fb xtb 0 w2 w3 0 (-1) w6 0)) [0, 3] (by decide +kernel) rfl
  refine cl_i (w1 := w_X9_endReading k x xt xc xi xk xb xr xp xo xl xm xw xv fb xtb 0 w2 w3 0 (-1) w6 0) (wr := [(xp, .inr (4, [.int 0, .int 0, .ref od, .ref en, .ref te, .ref tk, .ref xr, .int 0, .int 0])), (xv, .inr (3, [.int 7, .int 4, .int 1, .int 0, .int 0]))]) (va_runV (As := []) (rest := []) ⟨hx, hb, hml, hown, hts⟩ (X9_endReading l D k H.size x xt xc xi xk xb xr xp xo xl xm xw xv fb xtb 0 w2 w3 0 (-1) w6 0 ) (cwV 0 hts gX9_laws_X9_endReading rfl rfl rfl (by decide +kernel) ⟨Nat.le_of_ble_eq_true rfl, Nat.le_of_ble_eq_true rfl⟩) ⟨PR.blind _ _ _ _ _, va_recv hG.1 hP (ci := 9) (q0 := 0) rfl rfl, PR.pre hPc hDc hG [.ref x]⟩ rfl rfl hl.1 rfl (lv_room (Nat.le_of_ble_eq_true rfl)) dX9_laws_28 ⟨Nat.le_of_ble_eq_true rfl, Nat.le_of_ble_eq_true rfl⟩) hP hD hS hA [0, 3] [1, 2] rfl rfl (by decide +kernel) (by decide +kernel) (fun r u H locs hq hP hD hS => ?_)
  cases u
  generalize r = y2 at hq ⊢
  have hq : y2 = 0 := hq
  have hP : va_P D vwCl [(xp, .inr (4, [.int 0, .int 0, .ref od, .ref en, .ref te, .ref tk, .ref xr, .int 0, .int 0])), (xv, .inr (3, [.int 7, .int 4, .int 1, .int 0, .int 0])), (x, .inr (9, [.ref xt, .ref xc, .ref xi, .ref xk, .ref xb, .ref xr, .ref xp, .ref xo, .ref xl, .ref xm, .ref xw, .ref xv, .int (-1)])), (xt, .inr (7, [.ref xtb, .int 0, .int w2, .int w3, .int 0, .int (-1), .int w6, .int 0]))] H := hP
  have hD : va_D A [(xp, .inr (4, [.int 0, .int 0, .ref od, .ref en, .ref te, .ref tk, .ref xr, .int 0, .int 0])), (xv, .inr (3, [.int 7, .int 4, .int 1, .int 0, .int 0])), (x, .inr (9, [.ref xt, .ref xc, .ref xi, .ref xk, .ref xb, .ref xr, .ref xp, .ref xo, .ref xl, .ref xm, .ref xw, .ref xv, .int (-1)])), (xt, .inr (7, [.ref xtb, .int 0, .int w2, .int w3, .int 0, .int (-1), .int w6, .int 0]))] := hD
  refine tp_i (y := 0) (hq) ?_
  refine lv_istore_n (lv' := [(1, .int 0), (0, .ref x)]) hx hb dX9_laws_31 rfl hl (by decide) rfl (fun ls hl => ?_)
  refine lv_iload_n hx hb dX9_laws_32 rfl (lv_at hl 0 rfl) ?_
  refine lv_if_eq (x := 0) (tgt := 41) hx hb dX9_laws_33 (by decide) (fun c3 => ?_) (fun c3 => absurd c3 (by decide))
  refine lv_aload_n hx hb dX9_laws_41 rfl (lv_at hl 1 rfl) ?_
  refine va_get (D := D) (ci := 9) (v := .ref xw) (C := RX9) (T := TX9) (N := 13) hx hb hts hi9 hown hG.1 hP 2 rfl rfl 10 (by decide) (hts (.fieldLink RX9 51 "SleptMatters" "law" "LSleptMatters$Law;") (List.mem_cons_of_mem _ (List.mem_append_left _ (List.mem_append_left _ (List.mem_append_left _ (List.mem_append_left _ (List.mem_append_left _ (List.mem_of_getElem? (i := 4) rfl)))))))) (fun _ h9 => h9) rfl dX9_laws_42 ?_
  refine lv_astore_n (lv' := [(2, .ref xw), (1, .int 0), (0, .ref x)]) hx hb dX9_laws_45 rfl hl (by decide) rfl (fun ls hl => ?_)
  refine lv_aload_n hx hb dX9_laws_46 rfl (lv_at hl 2 rfl) ?_
  refine lv_aload_n hx hb dX9_laws_47 rfl (lv_at hl 2 rfl) ?_
  refine va_get (D := D) (ci := 9) (v := .ref xv) (C := RX9) (T := TX9) (N := 13) hx hb hts hi9 hown hG.1 hP 2 rfl rfl 11 (by decide) (hts (.fieldLink RX9 55 "SleptMatters" "lawInMaking" "LSleptMatters$Law;") (List.mem_cons_of_mem _ (List.mem_append_left _ (List.mem_append_left _ (List.mem_append_left _ (List.mem_append_left _ (List.mem_append_left _ (List.mem_of_getElem? (i := 3) rfl)))))))) (fun _ h9 => h9) rfl dX9_laws_48 ?_
  refine va_put (D := D) (ci := 9) (v := .ref xv) (ty := (tyX9 10)) (C := RX9) (T := TX9) (N := 13) hx hb hts hi9 tyX9 tyX9_ok nmX9 hown hG.1 hP hD hS 2 rfl rfl 10 (by decide) (hts (.fieldLink RX9 51 "SleptMatters" "law" "LSleptMatters$Law;") (List.mem_cons_of_mem _ (List.mem_append_left _ (List.mem_append_left _ (List.mem_append_left _ (List.mem_append_left _ (List.mem_append_left _ (List.mem_of_getElem? (i := 4) rfl)))))))) (fun _ h9 => h9) rfl (by decide +kernel) rfl rfl (Nat.le_of_ble_eq_true rfl) dX9_laws_51 (fun H locs hP hD hS => ?_)
  have hP : va_P D vwCl [(xp, .inr (4, [.int 0, .int 0, .ref od, .ref en, .ref te, .ref tk, .ref xr, .int 0, .int 0])), (xv, .inr (3, [.int 7, .int 4, .int 1, .int 0, .int 0])), (x, .inr (9, [.ref xt, .ref xc, .ref xi, .ref xk, .ref xb, .ref xr, .ref xp, .ref xo, .ref xl, .ref xm, .ref xv, .ref xv, .int (-1)])), (xt, .inr (7, [.ref xtb, .int 0, .int w2, .int w3, .int 0, .int (-1), .int w6, .int 0]))] H := hP
  have hD : va_D A [(xp, .inr (4, [.int 0, .int 0, .ref od, .ref en, .ref te, .ref tk, .ref xr, .int 0, .int 0])), (xv, .inr (3, [.int 7, .int 4, .int 1, .int 0, .int 0])), (x, .inr (9, [.ref xt, .ref xc, .ref xi, .ref xk, .ref xb, .ref xr, .ref xp, .ref xo, .ref xl, .ref xm, .ref xv, .ref xv, .int (-1)])), (xt, .inr (7, [.ref xtb, .int 0, .int w2, .int w3, .int 0, .int (-1), .int w6, .int 0]))] := hD
  refine lv_aload_n hx hb dX9_laws_54 rfl (lv_at hl 2 rfl) ?_
  refine lv_aload_n hx hb dX9_laws_55 rfl (lv_at hl 0 rfl) ?_
  refine va_put (D := D) (ci := 9) (v := .ref xw) (ty := (tyX9 11)) (C := RX9) (T := TX9) (N := 13) hx hb hts hi9 tyX9 tyX9_ok nmX9 hown hG.1 hP hD hS 2 rfl rfl 11 (by decide) (hts (.fieldLink RX9 55 "SleptMatters" "lawInMaking" "LSleptMatters$Law;") (List.mem_cons_of_mem _ (List.mem_append_left _ (List.mem_append_left _ (List.mem_append_left _ (List.mem_append_left _ (List.mem_append_left _ (List.mem_of_getElem? (i := 3) rfl)))))))) (fun _ h9 => h9) rfl (by decide +kernel) rfl rfl (Nat.le_of_ble_eq_true rfl) dX9_laws_56 (fun H locs hP hD hS => ?_)
  have hP : va_P D vwCl [(xp, .inr (4, [.int 0, .int 0, .ref od, .ref en, .ref te, .ref tk, .ref xr, .int 0, .int 0])), (xv, .inr (3, [.int 7, .int 4, .int 1, .int 0, .int 0])), (x, .inr (9, [.ref xt, .ref xc, .ref xi, .ref xk, .ref xb, .ref xr, .ref xp, .ref xo, .ref xl, .ref xm, .ref xv, .ref xw, .int (-1)])), (xt, .inr (7, [.ref xtb, .int 0, .int w2, .int w3, .int 0, .int (-1), .int w6, .int 0]))] H := hP
  have hD : va_D A [(xp, .inr (4, [.int 0, .int 0, .ref od, .ref en, .ref te, .ref tk, .ref xr, .int 0, .int 0])), (xv, .inr (3, [.int 7, .int 4, .int 1, .int 0, .int 0])), (x, .inr (9, [.ref xt, .ref xc, .ref xi, .ref xk, .ref xb, .ref xr, .ref xp, .ref xo, .ref xl, .ref xm, .ref xv, .ref xw, .int (-1)])), (xt, .inr (7, [.ref xtb, .int 0, .int w2, .int w3, .int 0, .int (-1), .int w6, .int 0]))] := hD
  refine lv_aload_n hx hb dX9_laws_59 rfl (lv_at hl 2 rfl) ?_
  refine va_get (D := D) (ci := 9) (v := .ref xp) (C := RX9) (T := TX9) (N := 13) hx hb hts hi9 hown hG.1 hP 2 rfl rfl 6 (by decide) (hts (.fieldLink RX9 76 "SleptMatters" "plan" "LSleptMatters$Plan;") (List.mem_cons_of_mem _ (List.mem_append_left _ (List.mem_append_left _ (List.mem_append_left _ (List.mem_append_left _ (List.mem_append_left _ (List.mem_of_getElem? (i := 5) rfl)))))))) (fun _ h9 => h9) rfl dX9_laws_60 ?_
  refine lv_iconst (v := 0) hx hb dX9_laws_63 (by decide) ?_
  refine va_put (D := D) (ci := 4) (v := .int 0) (ty := .boolean) (C := RX4) (T := TX4) (N := 9) hx hb hts hi4 tyX4 tyX4_ok nmX4 hown hG.1 hP hD hS 0 rfl rfl 0 (by decide) (hts (.fieldLink RX9 107 "SleptMatters$Plan" "isKnown" "Z") (List.mem_cons_of_mem _ (List.mem_append_left _ (List.mem_append_left _ (List.mem_append_left _ (List.mem_append_left _ (List.mem_append_left _ (List.mem_of_getElem? (i := 6) rfl)))))))) (fun _ h9 => h9) rfl (by decide +kernel) rfl rfl (Nat.le_of_ble_eq_true rfl) dX9_laws_64 (fun H locs hP hD hS => ?_)
  have hP : va_P D vwCl [(xp, .inr (4, [.int 0, .int 0, .ref od, .ref en, .ref te, .ref tk, .ref xr, .int 0, .int 0])), (xv, .inr (3, [.int 7, .int 4, .int 1, .int 0, .int 0])), (x, .inr (9, [.ref xt, .ref xc, .ref xi, .ref xk, .ref xb, .ref xr, .ref xp, .ref xo, .ref xl, .ref xm, .ref xv, .ref xw, .int (-1)])), (xt, .inr (7, [.ref xtb, .int 0, .int w2, .int w3, .int 0, .int (-1), .int w6, .int 0]))] H := hP
  have hD : va_D A [(xp, .inr (4, [.int 0, .int 0, .ref od, .ref en, .ref te, .ref tk, .ref xr, .int 0, .int 0])), (xv, .inr (3, [.int 7, .int 4, .int 1, .int 0, .int 0])), (x, .inr (9, [.ref xt, .ref xc, .ref xi, .ref xk, .ref xb, .ref xr, .ref xp, .ref xo, .ref xl, .ref xm, .ref xv, .ref xw, .int (-1)])), (xt, .inr (7, [.ref xtb, .int 0, .int w2, .int w3, .int 0, .int (-1), .int w6, .int 0]))] := hD
  refine lv_aload_n hx hb dX9_laws_67 rfl (lv_at hl 2 rfl) ?_
  refine va_get (D := D) (ci := 9) (v := .ref xv) (C := RX9) (T := TX9) (N := 13) hx hb hts hi9 hown hG.1 hP 2 rfl rfl 10 (by decide) (hts (.fieldLink RX9 51 "SleptMatters" "law" "LSleptMatters$Law;") (List.mem_cons_of_mem _ (List.mem_append_left _ (List.mem_append_left _ (List.mem_append_left _ (List.mem_append_left _ (List.mem_append_left _ (List.mem_of_getElem? (i := 4) rfl)))))))) (fun _ h9 => h9) rfl dX9_laws_68 ?_
  refine va_get (D := D) (ci := 3) (v := .int 0) (C := RX3) (T := TX3) (N := 5) hx hb hts hi3 hown hG.1 hP 1 rfl rfl 3 (by decide) (hts (.fieldLink RX9 121 "SleptMatters$Law" "clauses" "I") (List.mem_cons_of_mem _ (List.mem_append_left _ (List.mem_append_left _ (List.mem_append_left _ (List.mem_append_left _ (List.mem_append_left _ (List.mem_of_getElem? (i := 7) rfl)))))))) (fun _ h9 => h9) rfl dX9_laws_71 ?_
  have hP9 := hP.sub (ws' := []) [] rfl
  have hD9 := hD.sub (ws' := []) [] (by decide +kernel) rfl
  exact W.iret (v := 0) hx hb hr (fun t9 ht _ => ⟨⟨0, (), rfl, rfl, by rw [ht]; exact hP9, hD9⟩, hS.F ht⟩) hS.2.2 dX9_laws_74
