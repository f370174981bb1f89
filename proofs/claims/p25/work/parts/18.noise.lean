set_option maxRecDepth 20000 in
theorem ggX8_sumNoise_J7_fill_53178 : GoodIn wsX8_sumNoise wsJ7_fill_53178 := goodIn_r _ [6] rfl (by decide +kernel)
set_option maxRecDepth 20000 in
theorem gX8_sumNoise_J7_fill_53178 : GoodIn wsX8_sumNoise (va_wsS RX8 33 yJ7_fill_53178 wsJ7_fill_53178) := goodIn_app (goodIn_of _ (by decide +kernel)) ggX8_sumNoise_J7_fill_53178
set_option maxRecDepth 20000 in
theorem ggX8_sumNoise_X8_part : GoodIn wsX8_sumNoise wsX8_part := goodIn_r _ [11, 12, 13, 14, 15, 10, 16, 2, 17, 18, 19, 20, 21] rfl (by decide +kernel)
set_option maxRecDepth 20000 in
theorem gX8_sumNoise_X8_part : GoodIn wsX8_sumNoise (wsV RX8 120 RX8 yX8_part wsX8_part) := goodIn_app (goodIn_of _ (by decide +kernel)) ggX8_sumNoise_X8_part
theorem dX8_sumNoise_0 : decode cX8_sumNoise 0 = .ok (.aload_n 0, 1) := dc_Bk (by decide +kernel)
theorem dX8_sumNoise_1 : decode cX8_sumNoise 1 = .ok (.getfield 20, 3) := dc_Bk (by decide +kernel)
theorem dX8_sumNoise_4 : decode cX8_sumNoise 4 = .ok (.iconst 0, 1) := dc_Bk (by decide +kernel)
theorem dX8_sumNoise_5 : decode cX8_sumNoise 5 = .ok (.invokestatic 33, 3) := dc_Bk (by decide +kernel)
theorem dX8_sumNoise_8 : decode cX8_sumNoise 8 = .ok (.iconst 0, 1) := dc_Bk (by decide +kernel)
theorem dX8_sumNoise_9 : decode cX8_sumNoise 9 = .ok (.istore_n 1, 1) := dc_Bk (by decide +kernel)
theorem dX8_sumNoise_10 : decode cX8_sumNoise 10 = .ok (.iload_n 1, 1) := dc_Bk (by decide +kernel)
theorem dX8_sumNoise_11 : decode cX8_sumNoise 11 = .ok (.aload_n 0, 1) := dc_Bk (by decide +kernel)
theorem dX8_sumNoise_12 : decode cX8_sumNoise 12 = .ok (.getfield 9, 3) := dc_Bk (by decide +kernel)
theorem dX8_sumNoise_15 : decode cX8_sumNoise 15 = .ok (.iconst 2, 1) := dc_Bk (by decide +kernel)
theorem dX8_sumNoise_16 : decode cX8_sumNoise 16 = .ok (.iaload, 1) := dc_Bk (by decide +kernel)
theorem dX8_sumNoise_17 : decode cX8_sumNoise 17 = .ok (.if_icmp .ge 68, 3) := dc_Bk (by decide +kernel)
theorem dX8_sumNoise_20 : decode cX8_sumNoise 20 = .ok (.aload_n 0, 1) := dc_Bk (by decide +kernel)
theorem dX8_sumNoise_21 : decode cX8_sumNoise 21 = .ok (.iconst 2, 1) := dc_Bk (by decide +kernel)
theorem dX8_sumNoise_22 : decode cX8_sumNoise 22 = .ok (.iload_n 1, 1) := dc_Bk (by decide +kernel)
theorem dX8_sumNoise_23 : decode cX8_sumNoise 23 = .ok (.iconst 0, 1) := dc_Bk (by decide +kernel)
theorem dX8_sumNoise_24 : decode cX8_sumNoise 24 = .ok (.invokevirtual 120, 3) := dc_Bk (by decide +kernel)
theorem dX8_sumNoise_27 : decode cX8_sumNoise 27 = .ok (.bipush 100, 2) := dc_Bk (by decide +kernel)
theorem dX8_sumNoise_29 : decode cX8_sumNoise 29 = .ok (.imul, 1) := dc_Bk (by decide +kernel)
theorem dX8_sumNoise_30 : decode cX8_sumNoise 30 = .ok (.istore_n 2, 1) := dc_Bk (by decide +kernel)
theorem dX8_sumNoise_31 : decode cX8_sumNoise 31 = .ok (.aload_n 0, 1) := dc_Bk (by decide +kernel)
theorem dX8_sumNoise_32 : decode cX8_sumNoise 32 = .ok (.iconst 2, 1) := dc_Bk (by decide +kernel)
theorem dX8_sumNoise_33 : decode cX8_sumNoise 33 = .ok (.iload_n 1, 1) := dc_Bk (by decide +kernel)
theorem dX8_sumNoise_34 : decode cX8_sumNoise 34 = .ok (.iconst 2, 1) := dc_Bk (by decide +kernel)
theorem dX8_sumNoise_35 : decode cX8_sumNoise 35 = .ok (.invokevirtual 120, 3) := dc_Bk (by decide +kernel)
theorem dX8_sumNoise_38 : decode cX8_sumNoise 38 = .ok (.istore_n 3, 1) := dc_Bk (by decide +kernel)
theorem dX8_sumNoise_39 : decode cX8_sumNoise 39 = .ok (.aload_n 0, 1) := dc_Bk (by decide +kernel)
theorem dX8_sumNoise_40 : decode cX8_sumNoise 40 = .ok (.iconst 2, 1) := dc_Bk (by decide +kernel)
theorem dX8_sumNoise_41 : decode cX8_sumNoise 41 = .ok (.iload_n 1, 1) := dc_Bk (by decide +kernel)
theorem dX8_sumNoise_42 : decode cX8_sumNoise 42 = .ok (.iconst 1, 1) := dc_Bk (by decide +kernel)
theorem dX8_sumNoise_43 : decode cX8_sumNoise 43 = .ok (.invokevirtual 120, 3) := dc_Bk (by decide +kernel)
theorem dX8_sumNoise_46 : decode cX8_sumNoise 46 = .ok (.istore 4, 2) := dc_Bk (by decide +kernel)
theorem dX8_sumNoise_48 : decode cX8_sumNoise 48 = .ok (.iload 4, 2) := dc_Bk (by decide +kernel)
theorem dX8_sumNoise_50 : decode cX8_sumNoise 50 = .ok (.iload_n 3, 1) := dc_Bk (by decide +kernel)
theorem dX8_sumNoise_51 : decode cX8_sumNoise 51 = .ok (.if_icmp .gt 28, 3) := dc_Bk (by decide +kernel)
theorem dX8_sumNoise_54 : decode cX8_sumNoise 54 = .ok (.aload_n 0, 1) := dc_Bk (by decide +kernel)
theorem dX8_sumNoise_55 : decode cX8_sumNoise 55 = .ok (.getfield 20, 3) := dc_Bk (by decide +kernel)
theorem dX8_sumNoise_58 : decode cX8_sumNoise 58 = .ok (.iload_n 2, 1) := dc_Bk (by decide +kernel)
theorem dX8_sumNoise_59 : decode cX8_sumNoise 59 = .ok (.iload 4, 2) := dc_Bk (by decide +kernel)
theorem dX8_sumNoise_61 : decode cX8_sumNoise 61 = .ok (.iadd, 1) := dc_Bk (by decide +kernel)
theorem dX8_sumNoise_62 : decode cX8_sumNoise 62 = .ok (.dup2, 1) := dc_Bk (by decide +kernel)
theorem dX8_sumNoise_63 : decode cX8_sumNoise 63 = .ok (.iaload, 1) := dc_Bk (by decide +kernel)
theorem dX8_sumNoise_64 : decode cX8_sumNoise 64 = .ok (.aload_n 0, 1) := dc_Bk (by decide +kernel)
theorem dX8_sumNoise_65 : decode cX8_sumNoise 65 = .ok (.iconst 2, 1) := dc_Bk (by decide +kernel)
theorem dX8_sumNoise_66 : decode cX8_sumNoise 66 = .ok (.iload_n 1, 1) := dc_Bk (by decide +kernel)
theorem dX8_sumNoise_67 : decode cX8_sumNoise 67 = .ok (.iconst 3, 1) := dc_Bk (by decide +kernel)
theorem dX8_sumNoise_68 : decode cX8_sumNoise 68 = .ok (.invokevirtual 120, 3) := dc_Bk (by decide +kernel)
theorem dX8_sumNoise_71 : decode cX8_sumNoise 71 = .ok (.iadd, 1) := dc_Bk (by decide +kernel)
theorem dX8_sumNoise_72 : decode cX8_sumNoise 72 = .ok (.iastore, 1) := dc_Bk (by decide +kernel)
theorem dX8_sumNoise_73 : decode cX8_sumNoise 73 = .ok (.iinc 4 1, 3) := dc_Bk (by decide +kernel)
theorem dX8_sumNoise_76 : decode cX8_sumNoise 76 = .ok (.goto (-28), 3) := dc_Bk (by decide +kernel)
theorem dX8_sumNoise_79 : decode cX8_sumNoise 79 = .ok (.iinc 1 1, 3) := dc_Bk (by decide +kernel)
theorem dX8_sumNoise_82 : decode cX8_sumNoise 82 = .ok (.goto (-72), 3) := dc_Bk (by decide +kernel)
theorem dX8_sumNoise_85 : decode cX8_sumNoise 85 = .ok (.return_, 1) := dc_Bk (by decide +kernel)
set_option maxRecDepth 20000 in
theorem ggX8_findCalm_X8_isWoken : GoodIn wsX8_findCalm wsX8_isWoken := goodIn_r _ [7, 8, 9, 10, 6, 11, 12, 13, 14, 15, 16, 1, 17, 18, 19, 20, 21, 22, 23, 24, 25, 26] rfl (by decide +kernel)
set_option maxRecDepth 20000 in
theorem gX8_findCalm_X8_isWoken : GoodIn wsX8_findCalm (wsV RX8 124 RX8 yX8_isWoken wsX8_isWoken) := goodIn_app (goodIn_of _ (by decide +kernel)) ggX8_findCalm_X8_isWoken
theorem dX8_findCalm_0 : decode cX8_findCalm 0 = .ok (.iconst 0, 1) := dc_Bk (by decide +kernel)
theorem dX8_findCalm_1 : decode cX8_findCalm 1 = .ok (.istore_n 1, 1) := dc_Bk (by decide +kernel)
theorem dX8_findCalm_2 : decode cX8_findCalm 2 = .ok (.iload_n 1, 1) := dc_Bk (by decide +kernel)
theorem dX8_findCalm_3 : decode cX8_findCalm 3 = .ok (.bipush 100, 2) := dc_Bk (by decide +kernel)
theorem dX8_findCalm_5 : decode cX8_findCalm 5 = .ok (.if_icmp .ge 79, 3) := dc_Bk (by decide +kernel)
theorem dX8_findCalm_8 : decode cX8_findCalm 8 = .ok (.iconst 0, 1) := dc_Bk (by decide +kernel)
theorem dX8_findCalm_9 : decode cX8_findCalm 9 = .ok (.istore_n 2, 1) := dc_Bk (by decide +kernel)
theorem dX8_findCalm_10 : decode cX8_findCalm 10 = .ok (.iload_n 2, 1) := dc_Bk (by decide +kernel)
theorem dX8_findCalm_11 : decode cX8_findCalm 11 = .ok (.aload_n 0, 1) := dc_Bk (by decide +kernel)
theorem dX8_findCalm_12 : decode cX8_findCalm 12 = .ok (.getfield 9, 3) := dc_Bk (by decide +kernel)
theorem dX8_findCalm_15 : decode cX8_findCalm 15 = .ok (.iconst 1, 1) := dc_Bk (by decide +kernel)
theorem dX8_findCalm_16 : decode cX8_findCalm 16 = .ok (.iaload, 1) := dc_Bk (by decide +kernel)
theorem dX8_findCalm_17 : decode cX8_findCalm 17 = .ok (.if_icmp .ge 61, 3) := dc_Bk (by decide +kernel)
theorem dX8_findCalm_20 : decode cX8_findCalm 20 = .ok (.iconst 0, 1) := dc_Bk (by decide +kernel)
theorem dX8_findCalm_21 : decode cX8_findCalm 21 = .ok (.istore_n 3, 1) := dc_Bk (by decide +kernel)
theorem dX8_findCalm_22 : decode cX8_findCalm 22 = .ok (.iconst 0, 1) := dc_Bk (by decide +kernel)
theorem dX8_findCalm_23 : decode cX8_findCalm 23 = .ok (.istore 4, 2) := dc_Bk (by decide +kernel)
theorem dX8_findCalm_25 : decode cX8_findCalm 25 = .ok (.iload 4, 2) := dc_Bk (by decide +kernel)
theorem dX8_findCalm_27 : decode cX8_findCalm 27 = .ok (.aload_n 0, 1) := dc_Bk (by decide +kernel)
theorem dX8_findCalm_28 : decode cX8_findCalm 28 = .ok (.getfield 9, 3) := dc_Bk (by decide +kernel)
theorem dX8_findCalm_31 : decode cX8_findCalm 31 = .ok (.iconst 0, 1) := dc_Bk (by decide +kernel)
theorem dX8_findCalm_32 : decode cX8_findCalm 32 = .ok (.iaload, 1) := dc_Bk (by decide +kernel)
theorem dX8_findCalm_33 : decode cX8_findCalm 33 = .ok (.if_icmp .ge 27, 3) := dc_Bk (by decide +kernel)
theorem dX8_findCalm_36 : decode cX8_findCalm 36 = .ok (.aload_n 0, 1) := dc_Bk (by decide +kernel)
theorem dX8_findCalm_37 : decode cX8_findCalm 37 = .ok (.iload_n 2, 1) := dc_Bk (by decide +kernel)
theorem dX8_findCalm_38 : decode cX8_findCalm 38 = .ok (.iload 4, 2) := dc_Bk (by decide +kernel)
theorem dX8_findCalm_40 : decode cX8_findCalm 40 = .ok (.iload_n 1, 1) := dc_Bk (by decide +kernel)
theorem dX8_findCalm_41 : decode cX8_findCalm 41 = .ok (.invokevirtual 124, 3) := dc_Bk (by decide +kernel)
theorem dX8_findCalm_44 : decode cX8_findCalm 44 = .ok (.ifCond .ne 10, 3) := dc_Bk (by decide +kernel)
theorem dX8_findCalm_47 : decode cX8_findCalm 47 = .ok (.iload_n 3, 1) := dc_Bk (by decide +kernel)
theorem dX8_findCalm_48 : decode cX8_findCalm 48 = .ok (.iconst 1, 1) := dc_Bk (by decide +kernel)
theorem dX8_findCalm_49 : decode cX8_findCalm 49 = .ok (.iload 4, 2) := dc_Bk (by decide +kernel)
theorem dX8_findCalm_51 : decode cX8_findCalm 51 = .ok (.ishl, 1) := dc_Bk (by decide +kernel)
theorem dX8_findCalm_52 : decode cX8_findCalm 52 = .ok (.ior, 1) := dc_Bk (by decide +kernel)
theorem dX8_findCalm_53 : decode cX8_findCalm 53 = .ok (.istore_n 3, 1) := dc_Bk (by decide +kernel)
theorem dX8_findCalm_54 : decode cX8_findCalm 54 = .ok (.iinc 4 1, 3) := dc_Bk (by decide +kernel)
theorem dX8_findCalm_57 : decode cX8_findCalm 57 = .ok (.goto (-32), 3) := dc_Bk (by decide +kernel)
theorem dX8_findCalm_60 : decode cX8_findCalm 60 = .ok (.aload_n 0, 1) := dc_Bk (by decide +kernel)
theorem dX8_findCalm_61 : decode cX8_findCalm 61 = .ok (.getfield 23, 3) := dc_Bk (by decide +kernel)
theorem dX8_findCalm_64 : decode cX8_findCalm 64 = .ok (.iload_n 1, 1) := dc_Bk (by decide +kernel)
theorem dX8_findCalm_65 : decode cX8_findCalm 65 = .ok (.bipush 7, 2) := dc_Bk (by decide +kernel)
theorem dX8_findCalm_67 : decode cX8_findCalm 67 = .ok (.imul, 1) := dc_Bk (by decide +kernel)
theorem dX8_findCalm_68 : decode cX8_findCalm 68 = .ok (.iload_n 2, 1) := dc_Bk (by decide +kernel)
theorem dX8_findCalm_69 : decode cX8_findCalm 69 = .ok (.iadd, 1) := dc_Bk (by decide +kernel)
theorem dX8_findCalm_70 : decode cX8_findCalm 70 = .ok (.iload_n 3, 1) := dc_Bk (by decide +kernel)
theorem dX8_findCalm_71 : decode cX8_findCalm 71 = .ok (.iastore, 1) := dc_Bk (by decide +kernel)
theorem dX8_findCalm_72 : decode cX8_findCalm 72 = .ok (.iinc 2 1, 3) := dc_Bk (by decide +kernel)
theorem dX8_findCalm_75 : decode cX8_findCalm 75 = .ok (.goto (-65), 3) := dc_Bk (by decide +kernel)
theorem dX8_findCalm_78 : decode cX8_findCalm 78 = .ok (.iinc 1 1, 3) := dc_Bk (by decide +kernel)
theorem dX8_findCalm_81 : decode cX8_findCalm 81 = .ok (.goto (-79), 3) := dc_Bk (by decide +kernel)
theorem dX8_findCalm_84 : decode cX8_findCalm 84 = .ok (.return_, 1) := dc_Bk (by decide +kernel)
theorem dX8_isLikeTheDayAhead_0 : decode cX8_isLikeTheDayAhead 0 = .ok (.iload_n 1, 1) := dc_Bk (by decide +kernel)
theorem dX8_isLikeTheDayAhead_1 : decode cX8_isLikeTheDayAhead 1 = .ok (.bipush 7, 2) := dc_Bk (by decide +kernel)
theorem dX8_isLikeTheDayAhead_3 : decode cX8_isLikeTheDayAhead 3 = .ok (.imul, 1) := dc_Bk (by decide +kernel)
theorem dX8_isLikeTheDayAhead_4 : decode cX8_isLikeTheDayAhead 4 = .ok (.istore_n 2, 1) := dc_Bk (by decide +kernel)
theorem dX8_isLikeTheDayAhead_5 : decode cX8_isLikeTheDayAhead 5 = .ok (.iconst 0, 1) := dc_Bk (by decide +kernel)
theorem dX8_isLikeTheDayAhead_6 : decode cX8_isLikeTheDayAhead 6 = .ok (.istore_n 3, 1) := dc_Bk (by decide +kernel)
theorem dX8_isLikeTheDayAhead_7 : decode cX8_isLikeTheDayAhead 7 = .ok (.iload_n 3, 1) := dc_Bk (by decide +kernel)
theorem dX8_isLikeTheDayAhead_8 : decode cX8_isLikeTheDayAhead 8 = .ok (.aload_n 0, 1) := dc_Bk (by decide +kernel)
theorem dX8_isLikeTheDayAhead_9 : decode cX8_isLikeTheDayAhead 9 = .ok (.getfield 9, 3) := dc_Bk (by decide +kernel)
theorem dX8_isLikeTheDayAhead_12 : decode cX8_isLikeTheDayAhead 12 = .ok (.iconst 1, 1) := dc_Bk (by decide +kernel)
theorem dX8_isLikeTheDayAhead_13 : decode cX8_isLikeTheDayAhead 13 = .ok (.iaload, 1) := dc_Bk (by decide +kernel)
theorem dX8_isLikeTheDayAhead_14 : decode cX8_isLikeTheDayAhead 14 = .ok (.if_icmp .ge 33, 3) := dc_Bk (by decide +kernel)
theorem dX8_isLikeTheDayAhead_17 : decode cX8_isLikeTheDayAhead 17 = .ok (.aload_n 0, 1) := dc_Bk (by decide +kernel)
theorem dX8_isLikeTheDayAhead_18 : decode cX8_isLikeTheDayAhead 18 = .ok (.getfield 23, 3) := dc_Bk (by decide +kernel)
theorem dX8_isLikeTheDayAhead_21 : decode cX8_isLikeTheDayAhead 21 = .ok (.iload_n 2, 1) := dc_Bk (by decide +kernel)
theorem dX8_isLikeTheDayAhead_22 : decode cX8_isLikeTheDayAhead 22 = .ok (.iload_n 3, 1) := dc_Bk (by decide +kernel)
theorem dX8_isLikeTheDayAhead_23 : decode cX8_isLikeTheDayAhead 23 = .ok (.iadd, 1) := dc_Bk (by decide +kernel)
theorem dX8_isLikeTheDayAhead_24 : decode cX8_isLikeTheDayAhead 24 = .ok (.iaload, 1) := dc_Bk (by decide +kernel)
theorem dX8_isLikeTheDayAhead_25 : decode cX8_isLikeTheDayAhead 25 = .ok (.aload_n 0, 1) := dc_Bk (by decide +kernel)
theorem dX8_isLikeTheDayAhead_26 : decode cX8_isLikeTheDayAhead 26 = .ok (.getfield 23, 3) := dc_Bk (by decide +kernel)
theorem dX8_isLikeTheDayAhead_29 : decode cX8_isLikeTheDayAhead 29 = .ok (.iload_n 2, 1) := dc_Bk (by decide +kernel)
theorem dX8_isLikeTheDayAhead_30 : decode cX8_isLikeTheDayAhead 30 = .ok (.bipush 7, 2) := dc_Bk (by decide +kernel)
theorem dX8_isLikeTheDayAhead_32 : decode cX8_isLikeTheDayAhead 32 = .ok (.isub, 1) := dc_Bk (by decide +kernel)
theorem dX8_isLikeTheDayAhead_33 : decode cX8_isLikeTheDayAhead 33 = .ok (.iload_n 3, 1) := dc_Bk (by decide +kernel)
theorem dX8_isLikeTheDayAhead_34 : decode cX8_isLikeTheDayAhead 34 = .ok (.iadd, 1) := dc_Bk (by decide +kernel)
theorem dX8_isLikeTheDayAhead_35 : decode cX8_isLikeTheDayAhead 35 = .ok (.iaload, 1) := dc_Bk (by decide +kernel)
theorem dX8_isLikeTheDayAhead_36 : decode cX8_isLikeTheDayAhead 36 = .ok (.if_icmp .eq 5, 3) := dc_Bk (by decide +kernel)
theorem dX8_isLikeTheDayAhead_39 : decode cX8_isLikeTheDayAhead 39 = .ok (.iconst 0, 1) := dc_Bk (by decide +kernel)
theorem dX8_isLikeTheDayAhead_40 : decode cX8_isLikeTheDayAhead 40 = .ok (.ireturn, 1) := dc_Bk (by decide +kernel)
theorem dX8_isLikeTheDayAhead_41 : decode cX8_isLikeTheDayAhead 41 = .ok (.iinc 3 1, 3) := dc_Bk (by decide +kernel)
theorem dX8_isLikeTheDayAhead_44 : decode cX8_isLikeTheDayAhead 44 = .ok (.goto (-37), 3) := dc_Bk (by decide +kernel)
theorem dX8_isLikeTheDayAhead_47 : decode cX8_isLikeTheDayAhead 47 = .ok (.iconst 1, 1) := dc_Bk (by decide +kernel)
theorem dX8_isLikeTheDayAhead_48 : decode cX8_isLikeTheDayAhead 48 = .ok (.ireturn, 1) := dc_Bk (by decide +kernel)
set_option maxRecDepth 20000 in
theorem ggX8_countAlike_X8_isLikeTheDayAhead : GoodIn wsX8_countAlike wsX8_isLikeTheDayAhead := goodIn_r _ [6, 7, 8, 9, 10, 11, 12, 13] rfl (by decide +kernel)
set_option maxRecDepth 20000 in
theorem gX8_countAlike_X8_isLikeTheDayAhead : GoodIn wsX8_countAlike (wsV RX8 128 RX8 yX8_isLikeTheDayAhead wsX8_isLikeTheDayAhead) := goodIn_app (goodIn_of _ (by decide +kernel)) ggX8_countAlike_X8_isLikeTheDayAhead
theorem dX8_countAlike_0 : decode cX8_countAlike 0 = .ok (.iconst 0, 1) := dc_Bk (by decide +kernel)
theorem dX8_countAlike_1 : decode cX8_countAlike 1 = .ok (.istore_n 1, 1) := dc_Bk (by decide +kernel)
theorem dX8_countAlike_2 : decode cX8_countAlike 2 = .ok (.iload_n 1, 1) := dc_Bk (by decide +kernel)
theorem dX8_countAlike_3 : decode cX8_countAlike 3 = .ok (.bipush 100, 2) := dc_Bk (by decide +kernel)
theorem dX8_countAlike_5 : decode cX8_countAlike 5 = .ok (.if_icmp .ge 41, 3) := dc_Bk (by decide +kernel)
theorem dX8_countAlike_8 : decode cX8_countAlike 8 = .ok (.aload_n 0, 1) := dc_Bk (by decide +kernel)
theorem dX8_countAlike_9 : decode cX8_countAlike 9 = .ok (.getfield 26, 3) := dc_Bk (by decide +kernel)
theorem dX8_countAlike_12 : decode cX8_countAlike 12 = .ok (.iload_n 1, 1) := dc_Bk (by decide +kernel)
theorem dX8_countAlike_13 : decode cX8_countAlike 13 = .ok (.iload_n 1, 1) := dc_Bk (by decide +kernel)
theorem dX8_countAlike_14 : decode cX8_countAlike 14 = .ok (.ifCond .le 24, 3) := dc_Bk (by decide +kernel)
theorem dX8_countAlike_17 : decode cX8_countAlike 17 = .ok (.aload_n 0, 1) := dc_Bk (by decide +kernel)
theorem dX8_countAlike_18 : decode cX8_countAlike 18 = .ok (.iload_n 1, 1) := dc_Bk (by decide +kernel)
theorem dX8_countAlike_19 : decode cX8_countAlike 19 = .ok (.invokevirtual 128, 3) := dc_Bk (by decide +kernel)
theorem dX8_countAlike_22 : decode cX8_countAlike 22 = .ok (.ifCond .eq 16, 3) := dc_Bk (by decide +kernel)
theorem dX8_countAlike_25 : decode cX8_countAlike 25 = .ok (.aload_n 0, 1) := dc_Bk (by decide +kernel)
theorem dX8_countAlike_26 : decode cX8_countAlike 26 = .ok (.getfield 26, 3) := dc_Bk (by decide +kernel)
theorem dX8_countAlike_29 : decode cX8_countAlike 29 = .ok (.iload_n 1, 1) := dc_Bk (by decide +kernel)
theorem dX8_countAlike_30 : decode cX8_countAlike 30 = .ok (.iconst 1, 1) := dc_Bk (by decide +kernel)
theorem dX8_countAlike_31 : decode cX8_countAlike 31 = .ok (.isub, 1) := dc_Bk (by decide +kernel)
theorem dX8_countAlike_32 : decode cX8_countAlike 32 = .ok (.iaload, 1) := dc_Bk (by decide +kernel)
theorem dX8_countAlike_33 : decode cX8_countAlike 33 = .ok (.iconst 1, 1) := dc_Bk (by decide +kernel)
theorem dX8_countAlike_34 : decode cX8_countAlike 34 = .ok (.iadd, 1) := dc_Bk (by decide +kernel)
theorem dX8_countAlike_35 : decode cX8_countAlike 35 = .ok (.goto 4, 3) := dc_Bk (by decide +kernel)
theorem dX8_countAlike_38 : decode cX8_countAlike 38 = .ok (.iconst 1, 1) := dc_Bk (by decide +kernel)
theorem dX8_countAlike_39 : decode cX8_countAlike 39 = .ok (.iastore, 1) := dc_Bk (by decide +kernel)
theorem dX8_countAlike_40 : decode cX8_countAlike 40 = .ok (.iinc 1 1, 3) := dc_Bk (by decide +kernel)
theorem dX8_countAlike_43 : decode cX8_countAlike 43 = .ok (.goto (-41), 3) := dc_Bk (by decide +kernel)
theorem dX8_countAlike_46 : decode cX8_countAlike 46 = .ok (.return_, 1) := dc_Bk (by decide +kernel)
def adI (lf : Nat → Int32) (s9 : Nat) (v : Int32) : Nat → Nat → Int32
  | 0 => lf
  | j + 1 => upd (adI lf s9 v j) (s9 + j) (adI lf s9 v j (s9 + j) + v)
theorem adI_s {lf : Nat → Int32} {s9 a9 j : Nat} {v : Int32} : upd (adI lf (s9 + a9) v j) (s9 + (a9 + j)) (adI lf (s9 + a9) v j (s9 + (a9 + j)) + v) = adI lf (s9 + a9) v (j + 1) := by
  rw [← Nat.add_assoc]; rfl
def cl9 (x : Int32) : Nat := x.toNatClampNeg
def snI (lf G2 : Nat → Int32) : Nat → Nat → Int32
  | 0 => fl_i lf 0 400
  | i + 1 => adI (snI lf G2 i) (cl9 (G2 (i * 4 + 0)) * 100 + cl9 (G2 (i * 4 + 1))) (G2 (i * 4 + 3)) (cl9 (G2 (i * 4 + 2)) + 1 - cl9 (G2 (i * 4 + 1)))
theorem sn_s {lf G2 : Nat → Int32} {i s9 a9 b9 j : Nat} (hs : s9 ≤ 3) (ha : a9 ≤ 99) (hb : b9 ≤ 99) (hj : j = b9 + 1 - a9) (es : G2 (i * 4 + 0) = nI s9) (ea : G2 (i * 4 + 1) = nI a9) (eb : G2 (i * 4 + 2) = nI b9) : adI (snI lf G2 i) (s9 * 100 + a9) (G2 (i * 4 + 3)) j = snI lf G2 (i + 1) := by
  rw [snI, es, ea, eb]
  unfold cl9
  rw [nI_clamp (n := s9) (by omega), nI_clamp (n := a9) (by omega), nI_clamp (n := b9) (by omega), hj]
def clS (q : Nat → Nat) (G0 G1 lf : Nat → Int32) (d s9 : Nat) : Nat → Int32
  | 0 => 0
  | j + 1 => if wkA lf (pt (q 0) G0 (nI j) 0) (nI d) (pt (q 1) G1 (nI s9) 0) = 0 then clS q G0 G1 lf d s9 j ||| ((1 : Int32) <<< (nI j &&& 31)) else clS q G0 G1 lf d s9 j
def fcI (q : Nat → Nat) (G0 G1 lf cf : Nat → Int32) (d : Nat) : Nat → Nat → Int32
  | 0 => cf
  | j + 1 => upd (fcI q G0 G1 lf cf d j) (d * 7 + j) (clS q G0 G1 lf d j (q 0))
def fcO (q : Nat → Nat) (G0 G1 lf cf : Nat → Int32) : Nat → Nat → Int32
  | 0 => cf
  | d + 1 => fcI q G0 G1 lf (fcO q G0 G1 lf cf d) d (q 1)
def ilP (cf : Nat → Int32) (d : Nat) : Nat → Bool := fun j => decide (cf (d * 7 + j) = cf (d * 7 - 7 + j))
def ilA (q : Nat → Nat) (cf : Nat → Int32) (d : Nat) : Int32 := if rn (ilP cf d) (q 1) 0 = q 1 then 1 else 0
def caV (q : Nat → Nat) (cf : Nat → Int32) (d p : Nat) : Nat := if d = 0 then 1 else if ilA q cf d = 0 then 1 else p + 1
def caI (q : Nat → Nat) (cf : Nat → Int32) (al : Nat → Nat) : Nat → Nat → Nat
  | 0 => al
  | d + 1 => updN (caI q cf al d) d (caV q cf d (caI q cf al d (d - 1)))
theorem ca_s {q : Nat → Nat} {cf : Nat → Int32} {al : Nat → Nat} {d v : Nat} {x : Int32} (hx : x = nI v) (hv : caV q cf d (caI q cf al d (d - 1)) = v) : upd (cI (caI q cf al d)) d x = cI (caI q cf al (d + 1)) := by
  rw [hx, cI_upd, caI, hv]
theorem ca_le {q : Nat → Nat} {cf : Nat → Int32} {al : Nat → Nat} : ∀ d j : Nat, j < d → caI q cf al d j ≤ j + 1
  | 0, j, h => absurd h (Nat.not_lt_zero j)
  | d + 1, j, h => by
    rw [caI]
    by_cases hj : j = d
    · rw [hj, up_s]
      unfold caV
      split
      · omega
      · split
        · omega
        · have := ca_le d (d - 1) (by omega) (q := q) (cf := cf) (al := al)
          omega
    · rw [up_n hj]
      exact ca_le d j (by omega)

abbrev c_X8_sumNoise (k : Nat → ClassId) (h : Nat) (t : Nat) (tn : Nat) (tl : Nat) (tc : Nat) (ta : Nat) (rw : Nat → Nat) (q : Nat → Nat) (G2 : Nat → Int32) (lf : Nat → Int32) : va_W := [(h, .inr (8, [.ref t, .ref tn, .ref tl, .ref tc, .ref ta])), (t, .inl (k 0, 4, .inl (cI q))), (tn, .inl (k 4, 4, .inr (.inr (.inr (.inr (gr4 rw)))))), ((rw 2), .inl (k 0, 80, .inl G2)), (tl, .inl (k 0, 400, .inl lf))]
abbrev r_X8_sumNoise : Room := { frames := 2, cells := 0, slots := 0, locals := 45 }
def w_X8_sumNoise (k : Nat → ClassId) (h : Nat) (t : Nat) (tn : Nat) (tl : Nat) (tc : Nat) (ta : Nat) (rw : Nat → Nat) (q : Nat → Nat) (G2 : Nat → Int32) (lf : Nat → Int32) : Unit → va_W := fun _ => [(h, .inr (8, [.ref t, .ref tn, .ref tl, .ref tc, .ref ta])), (t, .inl (k 0, 4, .inl (cI q))), (tn, .inl (k 4, 4, .inr (.inr (.inr (.inr (gr4 rw)))))), ((rw 2), .inl (k 0, 80, .inl G2)), (tl, .inl (k 0, 400, .inl (snI lf G2 (q 2))))]
def p_X8_sumNoise (k : Nat → ClassId) (h : Nat) (t : Nat) (tn : Nat) (tl : Nat) (tc : Nat) (ta : Nat) (rw : Nat → Nat) (q : Nat → Nat) (G2 : Nat → Int32) (lf : Nat → Int32) : Unit → Prop := fun (u : Unit) => True
abbrev q_X8_sumNoise (D : va_G) (k : Nat → ClassId) (h : Nat) (t : Nat) (tn : Nat) (tl : Nat) (tc : Nat) (ta : Nat) (rw : Nat → Nat) (q : Nat → Nat) (G2 : Nat → Int32) (lf : Nat → Int32) (A : Nat → Prop) : Array Value → State → Outcome → State → Prop := va_Qv (p_X8_sumNoise k h t tn tl tc ta rw q G2 lf) (fun u9 t9 => BO D (w_X8_sumNoise k h t tn tl tc ta rw q G2 lf u9) A t9) A
set_option maxHeartbeats 2000000 in
set_option maxRecDepth 100000 in
theorem X8_sumNoise (l : Launch) (D : va_G) (k : Nat → ClassId) (sz : Nat) (h : Nat) (t : Nat) (tn : Nat) (tl : Nat) (tc : Nat) (ta : Nat) (rw : Nat → Nat) (q : Nat → Nat) (G2 : Nat → Int32) (lf : Nat → Int32) (hq2 : q 2 ≤ 20) (hNB : NBr 2 4 (q 2) G2) : Met l yX8_sumNoise wsX8_sumNoise r_X8_sumNoise (va_Pc [.ref h] (PR D k (c_X8_sumNoise k h t tn tl tc ta rw q G2 lf) sz)) (q_X8_sumNoise D k h t tn tl tc ta rw q G2 lf (va_A (c_X8_sumNoise k h t tn tl tc ta rw q G2 lf) sz)) 0 0 (va_A (c_X8_sumNoise k h t tn tl tc ta rw q G2 lf) sz) := by
  refine Met.ofW (cc := cX8_sumNoise) (maxL := 5) (ret := none) (by decide) rfl ?_
  intro p e s m args below meth c s₁ B hml hv
  obtain ⟨rfl, hsz, hP, hG, hD0⟩ := hv
  have hx := B.exec
  have hb := B.bytes
  have hr := B.returns
  have hts := atoms_spec (ws := wsX8_sumNoise) B.pre
  have hown : s.vm.findClass RX8 = some m.cls := findClass_of_methodNamed B.named
  have hlocks := B.notSynchronized
  have hi8 : ∀ w ∈ wsX80, w ∈ wsX8_sumNoise := fun _ h => List.mem_cons_of_mem _ (List.mem_append_right _ h)
  subst hsz
  have hD := hD0.self (sz := s.heap.size)
  generalize hAe : va_A (c_X8_sumNoise k h t tn tl tc ta rw q G2 lf) s.heap.size = A at hD ⊢
  have hA : ∀ q : Nat, s.heap.size ≤ q → A q := fun q h => by rw [← hAe]; exact Or.inr h
  have hS : va_S A s.heap s.heap [] := va_S.rf
  have hP : va_P D vwCl [(h, .inr (8, [.ref t, .ref tn, .ref tl, .ref tc, .ref ta])), (t, .inl (k 0, 4, .inl (cI q))), (tn, .inl (k 4, 4, .inr (.inr (.inr (.inr (gr4 rw)))))), ((rw 2), .inl (k 0, 80, .inl G2)), (tl, .inl (k 0, 400, .inl lf))] s.heap := hP
  have hD : va_D A [(h, .inr (8, [.ref t, .ref tn, .ref tl, .ref tc, .ref ta])), (t, .inl (k 0, 4, .inl (cI q))), (tn, .inl (k 4, 4, .inr (.inr (.inr (.inr (gr4 rw)))))), ((rw 2), .inl (k 0, 80, .inl G2)), (tl, .inl (k 0, 400, .inl lf))] := hD
  have hl := lv_entry ([.ref h]) (n := 5) (Nat.le_of_ble_eq_true rfl)
  rw [lg_entry_eq]
  generalize (lg_sl ([.ref h]) ++ List.replicate (5 - (lg_sl ([.ref h])).length) Slot.unset).toArray = ls at hl ⊢
  have hl : lv_has ls 5 [(0, .ref h)] := hl
  refine lv_aload_n hx hb dX8_sumNoise_0 rfl (lv_at hl 0 rfl) ?_
  refine va_get (D := D) (ci := 8) (v := .ref tl) (C := RX8) (T := TX8) (N := 5) hx hb hts hi8 hown hG.1 hP 0 rfl rfl 2 (by decide) (hts (.fieldLink RX8 20 "SleptMatters$Town" "loudness" "[I") (List.mem_cons_of_mem _ (List.mem_append_left _ (List.mem_of_getElem? (i := 0) rfl)))) (fun _ h9 => h9) rfl dX8_sumNoise_1 ?_
  refine lv_iconst (v := 0) hx hb dX8_sumNoise_4 (by decide) ?_
  have hPc := hP.sub (ws' := (c_fillI k tl 400 lf 0)) [4] rfl
  have hDc := hD.sub (ws' := (c_fillI k tl 400 lf 0)) [4] (by decide +kernel) rfl
  refine cl_v (w1 := w_fillI k tl 400 lf 0) (wr := [(h, .inr (8, [.ref t, .ref tn, .ref tl, .ref tc, .ref ta])), (t, .inl (k 0, 4, .inl (cI q))), (tn, .inl (k 4, 4, .inr (.inr (.inr (.inr (gr4 rw)))))), ((rw 2), .inl (k 0, 80, .inl G2))]) (va_runS (As := [.ref tl, .int 0]) (rest := []) ⟨hx, hb, hml, hown, hts⟩ (fillI l D k s.heap.size tl 400 lf 0 (by decide)) (va_cwS 2 hts gX8_sumNoise_J7_fill_53178 rfl rfl rfl (by decide +kernel) ⟨Nat.le_of_ble_eq_true rfl, Nat.le_of_ble_eq_true rfl⟩) ⟨PR.blind _ _ _ _ _, PR.pre hPc hDc hG [.ref tl, .int 0]⟩ rfl rfl hl.1 rfl (lv_room (Nat.le_of_ble_eq_true rfl)) dX8_sumNoise_5 ⟨Nat.le_of_ble_eq_true rfl, Nat.le_of_ble_eq_true rfl⟩) hP hD hS hA [4] [0, 1, 2, 3] rfl rfl (by decide +kernel) (by decide +kernel) (fun u H locs hq hP hD hS => ?_)
  cases u
  have hP : va_P D vwCl [(h, .inr (8, [.ref t, .ref tn, .ref tl, .ref tc, .ref ta])), (t, .inl (k 0, 4, .inl (cI q))), (tn, .inl (k 4, 4, .inr (.inr (.inr (.inr (gr4 rw)))))), ((rw 2), .inl (k 0, 80, .inl G2)), (tl, .inl (k 0, 400, .inl (fl_i lf 0 400)))] H := hP
  have hD : va_D A [(h, .inr (8, [.ref t, .ref tn, .ref tl, .ref tc, .ref ta])), (t, .inl (k 0, 4, .inl (cI q))), (tn, .inl (k 4, 4, .inr (.inr (.inr (.inr (gr4 rw)))))), ((rw 2), .inl (k 0, 80, .inl G2)), (tl, .inl (k 0, 400, .inl (fl_i lf 0 400)))] := hD
  refine lv_iconst (v := 0) hx hb dX8_sumNoise_8 (by decide) ?_
  refine lv_istore_n (lv' := [(1, .int 0), (0, .ref h)]) hx hb dX8_sumNoise_9 rfl hl (by decide) rfl (fun ls hl => ?_)
  have L1 : ∀ (fu9 : Nat) (i : Nat), (i ≤ q 2) → q 2 - i < fu9 → ∀ (H : Heap) (locs : List Loc), va_P D vwCl [(h, .inr (8, [.ref t, .ref tn, .ref tl, .ref tc, .ref ta])), (t, .inl (k 0, 4, .inl (cI q))), (tn, .inl (k 4, 4, .inr (.inr (.inr (.inr (gr4 rw)))))), ((rw 2), .inl (k 0, 80, .inl G2)), (tl, .inl (k 0, 400, .inl (snI lf G2 i)))] H → va_D A [(h, .inr (8, [.ref t, .ref tn, .ref tl, .ref tc, .ref ta])), (t, .inl (k 0, 4, .inl (cI q))), (tn, .inl (k 4, 4, .inr (.inr (.inr (.inr (gr4 rw)))))), ((rw 2), .inl (k 0, 80, .inl G2)), (tl, .inl (k 0, 400, .inl (snI lf G2 i)))] → va_S A s.heap H locs → ∀ (ls : Array Slot), lv_has ls 5 [(1, .int (nI i)), (0, .ref h)] → W p l e r_X8_sumNoise s m ([.ref h] : List Value).toArray below meth c H locs 0 0 (MQ below (q_X8_sumNoise D k h t tn tl tc ta rw q G2 lf A) ([.ref h] : List Value).toArray s 0 0 A) (F0 m 10 ls []) := by
    intro fu9
    induction fu9 with
    | zero => intro i hi hmu; exact absurd hmu (Nat.not_lt_zero _)
    | succ fu9 ih =>
      intro i hi hmu H locs hP hD hS ls hl
      refine lv_iload_n hx hb dX8_sumNoise_10 rfl (lv_at hl 0 rfl) ?_
      refine lv_aload_n hx hb dX8_sumNoise_11 rfl (lv_at hl 1 rfl) ?_
      refine va_get (D := D) (ci := 8) (v := .ref t) (C := RX8) (T := TX8) (N := 5) hx hb hts hi8 hown hG.1 hP 0 rfl rfl 0 (by decide) (hts (.fieldLink RX8 9 "SleptMatters$Town" "counts" "[I") (List.mem_cons_of_mem _ (List.mem_append_left _ (List.mem_of_getElem? (i := 1) rfl)))) (fun _ h9 => h9) rfl dX8_sumNoise_12 ?_
      refine lv_iconst (v := 2) hx hb dX8_sumNoise_15 (by decide) ?_
      refine va_iald hx hb hG.1 hP 1 0 rfl rfl (vp_in_nI (n := 2) (by omega) (by omega)) dX8_sumNoise_16 ?_
      refine tp_i (y := nI (q 2)) (rfl) ?_
      refine bn_ge (i := i) (j := q 2) (tgt := 85) hx hb dX8_sumNoise_17 (by decide) (by omega) (by omega) (fun c2 => ?_) (fun c2 => ?_)
      · skip
        have hiN : i = q 2 := by omega
        rw [hiN] at hP hD
        have hP9 := hP.sub (ws' := [(h, .inr (8, [.ref t, .ref tn, .ref tl, .ref tc, .ref ta])), (t, .inl (k 0, 4, .inl (cI q))), (tn, .inl (k 4, 4, .inr (.inr (.inr (.inr (gr4 rw)))))), ((rw 2), .inl (k 0, 80, .inl G2)), (tl, .inl (k 0, 400, .inl (snI lf G2 (q 2))))]) [0, 1, 2, 3, 4] rfl
        have hD9 := hD.sub (ws' := [(h, .inr (8, [.ref t, .ref tn, .ref tl, .ref tc, .ref ta])), (t, .inl (k 0, 4, .inl (cI q))), (tn, .inl (k 4, 4, .inr (.inr (.inr (.inr (gr4 rw)))))), ((rw 2), .inl (k 0, 80, .inl G2)), (tl, .inl (k 0, 400, .inl (snI lf G2 (q 2))))]) [0, 1, 2, 3, 4] (by decide +kernel) rfl
        exact W.vret hx hb hr (fun t9 ht _ => ⟨⟨(), rfl, trivial, by rw [ht]; exact hP9, hD9⟩, hS.F ht⟩) hS.2.2 dX8_sumNoise_85
      · skip
        obtain ⟨s9, -, hs9, es9⟩ := hNB i (by omega) 0 (by decide)
        have hs9 : s9 ≤ 3 := hs9
        obtain ⟨a9, -, ha9, ea9⟩ := hNB i (by omega) 1 (by decide)
        have ha9 : a9 ≤ 99 := ha9
        obtain ⟨b9, -, hb9, eb9⟩ := hNB i (by omega) 2 (by decide)
        have hb9 : b9 ≤ 99 := hb9
        refine lv_aload_n hx hb dX8_sumNoise_20 rfl (lv_at hl 1 rfl) ?_
        refine lv_iconst (v := 2) hx hb dX8_sumNoise_21 (by decide) ?_
        refine lv_iload_n hx hb dX8_sumNoise_22 rfl (lv_at hl 0 rfl) ?_
        refine lv_iconst (v := 0) hx hb dX8_sumNoise_23 (by decide) ?_
        have hPc := hP.sub (ws' := (c_X8_part2 k h t tn tl tc ta rw q G2 (nI i) 0)) [0, 1, 2, 3] rfl
        refine vp_callSi (va_Run.run (va_runV (As := [.int 2, .int (nI i), .int 0]) (rest := []) ⟨hx, hb, hml, hown, hts⟩ (X8_part2 l D k h t tn tl tc ta rw q G2 (nI i) 0 (by omega) (by decide)) (cwV 3 hts gX8_sumNoise_X8_part rfl rfl rfl (by decide +kernel) ⟨Nat.le_of_ble_eq_true rfl, Nat.le_of_ble_eq_true rfl⟩) ⟨PS.blind _ _ _ _, va_recv hG.1 hP (ci := 8) (q0 := 0) rfl rfl, PS.pre hPc hG [.ref h, .int 2, .int (nI i), .int 0]⟩ rfl rfl hl.1 rfl (lv_room (Nat.le_of_ble_eq_true rfl)) dX8_sumNoise_24 ⟨Nat.le_of_ble_eq_true rfl, Nat.le_of_ble_eq_true rfl⟩)) (fun r hq => ?_)
        generalize r = y3 at hq ⊢
        have hq : y3 = pt (q 2) G2 (nI i) 0 := hq
        refine tp_i (y := nI s9) (hq.trans ((pt_in (by omega) (by omega)).trans es9)) ?_
        refine lv_bipush (v := 100) hx hb dX8_sumNoise_27 (by decide) ?_
        refine lv_imul hx hb dX8_sumNoise_29 ?_
        refine tp_i (y := nI (s9 * 100)) (pk_mul s9 100) ?_
        refine lv_istore_n (lv' := [(2, .int (nI (s9 * 100))), (1, .int (nI i)), (0, .ref h)]) hx hb dX8_sumNoise_30 rfl hl (by decide) rfl (fun ls hl => ?_)
        refine lv_aload_n hx hb dX8_sumNoise_31 rfl (lv_at hl 2 rfl) ?_
        refine lv_iconst (v := 2) hx hb dX8_sumNoise_32 (by decide) ?_
        refine lv_iload_n hx hb dX8_sumNoise_33 rfl (lv_at hl 1 rfl) ?_
        refine lv_iconst (v := 2) hx hb dX8_sumNoise_34 (by decide) ?_
        have hPc := hP.sub (ws' := (c_X8_part2 k h t tn tl tc ta rw q G2 (nI i) 2)) [0, 1, 2, 3] rfl
        refine vp_callSi (va_Run.run (va_runV (As := [.int 2, .int (nI i), .int 2]) (rest := []) ⟨hx, hb, hml, hown, hts⟩ (X8_part2 l D k h t tn tl tc ta rw q G2 (nI i) 2 (by omega) (by decide)) (cwV 3 hts gX8_sumNoise_X8_part rfl rfl rfl (by decide +kernel) ⟨Nat.le_of_ble_eq_true rfl, Nat.le_of_ble_eq_true rfl⟩) ⟨PS.blind _ _ _ _, va_recv hG.1 hP (ci := 8) (q0 := 0) rfl rfl, PS.pre hPc hG [.ref h, .int 2, .int (nI i), .int 2]⟩ rfl rfl hl.1 rfl (lv_room (Nat.le_of_ble_eq_true rfl)) dX8_sumNoise_35 ⟨Nat.le_of_ble_eq_true rfl, Nat.le_of_ble_eq_true rfl⟩)) (fun r hq => ?_)
        generalize r = y4 at hq ⊢
        have hq : y4 = pt (q 2) G2 (nI i) 2 := hq
        refine tp_i (y := nI b9) (hq.trans ((pt_in (by omega) (by omega)).trans eb9)) ?_
        refine lv_istore_n (lv' := [(3, .int (nI b9)), (2, .int (nI (s9 * 100))), (1, .int (nI i)), (0, .ref h)]) hx hb dX8_sumNoise_38 rfl hl (by decide) rfl (fun ls hl => ?_)
        refine lv_aload_n hx hb dX8_sumNoise_39 rfl (lv_at hl 3 rfl) ?_
        refine lv_iconst (v := 2) hx hb dX8_sumNoise_40 (by decide) ?_
        refine lv_iload_n hx hb dX8_sumNoise_41 rfl (lv_at hl 2 rfl) ?_
        refine lv_iconst (v := 1) hx hb dX8_sumNoise_42 (by decide) ?_
        have hPc := hP.sub (ws' := (c_X8_part2 k h t tn tl tc ta rw q G2 (nI i) 1)) [0, 1, 2, 3] rfl
        refine vp_callSi (va_Run.run (va_runV (As := [.int 2, .int (nI i), .int 1]) (rest := []) ⟨hx, hb, hml, hown, hts⟩ (X8_part2 l D k h t tn tl tc ta rw q G2 (nI i) 1 (by omega) (by decide)) (cwV 3 hts gX8_sumNoise_X8_part rfl rfl rfl (by decide +kernel) ⟨Nat.le_of_ble_eq_true rfl, Nat.le_of_ble_eq_true rfl⟩) ⟨PS.blind _ _ _ _, va_recv hG.1 hP (ci := 8) (q0 := 0) rfl rfl, PS.pre hPc hG [.ref h, .int 2, .int (nI i), .int 1]⟩ rfl rfl hl.1 rfl (lv_room (Nat.le_of_ble_eq_true rfl)) dX8_sumNoise_43 ⟨Nat.le_of_ble_eq_true rfl, Nat.le_of_ble_eq_true rfl⟩)) (fun r hq => ?_)
        generalize r = y5 at hq ⊢
        have hq : y5 = pt (q 2) G2 (nI i) 1 := hq
        refine tp_i (y := nI a9) (hq.trans ((pt_in (by omega) (by omega)).trans ea9)) ?_
        refine lv_istore (lv' := [(4, .int (nI a9)), (3, .int (nI b9)), (2, .int (nI (s9 * 100))), (1, .int (nI i)), (0, .ref h)]) hx hb dX8_sumNoise_46 hl (by decide) rfl (fun ls hl => ?_)
        have L6 : ∀ (fu9 : Nat) (j : Nat), (j ≤ b9 + 1 - a9) → b9 + 1 - a9 - j < fu9 → ∀ (H : Heap) (locs : List Loc), va_P D vwCl [(h, .inr (8, [.ref t, .ref tn, .ref tl, .ref tc, .ref ta])), (t, .inl (k 0, 4, .inl (cI q))), (tn, .inl (k 4, 4, .inr (.inr (.inr (.inr (gr4 rw)))))), ((rw 2), .inl (k 0, 80, .inl G2)), (tl, .inl (k 0, 400, .inl (adI (snI lf G2 i) (s9 * 100 + a9) (G2 (i * 4 + 3)) j)))] H → va_D A [(h, .inr (8, [.ref t, .ref tn, .ref tl, .ref tc, .ref ta])), (t, .inl (k 0, 4, .inl (cI q))), (tn, .inl (k 4, 4, .inr (.inr (.inr (.inr (gr4 rw)))))), ((rw 2), .inl (k 0, 80, .inl G2)), (tl, .inl (k 0, 400, .inl (adI (snI lf G2 i) (s9 * 100 + a9) (G2 (i * 4 + 3)) j)))] → va_S A s.heap H locs → ∀ (ls : Array Slot), lv_has ls 5 [(4, .int (nI (a9 + j))), (3, .int (nI b9)), (2, .int (nI (s9 * 100))), (1, .int (nI i)), (0, .ref h)] → W p l e r_X8_sumNoise s m ([.ref h] : List Value).toArray below meth c H locs 0 0 (MQ below (q_X8_sumNoise D k h t tn tl tc ta rw q G2 lf A) ([.ref h] : List Value).toArray s 0 0 A) (F0 m 48 ls []) := by
          intro fu9L6
          induction fu9L6 with
          | zero => intro j hj hmuL6; exact absurd hmuL6 (Nat.not_lt_zero _)
          | succ fu9L6 ihL6 =>
            intro j hj hmuL6 H locs hP hD hS ls hl
            refine lv_iload hx hb dX8_sumNoise_48 (lv_at hl 0 rfl) ?_
            refine lv_iload_n hx hb dX8_sumNoise_50 rfl (lv_at hl 1 rfl) ?_
            refine bn_gt (i := a9 + j) (j := b9) (tgt := 79) hx hb dX8_sumNoise_51 (by decide) (by omega) (by omega) (fun c7 => ?_) (fun c7 => ?_)
            · skip
              have e9 := sn_s (lf := lf) hs9 ha9 hb9 (show j = b9 + 1 - a9 by omega) es9 ea9 eb9
              rw [e9] at hP hD
              refine lv_iinc (v := nI (i + 1)) (lv' := [(1, .int (nI (i + 1))), (4, .int (nI (a9 + j))), (3, .int (nI b9)), (2, .int (nI (s9 * 100))), (0, .ref h)]) hx hb dX8_sumNoise_79 hl (k := 3) rfl (nI_add i 1) (by decide) rfl (fun ls hl => ?_)
              refine lv_goto (tgt := 10) hx hb dX8_sumNoise_82 (by decide) ?_
              exact ih (i + 1) (by omega) (by omega) _ _ (hP.sub [0, 1, 2, 3, 4] rfl) (hD.sub [0, 1, 2, 3, 4] (by decide +kernel) rfl) hS ls (lv_sub hl [0, 4] rfl)
            · skip
              refine lv_aload_n hx hb dX8_sumNoise_54 rfl (lv_at hl 4 rfl) ?_
              refine va_get (D := D) (ci := 8) (v := .ref tl) (C := RX8) (T := TX8) (N := 5) hx hb hts hi8 hown hG.1 hP 0 rfl rfl 2 (by decide) (hts (.fieldLink RX8 20 "SleptMatters$Town" "loudness" "[I") (List.mem_cons_of_mem _ (List.mem_append_left _ (List.mem_of_getElem? (i := 0) rfl)))) (fun _ h9 => h9) rfl dX8_sumNoise_55 ?_
              refine lv_iload_n hx hb dX8_sumNoise_58 rfl (lv_at hl 2 rfl) ?_
              refine lv_iload hx hb dX8_sumNoise_59 (lv_at hl 0 rfl) ?_
              refine lv_iadd hx hb dX8_sumNoise_61 ?_
              refine tp_i (y := nI (s9 * 100 + (a9 + j))) (nI_add (s9 * 100) (a9 + j)) ?_
              refine lv_dup2_11 hx hb dX8_sumNoise_62 rfl rfl ?_
              refine va_iald hx hb hG.1 hP 4 0 rfl rfl (vp_in_nI (by omega) (by omega)) dX8_sumNoise_63 ?_
              refine tp_i (y := (adI (snI lf G2 i) (s9 * 100 + a9) (G2 (i * 4 + 3)) j) (s9 * 100 + (a9 + j))) (congrArg _ (nI_clamp (n := s9 * 100 + (a9 + j)) (by omega))) ?_
              refine lv_aload_n hx hb dX8_sumNoise_64 rfl (lv_at hl 4 rfl) ?_
              refine lv_iconst (v := 2) hx hb dX8_sumNoise_65 (by decide) ?_
              refine lv_iload_n hx hb dX8_sumNoise_66 rfl (lv_at hl 3 rfl) ?_
              refine lv_iconst (v := 3) hx hb dX8_sumNoise_67 (by decide) ?_
              have hPc := hP.sub (ws' := (c_X8_part2 k h t tn tl tc ta rw q G2 (nI i) 3)) [0, 1, 2, 3] rfl
              refine vp_callSi (va_Run.run (va_runV (As := [.int 2, .int (nI i), .int 3]) (rest := [.int ((adI (snI lf G2 i) (s9 * 100 + a9) (G2 (i * 4 + 3)) j) (s9 * 100 + (a9 + j))), .int (nI (s9 * 100 + (a9 + j))), .ref tl]) ⟨hx, hb, hml, hown, hts⟩ (X8_part2 l D k h t tn tl tc ta rw q G2 (nI i) 3 (by omega) (by decide)) (cwV 3 hts gX8_sumNoise_X8_part rfl rfl rfl (by decide +kernel) ⟨Nat.le_of_ble_eq_true rfl, Nat.le_of_ble_eq_true rfl⟩) ⟨PS.blind _ _ _ _, va_recv hG.1 hP (ci := 8) (q0 := 0) rfl rfl, PS.pre hPc hG [.ref h, .int 2, .int (nI i), .int 3]⟩ rfl rfl hl.1 rfl (lv_room (Nat.le_of_ble_eq_true rfl)) dX8_sumNoise_68 ⟨Nat.le_of_ble_eq_true rfl, Nat.le_of_ble_eq_true rfl⟩)) (fun r hq => ?_)
              generalize r = y8 at hq ⊢
              have hq : y8 = pt (q 2) G2 (nI i) 3 := hq
              refine tp_i (y := G2 (i * 4 + 3)) (hq.trans (pt_in (by omega) (by omega))) ?_
              refine lv_iadd hx hb dX8_sumNoise_71 ?_
              refine va_iast hx hb hG.1 hP hD hS 4 0 rfl rfl (vp_in_nI (by omega) (by omega)) dX8_sumNoise_72 (fun H locs hP hD hS => ?_)
              rw [nI_clamp (n := s9 * 100 + (a9 + j)) (by omega)] at hP hD
              have hP : va_P D vwCl [(h, .inr (8, [.ref t, .ref tn, .ref tl, .ref tc, .ref ta])), (t, .inl (k 0, 4, .inl (cI q))), (tn, .inl (k 4, 4, .inr (.inr (.inr (.inr (gr4 rw)))))), ((rw 2), .inl (k 0, 80, .inl G2)), (tl, .inl (k 0, 400, .inl (upd (adI (snI lf G2 i) (s9 * 100 + a9) (G2 (i * 4 + 3)) j) (s9 * 100 + (a9 + j)) (((adI (snI lf G2 i) (s9 * 100 + a9) (G2 (i * 4 + 3)) j) (s9 * 100 + (a9 + j))) + (G2 (i * 4 + 3))))))] H := hP
              have hD : va_D A [(h, .inr (8, [.ref t, .ref tn, .ref tl, .ref tc, .ref ta])), (t, .inl (k 0, 4, .inl (cI q))), (tn, .inl (k 4, 4, .inr (.inr (.inr (.inr (gr4 rw)))))), ((rw 2), .inl (k 0, 80, .inl G2)), (tl, .inl (k 0, 400, .inl (upd (adI (snI lf G2 i) (s9 * 100 + a9) (G2 (i * 4 + 3)) j) (s9 * 100 + (a9 + j)) (((adI (snI lf G2 i) (s9 * 100 + a9) (G2 (i * 4 + 3)) j) (s9 * 100 + (a9 + j))) + (G2 (i * 4 + 3))))))] := hD
              rw [adI_s] at hP hD
              have hP : va_P D vwCl [(h, .inr (8, [.ref t, .ref tn, .ref tl, .ref tc, .ref ta])), (t, .inl (k 0, 4, .inl (cI q))), (tn, .inl (k 4, 4, .inr (.inr (.inr (.inr (gr4 rw)))))), ((rw 2), .inl (k 0, 80, .inl G2)), (tl, .inl (k 0, 400, .inl (adI (snI lf G2 i) (s9 * 100 + a9) (G2 (i * 4 + 3)) (j + 1))))] H := hP
              have hD : va_D A [(h, .inr (8, [.ref t, .ref tn, .ref tl, .ref tc, .ref ta])), (t, .inl (k 0, 4, .inl (cI q))), (tn, .inl (k 4, 4, .inr (.inr (.inr (.inr (gr4 rw)))))), ((rw 2), .inl (k 0, 80, .inl G2)), (tl, .inl (k 0, 400, .inl (adI (snI lf G2 i) (s9 * 100 + a9) (G2 (i * 4 + 3)) (j + 1))))] := hD
              refine lv_iinc (v := nI (a9 + j + 1)) (lv' := [(4, .int (nI (a9 + j + 1))), (3, .int (nI b9)), (2, .int (nI (s9 * 100))), (1, .int (nI i)), (0, .ref h)]) hx hb dX8_sumNoise_73 hl (k := 0) rfl (nI_add (a9 + j) 1) (by decide) rfl (fun ls hl => ?_)
              refine lv_goto (tgt := 48) hx hb dX8_sumNoise_76 (by decide) ?_
              exact ihL6 (j + 1) (by omega) (by omega) _ _ (hP.sub [0, 1, 2, 3, 4] rfl) (hD.sub [0, 1, 2, 3, 4] (by decide +kernel) rfl) hS ls (lv_sub hl [0, 1, 2, 3, 4] rfl)
        exact L6 _ 0 (Nat.zero_le _) (Nat.lt_succ_self _) _ _ hP hD hS ls (lv_sub hl [0, 1, 2, 3, 4] rfl)
  exact L1 _ 0 (Nat.zero_le _) (Nat.lt_succ_self _) _ _ hP hD hS ls (lv_sub hl [0, 1] rfl)

abbrev c_X8_findCalm (k : Nat → ClassId) (h : Nat) (t : Nat) (tn : Nat) (tl : Nat) (tc : Nat) (ta : Nat) (rw : Nat → Nat) (q : Nat → Nat) (G0 : Nat → Int32) (G1 : Nat → Int32) (lf : Nat → Int32) (cf : Nat → Int32) : va_W := [(h, .inr (8, [.ref t, .ref tn, .ref tl, .ref tc, .ref ta])), (t, .inl (k 0, 4, .inl (cI q))), (tn, .inl (k 4, 4, .inr (.inr (.inr (.inr (gr4 rw)))))), ((rw 0), .inl (k 0, 80, .inl G0)), ((rw 1), .inl (k 0, 80, .inl G1)), (tl, .inl (k 0, 400, .inl lf)), (tc, .inl (k 0, 700, .inl cf))]
abbrev r_X8_findCalm : Room := { frames := 3, cells := 0, slots := 0, locals := 68 }
def w_X8_findCalm (k : Nat → ClassId) (h : Nat) (t : Nat) (tn : Nat) (tl : Nat) (tc : Nat) (ta : Nat) (rw : Nat → Nat) (q : Nat → Nat) (G0 : Nat → Int32) (G1 : Nat → Int32) (lf : Nat → Int32) (cf : Nat → Int32) : Unit → va_W := fun _ => [(h, .inr (8, [.ref t, .ref tn, .ref tl, .ref tc, .ref ta])), (t, .inl (k 0, 4, .inl (cI q))), (tn, .inl (k 4, 4, .inr (.inr (.inr (.inr (gr4 rw)))))), ((rw 0), .inl (k 0, 80, .inl G0)), ((rw 1), .inl (k 0, 80, .inl G1)), (tl, .inl (k 0, 400, .inl lf)), (tc, .inl (k 0, 700, .inl (fcO q G0 G1 lf cf 100)))]
def p_X8_findCalm (k : Nat → ClassId) (h : Nat) (t : Nat) (tn : Nat) (tl : Nat) (tc : Nat) (ta : Nat) (rw : Nat → Nat) (q : Nat → Nat) (G0 : Nat → Int32) (G1 : Nat → Int32) (lf : Nat → Int32) (cf : Nat → Int32) : Unit → Prop := fun (u : Unit) => True
abbrev q_X8_findCalm (D : va_G) (k : Nat → ClassId) (h : Nat) (t : Nat) (tn : Nat) (tl : Nat) (tc : Nat) (ta : Nat) (rw : Nat → Nat) (q : Nat → Nat) (G0 : Nat → Int32) (G1 : Nat → Int32) (lf : Nat → Int32) (cf : Nat → Int32) (A : Nat → Prop) : Array Value → State → Outcome → State → Prop := va_Qv (p_X8_findCalm k h t tn tl tc ta rw q G0 G1 lf cf) (fun u9 t9 => BO D (w_X8_findCalm k h t tn tl tc ta rw q G0 G1 lf cf u9) A t9) A
set_option maxHeartbeats 2000000 in
set_option maxRecDepth 100000 in
theorem X8_findCalm (l : Launch) (D : va_G) (k : Nat → ClassId) (sz : Nat) (h : Nat) (t : Nat) (tn : Nat) (tl : Nat) (tc : Nat) (ta : Nat) (rw : Nat → Nat) (q : Nat → Nat) (G0 : Nat → Int32) (G1 : Nat → Int32) (lf : Nat → Int32) (cf : Nat → Int32) (hq0 : q 0 ≤ 7) (hq1 : q 1 ≤ 7) : Met l yX8_findCalm wsX8_findCalm r_X8_findCalm (va_Pc [.ref h] (PR D k (c_X8_findCalm k h t tn tl tc ta rw q G0 G1 lf cf) sz)) (q_X8_findCalm D k h t tn tl tc ta rw q G0 G1 lf cf (va_A (c_X8_findCalm k h t tn tl tc ta rw q G0 G1 lf cf) sz)) 0 0 (va_A (c_X8_findCalm k h t tn tl tc ta rw q G0 G1 lf cf) sz) := by
  refine Met.ofW (cc := cX8_findCalm) (maxL := 5) (ret := none) (by decide) rfl ?_
  intro p e s m args below meth c s₁ B hml hv
  obtain ⟨rfl, hsz, hP, hG, hD0⟩ := hv
  have hx := B.exec
  have hb := B.bytes
  have hr := B.returns
  have hts := atoms_spec (ws := wsX8_findCalm) B.pre
  have hown : s.vm.findClass RX8 = some m.cls := findClass_of_methodNamed B.named
  have hlocks := B.notSynchronized
  have hi8 : ∀ w ∈ wsX80, w ∈ wsX8_findCalm := fun _ h => List.mem_cons_of_mem _ (List.mem_append_right _ h)
  subst hsz
  have hD := hD0.self (sz := s.heap.size)
  generalize hAe : va_A (c_X8_findCalm k h t tn tl tc ta rw q G0 G1 lf cf) s.heap.size = A at hD ⊢
  have hA : ∀ q : Nat, s.heap.size ≤ q → A q := fun q h => by rw [← hAe]; exact Or.inr h
  have hS : va_S A s.heap s.heap [] := va_S.rf
  have hP : va_P D vwCl [(h, .inr (8, [.ref t, .ref tn, .ref tl, .ref tc, .ref ta])), (t, .inl (k 0, 4, .inl (cI q))), (tn, .inl (k 4, 4, .inr (.inr (.inr (.inr (gr4 rw)))))), ((rw 0), .inl (k 0, 80, .inl G0)), ((rw 1), .inl (k 0, 80, .inl G1)), (tl, .inl (k 0, 400, .inl lf)), (tc, .inl (k 0, 700, .inl cf))] s.heap := hP
  have hD : va_D A [(h, .inr (8, [.ref t, .ref tn, .ref tl, .ref tc, .ref ta])), (t, .inl (k 0, 4, .inl (cI q))), (tn, .inl (k 4, 4, .inr (.inr (.inr (.inr (gr4 rw)))))), ((rw 0), .inl (k 0, 80, .inl G0)), ((rw 1), .inl (k 0, 80, .inl G1)), (tl, .inl (k 0, 400, .inl lf)), (tc, .inl (k 0, 700, .inl cf))] := hD
  have hl := lv_entry ([.ref h]) (n := 5) (Nat.le_of_ble_eq_true rfl)
  rw [lg_entry_eq]
  generalize (lg_sl ([.ref h]) ++ List.replicate (5 - (lg_sl ([.ref h])).length) Slot.unset).toArray = ls at hl ⊢
  have hl : lv_has ls 5 [(0, .ref h)] := hl
  refine lv_iconst (v := 0) hx hb dX8_findCalm_0 (by decide) ?_
  refine lv_istore_n (lv' := [(1, .int 0), (0, .ref h)]) hx hb dX8_findCalm_1 rfl hl (by decide) rfl (fun ls hl => ?_)
  have L1 : ∀ (fu9 : Nat) (i : Nat), (i ≤ 100) → 100 - i < fu9 → ∀ (H : Heap) (locs : List Loc), va_P D vwCl [(h, .inr (8, [.ref t, .ref tn, .ref tl, .ref tc, .ref ta])), (t, .inl (k 0, 4, .inl (cI q))), (tn, .inl (k 4, 4, .inr (.inr (.inr (.inr (gr4 rw)))))), ((rw 0), .inl (k 0, 80, .inl G0)), ((rw 1), .inl (k 0, 80, .inl G1)), (tl, .inl (k 0, 400, .inl lf)), (tc, .inl (k 0, 700, .inl (fcO q G0 G1 lf cf i)))] H → va_D A [(h, .inr (8, [.ref t, .ref tn, .ref tl, .ref tc, .ref ta])), (t, .inl (k 0, 4, .inl (cI q))), (tn, .inl (k 4, 4, .inr (.inr (.inr (.inr (gr4 rw)))))), ((rw 0), .inl (k 0, 80, .inl G0)), ((rw 1), .inl (k 0, 80, .inl G1)), (tl, .inl (k 0, 400, .inl lf)), (tc, .inl (k 0, 700, .inl (fcO q G0 G1 lf cf i)))] → va_S A s.heap H locs → ∀ (ls : Array Slot), lv_has ls 5 [(1, .int (nI i)), (0, .ref h)] → W p l e r_X8_findCalm s m ([.ref h] : List Value).toArray below meth c H locs 0 0 (MQ below (q_X8_findCalm D k h t tn tl tc ta rw q G0 G1 lf cf A) ([.ref h] : List Value).toArray s 0 0 A) (F0 m 2 ls []) := by
    intro fu9
    induction fu9 with
    | zero => intro i hi hmu; exact absurd hmu (Nat.not_lt_zero _)
    | succ fu9 ih =>
      intro i hi hmu H locs hP hD hS ls hl
      refine lv_iload_n hx hb dX8_findCalm_2 rfl (lv_at hl 0 rfl) ?_
      refine lv_bipush (v := 100) hx hb dX8_findCalm_3 (by decide) ?_
      refine bn_ge (i := i) (j := 100) (tgt := 84) hx hb dX8_findCalm_5 (by decide) (by omega) (by omega) (fun c2 => ?_) (fun c2 => ?_)
      · skip
        have hiN : i = 100 := by omega
        rw [hiN] at hP hD
        have hP9 := hP.sub (ws' := [(h, .inr (8, [.ref t, .ref tn, .ref tl, .ref tc, .ref ta])), (t, .inl (k 0, 4, .inl (cI q))), (tn, .inl (k 4, 4, .inr (.inr (.inr (.inr (gr4 rw)))))), ((rw 0), .inl (k 0, 80, .inl G0)), ((rw 1), .inl (k 0, 80, .inl G1)), (tl, .inl (k 0, 400, .inl lf)), (tc, .inl (k 0, 700, .inl (fcO q G0 G1 lf cf 100)))]) [0, 1, 2, 3, 4, 5, 6] rfl
        have hD9 := hD.sub (ws' := [(h, .inr (8, [.ref t, .ref tn, .ref tl, .ref tc, .ref ta])), (t, .inl (k 0, 4, .inl (cI q))), (tn, .inl (k 4, 4, .inr (.inr (.inr (.inr (gr4 rw)))))), ((rw 0), .inl (k 0, 80, .inl G0)), ((rw 1), .inl (k 0, 80, .inl G1)), (tl, .inl (k 0, 400, .inl lf)), (tc, .inl (k 0, 700, .inl (fcO q G0 G1 lf cf 100)))]) [0, 1, 2, 3, 4, 5, 6] (by decide +kernel) rfl
        exact W.vret hx hb hr (fun t9 ht _ => ⟨⟨(), rfl, trivial, by rw [ht]; exact hP9, hD9⟩, hS.F ht⟩) hS.2.2 dX8_findCalm_84
      · skip
        refine lv_iconst (v := 0) hx hb dX8_findCalm_8 (by decide) ?_
        refine lv_istore_n (lv' := [(2, .int 0), (1, .int (nI i)), (0, .ref h)]) hx hb dX8_findCalm_9 rfl hl (by decide) rfl (fun ls hl => ?_)
        have L3 : ∀ (fu9 : Nat) (j : Nat), (j ≤ q 1) → q 1 - j < fu9 → ∀ (H : Heap) (locs : List Loc), va_P D vwCl [(h, .inr (8, [.ref t, .ref tn, .ref tl, .ref tc, .ref ta])), (t, .inl (k 0, 4, .inl (cI q))), (tn, .inl (k 4, 4, .inr (.inr (.inr (.inr (gr4 rw)))))), ((rw 0), .inl (k 0, 80, .inl G0)), ((rw 1), .inl (k 0, 80, .inl G1)), (tl, .inl (k 0, 400, .inl lf)), (tc, .inl (k 0, 700, .inl (fcI q G0 G1 lf (fcO q G0 G1 lf cf i) i j)))] H → va_D A [(h, .inr (8, [.ref t, .ref tn, .ref tl, .ref tc, .ref ta])), (t, .inl (k 0, 4, .inl (cI q))), (tn, .inl (k 4, 4, .inr (.inr (.inr (.inr (gr4 rw)))))), ((rw 0), .inl (k 0, 80, .inl G0)), ((rw 1), .inl (k 0, 80, .inl G1)), (tl, .inl (k 0, 400, .inl lf)), (tc, .inl (k 0, 700, .inl (fcI q G0 G1 lf (fcO q G0 G1 lf cf i) i j)))] → va_S A s.heap H locs → ∀ (ls : Array Slot), lv_has ls 5 [(2, .int (nI j)), (1, .int (nI i)), (0, .ref h)] → W p l e r_X8_findCalm s m ([.ref h] : List Value).toArray below meth c H locs 0 0 (MQ below (q_X8_findCalm D k h t tn tl tc ta rw q G0 G1 lf cf A) ([.ref h] : List Value).toArray s 0 0 A) (F0 m 10 ls []) := by
          intro fu9L3
          induction fu9L3 with
          | zero => intro j hj hmuL3; exact absurd hmuL3 (Nat.not_lt_zero _)
          | succ fu9L3 ihL3 =>
            intro j hj hmuL3 H locs hP hD hS ls hl
            refine lv_iload_n hx hb dX8_findCalm_10 rfl (lv_at hl 0 rfl) ?_
            refine lv_aload_n hx hb dX8_findCalm_11 rfl (lv_at hl 2 rfl) ?_
            refine va_get (D := D) (ci := 8) (v := .ref t) (C := RX8) (T := TX8) (N := 5) hx hb hts hi8 hown hG.1 hP 0 rfl rfl 0 (by decide) (hts (.fieldLink RX8 9 "SleptMatters$Town" "counts" "[I") (List.mem_cons_of_mem _ (List.mem_append_left _ (List.mem_of_getElem? (i := 0) rfl)))) (fun _ h9 => h9) rfl dX8_findCalm_12 ?_
            refine lv_iconst (v := 1) hx hb dX8_findCalm_15 (by decide) ?_
            refine va_iald hx hb hG.1 hP 1 0 rfl rfl (vp_in_nI (n := 1) (by omega) (by omega)) dX8_findCalm_16 ?_
            refine tp_i (y := nI (q 1)) (rfl) ?_
            refine bn_ge (i := j) (j := q 1) (tgt := 78) hx hb dX8_findCalm_17 (by decide) (by omega) (by omega) (fun c4 => ?_) (fun c4 => ?_)
            · skip
              have hjN : j = q 1 := by omega
              rw [show fcI q G0 G1 lf (fcO q G0 G1 lf cf i) i j = fcO q G0 G1 lf cf (i + 1) by rw [hjN]; rfl] at hP hD
              refine lv_iinc (v := nI (i + 1)) (lv' := [(1, .int (nI (i + 1))), (2, .int (nI j)), (0, .ref h)]) hx hb dX8_findCalm_78 hl (k := 1) rfl (nI_add i 1) (by decide) rfl (fun ls hl => ?_)
              refine lv_goto (tgt := 2) hx hb dX8_findCalm_81 (by decide) ?_
              exact ih (i + 1) (by omega) (by omega) _ _ (hP.sub [0, 1, 2, 3, 4, 5, 6] rfl) (hD.sub [0, 1, 2, 3, 4, 5, 6] (by decide +kernel) rfl) hS ls (lv_sub hl [0, 2] rfl)
            · skip
              refine lv_iconst (v := 0) hx hb dX8_findCalm_20 (by decide) ?_
              refine lv_istore_n (lv' := [(3, .int 0), (2, .int (nI j)), (1, .int (nI i)), (0, .ref h)]) hx hb dX8_findCalm_21 rfl hl (by decide) rfl (fun ls hl => ?_)
              refine lv_iconst (v := 0) hx hb dX8_findCalm_22 (by decide) ?_
              refine lv_istore (lv' := [(4, .int 0), (3, .int 0), (2, .int (nI j)), (1, .int (nI i)), (0, .ref h)]) hx hb dX8_findCalm_23 hl (by decide) rfl (fun ls hl => ?_)
              have L5 : ∀ (fu9 : Nat) (j2 : Nat), (j2 ≤ q 0) → q 0 - j2 < fu9 → ∀ (H : Heap) (locs : List Loc), va_P D vwCl [(h, .inr (8, [.ref t, .ref tn, .ref tl, .ref tc, .ref ta])), (t, .inl (k 0, 4, .inl (cI q))), (tn, .inl (k 4, 4, .inr (.inr (.inr (.inr (gr4 rw)))))), ((rw 0), .inl (k 0, 80, .inl G0)), ((rw 1), .inl (k 0, 80, .inl G1)), (tl, .inl (k 0, 400, .inl lf)), (tc, .inl (k 0, 700, .inl (fcI q G0 G1 lf (fcO q G0 G1 lf cf i) i j)))] H → va_D A [(h, .inr (8, [.ref t, .ref tn, .ref tl, .ref tc, .ref ta])), (t, .inl (k 0, 4, .inl (cI q))), (tn, .inl (k 4, 4, .inr (.inr (.inr (.inr (gr4 rw)))))), ((rw 0), .inl (k 0, 80, .inl G0)), ((rw 1), .inl (k 0, 80, .inl G1)), (tl, .inl (k 0, 400, .inl lf)), (tc, .inl (k 0, 700, .inl (fcI q G0 G1 lf (fcO q G0 G1 lf cf i) i j)))] → va_S A s.heap H locs → ∀ (ls : Array Slot), lv_has ls 5 [(4, .int (nI j2)), (3, .int (clS q G0 G1 lf i j j2)), (2, .int (nI j)), (1, .int (nI i)), (0, .ref h)] → W p l e r_X8_findCalm s m ([.ref h] : List Value).toArray below meth c H locs 0 0 (MQ below (q_X8_findCalm D k h t tn tl tc ta rw q G0 G1 lf cf A) ([.ref h] : List Value).toArray s 0 0 A) (F0 m 25 ls []) := by
                intro fu9L5
                induction fu9L5 with
                | zero => intro j2 hj2 hmuL5; exact absurd hmuL5 (Nat.not_lt_zero _)
                | succ fu9L5 ihL5 =>
                  intro j2 hj2 hmuL5 H locs hP hD hS ls hl
                  refine lv_iload hx hb dX8_findCalm_25 (lv_at hl 0 rfl) ?_
                  refine lv_aload_n hx hb dX8_findCalm_27 rfl (lv_at hl 4 rfl) ?_
                  refine va_get (D := D) (ci := 8) (v := .ref t) (C := RX8) (T := TX8) (N := 5) hx hb hts hi8 hown hG.1 hP 0 rfl rfl 0 (by decide) (hts (.fieldLink RX8 9 "SleptMatters$Town" "counts" "[I") (List.mem_cons_of_mem _ (List.mem_append_left _ (List.mem_of_getElem? (i := 0) rfl)))) (fun _ h9 => h9) rfl dX8_findCalm_28 ?_
                  refine lv_iconst (v := 0) hx hb dX8_findCalm_31 (by decide) ?_
                  refine va_iald hx hb hG.1 hP 1 0 rfl rfl (vp_in_nI (n := 0) (by omega) (by omega)) dX8_findCalm_32 ?_
                  refine tp_i (y := nI (q 0)) (rfl) ?_
                  refine bn_ge (i := j2) (j := q 0) (tgt := 60) hx hb dX8_findCalm_33 (by decide) (by omega) (by omega) (fun c6 => ?_) (fun c6 => ?_)
                  · skip
                    have hkN : j2 = q 0 := by omega
                    refine lv_aload_n hx hb dX8_findCalm_60 rfl (lv_at hl 4 rfl) ?_
                    refine va_get (D := D) (ci := 8) (v := .ref tc) (C := RX8) (T := TX8) (N := 5) hx hb hts hi8 hown hG.1 hP 0 rfl rfl 3 (by decide) (hts (.fieldLink RX8 23 "SleptMatters$Town" "calm" "[I") (List.mem_cons_of_mem _ (List.mem_append_left _ (List.mem_of_getElem? (i := 1) rfl)))) (fun _ h9 => h9) rfl dX8_findCalm_61 ?_
                    refine lv_iload_n hx hb dX8_findCalm_64 rfl (lv_at hl 3 rfl) ?_
                    refine lv_bipush (v := 7) hx hb dX8_findCalm_65 (by decide) ?_
                    refine lv_imul hx hb dX8_findCalm_67 ?_
                    refine tp_i (y := nI (i * 7)) (pk_mul i 7) ?_
                    refine lv_iload_n hx hb dX8_findCalm_68 rfl (lv_at hl 2 rfl) ?_
                    refine lv_iadd hx hb dX8_findCalm_69 ?_
                    refine tp_i (y := nI (i * 7 + j)) (nI_add (i * 7) j) ?_
                    refine lv_iload_n hx hb dX8_findCalm_70 rfl (lv_at hl 1 rfl) ?_
                    refine va_iast hx hb hG.1 hP hD hS 6 0 rfl rfl (vp_in_nI (by omega) (by omega)) dX8_findCalm_71 (fun H locs hP hD hS => ?_)
                    rw [nI_clamp (n := i * 7 + j) (by omega)] at hP hD
                    have hP : va_P D vwCl [(h, .inr (8, [.ref t, .ref tn, .ref tl, .ref tc, .ref ta])), (t, .inl (k 0, 4, .inl (cI q))), (tn, .inl (k 4, 4, .inr (.inr (.inr (.inr (gr4 rw)))))), ((rw 0), .inl (k 0, 80, .inl G0)), ((rw 1), .inl (k 0, 80, .inl G1)), (tl, .inl (k 0, 400, .inl lf)), (tc, .inl (k 0, 700, .inl (upd (fcI q G0 G1 lf (fcO q G0 G1 lf cf i) i j) (i * 7 + j) (clS q G0 G1 lf i j j2))))] H := hP
                    have hD : va_D A [(h, .inr (8, [.ref t, .ref tn, .ref tl, .ref tc, .ref ta])), (t, .inl (k 0, 4, .inl (cI q))), (tn, .inl (k 4, 4, .inr (.inr (.inr (.inr (gr4 rw)))))), ((rw 0), .inl (k 0, 80, .inl G0)), ((rw 1), .inl (k 0, 80, .inl G1)), (tl, .inl (k 0, 400, .inl lf)), (tc, .inl (k 0, 700, .inl (upd (fcI q G0 G1 lf (fcO q G0 G1 lf cf i) i j) (i * 7 + j) (clS q G0 G1 lf i j j2))))] := hD
                    rw [show upd (fcI q G0 G1 lf (fcO q G0 G1 lf cf i) i j) (i * 7 + j) (clS q G0 G1 lf i j j2) = fcI q G0 G1 lf (fcO q G0 G1 lf cf i) i (j + 1) by rw [hkN]; rfl] at hP hD
                    have hP : va_P D vwCl [(h, .inr (8, [.ref t, .ref tn, .ref tl, .ref tc, .ref ta])), (t, .inl (k 0, 4, .inl (cI q))), (tn, .inl (k 4, 4, .inr (.inr (.inr (.inr (gr4 rw)))))), ((rw 0), .inl (k 0, 80, .inl G0)), ((rw 1), .inl (k 0, 80, .inl G1)), (tl, .inl (k 0, 400, .inl lf)), (tc, .inl (k 0, 700, .inl (fcI q G0 G1 lf (fcO q G0 G1 lf cf i) i (j + 1))))] H := hP
                    have hD : va_D A [(h, .inr (8, [.ref t, .ref tn, .ref tl, .ref tc, .ref ta])), (t, .inl (k 0, 4, .inl (cI q))), (tn, .inl (k 4, 4, .inr (.inr (.inr (.inr (gr4 rw)))))), ((rw 0), .inl (k 0, 80, .inl G0)), ((rw 1), .inl (k 0, 80, .inl G1)), (tl, .inl (k 0, 400, .inl lf)), (tc, .inl (k 0, 700, .inl (fcI q G0 G1 lf (fcO q G0 G1 lf cf i) i (j + 1))))] := hD
                    refine lv_iinc (v := nI (j + 1)) (lv' := [(2, .int (nI (j + 1))), (4, .int (nI j2)), (3, .int (clS q G0 G1 lf i j j2)), (1, .int (nI i)), (0, .ref h)]) hx hb dX8_findCalm_72 hl (k := 2) rfl (nI_add j 1) (by decide) rfl (fun ls hl => ?_)
                    refine lv_goto (tgt := 10) hx hb dX8_findCalm_75 (by decide) ?_
                    exact ihL3 (j + 1) (by omega) (by omega) _ _ (hP.sub [0, 1, 2, 3, 4, 5, 6] rfl) (hD.sub [0, 1, 2, 3, 4, 5, 6] (by decide +kernel) rfl) hS ls (lv_sub hl [0, 3, 4] rfl)
                  · skip
                    refine lv_aload_n hx hb dX8_findCalm_36 rfl (lv_at hl 4 rfl) ?_
                    refine lv_iload_n hx hb dX8_findCalm_37 rfl (lv_at hl 2 rfl) ?_
                    refine lv_iload hx hb dX8_findCalm_38 (lv_at hl 0 rfl) ?_
                    refine lv_iload_n hx hb dX8_findCalm_40 rfl (lv_at hl 3 rfl) ?_
                    have hPc := hP.sub (ws' := (c_X8_isWoken k h t tn tl tc ta rw q G0 G1 lf (nI j) (nI j2) (nI i))) [0, 1, 2, 3, 4, 5] rfl
                    refine vp_callSi (va_Run.run (va_runV (As := [.int (nI j), .int (nI j2), .int (nI i)]) (rest := []) ⟨hx, hb, hml, hown, hts⟩ (X8_isWoken l D k h t tn tl tc ta rw q G0 G1 lf (nI j) (nI j2) (nI i) (hq0) (hq1)) (cwV 3 hts gX8_findCalm_X8_isWoken rfl rfl rfl (by decide +kernel) ⟨Nat.le_of_ble_eq_true rfl, Nat.le_of_ble_eq_true rfl⟩) ⟨PS.blind _ _ _ _, va_recv hG.1 hP (ci := 8) (q0 := 0) rfl rfl, PS.pre hPc hG [.ref h, .int (nI j), .int (nI j2), .int (nI i)]⟩ rfl rfl hl.1 rfl (lv_room (Nat.le_of_ble_eq_true rfl)) dX8_findCalm_41 ⟨Nat.le_of_ble_eq_true rfl, Nat.le_of_ble_eq_true rfl⟩)) (fun r hq => ?_)
                    generalize r = y7 at hq ⊢
                    have hq : y7 = wkA lf (pt (q 0) G0 (nI j2) 0) (nI i) (pt (q 1) G1 (nI j) 0) := hq
                    refine tp_i (y := wkA lf (pt (q 0) G0 (nI j2) 0) (nI i) (pt (q 1) G1 (nI j) 0)) (hq) ?_
                    refine lv_if_ne (x := wkA lf (pt (q 0) G0 (nI j2) 0) (nI i) (pt (q 1) G1 (nI j) 0)) (tgt := 54) hx hb dX8_findCalm_44 (by decide) (fun c8 => ?_) (fun c8 => ?_)
                    · skip
                      have e9 : clS q G0 G1 lf i j (j2 + 1) = clS q G0 G1 lf i j j2 := if_neg c8
                      refine lv_iinc (v := nI (j2 + 1)) (lv' := [(4, .int (nI (j2 + 1))), (3, .int (clS q G0 G1 lf i j j2)), (2, .int (nI j)), (1, .int (nI i)), (0, .ref h)]) hx hb dX8_findCalm_54 hl (k := 0) rfl (nI_add j2 1) (by decide) rfl (fun ls hl => ?_)
                      refine lv_goto (tgt := 25) hx hb dX8_findCalm_57 (by decide) ?_
                      rw [show clS q G0 G1 lf i j j2 = clS q G0 G1 lf i j (j2 + 1) from e9.symm] at hl
                      exact ihL5 (j2 + 1) (by omega) (by omega) _ _ (hP.sub [0, 1, 2, 3, 4, 5, 6] rfl) (hD.sub [0, 1, 2, 3, 4, 5, 6] (by decide +kernel) rfl) hS ls (lv_sub hl [0, 1, 2, 3, 4] rfl)
                    · skip
                      have e9 : clS q G0 G1 lf i j (j2 + 1) = clS q G0 G1 lf i j j2 ||| ((1 : Int32) <<< (nI j2 &&& 31)) := if_pos c8
                      refine lv_iload_n hx hb dX8_findCalm_47 rfl (lv_at hl 1 rfl) ?_
                      refine lv_iconst (v := 1) hx hb dX8_findCalm_48 (by decide) ?_
                      refine lv_iload hx hb dX8_findCalm_49 (lv_at hl 0 rfl) ?_
                      refine lv_ishl hx hb dX8_findCalm_51 ?_
                      refine lv_ior hx hb dX8_findCalm_52 ?_
                      refine lv_istore_n (lv' := [(3, .int ((clS q G0 G1 lf i j j2) ||| ((1 : Int32) <<< ((nI j2) &&& 31)))), (4, .int (nI j2)), (2, .int (nI j)), (1, .int (nI i)), (0, .ref h)]) hx hb dX8_findCalm_53 rfl hl (by decide) rfl (fun ls hl => ?_)
                      refine lv_iinc (v := nI (j2 + 1)) (lv' := [(4, .int (nI (j2 + 1))), (3, .int ((clS q G0 G1 lf i j j2) ||| ((1 : Int32) <<< ((nI j2) &&& 31)))), (2, .int (nI j)), (1, .int (nI i)), (0, .ref h)]) hx hb dX8_findCalm_54 hl (k := 1) rfl (nI_add j2 1) (by decide) rfl (fun ls hl => ?_)
                      refine lv_goto (tgt := 25) hx hb dX8_findCalm_57 (by decide) ?_
                      rw [show (clS q G0 G1 lf i j j2) ||| ((1 : Int32) <<< ((nI j2) &&& 31)) = clS q G0 G1 lf i j (j2 + 1) from e9.symm] at hl
                      exact ihL5 (j2 + 1) (by omega) (by omega) _ _ (hP.sub [0, 1, 2, 3, 4, 5, 6] rfl) (hD.sub [0, 1, 2, 3, 4, 5, 6] (by decide +kernel) rfl) hS ls (lv_sub hl [0, 1, 2, 3, 4] rfl)
              exact L5 _ 0 (Nat.zero_le _) (Nat.lt_succ_self _) _ _ hP hD hS ls (lv_sub hl [0, 1, 2, 3, 4] rfl)
        exact L3 _ 0 (Nat.zero_le _) (Nat.lt_succ_self _) _ _ hP hD hS ls (lv_sub hl [0, 1, 2] rfl)
  exact L1 _ 0 (Nat.zero_le _) (Nat.lt_succ_self _) _ _ hP hD hS ls (lv_sub hl [0, 1] rfl)

abbrev c_X8_isLikeTheDayAhead (k : Nat → ClassId) (h : Nat) (t : Nat) (tn : Nat) (tl : Nat) (tc : Nat) (ta : Nat) (q : Nat → Nat) (cf : Nat → Int32) (d : Nat) : va_W := [(h, .inr (8, [.ref t, .ref tn, .ref tl, .ref tc, .ref ta])), (t, .inl (k 0, 4, .inl (cI q))), (tc, .inl (k 0, 700, .inl cf))]
abbrev r_X8_isLikeTheDayAhead : Room := { frames := 0, cells := 0, slots := 0, locals := 0 }
abbrev q_X8_isLikeTheDayAhead (k : Nat → ClassId) (h : Nat) (t : Nat) (tn : Nat) (tl : Nat) (tc : Nat) (ta : Nat) (q : Nat → Nat) (cf : Nat → Int32) (d : Nat) : Array Value → State → Outcome → State → Prop := vp_Si (fun r => r = ilA q cf d)
set_option maxHeartbeats 2000000 in
set_option maxRecDepth 100000 in
theorem X8_isLikeTheDayAhead (l : Launch) (D : va_G) (k : Nat → ClassId) (h : Nat) (t : Nat) (tn : Nat) (tl : Nat) (tc : Nat) (ta : Nat) (q : Nat → Nat) (cf : Nat → Int32) (d : Nat) (hq1 : q 1 ≤ 7) (hd : 0 < d ∧ d < 100) : Met l yX8_isLikeTheDayAhead wsX8_isLikeTheDayAhead r_X8_isLikeTheDayAhead (va_Pc [.ref h, .int (nI d)] (PS D k (c_X8_isLikeTheDayAhead k h t tn tl tc ta q cf d))) (q_X8_isLikeTheDayAhead k h t tn tl tc ta q cf d) 0 0 (fun _ => False) := by
  refine Met.ofW (cc := cX8_isLikeTheDayAhead) (maxL := 4) (ret := (some .boolean)) (by decide) rfl ?_
  intro p e s m args below meth c s₁ B hml hv
  obtain ⟨rfl, hP, hG⟩ := hv
  have hx := B.exec
  have hb := B.bytes
  have hr := B.returns
  have hts := atoms_spec (ws := wsX8_isLikeTheDayAhead) B.pre
  have hown : s.vm.findClass RX8 = some m.cls := findClass_of_methodNamed B.named
  have hlocks := B.notSynchronized
  have hi8 : ∀ w ∈ wsX80, w ∈ wsX8_isLikeTheDayAhead := fun _ h => List.mem_cons_of_mem _ (List.mem_append_right _ h)
  have hP : va_P D vwCl [(h, .inr (8, [.ref t, .ref tn, .ref tl, .ref tc, .ref ta])), (t, .inl (k 0, 4, .inl (cI q))), (tc, .inl (k 0, 700, .inl cf))] s.heap := hP
  have hl := lv_entry ([.ref h, .int (nI d)]) (n := 4) (Nat.le_of_ble_eq_true rfl)
  rw [lg_entry_eq]
  generalize (lg_sl ([.ref h, .int (nI d)]) ++ List.replicate (4 - (lg_sl ([.ref h, .int (nI d)])).length) Slot.unset).toArray = ls at hl ⊢
  have hl : lv_has ls 4 [(0, .ref h), (1, .int (nI d))] := hl
  refine lv_iload_n hx hb dX8_isLikeTheDayAhead_0 rfl (lv_at hl 1 rfl) ?_
  refine lv_bipush (v := 7) hx hb dX8_isLikeTheDayAhead_1 (by decide) ?_
  refine lv_imul hx hb dX8_isLikeTheDayAhead_3 ?_
  refine tp_i (y := nI (d * 7)) (pk_mul d 7) ?_
  refine lv_istore_n (lv' := [(2, .int (nI (d * 7))), (0, .ref h), (1, .int (nI d))]) hx hb dX8_isLikeTheDayAhead_4 rfl hl (by decide) rfl (fun ls hl => ?_)
  refine lv_iconst (v := 0) hx hb dX8_isLikeTheDayAhead_5 (by decide) ?_
  refine lv_istore_n (lv' := [(3, .int 0), (2, .int (nI (d * 7))), (0, .ref h), (1, .int (nI d))]) hx hb dX8_isLikeTheDayAhead_6 rfl hl (by decide) rfl (fun ls hl => ?_)
  have L1 : ∀ (fu9 : Nat) (i : Nat), (i ≤ q 1) → (rn (ilP cf d) (q 1) i = rn (ilP cf d) (q 1) 0) → q 1 - i < fu9 → ∀ (ls : Array Slot), lv_has ls 4 [(3, .int (nI i)), (2, .int (nI (d * 7))), (0, .ref h), (1, .int (nI d))] → W p l e r_X8_isLikeTheDayAhead s m ([.ref h, .int (nI d)] : List Value).toArray below meth c s.heap [] 0 0 (MQ below (q_X8_isLikeTheDayAhead k h t tn tl tc ta q cf d) ([.ref h, .int (nI d)] : List Value).toArray s 0 0 (fun _ => False)) (F0 m 7 ls []) := by
    intro fu9
    induction fu9 with
    | zero => intro i hi he hmu; exact absurd hmu (Nat.not_lt_zero _)
    | succ fu9 ih =>
      intro i hi he hmu ls hl
      refine lv_iload_n hx hb dX8_isLikeTheDayAhead_7 rfl (lv_at hl 0 rfl) ?_
      refine lv_aload_n hx hb dX8_isLikeTheDayAhead_8 rfl (lv_at hl 2 rfl) ?_
      refine va_get (D := D) (ci := 8) (v := .ref t) (C := RX8) (T := TX8) (N := 5) hx hb hts hi8 hown hG.1 hP 0 rfl rfl 0 (by decide) (hts (.fieldLink RX8 9 "SleptMatters$Town" "counts" "[I") (List.mem_cons_of_mem _ (List.mem_append_left _ (List.mem_of_getElem? (i := 0) rfl)))) (fun _ h9 => h9) rfl dX8_isLikeTheDayAhead_9 ?_
      refine lv_iconst (v := 1) hx hb dX8_isLikeTheDayAhead_12 (by decide) ?_
      refine va_iald hx hb hG.1 hP 1 0 rfl rfl (vp_in_nI (n := 1) (by omega) (by omega)) dX8_isLikeTheDayAhead_13 ?_
      refine tp_i (y := nI (q 1)) (rfl) ?_
      refine bn_ge (i := i) (j := q 1) (tgt := 47) hx hb dX8_isLikeTheDayAhead_14 (by decide) (by omega) (by omega) (fun c2 => ?_) (fun c2 => ?_)
      · skip
        have e8 : rn (ilP cf d) (q 1) i = i := rn_stop (fun hh => by have := hh.1; omega)
        have e7 : ilA q cf d = 1 := if_pos (by rw [← he, e8]; omega)
        refine lv_iconst (v := 1) hx hb dX8_isLikeTheDayAhead_47 (by decide) ?_
        exact W.zret (v := 1) hx hb hr (rfl) (fun t9 ht _ => ⟨1, rfl, e7.symm, ht⟩) (fun q h => by cases h) dX8_isLikeTheDayAhead_48
      · skip
        refine lv_aload_n hx hb dX8_isLikeTheDayAhead_17 rfl (lv_at hl 2 rfl) ?_
        refine va_get (D := D) (ci := 8) (v := .ref tc) (C := RX8) (T := TX8) (N := 5) hx hb hts hi8 hown hG.1 hP 0 rfl rfl 3 (by decide) (hts (.fieldLink RX8 23 "SleptMatters$Town" "calm" "[I") (List.mem_cons_of_mem _ (List.mem_append_left _ (List.mem_of_getElem? (i := 1) rfl)))) (fun _ h9 => h9) rfl dX8_isLikeTheDayAhead_18 ?_
        refine lv_iload_n hx hb dX8_isLikeTheDayAhead_21 rfl (lv_at hl 1 rfl) ?_
        refine lv_iload_n hx hb dX8_isLikeTheDayAhead_22 rfl (lv_at hl 0 rfl) ?_
        refine lv_iadd hx hb dX8_isLikeTheDayAhead_23 ?_
        refine tp_i (y := nI (d * 7 + i)) (nI_add (d * 7) i) ?_
        refine va_iald hx hb hG.1 hP 2 0 rfl rfl (vp_in_nI (by omega) (by omega)) dX8_isLikeTheDayAhead_24 ?_
        refine tp_i (y := cf (d * 7 + i)) (congrArg _ (nI_clamp (n := d * 7 + i) (by omega))) ?_
        refine lv_aload_n hx hb dX8_isLikeTheDayAhead_25 rfl (lv_at hl 2 rfl) ?_
        refine va_get (D := D) (ci := 8) (v := .ref tc) (C := RX8) (T := TX8) (N := 5) hx hb hts hi8 hown hG.1 hP 0 rfl rfl 3 (by decide) (hts (.fieldLink RX8 23 "SleptMatters$Town" "calm" "[I") (List.mem_cons_of_mem _ (List.mem_append_left _ (List.mem_of_getElem? (i := 1) rfl)))) (fun _ h9 => h9) rfl dX8_isLikeTheDayAhead_26 ?_
        refine lv_iload_n hx hb dX8_isLikeTheDayAhead_29 rfl (lv_at hl 1 rfl) ?_
        refine lv_bipush (v := 7) hx hb dX8_isLikeTheDayAhead_30 (by decide) ?_
        refine lv_isub hx hb dX8_isLikeTheDayAhead_32 ?_
        refine tp_i (y := nI (d * 7 - 7)) (pk_sub (b := 7) (by omega)) ?_
        refine lv_iload_n hx hb dX8_isLikeTheDayAhead_33 rfl (lv_at hl 0 rfl) ?_
        refine lv_iadd hx hb dX8_isLikeTheDayAhead_34 ?_
        refine tp_i (y := nI (d * 7 - 7 + i)) (nI_add (d * 7 - 7) i) ?_
        refine va_iald hx hb hG.1 hP 2 0 rfl rfl (vp_in_nI (by omega) (by omega)) dX8_isLikeTheDayAhead_35 ?_
        refine tp_i (y := cf (d * 7 - 7 + i)) (congrArg _ (nI_clamp (n := d * 7 - 7 + i) (by omega))) ?_
        refine lv_icmp_eq (x := cf (d * 7 + i)) (y := cf (d * 7 - 7 + i)) (tgt := 41) hx hb dX8_isLikeTheDayAhead_36 (by decide) (fun c3 => ?_) (fun c3 => ?_)
        · skip
          have e9 : ilP cf d i = true := decide_eq_true c3
          refine lv_iinc (v := nI (i + 1)) (lv' := [(3, .int (nI (i + 1))), (2, .int (nI (d * 7))), (0, .ref h), (1, .int (nI d))]) hx hb dX8_isLikeTheDayAhead_41 hl (k := 0) rfl (nI_add i 1) (by decide) rfl (fun ls hl => ?_)
          refine lv_goto (tgt := 7) hx hb dX8_isLikeTheDayAhead_44 (by decide) ?_
          exact ih (i + 1) (by omega) ((rn_step (by omega) e9).symm.trans he) (by omega) ls (lv_sub hl [0, 1, 2, 3] rfl)
        · skip
          have e8 : rn (ilP cf d) (q 1) i = i := rn_stop (fun hh => c3 (of_decide_eq_true hh.2))
          have e7 : ilA q cf d = 0 := if_neg (by rw [← he, e8]; omega)
          refine lv_iconst (v := 0) hx hb dX8_isLikeTheDayAhead_39 (by decide) ?_
          exact W.zret (v := 0) hx hb hr (rfl) (fun t9 ht _ => ⟨0, rfl, e7.symm, ht⟩) (fun q h => by cases h) dX8_isLikeTheDayAhead_40
  exact L1 _ 0 (Nat.zero_le _) (rfl) (Nat.lt_succ_self _) ls (lv_sub hl [0, 1, 2, 3] rfl)

abbrev c_X8_countAlike (k : Nat → ClassId) (h : Nat) (t : Nat) (tn : Nat) (tl : Nat) (tc : Nat) (ta : Nat) (q : Nat → Nat) (al : Nat → Nat) (cf : Nat → Int32) : va_W := [(h, .inr (8, [.ref t, .ref tn, .ref tl, .ref tc, .ref ta])), (t, .inl (k 0, 4, .inl (cI q))), (tc, .inl (k 0, 700, .inl cf)), (ta, .inl (k 0, 100, .inl (cI al)))]
abbrev r_X8_countAlike : Room := { frames := 1, cells := 0, slots := 0, locals := 23 }
def w_X8_countAlike (k : Nat → ClassId) (h : Nat) (t : Nat) (tn : Nat) (tl : Nat) (tc : Nat) (ta : Nat) (q : Nat → Nat) (al : Nat → Nat) (cf : Nat → Int32) : Unit → va_W := fun _ => [(h, .inr (8, [.ref t, .ref tn, .ref tl, .ref tc, .ref ta])), (t, .inl (k 0, 4, .inl (cI q))), (tc, .inl (k 0, 700, .inl cf)), (ta, .inl (k 0, 100, .inl (cI (caI q cf al 100))))]
def p_X8_countAlike (k : Nat → ClassId) (h : Nat) (t : Nat) (tn : Nat) (tl : Nat) (tc : Nat) (ta : Nat) (q : Nat → Nat) (al : Nat → Nat) (cf : Nat → Int32) : Unit → Prop := fun (u : Unit) => True
abbrev q_X8_countAlike (D : va_G) (k : Nat → ClassId) (h : Nat) (t : Nat) (tn : Nat) (tl : Nat) (tc : Nat) (ta : Nat) (q : Nat → Nat) (al : Nat → Nat) (cf : Nat → Int32) (A : Nat → Prop) : Array Value → State → Outcome → State → Prop := va_Qv (p_X8_countAlike k h t tn tl tc ta q al cf) (fun u9 t9 => BO D (w_X8_countAlike k h t tn tl tc ta q al cf u9) A t9) A
set_option maxHeartbeats 2000000 in
set_option maxRecDepth 100000 in
theorem X8_countAlike (l : Launch) (D : va_G) (k : Nat → ClassId) (sz : Nat) (h : Nat) (t : Nat) (tn : Nat) (tl : Nat) (tc : Nat) (ta : Nat) (q : Nat → Nat) (al : Nat → Nat) (cf : Nat → Int32) (hq1 : q 1 ≤ 7) : Met l yX8_countAlike wsX8_countAlike r_X8_countAlike (va_Pc [.ref h] (PR D k (c_X8_countAlike k h t tn tl tc ta q al cf) sz)) (q_X8_countAlike D k h t tn tl tc ta q al cf (va_A (c_X8_countAlike k h t tn tl tc ta q al cf) sz)) 0 0 (va_A (c_X8_countAlike k h t tn tl tc ta q al cf) sz) := by
  refine Met.ofW (cc := cX8_countAlike) (maxL := 2) (ret := none) (by decide) rfl ?_
  intro p e s m args below meth c s₁ B hml hv
  obtain ⟨rfl, hsz, hP, hG, hD0⟩ := hv
  have hx := B.exec
  have hb := B.bytes
  have hr := B.returns
  have hts := atoms_spec (ws := wsX8_countAlike) B.pre
  have hown : s.vm.findClass RX8 = some m.cls := findClass_of_methodNamed B.named
  have hlocks := B.notSynchronized
  have hi8 : ∀ w ∈ wsX80, w ∈ wsX8_countAlike := fun _ h => List.mem_cons_of_mem _ (List.mem_append_right _ h)
  subst hsz
  have hD := hD0.self (sz := s.heap.size)
  generalize hAe : va_A (c_X8_countAlike k h t tn tl tc ta q al cf) s.heap.size = A at hD ⊢
  have hA : ∀ q : Nat, s.heap.size ≤ q → A q := fun q h => by rw [← hAe]; exact Or.inr h
  have hS : va_S A s.heap s.heap [] := va_S.rf
  have hP : va_P D vwCl [(h, .inr (8, [.ref t, .ref tn, .ref tl, .ref tc, .ref ta])), (t, .inl (k 0, 4, .inl (cI q))), (tc, .inl (k 0, 700, .inl cf)), (ta, .inl (k 0, 100, .inl (cI al)))] s.heap := hP
  have hD : va_D A [(h, .inr (8, [.ref t, .ref tn, .ref tl, .ref tc, .ref ta])), (t, .inl (k 0, 4, .inl (cI q))), (tc, .inl (k 0, 700, .inl cf)), (ta, .inl (k 0, 100, .inl (cI al)))] := hD
  have hl := lv_entry ([.ref h]) (n := 2) (Nat.le_of_ble_eq_true rfl)
  rw [lg_entry_eq]
  generalize (lg_sl ([.ref h]) ++ List.replicate (2 - (lg_sl ([.ref h])).length) Slot.unset).toArray = ls at hl ⊢
  have hl : lv_has ls 2 [(0, .ref h)] := hl
  refine lv_iconst (v := 0) hx hb dX8_countAlike_0 (by decide) ?_
  refine lv_istore_n (lv' := [(1, .int 0), (0, .ref h)]) hx hb dX8_countAlike_1 rfl hl (by decide) rfl (fun ls hl => ?_)
  have L1 : ∀ (fu9 : Nat) (i : Nat), (i ≤ 100) → 100 - i < fu9 → ∀ (H : Heap) (locs : List Loc), va_P D vwCl [(h, .inr (8, [.ref t, .ref tn, .ref tl, .ref tc, .ref ta])), (t, .inl (k 0, 4, .inl (cI q))), (tc, .inl (k 0, 700, .inl cf)), (ta, .inl (k 0, 100, .inl (cI (caI q cf al i))))] H → va_D A [(h, .inr (8, [.ref t, .ref tn, .ref tl, .ref tc, .ref ta])), (t, .inl (k 0, 4, .inl (cI q))), (tc, .inl (k 0, 700, .inl cf)), (ta, .inl (k 0, 100, .inl (cI (caI q cf al i))))] → va_S A s.heap H locs → ∀ (ls : Array Slot), lv_has ls 2 [(1, .int (nI i)), (0, .ref h)] → W p l e r_X8_countAlike s m ([.ref h] : List Value).toArray below meth c H locs 0 0 (MQ below (q_X8_countAlike D k h t tn tl tc ta q al cf A) ([.ref h] : List Value).toArray s 0 0 A) (F0 m 2 ls []) := by
    intro fu9
    induction fu9 with
    | zero => intro i hi hmu; exact absurd hmu (Nat.not_lt_zero _)
    | succ fu9 ih =>
      intro i hi hmu H locs hP hD hS ls hl
      refine lv_iload_n hx hb dX8_countAlike_2 rfl (lv_at hl 0 rfl) ?_
      refine lv_bipush (v := 100) hx hb dX8_countAlike_3 (by decide) ?_
      refine bn_ge (i := i) (j := 100) (tgt := 46) hx hb dX8_countAlike_5 (by decide) (by omega) (by omega) (fun c2 => ?_) (fun c2 => ?_)
      · skip
        have hiN : i = 100 := by omega
        rw [hiN] at hP hD
        have hP9 := hP.sub (ws' := [(h, .inr (8, [.ref t, .ref tn, .ref tl, .ref tc, .ref ta])), (t, .inl (k 0, 4, .inl (cI q))), (tc, .inl (k 0, 700, .inl cf)), (ta, .inl (k 0, 100, .inl (cI (caI q cf al 100))))]) [0, 1, 2, 3] rfl
        have hD9 := hD.sub (ws' := [(h, .inr (8, [.ref t, .ref tn, .ref tl, .ref tc, .ref ta])), (t, .inl (k 0, 4, .inl (cI q))), (tc, .inl (k 0, 700, .inl cf)), (ta, .inl (k 0, 100, .inl (cI (caI q cf al 100))))]) [0, 1, 2, 3] (by decide +kernel) rfl
        exact W.vret hx hb hr (fun t9 ht _ => ⟨⟨(), rfl, trivial, by rw [ht]; exact hP9, hD9⟩, hS.F ht⟩) hS.2.2 dX8_countAlike_46
      · skip
        refine lv_aload_n hx hb dX8_countAlike_8 rfl (lv_at hl 1 rfl) ?_
        refine va_get (D := D) (ci := 8) (v := .ref ta) (C := RX8) (T := TX8) (N := 5) hx hb hts hi8 hown hG.1 hP 0 rfl rfl 4 (by decide) (hts (.fieldLink RX8 26 "SleptMatters$Town" "alike" "[I") (List.mem_cons_of_mem _ (List.mem_append_left _ (List.mem_of_getElem? (i := 0) rfl)))) (fun _ h9 => h9) rfl dX8_countAlike_9 ?_
        refine lv_iload_n hx hb dX8_countAlike_12 rfl (lv_at hl 0 rfl) ?_
        refine lv_iload_n hx hb dX8_countAlike_13 rfl (lv_at hl 0 rfl) ?_
        refine lv_if_le (x := nI i) (tgt := 38) hx hb dX8_countAlike_14 (by decide) (fun c3 => ?_) (fun c3 => ?_)
        · skip
          have k0 : i = 0 := by have h8 := (nI_leI (a := i) (b := 0) (by omega) (by decide)).mp c3; omega
          refine lv_iconst (v := 1) hx hb dX8_countAlike_38 (by decide) ?_
          refine va_iast hx hb hG.1 hP hD hS 3 0 rfl rfl (vp_in_nI (by omega) (by omega)) dX8_countAlike_39 (fun H locs hP hD hS => ?_)
          rw [nI_clamp (n := i) (by omega)] at hP hD
          have hP : va_P D vwCl [(h, .inr (8, [.ref t, .ref tn, .ref tl, .ref tc, .ref ta])), (t, .inl (k 0, 4, .inl (cI q))), (tc, .inl (k 0, 700, .inl cf)), (ta, .inl (k 0, 100, .inl (upd (cI (caI q cf al i)) i 1)))] H := hP
          have hD : va_D A [(h, .inr (8, [.ref t, .ref tn, .ref tl, .ref tc, .ref ta])), (t, .inl (k 0, 4, .inl (cI q))), (tc, .inl (k 0, 700, .inl cf)), (ta, .inl (k 0, 100, .inl (upd (cI (caI q cf al i)) i 1)))] := hD
          rw [ca_s (x := 1) (v := 1) rfl (if_pos k0)] at hP hD
          have hP : va_P D vwCl [(h, .inr (8, [.ref t, .ref tn, .ref tl, .ref tc, .ref ta])), (t, .inl (k 0, 4, .inl (cI q))), (tc, .inl (k 0, 700, .inl cf)), (ta, .inl (k 0, 100, .inl (cI (caI q cf al (i + 1)))))] H := hP
          have hD : va_D A [(h, .inr (8, [.ref t, .ref tn, .ref tl, .ref tc, .ref ta])), (t, .inl (k 0, 4, .inl (cI q))), (tc, .inl (k 0, 700, .inl cf)), (ta, .inl (k 0, 100, .inl (cI (caI q cf al (i + 1)))))] := hD
          refine lv_iinc (v := nI (i + 1)) (lv' := [(1, .int (nI (i + 1))), (0, .ref h)]) hx hb dX8_countAlike_40 hl (k := 0) rfl (nI_add i 1) (by decide) rfl (fun ls hl => ?_)
          refine lv_goto (tgt := 2) hx hb dX8_countAlike_43 (by decide) ?_
          exact ih (i + 1) (by omega) (by omega) _ _ (hP.sub [0, 1, 2, 3] rfl) (hD.sub [0, 1, 2, 3] (by decide +kernel) rfl) hS ls (lv_sub hl [0, 1] rfl)
        · skip
          have k0 : ¬ i = 0 := fun q9 => c3 (by rw [q9]; decide)
          refine lv_aload_n hx hb dX8_countAlike_17 rfl (lv_at hl 1 rfl) ?_
          refine lv_iload_n hx hb dX8_countAlike_18 rfl (lv_at hl 0 rfl) ?_
          have hPc := hP.sub (ws' := (c_X8_isLikeTheDayAhead k h t tn tl tc ta q cf i)) [0, 1, 2] rfl
          refine vp_callSi (va_Run.run (va_runV (As := [.int (nI i)]) (rest := [.int (nI i), .ref ta]) ⟨hx, hb, hml, hown, hts⟩ (X8_isLikeTheDayAhead l D k h t tn tl tc ta q cf i (hq1) (by omega)) (cwV 1 hts gX8_countAlike_X8_isLikeTheDayAhead rfl rfl rfl (by decide +kernel) ⟨Nat.le_of_ble_eq_true rfl, Nat.le_of_ble_eq_true rfl⟩) ⟨PS.blind _ _ _ _, va_recv hG.1 hP (ci := 8) (q0 := 0) rfl rfl, PS.pre hPc hG [.ref h, .int (nI i)]⟩ rfl rfl hl.1 rfl (lv_room (Nat.le_of_ble_eq_true rfl)) dX8_countAlike_19 ⟨Nat.le_of_ble_eq_true rfl, Nat.le_of_ble_eq_true rfl⟩)) (fun r hq => ?_)
          generalize r = y4 at hq ⊢
          have hq : y4 = ilA q cf i := hq
          refine tp_i (y := ilA q cf i) (hq) ?_
          refine lv_if_eq (x := ilA q cf i) (tgt := 38) hx hb dX8_countAlike_22 (by decide) (fun c5 => ?_) (fun c5 => ?_)
          · skip
            have k1 := c5
            refine lv_iconst (v := 1) hx hb dX8_countAlike_38 (by decide) ?_
            refine va_iast hx hb hG.1 hP hD hS 3 0 rfl rfl (vp_in_nI (by omega) (by omega)) dX8_countAlike_39 (fun H locs hP hD hS => ?_)
            rw [nI_clamp (n := i) (by omega)] at hP hD
            have hP : va_P D vwCl [(h, .inr (8, [.ref t, .ref tn, .ref tl, .ref tc, .ref ta])), (t, .inl (k 0, 4, .inl (cI q))), (tc, .inl (k 0, 700, .inl cf)), (ta, .inl (k 0, 100, .inl (upd (cI (caI q cf al i)) i 1)))] H := hP
            have hD : va_D A [(h, .inr (8, [.ref t, .ref tn, .ref tl, .ref tc, .ref ta])), (t, .inl (k 0, 4, .inl (cI q))), (tc, .inl (k 0, 700, .inl cf)), (ta, .inl (k 0, 100, .inl (upd (cI (caI q cf al i)) i 1)))] := hD
            rw [ca_s (x := 1) (v := 1) rfl ((if_neg k0).trans (if_pos k1))] at hP hD
            have hP : va_P D vwCl [(h, .inr (8, [.ref t, .ref tn, .ref tl, .ref tc, .ref ta])), (t, .inl (k 0, 4, .inl (cI q))), (tc, .inl (k 0, 700, .inl cf)), (ta, .inl (k 0, 100, .inl (cI (caI q cf al (i + 1)))))] H := hP
            have hD : va_D A [(h, .inr (8, [.ref t, .ref tn, .ref tl, .ref tc, .ref ta])), (t, .inl (k 0, 4, .inl (cI q))), (tc, .inl (k 0, 700, .inl cf)), (ta, .inl (k 0, 100, .inl (cI (caI q cf al (i + 1)))))] := hD
            refine lv_iinc (v := nI (i + 1)) (lv' := [(1, .int (nI (i + 1))), (0, .ref h)]) hx hb dX8_countAlike_40 hl (k := 0) rfl (nI_add i 1) (by decide) rfl (fun ls hl => ?_)
            refine lv_goto (tgt := 2) hx hb dX8_countAlike_43 (by decide) ?_
            exact ih (i + 1) (by omega) (by omega) _ _ (hP.sub [0, 1, 2, 3] rfl) (hD.sub [0, 1, 2, 3] (by decide +kernel) rfl) hS ls (lv_sub hl [0, 1] rfl)
          · skip
            have k1 := c5
            refine lv_aload_n hx hb dX8_countAlike_25 rfl (lv_at hl 1 rfl) ?_
            refine va_get (D := D) (ci := 8) (v := .ref ta) (C := RX8) (T := TX8) (N := 5) hx hb hts hi8 hown hG.1 hP 0 rfl rfl 4 (by decide) (hts (.fieldLink RX8 26 "SleptMatters$Town" "alike" "[I") (List.mem_cons_of_mem _ (List.mem_append_left _ (List.mem_of_getElem? (i := 0) rfl)))) (fun _ h9 => h9) rfl dX8_countAlike_26 ?_
            refine lv_iload_n hx hb dX8_countAlike_29 rfl (lv_at hl 0 rfl) ?_
            refine lv_iconst (v := 1) hx hb dX8_countAlike_30 (by decide) ?_
            refine lv_isub hx hb dX8_countAlike_31 ?_
            refine tp_i (y := nI (i - 1)) (pk_sub (b := 1) (by omega)) ?_
            refine va_iald hx hb hG.1 hP 3 0 rfl rfl (vp_in_nI (by omega) (by omega)) dX8_countAlike_32 ?_
            refine tp_i (y := nI (caI q cf al i (i - 1))) (congrArg (cI (caI q cf al i)) (nI_clamp (n := i - 1) (by omega))) ?_
            refine lv_iconst (v := 1) hx hb dX8_countAlike_33 (by decide) ?_
            refine lv_iadd hx hb dX8_countAlike_34 ?_
            refine tp_i (y := nI (caI q cf al i (i - 1) + 1)) (nI_add (caI q cf al i (i - 1)) 1) ?_
            refine lv_goto (tgt := 39) hx hb dX8_countAlike_35 (by decide) ?_
            refine va_iast hx hb hG.1 hP hD hS 3 0 rfl rfl (vp_in_nI (by omega) (by omega)) dX8_countAlike_39 (fun H locs hP hD hS => ?_)
            rw [nI_clamp (n := i) (by omega)] at hP hD
            have hP : va_P D vwCl [(h, .inr (8, [.ref t, .ref tn, .ref tl, .ref tc, .ref ta])), (t, .inl (k 0, 4, .inl (cI q))), (tc, .inl (k 0, 700, .inl cf)), (ta, .inl (k 0, 100, .inl (upd (cI (caI q cf al i)) i (nI (caI q cf al i (i - 1) + 1)))))] H := hP
            have hD : va_D A [(h, .inr (8, [.ref t, .ref tn, .ref tl, .ref tc, .ref ta])), (t, .inl (k 0, 4, .inl (cI q))), (tc, .inl (k 0, 700, .inl cf)), (ta, .inl (k 0, 100, .inl (upd (cI (caI q cf al i)) i (nI (caI q cf al i (i - 1) + 1)))))] := hD
            rw [ca_s rfl ((if_neg k0).trans (if_neg k1))] at hP hD
            have hP : va_P D vwCl [(h, .inr (8, [.ref t, .ref tn, .ref tl, .ref tc, .ref ta])), (t, .inl (k 0, 4, .inl (cI q))), (tc, .inl (k 0, 700, .inl cf)), (ta, .inl (k 0, 100, .inl (cI (caI q cf al (i + 1)))))] H := hP
            have hD : va_D A [(h, .inr (8, [.ref t, .ref tn, .ref tl, .ref tc, .ref ta])), (t, .inl (k 0, 4, .inl (cI q))), (tc, .inl (k 0, 700, .inl cf)), (ta, .inl (k 0, 100, .inl (cI (caI q cf al (i + 1)))))] := hD
            refine lv_iinc (v := nI (i + 1)) (lv' := [(1, .int (nI (i + 1))), (0, .ref h)]) hx hb dX8_countAlike_40 hl (k := 0) rfl (nI_add i 1) (by decide) rfl (fun ls hl => ?_)
            refine lv_goto (tgt := 2) hx hb dX8_countAlike_43 (by decide) ?_
            exact ih (i + 1) (by omega) (by omega) _ _ (hP.sub [0, 1, 2, 3] rfl) (hD.sub [0, 1, 2, 3] (by decide +kernel) rfl) hS ls (lv_sub hl [0, 1] rfl)
  exact L1 _ 0 (Nat.zero_le _) (Nat.lt_succ_self _) _ _ hP hD hS ls (lv_sub hl [0, 1] rfl)
