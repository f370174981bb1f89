set_option maxRecDepth 20000 in
theorem ggX2_score_X8_count : GoodIn wsX2_score wsX8_count := goodIn_r _ [13, 14, 34, 35, 36, 37, 38] rfl (by decide +kernel)
set_option maxRecDepth 20000 in
theorem gX2_score_X8_count : GoodIn wsX2_score (wsV RX2 79 RX8 yX8_count wsX8_count) := goodIn_app (goodIn_of _ (by decide +kernel)) ggX2_score_X8_count
set_option maxRecDepth 20000 in
theorem ggX2_score_X8_part : GoodIn wsX2_score wsX8_part := goodIn_r _ [18, 19, 20, 21, 22, 12, 23, 14, 34, 35, 36, 37, 38] rfl (by decide +kernel)
set_option maxRecDepth 20000 in
theorem gX2_score_X8_part : GoodIn wsX2_score (wsV RX2 61 RX8 yX8_part wsX8_part) := goodIn_app (goodIn_of _ (by decide +kernel)) ggX2_score_X8_part
theorem dX2_score_0 : decode cX2_score 0 = .ok (.aload_n 0, 1) := dc_Bk (by decide +kernel)
theorem dX2_score_1 : decode cX2_score 1 = .ok (.getfield 33, 3) := dc_Bk (by decide +kernel)
theorem dX2_score_4 : decode cX2_score 4 = .ok (.ineg, 1) := dc_Bk (by decide +kernel)
theorem dX2_score_5 : decode cX2_score 5 = .ok (.istore_n 2, 1) := dc_Bk (by decide +kernel)
theorem dX2_score_6 : decode cX2_score 6 = .ok (.iconst 0, 1) := dc_Bk (by decide +kernel)
theorem dX2_score_7 : decode cX2_score 7 = .ok (.istore_n 3, 1) := dc_Bk (by decide +kernel)
theorem dX2_score_8 : decode cX2_score 8 = .ok (.iload_n 3, 1) := dc_Bk (by decide +kernel)
theorem dX2_score_9 : decode cX2_score 9 = .ok (.aload_n 1, 1) := dc_Bk (by decide +kernel)
theorem dX2_score_10 : decode cX2_score 10 = .ok (.iconst 3, 1) := dc_Bk (by decide +kernel)
theorem dX2_score_11 : decode cX2_score 11 = .ok (.invokevirtual 79, 3) := dc_Bk (by decide +kernel)
theorem dX2_score_14 : decode cX2_score 14 = .ok (.if_icmp .ge 107, 3) := dc_Bk (by decide +kernel)
theorem dX2_score_17 : decode cX2_score 17 = .ok (.aload_n 1, 1) := dc_Bk (by decide +kernel)
theorem dX2_score_18 : decode cX2_score 18 = .ok (.iconst 3, 1) := dc_Bk (by decide +kernel)
theorem dX2_score_19 : decode cX2_score 19 = .ok (.iload_n 3, 1) := dc_Bk (by decide +kernel)
theorem dX2_score_20 : decode cX2_score 20 = .ok (.iconst 0, 1) := dc_Bk (by decide +kernel)
theorem dX2_score_21 : decode cX2_score 21 = .ok (.invokevirtual 61, 3) := dc_Bk (by decide +kernel)
theorem dX2_score_24 : decode cX2_score 24 = .ok (.istore 4, 2) := dc_Bk (by decide +kernel)
theorem dX2_score_26 : decode cX2_score 26 = .ok (.aload_n 0, 1) := dc_Bk (by decide +kernel)
theorem dX2_score_27 : decode cX2_score 27 = .ok (.getfield 21, 3) := dc_Bk (by decide +kernel)
theorem dX2_score_30 : decode cX2_score 30 = .ok (.iload_n 3, 1) := dc_Bk (by decide +kernel)
theorem dX2_score_31 : decode cX2_score 31 = .ok (.iaload, 1) := dc_Bk (by decide +kernel)
theorem dX2_score_32 : decode cX2_score 32 = .ok (.ifCond .ne 15, 3) := dc_Bk (by decide +kernel)
theorem dX2_score_35 : decode cX2_score 35 = .ok (.aload_n 0, 1) := dc_Bk (by decide +kernel)
theorem dX2_score_36 : decode cX2_score 36 = .ok (.getfield 37, 3) := dc_Bk (by decide +kernel)
theorem dX2_score_39 : decode cX2_score 39 = .ok (.iload 4, 2) := dc_Bk (by decide +kernel)
theorem dX2_score_41 : decode cX2_score 41 = .ok (.invokestatic 144, 3) := dc_Bk (by decide +kernel)
theorem dX2_score_44 : decode cX2_score 44 = .ok (.goto 9, 3) := dc_Bk (by decide +kernel)
theorem dX2_score_47 : decode cX2_score 47 = .ok (.aload_n 0, 1) := dc_Bk (by decide +kernel)
theorem dX2_score_48 : decode cX2_score 48 = .ok (.getfield 24, 3) := dc_Bk (by decide +kernel)
theorem dX2_score_51 : decode cX2_score 51 = .ok (.iload_n 3, 1) := dc_Bk (by decide +kernel)
theorem dX2_score_52 : decode cX2_score 52 = .ok (.iaload, 1) := dc_Bk (by decide +kernel)
theorem dX2_score_53 : decode cX2_score 53 = .ok (.istore 5, 2) := dc_Bk (by decide +kernel)
theorem dX2_score_55 : decode cX2_score 55 = .ok (.iload_n 2, 1) := dc_Bk (by decide +kernel)
theorem dX2_score_56 : decode cX2_score 56 = .ok (.aload_n 1, 1) := dc_Bk (by decide +kernel)
theorem dX2_score_57 : decode cX2_score 57 = .ok (.iconst 3, 1) := dc_Bk (by decide +kernel)
theorem dX2_score_58 : decode cX2_score 58 = .ok (.iload_n 3, 1) := dc_Bk (by decide +kernel)
theorem dX2_score_59 : decode cX2_score 59 = .ok (.iconst 3, 1) := dc_Bk (by decide +kernel)
theorem dX2_score_60 : decode cX2_score 60 = .ok (.invokevirtual 61, 3) := dc_Bk (by decide +kernel)
theorem dX2_score_63 : decode cX2_score 63 = .ok (.iload 5, 2) := dc_Bk (by decide +kernel)
theorem dX2_score_65 : decode cX2_score 65 = .ok (.iload 4, 2) := dc_Bk (by decide +kernel)
theorem dX2_score_67 : decode cX2_score 67 = .ok (.isub, 1) := dc_Bk (by decide +kernel)
theorem dX2_score_68 : decode cX2_score 68 = .ok (.imul, 1) := dc_Bk (by decide +kernel)
theorem dX2_score_69 : decode cX2_score 69 = .ok (.isub, 1) := dc_Bk (by decide +kernel)
theorem dX2_score_70 : decode cX2_score 70 = .ok (.istore_n 2, 1) := dc_Bk (by decide +kernel)
theorem dX2_score_71 : decode cX2_score 71 = .ok (.aload_n 0, 1) := dc_Bk (by decide +kernel)
theorem dX2_score_72 : decode cX2_score 72 = .ok (.getfield 21, 3) := dc_Bk (by decide +kernel)
theorem dX2_score_75 : decode cX2_score 75 = .ok (.iload_n 3, 1) := dc_Bk (by decide +kernel)
theorem dX2_score_76 : decode cX2_score 76 = .ok (.iaload, 1) := dc_Bk (by decide +kernel)
theorem dX2_score_77 : decode cX2_score 77 = .ok (.iconst 1, 1) := dc_Bk (by decide +kernel)
theorem dX2_score_78 : decode cX2_score 78 = .ok (.if_icmp .ne 19, 3) := dc_Bk (by decide +kernel)
theorem dX2_score_81 : decode cX2_score 81 = .ok (.iload 5, 2) := dc_Bk (by decide +kernel)
theorem dX2_score_83 : decode cX2_score 83 = .ok (.aload_n 1, 1) := dc_Bk (by decide +kernel)
theorem dX2_score_84 : decode cX2_score 84 = .ok (.iconst 3, 1) := dc_Bk (by decide +kernel)
theorem dX2_score_85 : decode cX2_score 85 = .ok (.iload_n 3, 1) := dc_Bk (by decide +kernel)
theorem dX2_score_86 : decode cX2_score 86 = .ok (.iconst 1, 1) := dc_Bk (by decide +kernel)
theorem dX2_score_87 : decode cX2_score 87 = .ok (.invokevirtual 61, 3) := dc_Bk (by decide +kernel)
theorem dX2_score_90 : decode cX2_score 90 = .ok (.if_icmp .gt 7, 3) := dc_Bk (by decide +kernel)
theorem dX2_score_93 : decode cX2_score 93 = .ok (.iconst 1, 1) := dc_Bk (by decide +kernel)
theorem dX2_score_94 : decode cX2_score 94 = .ok (.goto 4, 3) := dc_Bk (by decide +kernel)
theorem dX2_score_97 : decode cX2_score 97 = .ok (.iconst 0, 1) := dc_Bk (by decide +kernel)
theorem dX2_score_98 : decode cX2_score 98 = .ok (.istore 6, 2) := dc_Bk (by decide +kernel)
theorem dX2_score_100 : decode cX2_score 100 = .ok (.iload 6, 2) := dc_Bk (by decide +kernel)
theorem dX2_score_102 : decode cX2_score 102 = .ok (.ifCond .eq 13, 3) := dc_Bk (by decide +kernel)
theorem dX2_score_105 : decode cX2_score 105 = .ok (.iload_n 2, 1) := dc_Bk (by decide +kernel)
theorem dX2_score_106 : decode cX2_score 106 = .ok (.aload_n 1, 1) := dc_Bk (by decide +kernel)
theorem dX2_score_107 : decode cX2_score 107 = .ok (.iconst 3, 1) := dc_Bk (by decide +kernel)
theorem dX2_score_108 : decode cX2_score 108 = .ok (.iload_n 3, 1) := dc_Bk (by decide +kernel)
theorem dX2_score_109 : decode cX2_score 109 = .ok (.iconst 2, 1) := dc_Bk (by decide +kernel)
theorem dX2_score_110 : decode cX2_score 110 = .ok (.invokevirtual 61, 3) := dc_Bk (by decide +kernel)
theorem dX2_score_113 : decode cX2_score 113 = .ok (.iadd, 1) := dc_Bk (by decide +kernel)
theorem dX2_score_114 : decode cX2_score 114 = .ok (.istore_n 2, 1) := dc_Bk (by decide +kernel)
theorem dX2_score_115 : decode cX2_score 115 = .ok (.iinc 3 1, 3) := dc_Bk (by decide +kernel)
theorem dX2_score_118 : decode cX2_score 118 = .ok (.goto (-110), 3) := dc_Bk (by decide +kernel)
theorem dX2_score_121 : decode cX2_score 121 = .ok (.iload_n 2, 1) := dc_Bk (by decide +kernel)
theorem dX2_score_122 : decode cX2_score 122 = .ok (.ireturn, 1) := dc_Bk (by decide +kernel)
theorem dX0_add_0 : decode cX0_add 0 = .ok (.aload_n 0, 1) := dc_Bk (by decide +kernel)
theorem dX0_add_1 : decode cX0_add 1 = .ok (.getfield 9, 3) := dc_Bk (by decide +kernel)
theorem dX0_add_4 : decode cX0_add 4 = .ok (.bipush 20, 2) := dc_Bk (by decide +kernel)
theorem dX0_add_6 : decode cX0_add 6 = .ok (.if_icmp .lt 4, 3) := dc_Bk (by decide +kernel)
theorem dX0_add_9 : decode cX0_add 9 = .ok (.return_, 1) := dc_Bk (by decide +kernel)
theorem dX0_add_10 : decode cX0_add 10 = .ok (.aload_n 0, 1) := dc_Bk (by decide +kernel)
theorem dX0_add_11 : decode cX0_add 11 = .ok (.getfield 15, 3) := dc_Bk (by decide +kernel)
theorem dX0_add_14 : decode cX0_add 14 = .ok (.aload_n 0, 1) := dc_Bk (by decide +kernel)
theorem dX0_add_15 : decode cX0_add 15 = .ok (.getfield 9, 3) := dc_Bk (by decide +kernel)
theorem dX0_add_18 : decode cX0_add 18 = .ok (.iload_n 1, 1) := dc_Bk (by decide +kernel)
theorem dX0_add_19 : decode cX0_add 19 = .ok (.iastore, 1) := dc_Bk (by decide +kernel)
theorem dX0_add_20 : decode cX0_add 20 = .ok (.aload_n 0, 1) := dc_Bk (by decide +kernel)
theorem dX0_add_21 : decode cX0_add 21 = .ok (.getfield 19, 3) := dc_Bk (by decide +kernel)
theorem dX0_add_24 : decode cX0_add 24 = .ok (.aload_n 0, 1) := dc_Bk (by decide +kernel)
theorem dX0_add_25 : decode cX0_add 25 = .ok (.getfield 9, 3) := dc_Bk (by decide +kernel)
theorem dX0_add_28 : decode cX0_add 28 = .ok (.iload_n 2, 1) := dc_Bk (by decide +kernel)
theorem dX0_add_29 : decode cX0_add 29 = .ok (.iastore, 1) := dc_Bk (by decide +kernel)
theorem dX0_add_30 : decode cX0_add 30 = .ok (.aload_n 0, 1) := dc_Bk (by decide +kernel)
theorem dX0_add_31 : decode cX0_add 31 = .ok (.getfield 22, 3) := dc_Bk (by decide +kernel)
theorem dX0_add_34 : decode cX0_add 34 = .ok (.aload_n 0, 1) := dc_Bk (by decide +kernel)
theorem dX0_add_35 : decode cX0_add 35 = .ok (.getfield 9, 3) := dc_Bk (by decide +kernel)
theorem dX0_add_38 : decode cX0_add 38 = .ok (.iload_n 3, 1) := dc_Bk (by decide +kernel)
theorem dX0_add_39 : decode cX0_add 39 = .ok (.iastore, 1) := dc_Bk (by decide +kernel)
theorem dX0_add_40 : decode cX0_add 40 = .ok (.aload_n 0, 1) := dc_Bk (by decide +kernel)
theorem dX0_add_41 : decode cX0_add 41 = .ok (.dup, 1) := dc_Bk (by decide +kernel)
theorem dX0_add_42 : decode cX0_add 42 = .ok (.getfield 9, 3) := dc_Bk (by decide +kernel)
theorem dX0_add_45 : decode cX0_add 45 = .ok (.iconst 1, 1) := dc_Bk (by decide +kernel)
theorem dX0_add_46 : decode cX0_add 46 = .ok (.iadd, 1) := dc_Bk (by decide +kernel)
theorem dX0_add_47 : decode cX0_add 47 = .ok (.putfield 9, 3) := dc_Bk (by decide +kernel)
theorem dX0_add_50 : decode cX0_add 50 = .ok (.return_, 1) := dc_Bk (by decide +kernel)
set_option maxRecDepth 20000 in
theorem ggX0_firstWrong_X9_isIn : GoodIn wsX0_firstWrong wsX9_isIn := goodIn_r _ [7] rfl (by decide +kernel)
set_option maxRecDepth 20000 in
theorem gX0_firstWrong_X9_isIn_n25 : GoodIn wsX0_firstWrong (wsX9_isIn) := ggX0_firstWrong_X9_isIn
set_option maxRecDepth 20000 in
theorem ggX0_firstWrong_X8_isWoken : GoodIn wsX0_firstWrong wsX8_isWoken := goodIn_r _ [12, 13, 14, 15, 11, 16, 17, 18, 19, 20, 21, 22, 23, 24, 25, 26, 27, 32, 33, 34, 35, 36] rfl (by decide +kernel)
set_option maxRecDepth 20000 in
theorem gX0_firstWrong_X8_isWoken : GoodIn wsX0_firstWrong (wsV RX0 29 RX8 yX8_isWoken wsX8_isWoken) := goodIn_app (goodIn_of _ (by decide +kernel)) ggX0_firstWrong_X8_isWoken
theorem dX0_firstWrong_0 : decode cX0_firstWrong 0 = .ok (.iconst 0, 1) := dc_Bk (by decide +kernel)
theorem dX0_firstWrong_1 : decode cX0_firstWrong 1 = .ok (.istore_n 3, 1) := dc_Bk (by decide +kernel)
theorem dX0_firstWrong_2 : decode cX0_firstWrong 2 = .ok (.iconst 0, 1) := dc_Bk (by decide +kernel)
theorem dX0_firstWrong_3 : decode cX0_firstWrong 3 = .ok (.istore 4, 2) := dc_Bk (by decide +kernel)
theorem dX0_firstWrong_5 : decode cX0_firstWrong 5 = .ok (.iconst 0, 1) := dc_Bk (by decide +kernel)
theorem dX0_firstWrong_6 : decode cX0_firstWrong 6 = .ok (.istore 5, 2) := dc_Bk (by decide +kernel)
theorem dX0_firstWrong_8 : decode cX0_firstWrong 8 = .ok (.iload 5, 2) := dc_Bk (by decide +kernel)
theorem dX0_firstWrong_10 : decode cX0_firstWrong 10 = .ok (.aload_n 0, 1) := dc_Bk (by decide +kernel)
theorem dX0_firstWrong_11 : decode cX0_firstWrong 11 = .ok (.getfield 9, 3) := dc_Bk (by decide +kernel)
theorem dX0_firstWrong_14 : decode cX0_firstWrong 14 = .ok (.if_icmp .ge 163, 3) := dc_Bk (by decide +kernel)
theorem dX0_firstWrong_17 : decode cX0_firstWrong 17 = .ok (.iload 5, 2) := dc_Bk (by decide +kernel)
theorem dX0_firstWrong_19 : decode cX0_firstWrong 19 = .ok (.ifCond .ne 21, 3) := dc_Bk (by decide +kernel)
theorem dX0_firstWrong_22 : decode cX0_firstWrong 22 = .ok (.aload_n 0, 1) := dc_Bk (by decide +kernel)
theorem dX0_firstWrong_23 : decode cX0_firstWrong 23 = .ok (.getfield 15, 3) := dc_Bk (by decide +kernel)
theorem dX0_firstWrong_26 : decode cX0_firstWrong 26 = .ok (.iconst 0, 1) := dc_Bk (by decide +kernel)
theorem dX0_firstWrong_27 : decode cX0_firstWrong 27 = .ok (.iaload, 1) := dc_Bk (by decide +kernel)
theorem dX0_firstWrong_28 : decode cX0_firstWrong 28 = .ok (.iload_n 2, 1) := dc_Bk (by decide +kernel)
theorem dX0_firstWrong_29 : decode cX0_firstWrong 29 = .ok (.if_icmp .lt 7, 3) := dc_Bk (by decide +kernel)
theorem dX0_firstWrong_32 : decode cX0_firstWrong 32 = .ok (.iconst 1, 1) := dc_Bk (by decide +kernel)
theorem dX0_firstWrong_33 : decode cX0_firstWrong 33 = .ok (.goto 33, 3) := dc_Bk (by decide +kernel)
theorem dX0_firstWrong_36 : decode cX0_firstWrong 36 = .ok (.iconst 0, 1) := dc_Bk (by decide +kernel)
theorem dX0_firstWrong_37 : decode cX0_firstWrong 37 = .ok (.goto 29, 3) := dc_Bk (by decide +kernel)
theorem dX0_firstWrong_40 : decode cX0_firstWrong 40 = .ok (.aload_n 0, 1) := dc_Bk (by decide +kernel)
theorem dX0_firstWrong_41 : decode cX0_firstWrong 41 = .ok (.getfield 15, 3) := dc_Bk (by decide +kernel)
theorem dX0_firstWrong_44 : decode cX0_firstWrong 44 = .ok (.iload 5, 2) := dc_Bk (by decide +kernel)
theorem dX0_firstWrong_46 : decode cX0_firstWrong 46 = .ok (.iaload, 1) := dc_Bk (by decide +kernel)
theorem dX0_firstWrong_47 : decode cX0_firstWrong 47 = .ok (.aload_n 0, 1) := dc_Bk (by decide +kernel)
theorem dX0_firstWrong_48 : decode cX0_firstWrong 48 = .ok (.getfield 15, 3) := dc_Bk (by decide +kernel)
theorem dX0_firstWrong_51 : decode cX0_firstWrong 51 = .ok (.iload 5, 2) := dc_Bk (by decide +kernel)
theorem dX0_firstWrong_53 : decode cX0_firstWrong 53 = .ok (.iconst 1, 1) := dc_Bk (by decide +kernel)
theorem dX0_firstWrong_54 : decode cX0_firstWrong 54 = .ok (.isub, 1) := dc_Bk (by decide +kernel)
theorem dX0_firstWrong_55 : decode cX0_firstWrong 55 = .ok (.iaload, 1) := dc_Bk (by decide +kernel)
theorem dX0_firstWrong_56 : decode cX0_firstWrong 56 = .ok (.iconst 1, 1) := dc_Bk (by decide +kernel)
theorem dX0_firstWrong_57 : decode cX0_firstWrong 57 = .ok (.iadd, 1) := dc_Bk (by decide +kernel)
theorem dX0_firstWrong_58 : decode cX0_firstWrong 58 = .ok (.if_icmp .ne 7, 3) := dc_Bk (by decide +kernel)
theorem dX0_firstWrong_61 : decode cX0_firstWrong 61 = .ok (.iconst 1, 1) := dc_Bk (by decide +kernel)
theorem dX0_firstWrong_62 : decode cX0_firstWrong 62 = .ok (.goto 4, 3) := dc_Bk (by decide +kernel)
theorem dX0_firstWrong_65 : decode cX0_firstWrong 65 = .ok (.iconst 0, 1) := dc_Bk (by decide +kernel)
theorem dX0_firstWrong_66 : decode cX0_firstWrong 66 = .ok (.istore 6, 2) := dc_Bk (by decide +kernel)
theorem dX0_firstWrong_68 : decode cX0_firstWrong 68 = .ok (.iload_n 3, 1) := dc_Bk (by decide +kernel)
theorem dX0_firstWrong_69 : decode cX0_firstWrong 69 = .ok (.aload_n 0, 1) := dc_Bk (by decide +kernel)
theorem dX0_firstWrong_70 : decode cX0_firstWrong 70 = .ok (.getfield 19, 3) := dc_Bk (by decide +kernel)
theorem dX0_firstWrong_73 : decode cX0_firstWrong 73 = .ok (.iload 5, 2) := dc_Bk (by decide +kernel)
theorem dX0_firstWrong_75 : decode cX0_firstWrong 75 = .ok (.iaload, 1) := dc_Bk (by decide +kernel)
theorem dX0_firstWrong_76 : decode cX0_firstWrong 76 = .ok (.invokestatic 25, 3) := dc_Bk (by decide +kernel)
theorem dX0_firstWrong_79 : decode cX0_firstWrong 79 = .ok (.ifCond .ne 22, 3) := dc_Bk (by decide +kernel)
theorem dX0_firstWrong_82 : decode cX0_firstWrong 82 = .ok (.iload 4, 2) := dc_Bk (by decide +kernel)
theorem dX0_firstWrong_84 : decode cX0_firstWrong 84 = .ok (.aload_n 0, 1) := dc_Bk (by decide +kernel)
theorem dX0_firstWrong_85 : decode cX0_firstWrong 85 = .ok (.getfield 22, 3) := dc_Bk (by decide +kernel)
theorem dX0_firstWrong_88 : decode cX0_firstWrong 88 = .ok (.iload 5, 2) := dc_Bk (by decide +kernel)
theorem dX0_firstWrong_90 : decode cX0_firstWrong 90 = .ok (.iaload, 1) := dc_Bk (by decide +kernel)
theorem dX0_firstWrong_91 : decode cX0_firstWrong 91 = .ok (.invokestatic 25, 3) := dc_Bk (by decide +kernel)
theorem dX0_firstWrong_94 : decode cX0_firstWrong 94 = .ok (.ifCond .ne 7, 3) := dc_Bk (by decide +kernel)
theorem dX0_firstWrong_97 : decode cX0_firstWrong 97 = .ok (.iconst 1, 1) := dc_Bk (by decide +kernel)
theorem dX0_firstWrong_98 : decode cX0_firstWrong 98 = .ok (.goto 4, 3) := dc_Bk (by decide +kernel)
theorem dX0_firstWrong_101 : decode cX0_firstWrong 101 = .ok (.iconst 0, 1) := dc_Bk (by decide +kernel)
theorem dX0_firstWrong_102 : decode cX0_firstWrong 102 = .ok (.istore 7, 2) := dc_Bk (by decide +kernel)
theorem dX0_firstWrong_104 : decode cX0_firstWrong 104 = .ok (.iload 6, 2) := dc_Bk (by decide +kernel)
theorem dX0_firstWrong_106 : decode cX0_firstWrong 106 = .ok (.ifCond .eq 36, 3) := dc_Bk (by decide +kernel)
theorem dX0_firstWrong_109 : decode cX0_firstWrong 109 = .ok (.iload 7, 2) := dc_Bk (by decide +kernel)
theorem dX0_firstWrong_111 : decode cX0_firstWrong 111 = .ok (.ifCond .eq 31, 3) := dc_Bk (by decide +kernel)
theorem dX0_firstWrong_114 : decode cX0_firstWrong 114 = .ok (.aload_n 1, 1) := dc_Bk (by decide +kernel)
theorem dX0_firstWrong_115 : decode cX0_firstWrong 115 = .ok (.aload_n 0, 1) := dc_Bk (by decide +kernel)
theorem dX0_firstWrong_116 : decode cX0_firstWrong 116 = .ok (.getfield 19, 3) := dc_Bk (by decide +kernel)
theorem dX0_firstWrong_119 : decode cX0_firstWrong 119 = .ok (.iload 5, 2) := dc_Bk (by decide +kernel)
theorem dX0_firstWrong_121 : decode cX0_firstWrong 121 = .ok (.iaload, 1) := dc_Bk (by decide +kernel)
theorem dX0_firstWrong_122 : decode cX0_firstWrong 122 = .ok (.aload_n 0, 1) := dc_Bk (by decide +kernel)
theorem dX0_firstWrong_123 : decode cX0_firstWrong 123 = .ok (.getfield 22, 3) := dc_Bk (by decide +kernel)
theorem dX0_firstWrong_126 : decode cX0_firstWrong 126 = .ok (.iload 5, 2) := dc_Bk (by decide +kernel)
theorem dX0_firstWrong_128 : decode cX0_firstWrong 128 = .ok (.iaload, 1) := dc_Bk (by decide +kernel)
theorem dX0_firstWrong_129 : decode cX0_firstWrong 129 = .ok (.aload_n 0, 1) := dc_Bk (by decide +kernel)
theorem dX0_firstWrong_130 : decode cX0_firstWrong 130 = .ok (.getfield 15, 3) := dc_Bk (by decide +kernel)
theorem dX0_firstWrong_133 : decode cX0_firstWrong 133 = .ok (.iload 5, 2) := dc_Bk (by decide +kernel)
theorem dX0_firstWrong_135 : decode cX0_firstWrong 135 = .ok (.iaload, 1) := dc_Bk (by decide +kernel)
theorem dX0_firstWrong_136 : decode cX0_firstWrong 136 = .ok (.invokevirtual 29, 3) := dc_Bk (by decide +kernel)
theorem dX0_firstWrong_139 : decode cX0_firstWrong 139 = .ok (.ifCond .eq 6, 3) := dc_Bk (by decide +kernel)
theorem dX0_firstWrong_142 : decode cX0_firstWrong 142 = .ok (.iload 5, 2) := dc_Bk (by decide +kernel)
theorem dX0_firstWrong_144 : decode cX0_firstWrong 144 = .ok (.ireturn, 1) := dc_Bk (by decide +kernel)
theorem dX0_firstWrong_145 : decode cX0_firstWrong 145 = .ok (.iload_n 3, 1) := dc_Bk (by decide +kernel)
theorem dX0_firstWrong_146 : decode cX0_firstWrong 146 = .ok (.iconst 1, 1) := dc_Bk (by decide +kernel)
theorem dX0_firstWrong_147 : decode cX0_firstWrong 147 = .ok (.aload_n 0, 1) := dc_Bk (by decide +kernel)
theorem dX0_firstWrong_148 : decode cX0_firstWrong 148 = .ok (.getfield 19, 3) := dc_Bk (by decide +kernel)
theorem dX0_firstWrong_151 : decode cX0_firstWrong 151 = .ok (.iload 5, 2) := dc_Bk (by decide +kernel)
theorem dX0_firstWrong_153 : decode cX0_firstWrong 153 = .ok (.iaload, 1) := dc_Bk (by decide +kernel)
theorem dX0_firstWrong_154 : decode cX0_firstWrong 154 = .ok (.ishl, 1) := dc_Bk (by decide +kernel)
theorem dX0_firstWrong_155 : decode cX0_firstWrong 155 = .ok (.ior, 1) := dc_Bk (by decide +kernel)
theorem dX0_firstWrong_156 : decode cX0_firstWrong 156 = .ok (.istore_n 3, 1) := dc_Bk (by decide +kernel)
theorem dX0_firstWrong_157 : decode cX0_firstWrong 157 = .ok (.iload 4, 2) := dc_Bk (by decide +kernel)
theorem dX0_firstWrong_159 : decode cX0_firstWrong 159 = .ok (.iconst 1, 1) := dc_Bk (by decide +kernel)
theorem dX0_firstWrong_160 : decode cX0_firstWrong 160 = .ok (.aload_n 0, 1) := dc_Bk (by decide +kernel)
theorem dX0_firstWrong_161 : decode cX0_firstWrong 161 = .ok (.getfield 22, 3) := dc_Bk (by decide +kernel)
theorem dX0_firstWrong_164 : decode cX0_firstWrong 164 = .ok (.iload 5, 2) := dc_Bk (by decide +kernel)
theorem dX0_firstWrong_166 : decode cX0_firstWrong 166 = .ok (.iaload, 1) := dc_Bk (by decide +kernel)
theorem dX0_firstWrong_167 : decode cX0_firstWrong 167 = .ok (.ishl, 1) := dc_Bk (by decide +kernel)
theorem dX0_firstWrong_168 : decode cX0_firstWrong 168 = .ok (.ior, 1) := dc_Bk (by decide +kernel)
theorem dX0_firstWrong_169 : decode cX0_firstWrong 169 = .ok (.istore 4, 2) := dc_Bk (by decide +kernel)
theorem dX0_firstWrong_171 : decode cX0_firstWrong 171 = .ok (.iinc 5 1, 3) := dc_Bk (by decide +kernel)
theorem dX0_firstWrong_174 : decode cX0_firstWrong 174 = .ok (.goto (-166), 3) := dc_Bk (by decide +kernel)
theorem dX0_firstWrong_177 : decode cX0_firstWrong 177 = .ok (.iconst (-1), 1) := dc_Bk (by decide +kernel)
theorem dX0_firstWrong_178 : decode cX0_firstWrong 178 = .ok (.ireturn, 1) := dc_Bk (by decide +kernel)
def mx (x y : Int32) : Int32 := if x < y then y else x
def mn (x y : Int32) : Int32 := if y < x then y else x
def scT (o d4 dy fr : Int32) : Int32 := if o = 0 then mx dy fr else d4
def scS (n : Nat) (G3 f3 f4 : Nat → Int32) (dy : Int32) (j : Nat) (sm : Int32) : Int32 :=
  if ¬ f3 j = 1 then sm - pt n G3 (nI j) 3 * (scT (f3 j) (f4 j) dy (pt n G3 (nI j) 0) - pt n G3 (nI j) 0)
  else if pt n G3 (nI j) 1 < scT (f3 j) (f4 j) dy (pt n G3 (nI j) 0) then sm - pt n G3 (nI j) 3 * (scT (f3 j) (f4 j) dy (pt n G3 (nI j) 0) - pt n G3 (nI j) 0)
  else sm - pt n G3 (nI j) 3 * (scT (f3 j) (f4 j) dy (pt n G3 (nI j) 0) - pt n G3 (nI j) 0) + pt n G3 (nI j) 2
def scI (n : Nat) (G3 f3 f4 : Nat → Int32) (dy wg : Int32) : Nat → Int32
  | 0 => -wg
  | j + 1 => scS n G3 f3 f4 dy j (scI n G3 f3 f4 dy wg j)
def orS (g : Nat → Int32) : Nat → Int32
  | 0 => 0
  | j + 1 => orS g j ||| ((1 : Int32) <<< ((g j) &&& 31))
def itB (fr : Int32) (bd : Nat → Int32) (i : Nat) : Bool := if i = 0 then decide (fr ≤ bd 0) else decide (bd i = bd (i - 1) + 1)
def nwB (g gh : Nat → Int32) (i : Nat) : Bool := decide (inS (orS g i) (g i) = 0) && decide (inS (orS gh i) (gh i) = 0)
def fwB (q : Nat → Nat) (G0 G1 lf bd bs bh : Nat → Int32) (fr : Int32) (i : Nat) : Bool := itB fr bd i && nwB bs bh i && decide (wkA lf (pt (q 0) G0 (bh i) 0) (bd i) (pt (q 1) G1 (bs i) 0) = 0)
def fwE (q : Nat → Nat) (G0 G1 lf bd bs bh : Nat → Int32) (fr : Int32) (b i : Nat) : Nat := rn (fwB q G0 G1 lf bd bs bh fr) b i
def fwR (q : Nat → Nat) (G0 G1 lf bd bs bh : Nat → Int32) (fr : Int32) (b : Nat) : Int32 := if fwE q G0 G1 lf bd bs bh fr b 0 < b then nI (fwE q G0 G1 lf bd bs bh fr b 0) else -1

abbrev c_X2_score (k : Nat → ClassId) (h : Nat) (q0 : Nat) (q1 : Nat) (q2 : Nat) (q3 : Nat) (q4 : Nat) (q5 : Nat) (q6 : Nat) (wg : Int32) (dy : Int32) (sd : Int32) (f3 : Nat → Int32) (f4 : Nat → Int32) (t0 : Nat) (t : Nat) (tn : Nat) (tl : Nat) (tc : Nat) (ta : Nat) (rw : Nat → Nat) (q : Nat → Nat) (G3 : Nat → Int32) : va_W := [(h, .inr (2, [.ref q0, .ref q1, .ref q2, .ref q3, .ref q4, .ref q5, .ref q6, .int wg, .int dy, .int sd])), (q3, .inl (k 0, 3, .inl f3)), (q4, .inl (k 0, 3, .inl f4)), (t0, .inr (8, [.ref t, .ref tn, .ref tl, .ref tc, .ref ta])), (t, .inl (k 0, 4, .inl (cI q))), (tn, .inl (k 4, 4, .inr (.inr (.inr (.inr (gr4 rw)))))), ((rw 3), .inl (k 0, 80, .inl G3))]
abbrev r_X2_score : Room := { frames := 2, cells := 0, slots := 0, locals := 45 }
abbrev q_X2_score (k : Nat → ClassId) (h : Nat) (q0 : Nat) (q1 : Nat) (q2 : Nat) (q3 : Nat) (q4 : Nat) (q5 : Nat) (q6 : Nat) (wg : Int32) (dy : Int32) (sd : Int32) (f3 : Nat → Int32) (f4 : Nat → Int32) (t0 : Nat) (t : Nat) (tn : Nat) (tl : Nat) (tc : Nat) (ta : Nat) (rw : Nat → Nat) (q : Nat → Nat) (G3 : Nat → Int32) : Array Value → State → Outcome → State → Prop := vp_Si (fun r => r = scI (q 3) G3 f3 f4 dy wg (q 3))
set_option maxHeartbeats 2000000 in
set_option maxRecDepth 100000 in
theorem X2_score (l : Launch) (D : va_G) (k : Nat → ClassId) (h : Nat) (q0 : Nat) (q1 : Nat) (q2 : Nat) (q3 : Nat) (q4 : Nat) (q5 : Nat) (q6 : Nat) (wg : Int32) (dy : Int32) (sd : Int32) (f3 : Nat → Int32) (f4 : Nat → Int32) (t0 : Nat) (t : Nat) (tn : Nat) (tl : Nat) (tc : Nat) (ta : Nat) (rw : Nat → Nat) (q : Nat → Nat) (G3 : Nat → Int32) (hq3 : q 3 ≤ 3) : Met l yX2_score wsX2_score r_X2_score (va_Pc [.ref h, .ref t0] (PS D k (c_X2_score k h q0 q1 q2 q3 q4 q5 q6 wg dy sd f3 f4 t0 t tn tl tc ta rw q G3))) (q_X2_score k h q0 q1 q2 q3 q4 q5 q6 wg dy sd f3 f4 t0 t tn tl tc ta rw q G3) 0 0 (fun _ => False) := by
  refine Met.ofW (cc := cX2_score) (maxL := 7) (ret := (some .int)) (by decide) rfl ?_
  intro p e s m args below meth c s₁ B hml hv
  obtain ⟨rfl, hP, hG⟩ := hv
  have hx := B.exec
  have hb := B.bytes
  have hr := B.returns
  have hts := atoms_spec (ws := wsX2_score) B.pre
  have hown : s.vm.findClass RX2 = some m.cls := findClass_of_methodNamed B.named
  have hlocks := B.notSynchronized
  have hi2 : ∀ w ∈ wsX20, w ∈ wsX2_score := fun _ h => List.mem_cons_of_mem _ (List.mem_append_left _ (List.mem_append_right _ h))
  have hi8 : ∀ w ∈ wsX80, w ∈ wsX2_score := fun _ h => List.mem_cons_of_mem _ (List.mem_append_right _ h)
  have hP : va_P D vwCl [(h, .inr (2, [.ref q0, .ref q1, .ref q2, .ref q3, .ref q4, .ref q5, .ref q6, .int wg, .int dy, .int sd])), (q3, .inl (k 0, 3, .inl f3)), (q4, .inl (k 0, 3, .inl f4)), (t0, .inr (8, [.ref t, .ref tn, .ref tl, .ref tc, .ref ta])), (t, .inl (k 0, 4, .inl (cI q))), (tn, .inl (k 4, 4, .inr (.inr (.inr (.inr (gr4 rw)))))), ((rw 3), .inl (k 0, 80, .inl G3))] s.heap := hP
  have hl := lv_entry ([.ref h, .ref t0]) (n := 7) (Nat.le_of_ble_eq_true rfl)
  rw [lg_entry_eq]
  generalize (lg_sl ([.ref h, .ref t0]) ++ List.replicate (7 - (lg_sl ([.ref h, .ref t0])).length) Slot.unset).toArray = ls at hl ⊢
  have hl : lv_has ls 7 [(0, .ref h), (1, .ref t0)] := hl
  refine lv_aload_n hx hb dX2_score_0 rfl (lv_at hl 0 rfl) ?_
  refine va_get (D := D) (ci := 2) (v := .int wg) (C := RX2) (T := TX2) (N := 10) hx hb hts hi2 hown hG.1 hP 0 rfl rfl 7 (by decide) (hts (.fieldLink RX2 33 "SleptMatters$Course" "wages" "I") (List.mem_cons_of_mem _ (List.mem_append_left _ (List.mem_append_left _ (List.mem_of_getElem? (i := 0) rfl))))) (fun _ h9 => h9) rfl dX2_score_1 ?_
  refine lv_ineg hx hb dX2_score_4 ?_
  refine lv_istore_n (lv' := [(2, .int (-wg)), (0, .ref h), (1, .ref t0)]) hx hb dX2_score_5 rfl hl (by decide) rfl (fun ls hl => ?_)
  refine lv_iconst (v := 0) hx hb dX2_score_6 (by decide) ?_
  refine lv_istore_n (lv' := [(3, .int 0), (2, .int (-wg)), (0, .ref h), (1, .ref t0)]) hx hb dX2_score_7 rfl hl (by decide) rfl (fun ls hl => ?_)
  have L1 : ∀ (fu9 : Nat) (i : Nat), (i ≤ q 3) → q 3 - i < fu9 → ∀ (ls : Array Slot), lv_has ls 7 [(3, .int (nI i)), (2, .int (scI (q 3) G3 f3 f4 dy wg i)), (0, .ref h), (1, .ref t0)] → W p l e r_X2_score s m ([.ref h, .ref t0] : List Value).toArray below meth c s.heap [] 0 0 (MQ below (q_X2_score k h q0 q1 q2 q3 q4 q5 q6 wg dy sd f3 f4 t0 t tn tl tc ta rw q G3) ([.ref h, .ref t0] : List Value).toArray s 0 0 (fun _ => False)) (F0 m 8 ls []) := by
    intro fu9
    induction fu9 with
    | zero => intro i hi hmu; exact absurd hmu (Nat.not_lt_zero _)
    | succ fu9 ih =>
      intro i hi hmu ls hl
      refine lv_iload_n hx hb dX2_score_8 rfl (lv_at hl 0 rfl) ?_
      refine lv_aload_n hx hb dX2_score_9 rfl (lv_at hl 3 rfl) ?_
      refine lv_iconst (v := 3) hx hb dX2_score_10 (by decide) ?_
      have hPc := hP.sub (ws' := (c_X8_count k t0 t tn tl tc ta q 3)) [3, 4] rfl
      refine vp_callSi (va_Run.run (va_runV (As := [.int 3]) (rest := [.int (nI i)]) ⟨hx, hb, hml, hown, hts⟩ (X8_count l D k t0 t tn tl tc ta q 3 (by decide)) (cwV 1 hts gX2_score_X8_count rfl rfl rfl (by decide +kernel) ⟨Nat.le_of_ble_eq_true rfl, Nat.le_of_ble_eq_true rfl⟩) ⟨PS.blind _ _ _ _, va_recv hG.1 hP (ci := 8) (q0 := 3) rfl rfl, PS.pre hPc hG [.ref t0, .int 3]⟩ rfl rfl hl.1 rfl (lv_room (Nat.le_of_ble_eq_true rfl)) dX2_score_11 ⟨Nat.le_of_ble_eq_true rfl, Nat.le_of_ble_eq_true rfl⟩)) (fun r hq => ?_)
      generalize r = y2 at hq ⊢
      have hq : y2 = nI (q 3) := hq
      refine tp_i (y := nI (q 3)) (hq) ?_
      refine bn_ge (i := i) (j := (q 3)) (tgt := 121) hx hb dX2_score_14 (by decide) (by omega) (by omega) (fun c3 => ?_) (fun c3 => ?_)
      · skip
        have hiN : i = q 3 := by omega
        refine lv_iload_n hx hb dX2_score_121 rfl (lv_at hl 1 rfl) ?_
        exact W.iret (v := scI (q 3) G3 f3 f4 dy wg i) hx hb hr (fun t9 ht _ => ⟨scI (q 3) G3 f3 f4 dy wg i, rfl, congrArg (scI (q 3) G3 f3 f4 dy wg) hiN, ht⟩) (fun q h => by cases h) dX2_score_122
      · skip
        refine lv_aload_n hx hb dX2_score_17 rfl (lv_at hl 3 rfl) ?_
        refine lv_iconst (v := 3) hx hb dX2_score_18 (by decide) ?_
        refine lv_iload_n hx hb dX2_score_19 rfl (lv_at hl 0 rfl) ?_
        refine lv_iconst (v := 0) hx hb dX2_score_20 (by decide) ?_
        have hPc := hP.sub (ws' := (c_X8_part3 k t0 t tn tl tc ta rw q G3 (nI i) 0)) [3, 4, 5, 6] rfl
        refine vp_callSi (va_Run.run (va_runV (As := [.int 3, .int (nI i), .int 0]) (rest := []) ⟨hx, hb, hml, hown, hts⟩ (X8_part3 l D k t0 t tn tl tc ta rw q G3 (nI i) 0 (by omega) (by decide)) (cwV 3 hts gX2_score_X8_part rfl rfl rfl (by decide +kernel) ⟨Nat.le_of_ble_eq_true rfl, Nat.le_of_ble_eq_true rfl⟩) ⟨PS.blind _ _ _ _, va_recv hG.1 hP (ci := 8) (q0 := 3) rfl rfl, PS.pre hPc hG [.ref t0, .int 3, .int (nI i), .int 0]⟩ rfl rfl hl.1 rfl (lv_room (Nat.le_of_ble_eq_true rfl)) dX2_score_21 ⟨Nat.le_of_ble_eq_true rfl, Nat.le_of_ble_eq_true rfl⟩)) (fun r hq => ?_)
        generalize r = y4 at hq ⊢
        have hq : y4 = pt (q 3) G3 (nI i) 0 := hq
        refine tp_i (y := pt (q 3) G3 (nI i) 0) (hq) ?_
        refine lv_istore (lv' := [(4, .int (pt (q 3) G3 (nI i) 0)), (3, .int (nI i)), (2, .int (scI (q 3) G3 f3 f4 dy wg i)), (0, .ref h), (1, .ref t0)]) hx hb dX2_score_24 hl (by decide) rfl (fun ls hl => ?_)
        refine lv_aload_n hx hb dX2_score_26 rfl (lv_at hl 3 rfl) ?_
        refine va_get (D := D) (ci := 2) (v := .ref q3) (C := RX2) (T := TX2) (N := 10) hx hb hts hi2 hown hG.1 hP 0 rfl rfl 3 (by decide) (hts (.fieldLink RX2 21 "SleptMatters$Course" "outcome" "[I") (List.mem_cons_of_mem _ (List.mem_append_left _ (List.mem_append_left _ (List.mem_of_getElem? (i := 1) rfl))))) (fun _ h9 => h9) rfl dX2_score_27 ?_
        refine lv_iload_n hx hb dX2_score_30 rfl (lv_at hl 1 rfl) ?_
        refine va_iald hx hb hG.1 hP 1 0 rfl rfl (vp_in_nI (by omega) (by omega)) dX2_score_31 ?_
        refine tp_i (y := f3 i) (congrArg _ (nI_clamp (n := i) (by omega))) ?_
        refine lv_if_ne (x := f3 i) (tgt := 47) hx hb dX2_score_32 (by decide) (fun c5 => ?_) (fun c5 => ?_)
        · skip
          have k0 := c5
          refine lv_aload_n hx hb dX2_score_47 rfl (lv_at hl 3 rfl) ?_
          refine va_get (D := D) (ci := 2) (v := .ref q4) (C := RX2) (T := TX2) (N := 10) hx hb hts hi2 hown hG.1 hP 0 rfl rfl 4 (by decide) (hts (.fieldLink RX2 24 "SleptMatters$Course" "decidedOn" "[I") (List.mem_cons_of_mem _ (List.mem_append_left _ (List.mem_append_left _ (List.mem_of_getElem? (i := 7) rfl))))) (fun _ h9 => h9) rfl dX2_score_48 ?_
          refine lv_iload_n hx hb dX2_score_51 rfl (lv_at hl 1 rfl) ?_
          refine va_iald hx hb hG.1 hP 2 0 rfl rfl (vp_in_nI (by omega) (by omega)) dX2_score_52 ?_
          refine tp_i (y := f4 i) (congrArg _ (nI_clamp (n := i) (by omega))) ?_
          refine tp_i (y := scT (f3 i) (f4 i) dy (pt (q 3) G3 (nI i) 0)) ((if_neg k0).symm) ?_
          refine lv_istore (lv' := [(5, .int (scT (f3 i) (f4 i) dy (pt (q 3) G3 (nI i) 0))), (4, .int (pt (q 3) G3 (nI i) 0)), (3, .int (nI i)), (2, .int (scI (q 3) G3 f3 f4 dy wg i)), (0, .ref h), (1, .ref t0)]) hx hb dX2_score_53 hl (by decide) rfl (fun ls hl => ?_)
          refine lv_iload_n hx hb dX2_score_55 rfl (lv_at hl 3 rfl) ?_
          refine lv_aload_n hx hb dX2_score_56 rfl (lv_at hl 5 rfl) ?_
          refine lv_iconst (v := 3) hx hb dX2_score_57 (by decide) ?_
          refine lv_iload_n hx hb dX2_score_58 rfl (lv_at hl 2 rfl) ?_
          refine lv_iconst (v := 3) hx hb dX2_score_59 (by decide) ?_
          have hPc := hP.sub (ws' := (c_X8_part3 k t0 t tn tl tc ta rw q G3 (nI i) 3)) [3, 4, 5, 6] rfl
          refine vp_callSi (va_Run.run (va_runV (As := [.int 3, .int (nI i), .int 3]) (rest := [.int (scI (q 3) G3 f3 f4 dy wg i)]) ⟨hx, hb, hml, hown, hts⟩ (X8_part3 l D k t0 t tn tl tc ta rw q G3 (nI i) 3 (by omega) (by decide)) (cwV 3 hts gX2_score_X8_part rfl rfl rfl (by decide +kernel) ⟨Nat.le_of_ble_eq_true rfl, Nat.le_of_ble_eq_true rfl⟩) ⟨PS.blind _ _ _ _, va_recv hG.1 hP (ci := 8) (q0 := 3) rfl rfl, PS.pre hPc hG [.ref t0, .int 3, .int (nI i), .int 3]⟩ rfl rfl hl.1 rfl (lv_room (Nat.le_of_ble_eq_true rfl)) dX2_score_60 ⟨Nat.le_of_ble_eq_true rfl, Nat.le_of_ble_eq_true rfl⟩)) (fun r hq => ?_)
          generalize r = y6 at hq ⊢
          have hq : y6 = pt (q 3) G3 (nI i) 3 := hq
          refine tp_i (y := pt (q 3) G3 (nI i) 3) (hq) ?_
          refine lv_iload hx hb dX2_score_63 (lv_at hl 0 rfl) ?_
          refine lv_iload hx hb dX2_score_65 (lv_at hl 1 rfl) ?_
          refine lv_isub hx hb dX2_score_67 ?_
          refine lv_imul hx hb dX2_score_68 ?_
          refine lv_isub hx hb dX2_score_69 ?_
          refine lv_istore_n (lv' := [(2, .int ((scI (q 3) G3 f3 f4 dy wg i) - ((pt (q 3) G3 (nI i) 3) * ((scT (f3 i) (f4 i) dy (pt (q 3) G3 (nI i) 0)) - (pt (q 3) G3 (nI i) 0))))), (5, .int (scT (f3 i) (f4 i) dy (pt (q 3) G3 (nI i) 0))), (4, .int (pt (q 3) G3 (nI i) 0)), (3, .int (nI i)), (0, .ref h), (1, .ref t0)]) hx hb dX2_score_70 rfl hl (by decide) rfl (fun ls hl => ?_)
          refine lv_aload_n hx hb dX2_score_71 rfl (lv_at hl 4 rfl) ?_
          refine va_get (D := D) (ci := 2) (v := .ref q3) (C := RX2) (T := TX2) (N := 10) hx hb hts hi2 hown hG.1 hP 0 rfl rfl 3 (by decide) (hts (.fieldLink RX2 21 "SleptMatters$Course" "outcome" "[I") (List.mem_cons_of_mem _ (List.mem_append_left _ (List.mem_append_left _ (List.mem_of_getElem? (i := 1) rfl))))) (fun _ h9 => h9) rfl dX2_score_72 ?_
          refine lv_iload_n hx hb dX2_score_75 rfl (lv_at hl 3 rfl) ?_
          refine va_iald hx hb hG.1 hP 1 0 rfl rfl (vp_in_nI (by omega) (by omega)) dX2_score_76 ?_
          refine tp_i (y := f3 i) (congrArg _ (nI_clamp (n := i) (by omega))) ?_
          refine lv_iconst (v := 1) hx hb dX2_score_77 (by decide) ?_
          refine lv_icmp_ne (x := f3 i) (y := 1) (tgt := 97) hx hb dX2_score_78 (by decide) (fun c7 => ?_) (fun c7 => ?_)
          · skip
            have e9 : scI (q 3) G3 f3 f4 dy wg (i + 1) = scI (q 3) G3 f3 f4 dy wg i - pt (q 3) G3 (nI i) 3 * (scT (f3 i) (f4 i) dy (pt (q 3) G3 (nI i) 0) - pt (q 3) G3 (nI i) 0) := if_pos c7
            refine lv_iconst (v := 0) hx hb dX2_score_97 (by decide) ?_
            refine lv_istore (lv' := [(6, .int 0), (2, .int ((scI (q 3) G3 f3 f4 dy wg i) - ((pt (q 3) G3 (nI i) 3) * ((scT (f3 i) (f4 i) dy (pt (q 3) G3 (nI i) 0)) - (pt (q 3) G3 (nI i) 0))))), (5, .int (scT (f3 i) (f4 i) dy (pt (q 3) G3 (nI i) 0))), (4, .int (pt (q 3) G3 (nI i) 0)), (3, .int (nI i)), (0, .ref h), (1, .ref t0)]) hx hb dX2_score_98 hl (by decide) rfl (fun ls hl => ?_)
            refine lv_iload hx hb dX2_score_100 (lv_at hl 0 rfl) ?_
            refine lv_if_eq (x := 0) (tgt := 115) hx hb dX2_score_102 (by decide) (fun c8 => ?_) (fun c8 => absurd c8 (by decide))
            refine lv_iinc (v := nI (i + 1)) (lv' := [(3, .int (nI (i + 1))), (6, .int 0), (2, .int ((scI (q 3) G3 f3 f4 dy wg i) - ((pt (q 3) G3 (nI i) 3) * ((scT (f3 i) (f4 i) dy (pt (q 3) G3 (nI i) 0)) - (pt (q 3) G3 (nI i) 0))))), (5, .int (scT (f3 i) (f4 i) dy (pt (q 3) G3 (nI i) 0))), (4, .int (pt (q 3) G3 (nI i) 0)), (0, .ref h), (1, .ref t0)]) hx hb dX2_score_115 hl (k := 4) rfl (nI_add i 1) (by decide) rfl (fun ls hl => ?_)
            refine lv_goto (tgt := 8) hx hb dX2_score_118 (by decide) ?_
            rw [show (scI (q 3) G3 f3 f4 dy wg i) - ((pt (q 3) G3 (nI i) 3) * ((scT (f3 i) (f4 i) dy (pt (q 3) G3 (nI i) 0)) - (pt (q 3) G3 (nI i) 0))) = scI (q 3) G3 f3 f4 dy wg (i + 1) from e9.symm] at hl
            exact ih (i + 1) (by omega) (by omega) ls (lv_sub hl [0, 2, 5, 6] rfl)
          · skip
            have k1 : ¬ ¬ f3 i = 1 := fun q => q c7
            refine lv_iload hx hb dX2_score_81 (lv_at hl 1 rfl) ?_
            refine lv_aload_n hx hb dX2_score_83 rfl (lv_at hl 5 rfl) ?_
            refine lv_iconst (v := 3) hx hb dX2_score_84 (by decide) ?_
            refine lv_iload_n hx hb dX2_score_85 rfl (lv_at hl 3 rfl) ?_
            refine lv_iconst (v := 1) hx hb dX2_score_86 (by decide) ?_
            have hPc := hP.sub (ws' := (c_X8_part3 k t0 t tn tl tc ta rw q G3 (nI i) 1)) [3, 4, 5, 6] rfl
            refine vp_callSi (va_Run.run (va_runV (As := [.int 3, .int (nI i), .int 1]) (rest := [.int (scT (f3 i) (f4 i) dy (pt (q 3) G3 (nI i) 0))]) ⟨hx, hb, hml, hown, hts⟩ (X8_part3 l D k t0 t tn tl tc ta rw q G3 (nI i) 1 (by omega) (by decide)) (cwV 3 hts gX2_score_X8_part rfl rfl rfl (by decide +kernel) ⟨Nat.le_of_ble_eq_true rfl, Nat.le_of_ble_eq_true rfl⟩) ⟨PS.blind _ _ _ _, va_recv hG.1 hP (ci := 8) (q0 := 3) rfl rfl, PS.pre hPc hG [.ref t0, .int 3, .int (nI i), .int 1]⟩ rfl rfl hl.1 rfl (lv_room (Nat.le_of_ble_eq_true rfl)) dX2_score_87 ⟨Nat.le_of_ble_eq_true rfl, Nat.le_of_ble_eq_true rfl⟩)) (fun r hq => ?_)
            generalize r = y9 at hq ⊢
            have hq : y9 = pt (q 3) G3 (nI i) 1 := hq
            refine tp_i (y := pt (q 3) G3 (nI i) 1) (hq) ?_
            refine lv_icmp_gt (x := scT (f3 i) (f4 i) dy (pt (q 3) G3 (nI i) 0)) (y := pt (q 3) G3 (nI i) 1) (tgt := 97) hx hb dX2_score_90 (by decide) (fun c10 => ?_) (fun c10 => ?_)
            · skip
              have e9 : scI (q 3) G3 f3 f4 dy wg (i + 1) = scI (q 3) G3 f3 f4 dy wg i - pt (q 3) G3 (nI i) 3 * (scT (f3 i) (f4 i) dy (pt (q 3) G3 (nI i) 0) - pt (q 3) G3 (nI i) 0) := (if_neg k1).trans (if_pos c10)
              refine lv_iconst (v := 0) hx hb dX2_score_97 (by decide) ?_
              refine lv_istore (lv' := [(6, .int 0), (2, .int ((scI (q 3) G3 f3 f4 dy wg i) - ((pt (q 3) G3 (nI i) 3) * ((scT (f3 i) (f4 i) dy (pt (q 3) G3 (nI i) 0)) - (pt (q 3) G3 (nI i) 0))))), (5, .int (scT (f3 i) (f4 i) dy (pt (q 3) G3 (nI i) 0))), (4, .int (pt (q 3) G3 (nI i) 0)), (3, .int (nI i)), (0, .ref h), (1, .ref t0)]) hx hb dX2_score_98 hl (by decide) rfl (fun ls hl => ?_)
              refine lv_iload hx hb dX2_score_100 (lv_at hl 0 rfl) ?_
              refine lv_if_eq (x := 0) (tgt := 115) hx hb dX2_score_102 (by decide) (fun c11 => ?_) (fun c11 => absurd c11 (by decide))
              refine lv_iinc (v := nI (i + 1)) (lv' := [(3, .int (nI (i + 1))), (6, .int 0), (2, .int ((scI (q 3) G3 f3 f4 dy wg i) - ((pt (q 3) G3 (nI i) 3) * ((scT (f3 i) (f4 i) dy (pt (q 3) G3 (nI i) 0)) - (pt (q 3) G3 (nI i) 0))))), (5, .int (scT (f3 i) (f4 i) dy (pt (q 3) G3 (nI i) 0))), (4, .int (pt (q 3) G3 (nI i) 0)), (0, .ref h), (1, .ref t0)]) hx hb dX2_score_115 hl (k := 4) rfl (nI_add i 1) (by decide) rfl (fun ls hl => ?_)
              refine lv_goto (tgt := 8) hx hb dX2_score_118 (by decide) ?_
              rw [show (scI (q 3) G3 f3 f4 dy wg i) - ((pt (q 3) G3 (nI i) 3) * ((scT (f3 i) (f4 i) dy (pt (q 3) G3 (nI i) 0)) - (pt (q 3) G3 (nI i) 0))) = scI (q 3) G3 f3 f4 dy wg (i + 1) from e9.symm] at hl
              exact ih (i + 1) (by omega) (by omega) ls (lv_sub hl [0, 2, 5, 6] rfl)
            · skip
              have e9 : scI (q 3) G3 f3 f4 dy wg (i + 1) = scI (q 3) G3 f3 f4 dy wg i - pt (q 3) G3 (nI i) 3 * (scT (f3 i) (f4 i) dy (pt (q 3) G3 (nI i) 0) - pt (q 3) G3 (nI i) 0) + pt (q 3) G3 (nI i) 2 := (if_neg k1).trans (if_neg c10)
              refine lv_iconst (v := 1) hx hb dX2_score_93 (by decide) ?_
              refine lv_goto (tgt := 98) hx hb dX2_score_94 (by decide) ?_
              refine lv_istore (lv' := [(6, .int 1), (2, .int ((scI (q 3) G3 f3 f4 dy wg i) - ((pt (q 3) G3 (nI i) 3) * ((scT (f3 i) (f4 i) dy (pt (q 3) G3 (nI i) 0)) - (pt (q 3) G3 (nI i) 0))))), (5, .int (scT (f3 i) (f4 i) dy (pt (q 3) G3 (nI i) 0))), (4, .int (pt (q 3) G3 (nI i) 0)), (3, .int (nI i)), (0, .ref h), (1, .ref t0)]) hx hb dX2_score_98 hl (by decide) rfl (fun ls hl => ?_)
              refine lv_iload hx hb dX2_score_100 (lv_at hl 0 rfl) ?_
              refine lv_if_eq (x := 1) (tgt := 115) hx hb dX2_score_102 (by decide) (fun c12 => absurd c12 (by decide)) (fun c12 => ?_)
              refine lv_iload_n hx hb dX2_score_105 rfl (lv_at hl 1 rfl) ?_
              refine lv_aload_n hx hb dX2_score_106 rfl (lv_at hl 6 rfl) ?_
              refine lv_iconst (v := 3) hx hb dX2_score_107 (by decide) ?_
              refine lv_iload_n hx hb dX2_score_108 rfl (lv_at hl 4 rfl) ?_
              refine lv_iconst (v := 2) hx hb dX2_score_109 (by decide) ?_
              have hPc := hP.sub (ws' := (c_X8_part3 k t0 t tn tl tc ta rw q G3 (nI i) 2)) [3, 4, 5, 6] rfl
              refine vp_callSi (va_Run.run (va_runV (As := [.int 3, .int (nI i), .int 2]) (rest := [.int ((scI (q 3) G3 f3 f4 dy wg i) - ((pt (q 3) G3 (nI i) 3) * ((scT (f3 i) (f4 i) dy (pt (q 3) G3 (nI i) 0)) - (pt (q 3) G3 (nI i) 0))))]) ⟨hx, hb, hml, hown, hts⟩ (X8_part3 l D k t0 t tn tl tc ta rw q G3 (nI i) 2 (by omega) (by decide)) (cwV 3 hts gX2_score_X8_part rfl rfl rfl (by decide +kernel) ⟨Nat.le_of_ble_eq_true rfl, Nat.le_of_ble_eq_true rfl⟩) ⟨PS.blind _ _ _ _, va_recv hG.1 hP (ci := 8) (q0 := 3) rfl rfl, PS.pre hPc hG [.ref t0, .int 3, .int (nI i), .int 2]⟩ rfl rfl hl.1 rfl (lv_room (Nat.le_of_ble_eq_true rfl)) dX2_score_110 ⟨Nat.le_of_ble_eq_true rfl, Nat.le_of_ble_eq_true rfl⟩)) (fun r hq => ?_)
              generalize r = y13 at hq ⊢
              have hq : y13 = pt (q 3) G3 (nI i) 2 := hq
              refine tp_i (y := pt (q 3) G3 (nI i) 2) (hq) ?_
              refine lv_iadd hx hb dX2_score_113 ?_
              refine lv_istore_n (lv' := [(2, .int (((scI (q 3) G3 f3 f4 dy wg i) - ((pt (q 3) G3 (nI i) 3) * ((scT (f3 i) (f4 i) dy (pt (q 3) G3 (nI i) 0)) - (pt (q 3) G3 (nI i) 0)))) + (pt (q 3) G3 (nI i) 2))), (6, .int 1), (5, .int (scT (f3 i) (f4 i) dy (pt (q 3) G3 (nI i) 0))), (4, .int (pt (q 3) G3 (nI i) 0)), (3, .int (nI i)), (0, .ref h), (1, .ref t0)]) hx hb dX2_score_114 rfl hl (by decide) rfl (fun ls hl => ?_)
              refine lv_iinc (v := nI (i + 1)) (lv' := [(3, .int (nI (i + 1))), (2, .int (((scI (q 3) G3 f3 f4 dy wg i) - ((pt (q 3) G3 (nI i) 3) * ((scT (f3 i) (f4 i) dy (pt (q 3) G3 (nI i) 0)) - (pt (q 3) G3 (nI i) 0)))) + (pt (q 3) G3 (nI i) 2))), (6, .int 1), (5, .int (scT (f3 i) (f4 i) dy (pt (q 3) G3 (nI i) 0))), (4, .int (pt (q 3) G3 (nI i) 0)), (0, .ref h), (1, .ref t0)]) hx hb dX2_score_115 hl (k := 4) rfl (nI_add i 1) (by decide) rfl (fun ls hl => ?_)
              refine lv_goto (tgt := 8) hx hb dX2_score_118 (by decide) ?_
              rw [show ((scI (q 3) G3 f3 f4 dy wg i) - ((pt (q 3) G3 (nI i) 3) * ((scT (f3 i) (f4 i) dy (pt (q 3) G3 (nI i) 0)) - (pt (q 3) G3 (nI i) 0)))) + (pt (q 3) G3 (nI i) 2) = scI (q 3) G3 f3 f4 dy wg (i + 1) from e9.symm] at hl
              exact ih (i + 1) (by omega) (by omega) ls (lv_sub hl [0, 1, 5, 6] rfl)
        · skip
          have k0 := c5
          refine lv_aload_n hx hb dX2_score_35 rfl (lv_at hl 3 rfl) ?_
          refine va_get (D := D) (ci := 2) (v := .int dy) (C := RX2) (T := TX2) (N := 10) hx hb hts hi2 hown hG.1 hP 0 rfl rfl 8 (by decide) (hts (.fieldLink RX2 37 "SleptMatters$Course" "day" "I") (List.mem_cons_of_mem _ (List.mem_append_left _ (List.mem_append_left _ (List.mem_of_getElem? (i := 2) rfl))))) (fun _ h9 => h9) rfl dX2_score_36 ?_
          refine lv_iload hx hb dX2_score_39 (lv_at hl 0 rfl) ?_
          refine va_mmax hx hb (hml.trans hl.1.symm) hown (hts (.methodLink RX2 144 Lib.Math.max.name) (List.mem_cons_of_mem _ (List.mem_append_left _ (List.mem_append_left _ (List.mem_of_getElem? (i := 3) rfl))))) (hts (.static Lib.Math.max.name) (List.mem_cons_of_mem _ (List.mem_append_left _ (List.mem_append_left _ (List.mem_of_getElem? (i := 4) rfl))))) (hts (.initialized "java/lang/Math") (List.mem_cons_of_mem _ (List.mem_append_left _ (List.mem_append_left _ (List.mem_of_getElem? (i := 5) rfl))))) (hts (.code Lib.Math.max.name Lib.Math.max.code 2 (some .int)) (List.mem_cons_of_mem _ (List.mem_append_left _ (List.mem_append_left _ (List.mem_of_getElem? (i := 6) rfl))))) (Nat.le_of_ble_eq_true rfl) (Nat.le_of_ble_eq_true rfl) (Nat.le_of_ble_eq_true rfl) (Nat.le_of_ble_eq_true rfl) dX2_score_41 ?_
          refine tp_i (y := mx dy (pt (q 3) G3 (nI i) 0)) rfl ?_
          refine lv_goto (tgt := 53) hx hb dX2_score_44 (by decide) ?_
          refine tp_i (y := scT (f3 i) (f4 i) dy (pt (q 3) G3 (nI i) 0)) ((if_pos k0).symm) ?_
          refine lv_istore (lv' := [(5, .int (scT (f3 i) (f4 i) dy (pt (q 3) G3 (nI i) 0))), (4, .int (pt (q 3) G3 (nI i) 0)), (3, .int (nI i)), (2, .int (scI (q 3) G3 f3 f4 dy wg i)), (0, .ref h), (1, .ref t0)]) hx hb dX2_score_53 hl (by decide) rfl (fun ls hl => ?_)
          refine lv_iload_n hx hb dX2_score_55 rfl (lv_at hl 3 rfl) ?_
          refine lv_aload_n hx hb dX2_score_56 rfl (lv_at hl 5 rfl) ?_
          refine lv_iconst (v := 3) hx hb dX2_score_57 (by decide) ?_
          refine lv_iload_n hx hb dX2_score_58 rfl (lv_at hl 2 rfl) ?_
          refine lv_iconst (v := 3) hx hb dX2_score_59 (by decide) ?_
          have hPc := hP.sub (ws' := (c_X8_part3 k t0 t tn tl tc ta rw q G3 (nI i) 3)) [3, 4, 5, 6] rfl
          refine vp_callSi (va_Run.run (va_runV (As := [.int 3, .int (nI i), .int 3]) (rest := [.int (scI (q 3) G3 f3 f4 dy wg i)]) ⟨hx, hb, hml, hown, hts⟩ (X8_part3 l D k t0 t tn tl tc ta rw q G3 (nI i) 3 (by omega) (by decide)) (cwV 3 hts gX2_score_X8_part rfl rfl rfl (by decide +kernel) ⟨Nat.le_of_ble_eq_true rfl, Nat.le_of_ble_eq_true rfl⟩) ⟨PS.blind _ _ _ _, va_recv hG.1 hP (ci := 8) (q0 := 3) rfl rfl, PS.pre hPc hG [.ref t0, .int 3, .int (nI i), .int 3]⟩ rfl rfl hl.1 rfl (lv_room (Nat.le_of_ble_eq_true rfl)) dX2_score_60 ⟨Nat.le_of_ble_eq_true rfl, Nat.le_of_ble_eq_true rfl⟩)) (fun r hq => ?_)
          generalize r = y14 at hq ⊢
          have hq : y14 = pt (q 3) G3 (nI i) 3 := hq
          refine tp_i (y := pt (q 3) G3 (nI i) 3) (hq) ?_
          refine lv_iload hx hb dX2_score_63 (lv_at hl 0 rfl) ?_
          refine lv_iload hx hb dX2_score_65 (lv_at hl 1 rfl) ?_
          refine lv_isub hx hb dX2_score_67 ?_
          refine lv_imul hx hb dX2_score_68 ?_
          refine lv_isub hx hb dX2_score_69 ?_
          refine lv_istore_n (lv' := [(2, .int ((scI (q 3) G3 f3 f4 dy wg i) - ((pt (q 3) G3 (nI i) 3) * ((scT (f3 i) (f4 i) dy (pt (q 3) G3 (nI i) 0)) - (pt (q 3) G3 (nI i) 0))))), (5, .int (scT (f3 i) (f4 i) dy (pt (q 3) G3 (nI i) 0))), (4, .int (pt (q 3) G3 (nI i) 0)), (3, .int (nI i)), (0, .ref h), (1, .ref t0)]) hx hb dX2_score_70 rfl hl (by decide) rfl (fun ls hl => ?_)
          refine lv_aload_n hx hb dX2_score_71 rfl (lv_at hl 4 rfl) ?_
          refine va_get (D := D) (ci := 2) (v := .ref q3) (C := RX2) (T := TX2) (N := 10) hx hb hts hi2 hown hG.1 hP 0 rfl rfl 3 (by decide) (hts (.fieldLink RX2 21 "SleptMatters$Course" "outcome" "[I") (List.mem_cons_of_mem _ (List.mem_append_left _ (List.mem_append_left _ (List.mem_of_getElem? (i := 1) rfl))))) (fun _ h9 => h9) rfl dX2_score_72 ?_
          refine lv_iload_n hx hb dX2_score_75 rfl (lv_at hl 3 rfl) ?_
          refine va_iald hx hb hG.1 hP 1 0 rfl rfl (vp_in_nI (by omega) (by omega)) dX2_score_76 ?_
          refine tp_i (y := f3 i) (congrArg _ (nI_clamp (n := i) (by omega))) ?_
          refine lv_iconst (v := 1) hx hb dX2_score_77 (by decide) ?_
          refine lv_icmp_ne (x := f3 i) (y := 1) (tgt := 97) hx hb dX2_score_78 (by decide) (fun c15 => ?_) (fun c15 => ?_)
          · skip
            have e9 : scI (q 3) G3 f3 f4 dy wg (i + 1) = scI (q 3) G3 f3 f4 dy wg i - pt (q 3) G3 (nI i) 3 * (scT (f3 i) (f4 i) dy (pt (q 3) G3 (nI i) 0) - pt (q 3) G3 (nI i) 0) := if_pos c15
            refine lv_iconst (v := 0) hx hb dX2_score_97 (by decide) ?_
            refine lv_istore (lv' := [(6, .int 0), (2, .int ((scI (q 3) G3 f3 f4 dy wg i) - ((pt (q 3) G3 (nI i) 3) * ((scT (f3 i) (f4 i) dy (pt (q 3) G3 (nI i) 0)) - (pt (q 3) G3 (nI i) 0))))), (5, .int (scT (f3 i) (f4 i) dy (pt (q 3) G3 (nI i) 0))), (4, .int (pt (q 3) G3 (nI i) 0)), (3, .int (nI i)), (0, .ref h), (1, .ref t0)]) hx hb dX2_score_98 hl (by decide) rfl (fun ls hl => ?_)
            refine lv_iload hx hb dX2_score_100 (lv_at hl 0 rfl) ?_
            refine lv_if_eq (x := 0) (tgt := 115) hx hb dX2_score_102 (by decide) (fun c16 => ?_) (fun c16 => absurd c16 (by decide))
            refine lv_iinc (v := nI (i + 1)) (lv' := [(3, .int (nI (i + 1))), (6, .int 0), (2, .int ((scI (q 3) G3 f3 f4 dy wg i) - ((pt (q 3) G3 (nI i) 3) * ((scT (f3 i) (f4 i) dy (pt (q 3) G3 (nI i) 0)) - (pt (q 3) G3 (nI i) 0))))), (5, .int (scT (f3 i) (f4 i) dy (pt (q 3) G3 (nI i) 0))), (4, .int (pt (q 3) G3 (nI i) 0)), (0, .ref h), (1, .ref t0)]) hx hb dX2_score_115 hl (k := 4) rfl (nI_add i 1) (by decide) rfl (fun ls hl => ?_)
            refine lv_goto (tgt := 8) hx hb dX2_score_118 (by decide) ?_
            rw [show (scI (q 3) G3 f3 f4 dy wg i) - ((pt (q 3) G3 (nI i) 3) * ((scT (f3 i) (f4 i) dy (pt (q 3) G3 (nI i) 0)) - (pt (q 3) G3 (nI i) 0))) = scI (q 3) G3 f3 f4 dy wg (i + 1) from e9.symm] at hl
            exact ih (i + 1) (by omega) (by omega) ls (lv_sub hl [0, 2, 5, 6] rfl)
          · skip
            have k1 : ¬ ¬ f3 i = 1 := fun q => q c15
            refine lv_iload hx hb dX2_score_81 (lv_at hl 1 rfl) ?_
            refine lv_aload_n hx hb dX2_score_83 rfl (lv_at hl 5 rfl) ?_
            refine lv_iconst (v := 3) hx hb dX2_score_84 (by decide) ?_
            refine lv_iload_n hx hb dX2_score_85 rfl (lv_at hl 3 rfl) ?_
            refine lv_iconst (v := 1) hx hb dX2_score_86 (by decide) ?_
            have hPc := hP.sub (ws' := (c_X8_part3 k t0 t tn tl tc ta rw q G3 (nI i) 1)) [3, 4, 5, 6] rfl
            refine vp_callSi (va_Run.run (va_runV (As := [.int 3, .int (nI i), .int 1]) (rest := [.int (scT (f3 i) (f4 i) dy (pt (q 3) G3 (nI i) 0))]) ⟨hx, hb, hml, hown, hts⟩ (X8_part3 l D k t0 t tn tl tc ta rw q G3 (nI i) 1 (by omega) (by decide)) (cwV 3 hts gX2_score_X8_part rfl rfl rfl (by decide +kernel) ⟨Nat.le_of_ble_eq_true rfl, Nat.le_of_ble_eq_true rfl⟩) ⟨PS.blind _ _ _ _, va_recv hG.1 hP (ci := 8) (q0 := 3) rfl rfl, PS.pre hPc hG [.ref t0, .int 3, .int (nI i), .int 1]⟩ rfl rfl hl.1 rfl (lv_room (Nat.le_of_ble_eq_true rfl)) dX2_score_87 ⟨Nat.le_of_ble_eq_true rfl, Nat.le_of_ble_eq_true rfl⟩)) (fun r hq => ?_)
            generalize r = y17 at hq ⊢
            have hq : y17 = pt (q 3) G3 (nI i) 1 := hq
            refine tp_i (y := pt (q 3) G3 (nI i) 1) (hq) ?_
            refine lv_icmp_gt (x := scT (f3 i) (f4 i) dy (pt (q 3) G3 (nI i) 0)) (y := pt (q 3) G3 (nI i) 1) (tgt := 97) hx hb dX2_score_90 (by decide) (fun c18 => ?_) (fun c18 => ?_)
            · skip
              have e9 : scI (q 3) G3 f3 f4 dy wg (i + 1) = scI (q 3) G3 f3 f4 dy wg i - pt (q 3) G3 (nI i) 3 * (scT (f3 i) (f4 i) dy (pt (q 3) G3 (nI i) 0) - pt (q 3) G3 (nI i) 0) := (if_neg k1).trans (if_pos c18)
              refine lv_iconst (v := 0) hx hb dX2_score_97 (by decide) ?_
              refine lv_istore (lv' := [(6, .int 0), (2, .int ((scI (q 3) G3 f3 f4 dy wg i) - ((pt (q 3) G3 (nI i) 3) * ((scT (f3 i) (f4 i) dy (pt (q 3) G3 (nI i) 0)) - (pt (q 3) G3 (nI i) 0))))), (5, .int (scT (f3 i) (f4 i) dy (pt (q 3) G3 (nI i) 0))), (4, .int (pt (q 3) G3 (nI i) 0)), (3, .int (nI i)), (0, .ref h), (1, .ref t0)]) hx hb dX2_score_98 hl (by decide) rfl (fun ls hl => ?_)
              refine lv_iload hx hb dX2_score_100 (lv_at hl 0 rfl) ?_
              refine lv_if_eq (x := 0) (tgt := 115) hx hb dX2_score_102 (by decide) (fun c19 => ?_) (fun c19 => absurd c19 (by decide))
              refine lv_iinc (v := nI (i + 1)) (lv' := [(3, .int (nI (i + 1))), (6, .int 0), (2, .int ((scI (q 3) G3 f3 f4 dy wg i) - ((pt (q 3) G3 (nI i) 3) * ((scT (f3 i) (f4 i) dy (pt (q 3) G3 (nI i) 0)) - (pt (q 3) G3 (nI i) 0))))), (5, .int (scT (f3 i) (f4 i) dy (pt (q 3) G3 (nI i) 0))), (4, .int (pt (q 3) G3 (nI i) 0)), (0, .ref h), (1, .ref t0)]) hx hb dX2_score_115 hl (k := 4) rfl (nI_add i 1) (by decide) rfl (fun ls hl => ?_)
              refine lv_goto (tgt := 8) hx hb dX2_score_118 (by decide) ?_
              rw [show (scI (q 3) G3 f3 f4 dy wg i) - ((pt (q 3) G3 (nI i) 3) * ((scT (f3 i) (f4 i) dy (pt (q 3) G3 (nI i) 0)) - (pt (q 3) G3 (nI i) 0))) = scI (q 3) G3 f3 f4 dy wg (i + 1) from e9.symm] at hl
              exact ih (i + 1) (by omega) (by omega) ls (lv_sub hl [0, 2, 5, 6] rfl)
            · skip
              have e9 : scI (q 3) G3 f3 f4 dy wg (i + 1) = scI (q 3) G3 f3 f4 dy wg i - pt (q 3) G3 (nI i) 3 * (scT (f3 i) (f4 i) dy (pt (q 3) G3 (nI i) 0) - pt (q 3) G3 (nI i) 0) + pt (q 3) G3 (nI i) 2 := (if_neg k1).trans (if_neg c18)
              refine lv_iconst (v := 1) hx hb dX2_score_93 (by decide) ?_
              refine lv_goto (tgt := 98) hx hb dX2_score_94 (by decide) ?_
              refine lv_istore (lv' := [(6, .int 1), (2, .int ((scI (q 3) G3 f3 f4 dy wg i) - ((pt (q 3) G3 (nI i) 3) * ((scT (f3 i) (f4 i) dy (pt (q 3) G3 (nI i) 0)) - (pt (q 3) G3 (nI i) 0))))), (5, .int (scT (f3 i) (f4 i) dy (pt (q 3) G3 (nI i) 0))), (4, .int (pt (q 3) G3 (nI i) 0)), (3, .int (nI i)), (0, .ref h), (1, .ref t0)]) hx hb dX2_score_98 hl (by decide) rfl (fun ls hl => ?_)
              refine lv_iload hx hb dX2_score_100 (lv_at hl 0 rfl) ?_
              refine lv_if_eq (x := 1) (tgt := 115) hx hb dX2_score_102 (by decide) (fun c20 => absurd c20 (by decide)) (fun c20 => ?_)
              refine lv_iload_n hx hb dX2_score_105 rfl (lv_at hl 1 rfl) ?_
              refine lv_aload_n hx hb dX2_score_106 rfl (lv_at hl 6 rfl) ?_
              refine lv_iconst (v := 3) hx hb dX2_score_107 (by decide) ?_
              refine lv_iload_n hx hb dX2_score_108 rfl (lv_at hl 4 rfl) ?_
              refine lv_iconst (v := 2) hx hb dX2_score_109 (by decide) ?_
              have hPc := hP.sub (ws' := (c_X8_part3 k t0 t tn tl tc ta rw q G3 (nI i) 2)) [3, 4, 5, 6] rfl
              refine vp_callSi (va_Run.run (va_runV (As := [.int 3, .int (nI i), .int 2]) (rest := [.int ((scI (q 3) G3 f3 f4 dy wg i) - ((pt (q 3) G3 (nI i) 3) * ((scT (f3 i) (f4 i) dy (pt (q 3) G3 (nI i) 0)) - (pt (q 3) G3 (nI i) 0))))]) ⟨hx, hb, hml, hown, hts⟩ (X8_part3 l D k t0 t tn tl tc ta rw q G3 (nI i) 2 (by omega) (by decide)) (cwV 3 hts gX2_score_X8_part rfl rfl rfl (by decide +kernel) ⟨Nat.le_of_ble_eq_true rfl, Nat.le_of_ble_eq_true rfl⟩) ⟨PS.blind _ _ _ _, va_recv hG.1 hP (ci := 8) (q0 := 3) rfl rfl, PS.pre hPc hG [.ref t0, .int 3, .int (nI i), .int 2]⟩ rfl rfl hl.1 rfl (lv_room (Nat.le_of_ble_eq_true rfl)) dX2_score_110 ⟨Nat.le_of_ble_eq_true rfl, Nat.le_of_ble_eq_true rfl⟩)) (fun r hq => ?_)
              generalize r = y21 at hq ⊢
              have hq : y21 = pt (q 3) G3 (nI i) 2 := hq
              refine tp_i (y := pt (q 3) G3 (nI i) 2) (hq) ?_
              refine lv_iadd hx hb dX2_score_113 ?_
              refine lv_istore_n (lv' := [(2, .int (((scI (q 3) G3 f3 f4 dy wg i) - ((pt (q 3) G3 (nI i) 3) * ((scT (f3 i) (f4 i) dy (pt (q 3) G3 (nI i) 0)) - (pt (q 3) G3 (nI i) 0)))) + (pt (q 3) G3 (nI i) 2))), (6, .int 1), (5, .int (scT (f3 i) (f4 i) dy (pt (q 3) G3 (nI i) 0))), (4, .int (pt (q 3) G3 (nI i) 0)), (3, .int (nI i)), (0, .ref h), (1, .ref t0)]) hx hb dX2_score_114 rfl hl (by decide) rfl (fun ls hl => ?_)
              refine lv_iinc (v := nI (i + 1)) (lv' := [(3, .int (nI (i + 1))), (2, .int (((scI (q 3) G3 f3 f4 dy wg i) - ((pt (q 3) G3 (nI i) 3) * ((scT (f3 i) (f4 i) dy (pt (q 3) G3 (nI i) 0)) - (pt (q 3) G3 (nI i) 0)))) + (pt (q 3) G3 (nI i) 2))), (6, .int 1), (5, .int (scT (f3 i) (f4 i) dy (pt (q 3) G3 (nI i) 0))), (4, .int (pt (q 3) G3 (nI i) 0)), (0, .ref h), (1, .ref t0)]) hx hb dX2_score_115 hl (k := 4) rfl (nI_add i 1) (by decide) rfl (fun ls hl => ?_)
              refine lv_goto (tgt := 8) hx hb dX2_score_118 (by decide) ?_
              rw [show ((scI (q 3) G3 f3 f4 dy wg i) - ((pt (q 3) G3 (nI i) 3) * ((scT (f3 i) (f4 i) dy (pt (q 3) G3 (nI i) 0)) - (pt (q 3) G3 (nI i) 0)))) + (pt (q 3) G3 (nI i) 2) = scI (q 3) G3 f3 f4 dy wg (i + 1) from e9.symm] at hl
              exact ih (i + 1) (by omega) (by omega) ls (lv_sub hl [0, 1, 5, 6] rfl)
  exact L1 _ 0 (Nat.zero_le _) (Nat.lt_succ_self _) ls (lv_sub hl [0, 1, 2, 3] rfl)

abbrev c_X0_add (k : Nat → ClassId) (h : Nat) (bq1 : Nat) (bq2 : Nat) (bq3 : Nat) (b : Nat) (bd : Nat → Int32) (bs : Nat → Int32) (bh : Nat → Int32) (ad : Int32) (as : Int32) (ah : Int32) : va_W := [(h, .inr (0, [.int (nI b), .ref bq1, .ref bq2, .ref bq3])), (bq1, .inl (k 0, 20, .inl bd)), (bq2, .inl (k 0, 20, .inl bs)), (bq3, .inl (k 0, 20, .inl bh))]
abbrev r_X0_add : Room := { frames := 0, cells := 0, slots := 0, locals := 0 }
def w_X0_add (k : Nat → ClassId) (h : Nat) (bq1 : Nat) (bq2 : Nat) (bq3 : Nat) (b : Nat) (bd : Nat → Int32) (bs : Nat → Int32) (bh : Nat → Int32) (ad : Int32) (as : Int32) (ah : Int32) : Unit → va_W := fun _ => [(h, .inr (0, [.int (nI (b + 1)), .ref bq1, .ref bq2, .ref bq3])), (bq1, .inl (k 0, 20, .inl (upd bd b ad))), (bq2, .inl (k 0, 20, .inl (upd bs b as))), (bq3, .inl (k 0, 20, .inl (upd bh b ah)))]
def p_X0_add (k : Nat → ClassId) (h : Nat) (bq1 : Nat) (bq2 : Nat) (bq3 : Nat) (b : Nat) (bd : Nat → Int32) (bs : Nat → Int32) (bh : Nat → Int32) (ad : Int32) (as : Int32) (ah : Int32) : Unit → Prop := fun (u : Unit) => True
abbrev q_X0_add (D : va_G) (k : Nat → ClassId) (h : Nat) (bq1 : Nat) (bq2 : Nat) (bq3 : Nat) (b : Nat) (bd : Nat → Int32) (bs : Nat → Int32) (bh : Nat → Int32) (ad : Int32) (as : Int32) (ah : Int32) (A : Nat → Prop) : Array Value → State → Outcome → State → Prop := va_Qv (p_X0_add k h bq1 bq2 bq3 b bd bs bh ad as ah) (fun u9 t9 => BO D (w_X0_add k h bq1 bq2 bq3 b bd bs bh ad as ah u9) A t9) A
set_option maxHeartbeats 2000000 in
set_option maxRecDepth 100000 in
theorem X0_add (l : Launch) (D : va_G) (k : Nat → ClassId) (sz : Nat) (h : Nat) (bq1 : Nat) (bq2 : Nat) (bq3 : Nat) (b : Nat) (bd : Nat → Int32) (bs : Nat → Int32) (bh : Nat → Int32) (ad : Int32) (as : Int32) (ah : Int32) (hb20 : b < 20) : Met l yX0_add wsX0_add r_X0_add (va_Pc [.ref h, .int ad, .int as, .int ah] (PR D k (c_X0_add k h bq1 bq2 bq3 b bd bs bh ad as ah) sz)) (q_X0_add D k h bq1 bq2 bq3 b bd bs bh ad as ah (va_A (c_X0_add k h bq1 bq2 bq3 b bd bs bh ad as ah) sz)) 0 0 (va_A (c_X0_add k h bq1 bq2 bq3 b bd bs bh ad as ah) sz) := by
  refine Met.ofW (cc := cX0_add) (maxL := 4) (ret := none) (by decide) rfl ?_
  intro p e s m args below meth c s₁ B hml hv
  obtain ⟨rfl, hsz, hP, hG, hD0⟩ := hv
  have hx := B.exec
  have hb := B.bytes
  have hr := B.returns
  have hts := atoms_spec (ws := wsX0_add) B.pre
  have hown : s.vm.findClass RX0 = some m.cls := findClass_of_methodNamed B.named
  have hlocks := B.notSynchronized
  have hi0 : ∀ w ∈ wsX00, w ∈ wsX0_add := fun _ h => List.mem_cons_of_mem _ (List.mem_append_right _ h)
  subst hsz
  have hD := hD0.self (sz := s.heap.size)
  generalize hAe : va_A (c_X0_add k h bq1 bq2 bq3 b bd bs bh ad as ah) s.heap.size = A at hD ⊢
  have hA : ∀ q : Nat, s.heap.size ≤ q → A q := fun q h => by rw [← hAe]; exact Or.inr h
  have hS : va_S A s.heap s.heap [] := va_S.rf
  have hP : va_P D vwCl [(h, .inr (0, [.int (nI b), .ref bq1, .ref bq2, .ref bq3])), (bq1, .inl (k 0, 20, .inl bd)), (bq2, .inl (k 0, 20, .inl bs)), (bq3, .inl (k 0, 20, .inl bh))] s.heap := hP
  have hD : va_D A [(h, .inr (0, [.int (nI b), .ref bq1, .ref bq2, .ref bq3])), (bq1, .inl (k 0, 20, .inl bd)), (bq2, .inl (k 0, 20, .inl bs)), (bq3, .inl (k 0, 20, .inl bh))] := hD
  have hl := lv_entry ([.ref h, .int ad, .int as, .int ah]) (n := 4) (Nat.le_of_ble_eq_true rfl)
  rw [lg_entry_eq]
  generalize (lg_sl ([.ref h, .int ad, .int as, .int ah]) ++ List.replicate (4 - (lg_sl ([.ref h, .int ad, .int as, .int ah])).length) Slot.unset).toArray = ls at hl ⊢
  have hl : lv_has ls 4 [(0, .ref h), (1, .int ad), (2, .int as), (3, .int ah)] := hl
  refine lv_aload_n hx hb dX0_add_0 rfl (lv_at hl 0 rfl) ?_
  refine va_get (D := D) (ci := 0) (v := .int (nI b)) (C := RX0) (T := TX0) (N := 4) hx hb hts hi0 hown hG.1 hP 0 rfl rfl 0 (by decide) (hts (.fieldLink RX0 9 "SleptMatters$Book" "size" "I") (List.mem_cons_of_mem _ (List.mem_append_left _ (List.mem_of_getElem? (i := 0) rfl)))) (fun _ h9 => h9) rfl dX0_add_1 ?_
  refine lv_bipush (v := 20) hx hb dX0_add_4 (by decide) ?_
  refine bn_lt (i := b) (j := 20) (tgt := 10) hx hb dX0_add_6 (by decide) (by omega) (by omega) (fun c1 => ?_) (fun c1 => absurd c1 (by omega))
  refine lv_aload_n hx hb dX0_add_10 rfl (lv_at hl 0 rfl) ?_
  refine va_get (D := D) (ci := 0) (v := .ref bq1) (C := RX0) (T := TX0) (N := 4) hx hb hts hi0 hown hG.1 hP 0 rfl rfl 1 (by decide) (hts (.fieldLink RX0 15 "SleptMatters$Book" "days" "[I") (List.mem_cons_of_mem _ (List.mem_append_left _ (List.mem_of_getElem? (i := 1) rfl)))) (fun _ h9 => h9) rfl dX0_add_11 ?_
  refine lv_aload_n hx hb dX0_add_14 rfl (lv_at hl 0 rfl) ?_
  refine va_get (D := D) (ci := 0) (v := .int (nI b)) (C := RX0) (T := TX0) (N := 4) hx hb hts hi0 hown hG.1 hP 0 rfl rfl 0 (by decide) (hts (.fieldLink RX0 9 "SleptMatters$Book" "size" "I") (List.mem_cons_of_mem _ (List.mem_append_left _ (List.mem_of_getElem? (i := 0) rfl)))) (fun _ h9 => h9) rfl dX0_add_15 ?_
  refine lv_iload_n hx hb dX0_add_18 rfl (lv_at hl 1 rfl) ?_
  refine va_iast hx hb hG.1 hP hD hS 1 0 rfl rfl (vp_in_nI (by omega) (by omega)) dX0_add_19 (fun H locs hP hD hS => ?_)
  rw [nI_clamp (n := b) (by omega)] at hP hD
  have hP : va_P D vwCl [(h, .inr (0, [.int (nI b), .ref bq1, .ref bq2, .ref bq3])), (bq1, .inl (k 0, 20, .inl (upd bd b ad))), (bq2, .inl (k 0, 20, .inl bs)), (bq3, .inl (k 0, 20, .inl bh))] H := hP
  have hD : va_D A [(h, .inr (0, [.int (nI b), .ref bq1, .ref bq2, .ref bq3])), (bq1, .inl (k 0, 20, .inl (upd bd b ad))), (bq2, .inl (k 0, 20, .inl bs)), (bq3, .inl (k 0, 20, .inl bh))] := hD
  refine lv_aload_n hx hb dX0_add_20 rfl (lv_at hl 0 rfl) ?_
  refine va_get (D := D) (ci := 0) (v := .ref bq2) (C := RX0) (T := TX0) (N := 4) hx hb hts hi0 hown hG.1 hP 0 rfl rfl 2 (by decide) (hts (.fieldLink RX0 19 "SleptMatters$Book" "sleepers" "[I") (List.mem_cons_of_mem _ (List.mem_append_left _ (List.mem_of_getElem? (i := 2) rfl)))) (fun _ h9 => h9) rfl dX0_add_21 ?_
  refine lv_aload_n hx hb dX0_add_24 rfl (lv_at hl 0 rfl) ?_
  refine va_get (D := D) (ci := 0) (v := .int (nI b)) (C := RX0) (T := TX0) (N := 4) hx hb hts hi0 hown hG.1 hP 0 rfl rfl 0 (by decide) (hts (.fieldLink RX0 9 "SleptMatters$Book" "size" "I") (List.mem_cons_of_mem _ (List.mem_append_left _ (List.mem_of_getElem? (i := 0) rfl)))) (fun _ h9 => h9) rfl dX0_add_25 ?_
  refine lv_iload_n hx hb dX0_add_28 rfl (lv_at hl 2 rfl) ?_
  refine va_iast hx hb hG.1 hP hD hS 2 0 rfl rfl (vp_in_nI (by omega) (by omega)) dX0_add_29 (fun H locs hP hD hS => ?_)
  rw [nI_clamp (n := b) (by omega)] at hP hD
  have hP : va_P D vwCl [(h, .inr (0, [.int (nI b), .ref bq1, .ref bq2, .ref bq3])), (bq1, .inl (k 0, 20, .inl (upd bd b ad))), (bq2, .inl (k 0, 20, .inl (upd bs b as))), (bq3, .inl (k 0, 20, .inl bh))] H := hP
  have hD : va_D A [(h, .inr (0, [.int (nI b), .ref bq1, .ref bq2, .ref bq3])), (bq1, .inl (k 0, 20, .inl (upd bd b ad))), (bq2, .inl (k 0, 20, .inl (upd bs b as))), (bq3, .inl (k 0, 20, .inl bh))] := hD
  refine lv_aload_n hx hb dX0_add_30 rfl (lv_at hl 0 rfl) ?_
  refine va_get (D := D) (ci := 0) (v := .ref bq3) (C := RX0) (T := TX0) (N := 4) hx hb hts hi0 hown hG.1 hP 0 rfl rfl 3 (by decide) (hts (.fieldLink RX0 22 "SleptMatters$Book" "houses" "[I") (List.mem_cons_of_mem _ (List.mem_append_left _ (List.mem_of_getElem? (i := 3) rfl)))) (fun _ h9 => h9) rfl dX0_add_31 ?_
  refine lv_aload_n hx hb dX0_add_34 rfl (lv_at hl 0 rfl) ?_
  refine va_get (D := D) (ci := 0) (v := .int (nI b)) (C := RX0) (T := TX0) (N := 4) hx hb hts hi0 hown hG.1 hP 0 rfl rfl 0 (by decide) (hts (.fieldLink RX0 9 "SleptMatters$Book" "size" "I") (List.mem_cons_of_mem _ (List.mem_append_left _ (List.mem_of_getElem? (i := 0) rfl)))) (fun _ h9 => h9) rfl dX0_add_35 ?_
  refine lv_iload_n hx hb dX0_add_38 rfl (lv_at hl 3 rfl) ?_
  refine va_iast hx hb hG.1 hP hD hS 3 0 rfl rfl (vp_in_nI (by omega) (by omega)) dX0_add_39 (fun H locs hP hD hS => ?_)
  rw [nI_clamp (n := b) (by omega)] at hP hD
  have hP : va_P D vwCl [(h, .inr (0, [.int (nI b), .ref bq1, .ref bq2, .ref bq3])), (bq1, .inl (k 0, 20, .inl (upd bd b ad))), (bq2, .inl (k 0, 20, .inl (upd bs b as))), (bq3, .inl (k 0, 20, .inl (upd bh b ah)))] H := hP
  have hD : va_D A [(h, .inr (0, [.int (nI b), .ref bq1, .ref bq2, .ref bq3])), (bq1, .inl (k 0, 20, .inl (upd bd b ad))), (bq2, .inl (k 0, 20, .inl (upd bs b as))), (bq3, .inl (k 0, 20, .inl (upd bh b ah)))] := hD
  refine lv_aload_n hx hb dX0_add_40 rfl (lv_at hl 0 rfl) ?_
  refine lv_dup hx hb dX0_add_41 rfl ?_
  refine va_get (D := D) (ci := 0) (v := .int (nI b)) (C := RX0) (T := TX0) (N := 4) hx hb hts hi0 hown hG.1 hP 0 rfl rfl 0 (by decide) (hts (.fieldLink RX0 9 "SleptMatters$Book" "size" "I") (List.mem_cons_of_mem _ (List.mem_append_left _ (List.mem_of_getElem? (i := 0) rfl)))) (fun _ h9 => h9) rfl dX0_add_42 ?_
  refine lv_iconst (v := 1) hx hb dX0_add_45 (by decide) ?_
  refine lv_iadd hx hb dX0_add_46 ?_
  refine tp_i (y := nI (b + 1)) (nI_add b 1) ?_
  refine va_put (D := D) (ci := 0) (v := .int (nI (b + 1))) (ty := .int) (C := RX0) (T := TX0) (N := 4) hx hb hts hi0 tyX0 tyX0_ok nmX0 hown hG.1 hP hD hS 0 rfl rfl 0 (by decide) (hts (.fieldLink RX0 9 "SleptMatters$Book" "size" "I") (List.mem_cons_of_mem _ (List.mem_append_left _ (List.mem_of_getElem? (i := 0) rfl)))) (fun _ h9 => h9) rfl (by decide +kernel) rfl rfl (Nat.le_of_ble_eq_true rfl) dX0_add_47 (fun H locs hP hD hS => ?_)
  have hP : va_P D vwCl [(h, .inr (0, [.int (nI (b + 1)), .ref bq1, .ref bq2, .ref bq3])), (bq1, .inl (k 0, 20, .inl (upd bd b ad))), (bq2, .inl (k 0, 20, .inl (upd bs b as))), (bq3, .inl (k 0, 20, .inl (upd bh b ah)))] H := hP
  have hD : va_D A [(h, .inr (0, [.int (nI (b + 1)), .ref bq1, .ref bq2, .ref bq3])), (bq1, .inl (k 0, 20, .inl (upd bd b ad))), (bq2, .inl (k 0, 20, .inl (upd bs b as))), (bq3, .inl (k 0, 20, .inl (upd bh b ah)))] := hD
  have hP9 := hP.sub (ws' := [(h, .inr (0, [.int (nI (b + 1)), .ref bq1, .ref bq2, .ref bq3])), (bq1, .inl (k 0, 20, .inl (upd bd b ad))), (bq2, .inl (k 0, 20, .inl (upd bs b as))), (bq3, .inl (k 0, 20, .inl (upd bh b ah)))]) [0, 1, 2, 3] rfl
  have hD9 := hD.sub (ws' := [(h, .inr (0, [.int (nI (b + 1)), .ref bq1, .ref bq2, .ref bq3])), (bq1, .inl (k 0, 20, .inl (upd bd b ad))), (bq2, .inl (k 0, 20, .inl (upd bs b as))), (bq3, .inl (k 0, 20, .inl (upd bh b ah)))]) [0, 1, 2, 3] (by decide +kernel) rfl
  exact W.vret hx hb hr (fun t9 ht _ => ⟨⟨(), rfl, trivial, by rw [ht]; exact hP9, hD9⟩, hS.F ht⟩) hS.2.2 dX0_add_50

abbrev c_X0_firstWrong (k : Nat → ClassId) (h : Nat) (bq1 : Nat) (bq2 : Nat) (bq3 : Nat) (b : Nat) (bd : Nat → Int32) (bs : Nat → Int32) (bh : Nat → Int32) (t0 : Nat) (t : Nat) (tn : Nat) (tl : Nat) (tc : Nat) (ta : Nat) (rw : Nat → Nat) (q : Nat → Nat) (G0 : Nat → Int32) (G1 : Nat → Int32) (lf : Nat → Int32) (fr : Int32) : va_W := [(h, .inr (0, [.int (nI b), .ref bq1, .ref bq2, .ref bq3])), (bq1, .inl (k 0, 20, .inl bd)), (bq2, .inl (k 0, 20, .inl bs)), (bq3, .inl (k 0, 20, .inl bh)), (t0, .inr (8, [.ref t, .ref tn, .ref tl, .ref tc, .ref ta])), (t, .inl (k 0, 4, .inl (cI q))), (tn, .inl (k 4, 4, .inr (.inr (.inr (.inr (gr4 rw)))))), ((rw 0), .inl (k 0, 80, .inl G0)), ((rw 1), .inl (k 0, 80, .inl G1)), (tl, .inl (k 0, 400, .inl lf))]
abbrev r_X0_firstWrong : Room := { frames := 3, cells := 0, slots := 0, locals := 68 }
abbrev q_X0_firstWrong (k : Nat → ClassId) (h : Nat) (bq1 : Nat) (bq2 : Nat) (bq3 : Nat) (b : Nat) (bd : Nat → Int32) (bs : Nat → Int32) (bh : Nat → Int32) (t0 : Nat) (t : Nat) (tn : Nat) (tl : Nat) (tc : Nat) (ta : Nat) (rw : Nat → Nat) (q : Nat → Nat) (G0 : Nat → Int32) (G1 : Nat → Int32) (lf : Nat → Int32) (fr : Int32) : Array Value → State → Outcome → State → Prop := vp_Si (fun r => r = fwR q G0 G1 lf bd bs bh fr b)
set_option maxHeartbeats 2000000 in
set_option maxRecDepth 100000 in
theorem X0_firstWrong (l : Launch) (D : va_G) (k : Nat → ClassId) (h : Nat) (bq1 : Nat) (bq2 : Nat) (bq3 : Nat) (b : Nat) (bd : Nat → Int32) (bs : Nat → Int32) (bh : Nat → Int32) (t0 : Nat) (t : Nat) (tn : Nat) (tl : Nat) (tc : Nat) (ta : Nat) (rw : Nat → Nat) (q : Nat → Nat) (G0 : Nat → Int32) (G1 : Nat → Int32) (lf : Nat → Int32) (fr : Int32) (hb20 : b ≤ 20) (hq0 : q 0 ≤ 7) (hq1 : q 1 ≤ 7) : Met l yX0_firstWrong wsX0_firstWrong r_X0_firstWrong (va_Pc [.ref h, .ref t0, .int fr] (PS D k (c_X0_firstWrong k h bq1 bq2 bq3 b bd bs bh t0 t tn tl tc ta rw q G0 G1 lf fr))) (q_X0_firstWrong k h bq1 bq2 bq3 b bd bs bh t0 t tn tl tc ta rw q G0 G1 lf fr) 0 0 (fun _ => False) := by
  refine Met.ofW (cc := cX0_firstWrong) (maxL := 8) (ret := (some .int)) (by decide) rfl ?_
  intro p e s m args below meth c s₁ B hml hv
  obtain ⟨rfl, hP, hG⟩ := hv
  have hx := B.exec
  have hb := B.bytes
  have hr := B.returns
  have hts := atoms_spec (ws := wsX0_firstWrong) B.pre
  have hown : s.vm.findClass RX0 = some m.cls := findClass_of_methodNamed B.named
  have hlocks := B.notSynchronized
  have hi0 : ∀ w ∈ wsX00, w ∈ wsX0_firstWrong := fun _ h => List.mem_cons_of_mem _ (List.mem_append_left _ (List.mem_append_right _ h))
  have hi8 : ∀ w ∈ wsX80, w ∈ wsX0_firstWrong := fun _ h => List.mem_cons_of_mem _ (List.mem_append_right _ h)
  have hP : va_P D vwCl [(h, .inr (0, [.int (nI b), .ref bq1, .ref bq2, .ref bq3])), (bq1, .inl (k 0, 20, .inl bd)), (bq2, .inl (k 0, 20, .inl bs)), (bq3, .inl (k 0, 20, .inl bh)), (t0, .inr (8, [.ref t, .ref tn, .ref tl, .ref tc, .ref ta])), (t, .inl (k 0, 4, .inl (cI q))), (tn, .inl (k 4, 4, .inr (.inr (.inr (.inr (gr4 rw)))))), ((rw 0), .inl (k 0, 80, .inl G0)), ((rw 1), .inl (k 0, 80, .inl G1)), (tl, .inl (k 0, 400, .inl lf))] s.heap := hP
  have hl := lv_entry ([.ref h, .ref t0, .int fr]) (n := 8) (Nat.le_of_ble_eq_true rfl)
  rw [lg_entry_eq]
  generalize (lg_sl ([.ref h, .ref t0, .int fr]) ++ List.replicate (8 - (lg_sl ([.ref h, .ref t0, .int fr])).length) Slot.unset).toArray = ls at hl ⊢
  have hl : lv_has ls 8 [(0, .ref h), (1, .ref t0), (2, .int fr)] := hl
  refine lv_iconst (v := 0) hx hb dX0_firstWrong_0 (by decide) ?_
  refine lv_istore_n (lv' := [(3, .int 0), (0, .ref h), (1, .ref t0), (2, .int fr)]) hx hb dX0_firstWrong_1 rfl hl (by decide) rfl (fun ls hl => ?_)
  refine lv_iconst (v := 0) hx hb dX0_firstWrong_2 (by decide) ?_
  refine lv_istore (lv' := [(4, .int 0), (3, .int 0), (0, .ref h), (1, .ref t0), (2, .int fr)]) hx hb dX0_firstWrong_3 hl (by decide) rfl (fun ls hl => ?_)
  refine lv_iconst (v := 0) hx hb dX0_firstWrong_5 (by decide) ?_
  refine lv_istore (lv' := [(5, .int 0), (4, .int 0), (3, .int 0), (0, .ref h), (1, .ref t0), (2, .int fr)]) hx hb dX0_firstWrong_6 hl (by decide) rfl (fun ls hl => ?_)
  have L1 : ∀ (fu9 : Nat) (i : Nat), (i ≤ b) → (fwE q G0 G1 lf bd bs bh fr b i = fwE q G0 G1 lf bd bs bh fr b 0) → b - i < fu9 → ∀ (ls : Array Slot), lv_has ls 8 [(5, .int (nI i)), (4, .int (orS bh i)), (3, .int (orS bs i)), (0, .ref h), (1, .ref t0), (2, .int fr)] → W p l e r_X0_firstWrong s m ([.ref h, .ref t0, .int fr] : List Value).toArray below meth c s.heap [] 0 0 (MQ below (q_X0_firstWrong k h bq1 bq2 bq3 b bd bs bh t0 t tn tl tc ta rw q G0 G1 lf fr) ([.ref h, .ref t0, .int fr] : List Value).toArray s 0 0 (fun _ => False)) (F0 m 8 ls []) := by
    intro fu9
    induction fu9 with
    | zero => intro i hi he hmu; exact absurd hmu (Nat.not_lt_zero _)
    | succ fu9 ih =>
      intro i hi he hmu ls hl
      refine lv_iload hx hb dX0_firstWrong_8 (lv_at hl 0 rfl) ?_
      refine lv_aload_n hx hb dX0_firstWrong_10 rfl (lv_at hl 3 rfl) ?_
      refine va_get (D := D) (ci := 0) (v := .int (nI b)) (C := RX0) (T := TX0) (N := 4) hx hb hts hi0 hown hG.1 hP 0 rfl rfl 0 (by decide) (hts (.fieldLink RX0 9 "SleptMatters$Book" "size" "I") (List.mem_cons_of_mem _ (List.mem_append_left _ (List.mem_append_left _ (List.mem_append_left _ (List.mem_of_getElem? (i := 0) rfl)))))) (fun _ h9 => h9) rfl dX0_firstWrong_11 ?_
      refine bn_ge (i := i) (j := b) (tgt := 177) hx hb dX0_firstWrong_14 (by decide) (by omega) (by omega) (fun c2 => ?_) (fun c2 => ?_)
      · skip
        have e8 : fwE q G0 G1 lf bd bs bh fr b i = i := rn_stop (fun hh => by have := hh.1; omega)
        have e7 : fwR q G0 G1 lf bd bs bh fr b = -1 := if_neg (by rw [← he, e8]; omega)
        refine lv_iconst (v := (-1)) hx hb dX0_firstWrong_177 (by decide) ?_
        exact W.iret (v := (-1)) hx hb hr (fun t9 ht _ => ⟨(-1), rfl, e7.symm, ht⟩) (fun q h => by cases h) dX0_firstWrong_178
      · skip
        refine lv_iload hx hb dX0_firstWrong_17 (lv_at hl 0 rfl) ?_
        refine lv_if_ne (x := nI i) (tgt := 40) hx hb dX0_firstWrong_19 (by decide) (fun c3 => ?_) (fun c3 => ?_)
        · skip
          have hp : 1 ≤ i := Nat.pos_of_ne_zero (fun q => c3 (by rw [q]; rfl))
          have hp0 : ¬ i = 0 := by omega
          refine lv_aload_n hx hb dX0_firstWrong_40 rfl (lv_at hl 3 rfl) ?_
          refine va_get (D := D) (ci := 0) (v := .ref bq1) (C := RX0) (T := TX0) (N := 4) hx hb hts hi0 hown hG.1 hP 0 rfl rfl 1 (by decide) (hts (.fieldLink RX0 15 "SleptMatters$Book" "days" "[I") (List.mem_cons_of_mem _ (List.mem_append_left _ (List.mem_append_left _ (List.mem_append_left _ (List.mem_of_getElem? (i := 1) rfl)))))) (fun _ h9 => h9) rfl dX0_firstWrong_41 ?_
          refine lv_iload hx hb dX0_firstWrong_44 (lv_at hl 0 rfl) ?_
          refine va_iald hx hb hG.1 hP 1 0 rfl rfl (vp_in_nI (by omega) (by omega)) dX0_firstWrong_46 ?_
          refine tp_i (y := bd i) (congrArg _ (nI_clamp (n := i) (by omega))) ?_
          refine lv_aload_n hx hb dX0_firstWrong_47 rfl (lv_at hl 3 rfl) ?_
          refine va_get (D := D) (ci := 0) (v := .ref bq1) (C := RX0) (T := TX0) (N := 4) hx hb hts hi0 hown hG.1 hP 0 rfl rfl 1 (by decide) (hts (.fieldLink RX0 15 "SleptMatters$Book" "days" "[I") (List.mem_cons_of_mem _ (List.mem_append_left _ (List.mem_append_left _ (List.mem_append_left _ (List.mem_of_getElem? (i := 1) rfl)))))) (fun _ h9 => h9) rfl dX0_firstWrong_48 ?_
          refine lv_iload hx hb dX0_firstWrong_51 (lv_at hl 0 rfl) ?_
          refine lv_iconst (v := 1) hx hb dX0_firstWrong_53 (by decide) ?_
          refine lv_isub hx hb dX0_firstWrong_54 ?_
          refine tp_i (y := nI (i - 1)) (pk_sub (a := i) (b := 1) hp) ?_
          refine va_iald hx hb hG.1 hP 1 0 rfl rfl (vp_in_nI (by omega) (by omega)) dX0_firstWrong_55 ?_
          refine tp_i (y := bd (i - 1)) (congrArg _ (nI_clamp (n := i - 1) (by omega))) ?_
          refine lv_iconst (v := 1) hx hb dX0_firstWrong_56 (by decide) ?_
          refine lv_iadd hx hb dX0_firstWrong_57 ?_
          refine lv_icmp_ne (x := bd i) (y := (bd (i - 1)) + 1) (tgt := 65) hx hb dX0_firstWrong_58 (by decide) (fun c4 => ?_) (fun c4 => ?_)
          · skip
            have hT : itB fr bd i = false := by unfold itB; rw [if_neg hp0]; exact decide_eq_false c4
            refine lv_iconst (v := 0) hx hb dX0_firstWrong_65 (by decide) ?_
            refine lv_istore (lv' := [(6, .int 0), (5, .int (nI i)), (4, .int (orS bh i)), (3, .int (orS bs i)), (0, .ref h), (1, .ref t0), (2, .int fr)]) hx hb dX0_firstWrong_66 hl (by decide) rfl (fun ls hl => ?_)
            refine lv_iload_n hx hb dX0_firstWrong_68 rfl (lv_at hl 3 rfl) ?_
            refine lv_aload_n hx hb dX0_firstWrong_69 rfl (lv_at hl 4 rfl) ?_
            refine va_get (D := D) (ci := 0) (v := .ref bq2) (C := RX0) (T := TX0) (N := 4) hx hb hts hi0 hown hG.1 hP 0 rfl rfl 2 (by decide) (hts (.fieldLink RX0 19 "SleptMatters$Book" "sleepers" "[I") (List.mem_cons_of_mem _ (List.mem_append_left _ (List.mem_append_left _ (List.mem_append_left _ (List.mem_of_getElem? (i := 2) rfl)))))) (fun _ h9 => h9) rfl dX0_firstWrong_70 ?_
            refine lv_iload hx hb dX0_firstWrong_73 (lv_at hl 1 rfl) ?_
            refine va_iald hx hb hG.1 hP 2 0 rfl rfl (vp_in_nI (by omega) (by omega)) dX0_firstWrong_75 ?_
            refine tp_i (y := bs i) (congrArg _ (nI_clamp (n := i) (by omega))) ?_
            have hPc := hP.sub (ws' := (c_X9_isIn k (orS bs i) (bs i))) [] rfl
            refine vp_callSi (va_Run.run (va_runSN (As := [.int (orS bs i), .int (bs i)]) (rest := []) ⟨hx, hb, hml, hown, hts⟩ (X9_isIn l D k (orS bs i) (bs i) ) ⟨(va_cnB (own := RX0) (index := 25) (y := yX9_isIn) (host := RX9) 2 hts ggX0_firstWrong_X9_isIn rfl rfl rfl (hG.2.1 _ (List.mem_of_getElem? (i := 11) rfl)) (hts (.initialized RX9) (List.mem_cons_of_mem _ (List.mem_append_left _ (List.mem_append_left _ (List.mem_append_left _ (List.mem_of_getElem? (i := 5) rfl)))))) (by decide +kernel) ⟨Nat.le_of_ble_eq_true rfl, Nat.le_of_ble_eq_true rfl⟩), hts (.static yX9_isIn) (List.mem_cons_of_mem _ (List.mem_append_left _ (List.mem_append_left _ (List.mem_append_left _ (List.mem_of_getElem? (i := 4) rfl))))), trivial⟩ ⟨PS.blind _ _ _ _, PS.pre hPc hG [.int (orS bs i), .int (bs i)]⟩ rfl rfl hl.1 rfl (lv_room (Nat.le_of_ble_eq_true rfl)) dX0_firstWrong_76 ⟨Nat.le_of_ble_eq_true rfl, Nat.le_of_ble_eq_true rfl⟩)) (fun r hq => ?_)
            generalize r = y5 at hq ⊢
            have hq : y5 = inS (orS bs i) (bs i) := hq
            refine tp_i (y := inS (orS bs i) (bs i)) (hq) ?_
            refine lv_if_ne (x := inS (orS bs i) (bs i)) (tgt := 101) hx hb dX0_firstWrong_79 (by decide) (fun c6 => ?_) (fun c6 => ?_)
            · skip
              have hN : nwB bs bh i = false := by unfold nwB; rw [decide_eq_false c6]; rfl
              refine lv_iconst (v := 0) hx hb dX0_firstWrong_101 (by decide) ?_
              refine lv_istore (lv' := [(7, .int 0), (6, .int 0), (5, .int (nI i)), (4, .int (orS bh i)), (3, .int (orS bs i)), (0, .ref h), (1, .ref t0), (2, .int fr)]) hx hb dX0_firstWrong_102 hl (by decide) rfl (fun ls hl => ?_)
              refine lv_iload hx hb dX0_firstWrong_104 (lv_at hl 1 rfl) ?_
              refine lv_if_eq (x := 0) (tgt := 142) hx hb dX0_firstWrong_106 (by decide) (fun c7 => ?_) (fun c7 => absurd c7 (by decide))
              have e9 : fwB q G0 G1 lf bd bs bh fr i = false := by unfold fwB; rw [hT]; rfl
              refine lv_iload hx hb dX0_firstWrong_142 (lv_at hl 2 rfl) ?_
              have e8 : fwE q G0 G1 lf bd bs bh fr b i = i := rn_stop (fun hh => by have h2 := hh.2; rw [e9] at h2; exact absurd h2 (by decide))
              have e7 : fwR q G0 G1 lf bd bs bh fr b = nI i := by unfold fwR; rw [← he, e8]; exact if_pos (by omega)
              exact W.iret (v := nI i) hx hb hr (fun t9 ht _ => ⟨nI i, rfl, e7.symm, ht⟩) (fun q h => by cases h) dX0_firstWrong_144
            · skip
              have k1 := c6
              refine lv_iload hx hb dX0_firstWrong_82 (lv_at hl 2 rfl) ?_
              refine lv_aload_n hx hb dX0_firstWrong_84 rfl (lv_at hl 4 rfl) ?_
              refine va_get (D := D) (ci := 0) (v := .ref bq3) (C := RX0) (T := TX0) (N := 4) hx hb hts hi0 hown hG.1 hP 0 rfl rfl 3 (by decide) (hts (.fieldLink RX0 22 "SleptMatters$Book" "houses" "[I") (List.mem_cons_of_mem _ (List.mem_append_left _ (List.mem_append_left _ (List.mem_append_left _ (List.mem_of_getElem? (i := 3) rfl)))))) (fun _ h9 => h9) rfl dX0_firstWrong_85 ?_
              refine lv_iload hx hb dX0_firstWrong_88 (lv_at hl 1 rfl) ?_
              refine va_iald hx hb hG.1 hP 3 0 rfl rfl (vp_in_nI (by omega) (by omega)) dX0_firstWrong_90 ?_
              refine tp_i (y := bh i) (congrArg _ (nI_clamp (n := i) (by omega))) ?_
              have hPc := hP.sub (ws' := (c_X9_isIn k (orS bh i) (bh i))) [] rfl
              refine vp_callSi (va_Run.run (va_runSN (As := [.int (orS bh i), .int (bh i)]) (rest := []) ⟨hx, hb, hml, hown, hts⟩ (X9_isIn l D k (orS bh i) (bh i) ) ⟨(va_cnB (own := RX0) (index := 25) (y := yX9_isIn) (host := RX9) 2 hts ggX0_firstWrong_X9_isIn rfl rfl rfl (hG.2.1 _ (List.mem_of_getElem? (i := 11) rfl)) (hts (.initialized RX9) (List.mem_cons_of_mem _ (List.mem_append_left _ (List.mem_append_left _ (List.mem_append_left _ (List.mem_of_getElem? (i := 5) rfl)))))) (by decide +kernel) ⟨Nat.le_of_ble_eq_true rfl, Nat.le_of_ble_eq_true rfl⟩), hts (.static yX9_isIn) (List.mem_cons_of_mem _ (List.mem_append_left _ (List.mem_append_left _ (List.mem_append_left _ (List.mem_of_getElem? (i := 4) rfl))))), trivial⟩ ⟨PS.blind _ _ _ _, PS.pre hPc hG [.int (orS bh i), .int (bh i)]⟩ rfl rfl hl.1 rfl (lv_room (Nat.le_of_ble_eq_true rfl)) dX0_firstWrong_91 ⟨Nat.le_of_ble_eq_true rfl, Nat.le_of_ble_eq_true rfl⟩)) (fun r hq => ?_)
              generalize r = y8 at hq ⊢
              have hq : y8 = inS (orS bh i) (bh i) := hq
              refine tp_i (y := inS (orS bh i) (bh i)) (hq) ?_
              refine lv_if_ne (x := inS (orS bh i) (bh i)) (tgt := 101) hx hb dX0_firstWrong_94 (by decide) (fun c9 => ?_) (fun c9 => ?_)
              · skip
                have hN : nwB bs bh i = false := by unfold nwB; rw [decide_eq_false c9]; exact Bool.and_false _
                refine lv_iconst (v := 0) hx hb dX0_firstWrong_101 (by decide) ?_
                refine lv_istore (lv' := [(7, .int 0), (6, .int 0), (5, .int (nI i)), (4, .int (orS bh i)), (3, .int (orS bs i)), (0, .ref h), (1, .ref t0), (2, .int fr)]) hx hb dX0_firstWrong_102 hl (by decide) rfl (fun ls hl => ?_)
                refine lv_iload hx hb dX0_firstWrong_104 (lv_at hl 1 rfl) ?_
                refine lv_if_eq (x := 0) (tgt := 142) hx hb dX0_firstWrong_106 (by decide) (fun c10 => ?_) (fun c10 => absurd c10 (by decide))
                have e9 : fwB q G0 G1 lf bd bs bh fr i = false := by unfold fwB; rw [hT]; rfl
                refine lv_iload hx hb dX0_firstWrong_142 (lv_at hl 2 rfl) ?_
                have e8 : fwE q G0 G1 lf bd bs bh fr b i = i := rn_stop (fun hh => by have h2 := hh.2; rw [e9] at h2; exact absurd h2 (by decide))
                have e7 : fwR q G0 G1 lf bd bs bh fr b = nI i := by unfold fwR; rw [← he, e8]; exact if_pos (by omega)
                exact W.iret (v := nI i) hx hb hr (fun t9 ht _ => ⟨nI i, rfl, e7.symm, ht⟩) (fun q h => by cases h) dX0_firstWrong_144
              · skip
                have hN : nwB bs bh i = true := by unfold nwB; rw [decide_eq_true k1, decide_eq_true c9]; rfl
                refine lv_iconst (v := 1) hx hb dX0_firstWrong_97 (by decide) ?_
                refine lv_goto (tgt := 102) hx hb dX0_firstWrong_98 (by decide) ?_
                refine lv_istore (lv' := [(7, .int 1), (6, .int 0), (5, .int (nI i)), (4, .int (orS bh i)), (3, .int (orS bs i)), (0, .ref h), (1, .ref t0), (2, .int fr)]) hx hb dX0_firstWrong_102 hl (by decide) rfl (fun ls hl => ?_)
                refine lv_iload hx hb dX0_firstWrong_104 (lv_at hl 1 rfl) ?_
                refine lv_if_eq (x := 0) (tgt := 142) hx hb dX0_firstWrong_106 (by decide) (fun c11 => ?_) (fun c11 => absurd c11 (by decide))
                have e9 : fwB q G0 G1 lf bd bs bh fr i = false := by unfold fwB; rw [hT]; rfl
                refine lv_iload hx hb dX0_firstWrong_142 (lv_at hl 2 rfl) ?_
                have e8 : fwE q G0 G1 lf bd bs bh fr b i = i := rn_stop (fun hh => by have h2 := hh.2; rw [e9] at h2; exact absurd h2 (by decide))
                have e7 : fwR q G0 G1 lf bd bs bh fr b = nI i := by unfold fwR; rw [← he, e8]; exact if_pos (by omega)
                exact W.iret (v := nI i) hx hb hr (fun t9 ht _ => ⟨nI i, rfl, e7.symm, ht⟩) (fun q h => by cases h) dX0_firstWrong_144
          · skip
            have hT : itB fr bd i = true := by unfold itB; rw [if_neg hp0]; exact decide_eq_true c4
            refine lv_iconst (v := 1) hx hb dX0_firstWrong_61 (by decide) ?_
            refine lv_goto (tgt := 66) hx hb dX0_firstWrong_62 (by decide) ?_
            refine lv_istore (lv' := [(6, .int 1), (5, .int (nI i)), (4, .int (orS bh i)), (3, .int (orS bs i)), (0, .ref h), (1, .ref t0), (2, .int fr)]) hx hb dX0_firstWrong_66 hl (by decide) rfl (fun ls hl => ?_)
            refine lv_iload_n hx hb dX0_firstWrong_68 rfl (lv_at hl 3 rfl) ?_
            refine lv_aload_n hx hb dX0_firstWrong_69 rfl (lv_at hl 4 rfl) ?_
            refine va_get (D := D) (ci := 0) (v := .ref bq2) (C := RX0) (T := TX0) (N := 4) hx hb hts hi0 hown hG.1 hP 0 rfl rfl 2 (by decide) (hts (.fieldLink RX0 19 "SleptMatters$Book" "sleepers" "[I") (List.mem_cons_of_mem _ (List.mem_append_left _ (List.mem_append_left _ (List.mem_append_left _ (List.mem_of_getElem? (i := 2) rfl)))))) (fun _ h9 => h9) rfl dX0_firstWrong_70 ?_
            refine lv_iload hx hb dX0_firstWrong_73 (lv_at hl 1 rfl) ?_
            refine va_iald hx hb hG.1 hP 2 0 rfl rfl (vp_in_nI (by omega) (by omega)) dX0_firstWrong_75 ?_
            refine tp_i (y := bs i) (congrArg _ (nI_clamp (n := i) (by omega))) ?_
            have hPc := hP.sub (ws' := (c_X9_isIn k (orS bs i) (bs i))) [] rfl
            refine vp_callSi (va_Run.run (va_runSN (As := [.int (orS bs i), .int (bs i)]) (rest := []) ⟨hx, hb, hml, hown, hts⟩ (X9_isIn l D k (orS bs i) (bs i) ) ⟨(va_cnB (own := RX0) (index := 25) (y := yX9_isIn) (host := RX9) 2 hts ggX0_firstWrong_X9_isIn rfl rfl rfl (hG.2.1 _ (List.mem_of_getElem? (i := 11) rfl)) (hts (.initialized RX9) (List.mem_cons_of_mem _ (List.mem_append_left _ (List.mem_append_left _ (List.mem_append_left _ (List.mem_of_getElem? (i := 5) rfl)))))) (by decide +kernel) ⟨Nat.le_of_ble_eq_true rfl, Nat.le_of_ble_eq_true rfl⟩), hts (.static yX9_isIn) (List.mem_cons_of_mem _ (List.mem_append_left _ (List.mem_append_left _ (List.mem_append_left _ (List.mem_of_getElem? (i := 4) rfl))))), trivial⟩ ⟨PS.blind _ _ _ _, PS.pre hPc hG [.int (orS bs i), .int (bs i)]⟩ rfl rfl hl.1 rfl (lv_room (Nat.le_of_ble_eq_true rfl)) dX0_firstWrong_76 ⟨Nat.le_of_ble_eq_true rfl, Nat.le_of_ble_eq_true rfl⟩)) (fun r hq => ?_)
            generalize r = y12 at hq ⊢
            have hq : y12 = inS (orS bs i) (bs i) := hq
            refine tp_i (y := inS (orS bs i) (bs i)) (hq) ?_
            refine lv_if_ne (x := inS (orS bs i) (bs i)) (tgt := 101) hx hb dX0_firstWrong_79 (by decide) (fun c13 => ?_) (fun c13 => ?_)
            · skip
              have hN : nwB bs bh i = false := by unfold nwB; rw [decide_eq_false c13]; rfl
              refine lv_iconst (v := 0) hx hb dX0_firstWrong_101 (by decide) ?_
              refine lv_istore (lv' := [(7, .int 0), (6, .int 1), (5, .int (nI i)), (4, .int (orS bh i)), (3, .int (orS bs i)), (0, .ref h), (1, .ref t0), (2, .int fr)]) hx hb dX0_firstWrong_102 hl (by decide) rfl (fun ls hl => ?_)
              refine lv_iload hx hb dX0_firstWrong_104 (lv_at hl 1 rfl) ?_
              refine lv_if_eq (x := 1) (tgt := 142) hx hb dX0_firstWrong_106 (by decide) (fun c14 => absurd c14 (by decide)) (fun c14 => ?_)
              refine lv_iload hx hb dX0_firstWrong_109 (lv_at hl 0 rfl) ?_
              refine lv_if_eq (x := 0) (tgt := 142) hx hb dX0_firstWrong_111 (by decide) (fun c15 => ?_) (fun c15 => absurd c15 (by decide))
              have e9 : fwB q G0 G1 lf bd bs bh fr i = false := by unfold fwB; rw [hT, hN]; rfl
              refine lv_iload hx hb dX0_firstWrong_142 (lv_at hl 2 rfl) ?_
              have e8 : fwE q G0 G1 lf bd bs bh fr b i = i := rn_stop (fun hh => by have h2 := hh.2; rw [e9] at h2; exact absurd h2 (by decide))
              have e7 : fwR q G0 G1 lf bd bs bh fr b = nI i := by unfold fwR; rw [← he, e8]; exact if_pos (by omega)
              exact W.iret (v := nI i) hx hb hr (fun t9 ht _ => ⟨nI i, rfl, e7.symm, ht⟩) (fun q h => by cases h) dX0_firstWrong_144
            · skip
              have k1 := c13
              refine lv_iload hx hb dX0_firstWrong_82 (lv_at hl 2 rfl) ?_
              refine lv_aload_n hx hb dX0_firstWrong_84 rfl (lv_at hl 4 rfl) ?_
              refine va_get (D := D) (ci := 0) (v := .ref bq3) (C := RX0) (T := TX0) (N := 4) hx hb hts hi0 hown hG.1 hP 0 rfl rfl 3 (by decide) (hts (.fieldLink RX0 22 "SleptMatters$Book" "houses" "[I") (List.mem_cons_of_mem _ (List.mem_append_left _ (List.mem_append_left _ (List.mem_append_left _ (List.mem_of_getElem? (i := 3) rfl)))))) (fun _ h9 => h9) rfl dX0_firstWrong_85 ?_
              refine lv_iload hx hb dX0_firstWrong_88 (lv_at hl 1 rfl) ?_
              refine va_iald hx hb hG.1 hP 3 0 rfl rfl (vp_in_nI (by omega) (by omega)) dX0_firstWrong_90 ?_
              refine tp_i (y := bh i) (congrArg _ (nI_clamp (n := i) (by omega))) ?_
              have hPc := hP.sub (ws' := (c_X9_isIn k (orS bh i) (bh i))) [] rfl
              refine vp_callSi (va_Run.run (va_runSN (As := [.int (orS bh i), .int (bh i)]) (rest := []) ⟨hx, hb, hml, hown, hts⟩ (X9_isIn l D k (orS bh i) (bh i) ) ⟨(va_cnB (own := RX0) (index := 25) (y := yX9_isIn) (host := RX9) 2 hts ggX0_firstWrong_X9_isIn rfl rfl rfl (hG.2.1 _ (List.mem_of_getElem? (i := 11) rfl)) (hts (.initialized RX9) (List.mem_cons_of_mem _ (List.mem_append_left _ (List.mem_append_left _ (List.mem_append_left _ (List.mem_of_getElem? (i := 5) rfl)))))) (by decide +kernel) ⟨Nat.le_of_ble_eq_true rfl, Nat.le_of_ble_eq_true rfl⟩), hts (.static yX9_isIn) (List.mem_cons_of_mem _ (List.mem_append_left _ (List.mem_append_left _ (List.mem_append_left _ (List.mem_of_getElem? (i := 4) rfl))))), trivial⟩ ⟨PS.blind _ _ _ _, PS.pre hPc hG [.int (orS bh i), .int (bh i)]⟩ rfl rfl hl.1 rfl (lv_room (Nat.le_of_ble_eq_true rfl)) dX0_firstWrong_91 ⟨Nat.le_of_ble_eq_true rfl, Nat.le_of_ble_eq_true rfl⟩)) (fun r hq => ?_)
              generalize r = y16 at hq ⊢
              have hq : y16 = inS (orS bh i) (bh i) := hq
              refine tp_i (y := inS (orS bh i) (bh i)) (hq) ?_
              refine lv_if_ne (x := inS (orS bh i) (bh i)) (tgt := 101) hx hb dX0_firstWrong_94 (by decide) (fun c17 => ?_) (fun c17 => ?_)
              · skip
                have hN : nwB bs bh i = false := by unfold nwB; rw [decide_eq_false c17]; exact Bool.and_false _
                refine lv_iconst (v := 0) hx hb dX0_firstWrong_101 (by decide) ?_
                refine lv_istore (lv' := [(7, .int 0), (6, .int 1), (5, .int (nI i)), (4, .int (orS bh i)), (3, .int (orS bs i)), (0, .ref h), (1, .ref t0), (2, .int fr)]) hx hb dX0_firstWrong_102 hl (by decide) rfl (fun ls hl => ?_)
                refine lv_iload hx hb dX0_firstWrong_104 (lv_at hl 1 rfl) ?_
                refine lv_if_eq (x := 1) (tgt := 142) hx hb dX0_firstWrong_106 (by decide) (fun c18 => absurd c18 (by decide)) (fun c18 => ?_)
                refine lv_iload hx hb dX0_firstWrong_109 (lv_at hl 0 rfl) ?_
                refine lv_if_eq (x := 0) (tgt := 142) hx hb dX0_firstWrong_111 (by decide) (fun c19 => ?_) (fun c19 => absurd c19 (by decide))
                have e9 : fwB q G0 G1 lf bd bs bh fr i = false := by unfold fwB; rw [hT, hN]; rfl
                refine lv_iload hx hb dX0_firstWrong_142 (lv_at hl 2 rfl) ?_
                have e8 : fwE q G0 G1 lf bd bs bh fr b i = i := rn_stop (fun hh => by have h2 := hh.2; rw [e9] at h2; exact absurd h2 (by decide))
                have e7 : fwR q G0 G1 lf bd bs bh fr b = nI i := by unfold fwR; rw [← he, e8]; exact if_pos (by omega)
                exact W.iret (v := nI i) hx hb hr (fun t9 ht _ => ⟨nI i, rfl, e7.symm, ht⟩) (fun q h => by cases h) dX0_firstWrong_144
              · skip
                have hN : nwB bs bh i = true := by unfold nwB; rw [decide_eq_true k1, decide_eq_true c17]; rfl
                refine lv_iconst (v := 1) hx hb dX0_firstWrong_97 (by decide) ?_
                refine lv_goto (tgt := 102) hx hb dX0_firstWrong_98 (by decide) ?_
                refine lv_istore (lv' := [(7, .int 1), (6, .int 1), (5, .int (nI i)), (4, .int (orS bh i)), (3, .int (orS bs i)), (0, .ref h), (1, .ref t0), (2, .int fr)]) hx hb dX0_firstWrong_102 hl (by decide) rfl (fun ls hl => ?_)
                refine lv_iload hx hb dX0_firstWrong_104 (lv_at hl 1 rfl) ?_
                refine lv_if_eq (x := 1) (tgt := 142) hx hb dX0_firstWrong_106 (by decide) (fun c20 => absurd c20 (by decide)) (fun c20 => ?_)
                refine lv_iload hx hb dX0_firstWrong_109 (lv_at hl 0 rfl) ?_
                refine lv_if_eq (x := 1) (tgt := 142) hx hb dX0_firstWrong_111 (by decide) (fun c21 => absurd c21 (by decide)) (fun c21 => ?_)
                refine lv_aload_n hx hb dX0_firstWrong_114 rfl (lv_at hl 6 rfl) ?_
                refine lv_aload_n hx hb dX0_firstWrong_115 rfl (lv_at hl 5 rfl) ?_
                refine va_get (D := D) (ci := 0) (v := .ref bq2) (C := RX0) (T := TX0) (N := 4) hx hb hts hi0 hown hG.1 hP 0 rfl rfl 2 (by decide) (hts (.fieldLink RX0 19 "SleptMatters$Book" "sleepers" "[I") (List.mem_cons_of_mem _ (List.mem_append_left _ (List.mem_append_left _ (List.mem_append_left _ (List.mem_of_getElem? (i := 2) rfl)))))) (fun _ h9 => h9) rfl dX0_firstWrong_116 ?_
                refine lv_iload hx hb dX0_firstWrong_119 (lv_at hl 2 rfl) ?_
                refine va_iald hx hb hG.1 hP 2 0 rfl rfl (vp_in_nI (by omega) (by omega)) dX0_firstWrong_121 ?_
                refine tp_i (y := bs i) (congrArg _ (nI_clamp (n := i) (by omega))) ?_
                refine lv_aload_n hx hb dX0_firstWrong_122 rfl (lv_at hl 5 rfl) ?_
                refine va_get (D := D) (ci := 0) (v := .ref bq3) (C := RX0) (T := TX0) (N := 4) hx hb hts hi0 hown hG.1 hP 0 rfl rfl 3 (by decide) (hts (.fieldLink RX0 22 "SleptMatters$Book" "houses" "[I") (List.mem_cons_of_mem _ (List.mem_append_left _ (List.mem_append_left _ (List.mem_append_left _ (List.mem_of_getElem? (i := 3) rfl)))))) (fun _ h9 => h9) rfl dX0_firstWrong_123 ?_
                refine lv_iload hx hb dX0_firstWrong_126 (lv_at hl 2 rfl) ?_
                refine va_iald hx hb hG.1 hP 3 0 rfl rfl (vp_in_nI (by omega) (by omega)) dX0_firstWrong_128 ?_
                refine tp_i (y := bh i) (congrArg _ (nI_clamp (n := i) (by omega))) ?_
                refine lv_aload_n hx hb dX0_firstWrong_129 rfl (lv_at hl 5 rfl) ?_
                refine va_get (D := D) (ci := 0) (v := .ref bq1) (C := RX0) (T := TX0) (N := 4) hx hb hts hi0 hown hG.1 hP 0 rfl rfl 1 (by decide) (hts (.fieldLink RX0 15 "SleptMatters$Book" "days" "[I") (List.mem_cons_of_mem _ (List.mem_append_left _ (List.mem_append_left _ (List.mem_append_left _ (List.mem_of_getElem? (i := 1) rfl)))))) (fun _ h9 => h9) rfl dX0_firstWrong_130 ?_
                refine lv_iload hx hb dX0_firstWrong_133 (lv_at hl 2 rfl) ?_
                refine va_iald hx hb hG.1 hP 1 0 rfl rfl (vp_in_nI (by omega) (by omega)) dX0_firstWrong_135 ?_
                refine tp_i (y := bd i) (congrArg _ (nI_clamp (n := i) (by omega))) ?_
                have hPc := hP.sub (ws' := (c_X8_isWoken k t0 t tn tl tc ta rw q G0 G1 lf (bs i) (bh i) (bd i))) [4, 5, 6, 7, 8, 9] rfl
                refine vp_callSi (va_Run.run (va_runV (As := [.int (bs i), .int (bh i), .int (bd i)]) (rest := []) ⟨hx, hb, hml, hown, hts⟩ (X8_isWoken l D k t0 t tn tl tc ta rw q G0 G1 lf (bs i) (bh i) (bd i) (hq0) (hq1)) (cwV 3 hts gX0_firstWrong_X8_isWoken rfl rfl rfl (by decide +kernel) ⟨Nat.le_of_ble_eq_true rfl, Nat.le_of_ble_eq_true rfl⟩) ⟨PS.blind _ _ _ _, va_recv hG.1 hP (ci := 8) (q0 := 4) rfl rfl, PS.pre hPc hG [.ref t0, .int (bs i), .int (bh i), .int (bd i)]⟩ rfl rfl hl.1 rfl (lv_room (Nat.le_of_ble_eq_true rfl)) dX0_firstWrong_136 ⟨Nat.le_of_ble_eq_true rfl, Nat.le_of_ble_eq_true rfl⟩)) (fun r hq => ?_)
                generalize r = y22 at hq ⊢
                have hq : y22 = wkA lf (pt (q 0) G0 (bh i) 0) (bd i) (pt (q 1) G1 (bs i) 0) := hq
                refine tp_i (y := wkA lf (pt (q 0) G0 (bh i) 0) (bd i) (pt (q 1) G1 (bs i) 0)) (hq) ?_
                refine lv_if_eq (x := wkA lf (pt (q 0) G0 (bh i) 0) (bd i) (pt (q 1) G1 (bs i) 0)) (tgt := 145) hx hb dX0_firstWrong_139 (by decide) (fun c23 => ?_) (fun c23 => ?_)
                · skip
                  have e9 : fwB q G0 G1 lf bd bs bh fr i = true := by unfold fwB; rw [hT, hN, decide_eq_true c23]; rfl
                  refine lv_iload_n hx hb dX0_firstWrong_145 rfl (lv_at hl 4 rfl) ?_
                  refine lv_iconst (v := 1) hx hb dX0_firstWrong_146 (by decide) ?_
                  refine lv_aload_n hx hb dX0_firstWrong_147 rfl (lv_at hl 5 rfl) ?_
                  refine va_get (D := D) (ci := 0) (v := .ref bq2) (C := RX0) (T := TX0) (N := 4) hx hb hts hi0 hown hG.1 hP 0 rfl rfl 2 (by decide) (hts (.fieldLink RX0 19 "SleptMatters$Book" "sleepers" "[I") (List.mem_cons_of_mem _ (List.mem_append_left _ (List.mem_append_left _ (List.mem_append_left _ (List.mem_of_getElem? (i := 2) rfl)))))) (fun _ h9 => h9) rfl dX0_firstWrong_148 ?_
                  refine lv_iload hx hb dX0_firstWrong_151 (lv_at hl 2 rfl) ?_
                  refine va_iald hx hb hG.1 hP 2 0 rfl rfl (vp_in_nI (by omega) (by omega)) dX0_firstWrong_153 ?_
                  refine tp_i (y := bs i) (congrArg _ (nI_clamp (n := i) (by omega))) ?_
                  refine lv_ishl hx hb dX0_firstWrong_154 ?_
                  refine lv_ior hx hb dX0_firstWrong_155 ?_
                  refine lv_istore_n (lv' := [(3, .int ((orS bs i) ||| ((1 : Int32) <<< ((bs i) &&& 31)))), (7, .int 1), (6, .int 1), (5, .int (nI i)), (4, .int (orS bh i)), (0, .ref h), (1, .ref t0), (2, .int fr)]) hx hb dX0_firstWrong_156 rfl hl (by decide) rfl (fun ls hl => ?_)
                  refine lv_iload hx hb dX0_firstWrong_157 (lv_at hl 4 rfl) ?_
                  refine lv_iconst (v := 1) hx hb dX0_firstWrong_159 (by decide) ?_
                  refine lv_aload_n hx hb dX0_firstWrong_160 rfl (lv_at hl 5 rfl) ?_
                  refine va_get (D := D) (ci := 0) (v := .ref bq3) (C := RX0) (T := TX0) (N := 4) hx hb hts hi0 hown hG.1 hP 0 rfl rfl 3 (by decide) (hts (.fieldLink RX0 22 "SleptMatters$Book" "houses" "[I") (List.mem_cons_of_mem _ (List.mem_append_left _ (List.mem_append_left _ (List.mem_append_left _ (List.mem_of_getElem? (i := 3) rfl)))))) (fun _ h9 => h9) rfl dX0_firstWrong_161 ?_
                  refine lv_iload hx hb dX0_firstWrong_164 (lv_at hl 3 rfl) ?_
                  refine va_iald hx hb hG.1 hP 3 0 rfl rfl (vp_in_nI (by omega) (by omega)) dX0_firstWrong_166 ?_
                  refine tp_i (y := bh i) (congrArg _ (nI_clamp (n := i) (by omega))) ?_
                  refine lv_ishl hx hb dX0_firstWrong_167 ?_
                  refine lv_ior hx hb dX0_firstWrong_168 ?_
                  refine lv_istore (lv' := [(4, .int ((orS bh i) ||| ((1 : Int32) <<< ((bh i) &&& 31)))), (3, .int ((orS bs i) ||| ((1 : Int32) <<< ((bs i) &&& 31)))), (7, .int 1), (6, .int 1), (5, .int (nI i)), (0, .ref h), (1, .ref t0), (2, .int fr)]) hx hb dX0_firstWrong_169 hl (by decide) rfl (fun ls hl => ?_)
                  refine lv_iinc (v := nI (i + 1)) (lv' := [(5, .int (nI (i + 1))), (4, .int ((orS bh i) ||| ((1 : Int32) <<< ((bh i) &&& 31)))), (3, .int ((orS bs i) ||| ((1 : Int32) <<< ((bs i) &&& 31)))), (7, .int 1), (6, .int 1), (0, .ref h), (1, .ref t0), (2, .int fr)]) hx hb dX0_firstWrong_171 hl (k := 4) rfl (nI_add i 1) (by decide) rfl (fun ls hl => ?_)
                  refine lv_goto (tgt := 8) hx hb dX0_firstWrong_174 (by decide) ?_
                  exact ih (i + 1) (by omega) ((rn_step (by omega) e9).symm.trans he) (by omega) ls (lv_sub hl [0, 1, 2, 5, 6, 7] rfl)
                · skip
                  have e9 : fwB q G0 G1 lf bd bs bh fr i = false := by unfold fwB; rw [hT, hN, decide_eq_false c23]; rfl
                  refine lv_iload hx hb dX0_firstWrong_142 (lv_at hl 2 rfl) ?_
                  have e8 : fwE q G0 G1 lf bd bs bh fr b i = i := rn_stop (fun hh => by have h2 := hh.2; rw [e9] at h2; exact absurd h2 (by decide))
                  have e7 : fwR q G0 G1 lf bd bs bh fr b = nI i := by unfold fwR; rw [← he, e8]; exact if_pos (by omega)
                  exact W.iret (v := nI i) hx hb hr (fun t9 ht _ => ⟨nI i, rfl, e7.symm, ht⟩) (fun q h => by cases h) dX0_firstWrong_144
        · skip
          have hp0 : i = 0 := nI0 (by omega) c3
          refine lv_aload_n hx hb dX0_firstWrong_22 rfl (lv_at hl 3 rfl) ?_
          refine va_get (D := D) (ci := 0) (v := .ref bq1) (C := RX0) (T := TX0) (N := 4) hx hb hts hi0 hown hG.1 hP 0 rfl rfl 1 (by decide) (hts (.fieldLink RX0 15 "SleptMatters$Book" "days" "[I") (List.mem_cons_of_mem _ (List.mem_append_left _ (List.mem_append_left _ (List.mem_append_left _ (List.mem_of_getElem? (i := 1) rfl)))))) (fun _ h9 => h9) rfl dX0_firstWrong_23 ?_
          refine lv_iconst (v := 0) hx hb dX0_firstWrong_26 (by decide) ?_
          refine va_iald hx hb hG.1 hP 1 0 rfl rfl (vp_in_nI (n := 0) (by omega) (by omega)) dX0_firstWrong_27 ?_
          refine tp_i (y := bd 0) (rfl) ?_
          refine lv_iload_n hx hb dX0_firstWrong_28 rfl (lv_at hl 5 rfl) ?_
          refine lv_icmp_lt (x := bd 0) (y := fr) (tgt := 36) hx hb dX0_firstWrong_29 (by decide) (fun c24 => ?_) (fun c24 => ?_)
          · skip
            have hT : itB fr bd i = false := by unfold itB; rw [if_pos hp0]; exact decide_eq_false (Int32.not_le.mpr c24)
            refine lv_iconst (v := 0) hx hb dX0_firstWrong_36 (by decide) ?_
            refine lv_goto (tgt := 66) hx hb dX0_firstWrong_37 (by decide) ?_
            refine lv_istore (lv' := [(6, .int 0), (5, .int (nI i)), (4, .int (orS bh i)), (3, .int (orS bs i)), (0, .ref h), (1, .ref t0), (2, .int fr)]) hx hb dX0_firstWrong_66 hl (by decide) rfl (fun ls hl => ?_)
            refine lv_iload_n hx hb dX0_firstWrong_68 rfl (lv_at hl 3 rfl) ?_
            refine lv_aload_n hx hb dX0_firstWrong_69 rfl (lv_at hl 4 rfl) ?_
            refine va_get (D := D) (ci := 0) (v := .ref bq2) (C := RX0) (T := TX0) (N := 4) hx hb hts hi0 hown hG.1 hP 0 rfl rfl 2 (by decide) (hts (.fieldLink RX0 19 "SleptMatters$Book" "sleepers" "[I") (List.mem_cons_of_mem _ (List.mem_append_left _ (List.mem_append_left _ (List.mem_append_left _ (List.mem_of_getElem? (i := 2) rfl)))))) (fun _ h9 => h9) rfl dX0_firstWrong_70 ?_
            refine lv_iload hx hb dX0_firstWrong_73 (lv_at hl 1 rfl) ?_
            refine va_iald hx hb hG.1 hP 2 0 rfl rfl (vp_in_nI (by omega) (by omega)) dX0_firstWrong_75 ?_
            refine tp_i (y := bs i) (congrArg _ (nI_clamp (n := i) (by omega))) ?_
            have hPc := hP.sub (ws' := (c_X9_isIn k (orS bs i) (bs i))) [] rfl
            refine vp_callSi (va_Run.run (va_runSN (As := [.int (orS bs i), .int (bs i)]) (rest := []) ⟨hx, hb, hml, hown, hts⟩ (X9_isIn l D k (orS bs i) (bs i) ) ⟨(va_cnB (own := RX0) (index := 25) (y := yX9_isIn) (host := RX9) 2 hts ggX0_firstWrong_X9_isIn rfl rfl rfl (hG.2.1 _ (List.mem_of_getElem? (i := 11) rfl)) (hts (.initialized RX9) (List.mem_cons_of_mem _ (List.mem_append_left _ (List.mem_append_left _ (List.mem_append_left _ (List.mem_of_getElem? (i := 5) rfl)))))) (by decide +kernel) ⟨Nat.le_of_ble_eq_true rfl, Nat.le_of_ble_eq_true rfl⟩), hts (.static yX9_isIn) (List.mem_cons_of_mem _ (List.mem_append_left _ (List.mem_append_left _ (List.mem_append_left _ (List.mem_of_getElem? (i := 4) rfl))))), trivial⟩ ⟨PS.blind _ _ _ _, PS.pre hPc hG [.int (orS bs i), .int (bs i)]⟩ rfl rfl hl.1 rfl (lv_room (Nat.le_of_ble_eq_true rfl)) dX0_firstWrong_76 ⟨Nat.le_of_ble_eq_true rfl, Nat.le_of_ble_eq_true rfl⟩)) (fun r hq => ?_)
            generalize r = y25 at hq ⊢
            have hq : y25 = inS (orS bs i) (bs i) := hq
            refine tp_i (y := inS (orS bs i) (bs i)) (hq) ?_
            refine lv_if_ne (x := inS (orS bs i) (bs i)) (tgt := 101) hx hb dX0_firstWrong_79 (by decide) (fun c26 => ?_) (fun c26 => ?_)
            · skip
              have hN : nwB bs bh i = false := by unfold nwB; rw [decide_eq_false c26]; rfl
              refine lv_iconst (v := 0) hx hb dX0_firstWrong_101 (by decide) ?_
              refine lv_istore (lv' := [(7, .int 0), (6, .int 0), (5, .int (nI i)), (4, .int (orS bh i)), (3, .int (orS bs i)), (0, .ref h), (1, .ref t0), (2, .int fr)]) hx hb dX0_firstWrong_102 hl (by decide) rfl (fun ls hl => ?_)
              refine lv_iload hx hb dX0_firstWrong_104 (lv_at hl 1 rfl) ?_
              refine lv_if_eq (x := 0) (tgt := 142) hx hb dX0_firstWrong_106 (by decide) (fun c27 => ?_) (fun c27 => absurd c27 (by decide))
              have e9 : fwB q G0 G1 lf bd bs bh fr i = false := by unfold fwB; rw [hT]; rfl
              refine lv_iload hx hb dX0_firstWrong_142 (lv_at hl 2 rfl) ?_
              have e8 : fwE q G0 G1 lf bd bs bh fr b i = i := rn_stop (fun hh => by have h2 := hh.2; rw [e9] at h2; exact absurd h2 (by decide))
              have e7 : fwR q G0 G1 lf bd bs bh fr b = nI i := by unfold fwR; rw [← he, e8]; exact if_pos (by omega)
              exact W.iret (v := nI i) hx hb hr (fun t9 ht _ => ⟨nI i, rfl, e7.symm, ht⟩) (fun q h => by cases h) dX0_firstWrong_144
            · skip
              have k1 := c26
              refine lv_iload hx hb dX0_firstWrong_82 (lv_at hl 2 rfl) ?_
              refine lv_aload_n hx hb dX0_firstWrong_84 rfl (lv_at hl 4 rfl) ?_
              refine va_get (D := D) (ci := 0) (v := .ref bq3) (C := RX0) (T := TX0) (N := 4) hx hb hts hi0 hown hG.1 hP 0 rfl rfl 3 (by decide) (hts (.fieldLink RX0 22 "SleptMatters$Book" "houses" "[I") (List.mem_cons_of_mem _ (List.mem_append_left _ (List.mem_append_left _ (List.mem_append_left _ (List.mem_of_getElem? (i := 3) rfl)))))) (fun _ h9 => h9) rfl dX0_firstWrong_85 ?_
              refine lv_iload hx hb dX0_firstWrong_88 (lv_at hl 1 rfl) ?_
              refine va_iald hx hb hG.1 hP 3 0 rfl rfl (vp_in_nI (by omega) (by omega)) dX0_firstWrong_90 ?_
              refine tp_i (y := bh i) (congrArg _ (nI_clamp (n := i) (by omega))) ?_
              have hPc := hP.sub (ws' := (c_X9_isIn k (orS bh i) (bh i))) [] rfl
              refine vp_callSi (va_Run.run (va_runSN (As := [.int (orS bh i), .int (bh i)]) (rest := []) ⟨hx, hb, hml, hown, hts⟩ (X9_isIn l D k (orS bh i) (bh i) ) ⟨(va_cnB (own := RX0) (index := 25) (y := yX9_isIn) (host := RX9) 2 hts ggX0_firstWrong_X9_isIn rfl rfl rfl (hG.2.1 _ (List.mem_of_getElem? (i := 11) rfl)) (hts (.initialized RX9) (List.mem_cons_of_mem _ (List.mem_append_left _ (List.mem_append_left _ (List.mem_append_left _ (List.mem_of_getElem? (i := 5) rfl)))))) (by decide +kernel) ⟨Nat.le_of_ble_eq_true rfl, Nat.le_of_ble_eq_true rfl⟩), hts (.static yX9_isIn) (List.mem_cons_of_mem _ (List.mem_append_left _ (List.mem_append_left _ (List.mem_append_left _ (List.mem_of_getElem? (i := 4) rfl))))), trivial⟩ ⟨PS.blind _ _ _ _, PS.pre hPc hG [.int (orS bh i), .int (bh i)]⟩ rfl rfl hl.1 rfl (lv_room (Nat.le_of_ble_eq_true rfl)) dX0_firstWrong_91 ⟨Nat.le_of_ble_eq_true rfl, Nat.le_of_ble_eq_true rfl⟩)) (fun r hq => ?_)
              generalize r = y28 at hq ⊢
              have hq : y28 = inS (orS bh i) (bh i) := hq
              refine tp_i (y := inS (orS bh i) (bh i)) (hq) ?_
              refine lv_if_ne (x := inS (orS bh i) (bh i)) (tgt := 101) hx hb dX0_firstWrong_94 (by decide) (fun c29 => ?_) (fun c29 => ?_)
              · skip
                have hN : nwB bs bh i = false := by unfold nwB; rw [decide_eq_false c29]; exact Bool.and_false _
                refine lv_iconst (v := 0) hx hb dX0_firstWrong_101 (by decide) ?_
                refine lv_istore (lv' := [(7, .int 0), (6, .int 0), (5, .int (nI i)), (4, .int (orS bh i)), (3, .int (orS bs i)), (0, .ref h), (1, .ref t0), (2, .int fr)]) hx hb dX0_firstWrong_102 hl (by decide) rfl (fun ls hl => ?_)
                refine lv_iload hx hb dX0_firstWrong_104 (lv_at hl 1 rfl) ?_
                refine lv_if_eq (x := 0) (tgt := 142) hx hb dX0_firstWrong_106 (by decide) (fun c30 => ?_) (fun c30 => absurd c30 (by decide))
                have e9 : fwB q G0 G1 lf bd bs bh fr i = false := by unfold fwB; rw [hT]; rfl
                refine lv_iload hx hb dX0_firstWrong_142 (lv_at hl 2 rfl) ?_
                have e8 : fwE q G0 G1 lf bd bs bh fr b i = i := rn_stop (fun hh => by have h2 := hh.2; rw [e9] at h2; exact absurd h2 (by decide))
                have e7 : fwR q G0 G1 lf bd bs bh fr b = nI i := by unfold fwR; rw [← he, e8]; exact if_pos (by omega)
                exact W.iret (v := nI i) hx hb hr (fun t9 ht _ => ⟨nI i, rfl, e7.symm, ht⟩) (fun q h => by cases h) dX0_firstWrong_144
              · skip
                have hN : nwB bs bh i = true := by unfold nwB; rw [decide_eq_true k1, decide_eq_true c29]; rfl
                refine lv_iconst (v := 1) hx hb dX0_firstWrong_97 (by decide) ?_
                refine lv_goto (tgt := 102) hx hb dX0_firstWrong_98 (by decide) ?_
                refine lv_istore (lv' := [(7, .int 1), (6, .int 0), (5, .int (nI i)), (4, .int (orS bh i)), (3, .int (orS bs i)), (0, .ref h), (1, .ref t0), (2, .int fr)]) hx hb dX0_firstWrong_102 hl (by decide) rfl (fun ls hl => ?_)
                refine lv_iload hx hb dX0_firstWrong_104 (lv_at hl 1 rfl) ?_
                refine lv_if_eq (x := 0) (tgt := 142) hx hb dX0_firstWrong_106 (by decide) (fun c31 => ?_) (fun c31 => absurd c31 (by decide))
                have e9 : fwB q G0 G1 lf bd bs bh fr i = false := by unfold fwB; rw [hT]; rfl
                refine lv_iload hx hb dX0_firstWrong_142 (lv_at hl 2 rfl) ?_
                have e8 : fwE q G0 G1 lf bd bs bh fr b i = i := rn_stop (fun hh => by have h2 := hh.2; rw [e9] at h2; exact absurd h2 (by decide))
                have e7 : fwR q G0 G1 lf bd bs bh fr b = nI i := by unfold fwR; rw [← he, e8]; exact if_pos (by omega)
                exact W.iret (v := nI i) hx hb hr (fun t9 ht _ => ⟨nI i, rfl, e7.symm, ht⟩) (fun q h => by cases h) dX0_firstWrong_144
          · skip
            have hT : itB fr bd i = true := by unfold itB; rw [if_pos hp0]; exact decide_eq_true (Int32.not_lt.mp c24)
            refine lv_iconst (v := 1) hx hb dX0_firstWrong_32 (by decide) ?_
            refine lv_goto (tgt := 66) hx hb dX0_firstWrong_33 (by decide) ?_
            refine lv_istore (lv' := [(6, .int 1), (5, .int (nI i)), (4, .int (orS bh i)), (3, .int (orS bs i)), (0, .ref h), (1, .ref t0), (2, .int fr)]) hx hb dX0_firstWrong_66 hl (by decide) rfl (fun ls hl => ?_)
            refine lv_iload_n hx hb dX0_firstWrong_68 rfl (lv_at hl 3 rfl) ?_
            refine lv_aload_n hx hb dX0_firstWrong_69 rfl (lv_at hl 4 rfl) ?_
            refine va_get (D := D) (ci := 0) (v := .ref bq2) (C := RX0) (T := TX0) (N := 4) hx hb hts hi0 hown hG.1 hP 0 rfl rfl 2 (by decide) (hts (.fieldLink RX0 19 "SleptMatters$Book" "sleepers" "[I") (List.mem_cons_of_mem _ (List.mem_append_left _ (List.mem_append_left _ (List.mem_append_left _ (List.mem_of_getElem? (i := 2) rfl)))))) (fun _ h9 => h9) rfl dX0_firstWrong_70 ?_
            refine lv_iload hx hb dX0_firstWrong_73 (lv_at hl 1 rfl) ?_
            refine va_iald hx hb hG.1 hP 2 0 rfl rfl (vp_in_nI (by omega) (by omega)) dX0_firstWrong_75 ?_
            refine tp_i (y := bs i) (congrArg _ (nI_clamp (n := i) (by omega))) ?_
            have hPc := hP.sub (ws' := (c_X9_isIn k (orS bs i) (bs i))) [] rfl
            refine vp_callSi (va_Run.run (va_runSN (As := [.int (orS bs i), .int (bs i)]) (rest := []) ⟨hx, hb, hml, hown, hts⟩ (X9_isIn l D k (orS bs i) (bs i) ) ⟨(va_cnB (own := RX0) (index := 25) (y := yX9_isIn) (host := RX9) 2 hts ggX0_firstWrong_X9_isIn rfl rfl rfl (hG.2.1 _ (List.mem_of_getElem? (i := 11) rfl)) (hts (.initialized RX9) (List.mem_cons_of_mem _ (List.mem_append_left _ (List.mem_append_left _ (List.mem_append_left _ (List.mem_of_getElem? (i := 5) rfl)))))) (by decide +kernel) ⟨Nat.le_of_ble_eq_true rfl, Nat.le_of_ble_eq_true rfl⟩), hts (.static yX9_isIn) (List.mem_cons_of_mem _ (List.mem_append_left _ (List.mem_append_left _ (List.mem_append_left _ (List.mem_of_getElem? (i := 4) rfl))))), trivial⟩ ⟨PS.blind _ _ _ _, PS.pre hPc hG [.int (orS bs i), .int (bs i)]⟩ rfl rfl hl.1 rfl (lv_room (Nat.le_of_ble_eq_true rfl)) dX0_firstWrong_76 ⟨Nat.le_of_ble_eq_true rfl, Nat.le_of_ble_eq_true rfl⟩)) (fun r hq => ?_)
            generalize r = y32 at hq ⊢
            have hq : y32 = inS (orS bs i) (bs i) := hq
            refine tp_i (y := inS (orS bs i) (bs i)) (hq) ?_
            refine lv_if_ne (x := inS (orS bs i) (bs i)) (tgt := 101) hx hb dX0_firstWrong_79 (by decide) (fun c33 => ?_) (fun c33 => ?_)
            · skip
              have hN : nwB bs bh i = false := by unfold nwB; rw [decide_eq_false c33]; rfl
              refine lv_iconst (v := 0) hx hb dX0_firstWrong_101 (by decide) ?_
              refine lv_istore (lv' := [(7, .int 0), (6, .int 1), (5, .int (nI i)), (4, .int (orS bh i)), (3, .int (orS bs i)), (0, .ref h), (1, .ref t0), (2, .int fr)]) hx hb dX0_firstWrong_102 hl (by decide) rfl (fun ls hl => ?_)
              refine lv_iload hx hb dX0_firstWrong_104 (lv_at hl 1 rfl) ?_
              refine lv_if_eq (x := 1) (tgt := 142) hx hb dX0_firstWrong_106 (by decide) (fun c34 => absurd c34 (by decide)) (fun c34 => ?_)
              refine lv_iload hx hb dX0_firstWrong_109 (lv_at hl 0 rfl) ?_
              refine lv_if_eq (x := 0) (tgt := 142) hx hb dX0_firstWrong_111 (by decide) (fun c35 => ?_) (fun c35 => absurd c35 (by decide))
              have e9 : fwB q G0 G1 lf bd bs bh fr i = false := by unfold fwB; rw [hT, hN]; rfl
              refine lv_iload hx hb dX0_firstWrong_142 (lv_at hl 2 rfl) ?_
              have e8 : fwE q G0 G1 lf bd bs bh fr b i = i := rn_stop (fun hh => by have h2 := hh.2; rw [e9] at h2; exact absurd h2 (by decide))
              have e7 : fwR q G0 G1 lf bd bs bh fr b = nI i := by unfold fwR; rw [← he, e8]; exact if_pos (by omega)
              exact W.iret (v := nI i) hx hb hr (fun t9 ht _ => ⟨nI i, rfl, e7.symm, ht⟩) (fun q h => by cases h) dX0_firstWrong_144
            · skip
              have k1 := c33
              refine lv_iload hx hb dX0_firstWrong_82 (lv_at hl 2 rfl) ?_
              refine lv_aload_n hx hb dX0_firstWrong_84 rfl (lv_at hl 4 rfl) ?_
              refine va_get (D := D) (ci := 0) (v := .ref bq3) (C := RX0) (T := TX0) (N := 4) hx hb hts hi0 hown hG.1 hP 0 rfl rfl 3 (by decide) (hts (.fieldLink RX0 22 "SleptMatters$Book" "houses" "[I") (List.mem_cons_of_mem _ (List.mem_append_left _ (List.mem_append_left _ (List.mem_append_left _ (List.mem_of_getElem? (i := 3) rfl)))))) (fun _ h9 => h9) rfl dX0_firstWrong_85 ?_
              refine lv_iload hx hb dX0_firstWrong_88 (lv_at hl 1 rfl) ?_
              refine va_iald hx hb hG.1 hP 3 0 rfl rfl (vp_in_nI (by omega) (by omega)) dX0_firstWrong_90 ?_
              refine tp_i (y := bh i) (congrArg _ (nI_clamp (n := i) (by omega))) ?_
              have hPc := hP.sub (ws' := (c_X9_isIn k (orS bh i) (bh i))) [] rfl
              refine vp_callSi (va_Run.run (va_runSN (As := [.int (orS bh i), .int (bh i)]) (rest := []) ⟨hx, hb, hml, hown, hts⟩ (X9_isIn l D k (orS bh i) (bh i) ) ⟨(va_cnB (own := RX0) (index := 25) (y := yX9_isIn) (host := RX9) 2 hts ggX0_firstWrong_X9_isIn rfl rfl rfl (hG.2.1 _ (List.mem_of_getElem? (i := 11) rfl)) (hts (.initialized RX9) (List.mem_cons_of_mem _ (List.mem_append_left _ (List.mem_append_left _ (List.mem_append_left _ (List.mem_of_getElem? (i := 5) rfl)))))) (by decide +kernel) ⟨Nat.le_of_ble_eq_true rfl, Nat.le_of_ble_eq_true rfl⟩), hts (.static yX9_isIn) (List.mem_cons_of_mem _ (List.mem_append_left _ (List.mem_append_left _ (List.mem_append_left _ (List.mem_of_getElem? (i := 4) rfl))))), trivial⟩ ⟨PS.blind _ _ _ _, PS.pre hPc hG [.int (orS bh i), .int (bh i)]⟩ rfl rfl hl.1 rfl (lv_room (Nat.le_of_ble_eq_true rfl)) dX0_firstWrong_91 ⟨Nat.le_of_ble_eq_true rfl, Nat.le_of_ble_eq_true rfl⟩)) (fun r hq => ?_)
              generalize r = y36 at hq ⊢
              have hq : y36 = inS (orS bh i) (bh i) := hq
              refine tp_i (y := inS (orS bh i) (bh i)) (hq) ?_
              refine lv_if_ne (x := inS (orS bh i) (bh i)) (tgt := 101) hx hb dX0_firstWrong_94 (by decide) (fun c37 => ?_) (fun c37 => ?_)
              · skip
                have hN : nwB bs bh i = false := by unfold nwB; rw [decide_eq_false c37]; exact Bool.and_false _
                refine lv_iconst (v := 0) hx hb dX0_firstWrong_101 (by decide) ?_
                refine lv_istore (lv' := [(7, .int 0), (6, .int 1), (5, .int (nI i)), (4, .int (orS bh i)), (3, .int (orS bs i)), (0, .ref h), (1, .ref t0), (2, .int fr)]) hx hb dX0_firstWrong_102 hl (by decide) rfl (fun ls hl => ?_)
                refine lv_iload hx hb dX0_firstWrong_104 (lv_at hl 1 rfl) ?_
                refine lv_if_eq (x := 1) (tgt := 142) hx hb dX0_firstWrong_106 (by decide) (fun c38 => absurd c38 (by decide)) (fun c38 => ?_)
                refine lv_iload hx hb dX0_firstWrong_109 (lv_at hl 0 rfl) ?_
                refine lv_if_eq (x := 0) (tgt := 142) hx hb dX0_firstWrong_111 (by decide) (fun c39 => ?_) (fun c39 => absurd c39 (by decide))
                have e9 : fwB q G0 G1 lf bd bs bh fr i = false := by unfold fwB; rw [hT, hN]; rfl
                refine lv_iload hx hb dX0_firstWrong_142 (lv_at hl 2 rfl) ?_
                have e8 : fwE q G0 G1 lf bd bs bh fr b i = i := rn_stop (fun hh => by have h2 := hh.2; rw [e9] at h2; exact absurd h2 (by decide))
                have e7 : fwR q G0 G1 lf bd bs bh fr b = nI i := by unfold fwR; rw [← he, e8]; exact if_pos (by omega)
                exact W.iret (v := nI i) hx hb hr (fun t9 ht _ => ⟨nI i, rfl, e7.symm, ht⟩) (fun q h => by cases h) dX0_firstWrong_144
              · skip
                have hN : nwB bs bh i = true := by unfold nwB; rw [decide_eq_true k1, decide_eq_true c37]; rfl
                refine lv_iconst (v := 1) hx hb dX0_firstWrong_97 (by decide) ?_
                refine lv_goto (tgt := 102) hx hb dX0_firstWrong_98 (by decide) ?_
                refine lv_istore (lv' := [(7, .int 1), (6, .int 1), (5, .int (nI i)), (4, .int (orS bh i)), (3, .int (orS bs i)), (0, .ref h), (1, .ref t0), (2, .int fr)]) hx hb dX0_firstWrong_102 hl (by decide) rfl (fun ls hl => ?_)
                refine lv_iload hx hb dX0_firstWrong_104 (lv_at hl 1 rfl) ?_
                refine lv_if_eq (x := 1) (tgt := 142) hx hb dX0_firstWrong_106 (by decide) (fun c40 => absurd c40 (by decide)) (fun c40 => ?_)
                refine lv_iload hx hb dX0_firstWrong_109 (lv_at hl 0 rfl) ?_
                refine lv_if_eq (x := 1) (tgt := 142) hx hb dX0_firstWrong_111 (by decide) (fun c41 => absurd c41 (by decide)) (fun c41 => ?_)
                refine lv_aload_n hx hb dX0_firstWrong_114 rfl (lv_at hl 6 rfl) ?_
                refine lv_aload_n hx hb dX0_firstWrong_115 rfl (lv_at hl 5 rfl) ?_
                refine va_get (D := D) (ci := 0) (v := .ref bq2) (C := RX0) (T := TX0) (N := 4) hx hb hts hi0 hown hG.1 hP 0 rfl rfl 2 (by decide) (hts (.fieldLink RX0 19 "SleptMatters$Book" "sleepers" "[I") (List.mem_cons_of_mem _ (List.mem_append_left _ (List.mem_append_left _ (List.mem_append_left _ (List.mem_of_getElem? (i := 2) rfl)))))) (fun _ h9 => h9) rfl dX0_firstWrong_116 ?_
                refine lv_iload hx hb dX0_firstWrong_119 (lv_at hl 2 rfl) ?_
                refine va_iald hx hb hG.1 hP 2 0 rfl rfl (vp_in_nI (by omega) (by omega)) dX0_firstWrong_121 ?_
                refine tp_i (y := bs i) (congrArg _ (nI_clamp (n := i) (by omega))) ?_
                refine lv_aload_n hx hb dX0_firstWrong_122 rfl (lv_at hl 5 rfl) ?_
                refine va_get (D := D) (ci := 0) (v := .ref bq3) (C := RX0) (T := TX0) (N := 4) hx hb hts hi0 hown hG.1 hP 0 rfl rfl 3 (by decide) (hts (.fieldLink RX0 22 "SleptMatters$Book" "houses" "[I") (List.mem_cons_of_mem _ (List.mem_append_left _ (List.mem_append_left _ (List.mem_append_left _ (List.mem_of_getElem? (i := 3) rfl)))))) (fun _ h9 => h9) rfl dX0_firstWrong_123 ?_
                refine lv_iload hx hb dX0_firstWrong_126 (lv_at hl 2 rfl) ?_
                refine va_iald hx hb hG.1 hP 3 0 rfl rfl (vp_in_nI (by omega) (by omega)) dX0_firstWrong_128 ?_
                refine tp_i (y := bh i) (congrArg _ (nI_clamp (n := i) (by omega))) ?_
                refine lv_aload_n hx hb dX0_firstWrong_129 rfl (lv_at hl 5 rfl) ?_
                refine va_get (D := D) (ci := 0) (v := .ref bq1) (C := RX0) (T := TX0) (N := 4) hx hb hts hi0 hown hG.1 hP 0 rfl rfl 1 (by decide) (hts (.fieldLink RX0 15 "SleptMatters$Book" "days" "[I") (List.mem_cons_of_mem _ (List.mem_append_left _ (List.mem_append_left _ (List.mem_append_left _ (List.mem_of_getElem? (i := 1) rfl)))))) (fun _ h9 => h9) rfl dX0_firstWrong_130 ?_
                refine lv_iload hx hb dX0_firstWrong_133 (lv_at hl 2 rfl) ?_
                refine va_iald hx hb hG.1 hP 1 0 rfl rfl (vp_in_nI (by omega) (by omega)) dX0_firstWrong_135 ?_
                refine tp_i (y := bd i) (congrArg _ (nI_clamp (n := i) (by omega))) ?_
                have hPc := hP.sub (ws' := (c_X8_isWoken k t0 t tn tl tc ta rw q G0 G1 lf (bs i) (bh i) (bd i))) [4, 5, 6, 7, 8, 9] rfl
                refine vp_callSi (va_Run.run (va_runV (As := [.int (bs i), .int (bh i), .int (bd i)]) (rest := []) ⟨hx, hb, hml, hown, hts⟩ (X8_isWoken l D k t0 t tn tl tc ta rw q G0 G1 lf (bs i) (bh i) (bd i) (hq0) (hq1)) (cwV 3 hts gX0_firstWrong_X8_isWoken rfl rfl rfl (by decide +kernel) ⟨Nat.le_of_ble_eq_true rfl, Nat.le_of_ble_eq_true rfl⟩) ⟨PS.blind _ _ _ _, va_recv hG.1 hP (ci := 8) (q0 := 4) rfl rfl, PS.pre hPc hG [.ref t0, .int (bs i), .int (bh i), .int (bd i)]⟩ rfl rfl hl.1 rfl (lv_room (Nat.le_of_ble_eq_true rfl)) dX0_firstWrong_136 ⟨Nat.le_of_ble_eq_true rfl, Nat.le_of_ble_eq_true rfl⟩)) (fun r hq => ?_)
                generalize r = y42 at hq ⊢
                have hq : y42 = wkA lf (pt (q 0) G0 (bh i) 0) (bd i) (pt (q 1) G1 (bs i) 0) := hq
                refine tp_i (y := wkA lf (pt (q 0) G0 (bh i) 0) (bd i) (pt (q 1) G1 (bs i) 0)) (hq) ?_
                refine lv_if_eq (x := wkA lf (pt (q 0) G0 (bh i) 0) (bd i) (pt (q 1) G1 (bs i) 0)) (tgt := 145) hx hb dX0_firstWrong_139 (by decide) (fun c43 => ?_) (fun c43 => ?_)
                · skip
                  have e9 : fwB q G0 G1 lf bd bs bh fr i = true := by unfold fwB; rw [hT, hN, decide_eq_true c43]; rfl
                  refine lv_iload_n hx hb dX0_firstWrong_145 rfl (lv_at hl 4 rfl) ?_
                  refine lv_iconst (v := 1) hx hb dX0_firstWrong_146 (by decide) ?_
                  refine lv_aload_n hx hb dX0_firstWrong_147 rfl (lv_at hl 5 rfl) ?_
                  refine va_get (D := D) (ci := 0) (v := .ref bq2) (C := RX0) (T := TX0) (N := 4) hx hb hts hi0 hown hG.1 hP 0 rfl rfl 2 (by decide) (hts (.fieldLink RX0 19 "SleptMatters$Book" "sleepers" "[I") (List.mem_cons_of_mem _ (List.mem_append_left _ (List.mem_append_left _ (List.mem_append_left _ (List.mem_of_getElem? (i := 2) rfl)))))) (fun _ h9 => h9) rfl dX0_firstWrong_148 ?_
                  refine lv_iload hx hb dX0_firstWrong_151 (lv_at hl 2 rfl) ?_
                  refine va_iald hx hb hG.1 hP 2 0 rfl rfl (vp_in_nI (by omega) (by omega)) dX0_firstWrong_153 ?_
                  refine tp_i (y := bs i) (congrArg _ (nI_clamp (n := i) (by omega))) ?_
                  refine lv_ishl hx hb dX0_firstWrong_154 ?_
                  refine lv_ior hx hb dX0_firstWrong_155 ?_
                  refine lv_istore_n (lv' := [(3, .int ((orS bs i) ||| ((1 : Int32) <<< ((bs i) &&& 31)))), (7, .int 1), (6, .int 1), (5, .int (nI i)), (4, .int (orS bh i)), (0, .ref h), (1, .ref t0), (2, .int fr)]) hx hb dX0_firstWrong_156 rfl hl (by decide) rfl (fun ls hl => ?_)
                  refine lv_iload hx hb dX0_firstWrong_157 (lv_at hl 4 rfl) ?_
                  refine lv_iconst (v := 1) hx hb dX0_firstWrong_159 (by decide) ?_
                  refine lv_aload_n hx hb dX0_firstWrong_160 rfl (lv_at hl 5 rfl) ?_
                  refine va_get (D := D) (ci := 0) (v := .ref bq3) (C := RX0) (T := TX0) (N := 4) hx hb hts hi0 hown hG.1 hP 0 rfl rfl 3 (by decide) (hts (.fieldLink RX0 22 "SleptMatters$Book" "houses" "[I") (List.mem_cons_of_mem _ (List.mem_append_left _ (List.mem_append_left _ (List.mem_append_left _ (List.mem_of_getElem? (i := 3) rfl)))))) (fun _ h9 => h9) rfl dX0_firstWrong_161 ?_
                  refine lv_iload hx hb dX0_firstWrong_164 (lv_at hl 3 rfl) ?_
                  refine va_iald hx hb hG.1 hP 3 0 rfl rfl (vp_in_nI (by omega) (by omega)) dX0_firstWrong_166 ?_
                  refine tp_i (y := bh i) (congrArg _ (nI_clamp (n := i) (by omega))) ?_
                  refine lv_ishl hx hb dX0_firstWrong_167 ?_
                  refine lv_ior hx hb dX0_firstWrong_168 ?_
                  refine lv_istore (lv' := [(4, .int ((orS bh i) ||| ((1 : Int32) <<< ((bh i) &&& 31)))), (3, .int ((orS bs i) ||| ((1 : Int32) <<< ((bs i) &&& 31)))), (7, .int 1), (6, .int 1), (5, .int (nI i)), (0, .ref h), (1, .ref t0), (2, .int fr)]) hx hb dX0_firstWrong_169 hl (by decide) rfl (fun ls hl => ?_)
                  refine lv_iinc (v := nI (i + 1)) (lv' := [(5, .int (nI (i + 1))), (4, .int ((orS bh i) ||| ((1 : Int32) <<< ((bh i) &&& 31)))), (3, .int ((orS bs i) ||| ((1 : Int32) <<< ((bs i) &&& 31)))), (7, .int 1), (6, .int 1), (0, .ref h), (1, .ref t0), (2, .int fr)]) hx hb dX0_firstWrong_171 hl (k := 4) rfl (nI_add i 1) (by decide) rfl (fun ls hl => ?_)
                  refine lv_goto (tgt := 8) hx hb dX0_firstWrong_174 (by decide) ?_
                  exact ih (i + 1) (by omega) ((rn_step (by omega) e9).symm.trans he) (by omega) ls (lv_sub hl [0, 1, 2, 5, 6, 7] rfl)
                · skip
                  have e9 : fwB q G0 G1 lf bd bs bh fr i = false := by unfold fwB; rw [hT, hN, decide_eq_false c43]; rfl
                  refine lv_iload hx hb dX0_firstWrong_142 (lv_at hl 2 rfl) ?_
                  have e8 : fwE q G0 G1 lf bd bs bh fr b i = i := rn_stop (fun hh => by have h2 := hh.2; rw [e9] at h2; exact absurd h2 (by decide))
                  have e7 : fwR q G0 G1 lf bd bs bh fr b = nI i := by unfold fwR; rw [← he, e8]; exact if_pos (by omega)
                  exact W.iret (v := nI i) hx hb hr (fun t9 ht _ => ⟨nI i, rfl, e7.symm, ht⟩) (fun q h => by cases h) dX0_firstWrong_144
  exact L1 _ 0 (Nat.zero_le _) (rfl) (Nat.lt_succ_self _) ls (lv_sub hl [0, 1, 2, 3, 4, 5] rfl)
