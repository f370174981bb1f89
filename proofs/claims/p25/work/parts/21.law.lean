set_option maxRecDepth 20000 in
theorem ggX3_readRest_X7_readNumber : GoodIn wsX3_readRest wsX7_readNumber := goodIn_r _ [8, 9, 10, 11, 12, 13, 14, 7, 15, 16, 17, 18, 19, 20, 21, 22, 23, 24, 25, 26, 27, 28, 29, 30, 36, 37, 38, 39, 40, 41, 42, 43] rfl (by decide +kernel)
set_option maxRecDepth 20000 in
theorem gX3_readRest_X7_readNumber : GoodIn wsX3_readRest (wsV RX3 78 RX7 yX7_readNumber wsX7_readNumber) := goodIn_app (goodIn_of _ (by decide +kernel)) ggX3_readRest_X7_readNumber
theorem dX3_readRest_0 : decode cX3_readRest 0 = .ok (.iload_n 2, 1) := dc_Bk (by decide +kernel)
theorem dX3_readRest_1 : decode cX3_readRest 1 = .ok (.ifCond .ne 17, 3) := dc_Bk (by decide +kernel)
theorem dX3_readRest_4 : decode cX3_readRest 4 = .ok (.aload_n 0, 1) := dc_Bk (by decide +kernel)
theorem dX3_readRest_5 : decode cX3_readRest 5 = .ok (.aload_n 1, 1) := dc_Bk (by decide +kernel)
theorem dX3_readRest_6 : decode cX3_readRest 6 = .ok (.iconst 1, 1) := dc_Bk (by decide +kernel)
theorem dX3_readRest_7 : decode cX3_readRest 7 = .ok (.bipush 7, 2) := dc_Bk (by decide +kernel)
theorem dX3_readRest_9 : decode cX3_readRest 9 = .ok (.invokevirtual 78, 3) := dc_Bk (by decide +kernel)
theorem dX3_readRest_12 : decode cX3_readRest 12 = .ok (.putfield 9, 3) := dc_Bk (by decide +kernel)
theorem dX3_readRest_15 : decode cX3_readRest 15 = .ok (.goto 36, 3) := dc_Bk (by decide +kernel)
theorem dX3_readRest_18 : decode cX3_readRest 18 = .ok (.iload_n 2, 1) := dc_Bk (by decide +kernel)
theorem dX3_readRest_19 : decode cX3_readRest 19 = .ok (.iconst 1, 1) := dc_Bk (by decide +kernel)
theorem dX3_readRest_20 : decode cX3_readRest 20 = .ok (.if_icmp .ne 17, 3) := dc_Bk (by decide +kernel)
theorem dX3_readRest_23 : decode cX3_readRest 23 = .ok (.aload_n 0, 1) := dc_Bk (by decide +kernel)
theorem dX3_readRest_24 : decode cX3_readRest 24 = .ok (.aload_n 1, 1) := dc_Bk (by decide +kernel)
theorem dX3_readRest_25 : decode cX3_readRest 25 = .ok (.iconst 0, 1) := dc_Bk (by decide +kernel)
theorem dX3_readRest_26 : decode cX3_readRest 26 = .ok (.bipush 7, 2) := dc_Bk (by decide +kernel)
theorem dX3_readRest_28 : decode cX3_readRest 28 = .ok (.invokevirtual 78, 3) := dc_Bk (by decide +kernel)
theorem dX3_readRest_31 : decode cX3_readRest 31 = .ok (.putfield 15, 3) := dc_Bk (by decide +kernel)
theorem dX3_readRest_34 : decode cX3_readRest 34 = .ok (.goto 17, 3) := dc_Bk (by decide +kernel)
theorem dX3_readRest_37 : decode cX3_readRest 37 = .ok (.aload_n 0, 1) := dc_Bk (by decide +kernel)
theorem dX3_readRest_38 : decode cX3_readRest 38 = .ok (.iload_n 2, 1) := dc_Bk (by decide +kernel)
theorem dX3_readRest_39 : decode cX3_readRest 39 = .ok (.iconst 2, 1) := dc_Bk (by decide +kernel)
theorem dX3_readRest_40 : decode cX3_readRest 40 = .ok (.if_icmp .ne 7, 3) := dc_Bk (by decide +kernel)
theorem dX3_readRest_43 : decode cX3_readRest 43 = .ok (.iconst 1, 1) := dc_Bk (by decide +kernel)
theorem dX3_readRest_44 : decode cX3_readRest 44 = .ok (.goto 4, 3) := dc_Bk (by decide +kernel)
theorem dX3_readRest_47 : decode cX3_readRest 47 = .ok (.iconst 0, 1) := dc_Bk (by decide +kernel)
theorem dX3_readRest_48 : decode cX3_readRest 48 = .ok (.putfield 18, 3) := dc_Bk (by decide +kernel)
theorem dX3_readRest_51 : decode cX3_readRest 51 = .ok (.return_, 1) := dc_Bk (by decide +kernel)
set_option maxRecDepth 20000 in
theorem ggX3_readClause_X7_readWord : GoodIn wsX3_readClause wsX7_readWord := goodIn_r _ [8, 9, 10, 11, 12, 13, 14, 7, 15, 16, 17, 18, 19, 20, 21, 109, 110, 111, 112, 113, 114, 115, 116] rfl (by decide +kernel)
set_option maxRecDepth 20000 in
theorem gX3_readClause_X7_readWord : GoodIn wsX3_readClause (wsV RX3 44 RX7 yX7_readWord wsX7_readWord) := goodIn_app (goodIn_of _ (by decide +kernel)) ggX3_readClause_X7_readWord
set_option maxRecDepth 20000 in
theorem ggX3_readClause_X3_clauseOf : GoodIn wsX3_readClause wsX3_clauseOf := goodIn_r _ [25, 26, 27, 28, 7, 29, 11, 10, 17, 30, 31, 32, 33, 34, 35, 36, 37, 38, 39, 40, 41, 42, 43, 44, 45, 46, 47, 48, 49, 50, 51, 52, 53, 54, 55, 56, 57, 58, 59, 60, 61, 62, 63, 64, 65, 66, 67, 68, 69, 70, 71, 72, 73, 74, 75, 76, 77, 78, 109, 110, 111, 112, 113, 114, 115, 116] rfl (by decide +kernel)
set_option maxRecDepth 20000 in
theorem gX3_readClause_X3_clauseOf : GoodIn wsX3_readClause (va_wsS RX3 47 yX3_clauseOf wsX3_clauseOf) := goodIn_app (goodIn_of _ (by decide +kernel)) ggX3_readClause_X3_clauseOf
set_option maxRecDepth 20000 in
theorem ggX3_readClause_X7_blame : GoodIn wsX3_readClause wsX7_blame := goodIn_r _ [82, 83, 84, 85, 86, 87, 7, 88, 109, 110, 111, 112, 113, 114, 115, 116] rfl (by decide +kernel)
set_option maxRecDepth 20000 in
theorem gX3_readClause_X7_blame : GoodIn wsX3_readClause (wsV RX3 54 RX7 yX7_blame wsX7_blame) := goodIn_app (goodIn_of _ (by decide +kernel)) ggX3_readClause_X7_blame
set_option maxRecDepth 20000 in
theorem ggX3_readClause_X9_isIn : GoodIn wsX3_readClause wsX9_isIn := goodIn_r _ [91] rfl (by decide +kernel)
set_option maxRecDepth 20000 in
theorem gX3_readClause_X9_isIn_n58 : GoodIn wsX3_readClause (wsX9_isIn) := ggX3_readClause_X9_isIn
set_option maxRecDepth 20000 in
theorem ggX3_readClause_X3_readRest : GoodIn wsX3_readClause wsX3_readRest := goodIn_r _ [95, 96, 97, 98, 99, 100, 101, 7, 102, 9, 103, 17, 12, 13, 14, 15, 16, 18, 19, 20, 21, 104, 80, 81, 82, 83, 84, 85, 86, 87, 88, 117, 118, 119, 120, 121, 109, 110, 111, 112, 113, 114, 115, 116] rfl (by decide +kernel)
set_option maxRecDepth 20000 in
theorem gX3_readClause_X3_readRest : GoodIn wsX3_readClause (wsV RX3 62 RX3 yX3_readRest wsX3_readRest) := goodIn_app (goodIn_of _ (by decide +kernel)) ggX3_readClause_X3_readRest
set_option maxRecDepth 20000 in
theorem ggX3_readClause_X7_readEnd : GoodIn wsX3_readClause wsX7_readEnd := goodIn_r _ [108, 9, 12, 13, 14, 7, 15, 16, 17, 18, 19, 20, 21, 104, 80, 81, 82, 83, 84, 85, 86, 87, 88, 109, 110, 111, 112, 113, 114, 115, 116] rfl (by decide +kernel)
set_option maxRecDepth 20000 in
theorem gX3_readClause_X7_readEnd : GoodIn wsX3_readClause (wsV RX3 66 RX7 yX7_readEnd wsX7_readEnd) := goodIn_app (goodIn_of _ (by decide +kernel)) ggX3_readClause_X7_readEnd
theorem dX3_readClause_0 : decode cX3_readClause 0 = .ok (.aload_n 1, 1) := dc_Bk (by decide +kernel)
theorem dX3_readClause_1 : decode cX3_readClause 1 = .ok (.invokevirtual 44, 3) := dc_Bk (by decide +kernel)
theorem dX3_readClause_4 : decode cX3_readClause 4 = .ok (.aload_n 1, 1) := dc_Bk (by decide +kernel)
theorem dX3_readClause_5 : decode cX3_readClause 5 = .ok (.invokestatic 47, 3) := dc_Bk (by decide +kernel)
theorem dX3_readClause_8 : decode cX3_readClause 8 = .ok (.istore_n 2, 1) := dc_Bk (by decide +kernel)
theorem dX3_readClause_9 : decode cX3_readClause 9 = .ok (.iload_n 2, 1) := dc_Bk (by decide +kernel)
theorem dX3_readClause_10 : decode cX3_readClause 10 = .ok (.iconst 3, 1) := dc_Bk (by decide +kernel)
theorem dX3_readClause_11 : decode cX3_readClause 11 = .ok (.if_icmp .ne 7, 3) := dc_Bk (by decide +kernel)
theorem dX3_readClause_14 : decode cX3_readClause 14 = .ok (.iconst 2, 1) := dc_Bk (by decide +kernel)
theorem dX3_readClause_15 : decode cX3_readClause 15 = .ok (.goto 4, 3) := dc_Bk (by decide +kernel)
theorem dX3_readClause_18 : decode cX3_readClause 18 = .ok (.iload_n 2, 1) := dc_Bk (by decide +kernel)
theorem dX3_readClause_19 : decode cX3_readClause 19 = .ok (.istore_n 3, 1) := dc_Bk (by decide +kernel)
theorem dX3_readClause_20 : decode cX3_readClause 20 = .ok (.iload_n 2, 1) := dc_Bk (by decide +kernel)
theorem dX3_readClause_21 : decode cX3_readClause 21 = .ok (.iconst (-1), 1) := dc_Bk (by decide +kernel)
theorem dX3_readClause_22 : decode cX3_readClause 22 = .ok (.if_icmp .ne 15, 3) := dc_Bk (by decide +kernel)
theorem dX3_readClause_25 : decode cX3_readClause 25 = .ok (.aload_n 1, 1) := dc_Bk (by decide +kernel)
theorem dX3_readClause_26 : decode cX3_readClause 26 = .ok (.iconst 1, 1) := dc_Bk (by decide +kernel)
theorem dX3_readClause_27 : decode cX3_readClause 27 = .ok (.aload_n 1, 1) := dc_Bk (by decide +kernel)
theorem dX3_readClause_28 : decode cX3_readClause 28 = .ok (.getfield 51, 3) := dc_Bk (by decide +kernel)
theorem dX3_readClause_31 : decode cX3_readClause 31 = .ok (.invokevirtual 54, 3) := dc_Bk (by decide +kernel)
theorem dX3_readClause_34 : decode cX3_readClause 34 = .ok (.goto 58, 3) := dc_Bk (by decide +kernel)
theorem dX3_readClause_37 : decode cX3_readClause 37 = .ok (.aload_n 0, 1) := dc_Bk (by decide +kernel)
theorem dX3_readClause_38 : decode cX3_readClause 38 = .ok (.getfield 25, 3) := dc_Bk (by decide +kernel)
theorem dX3_readClause_41 : decode cX3_readClause 41 = .ok (.iload_n 3, 1) := dc_Bk (by decide +kernel)
theorem dX3_readClause_42 : decode cX3_readClause 42 = .ok (.invokestatic 58, 3) := dc_Bk (by decide +kernel)
theorem dX3_readClause_45 : decode cX3_readClause 45 = .ok (.ifCond .eq 15, 3) := dc_Bk (by decide +kernel)
theorem dX3_readClause_48 : decode cX3_readClause 48 = .ok (.aload_n 1, 1) := dc_Bk (by decide +kernel)
theorem dX3_readClause_49 : decode cX3_readClause 49 = .ok (.iconst 3, 1) := dc_Bk (by decide +kernel)
theorem dX3_readClause_50 : decode cX3_readClause 50 = .ok (.aload_n 1, 1) := dc_Bk (by decide +kernel)
theorem dX3_readClause_51 : decode cX3_readClause 51 = .ok (.getfield 51, 3) := dc_Bk (by decide +kernel)
theorem dX3_readClause_54 : decode cX3_readClause 54 = .ok (.invokevirtual 54, 3) := dc_Bk (by decide +kernel)
theorem dX3_readClause_57 : decode cX3_readClause 57 = .ok (.goto 35, 3) := dc_Bk (by decide +kernel)
theorem dX3_readClause_60 : decode cX3_readClause 60 = .ok (.aload_n 0, 1) := dc_Bk (by decide +kernel)
theorem dX3_readClause_61 : decode cX3_readClause 61 = .ok (.dup, 1) := dc_Bk (by decide +kernel)
theorem dX3_readClause_62 : decode cX3_readClause 62 = .ok (.getfield 25, 3) := dc_Bk (by decide +kernel)
theorem dX3_readClause_65 : decode cX3_readClause 65 = .ok (.iconst 1, 1) := dc_Bk (by decide +kernel)
theorem dX3_readClause_66 : decode cX3_readClause 66 = .ok (.iload_n 3, 1) := dc_Bk (by decide +kernel)
theorem dX3_readClause_67 : decode cX3_readClause 67 = .ok (.ishl, 1) := dc_Bk (by decide +kernel)
theorem dX3_readClause_68 : decode cX3_readClause 68 = .ok (.ior, 1) := dc_Bk (by decide +kernel)
theorem dX3_readClause_69 : decode cX3_readClause 69 = .ok (.putfield 25, 3) := dc_Bk (by decide +kernel)
theorem dX3_readClause_72 : decode cX3_readClause 72 = .ok (.aload_n 0, 1) := dc_Bk (by decide +kernel)
theorem dX3_readClause_73 : decode cX3_readClause 73 = .ok (.aload_n 1, 1) := dc_Bk (by decide +kernel)
theorem dX3_readClause_74 : decode cX3_readClause 74 = .ok (.iload_n 2, 1) := dc_Bk (by decide +kernel)
theorem dX3_readClause_75 : decode cX3_readClause 75 = .ok (.invokevirtual 62, 3) := dc_Bk (by decide +kernel)
theorem dX3_readClause_78 : decode cX3_readClause 78 = .ok (.aload_n 1, 1) := dc_Bk (by decide +kernel)
theorem dX3_readClause_79 : decode cX3_readClause 79 = .ok (.invokevirtual 66, 3) := dc_Bk (by decide +kernel)
theorem dX3_readClause_82 : decode cX3_readClause 82 = .ok (.aload_n 0, 1) := dc_Bk (by decide +kernel)
theorem dX3_readClause_83 : decode cX3_readClause 83 = .ok (.dup, 1) := dc_Bk (by decide +kernel)
theorem dX3_readClause_84 : decode cX3_readClause 84 = .ok (.getfield 22, 3) := dc_Bk (by decide +kernel)
theorem dX3_readClause_87 : decode cX3_readClause 87 = .ok (.iconst 1, 1) := dc_Bk (by decide +kernel)
theorem dX3_readClause_88 : decode cX3_readClause 88 = .ok (.iadd, 1) := dc_Bk (by decide +kernel)
theorem dX3_readClause_89 : decode cX3_readClause 89 = .ok (.putfield 22, 3) := dc_Bk (by decide +kernel)
theorem dX3_readClause_92 : decode cX3_readClause 92 = .ok (.return_, 1) := dc_Bk (by decide +kernel)
set_option maxRecDepth 20000 in
theorem ggX3_readFrom_X7_startReading : GoodIn wsX3_readFrom wsX7_startReading := goodIn_r _ [10, 11, 12, 13, 127, 128, 129, 130, 131, 132, 133, 134] rfl (by decide +kernel)
set_option maxRecDepth 20000 in
theorem gX3_readFrom_X7_startReading : GoodIn wsX3_readFrom (wsV RX3 28 RX7 yX7_startReading wsX7_startReading) := goodIn_app (goodIn_of _ (by decide +kernel)) ggX3_readFrom_X7_startReading
set_option maxRecDepth 20000 in
theorem ggX3_readFrom_X7_isFaulty : GoodIn wsX3_readFrom wsX7_isFaulty := goodIn_r _ [17, 12, 127, 128, 129, 130, 131, 132, 133, 134] rfl (by decide +kernel)
set_option maxRecDepth 20000 in
theorem gX3_readFrom_X7_isFaulty : GoodIn wsX3_readFrom (wsV RX3 33 RX7 yX7_isFaulty wsX7_isFaulty) := goodIn_app (goodIn_of _ (by decide +kernel)) ggX3_readFrom_X7_isFaulty
set_option maxRecDepth 20000 in
theorem ggX3_readFrom_X7_hasMore : GoodIn wsX3_readFrom wsX7_hasMore := goodIn_r _ [21, 11, 22, 23, 24, 25, 9, 26, 27, 127, 128, 129, 130, 131, 132, 133, 134] rfl (by decide +kernel)
set_option maxRecDepth 20000 in
theorem gX3_readFrom_X7_hasMore : GoodIn wsX3_readFrom (wsV RX3 37 RX7 yX7_hasMore wsX7_hasMore) := goodIn_app (goodIn_of _ (by decide +kernel)) ggX3_readFrom_X7_hasMore
set_option maxRecDepth 20000 in
theorem ggX3_readFrom_X3_readClause : GoodIn wsX3_readFrom wsX3_readClause := goodIn_r _ [32, 33, 5, 4, 34, 35, 36, 9, 37, 11, 38, 39, 23, 24, 25, 26, 22, 27, 40, 41, 42, 43, 44, 45, 31, 46, 47, 48, 49, 50, 51, 52, 53, 54, 55, 56, 57, 58, 59, 60, 61, 62, 63, 64, 65, 66, 67, 68, 69, 70, 71, 72, 73, 74, 75, 76, 77, 78, 79, 80, 81, 82, 83, 84, 85, 86, 87, 88, 89, 90, 91, 92, 93, 94, 95, 96, 97, 98, 99, 100, 101, 102, 103, 12, 13, 104, 15, 16, 17, 105, 106, 107, 108, 109, 110, 111, 1, 2, 3, 112, 113, 114, 115, 116, 117, 118, 119, 120, 121, 127, 128, 129, 130, 131, 132, 133, 134, 122, 123, 124, 125, 126] rfl (by decide +kernel)
set_option maxRecDepth 20000 in
theorem gX3_readFrom_X3_readClause : GoodIn wsX3_readFrom (wsV RX3 40 RX3 yX3_readClause wsX3_readClause) := goodIn_app (goodIn_of _ (by decide +kernel)) ggX3_readFrom_X3_readClause
theorem dX3_readFrom_0 : decode cX3_readFrom 0 = .ok (.aload_n 0, 1) := dc_Bk (by decide +kernel)
theorem dX3_readFrom_1 : decode cX3_readFrom 1 = .ok (.bipush 7, 2) := dc_Bk (by decide +kernel)
theorem dX3_readFrom_3 : decode cX3_readFrom 3 = .ok (.putfield 9, 3) := dc_Bk (by decide +kernel)
theorem dX3_readFrom_6 : decode cX3_readFrom 6 = .ok (.aload_n 0, 1) := dc_Bk (by decide +kernel)
theorem dX3_readFrom_7 : decode cX3_readFrom 7 = .ok (.iconst (-1), 1) := dc_Bk (by decide +kernel)
theorem dX3_readFrom_8 : decode cX3_readFrom 8 = .ok (.putfield 15, 3) := dc_Bk (by decide +kernel)
theorem dX3_readFrom_11 : decode cX3_readFrom 11 = .ok (.aload_n 0, 1) := dc_Bk (by decide +kernel)
theorem dX3_readFrom_12 : decode cX3_readFrom 12 = .ok (.iconst 1, 1) := dc_Bk (by decide +kernel)
theorem dX3_readFrom_13 : decode cX3_readFrom 13 = .ok (.putfield 18, 3) := dc_Bk (by decide +kernel)
theorem dX3_readFrom_16 : decode cX3_readFrom 16 = .ok (.aload_n 0, 1) := dc_Bk (by decide +kernel)
theorem dX3_readFrom_17 : decode cX3_readFrom 17 = .ok (.iconst 0, 1) := dc_Bk (by decide +kernel)
theorem dX3_readFrom_18 : decode cX3_readFrom 18 = .ok (.putfield 22, 3) := dc_Bk (by decide +kernel)
theorem dX3_readFrom_21 : decode cX3_readFrom 21 = .ok (.aload_n 0, 1) := dc_Bk (by decide +kernel)
theorem dX3_readFrom_22 : decode cX3_readFrom 22 = .ok (.iconst 0, 1) := dc_Bk (by decide +kernel)
theorem dX3_readFrom_23 : decode cX3_readFrom 23 = .ok (.putfield 25, 3) := dc_Bk (by decide +kernel)
theorem dX3_readFrom_26 : decode cX3_readFrom 26 = .ok (.aload_n 1, 1) := dc_Bk (by decide +kernel)
theorem dX3_readFrom_27 : decode cX3_readFrom 27 = .ok (.invokevirtual 28, 3) := dc_Bk (by decide +kernel)
theorem dX3_readFrom_30 : decode cX3_readFrom 30 = .ok (.iconst 0, 1) := dc_Bk (by decide +kernel)
theorem dX3_readFrom_31 : decode cX3_readFrom 31 = .ok (.istore_n 2, 1) := dc_Bk (by decide +kernel)
theorem dX3_readFrom_32 : decode cX3_readFrom 32 = .ok (.iload_n 2, 1) := dc_Bk (by decide +kernel)
theorem dX3_readFrom_33 : decode cX3_readFrom 33 = .ok (.sipush 200, 3) := dc_Bk (by decide +kernel)
theorem dX3_readFrom_36 : decode cX3_readFrom 36 = .ok (.if_icmp .ge 28, 3) := dc_Bk (by decide +kernel)
theorem dX3_readFrom_39 : decode cX3_readFrom 39 = .ok (.aload_n 1, 1) := dc_Bk (by decide +kernel)
theorem dX3_readFrom_40 : decode cX3_readFrom 40 = .ok (.invokevirtual 33, 3) := dc_Bk (by decide +kernel)
theorem dX3_readFrom_43 : decode cX3_readFrom 43 = .ok (.ifCond .ne 21, 3) := dc_Bk (by decide +kernel)
theorem dX3_readFrom_46 : decode cX3_readFrom 46 = .ok (.aload_n 1, 1) := dc_Bk (by decide +kernel)
theorem dX3_readFrom_47 : decode cX3_readFrom 47 = .ok (.invokevirtual 37, 3) := dc_Bk (by decide +kernel)
theorem dX3_readFrom_50 : decode cX3_readFrom 50 = .ok (.ifCond .eq 14, 3) := dc_Bk (by decide +kernel)
theorem dX3_readFrom_53 : decode cX3_readFrom 53 = .ok (.aload_n 0, 1) := dc_Bk (by decide +kernel)
theorem dX3_readFrom_54 : decode cX3_readFrom 54 = .ok (.aload_n 1, 1) := dc_Bk (by decide +kernel)
theorem dX3_readFrom_55 : decode cX3_readFrom 55 = .ok (.invokevirtual 40, 3) := dc_Bk (by decide +kernel)
theorem dX3_readFrom_58 : decode cX3_readFrom 58 = .ok (.iinc 2 1, 3) := dc_Bk (by decide +kernel)
theorem dX3_readFrom_61 : decode cX3_readFrom 61 = .ok (.goto (-29), 3) := dc_Bk (by decide +kernel)
theorem dX3_readFrom_64 : decode cX3_readFrom 64 = .ok (.aload_n 0, 1) := dc_Bk (by decide +kernel)
theorem dX3_readFrom_65 : decode cX3_readFrom 65 = .ok (.getfield 15, 3) := dc_Bk (by decide +kernel)
theorem dX3_readFrom_68 : decode cX3_readFrom 68 = .ok (.iconst (-1), 1) := dc_Bk (by decide +kernel)
theorem dX3_readFrom_69 : decode cX3_readFrom 69 = .ok (.if_icmp .ne 15, 3) := dc_Bk (by decide +kernel)
theorem dX3_readFrom_72 : decode cX3_readFrom 72 = .ok (.aload_n 0, 1) := dc_Bk (by decide +kernel)
theorem dX3_readFrom_73 : decode cX3_readFrom 73 = .ok (.aload_n 0, 1) := dc_Bk (by decide +kernel)
theorem dX3_readFrom_74 : decode cX3_readFrom 74 = .ok (.getfield 9, 3) := dc_Bk (by decide +kernel)
theorem dX3_readFrom_77 : decode cX3_readFrom 77 = .ok (.iconst 2, 1) := dc_Bk (by decide +kernel)
theorem dX3_readFrom_78 : decode cX3_readFrom 78 = .ok (.idiv, 1) := dc_Bk (by decide +kernel)
theorem dX3_readFrom_79 : decode cX3_readFrom 79 = .ok (.iconst 1, 1) := dc_Bk (by decide +kernel)
theorem dX3_readFrom_80 : decode cX3_readFrom 80 = .ok (.iadd, 1) := dc_Bk (by decide +kernel)
theorem dX3_readFrom_81 : decode cX3_readFrom 81 = .ok (.putfield 15, 3) := dc_Bk (by decide +kernel)
theorem dX3_readFrom_84 : decode cX3_readFrom 84 = .ok (.return_, 1) := dc_Bk (by decide +kernel)
abbrev LSt : Type := Nat × Int32 × Int32 × Int32 × Int32 × Int32 × Int32 × Int32 × Int32 × Int32 × Int32
def lor5 (l5 kk : Int32) : Int32 := l5 ||| ((1 : Int32) <<< (kk &&& 31))
def lcB (f : Nat → Int32) (n a : Nat) (nu w3 w4 w5 ni ye ag l4 l5 : Int32) : LSt := (wE f n a, nI (nS f n a), w3, bl w4 nu, bla w4 w5 (nI (nS f n a)), nI (wE f n a), ni, ye, ag, l4, l5)
def LCl (f : Nat → Int32) (n : Nat) : LSt → LSt := fun (a, _, w3, w4, w5, _, ni, ye, ag, l4, l5) =>
  if kdA f (nS f n a) (wE f n a) 4 = 0 then (if inS l5 0 = 0 then (eE f n (nE f n (wE f n a)), nI (nS f n a), nI (nS f n (wE f n a)), eF f n (nE f n (wE f n a)) (nF f n (wE f n a) w4 1 7), eA f n (nE f n (wE f n a)) (nF f n (wE f n a) w4 1 7) (nA f n (wE f n a) w4 w5 1 7), nI (wE f n a), nV f n (wE f n a), ye, ag, l4 + 1, lor5 l5 0) else lcB f n a 3 w3 w4 w5 ni ye ag l4 l5)
  else if kdA f (nS f n a) (wE f n a) 4 = 1 then (if inS l5 1 = 0 then (eE f n (nE f n (wE f n a)), nI (nS f n a), nI (nS f n (wE f n a)), eF f n (nE f n (wE f n a)) (nF f n (wE f n a) w4 0 7), eA f n (nE f n (wE f n a)) (nF f n (wE f n a) w4 0 7) (nA f n (wE f n a) w4 w5 0 7), nI (wE f n a), ni, nV f n (wE f n a), ag, l4 + 1, lor5 l5 1) else lcB f n a 3 w3 w4 w5 ni ye ag l4 l5)
  else if kdA f (nS f n a) (wE f n a) 4 = 2 then (if inS l5 2 = 0 then (eE f n (wE f n a), nI (nS f n a), w3, eF f n (wE f n a) w4, eA f n (wE f n a) w4 w5, nI (wE f n a), ni, ye, 1, l4 + 1, lor5 l5 2) else lcB f n a 3 w3 w4 w5 ni ye ag l4 l5)
  else if kdA f (nS f n a) (wE f n a) 4 = 3 then (if inS l5 2 = 0 then (eE f n (wE f n a), nI (nS f n a), w3, eF f n (wE f n a) w4, eA f n (wE f n a) w4 w5, nI (wE f n a), ni, ye, 0, l4 + 1, lor5 l5 2) else lcB f n a 3 w3 w4 w5 ni ye ag l4 l5)
  else lcB f n a 1 w3 w4 w5 ni ye ag l4 l5
def LI (n : Nat) : LSt → Prop := fun (a, _, _, w4, _, _, ni, ye, _, _, _) => a ≤ n ∧ (w4 = 0 → (∃ v : Nat, 1 ≤ v ∧ v ≤ 7 ∧ ni = nI v) ∧ (ye = -1 ∨ ∃ v : Nat, v ≤ 7 ∧ ye = nI v))
theorem i7 {v : Int32} {lo : Nat} (hl : lo < 2 ^ 31) (h1 : nI lo ≤ v) (h2 : v ≤ 7) : ∃ x : Nat, lo ≤ x ∧ x ≤ 7 ∧ v = nI x := by
  have h5 : ¬ v < 0 := fun q => absurd (Int32.lt_of_le_of_lt h1 q) (nI_pos hl)
  obtain ⟨x, hx, ex⟩ := nI_of h5
  rw [ex] at h1 h2
  exact ⟨x, (nI_leI hl hx).mp h1, (nI_leI (b := 7) hx (by decide)).mp h2, ex⟩
theorem lc_0 {f : Nat → Int32} {n a : Nat} {w2 w3 w4 w5 w6 ni ye ag l4 l5 : Int32} (hk : kdA f (nS f n a) (wE f n a) 4 = 0) (hc : inS l5 0 = 0) : LCl f n (a, w2, w3, w4, w5, w6, ni, ye, ag, l4, l5) = (eE f n (nE f n (wE f n a)), nI (nS f n a), nI (nS f n (wE f n a)), eF f n (nE f n (wE f n a)) (nF f n (wE f n a) w4 1 7), eA f n (nE f n (wE f n a)) (nF f n (wE f n a) w4 1 7) (nA f n (wE f n a) w4 w5 1 7), nI (wE f n a), nV f n (wE f n a), ye, ag, l4 + 1, lor5 l5 0) := by
  unfold LCl
  exact (if_pos hk).trans (if_pos hc)
theorem lf_0 {f : Nat → Int32} {n a : Nat} {w2 w3 w4 w5 w6 ni ye ag l4 l5 : Int32} (hk : kdA f (nS f n a) (wE f n a) 4 = 0) (hc : ¬ inS l5 0 = 0) : LCl f n (a, w2, w3, w4, w5, w6, ni, ye, ag, l4, l5) = lcB f n a 3 w3 w4 w5 ni ye ag l4 l5 := by
  unfold LCl
  exact (if_pos hk).trans (if_neg hc)
theorem li_0 {f : Nat → Int32} {n a : Nat} {w2 w3 w4 w5 w6 ni ye ag l4 l5 : Int32} (h : LI n (a, w2, w3, w4, w5, w6, ni, ye, ag, l4, l5)) (hk : kdA f (nS f n a) (wE f n a) 4 = 0) (hc : inS l5 0 = 0) : LI n (LCl f n (a, w2, w3, w4, w5, w6, ni, ye, ag, l4, l5)) := by
  rw [lc_0 hk hc]
  obtain ⟨h1, h2⟩ := h
  refine ⟨eE_le (nE_le (wE_le h1)), fun h0 => ?_⟩
  obtain ⟨h5, h6, h7⟩ := nF_0 (eF_0 h0)
  obtain ⟨v, h8, h9, e9⟩ := i7 (lo := 1) (by decide) h6 h7
  exact ⟨⟨v, h8, h9, e9⟩, (h2 h5).2⟩
theorem lc_1 {f : Nat → Int32} {n a : Nat} {w2 w3 w4 w5 w6 ni ye ag l4 l5 : Int32} (hk : kdA f (nS f n a) (wE f n a) 4 = 1) (hc : inS l5 1 = 0) : LCl f n (a, w2, w3, w4, w5, w6, ni, ye, ag, l4, l5) = (eE f n (nE f n (wE f n a)), nI (nS f n a), nI (nS f n (wE f n a)), eF f n (nE f n (wE f n a)) (nF f n (wE f n a) w4 0 7), eA f n (nE f n (wE f n a)) (nF f n (wE f n a) w4 0 7) (nA f n (wE f n a) w4 w5 0 7), nI (wE f n a), ni, nV f n (wE f n a), ag, l4 + 1, lor5 l5 1) := by
  unfold LCl
  exact (if_neg (by rw [hk]; decide)).trans <| (if_pos hk).trans (if_pos hc)
theorem lf_1 {f : Nat → Int32} {n a : Nat} {w2 w3 w4 w5 w6 ni ye ag l4 l5 : Int32} (hk : kdA f (nS f n a) (wE f n a) 4 = 1) (hc : ¬ inS l5 1 = 0) : LCl f n (a, w2, w3, w4, w5, w6, ni, ye, ag, l4, l5) = lcB f n a 3 w3 w4 w5 ni ye ag l4 l5 := by
  unfold LCl
  exact (if_neg (by rw [hk]; decide)).trans <| (if_pos hk).trans (if_neg hc)
theorem li_1 {f : Nat → Int32} {n a : Nat} {w2 w3 w4 w5 w6 ni ye ag l4 l5 : Int32} (h : LI n (a, w2, w3, w4, w5, w6, ni, ye, ag, l4, l5)) (hk : kdA f (nS f n a) (wE f n a) 4 = 1) (hc : inS l5 1 = 0) : LI n (LCl f n (a, w2, w3, w4, w5, w6, ni, ye, ag, l4, l5)) := by
  rw [lc_1 hk hc]
  obtain ⟨h1, h2⟩ := h
  refine ⟨eE_le (nE_le (wE_le h1)), fun h0 => ?_⟩
  obtain ⟨h5, h6, h7⟩ := nF_0 (eF_0 h0)
  obtain ⟨v, h8, h9, e9⟩ := i7 (lo := 0) (by decide) h6 h7
  exact ⟨(h2 h5).1, Or.inr ⟨v, h9, e9⟩⟩
theorem lc_2 {f : Nat → Int32} {n a : Nat} {w2 w3 w4 w5 w6 ni ye ag l4 l5 : Int32} (hk : kdA f (nS f n a) (wE f n a) 4 = 2) (hc : inS l5 2 = 0) : LCl f n (a, w2, w3, w4, w5, w6, ni, ye, ag, l4, l5) = (eE f n (wE f n a), nI (nS f n a), w3, eF f n (wE f n a) w4, eA f n (wE f n a) w4 w5, nI (wE f n a), ni, ye, 1, l4 + 1, lor5 l5 2) := by
  unfold LCl
  exact (if_neg (by rw [hk]; decide)).trans <| (if_neg (by rw [hk]; decide)).trans <| (if_pos hk).trans (if_pos hc)
theorem lf_2 {f : Nat → Int32} {n a : Nat} {w2 w3 w4 w5 w6 ni ye ag l4 l5 : Int32} (hk : kdA f (nS f n a) (wE f n a) 4 = 2) (hc : ¬ inS l5 2 = 0) : LCl f n (a, w2, w3, w4, w5, w6, ni, ye, ag, l4, l5) = lcB f n a 3 w3 w4 w5 ni ye ag l4 l5 := by
  unfold LCl
  exact (if_neg (by rw [hk]; decide)).trans <| (if_neg (by rw [hk]; decide)).trans <| (if_pos hk).trans (if_neg hc)
theorem li_2 {f : Nat → Int32} {n a : Nat} {w2 w3 w4 w5 w6 ni ye ag l4 l5 : Int32} (h : LI n (a, w2, w3, w4, w5, w6, ni, ye, ag, l4, l5)) (hk : kdA f (nS f n a) (wE f n a) 4 = 2) (hc : inS l5 2 = 0) : LI n (LCl f n (a, w2, w3, w4, w5, w6, ni, ye, ag, l4, l5)) := by
  rw [lc_2 hk hc]
  obtain ⟨h1, h2⟩ := h
  refine ⟨eE_le (wE_le h1), fun h0 => ?_⟩
  exact h2 (eF_0 h0)
theorem lc_3 {f : Nat → Int32} {n a : Nat} {w2 w3 w4 w5 w6 ni ye ag l4 l5 : Int32} (hk : kdA f (nS f n a) (wE f n a) 4 = 3) (hc : inS l5 2 = 0) : LCl f n (a, w2, w3, w4, w5, w6, ni, ye, ag, l4, l5) = (eE f n (wE f n a), nI (nS f n a), w3, eF f n (wE f n a) w4, eA f n (wE f n a) w4 w5, nI (wE f n a), ni, ye, 0, l4 + 1, lor5 l5 2) := by
  unfold LCl
  exact (if_neg (by rw [hk]; decide)).trans <| (if_neg (by rw [hk]; decide)).trans <| (if_neg (by rw [hk]; decide)).trans <| (if_pos hk).trans (if_pos hc)
theorem lf_3 {f : Nat → Int32} {n a : Nat} {w2 w3 w4 w5 w6 ni ye ag l4 l5 : Int32} (hk : kdA f (nS f n a) (wE f n a) 4 = 3) (hc : ¬ inS l5 2 = 0) : LCl f n (a, w2, w3, w4, w5, w6, ni, ye, ag, l4, l5) = lcB f n a 3 w3 w4 w5 ni ye ag l4 l5 := by
  unfold LCl
  exact (if_neg (by rw [hk]; decide)).trans <| (if_neg (by rw [hk]; decide)).trans <| (if_neg (by rw [hk]; decide)).trans <| (if_pos hk).trans (if_neg hc)
theorem li_3 {f : Nat → Int32} {n a : Nat} {w2 w3 w4 w5 w6 ni ye ag l4 l5 : Int32} (h : LI n (a, w2, w3, w4, w5, w6, ni, ye, ag, l4, l5)) (hk : kdA f (nS f n a) (wE f n a) 4 = 3) (hc : inS l5 2 = 0) : LI n (LCl f n (a, w2, w3, w4, w5, w6, ni, ye, ag, l4, l5)) := by
  rw [lc_3 hk hc]
  obtain ⟨h1, h2⟩ := h
  refine ⟨eE_le (wE_le h1), fun h0 => ?_⟩
  exact h2 (eF_0 h0)
theorem lc_n {f : Nat → Int32} {n a : Nat} {w2 w3 w4 w5 w6 ni ye ag l4 l5 : Int32} (hk : kdA f (nS f n a) (wE f n a) 4 = -1) : LCl f n (a, w2, w3, w4, w5, w6, ni, ye, ag, l4, l5) = lcB f n a 1 w3 w4 w5 ni ye ag l4 l5 := by
  unfold LCl
  exact (if_neg (by rw [hk]; decide)).trans <| (if_neg (by rw [hk]; decide)).trans <| (if_neg (by rw [hk]; decide)).trans <| if_neg (by rw [hk]; decide)
theorem li_b {f : Nat → Int32} {n a : Nat} {w2 w3 w4 w5 w6 ni ye ag l4 l5 : Int32} {nu : Int32} (h : LI n (a, w2, w3, w4, w5, w6, ni, ye, ag, l4, l5)) (hn : ¬ nu = 0) : LI n (lcB f n a nu w3 w4 w5 ni ye ag l4 l5) := by
  obtain ⟨h1, h2⟩ := h
  exact ⟨wE_le h1, fun h0 => absurd h0 (bl_ne hn)⟩
theorem li_s {f : Nat → Int32} {n : Nat} : ∀ σ : LSt, LI n σ → LI n (LCl f n σ)
  | (a, w2, w3, w4, w5, w6, ni, ye, ag, l4, l5), h => by
    rcases kd_c f (nS f n a) (wE f n a) 4 with hk | hk | hk | hk | hk
    · rw [lc_n hk]; exact li_b h (by decide)
    · by_cases hc : inS l5 0 = 0
      · exact li_0 h hk hc
      · rw [lf_0 hk hc]; exact li_b h (by decide)
    · by_cases hc : inS l5 1 = 0
      · exact li_1 h hk hc
      · rw [lf_1 hk hc]; exact li_b h (by decide)
    · by_cases hc : inS l5 2 = 0
      · exact li_2 h hk hc
      · rw [lf_2 hk hc]; exact li_b h (by decide)
    · by_cases hc : inS l5 2 = 0
      · exact li_3 h hk hc
      · rw [lf_3 hk hc]; exact li_b h (by decide)
def lsk (f : Nat → Int32) (n : Nat) : LSt → LSt := fun (a, σ) => (nS f n a, σ)
def lmo (f : Nat → Int32) (n : Nat) : LSt → Bool := fun (a, _) => decide (nS f n a < n)
def lfl : LSt → Int32 := fun (_, _, _, w4, _) => w4
def ldS (f : Nat → Int32) (n : Nat) : Nat → LSt → LSt
  | 0, σ => σ
  | k + 1, σ => if lfl σ = 0 then (if lmo f n σ = true then ldS f n k (LCl f n (lsk f n σ)) else lsk f n σ) else σ
theorem li_k {f : Nat → Int32} {n : Nat} : ∀ σ : LSt, LI n σ → LI n (lsk f n σ)
  | (a, w2, w3, w4, w5, w6, ni, ye, ag, l4, l5), h => ⟨nS_le h.1, h.2⟩
theorem ld_flt {f : Nat → Int32} {n j : Nat} {σ : LSt} (h : ¬ lfl σ = 0) : ldS f n j σ = σ := by
  cases j with
  | zero => rfl
  | succ j => exact if_neg h
theorem ld_end {f : Nat → Int32} {n j : Nat} {σ : LSt} (hj : 0 < j) (h : lfl σ = 0) (h2 : ¬ lmo f n σ = true) : ldS f n j σ = lsk f n σ := by
  cases j with
  | zero => exact absurd hj (by decide)
  | succ j => exact (if_pos h).trans (if_neg h2)
theorem ld_more {f : Nat → Int32} {n j i : Nat} {σ : LSt} (hj : j = i + 1) (h : lfl σ = 0) (h2 : lmo f n σ = true) : ldS f n j σ = ldS f n i (LCl f n (lsk f n σ)) := by
  rw [hj]
  exact (if_pos h).trans (if_pos h2)
theorem li_z {n : Nat} {w2 w3 w5 w6 ag l4 l5 : Int32} : LI n (0, w2, w3, 0, w5, w6, 7, -1, ag, l4, l5) := ⟨Nat.zero_le _, fun _ => ⟨⟨7, by decide, by decide, rfl⟩, Or.inl rfl⟩⟩
def yeF (ni y0 : Int32) : Int32 := if y0 = -1 then ni / 2 + 1 else y0

abbrev c_X3_rr0 (k : Nat → ClassId) (h : Nat) (ni : Int32) (ye : Int32) (ag : Int32) (l4 : Int32) (l5 : Int32) (tx : Nat) (qb : Nat) (n : Nat) (a : Nat) (w2 : Int32) (w3 : Int32) (w4 : Int32) (w5 : Int32) (w6 : Int32) (f : Nat → Int32) : va_W := [(h, .inr (3, [.int ni, .int ye, .int ag, .int l4, .int l5])), (tx, .inr (7, [.ref qb, .int (nI n), .int w2, .int w3, .int w4, .int w5, .int w6, .int (nI a)])), (qb, .inl (k 0, 500, .inl f))]
abbrev r_X3_rr0 : Room := { frames := 3, cells := 0, slots := 0, locals := 66 }
def w_X3_rr0 (k : Nat → ClassId) (h : Nat) (ni : Int32) (ye : Int32) (ag : Int32) (l4 : Int32) (l5 : Int32) (tx : Nat) (qb : Nat) (n : Nat) (a : Nat) (w2 : Int32) (w3 : Int32) (w4 : Int32) (w5 : Int32) (w6 : Int32) (f : Nat → Int32) : Unit → va_W := fun _ => [(h, .inr (3, [.int (nV f n a), .int ye, .int ag, .int l4, .int l5])), (tx, .inr (7, [.ref qb, .int (nI n), .int w2, .int (nI (nS f n a)), .int (nF f n a w4 1 7), .int (nA f n a w4 w5 1 7), .int w6, .int (nI (nE f n a))])), (qb, .inl (k 0, 500, .inl f))]
def p_X3_rr0 (k : Nat → ClassId) (h : Nat) (ni : Int32) (ye : Int32) (ag : Int32) (l4 : Int32) (l5 : Int32) (tx : Nat) (qb : Nat) (n : Nat) (a : Nat) (w2 : Int32) (w3 : Int32) (w4 : Int32) (w5 : Int32) (w6 : Int32) (f : Nat → Int32) : Unit → Prop := fun (u : Unit) => True
abbrev q_X3_rr0 (D : va_G) (k : Nat → ClassId) (h : Nat) (ni : Int32) (ye : Int32) (ag : Int32) (l4 : Int32) (l5 : Int32) (tx : Nat) (qb : Nat) (n : Nat) (a : Nat) (w2 : Int32) (w3 : Int32) (w4 : Int32) (w5 : Int32) (w6 : Int32) (f : Nat → Int32) (A : Nat → Prop) : Array Value → State → Outcome → State → Prop := va_Qv (p_X3_rr0 k h ni ye ag l4 l5 tx qb n a w2 w3 w4 w5 w6 f) (fun u9 t9 => BO D (w_X3_rr0 k h ni ye ag l4 l5 tx qb n a w2 w3 w4 w5 w6 f u9) A t9) A
set_option maxHeartbeats 2000000 in
set_option maxRecDepth 100000 in
theorem X3_rr0 (l : Launch) (D : va_G) (k : Nat → ClassId) (sz : Nat) (h : Nat) (ni : Int32) (ye : Int32) (ag : Int32) (l4 : Int32) (l5 : Int32) (tx : Nat) (qb : Nat) (n : Nat) (a : Nat) (w2 : Int32) (w3 : Int32) (w4 : Int32) (w5 : Int32) (w6 : Int32) (f : Nat → Int32) (hn : n ≤ 500) (ha : a ≤ n) : Met l yX3_readRest wsX3_readRest r_X3_rr0 (va_Pc [.ref h, .ref tx, .int 0] (PR D k (c_X3_rr0 k h ni ye ag l4 l5 tx qb n a w2 w3 w4 w5 w6 f) sz)) (q_X3_rr0 D k h ni ye ag l4 l5 tx qb n a w2 w3 w4 w5 w6 f (va_A (c_X3_rr0 k h ni ye ag l4 l5 tx qb n a w2 w3 w4 w5 w6 f) sz)) 0 0 (va_A (c_X3_rr0 k h ni ye ag l4 l5 tx qb n a w2 w3 w4 w5 w6 f) sz) := by
  refine Met.ofW (cc := cX3_readRest) (maxL := 3) (ret := none) (by decide) rfl ?_
  intro p e s m args below meth c s₁ B hml hv
  obtain ⟨rfl, hsz, hP, hG, hD0⟩ := hv
  have hx := B.exec
  have hb := B.bytes
  have hr := B.returns
  have hts := atoms_spec (ws := wsX3_readRest) B.pre
  have hown : s.vm.findClass RX3 = some m.cls := findClass_of_methodNamed B.named
  have hlocks := B.notSynchronized
  have hi3 : ∀ w ∈ wsX30, w ∈ wsX3_readRest := fun _ h => List.mem_cons_of_mem _ (List.mem_append_left _ (List.mem_append_right _ h))
  have hi7 : ∀ w ∈ wsX70, w ∈ wsX3_readRest := fun _ h => List.mem_cons_of_mem _ (List.mem_append_right _ h)
  subst hsz
  have hD := hD0.self (sz := s.heap.size)
  generalize hAe : va_A (c_X3_rr0 k h ni ye ag l4 l5 tx qb n a w2 w3 w4 w5 w6 f) s.heap.size = A at hD ⊢
  have hA : ∀ q : Nat, s.heap.size ≤ q → A q := fun q h => by rw [← hAe]; exact Or.inr h
  have hS : va_S A s.heap s.heap [] := va_S.rf
  have hP : va_P D vwCl [(h, .inr (3, [.int ni, .int ye, .int ag, .int l4, .int l5])), (tx, .inr (7, [.ref qb, .int (nI n), .int w2, .int w3, .int w4, .int w5, .int w6, .int (nI a)])), (qb, .inl (k 0, 500, .inl f))] s.heap := hP
  have hD : va_D A [(h, .inr (3, [.int ni, .int ye, .int ag, .int l4, .int l5])), (tx, .inr (7, [.ref qb, .int (nI n), .int w2, .int w3, .int w4, .int w5, .int w6, .int (nI a)])), (qb, .inl (k 0, 500, .inl f))] := hD
  have hl := lv_entry ([.ref h, .ref tx, .int 0]) (n := 3) (Nat.le_of_ble_eq_true rfl)
  rw [lg_entry_eq]
  generalize (lg_sl ([.ref h, .ref tx, .int 0]) ++ List.replicate (3 - (lg_sl ([.ref h, .ref tx, .int 0])).length) Slot.unset).toArray = ls at hl ⊢
  have hl : lv_has ls 3 [(0, .ref h), (1, .ref tx), (2, .int 0)] := hl
  refine lv_iload_n hx hb dX3_readRest_0 rfl (lv_at hl 2 rfl) ?_
  refine lv_if_ne (x := 0) (tgt := 18) hx hb dX3_readRest_1 (by decide) (fun c1 => absurd c1 (by decide)) (fun c1 => ?_)
  refine lv_aload_n hx hb dX3_readRest_4 rfl (lv_at hl 0 rfl) ?_
  refine lv_aload_n hx hb dX3_readRest_5 rfl (lv_at hl 1 rfl) ?_
  refine lv_iconst (v := 1) hx hb dX3_readRest_6 (by decide) ?_
  refine lv_bipush (v := 7) hx hb dX3_readRest_7 (by decide) ?_
  have hPc := hP.sub (ws' := (c_X7_readNumber k tx qb n a w2 w3 w4 w5 w6 f 1 7)) [1, 2] rfl
  have hDc := hD.sub (ws' := (c_X7_readNumber k tx qb n a w2 w3 w4 w5 w6 f 1 7)) [1, 2] (by decide +kernel) rfl
  refine cl_i (w1 := w_X7_readNumber k tx qb n a w2 w3 w4 w5 w6 f 1 7) (wr := [(h, .inr (3, [.int ni, .int ye, .int ag, .int l4, .int l5]))]) (va_runV (As := [.int 1, .int 7]) (rest := [.ref h]) ⟨hx, hb, hml, hown, hts⟩ (X7_readNumber l D k s.heap.size tx qb n a w2 w3 w4 w5 w6 f 1 7 (hn) (ha)) (cwV 2 hts gX3_readRest_X7_readNumber rfl rfl rfl (by decide +kernel) ⟨Nat.le_of_ble_eq_true rfl, Nat.le_of_ble_eq_true rfl⟩) ⟨PR.blind _ _ _ _ _, va_recv hG.1 hP (ci := 7) (q0 := 1) rfl rfl, PR.pre hPc hDc hG [.ref tx, .int 1, .int 7]⟩ rfl rfl hl.1 rfl (lv_room (Nat.le_of_ble_eq_true rfl)) dX3_readRest_9 ⟨Nat.le_of_ble_eq_true rfl, Nat.le_of_ble_eq_true rfl⟩) hP hD hS hA [1, 2] [0] rfl rfl (by decide +kernel) (by decide +kernel) (fun r u H locs hq hP hD hS => ?_)
  obtain ⟨zu2, zu3, zu4, zu5⟩ := u
  generalize r = y6 at hq ⊢
  have hq : zu2 = rn (pB f) n a ∧ zu3 = rn (pR f 48 57) n zu2 ∧ y6 = dg3 f zu2 (zu3 - zu2) ∧ zu4 = nbF w4 (zu3 - zu2) y6 1 7 ∧ zu5 = nbA w4 w5 (zu3 - zu2) y6 1 7 zu2 := hq
  obtain ⟨rfl, rfl, rfl, rfl, rfl⟩ := hq
  have hP : va_P D vwCl [(h, .inr (3, [.int ni, .int ye, .int ag, .int l4, .int l5])), (tx, .inr (7, [.ref qb, .int (nI n), .int w2, .int (nI (nS f n a)), .int (nF f n a w4 1 7), .int (nA f n a w4 w5 1 7), .int w6, .int (nI (nE f n a))])), (qb, .inl (k 0, 500, .inl f))] H := hP
  have hD : va_D A [(h, .inr (3, [.int ni, .int ye, .int ag, .int l4, .int l5])), (tx, .inr (7, [.ref qb, .int (nI n), .int w2, .int (nI (nS f n a)), .int (nF f n a w4 1 7), .int (nA f n a w4 w5 1 7), .int w6, .int (nI (nE f n a))])), (qb, .inl (k 0, 500, .inl f))] := hD
  have hnE : nE f n a ≤ n := nE_le (by first | omega | exact hnp _)
  refine tp_i (y := nV f n a) rfl ?_
  refine va_put (D := D) (ci := 3) (v := .int (nV f n a)) (ty := .int) (C := RX3) (T := TX3) (N := 5) hx hb hts hi3 tyX3 tyX3_ok nmX3 hown hG.1 hP hD hS 0 rfl rfl 0 (by decide) (hts (.fieldLink RX3 9 "SleptMatters$Law" "nights" "I") (List.mem_cons_of_mem _ (List.mem_append_left _ (List.mem_append_left _ (List.mem_append_left _ (List.mem_of_getElem? (i := 0) rfl)))))) (fun _ h9 => h9) rfl (by decide +kernel) rfl rfl (Nat.le_of_ble_eq_true rfl) dX3_readRest_12 (fun H locs hP hD hS => ?_)
  have hP : va_P D vwCl [(h, .inr (3, [.int (nV f n a), .int ye, .int ag, .int l4, .int l5])), (tx, .inr (7, [.ref qb, .int (nI n), .int w2, .int (nI (nS f n a)), .int (nF f n a w4 1 7), .int (nA f n a w4 w5 1 7), .int w6, .int (nI (nE f n a))])), (qb, .inl (k 0, 500, .inl f))] H := hP
  have hD : va_D A [(h, .inr (3, [.int (nV f n a), .int ye, .int ag, .int l4, .int l5])), (tx, .inr (7, [.ref qb, .int (nI n), .int w2, .int (nI (nS f n a)), .int (nF f n a w4 1 7), .int (nA f n a w4 w5 1 7), .int w6, .int (nI (nE f n a))])), (qb, .inl (k 0, 500, .inl f))] := hD
  refine lv_goto (tgt := 51) hx hb dX3_readRest_15 (by decide) ?_
  have hP9 := hP.sub (ws' := [(h, .inr (3, [.int (nV f n a), .int ye, .int ag, .int l4, .int l5])), (tx, .inr (7, [.ref qb, .int (nI n), .int w2, .int (nI (nS f n a)), .int (nF f n a w4 1 7), .int (nA f n a w4 w5 1 7), .int w6, .int (nI (nE f n a))])), (qb, .inl (k 0, 500, .inl f))]) [0, 1, 2] rfl
  have hD9 := hD.sub (ws' := [(h, .inr (3, [.int (nV f n a), .int ye, .int ag, .int l4, .int l5])), (tx, .inr (7, [.ref qb, .int (nI n), .int w2, .int (nI (nS f n a)), .int (nF f n a w4 1 7), .int (nA f n a w4 w5 1 7), .int w6, .int (nI (nE f n a))])), (qb, .inl (k 0, 500, .inl f))]) [0, 1, 2] (by decide +kernel) rfl
  exact W.vret hx hb hr (fun t9 ht _ => ⟨⟨(), rfl, trivial, by rw [ht]; exact hP9, hD9⟩, hS.F ht⟩) hS.2.2 dX3_readRest_51

abbrev c_X3_rr1 (k : Nat → ClassId) (h : Nat) (ni : Int32) (ye : Int32) (ag : Int32) (l4 : Int32) (l5 : Int32) (tx : Nat) (qb : Nat) (n : Nat) (a : Nat) (w2 : Int32) (w3 : Int32) (w4 : Int32) (w5 : Int32) (w6 : Int32) (f : Nat → Int32) : va_W := [(h, .inr (3, [.int ni, .int ye, .int ag, .int l4, .int l5])), (tx, .inr (7, [.ref qb, .int (nI n), .int w2, .int w3, .int w4, .int w5, .int w6, .int (nI a)])), (qb, .inl (k 0, 500, .inl f))]
abbrev r_X3_rr1 : Room := { frames := 3, cells := 0, slots := 0, locals := 66 }
def w_X3_rr1 (k : Nat → ClassId) (h : Nat) (ni : Int32) (ye : Int32) (ag : Int32) (l4 : Int32) (l5 : Int32) (tx : Nat) (qb : Nat) (n : Nat) (a : Nat) (w2 : Int32) (w3 : Int32) (w4 : Int32) (w5 : Int32) (w6 : Int32) (f : Nat → Int32) : Unit → va_W := fun _ => [(h, .inr (3, [.int ni, .int (nV f n a), .int ag, .int l4, .int l5])), (tx, .inr (7, [.ref qb, .int (nI n), .int w2, .int (nI (nS f n a)), .int (nF f n a w4 0 7), .int (nA f n a w4 w5 0 7), .int w6, .int (nI (nE f n a))])), (qb, .inl (k 0, 500, .inl f))]
def p_X3_rr1 (k : Nat → ClassId) (h : Nat) (ni : Int32) (ye : Int32) (ag : Int32) (l4 : Int32) (l5 : Int32) (tx : Nat) (qb : Nat) (n : Nat) (a : Nat) (w2 : Int32) (w3 : Int32) (w4 : Int32) (w5 : Int32) (w6 : Int32) (f : Nat → Int32) : Unit → Prop := fun (u : Unit) => True
abbrev q_X3_rr1 (D : va_G) (k : Nat → ClassId) (h : Nat) (ni : Int32) (ye : Int32) (ag : Int32) (l4 : Int32) (l5 : Int32) (tx : Nat) (qb : Nat) (n : Nat) (a : Nat) (w2 : Int32) (w3 : Int32) (w4 : Int32) (w5 : Int32) (w6 : Int32) (f : Nat → Int32) (A : Nat → Prop) : Array Value → State → Outcome → State → Prop := va_Qv (p_X3_rr1 k h ni ye ag l4 l5 tx qb n a w2 w3 w4 w5 w6 f) (fun u9 t9 => BO D (w_X3_rr1 k h ni ye ag l4 l5 tx qb n a w2 w3 w4 w5 w6 f u9) A t9) A
set_option maxHeartbeats 2000000 in
set_option maxRecDepth 100000 in
theorem X3_rr1 (l : Launch) (D : va_G) (k : Nat → ClassId) (sz : Nat) (h : Nat) (ni : Int32) (ye : Int32) (ag : Int32) (l4 : Int32) (l5 : Int32) (tx : Nat) (qb : Nat) (n : Nat) (a : Nat) (w2 : Int32) (w3 : Int32) (w4 : Int32) (w5 : Int32) (w6 : Int32) (f : Nat → Int32) (hn : n ≤ 500) (ha : a ≤ n) : Met l yX3_readRest wsX3_readRest r_X3_rr1 (va_Pc [.ref h, .ref tx, .int 1] (PR D k (c_X3_rr1 k h ni ye ag l4 l5 tx qb n a w2 w3 w4 w5 w6 f) sz)) (q_X3_rr1 D k h ni ye ag l4 l5 tx qb n a w2 w3 w4 w5 w6 f (va_A (c_X3_rr1 k h ni ye ag l4 l5 tx qb n a w2 w3 w4 w5 w6 f) sz)) 0 0 (va_A (c_X3_rr1 k h ni ye ag l4 l5 tx qb n a w2 w3 w4 w5 w6 f) sz) := by
  refine Met.ofW (cc := cX3_readRest) (maxL := 3) (ret := none) (by decide) rfl ?_
  intro p e s m args below meth c s₁ B hml hv
  obtain ⟨rfl, hsz, hP, hG, hD0⟩ := hv
  have hx := B.exec
  have hb := B.bytes
  have hr := B.returns
  have hts := atoms_spec (ws := wsX3_readRest) B.pre
  have hown : s.vm.findClass RX3 = some m.cls := findClass_of_methodNamed B.named
  have hlocks := B.notSynchronized
  have hi3 : ∀ w ∈ wsX30, w ∈ wsX3_readRest := fun _ h => List.mem_cons_of_mem _ (List.mem_append_left _ (List.mem_append_right _ h))
  have hi7 : ∀ w ∈ wsX70, w ∈ wsX3_readRest := fun _ h => List.mem_cons_of_mem _ (List.mem_append_right _ h)
  subst hsz
  have hD := hD0.self (sz := s.heap.size)
  generalize hAe : va_A (c_X3_rr1 k h ni ye ag l4 l5 tx qb n a w2 w3 w4 w5 w6 f) s.heap.size = A at hD ⊢
  have hA : ∀ q : Nat, s.heap.size ≤ q → A q := fun q h => by rw [← hAe]; exact Or.inr h
  have hS : va_S A s.heap s.heap [] := va_S.rf
  have hP : va_P D vwCl [(h, .inr (3, [.int ni, .int ye, .int ag, .int l4, .int l5])), (tx, .inr (7, [.ref qb, .int (nI n), .int w2, .int w3, .int w4, .int w5, .int w6, .int (nI a)])), (qb, .inl (k 0, 500, .inl f))] s.heap := hP
  have hD : va_D A [(h, .inr (3, [.int ni, .int ye, .int ag, .int l4, .int l5])), (tx, .inr (7, [.ref qb, .int (nI n), .int w2, .int w3, .int w4, .int w5, .int w6, .int (nI a)])), (qb, .inl (k 0, 500, .inl f))] := hD
  have hl := lv_entry ([.ref h, .ref tx, .int 1]) (n := 3) (Nat.le_of_ble_eq_true rfl)
  rw [lg_entry_eq]
  generalize (lg_sl ([.ref h, .ref tx, .int 1]) ++ List.replicate (3 - (lg_sl ([.ref h, .ref tx, .int 1])).length) Slot.unset).toArray = ls at hl ⊢
  have hl : lv_has ls 3 [(0, .ref h), (1, .ref tx), (2, .int 1)] := hl
  refine lv_iload_n hx hb dX3_readRest_0 rfl (lv_at hl 2 rfl) ?_
  refine lv_if_ne (x := 1) (tgt := 18) hx hb dX3_readRest_1 (by decide) (fun c1 => ?_) (fun c1 => absurd c1 (by decide))
  refine lv_iload_n hx hb dX3_readRest_18 rfl (lv_at hl 2 rfl) ?_
  refine lv_iconst (v := 1) hx hb dX3_readRest_19 (by decide) ?_
  refine lv_icmp_ne (x := 1) (y := 1) (tgt := 37) hx hb dX3_readRest_20 (by decide) (fun c2 => absurd c2 (by decide)) (fun c2 => ?_)
  refine lv_aload_n hx hb dX3_readRest_23 rfl (lv_at hl 0 rfl) ?_
  refine lv_aload_n hx hb dX3_readRest_24 rfl (lv_at hl 1 rfl) ?_
  refine lv_iconst (v := 0) hx hb dX3_readRest_25 (by decide) ?_
  refine lv_bipush (v := 7) hx hb dX3_readRest_26 (by decide) ?_
  have hPc := hP.sub (ws' := (c_X7_readNumber k tx qb n a w2 w3 w4 w5 w6 f 0 7)) [1, 2] rfl
  have hDc := hD.sub (ws' := (c_X7_readNumber k tx qb n a w2 w3 w4 w5 w6 f 0 7)) [1, 2] (by decide +kernel) rfl
  refine cl_i (w1 := w_X7_readNumber k tx qb n a w2 w3 w4 w5 w6 f 0 7) (wr := [(h, .inr (3, [.int ni, .int ye, .int ag, .int l4, .int l5]))]) (va_runV (As := [.int 0, .int 7]) (rest := [.ref h]) ⟨hx, hb, hml, hown, hts⟩ (X7_readNumber l D k s.heap.size tx qb n a w2 w3 w4 w5 w6 f 0 7 (hn) (ha)) (cwV 2 hts gX3_readRest_X7_readNumber rfl rfl rfl (by decide +kernel) ⟨Nat.le_of_ble_eq_true rfl, Nat.le_of_ble_eq_true rfl⟩) ⟨PR.blind _ _ _ _ _, va_recv hG.1 hP (ci := 7) (q0 := 1) rfl rfl, PR.pre hPc hDc hG [.ref tx, .int 0, .int 7]⟩ rfl rfl hl.1 rfl (lv_room (Nat.le_of_ble_eq_true rfl)) dX3_readRest_28 ⟨Nat.le_of_ble_eq_true rfl, Nat.le_of_ble_eq_true rfl⟩) hP hD hS hA [1, 2] [0] rfl rfl (by decide +kernel) (by decide +kernel) (fun r u H locs hq hP hD hS => ?_)
  obtain ⟨zu3, zu4, zu5, zu6⟩ := u
  generalize r = y7 at hq ⊢
  have hq : zu3 = rn (pB f) n a ∧ zu4 = rn (pR f 48 57) n zu3 ∧ y7 = dg3 f zu3 (zu4 - zu3) ∧ zu5 = nbF w4 (zu4 - zu3) y7 0 7 ∧ zu6 = nbA w4 w5 (zu4 - zu3) y7 0 7 zu3 := hq
  obtain ⟨rfl, rfl, rfl, rfl, rfl⟩ := hq
  have hP : va_P D vwCl [(h, .inr (3, [.int ni, .int ye, .int ag, .int l4, .int l5])), (tx, .inr (7, [.ref qb, .int (nI n), .int w2, .int (nI (nS f n a)), .int (nF f n a w4 0 7), .int (nA f n a w4 w5 0 7), .int w6, .int (nI (nE f n a))])), (qb, .inl (k 0, 500, .inl f))] H := hP
  have hD : va_D A [(h, .inr (3, [.int ni, .int ye, .int ag, .int l4, .int l5])), (tx, .inr (7, [.ref qb, .int (nI n), .int w2, .int (nI (nS f n a)), .int (nF f n a w4 0 7), .int (nA f n a w4 w5 0 7), .int w6, .int (nI (nE f n a))])), (qb, .inl (k 0, 500, .inl f))] := hD
  have hnE : nE f n a ≤ n := nE_le (by first | omega | exact hnp _)
  refine tp_i (y := nV f n a) rfl ?_
  refine va_put (D := D) (ci := 3) (v := .int (nV f n a)) (ty := .int) (C := RX3) (T := TX3) (N := 5) hx hb hts hi3 tyX3 tyX3_ok nmX3 hown hG.1 hP hD hS 0 rfl rfl 1 (by decide) (hts (.fieldLink RX3 15 "SleptMatters$Law" "yes" "I") (List.mem_cons_of_mem _ (List.mem_append_left _ (List.mem_append_left _ (List.mem_append_left _ (List.mem_of_getElem? (i := 1) rfl)))))) (fun _ h9 => h9) rfl (by decide +kernel) rfl rfl (Nat.le_of_ble_eq_true rfl) dX3_readRest_31 (fun H locs hP hD hS => ?_)
  have hP : va_P D vwCl [(h, .inr (3, [.int ni, .int (nV f n a), .int ag, .int l4, .int l5])), (tx, .inr (7, [.ref qb, .int (nI n), .int w2, .int (nI (nS f n a)), .int (nF f n a w4 0 7), .int (nA f n a w4 w5 0 7), .int w6, .int (nI (nE f n a))])), (qb, .inl (k 0, 500, .inl f))] H := hP
  have hD : va_D A [(h, .inr (3, [.int ni, .int (nV f n a), .int ag, .int l4, .int l5])), (tx, .inr (7, [.ref qb, .int (nI n), .int w2, .int (nI (nS f n a)), .int (nF f n a w4 0 7), .int (nA f n a w4 w5 0 7), .int w6, .int (nI (nE f n a))])), (qb, .inl (k 0, 500, .inl f))] := hD
  refine lv_goto (tgt := 51) hx hb dX3_readRest_34 (by decide) ?_
  have hP9 := hP.sub (ws' := [(h, .inr (3, [.int ni, .int (nV f n a), .int ag, .int l4, .int l5])), (tx, .inr (7, [.ref qb, .int (nI n), .int w2, .int (nI (nS f n a)), .int (nF f n a w4 0 7), .int (nA f n a w4 w5 0 7), .int w6, .int (nI (nE f n a))])), (qb, .inl (k 0, 500, .inl f))]) [0, 1, 2] rfl
  have hD9 := hD.sub (ws' := [(h, .inr (3, [.int ni, .int (nV f n a), .int ag, .int l4, .int l5])), (tx, .inr (7, [.ref qb, .int (nI n), .int w2, .int (nI (nS f n a)), .int (nF f n a w4 0 7), .int (nA f n a w4 w5 0 7), .int w6, .int (nI (nE f n a))])), (qb, .inl (k 0, 500, .inl f))]) [0, 1, 2] (by decide +kernel) rfl
  exact W.vret hx hb hr (fun t9 ht _ => ⟨⟨(), rfl, trivial, by rw [ht]; exact hP9, hD9⟩, hS.F ht⟩) hS.2.2 dX3_readRest_51

abbrev c_X3_rr2 (k : Nat → ClassId) (h : Nat) (ni : Int32) (ye : Int32) (ag : Int32) (l4 : Int32) (l5 : Int32) (tx : Nat) (qb : Nat) (n : Nat) (a : Nat) (w2 : Int32) (w3 : Int32) (w4 : Int32) (w5 : Int32) (w6 : Int32) (f : Nat → Int32) : va_W := [(h, .inr (3, [.int ni, .int ye, .int ag, .int l4, .int l5])), (tx, .inr (7, [.ref qb, .int (nI n), .int w2, .int w3, .int w4, .int w5, .int w6, .int (nI a)])), (qb, .inl (k 0, 500, .inl f))]
abbrev r_X3_rr2 : Room := { frames := 0, cells := 0, slots := 0, locals := 0 }
def w_X3_rr2 (k : Nat → ClassId) (h : Nat) (ni : Int32) (ye : Int32) (ag : Int32) (l4 : Int32) (l5 : Int32) (tx : Nat) (qb : Nat) (n : Nat) (a : Nat) (w2 : Int32) (w3 : Int32) (w4 : Int32) (w5 : Int32) (w6 : Int32) (f : Nat → Int32) : Unit → va_W := fun _ => [(h, .inr (3, [.int ni, .int ye, .int 1, .int l4, .int l5])), (tx, .inr (7, [.ref qb, .int (nI n), .int w2, .int w3, .int w4, .int w5, .int w6, .int (nI a)])), (qb, .inl (k 0, 500, .inl f))]
def p_X3_rr2 (k : Nat → ClassId) (h : Nat) (ni : Int32) (ye : Int32) (ag : Int32) (l4 : Int32) (l5 : Int32) (tx : Nat) (qb : Nat) (n : Nat) (a : Nat) (w2 : Int32) (w3 : Int32) (w4 : Int32) (w5 : Int32) (w6 : Int32) (f : Nat → Int32) : Unit → Prop := fun (u : Unit) => True
abbrev q_X3_rr2 (D : va_G) (k : Nat → ClassId) (h : Nat) (ni : Int32) (ye : Int32) (ag : Int32) (l4 : Int32) (l5 : Int32) (tx : Nat) (qb : Nat) (n : Nat) (a : Nat) (w2 : Int32) (w3 : Int32) (w4 : Int32) (w5 : Int32) (w6 : Int32) (f : Nat → Int32) (A : Nat → Prop) : Array Value → State → Outcome → State → Prop := va_Qv (p_X3_rr2 k h ni ye ag l4 l5 tx qb n a w2 w3 w4 w5 w6 f) (fun u9 t9 => BO D (w_X3_rr2 k h ni ye ag l4 l5 tx qb n a w2 w3 w4 w5 w6 f u9) A t9) A
set_option maxHeartbeats 2000000 in
set_option maxRecDepth 100000 in
theorem X3_rr2 (l : Launch) (D : va_G) (k : Nat → ClassId) (sz : Nat) (h : Nat) (ni : Int32) (ye : Int32) (ag : Int32) (l4 : Int32) (l5 : Int32) (tx : Nat) (qb : Nat) (n : Nat) (a : Nat) (w2 : Int32) (w3 : Int32) (w4 : Int32) (w5 : Int32) (w6 : Int32) (f : Nat → Int32) (hn : n ≤ 500) (ha : a ≤ n) : Met l yX3_readRest wsX3_readRest r_X3_rr2 (va_Pc [.ref h, .ref tx, .int 2] (PR D k (c_X3_rr2 k h ni ye ag l4 l5 tx qb n a w2 w3 w4 w5 w6 f) sz)) (q_X3_rr2 D k h ni ye ag l4 l5 tx qb n a w2 w3 w4 w5 w6 f (va_A (c_X3_rr2 k h ni ye ag l4 l5 tx qb n a w2 w3 w4 w5 w6 f) sz)) 0 0 (va_A (c_X3_rr2 k h ni ye ag l4 l5 tx qb n a w2 w3 w4 w5 w6 f) sz) := by
  refine Met.ofW (cc := cX3_readRest) (maxL := 3) (ret := none) (by decide) rfl ?_
  intro p e s m args below meth c s₁ B hml hv
  obtain ⟨rfl, hsz, hP, hG, hD0⟩ := hv
  have hx := B.exec
  have hb := B.bytes
  have hr := B.returns
  have hts := atoms_spec (ws := wsX3_readRest) B.pre
  have hown : s.vm.findClass RX3 = some m.cls := findClass_of_methodNamed B.named
  have hlocks := B.notSynchronized
  have hi3 : ∀ w ∈ wsX30, w ∈ wsX3_readRest := fun _ h => List.mem_cons_of_mem _ (List.mem_append_left _ (List.mem_append_right _ h))
  have hi7 : ∀ w ∈ wsX70, w ∈ wsX3_readRest := fun _ h => List.mem_cons_of_mem _ (List.mem_append_right _ h)
  subst hsz
  have hD := hD0.self (sz := s.heap.size)
  generalize hAe : va_A (c_X3_rr2 k h ni ye ag l4 l5 tx qb n a w2 w3 w4 w5 w6 f) s.heap.size = A at hD ⊢
  have hA : ∀ q : Nat, s.heap.size ≤ q → A q := fun q h => by rw [← hAe]; exact Or.inr h
  have hS : va_S A s.heap s.heap [] := va_S.rf
  have hP : va_P D vwCl [(h, .inr (3, [.int ni, .int ye, .int ag, .int l4, .int l5])), (tx, .inr (7, [.ref qb, .int (nI n), .int w2, .int w3, .int w4, .int w5, .int w6, .int (nI a)])), (qb, .inl (k 0, 500, .inl f))] s.heap := hP
  have hD : va_D A [(h, .inr (3, [.int ni, .int ye, .int ag, .int l4, .int l5])), (tx, .inr (7, [.ref qb, .int (nI n), .int w2, .int w3, .int w4, .int w5, .int w6, .int (nI a)])), (qb, .inl (k 0, 500, .inl f))] := hD
  have hl := lv_entry ([.ref h, .ref tx, .int 2]) (n := 3) (Nat.le_of_ble_eq_true rfl)
  rw [lg_entry_eq]
  generalize (lg_sl ([.ref h, .ref tx, .int 2]) ++ List.replicate (3 - (lg_sl ([.ref h, .ref tx, .int 2])).length) Slot.unset).toArray = ls at hl ⊢
  have hl : lv_has ls 3 [(0, .ref h), (1, .ref tx), (2, .int 2)] := hl
  refine lv_iload_n hx hb dX3_readRest_0 rfl (lv_at hl 2 rfl) ?_
  refine lv_if_ne (x := 2) (tgt := 18) hx hb dX3_readRest_1 (by decide) (fun c1 => ?_) (fun c1 => absurd c1 (by decide))
  refine lv_iload_n hx hb dX3_readRest_18 rfl (lv_at hl 2 rfl) ?_
  refine lv_iconst (v := 1) hx hb dX3_readRest_19 (by decide) ?_
  refine lv_icmp_ne (x := 2) (y := 1) (tgt := 37) hx hb dX3_readRest_20 (by decide) (fun c2 => ?_) (fun c2 => absurd c2 (by decide))
  refine lv_aload_n hx hb dX3_readRest_37 rfl (lv_at hl 0 rfl) ?_
  refine lv_iload_n hx hb dX3_readRest_38 rfl (lv_at hl 2 rfl) ?_
  refine lv_iconst (v := 2) hx hb dX3_readRest_39 (by decide) ?_
  refine lv_icmp_ne (x := 2) (y := 2) (tgt := 47) hx hb dX3_readRest_40 (by decide) (fun c3 => absurd c3 (by decide)) (fun c3 => ?_)
  refine lv_iconst (v := 1) hx hb dX3_readRest_43 (by decide) ?_
  refine lv_goto (tgt := 48) hx hb dX3_readRest_44 (by decide) ?_
  refine va_put (D := D) (ci := 3) (v := .int 1) (ty := .boolean) (C := RX3) (T := TX3) (N := 5) hx hb hts hi3 tyX3 tyX3_ok nmX3 hown hG.1 hP hD hS 0 rfl rfl 2 (by decide) (hts (.fieldLink RX3 18 "SleptMatters$Law" "again" "Z") (List.mem_cons_of_mem _ (List.mem_append_left _ (List.mem_append_left _ (List.mem_append_left _ (List.mem_of_getElem? (i := 2) rfl)))))) (fun _ h9 => h9) rfl (by decide +kernel) rfl rfl (Nat.le_of_ble_eq_true rfl) dX3_readRest_48 (fun H locs hP hD hS => ?_)
  have hP : va_P D vwCl [(h, .inr (3, [.int ni, .int ye, .int 1, .int l4, .int l5])), (tx, .inr (7, [.ref qb, .int (nI n), .int w2, .int w3, .int w4, .int w5, .int w6, .int (nI a)])), (qb, .inl (k 0, 500, .inl f))] H := hP
  have hD : va_D A [(h, .inr (3, [.int ni, .int ye, .int 1, .int l4, .int l5])), (tx, .inr (7, [.ref qb, .int (nI n), .int w2, .int w3, .int w4, .int w5, .int w6, .int (nI a)])), (qb, .inl (k 0, 500, .inl f))] := hD
  have hP9 := hP.sub (ws' := [(h, .inr (3, [.int ni, .int ye, .int 1, .int l4, .int l5])), (tx, .inr (7, [.ref qb, .int (nI n), .int w2, .int w3, .int w4, .int w5, .int w6, .int (nI a)])), (qb, .inl (k 0, 500, .inl f))]) [0, 1, 2] rfl
  have hD9 := hD.sub (ws' := [(h, .inr (3, [.int ni, .int ye, .int 1, .int l4, .int l5])), (tx, .inr (7, [.ref qb, .int (nI n), .int w2, .int w3, .int w4, .int w5, .int w6, .int (nI a)])), (qb, .inl (k 0, 500, .inl f))]) [0, 1, 2] (by decide +kernel) rfl
  exact W.vret hx hb hr (fun t9 ht _ => ⟨⟨(), rfl, trivial, by rw [ht]; exact hP9, hD9⟩, hS.F ht⟩) hS.2.2 dX3_readRest_51

abbrev c_X3_rr3 (k : Nat → ClassId) (h : Nat) (ni : Int32) (ye : Int32) (ag : Int32) (l4 : Int32) (l5 : Int32) (tx : Nat) (qb : Nat) (n : Nat) (a : Nat) (w2 : Int32) (w3 : Int32) (w4 : Int32) (w5 : Int32) (w6 : Int32) (f : Nat → Int32) : va_W := [(h, .inr (3, [.int ni, .int ye, .int ag, .int l4, .int l5])), (tx, .inr (7, [.ref qb, .int (nI n), .int w2, .int w3, .int w4, .int w5, .int w6, .int (nI a)])), (qb, .inl (k 0, 500, .inl f))]
abbrev r_X3_rr3 : Room := { frames := 0, cells := 0, slots := 0, locals := 0 }
def w_X3_rr3 (k : Nat → ClassId) (h : Nat) (ni : Int32) (ye : Int32) (ag : Int32) (l4 : Int32) (l5 : Int32) (tx : Nat) (qb : Nat) (n : Nat) (a : Nat) (w2 : Int32) (w3 : Int32) (w4 : Int32) (w5 : Int32) (w6 : Int32) (f : Nat → Int32) : Unit → va_W := fun _ => [(h, .inr (3, [.int ni, .int ye, .int 0, .int l4, .int l5])), (tx, .inr (7, [.ref qb, .int (nI n), .int w2, .int w3, .int w4, .int w5, .int w6, .int (nI a)])), (qb, .inl (k 0, 500, .inl f))]
def p_X3_rr3 (k : Nat → ClassId) (h : Nat) (ni : Int32) (ye : Int32) (ag : Int32) (l4 : Int32) (l5 : Int32) (tx : Nat) (qb : Nat) (n : Nat) (a : Nat) (w2 : Int32) (w3 : Int32) (w4 : Int32) (w5 : Int32) (w6 : Int32) (f : Nat → Int32) : Unit → Prop := fun (u : Unit) => True
abbrev q_X3_rr3 (D : va_G) (k : Nat → ClassId) (h : Nat) (ni : Int32) (ye : Int32) (ag : Int32) (l4 : Int32) (l5 : Int32) (tx : Nat) (qb : Nat) (n : Nat) (a : Nat) (w2 : Int32) (w3 : Int32) (w4 : Int32) (w5 : Int32) (w6 : Int32) (f : Nat → Int32) (A : Nat → Prop) : Array Value → State → Outcome → State → Prop := va_Qv (p_X3_rr3 k h ni ye ag l4 l5 tx qb n a w2 w3 w4 w5 w6 f) (fun u9 t9 => BO D (w_X3_rr3 k h ni ye ag l4 l5 tx qb n a w2 w3 w4 w5 w6 f u9) A t9) A
set_option maxHeartbeats 2000000 in
set_option maxRecDepth 100000 in
theorem X3_rr3 (l : Launch) (D : va_G) (k : Nat → ClassId) (sz : Nat) (h : Nat) (ni : Int32) (ye : Int32) (ag : Int32) (l4 : Int32) (l5 : Int32) (tx : Nat) (qb : Nat) (n : Nat) (a : Nat) (w2 : Int32) (w3 : Int32) (w4 : Int32) (w5 : Int32) (w6 : Int32) (f : Nat → Int32) (hn : n ≤ 500) (ha : a ≤ n) : Met l yX3_readRest wsX3_readRest r_X3_rr3 (va_Pc [.ref h, .ref tx, .int 3] (PR D k (c_X3_rr3 k h ni ye ag l4 l5 tx qb n a w2 w3 w4 w5 w6 f) sz)) (q_X3_rr3 D k h ni ye ag l4 l5 tx qb n a w2 w3 w4 w5 w6 f (va_A (c_X3_rr3 k h ni ye ag l4 l5 tx qb n a w2 w3 w4 w5 w6 f) sz)) 0 0 (va_A (c_X3_rr3 k h ni ye ag l4 l5 tx qb n a w2 w3 w4 w5 w6 f) sz) := by
  refine Met.ofW (cc := cX3_readRest) (maxL := 3) (ret := none) (by decide) rfl ?_
  intro p e s m args below meth c s₁ B hml hv
  obtain ⟨rfl, hsz, hP, hG, hD0⟩ := hv
  have hx := B.exec
  have hb := B.bytes
  have hr := B.returns
  have hts := atoms_spec (ws := wsX3_readRest) B.pre
  have hown : s.vm.findClass RX3 = some m.cls := findClass_of_methodNamed B.named
  have hlocks := B.notSynchronized
  have hi3 : ∀ w ∈ wsX30, w ∈ wsX3_readRest := fun _ h => List.mem_cons_of_mem _ (List.mem_append_left _ (List.mem_append_right _ h))
  have hi7 : ∀ w ∈ wsX70, w ∈ wsX3_readRest := fun _ h => List.mem_cons_of_mem _ (List.mem_append_right _ h)
  subst hsz
  have hD := hD0.self (sz := s.heap.size)
  generalize hAe : va_A (c_X3_rr3 k h ni ye ag l4 l5 tx qb n a w2 w3 w4 w5 w6 f) s.heap.size = A at hD ⊢
  have hA : ∀ q : Nat, s.heap.size ≤ q → A q := fun q h => by rw [← hAe]; exact Or.inr h
  have hS : va_S A s.heap s.heap [] := va_S.rf
  have hP : va_P D vwCl [(h, .inr (3, [.int ni, .int ye, .int ag, .int l4, .int l5])), (tx, .inr (7, [.ref qb, .int (nI n), .int w2, .int w3, .int w4, .int w5, .int w6, .int (nI a)])), (qb, .inl (k 0, 500, .inl f))] s.heap := hP
  have hD : va_D A [(h, .inr (3, [.int ni, .int ye, .int ag, .int l4, .int l5])), (tx, .inr (7, [.ref qb, .int (nI n), .int w2, .int w3, .int w4, .int w5, .int w6, .int (nI a)])), (qb, .inl (k 0, 500, .inl f))] := hD
  have hl := lv_entry ([.ref h, .ref tx, .int 3]) (n := 3) (Nat.le_of_ble_eq_true rfl)
  rw [lg_entry_eq]
  generalize (lg_sl ([.ref h, .ref tx, .int 3]) ++ List.replicate (3 - (lg_sl ([.ref h, .ref tx, .int 3])).length) Slot.unset).toArray = ls at hl ⊢
  have hl : lv_has ls 3 [(0, .ref h), (1, .ref tx), (2, .int 3)] := hl
  refine lv_iload_n hx hb dX3_readRest_0 rfl (lv_at hl 2 rfl) ?_
  refine lv_if_ne (x := 3) (tgt := 18) hx hb dX3_readRest_1 (by decide) (fun c1 => ?_) (fun c1 => absurd c1 (by decide))
  refine lv_iload_n hx hb dX3_readRest_18 rfl (lv_at hl 2 rfl) ?_
  refine lv_iconst (v := 1) hx hb dX3_readRest_19 (by decide) ?_
  refine lv_icmp_ne (x := 3) (y := 1) (tgt := 37) hx hb dX3_readRest_20 (by decide) (fun c2 => ?_) (fun c2 => absurd c2 (by decide))
  refine lv_aload_n hx hb dX3_readRest_37 rfl (lv_at hl 0 rfl) ?_
  refine lv_iload_n hx hb dX3_readRest_38 rfl (lv_at hl 2 rfl) ?_
  refine lv_iconst (v := 2) hx hb dX3_readRest_39 (by decide) ?_
  refine lv_icmp_ne (x := 3) (y := 2) (tgt := 47) hx hb dX3_readRest_40 (by decide) (fun c3 => ?_) (fun c3 => absurd c3 (by decide))
  refine lv_iconst (v := 0) hx hb dX3_readRest_47 (by decide) ?_
  refine va_put (D := D) (ci := 3) (v := .int 0) (ty := .boolean) (C := RX3) (T := TX3) (N := 5) hx hb hts hi3 tyX3 tyX3_ok nmX3 hown hG.1 hP hD hS 0 rfl rfl 2 (by decide) (hts (.fieldLink RX3 18 "SleptMatters$Law" "again" "Z") (List.mem_cons_of_mem _ (List.mem_append_left _ (List.mem_append_left _ (List.mem_append_left _ (List.mem_of_getElem? (i := 2) rfl)))))) (fun _ h9 => h9) rfl (by decide +kernel) rfl rfl (Nat.le_of_ble_eq_true rfl) dX3_readRest_48 (fun H locs hP hD hS => ?_)
  have hP : va_P D vwCl [(h, .inr (3, [.int ni, .int ye, .int 0, .int l4, .int l5])), (tx, .inr (7, [.ref qb, .int (nI n), .int w2, .int w3, .int w4, .int w5, .int w6, .int (nI a)])), (qb, .inl (k 0, 500, .inl f))] H := hP
  have hD : va_D A [(h, .inr (3, [.int ni, .int ye, .int 0, .int l4, .int l5])), (tx, .inr (7, [.ref qb, .int (nI n), .int w2, .int w3, .int w4, .int w5, .int w6, .int (nI a)])), (qb, .inl (k 0, 500, .inl f))] := hD
  have hP9 := hP.sub (ws' := [(h, .inr (3, [.int ni, .int ye, .int 0, .int l4, .int l5])), (tx, .inr (7, [.ref qb, .int (nI n), .int w2, .int w3, .int w4, .int w5, .int w6, .int (nI a)])), (qb, .inl (k 0, 500, .inl f))]) [0, 1, 2] rfl
  have hD9 := hD.sub (ws' := [(h, .inr (3, [.int ni, .int ye, .int 0, .int l4, .int l5])), (tx, .inr (7, [.ref qb, .int (nI n), .int w2, .int w3, .int w4, .int w5, .int w6, .int (nI a)])), (qb, .inl (k 0, 500, .inl f))]) [0, 1, 2] (by decide +kernel) rfl
  exact W.vret hx hb hr (fun t9 ht _ => ⟨⟨(), rfl, trivial, by rw [ht]; exact hP9, hD9⟩, hS.F ht⟩) hS.2.2 dX3_readRest_51

abbrev c_X3_readClause (k : Nat → ClassId) (z : Nat → Nat) (h : Nat) (ni : Int32) (ye : Int32) (ag : Int32) (l4 : Int32) (l5 : Int32) (tx : Nat) (qb : Nat) (n : Nat) (a : Nat) (w2 : Int32) (w3 : Int32) (w4 : Int32) (w5 : Int32) (w6 : Int32) (f : Nat → Int32) : va_W := [(h, .inr (3, [.int ni, .int ye, .int ag, .int l4, .int l5])), (tx, .inr (7, [.ref qb, .int (nI n), .int w2, .int w3, .int w4, .int w5, .int w6, .int (nI a)])), (qb, .inl (k 0, 500, .inl f))]
abbrev r_X3_readClause : Room := { frames := 6, cells := 0, slots := 0, locals := 127 }
def w_X3_readClause (k : Nat → ClassId) (z : Nat → Nat) (h : Nat) (ni : Int32) (ye : Int32) (ag : Int32) (l4 : Int32) (l5 : Int32) (tx : Nat) (qb : Nat) (n : Nat) (a : Nat) (w2 : Int32) (w3 : Int32) (w4 : Int32) (w5 : Int32) (w6 : Int32) (f : Nat → Int32) : Nat × Int32 × Int32 × Int32 × Int32 × Int32 × Int32 × Int32 × Int32 × Int32 × Int32 → va_W := fun u => match u with | (a9, x2, x3, x4, x5, x6, n9, y9, g9, m4, m5) => [(h, .inr (3, [.int n9, .int y9, .int g9, .int m4, .int m5])), (tx, .inr (7, [.ref qb, .int (nI n), .int x2, .int x3, .int x4, .int x5, .int x6, .int (nI a9)])), (qb, .inl (k 0, 500, .inl f))]
def p_X3_readClause (k : Nat → ClassId) (z : Nat → Nat) (h : Nat) (ni : Int32) (ye : Int32) (ag : Int32) (l4 : Int32) (l5 : Int32) (tx : Nat) (qb : Nat) (n : Nat) (a : Nat) (w2 : Int32) (w3 : Int32) (w4 : Int32) (w5 : Int32) (w6 : Int32) (f : Nat → Int32) : Nat × Int32 × Int32 × Int32 × Int32 × Int32 × Int32 × Int32 × Int32 × Int32 × Int32 → Prop := fun (u : Nat × Int32 × Int32 × Int32 × Int32 × Int32 × Int32 × Int32 × Int32 × Int32 × Int32) => match u with | (a9, x2, x3, x4, x5, x6, n9, y9, g9, m4, m5) => (a9, x2, x3, x4, x5, x6, n9, y9, g9, m4, m5) = LCl f n (a, w2, w3, w4, w5, w6, ni, ye, ag, l4, l5)
abbrev q_X3_readClause (D : va_G) (k : Nat → ClassId) (z : Nat → Nat) (h : Nat) (ni : Int32) (ye : Int32) (ag : Int32) (l4 : Int32) (l5 : Int32) (tx : Nat) (qb : Nat) (n : Nat) (a : Nat) (w2 : Int32) (w3 : Int32) (w4 : Int32) (w5 : Int32) (w6 : Int32) (f : Nat → Int32) (A : Nat → Prop) : Array Value → State → Outcome → State → Prop := va_Qv (p_X3_readClause k z h ni ye ag l4 l5 tx qb n a w2 w3 w4 w5 w6 f) (fun u9 t9 => BO D (w_X3_readClause k z h ni ye ag l4 l5 tx qb n a w2 w3 w4 w5 w6 f u9) A t9) A
set_option maxHeartbeats 20000000 in
set_option maxRecDepth 100000 in
theorem X3_readClause (l : Launch) (D : va_G) (k : Nat → ClassId) (sz : Nat) (z : Nat → Nat) (h : Nat) (ni : Int32) (ye : Int32) (ag : Int32) (l4 : Int32) (l5 : Int32) (tx : Nat) (qb : Nat) (n : Nat) (a : Nat) (w2 : Int32) (w3 : Int32) (w4 : Int32) (w5 : Int32) (w6 : Int32) (f : Nat → Int32) (hn : n ≤ 500) (ha : a ≤ n) : Met l yX3_readClause wsX3_readClause r_X3_readClause (va_Pc [.ref h, .ref tx] (PT D k (c_X3_readClause k z h ni ye ag l4 l5 tx qb n a w2 w3 w4 w5 w6 f) sz z)) (q_X3_readClause D k z h ni ye ag l4 l5 tx qb n a w2 w3 w4 w5 w6 f (va_A (c_X3_readClause k z h ni ye ag l4 l5 tx qb n a w2 w3 w4 w5 w6 f) sz)) 0 0 (va_A (c_X3_readClause k z h ni ye ag l4 l5 tx qb n a w2 w3 w4 w5 w6 f) sz) := by
  refine Met.ofW (cc := cX3_readClause) (maxL := 4) (ret := none) (by decide) rfl ?_
  intro p e s m args below meth c s₁ B hml hv
  obtain ⟨rfl, ⟨hsz, hP, hG, hD0⟩, hZ⟩ := hv
  have hx := B.exec
  have hb := B.bytes
  have hr := B.returns
  have hts := atoms_spec (ws := wsX3_readClause) B.pre
  have hown : s.vm.findClass RX3 = some m.cls := findClass_of_methodNamed B.named
  have hlocks := B.notSynchronized
  have hi7 : ∀ w ∈ wsX70, w ∈ wsX3_readClause := fun _ h => List.mem_cons_of_mem _ (List.mem_append_left _ (List.mem_append_right _ h))
  have hi3 : ∀ w ∈ wsX30, w ∈ wsX3_readClause := fun _ h => List.mem_cons_of_mem _ (List.mem_append_right _ h)
  subst hsz
  have hD := hD0.self (sz := s.heap.size)
  generalize hAe : va_A (c_X3_readClause k z h ni ye ag l4 l5 tx qb n a w2 w3 w4 w5 w6 f) s.heap.size = A at hD hZ ⊢
  have hA : ∀ q : Nat, s.heap.size ≤ q → A q := fun q h => by rw [← hAe]; exact Or.inr h
  have hS : va_S A s.heap s.heap [] := va_S.rf
  have hP : va_P D vwCl [(h, .inr (3, [.int ni, .int ye, .int ag, .int l4, .int l5])), (tx, .inr (7, [.ref qb, .int (nI n), .int w2, .int w3, .int w4, .int w5, .int w6, .int (nI a)])), (qb, .inl (k 0, 500, .inl f))] s.heap := hP
  have hD : va_D A [(h, .inr (3, [.int ni, .int ye, .int ag, .int l4, .int l5])), (tx, .inr (7, [.ref qb, .int (nI n), .int w2, .int w3, .int w4, .int w5, .int w6, .int (nI a)])), (qb, .inl (k 0, 500, .inl f))] := hD
  have hl := lv_entry ([.ref h, .ref tx]) (n := 4) (Nat.le_of_ble_eq_true rfl)
  rw [lg_entry_eq]
  generalize (lg_sl ([.ref h, .ref tx]) ++ List.replicate (4 - (lg_sl ([.ref h, .ref tx])).length) Slot.unset).toArray = ls at hl ⊢
  have hl : lv_has ls 4 [(0, .ref h), (1, .ref tx)] := hl
  refine lv_aload_n hx hb dX3_readClause_0 rfl (lv_at hl 1 rfl) ?_
  have hPc := hP.sub (ws' := (c_X7_readWord k tx qb n a w2 w3 w4 w5 w6 f)) [1, 2] rfl
  have hDc := hD.sub (ws' := (c_X7_readWord k tx qb n a w2 w3 w4 w5 w6 f)) [1, 2] (by decide +kernel) rfl
  refine cl_v (w1 := w_X7_readWord k tx qb n a w2 w3 w4 w5 w6 f) (wr := [(h, .inr (3, [.int ni, .int ye, .int ag, .int l4, .int l5]))]) (va_runV (As := []) (rest := []) ⟨hx, hb, hml, hown, hts⟩ (X7_readWord l D k s.heap.size tx qb n a w2 w3 w4 w5 w6 f (hn) (ha)) (cwV 0 hts gX3_readClause_X7_readWord rfl rfl rfl (by decide +kernel) ⟨Nat.le_of_ble_eq_true rfl, Nat.le_of_ble_eq_true rfl⟩) ⟨PR.blind _ _ _ _ _, va_recv hG.1 hP (ci := 7) (q0 := 1) rfl rfl, PR.pre hPc hDc hG [.ref tx]⟩ rfl rfl hl.1 rfl (lv_room (Nat.le_of_ble_eq_true rfl)) dX3_readClause_1 ⟨Nat.le_of_ble_eq_true rfl, Nat.le_of_ble_eq_true rfl⟩) hP hD hS hA [1, 2] [0] rfl rfl (by decide +kernel) (by decide +kernel) (fun u H locs hq hP hD hS => ?_)
  cases u
  have hP : va_P D vwCl [(h, .inr (3, [.int ni, .int ye, .int ag, .int l4, .int l5])), (tx, .inr (7, [.ref qb, .int (nI n), .int (nI (rn (pB f) n a)), .int w3, .int w4, .int w5, .int (nI (rn (pR f 97 122) n (rn (pB f) n a))), .int (nI (rn (pR f 97 122) n (rn (pB f) n a)))])), (qb, .inl (k 0, 500, .inl f))] H := hP
  have hD : va_D A [(h, .inr (3, [.int ni, .int ye, .int ag, .int l4, .int l5])), (tx, .inr (7, [.ref qb, .int (nI n), .int (nI (rn (pB f) n a)), .int w3, .int w4, .int w5, .int (nI (rn (pR f 97 122) n (rn (pB f) n a))), .int (nI (rn (pR f 97 122) n (rn (pB f) n a)))])), (qb, .inl (k 0, 500, .inl f))] := hD
  have hP : va_P D vwCl [(h, .inr (3, [.int ni, .int ye, .int ag, .int l4, .int l5])), (tx, .inr (7, [.ref qb, .int (nI n), .int (nI (nS f n a)), .int w3, .int w4, .int w5, .int (nI (wE f n a)), .int (nI (wE f n a))])), (qb, .inl (k 0, 500, .inl f))] H := hP
  have hD : va_D A [(h, .inr (3, [.int ni, .int ye, .int ag, .int l4, .int l5])), (tx, .inr (7, [.ref qb, .int (nI n), .int (nI (nS f n a)), .int w3, .int w4, .int w5, .int (nI (wE f n a)), .int (nI (wE f n a))])), (qb, .inl (k 0, 500, .inl f))] := hD
  refine lv_aload_n hx hb dX3_readClause_4 rfl (lv_at hl 1 rfl) ?_
  have hPc := hP.sub (ws' := (c_X3_clauseOf k z tx qb n (nS f n a) (wE f n a) (wE f n a) w3 w4 w5 f)) [1, 2] rfl
  refine vp_callSi (va_Run.run (va_runS (As := [.ref tx]) (rest := []) ⟨hx, hb, hml, hown, hts⟩ (X3_clauseOf l D k z tx qb n (nS f n a) (wE f n a) (wE f n a) w3 w4 w5 f (wE_ge) (Nat.le_trans (wE_le ha) hn)) (va_cwS 1 hts gX3_readClause_X3_clauseOf rfl rfl rfl (by decide +kernel) ⟨Nat.le_of_ble_eq_true rfl, Nat.le_of_ble_eq_true rfl⟩) ⟨PU.blind _ _ _ _ _, PU.pre hPc hG hZ hS [.ref tx]⟩ rfl rfl hl.1 rfl (lv_room (Nat.le_of_ble_eq_true rfl)) dX3_readClause_5 ⟨Nat.le_of_ble_eq_true rfl, Nat.le_of_ble_eq_true rfl⟩)) (fun r hq => ?_)
  generalize r = y1 at hq ⊢
  have hq : y1 = kdA f (nS f n a) (wE f n a) 4 := hq
  refine tp_i (y := kdA f (nS f n a) (wE f n a) 4) (hq) ?_
  rcases kd_c f (nS f n a) (wE f n a) 4 with hk | hk | hk | hk | hk
  · skip
    refine tp_i (y := (-1)) hk ?_
    refine lv_istore_n (lv' := [(2, .int (-1)), (0, .ref h), (1, .ref tx)]) hx hb dX3_readClause_8 rfl hl (by decide) rfl (fun ls hl => ?_)
    refine lv_iload_n hx hb dX3_readClause_9 rfl (lv_at hl 0 rfl) ?_
    refine lv_iconst (v := 3) hx hb dX3_readClause_10 (by decide) ?_
    refine lv_icmp_ne (x := (-1)) (y := 3) (tgt := 18) hx hb dX3_readClause_11 (by decide) (fun c2 => ?_) (fun c2 => absurd c2 (by decide))
    refine lv_iload_n hx hb dX3_readClause_18 rfl (lv_at hl 0 rfl) ?_
    refine lv_istore_n (lv' := [(3, .int (-1)), (2, .int (-1)), (0, .ref h), (1, .ref tx)]) hx hb dX3_readClause_19 rfl hl (by decide) rfl (fun ls hl => ?_)
    refine lv_iload_n hx hb dX3_readClause_20 rfl (lv_at hl 1 rfl) ?_
    refine lv_iconst (v := (-1)) hx hb dX3_readClause_21 (by decide) ?_
    refine lv_icmp_ne (x := (-1)) (y := (-1)) (tgt := 37) hx hb dX3_readClause_22 (by decide) (fun c3 => absurd c3 (by decide)) (fun c3 => ?_)
    refine lv_aload_n hx hb dX3_readClause_25 rfl (lv_at hl 3 rfl) ?_
    refine lv_iconst (v := 1) hx hb dX3_readClause_26 (by decide) ?_
    refine lv_aload_n hx hb dX3_readClause_27 rfl (lv_at hl 3 rfl) ?_
    refine va_get (D := D) (ci := 7) (v := .int (nI (nS f n a))) (C := RX7) (T := TX7) (N := 8) hx hb hts hi7 hown hG.1 hP 1 rfl rfl 2 (by decide) (hts (.fieldLink RX3 51 "SleptMatters$Text" "wordAt" "I") (List.mem_cons_of_mem _ (List.mem_append_left _ (List.mem_append_left _ (List.mem_append_left _ (List.mem_of_getElem? (i := 0) rfl)))))) (fun _ h9 => h9) rfl dX3_readClause_28 ?_
    have hPc := hP.sub (ws' := (c_X7_blame k tx qb (nI n) (nI (nS f n a)) w3 w4 w5 (nI (wE f n a)) (nI (wE f n a)) 1 (nI (nS f n a)))) [1] rfl
    have hDc := hD.sub (ws' := (c_X7_blame k tx qb (nI n) (nI (nS f n a)) w3 w4 w5 (nI (wE f n a)) (nI (wE f n a)) 1 (nI (nS f n a)))) [1] (by decide +kernel) rfl
    refine cl_v (w1 := w_X7_blame k tx qb (nI n) (nI (nS f n a)) w3 w4 w5 (nI (wE f n a)) (nI (wE f n a)) 1 (nI (nS f n a))) (wr := [(h, .inr (3, [.int ni, .int ye, .int ag, .int l4, .int l5])), (qb, .inl (k 0, 500, .inl f))]) (va_runV (As := [.int 1, .int (nI (nS f n a))]) (rest := []) ⟨hx, hb, hml, hown, hts⟩ (X7_blame l D k H.size tx qb (nI n) (nI (nS f n a)) w3 w4 w5 (nI (wE f n a)) (nI (wE f n a)) 1 (nI (nS f n a)) ) (cwV 2 hts gX3_readClause_X7_blame rfl rfl rfl (by decide +kernel) ⟨Nat.le_of_ble_eq_true rfl, Nat.le_of_ble_eq_true rfl⟩) ⟨PR.blind _ _ _ _ _, va_recv hG.1 hP (ci := 7) (q0 := 1) rfl rfl, PR.pre hPc hDc hG [.ref tx, .int 1, .int (nI (nS f n a))]⟩ rfl rfl hl.1 rfl (lv_room (Nat.le_of_ble_eq_true rfl)) dX3_readClause_31 ⟨Nat.le_of_ble_eq_true rfl, Nat.le_of_ble_eq_true rfl⟩) hP hD hS hA [1] [0, 2] rfl rfl (by decide +kernel) (by decide +kernel) (fun u H locs hq hP hD hS => ?_)
    obtain ⟨zu4, zu5⟩ := u
    have hq : zu4 = bl w4 1 ∧ zu5 = bla w4 w5 (nI (nS f n a)) := hq
    obtain ⟨rfl, rfl⟩ := hq
    have hP : va_P D vwCl [(h, .inr (3, [.int ni, .int ye, .int ag, .int l4, .int l5])), (qb, .inl (k 0, 500, .inl f)), (tx, .inr (7, [.ref qb, .int (nI n), .int (nI (nS f n a)), .int w3, .int (bl w4 1), .int (bla w4 w5 (nI (nS f n a))), .int (nI (wE f n a)), .int (nI (wE f n a))]))] H := hP
    have hD : va_D A [(h, .inr (3, [.int ni, .int ye, .int ag, .int l4, .int l5])), (qb, .inl (k 0, 500, .inl f)), (tx, .inr (7, [.ref qb, .int (nI n), .int (nI (nS f n a)), .int w3, .int (bl w4 1), .int (bla w4 w5 (nI (nS f n a))), .int (nI (wE f n a)), .int (nI (wE f n a))]))] := hD
    refine lv_goto (tgt := 92) hx hb dX3_readClause_34 (by decide) ?_
    have hP9 := hP.sub (ws' := [(h, .inr (3, [.int ni, .int ye, .int ag, .int l4, .int l5])), (tx, .inr (7, [.ref qb, .int (nI n), .int (nI (nS f n a)), .int w3, .int (bl w4 1), .int (bla w4 w5 (nI (nS f n a))), .int (nI (wE f n a)), .int (nI (wE f n a))])), (qb, .inl (k 0, 500, .inl f))]) [0, 2, 1] rfl
    have hD9 := hD.sub (ws' := [(h, .inr (3, [.int ni, .int ye, .int ag, .int l4, .int l5])), (tx, .inr (7, [.ref qb, .int (nI n), .int (nI (nS f n a)), .int w3, .int (bl w4 1), .int (bla w4 w5 (nI (nS f n a))), .int (nI (wE f n a)), .int (nI (wE f n a))])), (qb, .inl (k 0, 500, .inl f))]) [0, 2, 1] (by decide +kernel) rfl
    exact W.vret hx hb hr (fun t9 ht _ => ⟨⟨(wE f n a, nI (nS f n a), w3, bl w4 1, bla w4 w5 (nI (nS f n a)), nI (wE f n a), ni, ye, ag, l4, l5), rfl, (lc_n hk).symm, by rw [ht]; exact hP9, hD9⟩, hS.F ht⟩) hS.2.2 dX3_readClause_92
  · skip
    refine tp_i (y := 0) hk ?_
    refine lv_istore_n (lv' := [(2, .int 0), (0, .ref h), (1, .ref tx)]) hx hb dX3_readClause_8 rfl hl (by decide) rfl (fun ls hl => ?_)
    refine lv_iload_n hx hb dX3_readClause_9 rfl (lv_at hl 0 rfl) ?_
    refine lv_iconst (v := 3) hx hb dX3_readClause_10 (by decide) ?_
    refine lv_icmp_ne (x := 0) (y := 3) (tgt := 18) hx hb dX3_readClause_11 (by decide) (fun c6 => ?_) (fun c6 => absurd c6 (by decide))
    refine lv_iload_n hx hb dX3_readClause_18 rfl (lv_at hl 0 rfl) ?_
    refine lv_istore_n (lv' := [(3, .int 0), (2, .int 0), (0, .ref h), (1, .ref tx)]) hx hb dX3_readClause_19 rfl hl (by decide) rfl (fun ls hl => ?_)
    refine lv_iload_n hx hb dX3_readClause_20 rfl (lv_at hl 1 rfl) ?_
    refine lv_iconst (v := (-1)) hx hb dX3_readClause_21 (by decide) ?_
    refine lv_icmp_ne (x := 0) (y := (-1)) (tgt := 37) hx hb dX3_readClause_22 (by decide) (fun c7 => ?_) (fun c7 => absurd c7 (by decide))
    refine lv_aload_n hx hb dX3_readClause_37 rfl (lv_at hl 2 rfl) ?_
    refine va_get (D := D) (ci := 3) (v := .int l5) (C := RX3) (T := TX3) (N := 5) hx hb hts hi3 hown hG.1 hP 0 rfl rfl 4 (by decide) (hts (.fieldLink RX3 25 "SleptMatters$Law" "toldClauses" "I") (List.mem_cons_of_mem _ (List.mem_append_left _ (List.mem_append_left _ (List.mem_append_left _ (List.mem_of_getElem? (i := 1) rfl)))))) (fun _ h9 => h9) rfl dX3_readClause_38 ?_
    refine lv_iload_n hx hb dX3_readClause_41 rfl (lv_at hl 0 rfl) ?_
    have hPc := hP.sub (ws' := (c_X9_isIn k l5 0)) [] rfl
    refine vp_callSi (va_Run.run (va_runSN (As := [.int l5, .int 0]) (rest := []) ⟨hx, hb, hml, hown, hts⟩ (X9_isIn l D k l5 0 ) ⟨(va_cnB (own := RX3) (index := 58) (y := yX9_isIn) (host := RX9) 2 hts ggX3_readClause_X9_isIn rfl rfl rfl (hG.2.1 _ (List.mem_of_getElem? (i := 6) rfl)) (hts (.initialized RX9) (List.mem_cons_of_mem _ (List.mem_append_left _ (List.mem_append_left _ (List.mem_append_right _ (List.mem_append_right _ (List.mem_append_right _ (List.mem_append_left _ (List.mem_of_getElem? (i := 17) rfl))))))))) (by decide +kernel) ⟨Nat.le_of_ble_eq_true rfl, Nat.le_of_ble_eq_true rfl⟩), hts (.static yX9_isIn) (List.mem_cons_of_mem _ (List.mem_append_left _ (List.mem_append_left _ (List.mem_append_right _ (List.mem_append_right _ (List.mem_append_right _ (List.mem_append_left _ (List.mem_of_getElem? (i := 16) rfl)))))))), trivial⟩ ⟨PS.blind _ _ _ _, PS.pre hPc hG [.int l5, .int 0]⟩ rfl rfl hl.1 rfl (lv_room (Nat.le_of_ble_eq_true rfl)) dX3_readClause_42 ⟨Nat.le_of_ble_eq_true rfl, Nat.le_of_ble_eq_true rfl⟩)) (fun r hq => ?_)
    generalize r = y8 at hq ⊢
    have hq : y8 = inS l5 0 := hq
    refine tp_i (y := inS l5 0) (hq) ?_
    refine lv_if_eq (x := inS l5 0) (tgt := 60) hx hb dX3_readClause_45 (by decide) (fun c9 => ?_) (fun c9 => ?_)
    · skip
      have hc := c9
      have hnp : wE f n a ≤ n := wE_le ha
      have hnp2 : nE f n (wE f n a) ≤ n := nE_le hnp
      refine lv_aload_n hx hb dX3_readClause_60 rfl (lv_at hl 2 rfl) ?_
      refine lv_dup hx hb dX3_readClause_61 rfl ?_
      refine va_get (D := D) (ci := 3) (v := .int l5) (C := RX3) (T := TX3) (N := 5) hx hb hts hi3 hown hG.1 hP 0 rfl rfl 4 (by decide) (hts (.fieldLink RX3 25 "SleptMatters$Law" "toldClauses" "I") (List.mem_cons_of_mem _ (List.mem_append_left _ (List.mem_append_left _ (List.mem_append_left _ (List.mem_of_getElem? (i := 1) rfl)))))) (fun _ h9 => h9) rfl dX3_readClause_62 ?_
      refine lv_iconst (v := 1) hx hb dX3_readClause_65 (by decide) ?_
      refine lv_iload_n hx hb dX3_readClause_66 rfl (lv_at hl 0 rfl) ?_
      refine lv_ishl hx hb dX3_readClause_67 ?_
      refine lv_ior hx hb dX3_readClause_68 ?_
      refine va_put (D := D) (ci := 3) (v := .int (l5 ||| ((1 : Int32) <<< ((0 : Int32) &&& 31)))) (ty := .int) (C := RX3) (T := TX3) (N := 5) hx hb hts hi3 tyX3 tyX3_ok nmX3 hown hG.1 hP hD hS 0 rfl rfl 4 (by decide) (hts (.fieldLink RX3 25 "SleptMatters$Law" "toldClauses" "I") (List.mem_cons_of_mem _ (List.mem_append_left _ (List.mem_append_left _ (List.mem_append_left _ (List.mem_of_getElem? (i := 1) rfl)))))) (fun _ h9 => h9) rfl (by decide +kernel) rfl rfl (Nat.le_of_ble_eq_true rfl) dX3_readClause_69 (fun H locs hP hD hS => ?_)
      have hP : va_P D vwCl [(h, .inr (3, [.int ni, .int ye, .int ag, .int l4, .int (l5 ||| ((1 : Int32) <<< ((0 : Int32) &&& 31)))])), (tx, .inr (7, [.ref qb, .int (nI n), .int (nI (nS f n a)), .int w3, .int w4, .int w5, .int (nI (wE f n a)), .int (nI (wE f n a))])), (qb, .inl (k 0, 500, .inl f))] H := hP
      have hD : va_D A [(h, .inr (3, [.int ni, .int ye, .int ag, .int l4, .int (l5 ||| ((1 : Int32) <<< ((0 : Int32) &&& 31)))])), (tx, .inr (7, [.ref qb, .int (nI n), .int (nI (nS f n a)), .int w3, .int w4, .int w5, .int (nI (wE f n a)), .int (nI (wE f n a))])), (qb, .inl (k 0, 500, .inl f))] := hD
      refine lv_aload_n hx hb dX3_readClause_72 rfl (lv_at hl 2 rfl) ?_
      refine lv_aload_n hx hb dX3_readClause_73 rfl (lv_at hl 3 rfl) ?_
      refine lv_iload_n hx hb dX3_readClause_74 rfl (lv_at hl 1 rfl) ?_
      have hPc := hP.sub (ws' := (c_X3_rr0 k h ni ye ag l4 (l5 ||| ((1 : Int32) <<< ((0 : Int32) &&& 31))) tx qb n (wE f n a) (nI (nS f n a)) w3 w4 w5 (nI (wE f n a)) f)) [0, 1, 2] rfl
      have hDc := hD.sub (ws' := (c_X3_rr0 k h ni ye ag l4 (l5 ||| ((1 : Int32) <<< ((0 : Int32) &&& 31))) tx qb n (wE f n a) (nI (nS f n a)) w3 w4 w5 (nI (wE f n a)) f)) [0, 1, 2] (by decide +kernel) rfl
      refine cl_v (w1 := w_X3_rr0 k h ni ye ag l4 (l5 ||| ((1 : Int32) <<< ((0 : Int32) &&& 31))) tx qb n (wE f n a) (nI (nS f n a)) w3 w4 w5 (nI (wE f n a)) f) (wr := []) (va_runV (As := [.ref tx, .int 0]) (rest := []) ⟨hx, hb, hml, hown, hts⟩ (X3_rr0 l D k H.size h ni ye ag l4 (l5 ||| ((1 : Int32) <<< ((0 : Int32) &&& 31))) tx qb n (wE f n a) (nI (nS f n a)) w3 w4 w5 (nI (wE f n a)) f (hn) (wE_le ha)) (cwV 2 hts gX3_readClause_X3_readRest rfl rfl rfl (by decide +kernel) ⟨Nat.le_of_ble_eq_true rfl, Nat.le_of_ble_eq_true rfl⟩) ⟨PR.blind _ _ _ _ _, va_recv hG.1 hP (ci := 3) (q0 := 0) rfl rfl, PR.pre hPc hDc hG [.ref h, .ref tx, .int 0]⟩ rfl rfl hl.1 rfl (lv_room (Nat.le_of_ble_eq_true rfl)) dX3_readClause_75 ⟨Nat.le_of_ble_eq_true rfl, Nat.le_of_ble_eq_true rfl⟩) hP hD hS hA [0, 1, 2] [] rfl rfl (by decide +kernel) (by decide +kernel) (fun u H locs hq hP hD hS => ?_)
      cases u
      have hP : va_P D vwCl [(h, .inr (3, [.int (nV f n (wE f n a)), .int ye, .int ag, .int l4, .int (l5 ||| ((1 : Int32) <<< ((0 : Int32) &&& 31)))])), (tx, .inr (7, [.ref qb, .int (nI n), .int (nI (nS f n a)), .int (nI (nS f n (wE f n a))), .int (nF f n (wE f n a) w4 1 7), .int (nA f n (wE f n a) w4 w5 1 7), .int (nI (wE f n a)), .int (nI (nE f n (wE f n a)))])), (qb, .inl (k 0, 500, .inl f))] H := hP
      have hD : va_D A [(h, .inr (3, [.int (nV f n (wE f n a)), .int ye, .int ag, .int l4, .int (l5 ||| ((1 : Int32) <<< ((0 : Int32) &&& 31)))])), (tx, .inr (7, [.ref qb, .int (nI n), .int (nI (nS f n a)), .int (nI (nS f n (wE f n a))), .int (nF f n (wE f n a) w4 1 7), .int (nA f n (wE f n a) w4 w5 1 7), .int (nI (wE f n a)), .int (nI (nE f n (wE f n a)))])), (qb, .inl (k 0, 500, .inl f))] := hD
      refine lv_aload_n hx hb dX3_readClause_78 rfl (lv_at hl 3 rfl) ?_
      have hPc := hP.sub (ws' := (c_X7_readEnd k tx qb n (nE f n (wE f n a)) (nI (nS f n a)) (nI (nS f n (wE f n a))) (nF f n (wE f n a) w4 1 7) (nA f n (wE f n a) w4 w5 1 7) (nI (wE f n a)) f)) [1, 2] rfl
      have hDc := hD.sub (ws' := (c_X7_readEnd k tx qb n (nE f n (wE f n a)) (nI (nS f n a)) (nI (nS f n (wE f n a))) (nF f n (wE f n a) w4 1 7) (nA f n (wE f n a) w4 w5 1 7) (nI (wE f n a)) f)) [1, 2] (by decide +kernel) rfl
      refine cl_v (w1 := w_X7_readEnd k tx qb n (nE f n (wE f n a)) (nI (nS f n a)) (nI (nS f n (wE f n a))) (nF f n (wE f n a) w4 1 7) (nA f n (wE f n a) w4 w5 1 7) (nI (wE f n a)) f) (wr := [(h, .inr (3, [.int (nV f n (wE f n a)), .int ye, .int ag, .int l4, .int (l5 ||| ((1 : Int32) <<< ((0 : Int32) &&& 31)))]))]) (va_runV (As := []) (rest := []) ⟨hx, hb, hml, hown, hts⟩ (X7_readEnd l D k H.size tx qb n (nE f n (wE f n a)) (nI (nS f n a)) (nI (nS f n (wE f n a))) (nF f n (wE f n a) w4 1 7) (nA f n (wE f n a) w4 w5 1 7) (nI (wE f n a)) f (hn) ((by assumption))) (cwV 0 hts gX3_readClause_X7_readEnd rfl rfl rfl (by decide +kernel) ⟨Nat.le_of_ble_eq_true rfl, Nat.le_of_ble_eq_true rfl⟩) ⟨PR.blind _ _ _ _ _, va_recv hG.1 hP (ci := 7) (q0 := 1) rfl rfl, PR.pre hPc hDc hG [.ref tx]⟩ rfl rfl hl.1 rfl (lv_room (Nat.le_of_ble_eq_true rfl)) dX3_readClause_79 ⟨Nat.le_of_ble_eq_true rfl, Nat.le_of_ble_eq_true rfl⟩) hP hD hS hA [1, 2] [0] rfl rfl (by decide +kernel) (by decide +kernel) (fun u H locs hq hP hD hS => ?_)
      obtain ⟨zu10, zu11, zu12, zu13⟩ := u
      have hq : zu10 = rn (pB f) n (nE f n (wE f n a)) ∧ ((btw f n zu10 59 59 = 1 ∧ zu10 < n ∧ zu11 = zu10 + 1 ∧ zu12 = (nF f n (wE f n a) w4 1 7) ∧ zu13 = (nA f n (wE f n a) w4 w5 1 7)) ∨ (btw f n zu10 59 59 = 0 ∧ zu11 = zu10 ∧ zu12 = bl (nF f n (wE f n a) w4 1 7) 1 ∧ zu13 = bla (nF f n (wE f n a) w4 1 7) (nA f n (wE f n a) w4 w5 1 7) (nI zu10))) := hq
      obtain ⟨rfl, rfl, rfl⟩ := re_x hq
      have hP : va_P D vwCl [(h, .inr (3, [.int (nV f n (wE f n a)), .int ye, .int ag, .int l4, .int (l5 ||| ((1 : Int32) <<< ((0 : Int32) &&& 31)))])), (tx, .inr (7, [.ref qb, .int (nI n), .int (nI (nS f n a)), .int (nI (nS f n (wE f n a))), .int (eF f n (nE f n (wE f n a)) (nF f n (wE f n a) w4 1 7)), .int (eA f n (nE f n (wE f n a)) (nF f n (wE f n a) w4 1 7) (nA f n (wE f n a) w4 w5 1 7)), .int (nI (wE f n a)), .int (nI (eE f n (nE f n (wE f n a))))])), (qb, .inl (k 0, 500, .inl f))] H := hP
      have hD : va_D A [(h, .inr (3, [.int (nV f n (wE f n a)), .int ye, .int ag, .int l4, .int (l5 ||| ((1 : Int32) <<< ((0 : Int32) &&& 31)))])), (tx, .inr (7, [.ref qb, .int (nI n), .int (nI (nS f n a)), .int (nI (nS f n (wE f n a))), .int (eF f n (nE f n (wE f n a)) (nF f n (wE f n a) w4 1 7)), .int (eA f n (nE f n (wE f n a)) (nF f n (wE f n a) w4 1 7) (nA f n (wE f n a) w4 w5 1 7)), .int (nI (wE f n a)), .int (nI (eE f n (nE f n (wE f n a))))])), (qb, .inl (k 0, 500, .inl f))] := hD
      have heE : eE f n (nE f n (wE f n a)) ≤ n := eE_le (by first | omega | exact hnp _)
      refine lv_aload_n hx hb dX3_readClause_82 rfl (lv_at hl 2 rfl) ?_
      refine lv_dup hx hb dX3_readClause_83 rfl ?_
      refine va_get (D := D) (ci := 3) (v := .int l4) (C := RX3) (T := TX3) (N := 5) hx hb hts hi3 hown hG.1 hP 0 rfl rfl 3 (by decide) (hts (.fieldLink RX3 22 "SleptMatters$Law" "clauses" "I") (List.mem_cons_of_mem _ (List.mem_append_left _ (List.mem_append_left _ (List.mem_append_left _ (List.mem_of_getElem? (i := 2) rfl)))))) (fun _ h9 => h9) rfl dX3_readClause_84 ?_
      refine lv_iconst (v := 1) hx hb dX3_readClause_87 (by decide) ?_
      refine lv_iadd hx hb dX3_readClause_88 ?_
      refine va_put (D := D) (ci := 3) (v := .int (l4 + 1)) (ty := .int) (C := RX3) (T := TX3) (N := 5) hx hb hts hi3 tyX3 tyX3_ok nmX3 hown hG.1 hP hD hS 0 rfl rfl 3 (by decide) (hts (.fieldLink RX3 22 "SleptMatters$Law" "clauses" "I") (List.mem_cons_of_mem _ (List.mem_append_left _ (List.mem_append_left _ (List.mem_append_left _ (List.mem_of_getElem? (i := 2) rfl)))))) (fun _ h9 => h9) rfl (by decide +kernel) rfl rfl (Nat.le_of_ble_eq_true rfl) dX3_readClause_89 (fun H locs hP hD hS => ?_)
      have hP : va_P D vwCl [(h, .inr (3, [.int (nV f n (wE f n a)), .int ye, .int ag, .int (l4 + 1), .int (l5 ||| ((1 : Int32) <<< ((0 : Int32) &&& 31)))])), (tx, .inr (7, [.ref qb, .int (nI n), .int (nI (nS f n a)), .int (nI (nS f n (wE f n a))), .int (eF f n (nE f n (wE f n a)) (nF f n (wE f n a) w4 1 7)), .int (eA f n (nE f n (wE f n a)) (nF f n (wE f n a) w4 1 7) (nA f n (wE f n a) w4 w5 1 7)), .int (nI (wE f n a)), .int (nI (eE f n (nE f n (wE f n a))))])), (qb, .inl (k 0, 500, .inl f))] H := hP
      have hD : va_D A [(h, .inr (3, [.int (nV f n (wE f n a)), .int ye, .int ag, .int (l4 + 1), .int (l5 ||| ((1 : Int32) <<< ((0 : Int32) &&& 31)))])), (tx, .inr (7, [.ref qb, .int (nI n), .int (nI (nS f n a)), .int (nI (nS f n (wE f n a))), .int (eF f n (nE f n (wE f n a)) (nF f n (wE f n a) w4 1 7)), .int (eA f n (nE f n (wE f n a)) (nF f n (wE f n a) w4 1 7) (nA f n (wE f n a) w4 w5 1 7)), .int (nI (wE f n a)), .int (nI (eE f n (nE f n (wE f n a))))])), (qb, .inl (k 0, 500, .inl f))] := hD
      have hP9 := hP.sub (ws' := [(h, .inr (3, [.int (nV f n (wE f n a)), .int ye, .int ag, .int (l4 + 1), .int (l5 ||| ((1 : Int32) <<< ((0 : Int32) &&& 31)))])), (tx, .inr (7, [.ref qb, .int (nI n), .int (nI (nS f n a)), .int (nI (nS f n (wE f n a))), .int (eF f n (nE f n (wE f n a)) (nF f n (wE f n a) w4 1 7)), .int (eA f n (nE f n (wE f n a)) (nF f n (wE f n a) w4 1 7) (nA f n (wE f n a) w4 w5 1 7)), .int (nI (wE f n a)), .int (nI (eE f n (nE f n (wE f n a))))])), (qb, .inl (k 0, 500, .inl f))]) [0, 1, 2] rfl
      have hD9 := hD.sub (ws' := [(h, .inr (3, [.int (nV f n (wE f n a)), .int ye, .int ag, .int (l4 + 1), .int (l5 ||| ((1 : Int32) <<< ((0 : Int32) &&& 31)))])), (tx, .inr (7, [.ref qb, .int (nI n), .int (nI (nS f n a)), .int (nI (nS f n (wE f n a))), .int (eF f n (nE f n (wE f n a)) (nF f n (wE f n a) w4 1 7)), .int (eA f n (nE f n (wE f n a)) (nF f n (wE f n a) w4 1 7) (nA f n (wE f n a) w4 w5 1 7)), .int (nI (wE f n a)), .int (nI (eE f n (nE f n (wE f n a))))])), (qb, .inl (k 0, 500, .inl f))]) [0, 1, 2] (by decide +kernel) rfl
      exact W.vret hx hb hr (fun t9 ht _ => ⟨⟨(eE f n (nE f n (wE f n a)), nI (nS f n a), nI (nS f n (wE f n a)), eF f n (nE f n (wE f n a)) (nF f n (wE f n a) w4 1 7), eA f n (nE f n (wE f n a)) (nF f n (wE f n a) w4 1 7) (nA f n (wE f n a) w4 w5 1 7), nI (wE f n a), nV f n (wE f n a), ye, ag, l4 + 1, l5 ||| ((1 : Int32) <<< ((0 : Int32) &&& 31))), rfl, (lc_0 hk hc).symm, by rw [ht]; exact hP9, hD9⟩, hS.F ht⟩) hS.2.2 dX3_readClause_92
    · skip
      have hc := c9
      refine lv_aload_n hx hb dX3_readClause_48 rfl (lv_at hl 3 rfl) ?_
      refine lv_iconst (v := 3) hx hb dX3_readClause_49 (by decide) ?_
      refine lv_aload_n hx hb dX3_readClause_50 rfl (lv_at hl 3 rfl) ?_
      refine va_get (D := D) (ci := 7) (v := .int (nI (nS f n a))) (C := RX7) (T := TX7) (N := 8) hx hb hts hi7 hown hG.1 hP 1 rfl rfl 2 (by decide) (hts (.fieldLink RX3 51 "SleptMatters$Text" "wordAt" "I") (List.mem_cons_of_mem _ (List.mem_append_left _ (List.mem_append_left _ (List.mem_append_left _ (List.mem_of_getElem? (i := 0) rfl)))))) (fun _ h9 => h9) rfl dX3_readClause_51 ?_
      have hPc := hP.sub (ws' := (c_X7_blame k tx qb (nI n) (nI (nS f n a)) w3 w4 w5 (nI (wE f n a)) (nI (wE f n a)) 3 (nI (nS f n a)))) [1] rfl
      have hDc := hD.sub (ws' := (c_X7_blame k tx qb (nI n) (nI (nS f n a)) w3 w4 w5 (nI (wE f n a)) (nI (wE f n a)) 3 (nI (nS f n a)))) [1] (by decide +kernel) rfl
      refine cl_v (w1 := w_X7_blame k tx qb (nI n) (nI (nS f n a)) w3 w4 w5 (nI (wE f n a)) (nI (wE f n a)) 3 (nI (nS f n a))) (wr := [(h, .inr (3, [.int ni, .int ye, .int ag, .int l4, .int l5])), (qb, .inl (k 0, 500, .inl f))]) (va_runV (As := [.int 3, .int (nI (nS f n a))]) (rest := []) ⟨hx, hb, hml, hown, hts⟩ (X7_blame l D k H.size tx qb (nI n) (nI (nS f n a)) w3 w4 w5 (nI (wE f n a)) (nI (wE f n a)) 3 (nI (nS f n a)) ) (cwV 2 hts gX3_readClause_X7_blame rfl rfl rfl (by decide +kernel) ⟨Nat.le_of_ble_eq_true rfl, Nat.le_of_ble_eq_true rfl⟩) ⟨PR.blind _ _ _ _ _, va_recv hG.1 hP (ci := 7) (q0 := 1) rfl rfl, PR.pre hPc hDc hG [.ref tx, .int 3, .int (nI (nS f n a))]⟩ rfl rfl hl.1 rfl (lv_room (Nat.le_of_ble_eq_true rfl)) dX3_readClause_54 ⟨Nat.le_of_ble_eq_true rfl, Nat.le_of_ble_eq_true rfl⟩) hP hD hS hA [1] [0, 2] rfl rfl (by decide +kernel) (by decide +kernel) (fun u H locs hq hP hD hS => ?_)
      obtain ⟨zu14, zu15⟩ := u
      have hq : zu14 = bl w4 3 ∧ zu15 = bla w4 w5 (nI (nS f n a)) := hq
      obtain ⟨rfl, rfl⟩ := hq
      have hP : va_P D vwCl [(h, .inr (3, [.int ni, .int ye, .int ag, .int l4, .int l5])), (qb, .inl (k 0, 500, .inl f)), (tx, .inr (7, [.ref qb, .int (nI n), .int (nI (nS f n a)), .int w3, .int (bl w4 3), .int (bla w4 w5 (nI (nS f n a))), .int (nI (wE f n a)), .int (nI (wE f n a))]))] H := hP
      have hD : va_D A [(h, .inr (3, [.int ni, .int ye, .int ag, .int l4, .int l5])), (qb, .inl (k 0, 500, .inl f)), (tx, .inr (7, [.ref qb, .int (nI n), .int (nI (nS f n a)), .int w3, .int (bl w4 3), .int (bla w4 w5 (nI (nS f n a))), .int (nI (wE f n a)), .int (nI (wE f n a))]))] := hD
      refine lv_goto (tgt := 92) hx hb dX3_readClause_57 (by decide) ?_
      have hP9 := hP.sub (ws' := [(h, .inr (3, [.int ni, .int ye, .int ag, .int l4, .int l5])), (tx, .inr (7, [.ref qb, .int (nI n), .int (nI (nS f n a)), .int w3, .int (bl w4 3), .int (bla w4 w5 (nI (nS f n a))), .int (nI (wE f n a)), .int (nI (wE f n a))])), (qb, .inl (k 0, 500, .inl f))]) [0, 2, 1] rfl
      have hD9 := hD.sub (ws' := [(h, .inr (3, [.int ni, .int ye, .int ag, .int l4, .int l5])), (tx, .inr (7, [.ref qb, .int (nI n), .int (nI (nS f n a)), .int w3, .int (bl w4 3), .int (bla w4 w5 (nI (nS f n a))), .int (nI (wE f n a)), .int (nI (wE f n a))])), (qb, .inl (k 0, 500, .inl f))]) [0, 2, 1] (by decide +kernel) rfl
      exact W.vret hx hb hr (fun t9 ht _ => ⟨⟨(wE f n a, nI (nS f n a), w3, bl w4 3, bla w4 w5 (nI (nS f n a)), nI (wE f n a), ni, ye, ag, l4, l5), rfl, (lf_0 hk hc).symm, by rw [ht]; exact hP9, hD9⟩, hS.F ht⟩) hS.2.2 dX3_readClause_92
  · skip
    refine tp_i (y := 1) hk ?_
    refine lv_istore_n (lv' := [(2, .int 1), (0, .ref h), (1, .ref tx)]) hx hb dX3_readClause_8 rfl hl (by decide) rfl (fun ls hl => ?_)
    refine lv_iload_n hx hb dX3_readClause_9 rfl (lv_at hl 0 rfl) ?_
    refine lv_iconst (v := 3) hx hb dX3_readClause_10 (by decide) ?_
    refine lv_icmp_ne (x := 1) (y := 3) (tgt := 18) hx hb dX3_readClause_11 (by decide) (fun c16 => ?_) (fun c16 => absurd c16 (by decide))
    refine lv_iload_n hx hb dX3_readClause_18 rfl (lv_at hl 0 rfl) ?_
    refine lv_istore_n (lv' := [(3, .int 1), (2, .int 1), (0, .ref h), (1, .ref tx)]) hx hb dX3_readClause_19 rfl hl (by decide) rfl (fun ls hl => ?_)
    refine lv_iload_n hx hb dX3_readClause_20 rfl (lv_at hl 1 rfl) ?_
    refine lv_iconst (v := (-1)) hx hb dX3_readClause_21 (by decide) ?_
    refine lv_icmp_ne (x := 1) (y := (-1)) (tgt := 37) hx hb dX3_readClause_22 (by decide) (fun c17 => ?_) (fun c17 => absurd c17 (by decide))
    refine lv_aload_n hx hb dX3_readClause_37 rfl (lv_at hl 2 rfl) ?_
    refine va_get (D := D) (ci := 3) (v := .int l5) (C := RX3) (T := TX3) (N := 5) hx hb hts hi3 hown hG.1 hP 0 rfl rfl 4 (by decide) (hts (.fieldLink RX3 25 "SleptMatters$Law" "toldClauses" "I") (List.mem_cons_of_mem _ (List.mem_append_left _ (List.mem_append_left _ (List.mem_append_left _ (List.mem_of_getElem? (i := 1) rfl)))))) (fun _ h9 => h9) rfl dX3_readClause_38 ?_
    refine lv_iload_n hx hb dX3_readClause_41 rfl (lv_at hl 0 rfl) ?_
    have hPc := hP.sub (ws' := (c_X9_isIn k l5 1)) [] rfl
    refine vp_callSi (va_Run.run (va_runSN (As := [.int l5, .int 1]) (rest := []) ⟨hx, hb, hml, hown, hts⟩ (X9_isIn l D k l5 1 ) ⟨(va_cnB (own := RX3) (index := 58) (y := yX9_isIn) (host := RX9) 2 hts ggX3_readClause_X9_isIn rfl rfl rfl (hG.2.1 _ (List.mem_of_getElem? (i := 6) rfl)) (hts (.initialized RX9) (List.mem_cons_of_mem _ (List.mem_append_left _ (List.mem_append_left _ (List.mem_append_right _ (List.mem_append_right _ (List.mem_append_right _ (List.mem_append_left _ (List.mem_of_getElem? (i := 17) rfl))))))))) (by decide +kernel) ⟨Nat.le_of_ble_eq_true rfl, Nat.le_of_ble_eq_true rfl⟩), hts (.static yX9_isIn) (List.mem_cons_of_mem _ (List.mem_append_left _ (List.mem_append_left _ (List.mem_append_right _ (List.mem_append_right _ (List.mem_append_right _ (List.mem_append_left _ (List.mem_of_getElem? (i := 16) rfl)))))))), trivial⟩ ⟨PS.blind _ _ _ _, PS.pre hPc hG [.int l5, .int 1]⟩ rfl rfl hl.1 rfl (lv_room (Nat.le_of_ble_eq_true rfl)) dX3_readClause_42 ⟨Nat.le_of_ble_eq_true rfl, Nat.le_of_ble_eq_true rfl⟩)) (fun r hq => ?_)
    generalize r = y18 at hq ⊢
    have hq : y18 = inS l5 1 := hq
    refine tp_i (y := inS l5 1) (hq) ?_
    refine lv_if_eq (x := inS l5 1) (tgt := 60) hx hb dX3_readClause_45 (by decide) (fun c19 => ?_) (fun c19 => ?_)
    · skip
      have hc := c19
      have hnp : wE f n a ≤ n := wE_le ha
      have hnp2 : nE f n (wE f n a) ≤ n := nE_le hnp
      refine lv_aload_n hx hb dX3_readClause_60 rfl (lv_at hl 2 rfl) ?_
      refine lv_dup hx hb dX3_readClause_61 rfl ?_
      refine va_get (D := D) (ci := 3) (v := .int l5) (C := RX3) (T := TX3) (N := 5) hx hb hts hi3 hown hG.1 hP 0 rfl rfl 4 (by decide) (hts (.fieldLink RX3 25 "SleptMatters$Law" "toldClauses" "I") (List.mem_cons_of_mem _ (List.mem_append_left _ (List.mem_append_left _ (List.mem_append_left _ (List.mem_of_getElem? (i := 1) rfl)))))) (fun _ h9 => h9) rfl dX3_readClause_62 ?_
      refine lv_iconst (v := 1) hx hb dX3_readClause_65 (by decide) ?_
      refine lv_iload_n hx hb dX3_readClause_66 rfl (lv_at hl 0 rfl) ?_
      refine lv_ishl hx hb dX3_readClause_67 ?_
      refine lv_ior hx hb dX3_readClause_68 ?_
      refine va_put (D := D) (ci := 3) (v := .int (l5 ||| ((1 : Int32) <<< ((1 : Int32) &&& 31)))) (ty := .int) (C := RX3) (T := TX3) (N := 5) hx hb hts hi3 tyX3 tyX3_ok nmX3 hown hG.1 hP hD hS 0 rfl rfl 4 (by decide) (hts (.fieldLink RX3 25 "SleptMatters$Law" "toldClauses" "I") (List.mem_cons_of_mem _ (List.mem_append_left _ (List.mem_append_left _ (List.mem_append_left _ (List.mem_of_getElem? (i := 1) rfl)))))) (fun _ h9 => h9) rfl (by decide +kernel) rfl rfl (Nat.le_of_ble_eq_true rfl) dX3_readClause_69 (fun H locs hP hD hS => ?_)
      have hP : va_P D vwCl [(h, .inr (3, [.int ni, .int ye, .int ag, .int l4, .int (l5 ||| ((1 : Int32) <<< ((1 : Int32) &&& 31)))])), (tx, .inr (7, [.ref qb, .int (nI n), .int (nI (nS f n a)), .int w3, .int w4, .int w5, .int (nI (wE f n a)), .int (nI (wE f n a))])), (qb, .inl (k 0, 500, .inl f))] H := hP
      have hD : va_D A [(h, .inr (3, [.int ni, .int ye, .int ag, .int l4, .int (l5 ||| ((1 : Int32) <<< ((1 : Int32) &&& 31)))])), (tx, .inr (7, [.ref qb, .int (nI n), .int (nI (nS f n a)), .int w3, .int w4, .int w5, .int (nI (wE f n a)), .int (nI (wE f n a))])), (qb, .inl (k 0, 500, .inl f))] := hD
      refine lv_aload_n hx hb dX3_readClause_72 rfl (lv_at hl 2 rfl) ?_
      refine lv_aload_n hx hb dX3_readClause_73 rfl (lv_at hl 3 rfl) ?_
      refine lv_iload_n hx hb dX3_readClause_74 rfl (lv_at hl 1 rfl) ?_
      have hPc := hP.sub (ws' := (c_X3_rr1 k h ni ye ag l4 (l5 ||| ((1 : Int32) <<< ((1 : Int32) &&& 31))) tx qb n (wE f n a) (nI (nS f n a)) w3 w4 w5 (nI (wE f n a)) f)) [0, 1, 2] rfl
      have hDc := hD.sub (ws' := (c_X3_rr1 k h ni ye ag l4 (l5 ||| ((1 : Int32) <<< ((1 : Int32) &&& 31))) tx qb n (wE f n a) (nI (nS f n a)) w3 w4 w5 (nI (wE f n a)) f)) [0, 1, 2] (by decide +kernel) rfl
      refine cl_v (w1 := w_X3_rr1 k h ni ye ag l4 (l5 ||| ((1 : Int32) <<< ((1 : Int32) &&& 31))) tx qb n (wE f n a) (nI (nS f n a)) w3 w4 w5 (nI (wE f n a)) f) (wr := []) (va_runV (As := [.ref tx, .int 1]) (rest := []) ⟨hx, hb, hml, hown, hts⟩ (X3_rr1 l D k H.size h ni ye ag l4 (l5 ||| ((1 : Int32) <<< ((1 : Int32) &&& 31))) tx qb n (wE f n a) (nI (nS f n a)) w3 w4 w5 (nI (wE f n a)) f (hn) (wE_le ha)) (cwV 2 hts gX3_readClause_X3_readRest rfl rfl rfl (by decide +kernel) ⟨Nat.le_of_ble_eq_true rfl, Nat.le_of_ble_eq_true rfl⟩) ⟨PR.blind _ _ _ _ _, va_recv hG.1 hP (ci := 3) (q0 := 0) rfl rfl, PR.pre hPc hDc hG [.ref h, .ref tx, .int 1]⟩ rfl rfl hl.1 rfl (lv_room (Nat.le_of_ble_eq_true rfl)) dX3_readClause_75 ⟨Nat.le_of_ble_eq_true rfl, Nat.le_of_ble_eq_true rfl⟩) hP hD hS hA [0, 1, 2] [] rfl rfl (by decide +kernel) (by decide +kernel) (fun u H locs hq hP hD hS => ?_)
      cases u
      have hP : va_P D vwCl [(h, .inr (3, [.int ni, .int (nV f n (wE f n a)), .int ag, .int l4, .int (l5 ||| ((1 : Int32) <<< ((1 : Int32) &&& 31)))])), (tx, .inr (7, [.ref qb, .int (nI n), .int (nI (nS f n a)), .int (nI (nS f n (wE f n a))), .int (nF f n (wE f n a) w4 0 7), .int (nA f n (wE f n a) w4 w5 0 7), .int (nI (wE f n a)), .int (nI (nE f n (wE f n a)))])), (qb, .inl (k 0, 500, .inl f))] H := hP
      have hD : va_D A [(h, .inr (3, [.int ni, .int (nV f n (wE f n a)), .int ag, .int l4, .int (l5 ||| ((1 : Int32) <<< ((1 : Int32) &&& 31)))])), (tx, .inr (7, [.ref qb, .int (nI n), .int (nI (nS f n a)), .int (nI (nS f n (wE f n a))), .int (nF f n (wE f n a) w4 0 7), .int (nA f n (wE f n a) w4 w5 0 7), .int (nI (wE f n a)), .int (nI (nE f n (wE f n a)))])), (qb, .inl (k 0, 500, .inl f))] := hD
      refine lv_aload_n hx hb dX3_readClause_78 rfl (lv_at hl 3 rfl) ?_
      have hPc := hP.sub (ws' := (c_X7_readEnd k tx qb n (nE f n (wE f n a)) (nI (nS f n a)) (nI (nS f n (wE f n a))) (nF f n (wE f n a) w4 0 7) (nA f n (wE f n a) w4 w5 0 7) (nI (wE f n a)) f)) [1, 2] rfl
      have hDc := hD.sub (ws' := (c_X7_readEnd k tx qb n (nE f n (wE f n a)) (nI (nS f n a)) (nI (nS f n (wE f n a))) (nF f n (wE f n a) w4 0 7) (nA f n (wE f n a) w4 w5 0 7) (nI (wE f n a)) f)) [1, 2] (by decide +kernel) rfl
      refine cl_v (w1 := w_X7_readEnd k tx qb n (nE f n (wE f n a)) (nI (nS f n a)) (nI (nS f n (wE f n a))) (nF f n (wE f n a) w4 0 7) (nA f n (wE f n a) w4 w5 0 7) (nI (wE f n a)) f) (wr := [(h, .inr (3, [.int ni, .int (nV f n (wE f n a)), .int ag, .int l4, .int (l5 ||| ((1 : Int32) <<< ((1 : Int32) &&& 31)))]))]) (va_runV (As := []) (rest := []) ⟨hx, hb, hml, hown, hts⟩ (X7_readEnd l D k H.size tx qb n (nE f n (wE f n a)) (nI (nS f n a)) (nI (nS f n (wE f n a))) (nF f n (wE f n a) w4 0 7) (nA f n (wE f n a) w4 w5 0 7) (nI (wE f n a)) f (hn) ((by assumption))) (cwV 0 hts gX3_readClause_X7_readEnd rfl rfl rfl (by decide +kernel) ⟨Nat.le_of_ble_eq_true rfl, Nat.le_of_ble_eq_true rfl⟩) ⟨PR.blind _ _ _ _ _, va_recv hG.1 hP (ci := 7) (q0 := 1) rfl rfl, PR.pre hPc hDc hG [.ref tx]⟩ rfl rfl hl.1 rfl (lv_room (Nat.le_of_ble_eq_true rfl)) dX3_readClause_79 ⟨Nat.le_of_ble_eq_true rfl, Nat.le_of_ble_eq_true rfl⟩) hP hD hS hA [1, 2] [0] rfl rfl (by decide +kernel) (by decide +kernel) (fun u H locs hq hP hD hS => ?_)
      obtain ⟨zu20, zu21, zu22, zu23⟩ := u
      have hq : zu20 = rn (pB f) n (nE f n (wE f n a)) ∧ ((btw f n zu20 59 59 = 1 ∧ zu20 < n ∧ zu21 = zu20 + 1 ∧ zu22 = (nF f n (wE f n a) w4 0 7) ∧ zu23 = (nA f n (wE f n a) w4 w5 0 7)) ∨ (btw f n zu20 59 59 = 0 ∧ zu21 = zu20 ∧ zu22 = bl (nF f n (wE f n a) w4 0 7) 1 ∧ zu23 = bla (nF f n (wE f n a) w4 0 7) (nA f n (wE f n a) w4 w5 0 7) (nI zu20))) := hq
      obtain ⟨rfl, rfl, rfl⟩ := re_x hq
      have hP : va_P D vwCl [(h, .inr (3, [.int ni, .int (nV f n (wE f n a)), .int ag, .int l4, .int (l5 ||| ((1 : Int32) <<< ((1 : Int32) &&& 31)))])), (tx, .inr (7, [.ref qb, .int (nI n), .int (nI (nS f n a)), .int (nI (nS f n (wE f n a))), .int (eF f n (nE f n (wE f n a)) (nF f n (wE f n a) w4 0 7)), .int (eA f n (nE f n (wE f n a)) (nF f n (wE f n a) w4 0 7) (nA f n (wE f n a) w4 w5 0 7)), .int (nI (wE f n a)), .int (nI (eE f n (nE f n (wE f n a))))])), (qb, .inl (k 0, 500, .inl f))] H := hP
      have hD : va_D A [(h, .inr (3, [.int ni, .int (nV f n (wE f n a)), .int ag, .int l4, .int (l5 ||| ((1 : Int32) <<< ((1 : Int32) &&& 31)))])), (tx, .inr (7, [.ref qb, .int (nI n), .int (nI (nS f n a)), .int (nI (nS f n (wE f n a))), .int (eF f n (nE f n (wE f n a)) (nF f n (wE f n a) w4 0 7)), .int (eA f n (nE f n (wE f n a)) (nF f n (wE f n a) w4 0 7) (nA f n (wE f n a) w4 w5 0 7)), .int (nI (wE f n a)), .int (nI (eE f n (nE f n (wE f n a))))])), (qb, .inl (k 0, 500, .inl f))] := hD
      have heE : eE f n (nE f n (wE f n a)) ≤ n := eE_le (by first | omega | exact hnp _)
      refine lv_aload_n hx hb dX3_readClause_82 rfl (lv_at hl 2 rfl) ?_
      refine lv_dup hx hb dX3_readClause_83 rfl ?_
      refine va_get (D := D) (ci := 3) (v := .int l4) (C := RX3) (T := TX3) (N := 5) hx hb hts hi3 hown hG.1 hP 0 rfl rfl 3 (by decide) (hts (.fieldLink RX3 22 "SleptMatters$Law" "clauses" "I") (List.mem_cons_of_mem _ (List.mem_append_left _ (List.mem_append_left _ (List.mem_append_left _ (List.mem_of_getElem? (i := 2) rfl)))))) (fun _ h9 => h9) rfl dX3_readClause_84 ?_
      refine lv_iconst (v := 1) hx hb dX3_readClause_87 (by decide) ?_
      refine lv_iadd hx hb dX3_readClause_88 ?_
      refine va_put (D := D) (ci := 3) (v := .int (l4 + 1)) (ty := .int) (C := RX3) (T := TX3) (N := 5) hx hb hts hi3 tyX3 tyX3_ok nmX3 hown hG.1 hP hD hS 0 rfl rfl 3 (by decide) (hts (.fieldLink RX3 22 "SleptMatters$Law" "clauses" "I") (List.mem_cons_of_mem _ (List.mem_append_left _ (List.mem_append_left _ (List.mem_append_left _ (List.mem_of_getElem? (i := 2) rfl)))))) (fun _ h9 => h9) rfl (by decide +kernel) rfl rfl (Nat.le_of_ble_eq_true rfl) dX3_readClause_89 (fun H locs hP hD hS => ?_)
      have hP : va_P D vwCl [(h, .inr (3, [.int ni, .int (nV f n (wE f n a)), .int ag, .int (l4 + 1), .int (l5 ||| ((1 : Int32) <<< ((1 : Int32) &&& 31)))])), (tx, .inr (7, [.ref qb, .int (nI n), .int (nI (nS f n a)), .int (nI (nS f n (wE f n a))), .int (eF f n (nE f n (wE f n a)) (nF f n (wE f n a) w4 0 7)), .int (eA f n (nE f n (wE f n a)) (nF f n (wE f n a) w4 0 7) (nA f n (wE f n a) w4 w5 0 7)), .int (nI (wE f n a)), .int (nI (eE f n (nE f n (wE f n a))))])), (qb, .inl (k 0, 500, .inl f))] H := hP
      have hD : va_D A [(h, .inr (3, [.int ni, .int (nV f n (wE f n a)), .int ag, .int (l4 + 1), .int (l5 ||| ((1 : Int32) <<< ((1 : Int32) &&& 31)))])), (tx, .inr (7, [.ref qb, .int (nI n), .int (nI (nS f n a)), .int (nI (nS f n (wE f n a))), .int (eF f n (nE f n (wE f n a)) (nF f n (wE f n a) w4 0 7)), .int (eA f n (nE f n (wE f n a)) (nF f n (wE f n a) w4 0 7) (nA f n (wE f n a) w4 w5 0 7)), .int (nI (wE f n a)), .int (nI (eE f n (nE f n (wE f n a))))])), (qb, .inl (k 0, 500, .inl f))] := hD
      have hP9 := hP.sub (ws' := [(h, .inr (3, [.int ni, .int (nV f n (wE f n a)), .int ag, .int (l4 + 1), .int (l5 ||| ((1 : Int32) <<< ((1 : Int32) &&& 31)))])), (tx, .inr (7, [.ref qb, .int (nI n), .int (nI (nS f n a)), .int (nI (nS f n (wE f n a))), .int (eF f n (nE f n (wE f n a)) (nF f n (wE f n a) w4 0 7)), .int (eA f n (nE f n (wE f n a)) (nF f n (wE f n a) w4 0 7) (nA f n (wE f n a) w4 w5 0 7)), .int (nI (wE f n a)), .int (nI (eE f n (nE f n (wE f n a))))])), (qb, .inl (k 0, 500, .inl f))]) [0, 1, 2] rfl
      have hD9 := hD.sub (ws' := [(h, .inr (3, [.int ni, .int (nV f n (wE f n a)), .int ag, .int (l4 + 1), .int (l5 ||| ((1 : Int32) <<< ((1 : Int32) &&& 31)))])), (tx, .inr (7, [.ref qb, .int (nI n), .int (nI (nS f n a)), .int (nI (nS f n (wE f n a))), .int (eF f n (nE f n (wE f n a)) (nF f n (wE f n a) w4 0 7)), .int (eA f n (nE f n (wE f n a)) (nF f n (wE f n a) w4 0 7) (nA f n (wE f n a) w4 w5 0 7)), .int (nI (wE f n a)), .int (nI (eE f n (nE f n (wE f n a))))])), (qb, .inl (k 0, 500, .inl f))]) [0, 1, 2] (by decide +kernel) rfl
      exact W.vret hx hb hr (fun t9 ht _ => ⟨⟨(eE f n (nE f n (wE f n a)), nI (nS f n a), nI (nS f n (wE f n a)), eF f n (nE f n (wE f n a)) (nF f n (wE f n a) w4 0 7), eA f n (nE f n (wE f n a)) (nF f n (wE f n a) w4 0 7) (nA f n (wE f n a) w4 w5 0 7), nI (wE f n a), ni, nV f n (wE f n a), ag, l4 + 1, l5 ||| ((1 : Int32) <<< ((1 : Int32) &&& 31))), rfl, (lc_1 hk hc).symm, by rw [ht]; exact hP9, hD9⟩, hS.F ht⟩) hS.2.2 dX3_readClause_92
    · skip
      have hc := c19
      refine lv_aload_n hx hb dX3_readClause_48 rfl (lv_at hl 3 rfl) ?_
      refine lv_iconst (v := 3) hx hb dX3_readClause_49 (by decide) ?_
      refine lv_aload_n hx hb dX3_readClause_50 rfl (lv_at hl 3 rfl) ?_
      refine va_get (D := D) (ci := 7) (v := .int (nI (nS f n a))) (C := RX7) (T := TX7) (N := 8) hx hb hts hi7 hown hG.1 hP 1 rfl rfl 2 (by decide) (hts (.fieldLink RX3 51 "SleptMatters$Text" "wordAt" "I") (List.mem_cons_of_mem _ (List.mem_append_left _ (List.mem_append_left _ (List.mem_append_left _ (List.mem_of_getElem? (i := 0) rfl)))))) (fun _ h9 => h9) rfl dX3_readClause_51 ?_
      have hPc := hP.sub (ws' := (c_X7_blame k tx qb (nI n) (nI (nS f n a)) w3 w4 w5 (nI (wE f n a)) (nI (wE f n a)) 3 (nI (nS f n a)))) [1] rfl
      have hDc := hD.sub (ws' := (c_X7_blame k tx qb (nI n) (nI (nS f n a)) w3 w4 w5 (nI (wE f n a)) (nI (wE f n a)) 3 (nI (nS f n a)))) [1] (by decide +kernel) rfl
      refine cl_v (w1 := w_X7_blame k tx qb (nI n) (nI (nS f n a)) w3 w4 w5 (nI (wE f n a)) (nI (wE f n a)) 3 (nI (nS f n a))) (wr := [(h, .inr (3, [.int ni, .int ye, .int ag, .int l4, .int l5])), (qb, .inl (k 0, 500, .inl f))]) (va_runV (As := [.int 3, .int (nI (nS f n a))]) (rest := []) ⟨hx, hb, hml, hown, hts⟩ (X7_blame l D k H.size tx qb (nI n) (nI (nS f n a)) w3 w4 w5 (nI (wE f n a)) (nI (wE f n a)) 3 (nI (nS f n a)) ) (cwV 2 hts gX3_readClause_X7_blame rfl rfl rfl (by decide +kernel) ⟨Nat.le_of_ble_eq_true rfl, Nat.le_of_ble_eq_true rfl⟩) ⟨PR.blind _ _ _ _ _, va_recv hG.1 hP (ci := 7) (q0 := 1) rfl rfl, PR.pre hPc hDc hG [.ref tx, .int 3, .int (nI (nS f n a))]⟩ rfl rfl hl.1 rfl (lv_room (Nat.le_of_ble_eq_true rfl)) dX3_readClause_54 ⟨Nat.le_of_ble_eq_true rfl, Nat.le_of_ble_eq_true rfl⟩) hP hD hS hA [1] [0, 2] rfl rfl (by decide +kernel) (by decide +kernel) (fun u H locs hq hP hD hS => ?_)
      obtain ⟨zu24, zu25⟩ := u
      have hq : zu24 = bl w4 3 ∧ zu25 = bla w4 w5 (nI (nS f n a)) := hq
      obtain ⟨rfl, rfl⟩ := hq
      have hP : va_P D vwCl [(h, .inr (3, [.int ni, .int ye, .int ag, .int l4, .int l5])), (qb, .inl (k 0, 500, .inl f)), (tx, .inr (7, [.ref qb, .int (nI n), .int (nI (nS f n a)), .int w3, .int (bl w4 3), .int (bla w4 w5 (nI (nS f n a))), .int (nI (wE f n a)), .int (nI (wE f n a))]))] H := hP
      have hD : va_D A [(h, .inr (3, [.int ni, .int ye, .int ag, .int l4, .int l5])), (qb, .inl (k 0, 500, .inl f)), (tx, .inr (7, [.ref qb, .int (nI n), .int (nI (nS f n a)), .int w3, .int (bl w4 3), .int (bla w4 w5 (nI (nS f n a))), .int (nI (wE f n a)), .int (nI (wE f n a))]))] := hD
      refine lv_goto (tgt := 92) hx hb dX3_readClause_57 (by decide) ?_
      have hP9 := hP.sub (ws' := [(h, .inr (3, [.int ni, .int ye, .int ag, .int l4, .int l5])), (tx, .inr (7, [.ref qb, .int (nI n), .int (nI (nS f n a)), .int w3, .int (bl w4 3), .int (bla w4 w5 (nI (nS f n a))), .int (nI (wE f n a)), .int (nI (wE f n a))])), (qb, .inl (k 0, 500, .inl f))]) [0, 2, 1] rfl
      have hD9 := hD.sub (ws' := [(h, .inr (3, [.int ni, .int ye, .int ag, .int l4, .int l5])), (tx, .inr (7, [.ref qb, .int (nI n), .int (nI (nS f n a)), .int w3, .int (bl w4 3), .int (bla w4 w5 (nI (nS f n a))), .int (nI (wE f n a)), .int (nI (wE f n a))])), (qb, .inl (k 0, 500, .inl f))]) [0, 2, 1] (by decide +kernel) rfl
      exact W.vret hx hb hr (fun t9 ht _ => ⟨⟨(wE f n a, nI (nS f n a), w3, bl w4 3, bla w4 w5 (nI (nS f n a)), nI (wE f n a), ni, ye, ag, l4, l5), rfl, (lf_1 hk hc).symm, by rw [ht]; exact hP9, hD9⟩, hS.F ht⟩) hS.2.2 dX3_readClause_92
  · skip
    refine tp_i (y := 2) hk ?_
    refine lv_istore_n (lv' := [(2, .int 2), (0, .ref h), (1, .ref tx)]) hx hb dX3_readClause_8 rfl hl (by decide) rfl (fun ls hl => ?_)
    refine lv_iload_n hx hb dX3_readClause_9 rfl (lv_at hl 0 rfl) ?_
    refine lv_iconst (v := 3) hx hb dX3_readClause_10 (by decide) ?_
    refine lv_icmp_ne (x := 2) (y := 3) (tgt := 18) hx hb dX3_readClause_11 (by decide) (fun c26 => ?_) (fun c26 => absurd c26 (by decide))
    refine lv_iload_n hx hb dX3_readClause_18 rfl (lv_at hl 0 rfl) ?_
    refine lv_istore_n (lv' := [(3, .int 2), (2, .int 2), (0, .ref h), (1, .ref tx)]) hx hb dX3_readClause_19 rfl hl (by decide) rfl (fun ls hl => ?_)
    refine lv_iload_n hx hb dX3_readClause_20 rfl (lv_at hl 1 rfl) ?_
    refine lv_iconst (v := (-1)) hx hb dX3_readClause_21 (by decide) ?_
    refine lv_icmp_ne (x := 2) (y := (-1)) (tgt := 37) hx hb dX3_readClause_22 (by decide) (fun c27 => ?_) (fun c27 => absurd c27 (by decide))
    refine lv_aload_n hx hb dX3_readClause_37 rfl (lv_at hl 2 rfl) ?_
    refine va_get (D := D) (ci := 3) (v := .int l5) (C := RX3) (T := TX3) (N := 5) hx hb hts hi3 hown hG.1 hP 0 rfl rfl 4 (by decide) (hts (.fieldLink RX3 25 "SleptMatters$Law" "toldClauses" "I") (List.mem_cons_of_mem _ (List.mem_append_left _ (List.mem_append_left _ (List.mem_append_left _ (List.mem_of_getElem? (i := 1) rfl)))))) (fun _ h9 => h9) rfl dX3_readClause_38 ?_
    refine lv_iload_n hx hb dX3_readClause_41 rfl (lv_at hl 0 rfl) ?_
    have hPc := hP.sub (ws' := (c_X9_isIn k l5 2)) [] rfl
    refine vp_callSi (va_Run.run (va_runSN (As := [.int l5, .int 2]) (rest := []) ⟨hx, hb, hml, hown, hts⟩ (X9_isIn l D k l5 2 ) ⟨(va_cnB (own := RX3) (index := 58) (y := yX9_isIn) (host := RX9) 2 hts ggX3_readClause_X9_isIn rfl rfl rfl (hG.2.1 _ (List.mem_of_getElem? (i := 6) rfl)) (hts (.initialized RX9) (List.mem_cons_of_mem _ (List.mem_append_left _ (List.mem_append_left _ (List.mem_append_right _ (List.mem_append_right _ (List.mem_append_right _ (List.mem_append_left _ (List.mem_of_getElem? (i := 17) rfl))))))))) (by decide +kernel) ⟨Nat.le_of_ble_eq_true rfl, Nat.le_of_ble_eq_true rfl⟩), hts (.static yX9_isIn) (List.mem_cons_of_mem _ (List.mem_append_left _ (List.mem_append_left _ (List.mem_append_right _ (List.mem_append_right _ (List.mem_append_right _ (List.mem_append_left _ (List.mem_of_getElem? (i := 16) rfl)))))))), trivial⟩ ⟨PS.blind _ _ _ _, PS.pre hPc hG [.int l5, .int 2]⟩ rfl rfl hl.1 rfl (lv_room (Nat.le_of_ble_eq_true rfl)) dX3_readClause_42 ⟨Nat.le_of_ble_eq_true rfl, Nat.le_of_ble_eq_true rfl⟩)) (fun r hq => ?_)
    generalize r = y28 at hq ⊢
    have hq : y28 = inS l5 2 := hq
    refine tp_i (y := inS l5 2) (hq) ?_
    refine lv_if_eq (x := inS l5 2) (tgt := 60) hx hb dX3_readClause_45 (by decide) (fun c29 => ?_) (fun c29 => ?_)
    · skip
      have hc := c29
      have hnp : wE f n a ≤ n := wE_le ha
      have hnp2 : nE f n (wE f n a) ≤ n := nE_le hnp
      refine lv_aload_n hx hb dX3_readClause_60 rfl (lv_at hl 2 rfl) ?_
      refine lv_dup hx hb dX3_readClause_61 rfl ?_
      refine va_get (D := D) (ci := 3) (v := .int l5) (C := RX3) (T := TX3) (N := 5) hx hb hts hi3 hown hG.1 hP 0 rfl rfl 4 (by decide) (hts (.fieldLink RX3 25 "SleptMatters$Law" "toldClauses" "I") (List.mem_cons_of_mem _ (List.mem_append_left _ (List.mem_append_left _ (List.mem_append_left _ (List.mem_of_getElem? (i := 1) rfl)))))) (fun _ h9 => h9) rfl dX3_readClause_62 ?_
      refine lv_iconst (v := 1) hx hb dX3_readClause_65 (by decide) ?_
      refine lv_iload_n hx hb dX3_readClause_66 rfl (lv_at hl 0 rfl) ?_
      refine lv_ishl hx hb dX3_readClause_67 ?_
      refine lv_ior hx hb dX3_readClause_68 ?_
      refine va_put (D := D) (ci := 3) (v := .int (l5 ||| ((1 : Int32) <<< ((2 : Int32) &&& 31)))) (ty := .int) (C := RX3) (T := TX3) (N := 5) hx hb hts hi3 tyX3 tyX3_ok nmX3 hown hG.1 hP hD hS 0 rfl rfl 4 (by decide) (hts (.fieldLink RX3 25 "SleptMatters$Law" "toldClauses" "I") (List.mem_cons_of_mem _ (List.mem_append_left _ (List.mem_append_left _ (List.mem_append_left _ (List.mem_of_getElem? (i := 1) rfl)))))) (fun _ h9 => h9) rfl (by decide +kernel) rfl rfl (Nat.le_of_ble_eq_true rfl) dX3_readClause_69 (fun H locs hP hD hS => ?_)
      have hP : va_P D vwCl [(h, .inr (3, [.int ni, .int ye, .int ag, .int l4, .int (l5 ||| ((1 : Int32) <<< ((2 : Int32) &&& 31)))])), (tx, .inr (7, [.ref qb, .int (nI n), .int (nI (nS f n a)), .int w3, .int w4, .int w5, .int (nI (wE f n a)), .int (nI (wE f n a))])), (qb, .inl (k 0, 500, .inl f))] H := hP
      have hD : va_D A [(h, .inr (3, [.int ni, .int ye, .int ag, .int l4, .int (l5 ||| ((1 : Int32) <<< ((2 : Int32) &&& 31)))])), (tx, .inr (7, [.ref qb, .int (nI n), .int (nI (nS f n a)), .int w3, .int w4, .int w5, .int (nI (wE f n a)), .int (nI (wE f n a))])), (qb, .inl (k 0, 500, .inl f))] := hD
      refine lv_aload_n hx hb dX3_readClause_72 rfl (lv_at hl 2 rfl) ?_
      refine lv_aload_n hx hb dX3_readClause_73 rfl (lv_at hl 3 rfl) ?_
      refine lv_iload_n hx hb dX3_readClause_74 rfl (lv_at hl 1 rfl) ?_
      have hPc := hP.sub (ws' := (c_X3_rr2 k h ni ye ag l4 (l5 ||| ((1 : Int32) <<< ((2 : Int32) &&& 31))) tx qb n (wE f n a) (nI (nS f n a)) w3 w4 w5 (nI (wE f n a)) f)) [0, 1, 2] rfl
      have hDc := hD.sub (ws' := (c_X3_rr2 k h ni ye ag l4 (l5 ||| ((1 : Int32) <<< ((2 : Int32) &&& 31))) tx qb n (wE f n a) (nI (nS f n a)) w3 w4 w5 (nI (wE f n a)) f)) [0, 1, 2] (by decide +kernel) rfl
      refine cl_v (w1 := w_X3_rr2 k h ni ye ag l4 (l5 ||| ((1 : Int32) <<< ((2 : Int32) &&& 31))) tx qb n (wE f n a) (nI (nS f n a)) w3 w4 w5 (nI (wE f n a)) f) (wr := []) (va_runV (As := [.ref tx, .int 2]) (rest := []) ⟨hx, hb, hml, hown, hts⟩ (X3_rr2 l D k H.size h ni ye ag l4 (l5 ||| ((1 : Int32) <<< ((2 : Int32) &&& 31))) tx qb n (wE f n a) (nI (nS f n a)) w3 w4 w5 (nI (wE f n a)) f (hn) (wE_le ha)) (cwV 2 hts gX3_readClause_X3_readRest rfl rfl rfl (by decide +kernel) ⟨Nat.le_of_ble_eq_true rfl, Nat.le_of_ble_eq_true rfl⟩) ⟨PR.blind _ _ _ _ _, va_recv hG.1 hP (ci := 3) (q0 := 0) rfl rfl, PR.pre hPc hDc hG [.ref h, .ref tx, .int 2]⟩ rfl rfl hl.1 rfl (lv_room (Nat.le_of_ble_eq_true rfl)) dX3_readClause_75 ⟨Nat.le_of_ble_eq_true rfl, Nat.le_of_ble_eq_true rfl⟩) hP hD hS hA [0, 1, 2] [] rfl rfl (by decide +kernel) (by decide +kernel) (fun u H locs hq hP hD hS => ?_)
      cases u
      have hP : va_P D vwCl [(h, .inr (3, [.int ni, .int ye, .int 1, .int l4, .int (l5 ||| ((1 : Int32) <<< ((2 : Int32) &&& 31)))])), (tx, .inr (7, [.ref qb, .int (nI n), .int (nI (nS f n a)), .int w3, .int w4, .int w5, .int (nI (wE f n a)), .int (nI (wE f n a))])), (qb, .inl (k 0, 500, .inl f))] H := hP
      have hD : va_D A [(h, .inr (3, [.int ni, .int ye, .int 1, .int l4, .int (l5 ||| ((1 : Int32) <<< ((2 : Int32) &&& 31)))])), (tx, .inr (7, [.ref qb, .int (nI n), .int (nI (nS f n a)), .int w3, .int w4, .int w5, .int (nI (wE f n a)), .int (nI (wE f n a))])), (qb, .inl (k 0, 500, .inl f))] := hD
      refine lv_aload_n hx hb dX3_readClause_78 rfl (lv_at hl 3 rfl) ?_
      have hPc := hP.sub (ws' := (c_X7_readEnd k tx qb n (wE f n a) (nI (nS f n a)) w3 w4 w5 (nI (wE f n a)) f)) [1, 2] rfl
      have hDc := hD.sub (ws' := (c_X7_readEnd k tx qb n (wE f n a) (nI (nS f n a)) w3 w4 w5 (nI (wE f n a)) f)) [1, 2] (by decide +kernel) rfl
      refine cl_v (w1 := w_X7_readEnd k tx qb n (wE f n a) (nI (nS f n a)) w3 w4 w5 (nI (wE f n a)) f) (wr := [(h, .inr (3, [.int ni, .int ye, .int 1, .int l4, .int (l5 ||| ((1 : Int32) <<< ((2 : Int32) &&& 31)))]))]) (va_runV (As := []) (rest := []) ⟨hx, hb, hml, hown, hts⟩ (X7_readEnd l D k H.size tx qb n (wE f n a) (nI (nS f n a)) w3 w4 w5 (nI (wE f n a)) f (hn) ((by assumption))) (cwV 0 hts gX3_readClause_X7_readEnd rfl rfl rfl (by decide +kernel) ⟨Nat.le_of_ble_eq_true rfl, Nat.le_of_ble_eq_true rfl⟩) ⟨PR.blind _ _ _ _ _, va_recv hG.1 hP (ci := 7) (q0 := 1) rfl rfl, PR.pre hPc hDc hG [.ref tx]⟩ rfl rfl hl.1 rfl (lv_room (Nat.le_of_ble_eq_true rfl)) dX3_readClause_79 ⟨Nat.le_of_ble_eq_true rfl, Nat.le_of_ble_eq_true rfl⟩) hP hD hS hA [1, 2] [0] rfl rfl (by decide +kernel) (by decide +kernel) (fun u H locs hq hP hD hS => ?_)
      obtain ⟨zu30, zu31, zu32, zu33⟩ := u
      have hq : zu30 = rn (pB f) n (wE f n a) ∧ ((btw f n zu30 59 59 = 1 ∧ zu30 < n ∧ zu31 = zu30 + 1 ∧ zu32 = w4 ∧ zu33 = w5) ∨ (btw f n zu30 59 59 = 0 ∧ zu31 = zu30 ∧ zu32 = bl w4 1 ∧ zu33 = bla w4 w5 (nI zu30))) := hq
      obtain ⟨rfl, rfl, rfl⟩ := re_x hq
      have hP : va_P D vwCl [(h, .inr (3, [.int ni, .int ye, .int 1, .int l4, .int (l5 ||| ((1 : Int32) <<< ((2 : Int32) &&& 31)))])), (tx, .inr (7, [.ref qb, .int (nI n), .int (nI (nS f n a)), .int w3, .int (eF f n (wE f n a) w4), .int (eA f n (wE f n a) w4 w5), .int (nI (wE f n a)), .int (nI (eE f n (wE f n a)))])), (qb, .inl (k 0, 500, .inl f))] H := hP
      have hD : va_D A [(h, .inr (3, [.int ni, .int ye, .int 1, .int l4, .int (l5 ||| ((1 : Int32) <<< ((2 : Int32) &&& 31)))])), (tx, .inr (7, [.ref qb, .int (nI n), .int (nI (nS f n a)), .int w3, .int (eF f n (wE f n a) w4), .int (eA f n (wE f n a) w4 w5), .int (nI (wE f n a)), .int (nI (eE f n (wE f n a)))])), (qb, .inl (k 0, 500, .inl f))] := hD
      have heE : eE f n (wE f n a) ≤ n := eE_le (by first | omega | exact hnp _)
      refine lv_aload_n hx hb dX3_readClause_82 rfl (lv_at hl 2 rfl) ?_
      refine lv_dup hx hb dX3_readClause_83 rfl ?_
      refine va_get (D := D) (ci := 3) (v := .int l4) (C := RX3) (T := TX3) (N := 5) hx hb hts hi3 hown hG.1 hP 0 rfl rfl 3 (by decide) (hts (.fieldLink RX3 22 "SleptMatters$Law" "clauses" "I") (List.mem_cons_of_mem _ (List.mem_append_left _ (List.mem_append_left _ (List.mem_append_left _ (List.mem_of_getElem? (i := 2) rfl)))))) (fun _ h9 => h9) rfl dX3_readClause_84 ?_
      refine lv_iconst (v := 1) hx hb dX3_readClause_87 (by decide) ?_
      refine lv_iadd hx hb dX3_readClause_88 ?_
      refine va_put (D := D) (ci := 3) (v := .int (l4 + 1)) (ty := .int) (C := RX3) (T := TX3) (N := 5) hx hb hts hi3 tyX3 tyX3_ok nmX3 hown hG.1 hP hD hS 0 rfl rfl 3 (by decide) (hts (.fieldLink RX3 22 "SleptMatters$Law" "clauses" "I") (List.mem_cons_of_mem _ (List.mem_append_left _ (List.mem_append_left _ (List.mem_append_left _ (List.mem_of_getElem? (i := 2) rfl)))))) (fun _ h9 => h9) rfl (by decide +kernel) rfl rfl (Nat.le_of_ble_eq_true rfl) dX3_readClause_89 (fun H locs hP hD hS => ?_)
      have hP : va_P D vwCl [(h, .inr (3, [.int ni, .int ye, .int 1, .int (l4 + 1), .int (l5 ||| ((1 : Int32) <<< ((2 : Int32) &&& 31)))])), (tx, .inr (7, [.ref qb, .int (nI n), .int (nI (nS f n a)), .int w3, .int (eF f n (wE f n a) w4), .int (eA f n (wE f n a) w4 w5), .int (nI (wE f n a)), .int (nI (eE f n (wE f n a)))])), (qb, .inl (k 0, 500, .inl f))] H := hP
      have hD : va_D A [(h, .inr (3, [.int ni, .int ye, .int 1, .int (l4 + 1), .int (l5 ||| ((1 : Int32) <<< ((2 : Int32) &&& 31)))])), (tx, .inr (7, [.ref qb, .int (nI n), .int (nI (nS f n a)), .int w3, .int (eF f n (wE f n a) w4), .int (eA f n (wE f n a) w4 w5), .int (nI (wE f n a)), .int (nI (eE f n (wE f n a)))])), (qb, .inl (k 0, 500, .inl f))] := hD
      have hP9 := hP.sub (ws' := [(h, .inr (3, [.int ni, .int ye, .int 1, .int (l4 + 1), .int (l5 ||| ((1 : Int32) <<< ((2 : Int32) &&& 31)))])), (tx, .inr (7, [.ref qb, .int (nI n), .int (nI (nS f n a)), .int w3, .int (eF f n (wE f n a) w4), .int (eA f n (wE f n a) w4 w5), .int (nI (wE f n a)), .int (nI (eE f n (wE f n a)))])), (qb, .inl (k 0, 500, .inl f))]) [0, 1, 2] rfl
      have hD9 := hD.sub (ws' := [(h, .inr (3, [.int ni, .int ye, .int 1, .int (l4 + 1), .int (l5 ||| ((1 : Int32) <<< ((2 : Int32) &&& 31)))])), (tx, .inr (7, [.ref qb, .int (nI n), .int (nI (nS f n a)), .int w3, .int (eF f n (wE f n a) w4), .int (eA f n (wE f n a) w4 w5), .int (nI (wE f n a)), .int (nI (eE f n (wE f n a)))])), (qb, .inl (k 0, 500, .inl f))]) [0, 1, 2] (by decide +kernel) rfl
      exact W.vret hx hb hr (fun t9 ht _ => ⟨⟨(eE f n (wE f n a), nI (nS f n a), w3, eF f n (wE f n a) w4, eA f n (wE f n a) w4 w5, nI (wE f n a), ni, ye, 1, l4 + 1, l5 ||| ((1 : Int32) <<< ((2 : Int32) &&& 31))), rfl, (lc_2 hk hc).symm, by rw [ht]; exact hP9, hD9⟩, hS.F ht⟩) hS.2.2 dX3_readClause_92
    · skip
      have hc := c29
      refine lv_aload_n hx hb dX3_readClause_48 rfl (lv_at hl 3 rfl) ?_
      refine lv_iconst (v := 3) hx hb dX3_readClause_49 (by decide) ?_
      refine lv_aload_n hx hb dX3_readClause_50 rfl (lv_at hl 3 rfl) ?_
      refine va_get (D := D) (ci := 7) (v := .int (nI (nS f n a))) (C := RX7) (T := TX7) (N := 8) hx hb hts hi7 hown hG.1 hP 1 rfl rfl 2 (by decide) (hts (.fieldLink RX3 51 "SleptMatters$Text" "wordAt" "I") (List.mem_cons_of_mem _ (List.mem_append_left _ (List.mem_append_left _ (List.mem_append_left _ (List.mem_of_getElem? (i := 0) rfl)))))) (fun _ h9 => h9) rfl dX3_readClause_51 ?_
      have hPc := hP.sub (ws' := (c_X7_blame k tx qb (nI n) (nI (nS f n a)) w3 w4 w5 (nI (wE f n a)) (nI (wE f n a)) 3 (nI (nS f n a)))) [1] rfl
      have hDc := hD.sub (ws' := (c_X7_blame k tx qb (nI n) (nI (nS f n a)) w3 w4 w5 (nI (wE f n a)) (nI (wE f n a)) 3 (nI (nS f n a)))) [1] (by decide +kernel) rfl
      refine cl_v (w1 := w_X7_blame k tx qb (nI n) (nI (nS f n a)) w3 w4 w5 (nI (wE f n a)) (nI (wE f n a)) 3 (nI (nS f n a))) (wr := [(h, .inr (3, [.int ni, .int ye, .int ag, .int l4, .int l5])), (qb, .inl (k 0, 500, .inl f))]) (va_runV (As := [.int 3, .int (nI (nS f n a))]) (rest := []) ⟨hx, hb, hml, hown, hts⟩ (X7_blame l D k H.size tx qb (nI n) (nI (nS f n a)) w3 w4 w5 (nI (wE f n a)) (nI (wE f n a)) 3 (nI (nS f n a)) ) (cwV 2 hts gX3_readClause_X7_blame rfl rfl rfl (by decide +kernel) ⟨Nat.le_of_ble_eq_true rfl, Nat.le_of_ble_eq_true rfl⟩) ⟨PR.blind _ _ _ _ _, va_recv hG.1 hP (ci := 7) (q0 := 1) rfl rfl, PR.pre hPc hDc hG [.ref tx, .int 3, .int (nI (nS f n a))]⟩ rfl rfl hl.1 rfl (lv_room (Nat.le_of_ble_eq_true rfl)) dX3_readClause_54 ⟨Nat.le_of_ble_eq_true rfl, Nat.le_of_ble_eq_true rfl⟩) hP hD hS hA [1] [0, 2] rfl rfl (by decide +kernel) (by decide +kernel) (fun u H locs hq hP hD hS => ?_)
      obtain ⟨zu34, zu35⟩ := u
      have hq : zu34 = bl w4 3 ∧ zu35 = bla w4 w5 (nI (nS f n a)) := hq
      obtain ⟨rfl, rfl⟩ := hq
      have hP : va_P D vwCl [(h, .inr (3, [.int ni, .int ye, .int ag, .int l4, .int l5])), (qb, .inl (k 0, 500, .inl f)), (tx, .inr (7, [.ref qb, .int (nI n), .int (nI (nS f n a)), .int w3, .int (bl w4 3), .int (bla w4 w5 (nI (nS f n a))), .int (nI (wE f n a)), .int (nI (wE f n a))]))] H := hP
      have hD : va_D A [(h, .inr (3, [.int ni, .int ye, .int ag, .int l4, .int l5])), (qb, .inl (k 0, 500, .inl f)), (tx, .inr (7, [.ref qb, .int (nI n), .int (nI (nS f n a)), .int w3, .int (bl w4 3), .int (bla w4 w5 (nI (nS f n a))), .int (nI (wE f n a)), .int (nI (wE f n a))]))] := hD
      refine lv_goto (tgt := 92) hx hb dX3_readClause_57 (by decide) ?_
      have hP9 := hP.sub (ws' := [(h, .inr (3, [.int ni, .int ye, .int ag, .int l4, .int l5])), (tx, .inr (7, [.ref qb, .int (nI n), .int (nI (nS f n a)), .int w3, .int (bl w4 3), .int (bla w4 w5 (nI (nS f n a))), .int (nI (wE f n a)), .int (nI (wE f n a))])), (qb, .inl (k 0, 500, .inl f))]) [0, 2, 1] rfl
      have hD9 := hD.sub (ws' := [(h, .inr (3, [.int ni, .int ye, .int ag, .int l4, .int l5])), (tx, .inr (7, [.ref qb, .int (nI n), .int (nI (nS f n a)), .int w3, .int (bl w4 3), .int (bla w4 w5 (nI (nS f n a))), .int (nI (wE f n a)), .int (nI (wE f n a))])), (qb, .inl (k 0, 500, .inl f))]) [0, 2, 1] (by decide +kernel) rfl
      exact W.vret hx hb hr (fun t9 ht _ => ⟨⟨(wE f n a, nI (nS f n a), w3, bl w4 3, bla w4 w5 (nI (nS f n a)), nI (wE f n a), ni, ye, ag, l4, l5), rfl, (lf_2 hk hc).symm, by rw [ht]; exact hP9, hD9⟩, hS.F ht⟩) hS.2.2 dX3_readClause_92
  · skip
    refine tp_i (y := 3) hk ?_
    refine lv_istore_n (lv' := [(2, .int 3), (0, .ref h), (1, .ref tx)]) hx hb dX3_readClause_8 rfl hl (by decide) rfl (fun ls hl => ?_)
    refine lv_iload_n hx hb dX3_readClause_9 rfl (lv_at hl 0 rfl) ?_
    refine lv_iconst (v := 3) hx hb dX3_readClause_10 (by decide) ?_
    refine lv_icmp_ne (x := 3) (y := 3) (tgt := 18) hx hb dX3_readClause_11 (by decide) (fun c36 => absurd c36 (by decide)) (fun c36 => ?_)
    refine lv_iconst (v := 2) hx hb dX3_readClause_14 (by decide) ?_
    refine lv_goto (tgt := 19) hx hb dX3_readClause_15 (by decide) ?_
    refine lv_istore_n (lv' := [(3, .int 2), (2, .int 3), (0, .ref h), (1, .ref tx)]) hx hb dX3_readClause_19 rfl hl (by decide) rfl (fun ls hl => ?_)
    refine lv_iload_n hx hb dX3_readClause_20 rfl (lv_at hl 1 rfl) ?_
    refine lv_iconst (v := (-1)) hx hb dX3_readClause_21 (by decide) ?_
    refine lv_icmp_ne (x := 3) (y := (-1)) (tgt := 37) hx hb dX3_readClause_22 (by decide) (fun c37 => ?_) (fun c37 => absurd c37 (by decide))
    refine lv_aload_n hx hb dX3_readClause_37 rfl (lv_at hl 2 rfl) ?_
    refine va_get (D := D) (ci := 3) (v := .int l5) (C := RX3) (T := TX3) (N := 5) hx hb hts hi3 hown hG.1 hP 0 rfl rfl 4 (by decide) (hts (.fieldLink RX3 25 "SleptMatters$Law" "toldClauses" "I") (List.mem_cons_of_mem _ (List.mem_append_left _ (List.mem_append_left _ (List.mem_append_left _ (List.mem_of_getElem? (i := 1) rfl)))))) (fun _ h9 => h9) rfl dX3_readClause_38 ?_
    refine lv_iload_n hx hb dX3_readClause_41 rfl (lv_at hl 0 rfl) ?_
    have hPc := hP.sub (ws' := (c_X9_isIn k l5 2)) [] rfl
    refine vp_callSi (va_Run.run (va_runSN (As := [.int l5, .int 2]) (rest := []) ⟨hx, hb, hml, hown, hts⟩ (X9_isIn l D k l5 2 ) ⟨(va_cnB (own := RX3) (index := 58) (y := yX9_isIn) (host := RX9) 2 hts ggX3_readClause_X9_isIn rfl rfl rfl (hG.2.1 _ (List.mem_of_getElem? (i := 6) rfl)) (hts (.initialized RX9) (List.mem_cons_of_mem _ (List.mem_append_left _ (List.mem_append_left _ (List.mem_append_right _ (List.mem_append_right _ (List.mem_append_right _ (List.mem_append_left _ (List.mem_of_getElem? (i := 17) rfl))))))))) (by decide +kernel) ⟨Nat.le_of_ble_eq_true rfl, Nat.le_of_ble_eq_true rfl⟩), hts (.static yX9_isIn) (List.mem_cons_of_mem _ (List.mem_append_left _ (List.mem_append_left _ (List.mem_append_right _ (List.mem_append_right _ (List.mem_append_right _ (List.mem_append_left _ (List.mem_of_getElem? (i := 16) rfl)))))))), trivial⟩ ⟨PS.blind _ _ _ _, PS.pre hPc hG [.int l5, .int 2]⟩ rfl rfl hl.1 rfl (lv_room (Nat.le_of_ble_eq_true rfl)) dX3_readClause_42 ⟨Nat.le_of_ble_eq_true rfl, Nat.le_of_ble_eq_true rfl⟩)) (fun r hq => ?_)
    generalize r = y38 at hq ⊢
    have hq : y38 = inS l5 2 := hq
    refine tp_i (y := inS l5 2) (hq) ?_
    refine lv_if_eq (x := inS l5 2) (tgt := 60) hx hb dX3_readClause_45 (by decide) (fun c39 => ?_) (fun c39 => ?_)
    · skip
      have hc := c39
      have hnp : wE f n a ≤ n := wE_le ha
      have hnp2 : nE f n (wE f n a) ≤ n := nE_le hnp
      refine lv_aload_n hx hb dX3_readClause_60 rfl (lv_at hl 2 rfl) ?_
      refine lv_dup hx hb dX3_readClause_61 rfl ?_
      refine va_get (D := D) (ci := 3) (v := .int l5) (C := RX3) (T := TX3) (N := 5) hx hb hts hi3 hown hG.1 hP 0 rfl rfl 4 (by decide) (hts (.fieldLink RX3 25 "SleptMatters$Law" "toldClauses" "I") (List.mem_cons_of_mem _ (List.mem_append_left _ (List.mem_append_left _ (List.mem_append_left _ (List.mem_of_getElem? (i := 1) rfl)))))) (fun _ h9 => h9) rfl dX3_readClause_62 ?_
      refine lv_iconst (v := 1) hx hb dX3_readClause_65 (by decide) ?_
      refine lv_iload_n hx hb dX3_readClause_66 rfl (lv_at hl 0 rfl) ?_
      refine lv_ishl hx hb dX3_readClause_67 ?_
      refine lv_ior hx hb dX3_readClause_68 ?_
      refine va_put (D := D) (ci := 3) (v := .int (l5 ||| ((1 : Int32) <<< ((2 : Int32) &&& 31)))) (ty := .int) (C := RX3) (T := TX3) (N := 5) hx hb hts hi3 tyX3 tyX3_ok nmX3 hown hG.1 hP hD hS 0 rfl rfl 4 (by decide) (hts (.fieldLink RX3 25 "SleptMatters$Law" "toldClauses" "I") (List.mem_cons_of_mem _ (List.mem_append_left _ (List.mem_append_left _ (List.mem_append_left _ (List.mem_of_getElem? (i := 1) rfl)))))) (fun _ h9 => h9) rfl (by decide +kernel) rfl rfl (Nat.le_of_ble_eq_true rfl) dX3_readClause_69 (fun H locs hP hD hS => ?_)
      have hP : va_P D vwCl [(h, .inr (3, [.int ni, .int ye, .int ag, .int l4, .int (l5 ||| ((1 : Int32) <<< ((2 : Int32) &&& 31)))])), (tx, .inr (7, [.ref qb, .int (nI n), .int (nI (nS f n a)), .int w3, .int w4, .int w5, .int (nI (wE f n a)), .int (nI (wE f n a))])), (qb, .inl (k 0, 500, .inl f))] H := hP
      have hD : va_D A [(h, .inr (3, [.int ni, .int ye, .int ag, .int l4, .int (l5 ||| ((1 : Int32) <<< ((2 : Int32) &&& 31)))])), (tx, .inr (7, [.ref qb, .int (nI n), .int (nI (nS f n a)), .int w3, .int w4, .int w5, .int (nI (wE f n a)), .int (nI (wE f n a))])), (qb, .inl (k 0, 500, .inl f))] := hD
      refine lv_aload_n hx hb dX3_readClause_72 rfl (lv_at hl 2 rfl) ?_
      refine lv_aload_n hx hb dX3_readClause_73 rfl (lv_at hl 3 rfl) ?_
      refine lv_iload_n hx hb dX3_readClause_74 rfl (lv_at hl 1 rfl) ?_
      have hPc := hP.sub (ws' := (c_X3_rr3 k h ni ye ag l4 (l5 ||| ((1 : Int32) <<< ((2 : Int32) &&& 31))) tx qb n (wE f n a) (nI (nS f n a)) w3 w4 w5 (nI (wE f n a)) f)) [0, 1, 2] rfl
      have hDc := hD.sub (ws' := (c_X3_rr3 k h ni ye ag l4 (l5 ||| ((1 : Int32) <<< ((2 : Int32) &&& 31))) tx qb n (wE f n a) (nI (nS f n a)) w3 w4 w5 (nI (wE f n a)) f)) [0, 1, 2] (by decide +kernel) rfl
      refine cl_v (w1 := w_X3_rr3 k h ni ye ag l4 (l5 ||| ((1 : Int32) <<< ((2 : Int32) &&& 31))) tx qb n (wE f n a) (nI (nS f n a)) w3 w4 w5 (nI (wE f n a)) f) (wr := []) (va_runV (As := [.ref tx, .int 3]) (rest := []) ⟨hx, hb, hml, hown, hts⟩ (X3_rr3 l D k H.size h ni ye ag l4 (l5 ||| ((1 : Int32) <<< ((2 : Int32) &&& 31))) tx qb n (wE f n a) (nI (nS f n a)) w3 w4 w5 (nI (wE f n a)) f (hn) (wE_le ha)) (cwV 2 hts gX3_readClause_X3_readRest rfl rfl rfl (by decide +kernel) ⟨Nat.le_of_ble_eq_true rfl, Nat.le_of_ble_eq_true rfl⟩) ⟨PR.blind _ _ _ _ _, va_recv hG.1 hP (ci := 3) (q0 := 0) rfl rfl, PR.pre hPc hDc hG [.ref h, .ref tx, .int 3]⟩ rfl rfl hl.1 rfl (lv_room (Nat.le_of_ble_eq_true rfl)) dX3_readClause_75 ⟨Nat.le_of_ble_eq_true rfl, Nat.le_of_ble_eq_true rfl⟩) hP hD hS hA [0, 1, 2] [] rfl rfl (by decide +kernel) (by decide +kernel) (fun u H locs hq hP hD hS => ?_)
      cases u
      have hP : va_P D vwCl [(h, .inr (3, [.int ni, .int ye, .int 0, .int l4, .int (l5 ||| ((1 : Int32) <<< ((2 : Int32) &&& 31)))])), (tx, .inr (7, [.ref qb, .int (nI n), .int (nI (nS f n a)), .int w3, .int w4, .int w5, .int (nI (wE f n a)), .int (nI (wE f n a))])), (qb, .inl (k 0, 500, .inl f))] H := hP
      have hD : va_D A [(h, .inr (3, [.int ni, .int ye, .int 0, .int l4, .int (l5 ||| ((1 : Int32) <<< ((2 : Int32) &&& 31)))])), (tx, .inr (7, [.ref qb, .int (nI n), .int (nI (nS f n a)), .int w3, .int w4, .int w5, .int (nI (wE f n a)), .int (nI (wE f n a))])), (qb, .inl (k 0, 500, .inl f))] := hD
      refine lv_aload_n hx hb dX3_readClause_78 rfl (lv_at hl 3 rfl) ?_
      have hPc := hP.sub (ws' := (c_X7_readEnd k tx qb n (wE f n a) (nI (nS f n a)) w3 w4 w5 (nI (wE f n a)) f)) [1, 2] rfl
      have hDc := hD.sub (ws' := (c_X7_readEnd k tx qb n (wE f n a) (nI (nS f n a)) w3 w4 w5 (nI (wE f n a)) f)) [1, 2] (by decide +kernel) rfl
      refine cl_v (w1 := w_X7_readEnd k tx qb n (wE f n a) (nI (nS f n a)) w3 w4 w5 (nI (wE f n a)) f) (wr := [(h, .inr (3, [.int ni, .int ye, .int 0, .int l4, .int (l5 ||| ((1 : Int32) <<< ((2 : Int32) &&& 31)))]))]) (va_runV (As := []) (rest := []) ⟨hx, hb, hml, hown, hts⟩ (X7_readEnd l D k H.size tx qb n (wE f n a) (nI (nS f n a)) w3 w4 w5 (nI (wE f n a)) f (hn) ((by assumption))) (cwV 0 hts gX3_readClause_X7_readEnd rfl rfl rfl (by decide +kernel) ⟨Nat.le_of_ble_eq_true rfl, Nat.le_of_ble_eq_true rfl⟩) ⟨PR.blind _ _ _ _ _, va_recv hG.1 hP (ci := 7) (q0 := 1) rfl rfl, PR.pre hPc hDc hG [.ref tx]⟩ rfl rfl hl.1 rfl (lv_room (Nat.le_of_ble_eq_true rfl)) dX3_readClause_79 ⟨Nat.le_of_ble_eq_true rfl, Nat.le_of_ble_eq_true rfl⟩) hP hD hS hA [1, 2] [0] rfl rfl (by decide +kernel) (by decide +kernel) (fun u H locs hq hP hD hS => ?_)
      obtain ⟨zu40, zu41, zu42, zu43⟩ := u
      have hq : zu40 = rn (pB f) n (wE f n a) ∧ ((btw f n zu40 59 59 = 1 ∧ zu40 < n ∧ zu41 = zu40 + 1 ∧ zu42 = w4 ∧ zu43 = w5) ∨ (btw f n zu40 59 59 = 0 ∧ zu41 = zu40 ∧ zu42 = bl w4 1 ∧ zu43 = bla w4 w5 (nI zu40))) := hq
      obtain ⟨rfl, rfl, rfl⟩ := re_x hq
      have hP : va_P D vwCl [(h, .inr (3, [.int ni, .int ye, .int 0, .int l4, .int (l5 ||| ((1 : Int32) <<< ((2 : Int32) &&& 31)))])), (tx, .inr (7, [.ref qb, .int (nI n), .int (nI (nS f n a)), .int w3, .int (eF f n (wE f n a) w4), .int (eA f n (wE f n a) w4 w5), .int (nI (wE f n a)), .int (nI (eE f n (wE f n a)))])), (qb, .inl (k 0, 500, .inl f))] H := hP
      have hD : va_D A [(h, .inr (3, [.int ni, .int ye, .int 0, .int l4, .int (l5 ||| ((1 : Int32) <<< ((2 : Int32) &&& 31)))])), (tx, .inr (7, [.ref qb, .int (nI n), .int (nI (nS f n a)), .int w3, .int (eF f n (wE f n a) w4), .int (eA f n (wE f n a) w4 w5), .int (nI (wE f n a)), .int (nI (eE f n (wE f n a)))])), (qb, .inl (k 0, 500, .inl f))] := hD
      have heE : eE f n (wE f n a) ≤ n := eE_le (by first | omega | exact hnp _)
      refine lv_aload_n hx hb dX3_readClause_82 rfl (lv_at hl 2 rfl) ?_
      refine lv_dup hx hb dX3_readClause_83 rfl ?_
      refine va_get (D := D) (ci := 3) (v := .int l4) (C := RX3) (T := TX3) (N := 5) hx hb hts hi3 hown hG.1 hP 0 rfl rfl 3 (by decide) (hts (.fieldLink RX3 22 "SleptMatters$Law" "clauses" "I") (List.mem_cons_of_mem _ (List.mem_append_left _ (List.mem_append_left _ (List.mem_append_left _ (List.mem_of_getElem? (i := 2) rfl)))))) (fun _ h9 => h9) rfl dX3_readClause_84 ?_
      refine lv_iconst (v := 1) hx hb dX3_readClause_87 (by decide) ?_
      refine lv_iadd hx hb dX3_readClause_88 ?_
      refine va_put (D := D) (ci := 3) (v := .int (l4 + 1)) (ty := .int) (C := RX3) (T := TX3) (N := 5) hx hb hts hi3 tyX3 tyX3_ok nmX3 hown hG.1 hP hD hS 0 rfl rfl 3 (by decide) (hts (.fieldLink RX3 22 "SleptMatters$Law" "clauses" "I") (List.mem_cons_of_mem _ (List.mem_append_left _ (List.mem_append_left _ (List.mem_append_left _ (List.mem_of_getElem? (i := 2) rfl)))))) (fun _ h9 => h9) rfl (by decide +kernel) rfl rfl (Nat.le_of_ble_eq_true rfl) dX3_readClause_89 (fun H locs hP hD hS => ?_)
      have hP : va_P D vwCl [(h, .inr (3, [.int ni, .int ye, .int 0, .int (l4 + 1), .int (l5 ||| ((1 : Int32) <<< ((2 : Int32) &&& 31)))])), (tx, .inr (7, [.ref qb, .int (nI n), .int (nI (nS f n a)), .int w3, .int (eF f n (wE f n a) w4), .int (eA f n (wE f n a) w4 w5), .int (nI (wE f n a)), .int (nI (eE f n (wE f n a)))])), (qb, .inl (k 0, 500, .inl f))] H := hP
      have hD : va_D A [(h, .inr (3, [.int ni, .int ye, .int 0, .int (l4 + 1), .int (l5 ||| ((1 : Int32) <<< ((2 : Int32) &&& 31)))])), (tx, .inr (7, [.ref qb, .int (nI n), .int (nI (nS f n a)), .int w3, .int (eF f n (wE f n a) w4), .int (eA f n (wE f n a) w4 w5), .int (nI (wE f n a)), .int (nI (eE f n (wE f n a)))])), (qb, .inl (k 0, 500, .inl f))] := hD
      have hP9 := hP.sub (ws' := [(h, .inr (3, [.int ni, .int ye, .int 0, .int (l4 + 1), .int (l5 ||| ((1 : Int32) <<< ((2 : Int32) &&& 31)))])), (tx, .inr (7, [.ref qb, .int (nI n), .int (nI (nS f n a)), .int w3, .int (eF f n (wE f n a) w4), .int (eA f n (wE f n a) w4 w5), .int (nI (wE f n a)), .int (nI (eE f n (wE f n a)))])), (qb, .inl (k 0, 500, .inl f))]) [0, 1, 2] rfl
      have hD9 := hD.sub (ws' := [(h, .inr (3, [.int ni, .int ye, .int 0, .int (l4 + 1), .int (l5 ||| ((1 : Int32) <<< ((2 : Int32) &&& 31)))])), (tx, .inr (7, [.ref qb, .int (nI n), .int (nI (nS f n a)), .int w3, .int (eF f n (wE f n a) w4), .int (eA f n (wE f n a) w4 w5), .int (nI (wE f n a)), .int (nI (eE f n (wE f n a)))])), (qb, .inl (k 0, 500, .inl f))]) [0, 1, 2] (by decide +kernel) rfl
      exact W.vret hx hb hr (fun t9 ht _ => ⟨⟨(eE f n (wE f n a), nI (nS f n a), w3, eF f n (wE f n a) w4, eA f n (wE f n a) w4 w5, nI (wE f n a), ni, ye, 0, l4 + 1, l5 ||| ((1 : Int32) <<< ((2 : Int32) &&& 31))), rfl, (lc_3 hk hc).symm, by rw [ht]; exact hP9, hD9⟩, hS.F ht⟩) hS.2.2 dX3_readClause_92
    · skip
      have hc := c39
      refine lv_aload_n hx hb dX3_readClause_48 rfl (lv_at hl 3 rfl) ?_
      refine lv_iconst (v := 3) hx hb dX3_readClause_49 (by decide) ?_
      refine lv_aload_n hx hb dX3_readClause_50 rfl (lv_at hl 3 rfl) ?_
      refine va_get (D := D) (ci := 7) (v := .int (nI (nS f n a))) (C := RX7) (T := TX7) (N := 8) hx hb hts hi7 hown hG.1 hP 1 rfl rfl 2 (by decide) (hts (.fieldLink RX3 51 "SleptMatters$Text" "wordAt" "I") (List.mem_cons_of_mem _ (List.mem_append_left _ (List.mem_append_left _ (List.mem_append_left _ (List.mem_of_getElem? (i := 0) rfl)))))) (fun _ h9 => h9) rfl dX3_readClause_51 ?_
      have hPc := hP.sub (ws' := (c_X7_blame k tx qb (nI n) (nI (nS f n a)) w3 w4 w5 (nI (wE f n a)) (nI (wE f n a)) 3 (nI (nS f n a)))) [1] rfl
      have hDc := hD.sub (ws' := (c_X7_blame k tx qb (nI n) (nI (nS f n a)) w3 w4 w5 (nI (wE f n a)) (nI (wE f n a)) 3 (nI (nS f n a)))) [1] (by decide +kernel) rfl
      refine cl_v (w1 := w_X7_blame k tx qb (nI n) (nI (nS f n a)) w3 w4 w5 (nI (wE f n a)) (nI (wE f n a)) 3 (nI (nS f n a))) (wr := [(h, .inr (3, [.int ni, .int ye, .int ag, .int l4, .int l5])), (qb, .inl (k 0, 500, .inl f))]) (va_runV (As := [.int 3, .int (nI (nS f n a))]) (rest := []) ⟨hx, hb, hml, hown, hts⟩ (X7_blame l D k H.size tx qb (nI n) (nI (nS f n a)) w3 w4 w5 (nI (wE f n a)) (nI (wE f n a)) 3 (nI (nS f n a)) ) (cwV 2 hts gX3_readClause_X7_blame rfl rfl rfl (by decide +kernel) ⟨Nat.le_of_ble_eq_true rfl, Nat.le_of_ble_eq_true rfl⟩) ⟨PR.blind _ _ _ _ _, va_recv hG.1 hP (ci := 7) (q0 := 1) rfl rfl, PR.pre hPc hDc hG [.ref tx, .int 3, .int (nI (nS f n a))]⟩ rfl rfl hl.1 rfl (lv_room (Nat.le_of_ble_eq_true rfl)) dX3_readClause_54 ⟨Nat.le_of_ble_eq_true rfl, Nat.le_of_ble_eq_true rfl⟩) hP hD hS hA [1] [0, 2] rfl rfl (by decide +kernel) (by decide +kernel) (fun u H locs hq hP hD hS => ?_)
      obtain ⟨zu44, zu45⟩ := u
      have hq : zu44 = bl w4 3 ∧ zu45 = bla w4 w5 (nI (nS f n a)) := hq
      obtain ⟨rfl, rfl⟩ := hq
      have hP : va_P D vwCl [(h, .inr (3, [.int ni, .int ye, .int ag, .int l4, .int l5])), (qb, .inl (k 0, 500, .inl f)), (tx, .inr (7, [.ref qb, .int (nI n), .int (nI (nS f n a)), .int w3, .int (bl w4 3), .int (bla w4 w5 (nI (nS f n a))), .int (nI (wE f n a)), .int (nI (wE f n a))]))] H := hP
      have hD : va_D A [(h, .inr (3, [.int ni, .int ye, .int ag, .int l4, .int l5])), (qb, .inl (k 0, 500, .inl f)), (tx, .inr (7, [.ref qb, .int (nI n), .int (nI (nS f n a)), .int w3, .int (bl w4 3), .int (bla w4 w5 (nI (nS f n a))), .int (nI (wE f n a)), .int (nI (wE f n a))]))] := hD
      refine lv_goto (tgt := 92) hx hb dX3_readClause_57 (by decide) ?_
      have hP9 := hP.sub (ws' := [(h, .inr (3, [.int ni, .int ye, .int ag, .int l4, .int l5])), (tx, .inr (7, [.ref qb, .int (nI n), .int (nI (nS f n a)), .int w3, .int (bl w4 3), .int (bla w4 w5 (nI (nS f n a))), .int (nI (wE f n a)), .int (nI (wE f n a))])), (qb, .inl (k 0, 500, .inl f))]) [0, 2, 1] rfl
      have hD9 := hD.sub (ws' := [(h, .inr (3, [.int ni, .int ye, .int ag, .int l4, .int l5])), (tx, .inr (7, [.ref qb, .int (nI n), .int (nI (nS f n a)), .int w3, .int (bl w4 3), .int (bla w4 w5 (nI (nS f n a))), .int (nI (wE f n a)), .int (nI (wE f n a))])), (qb, .inl (k 0, 500, .inl f))]) [0, 2, 1] (by decide +kernel) rfl
      exact W.vret hx hb hr (fun t9 ht _ => ⟨⟨(wE f n a, nI (nS f n a), w3, bl w4 3, bla w4 w5 (nI (nS f n a)), nI (wE f n a), ni, ye, ag, l4, l5), rfl, (lf_3 hk hc).symm, by rw [ht]; exact hP9, hD9⟩, hS.F ht⟩) hS.2.2 dX3_readClause_92

abbrev c_X3_readFrom (k : Nat → ClassId) (z : Nat → Nat) (h : Nat) (ni : Int32) (ye : Int32) (ag : Int32) (l4 : Int32) (l5 : Int32) (tx : Nat) (qb : Nat) (n : Nat) (w2 : Int32) (w3 : Int32) (w4 : Int32) (w5 : Int32) (w6 : Int32) (w7 : Int32) (f : Nat → Int32) : va_W := [(h, .inr (3, [.int ni, .int ye, .int ag, .int l4, .int l5])), (tx, .inr (7, [.ref qb, .int (nI n), .int w2, .int w3, .int w4, .int w5, .int w6, .int w7])), (qb, .inl (k 0, 500, .inl f))]
abbrev r_X3_readFrom : Room := { frames := 7, cells := 0, slots := 0, locals := 150 }
def w_X3_readFrom (k : Nat → ClassId) (z : Nat → Nat) (h : Nat) (ni : Int32) (ye : Int32) (ag : Int32) (l4 : Int32) (l5 : Int32) (tx : Nat) (qb : Nat) (n : Nat) (w2 : Int32) (w3 : Int32) (w4 : Int32) (w5 : Int32) (w6 : Int32) (w7 : Int32) (f : Nat → Int32) : Nat × Int32 × Int32 × Int32 × Int32 × Int32 × Int32 × Int32 × Int32 × Int32 × Int32 × Int32 → va_W := fun u => match u with | (a9, x2, x3, x4, x5, x6, n9, y9, g9, m4, m5, y0) => [(h, .inr (3, [.int n9, .int y9, .int g9, .int m4, .int m5])), (tx, .inr (7, [.ref qb, .int (nI n), .int x2, .int x3, .int x4, .int x5, .int x6, .int (nI a9)])), (qb, .inl (k 0, 500, .inl f))]
def p_X3_readFrom (k : Nat → ClassId) (z : Nat → Nat) (h : Nat) (ni : Int32) (ye : Int32) (ag : Int32) (l4 : Int32) (l5 : Int32) (tx : Nat) (qb : Nat) (n : Nat) (w2 : Int32) (w3 : Int32) (w4 : Int32) (w5 : Int32) (w6 : Int32) (w7 : Int32) (f : Nat → Int32) : Nat × Int32 × Int32 × Int32 × Int32 × Int32 × Int32 × Int32 × Int32 × Int32 × Int32 × Int32 → Prop := fun (u : Nat × Int32 × Int32 × Int32 × Int32 × Int32 × Int32 × Int32 × Int32 × Int32 × Int32 × Int32) => match u with | (a9, x2, x3, x4, x5, x6, n9, y9, g9, m4, m5, y0) => (a9, x2, x3, x4, x5, x6, n9, y0, g9, m4, m5) = ldS f n 200 (0, w2, w3, 0, -1, w6, 7, -1, 1, 0, 0) ∧ LI n (a9, x2, x3, x4, x5, x6, n9, y0, g9, m4, m5) ∧ y9 = yeF n9 y0
abbrev q_X3_readFrom (D : va_G) (k : Nat → ClassId) (z : Nat → Nat) (h : Nat) (ni : Int32) (ye : Int32) (ag : Int32) (l4 : Int32) (l5 : Int32) (tx : Nat) (qb : Nat) (n : Nat) (w2 : Int32) (w3 : Int32) (w4 : Int32) (w5 : Int32) (w6 : Int32) (w7 : Int32) (f : Nat → Int32) (A : Nat → Prop) : Array Value → State → Outcome → State → Prop := va_Qv (p_X3_readFrom k z h ni ye ag l4 l5 tx qb n w2 w3 w4 w5 w6 w7 f) (fun u9 t9 => BO D (w_X3_readFrom k z h ni ye ag l4 l5 tx qb n w2 w3 w4 w5 w6 w7 f u9) A t9) A
set_option maxHeartbeats 20000000 in
set_option maxRecDepth 100000 in
theorem X3_readFrom (l : Launch) (D : va_G) (k : Nat → ClassId) (sz : Nat) (z : Nat → Nat) (h : Nat) (ni : Int32) (ye : Int32) (ag : Int32) (l4 : Int32) (l5 : Int32) (tx : Nat) (qb : Nat) (n : Nat) (w2 : Int32) (w3 : Int32) (w4 : Int32) (w5 : Int32) (w6 : Int32) (w7 : Int32) (f : Nat → Int32) (hn : n ≤ 500) : Met l yX3_readFrom wsX3_readFrom r_X3_readFrom (va_Pc [.ref h, .ref tx] (PT D k (c_X3_readFrom k z h ni ye ag l4 l5 tx qb n w2 w3 w4 w5 w6 w7 f) sz z)) (q_X3_readFrom D k z h ni ye ag l4 l5 tx qb n w2 w3 w4 w5 w6 w7 f (va_A (c_X3_readFrom k z h ni ye ag l4 l5 tx qb n w2 w3 w4 w5 w6 w7 f) sz)) 0 0 (va_A (c_X3_readFrom k z h ni ye ag l4 l5 tx qb n w2 w3 w4 w5 w6 w7 f) sz) := by
  refine Met.ofW (cc := cX3_readFrom) (maxL := 3) (ret := none) (by decide) rfl ?_
  intro p e s m args below meth c s₁ B hml hv
  obtain ⟨rfl, ⟨hsz, hP, hG, hD0⟩, hZ⟩ := hv
  have hx := B.exec
  have hb := B.bytes
  have hr := B.returns
  have hts := atoms_spec (ws := wsX3_readFrom) B.pre
  have hown : s.vm.findClass RX3 = some m.cls := findClass_of_methodNamed B.named
  have hlocks := B.notSynchronized
  have hi3 : ∀ w ∈ wsX30, w ∈ wsX3_readFrom := fun _ h => List.mem_cons_of_mem _ (List.mem_append_left _ (List.mem_append_right _ h))
  have hi7 : ∀ w ∈ wsX70, w ∈ wsX3_readFrom := fun _ h => List.mem_cons_of_mem _ (List.mem_append_right _ h)
  subst hsz
  have hD := hD0.self (sz := s.heap.size)
  generalize hAe : va_A (c_X3_readFrom k z h ni ye ag l4 l5 tx qb n w2 w3 w4 w5 w6 w7 f) s.heap.size = A at hD hZ ⊢
  have hA : ∀ q : Nat, s.heap.size ≤ q → A q := fun q h => by rw [← hAe]; exact Or.inr h
  have hS : va_S A s.heap s.heap [] := va_S.rf
  have hP : va_P D vwCl [(h, .inr (3, [.int ni, .int ye, .int ag, .int l4, .int l5])), (tx, .inr (7, [.ref qb, .int (nI n), .int w2, .int w3, .int w4, .int w5, .int w6, .int w7])), (qb, .inl (k 0, 500, .inl f))] s.heap := hP
  have hD : va_D A [(h, .inr (3, [.int ni, .int ye, .int ag, .int l4, .int l5])), (tx, .inr (7, [.ref qb, .int (nI n), .int w2, .int w3, .int w4, .int w5, .int w6, .int w7])), (qb, .inl (k 0, 500, .inl f))] := hD
  have hl := lv_entry ([.ref h, .ref tx]) (n := 3) (Nat.le_of_ble_eq_true rfl)
  rw [lg_entry_eq]
  generalize (lg_sl ([.ref h, .ref tx]) ++ List.replicate (3 - (lg_sl ([.ref h, .ref tx])).length) Slot.unset).toArray = ls at hl ⊢
  have hl : lv_has ls 3 [(0, .ref h), (1, .ref tx)] := hl
  refine lv_aload_n hx hb dX3_readFrom_0 rfl (lv_at hl 0 rfl) ?_
  refine lv_bipush (v := 7) hx hb dX3_readFrom_1 (by decide) ?_
  refine va_put (D := D) (ci := 3) (v := .int 7) (ty := .int) (C := RX3) (T := TX3) (N := 5) hx hb hts hi3 tyX3 tyX3_ok nmX3 hown hG.1 hP hD hS 0 rfl rfl 0 (by decide) (hts (.fieldLink RX3 9 "SleptMatters$Law" "nights" "I") (List.mem_cons_of_mem _ (List.mem_append_left _ (List.mem_append_left _ (List.mem_append_left _ (List.mem_of_getElem? (i := 0) rfl)))))) (fun _ h9 => h9) rfl (by decide +kernel) rfl rfl (Nat.le_of_ble_eq_true rfl) dX3_readFrom_3 (fun H locs hP hD hS => ?_)
  have hP : va_P D vwCl [(h, .inr (3, [.int 7, .int ye, .int ag, .int l4, .int l5])), (tx, .inr (7, [.ref qb, .int (nI n), .int w2, .int w3, .int w4, .int w5, .int w6, .int w7])), (qb, .inl (k 0, 500, .inl f))] H := hP
  have hD : va_D A [(h, .inr (3, [.int 7, .int ye, .int ag, .int l4, .int l5])), (tx, .inr (7, [.ref qb, .int (nI n), .int w2, .int w3, .int w4, .int w5, .int w6, .int w7])), (qb, .inl (k 0, 500, .inl f))] := hD
  refine lv_aload_n hx hb dX3_readFrom_6 rfl (lv_at hl 0 rfl) ?_
  refine lv_iconst (v := (-1)) hx hb dX3_readFrom_7 (by decide) ?_
  refine va_put (D := D) (ci := 3) (v := .int (-1)) (ty := .int) (C := RX3) (T := TX3) (N := 5) hx hb hts hi3 tyX3 tyX3_ok nmX3 hown hG.1 hP hD hS 0 rfl rfl 1 (by decide) (hts (.fieldLink RX3 15 "SleptMatters$Law" "yes" "I") (List.mem_cons_of_mem _ (List.mem_append_left _ (List.mem_append_left _ (List.mem_append_left _ (List.mem_of_getElem? (i := 1) rfl)))))) (fun _ h9 => h9) rfl (by decide +kernel) rfl rfl (Nat.le_of_ble_eq_true rfl) dX3_readFrom_8 (fun H locs hP hD hS => ?_)
  have hP : va_P D vwCl [(h, .inr (3, [.int 7, .int (-1), .int ag, .int l4, .int l5])), (tx, .inr (7, [.ref qb, .int (nI n), .int w2, .int w3, .int w4, .int w5, .int w6, .int w7])), (qb, .inl (k 0, 500, .inl f))] H := hP
  have hD : va_D A [(h, .inr (3, [.int 7, .int (-1), .int ag, .int l4, .int l5])), (tx, .inr (7, [.ref qb, .int (nI n), .int w2, .int w3, .int w4, .int w5, .int w6, .int w7])), (qb, .inl (k 0, 500, .inl f))] := hD
  refine lv_aload_n hx hb dX3_readFrom_11 rfl (lv_at hl 0 rfl) ?_
  refine lv_iconst (v := 1) hx hb dX3_readFrom_12 (by decide) ?_
  refine va_put (D := D) (ci := 3) (v := .int 1) (ty := .boolean) (C := RX3) (T := TX3) (N := 5) hx hb hts hi3 tyX3 tyX3_ok nmX3 hown hG.1 hP hD hS 0 rfl rfl 2 (by decide) (hts (.fieldLink RX3 18 "SleptMatters$Law" "again" "Z") (List.mem_cons_of_mem _ (List.mem_append_left _ (List.mem_append_left _ (List.mem_append_left _ (List.mem_of_getElem? (i := 2) rfl)))))) (fun _ h9 => h9) rfl (by decide +kernel) rfl rfl (Nat.le_of_ble_eq_true rfl) dX3_readFrom_13 (fun H locs hP hD hS => ?_)
  have hP : va_P D vwCl [(h, .inr (3, [.int 7, .int (-1), .int 1, .int l4, .int l5])), (tx, .inr (7, [.ref qb, .int (nI n), .int w2, .int w3, .int w4, .int w5, .int w6, .int w7])), (qb, .inl (k 0, 500, .inl f))] H := hP
  have hD : va_D A [(h, .inr (3, [.int 7, .int (-1), .int 1, .int l4, .int l5])), (tx, .inr (7, [.ref qb, .int (nI n), .int w2, .int w3, .int w4, .int w5, .int w6, .int w7])), (qb, .inl (k 0, 500, .inl f))] := hD
  refine lv_aload_n hx hb dX3_readFrom_16 rfl (lv_at hl 0 rfl) ?_
  refine lv_iconst (v := 0) hx hb dX3_readFrom_17 (by decide) ?_
  refine va_put (D := D) (ci := 3) (v := .int 0) (ty := .int) (C := RX3) (T := TX3) (N := 5) hx hb hts hi3 tyX3 tyX3_ok nmX3 hown hG.1 hP hD hS 0 rfl rfl 3 (by decide) (hts (.fieldLink RX3 22 "SleptMatters$Law" "clauses" "I") (List.mem_cons_of_mem _ (List.mem_append_left _ (List.mem_append_left _ (List.mem_append_left _ (List.mem_of_getElem? (i := 3) rfl)))))) (fun _ h9 => h9) rfl (by decide +kernel) rfl rfl (Nat.le_of_ble_eq_true rfl) dX3_readFrom_18 (fun H locs hP hD hS => ?_)
  have hP : va_P D vwCl [(h, .inr (3, [.int 7, .int (-1), .int 1, .int 0, .int l5])), (tx, .inr (7, [.ref qb, .int (nI n), .int w2, .int w3, .int w4, .int w5, .int w6, .int w7])), (qb, .inl (k 0, 500, .inl f))] H := hP
  have hD : va_D A [(h, .inr (3, [.int 7, .int (-1), .int 1, .int 0, .int l5])), (tx, .inr (7, [.ref qb, .int (nI n), .int w2, .int w3, .int w4, .int w5, .int w6, .int w7])), (qb, .inl (k 0, 500, .inl f))] := hD
  refine lv_aload_n hx hb dX3_readFrom_21 rfl (lv_at hl 0 rfl) ?_
  refine lv_iconst (v := 0) hx hb dX3_readFrom_22 (by decide) ?_
  refine va_put (D := D) (ci := 3) (v := .int 0) (ty := .int) (C := RX3) (T := TX3) (N := 5) hx hb hts hi3 tyX3 tyX3_ok nmX3 hown hG.1 hP hD hS 0 rfl rfl 4 (by decide) (hts (.fieldLink RX3 25 "SleptMatters$Law" "toldClauses" "I") (List.mem_cons_of_mem _ (List.mem_append_left _ (List.mem_append_left _ (List.mem_append_left _ (List.mem_of_getElem? (i := 4) rfl)))))) (fun _ h9 => h9) rfl (by decide +kernel) rfl rfl (Nat.le_of_ble_eq_true rfl) dX3_readFrom_23 (fun H locs hP hD hS => ?_)
  have hP : va_P D vwCl [(h, .inr (3, [.int 7, .int (-1), .int 1, .int 0, .int 0])), (tx, .inr (7, [.ref qb, .int (nI n), .int w2, .int w3, .int w4, .int w5, .int w6, .int w7])), (qb, .inl (k 0, 500, .inl f))] H := hP
  have hD : va_D A [(h, .inr (3, [.int 7, .int (-1), .int 1, .int 0, .int 0])), (tx, .inr (7, [.ref qb, .int (nI n), .int w2, .int w3, .int w4, .int w5, .int w6, .int w7])), (qb, .inl (k 0, 500, .inl f))] := hD
  refine lv_aload_n hx hb dX3_readFrom_26 rfl (lv_at hl 1 rfl) ?_
  have hPc := hP.sub (ws' := (c_X7_startReading k tx qb (nI n) w2 w3 w4 w5 w6 w7)) [1] rfl
  have hDc := hD.sub (ws' := (c_X7_startReading k tx qb (nI n) w2 w3 w4 w5 w6 w7)) [1] (by decide +kernel) rfl
  refine cl_v (w1 := w_X7_startReading k tx qb (nI n) w2 w3 w4 w5 w6 w7) (wr := [(h, .inr (3, [.int 7, .int (-1), .int 1, .int 0, .int 0])), (qb, .inl (k 0, 500, .inl f))]) (va_runV (As := []) (rest := []) ⟨hx, hb, hml, hown, hts⟩ (X7_startReading l D k H.size tx qb (nI n) w2 w3 w4 w5 w6 w7 ) (cwV 0 hts gX3_readFrom_X7_startReading rfl rfl rfl (by decide +kernel) ⟨Nat.le_of_ble_eq_true rfl, Nat.le_of_ble_eq_true rfl⟩) ⟨PR.blind _ _ _ _ _, va_recv hG.1 hP (ci := 7) (q0 := 1) rfl rfl, PR.pre hPc hDc hG [.ref tx]⟩ rfl rfl hl.1 rfl (lv_room (Nat.le_of_ble_eq_true rfl)) dX3_readFrom_27 ⟨Nat.le_of_ble_eq_true rfl, Nat.le_of_ble_eq_true rfl⟩) hP hD hS hA [1] [0, 2] rfl rfl (by decide +kernel) (by decide +kernel) (fun u H locs hq hP hD hS => ?_)
  cases u
  have hP : va_P D vwCl [(h, .inr (3, [.int 7, .int (-1), .int 1, .int 0, .int 0])), (qb, .inl (k 0, 500, .inl f)), (tx, .inr (7, [.ref qb, .int (nI n), .int w2, .int w3, .int 0, .int (-1), .int w6, .int 0]))] H := hP
  have hD : va_D A [(h, .inr (3, [.int 7, .int (-1), .int 1, .int 0, .int 0])), (qb, .inl (k 0, 500, .inl f)), (tx, .inr (7, [.ref qb, .int (nI n), .int w2, .int w3, .int 0, .int (-1), .int w6, .int 0]))] := hD
  refine lv_iconst (v := 0) hx hb dX3_readFrom_30 (by decide) ?_
  refine lv_istore_n (lv' := [(2, .int 0), (0, .ref h), (1, .ref tx)]) hx hb dX3_readFrom_31 rfl hl (by decide) rfl (fun ls hl => ?_)
  have L1 : ∀ (fu9 : Nat) (i : Nat) (a9 : Nat) (x2 : Int32) (x3 : Int32) (x4 : Int32) (x5 : Int32) (x6 : Int32) (n9 : Int32) (y9 : Int32) (g9 : Int32) (m4 : Int32) (m5 : Int32), (i ≤ 200) → (LI n (a9, x2, x3, x4, x5, x6, n9, y9, g9, m4, m5)) → (ldS f n (200 - i) (a9, x2, x3, x4, x5, x6, n9, y9, g9, m4, m5) = ldS f n 200 (0, w2, w3, 0, -1, w6, 7, -1, 1, 0, 0)) → 200 - i < fu9 → ∀ (H : Heap) (locs : List Loc), va_P D vwCl [(h, .inr (3, [.int n9, .int y9, .int g9, .int m4, .int m5])), (qb, .inl (k 0, 500, .inl f)), (tx, .inr (7, [.ref qb, .int (nI n), .int x2, .int x3, .int x4, .int x5, .int x6, .int (nI a9)]))] H → va_D A [(h, .inr (3, [.int n9, .int y9, .int g9, .int m4, .int m5])), (qb, .inl (k 0, 500, .inl f)), (tx, .inr (7, [.ref qb, .int (nI n), .int x2, .int x3, .int x4, .int x5, .int x6, .int (nI a9)]))] → va_S A s.heap H locs → ∀ (ls : Array Slot), lv_has ls 3 [(2, .int (nI i)), (0, .ref h), (1, .ref tx)] → W p l e r_X3_readFrom s m ([.ref h, .ref tx] : List Value).toArray below meth c H locs 0 0 (MQ below (q_X3_readFrom D k z h ni ye ag l4 l5 tx qb n w2 w3 w4 w5 w6 w7 f A) ([.ref h, .ref tx] : List Value).toArray s 0 0 A) (F0 m 32 ls []) := by
    intro fu9
    induction fu9 with
    | zero => intro i a9 x2 x3 x4 x5 x6 n9 y9 g9 m4 m5 hi hT he hmu; exact absurd hmu (Nat.not_lt_zero _)
    | succ fu9 ih =>
      intro i a9 x2 x3 x4 x5 x6 n9 y9 g9 m4 m5 hi hT he hmu H locs hP hD hS ls hl
      obtain ⟨ha9, -⟩ := id hT
      refine lv_iload_n hx hb dX3_readFrom_32 rfl (lv_at hl 0 rfl) ?_
      refine lv_sipush (v := 200) hx hb dX3_readFrom_33 (by decide) ?_
      refine bn_ge (i := i) (j := 200) (tgt := 64) hx hb dX3_readFrom_36 (by decide) (by omega) (by omega) (fun c2 => ?_) (fun c2 => ?_)
      · skip
        have he2 : (a9, x2, x3, x4, x5, x6, n9, y9, g9, m4, m5) = ldS f n 200 (0, w2, w3, 0, -1, w6, 7, -1, 1, 0, 0) := by have h8 : 200 - i = 0 := (by omega); rw [h8] at he; exact he
        have hT2 := hT
        refine lv_aload_n hx hb dX3_readFrom_64 rfl (lv_at hl 1 rfl) ?_
        refine va_get (D := D) (ci := 3) (v := .int y9) (C := RX3) (T := TX3) (N := 5) hx hb hts hi3 hown hG.1 hP 0 rfl rfl 1 (by decide) (hts (.fieldLink RX3 15 "SleptMatters$Law" "yes" "I") (List.mem_cons_of_mem _ (List.mem_append_left _ (List.mem_append_left _ (List.mem_append_left _ (List.mem_of_getElem? (i := 1) rfl)))))) (fun _ h9 => h9) rfl dX3_readFrom_65 ?_
        refine lv_iconst (v := (-1)) hx hb dX3_readFrom_68 (by decide) ?_
        refine lv_icmp_ne (x := y9) (y := (-1)) (tgt := 84) hx hb dX3_readFrom_69 (by decide) (fun c3 => ?_) (fun c3 => ?_)
        · skip
          have e7 : yeF n9 y9 = y9 := if_neg c3
          have hP9 := hP.sub (ws' := [(h, .inr (3, [.int n9, .int y9, .int g9, .int m4, .int m5])), (tx, .inr (7, [.ref qb, .int (nI n), .int x2, .int x3, .int x4, .int x5, .int x6, .int (nI a9)])), (qb, .inl (k 0, 500, .inl f))]) [0, 2, 1] rfl
          have hD9 := hD.sub (ws' := [(h, .inr (3, [.int n9, .int y9, .int g9, .int m4, .int m5])), (tx, .inr (7, [.ref qb, .int (nI n), .int x2, .int x3, .int x4, .int x5, .int x6, .int (nI a9)])), (qb, .inl (k 0, 500, .inl f))]) [0, 2, 1] (by decide +kernel) rfl
          exact W.vret hx hb hr (fun t9 ht _ => ⟨⟨(a9, x2, x3, x4, x5, x6, n9, y9, g9, m4, m5, y9), rfl, ⟨he2, hT2, e7.symm⟩, by rw [ht]; exact hP9, hD9⟩, hS.F ht⟩) hS.2.2 dX3_readFrom_84
        · skip
          have e7 : yeF n9 y9 = n9 / 2 + 1 := if_pos c3
          refine lv_aload_n hx hb dX3_readFrom_72 rfl (lv_at hl 1 rfl) ?_
          refine lv_aload_n hx hb dX3_readFrom_73 rfl (lv_at hl 1 rfl) ?_
          refine va_get (D := D) (ci := 3) (v := .int n9) (C := RX3) (T := TX3) (N := 5) hx hb hts hi3 hown hG.1 hP 0 rfl rfl 0 (by decide) (hts (.fieldLink RX3 9 "SleptMatters$Law" "nights" "I") (List.mem_cons_of_mem _ (List.mem_append_left _ (List.mem_append_left _ (List.mem_append_left _ (List.mem_of_getElem? (i := 0) rfl)))))) (fun _ h9 => h9) rfl dX3_readFrom_74 ?_
          refine lv_iconst (v := 2) hx hb dX3_readFrom_77 (by decide) ?_
          refine lv_idiv hx hb dX3_readFrom_78 (by decide) ?_
          refine lv_iconst (v := 1) hx hb dX3_readFrom_79 (by decide) ?_
          refine lv_iadd hx hb dX3_readFrom_80 ?_
          refine va_put (D := D) (ci := 3) (v := .int ((n9 / 2) + 1)) (ty := .int) (C := RX3) (T := TX3) (N := 5) hx hb hts hi3 tyX3 tyX3_ok nmX3 hown hG.1 hP hD hS 0 rfl rfl 1 (by decide) (hts (.fieldLink RX3 15 "SleptMatters$Law" "yes" "I") (List.mem_cons_of_mem _ (List.mem_append_left _ (List.mem_append_left _ (List.mem_append_left _ (List.mem_of_getElem? (i := 1) rfl)))))) (fun _ h9 => h9) rfl (by decide +kernel) rfl rfl (Nat.le_of_ble_eq_true rfl) dX3_readFrom_81 (fun H locs hP hD hS => ?_)
          have hP : va_P D vwCl [(h, .inr (3, [.int n9, .int ((n9 / 2) + 1), .int g9, .int m4, .int m5])), (qb, .inl (k 0, 500, .inl f)), (tx, .inr (7, [.ref qb, .int (nI n), .int x2, .int x3, .int x4, .int x5, .int x6, .int (nI a9)]))] H := hP
          have hD : va_D A [(h, .inr (3, [.int n9, .int ((n9 / 2) + 1), .int g9, .int m4, .int m5])), (qb, .inl (k 0, 500, .inl f)), (tx, .inr (7, [.ref qb, .int (nI n), .int x2, .int x3, .int x4, .int x5, .int x6, .int (nI a9)]))] := hD
          have hP9 := hP.sub (ws' := [(h, .inr (3, [.int n9, .int ((n9 / 2) + 1), .int g9, .int m4, .int m5])), (tx, .inr (7, [.ref qb, .int (nI n), .int x2, .int x3, .int x4, .int x5, .int x6, .int (nI a9)])), (qb, .inl (k 0, 500, .inl f))]) [0, 2, 1] rfl
          have hD9 := hD.sub (ws' := [(h, .inr (3, [.int n9, .int ((n9 / 2) + 1), .int g9, .int m4, .int m5])), (tx, .inr (7, [.ref qb, .int (nI n), .int x2, .int x3, .int x4, .int x5, .int x6, .int (nI a9)])), (qb, .inl (k 0, 500, .inl f))]) [0, 2, 1] (by decide +kernel) rfl
          exact W.vret hx hb hr (fun t9 ht _ => ⟨⟨(a9, x2, x3, x4, x5, x6, n9, (n9 / 2) + 1, g9, m4, m5, y9), rfl, ⟨he2, hT2, e7.symm⟩, by rw [ht]; exact hP9, hD9⟩, hS.F ht⟩) hS.2.2 dX3_readFrom_84
      · skip
        refine lv_aload_n hx hb dX3_readFrom_39 rfl (lv_at hl 2 rfl) ?_
        have hPc := hP.sub (ws' := (c_X7_isFaulty k tx qb (nI n) x2 x3 x4 x5 x6 (nI a9))) [2] rfl
        refine vp_callSi (va_Run.run (va_runV (As := []) (rest := []) ⟨hx, hb, hml, hown, hts⟩ (X7_isFaulty l D k tx qb (nI n) x2 x3 x4 x5 x6 (nI a9) ) (cwV 0 hts gX3_readFrom_X7_isFaulty rfl rfl rfl (by decide +kernel) ⟨Nat.le_of_ble_eq_true rfl, Nat.le_of_ble_eq_true rfl⟩) ⟨PS.blind _ _ _ _, va_recv hG.1 hP (ci := 7) (q0 := 2) rfl rfl, PS.pre hPc hG [.ref tx]⟩ rfl rfl hl.1 rfl (lv_room (Nat.le_of_ble_eq_true rfl)) dX3_readFrom_40 ⟨Nat.le_of_ble_eq_true rfl, Nat.le_of_ble_eq_true rfl⟩)) (fun r hq => ?_)
        generalize r = y4 at hq ⊢
        have hq : y4 = nz x4 := hq
        refine tp_i (y := nz x4) (hq) ?_
        refine lv_if_ne (x := nz x4) (tgt := 64) hx hb dX3_readFrom_43 (by decide) (fun c5 => ?_) (fun c5 => ?_)
        · skip
          have hf := nz_ne c5
          have he2 : (a9, x2, x3, x4, x5, x6, n9, y9, g9, m4, m5) = ldS f n 200 (0, w2, w3, 0, -1, w6, 7, -1, 1, 0, 0) := (ld_flt (f := f) (n := n) (j := 200 - i) (σ := (a9, x2, x3, x4, x5, x6, n9, y9, g9, m4, m5)) hf).symm.trans he
          have hT2 := hT
          refine lv_aload_n hx hb dX3_readFrom_64 rfl (lv_at hl 1 rfl) ?_
          refine va_get (D := D) (ci := 3) (v := .int y9) (C := RX3) (T := TX3) (N := 5) hx hb hts hi3 hown hG.1 hP 0 rfl rfl 1 (by decide) (hts (.fieldLink RX3 15 "SleptMatters$Law" "yes" "I") (List.mem_cons_of_mem _ (List.mem_append_left _ (List.mem_append_left _ (List.mem_append_left _ (List.mem_of_getElem? (i := 1) rfl)))))) (fun _ h9 => h9) rfl dX3_readFrom_65 ?_
          refine lv_iconst (v := (-1)) hx hb dX3_readFrom_68 (by decide) ?_
          refine lv_icmp_ne (x := y9) (y := (-1)) (tgt := 84) hx hb dX3_readFrom_69 (by decide) (fun c6 => ?_) (fun c6 => ?_)
          · skip
            have e7 : yeF n9 y9 = y9 := if_neg c6
            have hP9 := hP.sub (ws' := [(h, .inr (3, [.int n9, .int y9, .int g9, .int m4, .int m5])), (tx, .inr (7, [.ref qb, .int (nI n), .int x2, .int x3, .int x4, .int x5, .int x6, .int (nI a9)])), (qb, .inl (k 0, 500, .inl f))]) [0, 2, 1] rfl
            have hD9 := hD.sub (ws' := [(h, .inr (3, [.int n9, .int y9, .int g9, .int m4, .int m5])), (tx, .inr (7, [.ref qb, .int (nI n), .int x2, .int x3, .int x4, .int x5, .int x6, .int (nI a9)])), (qb, .inl (k 0, 500, .inl f))]) [0, 2, 1] (by decide +kernel) rfl
            exact W.vret hx hb hr (fun t9 ht _ => ⟨⟨(a9, x2, x3, x4, x5, x6, n9, y9, g9, m4, m5, y9), rfl, ⟨he2, hT2, e7.symm⟩, by rw [ht]; exact hP9, hD9⟩, hS.F ht⟩) hS.2.2 dX3_readFrom_84
          · skip
            have e7 : yeF n9 y9 = n9 / 2 + 1 := if_pos c6
            refine lv_aload_n hx hb dX3_readFrom_72 rfl (lv_at hl 1 rfl) ?_
            refine lv_aload_n hx hb dX3_readFrom_73 rfl (lv_at hl 1 rfl) ?_
            refine va_get (D := D) (ci := 3) (v := .int n9) (C := RX3) (T := TX3) (N := 5) hx hb hts hi3 hown hG.1 hP 0 rfl rfl 0 (by decide) (hts (.fieldLink RX3 9 "SleptMatters$Law" "nights" "I") (List.mem_cons_of_mem _ (List.mem_append_left _ (List.mem_append_left _ (List.mem_append_left _ (List.mem_of_getElem? (i := 0) rfl)))))) (fun _ h9 => h9) rfl dX3_readFrom_74 ?_
            refine lv_iconst (v := 2) hx hb dX3_readFrom_77 (by decide) ?_
            refine lv_idiv hx hb dX3_readFrom_78 (by decide) ?_
            refine lv_iconst (v := 1) hx hb dX3_readFrom_79 (by decide) ?_
            refine lv_iadd hx hb dX3_readFrom_80 ?_
            refine va_put (D := D) (ci := 3) (v := .int ((n9 / 2) + 1)) (ty := .int) (C := RX3) (T := TX3) (N := 5) hx hb hts hi3 tyX3 tyX3_ok nmX3 hown hG.1 hP hD hS 0 rfl rfl 1 (by decide) (hts (.fieldLink RX3 15 "SleptMatters$Law" "yes" "I") (List.mem_cons_of_mem _ (List.mem_append_left _ (List.mem_append_left _ (List.mem_append_left _ (List.mem_of_getElem? (i := 1) rfl)))))) (fun _ h9 => h9) rfl (by decide +kernel) rfl rfl (Nat.le_of_ble_eq_true rfl) dX3_readFrom_81 (fun H locs hP hD hS => ?_)
            have hP : va_P D vwCl [(h, .inr (3, [.int n9, .int ((n9 / 2) + 1), .int g9, .int m4, .int m5])), (qb, .inl (k 0, 500, .inl f)), (tx, .inr (7, [.ref qb, .int (nI n), .int x2, .int x3, .int x4, .int x5, .int x6, .int (nI a9)]))] H := hP
            have hD : va_D A [(h, .inr (3, [.int n9, .int ((n9 / 2) + 1), .int g9, .int m4, .int m5])), (qb, .inl (k 0, 500, .inl f)), (tx, .inr (7, [.ref qb, .int (nI n), .int x2, .int x3, .int x4, .int x5, .int x6, .int (nI a9)]))] := hD
            have hP9 := hP.sub (ws' := [(h, .inr (3, [.int n9, .int ((n9 / 2) + 1), .int g9, .int m4, .int m5])), (tx, .inr (7, [.ref qb, .int (nI n), .int x2, .int x3, .int x4, .int x5, .int x6, .int (nI a9)])), (qb, .inl (k 0, 500, .inl f))]) [0, 2, 1] rfl
            have hD9 := hD.sub (ws' := [(h, .inr (3, [.int n9, .int ((n9 / 2) + 1), .int g9, .int m4, .int m5])), (tx, .inr (7, [.ref qb, .int (nI n), .int x2, .int x3, .int x4, .int x5, .int x6, .int (nI a9)])), (qb, .inl (k 0, 500, .inl f))]) [0, 2, 1] (by decide +kernel) rfl
            exact W.vret hx hb hr (fun t9 ht _ => ⟨⟨(a9, x2, x3, x4, x5, x6, n9, (n9 / 2) + 1, g9, m4, m5, y9), rfl, ⟨he2, hT2, e7.symm⟩, by rw [ht]; exact hP9, hD9⟩, hS.F ht⟩) hS.2.2 dX3_readFrom_84
        · skip
          have hf0 := nz_eq c5
          refine lv_aload_n hx hb dX3_readFrom_46 rfl (lv_at hl 2 rfl) ?_
          have hPc := hP.sub (ws' := (c_X7_hasMore k tx qb n a9 x2 x3 x4 x5 x6 f)) [2, 1] rfl
          have hDc := hD.sub (ws' := (c_X7_hasMore k tx qb n a9 x2 x3 x4 x5 x6 f)) [2, 1] (by decide +kernel) rfl
          refine cl_i (w1 := w_X7_hasMore k tx qb n a9 x2 x3 x4 x5 x6 f) (wr := [(h, .inr (3, [.int n9, .int y9, .int g9, .int m4, .int m5]))]) (va_runV (As := []) (rest := []) ⟨hx, hb, hml, hown, hts⟩ (X7_hasMore l D k H.size tx qb n a9 x2 x3 x4 x5 x6 f (hn) (ha9)) (cwV 0 hts gX3_readFrom_X7_hasMore rfl rfl rfl (by decide +kernel) ⟨Nat.le_of_ble_eq_true rfl, Nat.le_of_ble_eq_true rfl⟩) ⟨PR.blind _ _ _ _ _, va_recv hG.1 hP (ci := 7) (q0 := 2) rfl rfl, PR.pre hPc hDc hG [.ref tx]⟩ rfl rfl hl.1 rfl (lv_room (Nat.le_of_ble_eq_true rfl)) dX3_readFrom_47 ⟨Nat.le_of_ble_eq_true rfl, Nat.le_of_ble_eq_true rfl⟩) hP hD hS hA [2, 1] [0] rfl rfl (by decide +kernel) (by decide +kernel) (fun r u H locs hq hP hD hS => ?_)
          cases u
          generalize r = y7 at hq ⊢
          have hq : y7 = if rn (pB f) n a9 < n then 1 else 0 := hq
          have hP : va_P D vwCl [(h, .inr (3, [.int n9, .int y9, .int g9, .int m4, .int m5])), (tx, .inr (7, [.ref qb, .int (nI n), .int x2, .int x3, .int x4, .int x5, .int x6, .int (nI (rn (pB f) n a9))])), (qb, .inl (k 0, 500, .inl f))] H := hP
          have hD : va_D A [(h, .inr (3, [.int n9, .int y9, .int g9, .int m4, .int m5])), (tx, .inr (7, [.ref qb, .int (nI n), .int x2, .int x3, .int x4, .int x5, .int x6, .int (nI (rn (pB f) n a9))])), (qb, .inl (k 0, 500, .inl f))] := hD
          refine tp_i (y := if rn (pB f) n a9 < n then 1 else 0) (hq) ?_
          refine lv_if_eq (x := if rn (pB f) n a9 < n then 1 else 0) (tgt := 64) hx hb dX3_readFrom_50 (by decide) (fun c8 => ?_) (fun c8 => ?_)
          · skip
            have hm : ¬ nS f n a9 < n := fun q8 => by rw [if_pos (show rn (pB f) n a9 < n from q8)] at c8; exact absurd c8 (by decide)
            have he2 : (nS f n a9, x2, x3, x4, x5, x6, n9, y9, g9, m4, m5) = ldS f n 200 (0, w2, w3, 0, -1, w6, 7, -1, 1, 0, 0) := (ld_end (f := f) (n := n) (j := 200 - i) (σ := (a9, x2, x3, x4, x5, x6, n9, y9, g9, m4, m5)) (by omega) hf0 (fun q8 => hm (of_decide_eq_true q8))).symm.trans he
            have hT2 : LI n (nS f n a9, x2, x3, x4, x5, x6, n9, y9, g9, m4, m5) := li_k (f := f) (a9, x2, x3, x4, x5, x6, n9, y9, g9, m4, m5) hT
            have hP : va_P D vwCl [(h, .inr (3, [.int n9, .int y9, .int g9, .int m4, .int m5])), (tx, .inr (7, [.ref qb, .int (nI n), .int x2, .int x3, .int x4, .int x5, .int x6, .int (nI (nS f n a9))])), (qb, .inl (k 0, 500, .inl f))] H := hP
            have hD : va_D A [(h, .inr (3, [.int n9, .int y9, .int g9, .int m4, .int m5])), (tx, .inr (7, [.ref qb, .int (nI n), .int x2, .int x3, .int x4, .int x5, .int x6, .int (nI (nS f n a9))])), (qb, .inl (k 0, 500, .inl f))] := hD
            refine lv_aload_n hx hb dX3_readFrom_64 rfl (lv_at hl 1 rfl) ?_
            refine va_get (D := D) (ci := 3) (v := .int y9) (C := RX3) (T := TX3) (N := 5) hx hb hts hi3 hown hG.1 hP 0 rfl rfl 1 (by decide) (hts (.fieldLink RX3 15 "SleptMatters$Law" "yes" "I") (List.mem_cons_of_mem _ (List.mem_append_left _ (List.mem_append_left _ (List.mem_append_left _ (List.mem_of_getElem? (i := 1) rfl)))))) (fun _ h9 => h9) rfl dX3_readFrom_65 ?_
            refine lv_iconst (v := (-1)) hx hb dX3_readFrom_68 (by decide) ?_
            refine lv_icmp_ne (x := y9) (y := (-1)) (tgt := 84) hx hb dX3_readFrom_69 (by decide) (fun c9 => ?_) (fun c9 => ?_)
            · skip
              have e7 : yeF n9 y9 = y9 := if_neg c9
              have hP9 := hP.sub (ws' := [(h, .inr (3, [.int n9, .int y9, .int g9, .int m4, .int m5])), (tx, .inr (7, [.ref qb, .int (nI n), .int x2, .int x3, .int x4, .int x5, .int x6, .int (nI (nS f n a9))])), (qb, .inl (k 0, 500, .inl f))]) [0, 1, 2] rfl
              have hD9 := hD.sub (ws' := [(h, .inr (3, [.int n9, .int y9, .int g9, .int m4, .int m5])), (tx, .inr (7, [.ref qb, .int (nI n), .int x2, .int x3, .int x4, .int x5, .int x6, .int (nI (nS f n a9))])), (qb, .inl (k 0, 500, .inl f))]) [0, 1, 2] (by decide +kernel) rfl
              exact W.vret hx hb hr (fun t9 ht _ => ⟨⟨(nS f n a9, x2, x3, x4, x5, x6, n9, y9, g9, m4, m5, y9), rfl, ⟨he2, hT2, e7.symm⟩, by rw [ht]; exact hP9, hD9⟩, hS.F ht⟩) hS.2.2 dX3_readFrom_84
            · skip
              have e7 : yeF n9 y9 = n9 / 2 + 1 := if_pos c9
              refine lv_aload_n hx hb dX3_readFrom_72 rfl (lv_at hl 1 rfl) ?_
              refine lv_aload_n hx hb dX3_readFrom_73 rfl (lv_at hl 1 rfl) ?_
              refine va_get (D := D) (ci := 3) (v := .int n9) (C := RX3) (T := TX3) (N := 5) hx hb hts hi3 hown hG.1 hP 0 rfl rfl 0 (by decide) (hts (.fieldLink RX3 9 "SleptMatters$Law" "nights" "I") (List.mem_cons_of_mem _ (List.mem_append_left _ (List.mem_append_left _ (List.mem_append_left _ (List.mem_of_getElem? (i := 0) rfl)))))) (fun _ h9 => h9) rfl dX3_readFrom_74 ?_
              refine lv_iconst (v := 2) hx hb dX3_readFrom_77 (by decide) ?_
              refine lv_idiv hx hb dX3_readFrom_78 (by decide) ?_
              refine lv_iconst (v := 1) hx hb dX3_readFrom_79 (by decide) ?_
              refine lv_iadd hx hb dX3_readFrom_80 ?_
              refine va_put (D := D) (ci := 3) (v := .int ((n9 / 2) + 1)) (ty := .int) (C := RX3) (T := TX3) (N := 5) hx hb hts hi3 tyX3 tyX3_ok nmX3 hown hG.1 hP hD hS 0 rfl rfl 1 (by decide) (hts (.fieldLink RX3 15 "SleptMatters$Law" "yes" "I") (List.mem_cons_of_mem _ (List.mem_append_left _ (List.mem_append_left _ (List.mem_append_left _ (List.mem_of_getElem? (i := 1) rfl)))))) (fun _ h9 => h9) rfl (by decide +kernel) rfl rfl (Nat.le_of_ble_eq_true rfl) dX3_readFrom_81 (fun H locs hP hD hS => ?_)
              have hP : va_P D vwCl [(h, .inr (3, [.int n9, .int ((n9 / 2) + 1), .int g9, .int m4, .int m5])), (tx, .inr (7, [.ref qb, .int (nI n), .int x2, .int x3, .int x4, .int x5, .int x6, .int (nI (nS f n a9))])), (qb, .inl (k 0, 500, .inl f))] H := hP
              have hD : va_D A [(h, .inr (3, [.int n9, .int ((n9 / 2) + 1), .int g9, .int m4, .int m5])), (tx, .inr (7, [.ref qb, .int (nI n), .int x2, .int x3, .int x4, .int x5, .int x6, .int (nI (nS f n a9))])), (qb, .inl (k 0, 500, .inl f))] := hD
              have hP9 := hP.sub (ws' := [(h, .inr (3, [.int n9, .int ((n9 / 2) + 1), .int g9, .int m4, .int m5])), (tx, .inr (7, [.ref qb, .int (nI n), .int x2, .int x3, .int x4, .int x5, .int x6, .int (nI (nS f n a9))])), (qb, .inl (k 0, 500, .inl f))]) [0, 1, 2] rfl
              have hD9 := hD.sub (ws' := [(h, .inr (3, [.int n9, .int ((n9 / 2) + 1), .int g9, .int m4, .int m5])), (tx, .inr (7, [.ref qb, .int (nI n), .int x2, .int x3, .int x4, .int x5, .int x6, .int (nI (nS f n a9))])), (qb, .inl (k 0, 500, .inl f))]) [0, 1, 2] (by decide +kernel) rfl
              exact W.vret hx hb hr (fun t9 ht _ => ⟨⟨(nS f n a9, x2, x3, x4, x5, x6, n9, (n9 / 2) + 1, g9, m4, m5, y9), rfl, ⟨he2, hT2, e7.symm⟩, by rw [ht]; exact hP9, hD9⟩, hS.F ht⟩) hS.2.2 dX3_readFrom_84
          · skip
            have hm : nS f n a9 < n := by by_cases q8 : rn (pB f) n a9 < n; exact q8; exact absurd (if_neg q8) c8
            have he3 : ldS f n (200 - (i + 1)) (LCl f n (nS f n a9, x2, x3, x4, x5, x6, n9, y9, g9, m4, m5)) = ldS f n 200 (0, w2, w3, 0, -1, w6, 7, -1, 1, 0, 0) := (ld_more (f := f) (n := n) (i := 200 - (i + 1)) (j := 200 - i) (σ := (a9, x2, x3, x4, x5, x6, n9, y9, g9, m4, m5)) (by omega) hf0 (decide_eq_true hm)).symm.trans he
            have hT3 : LI n (LCl f n (nS f n a9, x2, x3, x4, x5, x6, n9, y9, g9, m4, m5)) := li_s _ (li_k (f := f) (a9, x2, x3, x4, x5, x6, n9, y9, g9, m4, m5) hT)
            have hP : va_P D vwCl [(h, .inr (3, [.int n9, .int y9, .int g9, .int m4, .int m5])), (tx, .inr (7, [.ref qb, .int (nI n), .int x2, .int x3, .int x4, .int x5, .int x6, .int (nI (nS f n a9))])), (qb, .inl (k 0, 500, .inl f))] H := hP
            have hD : va_D A [(h, .inr (3, [.int n9, .int y9, .int g9, .int m4, .int m5])), (tx, .inr (7, [.ref qb, .int (nI n), .int x2, .int x3, .int x4, .int x5, .int x6, .int (nI (nS f n a9))])), (qb, .inl (k 0, 500, .inl f))] := hD
            refine lv_aload_n hx hb dX3_readFrom_53 rfl (lv_at hl 1 rfl) ?_
            refine lv_aload_n hx hb dX3_readFrom_54 rfl (lv_at hl 2 rfl) ?_
            have hPc := hP.sub (ws' := (c_X3_readClause k z h n9 y9 g9 m4 m5 tx qb n (nS f n a9) x2 x3 x4 x5 x6 f)) [0, 1, 2] rfl
            have hDc := hD.sub (ws' := (c_X3_readClause k z h n9 y9 g9 m4 m5 tx qb n (nS f n a9) x2 x3 x4 x5 x6 f)) [0, 1, 2] (by decide +kernel) rfl
            refine cl_v (w1 := w_X3_readClause k z h n9 y9 g9 m4 m5 tx qb n (nS f n a9) x2 x3 x4 x5 x6 f) (wr := []) (va_runV (As := [.ref tx]) (rest := []) ⟨hx, hb, hml, hown, hts⟩ (X3_readClause l D k H.size z h n9 y9 g9 m4 m5 tx qb n (nS f n a9) x2 x3 x4 x5 x6 f (hn) (nS_le ha9)) (cwV 1 hts gX3_readFrom_X3_readClause rfl rfl rfl (by decide +kernel) ⟨Nat.le_of_ble_eq_true rfl, Nat.le_of_ble_eq_true rfl⟩) ⟨PT.blind _ _ _ _ _ _, va_recv hG.1 hP (ci := 3) (q0 := 0) rfl rfl, PT.pre hPc hDc hG hZ hS (va_free hD hS hA [0, 1, 2] rfl) [.ref h, .ref tx]⟩ rfl rfl hl.1 rfl (lv_room (Nat.le_of_ble_eq_true rfl)) dX3_readFrom_55 ⟨Nat.le_of_ble_eq_true rfl, Nat.le_of_ble_eq_true rfl⟩) hP hD hS hA [0, 1, 2] [] rfl rfl (by decide +kernel) (by decide +kernel) (fun u H locs hq hP hD hS => ?_)
            obtain ⟨zu10, zu11, zu12, zu13, zu14, zu15, zu16, zu17, zu18, zu19, zu20⟩ := u
            have hq : (zu10, zu11, zu12, zu13, zu14, zu15, zu16, zu17, zu18, zu19, zu20) = LCl f n ((nS f n a9), x2, x3, x4, x5, x6, n9, y9, g9, m4, m5) := hq
            have hP : va_P D vwCl [(h, .inr (3, [.int zu16, .int zu17, .int zu18, .int zu19, .int zu20])), (tx, .inr (7, [.ref qb, .int (nI n), .int zu11, .int zu12, .int zu13, .int zu14, .int zu15, .int (nI zu10)])), (qb, .inl (k 0, 500, .inl f))] H := hP
            have hD : va_D A [(h, .inr (3, [.int zu16, .int zu17, .int zu18, .int zu19, .int zu20])), (tx, .inr (7, [.ref qb, .int (nI n), .int zu11, .int zu12, .int zu13, .int zu14, .int zu15, .int (nI zu10)])), (qb, .inl (k 0, 500, .inl f))] := hD
            refine lv_iinc (v := nI (i + 1)) (lv' := [(2, .int (nI (i + 1))), (0, .ref h), (1, .ref tx)]) hx hb dX3_readFrom_58 hl (k := 0) rfl (nI_add i 1) (by decide) rfl (fun ls hl => ?_)
            refine lv_goto (tgt := 32) hx hb dX3_readFrom_61 (by decide) ?_
            exact ih (i + 1) zu10 zu11 zu12 zu13 zu14 zu15 zu16 zu17 zu18 zu19 zu20 (by omega) (by rw [hq]; exact hT3) (by rw [hq]; exact he3) (by omega) _ _ (hP.sub [0, 2, 1] rfl) (hD.sub [0, 2, 1] (by decide +kernel) rfl) hS ls (lv_sub hl [0, 1, 2] rfl)
  exact L1 _ 0 0 w2 w3 0 (-1) w6 7 (-1) 1 0 0 (Nat.zero_le _) (li_z) (rfl) (Nat.lt_succ_self _) _ _ hP hD hS ls (lv_sub hl [0, 1, 2] rfl)
