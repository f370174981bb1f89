theorem dJ6_bitCount_0f7a4_0 : decode cJ6_bitCount_0f7a4 0 = .ok (.iload_n 0, 1) := dc_Bk (by decide +kernel)
theorem dJ6_bitCount_0f7a4_1 : decode cJ6_bitCount_0f7a4 1 = .ok (.iload_n 0, 1) := dc_Bk (by decide +kernel)
theorem dJ6_bitCount_0f7a4_2 : decode cJ6_bitCount_0f7a4 2 = .ok (.iconst 1, 1) := dc_Bk (by decide +kernel)
theorem dJ6_bitCount_0f7a4_3 : decode cJ6_bitCount_0f7a4 3 = .ok (.iushr, 1) := dc_Bk (by decide +kernel)
theorem dJ6_bitCount_0f7a4_4 : decode cJ6_bitCount_0f7a4 4 = .ok (.ldc_w 265, 3) := dc_Bk (by decide +kernel)
theorem dJ6_bitCount_0f7a4_7 : decode cJ6_bitCount_0f7a4 7 = .ok (.iand, 1) := dc_Bk (by decide +kernel)
theorem dJ6_bitCount_0f7a4_8 : decode cJ6_bitCount_0f7a4 8 = .ok (.isub, 1) := dc_Bk (by decide +kernel)
theorem dJ6_bitCount_0f7a4_9 : decode cJ6_bitCount_0f7a4 9 = .ok (.istore_n 0, 1) := dc_Bk (by decide +kernel)
theorem dJ6_bitCount_0f7a4_10 : decode cJ6_bitCount_0f7a4 10 = .ok (.iload_n 0, 1) := dc_Bk (by decide +kernel)
theorem dJ6_bitCount_0f7a4_11 : decode cJ6_bitCount_0f7a4 11 = .ok (.ldc_w 266, 3) := dc_Bk (by decide +kernel)
theorem dJ6_bitCount_0f7a4_14 : decode cJ6_bitCount_0f7a4 14 = .ok (.iand, 1) := dc_Bk (by decide +kernel)
theorem dJ6_bitCount_0f7a4_15 : decode cJ6_bitCount_0f7a4 15 = .ok (.iload_n 0, 1) := dc_Bk (by decide +kernel)
theorem dJ6_bitCount_0f7a4_16 : decode cJ6_bitCount_0f7a4 16 = .ok (.iconst 2, 1) := dc_Bk (by decide +kernel)
theorem dJ6_bitCount_0f7a4_17 : decode cJ6_bitCount_0f7a4 17 = .ok (.iushr, 1) := dc_Bk (by decide +kernel)
theorem dJ6_bitCount_0f7a4_18 : decode cJ6_bitCount_0f7a4 18 = .ok (.ldc_w 266, 3) := dc_Bk (by decide +kernel)
theorem dJ6_bitCount_0f7a4_21 : decode cJ6_bitCount_0f7a4 21 = .ok (.iand, 1) := dc_Bk (by decide +kernel)
theorem dJ6_bitCount_0f7a4_22 : decode cJ6_bitCount_0f7a4 22 = .ok (.iadd, 1) := dc_Bk (by decide +kernel)
theorem dJ6_bitCount_0f7a4_23 : decode cJ6_bitCount_0f7a4 23 = .ok (.istore_n 0, 1) := dc_Bk (by decide +kernel)
theorem dJ6_bitCount_0f7a4_24 : decode cJ6_bitCount_0f7a4 24 = .ok (.iload_n 0, 1) := dc_Bk (by decide +kernel)
theorem dJ6_bitCount_0f7a4_25 : decode cJ6_bitCount_0f7a4 25 = .ok (.iload_n 0, 1) := dc_Bk (by decide +kernel)
theorem dJ6_bitCount_0f7a4_26 : decode cJ6_bitCount_0f7a4 26 = .ok (.iconst 4, 1) := dc_Bk (by decide +kernel)
theorem dJ6_bitCount_0f7a4_27 : decode cJ6_bitCount_0f7a4 27 = .ok (.iushr, 1) := dc_Bk (by decide +kernel)
theorem dJ6_bitCount_0f7a4_28 : decode cJ6_bitCount_0f7a4 28 = .ok (.iadd, 1) := dc_Bk (by decide +kernel)
theorem dJ6_bitCount_0f7a4_29 : decode cJ6_bitCount_0f7a4 29 = .ok (.ldc_w 267, 3) := dc_Bk (by decide +kernel)
theorem dJ6_bitCount_0f7a4_32 : decode cJ6_bitCount_0f7a4 32 = .ok (.iand, 1) := dc_Bk (by decide +kernel)
theorem dJ6_bitCount_0f7a4_33 : decode cJ6_bitCount_0f7a4 33 = .ok (.istore_n 0, 1) := dc_Bk (by decide +kernel)
theorem dJ6_bitCount_0f7a4_34 : decode cJ6_bitCount_0f7a4 34 = .ok (.iload_n 0, 1) := dc_Bk (by decide +kernel)
theorem dJ6_bitCount_0f7a4_35 : decode cJ6_bitCount_0f7a4 35 = .ok (.iload_n 0, 1) := dc_Bk (by decide +kernel)
theorem dJ6_bitCount_0f7a4_36 : decode cJ6_bitCount_0f7a4 36 = .ok (.bipush 8, 2) := dc_Bk (by decide +kernel)
theorem dJ6_bitCount_0f7a4_38 : decode cJ6_bitCount_0f7a4 38 = .ok (.iushr, 1) := dc_Bk (by decide +kernel)
theorem dJ6_bitCount_0f7a4_39 : decode cJ6_bitCount_0f7a4 39 = .ok (.iadd, 1) := dc_Bk (by decide +kernel)
theorem dJ6_bitCount_0f7a4_40 : decode cJ6_bitCount_0f7a4 40 = .ok (.istore_n 0, 1) := dc_Bk (by decide +kernel)
theorem dJ6_bitCount_0f7a4_41 : decode cJ6_bitCount_0f7a4 41 = .ok (.iload_n 0, 1) := dc_Bk (by decide +kernel)
theorem dJ6_bitCount_0f7a4_42 : decode cJ6_bitCount_0f7a4 42 = .ok (.iload_n 0, 1) := dc_Bk (by decide +kernel)
theorem dJ6_bitCount_0f7a4_43 : decode cJ6_bitCount_0f7a4 43 = .ok (.bipush 16, 2) := dc_Bk (by decide +kernel)
theorem dJ6_bitCount_0f7a4_45 : decode cJ6_bitCount_0f7a4 45 = .ok (.iushr, 1) := dc_Bk (by decide +kernel)
theorem dJ6_bitCount_0f7a4_46 : decode cJ6_bitCount_0f7a4 46 = .ok (.iadd, 1) := dc_Bk (by decide +kernel)
theorem dJ6_bitCount_0f7a4_47 : decode cJ6_bitCount_0f7a4 47 = .ok (.istore_n 0, 1) := dc_Bk (by decide +kernel)
theorem dJ6_bitCount_0f7a4_48 : decode cJ6_bitCount_0f7a4 48 = .ok (.iload_n 0, 1) := dc_Bk (by decide +kernel)
theorem dJ6_bitCount_0f7a4_49 : decode cJ6_bitCount_0f7a4 49 = .ok (.bipush 63, 2) := dc_Bk (by decide +kernel)
theorem dJ6_bitCount_0f7a4_51 : decode cJ6_bitCount_0f7a4 51 = .ok (.iand, 1) := dc_Bk (by decide +kernel)
theorem dJ6_bitCount_0f7a4_52 : decode cJ6_bitCount_0f7a4 52 = .ok (.ireturn, 1) := dc_Bk (by decide +kernel)
set_option maxRecDepth 20000 in
theorem ggX2_emptyBeds_J7_fill_53178 : GoodIn wsX2_emptyBeds wsJ7_fill_53178 := goodIn_r _ [6] rfl (by decide +kernel)
set_option maxRecDepth 20000 in
theorem gX2_emptyBeds_J7_fill_53178 : GoodIn wsX2_emptyBeds (va_wsS RX2 46 yJ7_fill_53178 wsJ7_fill_53178) := goodIn_app (goodIn_of _ (by decide +kernel)) ggX2_emptyBeds_J7_fill_53178
theorem dX2_emptyBeds_0 : decode cX2_emptyBeds 0 = .ok (.aload_n 0, 1) := dc_Bk (by decide +kernel)
theorem dX2_emptyBeds_1 : decode cX2_emptyBeds 1 = .ok (.getfield 27, 3) := dc_Bk (by decide +kernel)
theorem dX2_emptyBeds_4 : decode cX2_emptyBeds 4 = .ok (.iconst (-1), 1) := dc_Bk (by decide +kernel)
theorem dX2_emptyBeds_5 : decode cX2_emptyBeds 5 = .ok (.invokestatic 46, 3) := dc_Bk (by decide +kernel)
theorem dX2_emptyBeds_8 : decode cX2_emptyBeds 8 = .ok (.aload_n 0, 1) := dc_Bk (by decide +kernel)
theorem dX2_emptyBeds_9 : decode cX2_emptyBeds 9 = .ok (.getfield 30, 3) := dc_Bk (by decide +kernel)
theorem dX2_emptyBeds_12 : decode cX2_emptyBeds 12 = .ok (.iconst (-1), 1) := dc_Bk (by decide +kernel)
theorem dX2_emptyBeds_13 : decode cX2_emptyBeds 13 = .ok (.invokestatic 46, 3) := dc_Bk (by decide +kernel)
theorem dX2_emptyBeds_16 : decode cX2_emptyBeds 16 = .ok (.return_, 1) := dc_Bk (by decide +kernel)
set_option maxRecDepth 20000 in
theorem ggX2_startAgain_J7_fill_53178 : GoodIn wsX2_startAgain wsJ7_fill_53178 := goodIn_r _ [11] rfl (by decide +kernel)
set_option maxRecDepth 20000 in
theorem gX2_startAgain_J7_fill_53178 : GoodIn wsX2_startAgain (va_wsS RX2 46 yJ7_fill_53178 wsJ7_fill_53178) := goodIn_app (goodIn_of _ (by decide +kernel)) ggX2_startAgain_J7_fill_53178
set_option maxRecDepth 20000 in
theorem ggX2_startAgain_X2_emptyBeds : GoodIn wsX2_startAgain wsX2_emptyBeds := goodIn_r _ [16, 17, 18, 8, 9, 10, 11, 19, 20, 21, 22, 23, 24, 25, 26, 27, 28] rfl (by decide +kernel)
set_option maxRecDepth 20000 in
theorem gX2_startAgain_X2_emptyBeds : GoodIn wsX2_startAgain (wsV RX2 52 RX2 yX2_emptyBeds wsX2_emptyBeds) := goodIn_app (goodIn_of _ (by decide +kernel)) ggX2_startAgain_X2_emptyBeds
theorem dX2_startAgain_0 : decode cX2_startAgain 0 = .ok (.aload_n 0, 1) := dc_Bk (by decide +kernel)
theorem dX2_startAgain_1 : decode cX2_startAgain 1 = .ok (.getfield 9, 3) := dc_Bk (by decide +kernel)
theorem dX2_startAgain_4 : decode cX2_startAgain 4 = .ok (.iconst 0, 1) := dc_Bk (by decide +kernel)
theorem dX2_startAgain_5 : decode cX2_startAgain 5 = .ok (.invokestatic 46, 3) := dc_Bk (by decide +kernel)
theorem dX2_startAgain_8 : decode cX2_startAgain 8 = .ok (.aload_n 0, 1) := dc_Bk (by decide +kernel)
theorem dX2_startAgain_9 : decode cX2_startAgain 9 = .ok (.getfield 15, 3) := dc_Bk (by decide +kernel)
theorem dX2_startAgain_12 : decode cX2_startAgain 12 = .ok (.iconst 0, 1) := dc_Bk (by decide +kernel)
theorem dX2_startAgain_13 : decode cX2_startAgain 13 = .ok (.invokestatic 46, 3) := dc_Bk (by decide +kernel)
theorem dX2_startAgain_16 : decode cX2_startAgain 16 = .ok (.aload_n 0, 1) := dc_Bk (by decide +kernel)
theorem dX2_startAgain_17 : decode cX2_startAgain 17 = .ok (.getfield 18, 3) := dc_Bk (by decide +kernel)
theorem dX2_startAgain_20 : decode cX2_startAgain 20 = .ok (.iconst 0, 1) := dc_Bk (by decide +kernel)
theorem dX2_startAgain_21 : decode cX2_startAgain 21 = .ok (.invokestatic 46, 3) := dc_Bk (by decide +kernel)
theorem dX2_startAgain_24 : decode cX2_startAgain 24 = .ok (.aload_n 0, 1) := dc_Bk (by decide +kernel)
theorem dX2_startAgain_25 : decode cX2_startAgain 25 = .ok (.getfield 21, 3) := dc_Bk (by decide +kernel)
theorem dX2_startAgain_28 : decode cX2_startAgain 28 = .ok (.iconst 0, 1) := dc_Bk (by decide +kernel)
theorem dX2_startAgain_29 : decode cX2_startAgain 29 = .ok (.invokestatic 46, 3) := dc_Bk (by decide +kernel)
theorem dX2_startAgain_32 : decode cX2_startAgain 32 = .ok (.aload_n 0, 1) := dc_Bk (by decide +kernel)
theorem dX2_startAgain_33 : decode cX2_startAgain 33 = .ok (.getfield 24, 3) := dc_Bk (by decide +kernel)
theorem dX2_startAgain_36 : decode cX2_startAgain 36 = .ok (.iconst (-1), 1) := dc_Bk (by decide +kernel)
theorem dX2_startAgain_37 : decode cX2_startAgain 37 = .ok (.invokestatic 46, 3) := dc_Bk (by decide +kernel)
theorem dX2_startAgain_40 : decode cX2_startAgain 40 = .ok (.aload_n 0, 1) := dc_Bk (by decide +kernel)
theorem dX2_startAgain_41 : decode cX2_startAgain 41 = .ok (.invokevirtual 52, 3) := dc_Bk (by decide +kernel)
theorem dX2_startAgain_44 : decode cX2_startAgain 44 = .ok (.aload_n 0, 1) := dc_Bk (by decide +kernel)
theorem dX2_startAgain_45 : decode cX2_startAgain 45 = .ok (.iconst 0, 1) := dc_Bk (by decide +kernel)
theorem dX2_startAgain_46 : decode cX2_startAgain 46 = .ok (.putfield 33, 3) := dc_Bk (by decide +kernel)
theorem dX2_startAgain_49 : decode cX2_startAgain 49 = .ok (.aload_n 0, 1) := dc_Bk (by decide +kernel)
theorem dX2_startAgain_50 : decode cX2_startAgain 50 = .ok (.iconst 0, 1) := dc_Bk (by decide +kernel)
theorem dX2_startAgain_51 : decode cX2_startAgain 51 = .ok (.putfield 37, 3) := dc_Bk (by decide +kernel)
theorem dX2_startAgain_54 : decode cX2_startAgain 54 = .ok (.return_, 1) := dc_Bk (by decide +kernel)
set_option maxRecDepth 20000 in
theorem ggX2_init_X2_startAgain : GoodIn wsX2_init wsX2_startAgain := goodIn_r _ [19, 5, 6, 7, 8, 9, 12, 13, 20, 21, 22, 23, 24, 25, 26, 18, 27, 10, 11, 28, 29, 30, 31, 32, 33, 34, 35, 36, 37] rfl (by decide +kernel)
set_option maxRecDepth 20000 in
theorem gX2_init_X2_startAgain : GoodIn wsX2_init (wsV RX2 43 RX2 yX2_startAgain wsX2_startAgain) := goodIn_app (goodIn_of _ (by decide +kernel)) ggX2_init_X2_startAgain
theorem dX2_init_0 : decode cX2_init 0 = .ok (.aload_n 0, 1) := dc_Bk (by decide +kernel)
theorem dX2_init_1 : decode cX2_init 1 = .ok (.invokespecial 3, 3) := dc_Bk (by decide +kernel)
theorem dX2_init_4 : decode cX2_init 4 = .ok (.aload_n 0, 1) := dc_Bk (by decide +kernel)
theorem dX2_init_5 : decode cX2_init 5 = .ok (.iconst 3, 1) := dc_Bk (by decide +kernel)
theorem dX2_init_6 : decode cX2_init 6 = .ok (.newarray .int, 2) := dc_Bk (by decide +kernel)
theorem dX2_init_8 : decode cX2_init 8 = .ok (.putfield 9, 3) := dc_Bk (by decide +kernel)
theorem dX2_init_11 : decode cX2_init 11 = .ok (.aload_n 0, 1) := dc_Bk (by decide +kernel)
theorem dX2_init_12 : decode cX2_init 12 = .ok (.iconst 3, 1) := dc_Bk (by decide +kernel)
theorem dX2_init_13 : decode cX2_init 13 = .ok (.newarray .int, 2) := dc_Bk (by decide +kernel)
theorem dX2_init_15 : decode cX2_init 15 = .ok (.putfield 15, 3) := dc_Bk (by decide +kernel)
theorem dX2_init_18 : decode cX2_init 18 = .ok (.aload_n 0, 1) := dc_Bk (by decide +kernel)
theorem dX2_init_19 : decode cX2_init 19 = .ok (.iconst 3, 1) := dc_Bk (by decide +kernel)
theorem dX2_init_20 : decode cX2_init 20 = .ok (.newarray .int, 2) := dc_Bk (by decide +kernel)
theorem dX2_init_22 : decode cX2_init 22 = .ok (.putfield 18, 3) := dc_Bk (by decide +kernel)
theorem dX2_init_25 : decode cX2_init 25 = .ok (.aload_n 0, 1) := dc_Bk (by decide +kernel)
theorem dX2_init_26 : decode cX2_init 26 = .ok (.iconst 3, 1) := dc_Bk (by decide +kernel)
theorem dX2_init_27 : decode cX2_init 27 = .ok (.newarray .int, 2) := dc_Bk (by decide +kernel)
theorem dX2_init_29 : decode cX2_init 29 = .ok (.putfield 21, 3) := dc_Bk (by decide +kernel)
theorem dX2_init_32 : decode cX2_init 32 = .ok (.aload_n 0, 1) := dc_Bk (by decide +kernel)
theorem dX2_init_33 : decode cX2_init 33 = .ok (.iconst 3, 1) := dc_Bk (by decide +kernel)
theorem dX2_init_34 : decode cX2_init 34 = .ok (.newarray .int, 2) := dc_Bk (by decide +kernel)
theorem dX2_init_36 : decode cX2_init 36 = .ok (.putfield 24, 3) := dc_Bk (by decide +kernel)
theorem dX2_init_39 : decode cX2_init 39 = .ok (.aload_n 0, 1) := dc_Bk (by decide +kernel)
theorem dX2_init_40 : decode cX2_init 40 = .ok (.iconst 3, 1) := dc_Bk (by decide +kernel)
theorem dX2_init_41 : decode cX2_init 41 = .ok (.newarray .int, 2) := dc_Bk (by decide +kernel)
theorem dX2_init_43 : decode cX2_init 43 = .ok (.putfield 27, 3) := dc_Bk (by decide +kernel)
theorem dX2_init_46 : decode cX2_init 46 = .ok (.aload_n 0, 1) := dc_Bk (by decide +kernel)
theorem dX2_init_47 : decode cX2_init 47 = .ok (.iconst 3, 1) := dc_Bk (by decide +kernel)
theorem dX2_init_48 : decode cX2_init 48 = .ok (.newarray .int, 2) := dc_Bk (by decide +kernel)
theorem dX2_init_50 : decode cX2_init 50 = .ok (.putfield 30, 3) := dc_Bk (by decide +kernel)
theorem dX2_init_53 : decode cX2_init 53 = .ok (.aload_n 0, 1) := dc_Bk (by decide +kernel)
theorem dX2_init_54 : decode cX2_init 54 = .ok (.iconst 0, 1) := dc_Bk (by decide +kernel)
theorem dX2_init_55 : decode cX2_init 55 = .ok (.putfield 33, 3) := dc_Bk (by decide +kernel)
theorem dX2_init_58 : decode cX2_init 58 = .ok (.aload_n 0, 1) := dc_Bk (by decide +kernel)
theorem dX2_init_59 : decode cX2_init 59 = .ok (.iconst 0, 1) := dc_Bk (by decide +kernel)
theorem dX2_init_60 : decode cX2_init 60 = .ok (.putfield 37, 3) := dc_Bk (by decide +kernel)
theorem dX2_init_63 : decode cX2_init 63 = .ok (.aload_n 0, 1) := dc_Bk (by decide +kernel)
theorem dX2_init_64 : decode cX2_init 64 = .ok (.iconst 0, 1) := dc_Bk (by decide +kernel)
theorem dX2_init_65 : decode cX2_init 65 = .ok (.putfield 40, 3) := dc_Bk (by decide +kernel)
theorem dX2_init_68 : decode cX2_init 68 = .ok (.aload_n 0, 1) := dc_Bk (by decide +kernel)
theorem dX2_init_69 : decode cX2_init 69 = .ok (.invokevirtual 43, 3) := dc_Bk (by decide +kernel)
theorem dX2_init_72 : decode cX2_init 72 = .ok (.return_, 1) := dc_Bk (by decide +kernel)
theorem dX2_matterOf_0 : decode cX2_matterOf 0 = .ok (.iconst 0, 1) := dc_Bk (by decide +kernel)
theorem dX2_matterOf_1 : decode cX2_matterOf 1 = .ok (.istore_n 2, 1) := dc_Bk (by decide +kernel)
theorem dX2_matterOf_2 : decode cX2_matterOf 2 = .ok (.iload_n 2, 1) := dc_Bk (by decide +kernel)
theorem dX2_matterOf_3 : decode cX2_matterOf 3 = .ok (.iconst 3, 1) := dc_Bk (by decide +kernel)
theorem dX2_matterOf_4 : decode cX2_matterOf 4 = .ok (.if_icmp .ge 21, 3) := dc_Bk (by decide +kernel)
theorem dX2_matterOf_7 : decode cX2_matterOf 7 = .ok (.aload_n 0, 1) := dc_Bk (by decide +kernel)
theorem dX2_matterOf_8 : decode cX2_matterOf 8 = .ok (.getfield 27, 3) := dc_Bk (by decide +kernel)
theorem dX2_matterOf_11 : decode cX2_matterOf 11 = .ok (.iload_n 2, 1) := dc_Bk (by decide +kernel)
theorem dX2_matterOf_12 : decode cX2_matterOf 12 = .ok (.iaload, 1) := dc_Bk (by decide +kernel)
theorem dX2_matterOf_13 : decode cX2_matterOf 13 = .ok (.iload_n 1, 1) := dc_Bk (by decide +kernel)
theorem dX2_matterOf_14 : decode cX2_matterOf 14 = .ok (.if_icmp .ne 5, 3) := dc_Bk (by decide +kernel)
theorem dX2_matterOf_17 : decode cX2_matterOf 17 = .ok (.iload_n 2, 1) := dc_Bk (by decide +kernel)
theorem dX2_matterOf_18 : decode cX2_matterOf 18 = .ok (.ireturn, 1) := dc_Bk (by decide +kernel)
theorem dX2_matterOf_19 : decode cX2_matterOf 19 = .ok (.iinc 2 1, 3) := dc_Bk (by decide +kernel)
theorem dX2_matterOf_22 : decode cX2_matterOf 22 = .ok (.goto (-20), 3) := dc_Bk (by decide +kernel)
theorem dX2_matterOf_25 : decode cX2_matterOf 25 = .ok (.iconst (-1), 1) := dc_Bk (by decide +kernel)
theorem dX2_matterOf_26 : decode cX2_matterOf 26 = .ok (.ireturn, 1) := dc_Bk (by decide +kernel)
theorem dX2_laidTonight_0 : decode cX2_laidTonight 0 = .ok (.iconst 0, 1) := dc_Bk (by decide +kernel)
theorem dX2_laidTonight_1 : decode cX2_laidTonight 1 = .ok (.istore_n 1, 1) := dc_Bk (by decide +kernel)
theorem dX2_laidTonight_2 : decode cX2_laidTonight 2 = .ok (.iconst 0, 1) := dc_Bk (by decide +kernel)
theorem dX2_laidTonight_3 : decode cX2_laidTonight 3 = .ok (.istore_n 2, 1) := dc_Bk (by decide +kernel)
theorem dX2_laidTonight_4 : decode cX2_laidTonight 4 = .ok (.iload_n 2, 1) := dc_Bk (by decide +kernel)
theorem dX2_laidTonight_5 : decode cX2_laidTonight 5 = .ok (.iconst 3, 1) := dc_Bk (by decide +kernel)
theorem dX2_laidTonight_6 : decode cX2_laidTonight 6 = .ok (.if_icmp .ge 22, 3) := dc_Bk (by decide +kernel)
theorem dX2_laidTonight_9 : decode cX2_laidTonight 9 = .ok (.aload_n 0, 1) := dc_Bk (by decide +kernel)
theorem dX2_laidTonight_10 : decode cX2_laidTonight 10 = .ok (.getfield 27, 3) := dc_Bk (by decide +kernel)
theorem dX2_laidTonight_13 : decode cX2_laidTonight 13 = .ok (.iload_n 2, 1) := dc_Bk (by decide +kernel)
theorem dX2_laidTonight_14 : decode cX2_laidTonight 14 = .ok (.iaload, 1) := dc_Bk (by decide +kernel)
theorem dX2_laidTonight_15 : decode cX2_laidTonight 15 = .ok (.iconst (-1), 1) := dc_Bk (by decide +kernel)
theorem dX2_laidTonight_16 : decode cX2_laidTonight 16 = .ok (.if_icmp .eq 6, 3) := dc_Bk (by decide +kernel)
theorem dX2_laidTonight_19 : decode cX2_laidTonight 19 = .ok (.iinc 1 1, 3) := dc_Bk (by decide +kernel)
theorem dX2_laidTonight_22 : decode cX2_laidTonight 22 = .ok (.iinc 2 1, 3) := dc_Bk (by decide +kernel)
theorem dX2_laidTonight_25 : decode cX2_laidTonight 25 = .ok (.goto (-21), 3) := dc_Bk (by decide +kernel)
theorem dX2_laidTonight_28 : decode cX2_laidTonight 28 = .ok (.iload_n 1, 1) := dc_Bk (by decide +kernel)
theorem dX2_laidTonight_29 : decode cX2_laidTonight 29 = .ok (.ireturn, 1) := dc_Bk (by decide +kernel)
theorem dX2_decidedMatters_0 : decode cX2_decidedMatters 0 = .ok (.iconst 0, 1) := dc_Bk (by decide +kernel)
theorem dX2_decidedMatters_1 : decode cX2_decidedMatters 1 = .ok (.istore_n 1, 1) := dc_Bk (by decide +kernel)
theorem dX2_decidedMatters_2 : decode cX2_decidedMatters 2 = .ok (.iconst 0, 1) := dc_Bk (by decide +kernel)
theorem dX2_decidedMatters_3 : decode cX2_decidedMatters 3 = .ok (.istore_n 2, 1) := dc_Bk (by decide +kernel)
theorem dX2_decidedMatters_4 : decode cX2_decidedMatters 4 = .ok (.iload_n 2, 1) := dc_Bk (by decide +kernel)
theorem dX2_decidedMatters_5 : decode cX2_decidedMatters 5 = .ok (.iconst 3, 1) := dc_Bk (by decide +kernel)
theorem dX2_decidedMatters_6 : decode cX2_decidedMatters 6 = .ok (.if_icmp .ge 21, 3) := dc_Bk (by decide +kernel)
theorem dX2_decidedMatters_9 : decode cX2_decidedMatters 9 = .ok (.aload_n 0, 1) := dc_Bk (by decide +kernel)
theorem dX2_decidedMatters_10 : decode cX2_decidedMatters 10 = .ok (.getfield 21, 3) := dc_Bk (by decide +kernel)
theorem dX2_decidedMatters_13 : decode cX2_decidedMatters 13 = .ok (.iload_n 2, 1) := dc_Bk (by decide +kernel)
theorem dX2_decidedMatters_14 : decode cX2_decidedMatters 14 = .ok (.iaload, 1) := dc_Bk (by decide +kernel)
theorem dX2_decidedMatters_15 : decode cX2_decidedMatters 15 = .ok (.ifCond .eq 6, 3) := dc_Bk (by decide +kernel)
theorem dX2_decidedMatters_18 : decode cX2_decidedMatters 18 = .ok (.iinc 1 1, 3) := dc_Bk (by decide +kernel)
theorem dX2_decidedMatters_21 : decode cX2_decidedMatters 21 = .ok (.iinc 2 1, 3) := dc_Bk (by decide +kernel)
theorem dX2_decidedMatters_24 : decode cX2_decidedMatters 24 = .ok (.goto (-20), 3) := dc_Bk (by decide +kernel)
theorem dX2_decidedMatters_27 : decode cX2_decidedMatters 27 = .ok (.iload_n 1, 1) := dc_Bk (by decide +kernel)
theorem dX2_decidedMatters_28 : decode cX2_decidedMatters 28 = .ok (.ireturn, 1) := dc_Bk (by decide +kernel)
set_option maxRecDepth 20000 in
theorem ggX2_bedsFree_X8_part : GoodIn wsX2_bedsFree wsX8_part := goodIn_r _ [6, 7, 8, 9, 10, 5, 11, 12, 23, 24, 25, 26, 27] rfl (by decide +kernel)
set_option maxRecDepth 20000 in
theorem gX2_bedsFree_X8_part : GoodIn wsX2_bedsFree (wsV RX2 61 RX8 yX8_part wsX8_part) := goodIn_app (goodIn_of _ (by decide +kernel)) ggX2_bedsFree_X8_part
theorem dX2_bedsFree_0 : decode cX2_bedsFree 0 = .ok (.aload_n 1, 1) := dc_Bk (by decide +kernel)
theorem dX2_bedsFree_1 : decode cX2_bedsFree 1 = .ok (.iconst 0, 1) := dc_Bk (by decide +kernel)
theorem dX2_bedsFree_2 : decode cX2_bedsFree 2 = .ok (.iload_n 2, 1) := dc_Bk (by decide +kernel)
theorem dX2_bedsFree_3 : decode cX2_bedsFree 3 = .ok (.iconst 1, 1) := dc_Bk (by decide +kernel)
theorem dX2_bedsFree_4 : decode cX2_bedsFree 4 = .ok (.invokevirtual 61, 3) := dc_Bk (by decide +kernel)
theorem dX2_bedsFree_7 : decode cX2_bedsFree 7 = .ok (.istore_n 3, 1) := dc_Bk (by decide +kernel)
theorem dX2_bedsFree_8 : decode cX2_bedsFree 8 = .ok (.iconst 0, 1) := dc_Bk (by decide +kernel)
theorem dX2_bedsFree_9 : decode cX2_bedsFree 9 = .ok (.istore 4, 2) := dc_Bk (by decide +kernel)
theorem dX2_bedsFree_11 : decode cX2_bedsFree 11 = .ok (.iload 4, 2) := dc_Bk (by decide +kernel)
theorem dX2_bedsFree_13 : decode cX2_bedsFree 13 = .ok (.iconst 3, 1) := dc_Bk (by decide +kernel)
theorem dX2_bedsFree_14 : decode cX2_bedsFree 14 = .ok (.if_icmp .ge 23, 3) := dc_Bk (by decide +kernel)
theorem dX2_bedsFree_17 : decode cX2_bedsFree 17 = .ok (.aload_n 0, 1) := dc_Bk (by decide +kernel)
theorem dX2_bedsFree_18 : decode cX2_bedsFree 18 = .ok (.getfield 30, 3) := dc_Bk (by decide +kernel)
theorem dX2_bedsFree_21 : decode cX2_bedsFree 21 = .ok (.iload 4, 2) := dc_Bk (by decide +kernel)
theorem dX2_bedsFree_23 : decode cX2_bedsFree 23 = .ok (.iaload, 1) := dc_Bk (by decide +kernel)
theorem dX2_bedsFree_24 : decode cX2_bedsFree 24 = .ok (.iload_n 2, 1) := dc_Bk (by decide +kernel)
theorem dX2_bedsFree_25 : decode cX2_bedsFree 25 = .ok (.if_icmp .ne 6, 3) := dc_Bk (by decide +kernel)
theorem dX2_bedsFree_28 : decode cX2_bedsFree 28 = .ok (.iinc 3 (-1), 3) := dc_Bk (by decide +kernel)
theorem dX2_bedsFree_31 : decode cX2_bedsFree 31 = .ok (.iinc 4 1, 3) := dc_Bk (by decide +kernel)
theorem dX2_bedsFree_34 : decode cX2_bedsFree 34 = .ok (.goto (-23), 3) := dc_Bk (by decide +kernel)
theorem dX2_bedsFree_37 : decode cX2_bedsFree 37 = .ok (.iload_n 3, 1) := dc_Bk (by decide +kernel)
theorem dX2_bedsFree_38 : decode cX2_bedsFree 38 = .ok (.ireturn, 1) := dc_Bk (by decide +kernel)
set_option maxRecDepth 20000 in
theorem ggX2_isMatterFree_X8_part : GoodIn wsX2_isMatterFree wsX8_part := goodIn_r _ [8, 9, 10, 11, 12, 7, 13, 14, 25, 26, 27, 28, 29] rfl (by decide +kernel)
set_option maxRecDepth 20000 in
theorem gX2_isMatterFree_X8_part : GoodIn wsX2_isMatterFree (wsV RX2 61 RX8 yX8_part wsX8_part) := goodIn_app (goodIn_of _ (by decide +kernel)) ggX2_isMatterFree_X8_part
theorem dX2_isMatterFree_0 : decode cX2_isMatterFree 0 = .ok (.aload_n 0, 1) := dc_Bk (by decide +kernel)
theorem dX2_isMatterFree_1 : decode cX2_isMatterFree 1 = .ok (.getfield 21, 3) := dc_Bk (by decide +kernel)
theorem dX2_isMatterFree_4 : decode cX2_isMatterFree 4 = .ok (.iload_n 2, 1) := dc_Bk (by decide +kernel)
theorem dX2_isMatterFree_5 : decode cX2_isMatterFree 5 = .ok (.iaload, 1) := dc_Bk (by decide +kernel)
theorem dX2_isMatterFree_6 : decode cX2_isMatterFree 6 = .ok (.ifCond .ne 31, 3) := dc_Bk (by decide +kernel)
theorem dX2_isMatterFree_9 : decode cX2_isMatterFree 9 = .ok (.aload_n 0, 1) := dc_Bk (by decide +kernel)
theorem dX2_isMatterFree_10 : decode cX2_isMatterFree 10 = .ok (.getfield 27, 3) := dc_Bk (by decide +kernel)
theorem dX2_isMatterFree_13 : decode cX2_isMatterFree 13 = .ok (.iload_n 2, 1) := dc_Bk (by decide +kernel)
theorem dX2_isMatterFree_14 : decode cX2_isMatterFree 14 = .ok (.iaload, 1) := dc_Bk (by decide +kernel)
theorem dX2_isMatterFree_15 : decode cX2_isMatterFree 15 = .ok (.iconst (-1), 1) := dc_Bk (by decide +kernel)
theorem dX2_isMatterFree_16 : decode cX2_isMatterFree 16 = .ok (.if_icmp .ne 21, 3) := dc_Bk (by decide +kernel)
theorem dX2_isMatterFree_19 : decode cX2_isMatterFree 19 = .ok (.aload_n 0, 1) := dc_Bk (by decide +kernel)
theorem dX2_isMatterFree_20 : decode cX2_isMatterFree 20 = .ok (.getfield 37, 3) := dc_Bk (by decide +kernel)
theorem dX2_isMatterFree_23 : decode cX2_isMatterFree 23 = .ok (.aload_n 1, 1) := dc_Bk (by decide +kernel)
theorem dX2_isMatterFree_24 : decode cX2_isMatterFree 24 = .ok (.iconst 3, 1) := dc_Bk (by decide +kernel)
theorem dX2_isMatterFree_25 : decode cX2_isMatterFree 25 = .ok (.iload_n 2, 1) := dc_Bk (by decide +kernel)
theorem dX2_isMatterFree_26 : decode cX2_isMatterFree 26 = .ok (.iconst 0, 1) := dc_Bk (by decide +kernel)
theorem dX2_isMatterFree_27 : decode cX2_isMatterFree 27 = .ok (.invokevirtual 61, 3) := dc_Bk (by decide +kernel)
theorem dX2_isMatterFree_30 : decode cX2_isMatterFree 30 = .ok (.if_icmp .lt 7, 3) := dc_Bk (by decide +kernel)
theorem dX2_isMatterFree_33 : decode cX2_isMatterFree 33 = .ok (.iconst 1, 1) := dc_Bk (by decide +kernel)
theorem dX2_isMatterFree_34 : decode cX2_isMatterFree 34 = .ok (.goto 4, 3) := dc_Bk (by decide +kernel)
theorem dX2_isMatterFree_37 : decode cX2_isMatterFree 37 = .ok (.iconst 0, 1) := dc_Bk (by decide +kernel)
theorem dX2_isMatterFree_38 : decode cX2_isMatterFree 38 = .ok (.ireturn, 1) := dc_Bk (by decide +kernel)
set_option maxRecDepth 20000 in
theorem ggX2_isSleeperFree_X9_isIn : GoodIn wsX2_isSleeperFree wsX9_isIn := goodIn_r _ [4] rfl (by decide +kernel)
set_option maxRecDepth 20000 in
theorem gX2_isSleeperFree_X9_isIn_n67 : GoodIn wsX2_isSleeperFree (wsX9_isIn) := ggX2_isSleeperFree_X9_isIn
set_option maxRecDepth 20000 in
theorem ggX2_isSleeperFree_X2_matterOf : GoodIn wsX2_isSleeperFree wsX2_matterOf := goodIn_r _ [9, 10, 11, 12, 13, 14, 15, 16, 17, 18, 19, 20] rfl (by decide +kernel)
set_option maxRecDepth 20000 in
theorem gX2_isSleeperFree_X2_matterOf : GoodIn wsX2_isSleeperFree (wsV RX2 71 RX2 yX2_matterOf wsX2_matterOf) := goodIn_app (goodIn_of _ (by decide +kernel)) ggX2_isSleeperFree_X2_matterOf
theorem dX2_isSleeperFree_0 : decode cX2_isSleeperFree 0 = .ok (.aload_n 0, 1) := dc_Bk (by decide +kernel)
theorem dX2_isSleeperFree_1 : decode cX2_isSleeperFree 1 = .ok (.getfield 9, 3) := dc_Bk (by decide +kernel)
theorem dX2_isSleeperFree_4 : decode cX2_isSleeperFree 4 = .ok (.iload_n 1, 1) := dc_Bk (by decide +kernel)
theorem dX2_isSleeperFree_5 : decode cX2_isSleeperFree 5 = .ok (.iaload, 1) := dc_Bk (by decide +kernel)
theorem dX2_isSleeperFree_6 : decode cX2_isSleeperFree 6 = .ok (.iload_n 2, 1) := dc_Bk (by decide +kernel)
theorem dX2_isSleeperFree_7 : decode cX2_isSleeperFree 7 = .ok (.invokestatic 67, 3) := dc_Bk (by decide +kernel)
theorem dX2_isSleeperFree_10 : decode cX2_isSleeperFree 10 = .ok (.ifCond .ne 16, 3) := dc_Bk (by decide +kernel)
theorem dX2_isSleeperFree_13 : decode cX2_isSleeperFree 13 = .ok (.aload_n 0, 1) := dc_Bk (by decide +kernel)
theorem dX2_isSleeperFree_14 : decode cX2_isSleeperFree 14 = .ok (.iload_n 2, 1) := dc_Bk (by decide +kernel)
theorem dX2_isSleeperFree_15 : decode cX2_isSleeperFree 15 = .ok (.invokevirtual 71, 3) := dc_Bk (by decide +kernel)
theorem dX2_isSleeperFree_18 : decode cX2_isSleeperFree 18 = .ok (.iconst (-1), 1) := dc_Bk (by decide +kernel)
theorem dX2_isSleeperFree_19 : decode cX2_isSleeperFree 19 = .ok (.if_icmp .ne 7, 3) := dc_Bk (by decide +kernel)
theorem dX2_isSleeperFree_22 : decode cX2_isSleeperFree 22 = .ok (.iconst 1, 1) := dc_Bk (by decide +kernel)
theorem dX2_isSleeperFree_23 : decode cX2_isSleeperFree 23 = .ok (.goto 4, 3) := dc_Bk (by decide +kernel)
theorem dX2_isSleeperFree_26 : decode cX2_isSleeperFree 26 = .ok (.iconst 0, 1) := dc_Bk (by decide +kernel)
theorem dX2_isSleeperFree_27 : decode cX2_isSleeperFree 27 = .ok (.ireturn, 1) := dc_Bk (by decide +kernel)
set_option maxRecDepth 20000 in
theorem ggX2_isHouseFree_X9_isIn : GoodIn wsX2_isHouseFree wsX9_isIn := goodIn_r _ [4] rfl (by decide +kernel)
set_option maxRecDepth 20000 in
theorem gX2_isHouseFree_X9_isIn_n67 : GoodIn wsX2_isHouseFree (wsX9_isIn) := ggX2_isHouseFree_X9_isIn
set_option maxRecDepth 20000 in
theorem ggX2_isHouseFree_X2_bedsFree : GoodIn wsX2_isHouseFree wsX2_bedsFree := goodIn_r _ [9, 10, 11, 12, 13, 14, 15, 16, 17, 18, 19, 20, 21, 22, 23, 24, 25, 26, 27, 28, 29, 30, 31, 32, 33, 34, 35, 36] rfl (by decide +kernel)
set_option maxRecDepth 20000 in
theorem gX2_isHouseFree_X2_bedsFree : GoodIn wsX2_isHouseFree (wsV RX2 75 RX2 yX2_bedsFree wsX2_bedsFree) := goodIn_app (goodIn_of _ (by decide +kernel)) ggX2_isHouseFree_X2_bedsFree
theorem dX2_isHouseFree_0 : decode cX2_isHouseFree 0 = .ok (.aload_n 0, 1) := dc_Bk (by decide +kernel)
theorem dX2_isHouseFree_1 : decode cX2_isHouseFree 1 = .ok (.getfield 15, 3) := dc_Bk (by decide +kernel)
theorem dX2_isHouseFree_4 : decode cX2_isHouseFree 4 = .ok (.iload_n 2, 1) := dc_Bk (by decide +kernel)
theorem dX2_isHouseFree_5 : decode cX2_isHouseFree 5 = .ok (.iaload, 1) := dc_Bk (by decide +kernel)
theorem dX2_isHouseFree_6 : decode cX2_isHouseFree 6 = .ok (.iload_n 3, 1) := dc_Bk (by decide +kernel)
theorem dX2_isHouseFree_7 : decode cX2_isHouseFree 7 = .ok (.invokestatic 67, 3) := dc_Bk (by decide +kernel)
theorem dX2_isHouseFree_10 : decode cX2_isHouseFree 10 = .ok (.ifCond .ne 16, 3) := dc_Bk (by decide +kernel)
theorem dX2_isHouseFree_13 : decode cX2_isHouseFree 13 = .ok (.aload_n 0, 1) := dc_Bk (by decide +kernel)
theorem dX2_isHouseFree_14 : decode cX2_isHouseFree 14 = .ok (.aload_n 1, 1) := dc_Bk (by decide +kernel)
theorem dX2_isHouseFree_15 : decode cX2_isHouseFree 15 = .ok (.iload_n 3, 1) := dc_Bk (by decide +kernel)
theorem dX2_isHouseFree_16 : decode cX2_isHouseFree 16 = .ok (.invokevirtual 75, 3) := dc_Bk (by decide +kernel)
theorem dX2_isHouseFree_19 : decode cX2_isHouseFree 19 = .ok (.ifCond .le 7, 3) := dc_Bk (by decide +kernel)
theorem dX2_isHouseFree_22 : decode cX2_isHouseFree 22 = .ok (.iconst 1, 1) := dc_Bk (by decide +kernel)
theorem dX2_isHouseFree_23 : decode cX2_isHouseFree 23 = .ok (.goto 4, 3) := dc_Bk (by decide +kernel)
theorem dX2_isHouseFree_26 : decode cX2_isHouseFree 26 = .ok (.iconst 0, 1) := dc_Bk (by decide +kernel)
theorem dX2_isHouseFree_27 : decode cX2_isHouseFree 27 = .ok (.ireturn, 1) := dc_Bk (by decide +kernel)
theorem dX2_layDown_0 : decode cX2_layDown 0 = .ok (.aload_n 0, 1) := dc_Bk (by decide +kernel)
theorem dX2_layDown_1 : decode cX2_layDown 1 = .ok (.getfield 27, 3) := dc_Bk (by decide +kernel)
theorem dX2_layDown_4 : decode cX2_layDown 4 = .ok (.iload_n 1, 1) := dc_Bk (by decide +kernel)
theorem dX2_layDown_5 : decode cX2_layDown 5 = .ok (.iload_n 2, 1) := dc_Bk (by decide +kernel)
theorem dX2_layDown_6 : decode cX2_layDown 6 = .ok (.iastore, 1) := dc_Bk (by decide +kernel)
theorem dX2_layDown_7 : decode cX2_layDown 7 = .ok (.aload_n 0, 1) := dc_Bk (by decide +kernel)
theorem dX2_layDown_8 : decode cX2_layDown 8 = .ok (.getfield 30, 3) := dc_Bk (by decide +kernel)
theorem dX2_layDown_11 : decode cX2_layDown 11 = .ok (.iload_n 1, 1) := dc_Bk (by decide +kernel)
theorem dX2_layDown_12 : decode cX2_layDown 12 = .ok (.iload_n 3, 1) := dc_Bk (by decide +kernel)
theorem dX2_layDown_13 : decode cX2_layDown 13 = .ok (.iastore, 1) := dc_Bk (by decide +kernel)
theorem dX2_layDown_14 : decode cX2_layDown 14 = .ok (.return_, 1) := dc_Bk (by decide +kernel)
theorem dX2_loseNights_0 : decode cX2_loseNights 0 = .ok (.aload_n 0, 1) := dc_Bk (by decide +kernel)
theorem dX2_loseNights_1 : decode cX2_loseNights 1 = .ok (.getfield 9, 3) := dc_Bk (by decide +kernel)
theorem dX2_loseNights_4 : decode cX2_loseNights 4 = .ok (.iload_n 1, 1) := dc_Bk (by decide +kernel)
theorem dX2_loseNights_5 : decode cX2_loseNights 5 = .ok (.iconst 0, 1) := dc_Bk (by decide +kernel)
theorem dX2_loseNights_6 : decode cX2_loseNights 6 = .ok (.iastore, 1) := dc_Bk (by decide +kernel)
theorem dX2_loseNights_7 : decode cX2_loseNights 7 = .ok (.aload_n 0, 1) := dc_Bk (by decide +kernel)
theorem dX2_loseNights_8 : decode cX2_loseNights 8 = .ok (.getfield 15, 3) := dc_Bk (by decide +kernel)
theorem dX2_loseNights_11 : decode cX2_loseNights 11 = .ok (.iload_n 1, 1) := dc_Bk (by decide +kernel)
theorem dX2_loseNights_12 : decode cX2_loseNights 12 = .ok (.iconst 0, 1) := dc_Bk (by decide +kernel)
theorem dX2_loseNights_13 : decode cX2_loseNights 13 = .ok (.iastore, 1) := dc_Bk (by decide +kernel)
theorem dX2_loseNights_14 : decode cX2_loseNights 14 = .ok (.aload_n 0, 1) := dc_Bk (by decide +kernel)
theorem dX2_loseNights_15 : decode cX2_loseNights 15 = .ok (.getfield 18, 3) := dc_Bk (by decide +kernel)
theorem dX2_loseNights_18 : decode cX2_loseNights 18 = .ok (.iload_n 1, 1) := dc_Bk (by decide +kernel)
theorem dX2_loseNights_19 : decode cX2_loseNights 19 = .ok (.iconst 0, 1) := dc_Bk (by decide +kernel)
theorem dX2_loseNights_20 : decode cX2_loseNights 20 = .ok (.iastore, 1) := dc_Bk (by decide +kernel)
theorem dX2_loseNights_21 : decode cX2_loseNights 21 = .ok (.return_, 1) := dc_Bk (by decide +kernel)
theorem dX2_drawOfHundred_0 : decode cX2_drawOfHundred 0 = .ok (.aload_n 0, 1) := dc_Bk (by decide +kernel)
theorem dX2_drawOfHundred_1 : decode cX2_drawOfHundred 1 = .ok (.aload_n 0, 1) := dc_Bk (by decide +kernel)
theorem dX2_drawOfHundred_2 : decode cX2_drawOfHundred 2 = .ok (.getfield 40, 3) := dc_Bk (by decide +kernel)
theorem dX2_drawOfHundred_5 : decode cX2_drawOfHundred 5 = .ok (.ldc 141, 2) := dc_Bk (by decide +kernel)
theorem dX2_drawOfHundred_7 : decode cX2_drawOfHundred 7 = .ok (.imul, 1) := dc_Bk (by decide +kernel)
theorem dX2_drawOfHundred_8 : decode cX2_drawOfHundred 8 = .ok (.sipush 12345, 3) := dc_Bk (by decide +kernel)
theorem dX2_drawOfHundred_11 : decode cX2_drawOfHundred 11 = .ok (.iadd, 1) := dc_Bk (by decide +kernel)
theorem dX2_drawOfHundred_12 : decode cX2_drawOfHundred 12 = .ok (.ldc 142, 2) := dc_Bk (by decide +kernel)
theorem dX2_drawOfHundred_14 : decode cX2_drawOfHundred 14 = .ok (.iand, 1) := dc_Bk (by decide +kernel)
theorem dX2_drawOfHundred_15 : decode cX2_drawOfHundred 15 = .ok (.putfield 40, 3) := dc_Bk (by decide +kernel)
theorem dX2_drawOfHundred_18 : decode cX2_drawOfHundred 18 = .ok (.aload_n 0, 1) := dc_Bk (by decide +kernel)
theorem dX2_drawOfHundred_19 : decode cX2_drawOfHundred 19 = .ok (.getfield 40, 3) := dc_Bk (by decide +kernel)
theorem dX2_drawOfHundred_22 : decode cX2_drawOfHundred 22 = .ok (.ldc 143, 2) := dc_Bk (by decide +kernel)
theorem dX2_drawOfHundred_24 : decode cX2_drawOfHundred 24 = .ok (.idiv, 1) := dc_Bk (by decide +kernel)
theorem dX2_drawOfHundred_25 : decode cX2_drawOfHundred 25 = .ok (.bipush 100, 2) := dc_Bk (by decide +kernel)
theorem dX2_drawOfHundred_27 : decode cX2_drawOfHundred 27 = .ok (.irem, 1) := dc_Bk (by decide +kernel)
theorem dX2_drawOfHundred_28 : decode cX2_drawOfHundred 28 = .ok (.ireturn, 1) := dc_Bk (by decide +kernel)
set_option maxRecDepth 20000 in
theorem ggX2_countNight_X2_drawOfHundred : GoodIn wsX2_countNight wsX2_drawOfHundred := goodIn_r _ [10, 11, 12, 13, 14, 15, 16, 17, 18, 19, 20, 21, 22, 23, 24] rfl (by decide +kernel)
set_option maxRecDepth 20000 in
theorem gX2_countNight_X2_drawOfHundred : GoodIn wsX2_countNight (wsV RX2 127 RX2 yX2_drawOfHundred wsX2_drawOfHundred) := goodIn_app (goodIn_of _ (by decide +kernel)) ggX2_countNight_X2_drawOfHundred
theorem dX2_countNight_0 : decode cX2_countNight 0 = .ok (.aload_n 0, 1) := dc_Bk (by decide +kernel)
theorem dX2_countNight_1 : decode cX2_countNight 1 = .ok (.getfield 9, 3) := dc_Bk (by decide +kernel)
theorem dX2_countNight_4 : decode cX2_countNight 4 = .ok (.iload_n 1, 1) := dc_Bk (by decide +kernel)
theorem dX2_countNight_5 : decode cX2_countNight 5 = .ok (.dup2, 1) := dc_Bk (by decide +kernel)
theorem dX2_countNight_6 : decode cX2_countNight 6 = .ok (.iaload, 1) := dc_Bk (by decide +kernel)
theorem dX2_countNight_7 : decode cX2_countNight 7 = .ok (.iconst 1, 1) := dc_Bk (by decide +kernel)
theorem dX2_countNight_8 : decode cX2_countNight 8 = .ok (.aload_n 0, 1) := dc_Bk (by decide +kernel)
theorem dX2_countNight_9 : decode cX2_countNight 9 = .ok (.getfield 27, 3) := dc_Bk (by decide +kernel)
theorem dX2_countNight_12 : decode cX2_countNight 12 = .ok (.iload_n 1, 1) := dc_Bk (by decide +kernel)
theorem dX2_countNight_13 : decode cX2_countNight 13 = .ok (.iaload, 1) := dc_Bk (by decide +kernel)
theorem dX2_countNight_14 : decode cX2_countNight 14 = .ok (.ishl, 1) := dc_Bk (by decide +kernel)
theorem dX2_countNight_15 : decode cX2_countNight 15 = .ok (.ior, 1) := dc_Bk (by decide +kernel)
theorem dX2_countNight_16 : decode cX2_countNight 16 = .ok (.iastore, 1) := dc_Bk (by decide +kernel)
theorem dX2_countNight_17 : decode cX2_countNight 17 = .ok (.aload_n 0, 1) := dc_Bk (by decide +kernel)
theorem dX2_countNight_18 : decode cX2_countNight 18 = .ok (.getfield 15, 3) := dc_Bk (by decide +kernel)
theorem dX2_countNight_21 : decode cX2_countNight 21 = .ok (.iload_n 1, 1) := dc_Bk (by decide +kernel)
theorem dX2_countNight_22 : decode cX2_countNight 22 = .ok (.dup2, 1) := dc_Bk (by decide +kernel)
theorem dX2_countNight_23 : decode cX2_countNight 23 = .ok (.iaload, 1) := dc_Bk (by decide +kernel)
theorem dX2_countNight_24 : decode cX2_countNight 24 = .ok (.iconst 1, 1) := dc_Bk (by decide +kernel)
theorem dX2_countNight_25 : decode cX2_countNight 25 = .ok (.aload_n 0, 1) := dc_Bk (by decide +kernel)
theorem dX2_countNight_26 : decode cX2_countNight 26 = .ok (.getfield 30, 3) := dc_Bk (by decide +kernel)
theorem dX2_countNight_29 : decode cX2_countNight 29 = .ok (.iload_n 1, 1) := dc_Bk (by decide +kernel)
theorem dX2_countNight_30 : decode cX2_countNight 30 = .ok (.iaload, 1) := dc_Bk (by decide +kernel)
theorem dX2_countNight_31 : decode cX2_countNight 31 = .ok (.ishl, 1) := dc_Bk (by decide +kernel)
theorem dX2_countNight_32 : decode cX2_countNight 32 = .ok (.ior, 1) := dc_Bk (by decide +kernel)
theorem dX2_countNight_33 : decode cX2_countNight 33 = .ok (.iastore, 1) := dc_Bk (by decide +kernel)
theorem dX2_countNight_34 : decode cX2_countNight 34 = .ok (.aload_n 0, 1) := dc_Bk (by decide +kernel)
theorem dX2_countNight_35 : decode cX2_countNight 35 = .ok (.invokevirtual 127, 3) := dc_Bk (by decide +kernel)
theorem dX2_countNight_38 : decode cX2_countNight 38 = .ok (.iload_n 2, 1) := dc_Bk (by decide +kernel)
theorem dX2_countNight_39 : decode cX2_countNight 39 = .ok (.if_icmp .ge 13, 3) := dc_Bk (by decide +kernel)
theorem dX2_countNight_42 : decode cX2_countNight 42 = .ok (.aload_n 0, 1) := dc_Bk (by decide +kernel)
theorem dX2_countNight_43 : decode cX2_countNight 43 = .ok (.getfield 18, 3) := dc_Bk (by decide +kernel)
theorem dX2_countNight_46 : decode cX2_countNight 46 = .ok (.iload_n 1, 1) := dc_Bk (by decide +kernel)
theorem dX2_countNight_47 : decode cX2_countNight 47 = .ok (.dup2, 1) := dc_Bk (by decide +kernel)
theorem dX2_countNight_48 : decode cX2_countNight 48 = .ok (.iaload, 1) := dc_Bk (by decide +kernel)
theorem dX2_countNight_49 : decode cX2_countNight 49 = .ok (.iconst 1, 1) := dc_Bk (by decide +kernel)
theorem dX2_countNight_50 : decode cX2_countNight 50 = .ok (.iadd, 1) := dc_Bk (by decide +kernel)
theorem dX2_countNight_51 : decode cX2_countNight 51 = .ok (.iastore, 1) := dc_Bk (by decide +kernel)
theorem dX2_countNight_52 : decode cX2_countNight 52 = .ok (.return_, 1) := dc_Bk (by decide +kernel)
set_option maxRecDepth 20000 in
theorem ggX2_decide_J6_bitCount_0f7a4 : GoodIn wsX2_decide wsJ6_bitCount_0f7a4 := goodIn_r _ [11, 12, 13, 14] rfl (by decide +kernel)
set_option maxRecDepth 20000 in
theorem gX2_decide_J6_bitCount_0f7a4 : GoodIn wsX2_decide (va_wsS RX2 131 yJ6_bitCount_0f7a4 wsJ6_bitCount_0f7a4) := goodIn_app (goodIn_of _ (by decide +kernel)) ggX2_decide_J6_bitCount_0f7a4
theorem dX2_decide_0 : decode cX2_decide 0 = .ok (.aload_n 0, 1) := dc_Bk (by decide +kernel)
theorem dX2_decide_1 : decode cX2_decide 1 = .ok (.getfield 9, 3) := dc_Bk (by decide +kernel)
theorem dX2_decide_4 : decode cX2_decide 4 = .ok (.iload_n 1, 1) := dc_Bk (by decide +kernel)
theorem dX2_decide_5 : decode cX2_decide 5 = .ok (.iaload, 1) := dc_Bk (by decide +kernel)
theorem dX2_decide_6 : decode cX2_decide 6 = .ok (.invokestatic 131, 3) := dc_Bk (by decide +kernel)
theorem dX2_decide_9 : decode cX2_decide 9 = .ok (.aload_n 2, 1) := dc_Bk (by decide +kernel)
theorem dX2_decide_10 : decode cX2_decide 10 = .ok (.getfield 136, 3) := dc_Bk (by decide +kernel)
theorem dX2_decide_13 : decode cX2_decide 13 = .ok (.if_icmp .ge 5, 3) := dc_Bk (by decide +kernel)
theorem dX2_decide_16 : decode cX2_decide 16 = .ok (.iconst 0, 1) := dc_Bk (by decide +kernel)
theorem dX2_decide_17 : decode cX2_decide 17 = .ok (.ireturn, 1) := dc_Bk (by decide +kernel)
theorem dX2_decide_18 : decode cX2_decide 18 = .ok (.aload_n 0, 1) := dc_Bk (by decide +kernel)
theorem dX2_decide_19 : decode cX2_decide 19 = .ok (.getfield 21, 3) := dc_Bk (by decide +kernel)
theorem dX2_decide_22 : decode cX2_decide 22 = .ok (.iload_n 1, 1) := dc_Bk (by decide +kernel)
theorem dX2_decide_23 : decode cX2_decide 23 = .ok (.aload_n 0, 1) := dc_Bk (by decide +kernel)
theorem dX2_decide_24 : decode cX2_decide 24 = .ok (.getfield 18, 3) := dc_Bk (by decide +kernel)
theorem dX2_decide_27 : decode cX2_decide 27 = .ok (.iload_n 1, 1) := dc_Bk (by decide +kernel)
theorem dX2_decide_28 : decode cX2_decide 28 = .ok (.iaload, 1) := dc_Bk (by decide +kernel)
theorem dX2_decide_29 : decode cX2_decide 29 = .ok (.aload_n 2, 1) := dc_Bk (by decide +kernel)
theorem dX2_decide_30 : decode cX2_decide 30 = .ok (.getfield 139, 3) := dc_Bk (by decide +kernel)
theorem dX2_decide_33 : decode cX2_decide 33 = .ok (.if_icmp .lt 7, 3) := dc_Bk (by decide +kernel)
theorem dX2_decide_36 : decode cX2_decide 36 = .ok (.iconst 1, 1) := dc_Bk (by decide +kernel)
theorem dX2_decide_37 : decode cX2_decide 37 = .ok (.goto 4, 3) := dc_Bk (by decide +kernel)
theorem dX2_decide_40 : decode cX2_decide 40 = .ok (.iconst 2, 1) := dc_Bk (by decide +kernel)
theorem dX2_decide_41 : decode cX2_decide 41 = .ok (.iastore, 1) := dc_Bk (by decide +kernel)
theorem dX2_decide_42 : decode cX2_decide 42 = .ok (.aload_n 0, 1) := dc_Bk (by decide +kernel)
theorem dX2_decide_43 : decode cX2_decide 43 = .ok (.getfield 24, 3) := dc_Bk (by decide +kernel)
theorem dX2_decide_46 : decode cX2_decide 46 = .ok (.iload_n 1, 1) := dc_Bk (by decide +kernel)
theorem dX2_decide_47 : decode cX2_decide 47 = .ok (.aload_n 0, 1) := dc_Bk (by decide +kernel)
theorem dX2_decide_48 : decode cX2_decide 48 = .ok (.getfield 37, 3) := dc_Bk (by decide +kernel)
theorem dX2_decide_51 : decode cX2_decide 51 = .ok (.iastore, 1) := dc_Bk (by decide +kernel)
theorem dX2_decide_52 : decode cX2_decide 52 = .ok (.iconst 1, 1) := dc_Bk (by decide +kernel)
theorem dX2_decide_53 : decode cX2_decide 53 = .ok (.ireturn, 1) := dc_Bk (by decide +kernel)
theorem dX2_copyFrom_0 : decode cX2_copyFrom 0 = .ok (.aload_n 1, 1) := dc_Bk (by decide +kernel)
theorem dX2_copyFrom_1 : decode cX2_copyFrom 1 = .ok (.getfield 9, 3) := dc_Bk (by decide +kernel)
theorem dX2_copyFrom_4 : decode cX2_copyFrom 4 = .ok (.iconst 0, 1) := dc_Bk (by decide +kernel)
theorem dX2_copyFrom_5 : decode cX2_copyFrom 5 = .ok (.aload_n 0, 1) := dc_Bk (by decide +kernel)
theorem dX2_copyFrom_6 : decode cX2_copyFrom 6 = .ok (.getfield 9, 3) := dc_Bk (by decide +kernel)
theorem dX2_copyFrom_9 : decode cX2_copyFrom 9 = .ok (.iconst 0, 1) := dc_Bk (by decide +kernel)
theorem dX2_copyFrom_10 : decode cX2_copyFrom 10 = .ok (.iconst 3, 1) := dc_Bk (by decide +kernel)
theorem dX2_copyFrom_11 : decode cX2_copyFrom 11 = .ok (.invokestatic 55, 3) := dc_Bk (by decide +kernel)
theorem dX2_copyFrom_14 : decode cX2_copyFrom 14 = .ok (.aload_n 1, 1) := dc_Bk (by decide +kernel)
theorem dX2_copyFrom_15 : decode cX2_copyFrom 15 = .ok (.getfield 15, 3) := dc_Bk (by decide +kernel)
theorem dX2_copyFrom_18 : decode cX2_copyFrom 18 = .ok (.iconst 0, 1) := dc_Bk (by decide +kernel)
theorem dX2_copyFrom_19 : decode cX2_copyFrom 19 = .ok (.aload_n 0, 1) := dc_Bk (by decide +kernel)
theorem dX2_copyFrom_20 : decode cX2_copyFrom 20 = .ok (.getfield 15, 3) := dc_Bk (by decide +kernel)
theorem dX2_copyFrom_23 : decode cX2_copyFrom 23 = .ok (.iconst 0, 1) := dc_Bk (by decide +kernel)
theorem dX2_copyFrom_24 : decode cX2_copyFrom 24 = .ok (.iconst 3, 1) := dc_Bk (by decide +kernel)
theorem dX2_copyFrom_25 : decode cX2_copyFrom 25 = .ok (.invokestatic 55, 3) := dc_Bk (by decide +kernel)
theorem dX2_copyFrom_28 : decode cX2_copyFrom 28 = .ok (.aload_n 1, 1) := dc_Bk (by decide +kernel)
theorem dX2_copyFrom_29 : decode cX2_copyFrom 29 = .ok (.getfield 18, 3) := dc_Bk (by decide +kernel)
theorem dX2_copyFrom_32 : decode cX2_copyFrom 32 = .ok (.iconst 0, 1) := dc_Bk (by decide +kernel)
theorem dX2_copyFrom_33 : decode cX2_copyFrom 33 = .ok (.aload_n 0, 1) := dc_Bk (by decide +kernel)
theorem dX2_copyFrom_34 : decode cX2_copyFrom 34 = .ok (.getfield 18, 3) := dc_Bk (by decide +kernel)
theorem dX2_copyFrom_37 : decode cX2_copyFrom 37 = .ok (.iconst 0, 1) := dc_Bk (by decide +kernel)
theorem dX2_copyFrom_38 : decode cX2_copyFrom 38 = .ok (.iconst 3, 1) := dc_Bk (by decide +kernel)
theorem dX2_copyFrom_39 : decode cX2_copyFrom 39 = .ok (.invokestatic 55, 3) := dc_Bk (by decide +kernel)
theorem dX2_copyFrom_42 : decode cX2_copyFrom 42 = .ok (.aload_n 1, 1) := dc_Bk (by decide +kernel)
theorem dX2_copyFrom_43 : decode cX2_copyFrom 43 = .ok (.getfield 21, 3) := dc_Bk (by decide +kernel)
theorem dX2_copyFrom_46 : decode cX2_copyFrom 46 = .ok (.iconst 0, 1) := dc_Bk (by decide +kernel)
theorem dX2_copyFrom_47 : decode cX2_copyFrom 47 = .ok (.aload_n 0, 1) := dc_Bk (by decide +kernel)
theorem dX2_copyFrom_48 : decode cX2_copyFrom 48 = .ok (.getfield 21, 3) := dc_Bk (by decide +kernel)
theorem dX2_copyFrom_51 : decode cX2_copyFrom 51 = .ok (.iconst 0, 1) := dc_Bk (by decide +kernel)
theorem dX2_copyFrom_52 : decode cX2_copyFrom 52 = .ok (.iconst 3, 1) := dc_Bk (by decide +kernel)
theorem dX2_copyFrom_53 : decode cX2_copyFrom 53 = .ok (.invokestatic 55, 3) := dc_Bk (by decide +kernel)
theorem dX2_copyFrom_56 : decode cX2_copyFrom 56 = .ok (.aload_n 1, 1) := dc_Bk (by decide +kernel)
theorem dX2_copyFrom_57 : decode cX2_copyFrom 57 = .ok (.getfield 24, 3) := dc_Bk (by decide +kernel)
theorem dX2_copyFrom_60 : decode cX2_copyFrom 60 = .ok (.iconst 0, 1) := dc_Bk (by decide +kernel)
theorem dX2_copyFrom_61 : decode cX2_copyFrom 61 = .ok (.aload_n 0, 1) := dc_Bk (by decide +kernel)
theorem dX2_copyFrom_62 : decode cX2_copyFrom 62 = .ok (.getfield 24, 3) := dc_Bk (by decide +kernel)
theorem dX2_copyFrom_65 : decode cX2_copyFrom 65 = .ok (.iconst 0, 1) := dc_Bk (by decide +kernel)
theorem dX2_copyFrom_66 : decode cX2_copyFrom 66 = .ok (.iconst 3, 1) := dc_Bk (by decide +kernel)
theorem dX2_copyFrom_67 : decode cX2_copyFrom 67 = .ok (.invokestatic 55, 3) := dc_Bk (by decide +kernel)
theorem dX2_copyFrom_70 : decode cX2_copyFrom 70 = .ok (.aload_n 1, 1) := dc_Bk (by decide +kernel)
theorem dX2_copyFrom_71 : decode cX2_copyFrom 71 = .ok (.getfield 27, 3) := dc_Bk (by decide +kernel)
theorem dX2_copyFrom_74 : decode cX2_copyFrom 74 = .ok (.iconst 0, 1) := dc_Bk (by decide +kernel)
theorem dX2_copyFrom_75 : decode cX2_copyFrom 75 = .ok (.aload_n 0, 1) := dc_Bk (by decide +kernel)
theorem dX2_copyFrom_76 : decode cX2_copyFrom 76 = .ok (.getfield 27, 3) := dc_Bk (by decide +kernel)
theorem dX2_copyFrom_79 : decode cX2_copyFrom 79 = .ok (.iconst 0, 1) := dc_Bk (by decide +kernel)
theorem dX2_copyFrom_80 : decode cX2_copyFrom 80 = .ok (.iconst 3, 1) := dc_Bk (by decide +kernel)
theorem dX2_copyFrom_81 : decode cX2_copyFrom 81 = .ok (.invokestatic 55, 3) := dc_Bk (by decide +kernel)
theorem dX2_copyFrom_84 : decode cX2_copyFrom 84 = .ok (.aload_n 1, 1) := dc_Bk (by decide +kernel)
theorem dX2_copyFrom_85 : decode cX2_copyFrom 85 = .ok (.getfield 30, 3) := dc_Bk (by decide +kernel)
theorem dX2_copyFrom_88 : decode cX2_copyFrom 88 = .ok (.iconst 0, 1) := dc_Bk (by decide +kernel)
theorem dX2_copyFrom_89 : decode cX2_copyFrom 89 = .ok (.aload_n 0, 1) := dc_Bk (by decide +kernel)
theorem dX2_copyFrom_90 : decode cX2_copyFrom 90 = .ok (.getfield 30, 3) := dc_Bk (by decide +kernel)
theorem dX2_copyFrom_93 : decode cX2_copyFrom 93 = .ok (.iconst 0, 1) := dc_Bk (by decide +kernel)
theorem dX2_copyFrom_94 : decode cX2_copyFrom 94 = .ok (.iconst 3, 1) := dc_Bk (by decide +kernel)
theorem dX2_copyFrom_95 : decode cX2_copyFrom 95 = .ok (.invokestatic 55, 3) := dc_Bk (by decide +kernel)
theorem dX2_copyFrom_98 : decode cX2_copyFrom 98 = .ok (.aload_n 0, 1) := dc_Bk (by decide +kernel)
theorem dX2_copyFrom_99 : decode cX2_copyFrom 99 = .ok (.aload_n 1, 1) := dc_Bk (by decide +kernel)
theorem dX2_copyFrom_100 : decode cX2_copyFrom 100 = .ok (.getfield 33, 3) := dc_Bk (by decide +kernel)
theorem dX2_copyFrom_103 : decode cX2_copyFrom 103 = .ok (.putfield 33, 3) := dc_Bk (by decide +kernel)
theorem dX2_copyFrom_106 : decode cX2_copyFrom 106 = .ok (.aload_n 0, 1) := dc_Bk (by decide +kernel)
theorem dX2_copyFrom_107 : decode cX2_copyFrom 107 = .ok (.aload_n 1, 1) := dc_Bk (by decide +kernel)
theorem dX2_copyFrom_108 : decode cX2_copyFrom 108 = .ok (.getfield 37, 3) := dc_Bk (by decide +kernel)
theorem dX2_copyFrom_111 : decode cX2_copyFrom 111 = .ok (.putfield 37, 3) := dc_Bk (by decide +kernel)
theorem dX2_copyFrom_114 : decode cX2_copyFrom 114 = .ok (.aload_n 0, 1) := dc_Bk (by decide +kernel)
theorem dX2_copyFrom_115 : decode cX2_copyFrom 115 = .ok (.aload_n 1, 1) := dc_Bk (by decide +kernel)
theorem dX2_copyFrom_116 : decode cX2_copyFrom 116 = .ok (.getfield 40, 3) := dc_Bk (by decide +kernel)
theorem dX2_copyFrom_119 : decode cX2_copyFrom 119 = .ok (.putfield 40, 3) := dc_Bk (by decide +kernel)
theorem dX2_copyFrom_122 : decode cX2_copyFrom 122 = .ok (.return_, 1) := dc_Bk (by decide +kernel)
def u1 (x y : Int32) : Int32 := (x.toUInt32 >>> (y.toUInt32 &&& Int32.toUInt32 31)).toInt32
def bc1 (x : Int32) : Int32 := x - ((u1 x 1) &&& 1431655765)
def bc2 (x : Int32) : Int32 := (x &&& 858993459) + ((u1 x 2) &&& 858993459)
def bc3 (x : Int32) : Int32 := (x + u1 x 4) &&& 252645135
def bc4 (x : Int32) : Int32 := x + u1 x 8
def bc5 (x : Int32) : Int32 := x + u1 x 16
def bcA (x : Int32) : Int32 := bc5 (bc4 (bc3 (bc2 (bc1 x)))) &&& 63
def mof (f5 : Nat → Int32) (sa : Int32) : Int32 := if f5 0 = sa then 0 else if f5 1 = sa then 1 else if f5 2 = sa then 2 else -1
def d1 (v x hh : Int32) : Int32 := if x = hh then v + (-1) else v
def bfr (v : Int32) (f6 : Nat → Int32) (hh : Int32) : Int32 := d1 (d1 (d1 v (f6 0) hh) (f6 1) hh) (f6 2) hh
def ne1 (x y : Int32) : Int32 := if x = y then 0 else 1
def ltn (f5 : Nat → Int32) : Int32 := ne1 (f5 0) (-1) + ne1 (f5 1) (-1) + ne1 (f5 2) (-1)
def dcm (f3 : Nat → Int32) : Int32 := ne1 (f3 0) 0 + ne1 (f3 1) 0 + ne1 (f3 2) 0
def imf (o l dy fr : Int32) : Int32 := if ¬ o = 0 then 0 else if ¬ l = -1 then 0 else if dy < fr then 0 else 1
def isf (st sa mo : Int32) : Int32 := if ¬ inS st sa = 0 then 0 else if ¬ mo = -1 then 0 else 1
def ihf (st sh bf : Int32) : Int32 := if ¬ inS st sh = 0 then 0 else if bf ≤ 0 then 0 else 1
def dsd (v : Int32) : Int32 := (v * 1103515245 + 12345) &&& 2147483647
def drw (v : Int32) : Int32 := dsd v / 65536 - dsd v / 65536 / 100 * 100

abbrev c_J6_bitCount (k : Nat → ClassId) (xx : Int32) : va_W := []
abbrev r_J6_bitCount : Room := { frames := 0, cells := 0, slots := 0, locals := 0 }
abbrev q_J6_bitCount (k : Nat → ClassId) (xx : Int32) : Array Value → State → Outcome → State → Prop := vp_Si (fun r => r = bcA xx)
set_option maxHeartbeats 2000000 in
set_option maxRecDepth 100000 in
theorem J6_bitCount (l : Launch) (D : va_G) (k : Nat → ClassId) (xx : Int32)  : Met l yJ6_bitCount_0f7a4 wsJ6_bitCount_0f7a4 r_J6_bitCount (va_Pc [.int xx] (PS D k (c_J6_bitCount k xx))) (q_J6_bitCount k xx) 0 0 (fun _ => False) := by
  refine Met.ofW (cc := cJ6_bitCount_0f7a4) (maxL := 1) (ret := (some .int)) (by decide) rfl ?_
  intro p e s m args below meth c s₁ B hml hv
  obtain ⟨rfl, hP, hG⟩ := hv
  have hx := B.exec
  have hb := B.bytes
  have hr := B.returns
  have hts := atoms_spec (ws := wsJ6_bitCount_0f7a4) B.pre
  have hown : s.vm.findClass RJ6 = some m.cls := findClass_of_methodNamed B.named
  have hlocks := B.notSynchronized
  have hP : va_P D vwCl [] s.heap := hP
  have hl := lv_entry ([.int xx]) (n := 1) (Nat.le_of_ble_eq_true rfl)
  rw [lg_entry_eq]
  generalize (lg_sl ([.int xx]) ++ List.replicate (1 - (lg_sl ([.int xx])).length) Slot.unset).toArray = ls at hl ⊢
  have hl : lv_has ls 1 [(0, .int xx)] := hl
  refine lv_iload_n hx hb dJ6_bitCount_0f7a4_0 rfl (lv_at hl 0 rfl) ?_
  refine lv_iload_n hx hb dJ6_bitCount_0f7a4_1 rfl (lv_at hl 0 rfl) ?_
  refine lv_iconst (v := 1) hx hb dJ6_bitCount_0f7a4_2 (by decide) ?_
  refine lv_iushr (v := (xx.toUInt32 >>> ((1 : Int32).toUInt32 &&& Int32.toUInt32 31)).toInt32) hx hb dJ6_bitCount_0f7a4_3 rfl ?_
  refine lv_ldcw (v := 1431655765) hx hb hown (hts (.constant RJ6 265 (1431655765)) (List.mem_cons_of_mem _ (List.mem_of_getElem? (i := 0) rfl))) dJ6_bitCount_0f7a4_4 ?_
  refine lv_iand hx hb dJ6_bitCount_0f7a4_7 ?_
  refine lv_isub hx hb dJ6_bitCount_0f7a4_8 ?_
  refine tp_i (y := bc1 xx) (rfl) ?_
  refine lv_istore_n (lv' := [(0, .int (bc1 xx))]) hx hb dJ6_bitCount_0f7a4_9 rfl hl (by decide) rfl (fun ls hl => ?_)
  refine lv_iload_n hx hb dJ6_bitCount_0f7a4_10 rfl (lv_at hl 0 rfl) ?_
  refine lv_ldcw (v := 858993459) hx hb hown (hts (.constant RJ6 266 (858993459)) (List.mem_cons_of_mem _ (List.mem_of_getElem? (i := 1) rfl))) dJ6_bitCount_0f7a4_11 ?_
  refine lv_iand hx hb dJ6_bitCount_0f7a4_14 ?_
  refine lv_iload_n hx hb dJ6_bitCount_0f7a4_15 rfl (lv_at hl 0 rfl) ?_
  refine lv_iconst (v := 2) hx hb dJ6_bitCount_0f7a4_16 (by decide) ?_
  refine lv_iushr (v := ((bc1 xx).toUInt32 >>> ((2 : Int32).toUInt32 &&& Int32.toUInt32 31)).toInt32) hx hb dJ6_bitCount_0f7a4_17 rfl ?_
  refine lv_ldcw (v := 858993459) hx hb hown (hts (.constant RJ6 266 (858993459)) (List.mem_cons_of_mem _ (List.mem_of_getElem? (i := 1) rfl))) dJ6_bitCount_0f7a4_18 ?_
  refine lv_iand hx hb dJ6_bitCount_0f7a4_21 ?_
  refine lv_iadd hx hb dJ6_bitCount_0f7a4_22 ?_
  refine tp_i (y := bc2 (bc1 xx)) (rfl) ?_
  refine lv_istore_n (lv' := [(0, .int (bc2 (bc1 xx)))]) hx hb dJ6_bitCount_0f7a4_23 rfl hl (by decide) rfl (fun ls hl => ?_)
  refine lv_iload_n hx hb dJ6_bitCount_0f7a4_24 rfl (lv_at hl 0 rfl) ?_
  refine lv_iload_n hx hb dJ6_bitCount_0f7a4_25 rfl (lv_at hl 0 rfl) ?_
  refine lv_iconst (v := 4) hx hb dJ6_bitCount_0f7a4_26 (by decide) ?_
  refine lv_iushr (v := ((bc2 (bc1 xx)).toUInt32 >>> ((4 : Int32).toUInt32 &&& Int32.toUInt32 31)).toInt32) hx hb dJ6_bitCount_0f7a4_27 rfl ?_
  refine lv_iadd hx hb dJ6_bitCount_0f7a4_28 ?_
  refine lv_ldcw (v := 252645135) hx hb hown (hts (.constant RJ6 267 (252645135)) (List.mem_cons_of_mem _ (List.mem_of_getElem? (i := 2) rfl))) dJ6_bitCount_0f7a4_29 ?_
  refine lv_iand hx hb dJ6_bitCount_0f7a4_32 ?_
  refine tp_i (y := bc3 (bc2 (bc1 xx))) (rfl) ?_
  refine lv_istore_n (lv' := [(0, .int (bc3 (bc2 (bc1 xx))))]) hx hb dJ6_bitCount_0f7a4_33 rfl hl (by decide) rfl (fun ls hl => ?_)
  refine lv_iload_n hx hb dJ6_bitCount_0f7a4_34 rfl (lv_at hl 0 rfl) ?_
  refine lv_iload_n hx hb dJ6_bitCount_0f7a4_35 rfl (lv_at hl 0 rfl) ?_
  refine lv_bipush (v := 8) hx hb dJ6_bitCount_0f7a4_36 (by decide) ?_
  refine lv_iushr (v := ((bc3 (bc2 (bc1 xx))).toUInt32 >>> ((8 : Int32).toUInt32 &&& Int32.toUInt32 31)).toInt32) hx hb dJ6_bitCount_0f7a4_38 rfl ?_
  refine lv_iadd hx hb dJ6_bitCount_0f7a4_39 ?_
  refine tp_i (y := bc4 (bc3 (bc2 (bc1 xx)))) (rfl) ?_
  refine lv_istore_n (lv' := [(0, .int (bc4 (bc3 (bc2 (bc1 xx)))))]) hx hb dJ6_bitCount_0f7a4_40 rfl hl (by decide) rfl (fun ls hl => ?_)
  refine lv_iload_n hx hb dJ6_bitCount_0f7a4_41 rfl (lv_at hl 0 rfl) ?_
  refine lv_iload_n hx hb dJ6_bitCount_0f7a4_42 rfl (lv_at hl 0 rfl) ?_
  refine lv_bipush (v := 16) hx hb dJ6_bitCount_0f7a4_43 (by decide) ?_
  refine lv_iushr (v := ((bc4 (bc3 (bc2 (bc1 xx)))).toUInt32 >>> ((16 : Int32).toUInt32 &&& Int32.toUInt32 31)).toInt32) hx hb dJ6_bitCount_0f7a4_45 rfl ?_
  refine lv_iadd hx hb dJ6_bitCount_0f7a4_46 ?_
  refine tp_i (y := bc5 (bc4 (bc3 (bc2 (bc1 xx))))) (rfl) ?_
  refine lv_istore_n (lv' := [(0, .int (bc5 (bc4 (bc3 (bc2 (bc1 xx))))))]) hx hb dJ6_bitCount_0f7a4_47 rfl hl (by decide) rfl (fun ls hl => ?_)
  refine lv_iload_n hx hb dJ6_bitCount_0f7a4_48 rfl (lv_at hl 0 rfl) ?_
  refine lv_bipush (v := 63) hx hb dJ6_bitCount_0f7a4_49 (by decide) ?_
  refine lv_iand hx hb dJ6_bitCount_0f7a4_51 ?_
  exact W.iret (v := (bc5 (bc4 (bc3 (bc2 (bc1 xx))))) &&& 63) hx hb hr (fun t9 ht _ => ⟨(bc5 (bc4 (bc3 (bc2 (bc1 xx))))) &&& 63, rfl, rfl, ht⟩) (fun q h => by cases h) dJ6_bitCount_0f7a4_52

abbrev c_X2_emptyBeds (k : Nat → ClassId) (h : Nat) (q0 : Nat) (q1 : Nat) (q2 : Nat) (q3 : Nat) (q4 : Nat) (q5 : Nat) (q6 : Nat) (f0 : Nat → Int32) (f1 : Nat → Int32) (f2 : Nat → Int32) (f3 : Nat → Int32) (f4 : Nat → Int32) (f5 : Nat → Int32) (f6 : Nat → Int32) (wg : Int32) (dy : Int32) (sd : Int32) : va_W := [(h, .inr (2, [.ref q0, .ref q1, .ref q2, .ref q3, .ref q4, .ref q5, .ref q6, .int wg, .int dy, .int sd])), (q0, .inl (k 0, 3, .inl f0)), (q1, .inl (k 0, 3, .inl f1)), (q2, .inl (k 0, 3, .inl f2)), (q3, .inl (k 0, 3, .inl f3)), (q4, .inl (k 0, 3, .inl f4)), (q5, .inl (k 0, 3, .inl f5)), (q6, .inl (k 0, 3, .inl f6))]
abbrev r_X2_emptyBeds : Room := { frames := 1, cells := 0, slots := 0, locals := 23 }
def w_X2_emptyBeds (k : Nat → ClassId) (h : Nat) (q0 : Nat) (q1 : Nat) (q2 : Nat) (q3 : Nat) (q4 : Nat) (q5 : Nat) (q6 : Nat) (f0 : Nat → Int32) (f1 : Nat → Int32) (f2 : Nat → Int32) (f3 : Nat → Int32) (f4 : Nat → Int32) (f5 : Nat → Int32) (f6 : Nat → Int32) (wg : Int32) (dy : Int32) (sd : Int32) : Unit → va_W := fun _ => [(h, .inr (2, [.ref q0, .ref q1, .ref q2, .ref q3, .ref q4, .ref q5, .ref q6, .int wg, .int dy, .int sd])), (q0, .inl (k 0, 3, .inl f0)), (q1, .inl (k 0, 3, .inl f1)), (q2, .inl (k 0, 3, .inl f2)), (q3, .inl (k 0, 3, .inl f3)), (q4, .inl (k 0, 3, .inl f4)), (q5, .inl (k 0, 3, .inl (fl_i f5 (-1) 3))), (q6, .inl (k 0, 3, .inl (fl_i f6 (-1) 3)))]
def p_X2_emptyBeds (k : Nat → ClassId) (h : Nat) (q0 : Nat) (q1 : Nat) (q2 : Nat) (q3 : Nat) (q4 : Nat) (q5 : Nat) (q6 : Nat) (f0 : Nat → Int32) (f1 : Nat → Int32) (f2 : Nat → Int32) (f3 : Nat → Int32) (f4 : Nat → Int32) (f5 : Nat → Int32) (f6 : Nat → Int32) (wg : Int32) (dy : Int32) (sd : Int32) : Unit → Prop := fun (u : Unit) => True
abbrev q_X2_emptyBeds (D : va_G) (k : Nat → ClassId) (h : Nat) (q0 : Nat) (q1 : Nat) (q2 : Nat) (q3 : Nat) (q4 : Nat) (q5 : Nat) (q6 : Nat) (f0 : Nat → Int32) (f1 : Nat → Int32) (f2 : Nat → Int32) (f3 : Nat → Int32) (f4 : Nat → Int32) (f5 : Nat → Int32) (f6 : Nat → Int32) (wg : Int32) (dy : Int32) (sd : Int32) (A : Nat → Prop) : Array Value → State → Outcome → State → Prop := va_Qv (p_X2_emptyBeds k h q0 q1 q2 q3 q4 q5 q6 f0 f1 f2 f3 f4 f5 f6 wg dy sd) (fun u9 t9 => BO D (w_X2_emptyBeds k h q0 q1 q2 q3 q4 q5 q6 f0 f1 f2 f3 f4 f5 f6 wg dy sd u9) A t9) A
set_option maxHeartbeats 2000000 in
set_option maxRecDepth 100000 in
theorem X2_emptyBeds (l : Launch) (D : va_G) (k : Nat → ClassId) (sz : Nat) (h : Nat) (q0 : Nat) (q1 : Nat) (q2 : Nat) (q3 : Nat) (q4 : Nat) (q5 : Nat) (q6 : Nat) (f0 : Nat → Int32) (f1 : Nat → Int32) (f2 : Nat → Int32) (f3 : Nat → Int32) (f4 : Nat → Int32) (f5 : Nat → Int32) (f6 : Nat → Int32) (wg : Int32) (dy : Int32) (sd : Int32)  : Met l yX2_emptyBeds wsX2_emptyBeds r_X2_emptyBeds (va_Pc [.ref h] (PR D k (c_X2_emptyBeds k h q0 q1 q2 q3 q4 q5 q6 f0 f1 f2 f3 f4 f5 f6 wg dy sd) sz)) (q_X2_emptyBeds D k h q0 q1 q2 q3 q4 q5 q6 f0 f1 f2 f3 f4 f5 f6 wg dy sd (va_A (c_X2_emptyBeds k h q0 q1 q2 q3 q4 q5 q6 f0 f1 f2 f3 f4 f5 f6 wg dy sd) sz)) 0 0 (va_A (c_X2_emptyBeds k h q0 q1 q2 q3 q4 q5 q6 f0 f1 f2 f3 f4 f5 f6 wg dy sd) sz) := by
  refine Met.ofW (cc := cX2_emptyBeds) (maxL := 1) (ret := none) (by decide) rfl ?_
  intro p e s m args below meth c s₁ B hml hv
  obtain ⟨rfl, hsz, hP, hG, hD0⟩ := hv
  have hx := B.exec
  have hb := B.bytes
  have hr := B.returns
  have hts := atoms_spec (ws := wsX2_emptyBeds) B.pre
  have hown : s.vm.findClass RX2 = some m.cls := findClass_of_methodNamed B.named
  have hlocks := B.notSynchronized
  have hi2 : ∀ w ∈ wsX20, w ∈ wsX2_emptyBeds := fun _ h => List.mem_cons_of_mem _ (List.mem_append_right _ h)
  subst hsz
  have hD := hD0.self (sz := s.heap.size)
  generalize hAe : va_A (c_X2_emptyBeds k h q0 q1 q2 q3 q4 q5 q6 f0 f1 f2 f3 f4 f5 f6 wg dy sd) s.heap.size = A at hD ⊢
  have hA : ∀ q : Nat, s.heap.size ≤ q → A q := fun q h => by rw [← hAe]; exact Or.inr h
  have hS : va_S A s.heap s.heap [] := va_S.rf
  have hP : va_P D vwCl [(h, .inr (2, [.ref q0, .ref q1, .ref q2, .ref q3, .ref q4, .ref q5, .ref q6, .int wg, .int dy, .int sd])), (q0, .inl (k 0, 3, .inl f0)), (q1, .inl (k 0, 3, .inl f1)), (q2, .inl (k 0, 3, .inl f2)), (q3, .inl (k 0, 3, .inl f3)), (q4, .inl (k 0, 3, .inl f4)), (q5, .inl (k 0, 3, .inl f5)), (q6, .inl (k 0, 3, .inl f6))] s.heap := hP
  have hD : va_D A [(h, .inr (2, [.ref q0, .ref q1, .ref q2, .ref q3, .ref q4, .ref q5, .ref q6, .int wg, .int dy, .int sd])), (q0, .inl (k 0, 3, .inl f0)), (q1, .inl (k 0, 3, .inl f1)), (q2, .inl (k 0, 3, .inl f2)), (q3, .inl (k 0, 3, .inl f3)), (q4, .inl (k 0, 3, .inl f4)), (q5, .inl (k 0, 3, .inl f5)), (q6, .inl (k 0, 3, .inl f6))] := hD
  have hl := lv_entry ([.ref h]) (n := 1) (Nat.le_of_ble_eq_true rfl)
  rw [lg_entry_eq]
  generalize (lg_sl ([.ref h]) ++ List.replicate (1 - (lg_sl ([.ref h])).length) Slot.unset).toArray = ls at hl ⊢
  have hl : lv_has ls 1 [(0, .ref h)] := hl
  refine lv_aload_n hx hb dX2_emptyBeds_0 rfl (lv_at hl 0 rfl) ?_
  refine va_get (D := D) (ci := 2) (v := .ref q5) (C := RX2) (T := TX2) (N := 10) hx hb hts hi2 hown hG.1 hP 0 rfl rfl 5 (by decide) (hts (.fieldLink RX2 27 "SleptMatters$Course" "laidSleeper" "[I") (List.mem_cons_of_mem _ (List.mem_append_left _ (List.mem_of_getElem? (i := 0) rfl)))) (fun _ h9 => h9) rfl dX2_emptyBeds_1 ?_
  refine lv_iconst (v := (-1)) hx hb dX2_emptyBeds_4 (by decide) ?_
  have hPc := hP.sub (ws' := (c_fillI k q5 3 f5 (-1))) [6] rfl
  have hDc := hD.sub (ws' := (c_fillI k q5 3 f5 (-1))) [6] (by decide +kernel) rfl
  refine cl_v (w1 := w_fillI k q5 3 f5 (-1)) (wr := [(h, .inr (2, [.ref q0, .ref q1, .ref q2, .ref q3, .ref q4, .ref q5, .ref q6, .int wg, .int dy, .int sd])), (q0, .inl (k 0, 3, .inl f0)), (q1, .inl (k 0, 3, .inl f1)), (q2, .inl (k 0, 3, .inl f2)), (q3, .inl (k 0, 3, .inl f3)), (q4, .inl (k 0, 3, .inl f4)), (q6, .inl (k 0, 3, .inl f6))]) (va_runS (As := [.ref q5, .int (-1)]) (rest := []) ⟨hx, hb, hml, hown, hts⟩ (fillI l D k s.heap.size q5 3 f5 (-1) (by decide)) (va_cwS 2 hts gX2_emptyBeds_J7_fill_53178 rfl rfl rfl (by decide +kernel) ⟨Nat.le_of_ble_eq_true rfl, Nat.le_of_ble_eq_true rfl⟩) ⟨PR.blind _ _ _ _ _, PR.pre hPc hDc hG [.ref q5, .int (-1)]⟩ rfl rfl hl.1 rfl (lv_room (Nat.le_of_ble_eq_true rfl)) dX2_emptyBeds_5 ⟨Nat.le_of_ble_eq_true rfl, Nat.le_of_ble_eq_true rfl⟩) hP hD hS hA [6] [0, 1, 2, 3, 4, 5, 7] rfl rfl (by decide +kernel) (by decide +kernel) (fun u H locs hq hP hD hS => ?_)
  cases u
  have hP : va_P D vwCl [(h, .inr (2, [.ref q0, .ref q1, .ref q2, .ref q3, .ref q4, .ref q5, .ref q6, .int wg, .int dy, .int sd])), (q0, .inl (k 0, 3, .inl f0)), (q1, .inl (k 0, 3, .inl f1)), (q2, .inl (k 0, 3, .inl f2)), (q3, .inl (k 0, 3, .inl f3)), (q4, .inl (k 0, 3, .inl f4)), (q6, .inl (k 0, 3, .inl f6)), (q5, .inl (k 0, 3, .inl (fl_i f5 (-1) 3)))] H := hP
  have hD : va_D A [(h, .inr (2, [.ref q0, .ref q1, .ref q2, .ref q3, .ref q4, .ref q5, .ref q6, .int wg, .int dy, .int sd])), (q0, .inl (k 0, 3, .inl f0)), (q1, .inl (k 0, 3, .inl f1)), (q2, .inl (k 0, 3, .inl f2)), (q3, .inl (k 0, 3, .inl f3)), (q4, .inl (k 0, 3, .inl f4)), (q6, .inl (k 0, 3, .inl f6)), (q5, .inl (k 0, 3, .inl (fl_i f5 (-1) 3)))] := hD
  refine lv_aload_n hx hb dX2_emptyBeds_8 rfl (lv_at hl 0 rfl) ?_
  refine va_get (D := D) (ci := 2) (v := .ref q6) (C := RX2) (T := TX2) (N := 10) hx hb hts hi2 hown hG.1 hP 0 rfl rfl 6 (by decide) (hts (.fieldLink RX2 30 "SleptMatters$Course" "laidHouse" "[I") (List.mem_cons_of_mem _ (List.mem_append_left _ (List.mem_of_getElem? (i := 1) rfl)))) (fun _ h9 => h9) rfl dX2_emptyBeds_9 ?_
  refine lv_iconst (v := (-1)) hx hb dX2_emptyBeds_12 (by decide) ?_
  have hPc := hP.sub (ws' := (c_fillI k q6 3 f6 (-1))) [6] rfl
  have hDc := hD.sub (ws' := (c_fillI k q6 3 f6 (-1))) [6] (by decide +kernel) rfl
  refine cl_v (w1 := w_fillI k q6 3 f6 (-1)) (wr := [(h, .inr (2, [.ref q0, .ref q1, .ref q2, .ref q3, .ref q4, .ref q5, .ref q6, .int wg, .int dy, .int sd])), (q0, .inl (k 0, 3, .inl f0)), (q1, .inl (k 0, 3, .inl f1)), (q2, .inl (k 0, 3, .inl f2)), (q3, .inl (k 0, 3, .inl f3)), (q4, .inl (k 0, 3, .inl f4)), (q5, .inl (k 0, 3, .inl (fl_i f5 (-1) 3)))]) (va_runS (As := [.ref q6, .int (-1)]) (rest := []) ⟨hx, hb, hml, hown, hts⟩ (fillI l D k H.size q6 3 f6 (-1) (by decide)) (va_cwS 2 hts gX2_emptyBeds_J7_fill_53178 rfl rfl rfl (by decide +kernel) ⟨Nat.le_of_ble_eq_true rfl, Nat.le_of_ble_eq_true rfl⟩) ⟨PR.blind _ _ _ _ _, PR.pre hPc hDc hG [.ref q6, .int (-1)]⟩ rfl rfl hl.1 rfl (lv_room (Nat.le_of_ble_eq_true rfl)) dX2_emptyBeds_13 ⟨Nat.le_of_ble_eq_true rfl, Nat.le_of_ble_eq_true rfl⟩) hP hD hS hA [6] [0, 1, 2, 3, 4, 5, 7] rfl rfl (by decide +kernel) (by decide +kernel) (fun u H locs hq hP hD hS => ?_)
  cases u
  have hP : va_P D vwCl [(h, .inr (2, [.ref q0, .ref q1, .ref q2, .ref q3, .ref q4, .ref q5, .ref q6, .int wg, .int dy, .int sd])), (q0, .inl (k 0, 3, .inl f0)), (q1, .inl (k 0, 3, .inl f1)), (q2, .inl (k 0, 3, .inl f2)), (q3, .inl (k 0, 3, .inl f3)), (q4, .inl (k 0, 3, .inl f4)), (q5, .inl (k 0, 3, .inl (fl_i f5 (-1) 3))), (q6, .inl (k 0, 3, .inl (fl_i f6 (-1) 3)))] H := hP
  have hD : va_D A [(h, .inr (2, [.ref q0, .ref q1, .ref q2, .ref q3, .ref q4, .ref q5, .ref q6, .int wg, .int dy, .int sd])), (q0, .inl (k 0, 3, .inl f0)), (q1, .inl (k 0, 3, .inl f1)), (q2, .inl (k 0, 3, .inl f2)), (q3, .inl (k 0, 3, .inl f3)), (q4, .inl (k 0, 3, .inl f4)), (q5, .inl (k 0, 3, .inl (fl_i f5 (-1) 3))), (q6, .inl (k 0, 3, .inl (fl_i f6 (-1) 3)))] := hD
  have hP9 := hP.sub (ws' := [(h, .inr (2, [.ref q0, .ref q1, .ref q2, .ref q3, .ref q4, .ref q5, .ref q6, .int wg, .int dy, .int sd])), (q0, .inl (k 0, 3, .inl f0)), (q1, .inl (k 0, 3, .inl f1)), (q2, .inl (k 0, 3, .inl f2)), (q3, .inl (k 0, 3, .inl f3)), (q4, .inl (k 0, 3, .inl f4)), (q5, .inl (k 0, 3, .inl (fl_i f5 (-1) 3))), (q6, .inl (k 0, 3, .inl (fl_i f6 (-1) 3)))]) [0, 1, 2, 3, 4, 5, 6, 7] rfl
  have hD9 := hD.sub (ws' := [(h, .inr (2, [.ref q0, .ref q1, .ref q2, .ref q3, .ref q4, .ref q5, .ref q6, .int wg, .int dy, .int sd])), (q0, .inl (k 0, 3, .inl f0)), (q1, .inl (k 0, 3, .inl f1)), (q2, .inl (k 0, 3, .inl f2)), (q3, .inl (k 0, 3, .inl f3)), (q4, .inl (k 0, 3, .inl f4)), (q5, .inl (k 0, 3, .inl (fl_i f5 (-1) 3))), (q6, .inl (k 0, 3, .inl (fl_i f6 (-1) 3)))]) [0, 1, 2, 3, 4, 5, 6, 7] (by decide +kernel) rfl
  exact W.vret hx hb hr (fun t9 ht _ => ⟨⟨(), rfl, trivial, by rw [ht]; exact hP9, hD9⟩, hS.F ht⟩) hS.2.2 dX2_emptyBeds_16

abbrev c_X2_startAgain (k : Nat → ClassId) (h : Nat) (q0 : Nat) (q1 : Nat) (q2 : Nat) (q3 : Nat) (q4 : Nat) (q5 : Nat) (q6 : Nat) (f0 : Nat → Int32) (f1 : Nat → Int32) (f2 : Nat → Int32) (f3 : Nat → Int32) (f4 : Nat → Int32) (f5 : Nat → Int32) (f6 : Nat → Int32) (wg : Int32) (dy : Int32) (sd : Int32) : va_W := [(h, .inr (2, [.ref q0, .ref q1, .ref q2, .ref q3, .ref q4, .ref q5, .ref q6, .int wg, .int dy, .int sd])), (q0, .inl (k 0, 3, .inl f0)), (q1, .inl (k 0, 3, .inl f1)), (q2, .inl (k 0, 3, .inl f2)), (q3, .inl (k 0, 3, .inl f3)), (q4, .inl (k 0, 3, .inl f4)), (q5, .inl (k 0, 3, .inl f5)), (q6, .inl (k 0, 3, .inl f6))]
abbrev r_X2_startAgain : Room := { frames := 2, cells := 0, slots := 0, locals := 43 }
def w_X2_startAgain (k : Nat → ClassId) (h : Nat) (q0 : Nat) (q1 : Nat) (q2 : Nat) (q3 : Nat) (q4 : Nat) (q5 : Nat) (q6 : Nat) (f0 : Nat → Int32) (f1 : Nat → Int32) (f2 : Nat → Int32) (f3 : Nat → Int32) (f4 : Nat → Int32) (f5 : Nat → Int32) (f6 : Nat → Int32) (wg : Int32) (dy : Int32) (sd : Int32) : Unit → va_W := fun _ => [(h, .inr (2, [.ref q0, .ref q1, .ref q2, .ref q3, .ref q4, .ref q5, .ref q6, .int 0, .int 0, .int sd])), (q0, .inl (k 0, 3, .inl (fl_i f0 0 3))), (q1, .inl (k 0, 3, .inl (fl_i f1 0 3))), (q2, .inl (k 0, 3, .inl (fl_i f2 0 3))), (q3, .inl (k 0, 3, .inl (fl_i f3 0 3))), (q4, .inl (k 0, 3, .inl (fl_i f4 (-1) 3))), (q5, .inl (k 0, 3, .inl (fl_i f5 (-1) 3))), (q6, .inl (k 0, 3, .inl (fl_i f6 (-1) 3)))]
def p_X2_startAgain (k : Nat → ClassId) (h : Nat) (q0 : Nat) (q1 : Nat) (q2 : Nat) (q3 : Nat) (q4 : Nat) (q5 : Nat) (q6 : Nat) (f0 : Nat → Int32) (f1 : Nat → Int32) (f2 : Nat → Int32) (f3 : Nat → Int32) (f4 : Nat → Int32) (f5 : Nat → Int32) (f6 : Nat → Int32) (wg : Int32) (dy : Int32) (sd : Int32) : Unit → Prop := fun (u : Unit) => True
abbrev q_X2_startAgain (D : va_G) (k : Nat → ClassId) (h : Nat) (q0 : Nat) (q1 : Nat) (q2 : Nat) (q3 : Nat) (q4 : Nat) (q5 : Nat) (q6 : Nat) (f0 : Nat → Int32) (f1 : Nat → Int32) (f2 : Nat → Int32) (f3 : Nat → Int32) (f4 : Nat → Int32) (f5 : Nat → Int32) (f6 : Nat → Int32) (wg : Int32) (dy : Int32) (sd : Int32) (A : Nat → Prop) : Array Value → State → Outcome → State → Prop := va_Qv (p_X2_startAgain k h q0 q1 q2 q3 q4 q5 q6 f0 f1 f2 f3 f4 f5 f6 wg dy sd) (fun u9 t9 => BO D (w_X2_startAgain k h q0 q1 q2 q3 q4 q5 q6 f0 f1 f2 f3 f4 f5 f6 wg dy sd u9) A t9) A
set_option maxHeartbeats 2000000 in
set_option maxRecDepth 100000 in
theorem X2_startAgain (l : Launch) (D : va_G) (k : Nat → ClassId) (sz : Nat) (h : Nat) (q0 : Nat) (q1 : Nat) (q2 : Nat) (q3 : Nat) (q4 : Nat) (q5 : Nat) (q6 : Nat) (f0 : Nat → Int32) (f1 : Nat → Int32) (f2 : Nat → Int32) (f3 : Nat → Int32) (f4 : Nat → Int32) (f5 : Nat → Int32) (f6 : Nat → Int32) (wg : Int32) (dy : Int32) (sd : Int32)  : Met l yX2_startAgain wsX2_startAgain r_X2_startAgain (va_Pc [.ref h] (PR D k (c_X2_startAgain k h q0 q1 q2 q3 q4 q5 q6 f0 f1 f2 f3 f4 f5 f6 wg dy sd) sz)) (q_X2_startAgain D k h q0 q1 q2 q3 q4 q5 q6 f0 f1 f2 f3 f4 f5 f6 wg dy sd (va_A (c_X2_startAgain k h q0 q1 q2 q3 q4 q5 q6 f0 f1 f2 f3 f4 f5 f6 wg dy sd) sz)) 0 0 (va_A (c_X2_startAgain k h q0 q1 q2 q3 q4 q5 q6 f0 f1 f2 f3 f4 f5 f6 wg dy sd) sz) := by
  refine Met.ofW (cc := cX2_startAgain) (maxL := 1) (ret := none) (by decide) rfl ?_
  intro p e s m args below meth c s₁ B hml hv
  obtain ⟨rfl, hsz, hP, hG, hD0⟩ := hv
  have hx := B.exec
  have hb := B.bytes
  have hr := B.returns
  have hts := atoms_spec (ws := wsX2_startAgain) B.pre
  have hown : s.vm.findClass RX2 = some m.cls := findClass_of_methodNamed B.named
  have hlocks := B.notSynchronized
  have hi2 : ∀ w ∈ wsX20, w ∈ wsX2_startAgain := fun _ h => List.mem_cons_of_mem _ (List.mem_append_right _ h)
  subst hsz
  have hD := hD0.self (sz := s.heap.size)
  generalize hAe : va_A (c_X2_startAgain k h q0 q1 q2 q3 q4 q5 q6 f0 f1 f2 f3 f4 f5 f6 wg dy sd) s.heap.size = A at hD ⊢
  have hA : ∀ q : Nat, s.heap.size ≤ q → A q := fun q h => by rw [← hAe]; exact Or.inr h
  have hS : va_S A s.heap s.heap [] := va_S.rf
  have hP : va_P D vwCl [(h, .inr (2, [.ref q0, .ref q1, .ref q2, .ref q3, .ref q4, .ref q5, .ref q6, .int wg, .int dy, .int sd])), (q0, .inl (k 0, 3, .inl f0)), (q1, .inl (k 0, 3, .inl f1)), (q2, .inl (k 0, 3, .inl f2)), (q3, .inl (k 0, 3, .inl f3)), (q4, .inl (k 0, 3, .inl f4)), (q5, .inl (k 0, 3, .inl f5)), (q6, .inl (k 0, 3, .inl f6))] s.heap := hP
  have hD : va_D A [(h, .inr (2, [.ref q0, .ref q1, .ref q2, .ref q3, .ref q4, .ref q5, .ref q6, .int wg, .int dy, .int sd])), (q0, .inl (k 0, 3, .inl f0)), (q1, .inl (k 0, 3, .inl f1)), (q2, .inl (k 0, 3, .inl f2)), (q3, .inl (k 0, 3, .inl f3)), (q4, .inl (k 0, 3, .inl f4)), (q5, .inl (k 0, 3, .inl f5)), (q6, .inl (k 0, 3, .inl f6))] := hD
  have hl := lv_entry ([.ref h]) (n := 1) (Nat.le_of_ble_eq_true rfl)
  rw [lg_entry_eq]
  generalize (lg_sl ([.ref h]) ++ List.replicate (1 - (lg_sl ([.ref h])).length) Slot.unset).toArray = ls at hl ⊢
  have hl : lv_has ls 1 [(0, .ref h)] := hl
  refine lv_aload_n hx hb dX2_startAgain_0 rfl (lv_at hl 0 rfl) ?_
  refine va_get (D := D) (ci := 2) (v := .ref q0) (C := RX2) (T := TX2) (N := 10) hx hb hts hi2 hown hG.1 hP 0 rfl rfl 0 (by decide) (hts (.fieldLink RX2 9 "SleptMatters$Course" "sleepers" "[I") (List.mem_cons_of_mem _ (List.mem_append_left _ (List.mem_of_getElem? (i := 0) rfl)))) (fun _ h9 => h9) rfl dX2_startAgain_1 ?_
  refine lv_iconst (v := 0) hx hb dX2_startAgain_4 (by decide) ?_
  have hPc := hP.sub (ws' := (c_fillI k q0 3 f0 0)) [1] rfl
  have hDc := hD.sub (ws' := (c_fillI k q0 3 f0 0)) [1] (by decide +kernel) rfl
  refine cl_v (w1 := w_fillI k q0 3 f0 0) (wr := [(h, .inr (2, [.ref q0, .ref q1, .ref q2, .ref q3, .ref q4, .ref q5, .ref q6, .int wg, .int dy, .int sd])), (q1, .inl (k 0, 3, .inl f1)), (q2, .inl (k 0, 3, .inl f2)), (q3, .inl (k 0, 3, .inl f3)), (q4, .inl (k 0, 3, .inl f4)), (q5, .inl (k 0, 3, .inl f5)), (q6, .inl (k 0, 3, .inl f6))]) (va_runS (As := [.ref q0, .int 0]) (rest := []) ⟨hx, hb, hml, hown, hts⟩ (fillI l D k s.heap.size q0 3 f0 0 (by decide)) (va_cwS 2 hts gX2_startAgain_J7_fill_53178 rfl rfl rfl (by decide +kernel) ⟨Nat.le_of_ble_eq_true rfl, Nat.le_of_ble_eq_true rfl⟩) ⟨PR.blind _ _ _ _ _, PR.pre hPc hDc hG [.ref q0, .int 0]⟩ rfl rfl hl.1 rfl (lv_room (Nat.le_of_ble_eq_true rfl)) dX2_startAgain_5 ⟨Nat.le_of_ble_eq_true rfl, Nat.le_of_ble_eq_true rfl⟩) hP hD hS hA [1] [0, 2, 3, 4, 5, 6, 7] rfl rfl (by decide +kernel) (by decide +kernel) (fun u H locs hq hP hD hS => ?_)
  cases u
  have hP : va_P D vwCl [(h, .inr (2, [.ref q0, .ref q1, .ref q2, .ref q3, .ref q4, .ref q5, .ref q6, .int wg, .int dy, .int sd])), (q1, .inl (k 0, 3, .inl f1)), (q2, .inl (k 0, 3, .inl f2)), (q3, .inl (k 0, 3, .inl f3)), (q4, .inl (k 0, 3, .inl f4)), (q5, .inl (k 0, 3, .inl f5)), (q6, .inl (k 0, 3, .inl f6)), (q0, .inl (k 0, 3, .inl (fl_i f0 0 3)))] H := hP
  have hD : va_D A [(h, .inr (2, [.ref q0, .ref q1, .ref q2, .ref q3, .ref q4, .ref q5, .ref q6, .int wg, .int dy, .int sd])), (q1, .inl (k 0, 3, .inl f1)), (q2, .inl (k 0, 3, .inl f2)), (q3, .inl (k 0, 3, .inl f3)), (q4, .inl (k 0, 3, .inl f4)), (q5, .inl (k 0, 3, .inl f5)), (q6, .inl (k 0, 3, .inl f6)), (q0, .inl (k 0, 3, .inl (fl_i f0 0 3)))] := hD
  refine lv_aload_n hx hb dX2_startAgain_8 rfl (lv_at hl 0 rfl) ?_
  refine va_get (D := D) (ci := 2) (v := .ref q1) (C := RX2) (T := TX2) (N := 10) hx hb hts hi2 hown hG.1 hP 0 rfl rfl 1 (by decide) (hts (.fieldLink RX2 15 "SleptMatters$Course" "houses" "[I") (List.mem_cons_of_mem _ (List.mem_append_left _ (List.mem_of_getElem? (i := 1) rfl)))) (fun _ h9 => h9) rfl dX2_startAgain_9 ?_
  refine lv_iconst (v := 0) hx hb dX2_startAgain_12 (by decide) ?_
  have hPc := hP.sub (ws' := (c_fillI k q1 3 f1 0)) [1] rfl
  have hDc := hD.sub (ws' := (c_fillI k q1 3 f1 0)) [1] (by decide +kernel) rfl
  refine cl_v (w1 := w_fillI k q1 3 f1 0) (wr := [(h, .inr (2, [.ref q0, .ref q1, .ref q2, .ref q3, .ref q4, .ref q5, .ref q6, .int wg, .int dy, .int sd])), (q2, .inl (k 0, 3, .inl f2)), (q3, .inl (k 0, 3, .inl f3)), (q4, .inl (k 0, 3, .inl f4)), (q5, .inl (k 0, 3, .inl f5)), (q6, .inl (k 0, 3, .inl f6)), (q0, .inl (k 0, 3, .inl (fl_i f0 0 3)))]) (va_runS (As := [.ref q1, .int 0]) (rest := []) ⟨hx, hb, hml, hown, hts⟩ (fillI l D k H.size q1 3 f1 0 (by decide)) (va_cwS 2 hts gX2_startAgain_J7_fill_53178 rfl rfl rfl (by decide +kernel) ⟨Nat.le_of_ble_eq_true rfl, Nat.le_of_ble_eq_true rfl⟩) ⟨PR.blind _ _ _ _ _, PR.pre hPc hDc hG [.ref q1, .int 0]⟩ rfl rfl hl.1 rfl (lv_room (Nat.le_of_ble_eq_true rfl)) dX2_startAgain_13 ⟨Nat.le_of_ble_eq_true rfl, Nat.le_of_ble_eq_true rfl⟩) hP hD hS hA [1] [0, 2, 3, 4, 5, 6, 7] rfl rfl (by decide +kernel) (by decide +kernel) (fun u H locs hq hP hD hS => ?_)
  cases u
  have hP : va_P D vwCl [(h, .inr (2, [.ref q0, .ref q1, .ref q2, .ref q3, .ref q4, .ref q5, .ref q6, .int wg, .int dy, .int sd])), (q2, .inl (k 0, 3, .inl f2)), (q3, .inl (k 0, 3, .inl f3)), (q4, .inl (k 0, 3, .inl f4)), (q5, .inl (k 0, 3, .inl f5)), (q6, .inl (k 0, 3, .inl f6)), (q0, .inl (k 0, 3, .inl (fl_i f0 0 3))), (q1, .inl (k 0, 3, .inl (fl_i f1 0 3)))] H := hP
  have hD : va_D A [(h, .inr (2, [.ref q0, .ref q1, .ref q2, .ref q3, .ref q4, .ref q5, .ref q6, .int wg, .int dy, .int sd])), (q2, .inl (k 0, 3, .inl f2)), (q3, .inl (k 0, 3, .inl f3)), (q4, .inl (k 0, 3, .inl f4)), (q5, .inl (k 0, 3, .inl f5)), (q6, .inl (k 0, 3, .inl f6)), (q0, .inl (k 0, 3, .inl (fl_i f0 0 3))), (q1, .inl (k 0, 3, .inl (fl_i f1 0 3)))] := hD
  refine lv_aload_n hx hb dX2_startAgain_16 rfl (lv_at hl 0 rfl) ?_
  refine va_get (D := D) (ci := 2) (v := .ref q2) (C := RX2) (T := TX2) (N := 10) hx hb hts hi2 hown hG.1 hP 0 rfl rfl 2 (by decide) (hts (.fieldLink RX2 18 "SleptMatters$Course" "yes" "[I") (List.mem_cons_of_mem _ (List.mem_append_left _ (List.mem_of_getElem? (i := 2) rfl)))) (fun _ h9 => h9) rfl dX2_startAgain_17 ?_
  refine lv_iconst (v := 0) hx hb dX2_startAgain_20 (by decide) ?_
  have hPc := hP.sub (ws' := (c_fillI k q2 3 f2 0)) [1] rfl
  have hDc := hD.sub (ws' := (c_fillI k q2 3 f2 0)) [1] (by decide +kernel) rfl
  refine cl_v (w1 := w_fillI k q2 3 f2 0) (wr := [(h, .inr (2, [.ref q0, .ref q1, .ref q2, .ref q3, .ref q4, .ref q5, .ref q6, .int wg, .int dy, .int sd])), (q3, .inl (k 0, 3, .inl f3)), (q4, .inl (k 0, 3, .inl f4)), (q5, .inl (k 0, 3, .inl f5)), (q6, .inl (k 0, 3, .inl f6)), (q0, .inl (k 0, 3, .inl (fl_i f0 0 3))), (q1, .inl (k 0, 3, .inl (fl_i f1 0 3)))]) (va_runS (As := [.ref q2, .int 0]) (rest := []) ⟨hx, hb, hml, hown, hts⟩ (fillI l D k H.size q2 3 f2 0 (by decide)) (va_cwS 2 hts gX2_startAgain_J7_fill_53178 rfl rfl rfl (by decide +kernel) ⟨Nat.le_of_ble_eq_true rfl, Nat.le_of_ble_eq_true rfl⟩) ⟨PR.blind _ _ _ _ _, PR.pre hPc hDc hG [.ref q2, .int 0]⟩ rfl rfl hl.1 rfl (lv_room (Nat.le_of_ble_eq_true rfl)) dX2_startAgain_21 ⟨Nat.le_of_ble_eq_true rfl, Nat.le_of_ble_eq_true rfl⟩) hP hD hS hA [1] [0, 2, 3, 4, 5, 6, 7] rfl rfl (by decide +kernel) (by decide +kernel) (fun u H locs hq hP hD hS => ?_)
  cases u
  have hP : va_P D vwCl [(h, .inr (2, [.ref q0, .ref q1, .ref q2, .ref q3, .ref q4, .ref q5, .ref q6, .int wg, .int dy, .int sd])), (q3, .inl (k 0, 3, .inl f3)), (q4, .inl (k 0, 3, .inl f4)), (q5, .inl (k 0, 3, .inl f5)), (q6, .inl (k 0, 3, .inl f6)), (q0, .inl (k 0, 3, .inl (fl_i f0 0 3))), (q1, .inl (k 0, 3, .inl (fl_i f1 0 3))), (q2, .inl (k 0, 3, .inl (fl_i f2 0 3)))] H := hP
  have hD : va_D A [(h, .inr (2, [.ref q0, .ref q1, .ref q2, .ref q3, .ref q4, .ref q5, .ref q6, .int wg, .int dy, .int sd])), (q3, .inl (k 0, 3, .inl f3)), (q4, .inl (k 0, 3, .inl f4)), (q5, .inl (k 0, 3, .inl f5)), (q6, .inl (k 0, 3, .inl f6)), (q0, .inl (k 0, 3, .inl (fl_i f0 0 3))), (q1, .inl (k 0, 3, .inl (fl_i f1 0 3))), (q2, .inl (k 0, 3, .inl (fl_i f2 0 3)))] := hD
  refine lv_aload_n hx hb dX2_startAgain_24 rfl (lv_at hl 0 rfl) ?_
  refine va_get (D := D) (ci := 2) (v := .ref q3) (C := RX2) (T := TX2) (N := 10) hx hb hts hi2 hown hG.1 hP 0 rfl rfl 3 (by decide) (hts (.fieldLink RX2 21 "SleptMatters$Course" "outcome" "[I") (List.mem_cons_of_mem _ (List.mem_append_left _ (List.mem_of_getElem? (i := 3) rfl)))) (fun _ h9 => h9) rfl dX2_startAgain_25 ?_
  refine lv_iconst (v := 0) hx hb dX2_startAgain_28 (by decide) ?_
  have hPc := hP.sub (ws' := (c_fillI k q3 3 f3 0)) [1] rfl
  have hDc := hD.sub (ws' := (c_fillI k q3 3 f3 0)) [1] (by decide +kernel) rfl
  refine cl_v (w1 := w_fillI k q3 3 f3 0) (wr := [(h, .inr (2, [.ref q0, .ref q1, .ref q2, .ref q3, .ref q4, .ref q5, .ref q6, .int wg, .int dy, .int sd])), (q4, .inl (k 0, 3, .inl f4)), (q5, .inl (k 0, 3, .inl f5)), (q6, .inl (k 0, 3, .inl f6)), (q0, .inl (k 0, 3, .inl (fl_i f0 0 3))), (q1, .inl (k 0, 3, .inl (fl_i f1 0 3))), (q2, .inl (k 0, 3, .inl (fl_i f2 0 3)))]) (va_runS (As := [.ref q3, .int 0]) (rest := []) ⟨hx, hb, hml, hown, hts⟩ (fillI l D k H.size q3 3 f3 0 (by decide)) (va_cwS 2 hts gX2_startAgain_J7_fill_53178 rfl rfl rfl (by decide +kernel) ⟨Nat.le_of_ble_eq_true rfl, Nat.le_of_ble_eq_true rfl⟩) ⟨PR.blind _ _ _ _ _, PR.pre hPc hDc hG [.ref q3, .int 0]⟩ rfl rfl hl.1 rfl (lv_room (Nat.le_of_ble_eq_true rfl)) dX2_startAgain_29 ⟨Nat.le_of_ble_eq_true rfl, Nat.le_of_ble_eq_true rfl⟩) hP hD hS hA [1] [0, 2, 3, 4, 5, 6, 7] rfl rfl (by decide +kernel) (by decide +kernel) (fun u H locs hq hP hD hS => ?_)
  cases u
  have hP : va_P D vwCl [(h, .inr (2, [.ref q0, .ref q1, .ref q2, .ref q3, .ref q4, .ref q5, .ref q6, .int wg, .int dy, .int sd])), (q4, .inl (k 0, 3, .inl f4)), (q5, .inl (k 0, 3, .inl f5)), (q6, .inl (k 0, 3, .inl f6)), (q0, .inl (k 0, 3, .inl (fl_i f0 0 3))), (q1, .inl (k 0, 3, .inl (fl_i f1 0 3))), (q2, .inl (k 0, 3, .inl (fl_i f2 0 3))), (q3, .inl (k 0, 3, .inl (fl_i f3 0 3)))] H := hP
  have hD : va_D A [(h, .inr (2, [.ref q0, .ref q1, .ref q2, .ref q3, .ref q4, .ref q5, .ref q6, .int wg, .int dy, .int sd])), (q4, .inl (k 0, 3, .inl f4)), (q5, .inl (k 0, 3, .inl f5)), (q6, .inl (k 0, 3, .inl f6)), (q0, .inl (k 0, 3, .inl (fl_i f0 0 3))), (q1, .inl (k 0, 3, .inl (fl_i f1 0 3))), (q2, .inl (k 0, 3, .inl (fl_i f2 0 3))), (q3, .inl (k 0, 3, .inl (fl_i f3 0 3)))] := hD
  refine lv_aload_n hx hb dX2_startAgain_32 rfl (lv_at hl 0 rfl) ?_
  refine va_get (D := D) (ci := 2) (v := .ref q4) (C := RX2) (T := TX2) (N := 10) hx hb hts hi2 hown hG.1 hP 0 rfl rfl 4 (by decide) (hts (.fieldLink RX2 24 "SleptMatters$Course" "decidedOn" "[I") (List.mem_cons_of_mem _ (List.mem_append_left _ (List.mem_of_getElem? (i := 4) rfl)))) (fun _ h9 => h9) rfl dX2_startAgain_33 ?_
  refine lv_iconst (v := (-1)) hx hb dX2_startAgain_36 (by decide) ?_
  have hPc := hP.sub (ws' := (c_fillI k q4 3 f4 (-1))) [1] rfl
  have hDc := hD.sub (ws' := (c_fillI k q4 3 f4 (-1))) [1] (by decide +kernel) rfl
  refine cl_v (w1 := w_fillI k q4 3 f4 (-1)) (wr := [(h, .inr (2, [.ref q0, .ref q1, .ref q2, .ref q3, .ref q4, .ref q5, .ref q6, .int wg, .int dy, .int sd])), (q5, .inl (k 0, 3, .inl f5)), (q6, .inl (k 0, 3, .inl f6)), (q0, .inl (k 0, 3, .inl (fl_i f0 0 3))), (q1, .inl (k 0, 3, .inl (fl_i f1 0 3))), (q2, .inl (k 0, 3, .inl (fl_i f2 0 3))), (q3, .inl (k 0, 3, .inl (fl_i f3 0 3)))]) (va_runS (As := [.ref q4, .int (-1)]) (rest := []) ⟨hx, hb, hml, hown, hts⟩ (fillI l D k H.size q4 3 f4 (-1) (by decide)) (va_cwS 2 hts gX2_startAgain_J7_fill_53178 rfl rfl rfl (by decide +kernel) ⟨Nat.le_of_ble_eq_true rfl, Nat.le_of_ble_eq_true rfl⟩) ⟨PR.blind _ _ _ _ _, PR.pre hPc hDc hG [.ref q4, .int (-1)]⟩ rfl rfl hl.1 rfl (lv_room (Nat.le_of_ble_eq_true rfl)) dX2_startAgain_37 ⟨Nat.le_of_ble_eq_true rfl, Nat.le_of_ble_eq_true rfl⟩) hP hD hS hA [1] [0, 2, 3, 4, 5, 6, 7] rfl rfl (by decide +kernel) (by decide +kernel) (fun u H locs hq hP hD hS => ?_)
  cases u
  have hP : va_P D vwCl [(h, .inr (2, [.ref q0, .ref q1, .ref q2, .ref q3, .ref q4, .ref q5, .ref q6, .int wg, .int dy, .int sd])), (q5, .inl (k 0, 3, .inl f5)), (q6, .inl (k 0, 3, .inl f6)), (q0, .inl (k 0, 3, .inl (fl_i f0 0 3))), (q1, .inl (k 0, 3, .inl (fl_i f1 0 3))), (q2, .inl (k 0, 3, .inl (fl_i f2 0 3))), (q3, .inl (k 0, 3, .inl (fl_i f3 0 3))), (q4, .inl (k 0, 3, .inl (fl_i f4 (-1) 3)))] H := hP
  have hD : va_D A [(h, .inr (2, [.ref q0, .ref q1, .ref q2, .ref q3, .ref q4, .ref q5, .ref q6, .int wg, .int dy, .int sd])), (q5, .inl (k 0, 3, .inl f5)), (q6, .inl (k 0, 3, .inl f6)), (q0, .inl (k 0, 3, .inl (fl_i f0 0 3))), (q1, .inl (k 0, 3, .inl (fl_i f1 0 3))), (q2, .inl (k 0, 3, .inl (fl_i f2 0 3))), (q3, .inl (k 0, 3, .inl (fl_i f3 0 3))), (q4, .inl (k 0, 3, .inl (fl_i f4 (-1) 3)))] := hD
  refine lv_aload_n hx hb dX2_startAgain_40 rfl (lv_at hl 0 rfl) ?_
  have hPc := hP.sub (ws' := (c_X2_emptyBeds k h q0 q1 q2 q3 q4 q5 q6 (fl_i f0 0 3) (fl_i f1 0 3) (fl_i f2 0 3) (fl_i f3 0 3) (fl_i f4 (-1) 3) f5 f6 wg dy sd)) [0, 3, 4, 5, 6, 7, 1, 2] rfl
  have hDc := hD.sub (ws' := (c_X2_emptyBeds k h q0 q1 q2 q3 q4 q5 q6 (fl_i f0 0 3) (fl_i f1 0 3) (fl_i f2 0 3) (fl_i f3 0 3) (fl_i f4 (-1) 3) f5 f6 wg dy sd)) [0, 3, 4, 5, 6, 7, 1, 2] (by decide +kernel) rfl
  refine cl_v (w1 := w_X2_emptyBeds k h q0 q1 q2 q3 q4 q5 q6 (fl_i f0 0 3) (fl_i f1 0 3) (fl_i f2 0 3) (fl_i f3 0 3) (fl_i f4 (-1) 3) f5 f6 wg dy sd) (wr := []) (va_runV (As := []) (rest := []) ⟨hx, hb, hml, hown, hts⟩ (X2_emptyBeds l D k H.size h q0 q1 q2 q3 q4 q5 q6 (fl_i f0 0 3) (fl_i f1 0 3) (fl_i f2 0 3) (fl_i f3 0 3) (fl_i f4 (-1) 3) f5 f6 wg dy sd ) (cwV 0 hts gX2_startAgain_X2_emptyBeds rfl rfl rfl (by decide +kernel) ⟨Nat.le_of_ble_eq_true rfl, Nat.le_of_ble_eq_true rfl⟩) ⟨PR.blind _ _ _ _ _, va_recv hG.1 hP (ci := 2) (q0 := 0) rfl rfl, PR.pre hPc hDc hG [.ref h]⟩ rfl rfl hl.1 rfl (lv_room (Nat.le_of_ble_eq_true rfl)) dX2_startAgain_41 ⟨Nat.le_of_ble_eq_true rfl, Nat.le_of_ble_eq_true rfl⟩) hP hD hS hA [0, 3, 4, 5, 6, 7, 1, 2] [] rfl rfl (by decide +kernel) (by decide +kernel) (fun u H locs hq hP hD hS => ?_)
  cases u
  have hP : va_P D vwCl [(h, .inr (2, [.ref q0, .ref q1, .ref q2, .ref q3, .ref q4, .ref q5, .ref q6, .int wg, .int dy, .int sd])), (q0, .inl (k 0, 3, .inl (fl_i f0 0 3))), (q1, .inl (k 0, 3, .inl (fl_i f1 0 3))), (q2, .inl (k 0, 3, .inl (fl_i f2 0 3))), (q3, .inl (k 0, 3, .inl (fl_i f3 0 3))), (q4, .inl (k 0, 3, .inl (fl_i f4 (-1) 3))), (q5, .inl (k 0, 3, .inl (fl_i f5 (-1) 3))), (q6, .inl (k 0, 3, .inl (fl_i f6 (-1) 3)))] H := hP
  have hD : va_D A [(h, .inr (2, [.ref q0, .ref q1, .ref q2, .ref q3, .ref q4, .ref q5, .ref q6, .int wg, .int dy, .int sd])), (q0, .inl (k 0, 3, .inl (fl_i f0 0 3))), (q1, .inl (k 0, 3, .inl (fl_i f1 0 3))), (q2, .inl (k 0, 3, .inl (fl_i f2 0 3))), (q3, .inl (k 0, 3, .inl (fl_i f3 0 3))), (q4, .inl (k 0, 3, .inl (fl_i f4 (-1) 3))), (q5, .inl (k 0, 3, .inl (fl_i f5 (-1) 3))), (q6, .inl (k 0, 3, .inl (fl_i f6 (-1) 3)))] := hD
  refine lv_aload_n hx hb dX2_startAgain_44 rfl (lv_at hl 0 rfl) ?_
  refine lv_iconst (v := 0) hx hb dX2_startAgain_45 (by decide) ?_
  refine va_put (D := D) (ci := 2) (v := .int 0) (ty := .int) (C := RX2) (T := TX2) (N := 10) hx hb hts hi2 tyX2 tyX2_ok nmX2 hown hG.1 hP hD hS 0 rfl rfl 7 (by decide) (hts (.fieldLink RX2 33 "SleptMatters$Course" "wages" "I") (List.mem_cons_of_mem _ (List.mem_append_left _ (List.mem_of_getElem? (i := 5) rfl)))) (fun _ h9 => h9) rfl (by decide +kernel) rfl rfl (Nat.le_of_ble_eq_true rfl) dX2_startAgain_46 (fun H locs hP hD hS => ?_)
  have hP : va_P D vwCl [(h, .inr (2, [.ref q0, .ref q1, .ref q2, .ref q3, .ref q4, .ref q5, .ref q6, .int 0, .int dy, .int sd])), (q0, .inl (k 0, 3, .inl (fl_i f0 0 3))), (q1, .inl (k 0, 3, .inl (fl_i f1 0 3))), (q2, .inl (k 0, 3, .inl (fl_i f2 0 3))), (q3, .inl (k 0, 3, .inl (fl_i f3 0 3))), (q4, .inl (k 0, 3, .inl (fl_i f4 (-1) 3))), (q5, .inl (k 0, 3, .inl (fl_i f5 (-1) 3))), (q6, .inl (k 0, 3, .inl (fl_i f6 (-1) 3)))] H := hP
  have hD : va_D A [(h, .inr (2, [.ref q0, .ref q1, .ref q2, .ref q3, .ref q4, .ref q5, .ref q6, .int 0, .int dy, .int sd])), (q0, .inl (k 0, 3, .inl (fl_i f0 0 3))), (q1, .inl (k 0, 3, .inl (fl_i f1 0 3))), (q2, .inl (k 0, 3, .inl (fl_i f2 0 3))), (q3, .inl (k 0, 3, .inl (fl_i f3 0 3))), (q4, .inl (k 0, 3, .inl (fl_i f4 (-1) 3))), (q5, .inl (k 0, 3, .inl (fl_i f5 (-1) 3))), (q6, .inl (k 0, 3, .inl (fl_i f6 (-1) 3)))] := hD
  refine lv_aload_n hx hb dX2_startAgain_49 rfl (lv_at hl 0 rfl) ?_
  refine lv_iconst (v := 0) hx hb dX2_startAgain_50 (by decide) ?_
  refine va_put (D := D) (ci := 2) (v := .int 0) (ty := .int) (C := RX2) (T := TX2) (N := 10) hx hb hts hi2 tyX2 tyX2_ok nmX2 hown hG.1 hP hD hS 0 rfl rfl 8 (by decide) (hts (.fieldLink RX2 37 "SleptMatters$Course" "day" "I") (List.mem_cons_of_mem _ (List.mem_append_left _ (List.mem_of_getElem? (i := 6) rfl)))) (fun _ h9 => h9) rfl (by decide +kernel) rfl rfl (Nat.le_of_ble_eq_true rfl) dX2_startAgain_51 (fun H locs hP hD hS => ?_)
  have hP : va_P D vwCl [(h, .inr (2, [.ref q0, .ref q1, .ref q2, .ref q3, .ref q4, .ref q5, .ref q6, .int 0, .int 0, .int sd])), (q0, .inl (k 0, 3, .inl (fl_i f0 0 3))), (q1, .inl (k 0, 3, .inl (fl_i f1 0 3))), (q2, .inl (k 0, 3, .inl (fl_i f2 0 3))), (q3, .inl (k 0, 3, .inl (fl_i f3 0 3))), (q4, .inl (k 0, 3, .inl (fl_i f4 (-1) 3))), (q5, .inl (k 0, 3, .inl (fl_i f5 (-1) 3))), (q6, .inl (k 0, 3, .inl (fl_i f6 (-1) 3)))] H := hP
  have hD : va_D A [(h, .inr (2, [.ref q0, .ref q1, .ref q2, .ref q3, .ref q4, .ref q5, .ref q6, .int 0, .int 0, .int sd])), (q0, .inl (k 0, 3, .inl (fl_i f0 0 3))), (q1, .inl (k 0, 3, .inl (fl_i f1 0 3))), (q2, .inl (k 0, 3, .inl (fl_i f2 0 3))), (q3, .inl (k 0, 3, .inl (fl_i f3 0 3))), (q4, .inl (k 0, 3, .inl (fl_i f4 (-1) 3))), (q5, .inl (k 0, 3, .inl (fl_i f5 (-1) 3))), (q6, .inl (k 0, 3, .inl (fl_i f6 (-1) 3)))] := hD
  have hP9 := hP.sub (ws' := [(h, .inr (2, [.ref q0, .ref q1, .ref q2, .ref q3, .ref q4, .ref q5, .ref q6, .int 0, .int 0, .int sd])), (q0, .inl (k 0, 3, .inl (fl_i f0 0 3))), (q1, .inl (k 0, 3, .inl (fl_i f1 0 3))), (q2, .inl (k 0, 3, .inl (fl_i f2 0 3))), (q3, .inl (k 0, 3, .inl (fl_i f3 0 3))), (q4, .inl (k 0, 3, .inl (fl_i f4 (-1) 3))), (q5, .inl (k 0, 3, .inl (fl_i f5 (-1) 3))), (q6, .inl (k 0, 3, .inl (fl_i f6 (-1) 3)))]) [0, 1, 2, 3, 4, 5, 6, 7] rfl
  have hD9 := hD.sub (ws' := [(h, .inr (2, [.ref q0, .ref q1, .ref q2, .ref q3, .ref q4, .ref q5, .ref q6, .int 0, .int 0, .int sd])), (q0, .inl (k 0, 3, .inl (fl_i f0 0 3))), (q1, .inl (k 0, 3, .inl (fl_i f1 0 3))), (q2, .inl (k 0, 3, .inl (fl_i f2 0 3))), (q3, .inl (k 0, 3, .inl (fl_i f3 0 3))), (q4, .inl (k 0, 3, .inl (fl_i f4 (-1) 3))), (q5, .inl (k 0, 3, .inl (fl_i f5 (-1) 3))), (q6, .inl (k 0, 3, .inl (fl_i f6 (-1) 3)))]) [0, 1, 2, 3, 4, 5, 6, 7] (by decide +kernel) rfl
  exact W.vret hx hb hr (fun t9 ht _ => ⟨⟨(), rfl, trivial, by rw [ht]; exact hP9, hD9⟩, hS.F ht⟩) hS.2.2 dX2_startAgain_54

abbrev c_X2_init (k : Nat → ClassId) (h : Nat) : va_W := [(h, .inr (2, [.null, .null, .null, .null, .null, .null, .null, .int 0, .int 0, .int 0]))]
abbrev r_X2_init : Room := { frames := 3, cells := 7, slots := 21, locals := 63 }
def w_X2_init (k : Nat → ClassId) (h : Nat) : Nat × Nat × Nat × Nat × Nat × Nat × Nat → va_W := fun u => match u with | (q0, q1, q2, q3, q4, q5, q6) => [(h, .inr (2, [.ref q0, .ref q1, .ref q2, .ref q3, .ref q4, .ref q5, .ref q6, .int 0, .int 0, .int 0])), (q0, .inl (k 0, 3, .inl (fl_i (fun _ => 0) 0 3))), (q1, .inl (k 0, 3, .inl (fl_i (fun _ => 0) 0 3))), (q2, .inl (k 0, 3, .inl (fl_i (fun _ => 0) 0 3))), (q3, .inl (k 0, 3, .inl (fl_i (fun _ => 0) 0 3))), (q4, .inl (k 0, 3, .inl (fl_i (fun _ => 0) (-1) 3))), (q5, .inl (k 0, 3, .inl (fl_i (fun _ => 0) (-1) 3))), (q6, .inl (k 0, 3, .inl (fl_i (fun _ => 0) (-1) 3)))]
def p_X2_init (k : Nat → ClassId) (h : Nat) : Nat × Nat × Nat × Nat × Nat × Nat × Nat → Prop := fun (u : Nat × Nat × Nat × Nat × Nat × Nat × Nat) => match u with | (q0, q1, q2, q3, q4, q5, q6) => True
abbrev q_X2_init (D : va_G) (k : Nat → ClassId) (h : Nat) (A : Nat → Prop) : Array Value → State → Outcome → State → Prop := va_Qv (p_X2_init k h) (fun u9 t9 => BO D (w_X2_init k h u9) A t9) A
set_option maxHeartbeats 2000000 in
set_option maxRecDepth 100000 in
theorem X2_init (l : Launch) (D : va_G) (k : Nat → ClassId) (sz : Nat) (h : Nat)  : Met l yX2_init wsX2_init r_X2_init (va_Pc [.ref h] (PR D k (c_X2_init k h) sz)) (q_X2_init D k h (va_A (c_X2_init k h) sz)) 7 21 (va_A (c_X2_init k h) sz) := by
  refine Met.ofW (cc := cX2_init) (maxL := 1) (ret := none) (by decide) rfl ?_
  intro p e s m args below meth c s₁ B hml hv
  obtain ⟨rfl, hsz, hP, hG, hD0⟩ := hv
  have hx := B.exec
  have hb := B.bytes
  have hr := B.returns
  have hts := atoms_spec (ws := wsX2_init) B.pre
  have hown : s.vm.findClass RX2 = some m.cls := findClass_of_methodNamed B.named
  have hlocks := B.notSynchronized
  have hin : meth.name = "<init>" := (name_of_methodNamed B.named B.method).1
  have hi2 : ∀ w ∈ wsX20, w ∈ wsX2_init := fun _ h => List.mem_cons_of_mem _ (List.mem_append_right _ h)
  subst hsz
  have hD := hD0.self (sz := s.heap.size)
  generalize hAe : va_A (c_X2_init k h) s.heap.size = A at hD ⊢
  have hA : ∀ q : Nat, s.heap.size ≤ q → A q := fun q h => by rw [← hAe]; exact Or.inr h
  have hS : va_S A s.heap s.heap [] := va_S.rf
  have hP : va_P D vwCl [(h, .inr (2, [.null, .null, .null, .null, .null, .null, .null, .int 0, .int 0, .int 0]))] s.heap := hP
  have hD : va_D A [(h, .inr (2, [.null, .null, .null, .null, .null, .null, .null, .int 0, .int 0, .int 0]))] := hD
  have hl := lv_entry ([.ref h]) (n := 1) (Nat.le_of_ble_eq_true rfl)
  rw [lg_entry_eq]
  generalize (lg_sl ([.ref h]) ++ List.replicate (1 - (lg_sl ([.ref h])).length) Slot.unset).toArray = ls at hl ⊢
  have hl : lv_has ls 1 [(0, .ref h)] := hl
  refine lv_aload_n hx hb dX2_init_0 rfl (lv_at hl 0 rfl) ?_
  refine W.objInit hx hb hown (hts (.methodLink RX2 3 objectInit) (List.mem_cons_of_mem _ (List.mem_append_left _ (List.mem_append_left _ (List.mem_of_getElem? (i := 0) rfl))))) (hts (.instanceMethod objectInit) (List.mem_cons_of_mem _ (List.mem_append_left _ (List.mem_append_left _ (List.mem_of_getElem? (i := 1) rfl))))) (hts (.code objectInit ⟨#[0xb1]⟩ 1 none) (List.mem_cons_of_mem _ (List.mem_append_left _ (List.mem_append_left _ (List.mem_of_getElem? (i := 2) rfl))))) rfl (by rw [hml]; exact hl.1) rfl dX2_init_1 (Nat.le_of_ble_eq_true rfl) (Nat.le_of_ble_eq_true rfl) ?_
  refine W.eq (g2 := F0 m 4 ls []) rfl ?_
  refine lv_aload_n hx hb dX2_init_4 rfl (lv_at hl 0 rfl) ?_
  refine lv_iconst (v := 3) hx hb dX2_init_5 (by decide) ?_
  refine va_newa (atype := .int) (ty := .int) (a0 := (3, .inl (fun _ => 0))) hx hb (hts (.arrayClass .int) (List.mem_cons_of_mem _ (List.mem_append_left _ (List.mem_append_left _ (List.mem_of_getElem? (i := 3) rfl))))) rfl hG.1 hP hD hS hA (fun _ => rfl) (by decide) (by decide) (show 3 * 4 ≤ 536870912 by omega) (Nat.le_of_ble_eq_true rfl) (Nat.le_of_ble_eq_true rfl) dX2_init_6 (fun q0 cN H hK9 hP hD hS => ?_)
  obtain rfl := cA_eq hK9 (i := 0) (j := 5) rfl rfl
  have hP : va_P D vwCl [(h, .inr (2, [.null, .null, .null, .null, .null, .null, .null, .int 0, .int 0, .int 0])), (q0, .inl (k 0, 3, .inl (fun _ => 0)))] H := hP
  have hD : va_D A [(h, .inr (2, [.null, .null, .null, .null, .null, .null, .null, .int 0, .int 0, .int 0])), (q0, .inl (k 0, 3, .inl (fun _ => 0)))] := hD
  refine W.widen (k := 1) (n := 3) (Nat.le_of_ble_eq_true rfl) (Nat.le_of_ble_eq_true rfl) ?_
  refine va_putF (D := D) (ci := 2) (v := .ref q0) (ty := (tyX2 0)) (C := RX2) (T := TX2) (N := 10) hx hb hts hi2 tyX2 tyX2_ok nmX2 hown hG.1 hP hD hS 0 rfl rfl 0 (by decide) (hts (.fieldLink RX2 9 "SleptMatters$Course" "sleepers" "[I") (List.mem_cons_of_mem _ (List.mem_append_left _ (List.mem_append_left _ (List.mem_of_getElem? (i := 4) rfl))))) (fun _ h9 => h9) rfl hin rfl (by decide +kernel) rfl rfl (Nat.le_of_ble_eq_true rfl) dX2_init_8 (fun H locs hP hD hS => ?_)
  have hP : va_P D vwCl [(h, .inr (2, [.ref q0, .null, .null, .null, .null, .null, .null, .int 0, .int 0, .int 0])), (q0, .inl (k 0, 3, .inl (fun _ => 0)))] H := hP
  have hD : va_D A [(h, .inr (2, [.ref q0, .null, .null, .null, .null, .null, .null, .int 0, .int 0, .int 0])), (q0, .inl (k 0, 3, .inl (fun _ => 0)))] := hD
  refine lv_aload_n hx hb dX2_init_11 rfl (lv_at hl 0 rfl) ?_
  refine lv_iconst (v := 3) hx hb dX2_init_12 (by decide) ?_
  refine va_newa (atype := .int) (ty := .int) (a0 := (3, .inl (fun _ => 0))) hx hb (hts (.arrayClass .int) (List.mem_cons_of_mem _ (List.mem_append_left _ (List.mem_append_left _ (List.mem_of_getElem? (i := 3) rfl))))) rfl hG.1 hP hD hS hA (fun _ => rfl) (by decide) (by decide) (show 3 * 4 ≤ 536870912 by omega) (Nat.le_of_ble_eq_true rfl) (Nat.le_of_ble_eq_true rfl) dX2_init_13 (fun q1 cN H hK9 hP hD hS => ?_)
  obtain rfl := cA_eq hK9 (i := 0) (j := 5) rfl rfl
  have hP : va_P D vwCl [(h, .inr (2, [.ref q0, .null, .null, .null, .null, .null, .null, .int 0, .int 0, .int 0])), (q0, .inl (k 0, 3, .inl (fun _ => 0))), (q1, .inl (k 0, 3, .inl (fun _ => 0)))] H := hP
  have hD : va_D A [(h, .inr (2, [.ref q0, .null, .null, .null, .null, .null, .null, .int 0, .int 0, .int 0])), (q0, .inl (k 0, 3, .inl (fun _ => 0))), (q1, .inl (k 0, 3, .inl (fun _ => 0)))] := hD
  refine W.widen (k := 2) (n := 6) (Nat.le_of_ble_eq_true rfl) (Nat.le_of_ble_eq_true rfl) ?_
  refine va_putF (D := D) (ci := 2) (v := .ref q1) (ty := (tyX2 1)) (C := RX2) (T := TX2) (N := 10) hx hb hts hi2 tyX2 tyX2_ok nmX2 hown hG.1 hP hD hS 0 rfl rfl 1 (by decide) (hts (.fieldLink RX2 15 "SleptMatters$Course" "houses" "[I") (List.mem_cons_of_mem _ (List.mem_append_left _ (List.mem_append_left _ (List.mem_of_getElem? (i := 5) rfl))))) (fun _ h9 => h9) rfl hin rfl (by decide +kernel) rfl rfl (Nat.le_of_ble_eq_true rfl) dX2_init_15 (fun H locs hP hD hS => ?_)
  have hP : va_P D vwCl [(h, .inr (2, [.ref q0, .ref q1, .null, .null, .null, .null, .null, .int 0, .int 0, .int 0])), (q0, .inl (k 0, 3, .inl (fun _ => 0))), (q1, .inl (k 0, 3, .inl (fun _ => 0)))] H := hP
  have hD : va_D A [(h, .inr (2, [.ref q0, .ref q1, .null, .null, .null, .null, .null, .int 0, .int 0, .int 0])), (q0, .inl (k 0, 3, .inl (fun _ => 0))), (q1, .inl (k 0, 3, .inl (fun _ => 0)))] := hD
  refine lv_aload_n hx hb dX2_init_18 rfl (lv_at hl 0 rfl) ?_
  refine lv_iconst (v := 3) hx hb dX2_init_19 (by decide) ?_
  refine va_newa (atype := .int) (ty := .int) (a0 := (3, .inl (fun _ => 0))) hx hb (hts (.arrayClass .int) (List.mem_cons_of_mem _ (List.mem_append_left _ (List.mem_append_left _ (List.mem_of_getElem? (i := 3) rfl))))) rfl hG.1 hP hD hS hA (fun _ => rfl) (by decide) (by decide) (show 3 * 4 ≤ 536870912 by omega) (Nat.le_of_ble_eq_true rfl) (Nat.le_of_ble_eq_true rfl) dX2_init_20 (fun q2 cN H hK9 hP hD hS => ?_)
  obtain rfl := cA_eq hK9 (i := 0) (j := 5) rfl rfl
  have hP : va_P D vwCl [(h, .inr (2, [.ref q0, .ref q1, .null, .null, .null, .null, .null, .int 0, .int 0, .int 0])), (q0, .inl (k 0, 3, .inl (fun _ => 0))), (q1, .inl (k 0, 3, .inl (fun _ => 0))), (q2, .inl (k 0, 3, .inl (fun _ => 0)))] H := hP
  have hD : va_D A [(h, .inr (2, [.ref q0, .ref q1, .null, .null, .null, .null, .null, .int 0, .int 0, .int 0])), (q0, .inl (k 0, 3, .inl (fun _ => 0))), (q1, .inl (k 0, 3, .inl (fun _ => 0))), (q2, .inl (k 0, 3, .inl (fun _ => 0)))] := hD
  refine W.widen (k := 3) (n := 9) (Nat.le_of_ble_eq_true rfl) (Nat.le_of_ble_eq_true rfl) ?_
  refine va_putF (D := D) (ci := 2) (v := .ref q2) (ty := (tyX2 2)) (C := RX2) (T := TX2) (N := 10) hx hb hts hi2 tyX2 tyX2_ok nmX2 hown hG.1 hP hD hS 0 rfl rfl 2 (by decide) (hts (.fieldLink RX2 18 "SleptMatters$Course" "yes" "[I") (List.mem_cons_of_mem _ (List.mem_append_left _ (List.mem_append_left _ (List.mem_of_getElem? (i := 6) rfl))))) (fun _ h9 => h9) rfl hin rfl (by decide +kernel) rfl rfl (Nat.le_of_ble_eq_true rfl) dX2_init_22 (fun H locs hP hD hS => ?_)
  have hP : va_P D vwCl [(h, .inr (2, [.ref q0, .ref q1, .ref q2, .null, .null, .null, .null, .int 0, .int 0, .int 0])), (q0, .inl (k 0, 3, .inl (fun _ => 0))), (q1, .inl (k 0, 3, .inl (fun _ => 0))), (q2, .inl (k 0, 3, .inl (fun _ => 0)))] H := hP
  have hD : va_D A [(h, .inr (2, [.ref q0, .ref q1, .ref q2, .null, .null, .null, .null, .int 0, .int 0, .int 0])), (q0, .inl (k 0, 3, .inl (fun _ => 0))), (q1, .inl (k 0, 3, .inl (fun _ => 0))), (q2, .inl (k 0, 3, .inl (fun _ => 0)))] := hD
  refine lv_aload_n hx hb dX2_init_25 rfl (lv_at hl 0 rfl) ?_
  refine lv_iconst (v := 3) hx hb dX2_init_26 (by decide) ?_
  refine va_newa (atype := .int) (ty := .int) (a0 := (3, .inl (fun _ => 0))) hx hb (hts (.arrayClass .int) (List.mem_cons_of_mem _ (List.mem_append_left _ (List.mem_append_left _ (List.mem_of_getElem? (i := 3) rfl))))) rfl hG.1 hP hD hS hA (fun _ => rfl) (by decide) (by decide) (show 3 * 4 ≤ 536870912 by omega) (Nat.le_of_ble_eq_true rfl) (Nat.le_of_ble_eq_true rfl) dX2_init_27 (fun q3 cN H hK9 hP hD hS => ?_)
  obtain rfl := cA_eq hK9 (i := 0) (j := 5) rfl rfl
  have hP : va_P D vwCl [(h, .inr (2, [.ref q0, .ref q1, .ref q2, .null, .null, .null, .null, .int 0, .int 0, .int 0])), (q0, .inl (k 0, 3, .inl (fun _ => 0))), (q1, .inl (k 0, 3, .inl (fun _ => 0))), (q2, .inl (k 0, 3, .inl (fun _ => 0))), (q3, .inl (k 0, 3, .inl (fun _ => 0)))] H := hP
  have hD : va_D A [(h, .inr (2, [.ref q0, .ref q1, .ref q2, .null, .null, .null, .null, .int 0, .int 0, .int 0])), (q0, .inl (k 0, 3, .inl (fun _ => 0))), (q1, .inl (k 0, 3, .inl (fun _ => 0))), (q2, .inl (k 0, 3, .inl (fun _ => 0))), (q3, .inl (k 0, 3, .inl (fun _ => 0)))] := hD
  refine W.widen (k := 4) (n := 12) (Nat.le_of_ble_eq_true rfl) (Nat.le_of_ble_eq_true rfl) ?_
  refine va_putF (D := D) (ci := 2) (v := .ref q3) (ty := (tyX2 3)) (C := RX2) (T := TX2) (N := 10) hx hb hts hi2 tyX2 tyX2_ok nmX2 hown hG.1 hP hD hS 0 rfl rfl 3 (by decide) (hts (.fieldLink RX2 21 "SleptMatters$Course" "outcome" "[I") (List.mem_cons_of_mem _ (List.mem_append_left _ (List.mem_append_left _ (List.mem_of_getElem? (i := 7) rfl))))) (fun _ h9 => h9) rfl hin rfl (by decide +kernel) rfl rfl (Nat.le_of_ble_eq_true rfl) dX2_init_29 (fun H locs hP hD hS => ?_)
  have hP : va_P D vwCl [(h, .inr (2, [.ref q0, .ref q1, .ref q2, .ref q3, .null, .null, .null, .int 0, .int 0, .int 0])), (q0, .inl (k 0, 3, .inl (fun _ => 0))), (q1, .inl (k 0, 3, .inl (fun _ => 0))), (q2, .inl (k 0, 3, .inl (fun _ => 0))), (q3, .inl (k 0, 3, .inl (fun _ => 0)))] H := hP
  have hD : va_D A [(h, .inr (2, [.ref q0, .ref q1, .ref q2, .ref q3, .null, .null, .null, .int 0, .int 0, .int 0])), (q0, .inl (k 0, 3, .inl (fun _ => 0))), (q1, .inl (k 0, 3, .inl (fun _ => 0))), (q2, .inl (k 0, 3, .inl (fun _ => 0))), (q3, .inl (k 0, 3, .inl (fun _ => 0)))] := hD
  refine lv_aload_n hx hb dX2_init_32 rfl (lv_at hl 0 rfl) ?_
  refine lv_iconst (v := 3) hx hb dX2_init_33 (by decide) ?_
  refine va_newa (atype := .int) (ty := .int) (a0 := (3, .inl (fun _ => 0))) hx hb (hts (.arrayClass .int) (List.mem_cons_of_mem _ (List.mem_append_left _ (List.mem_append_left _ (List.mem_of_getElem? (i := 3) rfl))))) rfl hG.1 hP hD hS hA (fun _ => rfl) (by decide) (by decide) (show 3 * 4 ≤ 536870912 by omega) (Nat.le_of_ble_eq_true rfl) (Nat.le_of_ble_eq_true rfl) dX2_init_34 (fun q4 cN H hK9 hP hD hS => ?_)
  obtain rfl := cA_eq hK9 (i := 0) (j := 5) rfl rfl
  have hP : va_P D vwCl [(h, .inr (2, [.ref q0, .ref q1, .ref q2, .ref q3, .null, .null, .null, .int 0, .int 0, .int 0])), (q0, .inl (k 0, 3, .inl (fun _ => 0))), (q1, .inl (k 0, 3, .inl (fun _ => 0))), (q2, .inl (k 0, 3, .inl (fun _ => 0))), (q3, .inl (k 0, 3, .inl (fun _ => 0))), (q4, .inl (k 0, 3, .inl (fun _ => 0)))] H := hP
  have hD : va_D A [(h, .inr (2, [.ref q0, .ref q1, .ref q2, .ref q3, .null, .null, .null, .int 0, .int 0, .int 0])), (q0, .inl (k 0, 3, .inl (fun _ => 0))), (q1, .inl (k 0, 3, .inl (fun _ => 0))), (q2, .inl (k 0, 3, .inl (fun _ => 0))), (q3, .inl (k 0, 3, .inl (fun _ => 0))), (q4, .inl (k 0, 3, .inl (fun _ => 0)))] := hD
  refine W.widen (k := 5) (n := 15) (Nat.le_of_ble_eq_true rfl) (Nat.le_of_ble_eq_true rfl) ?_
  refine va_putF (D := D) (ci := 2) (v := .ref q4) (ty := (tyX2 4)) (C := RX2) (T := TX2) (N := 10) hx hb hts hi2 tyX2 tyX2_ok nmX2 hown hG.1 hP hD hS 0 rfl rfl 4 (by decide) (hts (.fieldLink RX2 24 "SleptMatters$Course" "decidedOn" "[I") (List.mem_cons_of_mem _ (List.mem_append_left _ (List.mem_append_left _ (List.mem_of_getElem? (i := 8) rfl))))) (fun _ h9 => h9) rfl hin rfl (by decide +kernel) rfl rfl (Nat.le_of_ble_eq_true rfl) dX2_init_36 (fun H locs hP hD hS => ?_)
  have hP : va_P D vwCl [(h, .inr (2, [.ref q0, .ref q1, .ref q2, .ref q3, .ref q4, .null, .null, .int 0, .int 0, .int 0])), (q0, .inl (k 0, 3, .inl (fun _ => 0))), (q1, .inl (k 0, 3, .inl (fun _ => 0))), (q2, .inl (k 0, 3, .inl (fun _ => 0))), (q3, .inl (k 0, 3, .inl (fun _ => 0))), (q4, .inl (k 0, 3, .inl (fun _ => 0)))] H := hP
  have hD : va_D A [(h, .inr (2, [.ref q0, .ref q1, .ref q2, .ref q3, .ref q4, .null, .null, .int 0, .int 0, .int 0])), (q0, .inl (k 0, 3, .inl (fun _ => 0))), (q1, .inl (k 0, 3, .inl (fun _ => 0))), (q2, .inl (k 0, 3, .inl (fun _ => 0))), (q3, .inl (k 0, 3, .inl (fun _ => 0))), (q4, .inl (k 0, 3, .inl (fun _ => 0)))] := hD
  refine lv_aload_n hx hb dX2_init_39 rfl (lv_at hl 0 rfl) ?_
  refine lv_iconst (v := 3) hx hb dX2_init_40 (by decide) ?_
  refine va_newa (atype := .int) (ty := .int) (a0 := (3, .inl (fun _ => 0))) hx hb (hts (.arrayClass .int) (List.mem_cons_of_mem _ (List.mem_append_left _ (List.mem_append_left _ (List.mem_of_getElem? (i := 3) rfl))))) rfl hG.1 hP hD hS hA (fun _ => rfl) (by decide) (by decide) (show 3 * 4 ≤ 536870912 by omega) (Nat.le_of_ble_eq_true rfl) (Nat.le_of_ble_eq_true rfl) dX2_init_41 (fun q5 cN H hK9 hP hD hS => ?_)
  obtain rfl := cA_eq hK9 (i := 0) (j := 5) rfl rfl
  have hP : va_P D vwCl [(h, .inr (2, [.ref q0, .ref q1, .ref q2, .ref q3, .ref q4, .null, .null, .int 0, .int 0, .int 0])), (q0, .inl (k 0, 3, .inl (fun _ => 0))), (q1, .inl (k 0, 3, .inl (fun _ => 0))), (q2, .inl (k 0, 3, .inl (fun _ => 0))), (q3, .inl (k 0, 3, .inl (fun _ => 0))), (q4, .inl (k 0, 3, .inl (fun _ => 0))), (q5, .inl (k 0, 3, .inl (fun _ => 0)))] H := hP
  have hD : va_D A [(h, .inr (2, [.ref q0, .ref q1, .ref q2, .ref q3, .ref q4, .null, .null, .int 0, .int 0, .int 0])), (q0, .inl (k 0, 3, .inl (fun _ => 0))), (q1, .inl (k 0, 3, .inl (fun _ => 0))), (q2, .inl (k 0, 3, .inl (fun _ => 0))), (q3, .inl (k 0, 3, .inl (fun _ => 0))), (q4, .inl (k 0, 3, .inl (fun _ => 0))), (q5, .inl (k 0, 3, .inl (fun _ => 0)))] := hD
  refine W.widen (k := 6) (n := 18) (Nat.le_of_ble_eq_true rfl) (Nat.le_of_ble_eq_true rfl) ?_
  refine va_putF (D := D) (ci := 2) (v := .ref q5) (ty := (tyX2 5)) (C := RX2) (T := TX2) (N := 10) hx hb hts hi2 tyX2 tyX2_ok nmX2 hown hG.1 hP hD hS 0 rfl rfl 5 (by decide) (hts (.fieldLink RX2 27 "SleptMatters$Course" "laidSleeper" "[I") (List.mem_cons_of_mem _ (List.mem_append_left _ (List.mem_append_left _ (List.mem_of_getElem? (i := 9) rfl))))) (fun _ h9 => h9) rfl hin rfl (by decide +kernel) rfl rfl (Nat.le_of_ble_eq_true rfl) dX2_init_43 (fun H locs hP hD hS => ?_)
  have hP : va_P D vwCl [(h, .inr (2, [.ref q0, .ref q1, .ref q2, .ref q3, .ref q4, .ref q5, .null, .int 0, .int 0, .int 0])), (q0, .inl (k 0, 3, .inl (fun _ => 0))), (q1, .inl (k 0, 3, .inl (fun _ => 0))), (q2, .inl (k 0, 3, .inl (fun _ => 0))), (q3, .inl (k 0, 3, .inl (fun _ => 0))), (q4, .inl (k 0, 3, .inl (fun _ => 0))), (q5, .inl (k 0, 3, .inl (fun _ => 0)))] H := hP
  have hD : va_D A [(h, .inr (2, [.ref q0, .ref q1, .ref q2, .ref q3, .ref q4, .ref q5, .null, .int 0, .int 0, .int 0])), (q0, .inl (k 0, 3, .inl (fun _ => 0))), (q1, .inl (k 0, 3, .inl (fun _ => 0))), (q2, .inl (k 0, 3, .inl (fun _ => 0))), (q3, .inl (k 0, 3, .inl (fun _ => 0))), (q4, .inl (k 0, 3, .inl (fun _ => 0))), (q5, .inl (k 0, 3, .inl (fun _ => 0)))] := hD
  refine lv_aload_n hx hb dX2_init_46 rfl (lv_at hl 0 rfl) ?_
  refine lv_iconst (v := 3) hx hb dX2_init_47 (by decide) ?_
  refine va_newa (atype := .int) (ty := .int) (a0 := (3, .inl (fun _ => 0))) hx hb (hts (.arrayClass .int) (List.mem_cons_of_mem _ (List.mem_append_left _ (List.mem_append_left _ (List.mem_of_getElem? (i := 3) rfl))))) rfl hG.1 hP hD hS hA (fun _ => rfl) (by decide) (by decide) (show 3 * 4 ≤ 536870912 by omega) (Nat.le_of_ble_eq_true rfl) (Nat.le_of_ble_eq_true rfl) dX2_init_48 (fun q6 cN H hK9 hP hD hS => ?_)
  obtain rfl := cA_eq hK9 (i := 0) (j := 5) rfl rfl
  have hP : va_P D vwCl [(h, .inr (2, [.ref q0, .ref q1, .ref q2, .ref q3, .ref q4, .ref q5, .null, .int 0, .int 0, .int 0])), (q0, .inl (k 0, 3, .inl (fun _ => 0))), (q1, .inl (k 0, 3, .inl (fun _ => 0))), (q2, .inl (k 0, 3, .inl (fun _ => 0))), (q3, .inl (k 0, 3, .inl (fun _ => 0))), (q4, .inl (k 0, 3, .inl (fun _ => 0))), (q5, .inl (k 0, 3, .inl (fun _ => 0))), (q6, .inl (k 0, 3, .inl (fun _ => 0)))] H := hP
  have hD : va_D A [(h, .inr (2, [.ref q0, .ref q1, .ref q2, .ref q3, .ref q4, .ref q5, .null, .int 0, .int 0, .int 0])), (q0, .inl (k 0, 3, .inl (fun _ => 0))), (q1, .inl (k 0, 3, .inl (fun _ => 0))), (q2, .inl (k 0, 3, .inl (fun _ => 0))), (q3, .inl (k 0, 3, .inl (fun _ => 0))), (q4, .inl (k 0, 3, .inl (fun _ => 0))), (q5, .inl (k 0, 3, .inl (fun _ => 0))), (q6, .inl (k 0, 3, .inl (fun _ => 0)))] := hD
  refine W.widen (k := 7) (n := 21) (Nat.le_of_ble_eq_true rfl) (Nat.le_of_ble_eq_true rfl) ?_
  refine va_putF (D := D) (ci := 2) (v := .ref q6) (ty := (tyX2 6)) (C := RX2) (T := TX2) (N := 10) hx hb hts hi2 tyX2 tyX2_ok nmX2 hown hG.1 hP hD hS 0 rfl rfl 6 (by decide) (hts (.fieldLink RX2 30 "SleptMatters$Course" "laidHouse" "[I") (List.mem_cons_of_mem _ (List.mem_append_left _ (List.mem_append_left _ (List.mem_of_getElem? (i := 10) rfl))))) (fun _ h9 => h9) rfl hin rfl (by decide +kernel) rfl rfl (Nat.le_of_ble_eq_true rfl) dX2_init_50 (fun H locs hP hD hS => ?_)
  have hP : va_P D vwCl [(h, .inr (2, [.ref q0, .ref q1, .ref q2, .ref q3, .ref q4, .ref q5, .ref q6, .int 0, .int 0, .int 0])), (q0, .inl (k 0, 3, .inl (fun _ => 0))), (q1, .inl (k 0, 3, .inl (fun _ => 0))), (q2, .inl (k 0, 3, .inl (fun _ => 0))), (q3, .inl (k 0, 3, .inl (fun _ => 0))), (q4, .inl (k 0, 3, .inl (fun _ => 0))), (q5, .inl (k 0, 3, .inl (fun _ => 0))), (q6, .inl (k 0, 3, .inl (fun _ => 0)))] H := hP
  have hD : va_D A [(h, .inr (2, [.ref q0, .ref q1, .ref q2, .ref q3, .ref q4, .ref q5, .ref q6, .int 0, .int 0, .int 0])), (q0, .inl (k 0, 3, .inl (fun _ => 0))), (q1, .inl (k 0, 3, .inl (fun _ => 0))), (q2, .inl (k 0, 3, .inl (fun _ => 0))), (q3, .inl (k 0, 3, .inl (fun _ => 0))), (q4, .inl (k 0, 3, .inl (fun _ => 0))), (q5, .inl (k 0, 3, .inl (fun _ => 0))), (q6, .inl (k 0, 3, .inl (fun _ => 0)))] := hD
  refine lv_aload_n hx hb dX2_init_53 rfl (lv_at hl 0 rfl) ?_
  refine lv_iconst (v := 0) hx hb dX2_init_54 (by decide) ?_
  refine va_put (D := D) (ci := 2) (v := .int 0) (ty := .int) (C := RX2) (T := TX2) (N := 10) hx hb hts hi2 tyX2 tyX2_ok nmX2 hown hG.1 hP hD hS 0 rfl rfl 7 (by decide) (hts (.fieldLink RX2 33 "SleptMatters$Course" "wages" "I") (List.mem_cons_of_mem _ (List.mem_append_left _ (List.mem_append_left _ (List.mem_of_getElem? (i := 11) rfl))))) (fun _ h9 => h9) rfl (by decide +kernel) rfl rfl (Nat.le_of_ble_eq_true rfl) dX2_init_55 (fun H locs hP hD hS => ?_)
  have hP : va_P D vwCl [(h, .inr (2, [.ref q0, .ref q1, .ref q2, .ref q3, .ref q4, .ref q5, .ref q6, .int 0, .int 0, .int 0])), (q0, .inl (k 0, 3, .inl (fun _ => 0))), (q1, .inl (k 0, 3, .inl (fun _ => 0))), (q2, .inl (k 0, 3, .inl (fun _ => 0))), (q3, .inl (k 0, 3, .inl (fun _ => 0))), (q4, .inl (k 0, 3, .inl (fun _ => 0))), (q5, .inl (k 0, 3, .inl (fun _ => 0))), (q6, .inl (k 0, 3, .inl (fun _ => 0)))] H := hP
  have hD : va_D A [(h, .inr (2, [.ref q0, .ref q1, .ref q2, .ref q3, .ref q4, .ref q5, .ref q6, .int 0, .int 0, .int 0])), (q0, .inl (k 0, 3, .inl (fun _ => 0))), (q1, .inl (k 0, 3, .inl (fun _ => 0))), (q2, .inl (k 0, 3, .inl (fun _ => 0))), (q3, .inl (k 0, 3, .inl (fun _ => 0))), (q4, .inl (k 0, 3, .inl (fun _ => 0))), (q5, .inl (k 0, 3, .inl (fun _ => 0))), (q6, .inl (k 0, 3, .inl (fun _ => 0)))] := hD
  refine lv_aload_n hx hb dX2_init_58 rfl (lv_at hl 0 rfl) ?_
  refine lv_iconst (v := 0) hx hb dX2_init_59 (by decide) ?_
  refine va_put (D := D) (ci := 2) (v := .int 0) (ty := .int) (C := RX2) (T := TX2) (N := 10) hx hb hts hi2 tyX2 tyX2_ok nmX2 hown hG.1 hP hD hS 0 rfl rfl 8 (by decide) (hts (.fieldLink RX2 37 "SleptMatters$Course" "day" "I") (List.mem_cons_of_mem _ (List.mem_append_left _ (List.mem_append_left _ (List.mem_of_getElem? (i := 12) rfl))))) (fun _ h9 => h9) rfl (by decide +kernel) rfl rfl (Nat.le_of_ble_eq_true rfl) dX2_init_60 (fun H locs hP hD hS => ?_)
  have hP : va_P D vwCl [(h, .inr (2, [.ref q0, .ref q1, .ref q2, .ref q3, .ref q4, .ref q5, .ref q6, .int 0, .int 0, .int 0])), (q0, .inl (k 0, 3, .inl (fun _ => 0))), (q1, .inl (k 0, 3, .inl (fun _ => 0))), (q2, .inl (k 0, 3, .inl (fun _ => 0))), (q3, .inl (k 0, 3, .inl (fun _ => 0))), (q4, .inl (k 0, 3, .inl (fun _ => 0))), (q5, .inl (k 0, 3, .inl (fun _ => 0))), (q6, .inl (k 0, 3, .inl (fun _ => 0)))] H := hP
  have hD : va_D A [(h, .inr (2, [.ref q0, .ref q1, .ref q2, .ref q3, .ref q4, .ref q5, .ref q6, .int 0, .int 0, .int 0])), (q0, .inl (k 0, 3, .inl (fun _ => 0))), (q1, .inl (k 0, 3, .inl (fun _ => 0))), (q2, .inl (k 0, 3, .inl (fun _ => 0))), (q3, .inl (k 0, 3, .inl (fun _ => 0))), (q4, .inl (k 0, 3, .inl (fun _ => 0))), (q5, .inl (k 0, 3, .inl (fun _ => 0))), (q6, .inl (k 0, 3, .inl (fun _ => 0)))] := hD
  refine lv_aload_n hx hb dX2_init_63 rfl (lv_at hl 0 rfl) ?_
  refine lv_iconst (v := 0) hx hb dX2_init_64 (by decide) ?_
  refine va_put (D := D) (ci := 2) (v := .int 0) (ty := .int) (C := RX2) (T := TX2) (N := 10) hx hb hts hi2 tyX2 tyX2_ok nmX2 hown hG.1 hP hD hS 0 rfl rfl 9 (by decide) (hts (.fieldLink RX2 40 "SleptMatters$Course" "drawSeed" "I") (List.mem_cons_of_mem _ (List.mem_append_left _ (List.mem_append_left _ (List.mem_of_getElem? (i := 13) rfl))))) (fun _ h9 => h9) rfl (by decide +kernel) rfl rfl (Nat.le_of_ble_eq_true rfl) dX2_init_65 (fun H locs hP hD hS => ?_)
  have hP : va_P D vwCl [(h, .inr (2, [.ref q0, .ref q1, .ref q2, .ref q3, .ref q4, .ref q5, .ref q6, .int 0, .int 0, .int 0])), (q0, .inl (k 0, 3, .inl (fun _ => 0))), (q1, .inl (k 0, 3, .inl (fun _ => 0))), (q2, .inl (k 0, 3, .inl (fun _ => 0))), (q3, .inl (k 0, 3, .inl (fun _ => 0))), (q4, .inl (k 0, 3, .inl (fun _ => 0))), (q5, .inl (k 0, 3, .inl (fun _ => 0))), (q6, .inl (k 0, 3, .inl (fun _ => 0)))] H := hP
  have hD : va_D A [(h, .inr (2, [.ref q0, .ref q1, .ref q2, .ref q3, .ref q4, .ref q5, .ref q6, .int 0, .int 0, .int 0])), (q0, .inl (k 0, 3, .inl (fun _ => 0))), (q1, .inl (k 0, 3, .inl (fun _ => 0))), (q2, .inl (k 0, 3, .inl (fun _ => 0))), (q3, .inl (k 0, 3, .inl (fun _ => 0))), (q4, .inl (k 0, 3, .inl (fun _ => 0))), (q5, .inl (k 0, 3, .inl (fun _ => 0))), (q6, .inl (k 0, 3, .inl (fun _ => 0)))] := hD
  refine lv_aload_n hx hb dX2_init_68 rfl (lv_at hl 0 rfl) ?_
  have hPc := hP.sub (ws' := (c_X2_startAgain k h q0 q1 q2 q3 q4 q5 q6 (fun _ => 0) (fun _ => 0) (fun _ => 0) (fun _ => 0) (fun _ => 0) (fun _ => 0) (fun _ => 0) 0 0 0)) [0, 1, 2, 3, 4, 5, 6, 7] rfl
  have hDc := hD.sub (ws' := (c_X2_startAgain k h q0 q1 q2 q3 q4 q5 q6 (fun _ => 0) (fun _ => 0) (fun _ => 0) (fun _ => 0) (fun _ => 0) (fun _ => 0) (fun _ => 0) 0 0 0)) [0, 1, 2, 3, 4, 5, 6, 7] (by decide +kernel) rfl
  refine cl_v (w1 := w_X2_startAgain k h q0 q1 q2 q3 q4 q5 q6 (fun _ => 0) (fun _ => 0) (fun _ => 0) (fun _ => 0) (fun _ => 0) (fun _ => 0) (fun _ => 0) 0 0 0) (wr := []) (va_runV (As := []) (rest := []) ⟨hx, hb, hml, hown, hts⟩ (X2_startAgain l D k H.size h q0 q1 q2 q3 q4 q5 q6 (fun _ => 0) (fun _ => 0) (fun _ => 0) (fun _ => 0) (fun _ => 0) (fun _ => 0) (fun _ => 0) 0 0 0 ) (cwV 0 hts gX2_init_X2_startAgain rfl rfl rfl (by decide +kernel) ⟨Nat.le_of_ble_eq_true rfl, Nat.le_of_ble_eq_true rfl⟩) ⟨PR.blind _ _ _ _ _, va_recv hG.1 hP (ci := 2) (q0 := 0) rfl rfl, PR.pre hPc hDc hG [.ref h]⟩ rfl rfl hl.1 rfl (lv_room (Nat.le_of_ble_eq_true rfl)) dX2_init_69 ⟨Nat.le_of_ble_eq_true rfl, Nat.le_of_ble_eq_true rfl⟩) hP hD hS hA [0, 1, 2, 3, 4, 5, 6, 7] [] rfl rfl (by decide +kernel) (by decide +kernel) (fun u H locs hq hP hD hS => ?_)
  cases u
  have hP : va_P D vwCl [(h, .inr (2, [.ref q0, .ref q1, .ref q2, .ref q3, .ref q4, .ref q5, .ref q6, .int 0, .int 0, .int 0])), (q0, .inl (k 0, 3, .inl (fl_i (fun _ => 0) 0 3))), (q1, .inl (k 0, 3, .inl (fl_i (fun _ => 0) 0 3))), (q2, .inl (k 0, 3, .inl (fl_i (fun _ => 0) 0 3))), (q3, .inl (k 0, 3, .inl (fl_i (fun _ => 0) 0 3))), (q4, .inl (k 0, 3, .inl (fl_i (fun _ => 0) (-1) 3))), (q5, .inl (k 0, 3, .inl (fl_i (fun _ => 0) (-1) 3))), (q6, .inl (k 0, 3, .inl (fl_i (fun _ => 0) (-1) 3)))] H := hP
  have hD : va_D A [(h, .inr (2, [.ref q0, .ref q1, .ref q2, .ref q3, .ref q4, .ref q5, .ref q6, .int 0, .int 0, .int 0])), (q0, .inl (k 0, 3, .inl (fl_i (fun _ => 0) 0 3))), (q1, .inl (k 0, 3, .inl (fl_i (fun _ => 0) 0 3))), (q2, .inl (k 0, 3, .inl (fl_i (fun _ => 0) 0 3))), (q3, .inl (k 0, 3, .inl (fl_i (fun _ => 0) 0 3))), (q4, .inl (k 0, 3, .inl (fl_i (fun _ => 0) (-1) 3))), (q5, .inl (k 0, 3, .inl (fl_i (fun _ => 0) (-1) 3))), (q6, .inl (k 0, 3, .inl (fl_i (fun _ => 0) (-1) 3)))] := hD
  have hP9 := hP.sub (ws' := [(h, .inr (2, [.ref q0, .ref q1, .ref q2, .ref q3, .ref q4, .ref q5, .ref q6, .int 0, .int 0, .int 0])), (q0, .inl (k 0, 3, .inl (fl_i (fun _ => 0) 0 3))), (q1, .inl (k 0, 3, .inl (fl_i (fun _ => 0) 0 3))), (q2, .inl (k 0, 3, .inl (fl_i (fun _ => 0) 0 3))), (q3, .inl (k 0, 3, .inl (fl_i (fun _ => 0) 0 3))), (q4, .inl (k 0, 3, .inl (fl_i (fun _ => 0) (-1) 3))), (q5, .inl (k 0, 3, .inl (fl_i (fun _ => 0) (-1) 3))), (q6, .inl (k 0, 3, .inl (fl_i (fun _ => 0) (-1) 3)))]) [0, 1, 2, 3, 4, 5, 6, 7] rfl
  have hD9 := hD.sub (ws' := [(h, .inr (2, [.ref q0, .ref q1, .ref q2, .ref q3, .ref q4, .ref q5, .ref q6, .int 0, .int 0, .int 0])), (q0, .inl (k 0, 3, .inl (fl_i (fun _ => 0) 0 3))), (q1, .inl (k 0, 3, .inl (fl_i (fun _ => 0) 0 3))), (q2, .inl (k 0, 3, .inl (fl_i (fun _ => 0) 0 3))), (q3, .inl (k 0, 3, .inl (fl_i (fun _ => 0) 0 3))), (q4, .inl (k 0, 3, .inl (fl_i (fun _ => 0) (-1) 3))), (q5, .inl (k 0, 3, .inl (fl_i (fun _ => 0) (-1) 3))), (q6, .inl (k 0, 3, .inl (fl_i (fun _ => 0) (-1) 3)))]) [0, 1, 2, 3, 4, 5, 6, 7] (by decide +kernel) rfl
  exact W.vret hx hb hr (fun t9 ht _ => ⟨⟨(q0, q1, q2, q3, q4, q5, q6), rfl, trivial, by rw [ht]; exact hP9, hD9⟩, hS.F ht⟩) hS.2.2 dX2_init_72

abbrev c_X2_matterOf (k : Nat → ClassId) (h : Nat) (q0 : Nat) (q1 : Nat) (q2 : Nat) (q3 : Nat) (q4 : Nat) (q5 : Nat) (q6 : Nat) (wg : Int32) (dy : Int32) (sd : Int32) (f5 : Nat → Int32) (sa : Int32) : va_W := [(h, .inr (2, [.ref q0, .ref q1, .ref q2, .ref q3, .ref q4, .ref q5, .ref q6, .int wg, .int dy, .int sd])), (q5, .inl (k 0, 3, .inl f5))]
abbrev r_X2_matterOf : Room := { frames := 0, cells := 0, slots := 0, locals := 0 }
abbrev q_X2_matterOf (k : Nat → ClassId) (h : Nat) (q0 : Nat) (q1 : Nat) (q2 : Nat) (q3 : Nat) (q4 : Nat) (q5 : Nat) (q6 : Nat) (wg : Int32) (dy : Int32) (sd : Int32) (f5 : Nat → Int32) (sa : Int32) : Array Value → State → Outcome → State → Prop := vp_Si (fun r => r = mof f5 sa)
set_option maxHeartbeats 2000000 in
set_option maxRecDepth 100000 in
theorem X2_matterOf (l : Launch) (D : va_G) (k : Nat → ClassId) (h : Nat) (q0 : Nat) (q1 : Nat) (q2 : Nat) (q3 : Nat) (q4 : Nat) (q5 : Nat) (q6 : Nat) (wg : Int32) (dy : Int32) (sd : Int32) (f5 : Nat → Int32) (sa : Int32)  : Met l yX2_matterOf wsX2_matterOf r_X2_matterOf (va_Pc [.ref h, .int sa] (PS D k (c_X2_matterOf k h q0 q1 q2 q3 q4 q5 q6 wg dy sd f5 sa))) (q_X2_matterOf k h q0 q1 q2 q3 q4 q5 q6 wg dy sd f5 sa) 0 0 (fun _ => False) := by
  refine Met.ofW (cc := cX2_matterOf) (maxL := 3) (ret := (some .int)) (by decide) rfl ?_
  intro p e s m args below meth c s₁ B hml hv
  obtain ⟨rfl, hP, hG⟩ := hv
  have hx := B.exec
  have hb := B.bytes
  have hr := B.returns
  have hts := atoms_spec (ws := wsX2_matterOf) B.pre
  have hown : s.vm.findClass RX2 = some m.cls := findClass_of_methodNamed B.named
  have hlocks := B.notSynchronized
  have hi2 : ∀ w ∈ wsX20, w ∈ wsX2_matterOf := fun _ h => List.mem_cons_of_mem _ (List.mem_append_right _ h)
  have hP : va_P D vwCl [(h, .inr (2, [.ref q0, .ref q1, .ref q2, .ref q3, .ref q4, .ref q5, .ref q6, .int wg, .int dy, .int sd])), (q5, .inl (k 0, 3, .inl f5))] s.heap := hP
  have hl := lv_entry ([.ref h, .int sa]) (n := 3) (Nat.le_of_ble_eq_true rfl)
  rw [lg_entry_eq]
  generalize (lg_sl ([.ref h, .int sa]) ++ List.replicate (3 - (lg_sl ([.ref h, .int sa])).length) Slot.unset).toArray = ls at hl ⊢
  have hl : lv_has ls 3 [(0, .ref h), (1, .int sa)] := hl
  refine lv_iconst (v := 0) hx hb dX2_matterOf_0 (by decide) ?_
  refine lv_istore_n (lv' := [(2, .int 0), (0, .ref h), (1, .int sa)]) hx hb dX2_matterOf_1 rfl hl (by decide) rfl (fun ls hl => ?_)
  refine lv_iload_n hx hb dX2_matterOf_2 rfl (lv_at hl 0 rfl) ?_
  refine lv_iconst (v := 3) hx hb dX2_matterOf_3 (by decide) ?_
  refine lv_icmp_ge (x := 0) (y := 3) (tgt := 25) hx hb dX2_matterOf_4 (by decide) (fun c1 => absurd c1 (by decide)) (fun c1 => ?_)
  refine lv_aload_n hx hb dX2_matterOf_7 rfl (lv_at hl 1 rfl) ?_
  refine va_get (D := D) (ci := 2) (v := .ref q5) (C := RX2) (T := TX2) (N := 10) hx hb hts hi2 hown hG.1 hP 0 rfl rfl 5 (by decide) (hts (.fieldLink RX2 27 "SleptMatters$Course" "laidSleeper" "[I") (List.mem_cons_of_mem _ (List.mem_append_left _ (List.mem_of_getElem? (i := 0) rfl)))) (fun _ h9 => h9) rfl dX2_matterOf_8 ?_
  refine lv_iload_n hx hb dX2_matterOf_11 rfl (lv_at hl 0 rfl) ?_
  refine va_iald hx hb hG.1 hP 1 0 rfl rfl (vp_in_nI (n := 0) (by omega) (by omega)) dX2_matterOf_12 ?_
  refine tp_i (y := f5 0) (rfl) ?_
  refine lv_iload_n hx hb dX2_matterOf_13 rfl (lv_at hl 2 rfl) ?_
  refine lv_icmp_ne (x := f5 0) (y := sa) (tgt := 19) hx hb dX2_matterOf_14 (by decide) (fun c2 => ?_) (fun c2 => ?_)
  · skip
    refine lv_iinc (v := 1) (lv' := [(2, .int 1), (0, .ref h), (1, .int sa)]) hx hb dX2_matterOf_19 hl (k := 0) rfl (by decide) (by decide) rfl (fun ls hl => ?_)
    refine lv_goto (tgt := 2) hx hb dX2_matterOf_22 (by decide) ?_
    refine lv_iload_n hx hb dX2_matterOf_2 rfl (lv_at hl 0 rfl) ?_
    refine lv_iconst (v := 3) hx hb dX2_matterOf_3 (by decide) ?_
    refine lv_icmp_ge (x := 1) (y := 3) (tgt := 25) hx hb dX2_matterOf_4 (by decide) (fun c3 => absurd c3 (by decide)) (fun c3 => ?_)
    refine lv_aload_n hx hb dX2_matterOf_7 rfl (lv_at hl 1 rfl) ?_
    refine va_get (D := D) (ci := 2) (v := .ref q5) (C := RX2) (T := TX2) (N := 10) hx hb hts hi2 hown hG.1 hP 0 rfl rfl 5 (by decide) (hts (.fieldLink RX2 27 "SleptMatters$Course" "laidSleeper" "[I") (List.mem_cons_of_mem _ (List.mem_append_left _ (List.mem_of_getElem? (i := 0) rfl)))) (fun _ h9 => h9) rfl dX2_matterOf_8 ?_
    refine lv_iload_n hx hb dX2_matterOf_11 rfl (lv_at hl 0 rfl) ?_
    refine va_iald hx hb hG.1 hP 1 0 rfl rfl (vp_in_nI (n := 1) (by omega) (by omega)) dX2_matterOf_12 ?_
    refine tp_i (y := f5 1) (rfl) ?_
    refine lv_iload_n hx hb dX2_matterOf_13 rfl (lv_at hl 2 rfl) ?_
    refine lv_icmp_ne (x := f5 1) (y := sa) (tgt := 19) hx hb dX2_matterOf_14 (by decide) (fun c4 => ?_) (fun c4 => ?_)
    · skip
      refine lv_iinc (v := 2) (lv' := [(2, .int 2), (0, .ref h), (1, .int sa)]) hx hb dX2_matterOf_19 hl (k := 0) rfl (by decide) (by decide) rfl (fun ls hl => ?_)
      refine lv_goto (tgt := 2) hx hb dX2_matterOf_22 (by decide) ?_
      refine lv_iload_n hx hb dX2_matterOf_2 rfl (lv_at hl 0 rfl) ?_
      refine lv_iconst (v := 3) hx hb dX2_matterOf_3 (by decide) ?_
      refine lv_icmp_ge (x := 2) (y := 3) (tgt := 25) hx hb dX2_matterOf_4 (by decide) (fun c5 => absurd c5 (by decide)) (fun c5 => ?_)
      refine lv_aload_n hx hb dX2_matterOf_7 rfl (lv_at hl 1 rfl) ?_
      refine va_get (D := D) (ci := 2) (v := .ref q5) (C := RX2) (T := TX2) (N := 10) hx hb hts hi2 hown hG.1 hP 0 rfl rfl 5 (by decide) (hts (.fieldLink RX2 27 "SleptMatters$Course" "laidSleeper" "[I") (List.mem_cons_of_mem _ (List.mem_append_left _ (List.mem_of_getElem? (i := 0) rfl)))) (fun _ h9 => h9) rfl dX2_matterOf_8 ?_
      refine lv_iload_n hx hb dX2_matterOf_11 rfl (lv_at hl 0 rfl) ?_
      refine va_iald hx hb hG.1 hP 1 0 rfl rfl (vp_in_nI (n := 2) (by omega) (by omega)) dX2_matterOf_12 ?_
      refine tp_i (y := f5 2) (rfl) ?_
      refine lv_iload_n hx hb dX2_matterOf_13 rfl (lv_at hl 2 rfl) ?_
      refine lv_icmp_ne (x := f5 2) (y := sa) (tgt := 19) hx hb dX2_matterOf_14 (by decide) (fun c6 => ?_) (fun c6 => ?_)
      · skip
        refine lv_iinc (v := 3) (lv' := [(2, .int 3), (0, .ref h), (1, .int sa)]) hx hb dX2_matterOf_19 hl (k := 0) rfl (by decide) (by decide) rfl (fun ls hl => ?_)
        refine lv_goto (tgt := 2) hx hb dX2_matterOf_22 (by decide) ?_
        refine lv_iload_n hx hb dX2_matterOf_2 rfl (lv_at hl 0 rfl) ?_
        refine lv_iconst (v := 3) hx hb dX2_matterOf_3 (by decide) ?_
        refine lv_icmp_ge (x := 3) (y := 3) (tgt := 25) hx hb dX2_matterOf_4 (by decide) (fun c7 => ?_) (fun c7 => absurd c7 (by decide))
        refine lv_iconst (v := (-1)) hx hb dX2_matterOf_25 (by decide) ?_
        exact W.iret (v := (-1)) hx hb hr (fun t9 ht _ => ⟨(-1), rfl, by simp [mof, c2, c4, c6], ht⟩) (fun q h => by cases h) dX2_matterOf_26
      · skip
        refine lv_iload_n hx hb dX2_matterOf_17 rfl (lv_at hl 0 rfl) ?_
        exact W.iret (v := 2) hx hb hr (fun t9 ht _ => ⟨2, rfl, by simp [mof, c2, c4, c6], ht⟩) (fun q h => by cases h) dX2_matterOf_18
    · skip
      refine lv_iload_n hx hb dX2_matterOf_17 rfl (lv_at hl 0 rfl) ?_
      exact W.iret (v := 1) hx hb hr (fun t9 ht _ => ⟨1, rfl, by simp [mof, c2, c4], ht⟩) (fun q h => by cases h) dX2_matterOf_18
  · skip
    refine lv_iload_n hx hb dX2_matterOf_17 rfl (lv_at hl 0 rfl) ?_
    exact W.iret (v := 0) hx hb hr (fun t9 ht _ => ⟨0, rfl, by simp [mof, c2], ht⟩) (fun q h => by cases h) dX2_matterOf_18

abbrev c_X2_laidTonight (k : Nat → ClassId) (h : Nat) (q0 : Nat) (q1 : Nat) (q2 : Nat) (q3 : Nat) (q4 : Nat) (q5 : Nat) (q6 : Nat) (wg : Int32) (dy : Int32) (sd : Int32) (f5 : Nat → Int32) : va_W := [(h, .inr (2, [.ref q0, .ref q1, .ref q2, .ref q3, .ref q4, .ref q5, .ref q6, .int wg, .int dy, .int sd])), (q5, .inl (k 0, 3, .inl f5))]
abbrev r_X2_laidTonight : Room := { frames := 0, cells := 0, slots := 0, locals := 0 }
abbrev q_X2_laidTonight (k : Nat → ClassId) (h : Nat) (q0 : Nat) (q1 : Nat) (q2 : Nat) (q3 : Nat) (q4 : Nat) (q5 : Nat) (q6 : Nat) (wg : Int32) (dy : Int32) (sd : Int32) (f5 : Nat → Int32) : Array Value → State → Outcome → State → Prop := vp_Si (fun r => r = ltn f5)
set_option maxHeartbeats 2000000 in
set_option maxRecDepth 100000 in
theorem X2_laidTonight (l : Launch) (D : va_G) (k : Nat → ClassId) (h : Nat) (q0 : Nat) (q1 : Nat) (q2 : Nat) (q3 : Nat) (q4 : Nat) (q5 : Nat) (q6 : Nat) (wg : Int32) (dy : Int32) (sd : Int32) (f5 : Nat → Int32)  : Met l yX2_laidTonight wsX2_laidTonight r_X2_laidTonight (va_Pc [.ref h] (PS D k (c_X2_laidTonight k h q0 q1 q2 q3 q4 q5 q6 wg dy sd f5))) (q_X2_laidTonight k h q0 q1 q2 q3 q4 q5 q6 wg dy sd f5) 0 0 (fun _ => False) := by
  refine Met.ofW (cc := cX2_laidTonight) (maxL := 3) (ret := (some .int)) (by decide) rfl ?_
  intro p e s m args below meth c s₁ B hml hv
  obtain ⟨rfl, hP, hG⟩ := hv
  have hx := B.exec
  have hb := B.bytes
  have hr := B.returns
  have hts := atoms_spec (ws := wsX2_laidTonight) B.pre
  have hown : s.vm.findClass RX2 = some m.cls := findClass_of_methodNamed B.named
  have hlocks := B.notSynchronized
  have hi2 : ∀ w ∈ wsX20, w ∈ wsX2_laidTonight := fun _ h => List.mem_cons_of_mem _ (List.mem_append_right _ h)
  have hP : va_P D vwCl [(h, .inr (2, [.ref q0, .ref q1, .ref q2, .ref q3, .ref q4, .ref q5, .ref q6, .int wg, .int dy, .int sd])), (q5, .inl (k 0, 3, .inl f5))] s.heap := hP
  have hl := lv_entry ([.ref h]) (n := 3) (Nat.le_of_ble_eq_true rfl)
  rw [lg_entry_eq]
  generalize (lg_sl ([.ref h]) ++ List.replicate (3 - (lg_sl ([.ref h])).length) Slot.unset).toArray = ls at hl ⊢
  have hl : lv_has ls 3 [(0, .ref h)] := hl
  refine lv_iconst (v := 0) hx hb dX2_laidTonight_0 (by decide) ?_
  refine lv_istore_n (lv' := [(1, .int 0), (0, .ref h)]) hx hb dX2_laidTonight_1 rfl hl (by decide) rfl (fun ls hl => ?_)
  refine lv_iconst (v := 0) hx hb dX2_laidTonight_2 (by decide) ?_
  refine lv_istore_n (lv' := [(2, .int 0), (1, .int 0), (0, .ref h)]) hx hb dX2_laidTonight_3 rfl hl (by decide) rfl (fun ls hl => ?_)
  refine lv_iload_n hx hb dX2_laidTonight_4 rfl (lv_at hl 0 rfl) ?_
  refine lv_iconst (v := 3) hx hb dX2_laidTonight_5 (by decide) ?_
  refine lv_icmp_ge (x := 0) (y := 3) (tgt := 28) hx hb dX2_laidTonight_6 (by decide) (fun c1 => absurd c1 (by decide)) (fun c1 => ?_)
  refine lv_aload_n hx hb dX2_laidTonight_9 rfl (lv_at hl 2 rfl) ?_
  refine va_get (D := D) (ci := 2) (v := .ref q5) (C := RX2) (T := TX2) (N := 10) hx hb hts hi2 hown hG.1 hP 0 rfl rfl 5 (by decide) (hts (.fieldLink RX2 27 "SleptMatters$Course" "laidSleeper" "[I") (List.mem_cons_of_mem _ (List.mem_append_left _ (List.mem_of_getElem? (i := 0) rfl)))) (fun _ h9 => h9) rfl dX2_laidTonight_10 ?_
  refine lv_iload_n hx hb dX2_laidTonight_13 rfl (lv_at hl 0 rfl) ?_
  refine va_iald hx hb hG.1 hP 1 0 rfl rfl (vp_in_nI (n := 0) (by omega) (by omega)) dX2_laidTonight_14 ?_
  refine tp_i (y := f5 0) (rfl) ?_
  refine lv_iconst (v := (-1)) hx hb dX2_laidTonight_15 (by decide) ?_
  refine lv_icmp_eq (x := f5 0) (y := (-1)) (tgt := 22) hx hb dX2_laidTonight_16 (by decide) (fun c2 => ?_) (fun c2 => ?_)
  · skip
    refine lv_iinc (v := 1) (lv' := [(2, .int 1), (1, .int 0), (0, .ref h)]) hx hb dX2_laidTonight_22 hl (k := 0) rfl (by decide) (by decide) rfl (fun ls hl => ?_)
    refine lv_goto (tgt := 4) hx hb dX2_laidTonight_25 (by decide) ?_
    refine lv_iload_n hx hb dX2_laidTonight_4 rfl (lv_at hl 0 rfl) ?_
    refine lv_iconst (v := 3) hx hb dX2_laidTonight_5 (by decide) ?_
    refine lv_icmp_ge (x := 1) (y := 3) (tgt := 28) hx hb dX2_laidTonight_6 (by decide) (fun c3 => absurd c3 (by decide)) (fun c3 => ?_)
    refine lv_aload_n hx hb dX2_laidTonight_9 rfl (lv_at hl 2 rfl) ?_
    refine va_get (D := D) (ci := 2) (v := .ref q5) (C := RX2) (T := TX2) (N := 10) hx hb hts hi2 hown hG.1 hP 0 rfl rfl 5 (by decide) (hts (.fieldLink RX2 27 "SleptMatters$Course" "laidSleeper" "[I") (List.mem_cons_of_mem _ (List.mem_append_left _ (List.mem_of_getElem? (i := 0) rfl)))) (fun _ h9 => h9) rfl dX2_laidTonight_10 ?_
    refine lv_iload_n hx hb dX2_laidTonight_13 rfl (lv_at hl 0 rfl) ?_
    refine va_iald hx hb hG.1 hP 1 0 rfl rfl (vp_in_nI (n := 1) (by omega) (by omega)) dX2_laidTonight_14 ?_
    refine tp_i (y := f5 1) (rfl) ?_
    refine lv_iconst (v := (-1)) hx hb dX2_laidTonight_15 (by decide) ?_
    refine lv_icmp_eq (x := f5 1) (y := (-1)) (tgt := 22) hx hb dX2_laidTonight_16 (by decide) (fun c4 => ?_) (fun c4 => ?_)
    · skip
      refine lv_iinc (v := 2) (lv' := [(2, .int 2), (1, .int 0), (0, .ref h)]) hx hb dX2_laidTonight_22 hl (k := 0) rfl (by decide) (by decide) rfl (fun ls hl => ?_)
      refine lv_goto (tgt := 4) hx hb dX2_laidTonight_25 (by decide) ?_
      refine lv_iload_n hx hb dX2_laidTonight_4 rfl (lv_at hl 0 rfl) ?_
      refine lv_iconst (v := 3) hx hb dX2_laidTonight_5 (by decide) ?_
      refine lv_icmp_ge (x := 2) (y := 3) (tgt := 28) hx hb dX2_laidTonight_6 (by decide) (fun c5 => absurd c5 (by decide)) (fun c5 => ?_)
      refine lv_aload_n hx hb dX2_laidTonight_9 rfl (lv_at hl 2 rfl) ?_
      refine va_get (D := D) (ci := 2) (v := .ref q5) (C := RX2) (T := TX2) (N := 10) hx hb hts hi2 hown hG.1 hP 0 rfl rfl 5 (by decide) (hts (.fieldLink RX2 27 "SleptMatters$Course" "laidSleeper" "[I") (List.mem_cons_of_mem _ (List.mem_append_left _ (List.mem_of_getElem? (i := 0) rfl)))) (fun _ h9 => h9) rfl dX2_laidTonight_10 ?_
      refine lv_iload_n hx hb dX2_laidTonight_13 rfl (lv_at hl 0 rfl) ?_
      refine va_iald hx hb hG.1 hP 1 0 rfl rfl (vp_in_nI (n := 2) (by omega) (by omega)) dX2_laidTonight_14 ?_
      refine tp_i (y := f5 2) (rfl) ?_
      refine lv_iconst (v := (-1)) hx hb dX2_laidTonight_15 (by decide) ?_
      refine lv_icmp_eq (x := f5 2) (y := (-1)) (tgt := 22) hx hb dX2_laidTonight_16 (by decide) (fun c6 => ?_) (fun c6 => ?_)
      · skip
        refine lv_iinc (v := 3) (lv' := [(2, .int 3), (1, .int 0), (0, .ref h)]) hx hb dX2_laidTonight_22 hl (k := 0) rfl (by decide) (by decide) rfl (fun ls hl => ?_)
        refine lv_goto (tgt := 4) hx hb dX2_laidTonight_25 (by decide) ?_
        refine lv_iload_n hx hb dX2_laidTonight_4 rfl (lv_at hl 0 rfl) ?_
        refine lv_iconst (v := 3) hx hb dX2_laidTonight_5 (by decide) ?_
        refine lv_icmp_ge (x := 3) (y := 3) (tgt := 28) hx hb dX2_laidTonight_6 (by decide) (fun c7 => ?_) (fun c7 => absurd c7 (by decide))
        refine lv_iload_n hx hb dX2_laidTonight_28 rfl (lv_at hl 1 rfl) ?_
        exact W.iret (v := 0) hx hb hr (fun t9 ht _ => ⟨0, rfl, by simp [ltn, ne1, c2, c4, c6], ht⟩) (fun q h => by cases h) dX2_laidTonight_29
      · skip
        refine lv_iinc (v := 1) (lv' := [(1, .int 1), (2, .int 2), (0, .ref h)]) hx hb dX2_laidTonight_19 hl (k := 1) rfl (by decide) (by decide) rfl (fun ls hl => ?_)
        refine lv_iinc (v := 3) (lv' := [(2, .int 3), (1, .int 1), (0, .ref h)]) hx hb dX2_laidTonight_22 hl (k := 1) rfl (by decide) (by decide) rfl (fun ls hl => ?_)
        refine lv_goto (tgt := 4) hx hb dX2_laidTonight_25 (by decide) ?_
        refine lv_iload_n hx hb dX2_laidTonight_4 rfl (lv_at hl 0 rfl) ?_
        refine lv_iconst (v := 3) hx hb dX2_laidTonight_5 (by decide) ?_
        refine lv_icmp_ge (x := 3) (y := 3) (tgt := 28) hx hb dX2_laidTonight_6 (by decide) (fun c8 => ?_) (fun c8 => absurd c8 (by decide))
        refine lv_iload_n hx hb dX2_laidTonight_28 rfl (lv_at hl 1 rfl) ?_
        exact W.iret (v := 1) hx hb hr (fun t9 ht _ => ⟨1, rfl, by simp [ltn, ne1, c2, c4, c6], ht⟩) (fun q h => by cases h) dX2_laidTonight_29
    · skip
      refine lv_iinc (v := 1) (lv' := [(1, .int 1), (2, .int 1), (0, .ref h)]) hx hb dX2_laidTonight_19 hl (k := 1) rfl (by decide) (by decide) rfl (fun ls hl => ?_)
      refine lv_iinc (v := 2) (lv' := [(2, .int 2), (1, .int 1), (0, .ref h)]) hx hb dX2_laidTonight_22 hl (k := 1) rfl (by decide) (by decide) rfl (fun ls hl => ?_)
      refine lv_goto (tgt := 4) hx hb dX2_laidTonight_25 (by decide) ?_
      refine lv_iload_n hx hb dX2_laidTonight_4 rfl (lv_at hl 0 rfl) ?_
      refine lv_iconst (v := 3) hx hb dX2_laidTonight_5 (by decide) ?_
      refine lv_icmp_ge (x := 2) (y := 3) (tgt := 28) hx hb dX2_laidTonight_6 (by decide) (fun c9 => absurd c9 (by decide)) (fun c9 => ?_)
      refine lv_aload_n hx hb dX2_laidTonight_9 rfl (lv_at hl 2 rfl) ?_
      refine va_get (D := D) (ci := 2) (v := .ref q5) (C := RX2) (T := TX2) (N := 10) hx hb hts hi2 hown hG.1 hP 0 rfl rfl 5 (by decide) (hts (.fieldLink RX2 27 "SleptMatters$Course" "laidSleeper" "[I") (List.mem_cons_of_mem _ (List.mem_append_left _ (List.mem_of_getElem? (i := 0) rfl)))) (fun _ h9 => h9) rfl dX2_laidTonight_10 ?_
      refine lv_iload_n hx hb dX2_laidTonight_13 rfl (lv_at hl 0 rfl) ?_
      refine va_iald hx hb hG.1 hP 1 0 rfl rfl (vp_in_nI (n := 2) (by omega) (by omega)) dX2_laidTonight_14 ?_
      refine tp_i (y := f5 2) (rfl) ?_
      refine lv_iconst (v := (-1)) hx hb dX2_laidTonight_15 (by decide) ?_
      refine lv_icmp_eq (x := f5 2) (y := (-1)) (tgt := 22) hx hb dX2_laidTonight_16 (by decide) (fun c10 => ?_) (fun c10 => ?_)
      · skip
        refine lv_iinc (v := 3) (lv' := [(2, .int 3), (1, .int 1), (0, .ref h)]) hx hb dX2_laidTonight_22 hl (k := 0) rfl (by decide) (by decide) rfl (fun ls hl => ?_)
        refine lv_goto (tgt := 4) hx hb dX2_laidTonight_25 (by decide) ?_
        refine lv_iload_n hx hb dX2_laidTonight_4 rfl (lv_at hl 0 rfl) ?_
        refine lv_iconst (v := 3) hx hb dX2_laidTonight_5 (by decide) ?_
        refine lv_icmp_ge (x := 3) (y := 3) (tgt := 28) hx hb dX2_laidTonight_6 (by decide) (fun c11 => ?_) (fun c11 => absurd c11 (by decide))
        refine lv_iload_n hx hb dX2_laidTonight_28 rfl (lv_at hl 1 rfl) ?_
        exact W.iret (v := 1) hx hb hr (fun t9 ht _ => ⟨1, rfl, by simp [ltn, ne1, c2, c4, c10], ht⟩) (fun q h => by cases h) dX2_laidTonight_29
      · skip
        refine lv_iinc (v := 2) (lv' := [(1, .int 2), (2, .int 2), (0, .ref h)]) hx hb dX2_laidTonight_19 hl (k := 1) rfl (by decide) (by decide) rfl (fun ls hl => ?_)
        refine lv_iinc (v := 3) (lv' := [(2, .int 3), (1, .int 2), (0, .ref h)]) hx hb dX2_laidTonight_22 hl (k := 1) rfl (by decide) (by decide) rfl (fun ls hl => ?_)
        refine lv_goto (tgt := 4) hx hb dX2_laidTonight_25 (by decide) ?_
        refine lv_iload_n hx hb dX2_laidTonight_4 rfl (lv_at hl 0 rfl) ?_
        refine lv_iconst (v := 3) hx hb dX2_laidTonight_5 (by decide) ?_
        refine lv_icmp_ge (x := 3) (y := 3) (tgt := 28) hx hb dX2_laidTonight_6 (by decide) (fun c12 => ?_) (fun c12 => absurd c12 (by decide))
        refine lv_iload_n hx hb dX2_laidTonight_28 rfl (lv_at hl 1 rfl) ?_
        exact W.iret (v := 2) hx hb hr (fun t9 ht _ => ⟨2, rfl, by simp [ltn, ne1, c2, c4, c10], ht⟩) (fun q h => by cases h) dX2_laidTonight_29
  · skip
    refine lv_iinc (v := 1) (lv' := [(1, .int 1), (2, .int 0), (0, .ref h)]) hx hb dX2_laidTonight_19 hl (k := 1) rfl (by decide) (by decide) rfl (fun ls hl => ?_)
    refine lv_iinc (v := 1) (lv' := [(2, .int 1), (1, .int 1), (0, .ref h)]) hx hb dX2_laidTonight_22 hl (k := 1) rfl (by decide) (by decide) rfl (fun ls hl => ?_)
    refine lv_goto (tgt := 4) hx hb dX2_laidTonight_25 (by decide) ?_
    refine lv_iload_n hx hb dX2_laidTonight_4 rfl (lv_at hl 0 rfl) ?_
    refine lv_iconst (v := 3) hx hb dX2_laidTonight_5 (by decide) ?_
    refine lv_icmp_ge (x := 1) (y := 3) (tgt := 28) hx hb dX2_laidTonight_6 (by decide) (fun c13 => absurd c13 (by decide)) (fun c13 => ?_)
    refine lv_aload_n hx hb dX2_laidTonight_9 rfl (lv_at hl 2 rfl) ?_
    refine va_get (D := D) (ci := 2) (v := .ref q5) (C := RX2) (T := TX2) (N := 10) hx hb hts hi2 hown hG.1 hP 0 rfl rfl 5 (by decide) (hts (.fieldLink RX2 27 "SleptMatters$Course" "laidSleeper" "[I") (List.mem_cons_of_mem _ (List.mem_append_left _ (List.mem_of_getElem? (i := 0) rfl)))) (fun _ h9 => h9) rfl dX2_laidTonight_10 ?_
    refine lv_iload_n hx hb dX2_laidTonight_13 rfl (lv_at hl 0 rfl) ?_
    refine va_iald hx hb hG.1 hP 1 0 rfl rfl (vp_in_nI (n := 1) (by omega) (by omega)) dX2_laidTonight_14 ?_
    refine tp_i (y := f5 1) (rfl) ?_
    refine lv_iconst (v := (-1)) hx hb dX2_laidTonight_15 (by decide) ?_
    refine lv_icmp_eq (x := f5 1) (y := (-1)) (tgt := 22) hx hb dX2_laidTonight_16 (by decide) (fun c14 => ?_) (fun c14 => ?_)
    · skip
      refine lv_iinc (v := 2) (lv' := [(2, .int 2), (1, .int 1), (0, .ref h)]) hx hb dX2_laidTonight_22 hl (k := 0) rfl (by decide) (by decide) rfl (fun ls hl => ?_)
      refine lv_goto (tgt := 4) hx hb dX2_laidTonight_25 (by decide) ?_
      refine lv_iload_n hx hb dX2_laidTonight_4 rfl (lv_at hl 0 rfl) ?_
      refine lv_iconst (v := 3) hx hb dX2_laidTonight_5 (by decide) ?_
      refine lv_icmp_ge (x := 2) (y := 3) (tgt := 28) hx hb dX2_laidTonight_6 (by decide) (fun c15 => absurd c15 (by decide)) (fun c15 => ?_)
      refine lv_aload_n hx hb dX2_laidTonight_9 rfl (lv_at hl 2 rfl) ?_
      refine va_get (D := D) (ci := 2) (v := .ref q5) (C := RX2) (T := TX2) (N := 10) hx hb hts hi2 hown hG.1 hP 0 rfl rfl 5 (by decide) (hts (.fieldLink RX2 27 "SleptMatters$Course" "laidSleeper" "[I") (List.mem_cons_of_mem _ (List.mem_append_left _ (List.mem_of_getElem? (i := 0) rfl)))) (fun _ h9 => h9) rfl dX2_laidTonight_10 ?_
      refine lv_iload_n hx hb dX2_laidTonight_13 rfl (lv_at hl 0 rfl) ?_
      refine va_iald hx hb hG.1 hP 1 0 rfl rfl (vp_in_nI (n := 2) (by omega) (by omega)) dX2_laidTonight_14 ?_
      refine tp_i (y := f5 2) (rfl) ?_
      refine lv_iconst (v := (-1)) hx hb dX2_laidTonight_15 (by decide) ?_
      refine lv_icmp_eq (x := f5 2) (y := (-1)) (tgt := 22) hx hb dX2_laidTonight_16 (by decide) (fun c16 => ?_) (fun c16 => ?_)
      · skip
        refine lv_iinc (v := 3) (lv' := [(2, .int 3), (1, .int 1), (0, .ref h)]) hx hb dX2_laidTonight_22 hl (k := 0) rfl (by decide) (by decide) rfl (fun ls hl => ?_)
        refine lv_goto (tgt := 4) hx hb dX2_laidTonight_25 (by decide) ?_
        refine lv_iload_n hx hb dX2_laidTonight_4 rfl (lv_at hl 0 rfl) ?_
        refine lv_iconst (v := 3) hx hb dX2_laidTonight_5 (by decide) ?_
        refine lv_icmp_ge (x := 3) (y := 3) (tgt := 28) hx hb dX2_laidTonight_6 (by decide) (fun c17 => ?_) (fun c17 => absurd c17 (by decide))
        refine lv_iload_n hx hb dX2_laidTonight_28 rfl (lv_at hl 1 rfl) ?_
        exact W.iret (v := 1) hx hb hr (fun t9 ht _ => ⟨1, rfl, by simp [ltn, ne1, c2, c14, c16], ht⟩) (fun q h => by cases h) dX2_laidTonight_29
      · skip
        refine lv_iinc (v := 2) (lv' := [(1, .int 2), (2, .int 2), (0, .ref h)]) hx hb dX2_laidTonight_19 hl (k := 1) rfl (by decide) (by decide) rfl (fun ls hl => ?_)
        refine lv_iinc (v := 3) (lv' := [(2, .int 3), (1, .int 2), (0, .ref h)]) hx hb dX2_laidTonight_22 hl (k := 1) rfl (by decide) (by decide) rfl (fun ls hl => ?_)
        refine lv_goto (tgt := 4) hx hb dX2_laidTonight_25 (by decide) ?_
        refine lv_iload_n hx hb dX2_laidTonight_4 rfl (lv_at hl 0 rfl) ?_
        refine lv_iconst (v := 3) hx hb dX2_laidTonight_5 (by decide) ?_
        refine lv_icmp_ge (x := 3) (y := 3) (tgt := 28) hx hb dX2_laidTonight_6 (by decide) (fun c18 => ?_) (fun c18 => absurd c18 (by decide))
        refine lv_iload_n hx hb dX2_laidTonight_28 rfl (lv_at hl 1 rfl) ?_
        exact W.iret (v := 2) hx hb hr (fun t9 ht _ => ⟨2, rfl, by simp [ltn, ne1, c2, c14, c16], ht⟩) (fun q h => by cases h) dX2_laidTonight_29
    · skip
      refine lv_iinc (v := 2) (lv' := [(1, .int 2), (2, .int 1), (0, .ref h)]) hx hb dX2_laidTonight_19 hl (k := 1) rfl (by decide) (by decide) rfl (fun ls hl => ?_)
      refine lv_iinc (v := 2) (lv' := [(2, .int 2), (1, .int 2), (0, .ref h)]) hx hb dX2_laidTonight_22 hl (k := 1) rfl (by decide) (by decide) rfl (fun ls hl => ?_)
      refine lv_goto (tgt := 4) hx hb dX2_laidTonight_25 (by decide) ?_
      refine lv_iload_n hx hb dX2_laidTonight_4 rfl (lv_at hl 0 rfl) ?_
      refine lv_iconst (v := 3) hx hb dX2_laidTonight_5 (by decide) ?_
      refine lv_icmp_ge (x := 2) (y := 3) (tgt := 28) hx hb dX2_laidTonight_6 (by decide) (fun c19 => absurd c19 (by decide)) (fun c19 => ?_)
      refine lv_aload_n hx hb dX2_laidTonight_9 rfl (lv_at hl 2 rfl) ?_
      refine va_get (D := D) (ci := 2) (v := .ref q5) (C := RX2) (T := TX2) (N := 10) hx hb hts hi2 hown hG.1 hP 0 rfl rfl 5 (by decide) (hts (.fieldLink RX2 27 "SleptMatters$Course" "laidSleeper" "[I") (List.mem_cons_of_mem _ (List.mem_append_left _ (List.mem_of_getElem? (i := 0) rfl)))) (fun _ h9 => h9) rfl dX2_laidTonight_10 ?_
      refine lv_iload_n hx hb dX2_laidTonight_13 rfl (lv_at hl 0 rfl) ?_
      refine va_iald hx hb hG.1 hP 1 0 rfl rfl (vp_in_nI (n := 2) (by omega) (by omega)) dX2_laidTonight_14 ?_
      refine tp_i (y := f5 2) (rfl) ?_
      refine lv_iconst (v := (-1)) hx hb dX2_laidTonight_15 (by decide) ?_
      refine lv_icmp_eq (x := f5 2) (y := (-1)) (tgt := 22) hx hb dX2_laidTonight_16 (by decide) (fun c20 => ?_) (fun c20 => ?_)
      · skip
        refine lv_iinc (v := 3) (lv' := [(2, .int 3), (1, .int 2), (0, .ref h)]) hx hb dX2_laidTonight_22 hl (k := 0) rfl (by decide) (by decide) rfl (fun ls hl => ?_)
        refine lv_goto (tgt := 4) hx hb dX2_laidTonight_25 (by decide) ?_
        refine lv_iload_n hx hb dX2_laidTonight_4 rfl (lv_at hl 0 rfl) ?_
        refine lv_iconst (v := 3) hx hb dX2_laidTonight_5 (by decide) ?_
        refine lv_icmp_ge (x := 3) (y := 3) (tgt := 28) hx hb dX2_laidTonight_6 (by decide) (fun c21 => ?_) (fun c21 => absurd c21 (by decide))
        refine lv_iload_n hx hb dX2_laidTonight_28 rfl (lv_at hl 1 rfl) ?_
        exact W.iret (v := 2) hx hb hr (fun t9 ht _ => ⟨2, rfl, by simp [ltn, ne1, c2, c14, c20], ht⟩) (fun q h => by cases h) dX2_laidTonight_29
      · skip
        refine lv_iinc (v := 3) (lv' := [(1, .int 3), (2, .int 2), (0, .ref h)]) hx hb dX2_laidTonight_19 hl (k := 1) rfl (by decide) (by decide) rfl (fun ls hl => ?_)
        refine lv_iinc (v := 3) (lv' := [(2, .int 3), (1, .int 3), (0, .ref h)]) hx hb dX2_laidTonight_22 hl (k := 1) rfl (by decide) (by decide) rfl (fun ls hl => ?_)
        refine lv_goto (tgt := 4) hx hb dX2_laidTonight_25 (by decide) ?_
        refine lv_iload_n hx hb dX2_laidTonight_4 rfl (lv_at hl 0 rfl) ?_
        refine lv_iconst (v := 3) hx hb dX2_laidTonight_5 (by decide) ?_
        refine lv_icmp_ge (x := 3) (y := 3) (tgt := 28) hx hb dX2_laidTonight_6 (by decide) (fun c22 => ?_) (fun c22 => absurd c22 (by decide))
        refine lv_iload_n hx hb dX2_laidTonight_28 rfl (lv_at hl 1 rfl) ?_
        exact W.iret (v := 3) hx hb hr (fun t9 ht _ => ⟨3, rfl, by simp [ltn, ne1, c2, c14, c20], ht⟩) (fun q h => by cases h) dX2_laidTonight_29

abbrev c_X2_decidedMatters (k : Nat → ClassId) (h : Nat) (q0 : Nat) (q1 : Nat) (q2 : Nat) (q3 : Nat) (q4 : Nat) (q5 : Nat) (q6 : Nat) (wg : Int32) (dy : Int32) (sd : Int32) (f3 : Nat → Int32) : va_W := [(h, .inr (2, [.ref q0, .ref q1, .ref q2, .ref q3, .ref q4, .ref q5, .ref q6, .int wg, .int dy, .int sd])), (q3, .inl (k 0, 3, .inl f3))]
abbrev r_X2_decidedMatters : Room := { frames := 0, cells := 0, slots := 0, locals := 0 }
abbrev q_X2_decidedMatters (k : Nat → ClassId) (h : Nat) (q0 : Nat) (q1 : Nat) (q2 : Nat) (q3 : Nat) (q4 : Nat) (q5 : Nat) (q6 : Nat) (wg : Int32) (dy : Int32) (sd : Int32) (f3 : Nat → Int32) : Array Value → State → Outcome → State → Prop := vp_Si (fun r => r = dcm f3)
set_option maxHeartbeats 2000000 in
set_option maxRecDepth 100000 in
theorem X2_decidedMatters (l : Launch) (D : va_G) (k : Nat → ClassId) (h : Nat) (q0 : Nat) (q1 : Nat) (q2 : Nat) (q3 : Nat) (q4 : Nat) (q5 : Nat) (q6 : Nat) (wg : Int32) (dy : Int32) (sd : Int32) (f3 : Nat → Int32)  : Met l yX2_decidedMatters wsX2_decidedMatters r_X2_decidedMatters (va_Pc [.ref h] (PS D k (c_X2_decidedMatters k h q0 q1 q2 q3 q4 q5 q6 wg dy sd f3))) (q_X2_decidedMatters k h q0 q1 q2 q3 q4 q5 q6 wg dy sd f3) 0 0 (fun _ => False) := by
  refine Met.ofW (cc := cX2_decidedMatters) (maxL := 3) (ret := (some .int)) (by decide) rfl ?_
  intro p e s m args below meth c s₁ B hml hv
  obtain ⟨rfl, hP, hG⟩ := hv
  have hx := B.exec
  have hb := B.bytes
  have hr := B.returns
  have hts := atoms_spec (ws := wsX2_decidedMatters) B.pre
  have hown : s.vm.findClass RX2 = some m.cls := findClass_of_methodNamed B.named
  have hlocks := B.notSynchronized
  have hi2 : ∀ w ∈ wsX20, w ∈ wsX2_decidedMatters := fun _ h => List.mem_cons_of_mem _ (List.mem_append_right _ h)
  have hP : va_P D vwCl [(h, .inr (2, [.ref q0, .ref q1, .ref q2, .ref q3, .ref q4, .ref q5, .ref q6, .int wg, .int dy, .int sd])), (q3, .inl (k 0, 3, .inl f3))] s.heap := hP
  have hl := lv_entry ([.ref h]) (n := 3) (Nat.le_of_ble_eq_true rfl)
  rw [lg_entry_eq]
  generalize (lg_sl ([.ref h]) ++ List.replicate (3 - (lg_sl ([.ref h])).length) Slot.unset).toArray = ls at hl ⊢
  have hl : lv_has ls 3 [(0, .ref h)] := hl
  refine lv_iconst (v := 0) hx hb dX2_decidedMatters_0 (by decide) ?_
  refine lv_istore_n (lv' := [(1, .int 0), (0, .ref h)]) hx hb dX2_decidedMatters_1 rfl hl (by decide) rfl (fun ls hl => ?_)
  refine lv_iconst (v := 0) hx hb dX2_decidedMatters_2 (by decide) ?_
  refine lv_istore_n (lv' := [(2, .int 0), (1, .int 0), (0, .ref h)]) hx hb dX2_decidedMatters_3 rfl hl (by decide) rfl (fun ls hl => ?_)
  refine lv_iload_n hx hb dX2_decidedMatters_4 rfl (lv_at hl 0 rfl) ?_
  refine lv_iconst (v := 3) hx hb dX2_decidedMatters_5 (by decide) ?_
  refine lv_icmp_ge (x := 0) (y := 3) (tgt := 27) hx hb dX2_decidedMatters_6 (by decide) (fun c1 => absurd c1 (by decide)) (fun c1 => ?_)
  refine lv_aload_n hx hb dX2_decidedMatters_9 rfl (lv_at hl 2 rfl) ?_
  refine va_get (D := D) (ci := 2) (v := .ref q3) (C := RX2) (T := TX2) (N := 10) hx hb hts hi2 hown hG.1 hP 0 rfl rfl 3 (by decide) (hts (.fieldLink RX2 21 "SleptMatters$Course" "outcome" "[I") (List.mem_cons_of_mem _ (List.mem_append_left _ (List.mem_of_getElem? (i := 0) rfl)))) (fun _ h9 => h9) rfl dX2_decidedMatters_10 ?_
  refine lv_iload_n hx hb dX2_decidedMatters_13 rfl (lv_at hl 0 rfl) ?_
  refine va_iald hx hb hG.1 hP 1 0 rfl rfl (vp_in_nI (n := 0) (by omega) (by omega)) dX2_decidedMatters_14 ?_
  refine tp_i (y := f3 0) (rfl) ?_
  refine lv_if_eq (x := f3 0) (tgt := 21) hx hb dX2_decidedMatters_15 (by decide) (fun c2 => ?_) (fun c2 => ?_)
  · skip
    refine lv_iinc (v := 1) (lv' := [(2, .int 1), (1, .int 0), (0, .ref h)]) hx hb dX2_decidedMatters_21 hl (k := 0) rfl (by decide) (by decide) rfl (fun ls hl => ?_)
    refine lv_goto (tgt := 4) hx hb dX2_decidedMatters_24 (by decide) ?_
    refine lv_iload_n hx hb dX2_decidedMatters_4 rfl (lv_at hl 0 rfl) ?_
    refine lv_iconst (v := 3) hx hb dX2_decidedMatters_5 (by decide) ?_
    refine lv_icmp_ge (x := 1) (y := 3) (tgt := 27) hx hb dX2_decidedMatters_6 (by decide) (fun c3 => absurd c3 (by decide)) (fun c3 => ?_)
    refine lv_aload_n hx hb dX2_decidedMatters_9 rfl (lv_at hl 2 rfl) ?_
    refine va_get (D := D) (ci := 2) (v := .ref q3) (C := RX2) (T := TX2) (N := 10) hx hb hts hi2 hown hG.1 hP 0 rfl rfl 3 (by decide) (hts (.fieldLink RX2 21 "SleptMatters$Course" "outcome" "[I") (List.mem_cons_of_mem _ (List.mem_append_left _ (List.mem_of_getElem? (i := 0) rfl)))) (fun _ h9 => h9) rfl dX2_decidedMatters_10 ?_
    refine lv_iload_n hx hb dX2_decidedMatters_13 rfl (lv_at hl 0 rfl) ?_
    refine va_iald hx hb hG.1 hP 1 0 rfl rfl (vp_in_nI (n := 1) (by omega) (by omega)) dX2_decidedMatters_14 ?_
    refine tp_i (y := f3 1) (rfl) ?_
    refine lv_if_eq (x := f3 1) (tgt := 21) hx hb dX2_decidedMatters_15 (by decide) (fun c4 => ?_) (fun c4 => ?_)
    · skip
      refine lv_iinc (v := 2) (lv' := [(2, .int 2), (1, .int 0), (0, .ref h)]) hx hb dX2_decidedMatters_21 hl (k := 0) rfl (by decide) (by decide) rfl (fun ls hl => ?_)
      refine lv_goto (tgt := 4) hx hb dX2_decidedMatters_24 (by decide) ?_
      refine lv_iload_n hx hb dX2_decidedMatters_4 rfl (lv_at hl 0 rfl) ?_
      refine lv_iconst (v := 3) hx hb dX2_decidedMatters_5 (by decide) ?_
      refine lv_icmp_ge (x := 2) (y := 3) (tgt := 27) hx hb dX2_decidedMatters_6 (by decide) (fun c5 => absurd c5 (by decide)) (fun c5 => ?_)
      refine lv_aload_n hx hb dX2_decidedMatters_9 rfl (lv_at hl 2 rfl) ?_
      refine va_get (D := D) (ci := 2) (v := .ref q3) (C := RX2) (T := TX2) (N := 10) hx hb hts hi2 hown hG.1 hP 0 rfl rfl 3 (by decide) (hts (.fieldLink RX2 21 "SleptMatters$Course" "outcome" "[I") (List.mem_cons_of_mem _ (List.mem_append_left _ (List.mem_of_getElem? (i := 0) rfl)))) (fun _ h9 => h9) rfl dX2_decidedMatters_10 ?_
      refine lv_iload_n hx hb dX2_decidedMatters_13 rfl (lv_at hl 0 rfl) ?_
      refine va_iald hx hb hG.1 hP 1 0 rfl rfl (vp_in_nI (n := 2) (by omega) (by omega)) dX2_decidedMatters_14 ?_
      refine tp_i (y := f3 2) (rfl) ?_
      refine lv_if_eq (x := f3 2) (tgt := 21) hx hb dX2_decidedMatters_15 (by decide) (fun c6 => ?_) (fun c6 => ?_)
      · skip
        refine lv_iinc (v := 3) (lv' := [(2, .int 3), (1, .int 0), (0, .ref h)]) hx hb dX2_decidedMatters_21 hl (k := 0) rfl (by decide) (by decide) rfl (fun ls hl => ?_)
        refine lv_goto (tgt := 4) hx hb dX2_decidedMatters_24 (by decide) ?_
        refine lv_iload_n hx hb dX2_decidedMatters_4 rfl (lv_at hl 0 rfl) ?_
        refine lv_iconst (v := 3) hx hb dX2_decidedMatters_5 (by decide) ?_
        refine lv_icmp_ge (x := 3) (y := 3) (tgt := 27) hx hb dX2_decidedMatters_6 (by decide) (fun c7 => ?_) (fun c7 => absurd c7 (by decide))
        refine lv_iload_n hx hb dX2_decidedMatters_27 rfl (lv_at hl 1 rfl) ?_
        exact W.iret (v := 0) hx hb hr (fun t9 ht _ => ⟨0, rfl, by simp [dcm, ne1, c2, c4, c6], ht⟩) (fun q h => by cases h) dX2_decidedMatters_28
      · skip
        refine lv_iinc (v := 1) (lv' := [(1, .int 1), (2, .int 2), (0, .ref h)]) hx hb dX2_decidedMatters_18 hl (k := 1) rfl (by decide) (by decide) rfl (fun ls hl => ?_)
        refine lv_iinc (v := 3) (lv' := [(2, .int 3), (1, .int 1), (0, .ref h)]) hx hb dX2_decidedMatters_21 hl (k := 1) rfl (by decide) (by decide) rfl (fun ls hl => ?_)
        refine lv_goto (tgt := 4) hx hb dX2_decidedMatters_24 (by decide) ?_
        refine lv_iload_n hx hb dX2_decidedMatters_4 rfl (lv_at hl 0 rfl) ?_
        refine lv_iconst (v := 3) hx hb dX2_decidedMatters_5 (by decide) ?_
        refine lv_icmp_ge (x := 3) (y := 3) (tgt := 27) hx hb dX2_decidedMatters_6 (by decide) (fun c8 => ?_) (fun c8 => absurd c8 (by decide))
        refine lv_iload_n hx hb dX2_decidedMatters_27 rfl (lv_at hl 1 rfl) ?_
        exact W.iret (v := 1) hx hb hr (fun t9 ht _ => ⟨1, rfl, by simp [dcm, ne1, c2, c4, c6], ht⟩) (fun q h => by cases h) dX2_decidedMatters_28
    · skip
      refine lv_iinc (v := 1) (lv' := [(1, .int 1), (2, .int 1), (0, .ref h)]) hx hb dX2_decidedMatters_18 hl (k := 1) rfl (by decide) (by decide) rfl (fun ls hl => ?_)
      refine lv_iinc (v := 2) (lv' := [(2, .int 2), (1, .int 1), (0, .ref h)]) hx hb dX2_decidedMatters_21 hl (k := 1) rfl (by decide) (by decide) rfl (fun ls hl => ?_)
      refine lv_goto (tgt := 4) hx hb dX2_decidedMatters_24 (by decide) ?_
      refine lv_iload_n hx hb dX2_decidedMatters_4 rfl (lv_at hl 0 rfl) ?_
      refine lv_iconst (v := 3) hx hb dX2_decidedMatters_5 (by decide) ?_
      refine lv_icmp_ge (x := 2) (y := 3) (tgt := 27) hx hb dX2_decidedMatters_6 (by decide) (fun c9 => absurd c9 (by decide)) (fun c9 => ?_)
      refine lv_aload_n hx hb dX2_decidedMatters_9 rfl (lv_at hl 2 rfl) ?_
      refine va_get (D := D) (ci := 2) (v := .ref q3) (C := RX2) (T := TX2) (N := 10) hx hb hts hi2 hown hG.1 hP 0 rfl rfl 3 (by decide) (hts (.fieldLink RX2 21 "SleptMatters$Course" "outcome" "[I") (List.mem_cons_of_mem _ (List.mem_append_left _ (List.mem_of_getElem? (i := 0) rfl)))) (fun _ h9 => h9) rfl dX2_decidedMatters_10 ?_
      refine lv_iload_n hx hb dX2_decidedMatters_13 rfl (lv_at hl 0 rfl) ?_
      refine va_iald hx hb hG.1 hP 1 0 rfl rfl (vp_in_nI (n := 2) (by omega) (by omega)) dX2_decidedMatters_14 ?_
      refine tp_i (y := f3 2) (rfl) ?_
      refine lv_if_eq (x := f3 2) (tgt := 21) hx hb dX2_decidedMatters_15 (by decide) (fun c10 => ?_) (fun c10 => ?_)
      · skip
        refine lv_iinc (v := 3) (lv' := [(2, .int 3), (1, .int 1), (0, .ref h)]) hx hb dX2_decidedMatters_21 hl (k := 0) rfl (by decide) (by decide) rfl (fun ls hl => ?_)
        refine lv_goto (tgt := 4) hx hb dX2_decidedMatters_24 (by decide) ?_
        refine lv_iload_n hx hb dX2_decidedMatters_4 rfl (lv_at hl 0 rfl) ?_
        refine lv_iconst (v := 3) hx hb dX2_decidedMatters_5 (by decide) ?_
        refine lv_icmp_ge (x := 3) (y := 3) (tgt := 27) hx hb dX2_decidedMatters_6 (by decide) (fun c11 => ?_) (fun c11 => absurd c11 (by decide))
        refine lv_iload_n hx hb dX2_decidedMatters_27 rfl (lv_at hl 1 rfl) ?_
        exact W.iret (v := 1) hx hb hr (fun t9 ht _ => ⟨1, rfl, by simp [dcm, ne1, c2, c4, c10], ht⟩) (fun q h => by cases h) dX2_decidedMatters_28
      · skip
        refine lv_iinc (v := 2) (lv' := [(1, .int 2), (2, .int 2), (0, .ref h)]) hx hb dX2_decidedMatters_18 hl (k := 1) rfl (by decide) (by decide) rfl (fun ls hl => ?_)
        refine lv_iinc (v := 3) (lv' := [(2, .int 3), (1, .int 2), (0, .ref h)]) hx hb dX2_decidedMatters_21 hl (k := 1) rfl (by decide) (by decide) rfl (fun ls hl => ?_)
        refine lv_goto (tgt := 4) hx hb dX2_decidedMatters_24 (by decide) ?_
        refine lv_iload_n hx hb dX2_decidedMatters_4 rfl (lv_at hl 0 rfl) ?_
        refine lv_iconst (v := 3) hx hb dX2_decidedMatters_5 (by decide) ?_
        refine lv_icmp_ge (x := 3) (y := 3) (tgt := 27) hx hb dX2_decidedMatters_6 (by decide) (fun c12 => ?_) (fun c12 => absurd c12 (by decide))
        refine lv_iload_n hx hb dX2_decidedMatters_27 rfl (lv_at hl 1 rfl) ?_
        exact W.iret (v := 2) hx hb hr (fun t9 ht _ => ⟨2, rfl, by simp [dcm, ne1, c2, c4, c10], ht⟩) (fun q h => by cases h) dX2_decidedMatters_28
  · skip
    refine lv_iinc (v := 1) (lv' := [(1, .int 1), (2, .int 0), (0, .ref h)]) hx hb dX2_decidedMatters_18 hl (k := 1) rfl (by decide) (by decide) rfl (fun ls hl => ?_)
    refine lv_iinc (v := 1) (lv' := [(2, .int 1), (1, .int 1), (0, .ref h)]) hx hb dX2_decidedMatters_21 hl (k := 1) rfl (by decide) (by decide) rfl (fun ls hl => ?_)
    refine lv_goto (tgt := 4) hx hb dX2_decidedMatters_24 (by decide) ?_
    refine lv_iload_n hx hb dX2_decidedMatters_4 rfl (lv_at hl 0 rfl) ?_
    refine lv_iconst (v := 3) hx hb dX2_decidedMatters_5 (by decide) ?_
    refine lv_icmp_ge (x := 1) (y := 3) (tgt := 27) hx hb dX2_decidedMatters_6 (by decide) (fun c13 => absurd c13 (by decide)) (fun c13 => ?_)
    refine lv_aload_n hx hb dX2_decidedMatters_9 rfl (lv_at hl 2 rfl) ?_
    refine va_get (D := D) (ci := 2) (v := .ref q3) (C := RX2) (T := TX2) (N := 10) hx hb hts hi2 hown hG.1 hP 0 rfl rfl 3 (by decide) (hts (.fieldLink RX2 21 "SleptMatters$Course" "outcome" "[I") (List.mem_cons_of_mem _ (List.mem_append_left _ (List.mem_of_getElem? (i := 0) rfl)))) (fun _ h9 => h9) rfl dX2_decidedMatters_10 ?_
    refine lv_iload_n hx hb dX2_decidedMatters_13 rfl (lv_at hl 0 rfl) ?_
    refine va_iald hx hb hG.1 hP 1 0 rfl rfl (vp_in_nI (n := 1) (by omega) (by omega)) dX2_decidedMatters_14 ?_
    refine tp_i (y := f3 1) (rfl) ?_
    refine lv_if_eq (x := f3 1) (tgt := 21) hx hb dX2_decidedMatters_15 (by decide) (fun c14 => ?_) (fun c14 => ?_)
    · skip
      refine lv_iinc (v := 2) (lv' := [(2, .int 2), (1, .int 1), (0, .ref h)]) hx hb dX2_decidedMatters_21 hl (k := 0) rfl (by decide) (by decide) rfl (fun ls hl => ?_)
      refine lv_goto (tgt := 4) hx hb dX2_decidedMatters_24 (by decide) ?_
      refine lv_iload_n hx hb dX2_decidedMatters_4 rfl (lv_at hl 0 rfl) ?_
      refine lv_iconst (v := 3) hx hb dX2_decidedMatters_5 (by decide) ?_
      refine lv_icmp_ge (x := 2) (y := 3) (tgt := 27) hx hb dX2_decidedMatters_6 (by decide) (fun c15 => absurd c15 (by decide)) (fun c15 => ?_)
      refine lv_aload_n hx hb dX2_decidedMatters_9 rfl (lv_at hl 2 rfl) ?_
      refine va_get (D := D) (ci := 2) (v := .ref q3) (C := RX2) (T := TX2) (N := 10) hx hb hts hi2 hown hG.1 hP 0 rfl rfl 3 (by decide) (hts (.fieldLink RX2 21 "SleptMatters$Course" "outcome" "[I") (List.mem_cons_of_mem _ (List.mem_append_left _ (List.mem_of_getElem? (i := 0) rfl)))) (fun _ h9 => h9) rfl dX2_decidedMatters_10 ?_
      refine lv_iload_n hx hb dX2_decidedMatters_13 rfl (lv_at hl 0 rfl) ?_
      refine va_iald hx hb hG.1 hP 1 0 rfl rfl (vp_in_nI (n := 2) (by omega) (by omega)) dX2_decidedMatters_14 ?_
      refine tp_i (y := f3 2) (rfl) ?_
      refine lv_if_eq (x := f3 2) (tgt := 21) hx hb dX2_decidedMatters_15 (by decide) (fun c16 => ?_) (fun c16 => ?_)
      · skip
        refine lv_iinc (v := 3) (lv' := [(2, .int 3), (1, .int 1), (0, .ref h)]) hx hb dX2_decidedMatters_21 hl (k := 0) rfl (by decide) (by decide) rfl (fun ls hl => ?_)
        refine lv_goto (tgt := 4) hx hb dX2_decidedMatters_24 (by decide) ?_
        refine lv_iload_n hx hb dX2_decidedMatters_4 rfl (lv_at hl 0 rfl) ?_
        refine lv_iconst (v := 3) hx hb dX2_decidedMatters_5 (by decide) ?_
        refine lv_icmp_ge (x := 3) (y := 3) (tgt := 27) hx hb dX2_decidedMatters_6 (by decide) (fun c17 => ?_) (fun c17 => absurd c17 (by decide))
        refine lv_iload_n hx hb dX2_decidedMatters_27 rfl (lv_at hl 1 rfl) ?_
        exact W.iret (v := 1) hx hb hr (fun t9 ht _ => ⟨1, rfl, by simp [dcm, ne1, c2, c14, c16], ht⟩) (fun q h => by cases h) dX2_decidedMatters_28
      · skip
        refine lv_iinc (v := 2) (lv' := [(1, .int 2), (2, .int 2), (0, .ref h)]) hx hb dX2_decidedMatters_18 hl (k := 1) rfl (by decide) (by decide) rfl (fun ls hl => ?_)
        refine lv_iinc (v := 3) (lv' := [(2, .int 3), (1, .int 2), (0, .ref h)]) hx hb dX2_decidedMatters_21 hl (k := 1) rfl (by decide) (by decide) rfl (fun ls hl => ?_)
        refine lv_goto (tgt := 4) hx hb dX2_decidedMatters_24 (by decide) ?_
        refine lv_iload_n hx hb dX2_decidedMatters_4 rfl (lv_at hl 0 rfl) ?_
        refine lv_iconst (v := 3) hx hb dX2_decidedMatters_5 (by decide) ?_
        refine lv_icmp_ge (x := 3) (y := 3) (tgt := 27) hx hb dX2_decidedMatters_6 (by decide) (fun c18 => ?_) (fun c18 => absurd c18 (by decide))
        refine lv_iload_n hx hb dX2_decidedMatters_27 rfl (lv_at hl 1 rfl) ?_
        exact W.iret (v := 2) hx hb hr (fun t9 ht _ => ⟨2, rfl, by simp [dcm, ne1, c2, c14, c16], ht⟩) (fun q h => by cases h) dX2_decidedMatters_28
    · skip
      refine lv_iinc (v := 2) (lv' := [(1, .int 2), (2, .int 1), (0, .ref h)]) hx hb dX2_decidedMatters_18 hl (k := 1) rfl (by decide) (by decide) rfl (fun ls hl => ?_)
      refine lv_iinc (v := 2) (lv' := [(2, .int 2), (1, .int 2), (0, .ref h)]) hx hb dX2_decidedMatters_21 hl (k := 1) rfl (by decide) (by decide) rfl (fun ls hl => ?_)
      refine lv_goto (tgt := 4) hx hb dX2_decidedMatters_24 (by decide) ?_
      refine lv_iload_n hx hb dX2_decidedMatters_4 rfl (lv_at hl 0 rfl) ?_
      refine lv_iconst (v := 3) hx hb dX2_decidedMatters_5 (by decide) ?_
      refine lv_icmp_ge (x := 2) (y := 3) (tgt := 27) hx hb dX2_decidedMatters_6 (by decide) (fun c19 => absurd c19 (by decide)) (fun c19 => ?_)
      refine lv_aload_n hx hb dX2_decidedMatters_9 rfl (lv_at hl 2 rfl) ?_
      refine va_get (D := D) (ci := 2) (v := .ref q3) (C := RX2) (T := TX2) (N := 10) hx hb hts hi2 hown hG.1 hP 0 rfl rfl 3 (by decide) (hts (.fieldLink RX2 21 "SleptMatters$Course" "outcome" "[I") (List.mem_cons_of_mem _ (List.mem_append_left _ (List.mem_of_getElem? (i := 0) rfl)))) (fun _ h9 => h9) rfl dX2_decidedMatters_10 ?_
      refine lv_iload_n hx hb dX2_decidedMatters_13 rfl (lv_at hl 0 rfl) ?_
      refine va_iald hx hb hG.1 hP 1 0 rfl rfl (vp_in_nI (n := 2) (by omega) (by omega)) dX2_decidedMatters_14 ?_
      refine tp_i (y := f3 2) (rfl) ?_
      refine lv_if_eq (x := f3 2) (tgt := 21) hx hb dX2_decidedMatters_15 (by decide) (fun c20 => ?_) (fun c20 => ?_)
      · skip
        refine lv_iinc (v := 3) (lv' := [(2, .int 3), (1, .int 2), (0, .ref h)]) hx hb dX2_decidedMatters_21 hl (k := 0) rfl (by decide) (by decide) rfl (fun ls hl => ?_)
        refine lv_goto (tgt := 4) hx hb dX2_decidedMatters_24 (by decide) ?_
        refine lv_iload_n hx hb dX2_decidedMatters_4 rfl (lv_at hl 0 rfl) ?_
        refine lv_iconst (v := 3) hx hb dX2_decidedMatters_5 (by decide) ?_
        refine lv_icmp_ge (x := 3) (y := 3) (tgt := 27) hx hb dX2_decidedMatters_6 (by decide) (fun c21 => ?_) (fun c21 => absurd c21 (by decide))
        refine lv_iload_n hx hb dX2_decidedMatters_27 rfl (lv_at hl 1 rfl) ?_
        exact W.iret (v := 2) hx hb hr (fun t9 ht _ => ⟨2, rfl, by simp [dcm, ne1, c2, c14, c20], ht⟩) (fun q h => by cases h) dX2_decidedMatters_28
      · skip
        refine lv_iinc (v := 3) (lv' := [(1, .int 3), (2, .int 2), (0, .ref h)]) hx hb dX2_decidedMatters_18 hl (k := 1) rfl (by decide) (by decide) rfl (fun ls hl => ?_)
        refine lv_iinc (v := 3) (lv' := [(2, .int 3), (1, .int 3), (0, .ref h)]) hx hb dX2_decidedMatters_21 hl (k := 1) rfl (by decide) (by decide) rfl (fun ls hl => ?_)
        refine lv_goto (tgt := 4) hx hb dX2_decidedMatters_24 (by decide) ?_
        refine lv_iload_n hx hb dX2_decidedMatters_4 rfl (lv_at hl 0 rfl) ?_
        refine lv_iconst (v := 3) hx hb dX2_decidedMatters_5 (by decide) ?_
        refine lv_icmp_ge (x := 3) (y := 3) (tgt := 27) hx hb dX2_decidedMatters_6 (by decide) (fun c22 => ?_) (fun c22 => absurd c22 (by decide))
        refine lv_iload_n hx hb dX2_decidedMatters_27 rfl (lv_at hl 1 rfl) ?_
        exact W.iret (v := 3) hx hb hr (fun t9 ht _ => ⟨3, rfl, by simp [dcm, ne1, c2, c14, c20], ht⟩) (fun q h => by cases h) dX2_decidedMatters_28

abbrev c_X2_bedsFree (k : Nat → ClassId) (h : Nat) (q0 : Nat) (q1 : Nat) (q2 : Nat) (q3 : Nat) (q4 : Nat) (q5 : Nat) (q6 : Nat) (wg : Int32) (dy : Int32) (sd : Int32) (f6 : Nat → Int32) (t0 : Nat) (t : Nat) (tn : Nat) (tl : Nat) (tc : Nat) (ta : Nat) (rw : Nat → Nat) (q : Nat → Nat) (G0 : Nat → Int32) (sh : Int32) : va_W := [(h, .inr (2, [.ref q0, .ref q1, .ref q2, .ref q3, .ref q4, .ref q5, .ref q6, .int wg, .int dy, .int sd])), (q6, .inl (k 0, 3, .inl f6)), (t0, .inr (8, [.ref t, .ref tn, .ref tl, .ref tc, .ref ta])), (t, .inl (k 0, 4, .inl (cI q))), (tn, .inl (k 4, 4, .inr (.inr (.inr (.inr (gr4 rw)))))), ((rw 0), .inl (k 0, 80, .inl G0))]
abbrev r_X2_bedsFree : Room := { frames := 2, cells := 0, slots := 0, locals := 45 }
abbrev q_X2_bedsFree (k : Nat → ClassId) (h : Nat) (q0 : Nat) (q1 : Nat) (q2 : Nat) (q3 : Nat) (q4 : Nat) (q5 : Nat) (q6 : Nat) (wg : Int32) (dy : Int32) (sd : Int32) (f6 : Nat → Int32) (t0 : Nat) (t : Nat) (tn : Nat) (tl : Nat) (tc : Nat) (ta : Nat) (rw : Nat → Nat) (q : Nat → Nat) (G0 : Nat → Int32) (sh : Int32) : Array Value → State → Outcome → State → Prop := vp_Si (fun r => r = bfr (pt (q 0) G0 sh 1) f6 sh)
set_option maxHeartbeats 2000000 in
set_option maxRecDepth 100000 in
theorem X2_bedsFree (l : Launch) (D : va_G) (k : Nat → ClassId) (h : Nat) (q0 : Nat) (q1 : Nat) (q2 : Nat) (q3 : Nat) (q4 : Nat) (q5 : Nat) (q6 : Nat) (wg : Int32) (dy : Int32) (sd : Int32) (f6 : Nat → Int32) (t0 : Nat) (t : Nat) (tn : Nat) (tl : Nat) (tc : Nat) (ta : Nat) (rw : Nat → Nat) (q : Nat → Nat) (G0 : Nat → Int32) (sh : Int32) (hq0 : q 0 ≤ 7) : Met l yX2_bedsFree wsX2_bedsFree r_X2_bedsFree (va_Pc [.ref h, .ref t0, .int sh] (PS D k (c_X2_bedsFree k h q0 q1 q2 q3 q4 q5 q6 wg dy sd f6 t0 t tn tl tc ta rw q G0 sh))) (q_X2_bedsFree k h q0 q1 q2 q3 q4 q5 q6 wg dy sd f6 t0 t tn tl tc ta rw q G0 sh) 0 0 (fun _ => False) := by
  refine Met.ofW (cc := cX2_bedsFree) (maxL := 5) (ret := (some .int)) (by decide) rfl ?_
  intro p e s m args below meth c s₁ B hml hv
  obtain ⟨rfl, hP, hG⟩ := hv
  have hx := B.exec
  have hb := B.bytes
  have hr := B.returns
  have hts := atoms_spec (ws := wsX2_bedsFree) B.pre
  have hown : s.vm.findClass RX2 = some m.cls := findClass_of_methodNamed B.named
  have hlocks := B.notSynchronized
  have hi2 : ∀ w ∈ wsX20, w ∈ wsX2_bedsFree := fun _ h => List.mem_cons_of_mem _ (List.mem_append_left _ (List.mem_append_right _ h))
  have hi8 : ∀ w ∈ wsX80, w ∈ wsX2_bedsFree := fun _ h => List.mem_cons_of_mem _ (List.mem_append_right _ h)
  have hP : va_P D vwCl [(h, .inr (2, [.ref q0, .ref q1, .ref q2, .ref q3, .ref q4, .ref q5, .ref q6, .int wg, .int dy, .int sd])), (q6, .inl (k 0, 3, .inl f6)), (t0, .inr (8, [.ref t, .ref tn, .ref tl, .ref tc, .ref ta])), (t, .inl (k 0, 4, .inl (cI q))), (tn, .inl (k 4, 4, .inr (.inr (.inr (.inr (gr4 rw)))))), ((rw 0), .inl (k 0, 80, .inl G0))] s.heap := hP
  have hl := lv_entry ([.ref h, .ref t0, .int sh]) (n := 5) (Nat.le_of_ble_eq_true rfl)
  rw [lg_entry_eq]
  generalize (lg_sl ([.ref h, .ref t0, .int sh]) ++ List.replicate (5 - (lg_sl ([.ref h, .ref t0, .int sh])).length) Slot.unset).toArray = ls at hl ⊢
  have hl : lv_has ls 5 [(0, .ref h), (1, .ref t0), (2, .int sh)] := hl
  refine lv_aload_n hx hb dX2_bedsFree_0 rfl (lv_at hl 1 rfl) ?_
  refine lv_iconst (v := 0) hx hb dX2_bedsFree_1 (by decide) ?_
  refine lv_iload_n hx hb dX2_bedsFree_2 rfl (lv_at hl 2 rfl) ?_
  refine lv_iconst (v := 1) hx hb dX2_bedsFree_3 (by decide) ?_
  have hPc := hP.sub (ws' := (c_X8_part0 k t0 t tn tl tc ta rw q G0 sh 1)) [2, 3, 4, 5] rfl
  refine vp_callSi (va_Run.run (va_runV (As := [.int 0, .int sh, .int 1]) (rest := []) ⟨hx, hb, hml, hown, hts⟩ (X8_part0 l D k t0 t tn tl tc ta rw q G0 sh 1 (by omega) (by decide)) (cwV 3 hts gX2_bedsFree_X8_part rfl rfl rfl (by decide +kernel) ⟨Nat.le_of_ble_eq_true rfl, Nat.le_of_ble_eq_true rfl⟩) ⟨PS.blind _ _ _ _, va_recv hG.1 hP (ci := 8) (q0 := 2) rfl rfl, PS.pre hPc hG [.ref t0, .int 0, .int sh, .int 1]⟩ rfl rfl hl.1 rfl (lv_room (Nat.le_of_ble_eq_true rfl)) dX2_bedsFree_4 ⟨Nat.le_of_ble_eq_true rfl, Nat.le_of_ble_eq_true rfl⟩)) (fun r hq => ?_)
  generalize r = y1 at hq ⊢
  have hq : y1 = pt (q 0) G0 sh 1 := hq
  refine tp_i (y := pt (q 0) G0 sh 1) (hq) ?_
  refine lv_istore_n (lv' := [(3, .int (pt (q 0) G0 sh 1)), (0, .ref h), (1, .ref t0), (2, .int sh)]) hx hb dX2_bedsFree_7 rfl hl (by decide) rfl (fun ls hl => ?_)
  refine lv_iconst (v := 0) hx hb dX2_bedsFree_8 (by decide) ?_
  refine lv_istore (lv' := [(4, .int 0), (3, .int (pt (q 0) G0 sh 1)), (0, .ref h), (1, .ref t0), (2, .int sh)]) hx hb dX2_bedsFree_9 hl (by decide) rfl (fun ls hl => ?_)
  refine lv_iload hx hb dX2_bedsFree_11 (lv_at hl 0 rfl) ?_
  refine lv_iconst (v := 3) hx hb dX2_bedsFree_13 (by decide) ?_
  refine lv_icmp_ge (x := 0) (y := 3) (tgt := 37) hx hb dX2_bedsFree_14 (by decide) (fun c2 => absurd c2 (by decide)) (fun c2 => ?_)
  refine lv_aload_n hx hb dX2_bedsFree_17 rfl (lv_at hl 2 rfl) ?_
  refine va_get (D := D) (ci := 2) (v := .ref q6) (C := RX2) (T := TX2) (N := 10) hx hb hts hi2 hown hG.1 hP 0 rfl rfl 6 (by decide) (hts (.fieldLink RX2 30 "SleptMatters$Course" "laidHouse" "[I") (List.mem_cons_of_mem _ (List.mem_append_left _ (List.mem_append_left _ (List.mem_of_getElem? (i := 0) rfl))))) (fun _ h9 => h9) rfl dX2_bedsFree_18 ?_
  refine lv_iload hx hb dX2_bedsFree_21 (lv_at hl 0 rfl) ?_
  refine va_iald hx hb hG.1 hP 1 0 rfl rfl (vp_in_nI (n := 0) (by omega) (by omega)) dX2_bedsFree_23 ?_
  refine tp_i (y := f6 0) (rfl) ?_
  refine lv_iload_n hx hb dX2_bedsFree_24 rfl (lv_at hl 4 rfl) ?_
  refine lv_icmp_ne (x := f6 0) (y := sh) (tgt := 31) hx hb dX2_bedsFree_25 (by decide) (fun c3 => ?_) (fun c3 => ?_)
  · skip
    refine lv_iinc (v := 1) (lv' := [(4, .int 1), (3, .int (pt (q 0) G0 sh 1)), (0, .ref h), (1, .ref t0), (2, .int sh)]) hx hb dX2_bedsFree_31 hl (k := 0) rfl (by decide) (by decide) rfl (fun ls hl => ?_)
    refine lv_goto (tgt := 11) hx hb dX2_bedsFree_34 (by decide) ?_
    refine lv_iload hx hb dX2_bedsFree_11 (lv_at hl 0 rfl) ?_
    refine lv_iconst (v := 3) hx hb dX2_bedsFree_13 (by decide) ?_
    refine lv_icmp_ge (x := 1) (y := 3) (tgt := 37) hx hb dX2_bedsFree_14 (by decide) (fun c4 => absurd c4 (by decide)) (fun c4 => ?_)
    refine lv_aload_n hx hb dX2_bedsFree_17 rfl (lv_at hl 2 rfl) ?_
    refine va_get (D := D) (ci := 2) (v := .ref q6) (C := RX2) (T := TX2) (N := 10) hx hb hts hi2 hown hG.1 hP 0 rfl rfl 6 (by decide) (hts (.fieldLink RX2 30 "SleptMatters$Course" "laidHouse" "[I") (List.mem_cons_of_mem _ (List.mem_append_left _ (List.mem_append_left _ (List.mem_of_getElem? (i := 0) rfl))))) (fun _ h9 => h9) rfl dX2_bedsFree_18 ?_
    refine lv_iload hx hb dX2_bedsFree_21 (lv_at hl 0 rfl) ?_
    refine va_iald hx hb hG.1 hP 1 0 rfl rfl (vp_in_nI (n := 1) (by omega) (by omega)) dX2_bedsFree_23 ?_
    refine tp_i (y := f6 1) (rfl) ?_
    refine lv_iload_n hx hb dX2_bedsFree_24 rfl (lv_at hl 4 rfl) ?_
    refine lv_icmp_ne (x := f6 1) (y := sh) (tgt := 31) hx hb dX2_bedsFree_25 (by decide) (fun c5 => ?_) (fun c5 => ?_)
    · skip
      refine lv_iinc (v := 2) (lv' := [(4, .int 2), (3, .int (pt (q 0) G0 sh 1)), (0, .ref h), (1, .ref t0), (2, .int sh)]) hx hb dX2_bedsFree_31 hl (k := 0) rfl (by decide) (by decide) rfl (fun ls hl => ?_)
      refine lv_goto (tgt := 11) hx hb dX2_bedsFree_34 (by decide) ?_
      refine lv_iload hx hb dX2_bedsFree_11 (lv_at hl 0 rfl) ?_
      refine lv_iconst (v := 3) hx hb dX2_bedsFree_13 (by decide) ?_
      refine lv_icmp_ge (x := 2) (y := 3) (tgt := 37) hx hb dX2_bedsFree_14 (by decide) (fun c6 => absurd c6 (by decide)) (fun c6 => ?_)
      refine lv_aload_n hx hb dX2_bedsFree_17 rfl (lv_at hl 2 rfl) ?_
      refine va_get (D := D) (ci := 2) (v := .ref q6) (C := RX2) (T := TX2) (N := 10) hx hb hts hi2 hown hG.1 hP 0 rfl rfl 6 (by decide) (hts (.fieldLink RX2 30 "SleptMatters$Course" "laidHouse" "[I") (List.mem_cons_of_mem _ (List.mem_append_left _ (List.mem_append_left _ (List.mem_of_getElem? (i := 0) rfl))))) (fun _ h9 => h9) rfl dX2_bedsFree_18 ?_
      refine lv_iload hx hb dX2_bedsFree_21 (lv_at hl 0 rfl) ?_
      refine va_iald hx hb hG.1 hP 1 0 rfl rfl (vp_in_nI (n := 2) (by omega) (by omega)) dX2_bedsFree_23 ?_
      refine tp_i (y := f6 2) (rfl) ?_
      refine lv_iload_n hx hb dX2_bedsFree_24 rfl (lv_at hl 4 rfl) ?_
      refine lv_icmp_ne (x := f6 2) (y := sh) (tgt := 31) hx hb dX2_bedsFree_25 (by decide) (fun c7 => ?_) (fun c7 => ?_)
      · skip
        refine lv_iinc (v := 3) (lv' := [(4, .int 3), (3, .int (pt (q 0) G0 sh 1)), (0, .ref h), (1, .ref t0), (2, .int sh)]) hx hb dX2_bedsFree_31 hl (k := 0) rfl (by decide) (by decide) rfl (fun ls hl => ?_)
        refine lv_goto (tgt := 11) hx hb dX2_bedsFree_34 (by decide) ?_
        refine lv_iload hx hb dX2_bedsFree_11 (lv_at hl 0 rfl) ?_
        refine lv_iconst (v := 3) hx hb dX2_bedsFree_13 (by decide) ?_
        refine lv_icmp_ge (x := 3) (y := 3) (tgt := 37) hx hb dX2_bedsFree_14 (by decide) (fun c8 => ?_) (fun c8 => absurd c8 (by decide))
        refine lv_iload_n hx hb dX2_bedsFree_37 rfl (lv_at hl 1 rfl) ?_
        exact W.iret (v := pt (q 0) G0 sh 1) hx hb hr (fun t9 ht _ => ⟨pt (q 0) G0 sh 1, rfl, by simp [bfr, d1, c3, c5, c7], ht⟩) (fun q h => by cases h) dX2_bedsFree_38
      · skip
        refine lv_iinc (v := (pt (q 0) G0 sh 1) + (-1)) (lv' := [(3, .int ((pt (q 0) G0 sh 1) + (-1))), (4, .int 2), (0, .ref h), (1, .ref t0), (2, .int sh)]) hx hb dX2_bedsFree_28 hl (k := 1) rfl (rfl) (by decide) rfl (fun ls hl => ?_)
        refine lv_iinc (v := 3) (lv' := [(4, .int 3), (3, .int ((pt (q 0) G0 sh 1) + (-1))), (0, .ref h), (1, .ref t0), (2, .int sh)]) hx hb dX2_bedsFree_31 hl (k := 1) rfl (by decide) (by decide) rfl (fun ls hl => ?_)
        refine lv_goto (tgt := 11) hx hb dX2_bedsFree_34 (by decide) ?_
        refine lv_iload hx hb dX2_bedsFree_11 (lv_at hl 0 rfl) ?_
        refine lv_iconst (v := 3) hx hb dX2_bedsFree_13 (by decide) ?_
        refine lv_icmp_ge (x := 3) (y := 3) (tgt := 37) hx hb dX2_bedsFree_14 (by decide) (fun c9 => ?_) (fun c9 => absurd c9 (by decide))
        refine lv_iload_n hx hb dX2_bedsFree_37 rfl (lv_at hl 1 rfl) ?_
        exact W.iret (v := (pt (q 0) G0 sh 1) + (-1)) hx hb hr (fun t9 ht _ => ⟨(pt (q 0) G0 sh 1) + (-1), rfl, by simp [bfr, d1, c3, c5, c7], ht⟩) (fun q h => by cases h) dX2_bedsFree_38
    · skip
      refine lv_iinc (v := (pt (q 0) G0 sh 1) + (-1)) (lv' := [(3, .int ((pt (q 0) G0 sh 1) + (-1))), (4, .int 1), (0, .ref h), (1, .ref t0), (2, .int sh)]) hx hb dX2_bedsFree_28 hl (k := 1) rfl (rfl) (by decide) rfl (fun ls hl => ?_)
      refine lv_iinc (v := 2) (lv' := [(4, .int 2), (3, .int ((pt (q 0) G0 sh 1) + (-1))), (0, .ref h), (1, .ref t0), (2, .int sh)]) hx hb dX2_bedsFree_31 hl (k := 1) rfl (by decide) (by decide) rfl (fun ls hl => ?_)
      refine lv_goto (tgt := 11) hx hb dX2_bedsFree_34 (by decide) ?_
      refine lv_iload hx hb dX2_bedsFree_11 (lv_at hl 0 rfl) ?_
      refine lv_iconst (v := 3) hx hb dX2_bedsFree_13 (by decide) ?_
      refine lv_icmp_ge (x := 2) (y := 3) (tgt := 37) hx hb dX2_bedsFree_14 (by decide) (fun c10 => absurd c10 (by decide)) (fun c10 => ?_)
      refine lv_aload_n hx hb dX2_bedsFree_17 rfl (lv_at hl 2 rfl) ?_
      refine va_get (D := D) (ci := 2) (v := .ref q6) (C := RX2) (T := TX2) (N := 10) hx hb hts hi2 hown hG.1 hP 0 rfl rfl 6 (by decide) (hts (.fieldLink RX2 30 "SleptMatters$Course" "laidHouse" "[I") (List.mem_cons_of_mem _ (List.mem_append_left _ (List.mem_append_left _ (List.mem_of_getElem? (i := 0) rfl))))) (fun _ h9 => h9) rfl dX2_bedsFree_18 ?_
      refine lv_iload hx hb dX2_bedsFree_21 (lv_at hl 0 rfl) ?_
      refine va_iald hx hb hG.1 hP 1 0 rfl rfl (vp_in_nI (n := 2) (by omega) (by omega)) dX2_bedsFree_23 ?_
      refine tp_i (y := f6 2) (rfl) ?_
      refine lv_iload_n hx hb dX2_bedsFree_24 rfl (lv_at hl 4 rfl) ?_
      refine lv_icmp_ne (x := f6 2) (y := sh) (tgt := 31) hx hb dX2_bedsFree_25 (by decide) (fun c11 => ?_) (fun c11 => ?_)
      · skip
        refine lv_iinc (v := 3) (lv' := [(4, .int 3), (3, .int ((pt (q 0) G0 sh 1) + (-1))), (0, .ref h), (1, .ref t0), (2, .int sh)]) hx hb dX2_bedsFree_31 hl (k := 0) rfl (by decide) (by decide) rfl (fun ls hl => ?_)
        refine lv_goto (tgt := 11) hx hb dX2_bedsFree_34 (by decide) ?_
        refine lv_iload hx hb dX2_bedsFree_11 (lv_at hl 0 rfl) ?_
        refine lv_iconst (v := 3) hx hb dX2_bedsFree_13 (by decide) ?_
        refine lv_icmp_ge (x := 3) (y := 3) (tgt := 37) hx hb dX2_bedsFree_14 (by decide) (fun c12 => ?_) (fun c12 => absurd c12 (by decide))
        refine lv_iload_n hx hb dX2_bedsFree_37 rfl (lv_at hl 1 rfl) ?_
        exact W.iret (v := (pt (q 0) G0 sh 1) + (-1)) hx hb hr (fun t9 ht _ => ⟨(pt (q 0) G0 sh 1) + (-1), rfl, by simp [bfr, d1, c3, c5, c11], ht⟩) (fun q h => by cases h) dX2_bedsFree_38
      · skip
        refine lv_iinc (v := ((pt (q 0) G0 sh 1) + (-1)) + (-1)) (lv' := [(3, .int (((pt (q 0) G0 sh 1) + (-1)) + (-1))), (4, .int 2), (0, .ref h), (1, .ref t0), (2, .int sh)]) hx hb dX2_bedsFree_28 hl (k := 1) rfl (rfl) (by decide) rfl (fun ls hl => ?_)
        refine lv_iinc (v := 3) (lv' := [(4, .int 3), (3, .int (((pt (q 0) G0 sh 1) + (-1)) + (-1))), (0, .ref h), (1, .ref t0), (2, .int sh)]) hx hb dX2_bedsFree_31 hl (k := 1) rfl (by decide) (by decide) rfl (fun ls hl => ?_)
        refine lv_goto (tgt := 11) hx hb dX2_bedsFree_34 (by decide) ?_
        refine lv_iload hx hb dX2_bedsFree_11 (lv_at hl 0 rfl) ?_
        refine lv_iconst (v := 3) hx hb dX2_bedsFree_13 (by decide) ?_
        refine lv_icmp_ge (x := 3) (y := 3) (tgt := 37) hx hb dX2_bedsFree_14 (by decide) (fun c13 => ?_) (fun c13 => absurd c13 (by decide))
        refine lv_iload_n hx hb dX2_bedsFree_37 rfl (lv_at hl 1 rfl) ?_
        exact W.iret (v := ((pt (q 0) G0 sh 1) + (-1)) + (-1)) hx hb hr (fun t9 ht _ => ⟨((pt (q 0) G0 sh 1) + (-1)) + (-1), rfl, by simp [bfr, d1, c3, c5, c11], ht⟩) (fun q h => by cases h) dX2_bedsFree_38
  · skip
    refine lv_iinc (v := (pt (q 0) G0 sh 1) + (-1)) (lv' := [(3, .int ((pt (q 0) G0 sh 1) + (-1))), (4, .int 0), (0, .ref h), (1, .ref t0), (2, .int sh)]) hx hb dX2_bedsFree_28 hl (k := 1) rfl (rfl) (by decide) rfl (fun ls hl => ?_)
    refine lv_iinc (v := 1) (lv' := [(4, .int 1), (3, .int ((pt (q 0) G0 sh 1) + (-1))), (0, .ref h), (1, .ref t0), (2, .int sh)]) hx hb dX2_bedsFree_31 hl (k := 1) rfl (by decide) (by decide) rfl (fun ls hl => ?_)
    refine lv_goto (tgt := 11) hx hb dX2_bedsFree_34 (by decide) ?_
    refine lv_iload hx hb dX2_bedsFree_11 (lv_at hl 0 rfl) ?_
    refine lv_iconst (v := 3) hx hb dX2_bedsFree_13 (by decide) ?_
    refine lv_icmp_ge (x := 1) (y := 3) (tgt := 37) hx hb dX2_bedsFree_14 (by decide) (fun c14 => absurd c14 (by decide)) (fun c14 => ?_)
    refine lv_aload_n hx hb dX2_bedsFree_17 rfl (lv_at hl 2 rfl) ?_
    refine va_get (D := D) (ci := 2) (v := .ref q6) (C := RX2) (T := TX2) (N := 10) hx hb hts hi2 hown hG.1 hP 0 rfl rfl 6 (by decide) (hts (.fieldLink RX2 30 "SleptMatters$Course" "laidHouse" "[I") (List.mem_cons_of_mem _ (List.mem_append_left _ (List.mem_append_left _ (List.mem_of_getElem? (i := 0) rfl))))) (fun _ h9 => h9) rfl dX2_bedsFree_18 ?_
    refine lv_iload hx hb dX2_bedsFree_21 (lv_at hl 0 rfl) ?_
    refine va_iald hx hb hG.1 hP 1 0 rfl rfl (vp_in_nI (n := 1) (by omega) (by omega)) dX2_bedsFree_23 ?_
    refine tp_i (y := f6 1) (rfl) ?_
    refine lv_iload_n hx hb dX2_bedsFree_24 rfl (lv_at hl 4 rfl) ?_
    refine lv_icmp_ne (x := f6 1) (y := sh) (tgt := 31) hx hb dX2_bedsFree_25 (by decide) (fun c15 => ?_) (fun c15 => ?_)
    · skip
      refine lv_iinc (v := 2) (lv' := [(4, .int 2), (3, .int ((pt (q 0) G0 sh 1) + (-1))), (0, .ref h), (1, .ref t0), (2, .int sh)]) hx hb dX2_bedsFree_31 hl (k := 0) rfl (by decide) (by decide) rfl (fun ls hl => ?_)
      refine lv_goto (tgt := 11) hx hb dX2_bedsFree_34 (by decide) ?_
      refine lv_iload hx hb dX2_bedsFree_11 (lv_at hl 0 rfl) ?_
      refine lv_iconst (v := 3) hx hb dX2_bedsFree_13 (by decide) ?_
      refine lv_icmp_ge (x := 2) (y := 3) (tgt := 37) hx hb dX2_bedsFree_14 (by decide) (fun c16 => absurd c16 (by decide)) (fun c16 => ?_)
      refine lv_aload_n hx hb dX2_bedsFree_17 rfl (lv_at hl 2 rfl) ?_
      refine va_get (D := D) (ci := 2) (v := .ref q6) (C := RX2) (T := TX2) (N := 10) hx hb hts hi2 hown hG.1 hP 0 rfl rfl 6 (by decide) (hts (.fieldLink RX2 30 "SleptMatters$Course" "laidHouse" "[I") (List.mem_cons_of_mem _ (List.mem_append_left _ (List.mem_append_left _ (List.mem_of_getElem? (i := 0) rfl))))) (fun _ h9 => h9) rfl dX2_bedsFree_18 ?_
      refine lv_iload hx hb dX2_bedsFree_21 (lv_at hl 0 rfl) ?_
      refine va_iald hx hb hG.1 hP 1 0 rfl rfl (vp_in_nI (n := 2) (by omega) (by omega)) dX2_bedsFree_23 ?_
      refine tp_i (y := f6 2) (rfl) ?_
      refine lv_iload_n hx hb dX2_bedsFree_24 rfl (lv_at hl 4 rfl) ?_
      refine lv_icmp_ne (x := f6 2) (y := sh) (tgt := 31) hx hb dX2_bedsFree_25 (by decide) (fun c17 => ?_) (fun c17 => ?_)
      · skip
        refine lv_iinc (v := 3) (lv' := [(4, .int 3), (3, .int ((pt (q 0) G0 sh 1) + (-1))), (0, .ref h), (1, .ref t0), (2, .int sh)]) hx hb dX2_bedsFree_31 hl (k := 0) rfl (by decide) (by decide) rfl (fun ls hl => ?_)
        refine lv_goto (tgt := 11) hx hb dX2_bedsFree_34 (by decide) ?_
        refine lv_iload hx hb dX2_bedsFree_11 (lv_at hl 0 rfl) ?_
        refine lv_iconst (v := 3) hx hb dX2_bedsFree_13 (by decide) ?_
        refine lv_icmp_ge (x := 3) (y := 3) (tgt := 37) hx hb dX2_bedsFree_14 (by decide) (fun c18 => ?_) (fun c18 => absurd c18 (by decide))
        refine lv_iload_n hx hb dX2_bedsFree_37 rfl (lv_at hl 1 rfl) ?_
        exact W.iret (v := (pt (q 0) G0 sh 1) + (-1)) hx hb hr (fun t9 ht _ => ⟨(pt (q 0) G0 sh 1) + (-1), rfl, by simp [bfr, d1, c3, c15, c17], ht⟩) (fun q h => by cases h) dX2_bedsFree_38
      · skip
        refine lv_iinc (v := ((pt (q 0) G0 sh 1) + (-1)) + (-1)) (lv' := [(3, .int (((pt (q 0) G0 sh 1) + (-1)) + (-1))), (4, .int 2), (0, .ref h), (1, .ref t0), (2, .int sh)]) hx hb dX2_bedsFree_28 hl (k := 1) rfl (rfl) (by decide) rfl (fun ls hl => ?_)
        refine lv_iinc (v := 3) (lv' := [(4, .int 3), (3, .int (((pt (q 0) G0 sh 1) + (-1)) + (-1))), (0, .ref h), (1, .ref t0), (2, .int sh)]) hx hb dX2_bedsFree_31 hl (k := 1) rfl (by decide) (by decide) rfl (fun ls hl => ?_)
        refine lv_goto (tgt := 11) hx hb dX2_bedsFree_34 (by decide) ?_
        refine lv_iload hx hb dX2_bedsFree_11 (lv_at hl 0 rfl) ?_
        refine lv_iconst (v := 3) hx hb dX2_bedsFree_13 (by decide) ?_
        refine lv_icmp_ge (x := 3) (y := 3) (tgt := 37) hx hb dX2_bedsFree_14 (by decide) (fun c19 => ?_) (fun c19 => absurd c19 (by decide))
        refine lv_iload_n hx hb dX2_bedsFree_37 rfl (lv_at hl 1 rfl) ?_
        exact W.iret (v := ((pt (q 0) G0 sh 1) + (-1)) + (-1)) hx hb hr (fun t9 ht _ => ⟨((pt (q 0) G0 sh 1) + (-1)) + (-1), rfl, by simp [bfr, d1, c3, c15, c17], ht⟩) (fun q h => by cases h) dX2_bedsFree_38
    · skip
      refine lv_iinc (v := ((pt (q 0) G0 sh 1) + (-1)) + (-1)) (lv' := [(3, .int (((pt (q 0) G0 sh 1) + (-1)) + (-1))), (4, .int 1), (0, .ref h), (1, .ref t0), (2, .int sh)]) hx hb dX2_bedsFree_28 hl (k := 1) rfl (rfl) (by decide) rfl (fun ls hl => ?_)
      refine lv_iinc (v := 2) (lv' := [(4, .int 2), (3, .int (((pt (q 0) G0 sh 1) + (-1)) + (-1))), (0, .ref h), (1, .ref t0), (2, .int sh)]) hx hb dX2_bedsFree_31 hl (k := 1) rfl (by decide) (by decide) rfl (fun ls hl => ?_)
      refine lv_goto (tgt := 11) hx hb dX2_bedsFree_34 (by decide) ?_
      refine lv_iload hx hb dX2_bedsFree_11 (lv_at hl 0 rfl) ?_
      refine lv_iconst (v := 3) hx hb dX2_bedsFree_13 (by decide) ?_
      refine lv_icmp_ge (x := 2) (y := 3) (tgt := 37) hx hb dX2_bedsFree_14 (by decide) (fun c20 => absurd c20 (by decide)) (fun c20 => ?_)
      refine lv_aload_n hx hb dX2_bedsFree_17 rfl (lv_at hl 2 rfl) ?_
      refine va_get (D := D) (ci := 2) (v := .ref q6) (C := RX2) (T := TX2) (N := 10) hx hb hts hi2 hown hG.1 hP 0 rfl rfl 6 (by decide) (hts (.fieldLink RX2 30 "SleptMatters$Course" "laidHouse" "[I") (List.mem_cons_of_mem _ (List.mem_append_left _ (List.mem_append_left _ (List.mem_of_getElem? (i := 0) rfl))))) (fun _ h9 => h9) rfl dX2_bedsFree_18 ?_
      refine lv_iload hx hb dX2_bedsFree_21 (lv_at hl 0 rfl) ?_
      refine va_iald hx hb hG.1 hP 1 0 rfl rfl (vp_in_nI (n := 2) (by omega) (by omega)) dX2_bedsFree_23 ?_
      refine tp_i (y := f6 2) (rfl) ?_
      refine lv_iload_n hx hb dX2_bedsFree_24 rfl (lv_at hl 4 rfl) ?_
      refine lv_icmp_ne (x := f6 2) (y := sh) (tgt := 31) hx hb dX2_bedsFree_25 (by decide) (fun c21 => ?_) (fun c21 => ?_)
      · skip
        refine lv_iinc (v := 3) (lv' := [(4, .int 3), (3, .int (((pt (q 0) G0 sh 1) + (-1)) + (-1))), (0, .ref h), (1, .ref t0), (2, .int sh)]) hx hb dX2_bedsFree_31 hl (k := 0) rfl (by decide) (by decide) rfl (fun ls hl => ?_)
        refine lv_goto (tgt := 11) hx hb dX2_bedsFree_34 (by decide) ?_
        refine lv_iload hx hb dX2_bedsFree_11 (lv_at hl 0 rfl) ?_
        refine lv_iconst (v := 3) hx hb dX2_bedsFree_13 (by decide) ?_
        refine lv_icmp_ge (x := 3) (y := 3) (tgt := 37) hx hb dX2_bedsFree_14 (by decide) (fun c22 => ?_) (fun c22 => absurd c22 (by decide))
        refine lv_iload_n hx hb dX2_bedsFree_37 rfl (lv_at hl 1 rfl) ?_
        exact W.iret (v := ((pt (q 0) G0 sh 1) + (-1)) + (-1)) hx hb hr (fun t9 ht _ => ⟨((pt (q 0) G0 sh 1) + (-1)) + (-1), rfl, by simp [bfr, d1, c3, c15, c21], ht⟩) (fun q h => by cases h) dX2_bedsFree_38
      · skip
        refine lv_iinc (v := (((pt (q 0) G0 sh 1) + (-1)) + (-1)) + (-1)) (lv' := [(3, .int ((((pt (q 0) G0 sh 1) + (-1)) + (-1)) + (-1))), (4, .int 2), (0, .ref h), (1, .ref t0), (2, .int sh)]) hx hb dX2_bedsFree_28 hl (k := 1) rfl (rfl) (by decide) rfl (fun ls hl => ?_)
        refine lv_iinc (v := 3) (lv' := [(4, .int 3), (3, .int ((((pt (q 0) G0 sh 1) + (-1)) + (-1)) + (-1))), (0, .ref h), (1, .ref t0), (2, .int sh)]) hx hb dX2_bedsFree_31 hl (k := 1) rfl (by decide) (by decide) rfl (fun ls hl => ?_)
        refine lv_goto (tgt := 11) hx hb dX2_bedsFree_34 (by decide) ?_
        refine lv_iload hx hb dX2_bedsFree_11 (lv_at hl 0 rfl) ?_
        refine lv_iconst (v := 3) hx hb dX2_bedsFree_13 (by decide) ?_
        refine lv_icmp_ge (x := 3) (y := 3) (tgt := 37) hx hb dX2_bedsFree_14 (by decide) (fun c23 => ?_) (fun c23 => absurd c23 (by decide))
        refine lv_iload_n hx hb dX2_bedsFree_37 rfl (lv_at hl 1 rfl) ?_
        exact W.iret (v := (((pt (q 0) G0 sh 1) + (-1)) + (-1)) + (-1)) hx hb hr (fun t9 ht _ => ⟨(((pt (q 0) G0 sh 1) + (-1)) + (-1)) + (-1), rfl, by simp [bfr, d1, c3, c15, c21], ht⟩) (fun q h => by cases h) dX2_bedsFree_38

abbrev c_X2_isMatterFree (k : Nat → ClassId) (h : Nat) (q0 : Nat) (q1 : Nat) (q2 : Nat) (q3 : Nat) (q4 : Nat) (q5 : Nat) (q6 : Nat) (wg : Int32) (dy : Int32) (sd : Int32) (f3 : Nat → Int32) (f5 : Nat → Int32) (t0 : Nat) (t : Nat) (tn : Nat) (tl : Nat) (tc : Nat) (ta : Nat) (rw : Nat → Nat) (q : Nat → Nat) (G3 : Nat → Int32) (j : Nat) : va_W := [(h, .inr (2, [.ref q0, .ref q1, .ref q2, .ref q3, .ref q4, .ref q5, .ref q6, .int wg, .int dy, .int sd])), (q3, .inl (k 0, 3, .inl f3)), (q5, .inl (k 0, 3, .inl f5)), (t0, .inr (8, [.ref t, .ref tn, .ref tl, .ref tc, .ref ta])), (t, .inl (k 0, 4, .inl (cI q))), (tn, .inl (k 4, 4, .inr (.inr (.inr (.inr (gr4 rw)))))), ((rw 3), .inl (k 0, 80, .inl G3))]
abbrev r_X2_isMatterFree : Room := { frames := 2, cells := 0, slots := 0, locals := 45 }
abbrev q_X2_isMatterFree (k : Nat → ClassId) (h : Nat) (q0 : Nat) (q1 : Nat) (q2 : Nat) (q3 : Nat) (q4 : Nat) (q5 : Nat) (q6 : Nat) (wg : Int32) (dy : Int32) (sd : Int32) (f3 : Nat → Int32) (f5 : Nat → Int32) (t0 : Nat) (t : Nat) (tn : Nat) (tl : Nat) (tc : Nat) (ta : Nat) (rw : Nat → Nat) (q : Nat → Nat) (G3 : Nat → Int32) (j : Nat) : Array Value → State → Outcome → State → Prop := vp_Si (fun r => r = imf (f3 j) (f5 j) dy (pt (q 3) G3 (nI j) 0))
set_option maxHeartbeats 2000000 in
set_option maxRecDepth 100000 in
theorem X2_isMatterFree (l : Launch) (D : va_G) (k : Nat → ClassId) (h : Nat) (q0 : Nat) (q1 : Nat) (q2 : Nat) (q3 : Nat) (q4 : Nat) (q5 : Nat) (q6 : Nat) (wg : Int32) (dy : Int32) (sd : Int32) (f3 : Nat → Int32) (f5 : Nat → Int32) (t0 : Nat) (t : Nat) (tn : Nat) (tl : Nat) (tc : Nat) (ta : Nat) (rw : Nat → Nat) (q : Nat → Nat) (G3 : Nat → Int32) (j : Nat) (hq3 : q 3 ≤ 3) (hj : j < 3) : Met l yX2_isMatterFree wsX2_isMatterFree r_X2_isMatterFree (va_Pc [.ref h, .ref t0, .int (nI j)] (PS D k (c_X2_isMatterFree k h q0 q1 q2 q3 q4 q5 q6 wg dy sd f3 f5 t0 t tn tl tc ta rw q G3 j))) (q_X2_isMatterFree k h q0 q1 q2 q3 q4 q5 q6 wg dy sd f3 f5 t0 t tn tl tc ta rw q G3 j) 0 0 (fun _ => False) := by
  refine Met.ofW (cc := cX2_isMatterFree) (maxL := 3) (ret := (some .boolean)) (by decide) rfl ?_
  intro p e s m args below meth c s₁ B hml hv
  obtain ⟨rfl, hP, hG⟩ := hv
  have hx := B.exec
  have hb := B.bytes
  have hr := B.returns
  have hts := atoms_spec (ws := wsX2_isMatterFree) B.pre
  have hown : s.vm.findClass RX2 = some m.cls := findClass_of_methodNamed B.named
  have hlocks := B.notSynchronized
  have hi2 : ∀ w ∈ wsX20, w ∈ wsX2_isMatterFree := fun _ h => List.mem_cons_of_mem _ (List.mem_append_left _ (List.mem_append_right _ h))
  have hi8 : ∀ w ∈ wsX80, w ∈ wsX2_isMatterFree := fun _ h => List.mem_cons_of_mem _ (List.mem_append_right _ h)
  have hP : va_P D vwCl [(h, .inr (2, [.ref q0, .ref q1, .ref q2, .ref q3, .ref q4, .ref q5, .ref q6, .int wg, .int dy, .int sd])), (q3, .inl (k 0, 3, .inl f3)), (q5, .inl (k 0, 3, .inl f5)), (t0, .inr (8, [.ref t, .ref tn, .ref tl, .ref tc, .ref ta])), (t, .inl (k 0, 4, .inl (cI q))), (tn, .inl (k 4, 4, .inr (.inr (.inr (.inr (gr4 rw)))))), ((rw 3), .inl (k 0, 80, .inl G3))] s.heap := hP
  have hl := lv_entry ([.ref h, .ref t0, .int (nI j)]) (n := 3) (Nat.le_of_ble_eq_true rfl)
  rw [lg_entry_eq]
  generalize (lg_sl ([.ref h, .ref t0, .int (nI j)]) ++ List.replicate (3 - (lg_sl ([.ref h, .ref t0, .int (nI j)])).length) Slot.unset).toArray = ls at hl ⊢
  have hl : lv_has ls 3 [(0, .ref h), (1, .ref t0), (2, .int (nI j))] := hl
  refine lv_aload_n hx hb dX2_isMatterFree_0 rfl (lv_at hl 0 rfl) ?_
  refine va_get (D := D) (ci := 2) (v := .ref q3) (C := RX2) (T := TX2) (N := 10) hx hb hts hi2 hown hG.1 hP 0 rfl rfl 3 (by decide) (hts (.fieldLink RX2 21 "SleptMatters$Course" "outcome" "[I") (List.mem_cons_of_mem _ (List.mem_append_left _ (List.mem_append_left _ (List.mem_of_getElem? (i := 0) rfl))))) (fun _ h9 => h9) rfl dX2_isMatterFree_1 ?_
  refine lv_iload_n hx hb dX2_isMatterFree_4 rfl (lv_at hl 2 rfl) ?_
  refine va_iald hx hb hG.1 hP 1 0 rfl rfl (vp_in_nI (by omega) (by omega)) dX2_isMatterFree_5 ?_
  refine tp_i (y := f3 j) (congrArg _ (nI_clamp (n := j) (by omega))) ?_
  refine lv_if_ne (x := f3 j) (tgt := 37) hx hb dX2_isMatterFree_6 (by decide) (fun c1 => ?_) (fun c1 => ?_)
  · skip
    refine lv_iconst (v := 0) hx hb dX2_isMatterFree_37 (by decide) ?_
    exact W.zret (v := 0) hx hb hr (rfl) (fun t9 ht _ => ⟨0, rfl, by simp [imf, c1], ht⟩) (fun q h => by cases h) dX2_isMatterFree_38
  · skip
    refine lv_aload_n hx hb dX2_isMatterFree_9 rfl (lv_at hl 0 rfl) ?_
    refine va_get (D := D) (ci := 2) (v := .ref q5) (C := RX2) (T := TX2) (N := 10) hx hb hts hi2 hown hG.1 hP 0 rfl rfl 5 (by decide) (hts (.fieldLink RX2 27 "SleptMatters$Course" "laidSleeper" "[I") (List.mem_cons_of_mem _ (List.mem_append_left _ (List.mem_append_left _ (List.mem_of_getElem? (i := 1) rfl))))) (fun _ h9 => h9) rfl dX2_isMatterFree_10 ?_
    refine lv_iload_n hx hb dX2_isMatterFree_13 rfl (lv_at hl 2 rfl) ?_
    refine va_iald hx hb hG.1 hP 2 0 rfl rfl (vp_in_nI (by omega) (by omega)) dX2_isMatterFree_14 ?_
    refine tp_i (y := f5 j) (congrArg _ (nI_clamp (n := j) (by omega))) ?_
    refine lv_iconst (v := (-1)) hx hb dX2_isMatterFree_15 (by decide) ?_
    refine lv_icmp_ne (x := f5 j) (y := (-1)) (tgt := 37) hx hb dX2_isMatterFree_16 (by decide) (fun c2 => ?_) (fun c2 => ?_)
    · skip
      refine lv_iconst (v := 0) hx hb dX2_isMatterFree_37 (by decide) ?_
      exact W.zret (v := 0) hx hb hr (rfl) (fun t9 ht _ => ⟨0, rfl, by simp [imf, c1, c2], ht⟩) (fun q h => by cases h) dX2_isMatterFree_38
    · skip
      refine lv_aload_n hx hb dX2_isMatterFree_19 rfl (lv_at hl 0 rfl) ?_
      refine va_get (D := D) (ci := 2) (v := .int dy) (C := RX2) (T := TX2) (N := 10) hx hb hts hi2 hown hG.1 hP 0 rfl rfl 8 (by decide) (hts (.fieldLink RX2 37 "SleptMatters$Course" "day" "I") (List.mem_cons_of_mem _ (List.mem_append_left _ (List.mem_append_left _ (List.mem_of_getElem? (i := 2) rfl))))) (fun _ h9 => h9) rfl dX2_isMatterFree_20 ?_
      refine lv_aload_n hx hb dX2_isMatterFree_23 rfl (lv_at hl 1 rfl) ?_
      refine lv_iconst (v := 3) hx hb dX2_isMatterFree_24 (by decide) ?_
      refine lv_iload_n hx hb dX2_isMatterFree_25 rfl (lv_at hl 2 rfl) ?_
      refine lv_iconst (v := 0) hx hb dX2_isMatterFree_26 (by decide) ?_
      have hPc := hP.sub (ws' := (c_X8_part3 k t0 t tn tl tc ta rw q G3 (nI j) 0)) [3, 4, 5, 6] rfl
      refine vp_callSi (va_Run.run (va_runV (As := [.int 3, .int (nI j), .int 0]) (rest := [.int dy]) ⟨hx, hb, hml, hown, hts⟩ (X8_part3 l D k t0 t tn tl tc ta rw q G3 (nI j) 0 (by omega) (by decide)) (cwV 3 hts gX2_isMatterFree_X8_part rfl rfl rfl (by decide +kernel) ⟨Nat.le_of_ble_eq_true rfl, Nat.le_of_ble_eq_true rfl⟩) ⟨PS.blind _ _ _ _, va_recv hG.1 hP (ci := 8) (q0 := 3) rfl rfl, PS.pre hPc hG [.ref t0, .int 3, .int (nI j), .int 0]⟩ rfl rfl hl.1 rfl (lv_room (Nat.le_of_ble_eq_true rfl)) dX2_isMatterFree_27 ⟨Nat.le_of_ble_eq_true rfl, Nat.le_of_ble_eq_true rfl⟩)) (fun r hq => ?_)
      generalize r = y3 at hq ⊢
      have hq : y3 = pt (q 3) G3 (nI j) 0 := hq
      refine tp_i (y := pt (q 3) G3 (nI j) 0) (hq) ?_
      refine lv_icmp_lt (x := dy) (y := pt (q 3) G3 (nI j) 0) (tgt := 37) hx hb dX2_isMatterFree_30 (by decide) (fun c4 => ?_) (fun c4 => ?_)
      · skip
        refine lv_iconst (v := 0) hx hb dX2_isMatterFree_37 (by decide) ?_
        exact W.zret (v := 0) hx hb hr (rfl) (fun t9 ht _ => ⟨0, rfl, by simp [imf, c1, c2, c4], ht⟩) (fun q h => by cases h) dX2_isMatterFree_38
      · skip
        refine lv_iconst (v := 1) hx hb dX2_isMatterFree_33 (by decide) ?_
        refine lv_goto (tgt := 38) hx hb dX2_isMatterFree_34 (by decide) ?_
        exact W.zret (v := 1) hx hb hr (rfl) (fun t9 ht _ => ⟨1, rfl, by simp [imf, c1, c2, c4], ht⟩) (fun q h => by cases h) dX2_isMatterFree_38

abbrev c_X2_isSleeperFree (k : Nat → ClassId) (h : Nat) (q0 : Nat) (q1 : Nat) (q2 : Nat) (q3 : Nat) (q4 : Nat) (q5 : Nat) (q6 : Nat) (wg : Int32) (dy : Int32) (sd : Int32) (f0 : Nat → Int32) (f5 : Nat → Int32) (j : Nat) (sa : Int32) : va_W := [(h, .inr (2, [.ref q0, .ref q1, .ref q2, .ref q3, .ref q4, .ref q5, .ref q6, .int wg, .int dy, .int sd])), (q0, .inl (k 0, 3, .inl f0)), (q5, .inl (k 0, 3, .inl f5))]
abbrev r_X2_isSleeperFree : Room := { frames := 1, cells := 0, slots := 0, locals := 22 }
abbrev q_X2_isSleeperFree (k : Nat → ClassId) (h : Nat) (q0 : Nat) (q1 : Nat) (q2 : Nat) (q3 : Nat) (q4 : Nat) (q5 : Nat) (q6 : Nat) (wg : Int32) (dy : Int32) (sd : Int32) (f0 : Nat → Int32) (f5 : Nat → Int32) (j : Nat) (sa : Int32) : Array Value → State → Outcome → State → Prop := vp_Si (fun r => r = isf (f0 j) sa (mof f5 sa))
set_option maxHeartbeats 2000000 in
set_option maxRecDepth 100000 in
theorem X2_isSleeperFree (l : Launch) (D : va_G) (k : Nat → ClassId) (h : Nat) (q0 : Nat) (q1 : Nat) (q2 : Nat) (q3 : Nat) (q4 : Nat) (q5 : Nat) (q6 : Nat) (wg : Int32) (dy : Int32) (sd : Int32) (f0 : Nat → Int32) (f5 : Nat → Int32) (j : Nat) (sa : Int32) (hj : j < 3) : Met l yX2_isSleeperFree wsX2_isSleeperFree r_X2_isSleeperFree (va_Pc [.ref h, .int (nI j), .int sa] (PS D k (c_X2_isSleeperFree k h q0 q1 q2 q3 q4 q5 q6 wg dy sd f0 f5 j sa))) (q_X2_isSleeperFree k h q0 q1 q2 q3 q4 q5 q6 wg dy sd f0 f5 j sa) 0 0 (fun _ => False) := by
  refine Met.ofW (cc := cX2_isSleeperFree) (maxL := 3) (ret := (some .boolean)) (by decide) rfl ?_
  intro p e s m args below meth c s₁ B hml hv
  obtain ⟨rfl, hP, hG⟩ := hv
  have hx := B.exec
  have hb := B.bytes
  have hr := B.returns
  have hts := atoms_spec (ws := wsX2_isSleeperFree) B.pre
  have hown : s.vm.findClass RX2 = some m.cls := findClass_of_methodNamed B.named
  have hlocks := B.notSynchronized
  have hi2 : ∀ w ∈ wsX20, w ∈ wsX2_isSleeperFree := fun _ h => List.mem_cons_of_mem _ (List.mem_append_right _ h)
  have hP : va_P D vwCl [(h, .inr (2, [.ref q0, .ref q1, .ref q2, .ref q3, .ref q4, .ref q5, .ref q6, .int wg, .int dy, .int sd])), (q0, .inl (k 0, 3, .inl f0)), (q5, .inl (k 0, 3, .inl f5))] s.heap := hP
  have hl := lv_entry ([.ref h, .int (nI j), .int sa]) (n := 3) (Nat.le_of_ble_eq_true rfl)
  rw [lg_entry_eq]
  generalize (lg_sl ([.ref h, .int (nI j), .int sa]) ++ List.replicate (3 - (lg_sl ([.ref h, .int (nI j), .int sa])).length) Slot.unset).toArray = ls at hl ⊢
  have hl : lv_has ls 3 [(0, .ref h), (1, .int (nI j)), (2, .int sa)] := hl
  refine lv_aload_n hx hb dX2_isSleeperFree_0 rfl (lv_at hl 0 rfl) ?_
  refine va_get (D := D) (ci := 2) (v := .ref q0) (C := RX2) (T := TX2) (N := 10) hx hb hts hi2 hown hG.1 hP 0 rfl rfl 0 (by decide) (hts (.fieldLink RX2 9 "SleptMatters$Course" "sleepers" "[I") (List.mem_cons_of_mem _ (List.mem_append_left _ (List.mem_of_getElem? (i := 0) rfl)))) (fun _ h9 => h9) rfl dX2_isSleeperFree_1 ?_
  refine lv_iload_n hx hb dX2_isSleeperFree_4 rfl (lv_at hl 1 rfl) ?_
  refine va_iald hx hb hG.1 hP 1 0 rfl rfl (vp_in_nI (by omega) (by omega)) dX2_isSleeperFree_5 ?_
  refine tp_i (y := f0 j) (congrArg _ (nI_clamp (n := j) (by omega))) ?_
  refine lv_iload_n hx hb dX2_isSleeperFree_6 rfl (lv_at hl 2 rfl) ?_
  have hPc := hP.sub (ws' := (c_X9_isIn k (f0 j) sa)) [] rfl
  refine vp_callSi (va_Run.run (va_runSN (As := [.int (f0 j), .int sa]) (rest := []) ⟨hx, hb, hml, hown, hts⟩ (X9_isIn l D k (f0 j) sa ) ⟨(va_cnB (own := RX2) (index := 67) (y := yX9_isIn) (host := RX9) 2 hts ggX2_isSleeperFree_X9_isIn rfl rfl rfl (hG.2.1 _ (List.mem_of_getElem? (i := 7) rfl)) (hts (.initialized RX9) (List.mem_cons_of_mem _ (List.mem_append_left _ (List.mem_of_getElem? (i := 2) rfl)))) (by decide +kernel) ⟨Nat.le_of_ble_eq_true rfl, Nat.le_of_ble_eq_true rfl⟩), hts (.static yX9_isIn) (List.mem_cons_of_mem _ (List.mem_append_left _ (List.mem_of_getElem? (i := 1) rfl))), trivial⟩ ⟨PS.blind _ _ _ _, PS.pre hPc hG [.int (f0 j), .int sa]⟩ rfl rfl hl.1 rfl (lv_room (Nat.le_of_ble_eq_true rfl)) dX2_isSleeperFree_7 ⟨Nat.le_of_ble_eq_true rfl, Nat.le_of_ble_eq_true rfl⟩)) (fun r hq => ?_)
  generalize r = y1 at hq ⊢
  have hq : y1 = inS (f0 j) sa := hq
  refine tp_i (y := inS (f0 j) sa) (hq) ?_
  refine lv_if_ne (x := inS (f0 j) sa) (tgt := 26) hx hb dX2_isSleeperFree_10 (by decide) (fun c2 => ?_) (fun c2 => ?_)
  · skip
    refine lv_iconst (v := 0) hx hb dX2_isSleeperFree_26 (by decide) ?_
    exact W.zret (v := 0) hx hb hr (rfl) (fun t9 ht _ => ⟨0, rfl, by simp [isf, c2], ht⟩) (fun q h => by cases h) dX2_isSleeperFree_27
  · skip
    refine lv_aload_n hx hb dX2_isSleeperFree_13 rfl (lv_at hl 0 rfl) ?_
    refine lv_iload_n hx hb dX2_isSleeperFree_14 rfl (lv_at hl 2 rfl) ?_
    have hPc := hP.sub (ws' := (c_X2_matterOf k h q0 q1 q2 q3 q4 q5 q6 wg dy sd f5 sa)) [0, 2] rfl
    refine vp_callSi (va_Run.run (va_runV (As := [.int sa]) (rest := []) ⟨hx, hb, hml, hown, hts⟩ (X2_matterOf l D k h q0 q1 q2 q3 q4 q5 q6 wg dy sd f5 sa ) (cwV 1 hts gX2_isSleeperFree_X2_matterOf rfl rfl rfl (by decide +kernel) ⟨Nat.le_of_ble_eq_true rfl, Nat.le_of_ble_eq_true rfl⟩) ⟨PS.blind _ _ _ _, va_recv hG.1 hP (ci := 2) (q0 := 0) rfl rfl, PS.pre hPc hG [.ref h, .int sa]⟩ rfl rfl hl.1 rfl (lv_room (Nat.le_of_ble_eq_true rfl)) dX2_isSleeperFree_15 ⟨Nat.le_of_ble_eq_true rfl, Nat.le_of_ble_eq_true rfl⟩)) (fun r hq => ?_)
    generalize r = y3 at hq ⊢
    have hq : y3 = mof f5 sa := hq
    refine tp_i (y := mof f5 sa) (hq) ?_
    refine lv_iconst (v := (-1)) hx hb dX2_isSleeperFree_18 (by decide) ?_
    refine lv_icmp_ne (x := mof f5 sa) (y := (-1)) (tgt := 26) hx hb dX2_isSleeperFree_19 (by decide) (fun c4 => ?_) (fun c4 => ?_)
    · skip
      refine lv_iconst (v := 0) hx hb dX2_isSleeperFree_26 (by decide) ?_
      exact W.zret (v := 0) hx hb hr (rfl) (fun t9 ht _ => ⟨0, rfl, by simp [isf, c2, c4], ht⟩) (fun q h => by cases h) dX2_isSleeperFree_27
    · skip
      refine lv_iconst (v := 1) hx hb dX2_isSleeperFree_22 (by decide) ?_
      refine lv_goto (tgt := 27) hx hb dX2_isSleeperFree_23 (by decide) ?_
      exact W.zret (v := 1) hx hb hr (rfl) (fun t9 ht _ => ⟨1, rfl, by simp [isf, c2, c4], ht⟩) (fun q h => by cases h) dX2_isSleeperFree_27

abbrev c_X2_isHouseFree (k : Nat → ClassId) (h : Nat) (q0 : Nat) (q1 : Nat) (q2 : Nat) (q3 : Nat) (q4 : Nat) (q5 : Nat) (q6 : Nat) (wg : Int32) (dy : Int32) (sd : Int32) (f1 : Nat → Int32) (f6 : Nat → Int32) (t0 : Nat) (t : Nat) (tn : Nat) (tl : Nat) (tc : Nat) (ta : Nat) (rw : Nat → Nat) (q : Nat → Nat) (G0 : Nat → Int32) (j : Nat) (sh : Int32) : va_W := [(h, .inr (2, [.ref q0, .ref q1, .ref q2, .ref q3, .ref q4, .ref q5, .ref q6, .int wg, .int dy, .int sd])), (q1, .inl (k 0, 3, .inl f1)), (q6, .inl (k 0, 3, .inl f6)), (t0, .inr (8, [.ref t, .ref tn, .ref tl, .ref tc, .ref ta])), (t, .inl (k 0, 4, .inl (cI q))), (tn, .inl (k 4, 4, .inr (.inr (.inr (.inr (gr4 rw)))))), ((rw 0), .inl (k 0, 80, .inl G0))]
abbrev r_X2_isHouseFree : Room := { frames := 3, cells := 0, slots := 0, locals := 69 }
abbrev q_X2_isHouseFree (k : Nat → ClassId) (h : Nat) (q0 : Nat) (q1 : Nat) (q2 : Nat) (q3 : Nat) (q4 : Nat) (q5 : Nat) (q6 : Nat) (wg : Int32) (dy : Int32) (sd : Int32) (f1 : Nat → Int32) (f6 : Nat → Int32) (t0 : Nat) (t : Nat) (tn : Nat) (tl : Nat) (tc : Nat) (ta : Nat) (rw : Nat → Nat) (q : Nat → Nat) (G0 : Nat → Int32) (j : Nat) (sh : Int32) : Array Value → State → Outcome → State → Prop := vp_Si (fun r => r = ihf (f1 j) sh (bfr (pt (q 0) G0 sh 1) f6 sh))
set_option maxHeartbeats 2000000 in
set_option maxRecDepth 100000 in
theorem X2_isHouseFree (l : Launch) (D : va_G) (k : Nat → ClassId) (h : Nat) (q0 : Nat) (q1 : Nat) (q2 : Nat) (q3 : Nat) (q4 : Nat) (q5 : Nat) (q6 : Nat) (wg : Int32) (dy : Int32) (sd : Int32) (f1 : Nat → Int32) (f6 : Nat → Int32) (t0 : Nat) (t : Nat) (tn : Nat) (tl : Nat) (tc : Nat) (ta : Nat) (rw : Nat → Nat) (q : Nat → Nat) (G0 : Nat → Int32) (j : Nat) (sh : Int32) (hq0 : q 0 ≤ 7) (hj : j < 3) : Met l yX2_isHouseFree wsX2_isHouseFree r_X2_isHouseFree (va_Pc [.ref h, .ref t0, .int (nI j), .int sh] (PS D k (c_X2_isHouseFree k h q0 q1 q2 q3 q4 q5 q6 wg dy sd f1 f6 t0 t tn tl tc ta rw q G0 j sh))) (q_X2_isHouseFree k h q0 q1 q2 q3 q4 q5 q6 wg dy sd f1 f6 t0 t tn tl tc ta rw q G0 j sh) 0 0 (fun _ => False) := by
  refine Met.ofW (cc := cX2_isHouseFree) (maxL := 4) (ret := (some .boolean)) (by decide) rfl ?_
  intro p e s m args below meth c s₁ B hml hv
  obtain ⟨rfl, hP, hG⟩ := hv
  have hx := B.exec
  have hb := B.bytes
  have hr := B.returns
  have hts := atoms_spec (ws := wsX2_isHouseFree) B.pre
  have hown : s.vm.findClass RX2 = some m.cls := findClass_of_methodNamed B.named
  have hlocks := B.notSynchronized
  have hi2 : ∀ w ∈ wsX20, w ∈ wsX2_isHouseFree := fun _ h => List.mem_cons_of_mem _ (List.mem_append_left _ (List.mem_append_right _ h))
  have hi8 : ∀ w ∈ wsX80, w ∈ wsX2_isHouseFree := fun _ h => List.mem_cons_of_mem _ (List.mem_append_right _ h)
  have hP : va_P D vwCl [(h, .inr (2, [.ref q0, .ref q1, .ref q2, .ref q3, .ref q4, .ref q5, .ref q6, .int wg, .int dy, .int sd])), (q1, .inl (k 0, 3, .inl f1)), (q6, .inl (k 0, 3, .inl f6)), (t0, .inr (8, [.ref t, .ref tn, .ref tl, .ref tc, .ref ta])), (t, .inl (k 0, 4, .inl (cI q))), (tn, .inl (k 4, 4, .inr (.inr (.inr (.inr (gr4 rw)))))), ((rw 0), .inl (k 0, 80, .inl G0))] s.heap := hP
  have hl := lv_entry ([.ref h, .ref t0, .int (nI j), .int sh]) (n := 4) (Nat.le_of_ble_eq_true rfl)
  rw [lg_entry_eq]
  generalize (lg_sl ([.ref h, .ref t0, .int (nI j), .int sh]) ++ List.replicate (4 - (lg_sl ([.ref h, .ref t0, .int (nI j), .int sh])).length) Slot.unset).toArray = ls at hl ⊢
  have hl : lv_has ls 4 [(0, .ref h), (1, .ref t0), (2, .int (nI j)), (3, .int sh)] := hl
  refine lv_aload_n hx hb dX2_isHouseFree_0 rfl (lv_at hl 0 rfl) ?_
  refine va_get (D := D) (ci := 2) (v := .ref q1) (C := RX2) (T := TX2) (N := 10) hx hb hts hi2 hown hG.1 hP 0 rfl rfl 1 (by decide) (hts (.fieldLink RX2 15 "SleptMatters$Course" "houses" "[I") (List.mem_cons_of_mem _ (List.mem_append_left _ (List.mem_append_left _ (List.mem_of_getElem? (i := 0) rfl))))) (fun _ h9 => h9) rfl dX2_isHouseFree_1 ?_
  refine lv_iload_n hx hb dX2_isHouseFree_4 rfl (lv_at hl 2 rfl) ?_
  refine va_iald hx hb hG.1 hP 1 0 rfl rfl (vp_in_nI (by omega) (by omega)) dX2_isHouseFree_5 ?_
  refine tp_i (y := f1 j) (congrArg _ (nI_clamp (n := j) (by omega))) ?_
  refine lv_iload_n hx hb dX2_isHouseFree_6 rfl (lv_at hl 3 rfl) ?_
  have hPc := hP.sub (ws' := (c_X9_isIn k (f1 j) sh)) [] rfl
  refine vp_callSi (va_Run.run (va_runSN (As := [.int (f1 j), .int sh]) (rest := []) ⟨hx, hb, hml, hown, hts⟩ (X9_isIn l D k (f1 j) sh ) ⟨(va_cnB (own := RX2) (index := 67) (y := yX9_isIn) (host := RX9) 2 hts ggX2_isHouseFree_X9_isIn rfl rfl rfl (hG.2.1 _ (List.mem_of_getElem? (i := 7) rfl)) (hts (.initialized RX9) (List.mem_cons_of_mem _ (List.mem_append_left _ (List.mem_append_left _ (List.mem_of_getElem? (i := 2) rfl))))) (by decide +kernel) ⟨Nat.le_of_ble_eq_true rfl, Nat.le_of_ble_eq_true rfl⟩), hts (.static yX9_isIn) (List.mem_cons_of_mem _ (List.mem_append_left _ (List.mem_append_left _ (List.mem_of_getElem? (i := 1) rfl)))), trivial⟩ ⟨PS.blind _ _ _ _, PS.pre hPc hG [.int (f1 j), .int sh]⟩ rfl rfl hl.1 rfl (lv_room (Nat.le_of_ble_eq_true rfl)) dX2_isHouseFree_7 ⟨Nat.le_of_ble_eq_true rfl, Nat.le_of_ble_eq_true rfl⟩)) (fun r hq => ?_)
  generalize r = y1 at hq ⊢
  have hq : y1 = inS (f1 j) sh := hq
  refine tp_i (y := inS (f1 j) sh) (hq) ?_
  refine lv_if_ne (x := inS (f1 j) sh) (tgt := 26) hx hb dX2_isHouseFree_10 (by decide) (fun c2 => ?_) (fun c2 => ?_)
  · skip
    refine lv_iconst (v := 0) hx hb dX2_isHouseFree_26 (by decide) ?_
    exact W.zret (v := 0) hx hb hr (rfl) (fun t9 ht _ => ⟨0, rfl, by simp [ihf, c2], ht⟩) (fun q h => by cases h) dX2_isHouseFree_27
  · skip
    refine lv_aload_n hx hb dX2_isHouseFree_13 rfl (lv_at hl 0 rfl) ?_
    refine lv_aload_n hx hb dX2_isHouseFree_14 rfl (lv_at hl 1 rfl) ?_
    refine lv_iload_n hx hb dX2_isHouseFree_15 rfl (lv_at hl 3 rfl) ?_
    have hPc := hP.sub (ws' := (c_X2_bedsFree k h q0 q1 q2 q3 q4 q5 q6 wg dy sd f6 t0 t tn tl tc ta rw q G0 sh)) [0, 2, 3, 4, 5, 6] rfl
    refine vp_callSi (va_Run.run (va_runV (As := [.ref t0, .int sh]) (rest := []) ⟨hx, hb, hml, hown, hts⟩ (X2_bedsFree l D k h q0 q1 q2 q3 q4 q5 q6 wg dy sd f6 t0 t tn tl tc ta rw q G0 sh (hq0)) (cwV 2 hts gX2_isHouseFree_X2_bedsFree rfl rfl rfl (by decide +kernel) ⟨Nat.le_of_ble_eq_true rfl, Nat.le_of_ble_eq_true rfl⟩) ⟨PS.blind _ _ _ _, va_recv hG.1 hP (ci := 2) (q0 := 0) rfl rfl, PS.pre hPc hG [.ref h, .ref t0, .int sh]⟩ rfl rfl hl.1 rfl (lv_room (Nat.le_of_ble_eq_true rfl)) dX2_isHouseFree_16 ⟨Nat.le_of_ble_eq_true rfl, Nat.le_of_ble_eq_true rfl⟩)) (fun r hq => ?_)
    generalize r = y3 at hq ⊢
    have hq : y3 = bfr (pt (q 0) G0 sh 1) f6 sh := hq
    refine tp_i (y := bfr (pt (q 0) G0 sh 1) f6 sh) (hq) ?_
    refine lv_if_le (x := bfr (pt (q 0) G0 sh 1) f6 sh) (tgt := 26) hx hb dX2_isHouseFree_19 (by decide) (fun c4 => ?_) (fun c4 => ?_)
    · skip
      refine lv_iconst (v := 0) hx hb dX2_isHouseFree_26 (by decide) ?_
      exact W.zret (v := 0) hx hb hr (rfl) (fun t9 ht _ => ⟨0, rfl, by simp [ihf, c2, c4], ht⟩) (fun q h => by cases h) dX2_isHouseFree_27
    · skip
      refine lv_iconst (v := 1) hx hb dX2_isHouseFree_22 (by decide) ?_
      refine lv_goto (tgt := 27) hx hb dX2_isHouseFree_23 (by decide) ?_
      exact W.zret (v := 1) hx hb hr (rfl) (fun t9 ht _ => ⟨1, rfl, by simp [ihf, c2, c4], ht⟩) (fun q h => by cases h) dX2_isHouseFree_27

abbrev c_X2_layDown (k : Nat → ClassId) (h : Nat) (q0 : Nat) (q1 : Nat) (q2 : Nat) (q3 : Nat) (q4 : Nat) (q5 : Nat) (q6 : Nat) (wg : Int32) (dy : Int32) (sd : Int32) (f5 : Nat → Int32) (f6 : Nat → Int32) (j : Nat) (sa : Int32) (sh : Int32) : va_W := [(h, .inr (2, [.ref q0, .ref q1, .ref q2, .ref q3, .ref q4, .ref q5, .ref q6, .int wg, .int dy, .int sd])), (q5, .inl (k 0, 3, .inl f5)), (q6, .inl (k 0, 3, .inl f6))]
abbrev r_X2_layDown : Room := { frames := 0, cells := 0, slots := 0, locals := 0 }
def w_X2_layDown (k : Nat → ClassId) (h : Nat) (q0 : Nat) (q1 : Nat) (q2 : Nat) (q3 : Nat) (q4 : Nat) (q5 : Nat) (q6 : Nat) (wg : Int32) (dy : Int32) (sd : Int32) (f5 : Nat → Int32) (f6 : Nat → Int32) (j : Nat) (sa : Int32) (sh : Int32) : Unit → va_W := fun _ => [(h, .inr (2, [.ref q0, .ref q1, .ref q2, .ref q3, .ref q4, .ref q5, .ref q6, .int wg, .int dy, .int sd])), (q5, .inl (k 0, 3, .inl (upd f5 j sa))), (q6, .inl (k 0, 3, .inl (upd f6 j sh)))]
def p_X2_layDown (k : Nat → ClassId) (h : Nat) (q0 : Nat) (q1 : Nat) (q2 : Nat) (q3 : Nat) (q4 : Nat) (q5 : Nat) (q6 : Nat) (wg : Int32) (dy : Int32) (sd : Int32) (f5 : Nat → Int32) (f6 : Nat → Int32) (j : Nat) (sa : Int32) (sh : Int32) : Unit → Prop := fun (u : Unit) => True
abbrev q_X2_layDown (D : va_G) (k : Nat → ClassId) (h : Nat) (q0 : Nat) (q1 : Nat) (q2 : Nat) (q3 : Nat) (q4 : Nat) (q5 : Nat) (q6 : Nat) (wg : Int32) (dy : Int32) (sd : Int32) (f5 : Nat → Int32) (f6 : Nat → Int32) (j : Nat) (sa : Int32) (sh : Int32) (A : Nat → Prop) : Array Value → State → Outcome → State → Prop := va_Qv (p_X2_layDown k h q0 q1 q2 q3 q4 q5 q6 wg dy sd f5 f6 j sa sh) (fun u9 t9 => BO D (w_X2_layDown k h q0 q1 q2 q3 q4 q5 q6 wg dy sd f5 f6 j sa sh u9) A t9) A
set_option maxHeartbeats 2000000 in
set_option maxRecDepth 100000 in
theorem X2_layDown (l : Launch) (D : va_G) (k : Nat → ClassId) (sz : Nat) (h : Nat) (q0 : Nat) (q1 : Nat) (q2 : Nat) (q3 : Nat) (q4 : Nat) (q5 : Nat) (q6 : Nat) (wg : Int32) (dy : Int32) (sd : Int32) (f5 : Nat → Int32) (f6 : Nat → Int32) (j : Nat) (sa : Int32) (sh : Int32) (hj : j < 3) : Met l yX2_layDown wsX2_layDown r_X2_layDown (va_Pc [.ref h, .int (nI j), .int sa, .int sh] (PR D k (c_X2_layDown k h q0 q1 q2 q3 q4 q5 q6 wg dy sd f5 f6 j sa sh) sz)) (q_X2_layDown D k h q0 q1 q2 q3 q4 q5 q6 wg dy sd f5 f6 j sa sh (va_A (c_X2_layDown k h q0 q1 q2 q3 q4 q5 q6 wg dy sd f5 f6 j sa sh) sz)) 0 0 (va_A (c_X2_layDown k h q0 q1 q2 q3 q4 q5 q6 wg dy sd f5 f6 j sa sh) sz) := by
  refine Met.ofW (cc := cX2_layDown) (maxL := 4) (ret := none) (by decide) rfl ?_
  intro p e s m args below meth c s₁ B hml hv
  obtain ⟨rfl, hsz, hP, hG, hD0⟩ := hv
  have hx := B.exec
  have hb := B.bytes
  have hr := B.returns
  have hts := atoms_spec (ws := wsX2_layDown) B.pre
  have hown : s.vm.findClass RX2 = some m.cls := findClass_of_methodNamed B.named
  have hlocks := B.notSynchronized
  have hi2 : ∀ w ∈ wsX20, w ∈ wsX2_layDown := fun _ h => List.mem_cons_of_mem _ (List.mem_append_right _ h)
  subst hsz
  have hD := hD0.self (sz := s.heap.size)
  generalize hAe : va_A (c_X2_layDown k h q0 q1 q2 q3 q4 q5 q6 wg dy sd f5 f6 j sa sh) s.heap.size = A at hD ⊢
  have hA : ∀ q : Nat, s.heap.size ≤ q → A q := fun q h => by rw [← hAe]; exact Or.inr h
  have hS : va_S A s.heap s.heap [] := va_S.rf
  have hP : va_P D vwCl [(h, .inr (2, [.ref q0, .ref q1, .ref q2, .ref q3, .ref q4, .ref q5, .ref q6, .int wg, .int dy, .int sd])), (q5, .inl (k 0, 3, .inl f5)), (q6, .inl (k 0, 3, .inl f6))] s.heap := hP
  have hD : va_D A [(h, .inr (2, [.ref q0, .ref q1, .ref q2, .ref q3, .ref q4, .ref q5, .ref q6, .int wg, .int dy, .int sd])), (q5, .inl (k 0, 3, .inl f5)), (q6, .inl (k 0, 3, .inl f6))] := hD
  have hl := lv_entry ([.ref h, .int (nI j), .int sa, .int sh]) (n := 4) (Nat.le_of_ble_eq_true rfl)
  rw [lg_entry_eq]
  generalize (lg_sl ([.ref h, .int (nI j), .int sa, .int sh]) ++ List.replicate (4 - (lg_sl ([.ref h, .int (nI j), .int sa, .int sh])).length) Slot.unset).toArray = ls at hl ⊢
  have hl : lv_has ls 4 [(0, .ref h), (1, .int (nI j)), (2, .int sa), (3, .int sh)] := hl
  refine lv_aload_n hx hb dX2_layDown_0 rfl (lv_at hl 0 rfl) ?_
  refine va_get (D := D) (ci := 2) (v := .ref q5) (C := RX2) (T := TX2) (N := 10) hx hb hts hi2 hown hG.1 hP 0 rfl rfl 5 (by decide) (hts (.fieldLink RX2 27 "SleptMatters$Course" "laidSleeper" "[I") (List.mem_cons_of_mem _ (List.mem_append_left _ (List.mem_of_getElem? (i := 0) rfl)))) (fun _ h9 => h9) rfl dX2_layDown_1 ?_
  refine lv_iload_n hx hb dX2_layDown_4 rfl (lv_at hl 1 rfl) ?_
  refine lv_iload_n hx hb dX2_layDown_5 rfl (lv_at hl 2 rfl) ?_
  refine va_iast hx hb hG.1 hP hD hS 1 0 rfl rfl (vp_in_nI (by omega) (by omega)) dX2_layDown_6 (fun H locs hP hD hS => ?_)
  rw [nI_clamp (n := j) (by omega)] at hP hD
  have hP : va_P D vwCl [(h, .inr (2, [.ref q0, .ref q1, .ref q2, .ref q3, .ref q4, .ref q5, .ref q6, .int wg, .int dy, .int sd])), (q5, .inl (k 0, 3, .inl (upd f5 j sa))), (q6, .inl (k 0, 3, .inl f6))] H := hP
  have hD : va_D A [(h, .inr (2, [.ref q0, .ref q1, .ref q2, .ref q3, .ref q4, .ref q5, .ref q6, .int wg, .int dy, .int sd])), (q5, .inl (k 0, 3, .inl (upd f5 j sa))), (q6, .inl (k 0, 3, .inl f6))] := hD
  refine lv_aload_n hx hb dX2_layDown_7 rfl (lv_at hl 0 rfl) ?_
  refine va_get (D := D) (ci := 2) (v := .ref q6) (C := RX2) (T := TX2) (N := 10) hx hb hts hi2 hown hG.1 hP 0 rfl rfl 6 (by decide) (hts (.fieldLink RX2 30 "SleptMatters$Course" "laidHouse" "[I") (List.mem_cons_of_mem _ (List.mem_append_left _ (List.mem_of_getElem? (i := 1) rfl)))) (fun _ h9 => h9) rfl dX2_layDown_8 ?_
  refine lv_iload_n hx hb dX2_layDown_11 rfl (lv_at hl 1 rfl) ?_
  refine lv_iload_n hx hb dX2_layDown_12 rfl (lv_at hl 3 rfl) ?_
  refine va_iast hx hb hG.1 hP hD hS 2 0 rfl rfl (vp_in_nI (by omega) (by omega)) dX2_layDown_13 (fun H locs hP hD hS => ?_)
  rw [nI_clamp (n := j) (by omega)] at hP hD
  have hP : va_P D vwCl [(h, .inr (2, [.ref q0, .ref q1, .ref q2, .ref q3, .ref q4, .ref q5, .ref q6, .int wg, .int dy, .int sd])), (q5, .inl (k 0, 3, .inl (upd f5 j sa))), (q6, .inl (k 0, 3, .inl (upd f6 j sh)))] H := hP
  have hD : va_D A [(h, .inr (2, [.ref q0, .ref q1, .ref q2, .ref q3, .ref q4, .ref q5, .ref q6, .int wg, .int dy, .int sd])), (q5, .inl (k 0, 3, .inl (upd f5 j sa))), (q6, .inl (k 0, 3, .inl (upd f6 j sh)))] := hD
  have hP9 := hP.sub (ws' := [(h, .inr (2, [.ref q0, .ref q1, .ref q2, .ref q3, .ref q4, .ref q5, .ref q6, .int wg, .int dy, .int sd])), (q5, .inl (k 0, 3, .inl (upd f5 j sa))), (q6, .inl (k 0, 3, .inl (upd f6 j sh)))]) [0, 1, 2] rfl
  have hD9 := hD.sub (ws' := [(h, .inr (2, [.ref q0, .ref q1, .ref q2, .ref q3, .ref q4, .ref q5, .ref q6, .int wg, .int dy, .int sd])), (q5, .inl (k 0, 3, .inl (upd f5 j sa))), (q6, .inl (k 0, 3, .inl (upd f6 j sh)))]) [0, 1, 2] (by decide +kernel) rfl
  exact W.vret hx hb hr (fun t9 ht _ => ⟨⟨(), rfl, trivial, by rw [ht]; exact hP9, hD9⟩, hS.F ht⟩) hS.2.2 dX2_layDown_14

abbrev c_X2_loseNights (k : Nat → ClassId) (h : Nat) (q0 : Nat) (q1 : Nat) (q2 : Nat) (q3 : Nat) (q4 : Nat) (q5 : Nat) (q6 : Nat) (wg : Int32) (dy : Int32) (sd : Int32) (f0 : Nat → Int32) (f1 : Nat → Int32) (f2 : Nat → Int32) (j : Nat) : va_W := [(h, .inr (2, [.ref q0, .ref q1, .ref q2, .ref q3, .ref q4, .ref q5, .ref q6, .int wg, .int dy, .int sd])), (q0, .inl (k 0, 3, .inl f0)), (q1, .inl (k 0, 3, .inl f1)), (q2, .inl (k 0, 3, .inl f2))]
abbrev r_X2_loseNights : Room := { frames := 0, cells := 0, slots := 0, locals := 0 }
def w_X2_loseNights (k : Nat → ClassId) (h : Nat) (q0 : Nat) (q1 : Nat) (q2 : Nat) (q3 : Nat) (q4 : Nat) (q5 : Nat) (q6 : Nat) (wg : Int32) (dy : Int32) (sd : Int32) (f0 : Nat → Int32) (f1 : Nat → Int32) (f2 : Nat → Int32) (j : Nat) : Unit → va_W := fun _ => [(h, .inr (2, [.ref q0, .ref q1, .ref q2, .ref q3, .ref q4, .ref q5, .ref q6, .int wg, .int dy, .int sd])), (q0, .inl (k 0, 3, .inl (upd f0 j 0))), (q1, .inl (k 0, 3, .inl (upd f1 j 0))), (q2, .inl (k 0, 3, .inl (upd f2 j 0)))]
def p_X2_loseNights (k : Nat → ClassId) (h : Nat) (q0 : Nat) (q1 : Nat) (q2 : Nat) (q3 : Nat) (q4 : Nat) (q5 : Nat) (q6 : Nat) (wg : Int32) (dy : Int32) (sd : Int32) (f0 : Nat → Int32) (f1 : Nat → Int32) (f2 : Nat → Int32) (j : Nat) : Unit → Prop := fun (u : Unit) => True
abbrev q_X2_loseNights (D : va_G) (k : Nat → ClassId) (h : Nat) (q0 : Nat) (q1 : Nat) (q2 : Nat) (q3 : Nat) (q4 : Nat) (q5 : Nat) (q6 : Nat) (wg : Int32) (dy : Int32) (sd : Int32) (f0 : Nat → Int32) (f1 : Nat → Int32) (f2 : Nat → Int32) (j : Nat) (A : Nat → Prop) : Array Value → State → Outcome → State → Prop := va_Qv (p_X2_loseNights k h q0 q1 q2 q3 q4 q5 q6 wg dy sd f0 f1 f2 j) (fun u9 t9 => BO D (w_X2_loseNights k h q0 q1 q2 q3 q4 q5 q6 wg dy sd f0 f1 f2 j u9) A t9) A
set_option maxHeartbeats 2000000 in
set_option maxRecDepth 100000 in
theorem X2_loseNights (l : Launch) (D : va_G) (k : Nat → ClassId) (sz : Nat) (h : Nat) (q0 : Nat) (q1 : Nat) (q2 : Nat) (q3 : Nat) (q4 : Nat) (q5 : Nat) (q6 : Nat) (wg : Int32) (dy : Int32) (sd : Int32) (f0 : Nat → Int32) (f1 : Nat → Int32) (f2 : Nat → Int32) (j : Nat) (hj : j < 3) : Met l yX2_loseNights wsX2_loseNights r_X2_loseNights (va_Pc [.ref h, .int (nI j)] (PR D k (c_X2_loseNights k h q0 q1 q2 q3 q4 q5 q6 wg dy sd f0 f1 f2 j) sz)) (q_X2_loseNights D k h q0 q1 q2 q3 q4 q5 q6 wg dy sd f0 f1 f2 j (va_A (c_X2_loseNights k h q0 q1 q2 q3 q4 q5 q6 wg dy sd f0 f1 f2 j) sz)) 0 0 (va_A (c_X2_loseNights k h q0 q1 q2 q3 q4 q5 q6 wg dy sd f0 f1 f2 j) sz) := by
  refine Met.ofW (cc := cX2_loseNights) (maxL := 2) (ret := none) (by decide) rfl ?_
  intro p e s m args below meth c s₁ B hml hv
  obtain ⟨rfl, hsz, hP, hG, hD0⟩ := hv
  have hx := B.exec
  have hb := B.bytes
  have hr := B.returns
  have hts := atoms_spec (ws := wsX2_loseNights) B.pre
  have hown : s.vm.findClass RX2 = some m.cls := findClass_of_methodNamed B.named
  have hlocks := B.notSynchronized
  have hi2 : ∀ w ∈ wsX20, w ∈ wsX2_loseNights := fun _ h => List.mem_cons_of_mem _ (List.mem_append_right _ h)
  subst hsz
  have hD := hD0.self (sz := s.heap.size)
  generalize hAe : va_A (c_X2_loseNights k h q0 q1 q2 q3 q4 q5 q6 wg dy sd f0 f1 f2 j) s.heap.size = A at hD ⊢
  have hA : ∀ q : Nat, s.heap.size ≤ q → A q := fun q h => by rw [← hAe]; exact Or.inr h
  have hS : va_S A s.heap s.heap [] := va_S.rf
  have hP : va_P D vwCl [(h, .inr (2, [.ref q0, .ref q1, .ref q2, .ref q3, .ref q4, .ref q5, .ref q6, .int wg, .int dy, .int sd])), (q0, .inl (k 0, 3, .inl f0)), (q1, .inl (k 0, 3, .inl f1)), (q2, .inl (k 0, 3, .inl f2))] s.heap := hP
  have hD : va_D A [(h, .inr (2, [.ref q0, .ref q1, .ref q2, .ref q3, .ref q4, .ref q5, .ref q6, .int wg, .int dy, .int sd])), (q0, .inl (k 0, 3, .inl f0)), (q1, .inl (k 0, 3, .inl f1)), (q2, .inl (k 0, 3, .inl f2))] := hD
  have hl := lv_entry ([.ref h, .int (nI j)]) (n := 2) (Nat.le_of_ble_eq_true rfl)
  rw [lg_entry_eq]
  generalize (lg_sl ([.ref h, .int (nI j)]) ++ List.replicate (2 - (lg_sl ([.ref h, .int (nI j)])).length) Slot.unset).toArray = ls at hl ⊢
  have hl : lv_has ls 2 [(0, .ref h), (1, .int (nI j))] := hl
  refine lv_aload_n hx hb dX2_loseNights_0 rfl (lv_at hl 0 rfl) ?_
  refine va_get (D := D) (ci := 2) (v := .ref q0) (C := RX2) (T := TX2) (N := 10) hx hb hts hi2 hown hG.1 hP 0 rfl rfl 0 (by decide) (hts (.fieldLink RX2 9 "SleptMatters$Course" "sleepers" "[I") (List.mem_cons_of_mem _ (List.mem_append_left _ (List.mem_of_getElem? (i := 0) rfl)))) (fun _ h9 => h9) rfl dX2_loseNights_1 ?_
  refine lv_iload_n hx hb dX2_loseNights_4 rfl (lv_at hl 1 rfl) ?_
  refine lv_iconst (v := 0) hx hb dX2_loseNights_5 (by decide) ?_
  refine va_iast hx hb hG.1 hP hD hS 1 0 rfl rfl (vp_in_nI (by omega) (by omega)) dX2_loseNights_6 (fun H locs hP hD hS => ?_)
  rw [nI_clamp (n := j) (by omega)] at hP hD
  have hP : va_P D vwCl [(h, .inr (2, [.ref q0, .ref q1, .ref q2, .ref q3, .ref q4, .ref q5, .ref q6, .int wg, .int dy, .int sd])), (q0, .inl (k 0, 3, .inl (upd f0 j 0))), (q1, .inl (k 0, 3, .inl f1)), (q2, .inl (k 0, 3, .inl f2))] H := hP
  have hD : va_D A [(h, .inr (2, [.ref q0, .ref q1, .ref q2, .ref q3, .ref q4, .ref q5, .ref q6, .int wg, .int dy, .int sd])), (q0, .inl (k 0, 3, .inl (upd f0 j 0))), (q1, .inl (k 0, 3, .inl f1)), (q2, .inl (k 0, 3, .inl f2))] := hD
  refine lv_aload_n hx hb dX2_loseNights_7 rfl (lv_at hl 0 rfl) ?_
  refine va_get (D := D) (ci := 2) (v := .ref q1) (C := RX2) (T := TX2) (N := 10) hx hb hts hi2 hown hG.1 hP 0 rfl rfl 1 (by decide) (hts (.fieldLink RX2 15 "SleptMatters$Course" "houses" "[I") (List.mem_cons_of_mem _ (List.mem_append_left _ (List.mem_of_getElem? (i := 1) rfl)))) (fun _ h9 => h9) rfl dX2_loseNights_8 ?_
  refine lv_iload_n hx hb dX2_loseNights_11 rfl (lv_at hl 1 rfl) ?_
  refine lv_iconst (v := 0) hx hb dX2_loseNights_12 (by decide) ?_
  refine va_iast hx hb hG.1 hP hD hS 2 0 rfl rfl (vp_in_nI (by omega) (by omega)) dX2_loseNights_13 (fun H locs hP hD hS => ?_)
  rw [nI_clamp (n := j) (by omega)] at hP hD
  have hP : va_P D vwCl [(h, .inr (2, [.ref q0, .ref q1, .ref q2, .ref q3, .ref q4, .ref q5, .ref q6, .int wg, .int dy, .int sd])), (q0, .inl (k 0, 3, .inl (upd f0 j 0))), (q1, .inl (k 0, 3, .inl (upd f1 j 0))), (q2, .inl (k 0, 3, .inl f2))] H := hP
  have hD : va_D A [(h, .inr (2, [.ref q0, .ref q1, .ref q2, .ref q3, .ref q4, .ref q5, .ref q6, .int wg, .int dy, .int sd])), (q0, .inl (k 0, 3, .inl (upd f0 j 0))), (q1, .inl (k 0, 3, .inl (upd f1 j 0))), (q2, .inl (k 0, 3, .inl f2))] := hD
  refine lv_aload_n hx hb dX2_loseNights_14 rfl (lv_at hl 0 rfl) ?_
  refine va_get (D := D) (ci := 2) (v := .ref q2) (C := RX2) (T := TX2) (N := 10) hx hb hts hi2 hown hG.1 hP 0 rfl rfl 2 (by decide) (hts (.fieldLink RX2 18 "SleptMatters$Course" "yes" "[I") (List.mem_cons_of_mem _ (List.mem_append_left _ (List.mem_of_getElem? (i := 2) rfl)))) (fun _ h9 => h9) rfl dX2_loseNights_15 ?_
  refine lv_iload_n hx hb dX2_loseNights_18 rfl (lv_at hl 1 rfl) ?_
  refine lv_iconst (v := 0) hx hb dX2_loseNights_19 (by decide) ?_
  refine va_iast hx hb hG.1 hP hD hS 3 0 rfl rfl (vp_in_nI (by omega) (by omega)) dX2_loseNights_20 (fun H locs hP hD hS => ?_)
  rw [nI_clamp (n := j) (by omega)] at hP hD
  have hP : va_P D vwCl [(h, .inr (2, [.ref q0, .ref q1, .ref q2, .ref q3, .ref q4, .ref q5, .ref q6, .int wg, .int dy, .int sd])), (q0, .inl (k 0, 3, .inl (upd f0 j 0))), (q1, .inl (k 0, 3, .inl (upd f1 j 0))), (q2, .inl (k 0, 3, .inl (upd f2 j 0)))] H := hP
  have hD : va_D A [(h, .inr (2, [.ref q0, .ref q1, .ref q2, .ref q3, .ref q4, .ref q5, .ref q6, .int wg, .int dy, .int sd])), (q0, .inl (k 0, 3, .inl (upd f0 j 0))), (q1, .inl (k 0, 3, .inl (upd f1 j 0))), (q2, .inl (k 0, 3, .inl (upd f2 j 0)))] := hD
  have hP9 := hP.sub (ws' := [(h, .inr (2, [.ref q0, .ref q1, .ref q2, .ref q3, .ref q4, .ref q5, .ref q6, .int wg, .int dy, .int sd])), (q0, .inl (k 0, 3, .inl (upd f0 j 0))), (q1, .inl (k 0, 3, .inl (upd f1 j 0))), (q2, .inl (k 0, 3, .inl (upd f2 j 0)))]) [0, 1, 2, 3] rfl
  have hD9 := hD.sub (ws' := [(h, .inr (2, [.ref q0, .ref q1, .ref q2, .ref q3, .ref q4, .ref q5, .ref q6, .int wg, .int dy, .int sd])), (q0, .inl (k 0, 3, .inl (upd f0 j 0))), (q1, .inl (k 0, 3, .inl (upd f1 j 0))), (q2, .inl (k 0, 3, .inl (upd f2 j 0)))]) [0, 1, 2, 3] (by decide +kernel) rfl
  exact W.vret hx hb hr (fun t9 ht _ => ⟨⟨(), rfl, trivial, by rw [ht]; exact hP9, hD9⟩, hS.F ht⟩) hS.2.2 dX2_loseNights_21

abbrev c_X2_drawOfHundred (k : Nat → ClassId) (h : Nat) (q0 : Nat) (q1 : Nat) (q2 : Nat) (q3 : Nat) (q4 : Nat) (q5 : Nat) (q6 : Nat) (wg : Int32) (dy : Int32) (sd : Int32) : va_W := [(h, .inr (2, [.ref q0, .ref q1, .ref q2, .ref q3, .ref q4, .ref q5, .ref q6, .int wg, .int dy, .int sd]))]
abbrev r_X2_drawOfHundred : Room := { frames := 0, cells := 0, slots := 0, locals := 0 }
def w_X2_drawOfHundred (k : Nat → ClassId) (h : Nat) (q0 : Nat) (q1 : Nat) (q2 : Nat) (q3 : Nat) (q4 : Nat) (q5 : Nat) (q6 : Nat) (wg : Int32) (dy : Int32) (sd : Int32) : Unit → va_W := fun _ => [(h, .inr (2, [.ref q0, .ref q1, .ref q2, .ref q3, .ref q4, .ref q5, .ref q6, .int wg, .int dy, .int (dsd sd)]))]
def p_X2_drawOfHundred (k : Nat → ClassId) (h : Nat) (q0 : Nat) (q1 : Nat) (q2 : Nat) (q3 : Nat) (q4 : Nat) (q5 : Nat) (q6 : Nat) (wg : Int32) (dy : Int32) (sd : Int32) : Int32 → Unit → Prop := fun (r : Int32) (u : Unit) => r = drw sd
abbrev q_X2_drawOfHundred (D : va_G) (k : Nat → ClassId) (h : Nat) (q0 : Nat) (q1 : Nat) (q2 : Nat) (q3 : Nat) (q4 : Nat) (q5 : Nat) (q6 : Nat) (wg : Int32) (dy : Int32) (sd : Int32) (A : Nat → Prop) : Array Value → State → Outcome → State → Prop := va_Qi (p_X2_drawOfHundred k h q0 q1 q2 q3 q4 q5 q6 wg dy sd) (fun u9 t9 => BO D (w_X2_drawOfHundred k h q0 q1 q2 q3 q4 q5 q6 wg dy sd u9) A t9) A
set_option maxHeartbeats 2000000 in
set_option maxRecDepth 100000 in
theorem X2_drawOfHundred (l : Launch) (D : va_G) (k : Nat → ClassId) (sz : Nat) (h : Nat) (q0 : Nat) (q1 : Nat) (q2 : Nat) (q3 : Nat) (q4 : Nat) (q5 : Nat) (q6 : Nat) (wg : Int32) (dy : Int32) (sd : Int32)  : Met l yX2_drawOfHundred wsX2_drawOfHundred r_X2_drawOfHundred (va_Pc [.ref h] (PR D k (c_X2_drawOfHundred k h q0 q1 q2 q3 q4 q5 q6 wg dy sd) sz)) (q_X2_drawOfHundred D k h q0 q1 q2 q3 q4 q5 q6 wg dy sd (va_A (c_X2_drawOfHundred k h q0 q1 q2 q3 q4 q5 q6 wg dy sd) sz)) 0 0 (va_A (c_X2_drawOfHundred k h q0 q1 q2 q3 q4 q5 q6 wg dy sd) sz) := by
  refine Met.ofW (cc := cX2_drawOfHundred) (maxL := 1) (ret := (some .int)) (by decide) rfl ?_
  intro p e s m args below meth c s₁ B hml hv
  obtain ⟨rfl, hsz, hP, hG, hD0⟩ := hv
  have hx := B.exec
  have hb := B.bytes
  have hr := B.returns
  have hts := atoms_spec (ws := wsX2_drawOfHundred) B.pre
  have hown : s.vm.findClass RX2 = some m.cls := findClass_of_methodNamed B.named
  have hlocks := B.notSynchronized
  have hi2 : ∀ w ∈ wsX20, w ∈ wsX2_drawOfHundred := fun _ h => List.mem_cons_of_mem _ (List.mem_append_right _ h)
  subst hsz
  have hD := hD0.self (sz := s.heap.size)
  generalize hAe : va_A (c_X2_drawOfHundred k h q0 q1 q2 q3 q4 q5 q6 wg dy sd) s.heap.size = A at hD ⊢
  have hA : ∀ q : Nat, s.heap.size ≤ q → A q := fun q h => by rw [← hAe]; exact Or.inr h
  have hS : va_S A s.heap s.heap [] := va_S.rf
  have hP : va_P D vwCl [(h, .inr (2, [.ref q0, .ref q1, .ref q2, .ref q3, .ref q4, .ref q5, .ref q6, .int wg, .int dy, .int sd]))] s.heap := hP
  have hD : va_D A [(h, .inr (2, [.ref q0, .ref q1, .ref q2, .ref q3, .ref q4, .ref q5, .ref q6, .int wg, .int dy, .int sd]))] := hD
  have hl := lv_entry ([.ref h]) (n := 1) (Nat.le_of_ble_eq_true rfl)
  rw [lg_entry_eq]
  generalize (lg_sl ([.ref h]) ++ List.replicate (1 - (lg_sl ([.ref h])).length) Slot.unset).toArray = ls at hl ⊢
  have hl : lv_has ls 1 [(0, .ref h)] := hl
  refine lv_aload_n hx hb dX2_drawOfHundred_0 rfl (lv_at hl 0 rfl) ?_
  refine lv_aload_n hx hb dX2_drawOfHundred_1 rfl (lv_at hl 0 rfl) ?_
  refine va_get (D := D) (ci := 2) (v := .int sd) (C := RX2) (T := TX2) (N := 10) hx hb hts hi2 hown hG.1 hP 0 rfl rfl 9 (by decide) (hts (.fieldLink RX2 40 "SleptMatters$Course" "drawSeed" "I") (List.mem_cons_of_mem _ (List.mem_append_left _ (List.mem_of_getElem? (i := 0) rfl)))) (fun _ h9 => h9) rfl dX2_drawOfHundred_2 ?_
  refine lv_ldc (v := 1103515245) hx hb hown (hts (.constant RX2 141 (1103515245)) (List.mem_cons_of_mem _ (List.mem_append_left _ (List.mem_of_getElem? (i := 1) rfl)))) dX2_drawOfHundred_5 ?_
  refine lv_imul hx hb dX2_drawOfHundred_7 ?_
  refine lv_sipush (v := 12345) hx hb dX2_drawOfHundred_8 (by decide) ?_
  refine lv_iadd hx hb dX2_drawOfHundred_11 ?_
  refine lv_ldc (v := 2147483647) hx hb hown (hts (.constant RX2 142 (2147483647)) (List.mem_cons_of_mem _ (List.mem_append_left _ (List.mem_of_getElem? (i := 2) rfl)))) dX2_drawOfHundred_12 ?_
  refine lv_iand hx hb dX2_drawOfHundred_14 ?_
  refine tp_i (y := dsd sd) (rfl) ?_
  refine va_put (D := D) (ci := 2) (v := .int (dsd sd)) (ty := .int) (C := RX2) (T := TX2) (N := 10) hx hb hts hi2 tyX2 tyX2_ok nmX2 hown hG.1 hP hD hS 0 rfl rfl 9 (by decide) (hts (.fieldLink RX2 40 "SleptMatters$Course" "drawSeed" "I") (List.mem_cons_of_mem _ (List.mem_append_left _ (List.mem_of_getElem? (i := 0) rfl)))) (fun _ h9 => h9) rfl (by decide +kernel) rfl rfl (Nat.le_of_ble_eq_true rfl) dX2_drawOfHundred_15 (fun H locs hP hD hS => ?_)
  have hP : va_P D vwCl [(h, .inr (2, [.ref q0, .ref q1, .ref q2, .ref q3, .ref q4, .ref q5, .ref q6, .int wg, .int dy, .int (dsd sd)]))] H := hP
  have hD : va_D A [(h, .inr (2, [.ref q0, .ref q1, .ref q2, .ref q3, .ref q4, .ref q5, .ref q6, .int wg, .int dy, .int (dsd sd)]))] := hD
  refine lv_aload_n hx hb dX2_drawOfHundred_18 rfl (lv_at hl 0 rfl) ?_
  refine va_get (D := D) (ci := 2) (v := .int (dsd sd)) (C := RX2) (T := TX2) (N := 10) hx hb hts hi2 hown hG.1 hP 0 rfl rfl 9 (by decide) (hts (.fieldLink RX2 40 "SleptMatters$Course" "drawSeed" "I") (List.mem_cons_of_mem _ (List.mem_append_left _ (List.mem_of_getElem? (i := 0) rfl)))) (fun _ h9 => h9) rfl dX2_drawOfHundred_19 ?_
  refine lv_ldc (v := 65536) hx hb hown (hts (.constant RX2 143 (65536)) (List.mem_cons_of_mem _ (List.mem_append_left _ (List.mem_of_getElem? (i := 3) rfl)))) dX2_drawOfHundred_22 ?_
  refine lv_idiv hx hb dX2_drawOfHundred_24 (by decide) ?_
  refine lv_bipush (v := 100) hx hb dX2_drawOfHundred_25 (by decide) ?_
  refine lv_irem hx hb dX2_drawOfHundred_27 (by decide) ?_
  have hP9 := hP.sub (ws' := [(h, .inr (2, [.ref q0, .ref q1, .ref q2, .ref q3, .ref q4, .ref q5, .ref q6, .int wg, .int dy, .int (dsd sd)]))]) [0] rfl
  have hD9 := hD.sub (ws' := [(h, .inr (2, [.ref q0, .ref q1, .ref q2, .ref q3, .ref q4, .ref q5, .ref q6, .int wg, .int dy, .int (dsd sd)]))]) [0] (by decide +kernel) rfl
  exact W.iret (v := ((dsd sd) / 65536) - ((dsd sd) / 65536) / 100 * 100) hx hb hr (fun t9 ht _ => ⟨⟨((dsd sd) / 65536) - ((dsd sd) / 65536) / 100 * 100, (), rfl, rfl, by rw [ht]; exact hP9, hD9⟩, hS.F ht⟩) hS.2.2 dX2_drawOfHundred_28

abbrev c_X2_countNight (k : Nat → ClassId) (h : Nat) (q0 : Nat) (q1 : Nat) (q2 : Nat) (q3 : Nat) (q4 : Nat) (q5 : Nat) (q6 : Nat) (wg : Int32) (dy : Int32) (sd : Int32) (f0 : Nat → Int32) (f1 : Nat → Int32) (f2 : Nat → Int32) (f5 : Nat → Int32) (f6 : Nat → Int32) (j : Nat) (yq : Int32) : va_W := [(h, .inr (2, [.ref q0, .ref q1, .ref q2, .ref q3, .ref q4, .ref q5, .ref q6, .int wg, .int dy, .int sd])), (q0, .inl (k 0, 3, .inl f0)), (q1, .inl (k 0, 3, .inl f1)), (q2, .inl (k 0, 3, .inl f2)), (q5, .inl (k 0, 3, .inl f5)), (q6, .inl (k 0, 3, .inl f6))]
abbrev r_X2_countNight : Room := { frames := 1, cells := 0, slots := 0, locals := 20 }
def w_X2_countNight (k : Nat → ClassId) (h : Nat) (q0 : Nat) (q1 : Nat) (q2 : Nat) (q3 : Nat) (q4 : Nat) (q5 : Nat) (q6 : Nat) (wg : Int32) (dy : Int32) (sd : Int32) (f0 : Nat → Int32) (f1 : Nat → Int32) (f2 : Nat → Int32) (f5 : Nat → Int32) (f6 : Nat → Int32) (j : Nat) (yq : Int32) : (Nat → Int32) → va_W := fun g2 => [(h, .inr (2, [.ref q0, .ref q1, .ref q2, .ref q3, .ref q4, .ref q5, .ref q6, .int wg, .int dy, .int (dsd sd)])), (q0, .inl (k 0, 3, .inl (upd f0 j ((f0 j) ||| ((1 : Int32) <<< ((f5 j) &&& 31)))))), (q1, .inl (k 0, 3, .inl (upd f1 j ((f1 j) ||| ((1 : Int32) <<< ((f6 j) &&& 31)))))), (q2, .inl (k 0, 3, .inl g2)), (q5, .inl (k 0, 3, .inl f5)), (q6, .inl (k 0, 3, .inl f6))]
def p_X2_countNight (k : Nat → ClassId) (h : Nat) (q0 : Nat) (q1 : Nat) (q2 : Nat) (q3 : Nat) (q4 : Nat) (q5 : Nat) (q6 : Nat) (wg : Int32) (dy : Int32) (sd : Int32) (f0 : Nat → Int32) (f1 : Nat → Int32) (f2 : Nat → Int32) (f5 : Nat → Int32) (f6 : Nat → Int32) (j : Nat) (yq : Int32) : (Nat → Int32) → Prop := fun (u : (Nat → Int32)) => u = (if yq ≤ drw sd then f2 else upd f2 j (f2 j + 1))
abbrev q_X2_countNight (D : va_G) (k : Nat → ClassId) (h : Nat) (q0 : Nat) (q1 : Nat) (q2 : Nat) (q3 : Nat) (q4 : Nat) (q5 : Nat) (q6 : Nat) (wg : Int32) (dy : Int32) (sd : Int32) (f0 : Nat → Int32) (f1 : Nat → Int32) (f2 : Nat → Int32) (f5 : Nat → Int32) (f6 : Nat → Int32) (j : Nat) (yq : Int32) (A : Nat → Prop) : Array Value → State → Outcome → State → Prop := va_Qv (p_X2_countNight k h q0 q1 q2 q3 q4 q5 q6 wg dy sd f0 f1 f2 f5 f6 j yq) (fun u9 t9 => BO D (w_X2_countNight k h q0 q1 q2 q3 q4 q5 q6 wg dy sd f0 f1 f2 f5 f6 j yq u9) A t9) A
set_option maxHeartbeats 2000000 in
set_option maxRecDepth 100000 in
theorem X2_countNight (l : Launch) (D : va_G) (k : Nat → ClassId) (sz : Nat) (h : Nat) (q0 : Nat) (q1 : Nat) (q2 : Nat) (q3 : Nat) (q4 : Nat) (q5 : Nat) (q6 : Nat) (wg : Int32) (dy : Int32) (sd : Int32) (f0 : Nat → Int32) (f1 : Nat → Int32) (f2 : Nat → Int32) (f5 : Nat → Int32) (f6 : Nat → Int32) (j : Nat) (yq : Int32) (hj : j < 3) : Met l yX2_countNight wsX2_countNight r_X2_countNight (va_Pc [.ref h, .int (nI j), .int yq] (PR D k (c_X2_countNight k h q0 q1 q2 q3 q4 q5 q6 wg dy sd f0 f1 f2 f5 f6 j yq) sz)) (q_X2_countNight D k h q0 q1 q2 q3 q4 q5 q6 wg dy sd f0 f1 f2 f5 f6 j yq (va_A (c_X2_countNight k h q0 q1 q2 q3 q4 q5 q6 wg dy sd f0 f1 f2 f5 f6 j yq) sz)) 0 0 (va_A (c_X2_countNight k h q0 q1 q2 q3 q4 q5 q6 wg dy sd f0 f1 f2 f5 f6 j yq) sz) := by
  refine Met.ofW (cc := cX2_countNight) (maxL := 3) (ret := none) (by decide) rfl ?_
  intro p e s m args below meth c s₁ B hml hv
  obtain ⟨rfl, hsz, hP, hG, hD0⟩ := hv
  have hx := B.exec
  have hb := B.bytes
  have hr := B.returns
  have hts := atoms_spec (ws := wsX2_countNight) B.pre
  have hown : s.vm.findClass RX2 = some m.cls := findClass_of_methodNamed B.named
  have hlocks := B.notSynchronized
  have hi2 : ∀ w ∈ wsX20, w ∈ wsX2_countNight := fun _ h => List.mem_cons_of_mem _ (List.mem_append_right _ h)
  subst hsz
  have hD := hD0.self (sz := s.heap.size)
  generalize hAe : va_A (c_X2_countNight k h q0 q1 q2 q3 q4 q5 q6 wg dy sd f0 f1 f2 f5 f6 j yq) s.heap.size = A at hD ⊢
  have hA : ∀ q : Nat, s.heap.size ≤ q → A q := fun q h => by rw [← hAe]; exact Or.inr h
  have hS : va_S A s.heap s.heap [] := va_S.rf
  have hP : va_P D vwCl [(h, .inr (2, [.ref q0, .ref q1, .ref q2, .ref q3, .ref q4, .ref q5, .ref q6, .int wg, .int dy, .int sd])), (q0, .inl (k 0, 3, .inl f0)), (q1, .inl (k 0, 3, .inl f1)), (q2, .inl (k 0, 3, .inl f2)), (q5, .inl (k 0, 3, .inl f5)), (q6, .inl (k 0, 3, .inl f6))] s.heap := hP
  have hD : va_D A [(h, .inr (2, [.ref q0, .ref q1, .ref q2, .ref q3, .ref q4, .ref q5, .ref q6, .int wg, .int dy, .int sd])), (q0, .inl (k 0, 3, .inl f0)), (q1, .inl (k 0, 3, .inl f1)), (q2, .inl (k 0, 3, .inl f2)), (q5, .inl (k 0, 3, .inl f5)), (q6, .inl (k 0, 3, .inl f6))] := hD
  have hl := lv_entry ([.ref h, .int (nI j), .int yq]) (n := 3) (Nat.le_of_ble_eq_true rfl)
  rw [lg_entry_eq]
  generalize (lg_sl ([.ref h, .int (nI j), .int yq]) ++ List.replicate (3 - (lg_sl ([.ref h, .int (nI j), .int yq])).length) Slot.unset).toArray = ls at hl ⊢
  have hl : lv_has ls 3 [(0, .ref h), (1, .int (nI j)), (2, .int yq)] := hl
  refine lv_aload_n hx hb dX2_countNight_0 rfl (lv_at hl 0 rfl) ?_
  refine va_get (D := D) (ci := 2) (v := .ref q0) (C := RX2) (T := TX2) (N := 10) hx hb hts hi2 hown hG.1 hP 0 rfl rfl 0 (by decide) (hts (.fieldLink RX2 9 "SleptMatters$Course" "sleepers" "[I") (List.mem_cons_of_mem _ (List.mem_append_left _ (List.mem_of_getElem? (i := 0) rfl)))) (fun _ h9 => h9) rfl dX2_countNight_1 ?_
  refine lv_iload_n hx hb dX2_countNight_4 rfl (lv_at hl 1 rfl) ?_
  refine lv_dup2_11 hx hb dX2_countNight_5 rfl rfl ?_
  refine va_iald hx hb hG.1 hP 1 0 rfl rfl (vp_in_nI (by omega) (by omega)) dX2_countNight_6 ?_
  refine tp_i (y := f0 j) (congrArg _ (nI_clamp (n := j) (by omega))) ?_
  refine lv_iconst (v := 1) hx hb dX2_countNight_7 (by decide) ?_
  refine lv_aload_n hx hb dX2_countNight_8 rfl (lv_at hl 0 rfl) ?_
  refine va_get (D := D) (ci := 2) (v := .ref q5) (C := RX2) (T := TX2) (N := 10) hx hb hts hi2 hown hG.1 hP 0 rfl rfl 5 (by decide) (hts (.fieldLink RX2 27 "SleptMatters$Course" "laidSleeper" "[I") (List.mem_cons_of_mem _ (List.mem_append_left _ (List.mem_of_getElem? (i := 1) rfl)))) (fun _ h9 => h9) rfl dX2_countNight_9 ?_
  refine lv_iload_n hx hb dX2_countNight_12 rfl (lv_at hl 1 rfl) ?_
  refine va_iald hx hb hG.1 hP 4 0 rfl rfl (vp_in_nI (by omega) (by omega)) dX2_countNight_13 ?_
  refine tp_i (y := f5 j) (congrArg _ (nI_clamp (n := j) (by omega))) ?_
  refine lv_ishl hx hb dX2_countNight_14 ?_
  refine lv_ior hx hb dX2_countNight_15 ?_
  refine va_iast hx hb hG.1 hP hD hS 1 0 rfl rfl (vp_in_nI (by omega) (by omega)) dX2_countNight_16 (fun H locs hP hD hS => ?_)
  rw [nI_clamp (n := j) (by omega)] at hP hD
  have hP : va_P D vwCl [(h, .inr (2, [.ref q0, .ref q1, .ref q2, .ref q3, .ref q4, .ref q5, .ref q6, .int wg, .int dy, .int sd])), (q0, .inl (k 0, 3, .inl (upd f0 j ((f0 j) ||| ((1 : Int32) <<< ((f5 j) &&& 31)))))), (q1, .inl (k 0, 3, .inl f1)), (q2, .inl (k 0, 3, .inl f2)), (q5, .inl (k 0, 3, .inl f5)), (q6, .inl (k 0, 3, .inl f6))] H := hP
  have hD : va_D A [(h, .inr (2, [.ref q0, .ref q1, .ref q2, .ref q3, .ref q4, .ref q5, .ref q6, .int wg, .int dy, .int sd])), (q0, .inl (k 0, 3, .inl (upd f0 j ((f0 j) ||| ((1 : Int32) <<< ((f5 j) &&& 31)))))), (q1, .inl (k 0, 3, .inl f1)), (q2, .inl (k 0, 3, .inl f2)), (q5, .inl (k 0, 3, .inl f5)), (q6, .inl (k 0, 3, .inl f6))] := hD
  refine lv_aload_n hx hb dX2_countNight_17 rfl (lv_at hl 0 rfl) ?_
  refine va_get (D := D) (ci := 2) (v := .ref q1) (C := RX2) (T := TX2) (N := 10) hx hb hts hi2 hown hG.1 hP 0 rfl rfl 1 (by decide) (hts (.fieldLink RX2 15 "SleptMatters$Course" "houses" "[I") (List.mem_cons_of_mem _ (List.mem_append_left _ (List.mem_of_getElem? (i := 2) rfl)))) (fun _ h9 => h9) rfl dX2_countNight_18 ?_
  refine lv_iload_n hx hb dX2_countNight_21 rfl (lv_at hl 1 rfl) ?_
  refine lv_dup2_11 hx hb dX2_countNight_22 rfl rfl ?_
  refine va_iald hx hb hG.1 hP 2 0 rfl rfl (vp_in_nI (by omega) (by omega)) dX2_countNight_23 ?_
  refine tp_i (y := f1 j) (congrArg _ (nI_clamp (n := j) (by omega))) ?_
  refine lv_iconst (v := 1) hx hb dX2_countNight_24 (by decide) ?_
  refine lv_aload_n hx hb dX2_countNight_25 rfl (lv_at hl 0 rfl) ?_
  refine va_get (D := D) (ci := 2) (v := .ref q6) (C := RX2) (T := TX2) (N := 10) hx hb hts hi2 hown hG.1 hP 0 rfl rfl 6 (by decide) (hts (.fieldLink RX2 30 "SleptMatters$Course" "laidHouse" "[I") (List.mem_cons_of_mem _ (List.mem_append_left _ (List.mem_of_getElem? (i := 3) rfl)))) (fun _ h9 => h9) rfl dX2_countNight_26 ?_
  refine lv_iload_n hx hb dX2_countNight_29 rfl (lv_at hl 1 rfl) ?_
  refine va_iald hx hb hG.1 hP 5 0 rfl rfl (vp_in_nI (by omega) (by omega)) dX2_countNight_30 ?_
  refine tp_i (y := f6 j) (congrArg _ (nI_clamp (n := j) (by omega))) ?_
  refine lv_ishl hx hb dX2_countNight_31 ?_
  refine lv_ior hx hb dX2_countNight_32 ?_
  refine va_iast hx hb hG.1 hP hD hS 2 0 rfl rfl (vp_in_nI (by omega) (by omega)) dX2_countNight_33 (fun H locs hP hD hS => ?_)
  rw [nI_clamp (n := j) (by omega)] at hP hD
  have hP : va_P D vwCl [(h, .inr (2, [.ref q0, .ref q1, .ref q2, .ref q3, .ref q4, .ref q5, .ref q6, .int wg, .int dy, .int sd])), (q0, .inl (k 0, 3, .inl (upd f0 j ((f0 j) ||| ((1 : Int32) <<< ((f5 j) &&& 31)))))), (q1, .inl (k 0, 3, .inl (upd f1 j ((f1 j) ||| ((1 : Int32) <<< ((f6 j) &&& 31)))))), (q2, .inl (k 0, 3, .inl f2)), (q5, .inl (k 0, 3, .inl f5)), (q6, .inl (k 0, 3, .inl f6))] H := hP
  have hD : va_D A [(h, .inr (2, [.ref q0, .ref q1, .ref q2, .ref q3, .ref q4, .ref q5, .ref q6, .int wg, .int dy, .int sd])), (q0, .inl (k 0, 3, .inl (upd f0 j ((f0 j) ||| ((1 : Int32) <<< ((f5 j) &&& 31)))))), (q1, .inl (k 0, 3, .inl (upd f1 j ((f1 j) ||| ((1 : Int32) <<< ((f6 j) &&& 31)))))), (q2, .inl (k 0, 3, .inl f2)), (q5, .inl (k 0, 3, .inl f5)), (q6, .inl (k 0, 3, .inl f6))] := hD
  refine lv_aload_n hx hb dX2_countNight_34 rfl (lv_at hl 0 rfl) ?_
  have hPc := hP.sub (ws' := (c_X2_drawOfHundred k h q0 q1 q2 q3 q4 q5 q6 wg dy sd)) [0] rfl
  have hDc := hD.sub (ws' := (c_X2_drawOfHundred k h q0 q1 q2 q3 q4 q5 q6 wg dy sd)) [0] (by decide +kernel) rfl
  refine cl_i (w1 := w_X2_drawOfHundred k h q0 q1 q2 q3 q4 q5 q6 wg dy sd) (wr := [(q0, .inl (k 0, 3, .inl (upd f0 j ((f0 j) ||| ((1 : Int32) <<< ((f5 j) &&& 31)))))), (q1, .inl (k 0, 3, .inl (upd f1 j ((f1 j) ||| ((1 : Int32) <<< ((f6 j) &&& 31)))))), (q2, .inl (k 0, 3, .inl f2)), (q5, .inl (k 0, 3, .inl f5)), (q6, .inl (k 0, 3, .inl f6))]) (va_runV (As := []) (rest := []) ⟨hx, hb, hml, hown, hts⟩ (X2_drawOfHundred l D k H.size h q0 q1 q2 q3 q4 q5 q6 wg dy sd ) (cwV 0 hts gX2_countNight_X2_drawOfHundred rfl rfl rfl (by decide +kernel) ⟨Nat.le_of_ble_eq_true rfl, Nat.le_of_ble_eq_true rfl⟩) ⟨PR.blind _ _ _ _ _, va_recv hG.1 hP (ci := 2) (q0 := 0) rfl rfl, PR.pre hPc hDc hG [.ref h]⟩ rfl rfl hl.1 rfl (lv_room (Nat.le_of_ble_eq_true rfl)) dX2_countNight_35 ⟨Nat.le_of_ble_eq_true rfl, Nat.le_of_ble_eq_true rfl⟩) hP hD hS hA [0] [1, 2, 3, 4, 5] rfl rfl (by decide +kernel) (by decide +kernel) (fun r u H locs hq hP hD hS => ?_)
  cases u
  generalize r = y1 at hq ⊢
  have hq : y1 = drw sd := hq
  have hP : va_P D vwCl [(q0, .inl (k 0, 3, .inl (upd f0 j ((f0 j) ||| ((1 : Int32) <<< ((f5 j) &&& 31)))))), (q1, .inl (k 0, 3, .inl (upd f1 j ((f1 j) ||| ((1 : Int32) <<< ((f6 j) &&& 31)))))), (q2, .inl (k 0, 3, .inl f2)), (q5, .inl (k 0, 3, .inl f5)), (q6, .inl (k 0, 3, .inl f6)), (h, .inr (2, [.ref q0, .ref q1, .ref q2, .ref q3, .ref q4, .ref q5, .ref q6, .int wg, .int dy, .int (dsd sd)]))] H := hP
  have hD : va_D A [(q0, .inl (k 0, 3, .inl (upd f0 j ((f0 j) ||| ((1 : Int32) <<< ((f5 j) &&& 31)))))), (q1, .inl (k 0, 3, .inl (upd f1 j ((f1 j) ||| ((1 : Int32) <<< ((f6 j) &&& 31)))))), (q2, .inl (k 0, 3, .inl f2)), (q5, .inl (k 0, 3, .inl f5)), (q6, .inl (k 0, 3, .inl f6)), (h, .inr (2, [.ref q0, .ref q1, .ref q2, .ref q3, .ref q4, .ref q5, .ref q6, .int wg, .int dy, .int (dsd sd)]))] := hD
  refine tp_i (y := drw sd) (hq) ?_
  refine lv_iload_n hx hb dX2_countNight_38 rfl (lv_at hl 2 rfl) ?_
  refine lv_icmp_ge (x := drw sd) (y := yq) (tgt := 52) hx hb dX2_countNight_39 (by decide) (fun c2 => ?_) (fun c2 => ?_)
  · skip
    have hP9 := hP.sub (ws' := [(h, .inr (2, [.ref q0, .ref q1, .ref q2, .ref q3, .ref q4, .ref q5, .ref q6, .int wg, .int dy, .int (dsd sd)])), (q0, .inl (k 0, 3, .inl (upd f0 j ((f0 j) ||| ((1 : Int32) <<< ((f5 j) &&& 31)))))), (q1, .inl (k 0, 3, .inl (upd f1 j ((f1 j) ||| ((1 : Int32) <<< ((f6 j) &&& 31)))))), (q2, .inl (k 0, 3, .inl f2)), (q5, .inl (k 0, 3, .inl f5)), (q6, .inl (k 0, 3, .inl f6))]) [5, 0, 1, 2, 3, 4] rfl
    have hD9 := hD.sub (ws' := [(h, .inr (2, [.ref q0, .ref q1, .ref q2, .ref q3, .ref q4, .ref q5, .ref q6, .int wg, .int dy, .int (dsd sd)])), (q0, .inl (k 0, 3, .inl (upd f0 j ((f0 j) ||| ((1 : Int32) <<< ((f5 j) &&& 31)))))), (q1, .inl (k 0, 3, .inl (upd f1 j ((f1 j) ||| ((1 : Int32) <<< ((f6 j) &&& 31)))))), (q2, .inl (k 0, 3, .inl f2)), (q5, .inl (k 0, 3, .inl f5)), (q6, .inl (k 0, 3, .inl f6))]) [5, 0, 1, 2, 3, 4] (by decide +kernel) rfl
    exact W.vret hx hb hr (fun t9 ht _ => ⟨⟨(f2), rfl, (if_pos c2).symm, by rw [ht]; exact hP9, hD9⟩, hS.F ht⟩) hS.2.2 dX2_countNight_52
  · skip
    refine lv_aload_n hx hb dX2_countNight_42 rfl (lv_at hl 0 rfl) ?_
    refine va_get (D := D) (ci := 2) (v := .ref q2) (C := RX2) (T := TX2) (N := 10) hx hb hts hi2 hown hG.1 hP 5 rfl rfl 2 (by decide) (hts (.fieldLink RX2 18 "SleptMatters$Course" "yes" "[I") (List.mem_cons_of_mem _ (List.mem_append_left _ (List.mem_of_getElem? (i := 4) rfl)))) (fun _ h9 => h9) rfl dX2_countNight_43 ?_
    refine lv_iload_n hx hb dX2_countNight_46 rfl (lv_at hl 1 rfl) ?_
    refine lv_dup2_11 hx hb dX2_countNight_47 rfl rfl ?_
    refine va_iald hx hb hG.1 hP 2 0 rfl rfl (vp_in_nI (by omega) (by omega)) dX2_countNight_48 ?_
    refine tp_i (y := f2 j) (congrArg _ (nI_clamp (n := j) (by omega))) ?_
    refine lv_iconst (v := 1) hx hb dX2_countNight_49 (by decide) ?_
    refine lv_iadd hx hb dX2_countNight_50 ?_
    refine va_iast hx hb hG.1 hP hD hS 2 0 rfl rfl (vp_in_nI (by omega) (by omega)) dX2_countNight_51 (fun H locs hP hD hS => ?_)
    rw [nI_clamp (n := j) (by omega)] at hP hD
    have hP : va_P D vwCl [(q0, .inl (k 0, 3, .inl (upd f0 j ((f0 j) ||| ((1 : Int32) <<< ((f5 j) &&& 31)))))), (q1, .inl (k 0, 3, .inl (upd f1 j ((f1 j) ||| ((1 : Int32) <<< ((f6 j) &&& 31)))))), (q2, .inl (k 0, 3, .inl (upd f2 j ((f2 j) + 1)))), (q5, .inl (k 0, 3, .inl f5)), (q6, .inl (k 0, 3, .inl f6)), (h, .inr (2, [.ref q0, .ref q1, .ref q2, .ref q3, .ref q4, .ref q5, .ref q6, .int wg, .int dy, .int (dsd sd)]))] H := hP
    have hD : va_D A [(q0, .inl (k 0, 3, .inl (upd f0 j ((f0 j) ||| ((1 : Int32) <<< ((f5 j) &&& 31)))))), (q1, .inl (k 0, 3, .inl (upd f1 j ((f1 j) ||| ((1 : Int32) <<< ((f6 j) &&& 31)))))), (q2, .inl (k 0, 3, .inl (upd f2 j ((f2 j) + 1)))), (q5, .inl (k 0, 3, .inl f5)), (q6, .inl (k 0, 3, .inl f6)), (h, .inr (2, [.ref q0, .ref q1, .ref q2, .ref q3, .ref q4, .ref q5, .ref q6, .int wg, .int dy, .int (dsd sd)]))] := hD
    have hP9 := hP.sub (ws' := [(h, .inr (2, [.ref q0, .ref q1, .ref q2, .ref q3, .ref q4, .ref q5, .ref q6, .int wg, .int dy, .int (dsd sd)])), (q0, .inl (k 0, 3, .inl (upd f0 j ((f0 j) ||| ((1 : Int32) <<< ((f5 j) &&& 31)))))), (q1, .inl (k 0, 3, .inl (upd f1 j ((f1 j) ||| ((1 : Int32) <<< ((f6 j) &&& 31)))))), (q2, .inl (k 0, 3, .inl (upd f2 j ((f2 j) + 1)))), (q5, .inl (k 0, 3, .inl f5)), (q6, .inl (k 0, 3, .inl f6))]) [5, 0, 1, 2, 3, 4] rfl
    have hD9 := hD.sub (ws' := [(h, .inr (2, [.ref q0, .ref q1, .ref q2, .ref q3, .ref q4, .ref q5, .ref q6, .int wg, .int dy, .int (dsd sd)])), (q0, .inl (k 0, 3, .inl (upd f0 j ((f0 j) ||| ((1 : Int32) <<< ((f5 j) &&& 31)))))), (q1, .inl (k 0, 3, .inl (upd f1 j ((f1 j) ||| ((1 : Int32) <<< ((f6 j) &&& 31)))))), (q2, .inl (k 0, 3, .inl (upd f2 j ((f2 j) + 1)))), (q5, .inl (k 0, 3, .inl f5)), (q6, .inl (k 0, 3, .inl f6))]) [5, 0, 1, 2, 3, 4] (by decide +kernel) rfl
    exact W.vret hx hb hr (fun t9 ht _ => ⟨⟨(upd f2 j ((f2 j) + 1)), rfl, (if_neg c2).symm, by rw [ht]; exact hP9, hD9⟩, hS.F ht⟩) hS.2.2 dX2_countNight_52

abbrev c_X2_decide (k : Nat → ClassId) (h : Nat) (q0 : Nat) (q1 : Nat) (q2 : Nat) (q3 : Nat) (q4 : Nat) (q5 : Nat) (q6 : Nat) (wg : Int32) (dy : Int32) (sd : Int32) (f0 : Nat → Int32) (f2 : Nat → Int32) (f3 : Nat → Int32) (f4 : Nat → Int32) (lw : Nat) (ni : Int32) (ye : Int32) (ag : Int32) (l4 : Int32) (l5 : Int32) (j : Nat) : va_W := [(h, .inr (2, [.ref q0, .ref q1, .ref q2, .ref q3, .ref q4, .ref q5, .ref q6, .int wg, .int dy, .int sd])), (q0, .inl (k 0, 3, .inl f0)), (q2, .inl (k 0, 3, .inl f2)), (q3, .inl (k 0, 3, .inl f3)), (q4, .inl (k 0, 3, .inl f4)), (lw, .inr (3, [.int ni, .int ye, .int ag, .int l4, .int l5]))]
abbrev r_X2_decide : Room := { frames := 1, cells := 0, slots := 0, locals := 20 }
def w_X2_decide (k : Nat → ClassId) (h : Nat) (q0 : Nat) (q1 : Nat) (q2 : Nat) (q3 : Nat) (q4 : Nat) (q5 : Nat) (q6 : Nat) (wg : Int32) (dy : Int32) (sd : Int32) (f0 : Nat → Int32) (f2 : Nat → Int32) (f3 : Nat → Int32) (f4 : Nat → Int32) (lw : Nat) (ni : Int32) (ye : Int32) (ag : Int32) (l4 : Int32) (l5 : Int32) (j : Nat) : (Nat → Int32) × (Nat → Int32) → va_W := fun u => match u with | (g3, g4) => [(h, .inr (2, [.ref q0, .ref q1, .ref q2, .ref q3, .ref q4, .ref q5, .ref q6, .int wg, .int dy, .int sd])), (q0, .inl (k 0, 3, .inl f0)), (q2, .inl (k 0, 3, .inl f2)), (q3, .inl (k 0, 3, .inl g3)), (q4, .inl (k 0, 3, .inl g4)), (lw, .inr (3, [.int ni, .int ye, .int ag, .int l4, .int l5]))]
def p_X2_decide (k : Nat → ClassId) (h : Nat) (q0 : Nat) (q1 : Nat) (q2 : Nat) (q3 : Nat) (q4 : Nat) (q5 : Nat) (q6 : Nat) (wg : Int32) (dy : Int32) (sd : Int32) (f0 : Nat → Int32) (f2 : Nat → Int32) (f3 : Nat → Int32) (f4 : Nat → Int32) (lw : Nat) (ni : Int32) (ye : Int32) (ag : Int32) (l4 : Int32) (l5 : Int32) (j : Nat) : Int32 → (Nat → Int32) × (Nat → Int32) → Prop := fun (r : Int32) (u : (Nat → Int32) × (Nat → Int32)) => match u with | (g3, g4) => (bcA (f0 j) < ni ∧ r = 0 ∧ g3 = f3 ∧ g4 = f4) ∨ (ni ≤ bcA (f0 j) ∧ r = 1 ∧ g3 = upd f3 j (if f2 j < ye then 2 else 1) ∧ g4 = upd f4 j dy)
abbrev q_X2_decide (D : va_G) (k : Nat → ClassId) (h : Nat) (q0 : Nat) (q1 : Nat) (q2 : Nat) (q3 : Nat) (q4 : Nat) (q5 : Nat) (q6 : Nat) (wg : Int32) (dy : Int32) (sd : Int32) (f0 : Nat → Int32) (f2 : Nat → Int32) (f3 : Nat → Int32) (f4 : Nat → Int32) (lw : Nat) (ni : Int32) (ye : Int32) (ag : Int32) (l4 : Int32) (l5 : Int32) (j : Nat) (A : Nat → Prop) : Array Value → State → Outcome → State → Prop := va_Qi (p_X2_decide k h q0 q1 q2 q3 q4 q5 q6 wg dy sd f0 f2 f3 f4 lw ni ye ag l4 l5 j) (fun u9 t9 => BO D (w_X2_decide k h q0 q1 q2 q3 q4 q5 q6 wg dy sd f0 f2 f3 f4 lw ni ye ag l4 l5 j u9) A t9) A
set_option maxHeartbeats 2000000 in
set_option maxRecDepth 100000 in
theorem X2_decide (l : Launch) (D : va_G) (k : Nat → ClassId) (sz : Nat) (h : Nat) (q0 : Nat) (q1 : Nat) (q2 : Nat) (q3 : Nat) (q4 : Nat) (q5 : Nat) (q6 : Nat) (wg : Int32) (dy : Int32) (sd : Int32) (f0 : Nat → Int32) (f2 : Nat → Int32) (f3 : Nat → Int32) (f4 : Nat → Int32) (lw : Nat) (ni : Int32) (ye : Int32) (ag : Int32) (l4 : Int32) (l5 : Int32) (j : Nat) (hj : j < 3) : Met l yX2_decide wsX2_decide r_X2_decide (va_Pc [.ref h, .int (nI j), .ref lw] (PR D k (c_X2_decide k h q0 q1 q2 q3 q4 q5 q6 wg dy sd f0 f2 f3 f4 lw ni ye ag l4 l5 j) sz)) (q_X2_decide D k h q0 q1 q2 q3 q4 q5 q6 wg dy sd f0 f2 f3 f4 lw ni ye ag l4 l5 j (va_A (c_X2_decide k h q0 q1 q2 q3 q4 q5 q6 wg dy sd f0 f2 f3 f4 lw ni ye ag l4 l5 j) sz)) 0 0 (va_A (c_X2_decide k h q0 q1 q2 q3 q4 q5 q6 wg dy sd f0 f2 f3 f4 lw ni ye ag l4 l5 j) sz) := by
  refine Met.ofW (cc := cX2_decide) (maxL := 3) (ret := (some .boolean)) (by decide) rfl ?_
  intro p e s m args below meth c s₁ B hml hv
  obtain ⟨rfl, hsz, hP, hG, hD0⟩ := hv
  have hx := B.exec
  have hb := B.bytes
  have hr := B.returns
  have hts := atoms_spec (ws := wsX2_decide) B.pre
  have hown : s.vm.findClass RX2 = some m.cls := findClass_of_methodNamed B.named
  have hlocks := B.notSynchronized
  have hi2 : ∀ w ∈ wsX20, w ∈ wsX2_decide := fun _ h => List.mem_cons_of_mem _ (List.mem_append_left _ (List.mem_append_right _ h))
  have hi3 : ∀ w ∈ wsX30, w ∈ wsX2_decide := fun _ h => List.mem_cons_of_mem _ (List.mem_append_right _ h)
  subst hsz
  have hD := hD0.self (sz := s.heap.size)
  generalize hAe : va_A (c_X2_decide k h q0 q1 q2 q3 q4 q5 q6 wg dy sd f0 f2 f3 f4 lw ni ye ag l4 l5 j) s.heap.size = A at hD ⊢
  have hA : ∀ q : Nat, s.heap.size ≤ q → A q := fun q h => by rw [← hAe]; exact Or.inr h
  have hS : va_S A s.heap s.heap [] := va_S.rf
  have hP : va_P D vwCl [(h, .inr (2, [.ref q0, .ref q1, .ref q2, .ref q3, .ref q4, .ref q5, .ref q6, .int wg, .int dy, .int sd])), (q0, .inl (k 0, 3, .inl f0)), (q2, .inl (k 0, 3, .inl f2)), (q3, .inl (k 0, 3, .inl f3)), (q4, .inl (k 0, 3, .inl f4)), (lw, .inr (3, [.int ni, .int ye, .int ag, .int l4, .int l5]))] s.heap := hP
  have hD : va_D A [(h, .inr (2, [.ref q0, .ref q1, .ref q2, .ref q3, .ref q4, .ref q5, .ref q6, .int wg, .int dy, .int sd])), (q0, .inl (k 0, 3, .inl f0)), (q2, .inl (k 0, 3, .inl f2)), (q3, .inl (k 0, 3, .inl f3)), (q4, .inl (k 0, 3, .inl f4)), (lw, .inr (3, [.int ni, .int ye, .int ag, .int l4, .int l5]))] := hD
  have hl := lv_entry ([.ref h, .int (nI j), .ref lw]) (n := 3) (Nat.le_of_ble_eq_true rfl)
  rw [lg_entry_eq]
  generalize (lg_sl ([.ref h, .int (nI j), .ref lw]) ++ List.replicate (3 - (lg_sl ([.ref h, .int (nI j), .ref lw])).length) Slot.unset).toArray = ls at hl ⊢
  have hl : lv_has ls 3 [(0, .ref h), (1, .int (nI j)), (2, .ref lw)] := hl
  refine lv_aload_n hx hb dX2_decide_0 rfl (lv_at hl 0 rfl) ?_
  refine va_get (D := D) (ci := 2) (v := .ref q0) (C := RX2) (T := TX2) (N := 10) hx hb hts hi2 hown hG.1 hP 0 rfl rfl 0 (by decide) (hts (.fieldLink RX2 9 "SleptMatters$Course" "sleepers" "[I") (List.mem_cons_of_mem _ (List.mem_append_left _ (List.mem_append_left _ (List.mem_of_getElem? (i := 0) rfl))))) (fun _ h9 => h9) rfl dX2_decide_1 ?_
  refine lv_iload_n hx hb dX2_decide_4 rfl (lv_at hl 1 rfl) ?_
  refine va_iald hx hb hG.1 hP 1 0 rfl rfl (vp_in_nI (by omega) (by omega)) dX2_decide_5 ?_
  refine tp_i (y := f0 j) (congrArg _ (nI_clamp (n := j) (by omega))) ?_
  have hPc := hP.sub (ws' := (c_J6_bitCount k (f0 j))) [] rfl
  refine vp_callSi (va_Run.run (va_runS (As := [.int (f0 j)]) (rest := []) ⟨hx, hb, hml, hown, hts⟩ (J6_bitCount l D k (f0 j) ) (va_cwS 1 hts gX2_decide_J6_bitCount_0f7a4 rfl rfl rfl (by decide +kernel) ⟨Nat.le_of_ble_eq_true rfl, Nat.le_of_ble_eq_true rfl⟩) ⟨PS.blind _ _ _ _, PS.pre hPc hG [.int (f0 j)]⟩ rfl rfl hl.1 rfl (lv_room (Nat.le_of_ble_eq_true rfl)) dX2_decide_6 ⟨Nat.le_of_ble_eq_true rfl, Nat.le_of_ble_eq_true rfl⟩)) (fun r hq => ?_)
  generalize r = y1 at hq ⊢
  have hq : y1 = bcA (f0 j) := hq
  refine tp_i (y := bcA (f0 j)) (hq) ?_
  refine lv_aload_n hx hb dX2_decide_9 rfl (lv_at hl 2 rfl) ?_
  refine va_get (D := D) (ci := 3) (v := .int ni) (C := RX3) (T := TX3) (N := 5) hx hb hts hi3 hown hG.1 hP 5 rfl rfl 0 (by decide) (hts (.fieldLink RX2 136 "SleptMatters$Law" "nights" "I") (List.mem_cons_of_mem _ (List.mem_append_left _ (List.mem_append_left _ (List.mem_of_getElem? (i := 1) rfl))))) (fun _ h9 => h9) rfl dX2_decide_10 ?_
  refine lv_icmp_ge (x := bcA (f0 j)) (y := ni) (tgt := 18) hx hb dX2_decide_13 (by decide) (fun c2 => ?_) (fun c2 => ?_)
  · skip
    refine lv_aload_n hx hb dX2_decide_18 rfl (lv_at hl 0 rfl) ?_
    refine va_get (D := D) (ci := 2) (v := .ref q3) (C := RX2) (T := TX2) (N := 10) hx hb hts hi2 hown hG.1 hP 0 rfl rfl 3 (by decide) (hts (.fieldLink RX2 21 "SleptMatters$Course" "outcome" "[I") (List.mem_cons_of_mem _ (List.mem_append_left _ (List.mem_append_left _ (List.mem_of_getElem? (i := 2) rfl))))) (fun _ h9 => h9) rfl dX2_decide_19 ?_
    refine lv_iload_n hx hb dX2_decide_22 rfl (lv_at hl 1 rfl) ?_
    refine lv_aload_n hx hb dX2_decide_23 rfl (lv_at hl 0 rfl) ?_
    refine va_get (D := D) (ci := 2) (v := .ref q2) (C := RX2) (T := TX2) (N := 10) hx hb hts hi2 hown hG.1 hP 0 rfl rfl 2 (by decide) (hts (.fieldLink RX2 18 "SleptMatters$Course" "yes" "[I") (List.mem_cons_of_mem _ (List.mem_append_left _ (List.mem_append_left _ (List.mem_of_getElem? (i := 3) rfl))))) (fun _ h9 => h9) rfl dX2_decide_24 ?_
    refine lv_iload_n hx hb dX2_decide_27 rfl (lv_at hl 1 rfl) ?_
    refine va_iald hx hb hG.1 hP 2 0 rfl rfl (vp_in_nI (by omega) (by omega)) dX2_decide_28 ?_
    refine tp_i (y := f2 j) (congrArg _ (nI_clamp (n := j) (by omega))) ?_
    refine lv_aload_n hx hb dX2_decide_29 rfl (lv_at hl 2 rfl) ?_
    refine va_get (D := D) (ci := 3) (v := .int ye) (C := RX3) (T := TX3) (N := 5) hx hb hts hi3 hown hG.1 hP 5 rfl rfl 1 (by decide) (hts (.fieldLink RX2 139 "SleptMatters$Law" "yes" "I") (List.mem_cons_of_mem _ (List.mem_append_left _ (List.mem_append_left _ (List.mem_of_getElem? (i := 4) rfl))))) (fun _ h9 => h9) rfl dX2_decide_30 ?_
    refine lv_icmp_lt (x := f2 j) (y := ye) (tgt := 40) hx hb dX2_decide_33 (by decide) (fun c3 => ?_) (fun c3 => ?_)
    · skip
      refine lv_iconst (v := 2) hx hb dX2_decide_40 (by decide) ?_
      refine va_iast hx hb hG.1 hP hD hS 3 0 rfl rfl (vp_in_nI (by omega) (by omega)) dX2_decide_41 (fun H locs hP hD hS => ?_)
      rw [nI_clamp (n := j) (by omega)] at hP hD
      have hP : va_P D vwCl [(h, .inr (2, [.ref q0, .ref q1, .ref q2, .ref q3, .ref q4, .ref q5, .ref q6, .int wg, .int dy, .int sd])), (q0, .inl (k 0, 3, .inl f0)), (q2, .inl (k 0, 3, .inl f2)), (q3, .inl (k 0, 3, .inl (upd f3 j 2))), (q4, .inl (k 0, 3, .inl f4)), (lw, .inr (3, [.int ni, .int ye, .int ag, .int l4, .int l5]))] H := hP
      have hD : va_D A [(h, .inr (2, [.ref q0, .ref q1, .ref q2, .ref q3, .ref q4, .ref q5, .ref q6, .int wg, .int dy, .int sd])), (q0, .inl (k 0, 3, .inl f0)), (q2, .inl (k 0, 3, .inl f2)), (q3, .inl (k 0, 3, .inl (upd f3 j 2))), (q4, .inl (k 0, 3, .inl f4)), (lw, .inr (3, [.int ni, .int ye, .int ag, .int l4, .int l5]))] := hD
      refine lv_aload_n hx hb dX2_decide_42 rfl (lv_at hl 0 rfl) ?_
      refine va_get (D := D) (ci := 2) (v := .ref q4) (C := RX2) (T := TX2) (N := 10) hx hb hts hi2 hown hG.1 hP 0 rfl rfl 4 (by decide) (hts (.fieldLink RX2 24 "SleptMatters$Course" "decidedOn" "[I") (List.mem_cons_of_mem _ (List.mem_append_left _ (List.mem_append_left _ (List.mem_of_getElem? (i := 5) rfl))))) (fun _ h9 => h9) rfl dX2_decide_43 ?_
      refine lv_iload_n hx hb dX2_decide_46 rfl (lv_at hl 1 rfl) ?_
      refine lv_aload_n hx hb dX2_decide_47 rfl (lv_at hl 0 rfl) ?_
      refine va_get (D := D) (ci := 2) (v := .int dy) (C := RX2) (T := TX2) (N := 10) hx hb hts hi2 hown hG.1 hP 0 rfl rfl 8 (by decide) (hts (.fieldLink RX2 37 "SleptMatters$Course" "day" "I") (List.mem_cons_of_mem _ (List.mem_append_left _ (List.mem_append_left _ (List.mem_of_getElem? (i := 6) rfl))))) (fun _ h9 => h9) rfl dX2_decide_48 ?_
      refine va_iast hx hb hG.1 hP hD hS 4 0 rfl rfl (vp_in_nI (by omega) (by omega)) dX2_decide_51 (fun H locs hP hD hS => ?_)
      rw [nI_clamp (n := j) (by omega)] at hP hD
      have hP : va_P D vwCl [(h, .inr (2, [.ref q0, .ref q1, .ref q2, .ref q3, .ref q4, .ref q5, .ref q6, .int wg, .int dy, .int sd])), (q0, .inl (k 0, 3, .inl f0)), (q2, .inl (k 0, 3, .inl f2)), (q3, .inl (k 0, 3, .inl (upd f3 j 2))), (q4, .inl (k 0, 3, .inl (upd f4 j dy))), (lw, .inr (3, [.int ni, .int ye, .int ag, .int l4, .int l5]))] H := hP
      have hD : va_D A [(h, .inr (2, [.ref q0, .ref q1, .ref q2, .ref q3, .ref q4, .ref q5, .ref q6, .int wg, .int dy, .int sd])), (q0, .inl (k 0, 3, .inl f0)), (q2, .inl (k 0, 3, .inl f2)), (q3, .inl (k 0, 3, .inl (upd f3 j 2))), (q4, .inl (k 0, 3, .inl (upd f4 j dy))), (lw, .inr (3, [.int ni, .int ye, .int ag, .int l4, .int l5]))] := hD
      refine lv_iconst (v := 1) hx hb dX2_decide_52 (by decide) ?_
      have hP9 := hP.sub (ws' := [(h, .inr (2, [.ref q0, .ref q1, .ref q2, .ref q3, .ref q4, .ref q5, .ref q6, .int wg, .int dy, .int sd])), (q0, .inl (k 0, 3, .inl f0)), (q2, .inl (k 0, 3, .inl f2)), (q3, .inl (k 0, 3, .inl (upd f3 j 2))), (q4, .inl (k 0, 3, .inl (upd f4 j dy))), (lw, .inr (3, [.int ni, .int ye, .int ag, .int l4, .int l5]))]) [0, 1, 2, 3, 4, 5] rfl
      have hD9 := hD.sub (ws' := [(h, .inr (2, [.ref q0, .ref q1, .ref q2, .ref q3, .ref q4, .ref q5, .ref q6, .int wg, .int dy, .int sd])), (q0, .inl (k 0, 3, .inl f0)), (q2, .inl (k 0, 3, .inl f2)), (q3, .inl (k 0, 3, .inl (upd f3 j 2))), (q4, .inl (k 0, 3, .inl (upd f4 j dy))), (lw, .inr (3, [.int ni, .int ye, .int ag, .int l4, .int l5]))]) [0, 1, 2, 3, 4, 5] (by decide +kernel) rfl
      exact W.zret (v := 1) hx hb hr (rfl) (fun t9 ht _ => ⟨⟨1, (upd f3 j 2, upd f4 j dy), rfl, Or.inr ⟨c2, rfl, by rw [if_pos c3], rfl⟩, by rw [ht]; exact hP9, hD9⟩, hS.F ht⟩) hS.2.2 dX2_decide_53
    · skip
      refine lv_iconst (v := 1) hx hb dX2_decide_36 (by decide) ?_
      refine lv_goto (tgt := 41) hx hb dX2_decide_37 (by decide) ?_
      refine va_iast hx hb hG.1 hP hD hS 3 0 rfl rfl (vp_in_nI (by omega) (by omega)) dX2_decide_41 (fun H locs hP hD hS => ?_)
      rw [nI_clamp (n := j) (by omega)] at hP hD
      have hP : va_P D vwCl [(h, .inr (2, [.ref q0, .ref q1, .ref q2, .ref q3, .ref q4, .ref q5, .ref q6, .int wg, .int dy, .int sd])), (q0, .inl (k 0, 3, .inl f0)), (q2, .inl (k 0, 3, .inl f2)), (q3, .inl (k 0, 3, .inl (upd f3 j 1))), (q4, .inl (k 0, 3, .inl f4)), (lw, .inr (3, [.int ni, .int ye, .int ag, .int l4, .int l5]))] H := hP
      have hD : va_D A [(h, .inr (2, [.ref q0, .ref q1, .ref q2, .ref q3, .ref q4, .ref q5, .ref q6, .int wg, .int dy, .int sd])), (q0, .inl (k 0, 3, .inl f0)), (q2, .inl (k 0, 3, .inl f2)), (q3, .inl (k 0, 3, .inl (upd f3 j 1))), (q4, .inl (k 0, 3, .inl f4)), (lw, .inr (3, [.int ni, .int ye, .int ag, .int l4, .int l5]))] := hD
      refine lv_aload_n hx hb dX2_decide_42 rfl (lv_at hl 0 rfl) ?_
      refine va_get (D := D) (ci := 2) (v := .ref q4) (C := RX2) (T := TX2) (N := 10) hx hb hts hi2 hown hG.1 hP 0 rfl rfl 4 (by decide) (hts (.fieldLink RX2 24 "SleptMatters$Course" "decidedOn" "[I") (List.mem_cons_of_mem _ (List.mem_append_left _ (List.mem_append_left _ (List.mem_of_getElem? (i := 5) rfl))))) (fun _ h9 => h9) rfl dX2_decide_43 ?_
      refine lv_iload_n hx hb dX2_decide_46 rfl (lv_at hl 1 rfl) ?_
      refine lv_aload_n hx hb dX2_decide_47 rfl (lv_at hl 0 rfl) ?_
      refine va_get (D := D) (ci := 2) (v := .int dy) (C := RX2) (T := TX2) (N := 10) hx hb hts hi2 hown hG.1 hP 0 rfl rfl 8 (by decide) (hts (.fieldLink RX2 37 "SleptMatters$Course" "day" "I") (List.mem_cons_of_mem _ (List.mem_append_left _ (List.mem_append_left _ (List.mem_of_getElem? (i := 6) rfl))))) (fun _ h9 => h9) rfl dX2_decide_48 ?_
      refine va_iast hx hb hG.1 hP hD hS 4 0 rfl rfl (vp_in_nI (by omega) (by omega)) dX2_decide_51 (fun H locs hP hD hS => ?_)
      rw [nI_clamp (n := j) (by omega)] at hP hD
      have hP : va_P D vwCl [(h, .inr (2, [.ref q0, .ref q1, .ref q2, .ref q3, .ref q4, .ref q5, .ref q6, .int wg, .int dy, .int sd])), (q0, .inl (k 0, 3, .inl f0)), (q2, .inl (k 0, 3, .inl f2)), (q3, .inl (k 0, 3, .inl (upd f3 j 1))), (q4, .inl (k 0, 3, .inl (upd f4 j dy))), (lw, .inr (3, [.int ni, .int ye, .int ag, .int l4, .int l5]))] H := hP
      have hD : va_D A [(h, .inr (2, [.ref q0, .ref q1, .ref q2, .ref q3, .ref q4, .ref q5, .ref q6, .int wg, .int dy, .int sd])), (q0, .inl (k 0, 3, .inl f0)), (q2, .inl (k 0, 3, .inl f2)), (q3, .inl (k 0, 3, .inl (upd f3 j 1))), (q4, .inl (k 0, 3, .inl (upd f4 j dy))), (lw, .inr (3, [.int ni, .int ye, .int ag, .int l4, .int l5]))] := hD
      refine lv_iconst (v := 1) hx hb dX2_decide_52 (by decide) ?_
      have hP9 := hP.sub (ws' := [(h, .inr (2, [.ref q0, .ref q1, .ref q2, .ref q3, .ref q4, .ref q5, .ref q6, .int wg, .int dy, .int sd])), (q0, .inl (k 0, 3, .inl f0)), (q2, .inl (k 0, 3, .inl f2)), (q3, .inl (k 0, 3, .inl (upd f3 j 1))), (q4, .inl (k 0, 3, .inl (upd f4 j dy))), (lw, .inr (3, [.int ni, .int ye, .int ag, .int l4, .int l5]))]) [0, 1, 2, 3, 4, 5] rfl
      have hD9 := hD.sub (ws' := [(h, .inr (2, [.ref q0, .ref q1, .ref q2, .ref q3, .ref q4, .ref q5, .ref q6, .int wg, .int dy, .int sd])), (q0, .inl (k 0, 3, .inl f0)), (q2, .inl (k 0, 3, .inl f2)), (q3, .inl (k 0, 3, .inl (upd f3 j 1))), (q4, .inl (k 0, 3, .inl (upd f4 j dy))), (lw, .inr (3, [.int ni, .int ye, .int ag, .int l4, .int l5]))]) [0, 1, 2, 3, 4, 5] (by decide +kernel) rfl
      exact W.zret (v := 1) hx hb hr (rfl) (fun t9 ht _ => ⟨⟨1, (upd f3 j 1, upd f4 j dy), rfl, Or.inr ⟨c2, rfl, by rw [if_neg c3], rfl⟩, by rw [ht]; exact hP9, hD9⟩, hS.F ht⟩) hS.2.2 dX2_decide_53
  · skip
    refine lv_iconst (v := 0) hx hb dX2_decide_16 (by decide) ?_
    have hP9 := hP.sub (ws' := [(h, .inr (2, [.ref q0, .ref q1, .ref q2, .ref q3, .ref q4, .ref q5, .ref q6, .int wg, .int dy, .int sd])), (q0, .inl (k 0, 3, .inl f0)), (q2, .inl (k 0, 3, .inl f2)), (q3, .inl (k 0, 3, .inl f3)), (q4, .inl (k 0, 3, .inl f4)), (lw, .inr (3, [.int ni, .int ye, .int ag, .int l4, .int l5]))]) [0, 1, 2, 3, 4, 5] rfl
    have hD9 := hD.sub (ws' := [(h, .inr (2, [.ref q0, .ref q1, .ref q2, .ref q3, .ref q4, .ref q5, .ref q6, .int wg, .int dy, .int sd])), (q0, .inl (k 0, 3, .inl f0)), (q2, .inl (k 0, 3, .inl f2)), (q3, .inl (k 0, 3, .inl f3)), (q4, .inl (k 0, 3, .inl f4)), (lw, .inr (3, [.int ni, .int ye, .int ag, .int l4, .int l5]))]) [0, 1, 2, 3, 4, 5] (by decide +kernel) rfl
    exact W.zret (v := 0) hx hb hr (rfl) (fun t9 ht _ => ⟨⟨0, (f3, f4), rfl, Or.inl ⟨Int32.not_le.mp c2, rfl, rfl, rfl⟩, by rw [ht]; exact hP9, hD9⟩, hS.F ht⟩) hS.2.2 dX2_decide_17

abbrev c_X2_copyFrom (k : Nat → ClassId) (h : Nat) (q0 : Nat) (q1 : Nat) (q2 : Nat) (q3 : Nat) (q4 : Nat) (q5 : Nat) (q6 : Nat) (h2 : Nat) (z0 : Nat) (z1 : Nat) (z2 : Nat) (z3 : Nat) (z4 : Nat) (z5 : Nat) (z6 : Nat) (f0 : Nat → Int32) (f1 : Nat → Int32) (f2 : Nat → Int32) (f3 : Nat → Int32) (f4 : Nat → Int32) (f5 : Nat → Int32) (f6 : Nat → Int32) (g0 : Nat → Int32) (g1 : Nat → Int32) (g2 : Nat → Int32) (g3 : Nat → Int32) (g4 : Nat → Int32) (g5 : Nat → Int32) (g6 : Nat → Int32) (wa : Int32) (wb : Int32) (wc : Int32) (va : Int32) (vb : Int32) (vc : Int32) : va_W := [(h, .inr (2, [.ref q0, .ref q1, .ref q2, .ref q3, .ref q4, .ref q5, .ref q6, .int wa, .int wb, .int wc])), (q0, .inl (k 0, 3, .inl f0)), (q1, .inl (k 0, 3, .inl f1)), (q2, .inl (k 0, 3, .inl f2)), (q3, .inl (k 0, 3, .inl f3)), (q4, .inl (k 0, 3, .inl f4)), (q5, .inl (k 0, 3, .inl f5)), (q6, .inl (k 0, 3, .inl f6)), (h2, .inr (2, [.ref z0, .ref z1, .ref z2, .ref z3, .ref z4, .ref z5, .ref z6, .int va, .int vb, .int vc])), (z0, .inl (k 0, 3, .inl g0)), (z1, .inl (k 0, 3, .inl g1)), (z2, .inl (k 0, 3, .inl g2)), (z3, .inl (k 0, 3, .inl g3)), (z4, .inl (k 0, 3, .inl g4)), (z5, .inl (k 0, 3, .inl g5)), (z6, .inl (k 0, 3, .inl g6))]
abbrev r_X2_copyFrom : Room := { frames := 1, cells := 0, slots := 0, locals := 40 }
def w_X2_copyFrom (k : Nat → ClassId) (h : Nat) (q0 : Nat) (q1 : Nat) (q2 : Nat) (q3 : Nat) (q4 : Nat) (q5 : Nat) (q6 : Nat) (h2 : Nat) (z0 : Nat) (z1 : Nat) (z2 : Nat) (z3 : Nat) (z4 : Nat) (z5 : Nat) (z6 : Nat) (f0 : Nat → Int32) (f1 : Nat → Int32) (f2 : Nat → Int32) (f3 : Nat → Int32) (f4 : Nat → Int32) (f5 : Nat → Int32) (f6 : Nat → Int32) (g0 : Nat → Int32) (g1 : Nat → Int32) (g2 : Nat → Int32) (g3 : Nat → Int32) (g4 : Nat → Int32) (g5 : Nat → Int32) (g6 : Nat → Int32) (wa : Int32) (wb : Int32) (wc : Int32) (va : Int32) (vb : Int32) (vc : Int32) : Unit → va_W := fun _ => [(h, .inr (2, [.ref q0, .ref q1, .ref q2, .ref q3, .ref q4, .ref q5, .ref q6, .int va, .int vb, .int vc])), (q0, .inl (k 0, 3, .inl (va_cpy g0 f0 0 0 3))), (q1, .inl (k 0, 3, .inl (va_cpy g1 f1 0 0 3))), (q2, .inl (k 0, 3, .inl (va_cpy g2 f2 0 0 3))), (q3, .inl (k 0, 3, .inl (va_cpy g3 f3 0 0 3))), (q4, .inl (k 0, 3, .inl (va_cpy g4 f4 0 0 3))), (q5, .inl (k 0, 3, .inl (va_cpy g5 f5 0 0 3))), (q6, .inl (k 0, 3, .inl (va_cpy g6 f6 0 0 3))), (h2, .inr (2, [.ref z0, .ref z1, .ref z2, .ref z3, .ref z4, .ref z5, .ref z6, .int va, .int vb, .int vc])), (z0, .inl (k 0, 3, .inl g0)), (z1, .inl (k 0, 3, .inl g1)), (z2, .inl (k 0, 3, .inl g2)), (z3, .inl (k 0, 3, .inl g3)), (z4, .inl (k 0, 3, .inl g4)), (z5, .inl (k 0, 3, .inl g5)), (z6, .inl (k 0, 3, .inl g6))]
def p_X2_copyFrom (k : Nat → ClassId) (h : Nat) (q0 : Nat) (q1 : Nat) (q2 : Nat) (q3 : Nat) (q4 : Nat) (q5 : Nat) (q6 : Nat) (h2 : Nat) (z0 : Nat) (z1 : Nat) (z2 : Nat) (z3 : Nat) (z4 : Nat) (z5 : Nat) (z6 : Nat) (f0 : Nat → Int32) (f1 : Nat → Int32) (f2 : Nat → Int32) (f3 : Nat → Int32) (f4 : Nat → Int32) (f5 : Nat → Int32) (f6 : Nat → Int32) (g0 : Nat → Int32) (g1 : Nat → Int32) (g2 : Nat → Int32) (g3 : Nat → Int32) (g4 : Nat → Int32) (g5 : Nat → Int32) (g6 : Nat → Int32) (wa : Int32) (wb : Int32) (wc : Int32) (va : Int32) (vb : Int32) (vc : Int32) : Unit → Prop := fun (u : Unit) => True
abbrev q_X2_copyFrom (D : va_G) (k : Nat → ClassId) (h : Nat) (q0 : Nat) (q1 : Nat) (q2 : Nat) (q3 : Nat) (q4 : Nat) (q5 : Nat) (q6 : Nat) (h2 : Nat) (z0 : Nat) (z1 : Nat) (z2 : Nat) (z3 : Nat) (z4 : Nat) (z5 : Nat) (z6 : Nat) (f0 : Nat → Int32) (f1 : Nat → Int32) (f2 : Nat → Int32) (f3 : Nat → Int32) (f4 : Nat → Int32) (f5 : Nat → Int32) (f6 : Nat → Int32) (g0 : Nat → Int32) (g1 : Nat → Int32) (g2 : Nat → Int32) (g3 : Nat → Int32) (g4 : Nat → Int32) (g5 : Nat → Int32) (g6 : Nat → Int32) (wa : Int32) (wb : Int32) (wc : Int32) (va : Int32) (vb : Int32) (vc : Int32) (A : Nat → Prop) : Array Value → State → Outcome → State → Prop := va_Qv (p_X2_copyFrom k h q0 q1 q2 q3 q4 q5 q6 h2 z0 z1 z2 z3 z4 z5 z6 f0 f1 f2 f3 f4 f5 f6 g0 g1 g2 g3 g4 g5 g6 wa wb wc va vb vc) (fun u9 t9 => BO D (w_X2_copyFrom k h q0 q1 q2 q3 q4 q5 q6 h2 z0 z1 z2 z3 z4 z5 z6 f0 f1 f2 f3 f4 f5 f6 g0 g1 g2 g3 g4 g5 g6 wa wb wc va vb vc u9) A t9) A
set_option maxHeartbeats 2000000 in
set_option maxRecDepth 100000 in
theorem X2_copyFrom (l : Launch) (D : va_G) (k : Nat → ClassId) (sz : Nat) (h : Nat) (q0 : Nat) (q1 : Nat) (q2 : Nat) (q3 : Nat) (q4 : Nat) (q5 : Nat) (q6 : Nat) (h2 : Nat) (z0 : Nat) (z1 : Nat) (z2 : Nat) (z3 : Nat) (z4 : Nat) (z5 : Nat) (z6 : Nat) (f0 : Nat → Int32) (f1 : Nat → Int32) (f2 : Nat → Int32) (f3 : Nat → Int32) (f4 : Nat → Int32) (f5 : Nat → Int32) (f6 : Nat → Int32) (g0 : Nat → Int32) (g1 : Nat → Int32) (g2 : Nat → Int32) (g3 : Nat → Int32) (g4 : Nat → Int32) (g5 : Nat → Int32) (g6 : Nat → Int32) (wa : Int32) (wb : Int32) (wc : Int32) (va : Int32) (vb : Int32) (vc : Int32)  : Met l yX2_copyFrom wsX2_copyFrom r_X2_copyFrom (va_Pc [.ref h, .ref h2] (PR D k (c_X2_copyFrom k h q0 q1 q2 q3 q4 q5 q6 h2 z0 z1 z2 z3 z4 z5 z6 f0 f1 f2 f3 f4 f5 f6 g0 g1 g2 g3 g4 g5 g6 wa wb wc va vb vc) sz)) (q_X2_copyFrom D k h q0 q1 q2 q3 q4 q5 q6 h2 z0 z1 z2 z3 z4 z5 z6 f0 f1 f2 f3 f4 f5 f6 g0 g1 g2 g3 g4 g5 g6 wa wb wc va vb vc (va_A (c_X2_copyFrom k h q0 q1 q2 q3 q4 q5 q6 h2 z0 z1 z2 z3 z4 z5 z6 f0 f1 f2 f3 f4 f5 f6 g0 g1 g2 g3 g4 g5 g6 wa wb wc va vb vc) sz)) 0 0 (va_A (c_X2_copyFrom k h q0 q1 q2 q3 q4 q5 q6 h2 z0 z1 z2 z3 z4 z5 z6 f0 f1 f2 f3 f4 f5 f6 g0 g1 g2 g3 g4 g5 g6 wa wb wc va vb vc) sz) := by
  refine Met.ofW (cc := cX2_copyFrom) (maxL := 2) (ret := none) (by decide) rfl ?_
  intro p e s m args below meth c s₁ B hml hv
  obtain ⟨rfl, hsz, hP, hG, hD0⟩ := hv
  have hx := B.exec
  have hb := B.bytes
  have hr := B.returns
  have hts := atoms_spec (ws := wsX2_copyFrom) B.pre
  have hown : s.vm.findClass RX2 = some m.cls := findClass_of_methodNamed B.named
  have hlocks := B.notSynchronized
  have hi2 : ∀ w ∈ wsX20, w ∈ wsX2_copyFrom := fun _ h => List.mem_cons_of_mem _ (List.mem_append_right _ h)
  subst hsz
  have hD := hD0.self (sz := s.heap.size)
  generalize hAe : va_A (c_X2_copyFrom k h q0 q1 q2 q3 q4 q5 q6 h2 z0 z1 z2 z3 z4 z5 z6 f0 f1 f2 f3 f4 f5 f6 g0 g1 g2 g3 g4 g5 g6 wa wb wc va vb vc) s.heap.size = A at hD ⊢
  have hA : ∀ q : Nat, s.heap.size ≤ q → A q := fun q h => by rw [← hAe]; exact Or.inr h
  have hS : va_S A s.heap s.heap [] := va_S.rf
  have hP : va_P D vwCl [(h, .inr (2, [.ref q0, .ref q1, .ref q2, .ref q3, .ref q4, .ref q5, .ref q6, .int wa, .int wb, .int wc])), (q0, .inl (k 0, 3, .inl f0)), (q1, .inl (k 0, 3, .inl f1)), (q2, .inl (k 0, 3, .inl f2)), (q3, .inl (k 0, 3, .inl f3)), (q4, .inl (k 0, 3, .inl f4)), (q5, .inl (k 0, 3, .inl f5)), (q6, .inl (k 0, 3, .inl f6)), (h2, .inr (2, [.ref z0, .ref z1, .ref z2, .ref z3, .ref z4, .ref z5, .ref z6, .int va, .int vb, .int vc])), (z0, .inl (k 0, 3, .inl g0)), (z1, .inl (k 0, 3, .inl g1)), (z2, .inl (k 0, 3, .inl g2)), (z3, .inl (k 0, 3, .inl g3)), (z4, .inl (k 0, 3, .inl g4)), (z5, .inl (k 0, 3, .inl g5)), (z6, .inl (k 0, 3, .inl g6))] s.heap := hP
  have hD : va_D A [(h, .inr (2, [.ref q0, .ref q1, .ref q2, .ref q3, .ref q4, .ref q5, .ref q6, .int wa, .int wb, .int wc])), (q0, .inl (k 0, 3, .inl f0)), (q1, .inl (k 0, 3, .inl f1)), (q2, .inl (k 0, 3, .inl f2)), (q3, .inl (k 0, 3, .inl f3)), (q4, .inl (k 0, 3, .inl f4)), (q5, .inl (k 0, 3, .inl f5)), (q6, .inl (k 0, 3, .inl f6)), (h2, .inr (2, [.ref z0, .ref z1, .ref z2, .ref z3, .ref z4, .ref z5, .ref z6, .int va, .int vb, .int vc])), (z0, .inl (k 0, 3, .inl g0)), (z1, .inl (k 0, 3, .inl g1)), (z2, .inl (k 0, 3, .inl g2)), (z3, .inl (k 0, 3, .inl g3)), (z4, .inl (k 0, 3, .inl g4)), (z5, .inl (k 0, 3, .inl g5)), (z6, .inl (k 0, 3, .inl g6))] := hD
  have hl := lv_entry ([.ref h, .ref h2]) (n := 2) (Nat.le_of_ble_eq_true rfl)
  rw [lg_entry_eq]
  generalize (lg_sl ([.ref h, .ref h2]) ++ List.replicate (2 - (lg_sl ([.ref h, .ref h2])).length) Slot.unset).toArray = ls at hl ⊢
  have hl : lv_has ls 2 [(0, .ref h), (1, .ref h2)] := hl
  refine lv_aload_n hx hb dX2_copyFrom_0 rfl (lv_at hl 1 rfl) ?_
  refine va_get (D := D) (ci := 2) (v := .ref z0) (C := RX2) (T := TX2) (N := 10) hx hb hts hi2 hown hG.1 hP 8 rfl rfl 0 (by decide) (hts (.fieldLink RX2 9 "SleptMatters$Course" "sleepers" "[I") (List.mem_cons_of_mem _ (List.mem_append_left _ (List.mem_of_getElem? (i := 0) rfl)))) (fun _ h9 => h9) rfl dX2_copyFrom_1 ?_
  refine lv_iconst (v := 0) hx hb dX2_copyFrom_4 (by decide) ?_
  refine lv_aload_n hx hb dX2_copyFrom_5 rfl (lv_at hl 0 rfl) ?_
  refine va_get (D := D) (ci := 2) (v := .ref q0) (C := RX2) (T := TX2) (N := 10) hx hb hts hi2 hown hG.1 hP 0 rfl rfl 0 (by decide) (hts (.fieldLink RX2 9 "SleptMatters$Course" "sleepers" "[I") (List.mem_cons_of_mem _ (List.mem_append_left _ (List.mem_of_getElem? (i := 0) rfl)))) (fun _ h9 => h9) rfl dX2_copyFrom_6 ?_
  refine lv_iconst (v := 0) hx hb dX2_copyFrom_9 (by decide) ?_
  refine lv_iconst (v := 3) hx hb dX2_copyFrom_10 (by decide) ?_
  refine va_copyi (ty := .int) hx hb (hml.trans hl.1.symm) hown (hts (.methodLink RX2 55 arraycopyName) (List.mem_cons_of_mem _ (List.mem_append_left _ (List.mem_of_getElem? (i := 1) rfl)))) (hts (.native arraycopyName) (List.mem_cons_of_mem _ (List.mem_append_left _ (List.mem_of_getElem? (i := 2) rfl)))) (hts (.static arraycopyName) (List.mem_cons_of_mem _ (List.mem_append_left _ (List.mem_of_getElem? (i := 3) rfl)))) (hts (.initialized "java/lang/System") (List.mem_cons_of_mem _ (List.mem_append_left _ (List.mem_of_getElem? (i := 4) rfl)))) hG.1 hP hD hS 9 1 0 0 rfl rfl rfl rfl rfl (by decide) (by decide) (by decide) (by decide) (by decide) (fun _ _ => rfl) (Nat.le_of_ble_eq_true rfl) (by decide +kernel) dX2_copyFrom_11 (fun H locs hP hD hS => ?_)
  have hP : va_P D vwCl [(h, .inr (2, [.ref q0, .ref q1, .ref q2, .ref q3, .ref q4, .ref q5, .ref q6, .int wa, .int wb, .int wc])), (q0, .inl (k 0, 3, .inl (va_cpy g0 f0 0 0 3))), (q1, .inl (k 0, 3, .inl f1)), (q2, .inl (k 0, 3, .inl f2)), (q3, .inl (k 0, 3, .inl f3)), (q4, .inl (k 0, 3, .inl f4)), (q5, .inl (k 0, 3, .inl f5)), (q6, .inl (k 0, 3, .inl f6)), (h2, .inr (2, [.ref z0, .ref z1, .ref z2, .ref z3, .ref z4, .ref z5, .ref z6, .int va, .int vb, .int vc])), (z0, .inl (k 0, 3, .inl g0)), (z1, .inl (k 0, 3, .inl g1)), (z2, .inl (k 0, 3, .inl g2)), (z3, .inl (k 0, 3, .inl g3)), (z4, .inl (k 0, 3, .inl g4)), (z5, .inl (k 0, 3, .inl g5)), (z6, .inl (k 0, 3, .inl g6))] H := hP
  have hD : va_D A [(h, .inr (2, [.ref q0, .ref q1, .ref q2, .ref q3, .ref q4, .ref q5, .ref q6, .int wa, .int wb, .int wc])), (q0, .inl (k 0, 3, .inl (va_cpy g0 f0 0 0 3))), (q1, .inl (k 0, 3, .inl f1)), (q2, .inl (k 0, 3, .inl f2)), (q3, .inl (k 0, 3, .inl f3)), (q4, .inl (k 0, 3, .inl f4)), (q5, .inl (k 0, 3, .inl f5)), (q6, .inl (k 0, 3, .inl f6)), (h2, .inr (2, [.ref z0, .ref z1, .ref z2, .ref z3, .ref z4, .ref z5, .ref z6, .int va, .int vb, .int vc])), (z0, .inl (k 0, 3, .inl g0)), (z1, .inl (k 0, 3, .inl g1)), (z2, .inl (k 0, 3, .inl g2)), (z3, .inl (k 0, 3, .inl g3)), (z4, .inl (k 0, 3, .inl g4)), (z5, .inl (k 0, 3, .inl g5)), (z6, .inl (k 0, 3, .inl g6))] := hD
  refine lv_aload_n hx hb dX2_copyFrom_14 rfl (lv_at hl 1 rfl) ?_
  refine va_get (D := D) (ci := 2) (v := .ref z1) (C := RX2) (T := TX2) (N := 10) hx hb hts hi2 hown hG.1 hP 8 rfl rfl 1 (by decide) (hts (.fieldLink RX2 15 "SleptMatters$Course" "houses" "[I") (List.mem_cons_of_mem _ (List.mem_append_left _ (List.mem_of_getElem? (i := 5) rfl)))) (fun _ h9 => h9) rfl dX2_copyFrom_15 ?_
  refine lv_iconst (v := 0) hx hb dX2_copyFrom_18 (by decide) ?_
  refine lv_aload_n hx hb dX2_copyFrom_19 rfl (lv_at hl 0 rfl) ?_
  refine va_get (D := D) (ci := 2) (v := .ref q1) (C := RX2) (T := TX2) (N := 10) hx hb hts hi2 hown hG.1 hP 0 rfl rfl 1 (by decide) (hts (.fieldLink RX2 15 "SleptMatters$Course" "houses" "[I") (List.mem_cons_of_mem _ (List.mem_append_left _ (List.mem_of_getElem? (i := 5) rfl)))) (fun _ h9 => h9) rfl dX2_copyFrom_20 ?_
  refine lv_iconst (v := 0) hx hb dX2_copyFrom_23 (by decide) ?_
  refine lv_iconst (v := 3) hx hb dX2_copyFrom_24 (by decide) ?_
  refine va_copyi (ty := .int) hx hb (hml.trans hl.1.symm) hown (hts (.methodLink RX2 55 arraycopyName) (List.mem_cons_of_mem _ (List.mem_append_left _ (List.mem_of_getElem? (i := 1) rfl)))) (hts (.native arraycopyName) (List.mem_cons_of_mem _ (List.mem_append_left _ (List.mem_of_getElem? (i := 2) rfl)))) (hts (.static arraycopyName) (List.mem_cons_of_mem _ (List.mem_append_left _ (List.mem_of_getElem? (i := 3) rfl)))) (hts (.initialized "java/lang/System") (List.mem_cons_of_mem _ (List.mem_append_left _ (List.mem_of_getElem? (i := 4) rfl)))) hG.1 hP hD hS 10 2 0 0 rfl rfl rfl rfl rfl (by decide) (by decide) (by decide) (by decide) (by decide) (fun _ _ => rfl) (Nat.le_of_ble_eq_true rfl) (by decide +kernel) dX2_copyFrom_25 (fun H locs hP hD hS => ?_)
  have hP : va_P D vwCl [(h, .inr (2, [.ref q0, .ref q1, .ref q2, .ref q3, .ref q4, .ref q5, .ref q6, .int wa, .int wb, .int wc])), (q0, .inl (k 0, 3, .inl (va_cpy g0 f0 0 0 3))), (q1, .inl (k 0, 3, .inl (va_cpy g1 f1 0 0 3))), (q2, .inl (k 0, 3, .inl f2)), (q3, .inl (k 0, 3, .inl f3)), (q4, .inl (k 0, 3, .inl f4)), (q5, .inl (k 0, 3, .inl f5)), (q6, .inl (k 0, 3, .inl f6)), (h2, .inr (2, [.ref z0, .ref z1, .ref z2, .ref z3, .ref z4, .ref z5, .ref z6, .int va, .int vb, .int vc])), (z0, .inl (k 0, 3, .inl g0)), (z1, .inl (k 0, 3, .inl g1)), (z2, .inl (k 0, 3, .inl g2)), (z3, .inl (k 0, 3, .inl g3)), (z4, .inl (k 0, 3, .inl g4)), (z5, .inl (k 0, 3, .inl g5)), (z6, .inl (k 0, 3, .inl g6))] H := hP
  have hD : va_D A [(h, .inr (2, [.ref q0, .ref q1, .ref q2, .ref q3, .ref q4, .ref q5, .ref q6, .int wa, .int wb, .int wc])), (q0, .inl (k 0, 3, .inl (va_cpy g0 f0 0 0 3))), (q1, .inl (k 0, 3, .inl (va_cpy g1 f1 0 0 3))), (q2, .inl (k 0, 3, .inl f2)), (q3, .inl (k 0, 3, .inl f3)), (q4, .inl (k 0, 3, .inl f4)), (q5, .inl (k 0, 3, .inl f5)), (q6, .inl (k 0, 3, .inl f6)), (h2, .inr (2, [.ref z0, .ref z1, .ref z2, .ref z3, .ref z4, .ref z5, .ref z6, .int va, .int vb, .int vc])), (z0, .inl (k 0, 3, .inl g0)), (z1, .inl (k 0, 3, .inl g1)), (z2, .inl (k 0, 3, .inl g2)), (z3, .inl (k 0, 3, .inl g3)), (z4, .inl (k 0, 3, .inl g4)), (z5, .inl (k 0, 3, .inl g5)), (z6, .inl (k 0, 3, .inl g6))] := hD
  refine lv_aload_n hx hb dX2_copyFrom_28 rfl (lv_at hl 1 rfl) ?_
  refine va_get (D := D) (ci := 2) (v := .ref z2) (C := RX2) (T := TX2) (N := 10) hx hb hts hi2 hown hG.1 hP 8 rfl rfl 2 (by decide) (hts (.fieldLink RX2 18 "SleptMatters$Course" "yes" "[I") (List.mem_cons_of_mem _ (List.mem_append_left _ (List.mem_of_getElem? (i := 6) rfl)))) (fun _ h9 => h9) rfl dX2_copyFrom_29 ?_
  refine lv_iconst (v := 0) hx hb dX2_copyFrom_32 (by decide) ?_
  refine lv_aload_n hx hb dX2_copyFrom_33 rfl (lv_at hl 0 rfl) ?_
  refine va_get (D := D) (ci := 2) (v := .ref q2) (C := RX2) (T := TX2) (N := 10) hx hb hts hi2 hown hG.1 hP 0 rfl rfl 2 (by decide) (hts (.fieldLink RX2 18 "SleptMatters$Course" "yes" "[I") (List.mem_cons_of_mem _ (List.mem_append_left _ (List.mem_of_getElem? (i := 6) rfl)))) (fun _ h9 => h9) rfl dX2_copyFrom_34 ?_
  refine lv_iconst (v := 0) hx hb dX2_copyFrom_37 (by decide) ?_
  refine lv_iconst (v := 3) hx hb dX2_copyFrom_38 (by decide) ?_
  refine va_copyi (ty := .int) hx hb (hml.trans hl.1.symm) hown (hts (.methodLink RX2 55 arraycopyName) (List.mem_cons_of_mem _ (List.mem_append_left _ (List.mem_of_getElem? (i := 1) rfl)))) (hts (.native arraycopyName) (List.mem_cons_of_mem _ (List.mem_append_left _ (List.mem_of_getElem? (i := 2) rfl)))) (hts (.static arraycopyName) (List.mem_cons_of_mem _ (List.mem_append_left _ (List.mem_of_getElem? (i := 3) rfl)))) (hts (.initialized "java/lang/System") (List.mem_cons_of_mem _ (List.mem_append_left _ (List.mem_of_getElem? (i := 4) rfl)))) hG.1 hP hD hS 11 3 0 0 rfl rfl rfl rfl rfl (by decide) (by decide) (by decide) (by decide) (by decide) (fun _ _ => rfl) (Nat.le_of_ble_eq_true rfl) (by decide +kernel) dX2_copyFrom_39 (fun H locs hP hD hS => ?_)
  have hP : va_P D vwCl [(h, .inr (2, [.ref q0, .ref q1, .ref q2, .ref q3, .ref q4, .ref q5, .ref q6, .int wa, .int wb, .int wc])), (q0, .inl (k 0, 3, .inl (va_cpy g0 f0 0 0 3))), (q1, .inl (k 0, 3, .inl (va_cpy g1 f1 0 0 3))), (q2, .inl (k 0, 3, .inl (va_cpy g2 f2 0 0 3))), (q3, .inl (k 0, 3, .inl f3)), (q4, .inl (k 0, 3, .inl f4)), (q5, .inl (k 0, 3, .inl f5)), (q6, .inl (k 0, 3, .inl f6)), (h2, .inr (2, [.ref z0, .ref z1, .ref z2, .ref z3, .ref z4, .ref z5, .ref z6, .int va, .int vb, .int vc])), (z0, .inl (k 0, 3, .inl g0)), (z1, .inl (k 0, 3, .inl g1)), (z2, .inl (k 0, 3, .inl g2)), (z3, .inl (k 0, 3, .inl g3)), (z4, .inl (k 0, 3, .inl g4)), (z5, .inl (k 0, 3, .inl g5)), (z6, .inl (k 0, 3, .inl g6))] H := hP
  have hD : va_D A [(h, .inr (2, [.ref q0, .ref q1, .ref q2, .ref q3, .ref q4, .ref q5, .ref q6, .int wa, .int wb, .int wc])), (q0, .inl (k 0, 3, .inl (va_cpy g0 f0 0 0 3))), (q1, .inl (k 0, 3, .inl (va_cpy g1 f1 0 0 3))), (q2, .inl (k 0, 3, .inl (va_cpy g2 f2 0 0 3))), (q3, .inl (k 0, 3, .inl f3)), (q4, .inl (k 0, 3, .inl f4)), (q5, .inl (k 0, 3, .inl f5)), (q6, .inl (k 0, 3, .inl f6)), (h2, .inr (2, [.ref z0, .ref z1, .ref z2, .ref z3, .ref z4, .ref z5, .ref z6, .int va, .int vb, .int vc])), (z0, .inl (k 0, 3, .inl g0)), (z1, .inl (k 0, 3, .inl g1)), (z2, .inl (k 0, 3, .inl g2)), (z3, .inl (k 0, 3, .inl g3)), (z4, .inl (k 0, 3, .inl g4)), (z5, .inl (k 0, 3, .inl g5)), (z6, .inl (k 0, 3, .inl g6))] := hD
  refine lv_aload_n hx hb dX2_copyFrom_42 rfl (lv_at hl 1 rfl) ?_
  refine va_get (D := D) (ci := 2) (v := .ref z3) (C := RX2) (T := TX2) (N := 10) hx hb hts hi2 hown hG.1 hP 8 rfl rfl 3 (by decide) (hts (.fieldLink RX2 21 "SleptMatters$Course" "outcome" "[I") (List.mem_cons_of_mem _ (List.mem_append_left _ (List.mem_of_getElem? (i := 7) rfl)))) (fun _ h9 => h9) rfl dX2_copyFrom_43 ?_
  refine lv_iconst (v := 0) hx hb dX2_copyFrom_46 (by decide) ?_
  refine lv_aload_n hx hb dX2_copyFrom_47 rfl (lv_at hl 0 rfl) ?_
  refine va_get (D := D) (ci := 2) (v := .ref q3) (C := RX2) (T := TX2) (N := 10) hx hb hts hi2 hown hG.1 hP 0 rfl rfl 3 (by decide) (hts (.fieldLink RX2 21 "SleptMatters$Course" "outcome" "[I") (List.mem_cons_of_mem _ (List.mem_append_left _ (List.mem_of_getElem? (i := 7) rfl)))) (fun _ h9 => h9) rfl dX2_copyFrom_48 ?_
  refine lv_iconst (v := 0) hx hb dX2_copyFrom_51 (by decide) ?_
  refine lv_iconst (v := 3) hx hb dX2_copyFrom_52 (by decide) ?_
  refine va_copyi (ty := .int) hx hb (hml.trans hl.1.symm) hown (hts (.methodLink RX2 55 arraycopyName) (List.mem_cons_of_mem _ (List.mem_append_left _ (List.mem_of_getElem? (i := 1) rfl)))) (hts (.native arraycopyName) (List.mem_cons_of_mem _ (List.mem_append_left _ (List.mem_of_getElem? (i := 2) rfl)))) (hts (.static arraycopyName) (List.mem_cons_of_mem _ (List.mem_append_left _ (List.mem_of_getElem? (i := 3) rfl)))) (hts (.initialized "java/lang/System") (List.mem_cons_of_mem _ (List.mem_append_left _ (List.mem_of_getElem? (i := 4) rfl)))) hG.1 hP hD hS 12 4 0 0 rfl rfl rfl rfl rfl (by decide) (by decide) (by decide) (by decide) (by decide) (fun _ _ => rfl) (Nat.le_of_ble_eq_true rfl) (by decide +kernel) dX2_copyFrom_53 (fun H locs hP hD hS => ?_)
  have hP : va_P D vwCl [(h, .inr (2, [.ref q0, .ref q1, .ref q2, .ref q3, .ref q4, .ref q5, .ref q6, .int wa, .int wb, .int wc])), (q0, .inl (k 0, 3, .inl (va_cpy g0 f0 0 0 3))), (q1, .inl (k 0, 3, .inl (va_cpy g1 f1 0 0 3))), (q2, .inl (k 0, 3, .inl (va_cpy g2 f2 0 0 3))), (q3, .inl (k 0, 3, .inl (va_cpy g3 f3 0 0 3))), (q4, .inl (k 0, 3, .inl f4)), (q5, .inl (k 0, 3, .inl f5)), (q6, .inl (k 0, 3, .inl f6)), (h2, .inr (2, [.ref z0, .ref z1, .ref z2, .ref z3, .ref z4, .ref z5, .ref z6, .int va, .int vb, .int vc])), (z0, .inl (k 0, 3, .inl g0)), (z1, .inl (k 0, 3, .inl g1)), (z2, .inl (k 0, 3, .inl g2)), (z3, .inl (k 0, 3, .inl g3)), (z4, .inl (k 0, 3, .inl g4)), (z5, .inl (k 0, 3, .inl g5)), (z6, .inl (k 0, 3, .inl g6))] H := hP
  have hD : va_D A [(h, .inr (2, [.ref q0, .ref q1, .ref q2, .ref q3, .ref q4, .ref q5, .ref q6, .int wa, .int wb, .int wc])), (q0, .inl (k 0, 3, .inl (va_cpy g0 f0 0 0 3))), (q1, .inl (k 0, 3, .inl (va_cpy g1 f1 0 0 3))), (q2, .inl (k 0, 3, .inl (va_cpy g2 f2 0 0 3))), (q3, .inl (k 0, 3, .inl (va_cpy g3 f3 0 0 3))), (q4, .inl (k 0, 3, .inl f4)), (q5, .inl (k 0, 3, .inl f5)), (q6, .inl (k 0, 3, .inl f6)), (h2, .inr (2, [.ref z0, .ref z1, .ref z2, .ref z3, .ref z4, .ref z5, .ref z6, .int va, .int vb, .int vc])), (z0, .inl (k 0, 3, .inl g0)), (z1, .inl (k 0, 3, .inl g1)), (z2, .inl (k 0, 3, .inl g2)), (z3, .inl (k 0, 3, .inl g3)), (z4, .inl (k 0, 3, .inl g4)), (z5, .inl (k 0, 3, .inl g5)), (z6, .inl (k 0, 3, .inl g6))] := hD
  refine lv_aload_n hx hb dX2_copyFrom_56 rfl (lv_at hl 1 rfl) ?_
  refine va_get (D := D) (ci := 2) (v := .ref z4) (C := RX2) (T := TX2) (N := 10) hx hb hts hi2 hown hG.1 hP 8 rfl rfl 4 (by decide) (hts (.fieldLink RX2 24 "SleptMatters$Course" "decidedOn" "[I") (List.mem_cons_of_mem _ (List.mem_append_left _ (List.mem_of_getElem? (i := 8) rfl)))) (fun _ h9 => h9) rfl dX2_copyFrom_57 ?_
  refine lv_iconst (v := 0) hx hb dX2_copyFrom_60 (by decide) ?_
  refine lv_aload_n hx hb dX2_copyFrom_61 rfl (lv_at hl 0 rfl) ?_
  refine va_get (D := D) (ci := 2) (v := .ref q4) (C := RX2) (T := TX2) (N := 10) hx hb hts hi2 hown hG.1 hP 0 rfl rfl 4 (by decide) (hts (.fieldLink RX2 24 "SleptMatters$Course" "decidedOn" "[I") (List.mem_cons_of_mem _ (List.mem_append_left _ (List.mem_of_getElem? (i := 8) rfl)))) (fun _ h9 => h9) rfl dX2_copyFrom_62 ?_
  refine lv_iconst (v := 0) hx hb dX2_copyFrom_65 (by decide) ?_
  refine lv_iconst (v := 3) hx hb dX2_copyFrom_66 (by decide) ?_
  refine va_copyi (ty := .int) hx hb (hml.trans hl.1.symm) hown (hts (.methodLink RX2 55 arraycopyName) (List.mem_cons_of_mem _ (List.mem_append_left _ (List.mem_of_getElem? (i := 1) rfl)))) (hts (.native arraycopyName) (List.mem_cons_of_mem _ (List.mem_append_left _ (List.mem_of_getElem? (i := 2) rfl)))) (hts (.static arraycopyName) (List.mem_cons_of_mem _ (List.mem_append_left _ (List.mem_of_getElem? (i := 3) rfl)))) (hts (.initialized "java/lang/System") (List.mem_cons_of_mem _ (List.mem_append_left _ (List.mem_of_getElem? (i := 4) rfl)))) hG.1 hP hD hS 13 5 0 0 rfl rfl rfl rfl rfl (by decide) (by decide) (by decide) (by decide) (by decide) (fun _ _ => rfl) (Nat.le_of_ble_eq_true rfl) (by decide +kernel) dX2_copyFrom_67 (fun H locs hP hD hS => ?_)
  have hP : va_P D vwCl [(h, .inr (2, [.ref q0, .ref q1, .ref q2, .ref q3, .ref q4, .ref q5, .ref q6, .int wa, .int wb, .int wc])), (q0, .inl (k 0, 3, .inl (va_cpy g0 f0 0 0 3))), (q1, .inl (k 0, 3, .inl (va_cpy g1 f1 0 0 3))), (q2, .inl (k 0, 3, .inl (va_cpy g2 f2 0 0 3))), (q3, .inl (k 0, 3, .inl (va_cpy g3 f3 0 0 3))), (q4, .inl (k 0, 3, .inl (va_cpy g4 f4 0 0 3))), (q5, .inl (k 0, 3, .inl f5)), (q6, .inl (k 0, 3, .inl f6)), (h2, .inr (2, [.ref z0, .ref z1, .ref z2, .ref z3, .ref z4, .ref z5, .ref z6, .int va, .int vb, .int vc])), (z0, .inl (k 0, 3, .inl g0)), (z1, .inl (k 0, 3, .inl g1)), (z2, .inl (k 0, 3, .inl g2)), (z3, .inl (k 0, 3, .inl g3)), (z4, .inl (k 0, 3, .inl g4)), (z5, .inl (k 0, 3, .inl g5)), (z6, .inl (k 0, 3, .inl g6))] H := hP
  have hD : va_D A [(h, .inr (2, [.ref q0, .ref q1, .ref q2, .ref q3, .ref q4, .ref q5, .ref q6, .int wa, .int wb, .int wc])), (q0, .inl (k 0, 3, .inl (va_cpy g0 f0 0 0 3))), (q1, .inl (k 0, 3, .inl (va_cpy g1 f1 0 0 3))), (q2, .inl (k 0, 3, .inl (va_cpy g2 f2 0 0 3))), (q3, .inl (k 0, 3, .inl (va_cpy g3 f3 0 0 3))), (q4, .inl (k 0, 3, .inl (va_cpy g4 f4 0 0 3))), (q5, .inl (k 0, 3, .inl f5)), (q6, .inl (k 0, 3, .inl f6)), (h2, .inr (2, [.ref z0, .ref z1, .ref z2, .ref z3, .ref z4, .ref z5, .ref z6, .int va, .int vb, .int vc])), (z0, .inl (k 0, 3, .inl g0)), (z1, .inl (k 0, 3, .inl g1)), (z2, .inl (k 0, 3, .inl g2)), (z3, .inl (k 0, 3, .inl g3)), (z4, .inl (k 0, 3, .inl g4)), (z5, .inl (k 0, 3, .inl g5)), (z6, .inl (k 0, 3, .inl g6))] := hD
  refine lv_aload_n hx hb dX2_copyFrom_70 rfl (lv_at hl 1 rfl) ?_
  refine va_get (D := D) (ci := 2) (v := .ref z5) (C := RX2) (T := TX2) (N := 10) hx hb hts hi2 hown hG.1 hP 8 rfl rfl 5 (by decide) (hts (.fieldLink RX2 27 "SleptMatters$Course" "laidSleeper" "[I") (List.mem_cons_of_mem _ (List.mem_append_left _ (List.mem_of_getElem? (i := 9) rfl)))) (fun _ h9 => h9) rfl dX2_copyFrom_71 ?_
  refine lv_iconst (v := 0) hx hb dX2_copyFrom_74 (by decide) ?_
  refine lv_aload_n hx hb dX2_copyFrom_75 rfl (lv_at hl 0 rfl) ?_
  refine va_get (D := D) (ci := 2) (v := .ref q5) (C := RX2) (T := TX2) (N := 10) hx hb hts hi2 hown hG.1 hP 0 rfl rfl 5 (by decide) (hts (.fieldLink RX2 27 "SleptMatters$Course" "laidSleeper" "[I") (List.mem_cons_of_mem _ (List.mem_append_left _ (List.mem_of_getElem? (i := 9) rfl)))) (fun _ h9 => h9) rfl dX2_copyFrom_76 ?_
  refine lv_iconst (v := 0) hx hb dX2_copyFrom_79 (by decide) ?_
  refine lv_iconst (v := 3) hx hb dX2_copyFrom_80 (by decide) ?_
  refine va_copyi (ty := .int) hx hb (hml.trans hl.1.symm) hown (hts (.methodLink RX2 55 arraycopyName) (List.mem_cons_of_mem _ (List.mem_append_left _ (List.mem_of_getElem? (i := 1) rfl)))) (hts (.native arraycopyName) (List.mem_cons_of_mem _ (List.mem_append_left _ (List.mem_of_getElem? (i := 2) rfl)))) (hts (.static arraycopyName) (List.mem_cons_of_mem _ (List.mem_append_left _ (List.mem_of_getElem? (i := 3) rfl)))) (hts (.initialized "java/lang/System") (List.mem_cons_of_mem _ (List.mem_append_left _ (List.mem_of_getElem? (i := 4) rfl)))) hG.1 hP hD hS 14 6 0 0 rfl rfl rfl rfl rfl (by decide) (by decide) (by decide) (by decide) (by decide) (fun _ _ => rfl) (Nat.le_of_ble_eq_true rfl) (by decide +kernel) dX2_copyFrom_81 (fun H locs hP hD hS => ?_)
  have hP : va_P D vwCl [(h, .inr (2, [.ref q0, .ref q1, .ref q2, .ref q3, .ref q4, .ref q5, .ref q6, .int wa, .int wb, .int wc])), (q0, .inl (k 0, 3, .inl (va_cpy g0 f0 0 0 3))), (q1, .inl (k 0, 3, .inl (va_cpy g1 f1 0 0 3))), (q2, .inl (k 0, 3, .inl (va_cpy g2 f2 0 0 3))), (q3, .inl (k 0, 3, .inl (va_cpy g3 f3 0 0 3))), (q4, .inl (k 0, 3, .inl (va_cpy g4 f4 0 0 3))), (q5, .inl (k 0, 3, .inl (va_cpy g5 f5 0 0 3))), (q6, .inl (k 0, 3, .inl f6)), (h2, .inr (2, [.ref z0, .ref z1, .ref z2, .ref z3, .ref z4, .ref z5, .ref z6, .int va, .int vb, .int vc])), (z0, .inl (k 0, 3, .inl g0)), (z1, .inl (k 0, 3, .inl g1)), (z2, .inl (k 0, 3, .inl g2)), (z3, .inl (k 0, 3, .inl g3)), (z4, .inl (k 0, 3, .inl g4)), (z5, .inl (k 0, 3, .inl g5)), (z6, .inl (k 0, 3, .inl g6))] H := hP
  have hD : va_D A [(h, .inr (2, [.ref q0, .ref q1, .ref q2, .ref q3, .ref q4, .ref q5, .ref q6, .int wa, .int wb, .int wc])), (q0, .inl (k 0, 3, .inl (va_cpy g0 f0 0 0 3))), (q1, .inl (k 0, 3, .inl (va_cpy g1 f1 0 0 3))), (q2, .inl (k 0, 3, .inl (va_cpy g2 f2 0 0 3))), (q3, .inl (k 0, 3, .inl (va_cpy g3 f3 0 0 3))), (q4, .inl (k 0, 3, .inl (va_cpy g4 f4 0 0 3))), (q5, .inl (k 0, 3, .inl (va_cpy g5 f5 0 0 3))), (q6, .inl (k 0, 3, .inl f6)), (h2, .inr (2, [.ref z0, .ref z1, .ref z2, .ref z3, .ref z4, .ref z5, .ref z6, .int va, .int vb, .int vc])), (z0, .inl (k 0, 3, .inl g0)), (z1, .inl (k 0, 3, .inl g1)), (z2, .inl (k 0, 3, .inl g2)), (z3, .inl (k 0, 3, .inl g3)), (z4, .inl (k 0, 3, .inl g4)), (z5, .inl (k 0, 3, .inl g5)), (z6, .inl (k 0, 3, .inl g6))] := hD
  refine lv_aload_n hx hb dX2_copyFrom_84 rfl (lv_at hl 1 rfl) ?_
  refine va_get (D := D) (ci := 2) (v := .ref z6) (C := RX2) (T := TX2) (N := 10) hx hb hts hi2 hown hG.1 hP 8 rfl rfl 6 (by decide) (hts (.fieldLink RX2 30 "SleptMatters$Course" "laidHouse" "[I") (List.mem_cons_of_mem _ (List.mem_append_left _ (List.mem_of_getElem? (i := 10) rfl)))) (fun _ h9 => h9) rfl dX2_copyFrom_85 ?_
  refine lv_iconst (v := 0) hx hb dX2_copyFrom_88 (by decide) ?_
  refine lv_aload_n hx hb dX2_copyFrom_89 rfl (lv_at hl 0 rfl) ?_
  refine va_get (D := D) (ci := 2) (v := .ref q6) (C := RX2) (T := TX2) (N := 10) hx hb hts hi2 hown hG.1 hP 0 rfl rfl 6 (by decide) (hts (.fieldLink RX2 30 "SleptMatters$Course" "laidHouse" "[I") (List.mem_cons_of_mem _ (List.mem_append_left _ (List.mem_of_getElem? (i := 10) rfl)))) (fun _ h9 => h9) rfl dX2_copyFrom_90 ?_
  refine lv_iconst (v := 0) hx hb dX2_copyFrom_93 (by decide) ?_
  refine lv_iconst (v := 3) hx hb dX2_copyFrom_94 (by decide) ?_
  refine va_copyi (ty := .int) hx hb (hml.trans hl.1.symm) hown (hts (.methodLink RX2 55 arraycopyName) (List.mem_cons_of_mem _ (List.mem_append_left _ (List.mem_of_getElem? (i := 1) rfl)))) (hts (.native arraycopyName) (List.mem_cons_of_mem _ (List.mem_append_left _ (List.mem_of_getElem? (i := 2) rfl)))) (hts (.static arraycopyName) (List.mem_cons_of_mem _ (List.mem_append_left _ (List.mem_of_getElem? (i := 3) rfl)))) (hts (.initialized "java/lang/System") (List.mem_cons_of_mem _ (List.mem_append_left _ (List.mem_of_getElem? (i := 4) rfl)))) hG.1 hP hD hS 15 7 0 0 rfl rfl rfl rfl rfl (by decide) (by decide) (by decide) (by decide) (by decide) (fun _ _ => rfl) (Nat.le_of_ble_eq_true rfl) (by decide +kernel) dX2_copyFrom_95 (fun H locs hP hD hS => ?_)
  have hP : va_P D vwCl [(h, .inr (2, [.ref q0, .ref q1, .ref q2, .ref q3, .ref q4, .ref q5, .ref q6, .int wa, .int wb, .int wc])), (q0, .inl (k 0, 3, .inl (va_cpy g0 f0 0 0 3))), (q1, .inl (k 0, 3, .inl (va_cpy g1 f1 0 0 3))), (q2, .inl (k 0, 3, .inl (va_cpy g2 f2 0 0 3))), (q3, .inl (k 0, 3, .inl (va_cpy g3 f3 0 0 3))), (q4, .inl (k 0, 3, .inl (va_cpy g4 f4 0 0 3))), (q5, .inl (k 0, 3, .inl (va_cpy g5 f5 0 0 3))), (q6, .inl (k 0, 3, .inl (va_cpy g6 f6 0 0 3))), (h2, .inr (2, [.ref z0, .ref z1, .ref z2, .ref z3, .ref z4, .ref z5, .ref z6, .int va, .int vb, .int vc])), (z0, .inl (k 0, 3, .inl g0)), (z1, .inl (k 0, 3, .inl g1)), (z2, .inl (k 0, 3, .inl g2)), (z3, .inl (k 0, 3, .inl g3)), (z4, .inl (k 0, 3, .inl g4)), (z5, .inl (k 0, 3, .inl g5)), (z6, .inl (k 0, 3, .inl g6))] H := hP
  have hD : va_D A [(h, .inr (2, [.ref q0, .ref q1, .ref q2, .ref q3, .ref q4, .ref q5, .ref q6, .int wa, .int wb, .int wc])), (q0, .inl (k 0, 3, .inl (va_cpy g0 f0 0 0 3))), (q1, .inl (k 0, 3, .inl (va_cpy g1 f1 0 0 3))), (q2, .inl (k 0, 3, .inl (va_cpy g2 f2 0 0 3))), (q3, .inl (k 0, 3, .inl (va_cpy g3 f3 0 0 3))), (q4, .inl (k 0, 3, .inl (va_cpy g4 f4 0 0 3))), (q5, .inl (k 0, 3, .inl (va_cpy g5 f5 0 0 3))), (q6, .inl (k 0, 3, .inl (va_cpy g6 f6 0 0 3))), (h2, .inr (2, [.ref z0, .ref z1, .ref z2, .ref z3, .ref z4, .ref z5, .ref z6, .int va, .int vb, .int vc])), (z0, .inl (k 0, 3, .inl g0)), (z1, .inl (k 0, 3, .inl g1)), (z2, .inl (k 0, 3, .inl g2)), (z3, .inl (k 0, 3, .inl g3)), (z4, .inl (k 0, 3, .inl g4)), (z5, .inl (k 0, 3, .inl g5)), (z6, .inl (k 0, 3, .inl g6))] := hD
  refine lv_aload_n hx hb dX2_copyFrom_98 rfl (lv_at hl 0 rfl) ?_
  refine lv_aload_n hx hb dX2_copyFrom_99 rfl (lv_at hl 1 rfl) ?_
  refine va_get (D := D) (ci := 2) (v := .int va) (C := RX2) (T := TX2) (N := 10) hx hb hts hi2 hown hG.1 hP 8 rfl rfl 7 (by decide) (hts (.fieldLink RX2 33 "SleptMatters$Course" "wages" "I") (List.mem_cons_of_mem _ (List.mem_append_left _ (List.mem_of_getElem? (i := 11) rfl)))) (fun _ h9 => h9) rfl dX2_copyFrom_100 ?_
  refine va_put (D := D) (ci := 2) (v := .int va) (ty := .int) (C := RX2) (T := TX2) (N := 10) hx hb hts hi2 tyX2 tyX2_ok nmX2 hown hG.1 hP hD hS 0 rfl rfl 7 (by decide) (hts (.fieldLink RX2 33 "SleptMatters$Course" "wages" "I") (List.mem_cons_of_mem _ (List.mem_append_left _ (List.mem_of_getElem? (i := 11) rfl)))) (fun _ h9 => h9) rfl (by decide +kernel) rfl rfl (Nat.le_of_ble_eq_true rfl) dX2_copyFrom_103 (fun H locs hP hD hS => ?_)
  have hP : va_P D vwCl [(h, .inr (2, [.ref q0, .ref q1, .ref q2, .ref q3, .ref q4, .ref q5, .ref q6, .int va, .int wb, .int wc])), (q0, .inl (k 0, 3, .inl (va_cpy g0 f0 0 0 3))), (q1, .inl (k 0, 3, .inl (va_cpy g1 f1 0 0 3))), (q2, .inl (k 0, 3, .inl (va_cpy g2 f2 0 0 3))), (q3, .inl (k 0, 3, .inl (va_cpy g3 f3 0 0 3))), (q4, .inl (k 0, 3, .inl (va_cpy g4 f4 0 0 3))), (q5, .inl (k 0, 3, .inl (va_cpy g5 f5 0 0 3))), (q6, .inl (k 0, 3, .inl (va_cpy g6 f6 0 0 3))), (h2, .inr (2, [.ref z0, .ref z1, .ref z2, .ref z3, .ref z4, .ref z5, .ref z6, .int va, .int vb, .int vc])), (z0, .inl (k 0, 3, .inl g0)), (z1, .inl (k 0, 3, .inl g1)), (z2, .inl (k 0, 3, .inl g2)), (z3, .inl (k 0, 3, .inl g3)), (z4, .inl (k 0, 3, .inl g4)), (z5, .inl (k 0, 3, .inl g5)), (z6, .inl (k 0, 3, .inl g6))] H := hP
  have hD : va_D A [(h, .inr (2, [.ref q0, .ref q1, .ref q2, .ref q3, .ref q4, .ref q5, .ref q6, .int va, .int wb, .int wc])), (q0, .inl (k 0, 3, .inl (va_cpy g0 f0 0 0 3))), (q1, .inl (k 0, 3, .inl (va_cpy g1 f1 0 0 3))), (q2, .inl (k 0, 3, .inl (va_cpy g2 f2 0 0 3))), (q3, .inl (k 0, 3, .inl (va_cpy g3 f3 0 0 3))), (q4, .inl (k 0, 3, .inl (va_cpy g4 f4 0 0 3))), (q5, .inl (k 0, 3, .inl (va_cpy g5 f5 0 0 3))), (q6, .inl (k 0, 3, .inl (va_cpy g6 f6 0 0 3))), (h2, .inr (2, [.ref z0, .ref z1, .ref z2, .ref z3, .ref z4, .ref z5, .ref z6, .int va, .int vb, .int vc])), (z0, .inl (k 0, 3, .inl g0)), (z1, .inl (k 0, 3, .inl g1)), (z2, .inl (k 0, 3, .inl g2)), (z3, .inl (k 0, 3, .inl g3)), (z4, .inl (k 0, 3, .inl g4)), (z5, .inl (k 0, 3, .inl g5)), (z6, .inl (k 0, 3, .inl g6))] := hD
  refine lv_aload_n hx hb dX2_copyFrom_106 rfl (lv_at hl 0 rfl) ?_
  refine lv_aload_n hx hb dX2_copyFrom_107 rfl (lv_at hl 1 rfl) ?_
  refine va_get (D := D) (ci := 2) (v := .int vb) (C := RX2) (T := TX2) (N := 10) hx hb hts hi2 hown hG.1 hP 8 rfl rfl 8 (by decide) (hts (.fieldLink RX2 37 "SleptMatters$Course" "day" "I") (List.mem_cons_of_mem _ (List.mem_append_left _ (List.mem_of_getElem? (i := 12) rfl)))) (fun _ h9 => h9) rfl dX2_copyFrom_108 ?_
  refine va_put (D := D) (ci := 2) (v := .int vb) (ty := .int) (C := RX2) (T := TX2) (N := 10) hx hb hts hi2 tyX2 tyX2_ok nmX2 hown hG.1 hP hD hS 0 rfl rfl 8 (by decide) (hts (.fieldLink RX2 37 "SleptMatters$Course" "day" "I") (List.mem_cons_of_mem _ (List.mem_append_left _ (List.mem_of_getElem? (i := 12) rfl)))) (fun _ h9 => h9) rfl (by decide +kernel) rfl rfl (Nat.le_of_ble_eq_true rfl) dX2_copyFrom_111 (fun H locs hP hD hS => ?_)
  have hP : va_P D vwCl [(h, .inr (2, [.ref q0, .ref q1, .ref q2, .ref q3, .ref q4, .ref q5, .ref q6, .int va, .int vb, .int wc])), (q0, .inl (k 0, 3, .inl (va_cpy g0 f0 0 0 3))), (q1, .inl (k 0, 3, .inl (va_cpy g1 f1 0 0 3))), (q2, .inl (k 0, 3, .inl (va_cpy g2 f2 0 0 3))), (q3, .inl (k 0, 3, .inl (va_cpy g3 f3 0 0 3))), (q4, .inl (k 0, 3, .inl (va_cpy g4 f4 0 0 3))), (q5, .inl (k 0, 3, .inl (va_cpy g5 f5 0 0 3))), (q6, .inl (k 0, 3, .inl (va_cpy g6 f6 0 0 3))), (h2, .inr (2, [.ref z0, .ref z1, .ref z2, .ref z3, .ref z4, .ref z5, .ref z6, .int va, .int vb, .int vc])), (z0, .inl (k 0, 3, .inl g0)), (z1, .inl (k 0, 3, .inl g1)), (z2, .inl (k 0, 3, .inl g2)), (z3, .inl (k 0, 3, .inl g3)), (z4, .inl (k 0, 3, .inl g4)), (z5, .inl (k 0, 3, .inl g5)), (z6, .inl (k 0, 3, .inl g6))] H := hP
  have hD : va_D A [(h, .inr (2, [.ref q0, .ref q1, .ref q2, .ref q3, .ref q4, .ref q5, .ref q6, .int va, .int vb, .int wc])), (q0, .inl (k 0, 3, .inl (va_cpy g0 f0 0 0 3))), (q1, .inl (k 0, 3, .inl (va_cpy g1 f1 0 0 3))), (q2, .inl (k 0, 3, .inl (va_cpy g2 f2 0 0 3))), (q3, .inl (k 0, 3, .inl (va_cpy g3 f3 0 0 3))), (q4, .inl (k 0, 3, .inl (va_cpy g4 f4 0 0 3))), (q5, .inl (k 0, 3, .inl (va_cpy g5 f5 0 0 3))), (q6, .inl (k 0, 3, .inl (va_cpy g6 f6 0 0 3))), (h2, .inr (2, [.ref z0, .ref z1, .ref z2, .ref z3, .ref z4, .ref z5, .ref z6, .int va, .int vb, .int vc])), (z0, .inl (k 0, 3, .inl g0)), (z1, .inl (k 0, 3, .inl g1)), (z2, .inl (k 0, 3, .inl g2)), (z3, .inl (k 0, 3, .inl g3)), (z4, .inl (k 0, 3, .inl g4)), (z5, .inl (k 0, 3, .inl g5)), (z6, .inl (k 0, 3, .inl g6))] := hD
  refine lv_aload_n hx hb dX2_copyFrom_114 rfl (lv_at hl 0 rfl) ?_
  refine lv_aload_n hx hb dX2_copyFrom_115 rfl (lv_at hl 1 rfl) ?_
  refine va_get (D := D) (ci := 2) (v := .int vc) (C := RX2) (T := TX2) (N := 10) hx hb hts hi2 hown hG.1 hP 8 rfl rfl 9 (by decide) (hts (.fieldLink RX2 40 "SleptMatters$Course" "drawSeed" "I") (List.mem_cons_of_mem _ (List.mem_append_left _ (List.mem_of_getElem? (i := 13) rfl)))) (fun _ h9 => h9) rfl dX2_copyFrom_116 ?_
  refine va_put (D := D) (ci := 2) (v := .int vc) (ty := .int) (C := RX2) (T := TX2) (N := 10) hx hb hts hi2 tyX2 tyX2_ok nmX2 hown hG.1 hP hD hS 0 rfl rfl 9 (by decide) (hts (.fieldLink RX2 40 "SleptMatters$Course" "drawSeed" "I") (List.mem_cons_of_mem _ (List.mem_append_left _ (List.mem_of_getElem? (i := 13) rfl)))) (fun _ h9 => h9) rfl (by decide +kernel) rfl rfl (Nat.le_of_ble_eq_true rfl) dX2_copyFrom_119 (fun H locs hP hD hS => ?_)
  have hP : va_P D vwCl [(h, .inr (2, [.ref q0, .ref q1, .ref q2, .ref q3, .ref q4, .ref q5, .ref q6, .int va, .int vb, .int vc])), (q0, .inl (k 0, 3, .inl (va_cpy g0 f0 0 0 3))), (q1, .inl (k 0, 3, .inl (va_cpy g1 f1 0 0 3))), (q2, .inl (k 0, 3, .inl (va_cpy g2 f2 0 0 3))), (q3, .inl (k 0, 3, .inl (va_cpy g3 f3 0 0 3))), (q4, .inl (k 0, 3, .inl (va_cpy g4 f4 0 0 3))), (q5, .inl (k 0, 3, .inl (va_cpy g5 f5 0 0 3))), (q6, .inl (k 0, 3, .inl (va_cpy g6 f6 0 0 3))), (h2, .inr (2, [.ref z0, .ref z1, .ref z2, .ref z3, .ref z4, .ref z5, .ref z6, .int va, .int vb, .int vc])), (z0, .inl (k 0, 3, .inl g0)), (z1, .inl (k 0, 3, .inl g1)), (z2, .inl (k 0, 3, .inl g2)), (z3, .inl (k 0, 3, .inl g3)), (z4, .inl (k 0, 3, .inl g4)), (z5, .inl (k 0, 3, .inl g5)), (z6, .inl (k 0, 3, .inl g6))] H := hP
  have hD : va_D A [(h, .inr (2, [.ref q0, .ref q1, .ref q2, .ref q3, .ref q4, .ref q5, .ref q6, .int va, .int vb, .int vc])), (q0, .inl (k 0, 3, .inl (va_cpy g0 f0 0 0 3))), (q1, .inl (k 0, 3, .inl (va_cpy g1 f1 0 0 3))), (q2, .inl (k 0, 3, .inl (va_cpy g2 f2 0 0 3))), (q3, .inl (k 0, 3, .inl (va_cpy g3 f3 0 0 3))), (q4, .inl (k 0, 3, .inl (va_cpy g4 f4 0 0 3))), (q5, .inl (k 0, 3, .inl (va_cpy g5 f5 0 0 3))), (q6, .inl (k 0, 3, .inl (va_cpy g6 f6 0 0 3))), (h2, .inr (2, [.ref z0, .ref z1, .ref z2, .ref z3, .ref z4, .ref z5, .ref z6, .int va, .int vb, .int vc])), (z0, .inl (k 0, 3, .inl g0)), (z1, .inl (k 0, 3, .inl g1)), (z2, .inl (k 0, 3, .inl g2)), (z3, .inl (k 0, 3, .inl g3)), (z4, .inl (k 0, 3, .inl g4)), (z5, .inl (k 0, 3, .inl g5)), (z6, .inl (k 0, 3, .inl g6))] := hD
  have hP9 := hP.sub (ws' := [(h, .inr (2, [.ref q0, .ref q1, .ref q2, .ref q3, .ref q4, .ref q5, .ref q6, .int va, .int vb, .int vc])), (q0, .inl (k 0, 3, .inl (va_cpy g0 f0 0 0 3))), (q1, .inl (k 0, 3, .inl (va_cpy g1 f1 0 0 3))), (q2, .inl (k 0, 3, .inl (va_cpy g2 f2 0 0 3))), (q3, .inl (k 0, 3, .inl (va_cpy g3 f3 0 0 3))), (q4, .inl (k 0, 3, .inl (va_cpy g4 f4 0 0 3))), (q5, .inl (k 0, 3, .inl (va_cpy g5 f5 0 0 3))), (q6, .inl (k 0, 3, .inl (va_cpy g6 f6 0 0 3))), (h2, .inr (2, [.ref z0, .ref z1, .ref z2, .ref z3, .ref z4, .ref z5, .ref z6, .int va, .int vb, .int vc])), (z0, .inl (k 0, 3, .inl g0)), (z1, .inl (k 0, 3, .inl g1)), (z2, .inl (k 0, 3, .inl g2)), (z3, .inl (k 0, 3, .inl g3)), (z4, .inl (k 0, 3, .inl g4)), (z5, .inl (k 0, 3, .inl g5)), (z6, .inl (k 0, 3, .inl g6))]) [0, 1, 2, 3, 4, 5, 6, 7, 8, 9, 10, 11, 12, 13, 14, 15] rfl
  have hD9 := hD.sub (ws' := [(h, .inr (2, [.ref q0, .ref q1, .ref q2, .ref q3, .ref q4, .ref q5, .ref q6, .int va, .int vb, .int vc])), (q0, .inl (k 0, 3, .inl (va_cpy g0 f0 0 0 3))), (q1, .inl (k 0, 3, .inl (va_cpy g1 f1 0 0 3))), (q2, .inl (k 0, 3, .inl (va_cpy g2 f2 0 0 3))), (q3, .inl (k 0, 3, .inl (va_cpy g3 f3 0 0 3))), (q4, .inl (k 0, 3, .inl (va_cpy g4 f4 0 0 3))), (q5, .inl (k 0, 3, .inl (va_cpy g5 f5 0 0 3))), (q6, .inl (k 0, 3, .inl (va_cpy g6 f6 0 0 3))), (h2, .inr (2, [.ref z0, .ref z1, .ref z2, .ref z3, .ref z4, .ref z5, .ref z6, .int va, .int vb, .int vc])), (z0, .inl (k 0, 3, .inl g0)), (z1, .inl (k 0, 3, .inl g1)), (z2, .inl (k 0, 3, .inl g2)), (z3, .inl (k 0, 3, .inl g3)), (z4, .inl (k 0, 3, .inl g4)), (z5, .inl (k 0, 3, .inl g5)), (z6, .inl (k 0, 3, .inl g6))]) [0, 1, 2, 3, 4, 5, 6, 7, 8, 9, 10, 11, 12, 13, 14, 15] (by decide +kernel) rfl
  exact W.vret hx hb hr (fun t9 ht _ => ⟨⟨(), rfl, trivial, by rw [ht]; exact hP9, hD9⟩, hS.F ht⟩) hS.2.2 dX2_copyFrom_122
