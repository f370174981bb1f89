theorem dX7_init_0 : decode cX7_init 0 = .ok (.aload_n 0, 1) := dc_Bk (by decide +kernel)
theorem dX7_init_1 : decode cX7_init 1 = .ok (.invokespecial 3, 3) := dc_Bk (by decide +kernel)
theorem dX7_init_4 : decode cX7_init 4 = .ok (.aload_n 0, 1) := dc_Bk (by decide +kernel)
theorem dX7_init_5 : decode cX7_init 5 = .ok (.sipush 500, 3) := dc_Bk (by decide +kernel)
theorem dX7_init_8 : decode cX7_init 8 = .ok (.newarray .int, 2) := dc_Bk (by decide +kernel)
theorem dX7_init_10 : decode cX7_init 10 = .ok (.putfield 9, 3) := dc_Bk (by decide +kernel)
theorem dX7_init_13 : decode cX7_init 13 = .ok (.aload_n 0, 1) := dc_Bk (by decide +kernel)
theorem dX7_init_14 : decode cX7_init 14 = .ok (.iconst 0, 1) := dc_Bk (by decide +kernel)
theorem dX7_init_15 : decode cX7_init 15 = .ok (.putfield 15, 3) := dc_Bk (by decide +kernel)
theorem dX7_init_18 : decode cX7_init 18 = .ok (.aload_n 0, 1) := dc_Bk (by decide +kernel)
theorem dX7_init_19 : decode cX7_init 19 = .ok (.iconst 0, 1) := dc_Bk (by decide +kernel)
theorem dX7_init_20 : decode cX7_init 20 = .ok (.putfield 19, 3) := dc_Bk (by decide +kernel)
theorem dX7_init_23 : decode cX7_init 23 = .ok (.aload_n 0, 1) := dc_Bk (by decide +kernel)
theorem dX7_init_24 : decode cX7_init 24 = .ok (.iconst 0, 1) := dc_Bk (by decide +kernel)
theorem dX7_init_25 : decode cX7_init 25 = .ok (.putfield 22, 3) := dc_Bk (by decide +kernel)
theorem dX7_init_28 : decode cX7_init 28 = .ok (.aload_n 0, 1) := dc_Bk (by decide +kernel)
theorem dX7_init_29 : decode cX7_init 29 = .ok (.iconst 0, 1) := dc_Bk (by decide +kernel)
theorem dX7_init_30 : decode cX7_init 30 = .ok (.putfield 25, 3) := dc_Bk (by decide +kernel)
theorem dX7_init_33 : decode cX7_init 33 = .ok (.aload_n 0, 1) := dc_Bk (by decide +kernel)
theorem dX7_init_34 : decode cX7_init 34 = .ok (.iconst (-1), 1) := dc_Bk (by decide +kernel)
theorem dX7_init_35 : decode cX7_init 35 = .ok (.putfield 28, 3) := dc_Bk (by decide +kernel)
theorem dX7_init_38 : decode cX7_init 38 = .ok (.aload_n 0, 1) := dc_Bk (by decide +kernel)
theorem dX7_init_39 : decode cX7_init 39 = .ok (.iconst 0, 1) := dc_Bk (by decide +kernel)
theorem dX7_init_40 : decode cX7_init 40 = .ok (.putfield 31, 3) := dc_Bk (by decide +kernel)
theorem dX7_init_43 : decode cX7_init 43 = .ok (.aload_n 0, 1) := dc_Bk (by decide +kernel)
theorem dX7_init_44 : decode cX7_init 44 = .ok (.iconst 0, 1) := dc_Bk (by decide +kernel)
theorem dX7_init_45 : decode cX7_init 45 = .ok (.putfield 34, 3) := dc_Bk (by decide +kernel)
theorem dX7_init_48 : decode cX7_init 48 = .ok (.return_, 1) := dc_Bk (by decide +kernel)
theorem dX3_init_0 : decode cX3_init 0 = .ok (.aload_n 0, 1) := dc_Bk (by decide +kernel)
theorem dX3_init_1 : decode cX3_init 1 = .ok (.invokespecial 3, 3) := dc_Bk (by decide +kernel)
theorem dX3_init_4 : decode cX3_init 4 = .ok (.aload_n 0, 1) := dc_Bk (by decide +kernel)
theorem dX3_init_5 : decode cX3_init 5 = .ok (.bipush 7, 2) := dc_Bk (by decide +kernel)
theorem dX3_init_7 : decode cX3_init 7 = .ok (.putfield 9, 3) := dc_Bk (by decide +kernel)
theorem dX3_init_10 : decode cX3_init 10 = .ok (.aload_n 0, 1) := dc_Bk (by decide +kernel)
theorem dX3_init_11 : decode cX3_init 11 = .ok (.iconst 4, 1) := dc_Bk (by decide +kernel)
theorem dX3_init_12 : decode cX3_init 12 = .ok (.putfield 15, 3) := dc_Bk (by decide +kernel)
theorem dX3_init_15 : decode cX3_init 15 = .ok (.aload_n 0, 1) := dc_Bk (by decide +kernel)
theorem dX3_init_16 : decode cX3_init 16 = .ok (.iconst 1, 1) := dc_Bk (by decide +kernel)
theorem dX3_init_17 : decode cX3_init 17 = .ok (.putfield 18, 3) := dc_Bk (by decide +kernel)
theorem dX3_init_20 : decode cX3_init 20 = .ok (.aload_n 0, 1) := dc_Bk (by decide +kernel)
theorem dX3_init_21 : decode cX3_init 21 = .ok (.iconst 0, 1) := dc_Bk (by decide +kernel)
theorem dX3_init_22 : decode cX3_init 22 = .ok (.putfield 22, 3) := dc_Bk (by decide +kernel)
theorem dX3_init_25 : decode cX3_init 25 = .ok (.aload_n 0, 1) := dc_Bk (by decide +kernel)
theorem dX3_init_26 : decode cX3_init 26 = .ok (.iconst 0, 1) := dc_Bk (by decide +kernel)
theorem dX3_init_27 : decode cX3_init 27 = .ok (.putfield 25, 3) := dc_Bk (by decide +kernel)
theorem dX3_init_30 : decode cX3_init 30 = .ok (.return_, 1) := dc_Bk (by decide +kernel)
theorem dX0_init_0 : decode cX0_init 0 = .ok (.aload_n 0, 1) := dc_Bk (by decide +kernel)
theorem dX0_init_1 : decode cX0_init 1 = .ok (.invokespecial 3, 3) := dc_Bk (by decide +kernel)
theorem dX0_init_4 : decode cX0_init 4 = .ok (.aload_n 0, 1) := dc_Bk (by decide +kernel)
theorem dX0_init_5 : decode cX0_init 5 = .ok (.iconst 0, 1) := dc_Bk (by decide +kernel)
theorem dX0_init_6 : decode cX0_init 6 = .ok (.putfield 9, 3) := dc_Bk (by decide +kernel)
theorem dX0_init_9 : decode cX0_init 9 = .ok (.aload_n 0, 1) := dc_Bk (by decide +kernel)
theorem dX0_init_10 : decode cX0_init 10 = .ok (.bipush 20, 2) := dc_Bk (by decide +kernel)
theorem dX0_init_12 : decode cX0_init 12 = .ok (.newarray .int, 2) := dc_Bk (by decide +kernel)
theorem dX0_init_14 : decode cX0_init 14 = .ok (.putfield 15, 3) := dc_Bk (by decide +kernel)
theorem dX0_init_17 : decode cX0_init 17 = .ok (.aload_n 0, 1) := dc_Bk (by decide +kernel)
theorem dX0_init_18 : decode cX0_init 18 = .ok (.bipush 20, 2) := dc_Bk (by decide +kernel)
theorem dX0_init_20 : decode cX0_init 20 = .ok (.newarray .int, 2) := dc_Bk (by decide +kernel)
theorem dX0_init_22 : decode cX0_init 22 = .ok (.putfield 19, 3) := dc_Bk (by decide +kernel)
theorem dX0_init_25 : decode cX0_init 25 = .ok (.aload_n 0, 1) := dc_Bk (by decide +kernel)
theorem dX0_init_26 : decode cX0_init 26 = .ok (.bipush 20, 2) := dc_Bk (by decide +kernel)
theorem dX0_init_28 : decode cX0_init 28 = .ok (.newarray .int, 2) := dc_Bk (by decide +kernel)
theorem dX0_init_30 : decode cX0_init 30 = .ok (.putfield 22, 3) := dc_Bk (by decide +kernel)
theorem dX0_init_33 : decode cX0_init 33 = .ok (.return_, 1) := dc_Bk (by decide +kernel)
theorem dX6_init_0 : decode cX6_init 0 = .ok (.aload_n 0, 1) := dc_Bk (by decide +kernel)
theorem dX6_init_1 : decode cX6_init 1 = .ok (.invokespecial 3, 3) := dc_Bk (by decide +kernel)
theorem dX6_init_4 : decode cX6_init 4 = .ok (.aload_n 0, 1) := dc_Bk (by decide +kernel)
theorem dX6_init_5 : decode cX6_init 5 = .ok (.iconst 0, 1) := dc_Bk (by decide +kernel)
theorem dX6_init_6 : decode cX6_init 6 = .ok (.putfield 9, 3) := dc_Bk (by decide +kernel)
theorem dX6_init_9 : decode cX6_init 9 = .ok (.aload_n 0, 1) := dc_Bk (by decide +kernel)
theorem dX6_init_10 : decode cX6_init 10 = .ok (.iconst 0, 1) := dc_Bk (by decide +kernel)
theorem dX6_init_11 : decode cX6_init 11 = .ok (.putfield 15, 3) := dc_Bk (by decide +kernel)
theorem dX6_init_14 : decode cX6_init 14 = .ok (.aload_n 0, 1) := dc_Bk (by decide +kernel)
theorem dX6_init_15 : decode cX6_init 15 = .ok (.iconst 3, 1) := dc_Bk (by decide +kernel)
theorem dX6_init_16 : decode cX6_init 16 = .ok (.newarray .int, 2) := dc_Bk (by decide +kernel)
theorem dX6_init_18 : decode cX6_init 18 = .ok (.putfield 18, 3) := dc_Bk (by decide +kernel)
theorem dX6_init_21 : decode cX6_init 21 = .ok (.aload_n 0, 1) := dc_Bk (by decide +kernel)
theorem dX6_init_22 : decode cX6_init 22 = .ok (.bipush 21, 2) := dc_Bk (by decide +kernel)
theorem dX6_init_24 : decode cX6_init 24 = .ok (.newarray .int, 2) := dc_Bk (by decide +kernel)
theorem dX6_init_26 : decode cX6_init 26 = .ok (.putfield 22, 3) := dc_Bk (by decide +kernel)
theorem dX6_init_29 : decode cX6_init 29 = .ok (.aload_n 0, 1) := dc_Bk (by decide +kernel)
theorem dX6_init_30 : decode cX6_init 30 = .ok (.bipush 21, 2) := dc_Bk (by decide +kernel)
theorem dX6_init_32 : decode cX6_init 32 = .ok (.newarray .int, 2) := dc_Bk (by decide +kernel)
theorem dX6_init_34 : decode cX6_init 34 = .ok (.putfield 25, 3) := dc_Bk (by decide +kernel)
theorem dX6_init_37 : decode cX6_init 37 = .ok (.return_, 1) := dc_Bk (by decide +kernel)
theorem dX8_init_0 : decode cX8_init 0 = .ok (.aload_n 0, 1) := dc_Bk (by decide +kernel)
theorem dX8_init_1 : decode cX8_init 1 = .ok (.invokespecial 3, 3) := dc_Bk (by decide +kernel)
theorem dX8_init_4 : decode cX8_init 4 = .ok (.aload_n 0, 1) := dc_Bk (by decide +kernel)
theorem dX8_init_5 : decode cX8_init 5 = .ok (.iconst 4, 1) := dc_Bk (by decide +kernel)
theorem dX8_init_6 : decode cX8_init 6 = .ok (.newarray .int, 2) := dc_Bk (by decide +kernel)
theorem dX8_init_8 : decode cX8_init 8 = .ok (.putfield 9, 3) := dc_Bk (by decide +kernel)
theorem dX8_init_11 : decode cX8_init 11 = .ok (.aload_n 0, 1) := dc_Bk (by decide +kernel)
theorem dX8_init_12 : decode cX8_init 12 = .ok (.iconst 4, 1) := dc_Bk (by decide +kernel)
theorem dX8_init_13 : decode cX8_init 13 = .ok (.bipush 80, 2) := dc_Bk (by decide +kernel)
theorem dX8_init_15 : decode cX8_init 15 = .ok (.multianewarray 15 2, 4) := dc_Bk (by decide +kernel)
theorem dX8_init_19 : decode cX8_init 19 = .ok (.putfield 17, 3) := dc_Bk (by decide +kernel)
theorem dX8_init_22 : decode cX8_init 22 = .ok (.aload_n 0, 1) := dc_Bk (by decide +kernel)
theorem dX8_init_23 : decode cX8_init 23 = .ok (.sipush 400, 3) := dc_Bk (by decide +kernel)
theorem dX8_init_26 : decode cX8_init 26 = .ok (.newarray .int, 2) := dc_Bk (by decide +kernel)
theorem dX8_init_28 : decode cX8_init 28 = .ok (.putfield 20, 3) := dc_Bk (by decide +kernel)
theorem dX8_init_31 : decode cX8_init 31 = .ok (.aload_n 0, 1) := dc_Bk (by decide +kernel)
theorem dX8_init_32 : decode cX8_init 32 = .ok (.sipush 700, 3) := dc_Bk (by decide +kernel)
theorem dX8_init_35 : decode cX8_init 35 = .ok (.newarray .int, 2) := dc_Bk (by decide +kernel)
theorem dX8_init_37 : decode cX8_init 37 = .ok (.putfield 23, 3) := dc_Bk (by decide +kernel)
theorem dX8_init_40 : decode cX8_init 40 = .ok (.aload_n 0, 1) := dc_Bk (by decide +kernel)
theorem dX8_init_41 : decode cX8_init 41 = .ok (.bipush 100, 2) := dc_Bk (by decide +kernel)
theorem dX8_init_43 : decode cX8_init 43 = .ok (.newarray .int, 2) := dc_Bk (by decide +kernel)
theorem dX8_init_45 : decode cX8_init 45 = .ok (.putfield 26, 3) := dc_Bk (by decide +kernel)
theorem dX8_init_48 : decode cX8_init 48 = .ok (.return_, 1) := dc_Bk (by decide +kernel)
set_option maxRecDepth 20000 in
theorem ggX5_init_X6_init : GoodIn wsX5_init wsX6_init := goodIn_r _ [20, 21, 2, 3, 22, 23, 4, 24, 25, 26, 60, 61, 62, 63, 64] rfl (by decide +kernel)
set_option maxRecDepth 20000 in
theorem gX5_init_X6_init_n20 : GoodIn wsX5_init (wsX6_init) := ggX5_init_X6_init
set_option maxRecDepth 20000 in
theorem ggX5_init_X5_moveTo : GoodIn wsX5_init wsX5_moveTo := goodIn_r _ [31, 18, 12, 14, 11, 32, 33, 34, 35, 36, 37, 38, 39, 40, 41, 42, 43, 44, 45, 46, 47, 48, 49, 50, 51, 52, 53, 54, 55, 56, 57, 58, 59, 65, 66, 67, 68, 69] rfl (by decide +kernel)
set_option maxRecDepth 20000 in
theorem gX5_init_X5_moveTo : GoodIn wsX5_init (wsV RX5 48 RX5 yX5_moveTo wsX5_moveTo) := goodIn_app (goodIn_of _ (by decide +kernel)) ggX5_init_X5_moveTo
theorem dX5_init_0 : decode cX5_init 0 = .ok (.aload_n 0, 1) := dc_Bk (by decide +kernel)
theorem dX5_init_1 : decode cX5_init 1 = .ok (.invokespecial 3, 3) := dc_Bk (by decide +kernel)
theorem dX5_init_4 : decode cX5_init 4 = .ok (.aload_n 0, 1) := dc_Bk (by decide +kernel)
theorem dX5_init_5 : decode cX5_init 5 = .ok (.bipush 7, 2) := dc_Bk (by decide +kernel)
theorem dX5_init_7 : decode cX5_init 7 = .ok (.newarray .int, 2) := dc_Bk (by decide +kernel)
theorem dX5_init_9 : decode cX5_init 9 = .ok (.putfield 9, 3) := dc_Bk (by decide +kernel)
theorem dX5_init_12 : decode cX5_init 12 = .ok (.aload_n 0, 1) := dc_Bk (by decide +kernel)
theorem dX5_init_13 : decode cX5_init 13 = .ok (.bipush 7, 2) := dc_Bk (by decide +kernel)
theorem dX5_init_15 : decode cX5_init 15 = .ok (.newarray .int, 2) := dc_Bk (by decide +kernel)
theorem dX5_init_17 : decode cX5_init 17 = .ok (.putfield 15, 3) := dc_Bk (by decide +kernel)
theorem dX5_init_20 : decode cX5_init 20 = .ok (.aload_n 0, 1) := dc_Bk (by decide +kernel)
theorem dX5_init_21 : decode cX5_init 21 = .ok (.new 18, 3) := dc_Bk (by decide +kernel)
theorem dX5_init_24 : decode cX5_init 24 = .ok (.dup, 1) := dc_Bk (by decide +kernel)
theorem dX5_init_25 : decode cX5_init 25 = .ok (.invokespecial 20, 3) := dc_Bk (by decide +kernel)
theorem dX5_init_28 : decode cX5_init 28 = .ok (.putfield 21, 3) := dc_Bk (by decide +kernel)
theorem dX5_init_31 : decode cX5_init 31 = .ok (.aload_n 0, 1) := dc_Bk (by decide +kernel)
theorem dX5_init_32 : decode cX5_init 32 = .ok (.bipush 7, 2) := dc_Bk (by decide +kernel)
theorem dX5_init_34 : decode cX5_init 34 = .ok (.newarray .int, 2) := dc_Bk (by decide +kernel)
theorem dX5_init_36 : decode cX5_init 36 = .ok (.putfield 25, 3) := dc_Bk (by decide +kernel)
theorem dX5_init_39 : decode cX5_init 39 = .ok (.aload_n 0, 1) := dc_Bk (by decide +kernel)
theorem dX5_init_40 : decode cX5_init 40 = .ok (.bipush 100, 2) := dc_Bk (by decide +kernel)
theorem dX5_init_42 : decode cX5_init 42 = .ok (.newarray .int, 2) := dc_Bk (by decide +kernel)
theorem dX5_init_44 : decode cX5_init 44 = .ok (.putfield 28, 3) := dc_Bk (by decide +kernel)
theorem dX5_init_47 : decode cX5_init 47 = .ok (.aload_n 0, 1) := dc_Bk (by decide +kernel)
theorem dX5_init_48 : decode cX5_init 48 = .ok (.sipush 200, 3) := dc_Bk (by decide +kernel)
theorem dX5_init_51 : decode cX5_init 51 = .ok (.newarray .long, 2) := dc_Bk (by decide +kernel)
theorem dX5_init_53 : decode cX5_init 53 = .ok (.putfield 31, 3) := dc_Bk (by decide +kernel)
theorem dX5_init_56 : decode cX5_init 56 = .ok (.aload_n 0, 1) := dc_Bk (by decide +kernel)
theorem dX5_init_57 : decode cX5_init 57 = .ok (.sipush 128, 3) := dc_Bk (by decide +kernel)
theorem dX5_init_60 : decode cX5_init 60 = .ok (.newarray .long, 2) := dc_Bk (by decide +kernel)
theorem dX5_init_62 : decode cX5_init 62 = .ok (.putfield 35, 3) := dc_Bk (by decide +kernel)
theorem dX5_init_65 : decode cX5_init 65 = .ok (.aload_n 0, 1) := dc_Bk (by decide +kernel)
theorem dX5_init_66 : decode cX5_init 66 = .ok (.sipush 128, 3) := dc_Bk (by decide +kernel)
theorem dX5_init_69 : decode cX5_init 69 = .ok (.newarray .long, 2) := dc_Bk (by decide +kernel)
theorem dX5_init_71 : decode cX5_init 71 = .ok (.putfield 38, 3) := dc_Bk (by decide +kernel)
theorem dX5_init_74 : decode cX5_init 74 = .ok (.aload_n 0, 1) := dc_Bk (by decide +kernel)
theorem dX5_init_75 : decode cX5_init 75 = .ok (.bipush 49, 2) := dc_Bk (by decide +kernel)
theorem dX5_init_77 : decode cX5_init 77 = .ok (.newarray .int, 2) := dc_Bk (by decide +kernel)
theorem dX5_init_79 : decode cX5_init 79 = .ok (.putfield 41, 3) := dc_Bk (by decide +kernel)
theorem dX5_init_82 : decode cX5_init 82 = .ok (.aload_n 0, 1) := dc_Bk (by decide +kernel)
theorem dX5_init_83 : decode cX5_init 83 = .ok (.aload_n 1, 1) := dc_Bk (by decide +kernel)
theorem dX5_init_84 : decode cX5_init 84 = .ok (.putfield 44, 3) := dc_Bk (by decide +kernel)
theorem dX5_init_87 : decode cX5_init 87 = .ok (.aload_n 0, 1) := dc_Bk (by decide +kernel)
theorem dX5_init_88 : decode cX5_init 88 = .ok (.aload_n 1, 1) := dc_Bk (by decide +kernel)
theorem dX5_init_89 : decode cX5_init 89 = .ok (.invokevirtual 48, 3) := dc_Bk (by decide +kernel)
theorem dX5_init_92 : decode cX5_init 92 = .ok (.return_, 1) := dc_Bk (by decide +kernel)
set_option maxRecDepth 20000 in
theorem ggX4_init_X6_init : GoodIn wsX4_init wsX6_init := goodIn_r _ [18, 19, 2, 3, 20, 21, 6, 22, 23, 24, 34, 35, 36, 37, 38] rfl (by decide +kernel)
set_option maxRecDepth 20000 in
theorem gX4_init_X6_init_n31 : GoodIn wsX4_init (wsX6_init) := ggX4_init_X6_init
theorem dX4_init_0 : decode cX4_init 0 = .ok (.aload_n 0, 1) := dc_Bk (by decide +kernel)
theorem dX4_init_1 : decode cX4_init 1 = .ok (.invokespecial 3, 3) := dc_Bk (by decide +kernel)
theorem dX4_init_4 : decode cX4_init 4 = .ok (.aload_n 0, 1) := dc_Bk (by decide +kernel)
theorem dX4_init_5 : decode cX4_init 5 = .ok (.iconst 0, 1) := dc_Bk (by decide +kernel)
theorem dX4_init_6 : decode cX4_init 6 = .ok (.putfield 9, 3) := dc_Bk (by decide +kernel)
theorem dX4_init_9 : decode cX4_init 9 = .ok (.aload_n 0, 1) := dc_Bk (by decide +kernel)
theorem dX4_init_10 : decode cX4_init 10 = .ok (.iconst 0, 1) := dc_Bk (by decide +kernel)
theorem dX4_init_11 : decode cX4_init 11 = .ok (.putfield 15, 3) := dc_Bk (by decide +kernel)
theorem dX4_init_14 : decode cX4_init 14 = .ok (.aload_n 0, 1) := dc_Bk (by decide +kernel)
theorem dX4_init_15 : decode cX4_init 15 = .ok (.iconst 3, 1) := dc_Bk (by decide +kernel)
theorem dX4_init_16 : decode cX4_init 16 = .ok (.newarray .int, 2) := dc_Bk (by decide +kernel)
theorem dX4_init_18 : decode cX4_init 18 = .ok (.putfield 19, 3) := dc_Bk (by decide +kernel)
theorem dX4_init_21 : decode cX4_init 21 = .ok (.aload_n 0, 1) := dc_Bk (by decide +kernel)
theorem dX4_init_22 : decode cX4_init 22 = .ok (.iconst 3, 1) := dc_Bk (by decide +kernel)
theorem dX4_init_23 : decode cX4_init 23 = .ok (.newarray .int, 2) := dc_Bk (by decide +kernel)
theorem dX4_init_25 : decode cX4_init 25 = .ok (.putfield 23, 3) := dc_Bk (by decide +kernel)
theorem dX4_init_28 : decode cX4_init 28 = .ok (.aload_n 0, 1) := dc_Bk (by decide +kernel)
theorem dX4_init_29 : decode cX4_init 29 = .ok (.iconst 3, 1) := dc_Bk (by decide +kernel)
theorem dX4_init_30 : decode cX4_init 30 = .ok (.newarray .int, 2) := dc_Bk (by decide +kernel)
theorem dX4_init_32 : decode cX4_init 32 = .ok (.putfield 26, 3) := dc_Bk (by decide +kernel)
theorem dX4_init_35 : decode cX4_init 35 = .ok (.aload_n 0, 1) := dc_Bk (by decide +kernel)
theorem dX4_init_36 : decode cX4_init 36 = .ok (.new 29, 3) := dc_Bk (by decide +kernel)
theorem dX4_init_39 : decode cX4_init 39 = .ok (.dup, 1) := dc_Bk (by decide +kernel)
theorem dX4_init_40 : decode cX4_init 40 = .ok (.invokespecial 31, 3) := dc_Bk (by decide +kernel)
theorem dX4_init_43 : decode cX4_init 43 = .ok (.putfield 32, 3) := dc_Bk (by decide +kernel)
theorem dX4_init_46 : decode cX4_init 46 = .ok (.aload_n 0, 1) := dc_Bk (by decide +kernel)
theorem dX4_init_47 : decode cX4_init 47 = .ok (.iconst 0, 1) := dc_Bk (by decide +kernel)
theorem dX4_init_48 : decode cX4_init 48 = .ok (.putfield 36, 3) := dc_Bk (by decide +kernel)
theorem dX4_init_51 : decode cX4_init 51 = .ok (.aload_n 0, 1) := dc_Bk (by decide +kernel)
theorem dX4_init_52 : decode cX4_init 52 = .ok (.iconst 0, 1) := dc_Bk (by decide +kernel)
theorem dX4_init_53 : decode cX4_init 53 = .ok (.putfield 39, 3) := dc_Bk (by decide +kernel)
theorem dX4_init_56 : decode cX4_init 56 = .ok (.aload_n 0, 1) := dc_Bk (by decide +kernel)
theorem dX4_init_57 : decode cX4_init 57 = .ok (.aload_n 1, 1) := dc_Bk (by decide +kernel)
theorem dX4_init_58 : decode cX4_init 58 = .ok (.putfield 42, 3) := dc_Bk (by decide +kernel)
theorem dX4_init_61 : decode cX4_init 61 = .ok (.return_, 1) := dc_Bk (by decide +kernel)
theorem dX1_init_0 : decode cX1_init 0 = .ok (.aload_n 0, 1) := dc_Bk (by decide +kernel)
theorem dX1_init_1 : decode cX1_init 1 = .ok (.invokespecial 3, 3) := dc_Bk (by decide +kernel)
theorem dX1_init_4 : decode cX1_init 4 = .ok (.aload_n 0, 1) := dc_Bk (by decide +kernel)
theorem dX1_init_5 : decode cX1_init 5 = .ok (.iconst (-1), 1) := dc_Bk (by decide +kernel)
theorem dX1_init_6 : decode cX1_init 6 = .ok (.putfield 9, 3) := dc_Bk (by decide +kernel)
theorem dX1_init_9 : decode cX1_init 9 = .ok (.aload_n 0, 1) := dc_Bk (by decide +kernel)
theorem dX1_init_10 : decode cX1_init 10 = .ok (.iconst (-1), 1) := dc_Bk (by decide +kernel)
theorem dX1_init_11 : decode cX1_init 11 = .ok (.putfield 15, 3) := dc_Bk (by decide +kernel)
theorem dX1_init_14 : decode cX1_init 14 = .ok (.aload_n 0, 1) := dc_Bk (by decide +kernel)
theorem dX1_init_15 : decode cX1_init 15 = .ok (.iconst (-1), 1) := dc_Bk (by decide +kernel)
theorem dX1_init_16 : decode cX1_init 16 = .ok (.putfield 18, 3) := dc_Bk (by decide +kernel)
theorem dX1_init_19 : decode cX1_init 19 = .ok (.aload_n 0, 1) := dc_Bk (by decide +kernel)
theorem dX1_init_20 : decode cX1_init 20 = .ok (.bipush 8, 2) := dc_Bk (by decide +kernel)
theorem dX1_init_22 : decode cX1_init 22 = .ok (.newarray .int, 2) := dc_Bk (by decide +kernel)
theorem dX1_init_24 : decode cX1_init 24 = .ok (.putfield 21, 3) := dc_Bk (by decide +kernel)
theorem dX1_init_27 : decode cX1_init 27 = .ok (.aload_n 0, 1) := dc_Bk (by decide +kernel)
theorem dX1_init_28 : decode cX1_init 28 = .ok (.aload_n 1, 1) := dc_Bk (by decide +kernel)
theorem dX1_init_29 : decode cX1_init 29 = .ok (.putfield 25, 3) := dc_Bk (by decide +kernel)
theorem dX1_init_32 : decode cX1_init 32 = .ok (.return_, 1) := dc_Bk (by decide +kernel)
abbrev c_X7_init (k : Nat → ClassId) (h : Nat) : va_W := [(h, .inr (7, [.null, .int 0, .int 0, .int 0, .int 0, .int 0, .int 0, .int 0]))]
abbrev r_X7_init : Room := { frames := 1, cells := 1, slots := 500, locals := 24 }
def w_X7_init (k : Nat → ClassId) (h : Nat) : Nat → va_W := fun qb => [(h, .inr (7, [.ref qb, .int 0, .int 0, .int 0, .int 0, .int (-1), .int 0, .int 0])), (qb, .inl (k 0, 500, .inl (fun _ => 0)))]
def p_X7_init (k : Nat → ClassId) (h : Nat) : Nat → Prop := fun (u : Nat) => True
abbrev q_X7_init (D : va_G) (k : Nat → ClassId) (h : Nat) (A : Nat → Prop) : Array Value → State → Outcome → State → Prop := va_Qv (p_X7_init k h) (fun u9 t9 => BO D (w_X7_init k h u9) A t9) A
set_option maxHeartbeats 2000000 in
set_option maxRecDepth 100000 in
theorem X7_init (l : Launch) (D : va_G) (k : Nat → ClassId) (sz : Nat) (h : Nat)  : Met l yX7_init wsX7_init r_X7_init (va_Pc [.ref h] (PR D k (c_X7_init k h) sz)) (q_X7_init D k h (va_A (c_X7_init k h) sz)) 1 500 (va_A (c_X7_init k h) sz) := by
  refine Met.ofW (cc := cX7_init) (maxL := 1) (ret := none) (by decide) rfl ?_
  intro p e s m args below meth c s₁ B hml hv
  obtain ⟨rfl, hsz, hP, hG, hD0⟩ := hv
  have hx := B.exec
  have hb := B.bytes
  have hr := B.returns
  have hts := atoms_spec (ws := wsX7_init) B.pre
  have hown : s.vm.findClass RX7 = some m.cls := findClass_of_methodNamed B.named
  have hlocks := B.notSynchronized
  have hin : meth.name = "<init>" := (name_of_methodNamed B.named B.method).1
  have hi7 : ∀ w ∈ wsX70, w ∈ wsX7_init := fun _ h => List.mem_cons_of_mem _ (List.mem_append_right _ h)
  subst hsz
  have hD := hD0.self (sz := s.heap.size)
  generalize hAe : va_A (c_X7_init k h) s.heap.size = A at hD ⊢
  have hA : ∀ q : Nat, s.heap.size ≤ q → A q := fun q h => by rw [← hAe]; exact Or.inr h
  have hS : va_S A s.heap s.heap [] := va_S.rf
  have hP : va_P D vwCl [(h, .inr (7, [.null, .int 0, .int 0, .int 0, .int 0, .int 0, .int 0, .int 0]))] s.heap := hP
  have hD : va_D A [(h, .inr (7, [.null, .int 0, .int 0, .int 0, .int 0, .int 0, .int 0, .int 0]))] := hD
  have hl := lv_entry ([.ref h]) (n := 1) (Nat.le_of_ble_eq_true rfl)
  rw [lg_entry_eq]
  generalize (lg_sl ([.ref h]) ++ List.replicate (1 - (lg_sl ([.ref h])).length) Slot.unset).toArray = ls at hl ⊢
  have hl : lv_has ls 1 [(0, .ref h)] := hl
  refine lv_aload_n hx hb dX7_init_0 rfl (lv_at hl 0 rfl) ?_
  refine W.objInit hx hb hown (hts (.methodLink RX7 3 objectInit) (List.mem_cons_of_mem _ (List.mem_append_left _ (List.mem_of_getElem? (i := 0) rfl)))) (hts (.instanceMethod objectInit) (List.mem_cons_of_mem _ (List.mem_append_left _ (List.mem_of_getElem? (i := 1) rfl)))) (hts (.code objectInit ⟨#[0xb1]⟩ 1 none) (List.mem_cons_of_mem _ (List.mem_append_left _ (List.mem_of_getElem? (i := 2) rfl)))) rfl (by rw [hml]; exact hl.1) rfl dX7_init_1 (Nat.le_of_ble_eq_true rfl) (Nat.le_of_ble_eq_true rfl) ?_
  refine W.eq (g2 := F0 m 4 ls []) rfl ?_
  refine lv_aload_n hx hb dX7_init_4 rfl (lv_at hl 0 rfl) ?_
  refine lv_sipush (v := 500) hx hb dX7_init_5 (by decide) ?_
  refine va_newa (atype := .int) (ty := .int) (a0 := (500, .inl (fun _ => 0))) hx hb (hts (.arrayClass .int) (List.mem_cons_of_mem _ (List.mem_append_left _ (List.mem_of_getElem? (i := 3) rfl)))) rfl hG.1 hP hD hS hA (fun _ => rfl) (by decide) (by decide) (show 500 * 4 ≤ 536870912 by omega) (Nat.le_of_ble_eq_true rfl) (Nat.le_of_ble_eq_true rfl) dX7_init_8 (fun qb cN H hK9 hP hD hS => ?_)
  obtain rfl := cA_eq hK9 (i := 0) (j := 5) rfl rfl
  have hP : va_P D vwCl [(h, .inr (7, [.null, .int 0, .int 0, .int 0, .int 0, .int 0, .int 0, .int 0])), (qb, .inl (k 0, 500, .inl (fun _ => 0)))] H := hP
  have hD : va_D A [(h, .inr (7, [.null, .int 0, .int 0, .int 0, .int 0, .int 0, .int 0, .int 0])), (qb, .inl (k 0, 500, .inl (fun _ => 0)))] := hD
  refine W.widen (k := 1) (n := 500) (Nat.le_of_ble_eq_true rfl) (Nat.le_of_ble_eq_true rfl) ?_
  refine va_putF (D := D) (ci := 7) (v := .ref qb) (ty := (tyX7 0)) (C := RX7) (T := TX7) (N := 8) hx hb hts hi7 tyX7 tyX7_ok nmX7 hown hG.1 hP hD hS 0 rfl rfl 0 (by decide) (hts (.fieldLink RX7 9 "SleptMatters$Text" "bytes" "[I") (List.mem_cons_of_mem _ (List.mem_append_left _ (List.mem_of_getElem? (i := 4) rfl)))) (fun _ h9 => h9) rfl hin rfl (by decide +kernel) rfl rfl (Nat.le_of_ble_eq_true rfl) dX7_init_10 (fun H locs hP hD hS => ?_)
  have hP : va_P D vwCl [(h, .inr (7, [.ref qb, .int 0, .int 0, .int 0, .int 0, .int 0, .int 0, .int 0])), (qb, .inl (k 0, 500, .inl (fun _ => 0)))] H := hP
  have hD : va_D A [(h, .inr (7, [.ref qb, .int 0, .int 0, .int 0, .int 0, .int 0, .int 0, .int 0])), (qb, .inl (k 0, 500, .inl (fun _ => 0)))] := hD
  refine lv_aload_n hx hb dX7_init_13 rfl (lv_at hl 0 rfl) ?_
  refine lv_iconst (v := 0) hx hb dX7_init_14 (by decide) ?_
  refine va_put (D := D) (ci := 7) (v := .int 0) (ty := .int) (C := RX7) (T := TX7) (N := 8) hx hb hts hi7 tyX7 tyX7_ok nmX7 hown hG.1 hP hD hS 0 rfl rfl 1 (by decide) (hts (.fieldLink RX7 15 "SleptMatters$Text" "size" "I") (List.mem_cons_of_mem _ (List.mem_append_left _ (List.mem_of_getElem? (i := 5) rfl)))) (fun _ h9 => h9) rfl (by decide +kernel) rfl rfl (Nat.le_of_ble_eq_true rfl) dX7_init_15 (fun H locs hP hD hS => ?_)
  have hP : va_P D vwCl [(h, .inr (7, [.ref qb, .int 0, .int 0, .int 0, .int 0, .int 0, .int 0, .int 0])), (qb, .inl (k 0, 500, .inl (fun _ => 0)))] H := hP
  have hD : va_D A [(h, .inr (7, [.ref qb, .int 0, .int 0, .int 0, .int 0, .int 0, .int 0, .int 0])), (qb, .inl (k 0, 500, .inl (fun _ => 0)))] := hD
  refine lv_aload_n hx hb dX7_init_18 rfl (lv_at hl 0 rfl) ?_
  refine lv_iconst (v := 0) hx hb dX7_init_19 (by decide) ?_
  refine va_put (D := D) (ci := 7) (v := .int 0) (ty := .int) (C := RX7) (T := TX7) (N := 8) hx hb hts hi7 tyX7 tyX7_ok nmX7 hown hG.1 hP hD hS 0 rfl rfl 2 (by decide) (hts (.fieldLink RX7 19 "SleptMatters$Text" "wordAt" "I") (List.mem_cons_of_mem _ (List.mem_append_left _ (List.mem_of_getElem? (i := 6) rfl)))) (fun _ h9 => h9) rfl (by decide +kernel) rfl rfl (Nat.le_of_ble_eq_true rfl) dX7_init_20 (fun H locs hP hD hS => ?_)
  have hP : va_P D vwCl [(h, .inr (7, [.ref qb, .int 0, .int 0, .int 0, .int 0, .int 0, .int 0, .int 0])), (qb, .inl (k 0, 500, .inl (fun _ => 0)))] H := hP
  have hD : va_D A [(h, .inr (7, [.ref qb, .int 0, .int 0, .int 0, .int 0, .int 0, .int 0, .int 0])), (qb, .inl (k 0, 500, .inl (fun _ => 0)))] := hD
  refine lv_aload_n hx hb dX7_init_23 rfl (lv_at hl 0 rfl) ?_
  refine lv_iconst (v := 0) hx hb dX7_init_24 (by decide) ?_
  refine va_put (D := D) (ci := 7) (v := .int 0) (ty := .int) (C := RX7) (T := TX7) (N := 8) hx hb hts hi7 tyX7 tyX7_ok nmX7 hown hG.1 hP hD hS 0 rfl rfl 3 (by decide) (hts (.fieldLink RX7 22 "SleptMatters$Text" "numberAt" "I") (List.mem_cons_of_mem _ (List.mem_append_left _ (List.mem_of_getElem? (i := 7) rfl)))) (fun _ h9 => h9) rfl (by decide +kernel) rfl rfl (Nat.le_of_ble_eq_true rfl) dX7_init_25 (fun H locs hP hD hS => ?_)
  have hP : va_P D vwCl [(h, .inr (7, [.ref qb, .int 0, .int 0, .int 0, .int 0, .int 0, .int 0, .int 0])), (qb, .inl (k 0, 500, .inl (fun _ => 0)))] H := hP
  have hD : va_D A [(h, .inr (7, [.ref qb, .int 0, .int 0, .int 0, .int 0, .int 0, .int 0, .int 0])), (qb, .inl (k 0, 500, .inl (fun _ => 0)))] := hD
  refine lv_aload_n hx hb dX7_init_28 rfl (lv_at hl 0 rfl) ?_
  refine lv_iconst (v := 0) hx hb dX7_init_29 (by decide) ?_
  refine va_put (D := D) (ci := 7) (v := .int 0) (ty := .int) (C := RX7) (T := TX7) (N := 8) hx hb hts hi7 tyX7 tyX7_ok nmX7 hown hG.1 hP hD hS 0 rfl rfl 4 (by decide) (hts (.fieldLink RX7 25 "SleptMatters$Text" "faultNumber" "I") (List.mem_cons_of_mem _ (List.mem_append_left _ (List.mem_of_getElem? (i := 8) rfl)))) (fun _ h9 => h9) rfl (by decide +kernel) rfl rfl (Nat.le_of_ble_eq_true rfl) dX7_init_30 (fun H locs hP hD hS => ?_)
  have hP : va_P D vwCl [(h, .inr (7, [.ref qb, .int 0, .int 0, .int 0, .int 0, .int 0, .int 0, .int 0])), (qb, .inl (k 0, 500, .inl (fun _ => 0)))] H := hP
  have hD : va_D A [(h, .inr (7, [.ref qb, .int 0, .int 0, .int 0, .int 0, .int 0, .int 0, .int 0])), (qb, .inl (k 0, 500, .inl (fun _ => 0)))] := hD
  refine lv_aload_n hx hb dX7_init_33 rfl (lv_at hl 0 rfl) ?_
  refine lv_iconst (v := (-1)) hx hb dX7_init_34 (by decide) ?_
  refine va_put (D := D) (ci := 7) (v := .int (-1)) (ty := .int) (C := RX7) (T := TX7) (N := 8) hx hb hts hi7 tyX7 tyX7_ok nmX7 hown hG.1 hP hD hS 0 rfl rfl 5 (by decide) (hts (.fieldLink RX7 28 "SleptMatters$Text" "faultAt" "I") (List.mem_cons_of_mem _ (List.mem_append_left _ (List.mem_of_getElem? (i := 9) rfl)))) (fun _ h9 => h9) rfl (by decide +kernel) rfl rfl (Nat.le_of_ble_eq_true rfl) dX7_init_35 (fun H locs hP hD hS => ?_)
  have hP : va_P D vwCl [(h, .inr (7, [.ref qb, .int 0, .int 0, .int 0, .int 0, .int (-1), .int 0, .int 0])), (qb, .inl (k 0, 500, .inl (fun _ => 0)))] H := hP
  have hD : va_D A [(h, .inr (7, [.ref qb, .int 0, .int 0, .int 0, .int 0, .int (-1), .int 0, .int 0])), (qb, .inl (k 0, 500, .inl (fun _ => 0)))] := hD
  refine lv_aload_n hx hb dX7_init_38 rfl (lv_at hl 0 rfl) ?_
  refine lv_iconst (v := 0) hx hb dX7_init_39 (by decide) ?_
  refine va_put (D := D) (ci := 7) (v := .int 0) (ty := .int) (C := RX7) (T := TX7) (N := 8) hx hb hts hi7 tyX7 tyX7_ok nmX7 hown hG.1 hP hD hS 0 rfl rfl 6 (by decide) (hts (.fieldLink RX7 31 "SleptMatters$Text" "wordEnd" "I") (List.mem_cons_of_mem _ (List.mem_append_left _ (List.mem_of_getElem? (i := 10) rfl)))) (fun _ h9 => h9) rfl (by decide +kernel) rfl rfl (Nat.le_of_ble_eq_true rfl) dX7_init_40 (fun H locs hP hD hS => ?_)
  have hP : va_P D vwCl [(h, .inr (7, [.ref qb, .int 0, .int 0, .int 0, .int 0, .int (-1), .int 0, .int 0])), (qb, .inl (k 0, 500, .inl (fun _ => 0)))] H := hP
  have hD : va_D A [(h, .inr (7, [.ref qb, .int 0, .int 0, .int 0, .int 0, .int (-1), .int 0, .int 0])), (qb, .inl (k 0, 500, .inl (fun _ => 0)))] := hD
  refine lv_aload_n hx hb dX7_init_43 rfl (lv_at hl 0 rfl) ?_
  refine lv_iconst (v := 0) hx hb dX7_init_44 (by decide) ?_
  refine va_put (D := D) (ci := 7) (v := .int 0) (ty := .int) (C := RX7) (T := TX7) (N := 8) hx hb hts hi7 tyX7 tyX7_ok nmX7 hown hG.1 hP hD hS 0 rfl rfl 7 (by decide) (hts (.fieldLink RX7 34 "SleptMatters$Text" "at" "I") (List.mem_cons_of_mem _ (List.mem_append_left _ (List.mem_of_getElem? (i := 11) rfl)))) (fun _ h9 => h9) rfl (by decide +kernel) rfl rfl (Nat.le_of_ble_eq_true rfl) dX7_init_45 (fun H locs hP hD hS => ?_)
  have hP : va_P D vwCl [(h, .inr (7, [.ref qb, .int 0, .int 0, .int 0, .int 0, .int (-1), .int 0, .int 0])), (qb, .inl (k 0, 500, .inl (fun _ => 0)))] H := hP
  have hD : va_D A [(h, .inr (7, [.ref qb, .int 0, .int 0, .int 0, .int 0, .int (-1), .int 0, .int 0])), (qb, .inl (k 0, 500, .inl (fun _ => 0)))] := hD
  have hP9 := hP.sub (ws' := [(h, .inr (7, [.ref qb, .int 0, .int 0, .int 0, .int 0, .int (-1), .int 0, .int 0])), (qb, .inl (k 0, 500, .inl (fun _ => 0)))]) [0, 1] rfl
  have hD9 := hD.sub (ws' := [(h, .inr (7, [.ref qb, .int 0, .int 0, .int 0, .int 0, .int (-1), .int 0, .int 0])), (qb, .inl (k 0, 500, .inl (fun _ => 0)))]) [0, 1] (by decide +kernel) rfl
  exact W.vret hx hb hr (fun t9 ht _ => ⟨⟨(qb), rfl, trivial, by rw [ht]; exact hP9, hD9⟩, hS.F ht⟩) hS.2.2 dX7_init_48

abbrev c_X3_init (k : Nat → ClassId) (h : Nat) : va_W := [(h, .inr (3, [.int 0, .int 0, .int 0, .int 0, .int 0]))]
abbrev r_X3_init : Room := { frames := 1, cells := 0, slots := 0, locals := 24 }
def w_X3_init (k : Nat → ClassId) (h : Nat) : Unit → va_W := fun _ => [(h, .inr (3, [.int 7, .int 4, .int 1, .int 0, .int 0]))]
def p_X3_init (k : Nat → ClassId) (h : Nat) : Unit → Prop := fun (u : Unit) => True
abbrev q_X3_init (D : va_G) (k : Nat → ClassId) (h : Nat) (A : Nat → Prop) : Array Value → State → Outcome → State → Prop := va_Qv (p_X3_init k h) (fun u9 t9 => BO D (w_X3_init k h u9) A t9) A
set_option maxHeartbeats 2000000 in
set_option maxRecDepth 100000 in
theorem X3_init (l : Launch) (D : va_G) (k : Nat → ClassId) (sz : Nat) (h : Nat)  : Met l yX3_init wsX3_init r_X3_init (va_Pc [.ref h] (PR D k (c_X3_init k h) sz)) (q_X3_init D k h (va_A (c_X3_init k h) sz)) 0 0 (va_A (c_X3_init k h) sz) := by
  refine Met.ofW (cc := cX3_init) (maxL := 1) (ret := none) (by decide) rfl ?_
  intro p e s m args below meth c s₁ B hml hv
  obtain ⟨rfl, hsz, hP, hG, hD0⟩ := hv
  have hx := B.exec
  have hb := B.bytes
  have hr := B.returns
  have hts := atoms_spec (ws := wsX3_init) B.pre
  have hown : s.vm.findClass RX3 = some m.cls := findClass_of_methodNamed B.named
  have hlocks := B.notSynchronized
  have hin : meth.name = "<init>" := (name_of_methodNamed B.named B.method).1
  have hi3 : ∀ w ∈ wsX30, w ∈ wsX3_init := fun _ h => List.mem_cons_of_mem _ (List.mem_append_right _ h)
  subst hsz
  have hD := hD0.self (sz := s.heap.size)
  generalize hAe : va_A (c_X3_init k h) s.heap.size = A at hD ⊢
  have hA : ∀ q : Nat, s.heap.size ≤ q → A q := fun q h => by rw [← hAe]; exact Or.inr h
  have hS : va_S A s.heap s.heap [] := va_S.rf
  have hP : va_P D vwCl [(h, .inr (3, [.int 0, .int 0, .int 0, .int 0, .int 0]))] s.heap := hP
  have hD : va_D A [(h, .inr (3, [.int 0, .int 0, .int 0, .int 0, .int 0]))] := hD
  have hl := lv_entry ([.ref h]) (n := 1) (Nat.le_of_ble_eq_true rfl)
  rw [lg_entry_eq]
  generalize (lg_sl ([.ref h]) ++ List.replicate (1 - (lg_sl ([.ref h])).length) Slot.unset).toArray = ls at hl ⊢
  have hl : lv_has ls 1 [(0, .ref h)] := hl
  refine lv_aload_n hx hb dX3_init_0 rfl (lv_at hl 0 rfl) ?_
  refine W.objInit hx hb hown (hts (.methodLink RX3 3 objectInit) (List.mem_cons_of_mem _ (List.mem_append_left _ (List.mem_of_getElem? (i := 0) rfl)))) (hts (.instanceMethod objectInit) (List.mem_cons_of_mem _ (List.mem_append_left _ (List.mem_of_getElem? (i := 1) rfl)))) (hts (.code objectInit ⟨#[0xb1]⟩ 1 none) (List.mem_cons_of_mem _ (List.mem_append_left _ (List.mem_of_getElem? (i := 2) rfl)))) rfl (by rw [hml]; exact hl.1) rfl dX3_init_1 (Nat.le_of_ble_eq_true rfl) (Nat.le_of_ble_eq_true rfl) ?_
  refine W.eq (g2 := F0 m 4 ls []) rfl ?_
  refine lv_aload_n hx hb dX3_init_4 rfl (lv_at hl 0 rfl) ?_
  refine lv_bipush (v := 7) hx hb dX3_init_5 (by decide) ?_
  refine va_put (D := D) (ci := 3) (v := .int 7) (ty := .int) (C := RX3) (T := TX3) (N := 5) hx hb hts hi3 tyX3 tyX3_ok nmX3 hown hG.1 hP hD hS 0 rfl rfl 0 (by decide) (hts (.fieldLink RX3 9 "SleptMatters$Law" "nights" "I") (List.mem_cons_of_mem _ (List.mem_append_left _ (List.mem_of_getElem? (i := 3) rfl)))) (fun _ h9 => h9) rfl (by decide +kernel) rfl rfl (Nat.le_of_ble_eq_true rfl) dX3_init_7 (fun H locs hP hD hS => ?_)
  have hP : va_P D vwCl [(h, .inr (3, [.int 7, .int 0, .int 0, .int 0, .int 0]))] H := hP
  have hD : va_D A [(h, .inr (3, [.int 7, .int 0, .int 0, .int 0, .int 0]))] := hD
  refine lv_aload_n hx hb dX3_init_10 rfl (lv_at hl 0 rfl) ?_
  refine lv_iconst (v := 4) hx hb dX3_init_11 (by decide) ?_
  refine va_put (D := D) (ci := 3) (v := .int 4) (ty := .int) (C := RX3) (T := TX3) (N := 5) hx hb hts hi3 tyX3 tyX3_ok nmX3 hown hG.1 hP hD hS 0 rfl rfl 1 (by decide) (hts (.fieldLink RX3 15 "SleptMatters$Law" "yes" "I") (List.mem_cons_of_mem _ (List.mem_append_left _ (List.mem_of_getElem? (i := 4) rfl)))) (fun _ h9 => h9) rfl (by decide +kernel) rfl rfl (Nat.le_of_ble_eq_true rfl) dX3_init_12 (fun H locs hP hD hS => ?_)
  have hP : va_P D vwCl [(h, .inr (3, [.int 7, .int 4, .int 0, .int 0, .int 0]))] H := hP
  have hD : va_D A [(h, .inr (3, [.int 7, .int 4, .int 0, .int 0, .int 0]))] := hD
  refine lv_aload_n hx hb dX3_init_15 rfl (lv_at hl 0 rfl) ?_
  refine lv_iconst (v := 1) hx hb dX3_init_16 (by decide) ?_
  refine va_put (D := D) (ci := 3) (v := .int 1) (ty := .boolean) (C := RX3) (T := TX3) (N := 5) hx hb hts hi3 tyX3 tyX3_ok nmX3 hown hG.1 hP hD hS 0 rfl rfl 2 (by decide) (hts (.fieldLink RX3 18 "SleptMatters$Law" "again" "Z") (List.mem_cons_of_mem _ (List.mem_append_left _ (List.mem_of_getElem? (i := 5) rfl)))) (fun _ h9 => h9) rfl (by decide +kernel) rfl rfl (Nat.le_of_ble_eq_true rfl) dX3_init_17 (fun H locs hP hD hS => ?_)
  have hP : va_P D vwCl [(h, .inr (3, [.int 7, .int 4, .int 1, .int 0, .int 0]))] H := hP
  have hD : va_D A [(h, .inr (3, [.int 7, .int 4, .int 1, .int 0, .int 0]))] := hD
  refine lv_aload_n hx hb dX3_init_20 rfl (lv_at hl 0 rfl) ?_
  refine lv_iconst (v := 0) hx hb dX3_init_21 (by decide) ?_
  refine va_put (D := D) (ci := 3) (v := .int 0) (ty := .int) (C := RX3) (T := TX3) (N := 5) hx hb hts hi3 tyX3 tyX3_ok nmX3 hown hG.1 hP hD hS 0 rfl rfl 3 (by decide) (hts (.fieldLink RX3 22 "SleptMatters$Law" "clauses" "I") (List.mem_cons_of_mem _ (List.mem_append_left _ (List.mem_of_getElem? (i := 6) rfl)))) (fun _ h9 => h9) rfl (by decide +kernel) rfl rfl (Nat.le_of_ble_eq_true rfl) dX3_init_22 (fun H locs hP hD hS => ?_)
  have hP : va_P D vwCl [(h, .inr (3, [.int 7, .int 4, .int 1, .int 0, .int 0]))] H := hP
  have hD : va_D A [(h, .inr (3, [.int 7, .int 4, .int 1, .int 0, .int 0]))] := hD
  refine lv_aload_n hx hb dX3_init_25 rfl (lv_at hl 0 rfl) ?_
  refine lv_iconst (v := 0) hx hb dX3_init_26 (by decide) ?_
  refine va_put (D := D) (ci := 3) (v := .int 0) (ty := .int) (C := RX3) (T := TX3) (N := 5) hx hb hts hi3 tyX3 tyX3_ok nmX3 hown hG.1 hP hD hS 0 rfl rfl 4 (by decide) (hts (.fieldLink RX3 25 "SleptMatters$Law" "toldClauses" "I") (List.mem_cons_of_mem _ (List.mem_append_left _ (List.mem_of_getElem? (i := 7) rfl)))) (fun _ h9 => h9) rfl (by decide +kernel) rfl rfl (Nat.le_of_ble_eq_true rfl) dX3_init_27 (fun H locs hP hD hS => ?_)
  have hP : va_P D vwCl [(h, .inr (3, [.int 7, .int 4, .int 1, .int 0, .int 0]))] H := hP
  have hD : va_D A [(h, .inr (3, [.int 7, .int 4, .int 1, .int 0, .int 0]))] := hD
  have hP9 := hP.sub (ws' := [(h, .inr (3, [.int 7, .int 4, .int 1, .int 0, .int 0]))]) [0] rfl
  have hD9 := hD.sub (ws' := [(h, .inr (3, [.int 7, .int 4, .int 1, .int 0, .int 0]))]) [0] (by decide +kernel) rfl
  exact W.vret hx hb hr (fun t9 ht _ => ⟨⟨(), rfl, trivial, by rw [ht]; exact hP9, hD9⟩, hS.F ht⟩) hS.2.2 dX3_init_30

abbrev c_X0_init (k : Nat → ClassId) (h : Nat) : va_W := [(h, .inr (0, [.int 0, .null, .null, .null]))]
abbrev r_X0_init : Room := { frames := 1, cells := 3, slots := 60, locals := 24 }
def w_X0_init (k : Nat → ClassId) (h : Nat) : Nat × Nat × Nat → va_W := fun u => match u with | (b1, b2, b3) => [(h, .inr (0, [.int 0, .ref b1, .ref b2, .ref b3])), (b1, .inl (k 0, 20, .inl (fun _ => 0))), (b2, .inl (k 0, 20, .inl (fun _ => 0))), (b3, .inl (k 0, 20, .inl (fun _ => 0)))]
def p_X0_init (k : Nat → ClassId) (h : Nat) : Nat × Nat × Nat → Prop := fun (u : Nat × Nat × Nat) => match u with | (b1, b2, b3) => True
abbrev q_X0_init (D : va_G) (k : Nat → ClassId) (h : Nat) (A : Nat → Prop) : Array Value → State → Outcome → State → Prop := va_Qv (p_X0_init k h) (fun u9 t9 => BO D (w_X0_init k h u9) A t9) A
set_option maxHeartbeats 2000000 in
set_option maxRecDepth 100000 in
theorem X0_init (l : Launch) (D : va_G) (k : Nat → ClassId) (sz : Nat) (h : Nat)  : Met l yX0_init wsX0_init r_X0_init (va_Pc [.ref h] (PR D k (c_X0_init k h) sz)) (q_X0_init D k h (va_A (c_X0_init k h) sz)) 3 60 (va_A (c_X0_init k h) sz) := by
  refine Met.ofW (cc := cX0_init) (maxL := 1) (ret := none) (by decide) rfl ?_
  intro p e s m args below meth c s₁ B hml hv
  obtain ⟨rfl, hsz, hP, hG, hD0⟩ := hv
  have hx := B.exec
  have hb := B.bytes
  have hr := B.returns
  have hts := atoms_spec (ws := wsX0_init) B.pre
  have hown : s.vm.findClass RX0 = some m.cls := findClass_of_methodNamed B.named
  have hlocks := B.notSynchronized
  have hin : meth.name = "<init>" := (name_of_methodNamed B.named B.method).1
  have hi0 : ∀ w ∈ wsX00, w ∈ wsX0_init := fun _ h => List.mem_cons_of_mem _ (List.mem_append_right _ h)
  subst hsz
  have hD := hD0.self (sz := s.heap.size)
  generalize hAe : va_A (c_X0_init k h) s.heap.size = A at hD ⊢
  have hA : ∀ q : Nat, s.heap.size ≤ q → A q := fun q h => by rw [← hAe]; exact Or.inr h
  have hS : va_S A s.heap s.heap [] := va_S.rf
  have hP : va_P D vwCl [(h, .inr (0, [.int 0, .null, .null, .null]))] s.heap := hP
  have hD : va_D A [(h, .inr (0, [.int 0, .null, .null, .null]))] := hD
  have hl := lv_entry ([.ref h]) (n := 1) (Nat.le_of_ble_eq_true rfl)
  rw [lg_entry_eq]
  generalize (lg_sl ([.ref h]) ++ List.replicate (1 - (lg_sl ([.ref h])).length) Slot.unset).toArray = ls at hl ⊢
  have hl : lv_has ls 1 [(0, .ref h)] := hl
  refine lv_aload_n hx hb dX0_init_0 rfl (lv_at hl 0 rfl) ?_
  refine W.objInit hx hb hown (hts (.methodLink RX0 3 objectInit) (List.mem_cons_of_mem _ (List.mem_append_left _ (List.mem_of_getElem? (i := 0) rfl)))) (hts (.instanceMethod objectInit) (List.mem_cons_of_mem _ (List.mem_append_left _ (List.mem_of_getElem? (i := 1) rfl)))) (hts (.code objectInit ⟨#[0xb1]⟩ 1 none) (List.mem_cons_of_mem _ (List.mem_append_left _ (List.mem_of_getElem? (i := 2) rfl)))) rfl (by rw [hml]; exact hl.1) rfl dX0_init_1 (Nat.le_of_ble_eq_true rfl) (Nat.le_of_ble_eq_true rfl) ?_
  refine W.eq (g2 := F0 m 4 ls []) rfl ?_
  refine lv_aload_n hx hb dX0_init_4 rfl (lv_at hl 0 rfl) ?_
  refine lv_iconst (v := 0) hx hb dX0_init_5 (by decide) ?_
  refine va_put (D := D) (ci := 0) (v := .int 0) (ty := .int) (C := RX0) (T := TX0) (N := 4) hx hb hts hi0 tyX0 tyX0_ok nmX0 hown hG.1 hP hD hS 0 rfl rfl 0 (by decide) (hts (.fieldLink RX0 9 "SleptMatters$Book" "size" "I") (List.mem_cons_of_mem _ (List.mem_append_left _ (List.mem_of_getElem? (i := 3) rfl)))) (fun _ h9 => h9) rfl (by decide +kernel) rfl rfl (Nat.le_of_ble_eq_true rfl) dX0_init_6 (fun H locs hP hD hS => ?_)
  have hP : va_P D vwCl [(h, .inr (0, [.int 0, .null, .null, .null]))] H := hP
  have hD : va_D A [(h, .inr (0, [.int 0, .null, .null, .null]))] := hD
  refine lv_aload_n hx hb dX0_init_9 rfl (lv_at hl 0 rfl) ?_
  refine lv_bipush (v := 20) hx hb dX0_init_10 (by decide) ?_
  refine va_newa (atype := .int) (ty := .int) (a0 := (20, .inl (fun _ => 0))) hx hb (hts (.arrayClass .int) (List.mem_cons_of_mem _ (List.mem_append_left _ (List.mem_of_getElem? (i := 4) rfl)))) rfl hG.1 hP hD hS hA (fun _ => rfl) (by decide) (by decide) (show 20 * 4 ≤ 536870912 by omega) (Nat.le_of_ble_eq_true rfl) (Nat.le_of_ble_eq_true rfl) dX0_init_12 (fun b1 cN H hK9 hP hD hS => ?_)
  obtain rfl := cA_eq hK9 (i := 0) (j := 5) rfl rfl
  have hP : va_P D vwCl [(h, .inr (0, [.int 0, .null, .null, .null])), (b1, .inl (k 0, 20, .inl (fun _ => 0)))] H := hP
  have hD : va_D A [(h, .inr (0, [.int 0, .null, .null, .null])), (b1, .inl (k 0, 20, .inl (fun _ => 0)))] := hD
  refine W.widen (k := 1) (n := 20) (Nat.le_of_ble_eq_true rfl) (Nat.le_of_ble_eq_true rfl) ?_
  refine va_putF (D := D) (ci := 0) (v := .ref b1) (ty := (tyX0 1)) (C := RX0) (T := TX0) (N := 4) hx hb hts hi0 tyX0 tyX0_ok nmX0 hown hG.1 hP hD hS 0 rfl rfl 1 (by decide) (hts (.fieldLink RX0 15 "SleptMatters$Book" "days" "[I") (List.mem_cons_of_mem _ (List.mem_append_left _ (List.mem_of_getElem? (i := 5) rfl)))) (fun _ h9 => h9) rfl hin rfl (by decide +kernel) rfl rfl (Nat.le_of_ble_eq_true rfl) dX0_init_14 (fun H locs hP hD hS => ?_)
  have hP : va_P D vwCl [(h, .inr (0, [.int 0, .ref b1, .null, .null])), (b1, .inl (k 0, 20, .inl (fun _ => 0)))] H := hP
  have hD : va_D A [(h, .inr (0, [.int 0, .ref b1, .null, .null])), (b1, .inl (k 0, 20, .inl (fun _ => 0)))] := hD
  refine lv_aload_n hx hb dX0_init_17 rfl (lv_at hl 0 rfl) ?_
  refine lv_bipush (v := 20) hx hb dX0_init_18 (by decide) ?_
  refine va_newa (atype := .int) (ty := .int) (a0 := (20, .inl (fun _ => 0))) hx hb (hts (.arrayClass .int) (List.mem_cons_of_mem _ (List.mem_append_left _ (List.mem_of_getElem? (i := 4) rfl)))) rfl hG.1 hP hD hS hA (fun _ => rfl) (by decide) (by decide) (show 20 * 4 ≤ 536870912 by omega) (Nat.le_of_ble_eq_true rfl) (Nat.le_of_ble_eq_true rfl) dX0_init_20 (fun b2 cN H hK9 hP hD hS => ?_)
  obtain rfl := cA_eq hK9 (i := 0) (j := 5) rfl rfl
  have hP : va_P D vwCl [(h, .inr (0, [.int 0, .ref b1, .null, .null])), (b1, .inl (k 0, 20, .inl (fun _ => 0))), (b2, .inl (k 0, 20, .inl (fun _ => 0)))] H := hP
  have hD : va_D A [(h, .inr (0, [.int 0, .ref b1, .null, .null])), (b1, .inl (k 0, 20, .inl (fun _ => 0))), (b2, .inl (k 0, 20, .inl (fun _ => 0)))] := hD
  refine W.widen (k := 2) (n := 40) (Nat.le_of_ble_eq_true rfl) (Nat.le_of_ble_eq_true rfl) ?_
  refine va_putF (D := D) (ci := 0) (v := .ref b2) (ty := (tyX0 2)) (C := RX0) (T := TX0) (N := 4) hx hb hts hi0 tyX0 tyX0_ok nmX0 hown hG.1 hP hD hS 0 rfl rfl 2 (by decide) (hts (.fieldLink RX0 19 "SleptMatters$Book" "sleepers" "[I") (List.mem_cons_of_mem _ (List.mem_append_left _ (List.mem_of_getElem? (i := 6) rfl)))) (fun _ h9 => h9) rfl hin rfl (by decide +kernel) rfl rfl (Nat.le_of_ble_eq_true rfl) dX0_init_22 (fun H locs hP hD hS => ?_)
  have hP : va_P D vwCl [(h, .inr (0, [.int 0, .ref b1, .ref b2, .null])), (b1, .inl (k 0, 20, .inl (fun _ => 0))), (b2, .inl (k 0, 20, .inl (fun _ => 0)))] H := hP
  have hD : va_D A [(h, .inr (0, [.int 0, .ref b1, .ref b2, .null])), (b1, .inl (k 0, 20, .inl (fun _ => 0))), (b2, .inl (k 0, 20, .inl (fun _ => 0)))] := hD
  refine lv_aload_n hx hb dX0_init_25 rfl (lv_at hl 0 rfl) ?_
  refine lv_bipush (v := 20) hx hb dX0_init_26 (by decide) ?_
  refine va_newa (atype := .int) (ty := .int) (a0 := (20, .inl (fun _ => 0))) hx hb (hts (.arrayClass .int) (List.mem_cons_of_mem _ (List.mem_append_left _ (List.mem_of_getElem? (i := 4) rfl)))) rfl hG.1 hP hD hS hA (fun _ => rfl) (by decide) (by decide) (show 20 * 4 ≤ 536870912 by omega) (Nat.le_of_ble_eq_true rfl) (Nat.le_of_ble_eq_true rfl) dX0_init_28 (fun b3 cN H hK9 hP hD hS => ?_)
  obtain rfl := cA_eq hK9 (i := 0) (j := 5) rfl rfl
  have hP : va_P D vwCl [(h, .inr (0, [.int 0, .ref b1, .ref b2, .null])), (b1, .inl (k 0, 20, .inl (fun _ => 0))), (b2, .inl (k 0, 20, .inl (fun _ => 0))), (b3, .inl (k 0, 20, .inl (fun _ => 0)))] H := hP
  have hD : va_D A [(h, .inr (0, [.int 0, .ref b1, .ref b2, .null])), (b1, .inl (k 0, 20, .inl (fun _ => 0))), (b2, .inl (k 0, 20, .inl (fun _ => 0))), (b3, .inl (k 0, 20, .inl (fun _ => 0)))] := hD
  refine W.widen (k := 3) (n := 60) (Nat.le_of_ble_eq_true rfl) (Nat.le_of_ble_eq_true rfl) ?_
  refine va_putF (D := D) (ci := 0) (v := .ref b3) (ty := (tyX0 3)) (C := RX0) (T := TX0) (N := 4) hx hb hts hi0 tyX0 tyX0_ok nmX0 hown hG.1 hP hD hS 0 rfl rfl 3 (by decide) (hts (.fieldLink RX0 22 "SleptMatters$Book" "houses" "[I") (List.mem_cons_of_mem _ (List.mem_append_left _ (List.mem_of_getElem? (i := 7) rfl)))) (fun _ h9 => h9) rfl hin rfl (by decide +kernel) rfl rfl (Nat.le_of_ble_eq_true rfl) dX0_init_30 (fun H locs hP hD hS => ?_)
  have hP : va_P D vwCl [(h, .inr (0, [.int 0, .ref b1, .ref b2, .ref b3])), (b1, .inl (k 0, 20, .inl (fun _ => 0))), (b2, .inl (k 0, 20, .inl (fun _ => 0))), (b3, .inl (k 0, 20, .inl (fun _ => 0)))] H := hP
  have hD : va_D A [(h, .inr (0, [.int 0, .ref b1, .ref b2, .ref b3])), (b1, .inl (k 0, 20, .inl (fun _ => 0))), (b2, .inl (k 0, 20, .inl (fun _ => 0))), (b3, .inl (k 0, 20, .inl (fun _ => 0)))] := hD
  have hP9 := hP.sub (ws' := [(h, .inr (0, [.int 0, .ref b1, .ref b2, .ref b3])), (b1, .inl (k 0, 20, .inl (fun _ => 0))), (b2, .inl (k 0, 20, .inl (fun _ => 0))), (b3, .inl (k 0, 20, .inl (fun _ => 0)))]) [0, 1, 2, 3] rfl
  have hD9 := hD.sub (ws' := [(h, .inr (0, [.int 0, .ref b1, .ref b2, .ref b3])), (b1, .inl (k 0, 20, .inl (fun _ => 0))), (b2, .inl (k 0, 20, .inl (fun _ => 0))), (b3, .inl (k 0, 20, .inl (fun _ => 0)))]) [0, 1, 2, 3] (by decide +kernel) rfl
  exact W.vret hx hb hr (fun t9 ht _ => ⟨⟨(b1, b2, b3), rfl, trivial, by rw [ht]; exact hP9, hD9⟩, hS.F ht⟩) hS.2.2 dX0_init_33

abbrev c_X6_init (k : Nat → ClassId) (h : Nat) : va_W := [(h, .inr (6, [.int 0, .int 0, .null, .null, .null]))]
abbrev r_X6_init : Room := { frames := 1, cells := 3, slots := 45, locals := 24 }
def w_X6_init (k : Nat → ClassId) (h : Nat) : Nat × Nat × Nat → va_W := fun u => match u with | (b1, b2, b3) => [(h, .inr (6, [.int 0, .int 0, .ref b1, .ref b2, .ref b3])), (b1, .inl (k 0, 3, .inl (fun _ => 0))), (b2, .inl (k 0, 21, .inl (fun _ => 0))), (b3, .inl (k 0, 21, .inl (fun _ => 0)))]
def p_X6_init (k : Nat → ClassId) (h : Nat) : Nat × Nat × Nat → Prop := fun (u : Nat × Nat × Nat) => match u with | (b1, b2, b3) => True
abbrev q_X6_init (D : va_G) (k : Nat → ClassId) (h : Nat) (A : Nat → Prop) : Array Value → State → Outcome → State → Prop := va_Qv (p_X6_init k h) (fun u9 t9 => BO D (w_X6_init k h u9) A t9) A
set_option maxHeartbeats 2000000 in
set_option maxRecDepth 100000 in
theorem X6_init (l : Launch) (D : va_G) (k : Nat → ClassId) (sz : Nat) (h : Nat)  : Met l yX6_init wsX6_init r_X6_init (va_Pc [.ref h] (PR D k (c_X6_init k h) sz)) (q_X6_init D k h (va_A (c_X6_init k h) sz)) 3 45 (va_A (c_X6_init k h) sz) := by
  refine Met.ofW (cc := cX6_init) (maxL := 1) (ret := none) (by decide) rfl ?_
  intro p e s m args below meth c s₁ B hml hv
  obtain ⟨rfl, hsz, hP, hG, hD0⟩ := hv
  have hx := B.exec
  have hb := B.bytes
  have hr := B.returns
  have hts := atoms_spec (ws := wsX6_init) B.pre
  have hown : s.vm.findClass RX6 = some m.cls := findClass_of_methodNamed B.named
  have hlocks := B.notSynchronized
  have hin : meth.name = "<init>" := (name_of_methodNamed B.named B.method).1
  have hi6 : ∀ w ∈ wsX60, w ∈ wsX6_init := fun _ h => List.mem_cons_of_mem _ (List.mem_append_right _ h)
  subst hsz
  have hD := hD0.self (sz := s.heap.size)
  generalize hAe : va_A (c_X6_init k h) s.heap.size = A at hD ⊢
  have hA : ∀ q : Nat, s.heap.size ≤ q → A q := fun q h => by rw [← hAe]; exact Or.inr h
  have hS : va_S A s.heap s.heap [] := va_S.rf
  have hP : va_P D vwCl [(h, .inr (6, [.int 0, .int 0, .null, .null, .null]))] s.heap := hP
  have hD : va_D A [(h, .inr (6, [.int 0, .int 0, .null, .null, .null]))] := hD
  have hl := lv_entry ([.ref h]) (n := 1) (Nat.le_of_ble_eq_true rfl)
  rw [lg_entry_eq]
  generalize (lg_sl ([.ref h]) ++ List.replicate (1 - (lg_sl ([.ref h])).length) Slot.unset).toArray = ls at hl ⊢
  have hl : lv_has ls 1 [(0, .ref h)] := hl
  refine lv_aload_n hx hb dX6_init_0 rfl (lv_at hl 0 rfl) ?_
  refine W.objInit hx hb hown (hts (.methodLink RX6 3 objectInit) (List.mem_cons_of_mem _ (List.mem_append_left _ (List.mem_of_getElem? (i := 0) rfl)))) (hts (.instanceMethod objectInit) (List.mem_cons_of_mem _ (List.mem_append_left _ (List.mem_of_getElem? (i := 1) rfl)))) (hts (.code objectInit ⟨#[0xb1]⟩ 1 none) (List.mem_cons_of_mem _ (List.mem_append_left _ (List.mem_of_getElem? (i := 2) rfl)))) rfl (by rw [hml]; exact hl.1) rfl dX6_init_1 (Nat.le_of_ble_eq_true rfl) (Nat.le_of_ble_eq_true rfl) ?_
  refine W.eq (g2 := F0 m 4 ls []) rfl ?_
  refine lv_aload_n hx hb dX6_init_4 rfl (lv_at hl 0 rfl) ?_
  refine lv_iconst (v := 0) hx hb dX6_init_5 (by decide) ?_
  refine va_put (D := D) (ci := 6) (v := .int 0) (ty := .int) (C := RX6) (T := TX6) (N := 5) hx hb hts hi6 tyX6 tyX6_ok nmX6 hown hG.1 hP hD hS 0 rfl rfl 0 (by decide) (hts (.fieldLink RX6 9 "SleptMatters$Taken" "count" "I") (List.mem_cons_of_mem _ (List.mem_append_left _ (List.mem_of_getElem? (i := 3) rfl)))) (fun _ h9 => h9) rfl (by decide +kernel) rfl rfl (Nat.le_of_ble_eq_true rfl) dX6_init_6 (fun H locs hP hD hS => ?_)
  have hP : va_P D vwCl [(h, .inr (6, [.int 0, .int 0, .null, .null, .null]))] H := hP
  have hD : va_D A [(h, .inr (6, [.int 0, .int 0, .null, .null, .null]))] := hD
  refine lv_aload_n hx hb dX6_init_9 rfl (lv_at hl 0 rfl) ?_
  refine lv_iconst (v := 0) hx hb dX6_init_10 (by decide) ?_
  refine va_put (D := D) (ci := 6) (v := .int 0) (ty := .int) (C := RX6) (T := TX6) (N := 5) hx hb hts hi6 tyX6 tyX6_ok nmX6 hown hG.1 hP hD hS 0 rfl rfl 1 (by decide) (hts (.fieldLink RX6 15 "SleptMatters$Taken" "nights" "I") (List.mem_cons_of_mem _ (List.mem_append_left _ (List.mem_of_getElem? (i := 4) rfl)))) (fun _ h9 => h9) rfl (by decide +kernel) rfl rfl (Nat.le_of_ble_eq_true rfl) dX6_init_11 (fun H locs hP hD hS => ?_)
  have hP : va_P D vwCl [(h, .inr (6, [.int 0, .int 0, .null, .null, .null]))] H := hP
  have hD : va_D A [(h, .inr (6, [.int 0, .int 0, .null, .null, .null]))] := hD
  refine lv_aload_n hx hb dX6_init_14 rfl (lv_at hl 0 rfl) ?_
  refine lv_iconst (v := 3) hx hb dX6_init_15 (by decide) ?_
  refine va_newa (atype := .int) (ty := .int) (a0 := (3, .inl (fun _ => 0))) hx hb (hts (.arrayClass .int) (List.mem_cons_of_mem _ (List.mem_append_left _ (List.mem_of_getElem? (i := 5) rfl)))) rfl hG.1 hP hD hS hA (fun _ => rfl) (by decide) (by decide) (show 3 * 4 ≤ 536870912 by omega) (Nat.le_of_ble_eq_true rfl) (Nat.le_of_ble_eq_true rfl) dX6_init_16 (fun b1 cN H hK9 hP hD hS => ?_)
  obtain rfl := cA_eq hK9 (i := 0) (j := 5) rfl rfl
  have hP : va_P D vwCl [(h, .inr (6, [.int 0, .int 0, .null, .null, .null])), (b1, .inl (k 0, 3, .inl (fun _ => 0)))] H := hP
  have hD : va_D A [(h, .inr (6, [.int 0, .int 0, .null, .null, .null])), (b1, .inl (k 0, 3, .inl (fun _ => 0)))] := hD
  refine W.widen (k := 1) (n := 3) (Nat.le_of_ble_eq_true rfl) (Nat.le_of_ble_eq_true rfl) ?_
  refine va_putF (D := D) (ci := 6) (v := .ref b1) (ty := (tyX6 2)) (C := RX6) (T := TX6) (N := 5) hx hb hts hi6 tyX6 tyX6_ok nmX6 hown hG.1 hP hD hS 0 rfl rfl 2 (by decide) (hts (.fieldLink RX6 18 "SleptMatters$Taken" "starts" "[I") (List.mem_cons_of_mem _ (List.mem_append_left _ (List.mem_of_getElem? (i := 6) rfl)))) (fun _ h9 => h9) rfl hin rfl (by decide +kernel) rfl rfl (Nat.le_of_ble_eq_true rfl) dX6_init_18 (fun H locs hP hD hS => ?_)
  have hP : va_P D vwCl [(h, .inr (6, [.int 0, .int 0, .ref b1, .null, .null])), (b1, .inl (k 0, 3, .inl (fun _ => 0)))] H := hP
  have hD : va_D A [(h, .inr (6, [.int 0, .int 0, .ref b1, .null, .null])), (b1, .inl (k 0, 3, .inl (fun _ => 0)))] := hD
  refine lv_aload_n hx hb dX6_init_21 rfl (lv_at hl 0 rfl) ?_
  refine lv_bipush (v := 21) hx hb dX6_init_22 (by decide) ?_
  refine va_newa (atype := .int) (ty := .int) (a0 := (21, .inl (fun _ => 0))) hx hb (hts (.arrayClass .int) (List.mem_cons_of_mem _ (List.mem_append_left _ (List.mem_of_getElem? (i := 5) rfl)))) rfl hG.1 hP hD hS hA (fun _ => rfl) (by decide) (by decide) (show 21 * 4 ≤ 536870912 by omega) (Nat.le_of_ble_eq_true rfl) (Nat.le_of_ble_eq_true rfl) dX6_init_24 (fun b2 cN H hK9 hP hD hS => ?_)
  obtain rfl := cA_eq hK9 (i := 0) (j := 5) rfl rfl
  have hP : va_P D vwCl [(h, .inr (6, [.int 0, .int 0, .ref b1, .null, .null])), (b1, .inl (k 0, 3, .inl (fun _ => 0))), (b2, .inl (k 0, 21, .inl (fun _ => 0)))] H := hP
  have hD : va_D A [(h, .inr (6, [.int 0, .int 0, .ref b1, .null, .null])), (b1, .inl (k 0, 3, .inl (fun _ => 0))), (b2, .inl (k 0, 21, .inl (fun _ => 0)))] := hD
  refine W.widen (k := 2) (n := 24) (Nat.le_of_ble_eq_true rfl) (Nat.le_of_ble_eq_true rfl) ?_
  refine va_putF (D := D) (ci := 6) (v := .ref b2) (ty := (tyX6 3)) (C := RX6) (T := TX6) (N := 5) hx hb hts hi6 tyX6 tyX6_ok nmX6 hown hG.1 hP hD hS 0 rfl rfl 3 (by decide) (hts (.fieldLink RX6 22 "SleptMatters$Taken" "sleepers" "[I") (List.mem_cons_of_mem _ (List.mem_append_left _ (List.mem_of_getElem? (i := 7) rfl)))) (fun _ h9 => h9) rfl hin rfl (by decide +kernel) rfl rfl (Nat.le_of_ble_eq_true rfl) dX6_init_26 (fun H locs hP hD hS => ?_)
  have hP : va_P D vwCl [(h, .inr (6, [.int 0, .int 0, .ref b1, .ref b2, .null])), (b1, .inl (k 0, 3, .inl (fun _ => 0))), (b2, .inl (k 0, 21, .inl (fun _ => 0)))] H := hP
  have hD : va_D A [(h, .inr (6, [.int 0, .int 0, .ref b1, .ref b2, .null])), (b1, .inl (k 0, 3, .inl (fun _ => 0))), (b2, .inl (k 0, 21, .inl (fun _ => 0)))] := hD
  refine lv_aload_n hx hb dX6_init_29 rfl (lv_at hl 0 rfl) ?_
  refine lv_bipush (v := 21) hx hb dX6_init_30 (by decide) ?_
  refine va_newa (atype := .int) (ty := .int) (a0 := (21, .inl (fun _ => 0))) hx hb (hts (.arrayClass .int) (List.mem_cons_of_mem _ (List.mem_append_left _ (List.mem_of_getElem? (i := 5) rfl)))) rfl hG.1 hP hD hS hA (fun _ => rfl) (by decide) (by decide) (show 21 * 4 ≤ 536870912 by omega) (Nat.le_of_ble_eq_true rfl) (Nat.le_of_ble_eq_true rfl) dX6_init_32 (fun b3 cN H hK9 hP hD hS => ?_)
  obtain rfl := cA_eq hK9 (i := 0) (j := 5) rfl rfl
  have hP : va_P D vwCl [(h, .inr (6, [.int 0, .int 0, .ref b1, .ref b2, .null])), (b1, .inl (k 0, 3, .inl (fun _ => 0))), (b2, .inl (k 0, 21, .inl (fun _ => 0))), (b3, .inl (k 0, 21, .inl (fun _ => 0)))] H := hP
  have hD : va_D A [(h, .inr (6, [.int 0, .int 0, .ref b1, .ref b2, .null])), (b1, .inl (k 0, 3, .inl (fun _ => 0))), (b2, .inl (k 0, 21, .inl (fun _ => 0))), (b3, .inl (k 0, 21, .inl (fun _ => 0)))] := hD
  refine W.widen (k := 3) (n := 45) (Nat.le_of_ble_eq_true rfl) (Nat.le_of_ble_eq_true rfl) ?_
  refine va_putF (D := D) (ci := 6) (v := .ref b3) (ty := (tyX6 4)) (C := RX6) (T := TX6) (N := 5) hx hb hts hi6 tyX6 tyX6_ok nmX6 hown hG.1 hP hD hS 0 rfl rfl 4 (by decide) (hts (.fieldLink RX6 25 "SleptMatters$Taken" "houses" "[I") (List.mem_cons_of_mem _ (List.mem_append_left _ (List.mem_of_getElem? (i := 8) rfl)))) (fun _ h9 => h9) rfl hin rfl (by decide +kernel) rfl rfl (Nat.le_of_ble_eq_true rfl) dX6_init_34 (fun H locs hP hD hS => ?_)
  have hP : va_P D vwCl [(h, .inr (6, [.int 0, .int 0, .ref b1, .ref b2, .ref b3])), (b1, .inl (k 0, 3, .inl (fun _ => 0))), (b2, .inl (k 0, 21, .inl (fun _ => 0))), (b3, .inl (k 0, 21, .inl (fun _ => 0)))] H := hP
  have hD : va_D A [(h, .inr (6, [.int 0, .int 0, .ref b1, .ref b2, .ref b3])), (b1, .inl (k 0, 3, .inl (fun _ => 0))), (b2, .inl (k 0, 21, .inl (fun _ => 0))), (b3, .inl (k 0, 21, .inl (fun _ => 0)))] := hD
  have hP9 := hP.sub (ws' := [(h, .inr (6, [.int 0, .int 0, .ref b1, .ref b2, .ref b3])), (b1, .inl (k 0, 3, .inl (fun _ => 0))), (b2, .inl (k 0, 21, .inl (fun _ => 0))), (b3, .inl (k 0, 21, .inl (fun _ => 0)))]) [0, 1, 2, 3] rfl
  have hD9 := hD.sub (ws' := [(h, .inr (6, [.int 0, .int 0, .ref b1, .ref b2, .ref b3])), (b1, .inl (k 0, 3, .inl (fun _ => 0))), (b2, .inl (k 0, 21, .inl (fun _ => 0))), (b3, .inl (k 0, 21, .inl (fun _ => 0)))]) [0, 1, 2, 3] (by decide +kernel) rfl
  exact W.vret hx hb hr (fun t9 ht _ => ⟨⟨(b1, b2, b3), rfl, trivial, by rw [ht]; exact hP9, hD9⟩, hS.F ht⟩) hS.2.2 dX6_init_37

abbrev c_X8_init (k : Nat → ClassId) (h : Nat) : va_W := [(h, .inr (8, [.null, .null, .null, .null, .null]))]
abbrev r_X8_init : Room := { frames := 1, cells := 9, slots := 1528, locals := 24 }
def w_X8_init (k : Nat → ClassId) (h : Nat) : Nat × Nat × Nat × Nat × Nat × (Nat → Nat) → va_W := fun u => match u with | (t, tn, tl, tc, ta, rw) => [(h, .inr (8, [.ref t, .ref tn, .ref tl, .ref tc, .ref ta])), (t, .inl (k 0, 4, .inl (cI (fun _ => 0)))), (tn, .inl (k 4, 4, .inr (.inr (.inr (.inr (gr4 rw)))))), ((rw 0), .inl (k 0, 80, .inl (fun _ => 0))), ((rw 1), .inl (k 0, 80, .inl (fun _ => 0))), ((rw 2), .inl (k 0, 80, .inl (fun _ => 0))), ((rw 3), .inl (k 0, 80, .inl (fun _ => 0))), (tl, .inl (k 0, 400, .inl (fun _ => 0))), (tc, .inl (k 0, 700, .inl (fun _ => 0))), (ta, .inl (k 0, 100, .inl (cI (fun _ => 0))))]
def p_X8_init (k : Nat → ClassId) (h : Nat) : Nat × Nat × Nat × Nat × Nat × (Nat → Nat) → Prop := fun (u : Nat × Nat × Nat × Nat × Nat × (Nat → Nat)) => match u with | (t, tn, tl, tc, ta, rw) => True
abbrev q_X8_init (D : va_G) (k : Nat → ClassId) (h : Nat) (A : Nat → Prop) : Array Value → State → Outcome → State → Prop := va_Qv (p_X8_init k h) (fun u9 t9 => BO D (w_X8_init k h u9) A t9) A
set_option maxHeartbeats 2000000 in
set_option maxRecDepth 100000 in
theorem X8_init (l : Launch) (D : va_G) (k : Nat → ClassId) (sz : Nat) (h : Nat)  : Met l yX8_init wsX8_init r_X8_init (va_Pc [.ref h] (PR D k (c_X8_init k h) sz)) (q_X8_init D k h (va_A (c_X8_init k h) sz)) 9 1528 (va_A (c_X8_init k h) sz) := by
  refine Met.ofW (cc := cX8_init) (maxL := 1) (ret := none) (by decide) rfl ?_
  intro p e s m args below meth c s₁ B hml hv
  obtain ⟨rfl, hsz, hP, hG, hD0⟩ := hv
  have hx := B.exec
  have hb := B.bytes
  have hr := B.returns
  have hts := atoms_spec (ws := wsX8_init) B.pre
  have hown : s.vm.findClass RX8 = some m.cls := findClass_of_methodNamed B.named
  have hlocks := B.notSynchronized
  have hin : meth.name = "<init>" := (name_of_methodNamed B.named B.method).1
  have hi8 : ∀ w ∈ wsX80, w ∈ wsX8_init := fun _ h => List.mem_cons_of_mem _ (List.mem_append_right _ h)
  subst hsz
  have hD := hD0.self (sz := s.heap.size)
  generalize hAe : va_A (c_X8_init k h) s.heap.size = A at hD ⊢
  have hA : ∀ q : Nat, s.heap.size ≤ q → A q := fun q h => by rw [← hAe]; exact Or.inr h
  have hS : va_S A s.heap s.heap [] := va_S.rf
  have hP : va_P D vwCl [(h, .inr (8, [.null, .null, .null, .null, .null]))] s.heap := hP
  have hD : va_D A [(h, .inr (8, [.null, .null, .null, .null, .null]))] := hD
  have hl := lv_entry ([.ref h]) (n := 1) (Nat.le_of_ble_eq_true rfl)
  rw [lg_entry_eq]
  generalize (lg_sl ([.ref h]) ++ List.replicate (1 - (lg_sl ([.ref h])).length) Slot.unset).toArray = ls at hl ⊢
  have hl : lv_has ls 1 [(0, .ref h)] := hl
  refine lv_aload_n hx hb dX8_init_0 rfl (lv_at hl 0 rfl) ?_
  refine W.objInit hx hb hown (hts (.methodLink RX8 3 objectInit) (List.mem_cons_of_mem _ (List.mem_append_left _ (List.mem_of_getElem? (i := 0) rfl)))) (hts (.instanceMethod objectInit) (List.mem_cons_of_mem _ (List.mem_append_left _ (List.mem_of_getElem? (i := 1) rfl)))) (hts (.code objectInit ⟨#[0xb1]⟩ 1 none) (List.mem_cons_of_mem _ (List.mem_append_left _ (List.mem_of_getElem? (i := 2) rfl)))) rfl (by rw [hml]; exact hl.1) rfl dX8_init_1 (Nat.le_of_ble_eq_true rfl) (Nat.le_of_ble_eq_true rfl) ?_
  refine W.eq (g2 := F0 m 4 ls []) rfl ?_
  refine lv_aload_n hx hb dX8_init_4 rfl (lv_at hl 0 rfl) ?_
  refine lv_iconst (v := 4) hx hb dX8_init_5 (by decide) ?_
  refine va_newa (atype := .int) (ty := .int) (a0 := (4, .inl (fun _ => 0))) hx hb (hts (.arrayClass .int) (List.mem_cons_of_mem _ (List.mem_append_left _ (List.mem_of_getElem? (i := 3) rfl)))) rfl hG.1 hP hD hS hA (fun _ => rfl) (by decide) (by decide) (show 4 * 4 ≤ 536870912 by omega) (Nat.le_of_ble_eq_true rfl) (Nat.le_of_ble_eq_true rfl) dX8_init_6 (fun t cN H hK9 hP hD hS => ?_)
  obtain rfl := cA_eq hK9 (i := 0) (j := 5) rfl rfl
  have hP : va_P D vwCl [(h, .inr (8, [.null, .null, .null, .null, .null])), (t, .inl (k 0, 4, .inl (fun _ => 0)))] H := hP
  have hD : va_D A [(h, .inr (8, [.null, .null, .null, .null, .null])), (t, .inl (k 0, 4, .inl (fun _ => 0)))] := hD
  refine W.widen (k := 1) (n := 4) (Nat.le_of_ble_eq_true rfl) (Nat.le_of_ble_eq_true rfl) ?_
  refine va_putF (D := D) (ci := 8) (v := .ref t) (ty := (tyX8 0)) (C := RX8) (T := TX8) (N := 5) hx hb hts hi8 tyX8 tyX8_ok nmX8 hown hG.1 hP hD hS 0 rfl rfl 0 (by decide) (hts (.fieldLink RX8 9 "SleptMatters$Town" "counts" "[I") (List.mem_cons_of_mem _ (List.mem_append_left _ (List.mem_of_getElem? (i := 4) rfl)))) (fun _ h9 => h9) rfl hin rfl (by decide +kernel) rfl rfl (Nat.le_of_ble_eq_true rfl) dX8_init_8 (fun H locs hP hD hS => ?_)
  have hP : va_P D vwCl [(h, .inr (8, [.ref t, .null, .null, .null, .null])), (t, .inl (k 0, 4, .inl (fun _ => 0)))] H := hP
  have hD : va_D A [(h, .inr (8, [.ref t, .null, .null, .null, .null])), (t, .inl (k 0, 4, .inl (fun _ => 0)))] := hD
  refine lv_aload_n hx hb dX8_init_11 rfl (lv_at hl 0 rfl) ?_
  refine lv_iconst (v := 4) hx hb dX8_init_12 (by decide) ?_
  refine lv_bipush (v := 80) hx hb dX8_init_13 (by decide) ?_
  obtain ⟨kI, hkI⟩ : ∃ z, z = k 0 := ⟨_, rfl⟩
  refine va_mna (X := [(h, .inr (8, [.ref t, .null, .null, .null, .null])), (t, .inl (k 0, 4, .inl (fun _ => 0)))]) (L := []) (f := fun _ => .inr (0, [])) (ty := .int) (cy := k 0) (N' := 4) (K' := 80) (z := (80, .inl (fun _ => 0))) hx hb hown (hts (.classLink RX8 15 "[[I") (List.mem_cons_of_mem _ (List.mem_append_left _ (List.mem_of_getElem? (i := 5) rfl)))) hG.2.2.2 (hts (.arrayClass .int) (List.mem_cons_of_mem _ (List.mem_append_left _ (List.mem_of_getElem? (i := 3) rfl)))) (hG.1.2 0 _ rfl).2 hG.1 (by rw [va_pl_nil]; exact hP) (by rw [va_pl_nil]; exact hD) hS hA (by decide) (by decide) (by decide) (by decide) (show 4 * 4 ≤ 536870912 by omega) (show 80 * 4 ≤ 536870912 by omega) (show 80 ≤ 536870912 by omega) rfl rfl (Nat.le_of_ble_eq_true rfl) (Nat.le_of_ble_eq_true rfl) (fun _ => rfl) dX8_init_15 (fun tn rw9 cN H hi9 hn9 hK9 hP hD hS => ?_)
  obtain rfl := cA_eq hK9 (i := 4) (j := 5) rfl rfl
  rw [va_pl4] at hP hD
  have hP : va_P D vwCl [(h, .inr (8, [.ref t, .null, .null, .null, .null])), (t, .inl (k 0, 4, .inl (fun _ => 0))), (tn, .inl (k 4, 4, .inr (.inr (.inr (.inr (gr4 rw9)))))), ((rw9 0), .inl (k 0, 80, .inl (fun _ => 0))), ((rw9 1), .inl (k 0, 80, .inl (fun _ => 0))), ((rw9 2), .inl (k 0, 80, .inl (fun _ => 0))), ((rw9 3), .inl (k 0, 80, .inl (fun _ => 0)))] H := hP
  have hD : va_D A [(h, .inr (8, [.ref t, .null, .null, .null, .null])), (t, .inl (k 0, 4, .inl (fun _ => 0))), (tn, .inl (k 4, 4, .inr (.inr (.inr (.inr (gr4 rw9)))))), ((rw9 0), .inl (k 0, 80, .inl (fun _ => 0))), ((rw9 1), .inl (k 0, 80, .inl (fun _ => 0))), ((rw9 2), .inl (k 0, 80, .inl (fun _ => 0))), ((rw9 3), .inl (k 0, 80, .inl (fun _ => 0)))] := hD
  refine W.widen (k := 6) (n := 328) (Nat.le_of_ble_eq_true rfl) (Nat.le_of_ble_eq_true rfl) ?_
  refine va_putF (D := D) (ci := 8) (v := .ref tn) (ty := (tyX8 1)) (C := RX8) (T := TX8) (N := 5) hx hb hts hi8 tyX8 tyX8_ok nmX8 hown hG.1 hP hD hS 0 rfl rfl 1 (by decide) (hts (.fieldLink RX8 17 "SleptMatters$Town" "numbers" "[[I") (List.mem_cons_of_mem _ (List.mem_append_left _ (List.mem_of_getElem? (i := 6) rfl)))) (fun _ h9 => h9) rfl hin rfl (by decide +kernel) rfl rfl (Nat.le_of_ble_eq_true rfl) dX8_init_19 (fun H locs hP hD hS => ?_)
  have hP : va_P D vwCl [(h, .inr (8, [.ref t, .ref tn, .null, .null, .null])), (t, .inl (k 0, 4, .inl (fun _ => 0))), (tn, .inl (k 4, 4, .inr (.inr (.inr (.inr (gr4 rw9)))))), ((rw9 0), .inl (k 0, 80, .inl (fun _ => 0))), ((rw9 1), .inl (k 0, 80, .inl (fun _ => 0))), ((rw9 2), .inl (k 0, 80, .inl (fun _ => 0))), ((rw9 3), .inl (k 0, 80, .inl (fun _ => 0)))] H := hP
  have hD : va_D A [(h, .inr (8, [.ref t, .ref tn, .null, .null, .null])), (t, .inl (k 0, 4, .inl (fun _ => 0))), (tn, .inl (k 4, 4, .inr (.inr (.inr (.inr (gr4 rw9)))))), ((rw9 0), .inl (k 0, 80, .inl (fun _ => 0))), ((rw9 1), .inl (k 0, 80, .inl (fun _ => 0))), ((rw9 2), .inl (k 0, 80, .inl (fun _ => 0))), ((rw9 3), .inl (k 0, 80, .inl (fun _ => 0)))] := hD
  refine lv_aload_n hx hb dX8_init_22 rfl (lv_at hl 0 rfl) ?_
  refine lv_sipush (v := 400) hx hb dX8_init_23 (by decide) ?_
  refine va_newa (atype := .int) (ty := .int) (a0 := (400, .inl (fun _ => 0))) hx hb (hts (.arrayClass .int) (List.mem_cons_of_mem _ (List.mem_append_left _ (List.mem_of_getElem? (i := 3) rfl)))) rfl hG.1 hP hD hS hA (fun _ => rfl) (by decide) (by decide) (show 400 * 4 ≤ 536870912 by omega) (Nat.le_of_ble_eq_true rfl) (Nat.le_of_ble_eq_true rfl) dX8_init_26 (fun tl cN H hK9 hP hD hS => ?_)
  obtain rfl := cA_eq hK9 (i := 0) (j := 5) rfl rfl
  have hP : va_P D vwCl [(h, .inr (8, [.ref t, .ref tn, .null, .null, .null])), (t, .inl (k 0, 4, .inl (fun _ => 0))), (tn, .inl (k 4, 4, .inr (.inr (.inr (.inr (gr4 rw9)))))), ((rw9 0), .inl (k 0, 80, .inl (fun _ => 0))), ((rw9 1), .inl (k 0, 80, .inl (fun _ => 0))), ((rw9 2), .inl (k 0, 80, .inl (fun _ => 0))), ((rw9 3), .inl (k 0, 80, .inl (fun _ => 0))), (tl, .inl (k 0, 400, .inl (fun _ => 0)))] H := hP
  have hD : va_D A [(h, .inr (8, [.ref t, .ref tn, .null, .null, .null])), (t, .inl (k 0, 4, .inl (fun _ => 0))), (tn, .inl (k 4, 4, .inr (.inr (.inr (.inr (gr4 rw9)))))), ((rw9 0), .inl (k 0, 80, .inl (fun _ => 0))), ((rw9 1), .inl (k 0, 80, .inl (fun _ => 0))), ((rw9 2), .inl (k 0, 80, .inl (fun _ => 0))), ((rw9 3), .inl (k 0, 80, .inl (fun _ => 0))), (tl, .inl (k 0, 400, .inl (fun _ => 0)))] := hD
  refine W.widen (k := 7) (n := 728) (Nat.le_of_ble_eq_true rfl) (Nat.le_of_ble_eq_true rfl) ?_
  refine va_putF (D := D) (ci := 8) (v := .ref tl) (ty := (tyX8 2)) (C := RX8) (T := TX8) (N := 5) hx hb hts hi8 tyX8 tyX8_ok nmX8 hown hG.1 hP hD hS 0 rfl rfl 2 (by decide) (hts (.fieldLink RX8 20 "SleptMatters$Town" "loudness" "[I") (List.mem_cons_of_mem _ (List.mem_append_left _ (List.mem_of_getElem? (i := 7) rfl)))) (fun _ h9 => h9) rfl hin rfl (by decide +kernel) rfl rfl (Nat.le_of_ble_eq_true rfl) dX8_init_28 (fun H locs hP hD hS => ?_)
  have hP : va_P D vwCl [(h, .inr (8, [.ref t, .ref tn, .ref tl, .null, .null])), (t, .inl (k 0, 4, .inl (fun _ => 0))), (tn, .inl (k 4, 4, .inr (.inr (.inr (.inr (gr4 rw9)))))), ((rw9 0), .inl (k 0, 80, .inl (fun _ => 0))), ((rw9 1), .inl (k 0, 80, .inl (fun _ => 0))), ((rw9 2), .inl (k 0, 80, .inl (fun _ => 0))), ((rw9 3), .inl (k 0, 80, .inl (fun _ => 0))), (tl, .inl (k 0, 400, .inl (fun _ => 0)))] H := hP
  have hD : va_D A [(h, .inr (8, [.ref t, .ref tn, .ref tl, .null, .null])), (t, .inl (k 0, 4, .inl (fun _ => 0))), (tn, .inl (k 4, 4, .inr (.inr (.inr (.inr (gr4 rw9)))))), ((rw9 0), .inl (k 0, 80, .inl (fun _ => 0))), ((rw9 1), .inl (k 0, 80, .inl (fun _ => 0))), ((rw9 2), .inl (k 0, 80, .inl (fun _ => 0))), ((rw9 3), .inl (k 0, 80, .inl (fun _ => 0))), (tl, .inl (k 0, 400, .inl (fun _ => 0)))] := hD
  refine lv_aload_n hx hb dX8_init_31 rfl (lv_at hl 0 rfl) ?_
  refine lv_sipush (v := 700) hx hb dX8_init_32 (by decide) ?_
  refine va_newa (atype := .int) (ty := .int) (a0 := (700, .inl (fun _ => 0))) hx hb (hts (.arrayClass .int) (List.mem_cons_of_mem _ (List.mem_append_left _ (List.mem_of_getElem? (i := 3) rfl)))) rfl hG.1 hP hD hS hA (fun _ => rfl) (by decide) (by decide) (show 700 * 4 ≤ 536870912 by omega) (Nat.le_of_ble_eq_true rfl) (Nat.le_of_ble_eq_true rfl) dX8_init_35 (fun tc cN H hK9 hP hD hS => ?_)
  obtain rfl := cA_eq hK9 (i := 0) (j := 5) rfl rfl
  have hP : va_P D vwCl [(h, .inr (8, [.ref t, .ref tn, .ref tl, .null, .null])), (t, .inl (k 0, 4, .inl (fun _ => 0))), (tn, .inl (k 4, 4, .inr (.inr (.inr (.inr (gr4 rw9)))))), ((rw9 0), .inl (k 0, 80, .inl (fun _ => 0))), ((rw9 1), .inl (k 0, 80, .inl (fun _ => 0))), ((rw9 2), .inl (k 0, 80, .inl (fun _ => 0))), ((rw9 3), .inl (k 0, 80, .inl (fun _ => 0))), (tl, .inl (k 0, 400, .inl (fun _ => 0))), (tc, .inl (k 0, 700, .inl (fun _ => 0)))] H := hP
  have hD : va_D A [(h, .inr (8, [.ref t, .ref tn, .ref tl, .null, .null])), (t, .inl (k 0, 4, .inl (fun _ => 0))), (tn, .inl (k 4, 4, .inr (.inr (.inr (.inr (gr4 rw9)))))), ((rw9 0), .inl (k 0, 80, .inl (fun _ => 0))), ((rw9 1), .inl (k 0, 80, .inl (fun _ => 0))), ((rw9 2), .inl (k 0, 80, .inl (fun _ => 0))), ((rw9 3), .inl (k 0, 80, .inl (fun _ => 0))), (tl, .inl (k 0, 400, .inl (fun _ => 0))), (tc, .inl (k 0, 700, .inl (fun _ => 0)))] := hD
  refine W.widen (k := 8) (n := 1428) (Nat.le_of_ble_eq_true rfl) (Nat.le_of_ble_eq_true rfl) ?_
  refine va_putF (D := D) (ci := 8) (v := .ref tc) (ty := (tyX8 3)) (C := RX8) (T := TX8) (N := 5) hx hb hts hi8 tyX8 tyX8_ok nmX8 hown hG.1 hP hD hS 0 rfl rfl 3 (by decide) (hts (.fieldLink RX8 23 "SleptMatters$Town" "calm" "[I") (List.mem_cons_of_mem _ (List.mem_append_left _ (List.mem_of_getElem? (i := 8) rfl)))) (fun _ h9 => h9) rfl hin rfl (by decide +kernel) rfl rfl (Nat.le_of_ble_eq_true rfl) dX8_init_37 (fun H locs hP hD hS => ?_)
  have hP : va_P D vwCl [(h, .inr (8, [.ref t, .ref tn, .ref tl, .ref tc, .null])), (t, .inl (k 0, 4, .inl (fun _ => 0))), (tn, .inl (k 4, 4, .inr (.inr (.inr (.inr (gr4 rw9)))))), ((rw9 0), .inl (k 0, 80, .inl (fun _ => 0))), ((rw9 1), .inl (k 0, 80, .inl (fun _ => 0))), ((rw9 2), .inl (k 0, 80, .inl (fun _ => 0))), ((rw9 3), .inl (k 0, 80, .inl (fun _ => 0))), (tl, .inl (k 0, 400, .inl (fun _ => 0))), (tc, .inl (k 0, 700, .inl (fun _ => 0)))] H := hP
  have hD : va_D A [(h, .inr (8, [.ref t, .ref tn, .ref tl, .ref tc, .null])), (t, .inl (k 0, 4, .inl (fun _ => 0))), (tn, .inl (k 4, 4, .inr (.inr (.inr (.inr (gr4 rw9)))))), ((rw9 0), .inl (k 0, 80, .inl (fun _ => 0))), ((rw9 1), .inl (k 0, 80, .inl (fun _ => 0))), ((rw9 2), .inl (k 0, 80, .inl (fun _ => 0))), ((rw9 3), .inl (k 0, 80, .inl (fun _ => 0))), (tl, .inl (k 0, 400, .inl (fun _ => 0))), (tc, .inl (k 0, 700, .inl (fun _ => 0)))] := hD
  refine lv_aload_n hx hb dX8_init_40 rfl (lv_at hl 0 rfl) ?_
  refine lv_bipush (v := 100) hx hb dX8_init_41 (by decide) ?_
  refine va_newa (atype := .int) (ty := .int) (a0 := (100, .inl (fun _ => 0))) hx hb (hts (.arrayClass .int) (List.mem_cons_of_mem _ (List.mem_append_left _ (List.mem_of_getElem? (i := 3) rfl)))) rfl hG.1 hP hD hS hA (fun _ => rfl) (by decide) (by decide) (show 100 * 4 ≤ 536870912 by omega) (Nat.le_of_ble_eq_true rfl) (Nat.le_of_ble_eq_true rfl) dX8_init_43 (fun ta cN H hK9 hP hD hS => ?_)
  obtain rfl := cA_eq hK9 (i := 0) (j := 5) rfl rfl
  have hP : va_P D vwCl [(h, .inr (8, [.ref t, .ref tn, .ref tl, .ref tc, .null])), (t, .inl (k 0, 4, .inl (fun _ => 0))), (tn, .inl (k 4, 4, .inr (.inr (.inr (.inr (gr4 rw9)))))), ((rw9 0), .inl (k 0, 80, .inl (fun _ => 0))), ((rw9 1), .inl (k 0, 80, .inl (fun _ => 0))), ((rw9 2), .inl (k 0, 80, .inl (fun _ => 0))), ((rw9 3), .inl (k 0, 80, .inl (fun _ => 0))), (tl, .inl (k 0, 400, .inl (fun _ => 0))), (tc, .inl (k 0, 700, .inl (fun _ => 0))), (ta, .inl (k 0, 100, .inl (fun _ => 0)))] H := hP
  have hD : va_D A [(h, .inr (8, [.ref t, .ref tn, .ref tl, .ref tc, .null])), (t, .inl (k 0, 4, .inl (fun _ => 0))), (tn, .inl (k 4, 4, .inr (.inr (.inr (.inr (gr4 rw9)))))), ((rw9 0), .inl (k 0, 80, .inl (fun _ => 0))), ((rw9 1), .inl (k 0, 80, .inl (fun _ => 0))), ((rw9 2), .inl (k 0, 80, .inl (fun _ => 0))), ((rw9 3), .inl (k 0, 80, .inl (fun _ => 0))), (tl, .inl (k 0, 400, .inl (fun _ => 0))), (tc, .inl (k 0, 700, .inl (fun _ => 0))), (ta, .inl (k 0, 100, .inl (fun _ => 0)))] := hD
  refine W.widen (k := 9) (n := 1528) (Nat.le_of_ble_eq_true rfl) (Nat.le_of_ble_eq_true rfl) ?_
  refine va_putF (D := D) (ci := 8) (v := .ref ta) (ty := (tyX8 4)) (C := RX8) (T := TX8) (N := 5) hx hb hts hi8 tyX8 tyX8_ok nmX8 hown hG.1 hP hD hS 0 rfl rfl 4 (by decide) (hts (.fieldLink RX8 26 "SleptMatters$Town" "alike" "[I") (List.mem_cons_of_mem _ (List.mem_append_left _ (List.mem_of_getElem? (i := 9) rfl)))) (fun _ h9 => h9) rfl hin rfl (by decide +kernel) rfl rfl (Nat.le_of_ble_eq_true rfl) dX8_init_45 (fun H locs hP hD hS => ?_)
  have hP : va_P D vwCl [(h, .inr (8, [.ref t, .ref tn, .ref tl, .ref tc, .ref ta])), (t, .inl (k 0, 4, .inl (fun _ => 0))), (tn, .inl (k 4, 4, .inr (.inr (.inr (.inr (gr4 rw9)))))), ((rw9 0), .inl (k 0, 80, .inl (fun _ => 0))), ((rw9 1), .inl (k 0, 80, .inl (fun _ => 0))), ((rw9 2), .inl (k 0, 80, .inl (fun _ => 0))), ((rw9 3), .inl (k 0, 80, .inl (fun _ => 0))), (tl, .inl (k 0, 400, .inl (fun _ => 0))), (tc, .inl (k 0, 700, .inl (fun _ => 0))), (ta, .inl (k 0, 100, .inl (fun _ => 0)))] H := hP
  have hD : va_D A [(h, .inr (8, [.ref t, .ref tn, .ref tl, .ref tc, .ref ta])), (t, .inl (k 0, 4, .inl (fun _ => 0))), (tn, .inl (k 4, 4, .inr (.inr (.inr (.inr (gr4 rw9)))))), ((rw9 0), .inl (k 0, 80, .inl (fun _ => 0))), ((rw9 1), .inl (k 0, 80, .inl (fun _ => 0))), ((rw9 2), .inl (k 0, 80, .inl (fun _ => 0))), ((rw9 3), .inl (k 0, 80, .inl (fun _ => 0))), (tl, .inl (k 0, 400, .inl (fun _ => 0))), (tc, .inl (k 0, 700, .inl (fun _ => 0))), (ta, .inl (k 0, 100, .inl (fun _ => 0)))] := hD
  have hP9 := hP.sub (ws' := [(h, .inr (8, [.ref t, .ref tn, .ref tl, .ref tc, .ref ta])), (t, .inl (k 0, 4, .inl (cI (fun _ => 0)))), (tn, .inl (k 4, 4, .inr (.inr (.inr (.inr (gr4 rw9)))))), ((rw9 0), .inl (k 0, 80, .inl (fun _ => 0))), ((rw9 1), .inl (k 0, 80, .inl (fun _ => 0))), ((rw9 2), .inl (k 0, 80, .inl (fun _ => 0))), ((rw9 3), .inl (k 0, 80, .inl (fun _ => 0))), (tl, .inl (k 0, 400, .inl (fun _ => 0))), (tc, .inl (k 0, 700, .inl (fun _ => 0))), (ta, .inl (k 0, 100, .inl (cI (fun _ => 0))))]) [0, 1, 2, 3, 4, 5, 6, 7, 8, 9] rfl
  have hD9 := hD.sub (ws' := [(h, .inr (8, [.ref t, .ref tn, .ref tl, .ref tc, .ref ta])), (t, .inl (k 0, 4, .inl (cI (fun _ => 0)))), (tn, .inl (k 4, 4, .inr (.inr (.inr (.inr (gr4 rw9)))))), ((rw9 0), .inl (k 0, 80, .inl (fun _ => 0))), ((rw9 1), .inl (k 0, 80, .inl (fun _ => 0))), ((rw9 2), .inl (k 0, 80, .inl (fun _ => 0))), ((rw9 3), .inl (k 0, 80, .inl (fun _ => 0))), (tl, .inl (k 0, 400, .inl (fun _ => 0))), (tc, .inl (k 0, 700, .inl (fun _ => 0))), (ta, .inl (k 0, 100, .inl (cI (fun _ => 0))))]) [0, 1, 2, 3, 4, 5, 6, 7, 8, 9] (by decide +kernel) rfl
  exact W.vret hx hb hr (fun t9 ht _ => ⟨⟨(t, tn, tl, tc, ta, rw9), rfl, trivial, by rw [ht]; exact hP9, hD9⟩, hS.F ht⟩) hS.2.2 dX8_init_48

abbrev c_X5_init (k : Nat → ClassId) (h : Nat) (t0 : Nat) (t : Nat) (tn : Nat) (tl : Nat) (tc : Nat) (ta : Nat) (rw : Nat → Nat) (q : Nat → Nat) (G0 : Nat → Int32) : va_W := [(h, .inr (5, [.null, .null, .null, .null, .null, .null, .null, .null, .null, .null])), (t0, .inr (8, [.ref t, .ref tn, .ref tl, .ref tc, .ref ta])), (t, .inl (k 0, 4, .inl (cI q))), (tn, .inl (k 4, 4, .inr (.inr (.inr (.inr (gr4 rw)))))), ((rw 0), .inl (k 0, 80, .inl G0))]
abbrev r_X5_init : Room := { frames := 3, cells := 12, slots := 676, locals := 67 }
def w_X5_init (k : Nat → ClassId) (h : Nat) (t0 : Nat) (t : Nat) (tn : Nat) (tl : Nat) (tc : Nat) (ta : Nat) (rw : Nat → Nat) (q : Nat → Nat) (G0 : Nat → Int32) : Nat × Nat × Nat × Nat × Nat × Nat × Nat × Nat × Nat × Nat × Nat × Nat × (Nat → Int32) → va_W := fun u => match u with | (r0, r1, nk, r4, r5, r6, r7, r8, r9, nk1, nk2, nk3, be) => [(h, .inr (5, [.ref r0, .ref r1, .ref t0, .ref nk, .ref r4, .ref r5, .ref r6, .ref r7, .ref r8, .ref r9])), (r0, .inl (k 0, 7, .inl (fun _ => 0))), (r1, .inl (k 0, 7, .inl (fun _ => 0))), (nk, .inr (6, [.int 0, .int 0, .ref nk1, .ref nk2, .ref nk3])), (nk1, .inl (k 0, 3, .inl (fun _ => 0))), (nk2, .inl (k 0, 21, .inl (fun _ => 0))), (nk3, .inl (k 0, 21, .inl (fun _ => 0))), (r4, .inl (k 0, 7, .inl be)), (r5, .inl (k 0, 100, .inl (fl_i (fun _ => 0) (-1) 100))), (r6, .inl (k 1, 200, .inr (.inl (fl_l (fun _ => 0) 0 200)))), (r7, .inl (k 1, 128, .inr (.inl (fun _ => 0)))), (r8, .inl (k 1, 128, .inr (.inl (fun _ => 0)))), (r9, .inl (k 0, 49, .inl (fun _ => 0))), (t0, .inr (8, [.ref t, .ref tn, .ref tl, .ref tc, .ref ta])), (t, .inl (k 0, 4, .inl (cI q))), (tn, .inl (k 4, 4, .inr (.inr (.inr (.inr (gr4 rw)))))), ((rw 0), .inl (k 0, 80, .inl G0))]
def p_X5_init (k : Nat → ClassId) (h : Nat) (t0 : Nat) (t : Nat) (tn : Nat) (tl : Nat) (tc : Nat) (ta : Nat) (rw : Nat → Nat) (q : Nat → Nat) (G0 : Nat → Int32) : Nat × Nat × Nat × Nat × Nat × Nat × Nat × Nat × Nat × Nat × Nat × Nat × (Nat → Int32) → Prop := fun (u : Nat × Nat × Nat × Nat × Nat × Nat × Nat × Nat × Nat × Nat × Nat × Nat × (Nat → Int32)) => match u with | (r0, r1, nk, r4, r5, r6, r7, r8, r9, nk1, nk2, nk3, be) => True
abbrev q_X5_init (D : va_G) (k : Nat → ClassId) (h : Nat) (t0 : Nat) (t : Nat) (tn : Nat) (tl : Nat) (tc : Nat) (ta : Nat) (rw : Nat → Nat) (q : Nat → Nat) (G0 : Nat → Int32) (A : Nat → Prop) : Array Value → State → Outcome → State → Prop := va_Qv (p_X5_init k h t0 t tn tl tc ta rw q G0) (fun u9 t9 => BO D (w_X5_init k h t0 t tn tl tc ta rw q G0 u9) A t9) A
set_option maxHeartbeats 2000000 in
set_option maxRecDepth 100000 in
theorem X5_init (l : Launch) (D : va_G) (k : Nat → ClassId) (sz : Nat) (h : Nat) (t0 : Nat) (t : Nat) (tn : Nat) (tl : Nat) (tc : Nat) (ta : Nat) (rw : Nat → Nat) (q : Nat → Nat) (G0 : Nat → Int32) (hq0 : q 0 ≤ 7) : Met l yX5_init wsX5_init r_X5_init (va_Pc [.ref h, .ref t0] (PR D k (c_X5_init k h t0 t tn tl tc ta rw q G0) sz)) (q_X5_init D k h t0 t tn tl tc ta rw q G0 (va_A (c_X5_init k h t0 t tn tl tc ta rw q G0) sz)) 12 676 (va_A (c_X5_init k h t0 t tn tl tc ta rw q G0) sz) := by
  refine Met.ofW (cc := cX5_init) (maxL := 2) (ret := none) (by decide) rfl ?_
  intro p e s m args below meth c s₁ B hml hv
  obtain ⟨rfl, hsz, hP, hG, hD0⟩ := hv
  have hx := B.exec
  have hb := B.bytes
  have hr := B.returns
  have hts := atoms_spec (ws := wsX5_init) B.pre
  have hown : s.vm.findClass RX5 = some m.cls := findClass_of_methodNamed B.named
  have hlocks := B.notSynchronized
  have hin : meth.name = "<init>" := (name_of_methodNamed B.named B.method).1
  have hi5 : ∀ w ∈ wsX50, w ∈ wsX5_init := fun _ h => List.mem_cons_of_mem _ (List.mem_append_left _ (List.mem_append_left _ (List.mem_append_right _ h)))
  have hi6 : ∀ w ∈ wsX60, w ∈ wsX5_init := fun _ h => List.mem_cons_of_mem _ (List.mem_append_left _ (List.mem_append_right _ h))
  have hi8 : ∀ w ∈ wsX80, w ∈ wsX5_init := fun _ h => List.mem_cons_of_mem _ (List.mem_append_right _ h)
  subst hsz
  have hD := hD0.self (sz := s.heap.size)
  generalize hAe : va_A (c_X5_init k h t0 t tn tl tc ta rw q G0) s.heap.size = A at hD ⊢
  have hA : ∀ q : Nat, s.heap.size ≤ q → A q := fun q h => by rw [← hAe]; exact Or.inr h
  have hS : va_S A s.heap s.heap [] := va_S.rf
  have hP : va_P D vwCl [(h, .inr (5, [.null, .null, .null, .null, .null, .null, .null, .null, .null, .null])), (t0, .inr (8, [.ref t, .ref tn, .ref tl, .ref tc, .ref ta])), (t, .inl (k 0, 4, .inl (cI q))), (tn, .inl (k 4, 4, .inr (.inr (.inr (.inr (gr4 rw)))))), ((rw 0), .inl (k 0, 80, .inl G0))] s.heap := hP
  have hD : va_D A [(h, .inr (5, [.null, .null, .null, .null, .null, .null, .null, .null, .null, .null])), (t0, .inr (8, [.ref t, .ref tn, .ref tl, .ref tc, .ref ta])), (t, .inl (k 0, 4, .inl (cI q))), (tn, .inl (k 4, 4, .inr (.inr (.inr (.inr (gr4 rw)))))), ((rw 0), .inl (k 0, 80, .inl G0))] := hD
  have hl := lv_entry ([.ref h, .ref t0]) (n := 2) (Nat.le_of_ble_eq_true rfl)
  rw [lg_entry_eq]
  generalize (lg_sl ([.ref h, .ref t0]) ++ List.replicate (2 - (lg_sl ([.ref h, .ref t0])).length) Slot.unset).toArray = ls at hl ⊢
  have hl : lv_has ls 2 [(0, .ref h), (1, .ref t0)] := hl
  refine lv_aload_n hx hb dX5_init_0 rfl (lv_at hl 0 rfl) ?_
  refine W.objInit hx hb hown (hts (.methodLink RX5 3 objectInit) (List.mem_cons_of_mem _ (List.mem_append_left _ (List.mem_append_left _ (List.mem_append_left _ (List.mem_append_left _ (List.mem_of_getElem? (i := 0) rfl))))))) (hts (.instanceMethod objectInit) (List.mem_cons_of_mem _ (List.mem_append_left _ (List.mem_append_left _ (List.mem_append_left _ (List.mem_append_left _ (List.mem_of_getElem? (i := 1) rfl))))))) (hts (.code objectInit ⟨#[0xb1]⟩ 1 none) (List.mem_cons_of_mem _ (List.mem_append_left _ (List.mem_append_left _ (List.mem_append_left _ (List.mem_append_left _ (List.mem_of_getElem? (i := 2) rfl))))))) rfl (by rw [hml]; exact hl.1) rfl dX5_init_1 (Nat.le_of_ble_eq_true rfl) (Nat.le_of_ble_eq_true rfl) ?_
  refine W.eq (g2 := F0 m 4 ls []) rfl ?_
  refine lv_aload_n hx hb dX5_init_4 rfl (lv_at hl 0 rfl) ?_
  refine lv_bipush (v := 7) hx hb dX5_init_5 (by decide) ?_
  refine va_newa (atype := .int) (ty := .int) (a0 := (7, .inl (fun _ => 0))) hx hb (hts (.arrayClass .int) (List.mem_cons_of_mem _ (List.mem_append_left _ (List.mem_append_left _ (List.mem_append_left _ (List.mem_append_left _ (List.mem_of_getElem? (i := 3) rfl))))))) rfl hG.1 hP hD hS hA (fun _ => rfl) (by decide) (by decide) (show 7 * 4 ≤ 536870912 by omega) (Nat.le_of_ble_eq_true rfl) (Nat.le_of_ble_eq_true rfl) dX5_init_7 (fun r0 cN H hK9 hP hD hS => ?_)
  obtain rfl := cA_eq hK9 (i := 0) (j := 5) rfl rfl
  have hP : va_P D vwCl [(h, .inr (5, [.null, .null, .null, .null, .null, .null, .null, .null, .null, .null])), (t0, .inr (8, [.ref t, .ref tn, .ref tl, .ref tc, .ref ta])), (t, .inl (k 0, 4, .inl (cI q))), (tn, .inl (k 4, 4, .inr (.inr (.inr (.inr (gr4 rw)))))), ((rw 0), .inl (k 0, 80, .inl G0)), (r0, .inl (k 0, 7, .inl (fun _ => 0)))] H := hP
  have hD : va_D A [(h, .inr (5, [.null, .null, .null, .null, .null, .null, .null, .null, .null, .null])), (t0, .inr (8, [.ref t, .ref tn, .ref tl, .ref tc, .ref ta])), (t, .inl (k 0, 4, .inl (cI q))), (tn, .inl (k 4, 4, .inr (.inr (.inr (.inr (gr4 rw)))))), ((rw 0), .inl (k 0, 80, .inl G0)), (r0, .inl (k 0, 7, .inl (fun _ => 0)))] := hD
  refine W.widen (k := 1) (n := 7) (Nat.le_of_ble_eq_true rfl) (Nat.le_of_ble_eq_true rfl) ?_
  refine va_putF (D := D) (ci := 5) (v := .ref r0) (ty := (tyX5 0)) (C := RX5) (T := TX5) (N := 10) hx hb hts hi5 tyX5 tyX5_ok nmX5 hown hG.1 hP hD hS 0 rfl rfl 0 (by decide) (hts (.fieldLink RX5 9 "SleptMatters$Rows" "rowSleepers" "[I") (List.mem_cons_of_mem _ (List.mem_append_left _ (List.mem_append_left _ (List.mem_append_left _ (List.mem_append_left _ (List.mem_of_getElem? (i := 4) rfl))))))) (fun _ h9 => h9) rfl hin rfl (by decide +kernel) rfl rfl (Nat.le_of_ble_eq_true rfl) dX5_init_9 (fun H locs hP hD hS => ?_)
  have hP : va_P D vwCl [(h, .inr (5, [.ref r0, .null, .null, .null, .null, .null, .null, .null, .null, .null])), (t0, .inr (8, [.ref t, .ref tn, .ref tl, .ref tc, .ref ta])), (t, .inl (k 0, 4, .inl (cI q))), (tn, .inl (k 4, 4, .inr (.inr (.inr (.inr (gr4 rw)))))), ((rw 0), .inl (k 0, 80, .inl G0)), (r0, .inl (k 0, 7, .inl (fun _ => 0)))] H := hP
  have hD : va_D A [(h, .inr (5, [.ref r0, .null, .null, .null, .null, .null, .null, .null, .null, .null])), (t0, .inr (8, [.ref t, .ref tn, .ref tl, .ref tc, .ref ta])), (t, .inl (k 0, 4, .inl (cI q))), (tn, .inl (k 4, 4, .inr (.inr (.inr (.inr (gr4 rw)))))), ((rw 0), .inl (k 0, 80, .inl G0)), (r0, .inl (k 0, 7, .inl (fun _ => 0)))] := hD
  refine lv_aload_n hx hb dX5_init_12 rfl (lv_at hl 0 rfl) ?_
  refine lv_bipush (v := 7) hx hb dX5_init_13 (by decide) ?_
  refine va_newa (atype := .int) (ty := .int) (a0 := (7, .inl (fun _ => 0))) hx hb (hts (.arrayClass .int) (List.mem_cons_of_mem _ (List.mem_append_left _ (List.mem_append_left _ (List.mem_append_left _ (List.mem_append_left _ (List.mem_of_getElem? (i := 3) rfl))))))) rfl hG.1 hP hD hS hA (fun _ => rfl) (by decide) (by decide) (show 7 * 4 ≤ 536870912 by omega) (Nat.le_of_ble_eq_true rfl) (Nat.le_of_ble_eq_true rfl) dX5_init_15 (fun r1 cN H hK9 hP hD hS => ?_)
  obtain rfl := cA_eq hK9 (i := 0) (j := 5) rfl rfl
  have hP : va_P D vwCl [(h, .inr (5, [.ref r0, .null, .null, .null, .null, .null, .null, .null, .null, .null])), (t0, .inr (8, [.ref t, .ref tn, .ref tl, .ref tc, .ref ta])), (t, .inl (k 0, 4, .inl (cI q))), (tn, .inl (k 4, 4, .inr (.inr (.inr (.inr (gr4 rw)))))), ((rw 0), .inl (k 0, 80, .inl G0)), (r0, .inl (k 0, 7, .inl (fun _ => 0))), (r1, .inl (k 0, 7, .inl (fun _ => 0)))] H := hP
  have hD : va_D A [(h, .inr (5, [.ref r0, .null, .null, .null, .null, .null, .null, .null, .null, .null])), (t0, .inr (8, [.ref t, .ref tn, .ref tl, .ref tc, .ref ta])), (t, .inl (k 0, 4, .inl (cI q))), (tn, .inl (k 4, 4, .inr (.inr (.inr (.inr (gr4 rw)))))), ((rw 0), .inl (k 0, 80, .inl G0)), (r0, .inl (k 0, 7, .inl (fun _ => 0))), (r1, .inl (k 0, 7, .inl (fun _ => 0)))] := hD
  refine W.widen (k := 2) (n := 14) (Nat.le_of_ble_eq_true rfl) (Nat.le_of_ble_eq_true rfl) ?_
  refine va_putF (D := D) (ci := 5) (v := .ref r1) (ty := (tyX5 1)) (C := RX5) (T := TX5) (N := 10) hx hb hts hi5 tyX5 tyX5_ok nmX5 hown hG.1 hP hD hS 0 rfl rfl 1 (by decide) (hts (.fieldLink RX5 15 "SleptMatters$Rows" "rowHouses" "[I") (List.mem_cons_of_mem _ (List.mem_append_left _ (List.mem_append_left _ (List.mem_append_left _ (List.mem_append_left _ (List.mem_of_getElem? (i := 5) rfl))))))) (fun _ h9 => h9) rfl hin rfl (by decide +kernel) rfl rfl (Nat.le_of_ble_eq_true rfl) dX5_init_17 (fun H locs hP hD hS => ?_)
  have hP : va_P D vwCl [(h, .inr (5, [.ref r0, .ref r1, .null, .null, .null, .null, .null, .null, .null, .null])), (t0, .inr (8, [.ref t, .ref tn, .ref tl, .ref tc, .ref ta])), (t, .inl (k 0, 4, .inl (cI q))), (tn, .inl (k 4, 4, .inr (.inr (.inr (.inr (gr4 rw)))))), ((rw 0), .inl (k 0, 80, .inl G0)), (r0, .inl (k 0, 7, .inl (fun _ => 0))), (r1, .inl (k 0, 7, .inl (fun _ => 0)))] H := hP
  have hD : va_D A [(h, .inr (5, [.ref r0, .ref r1, .null, .null, .null, .null, .null, .null, .null, .null])), (t0, .inr (8, [.ref t, .ref tn, .ref tl, .ref tc, .ref ta])), (t, .inl (k 0, 4, .inl (cI q))), (tn, .inl (k 4, 4, .inr (.inr (.inr (.inr (gr4 rw)))))), ((rw 0), .inl (k 0, 80, .inl G0)), (r0, .inl (k 0, 7, .inl (fun _ => 0))), (r1, .inl (k 0, 7, .inl (fun _ => 0)))] := hD
  refine lv_aload_n hx hb dX5_init_20 rfl (lv_at hl 0 rfl) ?_
  refine va_new (ci := 6) (fs := [.int 0, .int 0, .null, .null, .null]) (C := RX6) (T := TX6) (N := 5) hx hb hts hi6 tyX6 tyX6_ok hown (hts (.classLink RX5 18 RX6) (List.mem_cons_of_mem _ (List.mem_append_left _ (List.mem_append_left _ (List.mem_append_left _ (List.mem_append_left _ (List.mem_of_getElem? (i := 6) rfl))))))) (hts (.instantiable RX6 5) (List.mem_cons_of_mem _ (List.mem_append_left _ (List.mem_append_left _ (List.mem_append_left _ (List.mem_append_left _ (List.mem_of_getElem? (i := 7) rfl))))))) (hts (.initialized RX6) (List.mem_cons_of_mem _ (List.mem_append_left _ (List.mem_append_left _ (List.mem_append_left _ (List.mem_append_left _ (List.mem_of_getElem? (i := 8) rfl))))))) hG.1 hP hD hS hA rfl dfX6 (Nat.le_of_ble_eq_true rfl) (Nat.le_of_ble_eq_true rfl) dX5_init_21 (fun nk H hP hD hS => ?_)
  have hP : va_P D vwCl [(h, .inr (5, [.ref r0, .ref r1, .null, .null, .null, .null, .null, .null, .null, .null])), (t0, .inr (8, [.ref t, .ref tn, .ref tl, .ref tc, .ref ta])), (t, .inl (k 0, 4, .inl (cI q))), (tn, .inl (k 4, 4, .inr (.inr (.inr (.inr (gr4 rw)))))), ((rw 0), .inl (k 0, 80, .inl G0)), (r0, .inl (k 0, 7, .inl (fun _ => 0))), (r1, .inl (k 0, 7, .inl (fun _ => 0))), (nk, .inr (6, [.int 0, .int 0, .null, .null, .null]))] H := hP
  have hD : va_D A [(h, .inr (5, [.ref r0, .ref r1, .null, .null, .null, .null, .null, .null, .null, .null])), (t0, .inr (8, [.ref t, .ref tn, .ref tl, .ref tc, .ref ta])), (t, .inl (k 0, 4, .inl (cI q))), (tn, .inl (k 4, 4, .inr (.inr (.inr (.inr (gr4 rw)))))), ((rw 0), .inl (k 0, 80, .inl G0)), (r0, .inl (k 0, 7, .inl (fun _ => 0))), (r1, .inl (k 0, 7, .inl (fun _ => 0))), (nk, .inr (6, [.int 0, .int 0, .null, .null, .null]))] := hD
  refine W.widen (k := 3) (n := 19) (Nat.le_of_ble_eq_true rfl) (Nat.le_of_ble_eq_true rfl) ?_
  refine lv_dup hx hb dX5_init_24 rfl ?_
  have hPc := hP.sub (ws' := (c_X6_init k nk)) [7] rfl
  have hDc := hD.sub (ws' := (c_X6_init k nk)) [7] (by decide +kernel) rfl
  refine cl_v (w1 := w_X6_init k nk) (wr := [(h, .inr (5, [.ref r0, .ref r1, .null, .null, .null, .null, .null, .null, .null, .null])), (t0, .inr (8, [.ref t, .ref tn, .ref tl, .ref tc, .ref ta])), (t, .inl (k 0, 4, .inl (cI q))), (tn, .inl (k 4, 4, .inr (.inr (.inr (.inr (gr4 rw)))))), ((rw 0), .inl (k 0, 80, .inl G0)), (r0, .inl (k 0, 7, .inl (fun _ => 0))), (r1, .inl (k 0, 7, .inl (fun _ => 0)))]) (va_runIN (As := []) (rest := [.ref nk, .ref h]) ⟨hx, hb, hml, hown, hts⟩ (X6_init l D k H.size nk ) ⟨(va_cnB (own := RX5) (index := 20) (y := yX6_init) (host := RX9) 0 hts ggX5_init_X6_init rfl rfl rfl (hG.2.1 _ (List.mem_of_getElem? (i := 4) rfl)) (hts (.initialized RX6) (List.mem_cons_of_mem _ (List.mem_append_left _ (List.mem_append_left _ (List.mem_append_left _ (List.mem_append_left _ (List.mem_of_getElem? (i := 8) rfl))))))) (by decide +kernel) ⟨Nat.le_of_ble_eq_true rfl, Nat.le_of_ble_eq_true rfl⟩), rfl, hts (.instanceMethod yX6_init) (List.mem_cons_of_mem _ (List.mem_append_left _ (List.mem_append_left _ (List.mem_append_left _ (List.mem_append_left _ (List.mem_of_getElem? (i := 18) rfl))))))⟩ ⟨PR.blind _ _ _ _ _, PR.pre hPc hDc hG [.ref nk]⟩ rfl rfl hl.1 rfl (lv_room (Nat.le_of_ble_eq_true rfl)) dX5_init_25 ⟨Nat.le_of_ble_eq_true rfl, Nat.le_of_ble_eq_true rfl⟩) hP hD hS hA [7] [0, 1, 2, 3, 4, 5, 6] rfl rfl (by decide +kernel) (by decide +kernel) (fun u H locs hq hP hD hS => ?_)
  obtain ⟨nk1, nk2, nk3⟩ := u
  have hP : va_P D vwCl [(h, .inr (5, [.ref r0, .ref r1, .null, .null, .null, .null, .null, .null, .null, .null])), (t0, .inr (8, [.ref t, .ref tn, .ref tl, .ref tc, .ref ta])), (t, .inl (k 0, 4, .inl (cI q))), (tn, .inl (k 4, 4, .inr (.inr (.inr (.inr (gr4 rw)))))), ((rw 0), .inl (k 0, 80, .inl G0)), (r0, .inl (k 0, 7, .inl (fun _ => 0))), (r1, .inl (k 0, 7, .inl (fun _ => 0))), (nk, .inr (6, [.int 0, .int 0, .ref nk1, .ref nk2, .ref nk3])), (nk1, .inl (k 0, 3, .inl (fun _ => 0))), (nk2, .inl (k 0, 21, .inl (fun _ => 0))), (nk3, .inl (k 0, 21, .inl (fun _ => 0)))] H := hP
  have hD : va_D A [(h, .inr (5, [.ref r0, .ref r1, .null, .null, .null, .null, .null, .null, .null, .null])), (t0, .inr (8, [.ref t, .ref tn, .ref tl, .ref tc, .ref ta])), (t, .inl (k 0, 4, .inl (cI q))), (tn, .inl (k 4, 4, .inr (.inr (.inr (.inr (gr4 rw)))))), ((rw 0), .inl (k 0, 80, .inl G0)), (r0, .inl (k 0, 7, .inl (fun _ => 0))), (r1, .inl (k 0, 7, .inl (fun _ => 0))), (nk, .inr (6, [.int 0, .int 0, .ref nk1, .ref nk2, .ref nk3])), (nk1, .inl (k 0, 3, .inl (fun _ => 0))), (nk2, .inl (k 0, 21, .inl (fun _ => 0))), (nk3, .inl (k 0, 21, .inl (fun _ => 0)))] := hD
  refine W.widen (k := 6) (n := 64) (Nat.le_of_ble_eq_true rfl) (Nat.le_of_ble_eq_true rfl) ?_
  refine va_putF (D := D) (ci := 5) (v := .ref nk) (ty := (tyX5 3)) (C := RX5) (T := TX5) (N := 10) hx hb hts hi5 tyX5 tyX5_ok nmX5 hown hG.1 hP hD hS 0 rfl rfl 3 (by decide) (hts (.fieldLink RX5 21 "SleptMatters$Rows" "nothing" "LSleptMatters$Taken;") (List.mem_cons_of_mem _ (List.mem_append_left _ (List.mem_append_left _ (List.mem_append_left _ (List.mem_append_left _ (List.mem_of_getElem? (i := 9) rfl))))))) (fun _ h9 => h9) rfl hin rfl (by decide +kernel) rfl rfl (Nat.le_of_ble_eq_true rfl) dX5_init_28 (fun H locs hP hD hS => ?_)
  have hP : va_P D vwCl [(h, .inr (5, [.ref r0, .ref r1, .null, .ref nk, .null, .null, .null, .null, .null, .null])), (t0, .inr (8, [.ref t, .ref tn, .ref tl, .ref tc, .ref ta])), (t, .inl (k 0, 4, .inl (cI q))), (tn, .inl (k 4, 4, .inr (.inr (.inr (.inr (gr4 rw)))))), ((rw 0), .inl (k 0, 80, .inl G0)), (r0, .inl (k 0, 7, .inl (fun _ => 0))), (r1, .inl (k 0, 7, .inl (fun _ => 0))), (nk, .inr (6, [.int 0, .int 0, .ref nk1, .ref nk2, .ref nk3])), (nk1, .inl (k 0, 3, .inl (fun _ => 0))), (nk2, .inl (k 0, 21, .inl (fun _ => 0))), (nk3, .inl (k 0, 21, .inl (fun _ => 0)))] H := hP
  have hD : va_D A [(h, .inr (5, [.ref r0, .ref r1, .null, .ref nk, .null, .null, .null, .null, .null, .null])), (t0, .inr (8, [.ref t, .ref tn, .ref tl, .ref tc, .ref ta])), (t, .inl (k 0, 4, .inl (cI q))), (tn, .inl (k 4, 4, .inr (.inr (.inr (.inr (gr4 rw)))))), ((rw 0), .inl (k 0, 80, .inl G0)), (r0, .inl (k 0, 7, .inl (fun _ => 0))), (r1, .inl (k 0, 7, .inl (fun _ => 0))), (nk, .inr (6, [.int 0, .int 0, .ref nk1, .ref nk2, .ref nk3])), (nk1, .inl (k 0, 3, .inl (fun _ => 0))), (nk2, .inl (k 0, 21, .inl (fun _ => 0))), (nk3, .inl (k 0, 21, .inl (fun _ => 0)))] := hD
  refine lv_aload_n hx hb dX5_init_31 rfl (lv_at hl 0 rfl) ?_
  refine lv_bipush (v := 7) hx hb dX5_init_32 (by decide) ?_
  refine va_newa (atype := .int) (ty := .int) (a0 := (7, .inl (fun _ => 0))) hx hb (hts (.arrayClass .int) (List.mem_cons_of_mem _ (List.mem_append_left _ (List.mem_append_left _ (List.mem_append_left _ (List.mem_append_left _ (List.mem_of_getElem? (i := 3) rfl))))))) rfl hG.1 hP hD hS hA (fun _ => rfl) (by decide) (by decide) (show 7 * 4 ≤ 536870912 by omega) (Nat.le_of_ble_eq_true rfl) (Nat.le_of_ble_eq_true rfl) dX5_init_34 (fun r4 cN H hK9 hP hD hS => ?_)
  obtain rfl := cA_eq hK9 (i := 0) (j := 5) rfl rfl
  have hP : va_P D vwCl [(h, .inr (5, [.ref r0, .ref r1, .null, .ref nk, .null, .null, .null, .null, .null, .null])), (t0, .inr (8, [.ref t, .ref tn, .ref tl, .ref tc, .ref ta])), (t, .inl (k 0, 4, .inl (cI q))), (tn, .inl (k 4, 4, .inr (.inr (.inr (.inr (gr4 rw)))))), ((rw 0), .inl (k 0, 80, .inl G0)), (r0, .inl (k 0, 7, .inl (fun _ => 0))), (r1, .inl (k 0, 7, .inl (fun _ => 0))), (nk, .inr (6, [.int 0, .int 0, .ref nk1, .ref nk2, .ref nk3])), (nk1, .inl (k 0, 3, .inl (fun _ => 0))), (nk2, .inl (k 0, 21, .inl (fun _ => 0))), (nk3, .inl (k 0, 21, .inl (fun _ => 0))), (r4, .inl (k 0, 7, .inl (fun _ => 0)))] H := hP
  have hD : va_D A [(h, .inr (5, [.ref r0, .ref r1, .null, .ref nk, .null, .null, .null, .null, .null, .null])), (t0, .inr (8, [.ref t, .ref tn, .ref tl, .ref tc, .ref ta])), (t, .inl (k 0, 4, .inl (cI q))), (tn, .inl (k 4, 4, .inr (.inr (.inr (.inr (gr4 rw)))))), ((rw 0), .inl (k 0, 80, .inl G0)), (r0, .inl (k 0, 7, .inl (fun _ => 0))), (r1, .inl (k 0, 7, .inl (fun _ => 0))), (nk, .inr (6, [.int 0, .int 0, .ref nk1, .ref nk2, .ref nk3])), (nk1, .inl (k 0, 3, .inl (fun _ => 0))), (nk2, .inl (k 0, 21, .inl (fun _ => 0))), (nk3, .inl (k 0, 21, .inl (fun _ => 0))), (r4, .inl (k 0, 7, .inl (fun _ => 0)))] := hD
  refine W.widen (k := 7) (n := 71) (Nat.le_of_ble_eq_true rfl) (Nat.le_of_ble_eq_true rfl) ?_
  refine va_putF (D := D) (ci := 5) (v := .ref r4) (ty := (tyX5 4)) (C := RX5) (T := TX5) (N := 10) hx hb hts hi5 tyX5 tyX5_ok nmX5 hown hG.1 hP hD hS 0 rfl rfl 4 (by decide) (hts (.fieldLink RX5 25 "SleptMatters$Rows" "beds" "[I") (List.mem_cons_of_mem _ (List.mem_append_left _ (List.mem_append_left _ (List.mem_append_left _ (List.mem_append_left _ (List.mem_of_getElem? (i := 10) rfl))))))) (fun _ h9 => h9) rfl hin rfl (by decide +kernel) rfl rfl (Nat.le_of_ble_eq_true rfl) dX5_init_36 (fun H locs hP hD hS => ?_)
  have hP : va_P D vwCl [(h, .inr (5, [.ref r0, .ref r1, .null, .ref nk, .ref r4, .null, .null, .null, .null, .null])), (t0, .inr (8, [.ref t, .ref tn, .ref tl, .ref tc, .ref ta])), (t, .inl (k 0, 4, .inl (cI q))), (tn, .inl (k 4, 4, .inr (.inr (.inr (.inr (gr4 rw)))))), ((rw 0), .inl (k 0, 80, .inl G0)), (r0, .inl (k 0, 7, .inl (fun _ => 0))), (r1, .inl (k 0, 7, .inl (fun _ => 0))), (nk, .inr (6, [.int 0, .int 0, .ref nk1, .ref nk2, .ref nk3])), (nk1, .inl (k 0, 3, .inl (fun _ => 0))), (nk2, .inl (k 0, 21, .inl (fun _ => 0))), (nk3, .inl (k 0, 21, .inl (fun _ => 0))), (r4, .inl (k 0, 7, .inl (fun _ => 0)))] H := hP
  have hD : va_D A [(h, .inr (5, [.ref r0, .ref r1, .null, .ref nk, .ref r4, .null, .null, .null, .null, .null])), (t0, .inr (8, [.ref t, .ref tn, .ref tl, .ref tc, .ref ta])), (t, .inl (k 0, 4, .inl (cI q))), (tn, .inl (k 4, 4, .inr (.inr (.inr (.inr (gr4 rw)))))), ((rw 0), .inl (k 0, 80, .inl G0)), (r0, .inl (k 0, 7, .inl (fun _ => 0))), (r1, .inl (k 0, 7, .inl (fun _ => 0))), (nk, .inr (6, [.int 0, .int 0, .ref nk1, .ref nk2, .ref nk3])), (nk1, .inl (k 0, 3, .inl (fun _ => 0))), (nk2, .inl (k 0, 21, .inl (fun _ => 0))), (nk3, .inl (k 0, 21, .inl (fun _ => 0))), (r4, .inl (k 0, 7, .inl (fun _ => 0)))] := hD
  refine lv_aload_n hx hb dX5_init_39 rfl (lv_at hl 0 rfl) ?_
  refine lv_bipush (v := 100) hx hb dX5_init_40 (by decide) ?_
  refine va_newa (atype := .int) (ty := .int) (a0 := (100, .inl (fun _ => 0))) hx hb (hts (.arrayClass .int) (List.mem_cons_of_mem _ (List.mem_append_left _ (List.mem_append_left _ (List.mem_append_left _ (List.mem_append_left _ (List.mem_of_getElem? (i := 3) rfl))))))) rfl hG.1 hP hD hS hA (fun _ => rfl) (by decide) (by decide) (show 100 * 4 ≤ 536870912 by omega) (Nat.le_of_ble_eq_true rfl) (Nat.le_of_ble_eq_true rfl) dX5_init_42 (fun r5 cN H hK9 hP hD hS => ?_)
  obtain rfl := cA_eq hK9 (i := 0) (j := 5) rfl rfl
  have hP : va_P D vwCl [(h, .inr (5, [.ref r0, .ref r1, .null, .ref nk, .ref r4, .null, .null, .null, .null, .null])), (t0, .inr (8, [.ref t, .ref tn, .ref tl, .ref tc, .ref ta])), (t, .inl (k 0, 4, .inl (cI q))), (tn, .inl (k 4, 4, .inr (.inr (.inr (.inr (gr4 rw)))))), ((rw 0), .inl (k 0, 80, .inl G0)), (r0, .inl (k 0, 7, .inl (fun _ => 0))), (r1, .inl (k 0, 7, .inl (fun _ => 0))), (nk, .inr (6, [.int 0, .int 0, .ref nk1, .ref nk2, .ref nk3])), (nk1, .inl (k 0, 3, .inl (fun _ => 0))), (nk2, .inl (k 0, 21, .inl (fun _ => 0))), (nk3, .inl (k 0, 21, .inl (fun _ => 0))), (r4, .inl (k 0, 7, .inl (fun _ => 0))), (r5, .inl (k 0, 100, .inl (fun _ => 0)))] H := hP
  have hD : va_D A [(h, .inr (5, [.ref r0, .ref r1, .null, .ref nk, .ref r4, .null, .null, .null, .null, .null])), (t0, .inr (8, [.ref t, .ref tn, .ref tl, .ref tc, .ref ta])), (t, .inl (k 0, 4, .inl (cI q))), (tn, .inl (k 4, 4, .inr (.inr (.inr (.inr (gr4 rw)))))), ((rw 0), .inl (k 0, 80, .inl G0)), (r0, .inl (k 0, 7, .inl (fun _ => 0))), (r1, .inl (k 0, 7, .inl (fun _ => 0))), (nk, .inr (6, [.int 0, .int 0, .ref nk1, .ref nk2, .ref nk3])), (nk1, .inl (k 0, 3, .inl (fun _ => 0))), (nk2, .inl (k 0, 21, .inl (fun _ => 0))), (nk3, .inl (k 0, 21, .inl (fun _ => 0))), (r4, .inl (k 0, 7, .inl (fun _ => 0))), (r5, .inl (k 0, 100, .inl (fun _ => 0)))] := hD
  refine W.widen (k := 8) (n := 171) (Nat.le_of_ble_eq_true rfl) (Nat.le_of_ble_eq_true rfl) ?_
  refine va_putF (D := D) (ci := 5) (v := .ref r5) (ty := (tyX5 5)) (C := RX5) (T := TX5) (N := 10) hx hb hts hi5 tyX5 tyX5_ok nmX5 hown hG.1 hP hD hS 0 rfl rfl 5 (by decide) (hts (.fieldLink RX5 28 "SleptMatters$Rows" "longest" "[I") (List.mem_cons_of_mem _ (List.mem_append_left _ (List.mem_append_left _ (List.mem_append_left _ (List.mem_append_left _ (List.mem_of_getElem? (i := 11) rfl))))))) (fun _ h9 => h9) rfl hin rfl (by decide +kernel) rfl rfl (Nat.le_of_ble_eq_true rfl) dX5_init_44 (fun H locs hP hD hS => ?_)
  have hP : va_P D vwCl [(h, .inr (5, [.ref r0, .ref r1, .null, .ref nk, .ref r4, .ref r5, .null, .null, .null, .null])), (t0, .inr (8, [.ref t, .ref tn, .ref tl, .ref tc, .ref ta])), (t, .inl (k 0, 4, .inl (cI q))), (tn, .inl (k 4, 4, .inr (.inr (.inr (.inr (gr4 rw)))))), ((rw 0), .inl (k 0, 80, .inl G0)), (r0, .inl (k 0, 7, .inl (fun _ => 0))), (r1, .inl (k 0, 7, .inl (fun _ => 0))), (nk, .inr (6, [.int 0, .int 0, .ref nk1, .ref nk2, .ref nk3])), (nk1, .inl (k 0, 3, .inl (fun _ => 0))), (nk2, .inl (k 0, 21, .inl (fun _ => 0))), (nk3, .inl (k 0, 21, .inl (fun _ => 0))), (r4, .inl (k 0, 7, .inl (fun _ => 0))), (r5, .inl (k 0, 100, .inl (fun _ => 0)))] H := hP
  have hD : va_D A [(h, .inr (5, [.ref r0, .ref r1, .null, .ref nk, .ref r4, .ref r5, .null, .null, .null, .null])), (t0, .inr (8, [.ref t, .ref tn, .ref tl, .ref tc, .ref ta])), (t, .inl (k 0, 4, .inl (cI q))), (tn, .inl (k 4, 4, .inr (.inr (.inr (.inr (gr4 rw)))))), ((rw 0), .inl (k 0, 80, .inl G0)), (r0, .inl (k 0, 7, .inl (fun _ => 0))), (r1, .inl (k 0, 7, .inl (fun _ => 0))), (nk, .inr (6, [.int 0, .int 0, .ref nk1, .ref nk2, .ref nk3])), (nk1, .inl (k 0, 3, .inl (fun _ => 0))), (nk2, .inl (k 0, 21, .inl (fun _ => 0))), (nk3, .inl (k 0, 21, .inl (fun _ => 0))), (r4, .inl (k 0, 7, .inl (fun _ => 0))), (r5, .inl (k 0, 100, .inl (fun _ => 0)))] := hD
  refine lv_aload_n hx hb dX5_init_47 rfl (lv_at hl 0 rfl) ?_
  refine lv_sipush (v := 200) hx hb dX5_init_48 (by decide) ?_
  refine va_newa (atype := .long) (ty := .long) (a0 := (200, .inr (.inl (fun _ => 0)))) hx hb (hts (.arrayClass .long) (List.mem_cons_of_mem _ (List.mem_append_left _ (List.mem_append_left _ (List.mem_append_left _ (List.mem_append_left _ (List.mem_of_getElem? (i := 12) rfl))))))) rfl hG.1 hP hD hS hA (fun _ => rfl) (by decide) (by decide) (show 200 * 8 ≤ 536870912 by omega) (Nat.le_of_ble_eq_true rfl) (Nat.le_of_ble_eq_true rfl) dX5_init_51 (fun r6 cN H hK9 hP hD hS => ?_)
  obtain rfl := cA_eq hK9 (i := 1) (j := 5) rfl rfl
  have hP : va_P D vwCl [(h, .inr (5, [.ref r0, .ref r1, .null, .ref nk, .ref r4, .ref r5, .null, .null, .null, .null])), (t0, .inr (8, [.ref t, .ref tn, .ref tl, .ref tc, .ref ta])), (t, .inl (k 0, 4, .inl (cI q))), (tn, .inl (k 4, 4, .inr (.inr (.inr (.inr (gr4 rw)))))), ((rw 0), .inl (k 0, 80, .inl G0)), (r0, .inl (k 0, 7, .inl (fun _ => 0))), (r1, .inl (k 0, 7, .inl (fun _ => 0))), (nk, .inr (6, [.int 0, .int 0, .ref nk1, .ref nk2, .ref nk3])), (nk1, .inl (k 0, 3, .inl (fun _ => 0))), (nk2, .inl (k 0, 21, .inl (fun _ => 0))), (nk3, .inl (k 0, 21, .inl (fun _ => 0))), (r4, .inl (k 0, 7, .inl (fun _ => 0))), (r5, .inl (k 0, 100, .inl (fun _ => 0))), (r6, .inl (k 1, 200, .inr (.inl (fun _ => 0))))] H := hP
  have hD : va_D A [(h, .inr (5, [.ref r0, .ref r1, .null, .ref nk, .ref r4, .ref r5, .null, .null, .null, .null])), (t0, .inr (8, [.ref t, .ref tn, .ref tl, .ref tc, .ref ta])), (t, .inl (k 0, 4, .inl (cI q))), (tn, .inl (k 4, 4, .inr (.inr (.inr (.inr (gr4 rw)))))), ((rw 0), .inl (k 0, 80, .inl G0)), (r0, .inl (k 0, 7, .inl (fun _ => 0))), (r1, .inl (k 0, 7, .inl (fun _ => 0))), (nk, .inr (6, [.int 0, .int 0, .ref nk1, .ref nk2, .ref nk3])), (nk1, .inl (k 0, 3, .inl (fun _ => 0))), (nk2, .inl (k 0, 21, .inl (fun _ => 0))), (nk3, .inl (k 0, 21, .inl (fun _ => 0))), (r4, .inl (k 0, 7, .inl (fun _ => 0))), (r5, .inl (k 0, 100, .inl (fun _ => 0))), (r6, .inl (k 1, 200, .inr (.inl (fun _ => 0))))] := hD
  refine W.widen (k := 9) (n := 371) (Nat.le_of_ble_eq_true rfl) (Nat.le_of_ble_eq_true rfl) ?_
  refine va_putF (D := D) (ci := 5) (v := .ref r6) (ty := (tyX5 6)) (C := RX5) (T := TX5) (N := 10) hx hb hts hi5 tyX5 tyX5_ok nmX5 hown hG.1 hP hD hS 0 rfl rfl 6 (by decide) (hts (.fieldLink RX5 31 "SleptMatters$Rows" "able" "[J") (List.mem_cons_of_mem _ (List.mem_append_left _ (List.mem_append_left _ (List.mem_append_left _ (List.mem_append_left _ (List.mem_of_getElem? (i := 13) rfl))))))) (fun _ h9 => h9) rfl hin rfl (by decide +kernel) rfl rfl (Nat.le_of_ble_eq_true rfl) dX5_init_53 (fun H locs hP hD hS => ?_)
  have hP : va_P D vwCl [(h, .inr (5, [.ref r0, .ref r1, .null, .ref nk, .ref r4, .ref r5, .ref r6, .null, .null, .null])), (t0, .inr (8, [.ref t, .ref tn, .ref tl, .ref tc, .ref ta])), (t, .inl (k 0, 4, .inl (cI q))), (tn, .inl (k 4, 4, .inr (.inr (.inr (.inr (gr4 rw)))))), ((rw 0), .inl (k 0, 80, .inl G0)), (r0, .inl (k 0, 7, .inl (fun _ => 0))), (r1, .inl (k 0, 7, .inl (fun _ => 0))), (nk, .inr (6, [.int 0, .int 0, .ref nk1, .ref nk2, .ref nk3])), (nk1, .inl (k 0, 3, .inl (fun _ => 0))), (nk2, .inl (k 0, 21, .inl (fun _ => 0))), (nk3, .inl (k 0, 21, .inl (fun _ => 0))), (r4, .inl (k 0, 7, .inl (fun _ => 0))), (r5, .inl (k 0, 100, .inl (fun _ => 0))), (r6, .inl (k 1, 200, .inr (.inl (fun _ => 0))))] H := hP
  have hD : va_D A [(h, .inr (5, [.ref r0, .ref r1, .null, .ref nk, .ref r4, .ref r5, .ref r6, .null, .null, .null])), (t0, .inr (8, [.ref t, .ref tn, .ref tl, .ref tc, .ref ta])), (t, .inl (k 0, 4, .inl (cI q))), (tn, .inl (k 4, 4, .inr (.inr (.inr (.inr (gr4 rw)))))), ((rw 0), .inl (k 0, 80, .inl G0)), (r0, .inl (k 0, 7, .inl (fun _ => 0))), (r1, .inl (k 0, 7, .inl (fun _ => 0))), (nk, .inr (6, [.int 0, .int 0, .ref nk1, .ref nk2, .ref nk3])), (nk1, .inl (k 0, 3, .inl (fun _ => 0))), (nk2, .inl (k 0, 21, .inl (fun _ => 0))), (nk3, .inl (k 0, 21, .inl (fun _ => 0))), (r4, .inl (k 0, 7, .inl (fun _ => 0))), (r5, .inl (k 0, 100, .inl (fun _ => 0))), (r6, .inl (k 1, 200, .inr (.inl (fun _ => 0))))] := hD
  refine lv_aload_n hx hb dX5_init_56 rfl (lv_at hl 0 rfl) ?_
  refine lv_sipush (v := 128) hx hb dX5_init_57 (by decide) ?_
  refine va_newa (atype := .long) (ty := .long) (a0 := (128, .inr (.inl (fun _ => 0)))) hx hb (hts (.arrayClass .long) (List.mem_cons_of_mem _ (List.mem_append_left _ (List.mem_append_left _ (List.mem_append_left _ (List.mem_append_left _ (List.mem_of_getElem? (i := 12) rfl))))))) rfl hG.1 hP hD hS hA (fun _ => rfl) (by decide) (by decide) (show 128 * 8 ≤ 536870912 by omega) (Nat.le_of_ble_eq_true rfl) (Nat.le_of_ble_eq_true rfl) dX5_init_60 (fun r7 cN H hK9 hP hD hS => ?_)
  obtain rfl := cA_eq hK9 (i := 1) (j := 5) rfl rfl
  have hP : va_P D vwCl [(h, .inr (5, [.ref r0, .ref r1, .null, .ref nk, .ref r4, .ref r5, .ref r6, .null, .null, .null])), (t0, .inr (8, [.ref t, .ref tn, .ref tl, .ref tc, .ref ta])), (t, .inl (k 0, 4, .inl (cI q))), (tn, .inl (k 4, 4, .inr (.inr (.inr (.inr (gr4 rw)))))), ((rw 0), .inl (k 0, 80, .inl G0)), (r0, .inl (k 0, 7, .inl (fun _ => 0))), (r1, .inl (k 0, 7, .inl (fun _ => 0))), (nk, .inr (6, [.int 0, .int 0, .ref nk1, .ref nk2, .ref nk3])), (nk1, .inl (k 0, 3, .inl (fun _ => 0))), (nk2, .inl (k 0, 21, .inl (fun _ => 0))), (nk3, .inl (k 0, 21, .inl (fun _ => 0))), (r4, .inl (k 0, 7, .inl (fun _ => 0))), (r5, .inl (k 0, 100, .inl (fun _ => 0))), (r6, .inl (k 1, 200, .inr (.inl (fun _ => 0)))), (r7, .inl (k 1, 128, .inr (.inl (fun _ => 0))))] H := hP
  have hD : va_D A [(h, .inr (5, [.ref r0, .ref r1, .null, .ref nk, .ref r4, .ref r5, .ref r6, .null, .null, .null])), (t0, .inr (8, [.ref t, .ref tn, .ref tl, .ref tc, .ref ta])), (t, .inl (k 0, 4, .inl (cI q))), (tn, .inl (k 4, 4, .inr (.inr (.inr (.inr (gr4 rw)))))), ((rw 0), .inl (k 0, 80, .inl G0)), (r0, .inl (k 0, 7, .inl (fun _ => 0))), (r1, .inl (k 0, 7, .inl (fun _ => 0))), (nk, .inr (6, [.int 0, .int 0, .ref nk1, .ref nk2, .ref nk3])), (nk1, .inl (k 0, 3, .inl (fun _ => 0))), (nk2, .inl (k 0, 21, .inl (fun _ => 0))), (nk3, .inl (k 0, 21, .inl (fun _ => 0))), (r4, .inl (k 0, 7, .inl (fun _ => 0))), (r5, .inl (k 0, 100, .inl (fun _ => 0))), (r6, .inl (k 1, 200, .inr (.inl (fun _ => 0)))), (r7, .inl (k 1, 128, .inr (.inl (fun _ => 0))))] := hD
  refine W.widen (k := 10) (n := 499) (Nat.le_of_ble_eq_true rfl) (Nat.le_of_ble_eq_true rfl) ?_
  refine va_putF (D := D) (ci := 5) (v := .ref r7) (ty := (tyX5 7)) (C := RX5) (T := TX5) (N := 10) hx hb hts hi5 tyX5 tyX5_ok nmX5 hown hG.1 hP hD hS 0 rfl rfl 7 (by decide) (hts (.fieldLink RX5 35 "SleptMatters$Rows" "low" "[J") (List.mem_cons_of_mem _ (List.mem_append_left _ (List.mem_append_left _ (List.mem_append_left _ (List.mem_append_left _ (List.mem_of_getElem? (i := 14) rfl))))))) (fun _ h9 => h9) rfl hin rfl (by decide +kernel) rfl rfl (Nat.le_of_ble_eq_true rfl) dX5_init_62 (fun H locs hP hD hS => ?_)
  have hP : va_P D vwCl [(h, .inr (5, [.ref r0, .ref r1, .null, .ref nk, .ref r4, .ref r5, .ref r6, .ref r7, .null, .null])), (t0, .inr (8, [.ref t, .ref tn, .ref tl, .ref tc, .ref ta])), (t, .inl (k 0, 4, .inl (cI q))), (tn, .inl (k 4, 4, .inr (.inr (.inr (.inr (gr4 rw)))))), ((rw 0), .inl (k 0, 80, .inl G0)), (r0, .inl (k 0, 7, .inl (fun _ => 0))), (r1, .inl (k 0, 7, .inl (fun _ => 0))), (nk, .inr (6, [.int 0, .int 0, .ref nk1, .ref nk2, .ref nk3])), (nk1, .inl (k 0, 3, .inl (fun _ => 0))), (nk2, .inl (k 0, 21, .inl (fun _ => 0))), (nk3, .inl (k 0, 21, .inl (fun _ => 0))), (r4, .inl (k 0, 7, .inl (fun _ => 0))), (r5, .inl (k 0, 100, .inl (fun _ => 0))), (r6, .inl (k 1, 200, .inr (.inl (fun _ => 0)))), (r7, .inl (k 1, 128, .inr (.inl (fun _ => 0))))] H := hP
  have hD : va_D A [(h, .inr (5, [.ref r0, .ref r1, .null, .ref nk, .ref r4, .ref r5, .ref r6, .ref r7, .null, .null])), (t0, .inr (8, [.ref t, .ref tn, .ref tl, .ref tc, .ref ta])), (t, .inl (k 0, 4, .inl (cI q))), (tn, .inl (k 4, 4, .inr (.inr (.inr (.inr (gr4 rw)))))), ((rw 0), .inl (k 0, 80, .inl G0)), (r0, .inl (k 0, 7, .inl (fun _ => 0))), (r1, .inl (k 0, 7, .inl (fun _ => 0))), (nk, .inr (6, [.int 0, .int 0, .ref nk1, .ref nk2, .ref nk3])), (nk1, .inl (k 0, 3, .inl (fun _ => 0))), (nk2, .inl (k 0, 21, .inl (fun _ => 0))), (nk3, .inl (k 0, 21, .inl (fun _ => 0))), (r4, .inl (k 0, 7, .inl (fun _ => 0))), (r5, .inl (k 0, 100, .inl (fun _ => 0))), (r6, .inl (k 1, 200, .inr (.inl (fun _ => 0)))), (r7, .inl (k 1, 128, .inr (.inl (fun _ => 0))))] := hD
  refine lv_aload_n hx hb dX5_init_65 rfl (lv_at hl 0 rfl) ?_
  refine lv_sipush (v := 128) hx hb dX5_init_66 (by decide) ?_
  refine va_newa (atype := .long) (ty := .long) (a0 := (128, .inr (.inl (fun _ => 0)))) hx hb (hts (.arrayClass .long) (List.mem_cons_of_mem _ (List.mem_append_left _ (List.mem_append_left _ (List.mem_append_left _ (List.mem_append_left _ (List.mem_of_getElem? (i := 12) rfl))))))) rfl hG.1 hP hD hS hA (fun _ => rfl) (by decide) (by decide) (show 128 * 8 ≤ 536870912 by omega) (Nat.le_of_ble_eq_true rfl) (Nat.le_of_ble_eq_true rfl) dX5_init_69 (fun r8 cN H hK9 hP hD hS => ?_)
  obtain rfl := cA_eq hK9 (i := 1) (j := 5) rfl rfl
  have hP : va_P D vwCl [(h, .inr (5, [.ref r0, .ref r1, .null, .ref nk, .ref r4, .ref r5, .ref r6, .ref r7, .null, .null])), (t0, .inr (8, [.ref t, .ref tn, .ref tl, .ref tc, .ref ta])), (t, .inl (k 0, 4, .inl (cI q))), (tn, .inl (k 4, 4, .inr (.inr (.inr (.inr (gr4 rw)))))), ((rw 0), .inl (k 0, 80, .inl G0)), (r0, .inl (k 0, 7, .inl (fun _ => 0))), (r1, .inl (k 0, 7, .inl (fun _ => 0))), (nk, .inr (6, [.int 0, .int 0, .ref nk1, .ref nk2, .ref nk3])), (nk1, .inl (k 0, 3, .inl (fun _ => 0))), (nk2, .inl (k 0, 21, .inl (fun _ => 0))), (nk3, .inl (k 0, 21, .inl (fun _ => 0))), (r4, .inl (k 0, 7, .inl (fun _ => 0))), (r5, .inl (k 0, 100, .inl (fun _ => 0))), (r6, .inl (k 1, 200, .inr (.inl (fun _ => 0)))), (r7, .inl (k 1, 128, .inr (.inl (fun _ => 0)))), (r8, .inl (k 1, 128, .inr (.inl (fun _ => 0))))] H := hP
  have hD : va_D A [(h, .inr (5, [.ref r0, .ref r1, .null, .ref nk, .ref r4, .ref r5, .ref r6, .ref r7, .null, .null])), (t0, .inr (8, [.ref t, .ref tn, .ref tl, .ref tc, .ref ta])), (t, .inl (k 0, 4, .inl (cI q))), (tn, .inl (k 4, 4, .inr (.inr (.inr (.inr (gr4 rw)))))), ((rw 0), .inl (k 0, 80, .inl G0)), (r0, .inl (k 0, 7, .inl (fun _ => 0))), (r1, .inl (k 0, 7, .inl (fun _ => 0))), (nk, .inr (6, [.int 0, .int 0, .ref nk1, .ref nk2, .ref nk3])), (nk1, .inl (k 0, 3, .inl (fun _ => 0))), (nk2, .inl (k 0, 21, .inl (fun _ => 0))), (nk3, .inl (k 0, 21, .inl (fun _ => 0))), (r4, .inl (k 0, 7, .inl (fun _ => 0))), (r5, .inl (k 0, 100, .inl (fun _ => 0))), (r6, .inl (k 1, 200, .inr (.inl (fun _ => 0)))), (r7, .inl (k 1, 128, .inr (.inl (fun _ => 0)))), (r8, .inl (k 1, 128, .inr (.inl (fun _ => 0))))] := hD
  refine W.widen (k := 11) (n := 627) (Nat.le_of_ble_eq_true rfl) (Nat.le_of_ble_eq_true rfl) ?_
  refine va_putF (D := D) (ci := 5) (v := .ref r8) (ty := (tyX5 8)) (C := RX5) (T := TX5) (N := 10) hx hb hts hi5 tyX5 tyX5_ok nmX5 hown hG.1 hP hD hS 0 rfl rfl 8 (by decide) (hts (.fieldLink RX5 38 "SleptMatters$Rows" "high" "[J") (List.mem_cons_of_mem _ (List.mem_append_left _ (List.mem_append_left _ (List.mem_append_left _ (List.mem_append_left _ (List.mem_of_getElem? (i := 15) rfl))))))) (fun _ h9 => h9) rfl hin rfl (by decide +kernel) rfl rfl (Nat.le_of_ble_eq_true rfl) dX5_init_71 (fun H locs hP hD hS => ?_)
  have hP : va_P D vwCl [(h, .inr (5, [.ref r0, .ref r1, .null, .ref nk, .ref r4, .ref r5, .ref r6, .ref r7, .ref r8, .null])), (t0, .inr (8, [.ref t, .ref tn, .ref tl, .ref tc, .ref ta])), (t, .inl (k 0, 4, .inl (cI q))), (tn, .inl (k 4, 4, .inr (.inr (.inr (.inr (gr4 rw)))))), ((rw 0), .inl (k 0, 80, .inl G0)), (r0, .inl (k 0, 7, .inl (fun _ => 0))), (r1, .inl (k 0, 7, .inl (fun _ => 0))), (nk, .inr (6, [.int 0, .int 0, .ref nk1, .ref nk2, .ref nk3])), (nk1, .inl (k 0, 3, .inl (fun _ => 0))), (nk2, .inl (k 0, 21, .inl (fun _ => 0))), (nk3, .inl (k 0, 21, .inl (fun _ => 0))), (r4, .inl (k 0, 7, .inl (fun _ => 0))), (r5, .inl (k 0, 100, .inl (fun _ => 0))), (r6, .inl (k 1, 200, .inr (.inl (fun _ => 0)))), (r7, .inl (k 1, 128, .inr (.inl (fun _ => 0)))), (r8, .inl (k 1, 128, .inr (.inl (fun _ => 0))))] H := hP
  have hD : va_D A [(h, .inr (5, [.ref r0, .ref r1, .null, .ref nk, .ref r4, .ref r5, .ref r6, .ref r7, .ref r8, .null])), (t0, .inr (8, [.ref t, .ref tn, .ref tl, .ref tc, .ref ta])), (t, .inl (k 0, 4, .inl (cI q))), (tn, .inl (k 4, 4, .inr (.inr (.inr (.inr (gr4 rw)))))), ((rw 0), .inl (k 0, 80, .inl G0)), (r0, .inl (k 0, 7, .inl (fun _ => 0))), (r1, .inl (k 0, 7, .inl (fun _ => 0))), (nk, .inr (6, [.int 0, .int 0, .ref nk1, .ref nk2, .ref nk3])), (nk1, .inl (k 0, 3, .inl (fun _ => 0))), (nk2, .inl (k 0, 21, .inl (fun _ => 0))), (nk3, .inl (k 0, 21, .inl (fun _ => 0))), (r4, .inl (k 0, 7, .inl (fun _ => 0))), (r5, .inl (k 0, 100, .inl (fun _ => 0))), (r6, .inl (k 1, 200, .inr (.inl (fun _ => 0)))), (r7, .inl (k 1, 128, .inr (.inl (fun _ => 0)))), (r8, .inl (k 1, 128, .inr (.inl (fun _ => 0))))] := hD
  refine lv_aload_n hx hb dX5_init_74 rfl (lv_at hl 0 rfl) ?_
  refine lv_bipush (v := 49) hx hb dX5_init_75 (by decide) ?_
  refine va_newa (atype := .int) (ty := .int) (a0 := (49, .inl (fun _ => 0))) hx hb (hts (.arrayClass .int) (List.mem_cons_of_mem _ (List.mem_append_left _ (List.mem_append_left _ (List.mem_append_left _ (List.mem_append_left _ (List.mem_of_getElem? (i := 3) rfl))))))) rfl hG.1 hP hD hS hA (fun _ => rfl) (by decide) (by decide) (show 49 * 4 ≤ 536870912 by omega) (Nat.le_of_ble_eq_true rfl) (Nat.le_of_ble_eq_true rfl) dX5_init_77 (fun r9 cN H hK9 hP hD hS => ?_)
  obtain rfl := cA_eq hK9 (i := 0) (j := 5) rfl rfl
  have hP : va_P D vwCl [(h, .inr (5, [.ref r0, .ref r1, .null, .ref nk, .ref r4, .ref r5, .ref r6, .ref r7, .ref r8, .null])), (t0, .inr (8, [.ref t, .ref tn, .ref tl, .ref tc, .ref ta])), (t, .inl (k 0, 4, .inl (cI q))), (tn, .inl (k 4, 4, .inr (.inr (.inr (.inr (gr4 rw)))))), ((rw 0), .inl (k 0, 80, .inl G0)), (r0, .inl (k 0, 7, .inl (fun _ => 0))), (r1, .inl (k 0, 7, .inl (fun _ => 0))), (nk, .inr (6, [.int 0, .int 0, .ref nk1, .ref nk2, .ref nk3])), (nk1, .inl (k 0, 3, .inl (fun _ => 0))), (nk2, .inl (k 0, 21, .inl (fun _ => 0))), (nk3, .inl (k 0, 21, .inl (fun _ => 0))), (r4, .inl (k 0, 7, .inl (fun _ => 0))), (r5, .inl (k 0, 100, .inl (fun _ => 0))), (r6, .inl (k 1, 200, .inr (.inl (fun _ => 0)))), (r7, .inl (k 1, 128, .inr (.inl (fun _ => 0)))), (r8, .inl (k 1, 128, .inr (.inl (fun _ => 0)))), (r9, .inl (k 0, 49, .inl (fun _ => 0)))] H := hP
  have hD : va_D A [(h, .inr (5, [.ref r0, .ref r1, .null, .ref nk, .ref r4, .ref r5, .ref r6, .ref r7, .ref r8, .null])), (t0, .inr (8, [.ref t, .ref tn, .ref tl, .ref tc, .ref ta])), (t, .inl (k 0, 4, .inl (cI q))), (tn, .inl (k 4, 4, .inr (.inr (.inr (.inr (gr4 rw)))))), ((rw 0), .inl (k 0, 80, .inl G0)), (r0, .inl (k 0, 7, .inl (fun _ => 0))), (r1, .inl (k 0, 7, .inl (fun _ => 0))), (nk, .inr (6, [.int 0, .int 0, .ref nk1, .ref nk2, .ref nk3])), (nk1, .inl (k 0, 3, .inl (fun _ => 0))), (nk2, .inl (k 0, 21, .inl (fun _ => 0))), (nk3, .inl (k 0, 21, .inl (fun _ => 0))), (r4, .inl (k 0, 7, .inl (fun _ => 0))), (r5, .inl (k 0, 100, .inl (fun _ => 0))), (r6, .inl (k 1, 200, .inr (.inl (fun _ => 0)))), (r7, .inl (k 1, 128, .inr (.inl (fun _ => 0)))), (r8, .inl (k 1, 128, .inr (.inl (fun _ => 0)))), (r9, .inl (k 0, 49, .inl (fun _ => 0)))] := hD
  refine W.widen (k := 12) (n := 676) (Nat.le_of_ble_eq_true rfl) (Nat.le_of_ble_eq_true rfl) ?_
  refine va_putF (D := D) (ci := 5) (v := .ref r9) (ty := (tyX5 9)) (C := RX5) (T := TX5) (N := 10) hx hb hts hi5 tyX5 tyX5_ok nmX5 hown hG.1 hP hD hS 0 rfl rfl 9 (by decide) (hts (.fieldLink RX5 41 "SleptMatters$Rows" "open" "[I") (List.mem_cons_of_mem _ (List.mem_append_left _ (List.mem_append_left _ (List.mem_append_left _ (List.mem_append_left _ (List.mem_of_getElem? (i := 16) rfl))))))) (fun _ h9 => h9) rfl hin rfl (by decide +kernel) rfl rfl (Nat.le_of_ble_eq_true rfl) dX5_init_79 (fun H locs hP hD hS => ?_)
  have hP : va_P D vwCl [(h, .inr (5, [.ref r0, .ref r1, .null, .ref nk, .ref r4, .ref r5, .ref r6, .ref r7, .ref r8, .ref r9])), (t0, .inr (8, [.ref t, .ref tn, .ref tl, .ref tc, .ref ta])), (t, .inl (k 0, 4, .inl (cI q))), (tn, .inl (k 4, 4, .inr (.inr (.inr (.inr (gr4 rw)))))), ((rw 0), .inl (k 0, 80, .inl G0)), (r0, .inl (k 0, 7, .inl (fun _ => 0))), (r1, .inl (k 0, 7, .inl (fun _ => 0))), (nk, .inr (6, [.int 0, .int 0, .ref nk1, .ref nk2, .ref nk3])), (nk1, .inl (k 0, 3, .inl (fun _ => 0))), (nk2, .inl (k 0, 21, .inl (fun _ => 0))), (nk3, .inl (k 0, 21, .inl (fun _ => 0))), (r4, .inl (k 0, 7, .inl (fun _ => 0))), (r5, .inl (k 0, 100, .inl (fun _ => 0))), (r6, .inl (k 1, 200, .inr (.inl (fun _ => 0)))), (r7, .inl (k 1, 128, .inr (.inl (fun _ => 0)))), (r8, .inl (k 1, 128, .inr (.inl (fun _ => 0)))), (r9, .inl (k 0, 49, .inl (fun _ => 0)))] H := hP
  have hD : va_D A [(h, .inr (5, [.ref r0, .ref r1, .null, .ref nk, .ref r4, .ref r5, .ref r6, .ref r7, .ref r8, .ref r9])), (t0, .inr (8, [.ref t, .ref tn, .ref tl, .ref tc, .ref ta])), (t, .inl (k 0, 4, .inl (cI q))), (tn, .inl (k 4, 4, .inr (.inr (.inr (.inr (gr4 rw)))))), ((rw 0), .inl (k 0, 80, .inl G0)), (r0, .inl (k 0, 7, .inl (fun _ => 0))), (r1, .inl (k 0, 7, .inl (fun _ => 0))), (nk, .inr (6, [.int 0, .int 0, .ref nk1, .ref nk2, .ref nk3])), (nk1, .inl (k 0, 3, .inl (fun _ => 0))), (nk2, .inl (k 0, 21, .inl (fun _ => 0))), (nk3, .inl (k 0, 21, .inl (fun _ => 0))), (r4, .inl (k 0, 7, .inl (fun _ => 0))), (r5, .inl (k 0, 100, .inl (fun _ => 0))), (r6, .inl (k 1, 200, .inr (.inl (fun _ => 0)))), (r7, .inl (k 1, 128, .inr (.inl (fun _ => 0)))), (r8, .inl (k 1, 128, .inr (.inl (fun _ => 0)))), (r9, .inl (k 0, 49, .inl (fun _ => 0)))] := hD
  refine lv_aload_n hx hb dX5_init_82 rfl (lv_at hl 0 rfl) ?_
  refine lv_aload_n hx hb dX5_init_83 rfl (lv_at hl 1 rfl) ?_
  refine va_put (D := D) (ci := 5) (v := .ref t0) (ty := (tyX5 2)) (C := RX5) (T := TX5) (N := 10) hx hb hts hi5 tyX5 tyX5_ok nmX5 hown hG.1 hP hD hS 0 rfl rfl 2 (by decide) (hts (.fieldLink RX5 44 "SleptMatters$Rows" "town" "LSleptMatters$Town;") (List.mem_cons_of_mem _ (List.mem_append_left _ (List.mem_append_left _ (List.mem_append_left _ (List.mem_append_left _ (List.mem_of_getElem? (i := 17) rfl))))))) (fun _ h9 => h9) rfl (by decide +kernel) rfl rfl (Nat.le_of_ble_eq_true rfl) dX5_init_84 (fun H locs hP hD hS => ?_)
  have hP : va_P D vwCl [(h, .inr (5, [.ref r0, .ref r1, .ref t0, .ref nk, .ref r4, .ref r5, .ref r6, .ref r7, .ref r8, .ref r9])), (t0, .inr (8, [.ref t, .ref tn, .ref tl, .ref tc, .ref ta])), (t, .inl (k 0, 4, .inl (cI q))), (tn, .inl (k 4, 4, .inr (.inr (.inr (.inr (gr4 rw)))))), ((rw 0), .inl (k 0, 80, .inl G0)), (r0, .inl (k 0, 7, .inl (fun _ => 0))), (r1, .inl (k 0, 7, .inl (fun _ => 0))), (nk, .inr (6, [.int 0, .int 0, .ref nk1, .ref nk2, .ref nk3])), (nk1, .inl (k 0, 3, .inl (fun _ => 0))), (nk2, .inl (k 0, 21, .inl (fun _ => 0))), (nk3, .inl (k 0, 21, .inl (fun _ => 0))), (r4, .inl (k 0, 7, .inl (fun _ => 0))), (r5, .inl (k 0, 100, .inl (fun _ => 0))), (r6, .inl (k 1, 200, .inr (.inl (fun _ => 0)))), (r7, .inl (k 1, 128, .inr (.inl (fun _ => 0)))), (r8, .inl (k 1, 128, .inr (.inl (fun _ => 0)))), (r9, .inl (k 0, 49, .inl (fun _ => 0)))] H := hP
  have hD : va_D A [(h, .inr (5, [.ref r0, .ref r1, .ref t0, .ref nk, .ref r4, .ref r5, .ref r6, .ref r7, .ref r8, .ref r9])), (t0, .inr (8, [.ref t, .ref tn, .ref tl, .ref tc, .ref ta])), (t, .inl (k 0, 4, .inl (cI q))), (tn, .inl (k 4, 4, .inr (.inr (.inr (.inr (gr4 rw)))))), ((rw 0), .inl (k 0, 80, .inl G0)), (r0, .inl (k 0, 7, .inl (fun _ => 0))), (r1, .inl (k 0, 7, .inl (fun _ => 0))), (nk, .inr (6, [.int 0, .int 0, .ref nk1, .ref nk2, .ref nk3])), (nk1, .inl (k 0, 3, .inl (fun _ => 0))), (nk2, .inl (k 0, 21, .inl (fun _ => 0))), (nk3, .inl (k 0, 21, .inl (fun _ => 0))), (r4, .inl (k 0, 7, .inl (fun _ => 0))), (r5, .inl (k 0, 100, .inl (fun _ => 0))), (r6, .inl (k 1, 200, .inr (.inl (fun _ => 0)))), (r7, .inl (k 1, 128, .inr (.inl (fun _ => 0)))), (r8, .inl (k 1, 128, .inr (.inl (fun _ => 0)))), (r9, .inl (k 0, 49, .inl (fun _ => 0)))] := hD
  refine lv_aload_n hx hb dX5_init_87 rfl (lv_at hl 0 rfl) ?_
  refine lv_aload_n hx hb dX5_init_88 rfl (lv_at hl 1 rfl) ?_
  have hPc := hP.sub (ws' := (c_X5_moveTo k h r0 r1 t0 nk r4 r5 r6 r7 r8 r9 t0 t tn tl tc ta rw q G0 (fun _ => 0) (fun _ => 0) (fun _ => 0))) [0, 11, 12, 13, 1, 2, 3, 4] rfl
  have hDc := hD.sub (ws' := (c_X5_moveTo k h r0 r1 t0 nk r4 r5 r6 r7 r8 r9 t0 t tn tl tc ta rw q G0 (fun _ => 0) (fun _ => 0) (fun _ => 0))) [0, 11, 12, 13, 1, 2, 3, 4] (by decide +kernel) rfl
  refine cl_v (w1 := w_X5_moveTo k h r0 r1 t0 nk r4 r5 r6 r7 r8 r9 t0 t tn tl tc ta rw q G0 (fun _ => 0) (fun _ => 0) (fun _ => 0)) (wr := [(r0, .inl (k 0, 7, .inl (fun _ => 0))), (r1, .inl (k 0, 7, .inl (fun _ => 0))), (nk, .inr (6, [.int 0, .int 0, .ref nk1, .ref nk2, .ref nk3])), (nk1, .inl (k 0, 3, .inl (fun _ => 0))), (nk2, .inl (k 0, 21, .inl (fun _ => 0))), (nk3, .inl (k 0, 21, .inl (fun _ => 0))), (r7, .inl (k 1, 128, .inr (.inl (fun _ => 0)))), (r8, .inl (k 1, 128, .inr (.inl (fun _ => 0)))), (r9, .inl (k 0, 49, .inl (fun _ => 0)))]) (va_runV (As := [.ref t0]) (rest := []) ⟨hx, hb, hml, hown, hts⟩ (X5_moveTo l D k H.size h r0 r1 t0 nk r4 r5 r6 r7 r8 r9 t0 t tn tl tc ta rw q G0 (fun _ => 0) (fun _ => 0) (fun _ => 0) (hq0)) (cwV 1 hts gX5_init_X5_moveTo rfl rfl rfl (by decide +kernel) ⟨Nat.le_of_ble_eq_true rfl, Nat.le_of_ble_eq_true rfl⟩) ⟨PR.blind _ _ _ _ _, va_recv hG.1 hP (ci := 5) (q0 := 0) rfl rfl, PR.pre hPc hDc hG [.ref h, .ref t0]⟩ rfl rfl hl.1 rfl (lv_room (Nat.le_of_ble_eq_true rfl)) dX5_init_89 ⟨Nat.le_of_ble_eq_true rfl, Nat.le_of_ble_eq_true rfl⟩) hP hD hS hA [0, 11, 12, 13, 1, 2, 3, 4] [5, 6, 7, 8, 9, 10, 14, 15, 16] rfl rfl (by decide +kernel) (by decide +kernel) (fun u H locs hq hP hD hS => ?_)
  obtain ⟨be, rfl⟩ : ∃ z, z = u := ⟨_, rfl⟩
  have hq : BEx (q 0) G0 be := hq
  have hP : va_P D vwCl [(r0, .inl (k 0, 7, .inl (fun _ => 0))), (r1, .inl (k 0, 7, .inl (fun _ => 0))), (nk, .inr (6, [.int 0, .int 0, .ref nk1, .ref nk2, .ref nk3])), (nk1, .inl (k 0, 3, .inl (fun _ => 0))), (nk2, .inl (k 0, 21, .inl (fun _ => 0))), (nk3, .inl (k 0, 21, .inl (fun _ => 0))), (r7, .inl (k 1, 128, .inr (.inl (fun _ => 0)))), (r8, .inl (k 1, 128, .inr (.inl (fun _ => 0)))), (r9, .inl (k 0, 49, .inl (fun _ => 0))), (h, .inr (5, [.ref r0, .ref r1, .ref t0, .ref nk, .ref r4, .ref r5, .ref r6, .ref r7, .ref r8, .ref r9])), (r4, .inl (k 0, 7, .inl be)), (r5, .inl (k 0, 100, .inl (fl_i (fun _ => 0) (-1) 100))), (r6, .inl (k 1, 200, .inr (.inl (fl_l (fun _ => 0) 0 200)))), (t0, .inr (8, [.ref t, .ref tn, .ref tl, .ref tc, .ref ta])), (t, .inl (k 0, 4, .inl (cI q))), (tn, .inl (k 4, 4, .inr (.inr (.inr (.inr (gr4 rw)))))), ((rw 0), .inl (k 0, 80, .inl G0))] H := hP
  have hD : va_D A [(r0, .inl (k 0, 7, .inl (fun _ => 0))), (r1, .inl (k 0, 7, .inl (fun _ => 0))), (nk, .inr (6, [.int 0, .int 0, .ref nk1, .ref nk2, .ref nk3])), (nk1, .inl (k 0, 3, .inl (fun _ => 0))), (nk2, .inl (k 0, 21, .inl (fun _ => 0))), (nk3, .inl (k 0, 21, .inl (fun _ => 0))), (r7, .inl (k 1, 128, .inr (.inl (fun _ => 0)))), (r8, .inl (k 1, 128, .inr (.inl (fun _ => 0)))), (r9, .inl (k 0, 49, .inl (fun _ => 0))), (h, .inr (5, [.ref r0, .ref r1, .ref t0, .ref nk, .ref r4, .ref r5, .ref r6, .ref r7, .ref r8, .ref r9])), (r4, .inl (k 0, 7, .inl be)), (r5, .inl (k 0, 100, .inl (fl_i (fun _ => 0) (-1) 100))), (r6, .inl (k 1, 200, .inr (.inl (fl_l (fun _ => 0) 0 200)))), (t0, .inr (8, [.ref t, .ref tn, .ref tl, .ref tc, .ref ta])), (t, .inl (k 0, 4, .inl (cI q))), (tn, .inl (k 4, 4, .inr (.inr (.inr (.inr (gr4 rw)))))), ((rw 0), .inl (k 0, 80, .inl G0))] := hD
  have hP9 := hP.sub (ws' := [(h, .inr (5, [.ref r0, .ref r1, .ref t0, .ref nk, .ref r4, .ref r5, .ref r6, .ref r7, .ref r8, .ref r9])), (r0, .inl (k 0, 7, .inl (fun _ => 0))), (r1, .inl (k 0, 7, .inl (fun _ => 0))), (nk, .inr (6, [.int 0, .int 0, .ref nk1, .ref nk2, .ref nk3])), (nk1, .inl (k 0, 3, .inl (fun _ => 0))), (nk2, .inl (k 0, 21, .inl (fun _ => 0))), (nk3, .inl (k 0, 21, .inl (fun _ => 0))), (r4, .inl (k 0, 7, .inl be)), (r5, .inl (k 0, 100, .inl (fl_i (fun _ => 0) (-1) 100))), (r6, .inl (k 1, 200, .inr (.inl (fl_l (fun _ => 0) 0 200)))), (r7, .inl (k 1, 128, .inr (.inl (fun _ => 0)))), (r8, .inl (k 1, 128, .inr (.inl (fun _ => 0)))), (r9, .inl (k 0, 49, .inl (fun _ => 0))), (t0, .inr (8, [.ref t, .ref tn, .ref tl, .ref tc, .ref ta])), (t, .inl (k 0, 4, .inl (cI q))), (tn, .inl (k 4, 4, .inr (.inr (.inr (.inr (gr4 rw)))))), ((rw 0), .inl (k 0, 80, .inl G0))]) [9, 0, 1, 2, 3, 4, 5, 10, 11, 12, 6, 7, 8, 13, 14, 15, 16] rfl
  have hD9 := hD.sub (ws' := [(h, .inr (5, [.ref r0, .ref r1, .ref t0, .ref nk, .ref r4, .ref r5, .ref r6, .ref r7, .ref r8, .ref r9])), (r0, .inl (k 0, 7, .inl (fun _ => 0))), (r1, .inl (k 0, 7, .inl (fun _ => 0))), (nk, .inr (6, [.int 0, .int 0, .ref nk1, .ref nk2, .ref nk3])), (nk1, .inl (k 0, 3, .inl (fun _ => 0))), (nk2, .inl (k 0, 21, .inl (fun _ => 0))), (nk3, .inl (k 0, 21, .inl (fun _ => 0))), (r4, .inl (k 0, 7, .inl be)), (r5, .inl (k 0, 100, .inl (fl_i (fun _ => 0) (-1) 100))), (r6, .inl (k 1, 200, .inr (.inl (fl_l (fun _ => 0) 0 200)))), (r7, .inl (k 1, 128, .inr (.inl (fun _ => 0)))), (r8, .inl (k 1, 128, .inr (.inl (fun _ => 0)))), (r9, .inl (k 0, 49, .inl (fun _ => 0))), (t0, .inr (8, [.ref t, .ref tn, .ref tl, .ref tc, .ref ta])), (t, .inl (k 0, 4, .inl (cI q))), (tn, .inl (k 4, 4, .inr (.inr (.inr (.inr (gr4 rw)))))), ((rw 0), .inl (k 0, 80, .inl G0))]) [9, 0, 1, 2, 3, 4, 5, 10, 11, 12, 6, 7, 8, 13, 14, 15, 16] (by decide +kernel) rfl
  exact W.vret hx hb hr (fun t9 ht _ => ⟨⟨(r0, r1, nk, r4, r5, r6, r7, r8, r9, nk1, nk2, nk3, be), rfl, trivial, by rw [ht]; exact hP9, hD9⟩, hS.F ht⟩) hS.2.2 dX5_init_92

abbrev c_X4_init (k : Nat → ClassId) (h : Nat) (rr : Nat) : va_W := [(h, .inr (4, [.int 0, .int 0, .null, .null, .null, .null, .null, .int 0, .int 0]))]
abbrev r_X4_init : Room := { frames := 2, cells := 7, slots := 59, locals := 44 }
def w_X4_init (k : Nat → ClassId) (h : Nat) (rr : Nat) : Nat × Nat × Nat × Nat × Nat × Nat × Nat → va_W := fun u => match u with | (p2, p3, p4, tk, tk1, tk2, tk3) => [(h, .inr (4, [.int 0, .int 0, .ref p2, .ref p3, .ref p4, .ref tk, .ref rr, .int 0, .int 0])), (p2, .inl (k 0, 3, .inl (fun _ => 0))), (p3, .inl (k 0, 3, .inl (fun _ => 0))), (p4, .inl (k 0, 3, .inl (fun _ => 0))), (tk, .inr (6, [.int 0, .int 0, .ref tk1, .ref tk2, .ref tk3])), (tk1, .inl (k 0, 3, .inl (fun _ => 0))), (tk2, .inl (k 0, 21, .inl (fun _ => 0))), (tk3, .inl (k 0, 21, .inl (fun _ => 0)))]
def p_X4_init (k : Nat → ClassId) (h : Nat) (rr : Nat) : Nat × Nat × Nat × Nat × Nat × Nat × Nat → Prop := fun (u : Nat × Nat × Nat × Nat × Nat × Nat × Nat) => match u with | (p2, p3, p4, tk, tk1, tk2, tk3) => True
abbrev q_X4_init (D : va_G) (k : Nat → ClassId) (h : Nat) (rr : Nat) (A : Nat → Prop) : Array Value → State → Outcome → State → Prop := va_Qv (p_X4_init k h rr) (fun u9 t9 => BO D (w_X4_init k h rr u9) A t9) A
set_option maxHeartbeats 2000000 in
set_option maxRecDepth 100000 in
theorem X4_init (l : Launch) (D : va_G) (k : Nat → ClassId) (sz : Nat) (h : Nat) (rr : Nat)  : Met l yX4_init wsX4_init r_X4_init (va_Pc [.ref h, .ref rr] (PR D k (c_X4_init k h rr) sz)) (q_X4_init D k h rr (va_A (c_X4_init k h rr) sz)) 7 59 (va_A (c_X4_init k h rr) sz) := by
  refine Met.ofW (cc := cX4_init) (maxL := 2) (ret := none) (by decide) rfl ?_
  intro p e s m args below meth c s₁ B hml hv
  obtain ⟨rfl, hsz, hP, hG, hD0⟩ := hv
  have hx := B.exec
  have hb := B.bytes
  have hr := B.returns
  have hts := atoms_spec (ws := wsX4_init) B.pre
  have hown : s.vm.findClass RX4 = some m.cls := findClass_of_methodNamed B.named
  have hlocks := B.notSynchronized
  have hin : meth.name = "<init>" := (name_of_methodNamed B.named B.method).1
  have hi4 : ∀ w ∈ wsX40, w ∈ wsX4_init := fun _ h => List.mem_cons_of_mem _ (List.mem_append_left _ (List.mem_append_right _ h))
  have hi6 : ∀ w ∈ wsX60, w ∈ wsX4_init := fun _ h => List.mem_cons_of_mem _ (List.mem_append_right _ h)
  subst hsz
  have hD := hD0.self (sz := s.heap.size)
  generalize hAe : va_A (c_X4_init k h rr) s.heap.size = A at hD ⊢
  have hA : ∀ q : Nat, s.heap.size ≤ q → A q := fun q h => by rw [← hAe]; exact Or.inr h
  have hS : va_S A s.heap s.heap [] := va_S.rf
  have hP : va_P D vwCl [(h, .inr (4, [.int 0, .int 0, .null, .null, .null, .null, .null, .int 0, .int 0]))] s.heap := hP
  have hD : va_D A [(h, .inr (4, [.int 0, .int 0, .null, .null, .null, .null, .null, .int 0, .int 0]))] := hD
  have hl := lv_entry ([.ref h, .ref rr]) (n := 2) (Nat.le_of_ble_eq_true rfl)
  rw [lg_entry_eq]
  generalize (lg_sl ([.ref h, .ref rr]) ++ List.replicate (2 - (lg_sl ([.ref h, .ref rr])).length) Slot.unset).toArray = ls at hl ⊢
  have hl : lv_has ls 2 [(0, .ref h), (1, .ref rr)] := hl
  refine lv_aload_n hx hb dX4_init_0 rfl (lv_at hl 0 rfl) ?_
  refine W.objInit hx hb hown (hts (.methodLink RX4 3 objectInit) (List.mem_cons_of_mem _ (List.mem_append_left _ (List.mem_append_left _ (List.mem_of_getElem? (i := 0) rfl))))) (hts (.instanceMethod objectInit) (List.mem_cons_of_mem _ (List.mem_append_left _ (List.mem_append_left _ (List.mem_of_getElem? (i := 1) rfl))))) (hts (.code objectInit ⟨#[0xb1]⟩ 1 none) (List.mem_cons_of_mem _ (List.mem_append_left _ (List.mem_append_left _ (List.mem_of_getElem? (i := 2) rfl))))) rfl (by rw [hml]; exact hl.1) rfl dX4_init_1 (Nat.le_of_ble_eq_true rfl) (Nat.le_of_ble_eq_true rfl) ?_
  refine W.eq (g2 := F0 m 4 ls []) rfl ?_
  refine lv_aload_n hx hb dX4_init_4 rfl (lv_at hl 0 rfl) ?_
  refine lv_iconst (v := 0) hx hb dX4_init_5 (by decide) ?_
  refine va_put (D := D) (ci := 4) (v := .int 0) (ty := .boolean) (C := RX4) (T := TX4) (N := 9) hx hb hts hi4 tyX4 tyX4_ok nmX4 hown hG.1 hP hD hS 0 rfl rfl 0 (by decide) (hts (.fieldLink RX4 9 "SleptMatters$Plan" "isKnown" "Z") (List.mem_cons_of_mem _ (List.mem_append_left _ (List.mem_append_left _ (List.mem_of_getElem? (i := 3) rfl))))) (fun _ h9 => h9) rfl (by decide +kernel) rfl rfl (Nat.le_of_ble_eq_true rfl) dX4_init_6 (fun H locs hP hD hS => ?_)
  have hP : va_P D vwCl [(h, .inr (4, [.int 0, .int 0, .null, .null, .null, .null, .null, .int 0, .int 0]))] H := hP
  have hD : va_D A [(h, .inr (4, [.int 0, .int 0, .null, .null, .null, .null, .null, .int 0, .int 0]))] := hD
  refine lv_aload_n hx hb dX4_init_9 rfl (lv_at hl 0 rfl) ?_
  refine lv_iconst (v := 0) hx hb dX4_init_10 (by decide) ?_
  refine va_put (D := D) (ci := 4) (v := .int 0) (ty := .int) (C := RX4) (T := TX4) (N := 9) hx hb hts hi4 tyX4 tyX4_ok nmX4 hown hG.1 hP hD hS 0 rfl rfl 1 (by decide) (hts (.fieldLink RX4 15 "SleptMatters$Plan" "gain" "I") (List.mem_cons_of_mem _ (List.mem_append_left _ (List.mem_append_left _ (List.mem_of_getElem? (i := 4) rfl))))) (fun _ h9 => h9) rfl (by decide +kernel) rfl rfl (Nat.le_of_ble_eq_true rfl) dX4_init_11 (fun H locs hP hD hS => ?_)
  have hP : va_P D vwCl [(h, .inr (4, [.int 0, .int 0, .null, .null, .null, .null, .null, .int 0, .int 0]))] H := hP
  have hD : va_D A [(h, .inr (4, [.int 0, .int 0, .null, .null, .null, .null, .null, .int 0, .int 0]))] := hD
  refine lv_aload_n hx hb dX4_init_14 rfl (lv_at hl 0 rfl) ?_
  refine lv_iconst (v := 3) hx hb dX4_init_15 (by decide) ?_
  refine va_newa (atype := .int) (ty := .int) (a0 := (3, .inl (fun _ => 0))) hx hb (hts (.arrayClass .int) (List.mem_cons_of_mem _ (List.mem_append_left _ (List.mem_append_left _ (List.mem_of_getElem? (i := 5) rfl))))) rfl hG.1 hP hD hS hA (fun _ => rfl) (by decide) (by decide) (show 3 * 4 ≤ 536870912 by omega) (Nat.le_of_ble_eq_true rfl) (Nat.le_of_ble_eq_true rfl) dX4_init_16 (fun p2 cN H hK9 hP hD hS => ?_)
  obtain rfl := cA_eq hK9 (i := 0) (j := 5) rfl rfl
  have hP : va_P D vwCl [(h, .inr (4, [.int 0, .int 0, .null, .null, .null, .null, .null, .int 0, .int 0])), (p2, .inl (k 0, 3, .inl (fun _ => 0)))] H := hP
  have hD : va_D A [(h, .inr (4, [.int 0, .int 0, .null, .null, .null, .null, .null, .int 0, .int 0])), (p2, .inl (k 0, 3, .inl (fun _ => 0)))] := hD
  refine W.widen (k := 1) (n := 3) (Nat.le_of_ble_eq_true rfl) (Nat.le_of_ble_eq_true rfl) ?_
  refine va_putF (D := D) (ci := 4) (v := .ref p2) (ty := (tyX4 2)) (C := RX4) (T := TX4) (N := 9) hx hb hts hi4 tyX4 tyX4_ok nmX4 hown hG.1 hP hD hS 0 rfl rfl 2 (by decide) (hts (.fieldLink RX4 19 "SleptMatters$Plan" "order" "[I") (List.mem_cons_of_mem _ (List.mem_append_left _ (List.mem_append_left _ (List.mem_of_getElem? (i := 6) rfl))))) (fun _ h9 => h9) rfl hin rfl (by decide +kernel) rfl rfl (Nat.le_of_ble_eq_true rfl) dX4_init_18 (fun H locs hP hD hS => ?_)
  have hP : va_P D vwCl [(h, .inr (4, [.int 0, .int 0, .ref p2, .null, .null, .null, .null, .int 0, .int 0])), (p2, .inl (k 0, 3, .inl (fun _ => 0)))] H := hP
  have hD : va_D A [(h, .inr (4, [.int 0, .int 0, .ref p2, .null, .null, .null, .null, .int 0, .int 0])), (p2, .inl (k 0, 3, .inl (fun _ => 0)))] := hD
  refine lv_aload_n hx hb dX4_init_21 rfl (lv_at hl 0 rfl) ?_
  refine lv_iconst (v := 3) hx hb dX4_init_22 (by decide) ?_
  refine va_newa (atype := .int) (ty := .int) (a0 := (3, .inl (fun _ => 0))) hx hb (hts (.arrayClass .int) (List.mem_cons_of_mem _ (List.mem_append_left _ (List.mem_append_left _ (List.mem_of_getElem? (i := 5) rfl))))) rfl hG.1 hP hD hS hA (fun _ => rfl) (by decide) (by decide) (show 3 * 4 ≤ 536870912 by omega) (Nat.le_of_ble_eq_true rfl) (Nat.le_of_ble_eq_true rfl) dX4_init_23 (fun p3 cN H hK9 hP hD hS => ?_)
  obtain rfl := cA_eq hK9 (i := 0) (j := 5) rfl rfl
  have hP : va_P D vwCl [(h, .inr (4, [.int 0, .int 0, .ref p2, .null, .null, .null, .null, .int 0, .int 0])), (p2, .inl (k 0, 3, .inl (fun _ => 0))), (p3, .inl (k 0, 3, .inl (fun _ => 0)))] H := hP
  have hD : va_D A [(h, .inr (4, [.int 0, .int 0, .ref p2, .null, .null, .null, .null, .int 0, .int 0])), (p2, .inl (k 0, 3, .inl (fun _ => 0))), (p3, .inl (k 0, 3, .inl (fun _ => 0)))] := hD
  refine W.widen (k := 2) (n := 6) (Nat.le_of_ble_eq_true rfl) (Nat.le_of_ble_eq_true rfl) ?_
  refine va_putF (D := D) (ci := 4) (v := .ref p3) (ty := (tyX4 3)) (C := RX4) (T := TX4) (N := 9) hx hb hts hi4 tyX4 tyX4_ok nmX4 hown hG.1 hP hD hS 0 rfl rfl 3 (by decide) (hts (.fieldLink RX4 23 "SleptMatters$Plan" "ends" "[I") (List.mem_cons_of_mem _ (List.mem_append_left _ (List.mem_append_left _ (List.mem_of_getElem? (i := 7) rfl))))) (fun _ h9 => h9) rfl hin rfl (by decide +kernel) rfl rfl (Nat.le_of_ble_eq_true rfl) dX4_init_25 (fun H locs hP hD hS => ?_)
  have hP : va_P D vwCl [(h, .inr (4, [.int 0, .int 0, .ref p2, .ref p3, .null, .null, .null, .int 0, .int 0])), (p2, .inl (k 0, 3, .inl (fun _ => 0))), (p3, .inl (k 0, 3, .inl (fun _ => 0)))] H := hP
  have hD : va_D A [(h, .inr (4, [.int 0, .int 0, .ref p2, .ref p3, .null, .null, .null, .int 0, .int 0])), (p2, .inl (k 0, 3, .inl (fun _ => 0))), (p3, .inl (k 0, 3, .inl (fun _ => 0)))] := hD
  refine lv_aload_n hx hb dX4_init_28 rfl (lv_at hl 0 rfl) ?_
  refine lv_iconst (v := 3) hx hb dX4_init_29 (by decide) ?_
  refine va_newa (atype := .int) (ty := .int) (a0 := (3, .inl (fun _ => 0))) hx hb (hts (.arrayClass .int) (List.mem_cons_of_mem _ (List.mem_append_left _ (List.mem_append_left _ (List.mem_of_getElem? (i := 5) rfl))))) rfl hG.1 hP hD hS hA (fun _ => rfl) (by decide) (by decide) (show 3 * 4 ≤ 536870912 by omega) (Nat.le_of_ble_eq_true rfl) (Nat.le_of_ble_eq_true rfl) dX4_init_30 (fun p4 cN H hK9 hP hD hS => ?_)
  obtain rfl := cA_eq hK9 (i := 0) (j := 5) rfl rfl
  have hP : va_P D vwCl [(h, .inr (4, [.int 0, .int 0, .ref p2, .ref p3, .null, .null, .null, .int 0, .int 0])), (p2, .inl (k 0, 3, .inl (fun _ => 0))), (p3, .inl (k 0, 3, .inl (fun _ => 0))), (p4, .inl (k 0, 3, .inl (fun _ => 0)))] H := hP
  have hD : va_D A [(h, .inr (4, [.int 0, .int 0, .ref p2, .ref p3, .null, .null, .null, .int 0, .int 0])), (p2, .inl (k 0, 3, .inl (fun _ => 0))), (p3, .inl (k 0, 3, .inl (fun _ => 0))), (p4, .inl (k 0, 3, .inl (fun _ => 0)))] := hD
  refine W.widen (k := 3) (n := 9) (Nat.le_of_ble_eq_true rfl) (Nat.le_of_ble_eq_true rfl) ?_
  refine va_putF (D := D) (ci := 4) (v := .ref p4) (ty := (tyX4 4)) (C := RX4) (T := TX4) (N := 9) hx hb hts hi4 tyX4 tyX4_ok nmX4 hown hG.1 hP hD hS 0 rfl rfl 4 (by decide) (hts (.fieldLink RX4 26 "SleptMatters$Plan" "triedEnds" "[I") (List.mem_cons_of_mem _ (List.mem_append_left _ (List.mem_append_left _ (List.mem_of_getElem? (i := 8) rfl))))) (fun _ h9 => h9) rfl hin rfl (by decide +kernel) rfl rfl (Nat.le_of_ble_eq_true rfl) dX4_init_32 (fun H locs hP hD hS => ?_)
  have hP : va_P D vwCl [(h, .inr (4, [.int 0, .int 0, .ref p2, .ref p3, .ref p4, .null, .null, .int 0, .int 0])), (p2, .inl (k 0, 3, .inl (fun _ => 0))), (p3, .inl (k 0, 3, .inl (fun _ => 0))), (p4, .inl (k 0, 3, .inl (fun _ => 0)))] H := hP
  have hD : va_D A [(h, .inr (4, [.int 0, .int 0, .ref p2, .ref p3, .ref p4, .null, .null, .int 0, .int 0])), (p2, .inl (k 0, 3, .inl (fun _ => 0))), (p3, .inl (k 0, 3, .inl (fun _ => 0))), (p4, .inl (k 0, 3, .inl (fun _ => 0)))] := hD
  refine lv_aload_n hx hb dX4_init_35 rfl (lv_at hl 0 rfl) ?_
  refine va_new (ci := 6) (fs := [.int 0, .int 0, .null, .null, .null]) (C := RX6) (T := TX6) (N := 5) hx hb hts hi6 tyX6 tyX6_ok hown (hts (.classLink RX4 29 RX6) (List.mem_cons_of_mem _ (List.mem_append_left _ (List.mem_append_left _ (List.mem_of_getElem? (i := 9) rfl))))) (hts (.instantiable RX6 5) (List.mem_cons_of_mem _ (List.mem_append_left _ (List.mem_append_left _ (List.mem_of_getElem? (i := 10) rfl))))) (hts (.initialized RX6) (List.mem_cons_of_mem _ (List.mem_append_left _ (List.mem_append_left _ (List.mem_of_getElem? (i := 11) rfl))))) hG.1 hP hD hS hA rfl dfX6 (Nat.le_of_ble_eq_true rfl) (Nat.le_of_ble_eq_true rfl) dX4_init_36 (fun tk H hP hD hS => ?_)
  have hP : va_P D vwCl [(h, .inr (4, [.int 0, .int 0, .ref p2, .ref p3, .ref p4, .null, .null, .int 0, .int 0])), (p2, .inl (k 0, 3, .inl (fun _ => 0))), (p3, .inl (k 0, 3, .inl (fun _ => 0))), (p4, .inl (k 0, 3, .inl (fun _ => 0))), (tk, .inr (6, [.int 0, .int 0, .null, .null, .null]))] H := hP
  have hD : va_D A [(h, .inr (4, [.int 0, .int 0, .ref p2, .ref p3, .ref p4, .null, .null, .int 0, .int 0])), (p2, .inl (k 0, 3, .inl (fun _ => 0))), (p3, .inl (k 0, 3, .inl (fun _ => 0))), (p4, .inl (k 0, 3, .inl (fun _ => 0))), (tk, .inr (6, [.int 0, .int 0, .null, .null, .null]))] := hD
  refine W.widen (k := 4) (n := 14) (Nat.le_of_ble_eq_true rfl) (Nat.le_of_ble_eq_true rfl) ?_
  refine lv_dup hx hb dX4_init_39 rfl ?_
  have hPc := hP.sub (ws' := (c_X6_init k tk)) [4] rfl
  have hDc := hD.sub (ws' := (c_X6_init k tk)) [4] (by decide +kernel) rfl
  refine cl_v (w1 := w_X6_init k tk) (wr := [(h, .inr (4, [.int 0, .int 0, .ref p2, .ref p3, .ref p4, .null, .null, .int 0, .int 0])), (p2, .inl (k 0, 3, .inl (fun _ => 0))), (p3, .inl (k 0, 3, .inl (fun _ => 0))), (p4, .inl (k 0, 3, .inl (fun _ => 0)))]) (va_runIN (As := []) (rest := [.ref tk, .ref h]) ⟨hx, hb, hml, hown, hts⟩ (X6_init l D k H.size tk ) ⟨(va_cnB (own := RX4) (index := 31) (y := yX6_init) (host := RX9) 0 hts ggX4_init_X6_init rfl rfl rfl (hG.2.1 _ (List.mem_of_getElem? (i := 5) rfl)) (hts (.initialized RX6) (List.mem_cons_of_mem _ (List.mem_append_left _ (List.mem_append_left _ (List.mem_of_getElem? (i := 11) rfl))))) (by decide +kernel) ⟨Nat.le_of_ble_eq_true rfl, Nat.le_of_ble_eq_true rfl⟩), rfl, hts (.instanceMethod yX6_init) (List.mem_cons_of_mem _ (List.mem_append_left _ (List.mem_append_left _ (List.mem_of_getElem? (i := 16) rfl))))⟩ ⟨PR.blind _ _ _ _ _, PR.pre hPc hDc hG [.ref tk]⟩ rfl rfl hl.1 rfl (lv_room (Nat.le_of_ble_eq_true rfl)) dX4_init_40 ⟨Nat.le_of_ble_eq_true rfl, Nat.le_of_ble_eq_true rfl⟩) hP hD hS hA [4] [0, 1, 2, 3] rfl rfl (by decide +kernel) (by decide +kernel) (fun u H locs hq hP hD hS => ?_)
  obtain ⟨tk1, tk2, tk3⟩ := u
  have hP : va_P D vwCl [(h, .inr (4, [.int 0, .int 0, .ref p2, .ref p3, .ref p4, .null, .null, .int 0, .int 0])), (p2, .inl (k 0, 3, .inl (fun _ => 0))), (p3, .inl (k 0, 3, .inl (fun _ => 0))), (p4, .inl (k 0, 3, .inl (fun _ => 0))), (tk, .inr (6, [.int 0, .int 0, .ref tk1, .ref tk2, .ref tk3])), (tk1, .inl (k 0, 3, .inl (fun _ => 0))), (tk2, .inl (k 0, 21, .inl (fun _ => 0))), (tk3, .inl (k 0, 21, .inl (fun _ => 0)))] H := hP
  have hD : va_D A [(h, .inr (4, [.int 0, .int 0, .ref p2, .ref p3, .ref p4, .null, .null, .int 0, .int 0])), (p2, .inl (k 0, 3, .inl (fun _ => 0))), (p3, .inl (k 0, 3, .inl (fun _ => 0))), (p4, .inl (k 0, 3, .inl (fun _ => 0))), (tk, .inr (6, [.int 0, .int 0, .ref tk1, .ref tk2, .ref tk3])), (tk1, .inl (k 0, 3, .inl (fun _ => 0))), (tk2, .inl (k 0, 21, .inl (fun _ => 0))), (tk3, .inl (k 0, 21, .inl (fun _ => 0)))] := hD
  refine W.widen (k := 7) (n := 59) (Nat.le_of_ble_eq_true rfl) (Nat.le_of_ble_eq_true rfl) ?_
  refine va_putF (D := D) (ci := 4) (v := .ref tk) (ty := (tyX4 5)) (C := RX4) (T := TX4) (N := 9) hx hb hts hi4 tyX4 tyX4_ok nmX4 hown hG.1 hP hD hS 0 rfl rfl 5 (by decide) (hts (.fieldLink RX4 32 "SleptMatters$Plan" "taken" "LSleptMatters$Taken;") (List.mem_cons_of_mem _ (List.mem_append_left _ (List.mem_append_left _ (List.mem_of_getElem? (i := 12) rfl))))) (fun _ h9 => h9) rfl hin rfl (by decide +kernel) rfl rfl (Nat.le_of_ble_eq_true rfl) dX4_init_43 (fun H locs hP hD hS => ?_)
  have hP : va_P D vwCl [(h, .inr (4, [.int 0, .int 0, .ref p2, .ref p3, .ref p4, .ref tk, .null, .int 0, .int 0])), (p2, .inl (k 0, 3, .inl (fun _ => 0))), (p3, .inl (k 0, 3, .inl (fun _ => 0))), (p4, .inl (k 0, 3, .inl (fun _ => 0))), (tk, .inr (6, [.int 0, .int 0, .ref tk1, .ref tk2, .ref tk3])), (tk1, .inl (k 0, 3, .inl (fun _ => 0))), (tk2, .inl (k 0, 21, .inl (fun _ => 0))), (tk3, .inl (k 0, 21, .inl (fun _ => 0)))] H := hP
  have hD : va_D A [(h, .inr (4, [.int 0, .int 0, .ref p2, .ref p3, .ref p4, .ref tk, .null, .int 0, .int 0])), (p2, .inl (k 0, 3, .inl (fun _ => 0))), (p3, .inl (k 0, 3, .inl (fun _ => 0))), (p4, .inl (k 0, 3, .inl (fun _ => 0))), (tk, .inr (6, [.int 0, .int 0, .ref tk1, .ref tk2, .ref tk3])), (tk1, .inl (k 0, 3, .inl (fun _ => 0))), (tk2, .inl (k 0, 21, .inl (fun _ => 0))), (tk3, .inl (k 0, 21, .inl (fun _ => 0)))] := hD
  refine lv_aload_n hx hb dX4_init_46 rfl (lv_at hl 0 rfl) ?_
  refine lv_iconst (v := 0) hx hb dX4_init_47 (by decide) ?_
  refine va_put (D := D) (ci := 4) (v := .int 0) (ty := .int) (C := RX4) (T := TX4) (N := 9) hx hb hts hi4 tyX4 tyX4_ok nmX4 hown hG.1 hP hD hS 0 rfl rfl 7 (by decide) (hts (.fieldLink RX4 36 "SleptMatters$Plan" "day" "I") (List.mem_cons_of_mem _ (List.mem_append_left _ (List.mem_append_left _ (List.mem_of_getElem? (i := 13) rfl))))) (fun _ h9 => h9) rfl (by decide +kernel) rfl rfl (Nat.le_of_ble_eq_true rfl) dX4_init_48 (fun H locs hP hD hS => ?_)
  have hP : va_P D vwCl [(h, .inr (4, [.int 0, .int 0, .ref p2, .ref p3, .ref p4, .ref tk, .null, .int 0, .int 0])), (p2, .inl (k 0, 3, .inl (fun _ => 0))), (p3, .inl (k 0, 3, .inl (fun _ => 0))), (p4, .inl (k 0, 3, .inl (fun _ => 0))), (tk, .inr (6, [.int 0, .int 0, .ref tk1, .ref tk2, .ref tk3])), (tk1, .inl (k 0, 3, .inl (fun _ => 0))), (tk2, .inl (k 0, 21, .inl (fun _ => 0))), (tk3, .inl (k 0, 21, .inl (fun _ => 0)))] H := hP
  have hD : va_D A [(h, .inr (4, [.int 0, .int 0, .ref p2, .ref p3, .ref p4, .ref tk, .null, .int 0, .int 0])), (p2, .inl (k 0, 3, .inl (fun _ => 0))), (p3, .inl (k 0, 3, .inl (fun _ => 0))), (p4, .inl (k 0, 3, .inl (fun _ => 0))), (tk, .inr (6, [.int 0, .int 0, .ref tk1, .ref tk2, .ref tk3])), (tk1, .inl (k 0, 3, .inl (fun _ => 0))), (tk2, .inl (k 0, 21, .inl (fun _ => 0))), (tk3, .inl (k 0, 21, .inl (fun _ => 0)))] := hD
  refine lv_aload_n hx hb dX4_init_51 rfl (lv_at hl 0 rfl) ?_
  refine lv_iconst (v := 0) hx hb dX4_init_52 (by decide) ?_
  refine va_put (D := D) (ci := 4) (v := .int 0) (ty := .int) (C := RX4) (T := TX4) (N := 9) hx hb hts hi4 tyX4 tyX4_ok nmX4 hown hG.1 hP hD hS 0 rfl rfl 8 (by decide) (hts (.fieldLink RX4 39 "SleptMatters$Plan" "nights" "I") (List.mem_cons_of_mem _ (List.mem_append_left _ (List.mem_append_left _ (List.mem_of_getElem? (i := 14) rfl))))) (fun _ h9 => h9) rfl (by decide +kernel) rfl rfl (Nat.le_of_ble_eq_true rfl) dX4_init_53 (fun H locs hP hD hS => ?_)
  have hP : va_P D vwCl [(h, .inr (4, [.int 0, .int 0, .ref p2, .ref p3, .ref p4, .ref tk, .null, .int 0, .int 0])), (p2, .inl (k 0, 3, .inl (fun _ => 0))), (p3, .inl (k 0, 3, .inl (fun _ => 0))), (p4, .inl (k 0, 3, .inl (fun _ => 0))), (tk, .inr (6, [.int 0, .int 0, .ref tk1, .ref tk2, .ref tk3])), (tk1, .inl (k 0, 3, .inl (fun _ => 0))), (tk2, .inl (k 0, 21, .inl (fun _ => 0))), (tk3, .inl (k 0, 21, .inl (fun _ => 0)))] H := hP
  have hD : va_D A [(h, .inr (4, [.int 0, .int 0, .ref p2, .ref p3, .ref p4, .ref tk, .null, .int 0, .int 0])), (p2, .inl (k 0, 3, .inl (fun _ => 0))), (p3, .inl (k 0, 3, .inl (fun _ => 0))), (p4, .inl (k 0, 3, .inl (fun _ => 0))), (tk, .inr (6, [.int 0, .int 0, .ref tk1, .ref tk2, .ref tk3])), (tk1, .inl (k 0, 3, .inl (fun _ => 0))), (tk2, .inl (k 0, 21, .inl (fun _ => 0))), (tk3, .inl (k 0, 21, .inl (fun _ => 0)))] := hD
  refine lv_aload_n hx hb dX4_init_56 rfl (lv_at hl 0 rfl) ?_
  refine lv_aload_n hx hb dX4_init_57 rfl (lv_at hl 1 rfl) ?_
  refine va_putF (D := D) (ci := 4) (v := .ref rr) (ty := (tyX4 6)) (C := RX4) (T := TX4) (N := 9) hx hb hts hi4 tyX4 tyX4_ok nmX4 hown hG.1 hP hD hS 0 rfl rfl 6 (by decide) (hts (.fieldLink RX4 42 "SleptMatters$Plan" "rows" "LSleptMatters$Rows;") (List.mem_cons_of_mem _ (List.mem_append_left _ (List.mem_append_left _ (List.mem_of_getElem? (i := 15) rfl))))) (fun _ h9 => h9) rfl hin rfl (by decide +kernel) rfl rfl (Nat.le_of_ble_eq_true rfl) dX4_init_58 (fun H locs hP hD hS => ?_)
  have hP : va_P D vwCl [(h, .inr (4, [.int 0, .int 0, .ref p2, .ref p3, .ref p4, .ref tk, .ref rr, .int 0, .int 0])), (p2, .inl (k 0, 3, .inl (fun _ => 0))), (p3, .inl (k 0, 3, .inl (fun _ => 0))), (p4, .inl (k 0, 3, .inl (fun _ => 0))), (tk, .inr (6, [.int 0, .int 0, .ref tk1, .ref tk2, .ref tk3])), (tk1, .inl (k 0, 3, .inl (fun _ => 0))), (tk2, .inl (k 0, 21, .inl (fun _ => 0))), (tk3, .inl (k 0, 21, .inl (fun _ => 0)))] H := hP
  have hD : va_D A [(h, .inr (4, [.int 0, .int 0, .ref p2, .ref p3, .ref p4, .ref tk, .ref rr, .int 0, .int 0])), (p2, .inl (k 0, 3, .inl (fun _ => 0))), (p3, .inl (k 0, 3, .inl (fun _ => 0))), (p4, .inl (k 0, 3, .inl (fun _ => 0))), (tk, .inr (6, [.int 0, .int 0, .ref tk1, .ref tk2, .ref tk3])), (tk1, .inl (k 0, 3, .inl (fun _ => 0))), (tk2, .inl (k 0, 21, .inl (fun _ => 0))), (tk3, .inl (k 0, 21, .inl (fun _ => 0)))] := hD
  have hP9 := hP.sub (ws' := [(h, .inr (4, [.int 0, .int 0, .ref p2, .ref p3, .ref p4, .ref tk, .ref rr, .int 0, .int 0])), (p2, .inl (k 0, 3, .inl (fun _ => 0))), (p3, .inl (k 0, 3, .inl (fun _ => 0))), (p4, .inl (k 0, 3, .inl (fun _ => 0))), (tk, .inr (6, [.int 0, .int 0, .ref tk1, .ref tk2, .ref tk3])), (tk1, .inl (k 0, 3, .inl (fun _ => 0))), (tk2, .inl (k 0, 21, .inl (fun _ => 0))), (tk3, .inl (k 0, 21, .inl (fun _ => 0)))]) [0, 1, 2, 3, 4, 5, 6, 7] rfl
  have hD9 := hD.sub (ws' := [(h, .inr (4, [.int 0, .int 0, .ref p2, .ref p3, .ref p4, .ref tk, .ref rr, .int 0, .int 0])), (p2, .inl (k 0, 3, .inl (fun _ => 0))), (p3, .inl (k 0, 3, .inl (fun _ => 0))), (p4, .inl (k 0, 3, .inl (fun _ => 0))), (tk, .inr (6, [.int 0, .int 0, .ref tk1, .ref tk2, .ref tk3])), (tk1, .inl (k 0, 3, .inl (fun _ => 0))), (tk2, .inl (k 0, 21, .inl (fun _ => 0))), (tk3, .inl (k 0, 21, .inl (fun _ => 0)))]) [0, 1, 2, 3, 4, 5, 6, 7] (by decide +kernel) rfl
  exact W.vret hx hb hr (fun t9 ht _ => ⟨⟨(p2, p3, p4, tk, tk1, tk2, tk3), rfl, trivial, by rw [ht]; exact hP9, hD9⟩, hS.F ht⟩) hS.2.2 dX4_init_61

abbrev c_X1_init (k : Nat → ClassId) (h : Nat) (rr : Nat) : va_W := [(h, .inr (1, [.int 0, .int 0, .int 0, .null, .null]))]
abbrev r_X1_init : Room := { frames := 1, cells := 1, slots := 8, locals := 24 }
def w_X1_init (k : Nat → ClassId) (h : Nat) (rr : Nat) : Nat → va_W := fun oq => [(h, .inr (1, [.int (-1), .int (-1), .int (-1), .ref oq, .ref rr])), (oq, .inl (k 0, 8, .inl (fun _ => 0)))]
def p_X1_init (k : Nat → ClassId) (h : Nat) (rr : Nat) : Nat → Prop := fun (u : Nat) => True
abbrev q_X1_init (D : va_G) (k : Nat → ClassId) (h : Nat) (rr : Nat) (A : Nat → Prop) : Array Value → State → Outcome → State → Prop := va_Qv (p_X1_init k h rr) (fun u9 t9 => BO D (w_X1_init k h rr u9) A t9) A
set_option maxHeartbeats 2000000 in
set_option maxRecDepth 100000 in
theorem X1_init (l : Launch) (D : va_G) (k : Nat → ClassId) (sz : Nat) (h : Nat) (rr : Nat)  : Met l yX1_init wsX1_init r_X1_init (va_Pc [.ref h, .ref rr] (PR D k (c_X1_init k h rr) sz)) (q_X1_init D k h rr (va_A (c_X1_init k h rr) sz)) 1 8 (va_A (c_X1_init k h rr) sz) := by
  refine Met.ofW (cc := cX1_init) (maxL := 2) (ret := none) (by decide) rfl ?_
  intro p e s m args below meth c s₁ B hml hv
  obtain ⟨rfl, hsz, hP, hG, hD0⟩ := hv
  have hx := B.exec
  have hb := B.bytes
  have hr := B.returns
  have hts := atoms_spec (ws := wsX1_init) B.pre
  have hown : s.vm.findClass RX1 = some m.cls := findClass_of_methodNamed B.named
  have hlocks := B.notSynchronized
  have hin : meth.name = "<init>" := (name_of_methodNamed B.named B.method).1
  have hi1 : ∀ w ∈ wsX10, w ∈ wsX1_init := fun _ h => List.mem_cons_of_mem _ (List.mem_append_right _ h)
  subst hsz
  have hD := hD0.self (sz := s.heap.size)
  generalize hAe : va_A (c_X1_init k h rr) s.heap.size = A at hD ⊢
  have hA : ∀ q : Nat, s.heap.size ≤ q → A q := fun q h => by rw [← hAe]; exact Or.inr h
  have hS : va_S A s.heap s.heap [] := va_S.rf
  have hP : va_P D vwCl [(h, .inr (1, [.int 0, .int 0, .int 0, .null, .null]))] s.heap := hP
  have hD : va_D A [(h, .inr (1, [.int 0, .int 0, .int 0, .null, .null]))] := hD
  have hl := lv_entry ([.ref h, .ref rr]) (n := 2) (Nat.le_of_ble_eq_true rfl)
  rw [lg_entry_eq]
  generalize (lg_sl ([.ref h, .ref rr]) ++ List.replicate (2 - (lg_sl ([.ref h, .ref rr])).length) Slot.unset).toArray = ls at hl ⊢
  have hl : lv_has ls 2 [(0, .ref h), (1, .ref rr)] := hl
  refine lv_aload_n hx hb dX1_init_0 rfl (lv_at hl 0 rfl) ?_
  refine W.objInit hx hb hown (hts (.methodLink RX1 3 objectInit) (List.mem_cons_of_mem _ (List.mem_append_left _ (List.mem_of_getElem? (i := 0) rfl)))) (hts (.instanceMethod objectInit) (List.mem_cons_of_mem _ (List.mem_append_left _ (List.mem_of_getElem? (i := 1) rfl)))) (hts (.code objectInit ⟨#[0xb1]⟩ 1 none) (List.mem_cons_of_mem _ (List.mem_append_left _ (List.mem_of_getElem? (i := 2) rfl)))) rfl (by rw [hml]; exact hl.1) rfl dX1_init_1 (Nat.le_of_ble_eq_true rfl) (Nat.le_of_ble_eq_true rfl) ?_
  refine W.eq (g2 := F0 m 4 ls []) rfl ?_
  refine lv_aload_n hx hb dX1_init_4 rfl (lv_at hl 0 rfl) ?_
  refine lv_iconst (v := (-1)) hx hb dX1_init_5 (by decide) ?_
  refine va_put (D := D) (ci := 1) (v := .int (-1)) (ty := .int) (C := RX1) (T := TX1) (N := 5) hx hb hts hi1 tyX1 tyX1_ok nmX1 hown hG.1 hP hD hS 0 rfl rfl 0 (by decide) (hts (.fieldLink RX1 9 "SleptMatters$Choice" "value" "I") (List.mem_cons_of_mem _ (List.mem_append_left _ (List.mem_of_getElem? (i := 3) rfl)))) (fun _ h9 => h9) rfl (by decide +kernel) rfl rfl (Nat.le_of_ble_eq_true rfl) dX1_init_6 (fun H locs hP hD hS => ?_)
  have hP : va_P D vwCl [(h, .inr (1, [.int (-1), .int 0, .int 0, .null, .null]))] H := hP
  have hD : va_D A [(h, .inr (1, [.int (-1), .int 0, .int 0, .null, .null]))] := hD
  refine lv_aload_n hx hb dX1_init_9 rfl (lv_at hl 0 rfl) ?_
  refine lv_iconst (v := (-1)) hx hb dX1_init_10 (by decide) ?_
  refine va_put (D := D) (ci := 1) (v := .int (-1)) (ty := .int) (C := RX1) (T := TX1) (N := 5) hx hb hts hi1 tyX1 tyX1_ok nmX1 hown hG.1 hP hD hS 0 rfl rfl 1 (by decide) (hts (.fieldLink RX1 15 "SleptMatters$Choice" "end" "I") (List.mem_cons_of_mem _ (List.mem_append_left _ (List.mem_of_getElem? (i := 4) rfl)))) (fun _ h9 => h9) rfl (by decide +kernel) rfl rfl (Nat.le_of_ble_eq_true rfl) dX1_init_11 (fun H locs hP hD hS => ?_)
  have hP : va_P D vwCl [(h, .inr (1, [.int (-1), .int (-1), .int 0, .null, .null]))] H := hP
  have hD : va_D A [(h, .inr (1, [.int (-1), .int (-1), .int 0, .null, .null]))] := hD
  refine lv_aload_n hx hb dX1_init_14 rfl (lv_at hl 0 rfl) ?_
  refine lv_iconst (v := (-1)) hx hb dX1_init_15 (by decide) ?_
  refine va_put (D := D) (ci := 1) (v := .int (-1)) (ty := .int) (C := RX1) (T := TX1) (N := 5) hx hb hts hi1 tyX1 tyX1_ok nmX1 hown hG.1 hP hD hS 0 rfl rfl 2 (by decide) (hts (.fieldLink RX1 18 "SleptMatters$Choice" "set" "I") (List.mem_cons_of_mem _ (List.mem_append_left _ (List.mem_of_getElem? (i := 5) rfl)))) (fun _ h9 => h9) rfl (by decide +kernel) rfl rfl (Nat.le_of_ble_eq_true rfl) dX1_init_16 (fun H locs hP hD hS => ?_)
  have hP : va_P D vwCl [(h, .inr (1, [.int (-1), .int (-1), .int (-1), .null, .null]))] H := hP
  have hD : va_D A [(h, .inr (1, [.int (-1), .int (-1), .int (-1), .null, .null]))] := hD
  refine lv_aload_n hx hb dX1_init_19 rfl (lv_at hl 0 rfl) ?_
  refine lv_bipush (v := 8) hx hb dX1_init_20 (by decide) ?_
  refine va_newa (atype := .int) (ty := .int) (a0 := (8, .inl (fun _ => 0))) hx hb (hts (.arrayClass .int) (List.mem_cons_of_mem _ (List.mem_append_left _ (List.mem_of_getElem? (i := 6) rfl)))) rfl hG.1 hP hD hS hA (fun _ => rfl) (by decide) (by decide) (show 8 * 4 ≤ 536870912 by omega) (Nat.le_of_ble_eq_true rfl) (Nat.le_of_ble_eq_true rfl) dX1_init_22 (fun oq cN H hK9 hP hD hS => ?_)
  obtain rfl := cA_eq hK9 (i := 0) (j := 5) rfl rfl
  have hP : va_P D vwCl [(h, .inr (1, [.int (-1), .int (-1), .int (-1), .null, .null])), (oq, .inl (k 0, 8, .inl (fun _ => 0)))] H := hP
  have hD : va_D A [(h, .inr (1, [.int (-1), .int (-1), .int (-1), .null, .null])), (oq, .inl (k 0, 8, .inl (fun _ => 0)))] := hD
  refine W.widen (k := 1) (n := 8) (Nat.le_of_ble_eq_true rfl) (Nat.le_of_ble_eq_true rfl) ?_
  refine va_putF (D := D) (ci := 1) (v := .ref oq) (ty := (tyX1 3)) (C := RX1) (T := TX1) (N := 5) hx hb hts hi1 tyX1 tyX1_ok nmX1 hown hG.1 hP hD hS 0 rfl rfl 3 (by decide) (hts (.fieldLink RX1 21 "SleptMatters$Choice" "odds" "[I") (List.mem_cons_of_mem _ (List.mem_append_left _ (List.mem_of_getElem? (i := 7) rfl)))) (fun _ h9 => h9) rfl hin rfl (by decide +kernel) rfl rfl (Nat.le_of_ble_eq_true rfl) dX1_init_24 (fun H locs hP hD hS => ?_)
  have hP : va_P D vwCl [(h, .inr (1, [.int (-1), .int (-1), .int (-1), .ref oq, .null])), (oq, .inl (k 0, 8, .inl (fun _ => 0)))] H := hP
  have hD : va_D A [(h, .inr (1, [.int (-1), .int (-1), .int (-1), .ref oq, .null])), (oq, .inl (k 0, 8, .inl (fun _ => 0)))] := hD
  refine lv_aload_n hx hb dX1_init_27 rfl (lv_at hl 0 rfl) ?_
  refine lv_aload_n hx hb dX1_init_28 rfl (lv_at hl 1 rfl) ?_
  refine va_putF (D := D) (ci := 1) (v := .ref rr) (ty := (tyX1 4)) (C := RX1) (T := TX1) (N := 5) hx hb hts hi1 tyX1 tyX1_ok nmX1 hown hG.1 hP hD hS 0 rfl rfl 4 (by decide) (hts (.fieldLink RX1 25 "SleptMatters$Choice" "rows" "LSleptMatters$Rows;") (List.mem_cons_of_mem _ (List.mem_append_left _ (List.mem_of_getElem? (i := 8) rfl)))) (fun _ h9 => h9) rfl hin rfl (by decide +kernel) rfl rfl (Nat.le_of_ble_eq_true rfl) dX1_init_29 (fun H locs hP hD hS => ?_)
  have hP : va_P D vwCl [(h, .inr (1, [.int (-1), .int (-1), .int (-1), .ref oq, .ref rr])), (oq, .inl (k 0, 8, .inl (fun _ => 0)))] H := hP
  have hD : va_D A [(h, .inr (1, [.int (-1), .int (-1), .int (-1), .ref oq, .ref rr])), (oq, .inl (k 0, 8, .inl (fun _ => 0)))] := hD
  have hP9 := hP.sub (ws' := [(h, .inr (1, [.int (-1), .int (-1), .int (-1), .ref oq, .ref rr])), (oq, .inl (k 0, 8, .inl (fun _ => 0)))]) [0, 1] rfl
  have hD9 := hD.sub (ws' := [(h, .inr (1, [.int (-1), .int (-1), .int (-1), .ref oq, .ref rr])), (oq, .inl (k 0, 8, .inl (fun _ => 0)))]) [0, 1] (by decide +kernel) rfl
  exact W.vret hx hb hr (fun t9 ht _ => ⟨⟨(oq), rfl, trivial, by rw [ht]; exact hP9, hD9⟩, hS.F ht⟩) hS.2.2 dX1_init_32
