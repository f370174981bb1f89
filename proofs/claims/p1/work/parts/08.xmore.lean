set_option maxRecDepth 20000 in
theorem ggX9_begin_X2_startAgain : GoodIn wsX9_begin wsX2_startAgain := goodIn_r _ [7, 8, 9, 10, 11, 12, 13, 14, 15, 16, 17, 18, 19, 20, 21, 6, 22, 23, 24, 38, 39, 40, 41, 42, 43, 44, 45, 46, 47] rfl (by decide +kernel)
set_option maxRecDepth 20000 in
theorem gX9_begin_X2_startAgain : GoodIn wsX9_begin (wsV RX9 111 RX2 yX2_startAgain wsX2_startAgain) := goodIn_app (goodIn_of _ (by decide +kernel)) ggX9_begin_X2_startAgain
theorem dX9_begin_0 : decode cX9_begin 0 = .ok (.aload_n 0, 1) := by decide +kernel
theorem dX9_begin_1 : decode cX9_begin 1 = .ok (.getfield 19, 3) := by decide +kernel
theorem dX9_begin_4 : decode cX9_begin 4 = .ok (.getfield 133, 3) := by decide +kernel
theorem dX9_begin_7 : decode cX9_begin 7 = .ok (.istore_n 1, 1) := by decide +kernel
theorem dX9_begin_8 : decode cX9_begin 8 = .ok (.aload_n 0, 1) := by decide +kernel
theorem dX9_begin_9 : decode cX9_begin 9 = .ok (.getfield 19, 3) := by decide +kernel
theorem dX9_begin_12 : decode cX9_begin 12 = .ok (.invokevirtual 111, 3) := by decide +kernel
theorem dX9_begin_15 : decode cX9_begin 15 = .ok (.iload_n 1, 1) := by decide +kernel
theorem dX9_begin_16 : decode cX9_begin 16 = .ok (.ireturn, 1) := by decide +kernel
theorem dX9_tear_0 : decode cX9_tear 0 = .ok (.aload_n 0, 1) := by decide +kernel
theorem dX9_tear_1 : decode cX9_tear 1 = .ok (.getfield 34, 3) := by decide +kernel
theorem dX9_tear_4 : decode cX9_tear 4 = .ok (.getfield 114, 3) := by decide +kernel
theorem dX9_tear_7 : decode cX9_tear 7 = .ok (.istore_n 1, 1) := by decide +kernel
theorem dX9_tear_8 : decode cX9_tear 8 = .ok (.aload_n 0, 1) := by decide +kernel
theorem dX9_tear_9 : decode cX9_tear 9 = .ok (.getfield 34, 3) := by decide +kernel
theorem dX9_tear_12 : decode cX9_tear 12 = .ok (.iconst 0, 1) := by decide +kernel
theorem dX9_tear_13 : decode cX9_tear 13 = .ok (.putfield 114, 3) := by decide +kernel
theorem dX9_tear_16 : decode cX9_tear 16 = .ok (.iload_n 1, 1) := by decide +kernel
theorem dX9_tear_17 : decode cX9_tear 17 = .ok (.ireturn, 1) := by decide +kernel
theorem dX9_seed_0 : decode cX9_seed 0 = .ok (.iload_n 1, 1) := by decide +kernel
theorem dX9_seed_1 : decode cX9_seed 1 = .ok (.ifCond .ge 6, 3) := by decide +kernel
theorem dX9_seed_4 : decode cX9_seed 4 = .ok (.ldc 87, 2) := by decide +kernel
theorem dX9_seed_6 : decode cX9_seed 6 = .ok (.ireturn, 1) := by decide +kernel
theorem dX9_seed_7 : decode cX9_seed 7 = .ok (.aload_n 0, 1) := by decide +kernel
theorem dX9_seed_8 : decode cX9_seed 8 = .ok (.getfield 19, 3) := by decide +kernel
theorem dX9_seed_11 : decode cX9_seed 11 = .ok (.getfield 273, 3) := by decide +kernel
theorem dX9_seed_14 : decode cX9_seed 14 = .ok (.istore_n 2, 1) := by decide +kernel
theorem dX9_seed_15 : decode cX9_seed 15 = .ok (.aload_n 0, 1) := by decide +kernel
theorem dX9_seed_16 : decode cX9_seed 16 = .ok (.getfield 19, 3) := by decide +kernel
theorem dX9_seed_19 : decode cX9_seed 19 = .ok (.iload_n 1, 1) := by decide +kernel
theorem dX9_seed_20 : decode cX9_seed 20 = .ok (.putfield 273, 3) := by decide +kernel
theorem dX9_seed_23 : decode cX9_seed 23 = .ok (.iload_n 2, 1) := by decide +kernel
theorem dX9_seed_24 : decode cX9_seed 24 = .ok (.ireturn, 1) := by decide +kernel
theorem dX2_copyFrom_0 : decode cX2_copyFrom 0 = .ok (.aload_n 1, 1) := by decide +kernel
theorem dX2_copyFrom_1 : decode cX2_copyFrom 1 = .ok (.getfield 9, 3) := by decide +kernel
theorem dX2_copyFrom_4 : decode cX2_copyFrom 4 = .ok (.iconst 0, 1) := by decide +kernel
theorem dX2_copyFrom_5 : decode cX2_copyFrom 5 = .ok (.aload_n 0, 1) := by decide +kernel
theorem dX2_copyFrom_6 : decode cX2_copyFrom 6 = .ok (.getfield 9, 3) := by decide +kernel
theorem dX2_copyFrom_9 : decode cX2_copyFrom 9 = .ok (.iconst 0, 1) := by decide +kernel
theorem dX2_copyFrom_10 : decode cX2_copyFrom 10 = .ok (.iconst 3, 1) := by decide +kernel
theorem dX2_copyFrom_11 : decode cX2_copyFrom 11 = .ok (.invokestatic 55, 3) := by decide +kernel
theorem dX2_copyFrom_14 : decode cX2_copyFrom 14 = .ok (.aload_n 1, 1) := by decide +kernel
theorem dX2_copyFrom_15 : decode cX2_copyFrom 15 = .ok (.getfield 15, 3) := by decide +kernel
theorem dX2_copyFrom_18 : decode cX2_copyFrom 18 = .ok (.iconst 0, 1) := by decide +kernel
theorem dX2_copyFrom_19 : decode cX2_copyFrom 19 = .ok (.aload_n 0, 1) := by decide +kernel
theorem dX2_copyFrom_20 : decode cX2_copyFrom 20 = .ok (.getfield 15, 3) := by decide +kernel
theorem dX2_copyFrom_23 : decode cX2_copyFrom 23 = .ok (.iconst 0, 1) := by decide +kernel
theorem dX2_copyFrom_24 : decode cX2_copyFrom 24 = .ok (.iconst 3, 1) := by decide +kernel
theorem dX2_copyFrom_25 : decode cX2_copyFrom 25 = .ok (.invokestatic 55, 3) := by decide +kernel
theorem dX2_copyFrom_28 : decode cX2_copyFrom 28 = .ok (.aload_n 1, 1) := by decide +kernel
theorem dX2_copyFrom_29 : decode cX2_copyFrom 29 = .ok (.getfield 18, 3) := by decide +kernel
theorem dX2_copyFrom_32 : decode cX2_copyFrom 32 = .ok (.iconst 0, 1) := by decide +kernel
theorem dX2_copyFrom_33 : decode cX2_copyFrom 33 = .ok (.aload_n 0, 1) := by decide +kernel
theorem dX2_copyFrom_34 : decode cX2_copyFrom 34 = .ok (.getfield 18, 3) := by decide +kernel
theorem dX2_copyFrom_37 : decode cX2_copyFrom 37 = .ok (.iconst 0, 1) := by decide +kernel
theorem dX2_copyFrom_38 : decode cX2_copyFrom 38 = .ok (.iconst 3, 1) := by decide +kernel
theorem dX2_copyFrom_39 : decode cX2_copyFrom 39 = .ok (.invokestatic 55, 3) := by decide +kernel
theorem dX2_copyFrom_42 : decode cX2_copyFrom 42 = .ok (.aload_n 1, 1) := by decide +kernel
theorem dX2_copyFrom_43 : decode cX2_copyFrom 43 = .ok (.getfield 21, 3) := by decide +kernel
theorem dX2_copyFrom_46 : decode cX2_copyFrom 46 = .ok (.iconst 0, 1) := by decide +kernel
theorem dX2_copyFrom_47 : decode cX2_copyFrom 47 = .ok (.aload_n 0, 1) := by decide +kernel
theorem dX2_copyFrom_48 : decode cX2_copyFrom 48 = .ok (.getfield 21, 3) := by decide +kernel
theorem dX2_copyFrom_51 : decode cX2_copyFrom 51 = .ok (.iconst 0, 1) := by decide +kernel
theorem dX2_copyFrom_52 : decode cX2_copyFrom 52 = .ok (.iconst 3, 1) := by decide +kernel
theorem dX2_copyFrom_53 : decode cX2_copyFrom 53 = .ok (.invokestatic 55, 3) := by decide +kernel
theorem dX2_copyFrom_56 : decode cX2_copyFrom 56 = .ok (.aload_n 1, 1) := by decide +kernel
theorem dX2_copyFrom_57 : decode cX2_copyFrom 57 = .ok (.getfield 24, 3) := by decide +kernel
theorem dX2_copyFrom_60 : decode cX2_copyFrom 60 = .ok (.iconst 0, 1) := by decide +kernel
theorem dX2_copyFrom_61 : decode cX2_copyFrom 61 = .ok (.aload_n 0, 1) := by decide +kernel
theorem dX2_copyFrom_62 : decode cX2_copyFrom 62 = .ok (.getfield 24, 3) := by decide +kernel
theorem dX2_copyFrom_65 : decode cX2_copyFrom 65 = .ok (.iconst 0, 1) := by decide +kernel
theorem dX2_copyFrom_66 : decode cX2_copyFrom 66 = .ok (.iconst 3, 1) := by decide +kernel
theorem dX2_copyFrom_67 : decode cX2_copyFrom 67 = .ok (.invokestatic 55, 3) := by decide +kernel
theorem dX2_copyFrom_70 : decode cX2_copyFrom 70 = .ok (.aload_n 1, 1) := by decide +kernel
theorem dX2_copyFrom_71 : decode cX2_copyFrom 71 = .ok (.getfield 27, 3) := by decide +kernel
theorem dX2_copyFrom_74 : decode cX2_copyFrom 74 = .ok (.iconst 0, 1) := by decide +kernel
theorem dX2_copyFrom_75 : decode cX2_copyFrom 75 = .ok (.aload_n 0, 1) := by decide +kernel
theorem dX2_copyFrom_76 : decode cX2_copyFrom 76 = .ok (.getfield 27, 3) := by decide +kernel
theorem dX2_copyFrom_79 : decode cX2_copyFrom 79 = .ok (.iconst 0, 1) := by decide +kernel
theorem dX2_copyFrom_80 : decode cX2_copyFrom 80 = .ok (.iconst 3, 1) := by decide +kernel
theorem dX2_copyFrom_81 : decode cX2_copyFrom 81 = .ok (.invokestatic 55, 3) := by decide +kernel
theorem dX2_copyFrom_84 : decode cX2_copyFrom 84 = .ok (.aload_n 1, 1) := by decide +kernel
theorem dX2_copyFrom_85 : decode cX2_copyFrom 85 = .ok (.getfield 30, 3) := by decide +kernel
theorem dX2_copyFrom_88 : decode cX2_copyFrom 88 = .ok (.iconst 0, 1) := by decide +kernel
theorem dX2_copyFrom_89 : decode cX2_copyFrom 89 = .ok (.aload_n 0, 1) := by decide +kernel
theorem dX2_copyFrom_90 : decode cX2_copyFrom 90 = .ok (.getfield 30, 3) := by decide +kernel
theorem dX2_copyFrom_93 : decode cX2_copyFrom 93 = .ok (.iconst 0, 1) := by decide +kernel
theorem dX2_copyFrom_94 : decode cX2_copyFrom 94 = .ok (.iconst 3, 1) := by decide +kernel
theorem dX2_copyFrom_95 : decode cX2_copyFrom 95 = .ok (.invokestatic 55, 3) := by decide +kernel
theorem dX2_copyFrom_98 : decode cX2_copyFrom 98 = .ok (.aload_n 0, 1) := by decide +kernel
theorem dX2_copyFrom_99 : decode cX2_copyFrom 99 = .ok (.aload_n 1, 1) := by decide +kernel
theorem dX2_copyFrom_100 : decode cX2_copyFrom 100 = .ok (.getfield 33, 3) := by decide +kernel
theorem dX2_copyFrom_103 : decode cX2_copyFrom 103 = .ok (.putfield 33, 3) := by decide +kernel
theorem dX2_copyFrom_106 : decode cX2_copyFrom 106 = .ok (.aload_n 0, 1) := by decide +kernel
theorem dX2_copyFrom_107 : decode cX2_copyFrom 107 = .ok (.aload_n 1, 1) := by decide +kernel
theorem dX2_copyFrom_108 : decode cX2_copyFrom 108 = .ok (.getfield 37, 3) := by decide +kernel
theorem dX2_copyFrom_111 : decode cX2_copyFrom 111 = .ok (.putfield 37, 3) := by decide +kernel
theorem dX2_copyFrom_114 : decode cX2_copyFrom 114 = .ok (.aload_n 0, 1) := by decide +kernel
theorem dX2_copyFrom_115 : decode cX2_copyFrom 115 = .ok (.aload_n 1, 1) := by decide +kernel
theorem dX2_copyFrom_116 : decode cX2_copyFrom 116 = .ok (.getfield 40, 3) := by decide +kernel
theorem dX2_copyFrom_119 : decode cX2_copyFrom 119 = .ok (.putfield 40, 3) := by decide +kernel
theorem dX2_copyFrom_122 : decode cX2_copyFrom 122 = .ok (.return_, 1) := by decide +kernel
set_option maxRecDepth 20000 in
theorem ggX9_goBack_X2_copyFrom : GoodIn wsX9_goBack wsX2_copyFrom := goodIn_r _ [10, 11, 12, 13, 14, 15, 16, 17, 18, 19, 20, 21, 22, 23, 24, 38, 39, 40, 41, 42, 43, 44, 45, 46, 47] rfl (by decide +kernel)
set_option maxRecDepth 20000 in
theorem gX9_goBack_X2_copyFrom : GoodIn wsX9_goBack (wsV RX9 276 RX2 yX2_copyFrom wsX2_copyFrom) := goodIn_app (goodIn_of _ (by decide +kernel)) ggX9_goBack_X2_copyFrom
theorem dX9_goBack_0 : decode cX9_goBack 0 = .ok (.iload_n 1, 1) := by decide +kernel
theorem dX9_goBack_1 : decode cX9_goBack 1 = .ok (.ifCond .lt 8, 3) := by decide +kernel
theorem dX9_goBack_4 : decode cX9_goBack 4 = .ok (.iload_n 1, 1) := by decide +kernel
theorem dX9_goBack_5 : decode cX9_goBack 5 = .ok (.iconst 2, 1) := by decide +kernel
theorem dX9_goBack_6 : decode cX9_goBack 6 = .ok (.if_icmp .lt 6, 3) := by decide +kernel
theorem dX9_goBack_9 : decode cX9_goBack 9 = .ok (.ldc 147, 2) := by decide +kernel
theorem dX9_goBack_11 : decode cX9_goBack 11 = .ok (.ireturn, 1) := by decide +kernel
theorem dX9_goBack_12 : decode cX9_goBack 12 = .ok (.aload_n 0, 1) := by decide +kernel
theorem dX9_goBack_13 : decode cX9_goBack 13 = .ok (.getfield 27, 3) := by decide +kernel
theorem dX9_goBack_16 : decode cX9_goBack 16 = .ok (.iload_n 1, 1) := by decide +kernel
theorem dX9_goBack_17 : decode cX9_goBack 17 = .ok (.baload, 1) := by decide +kernel
theorem dX9_goBack_18 : decode cX9_goBack 18 = .ok (.ifCond .ne 6, 3) := by decide +kernel
theorem dX9_goBack_21 : decode cX9_goBack 21 = .ok (.ldc 119, 2) := by decide +kernel
theorem dX9_goBack_23 : decode cX9_goBack 23 = .ok (.ireturn, 1) := by decide +kernel
theorem dX9_goBack_24 : decode cX9_goBack 24 = .ok (.aload_n 0, 1) := by decide +kernel
theorem dX9_goBack_25 : decode cX9_goBack 25 = .ok (.getfield 19, 3) := by decide +kernel
theorem dX9_goBack_28 : decode cX9_goBack 28 = .ok (.aload_n 0, 1) := by decide +kernel
theorem dX9_goBack_29 : decode cX9_goBack 29 = .ok (.getfield 23, 3) := by decide +kernel
theorem dX9_goBack_32 : decode cX9_goBack 32 = .ok (.iload_n 1, 1) := by decide +kernel
theorem dX9_goBack_33 : decode cX9_goBack 33 = .ok (.aaload, 1) := by decide +kernel
theorem dX9_goBack_34 : decode cX9_goBack 34 = .ok (.invokevirtual 276, 3) := by decide +kernel
theorem dX9_goBack_37 : decode cX9_goBack 37 = .ok (.iconst 1, 1) := by decide +kernel
theorem dX9_goBack_38 : decode cX9_goBack 38 = .ok (.ireturn, 1) := by decide +kernel
set_option maxRecDepth 20000 in
theorem ggX9_keep_X2_copyFrom : GoodIn wsX9_keep wsX2_copyFrom := goodIn_r _ [9, 10, 11, 12, 13, 14, 15, 16, 17, 18, 19, 20, 21, 22, 23, 37, 38, 39, 40, 41, 42, 43, 44, 45, 46] rfl (by decide +kernel)
set_option maxRecDepth 20000 in
theorem gX9_keep_X2_copyFrom : GoodIn wsX9_keep (wsV RX9 276 RX2 yX2_copyFrom wsX2_copyFrom) := goodIn_app (goodIn_of _ (by decide +kernel)) ggX9_keep_X2_copyFrom
theorem dX9_keep_0 : decode cX9_keep 0 = .ok (.iload_n 1, 1) := by decide +kernel
theorem dX9_keep_1 : decode cX9_keep 1 = .ok (.ifCond .lt 8, 3) := by decide +kernel
theorem dX9_keep_4 : decode cX9_keep 4 = .ok (.iload_n 1, 1) := by decide +kernel
theorem dX9_keep_5 : decode cX9_keep 5 = .ok (.iconst 2, 1) := by decide +kernel
theorem dX9_keep_6 : decode cX9_keep 6 = .ok (.if_icmp .lt 6, 3) := by decide +kernel
theorem dX9_keep_9 : decode cX9_keep 9 = .ok (.ldc 147, 2) := by decide +kernel
theorem dX9_keep_11 : decode cX9_keep 11 = .ok (.ireturn, 1) := by decide +kernel
theorem dX9_keep_12 : decode cX9_keep 12 = .ok (.aload_n 0, 1) := by decide +kernel
theorem dX9_keep_13 : decode cX9_keep 13 = .ok (.getfield 23, 3) := by decide +kernel
theorem dX9_keep_16 : decode cX9_keep 16 = .ok (.iload_n 1, 1) := by decide +kernel
theorem dX9_keep_17 : decode cX9_keep 17 = .ok (.aaload, 1) := by decide +kernel
theorem dX9_keep_18 : decode cX9_keep 18 = .ok (.aload_n 0, 1) := by decide +kernel
theorem dX9_keep_19 : decode cX9_keep 19 = .ok (.getfield 19, 3) := by decide +kernel
theorem dX9_keep_22 : decode cX9_keep 22 = .ok (.invokevirtual 276, 3) := by decide +kernel
theorem dX9_keep_25 : decode cX9_keep 25 = .ok (.aload_n 0, 1) := by decide +kernel
theorem dX9_keep_26 : decode cX9_keep 26 = .ok (.getfield 27, 3) := by decide +kernel
theorem dX9_keep_29 : decode cX9_keep 29 = .ok (.iload_n 1, 1) := by decide +kernel
theorem dX9_keep_30 : decode cX9_keep 30 = .ok (.iconst 1, 1) := by decide +kernel
theorem dX9_keep_31 : decode cX9_keep 31 = .ok (.bastore, 1) := by decide +kernel
theorem dX9_keep_32 : decode cX9_keep 32 = .ok (.iconst 1, 1) := by decide +kernel
theorem dX9_keep_33 : decode cX9_keep 33 = .ok (.ireturn, 1) := by decide +kernel
set_option maxRecDepth 20000 in
theorem ggX2_pass_X8_count : GoodIn wsX2_pass wsX8_count := goodIn_r _ [10, 11, 89, 90, 91, 92, 93] rfl (by decide +kernel)
set_option maxRecDepth 20000 in
theorem gX2_pass_X8_count : GoodIn wsX2_pass (wsV RX2 79 RX8 yX8_count wsX8_count) := goodIn_app (goodIn_of _ (by decide +kernel)) ggX2_pass_X8_count
set_option maxRecDepth 20000 in
theorem ggX2_pass_X8_part : GoodIn wsX2_pass wsX8_part := goodIn_r _ [15, 16, 17, 18, 19, 9, 20, 11, 89, 90, 91, 92, 93] rfl (by decide +kernel)
set_option maxRecDepth 20000 in
theorem gX2_pass_X8_part : GoodIn wsX2_pass (wsV RX2 61 RX8 yX8_part wsX8_part) := goodIn_app (goodIn_of _ (by decide +kernel)) ggX2_pass_X8_part
set_option maxRecDepth 20000 in
theorem ggX2_pass_X8_isWoken : GoodIn wsX2_pass wsX8_isWoken := goodIn_r _ [24, 25, 13, 14, 9, 15, 16, 17, 18, 19, 20, 11, 26, 27, 28, 29, 30, 89, 90, 91, 92, 93] rfl (by decide +kernel)
set_option maxRecDepth 20000 in
theorem gX2_pass_X8_isWoken : GoodIn wsX2_pass (wsV RX2 101 RX8 yX8_isWoken wsX8_isWoken) := goodIn_app (goodIn_of _ (by decide +kernel)) ggX2_pass_X8_isWoken
set_option maxRecDepth 20000 in
theorem ggX2_pass_X2_countNight : GoodIn wsX2_pass wsX2_countNight := goodIn_r _ [35, 36, 1, 37, 3, 38, 39, 40, 41, 34, 42, 43, 44, 45, 46, 74, 75, 76, 77, 78, 79, 80, 81, 82, 83] rfl (by decide +kernel)
set_option maxRecDepth 20000 in
theorem gX2_pass_X2_countNight : GoodIn wsX2_pass (wsV RX2 109 RX2 yX2_countNight wsX2_countNight) := goodIn_app (goodIn_of _ (by decide +kernel)) ggX2_pass_X2_countNight
set_option maxRecDepth 20000 in
theorem ggX2_pass_X2_decide : GoodIn wsX2_pass wsX2_decide := goodIn_r _ [50, 36, 51, 52, 38, 53, 54, 4, 55, 56, 57, 58, 59, 60, 61, 74, 75, 76, 77, 78, 79, 80, 81, 82, 83, 84, 85, 86, 87, 88] rfl (by decide +kernel)
set_option maxRecDepth 20000 in
theorem gX2_pass_X2_decide : GoodIn wsX2_pass (wsV RX2 113 RX2 yX2_decide wsX2_decide) := goodIn_app (goodIn_of _ (by decide +kernel)) ggX2_pass_X2_decide
set_option maxRecDepth 20000 in
theorem ggX2_pass_X2_loseNights : GoodIn wsX2_pass wsX2_loseNights := goodIn_r _ [65, 36, 37, 38, 74, 75, 76, 77, 78, 79, 80, 81, 82, 83] rfl (by decide +kernel)
set_option maxRecDepth 20000 in
theorem gX2_pass_X2_loseNights : GoodIn wsX2_pass (wsV RX2 123 RX2 yX2_loseNights wsX2_loseNights) := goodIn_app (goodIn_of _ (by decide +kernel)) ggX2_pass_X2_loseNights
set_option maxRecDepth 20000 in
theorem ggX2_pass_X2_emptyBeds : GoodIn wsX2_pass wsX2_emptyBeds := goodIn_r _ [69, 1, 3, 70, 71, 72, 73, 74, 75, 76, 77, 78, 79, 80, 81, 82, 83] rfl (by decide +kernel)
set_option maxRecDepth 20000 in
theorem gX2_pass_X2_emptyBeds : GoodIn wsX2_pass (wsV RX2 52 RX2 yX2_emptyBeds wsX2_emptyBeds) := goodIn_app (goodIn_of _ (by decide +kernel)) ggX2_pass_X2_emptyBeds
theorem dX2_pass_0 : decode cX2_pass 0 = .ok (.iconst 0, 1) := by decide +kernel
theorem dX2_pass_1 : decode cX2_pass 1 = .ok (.istore_n 3, 1) := by decide +kernel
theorem dX2_pass_2 : decode cX2_pass 2 = .ok (.iconst 0, 1) := by decide +kernel
theorem dX2_pass_3 : decode cX2_pass 3 = .ok (.istore 4, 2) := by decide +kernel
theorem dX2_pass_5 : decode cX2_pass 5 = .ok (.iload 4, 2) := by decide +kernel
theorem dX2_pass_7 : decode cX2_pass 7 = .ok (.aload_n 1, 1) := by decide +kernel
theorem dX2_pass_8 : decode cX2_pass 8 = .ok (.iconst 3, 1) := by decide +kernel
theorem dX2_pass_9 : decode cX2_pass 9 = .ok (.invokevirtual 79, 3) := by decide +kernel
theorem dX2_pass_12 : decode cX2_pass 12 = .ok (.if_icmp .ge 114, 3) := by decide +kernel
theorem dX2_pass_15 : decode cX2_pass 15 = .ok (.aload_n 0, 1) := by decide +kernel
theorem dX2_pass_16 : decode cX2_pass 16 = .ok (.getfield 27, 3) := by decide +kernel
theorem dX2_pass_19 : decode cX2_pass 19 = .ok (.iload 4, 2) := by decide +kernel
theorem dX2_pass_21 : decode cX2_pass 21 = .ok (.iaload, 1) := by decide +kernel
theorem dX2_pass_22 : decode cX2_pass 22 = .ok (.istore 5, 2) := by decide +kernel
theorem dX2_pass_24 : decode cX2_pass 24 = .ok (.iload 5, 2) := by decide +kernel
theorem dX2_pass_26 : decode cX2_pass 26 = .ok (.iconst (-1), 1) := by decide +kernel
theorem dX2_pass_27 : decode cX2_pass 27 = .ok (.if_icmp .eq 20, 3) := by decide +kernel
theorem dX2_pass_30 : decode cX2_pass 30 = .ok (.aload_n 0, 1) := by decide +kernel
theorem dX2_pass_31 : decode cX2_pass 31 = .ok (.dup, 1) := by decide +kernel
theorem dX2_pass_32 : decode cX2_pass 32 = .ok (.getfield 33, 3) := by decide +kernel
theorem dX2_pass_35 : decode cX2_pass 35 = .ok (.aload_n 1, 1) := by decide +kernel
theorem dX2_pass_36 : decode cX2_pass 36 = .ok (.iconst 1, 1) := by decide +kernel
theorem dX2_pass_37 : decode cX2_pass 37 = .ok (.iload 5, 2) := by decide +kernel
theorem dX2_pass_39 : decode cX2_pass 39 = .ok (.iconst 2, 1) := by decide +kernel
theorem dX2_pass_40 : decode cX2_pass 40 = .ok (.invokevirtual 61, 3) := by decide +kernel
theorem dX2_pass_43 : decode cX2_pass 43 = .ok (.iadd, 1) := by decide +kernel
theorem dX2_pass_44 : decode cX2_pass 44 = .ok (.putfield 33, 3) := by decide +kernel
theorem dX2_pass_47 : decode cX2_pass 47 = .ok (.iload 5, 2) := by decide +kernel
theorem dX2_pass_49 : decode cX2_pass 49 = .ok (.iconst (-1), 1) := by decide +kernel
theorem dX2_pass_50 : decode cX2_pass 50 = .ok (.if_icmp .eq 57, 3) := by decide +kernel
theorem dX2_pass_53 : decode cX2_pass 53 = .ok (.aload_n 1, 1) := by decide +kernel
theorem dX2_pass_54 : decode cX2_pass 54 = .ok (.iload 5, 2) := by decide +kernel
theorem dX2_pass_56 : decode cX2_pass 56 = .ok (.aload_n 0, 1) := by decide +kernel
theorem dX2_pass_57 : decode cX2_pass 57 = .ok (.getfield 30, 3) := by decide +kernel
theorem dX2_pass_60 : decode cX2_pass 60 = .ok (.iload 4, 2) := by decide +kernel
theorem dX2_pass_62 : decode cX2_pass 62 = .ok (.iaload, 1) := by decide +kernel
theorem dX2_pass_63 : decode cX2_pass 63 = .ok (.aload_n 0, 1) := by decide +kernel
theorem dX2_pass_64 : decode cX2_pass 64 = .ok (.getfield 37, 3) := by decide +kernel
theorem dX2_pass_67 : decode cX2_pass 67 = .ok (.invokevirtual 101, 3) := by decide +kernel
theorem dX2_pass_70 : decode cX2_pass 70 = .ok (.ifCond .ne 37, 3) := by decide +kernel
theorem dX2_pass_73 : decode cX2_pass 73 = .ok (.aload_n 0, 1) := by decide +kernel
theorem dX2_pass_74 : decode cX2_pass 74 = .ok (.iload 4, 2) := by decide +kernel
theorem dX2_pass_76 : decode cX2_pass 76 = .ok (.aload_n 1, 1) := by decide +kernel
theorem dX2_pass_77 : decode cX2_pass 77 = .ok (.iconst 1, 1) := by decide +kernel
theorem dX2_pass_78 : decode cX2_pass 78 = .ok (.iload 5, 2) := by decide +kernel
theorem dX2_pass_80 : decode cX2_pass 80 = .ok (.iconst 1, 1) := by decide +kernel
theorem dX2_pass_81 : decode cX2_pass 81 = .ok (.invokevirtual 61, 3) := by decide +kernel
theorem dX2_pass_84 : decode cX2_pass 84 = .ok (.invokevirtual 109, 3) := by decide +kernel
theorem dX2_pass_87 : decode cX2_pass 87 = .ok (.aload_n 0, 1) := by decide +kernel
theorem dX2_pass_88 : decode cX2_pass 88 = .ok (.iload 4, 2) := by decide +kernel
theorem dX2_pass_90 : decode cX2_pass 90 = .ok (.aload_n 2, 1) := by decide +kernel
theorem dX2_pass_91 : decode cX2_pass 91 = .ok (.invokevirtual 113, 3) := by decide +kernel
theorem dX2_pass_94 : decode cX2_pass 94 = .ok (.ifCond .eq 26, 3) := by decide +kernel
theorem dX2_pass_97 : decode cX2_pass 97 = .ok (.iload_n 3, 1) := by decide +kernel
theorem dX2_pass_98 : decode cX2_pass 98 = .ok (.iconst 1, 1) := by decide +kernel
theorem dX2_pass_99 : decode cX2_pass 99 = .ok (.iload 4, 2) := by decide +kernel
theorem dX2_pass_101 : decode cX2_pass 101 = .ok (.ishl, 1) := by decide +kernel
theorem dX2_pass_102 : decode cX2_pass 102 = .ok (.ior, 1) := by decide +kernel
theorem dX2_pass_103 : decode cX2_pass 103 = .ok (.istore_n 3, 1) := by decide +kernel
theorem dX2_pass_104 : decode cX2_pass 104 = .ok (.goto 16, 3) := by decide +kernel
theorem dX2_pass_107 : decode cX2_pass 107 = .ok (.aload_n 2, 1) := by decide +kernel
theorem dX2_pass_108 : decode cX2_pass 108 = .ok (.getfield 117, 3) := by decide +kernel
theorem dX2_pass_111 : decode cX2_pass 111 = .ok (.ifCond .eq 9, 3) := by decide +kernel
theorem dX2_pass_114 : decode cX2_pass 114 = .ok (.aload_n 0, 1) := by decide +kernel
theorem dX2_pass_115 : decode cX2_pass 115 = .ok (.iload 4, 2) := by decide +kernel
theorem dX2_pass_117 : decode cX2_pass 117 = .ok (.invokevirtual 123, 3) := by decide +kernel
theorem dX2_pass_120 : decode cX2_pass 120 = .ok (.iinc 4 1, 3) := by decide +kernel
theorem dX2_pass_123 : decode cX2_pass 123 = .ok (.goto (-118), 3) := by decide +kernel
theorem dX2_pass_126 : decode cX2_pass 126 = .ok (.aload_n 0, 1) := by decide +kernel
theorem dX2_pass_127 : decode cX2_pass 127 = .ok (.invokevirtual 52, 3) := by decide +kernel
theorem dX2_pass_130 : decode cX2_pass 130 = .ok (.aload_n 0, 1) := by decide +kernel
theorem dX2_pass_131 : decode cX2_pass 131 = .ok (.dup, 1) := by decide +kernel
theorem dX2_pass_132 : decode cX2_pass 132 = .ok (.getfield 37, 3) := by decide +kernel
theorem dX2_pass_135 : decode cX2_pass 135 = .ok (.iconst 1, 1) := by decide +kernel
theorem dX2_pass_136 : decode cX2_pass 136 = .ok (.iadd, 1) := by decide +kernel
theorem dX2_pass_137 : decode cX2_pass 137 = .ok (.putfield 37, 3) := by decide +kernel
theorem dX2_pass_140 : decode cX2_pass 140 = .ok (.iload_n 3, 1) := by decide +kernel
theorem dX2_pass_141 : decode cX2_pass 141 = .ok (.ireturn, 1) := by decide +kernel
set_option maxRecDepth 20000 in
theorem ggX2_layByThemselves_X8_count : GoodIn wsX2_layByThemselves wsX8_count := goodIn_r _ [5, 6, 68, 69, 70, 71, 72] rfl (by decide +kernel)
set_option maxRecDepth 20000 in
theorem gX2_layByThemselves_X8_count : GoodIn wsX2_layByThemselves (wsV RX2 79 RX8 yX8_count wsX8_count) := goodIn_app (goodIn_of _ (by decide +kernel)) ggX2_layByThemselves_X8_count
set_option maxRecDepth 20000 in
theorem ggX2_layByThemselves_X2_isMatterFree : GoodIn wsX2_layByThemselves wsX2_isMatterFree := goodIn_r _ [11, 12, 13, 14, 15, 16, 17, 4, 18, 19, 20, 21, 22, 23, 6, 73, 74, 75, 76, 77, 78, 79, 80, 81, 82, 68, 69, 70, 71, 72] rfl (by decide +kernel)
set_option maxRecDepth 20000 in
theorem gX2_layByThemselves_X2_isMatterFree : GoodIn wsX2_layByThemselves (wsV RX2 82 RX2 yX2_isMatterFree wsX2_isMatterFree) := goodIn_app (goodIn_of _ (by decide +kernel)) ggX2_layByThemselves_X2_isMatterFree
set_option maxRecDepth 20000 in
theorem ggX2_layByThemselves_X2_layFirst : GoodIn wsX2_layByThemselves wsX2_layFirst := goodIn_r _ [27, 1, 2, 3, 4, 5, 6, 28, 29, 30, 10, 31, 32, 33, 34, 35, 36, 37, 38, 39, 13, 40, 41, 42, 43, 14, 44, 45, 46, 47, 48, 16, 17, 18, 19, 20, 21, 22, 23, 49, 50, 51, 52, 53, 54, 55, 56, 57, 58, 59, 60, 61, 62, 63, 15, 64, 65, 66, 67, 68, 69, 70, 71, 72, 73, 74, 75, 76, 77, 78, 79, 80, 81, 82] rfl (by decide +kernel)
set_option maxRecDepth 20000 in
theorem gX2_layByThemselves_X2_layFirst : GoodIn wsX2_layByThemselves (wsV RX2 86 RX2 yX2_layFirst wsX2_layFirst) := goodIn_app (goodIn_of _ (by decide +kernel)) ggX2_layByThemselves_X2_layFirst
theorem dX2_layByThemselves_0 : decode cX2_layByThemselves 0 = .ok (.iconst 0, 1) := by decide +kernel
theorem dX2_layByThemselves_1 : decode cX2_layByThemselves 1 = .ok (.istore_n 2, 1) := by decide +kernel
theorem dX2_layByThemselves_2 : decode cX2_layByThemselves 2 = .ok (.iload_n 2, 1) := by decide +kernel
theorem dX2_layByThemselves_3 : decode cX2_layByThemselves 3 = .ok (.aload_n 1, 1) := by decide +kernel
theorem dX2_layByThemselves_4 : decode cX2_layByThemselves 4 = .ok (.iconst 3, 1) := by decide +kernel
theorem dX2_layByThemselves_5 : decode cX2_layByThemselves 5 = .ok (.invokevirtual 79, 3) := by decide +kernel
theorem dX2_layByThemselves_8 : decode cX2_layByThemselves 8 = .ok (.if_icmp .ge 24, 3) := by decide +kernel
theorem dX2_layByThemselves_11 : decode cX2_layByThemselves 11 = .ok (.aload_n 0, 1) := by decide +kernel
theorem dX2_layByThemselves_12 : decode cX2_layByThemselves 12 = .ok (.aload_n 1, 1) := by decide +kernel
theorem dX2_layByThemselves_13 : decode cX2_layByThemselves 13 = .ok (.iload_n 2, 1) := by decide +kernel
theorem dX2_layByThemselves_14 : decode cX2_layByThemselves 14 = .ok (.invokevirtual 82, 3) := by decide +kernel
theorem dX2_layByThemselves_17 : decode cX2_layByThemselves 17 = .ok (.ifCond .eq 9, 3) := by decide +kernel
theorem dX2_layByThemselves_20 : decode cX2_layByThemselves 20 = .ok (.aload_n 0, 1) := by decide +kernel
theorem dX2_layByThemselves_21 : decode cX2_layByThemselves 21 = .ok (.aload_n 1, 1) := by decide +kernel
theorem dX2_layByThemselves_22 : decode cX2_layByThemselves 22 = .ok (.iload_n 2, 1) := by decide +kernel
theorem dX2_layByThemselves_23 : decode cX2_layByThemselves 23 = .ok (.invokevirtual 86, 3) := by decide +kernel
theorem dX2_layByThemselves_26 : decode cX2_layByThemselves 26 = .ok (.iinc 2 1, 3) := by decide +kernel
theorem dX2_layByThemselves_29 : decode cX2_layByThemselves 29 = .ok (.goto (-27), 3) := by decide +kernel
theorem dX2_layByThemselves_32 : decode cX2_layByThemselves 32 = .ok (.return_, 1) := by decide +kernel
theorem dX2_decidedMatters_0 : decode cX2_decidedMatters 0 = .ok (.iconst 0, 1) := by decide +kernel
theorem dX2_decidedMatters_1 : decode cX2_decidedMatters 1 = .ok (.istore_n 1, 1) := by decide +kernel
theorem dX2_decidedMatters_2 : decode cX2_decidedMatters 2 = .ok (.iconst 0, 1) := by decide +kernel
theorem dX2_decidedMatters_3 : decode cX2_decidedMatters 3 = .ok (.istore_n 2, 1) := by decide +kernel
theorem dX2_decidedMatters_4 : decode cX2_decidedMatters 4 = .ok (.iload_n 2, 1) := by decide +kernel
theorem dX2_decidedMatters_5 : decode cX2_decidedMatters 5 = .ok (.iconst 3, 1) := by decide +kernel
theorem dX2_decidedMatters_6 : decode cX2_decidedMatters 6 = .ok (.if_icmp .ge 21, 3) := by decide +kernel
theorem dX2_decidedMatters_9 : decode cX2_decidedMatters 9 = .ok (.aload_n 0, 1) := by decide +kernel
theorem dX2_decidedMatters_10 : decode cX2_decidedMatters 10 = .ok (.getfield 21, 3) := by decide +kernel
theorem dX2_decidedMatters_13 : decode cX2_decidedMatters 13 = .ok (.iload_n 2, 1) := by decide +kernel
theorem dX2_decidedMatters_14 : decode cX2_decidedMatters 14 = .ok (.iaload, 1) := by decide +kernel
theorem dX2_decidedMatters_15 : decode cX2_decidedMatters 15 = .ok (.ifCond .eq 6, 3) := by decide +kernel
theorem dX2_decidedMatters_18 : decode cX2_decidedMatters 18 = .ok (.iinc 1 1, 3) := by decide +kernel
theorem dX2_decidedMatters_21 : decode cX2_decidedMatters 21 = .ok (.iinc 2 1, 3) := by decide +kernel
theorem dX2_decidedMatters_24 : decode cX2_decidedMatters 24 = .ok (.goto (-20), 3) := by decide +kernel
theorem dX2_decidedMatters_27 : decode cX2_decidedMatters 27 = .ok (.iload_n 1, 1) := by decide +kernel
theorem dX2_decidedMatters_28 : decode cX2_decidedMatters 28 = .ok (.ireturn, 1) := by decide +kernel
set_option maxRecDepth 20000 in
theorem ggX9_night_X2_pass : GoodIn wsX9_night wsX2_pass := goodIn_r _ [8, 9, 10, 11, 12, 13, 14, 15, 16, 17, 18, 19, 20, 21, 22, 23, 24, 25, 26, 27, 28, 29, 30, 31, 32, 33, 34, 35, 36, 37, 38, 39, 40, 41, 7, 42, 43, 44, 45, 46, 47, 48, 49, 50, 51, 52, 53, 54, 55, 56, 57, 58, 59, 60, 61, 62, 63, 64, 65, 66, 67, 68, 69, 70, 71, 72, 73, 74, 75, 76, 77, 78, 79, 80, 94, 95, 96, 97, 98, 99, 100, 101, 102, 103, 104, 105, 106, 107, 108, 109, 110, 111, 112, 113] rfl (by decide +kernel)
set_option maxRecDepth 20000 in
theorem gX9_night_X2_pass : GoodIn wsX9_night (wsV RX9 204 RX2 yX2_pass wsX2_pass) := goodIn_app (goodIn_of _ (by decide +kernel)) ggX9_night_X2_pass
theorem dX9_night_0 : decode cX9_night 0 = .ok (.aload_n 0, 1) := by decide +kernel
theorem dX9_night_1 : decode cX9_night 1 = .ok (.getfield 19, 3) := by decide +kernel
theorem dX9_night_4 : decode cX9_night 4 = .ok (.aload_n 0, 1) := by decide +kernel
theorem dX9_night_5 : decode cX9_night 5 = .ok (.getfield 41, 3) := by decide +kernel
theorem dX9_night_8 : decode cX9_night 8 = .ok (.aload_n 0, 1) := by decide +kernel
theorem dX9_night_9 : decode cX9_night 9 = .ok (.getfield 51, 3) := by decide +kernel
theorem dX9_night_12 : decode cX9_night 12 = .ok (.invokevirtual 204, 3) := by decide +kernel
theorem dX9_night_15 : decode cX9_night 15 = .ok (.ireturn, 1) := by decide +kernel
set_option maxRecDepth 20000 in
theorem ggX9_run_X2_layByThemselves : GoodIn wsX9_run wsX2_layByThemselves := goodIn_r _ [9, 10, 11, 12, 13, 14, 15, 16, 17, 18, 8, 19, 20, 21, 22, 23, 24, 25, 26, 27, 28, 29, 30, 31, 32, 33, 34, 35, 36, 37, 38, 39, 40, 41, 42, 43, 44, 45, 46, 47, 48, 49, 50, 51, 52, 53, 54, 55, 56, 57, 58, 59, 60, 61, 62, 63, 64, 65, 66, 67, 68, 69, 70, 71, 72, 73, 74, 75, 138, 139, 140, 141, 142, 143, 144, 145, 146, 147, 148, 149, 150, 151, 152] rfl (by decide +kernel)
set_option maxRecDepth 20000 in
theorem gX9_run_X2_layByThemselves : GoodIn wsX9_run (wsV RX9 208 RX2 yX2_layByThemselves wsX2_layByThemselves) := goodIn_app (goodIn_of _ (by decide +kernel)) ggX9_run_X2_layByThemselves
set_option maxRecDepth 20000 in
theorem ggX9_run_X2_pass : GoodIn wsX9_run wsX2_pass := goodIn_r _ [79, 21, 80, 71, 22, 81, 10, 11, 12, 13, 14, 15, 23, 24, 25, 26, 27, 28, 29, 30, 31, 52, 53, 54, 55, 56, 57, 58, 59, 60, 61, 82, 83, 84, 8, 85, 40, 66, 86, 87, 88, 89, 90, 91, 92, 93, 94, 95, 96, 97, 98, 99, 20, 100, 101, 102, 103, 104, 105, 106, 107, 108, 109, 110, 111, 112, 113, 114, 115, 116, 117, 118, 119, 120, 143, 144, 145, 146, 147, 148, 149, 150, 151, 152, 153, 154, 155, 156, 157, 138, 139, 140, 141, 142] rfl (by decide +kernel)
set_option maxRecDepth 20000 in
theorem gX9_run_X2_pass : GoodIn wsX9_run (wsV RX9 204 RX2 yX2_pass wsX2_pass) := goodIn_app (goodIn_of _ (by decide +kernel)) ggX9_run_X2_pass
set_option maxRecDepth 20000 in
theorem ggX9_run_X2_decidedMatters : GoodIn wsX9_run wsX2_decidedMatters := goodIn_r _ [124, 20, 143, 144, 145, 146, 147, 148, 149, 150, 151, 152] rfl (by decide +kernel)
set_option maxRecDepth 20000 in
theorem gX9_run_X2_decidedMatters : GoodIn wsX9_run (wsV RX9 211 RX2 yX2_decidedMatters wsX2_decidedMatters) := goodIn_app (goodIn_of _ (by decide +kernel)) ggX9_run_X2_decidedMatters
theorem dX9_run_0 : decode cX9_run 0 = .ok (.iload_n 1, 1) := by decide +kernel
theorem dX9_run_1 : decode cX9_run 1 = .ok (.iconst 1, 1) := by decide +kernel
theorem dX9_run_2 : decode cX9_run 2 = .ok (.if_icmp .lt 9, 3) := by decide +kernel
theorem dX9_run_5 : decode cX9_run 5 = .ok (.iload_n 1, 1) := by decide +kernel
theorem dX9_run_6 : decode cX9_run 6 = .ok (.bipush 100, 2) := by decide +kernel
theorem dX9_run_8 : decode cX9_run 8 = .ok (.if_icmp .le 6, 3) := by decide +kernel
theorem dX9_run_11 : decode cX9_run 11 = .ok (.ldc 87, 2) := by decide +kernel
theorem dX9_run_13 : decode cX9_run 13 = .ok (.ireturn, 1) := by decide +kernel
theorem dX9_run_14 : decode cX9_run 14 = .ok (.iconst 0, 1) := by decide +kernel
theorem dX9_run_15 : decode cX9_run 15 = .ok (.istore_n 2, 1) := by decide +kernel
theorem dX9_run_16 : decode cX9_run 16 = .ok (.iload_n 2, 1) := by decide +kernel
theorem dX9_run_17 : decode cX9_run 17 = .ok (.iload_n 1, 1) := by decide +kernel
theorem dX9_run_18 : decode cX9_run 18 = .ok (.if_icmp .ge 36, 3) := by decide +kernel
theorem dX9_run_21 : decode cX9_run 21 = .ok (.aload_n 0, 1) := by decide +kernel
theorem dX9_run_22 : decode cX9_run 22 = .ok (.getfield 19, 3) := by decide +kernel
theorem dX9_run_25 : decode cX9_run 25 = .ok (.aload_n 0, 1) := by decide +kernel
theorem dX9_run_26 : decode cX9_run 26 = .ok (.getfield 41, 3) := by decide +kernel
theorem dX9_run_29 : decode cX9_run 29 = .ok (.invokevirtual 208, 3) := by decide +kernel
theorem dX9_run_32 : decode cX9_run 32 = .ok (.aload_n 0, 1) := by decide +kernel
theorem dX9_run_33 : decode cX9_run 33 = .ok (.getfield 19, 3) := by decide +kernel
theorem dX9_run_36 : decode cX9_run 36 = .ok (.aload_n 0, 1) := by decide +kernel
theorem dX9_run_37 : decode cX9_run 37 = .ok (.getfield 41, 3) := by decide +kernel
theorem dX9_run_40 : decode cX9_run 40 = .ok (.aload_n 0, 1) := by decide +kernel
theorem dX9_run_41 : decode cX9_run 41 = .ok (.getfield 51, 3) := by decide +kernel
theorem dX9_run_44 : decode cX9_run 44 = .ok (.invokevirtual 204, 3) := by decide +kernel
theorem dX9_run_47 : decode cX9_run 47 = .ok (.pop, 1) := by decide +kernel
theorem dX9_run_48 : decode cX9_run 48 = .ok (.iinc 2 1, 3) := by decide +kernel
theorem dX9_run_51 : decode cX9_run 51 = .ok (.goto (-35), 3) := by decide +kernel
theorem dX9_run_54 : decode cX9_run 54 = .ok (.aload_n 0, 1) := by decide +kernel
theorem dX9_run_55 : decode cX9_run 55 = .ok (.getfield 19, 3) := by decide +kernel
theorem dX9_run_58 : decode cX9_run 58 = .ok (.invokevirtual 211, 3) := by decide +kernel
theorem dX9_run_61 : decode cX9_run 61 = .ok (.ireturn, 1) := by decide +kernel
theorem dX7_add_0 : decode cX7_add 0 = .ok (.iload_n 1, 1) := by decide +kernel
theorem dX7_add_1 : decode cX7_add 1 = .ok (.iconst 1, 1) := by decide +kernel
theorem dX7_add_2 : decode cX7_add 2 = .ok (.isub, 1) := by decide +kernel
theorem dX7_add_3 : decode cX7_add 3 = .ok (.istore 4, 2) := by decide +kernel
theorem dX7_add_5 : decode cX7_add 5 = .ok (.iload 4, 2) := by decide +kernel
theorem dX7_add_7 : decode cX7_add 7 = .ok (.ifCond .lt 50, 3) := by decide +kernel
theorem dX7_add_10 : decode cX7_add 10 = .ok (.aload_n 0, 1) := by decide +kernel
theorem dX7_add_11 : decode cX7_add 11 = .ok (.getfield 15, 3) := by decide +kernel
theorem dX7_add_14 : decode cX7_add 14 = .ok (.sipush 500, 3) := by decide +kernel
theorem dX7_add_17 : decode cX7_add 17 = .ok (.if_icmp .ge 40, 3) := by decide +kernel
theorem dX7_add_20 : decode cX7_add 20 = .ok (.aload_n 0, 1) := by decide +kernel
theorem dX7_add_21 : decode cX7_add 21 = .ok (.getfield 9, 3) := by decide +kernel
theorem dX7_add_24 : decode cX7_add 24 = .ok (.aload_n 0, 1) := by decide +kernel
theorem dX7_add_25 : decode cX7_add 25 = .ok (.getfield 15, 3) := by decide +kernel
theorem dX7_add_28 : decode cX7_add 28 = .ok (.lload_n 2, 1) := by decide +kernel
theorem dX7_add_29 : decode cX7_add 29 = .ok (.bipush 8, 2) := by decide +kernel
theorem dX7_add_31 : decode cX7_add 31 = .ok (.iload 4, 2) := by decide +kernel
theorem dX7_add_33 : decode cX7_add 33 = .ok (.imul, 1) := by decide +kernel
theorem dX7_add_34 : decode cX7_add 34 = .ok (.lushr, 1) := by decide +kernel
theorem dX7_add_35 : decode cX7_add 35 = .ok (.ldc2_w 37, 3) := by decide +kernel
theorem dX7_add_38 : decode cX7_add 38 = .ok (.land, 1) := by decide +kernel
theorem dX7_add_39 : decode cX7_add 39 = .ok (.l2i, 1) := by decide +kernel
theorem dX7_add_40 : decode cX7_add 40 = .ok (.iastore, 1) := by decide +kernel
theorem dX7_add_41 : decode cX7_add 41 = .ok (.aload_n 0, 1) := by decide +kernel
theorem dX7_add_42 : decode cX7_add 42 = .ok (.dup, 1) := by decide +kernel
theorem dX7_add_43 : decode cX7_add 43 = .ok (.getfield 15, 3) := by decide +kernel
theorem dX7_add_46 : decode cX7_add 46 = .ok (.iconst 1, 1) := by decide +kernel
theorem dX7_add_47 : decode cX7_add 47 = .ok (.iadd, 1) := by decide +kernel
theorem dX7_add_48 : decode cX7_add 48 = .ok (.putfield 15, 3) := by decide +kernel
theorem dX7_add_51 : decode cX7_add 51 = .ok (.iinc 4 (-1), 3) := by decide +kernel
theorem dX7_add_54 : decode cX7_add 54 = .ok (.goto (-49), 3) := by decide +kernel
theorem dX7_add_57 : decode cX7_add 57 = .ok (.return_, 1) := by decide +kernel
set_option maxRecDepth 20000 in
theorem ggX9_feed_X7_add : GoodIn wsX9_feed wsX7_add := goodIn_r _ [9, 10, 11, 12, 26, 27, 28, 29, 30, 31, 32, 33] rfl (by decide +kernel)
set_option maxRecDepth 20000 in
theorem gX9_feed_X7_add : GoodIn wsX9_feed (wsV RX9 92 RX7 yX7_add wsX7_add) := goodIn_app (goodIn_of _ (by decide +kernel)) ggX9_feed_X7_add
theorem dX9_feed_0 : decode cX9_feed 0 = .ok (.iload_n 1, 1) := by decide +kernel
theorem dX9_feed_1 : decode cX9_feed 1 = .ok (.iconst 1, 1) := by decide +kernel
theorem dX9_feed_2 : decode cX9_feed 2 = .ok (.if_icmp .lt 9, 3) := by decide +kernel
theorem dX9_feed_5 : decode cX9_feed 5 = .ok (.iload_n 1, 1) := by decide +kernel
theorem dX9_feed_6 : decode cX9_feed 6 = .ok (.bipush 8, 2) := by decide +kernel
theorem dX9_feed_8 : decode cX9_feed 8 = .ok (.if_icmp .le 6, 3) := by decide +kernel
theorem dX9_feed_11 : decode cX9_feed 11 = .ok (.ldc 87, 2) := by decide +kernel
theorem dX9_feed_13 : decode cX9_feed 13 = .ok (.ireturn, 1) := by decide +kernel
theorem dX9_feed_14 : decode cX9_feed 14 = .ok (.aload_n 0, 1) := by decide +kernel
theorem dX9_feed_15 : decode cX9_feed 15 = .ok (.getfield 10, 3) := by decide +kernel
theorem dX9_feed_18 : decode cX9_feed 18 = .ok (.getfield 88, 3) := by decide +kernel
theorem dX9_feed_21 : decode cX9_feed 21 = .ok (.iload_n 1, 1) := by decide +kernel
theorem dX9_feed_22 : decode cX9_feed 22 = .ok (.iadd, 1) := by decide +kernel
theorem dX9_feed_23 : decode cX9_feed 23 = .ok (.sipush 500, 3) := by decide +kernel
theorem dX9_feed_26 : decode cX9_feed 26 = .ok (.if_icmp .le 6, 3) := by decide +kernel
theorem dX9_feed_29 : decode cX9_feed 29 = .ok (.ldc 91, 2) := by decide +kernel
theorem dX9_feed_31 : decode cX9_feed 31 = .ok (.ireturn, 1) := by decide +kernel
theorem dX9_feed_32 : decode cX9_feed 32 = .ok (.aload_n 0, 1) := by decide +kernel
theorem dX9_feed_33 : decode cX9_feed 33 = .ok (.getfield 10, 3) := by decide +kernel
theorem dX9_feed_36 : decode cX9_feed 36 = .ok (.iload_n 1, 1) := by decide +kernel
theorem dX9_feed_37 : decode cX9_feed 37 = .ok (.lload_n 2, 1) := by decide +kernel
theorem dX9_feed_38 : decode cX9_feed 38 = .ok (.invokevirtual 92, 3) := by decide +kernel
theorem dX9_feed_41 : decode cX9_feed 41 = .ok (.aload_n 0, 1) := by decide +kernel
theorem dX9_feed_42 : decode cX9_feed 42 = .ok (.getfield 10, 3) := by decide +kernel
theorem dX9_feed_45 : decode cX9_feed 45 = .ok (.getfield 88, 3) := by decide +kernel
theorem dX9_feed_48 : decode cX9_feed 48 = .ok (.ireturn, 1) := by decide +kernel
abbrev c_X9_begin (k : Nat → ClassId) (x : Nat) (xt : Nat) (xc : Nat) (xi : Nat) (xk : Nat) (xb : Nat) (xr : Nat) (xp : Nat) (xo : Nat) (xl : Nat) (xm : Nat) (xw : Nat) (xv : Nat) (fb : Int32) (c0 : Nat) (c1 : Nat) (c2 : Nat) (c3 : Nat) (c4 : Nat) (c5 : Nat) (c6 : Nat) : va_W := [(x, .inr (9, [.ref xt, .ref xc, .ref xi, .ref xk, .ref xb, .ref xr, .ref xp, .ref xo, .ref xl, .ref xm, .ref xw, .ref xv, .int fb])), (xc, .inr (2, [.ref c0, .ref c1, .ref c2, .ref c3, .ref c4, .ref c5, .ref c6, .int 0, .int 0, .int 0])), (c0, .inl (k 0, 3, .inl (fl_i (fun _ => 0) 0 3))), (c1, .inl (k 0, 3, .inl (fl_i (fun _ => 0) 0 3))), (c2, .inl (k 0, 3, .inl (fl_i (fun _ => 0) 0 3))), (c3, .inl (k 0, 3, .inl (fl_i (fun _ => 0) 0 3))), (c4, .inl (k 0, 3, .inl (fl_i (fun _ => 0) (-1) 3))), (c5, .inl (k 0, 3, .inl (fl_i (fun _ => 0) (-1) 3))), (c6, .inl (k 0, 3, .inl (fl_i (fun _ => 0) (-1) 3)))]
abbrev r_X9_begin : Room := { frames := 3, cells := 0, slots := 0, locals := 63 }
def w_X9_begin (k : Nat → ClassId) (x : Nat) (xt : Nat) (xc : Nat) (xi : Nat) (xk : Nat) (xb : Nat) (xr : Nat) (xp : Nat) (xo : Nat) (xl : Nat) (xm : Nat) (xw : Nat) (xv : Nat) (fb : Int32) (c0 : Nat) (c1 : Nat) (c2 : Nat) (c3 : Nat) (c4 : Nat) (c5 : Nat) (c6 : Nat) : Unit → va_W := fun _ => []
def p_X9_begin (k : Nat → ClassId) (x : Nat) (xt : Nat) (xc : Nat) (xi : Nat) (xk : Nat) (xb : Nat) (xr : Nat) (xp : Nat) (xo : Nat) (xl : Nat) (xm : Nat) (xw : Nat) (xv : Nat) (fb : Int32) (c0 : Nat) (c1 : Nat) (c2 : Nat) (c3 : Nat) (c4 : Nat) (c5 : Nat) (c6 : Nat) : Int32 → Unit → Prop := fun (r : Int32) (u : Unit) => r = 0
abbrev q_X9_begin (D : va_G) (k : Nat → ClassId) (x : Nat) (xt : Nat) (xc : Nat) (xi : Nat) (xk : Nat) (xb : Nat) (xr : Nat) (xp : Nat) (xo : Nat) (xl : Nat) (xm : Nat) (xw : Nat) (xv : Nat) (fb : Int32) (c0 : Nat) (c1 : Nat) (c2 : Nat) (c3 : Nat) (c4 : Nat) (c5 : Nat) (c6 : Nat) (A : Nat → Prop) : Array Value → State → Outcome → State → Prop := va_Qi (p_X9_begin k x xt xc xi xk xb xr xp xo xl xm xw xv fb c0 c1 c2 c3 c4 c5 c6) (fun u9 t9 => BO D (w_X9_begin k x xt xc xi xk xb xr xp xo xl xm xw xv fb c0 c1 c2 c3 c4 c5 c6 u9) A t9) A
set_option maxHeartbeats 2000000 in
set_option maxRecDepth 100000 in
theorem X9_begin (l : Launch) (D : va_G) (k : Nat → ClassId) (sz : Nat) (x : Nat) (xt : Nat) (xc : Nat) (xi : Nat) (xk : Nat) (xb : Nat) (xr : Nat) (xp : Nat) (xo : Nat) (xl : Nat) (xm : Nat) (xw : Nat) (xv : Nat) (fb : Int32) (c0 : Nat) (c1 : Nat) (c2 : Nat) (c3 : Nat) (c4 : Nat) (c5 : Nat) (c6 : Nat)  : Met l yX9_begin wsX9_begin r_X9_begin (va_Pc [.ref x] (PR D k (c_X9_begin k x xt xc xi xk xb xr xp xo xl xm xw xv fb c0 c1 c2 c3 c4 c5 c6) sz)) (q_X9_begin D k x xt xc xi xk xb xr xp xo xl xm xw xv fb c0 c1 c2 c3 c4 c5 c6 (va_A (c_X9_begin k x xt xc xi xk xb xr xp xo xl xm xw xv fb c0 c1 c2 c3 c4 c5 c6) sz)) 0 0 (va_A (c_X9_begin k x xt xc xi xk xb xr xp xo xl xm xw xv fb c0 c1 c2 c3 c4 c5 c6) sz) := by
  refine Met.ofW (cc := cX9_begin) (maxL := 2) (ret := (some .int)) (by decide) rfl ?_
  intro p e s m args below meth c s₁ B hml hv
  obtain ⟨rfl, hsz, hP, hG, hD0⟩ := hv
  have hx := B.exec
  have hb := B.bytes
  have hr := B.returns
  have hts := atoms_spec (ws := wsX9_begin) B.pre
  have hown : s.vm.findClass RX9 = some m.cls := findClass_of_methodNamed B.named
  have hlocks := B.notSynchronized
  have hi9 : ∀ w ∈ wsX90, w ∈ wsX9_begin := fun _ h => List.mem_cons_of_mem _ (List.mem_append_left _ (List.mem_append_right _ h))
  have hi2 : ∀ w ∈ wsX20, w ∈ wsX9_begin := fun _ h => List.mem_cons_of_mem _ (List.mem_append_right _ h)
  subst hsz
  have hD := hD0.self (sz := s.heap.size)
  generalize hAe : va_A (c_X9_begin k x xt xc xi xk xb xr xp xo xl xm xw xv fb c0 c1 c2 c3 c4 c5 c6) s.heap.size = A at hD ⊢
  have hA : ∀ q : Nat, s.heap.size ≤ q → A q := fun q h => by rw [← hAe]; exact Or.inr h
  have hS : va_S A s.heap s.heap [] := va_S.rf
  have hP : va_P D vwCl [(x, .inr (9, [.ref xt, .ref xc, .ref xi, .ref xk, .ref xb, .ref xr, .ref xp, .ref xo, .ref xl, .ref xm, .ref xw, .ref xv, .int fb])), (xc, .inr (2, [.ref c0, .ref c1, .ref c2, .ref c3, .ref c4, .ref c5, .ref c6, .int 0, .int 0, .int 0])), (c0, .inl (k 0, 3, .inl (fl_i (fun _ => 0) 0 3))), (c1, .inl (k 0, 3, .inl (fl_i (fun _ => 0) 0 3))), (c2, .inl (k 0, 3, .inl (fl_i (fun _ => 0) 0 3))), (c3, .inl (k 0, 3, .inl (fl_i (fun _ => 0) 0 3))), (c4, .inl (k 0, 3, .inl (fl_i (fun _ => 0) (-1) 3))), (c5, .inl (k 0, 3, .inl (fl_i (fun _ => 0) (-1) 3))), (c6, .inl (k 0, 3, .inl (fl_i (fun _ => 0) (-1) 3)))] s.heap := hP
  have hD : va_D A [(x, .inr (9, [.ref xt, .ref xc, .ref xi, .ref xk, .ref xb, .ref xr, .ref xp, .ref xo, .ref xl, .ref xm, .ref xw, .ref xv, .int fb])), (xc, .inr (2, [.ref c0, .ref c1, .ref c2, .ref c3, .ref c4, .ref c5, .ref c6, .int 0, .int 0, .int 0])), (c0, .inl (k 0, 3, .inl (fl_i (fun _ => 0) 0 3))), (c1, .inl (k 0, 3, .inl (fl_i (fun _ => 0) 0 3))), (c2, .inl (k 0, 3, .inl (fl_i (fun _ => 0) 0 3))), (c3, .inl (k 0, 3, .inl (fl_i (fun _ => 0) 0 3))), (c4, .inl (k 0, 3, .inl (fl_i (fun _ => 0) (-1) 3))), (c5, .inl (k 0, 3, .inl (fl_i (fun _ => 0) (-1) 3))), (c6, .inl (k 0, 3, .inl (fl_i (fun _ => 0) (-1) 3)))] := hD
  have hl := lv_entry ([.ref x]) (n := 2) (Nat.le_of_ble_eq_true rfl)
  rw [lg_entry_eq]
  generalize (lg_sl ([.ref x]) ++ List.replicate (2 - (lg_sl ([.ref x])).length) Slot.unset).toArray = ls at hl ⊢
  have hl : lv_has ls 2 [(0, .ref x)] := hl
  refine lv_aload_n hx hb dX9_begin_0 rfl (lv_at hl 0 rfl) ?_
  refine va_get (D := D) (ci := 9) (v := .ref xc) (C := RX9) (T := TX9) (N := 13) hx hb hts hi9 hown hG.1 hP 0 rfl rfl 1 (by decide) (hts (.fieldLink RX9 19 "SleptMatters" "course" "LSleptMatters$Course;") (List.mem_cons_of_mem _ (List.mem_append_left _ (List.mem_append_left _ (List.mem_of_getElem? (i := 0) rfl))))) (fun _ h9 => h9) rfl dX9_begin_1 ?_
  refine va_get (D := D) (ci := 2) (v := .int 0) (C := RX2) (T := TX2) (N := 10) hx hb hts hi2 hown hG.1 hP 1 rfl rfl 8 (by decide) (hts (.fieldLink RX9 133 "SleptMatters$Course" "day" "I") (List.mem_cons_of_mem _ (List.mem_append_left _ (List.mem_append_left _ (List.mem_of_getElem? (i := 1) rfl))))) (fun _ h9 => h9) rfl dX9_begin_4 ?_
  refine lv_istore_n (lv' := [(1, .int 0), (0, .ref x)]) hx hb dX9_begin_7 rfl hl (by decide) rfl (fun ls hl => ?_)
  refine lv_aload_n hx hb dX9_begin_8 rfl (lv_at hl 1 rfl) ?_
  refine va_get (D := D) (ci := 9) (v := .ref xc) (C := RX9) (T := TX9) (N := 13) hx hb hts hi9 hown hG.1 hP 0 rfl rfl 1 (by decide) (hts (.fieldLink RX9 19 "SleptMatters" "course" "LSleptMatters$Course;") (List.mem_cons_of_mem _ (List.mem_append_left _ (List.mem_append_left _ (List.mem_of_getElem? (i := 0) rfl))))) (fun _ h9 => h9) rfl dX9_begin_9 ?_
  have hPc := hP.sub (ws' := (c_X2_startAgain k xc c0 c1 c2 c3 c4 c5 c6 (fl_i (fun _ => 0) 0 3) (fl_i (fun _ => 0) 0 3) (fl_i (fun _ => 0) 0 3) (fl_i (fun _ => 0) 0 3) (fl_i (fun _ => 0) (-1) 3) (fl_i (fun _ => 0) (-1) 3) (fl_i (fun _ => 0) (-1) 3) 0 0 0)) [1, 2, 3, 4, 5, 6, 7, 8] rfl
  have hDc := hD.sub (ws' := (c_X2_startAgain k xc c0 c1 c2 c3 c4 c5 c6 (fl_i (fun _ => 0) 0 3) (fl_i (fun _ => 0) 0 3) (fl_i (fun _ => 0) 0 3) (fl_i (fun _ => 0) 0 3) (fl_i (fun _ => 0) (-1) 3) (fl_i (fun _ => 0) (-1) 3) (fl_i (fun _ => 0) (-1) 3) 0 0 0)) [1, 2, 3, 4, 5, 6, 7, 8] (by decide +kernel) rfl
  refine cl_v (w1 := w_X2_startAgain k xc c0 c1 c2 c3 c4 c5 c6 (fl_i (fun _ => 0) 0 3) (fl_i (fun _ => 0) 0 3) (fl_i (fun _ => 0) 0 3) (fl_i (fun _ => 0) 0 3) (fl_i (fun _ => 0) (-1) 3) (fl_i (fun _ => 0) (-1) 3) (fl_i (fun _ => 0) (-1) 3) 0 0 0) (wr := [(x, .inr (9, [.ref xt, .ref xc, .ref xi, .ref xk, .ref xb, .ref xr, .ref xp, .ref xo, .ref xl, .ref xm, .ref xw, .ref xv, .int fb]))]) (va_runV (As := []) (rest := []) ⟨hx, hb, hml, hown, hts⟩ (X2_startAgain l D k s.heap.size xc c0 c1 c2 c3 c4 c5 c6 (fl_i (fun _ => 0) 0 3) (fl_i (fun _ => 0) 0 3) (fl_i (fun _ => 0) 0 3) (fl_i (fun _ => 0) 0 3) (fl_i (fun _ => 0) (-1) 3) (fl_i (fun _ => 0) (-1) 3) (fl_i (fun _ => 0) (-1) 3) 0 0 0 ) (cwV 0 hts gX9_begin_X2_startAgain rfl rfl rfl (by decide +kernel) ⟨Nat.le_of_ble_eq_true rfl, Nat.le_of_ble_eq_true rfl⟩) ⟨PR.blind _ _ _ _ _, va_recv hG.1 hP (ci := 2) (q0 := 1) rfl rfl, PR.pre hPc hDc hG [.ref xc]⟩ rfl rfl hl.1 rfl (lv_room (Nat.le_of_ble_eq_true rfl)) dX9_begin_12 ⟨Nat.le_of_ble_eq_true rfl, Nat.le_of_ble_eq_true rfl⟩) hP hD hS hA [1, 2, 3, 4, 5, 6, 7, 8] [0] rfl rfl (by decide +kernel) (by decide +kernel) (fun u H locs hq hP hD hS => ?_)
  cases u
  have hP : va_P D vwCl [(x, .inr (9, [.ref xt, .ref xc, .ref xi, .ref xk, .ref xb, .ref xr, .ref xp, .ref xo, .ref xl, .ref xm, .ref xw, .ref xv, .int fb])), (xc, .inr (2, [.ref c0, .ref c1, .ref c2, .ref c3, .ref c4, .ref c5, .ref c6, .int 0, .int 0, .int 0])), (c0, .inl (k 0, 3, .inl (fl_i (fl_i (fun _ => 0) 0 3) 0 3))), (c1, .inl (k 0, 3, .inl (fl_i (fl_i (fun _ => 0) 0 3) 0 3))), (c2, .inl (k 0, 3, .inl (fl_i (fl_i (fun _ => 0) 0 3) 0 3))), (c3, .inl (k 0, 3, .inl (fl_i (fl_i (fun _ => 0) 0 3) 0 3))), (c4, .inl (k 0, 3, .inl (fl_i (fl_i (fun _ => 0) (-1) 3) (-1) 3))), (c5, .inl (k 0, 3, .inl (fl_i (fl_i (fun _ => 0) (-1) 3) (-1) 3))), (c6, .inl (k 0, 3, .inl (fl_i (fl_i (fun _ => 0) (-1) 3) (-1) 3)))] H := hP
  have hD : va_D A [(x, .inr (9, [.ref xt, .ref xc, .ref xi, .ref xk, .ref xb, .ref xr, .ref xp, .ref xo, .ref xl, .ref xm, .ref xw, .ref xv, .int fb])), (xc, .inr (2, [.ref c0, .ref c1, .ref c2, .ref c3, .ref c4, .ref c5, .ref c6, .int 0, .int 0, .int 0])), (c0, .inl (k 0, 3, .inl (fl_i (fl_i (fun _ => 0) 0 3) 0 3))), (c1, .inl (k 0, 3, .inl (fl_i (fl_i (fun _ => 0) 0 3) 0 3))), (c2, .inl (k 0, 3, .inl (fl_i (fl_i (fun _ => 0) 0 3) 0 3))), (c3, .inl (k 0, 3, .inl (fl_i (fl_i (fun _ => 0) 0 3) 0 3))), (c4, .inl (k 0, 3, .inl (fl_i (fl_i (fun _ => 0) (-1) 3) (-1) 3))), (c5, .inl (k 0, 3, .inl (fl_i (fl_i (fun _ => 0) (-1) 3) (-1) 3))), (c6, .inl (k 0, 3, .inl (fl_i (fl_i (fun _ => 0) (-1) 3) (-1) 3)))] := hD
  refine lv_iload_n hx hb dX9_begin_15 rfl (lv_at hl 0 rfl) ?_
  have hP9 := hP.sub (ws' := []) [] rfl
  have hD9 := hD.sub (ws' := []) [] (by decide +kernel) rfl
  exact W.iret (v := 0) hx hb hr (fun t9 ht _ => ⟨⟨0, (), rfl, rfl, by rw [ht]; exact hP9, hD9⟩, hS.F ht⟩) hS.2.2 dX9_begin_16

abbrev c_X9_tear (k : Nat → ClassId) (x : Nat) (xt : Nat) (xc : Nat) (xi : Nat) (xk : Nat) (xb : Nat) (xr : Nat) (xp : Nat) (xo : Nat) (xl : Nat) (xm : Nat) (xw : Nat) (xv : Nat) (fb : Int32) (b1 : Nat) (b2 : Nat) (b3 : Nat) : va_W := [(x, .inr (9, [.ref xt, .ref xc, .ref xi, .ref xk, .ref xb, .ref xr, .ref xp, .ref xo, .ref xl, .ref xm, .ref xw, .ref xv, .int fb])), (xb, .inr (0, [.int 0, .ref b1, .ref b2, .ref b3]))]
abbrev r_X9_tear : Room := { frames := 0, cells := 0, slots := 0, locals := 0 }
def w_X9_tear (k : Nat → ClassId) (x : Nat) (xt : Nat) (xc : Nat) (xi : Nat) (xk : Nat) (xb : Nat) (xr : Nat) (xp : Nat) (xo : Nat) (xl : Nat) (xm : Nat) (xw : Nat) (xv : Nat) (fb : Int32) (b1 : Nat) (b2 : Nat) (b3 : Nat) : Unit → va_W := fun _ => []
def p_X9_tear (k : Nat → ClassId) (x : Nat) (xt : Nat) (xc : Nat) (xi : Nat) (xk : Nat) (xb : Nat) (xr : Nat) (xp : Nat) (xo : Nat) (xl : Nat) (xm : Nat) (xw : Nat) (xv : Nat) (fb : Int32) (b1 : Nat) (b2 : Nat) (b3 : Nat) : Int32 → Unit → Prop := fun (r : Int32) (u : Unit) => r = 0
abbrev q_X9_tear (D : va_G) (k : Nat → ClassId) (x : Nat) (xt : Nat) (xc : Nat) (xi : Nat) (xk : Nat) (xb : Nat) (xr : Nat) (xp : Nat) (xo : Nat) (xl : Nat) (xm : Nat) (xw : Nat) (xv : Nat) (fb : Int32) (b1 : Nat) (b2 : Nat) (b3 : Nat) (A : Nat → Prop) : Array Value → State → Outcome → State → Prop := va_Qi (p_X9_tear k x xt xc xi xk xb xr xp xo xl xm xw xv fb b1 b2 b3) (fun u9 t9 => BO D (w_X9_tear k x xt xc xi xk xb xr xp xo xl xm xw xv fb b1 b2 b3 u9) A t9) A
set_option maxHeartbeats 2000000 in
set_option maxRecDepth 100000 in
theorem X9_tear (l : Launch) (D : va_G) (k : Nat → ClassId) (sz : Nat) (x : Nat) (xt : Nat) (xc : Nat) (xi : Nat) (xk : Nat) (xb : Nat) (xr : Nat) (xp : Nat) (xo : Nat) (xl : Nat) (xm : Nat) (xw : Nat) (xv : Nat) (fb : Int32) (b1 : Nat) (b2 : Nat) (b3 : Nat)  : Met l yX9_tear wsX9_tear r_X9_tear (va_Pc [.ref x] (PR D k (c_X9_tear k x xt xc xi xk xb xr xp xo xl xm xw xv fb b1 b2 b3) sz)) (q_X9_tear D k x xt xc xi xk xb xr xp xo xl xm xw xv fb b1 b2 b3 (va_A (c_X9_tear k x xt xc xi xk xb xr xp xo xl xm xw xv fb b1 b2 b3) sz)) 0 0 (va_A (c_X9_tear k x xt xc xi xk xb xr xp xo xl xm xw xv fb b1 b2 b3) sz) := by
  refine Met.ofW (cc := cX9_tear) (maxL := 2) (ret := (some .int)) (by decide) rfl ?_
  intro p e s m args below meth c s₁ B hml hv
  obtain ⟨rfl, hsz, hP, hG, hD0⟩ := hv
  have hx := B.exec
  have hb := B.bytes
  have hr := B.returns
  have hts := atoms_spec (ws := wsX9_tear) B.pre
  have hown : s.vm.findClass RX9 = some m.cls := findClass_of_methodNamed B.named
  have hlocks := B.notSynchronized
  have hi9 : ∀ w ∈ wsX90, w ∈ wsX9_tear := fun _ h => List.mem_cons_of_mem _ (List.mem_append_left _ (List.mem_append_right _ h))
  have hi0 : ∀ w ∈ wsX00, w ∈ wsX9_tear := fun _ h => List.mem_cons_of_mem _ (List.mem_append_right _ h)
  subst hsz
  have hD := hD0.self (sz := s.heap.size)
  generalize hAe : va_A (c_X9_tear k x xt xc xi xk xb xr xp xo xl xm xw xv fb b1 b2 b3) s.heap.size = A at hD ⊢
  have hA : ∀ q : Nat, s.heap.size ≤ q → A q := fun q h => by rw [← hAe]; exact Or.inr h
  have hS : va_S A s.heap s.heap [] := va_S.rf
  have hP : va_P D vwCl [(x, .inr (9, [.ref xt, .ref xc, .ref xi, .ref xk, .ref xb, .ref xr, .ref xp, .ref xo, .ref xl, .ref xm, .ref xw, .ref xv, .int fb])), (xb, .inr (0, [.int 0, .ref b1, .ref b2, .ref b3]))] s.heap := hP
  have hD : va_D A [(x, .inr (9, [.ref xt, .ref xc, .ref xi, .ref xk, .ref xb, .ref xr, .ref xp, .ref xo, .ref xl, .ref xm, .ref xw, .ref xv, .int fb])), (xb, .inr (0, [.int 0, .ref b1, .ref b2, .ref b3]))] := hD
  have hl := lv_entry ([.ref x]) (n := 2) (Nat.le_of_ble_eq_true rfl)
  rw [lg_entry_eq]
  generalize (lg_sl ([.ref x]) ++ List.replicate (2 - (lg_sl ([.ref x])).length) Slot.unset).toArray = ls at hl ⊢
  have hl : lv_has ls 2 [(0, .ref x)] := hl
  refine lv_aload_n hx hb dX9_tear_0 rfl (lv_at hl 0 rfl) ?_
  refine va_get (D := D) (ci := 9) (v := .ref xb) (C := RX9) (T := TX9) (N := 13) hx hb hts hi9 hown hG.1 hP 0 rfl rfl 4 (by decide) (hts (.fieldLink RX9 34 "SleptMatters" "book" "LSleptMatters$Book;") (List.mem_cons_of_mem _ (List.mem_append_left _ (List.mem_append_left _ (List.mem_of_getElem? (i := 0) rfl))))) (fun _ h9 => h9) rfl dX9_tear_1 ?_
  refine va_get (D := D) (ci := 0) (v := .int 0) (C := RX0) (T := TX0) (N := 4) hx hb hts hi0 hown hG.1 hP 1 rfl rfl 0 (by decide) (hts (.fieldLink RX9 114 "SleptMatters$Book" "size" "I") (List.mem_cons_of_mem _ (List.mem_append_left _ (List.mem_append_left _ (List.mem_of_getElem? (i := 1) rfl))))) (fun _ h9 => h9) rfl dX9_tear_4 ?_
  refine lv_istore_n (lv' := [(1, .int 0), (0, .ref x)]) hx hb dX9_tear_7 rfl hl (by decide) rfl (fun ls hl => ?_)
  refine lv_aload_n hx hb dX9_tear_8 rfl (lv_at hl 1 rfl) ?_
  refine va_get (D := D) (ci := 9) (v := .ref xb) (C := RX9) (T := TX9) (N := 13) hx hb hts hi9 hown hG.1 hP 0 rfl rfl 4 (by decide) (hts (.fieldLink RX9 34 "SleptMatters" "book" "LSleptMatters$Book;") (List.mem_cons_of_mem _ (List.mem_append_left _ (List.mem_append_left _ (List.mem_of_getElem? (i := 0) rfl))))) (fun _ h9 => h9) rfl dX9_tear_9 ?_
  refine lv_iconst (v := 0) hx hb dX9_tear_12 (by decide) ?_
  refine va_put (D := D) (ci := 0) (v := .int 0) (ty := .int) (C := RX0) (T := TX0) (N := 4) hx hb hts hi0 tyX0 tyX0_ok nmX0 hown hG.1 hP hD hS 1 rfl rfl 0 (by decide) (hts (.fieldLink RX9 114 "SleptMatters$Book" "size" "I") (List.mem_cons_of_mem _ (List.mem_append_left _ (List.mem_append_left _ (List.mem_of_getElem? (i := 1) rfl))))) (fun _ h9 => h9) rfl (by decide +kernel) rfl rfl (Nat.le_of_ble_eq_true rfl) dX9_tear_13 (fun H locs hP hD hS => ?_)
  have hP : va_P D vwCl [(x, .inr (9, [.ref xt, .ref xc, .ref xi, .ref xk, .ref xb, .ref xr, .ref xp, .ref xo, .ref xl, .ref xm, .ref xw, .ref xv, .int fb])), (xb, .inr (0, [.int 0, .ref b1, .ref b2, .ref b3]))] H := hP
  have hD : va_D A [(x, .inr (9, [.ref xt, .ref xc, .ref xi, .ref xk, .ref xb, .ref xr, .ref xp, .ref xo, .ref xl, .ref xm, .ref xw, .ref xv, .int fb])), (xb, .inr (0, [.int 0, .ref b1, .ref b2, .ref b3]))] := hD
  refine lv_iload_n hx hb dX9_tear_16 rfl (lv_at hl 0 rfl) ?_
  have hP9 := hP.sub (ws' := []) [] rfl
  have hD9 := hD.sub (ws' := []) [] (by decide +kernel) rfl
  exact W.iret (v := 0) hx hb hr (fun t9 ht _ => ⟨⟨0, (), rfl, rfl, by rw [ht]; exact hP9, hD9⟩, hS.F ht⟩) hS.2.2 dX9_tear_17

abbrev c_X9_seed (k : Nat → ClassId) (x : Nat) (xt : Nat) (xc : Nat) (xi : Nat) (xk : Nat) (xb : Nat) (xr : Nat) (xp : Nat) (xo : Nat) (xl : Nat) (xm : Nat) (xw : Nat) (xv : Nat) (fb : Int32) (c0 : Nat) (c1 : Nat) (c2 : Nat) (c3 : Nat) (c4 : Nat) (c5 : Nat) (c6 : Nat) (v : Int32) : va_W := [(x, .inr (9, [.ref xt, .ref xc, .ref xi, .ref xk, .ref xb, .ref xr, .ref xp, .ref xo, .ref xl, .ref xm, .ref xw, .ref xv, .int fb])), (xc, .inr (2, [.ref c0, .ref c1, .ref c2, .ref c3, .ref c4, .ref c5, .ref c6, .int 0, .int 0, .int 0]))]
abbrev r_X9_seed : Room := { frames := 0, cells := 0, slots := 0, locals := 0 }
def w_X9_seed (k : Nat → ClassId) (x : Nat) (xt : Nat) (xc : Nat) (xi : Nat) (xk : Nat) (xb : Nat) (xr : Nat) (xp : Nat) (xo : Nat) (xl : Nat) (xm : Nat) (xw : Nat) (xv : Nat) (fb : Int32) (c0 : Nat) (c1 : Nat) (c2 : Nat) (c3 : Nat) (c4 : Nat) (c5 : Nat) (c6 : Nat) (v : Int32) : Unit → va_W := fun _ => []
def p_X9_seed (k : Nat → ClassId) (x : Nat) (xt : Nat) (xc : Nat) (xi : Nat) (xk : Nat) (xb : Nat) (xr : Nat) (xp : Nat) (xo : Nat) (xl : Nat) (xm : Nat) (xw : Nat) (xv : Nat) (fb : Int32) (c0 : Nat) (c1 : Nat) (c2 : Nat) (c3 : Nat) (c4 : Nat) (c5 : Nat) (c6 : Nat) (v : Int32) : Int32 → Unit → Prop := fun (r : Int32) (u : Unit) => r = seA v
abbrev q_X9_seed (D : va_G) (k : Nat → ClassId) (x : Nat) (xt : Nat) (xc : Nat) (xi : Nat) (xk : Nat) (xb : Nat) (xr : Nat) (xp : Nat) (xo : Nat) (xl : Nat) (xm : Nat) (xw : Nat) (xv : Nat) (fb : Int32) (c0 : Nat) (c1 : Nat) (c2 : Nat) (c3 : Nat) (c4 : Nat) (c5 : Nat) (c6 : Nat) (v : Int32) (A : Nat → Prop) : Array Value → State → Outcome → State → Prop := va_Qi (p_X9_seed k x xt xc xi xk xb xr xp xo xl xm xw xv fb c0 c1 c2 c3 c4 c5 c6 v) (fun u9 t9 => BO D (w_X9_seed k x xt xc xi xk xb xr xp xo xl xm xw xv fb c0 c1 c2 c3 c4 c5 c6 v u9) A t9) A
set_option maxHeartbeats 2000000 in
set_option maxRecDepth 100000 in
theorem X9_seed (l : Launch) (D : va_G) (k : Nat → ClassId) (sz : Nat) (x : Nat) (xt : Nat) (xc : Nat) (xi : Nat) (xk : Nat) (xb : Nat) (xr : Nat) (xp : Nat) (xo : Nat) (xl : Nat) (xm : Nat) (xw : Nat) (xv : Nat) (fb : Int32) (c0 : Nat) (c1 : Nat) (c2 : Nat) (c3 : Nat) (c4 : Nat) (c5 : Nat) (c6 : Nat) (v : Int32)  : Met l yX9_seed wsX9_seed r_X9_seed (va_Pc [.ref x, .int v] (PR D k (c_X9_seed k x xt xc xi xk xb xr xp xo xl xm xw xv fb c0 c1 c2 c3 c4 c5 c6 v) sz)) (q_X9_seed D k x xt xc xi xk xb xr xp xo xl xm xw xv fb c0 c1 c2 c3 c4 c5 c6 v (va_A (c_X9_seed k x xt xc xi xk xb xr xp xo xl xm xw xv fb c0 c1 c2 c3 c4 c5 c6 v) sz)) 0 0 (va_A (c_X9_seed k x xt xc xi xk xb xr xp xo xl xm xw xv fb c0 c1 c2 c3 c4 c5 c6 v) sz) := by
  refine Met.ofW (cc := cX9_seed) (maxL := 3) (ret := (some .int)) (by decide) rfl ?_
  intro p e s m args below meth c s₁ B hml hv
  obtain ⟨rfl, hsz, hP, hG, hD0⟩ := hv
  have hx := B.exec
  have hb := B.bytes
  have hr := B.returns
  have hts := atoms_spec (ws := wsX9_seed) B.pre
  have hown : s.vm.findClass RX9 = some m.cls := findClass_of_methodNamed B.named
  have hlocks := B.notSynchronized
  have hi9 : ∀ w ∈ wsX90, w ∈ wsX9_seed := fun _ h => List.mem_cons_of_mem _ (List.mem_append_left _ (List.mem_append_right _ h))
  have hi2 : ∀ w ∈ wsX20, w ∈ wsX9_seed := fun _ h => List.mem_cons_of_mem _ (List.mem_append_right _ h)
  subst hsz
  have hD := hD0.self (sz := s.heap.size)
  generalize hAe : va_A (c_X9_seed k x xt xc xi xk xb xr xp xo xl xm xw xv fb c0 c1 c2 c3 c4 c5 c6 v) s.heap.size = A at hD ⊢
  have hA : ∀ q : Nat, s.heap.size ≤ q → A q := fun q h => by rw [← hAe]; exact Or.inr h
  have hS : va_S A s.heap s.heap [] := va_S.rf
  have hP : va_P D vwCl [(x, .inr (9, [.ref xt, .ref xc, .ref xi, .ref xk, .ref xb, .ref xr, .ref xp, .ref xo, .ref xl, .ref xm, .ref xw, .ref xv, .int fb])), (xc, .inr (2, [.ref c0, .ref c1, .ref c2, .ref c3, .ref c4, .ref c5, .ref c6, .int 0, .int 0, .int 0]))] s.heap := hP
  have hD : va_D A [(x, .inr (9, [.ref xt, .ref xc, .ref xi, .ref xk, .ref xb, .ref xr, .ref xp, .ref xo, .ref xl, .ref xm, .ref xw, .ref xv, .int fb])), (xc, .inr (2, [.ref c0, .ref c1, .ref c2, .ref c3, .ref c4, .ref c5, .ref c6, .int 0, .int 0, .int 0]))] := hD
  have hl := lv_entry ([.ref x, .int v]) (n := 3) (Nat.le_of_ble_eq_true rfl)
  rw [lg_entry_eq]
  generalize (lg_sl ([.ref x, .int v]) ++ List.replicate (3 - (lg_sl ([.ref x, .int v])).length) Slot.unset).toArray = ls at hl ⊢
  have hl : lv_has ls 3 [(0, .ref x), (1, .int v)] := hl
  refine lv_iload_n hx hb dX9_seed_0 rfl (lv_at hl 1 rfl) ?_
  refine lv_if_ge (x := v) (tgt := 7) hx hb dX9_seed_1 (by decide) (fun hc1 => ?_) (fun hc1 => ?_)
  · skip
    refine lv_aload_n hx hb dX9_seed_7 rfl (lv_at hl 0 rfl) ?_
    refine va_get (D := D) (ci := 9) (v := .ref xc) (C := RX9) (T := TX9) (N := 13) hx hb hts hi9 hown hG.1 hP 0 rfl rfl 1 (by decide) (hts (.fieldLink RX9 19 "SleptMatters" "course" "LSleptMatters$Course;") (List.mem_cons_of_mem _ (List.mem_append_left _ (List.mem_append_left _ (List.mem_of_getElem? (i := 1) rfl))))) (fun _ h9 => h9) rfl dX9_seed_8 ?_
    refine va_get (D := D) (ci := 2) (v := .int 0) (C := RX2) (T := TX2) (N := 10) hx hb hts hi2 hown hG.1 hP 1 rfl rfl 9 (by decide) (hts (.fieldLink RX9 273 "SleptMatters$Course" "drawSeed" "I") (List.mem_cons_of_mem _ (List.mem_append_left _ (List.mem_append_left _ (List.mem_of_getElem? (i := 2) rfl))))) (fun _ h9 => h9) rfl dX9_seed_11 ?_
    refine lv_istore_n (lv' := [(2, .int 0), (0, .ref x), (1, .int v)]) hx hb dX9_seed_14 rfl hl (by decide) rfl (fun ls hl => ?_)
    refine lv_aload_n hx hb dX9_seed_15 rfl (lv_at hl 1 rfl) ?_
    refine va_get (D := D) (ci := 9) (v := .ref xc) (C := RX9) (T := TX9) (N := 13) hx hb hts hi9 hown hG.1 hP 0 rfl rfl 1 (by decide) (hts (.fieldLink RX9 19 "SleptMatters" "course" "LSleptMatters$Course;") (List.mem_cons_of_mem _ (List.mem_append_left _ (List.mem_append_left _ (List.mem_of_getElem? (i := 1) rfl))))) (fun _ h9 => h9) rfl dX9_seed_16 ?_
    refine lv_iload_n hx hb dX9_seed_19 rfl (lv_at hl 2 rfl) ?_
    refine va_put (D := D) (ci := 2) (v := .int v) (ty := .int) (C := RX2) (T := TX2) (N := 10) hx hb hts hi2 tyX2 tyX2_ok nmX2 hown hG.1 hP hD hS 1 rfl rfl 9 (by decide) (hts (.fieldLink RX9 273 "SleptMatters$Course" "drawSeed" "I") (List.mem_cons_of_mem _ (List.mem_append_left _ (List.mem_append_left _ (List.mem_of_getElem? (i := 2) rfl))))) (fun _ h9 => h9) rfl (by decide +kernel) rfl rfl (Nat.le_of_ble_eq_true rfl) dX9_seed_20 (fun H locs hP hD hS => ?_)
    have hP : va_P D vwCl [(x, .inr (9, [.ref xt, .ref xc, .ref xi, .ref xk, .ref xb, .ref xr, .ref xp, .ref xo, .ref xl, .ref xm, .ref xw, .ref xv, .int fb])), (xc, .inr (2, [.ref c0, .ref c1, .ref c2, .ref c3, .ref c4, .ref c5, .ref c6, .int 0, .int 0, .int v]))] H := hP
    have hD : va_D A [(x, .inr (9, [.ref xt, .ref xc, .ref xi, .ref xk, .ref xb, .ref xr, .ref xp, .ref xo, .ref xl, .ref xm, .ref xw, .ref xv, .int fb])), (xc, .inr (2, [.ref c0, .ref c1, .ref c2, .ref c3, .ref c4, .ref c5, .ref c6, .int 0, .int 0, .int v]))] := hD
    refine lv_iload_n hx hb dX9_seed_23 rfl (lv_at hl 0 rfl) ?_
    have hP9 := hP.sub (ws' := []) [] rfl
    have hD9 := hD.sub (ws' := []) [] (by decide +kernel) rfl
    exact W.iret (v := 0) hx hb hr (fun t9 ht _ => ⟨⟨0, (), rfl, by simp [p_X9_seed, seA, hc1], by rw [ht]; exact hP9, hD9⟩, hS.F ht⟩) hS.2.2 dX9_seed_24
  · skip
    refine lv_ldc (v := (-1000000002)) hx hb hown (hts (.constant RX9 87 (-1000000002)) (List.mem_cons_of_mem _ (List.mem_append_left _ (List.mem_append_left _ (List.mem_of_getElem? (i := 0) rfl))))) dX9_seed_4 ?_
    have hP9 := hP.sub (ws' := []) [] rfl
    have hD9 := hD.sub (ws' := []) [] (by decide +kernel) rfl
    exact W.iret (v := (-1000000002)) hx hb hr (fun t9 ht _ => ⟨⟨(-1000000002), (), rfl, by simp [p_X9_seed, seA, hc1], by rw [ht]; exact hP9, hD9⟩, hS.F ht⟩) hS.2.2 dX9_seed_6

abbrev c_X2_copyFrom (k : Nat → ClassId) (h : Nat) (q0 : Nat) (q1 : Nat) (q2 : Nat) (q3 : Nat) (q4 : Nat) (q5 : Nat) (q6 : Nat) (h2 : Nat) (z0 : Nat) (z1 : Nat) (z2 : Nat) (z3 : Nat) (z4 : Nat) (z5 : Nat) (z6 : Nat) (f0 : Nat → Int32) (f1 : Nat → Int32) (f2 : Nat → Int32) (f3 : Nat → Int32) (f4 : Nat → Int32) (f5 : Nat → Int32) (f6 : Nat → Int32) (g0 : Nat → Int32) (g1 : Nat → Int32) (g2 : Nat → Int32) (g3 : Nat → Int32) (g4 : Nat → Int32) (g5 : Nat → Int32) (g6 : Nat → Int32) (wa : Int32) (wb : Int32) (wc : Int32) (va : Int32) (vb : Int32) (vc : Int32) : va_W := [(h, .inr (2, [.ref q0, .ref q1, .ref q2, .ref q3, .ref q4, .ref q5, .ref q6, .int wa, .int wb, .int wc])), (q0, .inl (k 0, 3, .inl f0)), (q1, .inl (k 0, 3, .inl f1)), (q2, .inl (k 0, 3, .inl f2)), (q3, .inl (k 0, 3, .inl f3)), (q4, .inl (k 0, 3, .inl f4)), (q5, .inl (k 0, 3, .inl f5)), (q6, .inl (k 0, 3, .inl f6)), (h2, .inr (2, [.ref z0, .ref z1, .ref z2, .ref z3, .ref z4, .ref z5, .ref z6, .int va, .int vb, .int vc])), (z0, .inl (k 0, 3, .inl g0)), (z1, .inl (k 0, 3, .inl g1)), (z2, .inl (k 0, 3, .inl g2)), (z3, .inl (k 0, 3, .inl g3)), (z4, .inl (k 0, 3, .inl g4)), (z5, .inl (k 0, 3, .inl g5)), (z6, .inl (k 0, 3, .inl g6))]
abbrev r_X2_copyFrom : Room := { frames := 1, cells := 0, slots := 0, locals := 40 }
def w_X2_copyFrom (k : Nat → ClassId) (h : Nat) (q0 : Nat) (q1 : Nat) (q2 : Nat) (q3 : Nat) (q4 : Nat) (q5 : Nat) (q6 : Nat) (h2 : Nat) (z0 : Nat) (z1 : Nat) (z2 : Nat) (z3 : Nat) (z4 : Nat) (z5 : Nat) (z6 : Nat) (f0 : Nat → Int32) (f1 : Nat → Int32) (f2 : Nat → Int32) (f3 : Nat → Int32) (f4 : Nat → Int32) (f5 : Nat → Int32) (f6 : Nat → Int32) (g0 : Nat → Int32) (g1 : Nat → Int32) (g2 : Nat → Int32) (g3 : Nat → Int32) (g4 : Nat → Int32) (g5 : Nat → Int32) (g6 : Nat → Int32) (wa : Int32) (wb : Int32) (wc : Int32) (va : Int32) (vb : Int32) (vc : Int32) : Unit → va_W := fun _ => []
def p_X2_copyFrom (k : Nat → ClassId) (h : Nat) (q0 : Nat) (q1 : Nat) (q2 : Nat) (q3 : Nat) (q4 : Nat) (q5 : Nat) (q6 : Nat) (h2 : Nat) (z0 : Nat) (z1 : Nat) (z2 : Nat) (z3 : Nat) (z4 : Nat) (z5 : Nat) (z6 : Nat) (f0 : Nat → Int32) (f1 : Nat → Int32) (f2 : Nat → Int32) (f3 : Nat → Int32) (f4 : Nat → Int32) (f5 : Nat → Int32) (f6 : Nat → Int32) (g0 : Nat → Int32) (g1 : Nat → Int32) (g2 : Nat → Int32) (g3 : Nat → Int32) (g4 : Nat → Int32) (g5 : Nat → Int32) (g6 : Nat → Int32) (wa : Int32) (wb : Int32) (wc : Int32) (va : Int32) (vb : Int32) (vc : Int32) : Unit → Prop := fun (u : Unit) => True
abbrev q_X2_copyFrom (D : va_G) (k : Nat → ClassId) (h : Nat) (q0 : Nat) (q1 : Nat) (q2 : Nat) (q3 : Nat) (q4 : Nat) (q5 : Nat) (q6 : Nat) (h2 : Nat) (z0 : Nat) (z1 : Nat) (z2 : Nat) (z3 : Nat) (z4 : Nat) (z5 : Nat) (z6 : Nat) (f0 : Nat → Int32) (f1 : Nat → Int32) (f2 : Nat → Int32) (f3 : Nat → Int32) (f4 : Nat → Int32) (f5 : Nat → Int32) (f6 : Nat → Int32) (g0 : Nat → Int32) (g1 : Nat → Int32) (g2 : Nat → Int32) (g3 : Nat → Int32) (g4 : Nat → Int32) (g5 : Nat → Int32) (g6 : Nat → Int32) (wa : Int32) (wb : Int32) (wc : Int32) (va : Int32) (vb : Int32) (vc : Int32) (A : Nat → Prop) : Array Value → State → Outcome → State → Prop := va_Qv (p_X2_copyFrom k h q0 q1 q2 q3 q4 q5 q6 h2 z0 z1 z2 z3 z4 z5 z6 f0 f1 f2 f3 f4 f5 f6 g0 g1 g2 g3 g4 g5 g6 wa wb wc va vb vc) (fun u9 t9 => BO D (w_X2_copyFrom k h q0 q1 q2 q3 q4 q5 q6 h2 z0 z1 z2 z3 z4 z5 z6 f0 f1 f2 f3 f4 f5 f6 g0 g1 g2 g3 g4 g5 g6 wa wb wc va vb vc u9) A t9) A
set_option maxHeartbeats 2000000 in
set_option maxRecDepth 100000 in
theorem X2_copyFrom (l : Launch) (D : va_G) (k : Nat → ClassId) (sz : Nat) (h : Nat) (q0 : Nat) (q1 : Nat) (q2 : Nat) (q3 : Nat) (q4 : Nat) (q5 : Nat) (q6 : Nat) (h2 : Nat) (z0 : Nat) (z1 : Nat) (z2 : Nat) (z3 : Nat) (z4 : Nat) (z5 : Nat) (z6 : Nat) (f0 : Nat → Int32) (f1 : Nat → Int32) (f2 : Nat → Int32) (f3 : Nat → Int32) (f4 : Nat → Int32) (f5 : Nat → Int32) (f6 : Nat → Int32) (g0 : Nat → Int32) (g1 : Nat → Int32) (g2 : Nat → Int32) (g3 : Nat → Int32) (g4 : Nat → Int32) (g5 : Nat → Int32) (g6 : Nat → Int32) (wa : Int32) (wb : Int32) (wc : Int32) (va : Int32) (vb : Int32) (vc : Int32)  : Met l yX2_copyFrom wsX2_copyFrom r_X2_copyFrom (va_Pc [.ref h, .ref h2] (PR D k (c_X2_copyFrom k h q0 q1 q2 q3 q4 q5 q6 h2 z0 z1 z2 z3 z4 z5 z6 f0 f1 f2 f3 f4 f5 f6 g0 g1 g2 g3 g4 g5 g6 wa wb wc va vb vc) sz)) (q_X2_copyFrom D k h q0 q1 q2 q3 q4 q5 q6 h2 z0 z1 z2 z3 z4 z5 z6 f0 f1 f2 f3 f4 f5 f6 g0 g1 g2 g3 g4 g5 g6 wa wb wc va vb vc (va_A (c_X2_copyFrom k h q0 q1 q2 q3 q4 q5 q6 h2 z0 z1 z2 z3 z4 z5 z6 f0 f1 f2 f3 f4 f5 f6 g0 g1 g2 g3 g4 g5 g6 wa wb wc va vb vc) sz)) 0 0 (va_A (c_X2_copyFrom k h q0 q1 q2 q3 q4 q5 q6 h2 z0 z1 z2 z3 z4 z5 z6 f0 f1 f2 f3 f4 f5 f6 g0 g1 g2 g3 g4 g5 g6 wa wb wc va vb vc) sz) := by
  refine Met.ofW (cc := cX2_copyFrom) (maxL := 2) (ret := none) (by decide) rfl ?_
  intro p e s m args below meth c s₁ B hml hv
  obtain ⟨rfl, hsz, hP, hG, hD0⟩ := hv
  have hx := B.exec
  have hb := B.bytes
  have hr := B.returns
  have hts := atoms_spec (ws := wsX2_copyFrom) B.pre
  have hown : s.vm.findClass RX2 = some m.cls := findClass_of_methodNamed B.named
  have hlocks := B.notSynchronized
  have hi2 : ∀ w ∈ wsX20, w ∈ wsX2_copyFrom := fun _ h => List.mem_cons_of_mem _ (List.mem_append_right _ h)
  subst hsz
  have hD := hD0.self (sz := s.heap.size)
  generalize hAe : va_A (c_X2_copyFrom k h q0 q1 q2 q3 q4 q5 q6 h2 z0 z1 z2 z3 z4 z5 z6 f0 f1 f2 f3 f4 f5 f6 g0 g1 g2 g3 g4 g5 g6 wa wb wc va vb vc) s.heap.size = A at hD ⊢
  have hA : ∀ q : Nat, s.heap.size ≤ q → A q := fun q h => by rw [← hAe]; exact Or.inr h
  have hS : va_S A s.heap s.heap [] := va_S.rf
  have hP : va_P D vwCl [(h, .inr (2, [.ref q0, .ref q1, .ref q2, .ref q3, .ref q4, .ref q5, .ref q6, .int wa, .int wb, .int wc])), (q0, .inl (k 0, 3, .inl f0)), (q1, .inl (k 0, 3, .inl f1)), (q2, .inl (k 0, 3, .inl f2)), (q3, .inl (k 0, 3, .inl f3)), (q4, .inl (k 0, 3, .inl f4)), (q5, .inl (k 0, 3, .inl f5)), (q6, .inl (k 0, 3, .inl f6)), (h2, .inr (2, [.ref z0, .ref z1, .ref z2, .ref z3, .ref z4, .ref z5, .ref z6, .int va, .int vb, .int vc])), (z0, .inl (k 0, 3, .inl g0)), (z1, .inl (k 0, 3, .inl g1)), (z2, .inl (k 0, 3, .inl g2)), (z3, .inl (k 0, 3, .inl g3)), (z4, .inl (k 0, 3, .inl g4)), (z5, .inl (k 0, 3, .inl g5)), (z6, .inl (k 0, 3, .inl g6))] s.heap := hP
  have hD : va_D A [(h, .inr (2, [.ref q0, .ref q1, .ref q2, .ref q3, .ref q4, .ref q5, .ref q6, .int wa, .int wb, .int wc])), (q0, .inl (k 0, 3, .inl f0)), (q1, .inl (k 0, 3, .inl f1)), (q2, .inl (k 0, 3, .inl f2)), (q3, .inl (k 0, 3, .inl f3)), (q4, .inl (k 0, 3, .inl f4)), (q5, .inl (k 0, 3, .inl f5)), (q6, .inl (k 0, 3, .inl f6)), (h2, .inr (2, [.ref z0, .ref z1, .ref z2, .ref z3, .ref z4, .ref z5, .ref z6, .int va, .int vb, .int vc])), (z0, .inl (k 0, 3, .inl g0)), (z1, .inl (k 0, 3, .inl g1)), (z2, .inl (k 0, 3, .inl g2)), (z3, .inl (k 0, 3, .inl g3)), (z4, .inl (k 0, 3, .inl g4)), (z5, .inl (k 0, 3, .inl g5)), (z6, .inl (k 0, 3, .inl g6))] := hD
  have hl := lv_entry ([.ref h, .ref h2]) (n := 2) (Nat.le_of_ble_eq_true rfl)
  rw [lg_entry_eq]
  generalize (lg_sl ([.ref h, .ref h2]) ++ List.replicate (2 - (lg_sl ([.ref h, .ref h2])).length) Slot.unset).toArray = ls at hl ⊢
  have hl : lv_has ls 2 [(0, .ref h), (1, .ref h2)] := hl
  refine lv_aload_n hx hb dX2_copyFrom_0 rfl (lv_at hl 1 rfl) ?_
  refine va_get (D := D) (ci := 2) (v := .ref z0) (C := RX2) (T := TX2) (N := 10) hx hb hts hi2 hown hG.1 hP 8 rfl rfl 0 (by decide) (hts (.fieldLink RX2 9 "SleptMatters$Course" "sleepers" "[I") (List.mem_cons_of_mem _ (List.mem_append_left _ (List.mem_of_getElem? (i := 0) rfl)))) (fun _ h9 => h9) rfl dX2_copyFrom_1 ?_
  refine lv_iconst (v := 0) hx hb dX2_copyFrom_4 (by decide) ?_
  refine lv_aload_n hx hb dX2_copyFrom_5 rfl (lv_at hl 0 rfl) ?_
  refine va_get (D := D) (ci := 2) (v := .ref q0) (C := RX2) (T := TX2) (N := 10) hx hb hts hi2 hown hG.1 hP 0 rfl rfl 0 (by decide) (hts (.fieldLink RX2 9 "SleptMatters$Course" "sleepers" "[I") (List.mem_cons_of_mem _ (List.mem_append_left _ (List.mem_of_getElem? (i := 0) rfl)))) (fun _ h9 => h9) rfl dX2_copyFrom_6 ?_
  refine lv_iconst (v := 0) hx hb dX2_copyFrom_9 (by decide) ?_
  refine lv_iconst (v := 3) hx hb dX2_copyFrom_10 (by decide) ?_
  refine va_copyi (ty := .int) hx hb (hml.trans hl.1.symm) hown (hts (.methodLink RX2 55 arraycopyName) (List.mem_cons_of_mem _ (List.mem_append_left _ (List.mem_of_getElem? (i := 1) rfl)))) (hts (.native arraycopyName) (List.mem_cons_of_mem _ (List.mem_append_left _ (List.mem_of_getElem? (i := 2) rfl)))) (hts (.static arraycopyName) (List.mem_cons_of_mem _ (List.mem_append_left _ (List.mem_of_getElem? (i := 3) rfl)))) (hts (.initialized "java/lang/System") (List.mem_cons_of_mem _ (List.mem_append_left _ (List.mem_of_getElem? (i := 4) rfl)))) hG.1 hP hD hS 9 1 0 0 rfl rfl rfl rfl rfl (by decide) (by decide) (by decide) (by decide) (by decide) (fun _ _ => rfl) (Nat.le_of_ble_eq_true rfl) (by decide +kernel) dX2_copyFrom_11 (fun H locs hP hD hS => ?_)
  have hP : va_P D vwCl [(h, .inr (2, [.ref q0, .ref q1, .ref q2, .ref q3, .ref q4, .ref q5, .ref q6, .int wa, .int wb, .int wc])), (q0, .inl (k 0, 3, .inl (va_cpy g0 f0 0 0 3))), (q1, .inl (k 0, 3, .inl f1)), (q2, .inl (k 0, 3, .inl f2)), (q3, .inl (k 0, 3, .inl f3)), (q4, .inl (k 0, 3, .inl f4)), (q5, .inl (k 0, 3, .inl f5)), (q6, .inl (k 0, 3, .inl f6)), (h2, .inr (2, [.ref z0, .ref z1, .ref z2, .ref z3, .ref z4, .ref z5, .ref z6, .int va, .int vb, .int vc])), (z0, .inl (k 0, 3, .inl g0)), (z1, .inl (k 0, 3, .inl g1)), (z2, .inl (k 0, 3, .inl g2)), (z3, .inl (k 0, 3, .inl g3)), (z4, .inl (k 0, 3, .inl g4)), (z5, .inl (k 0, 3, .inl g5)), (z6, .inl (k 0, 3, .inl g6))] H := hP
  have hD : va_D A [(h, .inr (2, [.ref q0, .ref q1, .ref q2, .ref q3, .ref q4, .ref q5, .ref q6, .int wa, .int wb, .int wc])), (q0, .inl (k 0, 3, .inl (va_cpy g0 f0 0 0 3))), (q1, .inl (k 0, 3, .inl f1)), (q2, .inl (k 0, 3, .inl f2)), (q3, .inl (k 0, 3, .inl f3)), (q4, .inl (k 0, 3, .inl f4)), (q5, .inl (k 0, 3, .inl f5)), (q6, .inl (k 0, 3, .inl f6)), (h2, .inr (2, [.ref z0, .ref z1, .ref z2, .ref z3, .ref z4, .ref z5, .ref z6, .int va, .int vb, .int vc])), (z0, .inl (k 0, 3, .inl g0)), (z1, .inl (k 0, 3, .inl g1)), (z2, .inl (k 0, 3, .inl g2)), (z3, .inl (k 0, 3, .inl g3)), (z4, .inl (k 0, 3, .inl g4)), (z5, .inl (k 0, 3, .inl g5)), (z6, .inl (k 0, 3, .inl g6))] := hD
  refine lv_aload_n hx hb dX2_copyFrom_14 rfl (lv_at hl 1 rfl) ?_
  refine va_get (D := D) (ci := 2) (v := .ref z1) (C := RX2) (T := TX2) (N := 10) hx hb hts hi2 hown hG.1 hP 8 rfl rfl 1 (by decide) (hts (.fieldLink RX2 15 "SleptMatters$Course" "houses" "[I") (List.mem_cons_of_mem _ (List.mem_append_left _ (List.mem_of_getElem? (i := 5) rfl)))) (fun _ h9 => h9) rfl dX2_copyFrom_15 ?_
  refine lv_iconst (v := 0) hx hb dX2_copyFrom_18 (by decide) ?_
  refine lv_aload_n hx hb dX2_copyFrom_19 rfl (lv_at hl 0 rfl) ?_
  refine va_get (D := D) (ci := 2) (v := .ref q1) (C := RX2) (T := TX2) (N := 10) hx hb hts hi2 hown hG.1 hP 0 rfl rfl 1 (by decide) (hts (.fieldLink RX2 15 "SleptMatters$Course" "houses" "[I") (List.mem_cons_of_mem _ (List.mem_append_left _ (List.mem_of_getElem? (i := 5) rfl)))) (fun _ h9 => h9) rfl dX2_copyFrom_20 ?_
  refine lv_iconst (v := 0) hx hb dX2_copyFrom_23 (by decide) ?_
  refine lv_iconst (v := 3) hx hb dX2_copyFrom_24 (by decide) ?_
  refine va_copyi (ty := .int) hx hb (hml.trans hl.1.symm) hown (hts (.methodLink RX2 55 arraycopyName) (List.mem_cons_of_mem _ (List.mem_append_left _ (List.mem_of_getElem? (i := 1) rfl)))) (hts (.native arraycopyName) (List.mem_cons_of_mem _ (List.mem_append_left _ (List.mem_of_getElem? (i := 2) rfl)))) (hts (.static arraycopyName) (List.mem_cons_of_mem _ (List.mem_append_left _ (List.mem_of_getElem? (i := 3) rfl)))) (hts (.initialized "java/lang/System") (List.mem_cons_of_mem _ (List.mem_append_left _ (List.mem_of_getElem? (i := 4) rfl)))) hG.1 hP hD hS 10 2 0 0 rfl rfl rfl rfl rfl (by decide) (by decide) (by decide) (by decide) (by decide) (fun _ _ => rfl) (Nat.le_of_ble_eq_true rfl) (by decide +kernel) dX2_copyFrom_25 (fun H locs hP hD hS => ?_)
  have hP : va_P D vwCl [(h, .inr (2, [.ref q0, .ref q1, .ref q2, .ref q3, .ref q4, .ref q5, .ref q6, .int wa, .int wb, .int wc])), (q0, .inl (k 0, 3, .inl (va_cpy g0 f0 0 0 3))), (q1, .inl (k 0, 3, .inl (va_cpy g1 f1 0 0 3))), (q2, .inl (k 0, 3, .inl f2)), (q3, .inl (k 0, 3, .inl f3)), (q4, .inl (k 0, 3, .inl f4)), (q5, .inl (k 0, 3, .inl f5)), (q6, .inl (k 0, 3, .inl f6)), (h2, .inr (2, [.ref z0, .ref z1, .ref z2, .ref z3, .ref z4, .ref z5, .ref z6, .int va, .int vb, .int vc])), (z0, .inl (k 0, 3, .inl g0)), (z1, .inl (k 0, 3, .inl g1)), (z2, .inl (k 0, 3, .inl g2)), (z3, .inl (k 0, 3, .inl g3)), (z4, .inl (k 0, 3, .inl g4)), (z5, .inl (k 0, 3, .inl g5)), (z6, .inl (k 0, 3, .inl g6))] H := hP
  have hD : va_D A [(h, .inr (2, [.ref q0, .ref q1, .ref q2, .ref q3, .ref q4, .ref q5, .ref q6, .int wa, .int wb, .int wc])), (q0, .inl (k 0, 3, .inl (va_cpy g0 f0 0 0 3))), (q1, .inl (k 0, 3, .inl (va_cpy g1 f1 0 0 3))), (q2, .inl (k 0, 3, .inl f2)), (q3, .inl (k 0, 3, .inl f3)), (q4, .inl (k 0, 3, .inl f4)), (q5, .inl (k 0, 3, .inl f5)), (q6, .inl (k 0, 3, .inl f6)), (h2, .inr (2, [.ref z0, .ref z1, .ref z2, .ref z3, .ref z4, .ref z5, .ref z6, .int va, .int vb, .int vc])), (z0, .inl (k 0, 3, .inl g0)), (z1, .inl (k 0, 3, .inl g1)), (z2, .inl (k 0, 3, .inl g2)), (z3, .inl (k 0, 3, .inl g3)), (z4, .inl (k 0, 3, .inl g4)), (z5, .inl (k 0, 3, .inl g5)), (z6, .inl (k 0, 3, .inl g6))] := hD
  refine lv_aload_n hx hb dX2_copyFrom_28 rfl (lv_at hl 1 rfl) ?_
  refine va_get (D := D) (ci := 2) (v := .ref z2) (C := RX2) (T := TX2) (N := 10) hx hb hts hi2 hown hG.1 hP 8 rfl rfl 2 (by decide) (hts (.fieldLink RX2 18 "SleptMatters$Course" "yes" "[I") (List.mem_cons_of_mem _ (List.mem_append_left _ (List.mem_of_getElem? (i := 6) rfl)))) (fun _ h9 => h9) rfl dX2_copyFrom_29 ?_
  refine lv_iconst (v := 0) hx hb dX2_copyFrom_32 (by decide) ?_
  refine lv_aload_n hx hb dX2_copyFrom_33 rfl (lv_at hl 0 rfl) ?_
  refine va_get (D := D) (ci := 2) (v := .ref q2) (C := RX2) (T := TX2) (N := 10) hx hb hts hi2 hown hG.1 hP 0 rfl rfl 2 (by decide) (hts (.fieldLink RX2 18 "SleptMatters$Course" "yes" "[I") (List.mem_cons_of_mem _ (List.mem_append_left _ (List.mem_of_getElem? (i := 6) rfl)))) (fun _ h9 => h9) rfl dX2_copyFrom_34 ?_
  refine lv_iconst (v := 0) hx hb dX2_copyFrom_37 (by decide) ?_
  refine lv_iconst (v := 3) hx hb dX2_copyFrom_38 (by decide) ?_
  refine va_copyi (ty := .int) hx hb (hml.trans hl.1.symm) hown (hts (.methodLink RX2 55 arraycopyName) (List.mem_cons_of_mem _ (List.mem_append_left _ (List.mem_of_getElem? (i := 1) rfl)))) (hts (.native arraycopyName) (List.mem_cons_of_mem _ (List.mem_append_left _ (List.mem_of_getElem? (i := 2) rfl)))) (hts (.static arraycopyName) (List.mem_cons_of_mem _ (List.mem_append_left _ (List.mem_of_getElem? (i := 3) rfl)))) (hts (.initialized "java/lang/System") (List.mem_cons_of_mem _ (List.mem_append_left _ (List.mem_of_getElem? (i := 4) rfl)))) hG.1 hP hD hS 11 3 0 0 rfl rfl rfl rfl rfl (by decide) (by decide) (by decide) (by decide) (by decide) (fun _ _ => rfl) (Nat.le_of_ble_eq_true rfl) (by decide +kernel) dX2_copyFrom_39 (fun H locs hP hD hS => ?_)
  have hP : va_P D vwCl [(h, .inr (2, [.ref q0, .ref q1, .ref q2, .ref q3, .ref q4, .ref q5, .ref q6, .int wa, .int wb, .int wc])), (q0, .inl (k 0, 3, .inl (va_cpy g0 f0 0 0 3))), (q1, .inl (k 0, 3, .inl (va_cpy g1 f1 0 0 3))), (q2, .inl (k 0, 3, .inl (va_cpy g2 f2 0 0 3))), (q3, .inl (k 0, 3, .inl f3)), (q4, .inl (k 0, 3, .inl f4)), (q5, .inl (k 0, 3, .inl f5)), (q6, .inl (k 0, 3, .inl f6)), (h2, .inr (2, [.ref z0, .ref z1, .ref z2, .ref z3, .ref z4, .ref z5, .ref z6, .int va, .int vb, .int vc])), (z0, .inl (k 0, 3, .inl g0)), (z1, .inl (k 0, 3, .inl g1)), (z2, .inl (k 0, 3, .inl g2)), (z3, .inl (k 0, 3, .inl g3)), (z4, .inl (k 0, 3, .inl g4)), (z5, .inl (k 0, 3, .inl g5)), (z6, .inl (k 0, 3, .inl g6))] H := hP
  have hD : va_D A [(h, .inr (2, [.ref q0, .ref q1, .ref q2, .ref q3, .ref q4, .ref q5, .ref q6, .int wa, .int wb, .int wc])), (q0, .inl (k 0, 3, .inl (va_cpy g0 f0 0 0 3))), (q1, .inl (k 0, 3, .inl (va_cpy g1 f1 0 0 3))), (q2, .inl (k 0, 3, .inl (va_cpy g2 f2 0 0 3))), (q3, .inl (k 0, 3, .inl f3)), (q4, .inl (k 0, 3, .inl f4)), (q5, .inl (k 0, 3, .inl f5)), (q6, .inl (k 0, 3, .inl f6)), (h2, .inr (2, [.ref z0, .ref z1, .ref z2, .ref z3, .ref z4, .ref z5, .ref z6, .int va, .int vb, .int vc])), (z0, .inl (k 0, 3, .inl g0)), (z1, .inl (k 0, 3, .inl g1)), (z2, .inl (k 0, 3, .inl g2)), (z3, .inl (k 0, 3, .inl g3)), (z4, .inl (k 0, 3, .inl g4)), (z5, .inl (k 0, 3, .inl g5)), (z6, .inl (k 0, 3, .inl g6))] := hD
  refine lv_aload_n hx hb dX2_copyFrom_42 rfl (lv_at hl 1 rfl) ?_
  refine va_get (D := D) (ci := 2) (v := .ref z3) (C := RX2) (T := TX2) (N := 10) hx hb hts hi2 hown hG.1 hP 8 rfl rfl 3 (by decide) (hts (.fieldLink RX2 21 "SleptMatters$Course" "outcome" "[I") (List.mem_cons_of_mem _ (List.mem_append_left _ (List.mem_of_getElem? (i := 7) rfl)))) (fun _ h9 => h9) rfl dX2_copyFrom_43 ?_
  refine lv_iconst (v := 0) hx hb dX2_copyFrom_46 (by decide) ?_
  refine lv_aload_n hx hb dX2_copyFrom_47 rfl (lv_at hl 0 rfl) ?_
  refine va_get (D := D) (ci := 2) (v := .ref q3) (C := RX2) (T := TX2) (N := 10) hx hb hts hi2 hown hG.1 hP 0 rfl rfl 3 (by decide) (hts (.fieldLink RX2 21 "SleptMatters$Course" "outcome" "[I") (List.mem_cons_of_mem _ (List.mem_append_left _ (List.mem_of_getElem? (i := 7) rfl)))) (fun _ h9 => h9) rfl dX2_copyFrom_48 ?_
  refine lv_iconst (v := 0) hx hb dX2_copyFrom_51 (by decide) ?_
  refine lv_iconst (v := 3) hx hb dX2_copyFrom_52 (by decide) ?_
  refine va_copyi (ty := .int) hx hb (hml.trans hl.1.symm) hown (hts (.methodLink RX2 55 arraycopyName) (List.mem_cons_of_mem _ (List.mem_append_left _ (List.mem_of_getElem? (i := 1) rfl)))) (hts (.native arraycopyName) (List.mem_cons_of_mem _ (List.mem_append_left _ (List.mem_of_getElem? (i := 2) rfl)))) (hts (.static arraycopyName) (List.mem_cons_of_mem _ (List.mem_append_left _ (List.mem_of_getElem? (i := 3) rfl)))) (hts (.initialized "java/lang/System") (List.mem_cons_of_mem _ (List.mem_append_left _ (List.mem_of_getElem? (i := 4) rfl)))) hG.1 hP hD hS 12 4 0 0 rfl rfl rfl rfl rfl (by decide) (by decide) (by decide) (by decide) (by decide) (fun _ _ => rfl) (Nat.le_of_ble_eq_true rfl) (by decide +kernel) dX2_copyFrom_53 (fun H locs hP hD hS => ?_)
  have hP : va_P D vwCl [(h, .inr (2, [.ref q0, .ref q1, .ref q2, .ref q3, .ref q4, .ref q5, .ref q6, .int wa, .int wb, .int wc])), (q0, .inl (k 0, 3, .inl (va_cpy g0 f0 0 0 3))), (q1, .inl (k 0, 3, .inl (va_cpy g1 f1 0 0 3))), (q2, .inl (k 0, 3, .inl (va_cpy g2 f2 0 0 3))), (q3, .inl (k 0, 3, .inl (va_cpy g3 f3 0 0 3))), (q4, .inl (k 0, 3, .inl f4)), (q5, .inl (k 0, 3, .inl f5)), (q6, .inl (k 0, 3, .inl f6)), (h2, .inr (2, [.ref z0, .ref z1, .ref z2, .ref z3, .ref z4, .ref z5, .ref z6, .int va, .int vb, .int vc])), (z0, .inl (k 0, 3, .inl g0)), (z1, .inl (k 0, 3, .inl g1)), (z2, .inl (k 0, 3, .inl g2)), (z3, .inl (k 0, 3, .inl g3)), (z4, .inl (k 0, 3, .inl g4)), (z5, .inl (k 0, 3, .inl g5)), (z6, .inl (k 0, 3, .inl g6))] H := hP
  have hD : va_D A [(h, .inr (2, [.ref q0, .ref q1, .ref q2, .ref q3, .ref q4, .ref q5, .ref q6, .int wa, .int wb, .int wc])), (q0, .inl (k 0, 3, .inl (va_cpy g0 f0 0 0 3))), (q1, .inl (k 0, 3, .inl (va_cpy g1 f1 0 0 3))), (q2, .inl (k 0, 3, .inl (va_cpy g2 f2 0 0 3))), (q3, .inl (k 0, 3, .inl (va_cpy g3 f3 0 0 3))), (q4, .inl (k 0, 3, .inl f4)), (q5, .inl (k 0, 3, .inl f5)), (q6, .inl (k 0, 3, .inl f6)), (h2, .inr (2, [.ref z0, .ref z1, .ref z2, .ref z3, .ref z4, .ref z5, .ref z6, .int va, .int vb, .int vc])), (z0, .inl (k 0, 3, .inl g0)), (z1, .inl (k 0, 3, .inl g1)), (z2, .inl (k 0, 3, .inl g2)), (z3, .inl (k 0, 3, .inl g3)), (z4, .inl (k 0, 3, .inl g4)), (z5, .inl (k 0, 3, .inl g5)), (z6, .inl (k 0, 3, .inl g6))] := hD
  refine lv_aload_n hx hb dX2_copyFrom_56 rfl (lv_at hl 1 rfl) ?_
  refine va_get (D := D) (ci := 2) (v := .ref z4) (C := RX2) (T := TX2) (N := 10) hx hb hts hi2 hown hG.1 hP 8 rfl rfl 4 (by decide) (hts (.fieldLink RX2 24 "SleptMatters$Course" "decidedOn" "[I") (List.mem_cons_of_mem _ (List.mem_append_left _ (List.mem_of_getElem? (i := 8) rfl)))) (fun _ h9 => h9) rfl dX2_copyFrom_57 ?_
  refine lv_iconst (v := 0) hx hb dX2_copyFrom_60 (by decide) ?_
  refine lv_aload_n hx hb dX2_copyFrom_61 rfl (lv_at hl 0 rfl) ?_
  refine va_get (D := D) (ci := 2) (v := .ref q4) (C := RX2) (T := TX2) (N := 10) hx hb hts hi2 hown hG.1 hP 0 rfl rfl 4 (by decide) (hts (.fieldLink RX2 24 "SleptMatters$Course" "decidedOn" "[I") (List.mem_cons_of_mem _ (List.mem_append_left _ (List.mem_of_getElem? (i := 8) rfl)))) (fun _ h9 => h9) rfl dX2_copyFrom_62 ?_
  refine lv_iconst (v := 0) hx hb dX2_copyFrom_65 (by decide) ?_
  refine lv_iconst (v := 3) hx hb dX2_copyFrom_66 (by decide) ?_
  refine va_copyi (ty := .int) hx hb (hml.trans hl.1.symm) hown (hts (.methodLink RX2 55 arraycopyName) (List.mem_cons_of_mem _ (List.mem_append_left _ (List.mem_of_getElem? (i := 1) rfl)))) (hts (.native arraycopyName) (List.mem_cons_of_mem _ (List.mem_append_left _ (List.mem_of_getElem? (i := 2) rfl)))) (hts (.static arraycopyName) (List.mem_cons_of_mem _ (List.mem_append_left _ (List.mem_of_getElem? (i := 3) rfl)))) (hts (.initialized "java/lang/System") (List.mem_cons_of_mem _ (List.mem_append_left _ (List.mem_of_getElem? (i := 4) rfl)))) hG.1 hP hD hS 13 5 0 0 rfl rfl rfl rfl rfl (by decide) (by decide) (by decide) (by decide) (by decide) (fun _ _ => rfl) (Nat.le_of_ble_eq_true rfl) (by decide +kernel) dX2_copyFrom_67 (fun H locs hP hD hS => ?_)
  have hP : va_P D vwCl [(h, .inr (2, [.ref q0, .ref q1, .ref q2, .ref q3, .ref q4, .ref q5, .ref q6, .int wa, .int wb, .int wc])), (q0, .inl (k 0, 3, .inl (va_cpy g0 f0 0 0 3))), (q1, .inl (k 0, 3, .inl (va_cpy g1 f1 0 0 3))), (q2, .inl (k 0, 3, .inl (va_cpy g2 f2 0 0 3))), (q3, .inl (k 0, 3, .inl (va_cpy g3 f3 0 0 3))), (q4, .inl (k 0, 3, .inl (va_cpy g4 f4 0 0 3))), (q5, .inl (k 0, 3, .inl f5)), (q6, .inl (k 0, 3, .inl f6)), (h2, .inr (2, [.ref z0, .ref z1, .ref z2, .ref z3, .ref z4, .ref z5, .ref z6, .int va, .int vb, .int vc])), (z0, .inl (k 0, 3, .inl g0)), (z1, .inl (k 0, 3, .inl g1)), (z2, .inl (k 0, 3, .inl g2)), (z3, .inl (k 0, 3, .inl g3)), (z4, .inl (k 0, 3, .inl g4)), (z5, .inl (k 0, 3, .inl g5)), (z6, .inl (k 0, 3, .inl g6))] H := hP
  have hD : va_D A [(h, .inr (2, [.ref q0, .ref q1, .ref q2, .ref q3, .ref q4, .ref q5, .ref q6, .int wa, .int wb, .int wc])), (q0, .inl (k 0, 3, .inl (va_cpy g0 f0 0 0 3))), (q1, .inl (k 0, 3, .inl (va_cpy g1 f1 0 0 3))), (q2, .inl (k 0, 3, .inl (va_cpy g2 f2 0 0 3))), (q3, .inl (k 0, 3, .inl (va_cpy g3 f3 0 0 3))), (q4, .inl (k 0, 3, .inl (va_cpy g4 f4 0 0 3))), (q5, .inl (k 0, 3, .inl f5)), (q6, .inl (k 0, 3, .inl f6)), (h2, .inr (2, [.ref z0, .ref z1, .ref z2, .ref z3, .ref z4, .ref z5, .ref z6, .int va, .int vb, .int vc])), (z0, .inl (k 0, 3, .inl g0)), (z1, .inl (k 0, 3, .inl g1)), (z2, .inl (k 0, 3, .inl g2)), (z3, .inl (k 0, 3, .inl g3)), (z4, .inl (k 0, 3, .inl g4)), (z5, .inl (k 0, 3, .inl g5)), (z6, .inl (k 0, 3, .inl g6))] := hD
  refine lv_aload_n hx hb dX2_copyFrom_70 rfl (lv_at hl 1 rfl) ?_
  refine va_get (D := D) (ci := 2) (v := .ref z5) (C := RX2) (T := TX2) (N := 10) hx hb hts hi2 hown hG.1 hP 8 rfl rfl 5 (by decide) (hts (.fieldLink RX2 27 "SleptMatters$Course" "laidSleeper" "[I") (List.mem_cons_of_mem _ (List.mem_append_left _ (List.mem_of_getElem? (i := 9) rfl)))) (fun _ h9 => h9) rfl dX2_copyFrom_71 ?_
  refine lv_iconst (v := 0) hx hb dX2_copyFrom_74 (by decide) ?_
  refine lv_aload_n hx hb dX2_copyFrom_75 rfl (lv_at hl 0 rfl) ?_
  refine va_get (D := D) (ci := 2) (v := .ref q5) (C := RX2) (T := TX2) (N := 10) hx hb hts hi2 hown hG.1 hP 0 rfl rfl 5 (by decide) (hts (.fieldLink RX2 27 "SleptMatters$Course" "laidSleeper" "[I") (List.mem_cons_of_mem _ (List.mem_append_left _ (List.mem_of_getElem? (i := 9) rfl)))) (fun _ h9 => h9) rfl dX2_copyFrom_76 ?_
  refine lv_iconst (v := 0) hx hb dX2_copyFrom_79 (by decide) ?_
  refine lv_iconst (v := 3) hx hb dX2_copyFrom_80 (by decide) ?_
  refine va_copyi (ty := .int) hx hb (hml.trans hl.1.symm) hown (hts (.methodLink RX2 55 arraycopyName) (List.mem_cons_of_mem _ (List.mem_append_left _ (List.mem_of_getElem? (i := 1) rfl)))) (hts (.native arraycopyName) (List.mem_cons_of_mem _ (List.mem_append_left _ (List.mem_of_getElem? (i := 2) rfl)))) (hts (.static arraycopyName) (List.mem_cons_of_mem _ (List.mem_append_left _ (List.mem_of_getElem? (i := 3) rfl)))) (hts (.initialized "java/lang/System") (List.mem_cons_of_mem _ (List.mem_append_left _ (List.mem_of_getElem? (i := 4) rfl)))) hG.1 hP hD hS 14 6 0 0 rfl rfl rfl rfl rfl (by decide) (by decide) (by decide) (by decide) (by decide) (fun _ _ => rfl) (Nat.le_of_ble_eq_true rfl) (by decide +kernel) dX2_copyFrom_81 (fun H locs hP hD hS => ?_)
  have hP : va_P D vwCl [(h, .inr (2, [.ref q0, .ref q1, .ref q2, .ref q3, .ref q4, .ref q5, .ref q6, .int wa, .int wb, .int wc])), (q0, .inl (k 0, 3, .inl (va_cpy g0 f0 0 0 3))), (q1, .inl (k 0, 3, .inl (va_cpy g1 f1 0 0 3))), (q2, .inl (k 0, 3, .inl (va_cpy g2 f2 0 0 3))), (q3, .inl (k 0, 3, .inl (va_cpy g3 f3 0 0 3))), (q4, .inl (k 0, 3, .inl (va_cpy g4 f4 0 0 3))), (q5, .inl (k 0, 3, .inl (va_cpy g5 f5 0 0 3))), (q6, .inl (k 0, 3, .inl f6)), (h2, .inr (2, [.ref z0, .ref z1, .ref z2, .ref z3, .ref z4, .ref z5, .ref z6, .int va, .int vb, .int vc])), (z0, .inl (k 0, 3, .inl g0)), (z1, .inl (k 0, 3, .inl g1)), (z2, .inl (k 0, 3, .inl g2)), (z3, .inl (k 0, 3, .inl g3)), (z4, .inl (k 0, 3, .inl g4)), (z5, .inl (k 0, 3, .inl g5)), (z6, .inl (k 0, 3, .inl g6))] H := hP
  have hD : va_D A [(h, .inr (2, [.ref q0, .ref q1, .ref q2, .ref q3, .ref q4, .ref q5, .ref q6, .int wa, .int wb, .int wc])), (q0, .inl (k 0, 3, .inl (va_cpy g0 f0 0 0 3))), (q1, .inl (k 0, 3, .inl (va_cpy g1 f1 0 0 3))), (q2, .inl (k 0, 3, .inl (va_cpy g2 f2 0 0 3))), (q3, .inl (k 0, 3, .inl (va_cpy g3 f3 0 0 3))), (q4, .inl (k 0, 3, .inl (va_cpy g4 f4 0 0 3))), (q5, .inl (k 0, 3, .inl (va_cpy g5 f5 0 0 3))), (q6, .inl (k 0, 3, .inl f6)), (h2, .inr (2, [.ref z0, .ref z1, .ref z2, .ref z3, .ref z4, .ref z5, .ref z6, .int va, .int vb, .int vc])), (z0, .inl (k 0, 3, .inl g0)), (z1, .inl (k 0, 3, .inl g1)), (z2, .inl (k 0, 3, .inl g2)), (z3, .inl (k 0, 3, .inl g3)), (z4, .inl (k 0, 3, .inl g4)), (z5, .inl (k 0, 3, .inl g5)), (z6, .inl (k 0, 3, .inl g6))] := hD
  refine lv_aload_n hx hb dX2_copyFrom_84 rfl (lv_at hl 1 rfl) ?_
  refine va_get (D := D) (ci := 2) (v := .ref z6) (C := RX2) (T := TX2) (N := 10) hx hb hts hi2 hown hG.1 hP 8 rfl rfl 6 (by decide) (hts (.fieldLink RX2 30 "SleptMatters$Course" "laidHouse" "[I") (List.mem_cons_of_mem _ (List.mem_append_left _ (List.mem_of_getElem? (i := 10) rfl)))) (fun _ h9 => h9) rfl dX2_copyFrom_85 ?_
  refine lv_iconst (v := 0) hx hb dX2_copyFrom_88 (by decide) ?_
  refine lv_aload_n hx hb dX2_copyFrom_89 rfl (lv_at hl 0 rfl) ?_
  refine va_get (D := D) (ci := 2) (v := .ref q6) (C := RX2) (T := TX2) (N := 10) hx hb hts hi2 hown hG.1 hP 0 rfl rfl 6 (by decide) (hts (.fieldLink RX2 30 "SleptMatters$Course" "laidHouse" "[I") (List.mem_cons_of_mem _ (List.mem_append_left _ (List.mem_of_getElem? (i := 10) rfl)))) (fun _ h9 => h9) rfl dX2_copyFrom_90 ?_
  refine lv_iconst (v := 0) hx hb dX2_copyFrom_93 (by decide) ?_
  refine lv_iconst (v := 3) hx hb dX2_copyFrom_94 (by decide) ?_
  refine va_copyi (ty := .int) hx hb (hml.trans hl.1.symm) hown (hts (.methodLink RX2 55 arraycopyName) (List.mem_cons_of_mem _ (List.mem_append_left _ (List.mem_of_getElem? (i := 1) rfl)))) (hts (.native arraycopyName) (List.mem_cons_of_mem _ (List.mem_append_left _ (List.mem_of_getElem? (i := 2) rfl)))) (hts (.static arraycopyName) (List.mem_cons_of_mem _ (List.mem_append_left _ (List.mem_of_getElem? (i := 3) rfl)))) (hts (.initialized "java/lang/System") (List.mem_cons_of_mem _ (List.mem_append_left _ (List.mem_of_getElem? (i := 4) rfl)))) hG.1 hP hD hS 15 7 0 0 rfl rfl rfl rfl rfl (by decide) (by decide) (by decide) (by decide) (by decide) (fun _ _ => rfl) (Nat.le_of_ble_eq_true rfl) (by decide +kernel) dX2_copyFrom_95 (fun H locs hP hD hS => ?_)
  have hP : va_P D vwCl [(h, .inr (2, [.ref q0, .ref q1, .ref q2, .ref q3, .ref q4, .ref q5, .ref q6, .int wa, .int wb, .int wc])), (q0, .inl (k 0, 3, .inl (va_cpy g0 f0 0 0 3))), (q1, .inl (k 0, 3, .inl (va_cpy g1 f1 0 0 3))), (q2, .inl (k 0, 3, .inl (va_cpy g2 f2 0 0 3))), (q3, .inl (k 0, 3, .inl (va_cpy g3 f3 0 0 3))), (q4, .inl (k 0, 3, .inl (va_cpy g4 f4 0 0 3))), (q5, .inl (k 0, 3, .inl (va_cpy g5 f5 0 0 3))), (q6, .inl (k 0, 3, .inl (va_cpy g6 f6 0 0 3))), (h2, .inr (2, [.ref z0, .ref z1, .ref z2, .ref z3, .ref z4, .ref z5, .ref z6, .int va, .int vb, .int vc])), (z0, .inl (k 0, 3, .inl g0)), (z1, .inl (k 0, 3, .inl g1)), (z2, .inl (k 0, 3, .inl g2)), (z3, .inl (k 0, 3, .inl g3)), (z4, .inl (k 0, 3, .inl g4)), (z5, .inl (k 0, 3, .inl g5)), (z6, .inl (k 0, 3, .inl g6))] H := hP
  have hD : va_D A [(h, .inr (2, [.ref q0, .ref q1, .ref q2, .ref q3, .ref q4, .ref q5, .ref q6, .int wa, .int wb, .int wc])), (q0, .inl (k 0, 3, .inl (va_cpy g0 f0 0 0 3))), (q1, .inl (k 0, 3, .inl (va_cpy g1 f1 0 0 3))), (q2, .inl (k 0, 3, .inl (va_cpy g2 f2 0 0 3))), (q3, .inl (k 0, 3, .inl (va_cpy g3 f3 0 0 3))), (q4, .inl (k 0, 3, .inl (va_cpy g4 f4 0 0 3))), (q5, .inl (k 0, 3, .inl (va_cpy g5 f5 0 0 3))), (q6, .inl (k 0, 3, .inl (va_cpy g6 f6 0 0 3))), (h2, .inr (2, [.ref z0, .ref z1, .ref z2, .ref z3, .ref z4, .ref z5, .ref z6, .int va, .int vb, .int vc])), (z0, .inl (k 0, 3, .inl g0)), (z1, .inl (k 0, 3, .inl g1)), (z2, .inl (k 0, 3, .inl g2)), (z3, .inl (k 0, 3, .inl g3)), (z4, .inl (k 0, 3, .inl g4)), (z5, .inl (k 0, 3, .inl g5)), (z6, .inl (k 0, 3, .inl g6))] := hD
  refine lv_aload_n hx hb dX2_copyFrom_98 rfl (lv_at hl 0 rfl) ?_
  refine lv_aload_n hx hb dX2_copyFrom_99 rfl (lv_at hl 1 rfl) ?_
  refine va_get (D := D) (ci := 2) (v := .int va) (C := RX2) (T := TX2) (N := 10) hx hb hts hi2 hown hG.1 hP 8 rfl rfl 7 (by decide) (hts (.fieldLink RX2 33 "SleptMatters$Course" "wages" "I") (List.mem_cons_of_mem _ (List.mem_append_left _ (List.mem_of_getElem? (i := 11) rfl)))) (fun _ h9 => h9) rfl dX2_copyFrom_100 ?_
  refine va_put (D := D) (ci := 2) (v := .int va) (ty := .int) (C := RX2) (T := TX2) (N := 10) hx hb hts hi2 tyX2 tyX2_ok nmX2 hown hG.1 hP hD hS 0 rfl rfl 7 (by decide) (hts (.fieldLink RX2 33 "SleptMatters$Course" "wages" "I") (List.mem_cons_of_mem _ (List.mem_append_left _ (List.mem_of_getElem? (i := 11) rfl)))) (fun _ h9 => h9) rfl (by decide +kernel) rfl rfl (Nat.le_of_ble_eq_true rfl) dX2_copyFrom_103 (fun H locs hP hD hS => ?_)
  have hP : va_P D vwCl [(h, .inr (2, [.ref q0, .ref q1, .ref q2, .ref q3, .ref q4, .ref q5, .ref q6, .int va, .int wb, .int wc])), (q0, .inl (k 0, 3, .inl (va_cpy g0 f0 0 0 3))), (q1, .inl (k 0, 3, .inl (va_cpy g1 f1 0 0 3))), (q2, .inl (k 0, 3, .inl (va_cpy g2 f2 0 0 3))), (q3, .inl (k 0, 3, .inl (va_cpy g3 f3 0 0 3))), (q4, .inl (k 0, 3, .inl (va_cpy g4 f4 0 0 3))), (q5, .inl (k 0, 3, .inl (va_cpy g5 f5 0 0 3))), (q6, .inl (k 0, 3, .inl (va_cpy g6 f6 0 0 3))), (h2, .inr (2, [.ref z0, .ref z1, .ref z2, .ref z3, .ref z4, .ref z5, .ref z6, .int va, .int vb, .int vc])), (z0, .inl (k 0, 3, .inl g0)), (z1, .inl (k 0, 3, .inl g1)), (z2, .inl (k 0, 3, .inl g2)), (z3, .inl (k 0, 3, .inl g3)), (z4, .inl (k 0, 3, .inl g4)), (z5, .inl (k 0, 3, .inl g5)), (z6, .inl (k 0, 3, .inl g6))] H := hP
  have hD : va_D A [(h, .inr (2, [.ref q0, .ref q1, .ref q2, .ref q3, .ref q4, .ref q5, .ref q6, .int va, .int wb, .int wc])), (q0, .inl (k 0, 3, .inl (va_cpy g0 f0 0 0 3))), (q1, .inl (k 0, 3, .inl (va_cpy g1 f1 0 0 3))), (q2, .inl (k 0, 3, .inl (va_cpy g2 f2 0 0 3))), (q3, .inl (k 0, 3, .inl (va_cpy g3 f3 0 0 3))), (q4, .inl (k 0, 3, .inl (va_cpy g4 f4 0 0 3))), (q5, .inl (k 0, 3, .inl (va_cpy g5 f5 0 0 3))), (q6, .inl (k 0, 3, .inl (va_cpy g6 f6 0 0 3))), (h2, .inr (2, [.ref z0, .ref z1, .ref z2, .ref z3, .ref z4, .ref z5, .ref z6, .int va, .int vb, .int vc])), (z0, .inl (k 0, 3, .inl g0)), (z1, .inl (k 0, 3, .inl g1)), (z2, .inl (k 0, 3, .inl g2)), (z3, .inl (k 0, 3, .inl g3)), (z4, .inl (k 0, 3, .inl g4)), (z5, .inl (k 0, 3, .inl g5)), (z6, .inl (k 0, 3, .inl g6))] := hD
  refine lv_aload_n hx hb dX2_copyFrom_106 rfl (lv_at hl 0 rfl) ?_
  refine lv_aload_n hx hb dX2_copyFrom_107 rfl (lv_at hl 1 rfl) ?_
  refine va_get (D := D) (ci := 2) (v := .int vb) (C := RX2) (T := TX2) (N := 10) hx hb hts hi2 hown hG.1 hP 8 rfl rfl 8 (by decide) (hts (.fieldLink RX2 37 "SleptMatters$Course" "day" "I") (List.mem_cons_of_mem _ (List.mem_append_left _ (List.mem_of_getElem? (i := 12) rfl)))) (fun _ h9 => h9) rfl dX2_copyFrom_108 ?_
  refine va_put (D := D) (ci := 2) (v := .int vb) (ty := .int) (C := RX2) (T := TX2) (N := 10) hx hb hts hi2 tyX2 tyX2_ok nmX2 hown hG.1 hP hD hS 0 rfl rfl 8 (by decide) (hts (.fieldLink RX2 37 "SleptMatters$Course" "day" "I") (List.mem_cons_of_mem _ (List.mem_append_left _ (List.mem_of_getElem? (i := 12) rfl)))) (fun _ h9 => h9) rfl (by decide +kernel) rfl rfl (Nat.le_of_ble_eq_true rfl) dX2_copyFrom_111 (fun H locs hP hD hS => ?_)
  have hP : va_P D vwCl [(h, .inr (2, [.ref q0, .ref q1, .ref q2, .ref q3, .ref q4, .ref q5, .ref q6, .int va, .int vb, .int wc])), (q0, .inl (k 0, 3, .inl (va_cpy g0 f0 0 0 3))), (q1, .inl (k 0, 3, .inl (va_cpy g1 f1 0 0 3))), (q2, .inl (k 0, 3, .inl (va_cpy g2 f2 0 0 3))), (q3, .inl (k 0, 3, .inl (va_cpy g3 f3 0 0 3))), (q4, .inl (k 0, 3, .inl (va_cpy g4 f4 0 0 3))), (q5, .inl (k 0, 3, .inl (va_cpy g5 f5 0 0 3))), (q6, .inl (k 0, 3, .inl (va_cpy g6 f6 0 0 3))), (h2, .inr (2, [.ref z0, .ref z1, .ref z2, .ref z3, .ref z4, .ref z5, .ref z6, .int va, .int vb, .int vc])), (z0, .inl (k 0, 3, .inl g0)), (z1, .inl (k 0, 3, .inl g1)), (z2, .inl (k 0, 3, .inl g2)), (z3, .inl (k 0, 3, .inl g3)), (z4, .inl (k 0, 3, .inl g4)), (z5, .inl (k 0, 3, .inl g5)), (z6, .inl (k 0, 3, .inl g6))] H := hP
  have hD : va_D A [(h, .inr (2, [.ref q0, .ref q1, .ref q2, .ref q3, .ref q4, .ref q5, .ref q6, .int va, .int vb, .int wc])), (q0, .inl (k 0, 3, .inl (va_cpy g0 f0 0 0 3))), (q1, .inl (k 0, 3, .inl (va_cpy g1 f1 0 0 3))), (q2, .inl (k 0, 3, .inl (va_cpy g2 f2 0 0 3))), (q3, .inl (k 0, 3, .inl (va_cpy g3 f3 0 0 3))), (q4, .inl (k 0, 3, .inl (va_cpy g4 f4 0 0 3))), (q5, .inl (k 0, 3, .inl (va_cpy g5 f5 0 0 3))), (q6, .inl (k 0, 3, .inl (va_cpy g6 f6 0 0 3))), (h2, .inr (2, [.ref z0, .ref z1, .ref z2, .ref z3, .ref z4, .ref z5, .ref z6, .int va, .int vb, .int vc])), (z0, .inl (k 0, 3, .inl g0)), (z1, .inl (k 0, 3, .inl g1)), (z2, .inl (k 0, 3, .inl g2)), (z3, .inl (k 0, 3, .inl g3)), (z4, .inl (k 0, 3, .inl g4)), (z5, .inl (k 0, 3, .inl g5)), (z6, .inl (k 0, 3, .inl g6))] := hD
  refine lv_aload_n hx hb dX2_copyFrom_114 rfl (lv_at hl 0 rfl) ?_
  refine lv_aload_n hx hb dX2_copyFrom_115 rfl (lv_at hl 1 rfl) ?_
  refine va_get (D := D) (ci := 2) (v := .int vc) (C := RX2) (T := TX2) (N := 10) hx hb hts hi2 hown hG.1 hP 8 rfl rfl 9 (by decide) (hts (.fieldLink RX2 40 "SleptMatters$Course" "drawSeed" "I") (List.mem_cons_of_mem _ (List.mem_append_left _ (List.mem_of_getElem? (i := 13) rfl)))) (fun _ h9 => h9) rfl dX2_copyFrom_116 ?_
  refine va_put (D := D) (ci := 2) (v := .int vc) (ty := .int) (C := RX2) (T := TX2) (N := 10) hx hb hts hi2 tyX2 tyX2_ok nmX2 hown hG.1 hP hD hS 0 rfl rfl 9 (by decide) (hts (.fieldLink RX2 40 "SleptMatters$Course" "drawSeed" "I") (List.mem_cons_of_mem _ (List.mem_append_left _ (List.mem_of_getElem? (i := 13) rfl)))) (fun _ h9 => h9) rfl (by decide +kernel) rfl rfl (Nat.le_of_ble_eq_true rfl) dX2_copyFrom_119 (fun H locs hP hD hS => ?_)
  have hP : va_P D vwCl [(h, .inr (2, [.ref q0, .ref q1, .ref q2, .ref q3, .ref q4, .ref q5, .ref q6, .int va, .int vb, .int vc])), (q0, .inl (k 0, 3, .inl (va_cpy g0 f0 0 0 3))), (q1, .inl (k 0, 3, .inl (va_cpy g1 f1 0 0 3))), (q2, .inl (k 0, 3, .inl (va_cpy g2 f2 0 0 3))), (q3, .inl (k 0, 3, .inl (va_cpy g3 f3 0 0 3))), (q4, .inl (k 0, 3, .inl (va_cpy g4 f4 0 0 3))), (q5, .inl (k 0, 3, .inl (va_cpy g5 f5 0 0 3))), (q6, .inl (k 0, 3, .inl (va_cpy g6 f6 0 0 3))), (h2, .inr (2, [.ref z0, .ref z1, .ref z2, .ref z3, .ref z4, .ref z5, .ref z6, .int va, .int vb, .int vc])), (z0, .inl (k 0, 3, .inl g0)), (z1, .inl (k 0, 3, .inl g1)), (z2, .inl (k 0, 3, .inl g2)), (z3, .inl (k 0, 3, .inl g3)), (z4, .inl (k 0, 3, .inl g4)), (z5, .inl (k 0, 3, .inl g5)), (z6, .inl (k 0, 3, .inl g6))] H := hP
  have hD : va_D A [(h, .inr (2, [.ref q0, .ref q1, .ref q2, .ref q3, .ref q4, .ref q5, .ref q6, .int va, .int vb, .int vc])), (q0, .inl (k 0, 3, .inl (va_cpy g0 f0 0 0 3))), (q1, .inl (k 0, 3, .inl (va_cpy g1 f1 0 0 3))), (q2, .inl (k 0, 3, .inl (va_cpy g2 f2 0 0 3))), (q3, .inl (k 0, 3, .inl (va_cpy g3 f3 0 0 3))), (q4, .inl (k 0, 3, .inl (va_cpy g4 f4 0 0 3))), (q5, .inl (k 0, 3, .inl (va_cpy g5 f5 0 0 3))), (q6, .inl (k 0, 3, .inl (va_cpy g6 f6 0 0 3))), (h2, .inr (2, [.ref z0, .ref z1, .ref z2, .ref z3, .ref z4, .ref z5, .ref z6, .int va, .int vb, .int vc])), (z0, .inl (k 0, 3, .inl g0)), (z1, .inl (k 0, 3, .inl g1)), (z2, .inl (k 0, 3, .inl g2)), (z3, .inl (k 0, 3, .inl g3)), (z4, .inl (k 0, 3, .inl g4)), (z5, .inl (k 0, 3, .inl g5)), (z6, .inl (k 0, 3, .inl g6))] := hD
  have hP9 := hP.sub (ws' := []) [] rfl
  have hD9 := hD.sub (ws' := []) [] (by decide +kernel) rfl
  exact W.vret hx hb hr (fun t9 ht _ => ⟨⟨(), rfl, trivial, by rw [ht]; exact hP9, hD9⟩, hS.F ht⟩) hS.2.2 dX2_copyFrom_122

abbrev c_X9_goBack (k : Nat → ClassId) (x : Nat) (xt : Nat) (xc : Nat) (xi : Nat) (xk : Nat) (xb : Nat) (xr : Nat) (xp : Nat) (xo : Nat) (xl : Nat) (xm : Nat) (xw : Nat) (xv : Nat) (fb : Int32) (ii : Int32) : va_W := [(x, .inr (9, [.ref xt, .ref xc, .ref xi, .ref xk, .ref xb, .ref xr, .ref xp, .ref xo, .ref xl, .ref xm, .ref xw, .ref xv, .int fb])), (xk, .inl (k 2, 2, .inl (fun _ => 0)))]
abbrev r_X9_goBack : Room := { frames := 0, cells := 0, slots := 0, locals := 0 }
abbrev q_X9_goBack (k : Nat → ClassId) (x : Nat) (xt : Nat) (xc : Nat) (xi : Nat) (xk : Nat) (xb : Nat) (xr : Nat) (xp : Nat) (xo : Nat) (xl : Nat) (xm : Nat) (xw : Nat) (xv : Nat) (fb : Int32) (ii : Int32) : Array Value → State → Outcome → State → Prop := vp_Si (fun r => r = gbA ii)
set_option maxHeartbeats 2000000 in
set_option maxRecDepth 100000 in
theorem X9_goBack (l : Launch) (D : va_G) (k : Nat → ClassId) (x : Nat) (xt : Nat) (xc : Nat) (xi : Nat) (xk : Nat) (xb : Nat) (xr : Nat) (xp : Nat) (xo : Nat) (xl : Nat) (xm : Nat) (xw : Nat) (xv : Nat) (fb : Int32) (ii : Int32)  : Met l yX9_goBack wsX9_goBack r_X9_goBack (va_Pc [.ref x, .int ii] (PS D k (c_X9_goBack k x xt xc xi xk xb xr xp xo xl xm xw xv fb ii))) (q_X9_goBack k x xt xc xi xk xb xr xp xo xl xm xw xv fb ii) 0 0 (fun _ => False) := by
  refine Met.ofW (cc := cX9_goBack) (maxL := 2) (ret := (some .int)) (by decide) rfl ?_
  intro p e s m args below meth c s₁ B hml hv
  obtain ⟨rfl, hP, hG⟩ := hv
  have hx := B.exec
  have hb := B.bytes
  have hr := B.returns
  have hts := atoms_spec (ws := wsX9_goBack) B.pre
  have hown : s.vm.findClass RX9 = some m.cls := findClass_of_methodNamed B.named
  have hlocks := B.notSynchronized
  have hi9 : ∀ w ∈ wsX90, w ∈ wsX9_goBack := fun _ h => List.mem_cons_of_mem _ (List.mem_append_left _ (List.mem_append_right _ h))
  have hi2 : ∀ w ∈ wsX20, w ∈ wsX9_goBack := fun _ h => List.mem_cons_of_mem _ (List.mem_append_right _ h)
  have hP : va_P D vwCl [(x, .inr (9, [.ref xt, .ref xc, .ref xi, .ref xk, .ref xb, .ref xr, .ref xp, .ref xo, .ref xl, .ref xm, .ref xw, .ref xv, .int fb])), (xk, .inl (k 2, 2, .inl (fun _ => 0)))] s.heap := hP
  have hl := lv_entry ([.ref x, .int ii]) (n := 2) (Nat.le_of_ble_eq_true rfl)
  rw [lg_entry_eq]
  generalize (lg_sl ([.ref x, .int ii]) ++ List.replicate (2 - (lg_sl ([.ref x, .int ii])).length) Slot.unset).toArray = ls at hl ⊢
  have hl : lv_has ls 2 [(0, .ref x), (1, .int ii)] := hl
  refine lv_iload_n hx hb dX9_goBack_0 rfl (lv_at hl 1 rfl) ?_
  refine lv_if_lt (x := ii) (tgt := 9) hx hb dX9_goBack_1 (by decide) (fun c1 => ?_) (fun c1 => ?_)
  · skip
    refine lv_ldc (v := (-1000000001)) hx hb hown (hts (.constant RX9 147 (-1000000001)) (List.mem_cons_of_mem _ (List.mem_append_left _ (List.mem_append_left _ (List.mem_of_getElem? (i := 0) rfl))))) dX9_goBack_9 ?_
    exact W.iret (v := (-1000000001)) hx hb hr (fun t9 ht _ => ⟨(-1000000001), rfl, by simp [gbA, c1], ht⟩) (fun q h => by cases h) dX9_goBack_11
  · skip
    refine lv_iload_n hx hb dX9_goBack_4 rfl (lv_at hl 1 rfl) ?_
    refine lv_iconst (v := 2) hx hb dX9_goBack_5 (by decide) ?_
    refine lv_icmp_lt (x := ii) (y := 2) (tgt := 12) hx hb dX9_goBack_6 (by decide) (fun c2 => ?_) (fun c2 => ?_)
    · skip
      refine lv_aload_n hx hb dX9_goBack_12 rfl (lv_at hl 0 rfl) ?_
      refine va_get (D := D) (ci := 9) (v := .ref xk) (C := RX9) (T := TX9) (N := 13) hx hb hts hi9 hown hG.1 hP 0 rfl rfl 3 (by decide) (hts (.fieldLink RX9 27 "SleptMatters" "imageKept" "[Z") (List.mem_cons_of_mem _ (List.mem_append_left _ (List.mem_append_left _ (List.mem_of_getElem? (i := 1) rfl))))) (fun _ h9 => h9) rfl dX9_goBack_13 ?_
      refine lv_iload_n hx hb dX9_goBack_16 rfl (lv_at hl 1 rfl) ?_
      refine va_zald hx hb hG.1 hP 1 2 rfl rfl (in_cmp (N := 2) c1 c2 (by decide)) dX9_goBack_17 ?_
      refine tp_i (y := 0) (rfl) ?_
      refine lv_if_ne (x := 0) (tgt := 24) hx hb dX9_goBack_18 (by decide) (fun c3 => absurd c3 (by decide)) (fun c3 => ?_)
      refine lv_ldc (v := (-1000000003)) hx hb hown (hts (.constant RX9 119 (-1000000003)) (List.mem_cons_of_mem _ (List.mem_append_left _ (List.mem_append_left _ (List.mem_of_getElem? (i := 2) rfl))))) dX9_goBack_21 ?_
      exact W.iret (v := (-1000000003)) hx hb hr (fun t9 ht _ => ⟨(-1000000003), rfl, by simp [gbA, c1, c2], ht⟩) (fun q h => by cases h) dX9_goBack_23
    · skip
      refine lv_ldc (v := (-1000000001)) hx hb hown (hts (.constant RX9 147 (-1000000001)) (List.mem_cons_of_mem _ (List.mem_append_left _ (List.mem_append_left _ (List.mem_of_getElem? (i := 0) rfl))))) dX9_goBack_9 ?_
      exact W.iret (v := (-1000000001)) hx hb hr (fun t9 ht _ => ⟨(-1000000001), rfl, by simp [gbA, c1, c2], ht⟩) (fun q h => by cases h) dX9_goBack_11

abbrev c_X9_keep (k : Nat → ClassId) (x : Nat) (xt : Nat) (xc : Nat) (xi : Nat) (xk : Nat) (xb : Nat) (xr : Nat) (xp : Nat) (xo : Nat) (xl : Nat) (xm : Nat) (xw : Nat) (xv : Nat) (fb : Int32) (c0 : Nat) (c1 : Nat) (c2 : Nat) (c3 : Nat) (c4 : Nat) (c5 : Nat) (c6 : Nat) (xd : Nat) (d0 : Nat) (d1 : Nat) (d2 : Nat) (d3 : Nat) (d4 : Nat) (d5 : Nat) (d6 : Nat) (xe : Nat) (e0 : Nat) (e1 : Nat) (e2 : Nat) (e3 : Nat) (e4 : Nat) (e5 : Nat) (e6 : Nat) (ii : Int32) : va_W := [(x, .inr (9, [.ref xt, .ref xc, .ref xi, .ref xk, .ref xb, .ref xr, .ref xp, .ref xo, .ref xl, .ref xm, .ref xw, .ref xv, .int fb])), (xc, .inr (2, [.ref c0, .ref c1, .ref c2, .ref c3, .ref c4, .ref c5, .ref c6, .int 0, .int 0, .int 0])), (c0, .inl (k 0, 3, .inl (fl_i (fun _ => 0) 0 3))), (c1, .inl (k 0, 3, .inl (fl_i (fun _ => 0) 0 3))), (c2, .inl (k 0, 3, .inl (fl_i (fun _ => 0) 0 3))), (c3, .inl (k 0, 3, .inl (fl_i (fun _ => 0) 0 3))), (c4, .inl (k 0, 3, .inl (fl_i (fun _ => 0) (-1) 3))), (c5, .inl (k 0, 3, .inl (fl_i (fun _ => 0) (-1) 3))), (c6, .inl (k 0, 3, .inl (fl_i (fun _ => 0) (-1) 3))), (xi, .inl (k 3, 2, .inr (.inr (.inr (.inr (va_up (va_up (fun _ => none) 0 (some xd)) 1 (some xe))))))), (xd, .inr (2, [.ref d0, .ref d1, .ref d2, .ref d3, .ref d4, .ref d5, .ref d6, .int 0, .int 0, .int 0])), (d0, .inl (k 0, 3, .inl (fl_i (fun _ => 0) 0 3))), (d1, .inl (k 0, 3, .inl (fl_i (fun _ => 0) 0 3))), (d2, .inl (k 0, 3, .inl (fl_i (fun _ => 0) 0 3))), (d3, .inl (k 0, 3, .inl (fl_i (fun _ => 0) 0 3))), (d4, .inl (k 0, 3, .inl (fl_i (fun _ => 0) (-1) 3))), (d5, .inl (k 0, 3, .inl (fl_i (fun _ => 0) (-1) 3))), (d6, .inl (k 0, 3, .inl (fl_i (fun _ => 0) (-1) 3))), (xe, .inr (2, [.ref e0, .ref e1, .ref e2, .ref e3, .ref e4, .ref e5, .ref e6, .int 0, .int 0, .int 0])), (e0, .inl (k 0, 3, .inl (fl_i (fun _ => 0) 0 3))), (e1, .inl (k 0, 3, .inl (fl_i (fun _ => 0) 0 3))), (e2, .inl (k 0, 3, .inl (fl_i (fun _ => 0) 0 3))), (e3, .inl (k 0, 3, .inl (fl_i (fun _ => 0) 0 3))), (e4, .inl (k 0, 3, .inl (fl_i (fun _ => 0) (-1) 3))), (e5, .inl (k 0, 3, .inl (fl_i (fun _ => 0) (-1) 3))), (e6, .inl (k 0, 3, .inl (fl_i (fun _ => 0) (-1) 3))), (xk, .inl (k 2, 2, .inl (fun _ => 0)))]
abbrev r_X9_keep : Room := { frames := 2, cells := 0, slots := 0, locals := 61 }
def w_X9_keep (k : Nat → ClassId) (x : Nat) (xt : Nat) (xc : Nat) (xi : Nat) (xk : Nat) (xb : Nat) (xr : Nat) (xp : Nat) (xo : Nat) (xl : Nat) (xm : Nat) (xw : Nat) (xv : Nat) (fb : Int32) (c0 : Nat) (c1 : Nat) (c2 : Nat) (c3 : Nat) (c4 : Nat) (c5 : Nat) (c6 : Nat) (xd : Nat) (d0 : Nat) (d1 : Nat) (d2 : Nat) (d3 : Nat) (d4 : Nat) (d5 : Nat) (d6 : Nat) (xe : Nat) (e0 : Nat) (e1 : Nat) (e2 : Nat) (e3 : Nat) (e4 : Nat) (e5 : Nat) (e6 : Nat) (ii : Int32) : Unit → va_W := fun _ => []
def p_X9_keep (k : Nat → ClassId) (x : Nat) (xt : Nat) (xc : Nat) (xi : Nat) (xk : Nat) (xb : Nat) (xr : Nat) (xp : Nat) (xo : Nat) (xl : Nat) (xm : Nat) (xw : Nat) (xv : Nat) (fb : Int32) (c0 : Nat) (c1 : Nat) (c2 : Nat) (c3 : Nat) (c4 : Nat) (c5 : Nat) (c6 : Nat) (xd : Nat) (d0 : Nat) (d1 : Nat) (d2 : Nat) (d3 : Nat) (d4 : Nat) (d5 : Nat) (d6 : Nat) (xe : Nat) (e0 : Nat) (e1 : Nat) (e2 : Nat) (e3 : Nat) (e4 : Nat) (e5 : Nat) (e6 : Nat) (ii : Int32) : Int32 → Unit → Prop := fun (r : Int32) (u : Unit) => r = keA ii
abbrev q_X9_keep (D : va_G) (k : Nat → ClassId) (x : Nat) (xt : Nat) (xc : Nat) (xi : Nat) (xk : Nat) (xb : Nat) (xr : Nat) (xp : Nat) (xo : Nat) (xl : Nat) (xm : Nat) (xw : Nat) (xv : Nat) (fb : Int32) (c0 : Nat) (c1 : Nat) (c2 : Nat) (c3 : Nat) (c4 : Nat) (c5 : Nat) (c6 : Nat) (xd : Nat) (d0 : Nat) (d1 : Nat) (d2 : Nat) (d3 : Nat) (d4 : Nat) (d5 : Nat) (d6 : Nat) (xe : Nat) (e0 : Nat) (e1 : Nat) (e2 : Nat) (e3 : Nat) (e4 : Nat) (e5 : Nat) (e6 : Nat) (ii : Int32) (A : Nat → Prop) : Array Value → State → Outcome → State → Prop := va_Qi (p_X9_keep k x xt xc xi xk xb xr xp xo xl xm xw xv fb c0 c1 c2 c3 c4 c5 c6 xd d0 d1 d2 d3 d4 d5 d6 xe e0 e1 e2 e3 e4 e5 e6 ii) (fun u9 t9 => BO D (w_X9_keep k x xt xc xi xk xb xr xp xo xl xm xw xv fb c0 c1 c2 c3 c4 c5 c6 xd d0 d1 d2 d3 d4 d5 d6 xe e0 e1 e2 e3 e4 e5 e6 ii u9) A t9) A
set_option maxHeartbeats 2000000 in
set_option maxRecDepth 100000 in
theorem X9_keep (l : Launch) (D : va_G) (k : Nat → ClassId) (sz : Nat) (x : Nat) (xt : Nat) (xc : Nat) (xi : Nat) (xk : Nat) (xb : Nat) (xr : Nat) (xp : Nat) (xo : Nat) (xl : Nat) (xm : Nat) (xw : Nat) (xv : Nat) (fb : Int32) (c0 : Nat) (c1 : Nat) (c2 : Nat) (c3 : Nat) (c4 : Nat) (c5 : Nat) (c6 : Nat) (xd : Nat) (d0 : Nat) (d1 : Nat) (d2 : Nat) (d3 : Nat) (d4 : Nat) (d5 : Nat) (d6 : Nat) (xe : Nat) (e0 : Nat) (e1 : Nat) (e2 : Nat) (e3 : Nat) (e4 : Nat) (e5 : Nat) (e6 : Nat) (ii : Int32)  : Met l yX9_keep wsX9_keep r_X9_keep (va_Pc [.ref x, .int ii] (PR D k (c_X9_keep k x xt xc xi xk xb xr xp xo xl xm xw xv fb c0 c1 c2 c3 c4 c5 c6 xd d0 d1 d2 d3 d4 d5 d6 xe e0 e1 e2 e3 e4 e5 e6 ii) sz)) (q_X9_keep D k x xt xc xi xk xb xr xp xo xl xm xw xv fb c0 c1 c2 c3 c4 c5 c6 xd d0 d1 d2 d3 d4 d5 d6 xe e0 e1 e2 e3 e4 e5 e6 ii (va_A (c_X9_keep k x xt xc xi xk xb xr xp xo xl xm xw xv fb c0 c1 c2 c3 c4 c5 c6 xd d0 d1 d2 d3 d4 d5 d6 xe e0 e1 e2 e3 e4 e5 e6 ii) sz)) 0 0 (va_A (c_X9_keep k x xt xc xi xk xb xr xp xo xl xm xw xv fb c0 c1 c2 c3 c4 c5 c6 xd d0 d1 d2 d3 d4 d5 d6 xe e0 e1 e2 e3 e4 e5 e6 ii) sz) := by
  refine Met.ofW (cc := cX9_keep) (maxL := 2) (ret := (some .int)) (by decide) rfl ?_
  intro p e s m args below meth c s₁ B hml hv
  obtain ⟨rfl, hsz, hP, hG, hD0⟩ := hv
  have hx := B.exec
  have hb := B.bytes
  have hr := B.returns
  have hts := atoms_spec (ws := wsX9_keep) B.pre
  have hown : s.vm.findClass RX9 = some m.cls := findClass_of_methodNamed B.named
  have hlocks := B.notSynchronized
  have hi9 : ∀ w ∈ wsX90, w ∈ wsX9_keep := fun _ h => List.mem_cons_of_mem _ (List.mem_append_left _ (List.mem_append_right _ h))
  have hi2 : ∀ w ∈ wsX20, w ∈ wsX9_keep := fun _ h => List.mem_cons_of_mem _ (List.mem_append_right _ h)
  subst hsz
  have hD := hD0.self (sz := s.heap.size)
  generalize hAe : va_A (c_X9_keep k x xt xc xi xk xb xr xp xo xl xm xw xv fb c0 c1 c2 c3 c4 c5 c6 xd d0 d1 d2 d3 d4 d5 d6 xe e0 e1 e2 e3 e4 e5 e6 ii) s.heap.size = A at hD ⊢
  have hA : ∀ q : Nat, s.heap.size ≤ q → A q := fun q h => by rw [← hAe]; exact Or.inr h
  have hS : va_S A s.heap s.heap [] := va_S.rf
  have hP : va_P D vwCl [(x, .inr (9, [.ref xt, .ref xc, .ref xi, .ref xk, .ref xb, .ref xr, .ref xp, .ref xo, .ref xl, .ref xm, .ref xw, .ref xv, .int fb])), (xc, .inr (2, [.ref c0, .ref c1, .ref c2, .ref c3, .ref c4, .ref c5, .ref c6, .int 0, .int 0, .int 0])), (c0, .inl (k 0, 3, .inl (fl_i (fun _ => 0) 0 3))), (c1, .inl (k 0, 3, .inl (fl_i (fun _ => 0) 0 3))), (c2, .inl (k 0, 3, .inl (fl_i (fun _ => 0) 0 3))), (c3, .inl (k 0, 3, .inl (fl_i (fun _ => 0) 0 3))), (c4, .inl (k 0, 3, .inl (fl_i (fun _ => 0) (-1) 3))), (c5, .inl (k 0, 3, .inl (fl_i (fun _ => 0) (-1) 3))), (c6, .inl (k 0, 3, .inl (fl_i (fun _ => 0) (-1) 3))), (xi, .inl (k 3, 2, .inr (.inr (.inr (.inr (va_up (va_up (fun _ => none) 0 (some xd)) 1 (some xe))))))), (xd, .inr (2, [.ref d0, .ref d1, .ref d2, .ref d3, .ref d4, .ref d5, .ref d6, .int 0, .int 0, .int 0])), (d0, .inl (k 0, 3, .inl (fl_i (fun _ => 0) 0 3))), (d1, .inl (k 0, 3, .inl (fl_i (fun _ => 0) 0 3))), (d2, .inl (k 0, 3, .inl (fl_i (fun _ => 0) 0 3))), (d3, .inl (k 0, 3, .inl (fl_i (fun _ => 0) 0 3))), (d4, .inl (k 0, 3, .inl (fl_i (fun _ => 0) (-1) 3))), (d5, .inl (k 0, 3, .inl (fl_i (fun _ => 0) (-1) 3))), (d6, .inl (k 0, 3, .inl (fl_i (fun _ => 0) (-1) 3))), (xe, .inr (2, [.ref e0, .ref e1, .ref e2, .ref e3, .ref e4, .ref e5, .ref e6, .int 0, .int 0, .int 0])), (e0, .inl (k 0, 3, .inl (fl_i (fun _ => 0) 0 3))), (e1, .inl (k 0, 3, .inl (fl_i (fun _ => 0) 0 3))), (e2, .inl (k 0, 3, .inl (fl_i (fun _ => 0) 0 3))), (e3, .inl (k 0, 3, .inl (fl_i (fun _ => 0) 0 3))), (e4, .inl (k 0, 3, .inl (fl_i (fun _ => 0) (-1) 3))), (e5, .inl (k 0, 3, .inl (fl_i (fun _ => 0) (-1) 3))), (e6, .inl (k 0, 3, .inl (fl_i (fun _ => 0) (-1) 3))), (xk, .inl (k 2, 2, .inl (fun _ => 0)))] s.heap := hP
  have hD : va_D A [(x, .inr (9, [.ref xt, .ref xc, .ref xi, .ref xk, .ref xb, .ref xr, .ref xp, .ref xo, .ref xl, .ref xm, .ref xw, .ref xv, .int fb])), (xc, .inr (2, [.ref c0, .ref c1, .ref c2, .ref c3, .ref c4, .ref c5, .ref c6, .int 0, .int 0, .int 0])), (c0, .inl (k 0, 3, .inl (fl_i (fun _ => 0) 0 3))), (c1, .inl (k 0, 3, .inl (fl_i (fun _ => 0) 0 3))), (c2, .inl (k 0, 3, .inl (fl_i (fun _ => 0) 0 3))), (c3, .inl (k 0, 3, .inl (fl_i (fun _ => 0) 0 3))), (c4, .inl (k 0, 3, .inl (fl_i (fun _ => 0) (-1) 3))), (c5, .inl (k 0, 3, .inl (fl_i (fun _ => 0) (-1) 3))), (c6, .inl (k 0, 3, .inl (fl_i (fun _ => 0) (-1) 3))), (xi, .inl (k 3, 2, .inr (.inr (.inr (.inr (va_up (va_up (fun _ => none) 0 (some xd)) 1 (some xe))))))), (xd, .inr (2, [.ref d0, .ref d1, .ref d2, .ref d3, .ref d4, .ref d5, .ref d6, .int 0, .int 0, .int 0])), (d0, .inl (k 0, 3, .inl (fl_i (fun _ => 0) 0 3))), (d1, .inl (k 0, 3, .inl (fl_i (fun _ => 0) 0 3))), (d2, .inl (k 0, 3, .inl (fl_i (fun _ => 0) 0 3))), (d3, .inl (k 0, 3, .inl (fl_i (fun _ => 0) 0 3))), (d4, .inl (k 0, 3, .inl (fl_i (fun _ => 0) (-1) 3))), (d5, .inl (k 0, 3, .inl (fl_i (fun _ => 0) (-1) 3))), (d6, .inl (k 0, 3, .inl (fl_i (fun _ => 0) (-1) 3))), (xe, .inr (2, [.ref e0, .ref e1, .ref e2, .ref e3, .ref e4, .ref e5, .ref e6, .int 0, .int 0, .int 0])), (e0, .inl (k 0, 3, .inl (fl_i (fun _ => 0) 0 3))), (e1, .inl (k 0, 3, .inl (fl_i (fun _ => 0) 0 3))), (e2, .inl (k 0, 3, .inl (fl_i (fun _ => 0) 0 3))), (e3, .inl (k 0, 3, .inl (fl_i (fun _ => 0) 0 3))), (e4, .inl (k 0, 3, .inl (fl_i (fun _ => 0) (-1) 3))), (e5, .inl (k 0, 3, .inl (fl_i (fun _ => 0) (-1) 3))), (e6, .inl (k 0, 3, .inl (fl_i (fun _ => 0) (-1) 3))), (xk, .inl (k 2, 2, .inl (fun _ => 0)))] := hD
  have hl := lv_entry ([.ref x, .int ii]) (n := 2) (Nat.le_of_ble_eq_true rfl)
  rw [lg_entry_eq]
  generalize (lg_sl ([.ref x, .int ii]) ++ List.replicate (2 - (lg_sl ([.ref x, .int ii])).length) Slot.unset).toArray = ls at hl ⊢
  have hl : lv_has ls 2 [(0, .ref x), (1, .int ii)] := hl
  refine lv_iload_n hx hb dX9_keep_0 rfl (lv_at hl 1 rfl) ?_
  refine lv_if_lt (x := ii) (tgt := 9) hx hb dX9_keep_1 (by decide) (fun hc1 => ?_) (fun hc1 => ?_)
  · skip
    refine lv_ldc (v := (-1000000001)) hx hb hown (hts (.constant RX9 147 (-1000000001)) (List.mem_cons_of_mem _ (List.mem_append_left _ (List.mem_append_left _ (List.mem_of_getElem? (i := 0) rfl))))) dX9_keep_9 ?_
    have hP9 := hP.sub (ws' := []) [] rfl
    have hD9 := hD.sub (ws' := []) [] (by decide +kernel) rfl
    exact W.iret (v := (-1000000001)) hx hb hr (fun t9 ht _ => ⟨⟨(-1000000001), (), rfl, by simp [p_X9_keep, keA, hc1], by rw [ht]; exact hP9, hD9⟩, hS.F ht⟩) hS.2.2 dX9_keep_11
  · skip
    refine lv_iload_n hx hb dX9_keep_4 rfl (lv_at hl 1 rfl) ?_
    refine lv_iconst (v := 2) hx hb dX9_keep_5 (by decide) ?_
    refine lv_icmp_lt (x := ii) (y := 2) (tgt := 12) hx hb dX9_keep_6 (by decide) (fun hc2 => ?_) (fun hc2 => ?_)
    · skip
      rcases two_of hc1 hc2 with e9 | e9
      · skip
        rw [e9] at hl
        refine lv_aload_n hx hb dX9_keep_12 rfl (lv_at hl 0 rfl) ?_
        refine va_get (D := D) (ci := 9) (v := .ref xi) (C := RX9) (T := TX9) (N := 13) hx hb hts hi9 hown hG.1 hP 0 rfl rfl 2 (by decide) (hts (.fieldLink RX9 23 "SleptMatters" "images" "[LSleptMatters$Course;") (List.mem_cons_of_mem _ (List.mem_append_left _ (List.mem_append_left _ (List.mem_of_getElem? (i := 1) rfl))))) (fun _ h9 => h9) rfl dX9_keep_13 ?_
        refine lv_iload_n hx hb dX9_keep_16 rfl (lv_at hl 1 rfl) ?_
        refine va_aldq (C := "SleptMatters$Course") hx hb hG.1 hP 9 3 rfl rfl (vp_in_nI (n := 0) (by omega) (by omega)) dX9_keep_17 ?_
        refine W.eq (g2 := F0 m 18 ls [.ref xd]) rfl ?_
        refine lv_aload_n hx hb dX9_keep_18 rfl (lv_at hl 0 rfl) ?_
        refine va_get (D := D) (ci := 9) (v := .ref xc) (C := RX9) (T := TX9) (N := 13) hx hb hts hi9 hown hG.1 hP 0 rfl rfl 1 (by decide) (hts (.fieldLink RX9 19 "SleptMatters" "course" "LSleptMatters$Course;") (List.mem_cons_of_mem _ (List.mem_append_left _ (List.mem_append_left _ (List.mem_of_getElem? (i := 2) rfl))))) (fun _ h9 => h9) rfl dX9_keep_19 ?_
        have hPc := hP.sub (ws' := (c_X2_copyFrom k xd d0 d1 d2 d3 d4 d5 d6 xc c0 c1 c2 c3 c4 c5 c6 (fl_i (fun _ => 0) 0 3) (fl_i (fun _ => 0) 0 3) (fl_i (fun _ => 0) 0 3) (fl_i (fun _ => 0) 0 3) (fl_i (fun _ => 0) (-1) 3) (fl_i (fun _ => 0) (-1) 3) (fl_i (fun _ => 0) (-1) 3) (fl_i (fun _ => 0) 0 3) (fl_i (fun _ => 0) 0 3) (fl_i (fun _ => 0) 0 3) (fl_i (fun _ => 0) 0 3) (fl_i (fun _ => 0) (-1) 3) (fl_i (fun _ => 0) (-1) 3) (fl_i (fun _ => 0) (-1) 3) 0 0 0 0 0 0)) [10, 11, 12, 13, 14, 15, 16, 17, 1, 2, 3, 4, 5, 6, 7, 8] rfl
        have hDc := hD.sub (ws' := (c_X2_copyFrom k xd d0 d1 d2 d3 d4 d5 d6 xc c0 c1 c2 c3 c4 c5 c6 (fl_i (fun _ => 0) 0 3) (fl_i (fun _ => 0) 0 3) (fl_i (fun _ => 0) 0 3) (fl_i (fun _ => 0) 0 3) (fl_i (fun _ => 0) (-1) 3) (fl_i (fun _ => 0) (-1) 3) (fl_i (fun _ => 0) (-1) 3) (fl_i (fun _ => 0) 0 3) (fl_i (fun _ => 0) 0 3) (fl_i (fun _ => 0) 0 3) (fl_i (fun _ => 0) 0 3) (fl_i (fun _ => 0) (-1) 3) (fl_i (fun _ => 0) (-1) 3) (fl_i (fun _ => 0) (-1) 3) 0 0 0 0 0 0)) [10, 11, 12, 13, 14, 15, 16, 17, 1, 2, 3, 4, 5, 6, 7, 8] (by decide +kernel) rfl
        refine cl_v (w1 := w_X2_copyFrom k xd d0 d1 d2 d3 d4 d5 d6 xc c0 c1 c2 c3 c4 c5 c6 (fl_i (fun _ => 0) 0 3) (fl_i (fun _ => 0) 0 3) (fl_i (fun _ => 0) 0 3) (fl_i (fun _ => 0) 0 3) (fl_i (fun _ => 0) (-1) 3) (fl_i (fun _ => 0) (-1) 3) (fl_i (fun _ => 0) (-1) 3) (fl_i (fun _ => 0) 0 3) (fl_i (fun _ => 0) 0 3) (fl_i (fun _ => 0) 0 3) (fl_i (fun _ => 0) 0 3) (fl_i (fun _ => 0) (-1) 3) (fl_i (fun _ => 0) (-1) 3) (fl_i (fun _ => 0) (-1) 3) 0 0 0 0 0 0) (wr := [(x, .inr (9, [.ref xt, .ref xc, .ref xi, .ref xk, .ref xb, .ref xr, .ref xp, .ref xo, .ref xl, .ref xm, .ref xw, .ref xv, .int fb])), (xi, .inl (k 3, 2, .inr (.inr (.inr (.inr (va_up (va_up (fun _ => none) 0 (some xd)) 1 (some xe))))))), (xe, .inr (2, [.ref e0, .ref e1, .ref e2, .ref e3, .ref e4, .ref e5, .ref e6, .int 0, .int 0, .int 0])), (e0, .inl (k 0, 3, .inl (fl_i (fun _ => 0) 0 3))), (e1, .inl (k 0, 3, .inl (fl_i (fun _ => 0) 0 3))), (e2, .inl (k 0, 3, .inl (fl_i (fun _ => 0) 0 3))), (e3, .inl (k 0, 3, .inl (fl_i (fun _ => 0) 0 3))), (e4, .inl (k 0, 3, .inl (fl_i (fun _ => 0) (-1) 3))), (e5, .inl (k 0, 3, .inl (fl_i (fun _ => 0) (-1) 3))), (e6, .inl (k 0, 3, .inl (fl_i (fun _ => 0) (-1) 3))), (xk, .inl (k 2, 2, .inl (fun _ => 0)))]) (va_runV (As := [.ref xc]) (rest := []) ⟨hx, hb, hml, hown, hts⟩ (X2_copyFrom l D k s.heap.size xd d0 d1 d2 d3 d4 d5 d6 xc c0 c1 c2 c3 c4 c5 c6 (fl_i (fun _ => 0) 0 3) (fl_i (fun _ => 0) 0 3) (fl_i (fun _ => 0) 0 3) (fl_i (fun _ => 0) 0 3) (fl_i (fun _ => 0) (-1) 3) (fl_i (fun _ => 0) (-1) 3) (fl_i (fun _ => 0) (-1) 3) (fl_i (fun _ => 0) 0 3) (fl_i (fun _ => 0) 0 3) (fl_i (fun _ => 0) 0 3) (fl_i (fun _ => 0) 0 3) (fl_i (fun _ => 0) (-1) 3) (fl_i (fun _ => 0) (-1) 3) (fl_i (fun _ => 0) (-1) 3) 0 0 0 0 0 0 ) (cwV 1 hts gX9_keep_X2_copyFrom rfl rfl rfl (by decide +kernel) ⟨Nat.le_of_ble_eq_true rfl, Nat.le_of_ble_eq_true rfl⟩) ⟨PR.blind _ _ _ _ _, va_recv hG.1 hP (ci := 2) (q0 := 10) rfl rfl, PR.pre hPc hDc hG [.ref xd, .ref xc]⟩ rfl rfl hl.1 rfl (lv_room (Nat.le_of_ble_eq_true rfl)) dX9_keep_22 ⟨Nat.le_of_ble_eq_true rfl, Nat.le_of_ble_eq_true rfl⟩) hP hD hS hA [10, 11, 12, 13, 14, 15, 16, 17, 1, 2, 3, 4, 5, 6, 7, 8] [0, 9, 18, 19, 20, 21, 22, 23, 24, 25, 26] rfl rfl (by decide +kernel) (by decide +kernel) (fun u H locs hq hP hD hS => ?_)
        cases u
        have hP : va_P D vwCl [(x, .inr (9, [.ref xt, .ref xc, .ref xi, .ref xk, .ref xb, .ref xr, .ref xp, .ref xo, .ref xl, .ref xm, .ref xw, .ref xv, .int fb])), (xi, .inl (k 3, 2, .inr (.inr (.inr (.inr (va_up (va_up (fun _ => none) 0 (some xd)) 1 (some xe))))))), (xe, .inr (2, [.ref e0, .ref e1, .ref e2, .ref e3, .ref e4, .ref e5, .ref e6, .int 0, .int 0, .int 0])), (e0, .inl (k 0, 3, .inl (fl_i (fun _ => 0) 0 3))), (e1, .inl (k 0, 3, .inl (fl_i (fun _ => 0) 0 3))), (e2, .inl (k 0, 3, .inl (fl_i (fun _ => 0) 0 3))), (e3, .inl (k 0, 3, .inl (fl_i (fun _ => 0) 0 3))), (e4, .inl (k 0, 3, .inl (fl_i (fun _ => 0) (-1) 3))), (e5, .inl (k 0, 3, .inl (fl_i (fun _ => 0) (-1) 3))), (e6, .inl (k 0, 3, .inl (fl_i (fun _ => 0) (-1) 3))), (xk, .inl (k 2, 2, .inl (fun _ => 0)))] H := hP
        have hD : va_D A [(x, .inr (9, [.ref xt, .ref xc, .ref xi, .ref xk, .ref xb, .ref xr, .ref xp, .ref xo, .ref xl, .ref xm, .ref xw, .ref xv, .int fb])), (xi, .inl (k 3, 2, .inr (.inr (.inr (.inr (va_up (va_up (fun _ => none) 0 (some xd)) 1 (some xe))))))), (xe, .inr (2, [.ref e0, .ref e1, .ref e2, .ref e3, .ref e4, .ref e5, .ref e6, .int 0, .int 0, .int 0])), (e0, .inl (k 0, 3, .inl (fl_i (fun _ => 0) 0 3))), (e1, .inl (k 0, 3, .inl (fl_i (fun _ => 0) 0 3))), (e2, .inl (k 0, 3, .inl (fl_i (fun _ => 0) 0 3))), (e3, .inl (k 0, 3, .inl (fl_i (fun _ => 0) 0 3))), (e4, .inl (k 0, 3, .inl (fl_i (fun _ => 0) (-1) 3))), (e5, .inl (k 0, 3, .inl (fl_i (fun _ => 0) (-1) 3))), (e6, .inl (k 0, 3, .inl (fl_i (fun _ => 0) (-1) 3))), (xk, .inl (k 2, 2, .inl (fun _ => 0)))] := hD
        refine lv_aload_n hx hb dX9_keep_25 rfl (lv_at hl 0 rfl) ?_
        refine va_get (D := D) (ci := 9) (v := .ref xk) (C := RX9) (T := TX9) (N := 13) hx hb hts hi9 hown hG.1 hP 0 rfl rfl 3 (by decide) (hts (.fieldLink RX9 27 "SleptMatters" "imageKept" "[Z") (List.mem_cons_of_mem _ (List.mem_append_left _ (List.mem_append_left _ (List.mem_of_getElem? (i := 3) rfl))))) (fun _ h9 => h9) rfl dX9_keep_26 ?_
        refine lv_iload_n hx hb dX9_keep_29 rfl (lv_at hl 1 rfl) ?_
        refine lv_iconst (v := 1) hx hb dX9_keep_30 (by decide) ?_
        refine va_zast hx hb hG.1 hP hD hS 10 2 rfl rfl (vp_in_nI (n := 0) (by omega) (by omega)) dX9_keep_31 (fun H locs hP hD hS => ?_)
        have hP : va_P D vwCl [(x, .inr (9, [.ref xt, .ref xc, .ref xi, .ref xk, .ref xb, .ref xr, .ref xp, .ref xo, .ref xl, .ref xm, .ref xw, .ref xv, .int fb])), (xi, .inl (k 3, 2, .inr (.inr (.inr (.inr (va_up (va_up (fun _ => none) 0 (some xd)) 1 (some xe))))))), (xe, .inr (2, [.ref e0, .ref e1, .ref e2, .ref e3, .ref e4, .ref e5, .ref e6, .int 0, .int 0, .int 0])), (e0, .inl (k 0, 3, .inl (fl_i (fun _ => 0) 0 3))), (e1, .inl (k 0, 3, .inl (fl_i (fun _ => 0) 0 3))), (e2, .inl (k 0, 3, .inl (fl_i (fun _ => 0) 0 3))), (e3, .inl (k 0, 3, .inl (fl_i (fun _ => 0) 0 3))), (e4, .inl (k 0, 3, .inl (fl_i (fun _ => 0) (-1) 3))), (e5, .inl (k 0, 3, .inl (fl_i (fun _ => 0) (-1) 3))), (e6, .inl (k 0, 3, .inl (fl_i (fun _ => 0) (-1) 3))), (xk, .inl (k 2, 2, .inl (upd (fun _ => 0) 0 (vp_nar .boolean 1))))] H := hP
        have hD : va_D A [(x, .inr (9, [.ref xt, .ref xc, .ref xi, .ref xk, .ref xb, .ref xr, .ref xp, .ref xo, .ref xl, .ref xm, .ref xw, .ref xv, .int fb])), (xi, .inl (k 3, 2, .inr (.inr (.inr (.inr (va_up (va_up (fun _ => none) 0 (some xd)) 1 (some xe))))))), (xe, .inr (2, [.ref e0, .ref e1, .ref e2, .ref e3, .ref e4, .ref e5, .ref e6, .int 0, .int 0, .int 0])), (e0, .inl (k 0, 3, .inl (fl_i (fun _ => 0) 0 3))), (e1, .inl (k 0, 3, .inl (fl_i (fun _ => 0) 0 3))), (e2, .inl (k 0, 3, .inl (fl_i (fun _ => 0) 0 3))), (e3, .inl (k 0, 3, .inl (fl_i (fun _ => 0) 0 3))), (e4, .inl (k 0, 3, .inl (fl_i (fun _ => 0) (-1) 3))), (e5, .inl (k 0, 3, .inl (fl_i (fun _ => 0) (-1) 3))), (e6, .inl (k 0, 3, .inl (fl_i (fun _ => 0) (-1) 3))), (xk, .inl (k 2, 2, .inl (upd (fun _ => 0) 0 (vp_nar .boolean 1))))] := hD
        refine lv_iconst (v := 1) hx hb dX9_keep_32 (by decide) ?_
        have hP9 := hP.sub (ws' := []) [] rfl
        have hD9 := hD.sub (ws' := []) [] (by decide +kernel) rfl
        exact W.iret (v := 1) hx hb hr (fun t9 ht _ => ⟨⟨1, (), rfl, by simp [p_X9_keep, keA, hc1, hc2], by rw [ht]; exact hP9, hD9⟩, hS.F ht⟩) hS.2.2 dX9_keep_33
      · skip
        rw [e9] at hl
        refine lv_aload_n hx hb dX9_keep_12 rfl (lv_at hl 0 rfl) ?_
        refine va_get (D := D) (ci := 9) (v := .ref xi) (C := RX9) (T := TX9) (N := 13) hx hb hts hi9 hown hG.1 hP 0 rfl rfl 2 (by decide) (hts (.fieldLink RX9 23 "SleptMatters" "images" "[LSleptMatters$Course;") (List.mem_cons_of_mem _ (List.mem_append_left _ (List.mem_append_left _ (List.mem_of_getElem? (i := 1) rfl))))) (fun _ h9 => h9) rfl dX9_keep_13 ?_
        refine lv_iload_n hx hb dX9_keep_16 rfl (lv_at hl 1 rfl) ?_
        refine va_aldq (C := "SleptMatters$Course") hx hb hG.1 hP 9 3 rfl rfl (vp_in_nI (n := 1) (by omega) (by omega)) dX9_keep_17 ?_
        refine W.eq (g2 := F0 m 18 ls [.ref xe]) rfl ?_
        refine lv_aload_n hx hb dX9_keep_18 rfl (lv_at hl 0 rfl) ?_
        refine va_get (D := D) (ci := 9) (v := .ref xc) (C := RX9) (T := TX9) (N := 13) hx hb hts hi9 hown hG.1 hP 0 rfl rfl 1 (by decide) (hts (.fieldLink RX9 19 "SleptMatters" "course" "LSleptMatters$Course;") (List.mem_cons_of_mem _ (List.mem_append_left _ (List.mem_append_left _ (List.mem_of_getElem? (i := 2) rfl))))) (fun _ h9 => h9) rfl dX9_keep_19 ?_
        have hPc := hP.sub (ws' := (c_X2_copyFrom k xe e0 e1 e2 e3 e4 e5 e6 xc c0 c1 c2 c3 c4 c5 c6 (fl_i (fun _ => 0) 0 3) (fl_i (fun _ => 0) 0 3) (fl_i (fun _ => 0) 0 3) (fl_i (fun _ => 0) 0 3) (fl_i (fun _ => 0) (-1) 3) (fl_i (fun _ => 0) (-1) 3) (fl_i (fun _ => 0) (-1) 3) (fl_i (fun _ => 0) 0 3) (fl_i (fun _ => 0) 0 3) (fl_i (fun _ => 0) 0 3) (fl_i (fun _ => 0) 0 3) (fl_i (fun _ => 0) (-1) 3) (fl_i (fun _ => 0) (-1) 3) (fl_i (fun _ => 0) (-1) 3) 0 0 0 0 0 0)) [18, 19, 20, 21, 22, 23, 24, 25, 1, 2, 3, 4, 5, 6, 7, 8] rfl
        have hDc := hD.sub (ws' := (c_X2_copyFrom k xe e0 e1 e2 e3 e4 e5 e6 xc c0 c1 c2 c3 c4 c5 c6 (fl_i (fun _ => 0) 0 3) (fl_i (fun _ => 0) 0 3) (fl_i (fun _ => 0) 0 3) (fl_i (fun _ => 0) 0 3) (fl_i (fun _ => 0) (-1) 3) (fl_i (fun _ => 0) (-1) 3) (fl_i (fun _ => 0) (-1) 3) (fl_i (fun _ => 0) 0 3) (fl_i (fun _ => 0) 0 3) (fl_i (fun _ => 0) 0 3) (fl_i (fun _ => 0) 0 3) (fl_i (fun _ => 0) (-1) 3) (fl_i (fun _ => 0) (-1) 3) (fl_i (fun _ => 0) (-1) 3) 0 0 0 0 0 0)) [18, 19, 20, 21, 22, 23, 24, 25, 1, 2, 3, 4, 5, 6, 7, 8] (by decide +kernel) rfl
        refine cl_v (w1 := w_X2_copyFrom k xe e0 e1 e2 e3 e4 e5 e6 xc c0 c1 c2 c3 c4 c5 c6 (fl_i (fun _ => 0) 0 3) (fl_i (fun _ => 0) 0 3) (fl_i (fun _ => 0) 0 3) (fl_i (fun _ => 0) 0 3) (fl_i (fun _ => 0) (-1) 3) (fl_i (fun _ => 0) (-1) 3) (fl_i (fun _ => 0) (-1) 3) (fl_i (fun _ => 0) 0 3) (fl_i (fun _ => 0) 0 3) (fl_i (fun _ => 0) 0 3) (fl_i (fun _ => 0) 0 3) (fl_i (fun _ => 0) (-1) 3) (fl_i (fun _ => 0) (-1) 3) (fl_i (fun _ => 0) (-1) 3) 0 0 0 0 0 0) (wr := [(x, .inr (9, [.ref xt, .ref xc, .ref xi, .ref xk, .ref xb, .ref xr, .ref xp, .ref xo, .ref xl, .ref xm, .ref xw, .ref xv, .int fb])), (xi, .inl (k 3, 2, .inr (.inr (.inr (.inr (va_up (va_up (fun _ => none) 0 (some xd)) 1 (some xe))))))), (xd, .inr (2, [.ref d0, .ref d1, .ref d2, .ref d3, .ref d4, .ref d5, .ref d6, .int 0, .int 0, .int 0])), (d0, .inl (k 0, 3, .inl (fl_i (fun _ => 0) 0 3))), (d1, .inl (k 0, 3, .inl (fl_i (fun _ => 0) 0 3))), (d2, .inl (k 0, 3, .inl (fl_i (fun _ => 0) 0 3))), (d3, .inl (k 0, 3, .inl (fl_i (fun _ => 0) 0 3))), (d4, .inl (k 0, 3, .inl (fl_i (fun _ => 0) (-1) 3))), (d5, .inl (k 0, 3, .inl (fl_i (fun _ => 0) (-1) 3))), (d6, .inl (k 0, 3, .inl (fl_i (fun _ => 0) (-1) 3))), (xk, .inl (k 2, 2, .inl (fun _ => 0)))]) (va_runV (As := [.ref xc]) (rest := []) ⟨hx, hb, hml, hown, hts⟩ (X2_copyFrom l D k s.heap.size xe e0 e1 e2 e3 e4 e5 e6 xc c0 c1 c2 c3 c4 c5 c6 (fl_i (fun _ => 0) 0 3) (fl_i (fun _ => 0) 0 3) (fl_i (fun _ => 0) 0 3) (fl_i (fun _ => 0) 0 3) (fl_i (fun _ => 0) (-1) 3) (fl_i (fun _ => 0) (-1) 3) (fl_i (fun _ => 0) (-1) 3) (fl_i (fun _ => 0) 0 3) (fl_i (fun _ => 0) 0 3) (fl_i (fun _ => 0) 0 3) (fl_i (fun _ => 0) 0 3) (fl_i (fun _ => 0) (-1) 3) (fl_i (fun _ => 0) (-1) 3) (fl_i (fun _ => 0) (-1) 3) 0 0 0 0 0 0 ) (cwV 1 hts gX9_keep_X2_copyFrom rfl rfl rfl (by decide +kernel) ⟨Nat.le_of_ble_eq_true rfl, Nat.le_of_ble_eq_true rfl⟩) ⟨PR.blind _ _ _ _ _, va_recv hG.1 hP (ci := 2) (q0 := 18) rfl rfl, PR.pre hPc hDc hG [.ref xe, .ref xc]⟩ rfl rfl hl.1 rfl (lv_room (Nat.le_of_ble_eq_true rfl)) dX9_keep_22 ⟨Nat.le_of_ble_eq_true rfl, Nat.le_of_ble_eq_true rfl⟩) hP hD hS hA [18, 19, 20, 21, 22, 23, 24, 25, 1, 2, 3, 4, 5, 6, 7, 8] [0, 9, 10, 11, 12, 13, 14, 15, 16, 17, 26] rfl rfl (by decide +kernel) (by decide +kernel) (fun u H locs hq hP hD hS => ?_)
        cases u
        have hP : va_P D vwCl [(x, .inr (9, [.ref xt, .ref xc, .ref xi, .ref xk, .ref xb, .ref xr, .ref xp, .ref xo, .ref xl, .ref xm, .ref xw, .ref xv, .int fb])), (xi, .inl (k 3, 2, .inr (.inr (.inr (.inr (va_up (va_up (fun _ => none) 0 (some xd)) 1 (some xe))))))), (xd, .inr (2, [.ref d0, .ref d1, .ref d2, .ref d3, .ref d4, .ref d5, .ref d6, .int 0, .int 0, .int 0])), (d0, .inl (k 0, 3, .inl (fl_i (fun _ => 0) 0 3))), (d1, .inl (k 0, 3, .inl (fl_i (fun _ => 0) 0 3))), (d2, .inl (k 0, 3, .inl (fl_i (fun _ => 0) 0 3))), (d3, .inl (k 0, 3, .inl (fl_i (fun _ => 0) 0 3))), (d4, .inl (k 0, 3, .inl (fl_i (fun _ => 0) (-1) 3))), (d5, .inl (k 0, 3, .inl (fl_i (fun _ => 0) (-1) 3))), (d6, .inl (k 0, 3, .inl (fl_i (fun _ => 0) (-1) 3))), (xk, .inl (k 2, 2, .inl (fun _ => 0)))] H := hP
        have hD : va_D A [(x, .inr (9, [.ref xt, .ref xc, .ref xi, .ref xk, .ref xb, .ref xr, .ref xp, .ref xo, .ref xl, .ref xm, .ref xw, .ref xv, .int fb])), (xi, .inl (k 3, 2, .inr (.inr (.inr (.inr (va_up (va_up (fun _ => none) 0 (some xd)) 1 (some xe))))))), (xd, .inr (2, [.ref d0, .ref d1, .ref d2, .ref d3, .ref d4, .ref d5, .ref d6, .int 0, .int 0, .int 0])), (d0, .inl (k 0, 3, .inl (fl_i (fun _ => 0) 0 3))), (d1, .inl (k 0, 3, .inl (fl_i (fun _ => 0) 0 3))), (d2, .inl (k 0, 3, .inl (fl_i (fun _ => 0) 0 3))), (d3, .inl (k 0, 3, .inl (fl_i (fun _ => 0) 0 3))), (d4, .inl (k 0, 3, .inl (fl_i (fun _ => 0) (-1) 3))), (d5, .inl (k 0, 3, .inl (fl_i (fun _ => 0) (-1) 3))), (d6, .inl (k 0, 3, .inl (fl_i (fun _ => 0) (-1) 3))), (xk, .inl (k 2, 2, .inl (fun _ => 0)))] := hD
        refine lv_aload_n hx hb dX9_keep_25 rfl (lv_at hl 0 rfl) ?_
        refine va_get (D := D) (ci := 9) (v := .ref xk) (C := RX9) (T := TX9) (N := 13) hx hb hts hi9 hown hG.1 hP 0 rfl rfl 3 (by decide) (hts (.fieldLink RX9 27 "SleptMatters" "imageKept" "[Z") (List.mem_cons_of_mem _ (List.mem_append_left _ (List.mem_append_left _ (List.mem_of_getElem? (i := 3) rfl))))) (fun _ h9 => h9) rfl dX9_keep_26 ?_
        refine lv_iload_n hx hb dX9_keep_29 rfl (lv_at hl 1 rfl) ?_
        refine lv_iconst (v := 1) hx hb dX9_keep_30 (by decide) ?_
        refine va_zast hx hb hG.1 hP hD hS 10 2 rfl rfl (vp_in_nI (n := 1) (by omega) (by omega)) dX9_keep_31 (fun H locs hP hD hS => ?_)
        have hP : va_P D vwCl [(x, .inr (9, [.ref xt, .ref xc, .ref xi, .ref xk, .ref xb, .ref xr, .ref xp, .ref xo, .ref xl, .ref xm, .ref xw, .ref xv, .int fb])), (xi, .inl (k 3, 2, .inr (.inr (.inr (.inr (va_up (va_up (fun _ => none) 0 (some xd)) 1 (some xe))))))), (xd, .inr (2, [.ref d0, .ref d1, .ref d2, .ref d3, .ref d4, .ref d5, .ref d6, .int 0, .int 0, .int 0])), (d0, .inl (k 0, 3, .inl (fl_i (fun _ => 0) 0 3))), (d1, .inl (k 0, 3, .inl (fl_i (fun _ => 0) 0 3))), (d2, .inl (k 0, 3, .inl (fl_i (fun _ => 0) 0 3))), (d3, .inl (k 0, 3, .inl (fl_i (fun _ => 0) 0 3))), (d4, .inl (k 0, 3, .inl (fl_i (fun _ => 0) (-1) 3))), (d5, .inl (k 0, 3, .inl (fl_i (fun _ => 0) (-1) 3))), (d6, .inl (k 0, 3, .inl (fl_i (fun _ => 0) (-1) 3))), (xk, .inl (k 2, 2, .inl (upd (fun _ => 0) 1 (vp_nar .boolean 1))))] H := hP
        have hD : va_D A [(x, .inr (9, [.ref xt, .ref xc, .ref xi, .ref xk, .ref xb, .ref xr, .ref xp, .ref xo, .ref xl, .ref xm, .ref xw, .ref xv, .int fb])), (xi, .inl (k 3, 2, .inr (.inr (.inr (.inr (va_up (va_up (fun _ => none) 0 (some xd)) 1 (some xe))))))), (xd, .inr (2, [.ref d0, .ref d1, .ref d2, .ref d3, .ref d4, .ref d5, .ref d6, .int 0, .int 0, .int 0])), (d0, .inl (k 0, 3, .inl (fl_i (fun _ => 0) 0 3))), (d1, .inl (k 0, 3, .inl (fl_i (fun _ => 0) 0 3))), (d2, .inl (k 0, 3, .inl (fl_i (fun _ => 0) 0 3))), (d3, .inl (k 0, 3, .inl (fl_i (fun _ => 0) 0 3))), (d4, .inl (k 0, 3, .inl (fl_i (fun _ => 0) (-1) 3))), (d5, .inl (k 0, 3, .inl (fl_i (fun _ => 0) (-1) 3))), (d6, .inl (k 0, 3, .inl (fl_i (fun _ => 0) (-1) 3))), (xk, .inl (k 2, 2, .inl (upd (fun _ => 0) 1 (vp_nar .boolean 1))))] := hD
        refine lv_iconst (v := 1) hx hb dX9_keep_32 (by decide) ?_
        have hP9 := hP.sub (ws' := []) [] rfl
        have hD9 := hD.sub (ws' := []) [] (by decide +kernel) rfl
        exact W.iret (v := 1) hx hb hr (fun t9 ht _ => ⟨⟨1, (), rfl, by simp [p_X9_keep, keA, hc1, hc2], by rw [ht]; exact hP9, hD9⟩, hS.F ht⟩) hS.2.2 dX9_keep_33
    · skip
      refine lv_ldc (v := (-1000000001)) hx hb hown (hts (.constant RX9 147 (-1000000001)) (List.mem_cons_of_mem _ (List.mem_append_left _ (List.mem_append_left _ (List.mem_of_getElem? (i := 0) rfl))))) dX9_keep_9 ?_
      have hP9 := hP.sub (ws' := []) [] rfl
      have hD9 := hD.sub (ws' := []) [] (by decide +kernel) rfl
      exact W.iret (v := (-1000000001)) hx hb hr (fun t9 ht _ => ⟨⟨(-1000000001), (), rfl, by simp [p_X9_keep, keA, hc1, hc2], by rw [ht]; exact hP9, hD9⟩, hS.F ht⟩) hS.2.2 dX9_keep_11

abbrev c_X2_pass (k : Nat → ClassId) (h : Nat) (q0 : Nat) (q1 : Nat) (q2 : Nat) (q3 : Nat) (q4 : Nat) (q5 : Nat) (q6 : Nat) (f0 : Nat → Int32) (f1 : Nat → Int32) (f2 : Nat → Int32) (f3 : Nat → Int32) (f4 : Nat → Int32) (f5 : Nat → Int32) (f6 : Nat → Int32) (wg : Int32) (dy : Int32) (sd : Int32) (t0 : Nat) (t : Nat) (tn : Nat) (tl : Nat) (tc : Nat) (ta : Nat) (lw : Nat) : va_W := [(h, .inr (2, [.ref q0, .ref q1, .ref q2, .ref q3, .ref q4, .ref q5, .ref q6, .int wg, .int dy, .int sd])), (q0, .inl (k 0, 3, .inl f0)), (q1, .inl (k 0, 3, .inl f1)), (q2, .inl (k 0, 3, .inl f2)), (q3, .inl (k 0, 3, .inl f3)), (q4, .inl (k 0, 3, .inl f4)), (q5, .inl (k 0, 3, .inl f5)), (q6, .inl (k 0, 3, .inl f6)), (t0, .inr (8, [.ref t, .ref tn, .ref tl, .ref tc, .ref ta])), (t, .inl (k 0, 4, .inl (fun _ => 0)))]
abbrev r_X2_pass : Room := { frames := 2, cells := 0, slots := 0, locals := 43 }
def w_X2_pass (k : Nat → ClassId) (h : Nat) (q0 : Nat) (q1 : Nat) (q2 : Nat) (q3 : Nat) (q4 : Nat) (q5 : Nat) (q6 : Nat) (f0 : Nat → Int32) (f1 : Nat → Int32) (f2 : Nat → Int32) (f3 : Nat → Int32) (f4 : Nat → Int32) (f5 : Nat → Int32) (f6 : Nat → Int32) (wg : Int32) (dy : Int32) (sd : Int32) (t0 : Nat) (t : Nat) (tn : Nat) (tl : Nat) (tc : Nat) (ta : Nat) (lw : Nat) : Unit → va_W := fun _ => [(h, .inr (2, [.ref q0, .ref q1, .ref q2, .ref q3, .ref q4, .ref q5, .ref q6, .int wg, .int (dy + 1), .int sd])), (q0, .inl (k 0, 3, .inl f0)), (q1, .inl (k 0, 3, .inl f1)), (q2, .inl (k 0, 3, .inl f2)), (q3, .inl (k 0, 3, .inl f3)), (q4, .inl (k 0, 3, .inl f4)), (q5, .inl (k 0, 3, .inl (fl_i f5 (-1) 3))), (q6, .inl (k 0, 3, .inl (fl_i f6 (-1) 3))), (t0, .inr (8, [.ref t, .ref tn, .ref tl, .ref tc, .ref ta])), (t, .inl (k 0, 4, .inl (fun _ => 0)))]
def p_X2_pass (k : Nat → ClassId) (h : Nat) (q0 : Nat) (q1 : Nat) (q2 : Nat) (q3 : Nat) (q4 : Nat) (q5 : Nat) (q6 : Nat) (f0 : Nat → Int32) (f1 : Nat → Int32) (f2 : Nat → Int32) (f3 : Nat → Int32) (f4 : Nat → Int32) (f5 : Nat → Int32) (f6 : Nat → Int32) (wg : Int32) (dy : Int32) (sd : Int32) (t0 : Nat) (t : Nat) (tn : Nat) (tl : Nat) (tc : Nat) (ta : Nat) (lw : Nat) : Int32 → Unit → Prop := fun (r : Int32) (u : Unit) => r = 0
abbrev q_X2_pass (D : va_G) (k : Nat → ClassId) (h : Nat) (q0 : Nat) (q1 : Nat) (q2 : Nat) (q3 : Nat) (q4 : Nat) (q5 : Nat) (q6 : Nat) (f0 : Nat → Int32) (f1 : Nat → Int32) (f2 : Nat → Int32) (f3 : Nat → Int32) (f4 : Nat → Int32) (f5 : Nat → Int32) (f6 : Nat → Int32) (wg : Int32) (dy : Int32) (sd : Int32) (t0 : Nat) (t : Nat) (tn : Nat) (tl : Nat) (tc : Nat) (ta : Nat) (lw : Nat) (A : Nat → Prop) : Array Value → State → Outcome → State → Prop := va_Qi (p_X2_pass k h q0 q1 q2 q3 q4 q5 q6 f0 f1 f2 f3 f4 f5 f6 wg dy sd t0 t tn tl tc ta lw) (fun u9 t9 => BO D (w_X2_pass k h q0 q1 q2 q3 q4 q5 q6 f0 f1 f2 f3 f4 f5 f6 wg dy sd t0 t tn tl tc ta lw u9) A t9) A
set_option maxHeartbeats 2000000 in
set_option maxRecDepth 100000 in
theorem X2_pass (l : Launch) (D : va_G) (k : Nat → ClassId) (sz : Nat) (h : Nat) (q0 : Nat) (q1 : Nat) (q2 : Nat) (q3 : Nat) (q4 : Nat) (q5 : Nat) (q6 : Nat) (f0 : Nat → Int32) (f1 : Nat → Int32) (f2 : Nat → Int32) (f3 : Nat → Int32) (f4 : Nat → Int32) (f5 : Nat → Int32) (f6 : Nat → Int32) (wg : Int32) (dy : Int32) (sd : Int32) (t0 : Nat) (t : Nat) (tn : Nat) (tl : Nat) (tc : Nat) (ta : Nat) (lw : Nat)  : Met l yX2_pass wsX2_pass r_X2_pass (va_Pc [.ref h, .ref t0, .ref lw] (PR D k (c_X2_pass k h q0 q1 q2 q3 q4 q5 q6 f0 f1 f2 f3 f4 f5 f6 wg dy sd t0 t tn tl tc ta lw) sz)) (q_X2_pass D k h q0 q1 q2 q3 q4 q5 q6 f0 f1 f2 f3 f4 f5 f6 wg dy sd t0 t tn tl tc ta lw (va_A (c_X2_pass k h q0 q1 q2 q3 q4 q5 q6 f0 f1 f2 f3 f4 f5 f6 wg dy sd t0 t tn tl tc ta lw) sz)) 0 0 (va_A (c_X2_pass k h q0 q1 q2 q3 q4 q5 q6 f0 f1 f2 f3 f4 f5 f6 wg dy sd t0 t tn tl tc ta lw) sz) := by
  refine Met.ofW (cc := cX2_pass) (maxL := 6) (ret := (some .int)) (by decide) rfl ?_
  intro p e s m args below meth c s₁ B hml hv
  obtain ⟨rfl, hsz, hP, hG, hD0⟩ := hv
  have hx := B.exec
  have hb := B.bytes
  have hr := B.returns
  have hts := atoms_spec (ws := wsX2_pass) B.pre
  have hown : s.vm.findClass RX2 = some m.cls := findClass_of_methodNamed B.named
  have hlocks := B.notSynchronized
  have hi2 : ∀ w ∈ wsX20, w ∈ wsX2_pass := fun _ h => List.mem_cons_of_mem _ (List.mem_append_left _ (List.mem_append_left _ (List.mem_append_right _ h)))
  have hi3 : ∀ w ∈ wsX30, w ∈ wsX2_pass := fun _ h => List.mem_cons_of_mem _ (List.mem_append_left _ (List.mem_append_right _ h))
  have hi8 : ∀ w ∈ wsX80, w ∈ wsX2_pass := fun _ h => List.mem_cons_of_mem _ (List.mem_append_right _ h)
  subst hsz
  have hD := hD0.self (sz := s.heap.size)
  generalize hAe : va_A (c_X2_pass k h q0 q1 q2 q3 q4 q5 q6 f0 f1 f2 f3 f4 f5 f6 wg dy sd t0 t tn tl tc ta lw) s.heap.size = A at hD ⊢
  have hA : ∀ q : Nat, s.heap.size ≤ q → A q := fun q h => by rw [← hAe]; exact Or.inr h
  have hS : va_S A s.heap s.heap [] := va_S.rf
  have hP : va_P D vwCl [(h, .inr (2, [.ref q0, .ref q1, .ref q2, .ref q3, .ref q4, .ref q5, .ref q6, .int wg, .int dy, .int sd])), (q0, .inl (k 0, 3, .inl f0)), (q1, .inl (k 0, 3, .inl f1)), (q2, .inl (k 0, 3, .inl f2)), (q3, .inl (k 0, 3, .inl f3)), (q4, .inl (k 0, 3, .inl f4)), (q5, .inl (k 0, 3, .inl f5)), (q6, .inl (k 0, 3, .inl f6)), (t0, .inr (8, [.ref t, .ref tn, .ref tl, .ref tc, .ref ta])), (t, .inl (k 0, 4, .inl (fun _ => 0)))] s.heap := hP
  have hD : va_D A [(h, .inr (2, [.ref q0, .ref q1, .ref q2, .ref q3, .ref q4, .ref q5, .ref q6, .int wg, .int dy, .int sd])), (q0, .inl (k 0, 3, .inl f0)), (q1, .inl (k 0, 3, .inl f1)), (q2, .inl (k 0, 3, .inl f2)), (q3, .inl (k 0, 3, .inl f3)), (q4, .inl (k 0, 3, .inl f4)), (q5, .inl (k 0, 3, .inl f5)), (q6, .inl (k 0, 3, .inl f6)), (t0, .inr (8, [.ref t, .ref tn, .ref tl, .ref tc, .ref ta])), (t, .inl (k 0, 4, .inl (fun _ => 0)))] := hD
  have hl := lv_entry ([.ref h, .ref t0, .ref lw]) (n := 6) (Nat.le_of_ble_eq_true rfl)
  rw [lg_entry_eq]
  generalize (lg_sl ([.ref h, .ref t0, .ref lw]) ++ List.replicate (6 - (lg_sl ([.ref h, .ref t0, .ref lw])).length) Slot.unset).toArray = ls at hl ⊢
  have hl : lv_has ls 6 [(0, .ref h), (1, .ref t0), (2, .ref lw)] := hl
  refine lv_iconst (v := 0) hx hb dX2_pass_0 (by decide) ?_
  refine lv_istore_n (lv' := [(3, .int 0), (0, .ref h), (1, .ref t0), (2, .ref lw)]) hx hb dX2_pass_1 rfl hl (by decide) rfl (fun ls hl => ?_)
  refine lv_iconst (v := 0) hx hb dX2_pass_2 (by decide) ?_
  refine lv_istore (lv' := [(4, .int 0), (3, .int 0), (0, .ref h), (1, .ref t0), (2, .ref lw)]) hx hb dX2_pass_3 hl (by decide) rfl (fun ls hl => ?_)
  refine lv_iload hx hb dX2_pass_5 (lv_at hl 0 rfl) ?_
  refine lv_aload_n hx hb dX2_pass_7 rfl (lv_at hl 3 rfl) ?_
  refine lv_iconst (v := 3) hx hb dX2_pass_8 (by decide) ?_
  have hPc := hP.sub (ws' := (c_X8_count k t0 t tn tl tc ta (fun _ => 0) 3)) [8, 9] rfl
  refine vp_callSi (va_Run.run (va_runV (As := [.int 3]) (rest := [.int 0]) ⟨hx, hb, hml, hown, hts⟩ (X8_count l D k t0 t tn tl tc ta (fun _ => 0) 3 (by decide)) (cwV 1 hts gX2_pass_X8_count rfl rfl rfl (by decide +kernel) ⟨Nat.le_of_ble_eq_true rfl, Nat.le_of_ble_eq_true rfl⟩) ⟨PS.blind _ _ _ _, va_recv hG.1 hP (ci := 8) (q0 := 8) rfl rfl, PS.pre hPc hG [.ref t0, .int 3]⟩ rfl rfl hl.1 rfl (lv_room (Nat.le_of_ble_eq_true rfl)) dX2_pass_9 ⟨Nat.le_of_ble_eq_true rfl, Nat.le_of_ble_eq_true rfl⟩)) (fun r hq => ?_)
  generalize r = y1 at hq ⊢
  have hq : y1 = (fun _ => 0) 3 := hq
  refine tp_i (y := 0) (hq) ?_
  refine lv_icmp_ge (x := 0) (y := 0) (tgt := 126) hx hb dX2_pass_12 (by decide) (fun c2 => ?_) (fun c2 => absurd c2 (by decide))
  refine lv_aload_n hx hb dX2_pass_126 rfl (lv_at hl 2 rfl) ?_
  have hPc := hP.sub (ws' := (c_X2_emptyBeds k h q0 q1 q2 q3 q4 q5 q6 f0 f1 f2 f3 f4 f5 f6 wg dy sd)) [0, 1, 2, 3, 4, 5, 6, 7] rfl
  have hDc := hD.sub (ws' := (c_X2_emptyBeds k h q0 q1 q2 q3 q4 q5 q6 f0 f1 f2 f3 f4 f5 f6 wg dy sd)) [0, 1, 2, 3, 4, 5, 6, 7] (by decide +kernel) rfl
  refine cl_v (w1 := w_X2_emptyBeds k h q0 q1 q2 q3 q4 q5 q6 f0 f1 f2 f3 f4 f5 f6 wg dy sd) (wr := [(t0, .inr (8, [.ref t, .ref tn, .ref tl, .ref tc, .ref ta])), (t, .inl (k 0, 4, .inl (fun _ => 0)))]) (va_runV (As := []) (rest := []) ⟨hx, hb, hml, hown, hts⟩ (X2_emptyBeds l D k s.heap.size h q0 q1 q2 q3 q4 q5 q6 f0 f1 f2 f3 f4 f5 f6 wg dy sd ) (cwV 0 hts gX2_pass_X2_emptyBeds rfl rfl rfl (by decide +kernel) ⟨Nat.le_of_ble_eq_true rfl, Nat.le_of_ble_eq_true rfl⟩) ⟨PR.blind _ _ _ _ _, va_recv hG.1 hP (ci := 2) (q0 := 0) rfl rfl, PR.pre hPc hDc hG [.ref h]⟩ rfl rfl hl.1 rfl (lv_room (Nat.le_of_ble_eq_true rfl)) dX2_pass_127 ⟨Nat.le_of_ble_eq_true rfl, Nat.le_of_ble_eq_true rfl⟩) hP hD hS hA [0, 1, 2, 3, 4, 5, 6, 7] [8, 9] rfl rfl (by decide +kernel) (by decide +kernel) (fun u H locs hq hP hD hS => ?_)
  cases u
  have hP : va_P D vwCl [(t0, .inr (8, [.ref t, .ref tn, .ref tl, .ref tc, .ref ta])), (t, .inl (k 0, 4, .inl (fun _ => 0))), (h, .inr (2, [.ref q0, .ref q1, .ref q2, .ref q3, .ref q4, .ref q5, .ref q6, .int wg, .int dy, .int sd])), (q0, .inl (k 0, 3, .inl f0)), (q1, .inl (k 0, 3, .inl f1)), (q2, .inl (k 0, 3, .inl f2)), (q3, .inl (k 0, 3, .inl f3)), (q4, .inl (k 0, 3, .inl f4)), (q5, .inl (k 0, 3, .inl (fl_i f5 (-1) 3))), (q6, .inl (k 0, 3, .inl (fl_i f6 (-1) 3)))] H := hP
  have hD : va_D A [(t0, .inr (8, [.ref t, .ref tn, .ref tl, .ref tc, .ref ta])), (t, .inl (k 0, 4, .inl (fun _ => 0))), (h, .inr (2, [.ref q0, .ref q1, .ref q2, .ref q3, .ref q4, .ref q5, .ref q6, .int wg, .int dy, .int sd])), (q0, .inl (k 0, 3, .inl f0)), (q1, .inl (k 0, 3, .inl f1)), (q2, .inl (k 0, 3, .inl f2)), (q3, .inl (k 0, 3, .inl f3)), (q4, .inl (k 0, 3, .inl f4)), (q5, .inl (k 0, 3, .inl (fl_i f5 (-1) 3))), (q6, .inl (k 0, 3, .inl (fl_i f6 (-1) 3)))] := hD
  refine lv_aload_n hx hb dX2_pass_130 rfl (lv_at hl 2 rfl) ?_
  refine lv_dup hx hb dX2_pass_131 rfl ?_
  refine va_get (D := D) (ci := 2) (v := .int dy) (C := RX2) (T := TX2) (N := 10) hx hb hts hi2 hown hG.1 hP 2 rfl rfl 8 (by decide) (hts (.fieldLink RX2 37 "SleptMatters$Course" "day" "I") (List.mem_cons_of_mem _ (List.mem_append_left _ (List.mem_append_left _ (List.mem_append_left _ (List.mem_append_left _ (List.mem_of_getElem? (i := 3) rfl))))))) (fun _ h9 => h9) rfl dX2_pass_132 ?_
  refine lv_iconst (v := 1) hx hb dX2_pass_135 (by decide) ?_
  refine lv_iadd hx hb dX2_pass_136 ?_
  refine va_put (D := D) (ci := 2) (v := .int (dy + 1)) (ty := .int) (C := RX2) (T := TX2) (N := 10) hx hb hts hi2 tyX2 tyX2_ok nmX2 hown hG.1 hP hD hS 2 rfl rfl 8 (by decide) (hts (.fieldLink RX2 37 "SleptMatters$Course" "day" "I") (List.mem_cons_of_mem _ (List.mem_append_left _ (List.mem_append_left _ (List.mem_append_left _ (List.mem_append_left _ (List.mem_of_getElem? (i := 3) rfl))))))) (fun _ h9 => h9) rfl (by decide +kernel) rfl rfl (Nat.le_of_ble_eq_true rfl) dX2_pass_137 (fun H locs hP hD hS => ?_)
  have hP : va_P D vwCl [(t0, .inr (8, [.ref t, .ref tn, .ref tl, .ref tc, .ref ta])), (t, .inl (k 0, 4, .inl (fun _ => 0))), (h, .inr (2, [.ref q0, .ref q1, .ref q2, .ref q3, .ref q4, .ref q5, .ref q6, .int wg, .int (dy + 1), .int sd])), (q0, .inl (k 0, 3, .inl f0)), (q1, .inl (k 0, 3, .inl f1)), (q2, .inl (k 0, 3, .inl f2)), (q3, .inl (k 0, 3, .inl f3)), (q4, .inl (k 0, 3, .inl f4)), (q5, .inl (k 0, 3, .inl (fl_i f5 (-1) 3))), (q6, .inl (k 0, 3, .inl (fl_i f6 (-1) 3)))] H := hP
  have hD : va_D A [(t0, .inr (8, [.ref t, .ref tn, .ref tl, .ref tc, .ref ta])), (t, .inl (k 0, 4, .inl (fun _ => 0))), (h, .inr (2, [.ref q0, .ref q1, .ref q2, .ref q3, .ref q4, .ref q5, .ref q6, .int wg, .int (dy + 1), .int sd])), (q0, .inl (k 0, 3, .inl f0)), (q1, .inl (k 0, 3, .inl f1)), (q2, .inl (k 0, 3, .inl f2)), (q3, .inl (k 0, 3, .inl f3)), (q4, .inl (k 0, 3, .inl f4)), (q5, .inl (k 0, 3, .inl (fl_i f5 (-1) 3))), (q6, .inl (k 0, 3, .inl (fl_i f6 (-1) 3)))] := hD
  refine lv_iload_n hx hb dX2_pass_140 rfl (lv_at hl 1 rfl) ?_
  have hP9 := hP.sub (ws' := [(h, .inr (2, [.ref q0, .ref q1, .ref q2, .ref q3, .ref q4, .ref q5, .ref q6, .int wg, .int (dy + 1), .int sd])), (q0, .inl (k 0, 3, .inl f0)), (q1, .inl (k 0, 3, .inl f1)), (q2, .inl (k 0, 3, .inl f2)), (q3, .inl (k 0, 3, .inl f3)), (q4, .inl (k 0, 3, .inl f4)), (q5, .inl (k 0, 3, .inl (fl_i f5 (-1) 3))), (q6, .inl (k 0, 3, .inl (fl_i f6 (-1) 3))), (t0, .inr (8, [.ref t, .ref tn, .ref tl, .ref tc, .ref ta])), (t, .inl (k 0, 4, .inl (fun _ => 0)))]) [2, 3, 4, 5, 6, 7, 8, 9, 0, 1] rfl
  have hD9 := hD.sub (ws' := [(h, .inr (2, [.ref q0, .ref q1, .ref q2, .ref q3, .ref q4, .ref q5, .ref q6, .int wg, .int (dy + 1), .int sd])), (q0, .inl (k 0, 3, .inl f0)), (q1, .inl (k 0, 3, .inl f1)), (q2, .inl (k 0, 3, .inl f2)), (q3, .inl (k 0, 3, .inl f3)), (q4, .inl (k 0, 3, .inl f4)), (q5, .inl (k 0, 3, .inl (fl_i f5 (-1) 3))), (q6, .inl (k 0, 3, .inl (fl_i f6 (-1) 3))), (t0, .inr (8, [.ref t, .ref tn, .ref tl, .ref tc, .ref ta])), (t, .inl (k 0, 4, .inl (fun _ => 0)))]) [2, 3, 4, 5, 6, 7, 8, 9, 0, 1] (by decide +kernel) rfl
  exact W.iret (v := 0) hx hb hr (fun t9 ht _ => ⟨⟨0, (), rfl, rfl, by rw [ht]; exact hP9, hD9⟩, hS.F ht⟩) hS.2.2 dX2_pass_141

abbrev c_X2_layByThemselves (k : Nat → ClassId) (h : Nat) (t0 : Nat) (t : Nat) (tn : Nat) (tl : Nat) (tc : Nat) (ta : Nat) : va_W := [(t0, .inr (8, [.ref t, .ref tn, .ref tl, .ref tc, .ref ta])), (t, .inl (k 0, 4, .inl (fun _ => 0)))]
abbrev r_X2_layByThemselves : Room := { frames := 1, cells := 0, slots := 0, locals := 21 }
def w_X2_layByThemselves (k : Nat → ClassId) (h : Nat) (t0 : Nat) (t : Nat) (tn : Nat) (tl : Nat) (tc : Nat) (ta : Nat) : Unit → va_W := fun _ => [(t0, .inr (8, [.ref t, .ref tn, .ref tl, .ref tc, .ref ta])), (t, .inl (k 0, 4, .inl (fun _ => 0)))]
def p_X2_layByThemselves (k : Nat → ClassId) (h : Nat) (t0 : Nat) (t : Nat) (tn : Nat) (tl : Nat) (tc : Nat) (ta : Nat) : Unit → Prop := fun (u : Unit) => True
abbrev q_X2_layByThemselves (D : va_G) (k : Nat → ClassId) (h : Nat) (t0 : Nat) (t : Nat) (tn : Nat) (tl : Nat) (tc : Nat) (ta : Nat) (A : Nat → Prop) : Array Value → State → Outcome → State → Prop := va_Qv (p_X2_layByThemselves k h t0 t tn tl tc ta) (fun u9 t9 => BO D (w_X2_layByThemselves k h t0 t tn tl tc ta u9) A t9) A
set_option maxHeartbeats 2000000 in
set_option maxRecDepth 100000 in
theorem X2_layByThemselves (l : Launch) (D : va_G) (k : Nat → ClassId) (sz : Nat) (h : Nat) (t0 : Nat) (t : Nat) (tn : Nat) (tl : Nat) (tc : Nat) (ta : Nat)  : Met l yX2_layByThemselves wsX2_layByThemselves r_X2_layByThemselves (va_Pc [.ref h, .ref t0] (PR D k (c_X2_layByThemselves k h t0 t tn tl tc ta) sz)) (q_X2_layByThemselves D k h t0 t tn tl tc ta (va_A (c_X2_layByThemselves k h t0 t tn tl tc ta) sz)) 0 0 (va_A (c_X2_layByThemselves k h t0 t tn tl tc ta) sz) := by
  refine Met.ofW (cc := cX2_layByThemselves) (maxL := 3) (ret := none) (by decide) rfl ?_
  intro p e s m args below meth c s₁ B hml hv
  obtain ⟨rfl, hsz, hP, hG, hD0⟩ := hv
  have hx := B.exec
  have hb := B.bytes
  have hr := B.returns
  have hts := atoms_spec (ws := wsX2_layByThemselves) B.pre
  have hown : s.vm.findClass RX2 = some m.cls := findClass_of_methodNamed B.named
  have hlocks := B.notSynchronized
  have hi8 : ∀ w ∈ wsX80, w ∈ wsX2_layByThemselves := fun _ h => List.mem_cons_of_mem _ (List.mem_append_left _ (List.mem_append_right _ h))
  have hi2 : ∀ w ∈ wsX20, w ∈ wsX2_layByThemselves := fun _ h => List.mem_cons_of_mem _ (List.mem_append_right _ h)
  subst hsz
  have hD := hD0.self (sz := s.heap.size)
  generalize hAe : va_A (c_X2_layByThemselves k h t0 t tn tl tc ta) s.heap.size = A at hD ⊢
  have hA : ∀ q : Nat, s.heap.size ≤ q → A q := fun q h => by rw [← hAe]; exact Or.inr h
  have hS : va_S A s.heap s.heap [] := va_S.rf
  have hP : va_P D vwCl [(t0, .inr (8, [.ref t, .ref tn, .ref tl, .ref tc, .ref ta])), (t, .inl (k 0, 4, .inl (fun _ => 0)))] s.heap := hP
  have hD : va_D A [(t0, .inr (8, [.ref t, .ref tn, .ref tl, .ref tc, .ref ta])), (t, .inl (k 0, 4, .inl (fun _ => 0)))] := hD
  have hl := lv_entry ([.ref h, .ref t0]) (n := 3) (Nat.le_of_ble_eq_true rfl)
  rw [lg_entry_eq]
  generalize (lg_sl ([.ref h, .ref t0]) ++ List.replicate (3 - (lg_sl ([.ref h, .ref t0])).length) Slot.unset).toArray = ls at hl ⊢
  have hl : lv_has ls 3 [(0, .ref h), (1, .ref t0)] := hl
  refine lv_iconst (v := 0) hx hb dX2_layByThemselves_0 (by decide) ?_
  refine lv_istore_n (lv' := [(2, .int 0), (0, .ref h), (1, .ref t0)]) hx hb dX2_layByThemselves_1 rfl hl (by decide) rfl (fun ls hl => ?_)
  refine lv_iload_n hx hb dX2_layByThemselves_2 rfl (lv_at hl 0 rfl) ?_
  refine lv_aload_n hx hb dX2_layByThemselves_3 rfl (lv_at hl 2 rfl) ?_
  refine lv_iconst (v := 3) hx hb dX2_layByThemselves_4 (by decide) ?_
  have hPc := hP.sub (ws' := (c_X8_count k t0 t tn tl tc ta (fun _ => 0) 3)) [0, 1] rfl
  refine vp_callSi (va_Run.run (va_runV (As := [.int 3]) (rest := [.int 0]) ⟨hx, hb, hml, hown, hts⟩ (X8_count l D k t0 t tn tl tc ta (fun _ => 0) 3 (by decide)) (cwV 1 hts gX2_layByThemselves_X8_count rfl rfl rfl (by decide +kernel) ⟨Nat.le_of_ble_eq_true rfl, Nat.le_of_ble_eq_true rfl⟩) ⟨PS.blind _ _ _ _, va_recv hG.1 hP (ci := 8) (q0 := 0) rfl rfl, PS.pre hPc hG [.ref t0, .int 3]⟩ rfl rfl hl.1 rfl (lv_room (Nat.le_of_ble_eq_true rfl)) dX2_layByThemselves_5 ⟨Nat.le_of_ble_eq_true rfl, Nat.le_of_ble_eq_true rfl⟩)) (fun r hq => ?_)
  generalize r = y1 at hq ⊢
  have hq : y1 = (fun _ => 0) 3 := hq
  refine tp_i (y := 0) (hq) ?_
  refine lv_icmp_ge (x := 0) (y := 0) (tgt := 32) hx hb dX2_layByThemselves_8 (by decide) (fun c2 => ?_) (fun c2 => absurd c2 (by decide))
  have hP9 := hP.sub (ws' := [(t0, .inr (8, [.ref t, .ref tn, .ref tl, .ref tc, .ref ta])), (t, .inl (k 0, 4, .inl (fun _ => 0)))]) [0, 1] rfl
  have hD9 := hD.sub (ws' := [(t0, .inr (8, [.ref t, .ref tn, .ref tl, .ref tc, .ref ta])), (t, .inl (k 0, 4, .inl (fun _ => 0)))]) [0, 1] (by decide +kernel) rfl
  exact W.vret hx hb hr (fun t9 ht _ => ⟨⟨(), rfl, trivial, by rw [ht]; exact hP9, hD9⟩, hS.F ht⟩) hS.2.2 dX2_layByThemselves_32

abbrev c_X2_decidedMatters (k : Nat → ClassId) (h : Nat) (q0 : Nat) (q1 : Nat) (q2 : Nat) (q3 : Nat) (q4 : Nat) (q5 : Nat) (q6 : Nat) (wg : Int32) (dy : Int32) (sd : Int32) (f3 : Nat → Int32) : va_W := [(h, .inr (2, [.ref q0, .ref q1, .ref q2, .ref q3, .ref q4, .ref q5, .ref q6, .int wg, .int dy, .int sd])), (q3, .inl (k 0, 3, .inl f3))]
abbrev r_X2_decidedMatters : Room := { frames := 0, cells := 0, slots := 0, locals := 0 }
abbrev q_X2_decidedMatters (k : Nat → ClassId) (h : Nat) (q0 : Nat) (q1 : Nat) (q2 : Nat) (q3 : Nat) (q4 : Nat) (q5 : Nat) (q6 : Nat) (wg : Int32) (dy : Int32) (sd : Int32) (f3 : Nat → Int32) : Array Value → State → Outcome → State → Prop := vp_Si (fun r => r = 0)
set_option maxHeartbeats 2000000 in
set_option maxRecDepth 100000 in
theorem X2_decidedMatters (l : Launch) (D : va_G) (k : Nat → ClassId) (h : Nat) (q0 : Nat) (q1 : Nat) (q2 : Nat) (q3 : Nat) (q4 : Nat) (q5 : Nat) (q6 : Nat) (wg : Int32) (dy : Int32) (sd : Int32) (f3 : Nat → Int32) (h3 : ∀ j, j < 3 → f3 j = 0) : Met l yX2_decidedMatters wsX2_decidedMatters r_X2_decidedMatters (va_Pc [.ref h] (PS D k (c_X2_decidedMatters k h q0 q1 q2 q3 q4 q5 q6 wg dy sd f3))) (q_X2_decidedMatters k h q0 q1 q2 q3 q4 q5 q6 wg dy sd f3) 0 0 (fun _ => False) := by
  refine Met.ofW (cc := cX2_decidedMatters) (maxL := 3) (ret := (some .int)) (by decide) rfl ?_
  intro p e s m args below meth c s₁ B hml hv
  obtain ⟨rfl, hP, hG⟩ := hv
  have hx := B.exec
  have hb := B.bytes
  have hr := B.returns
  have hts := atoms_spec (ws := wsX2_decidedMatters) B.pre
  have hown : s.vm.findClass RX2 = some m.cls := findClass_of_methodNamed B.named
  have hlocks := B.notSynchronized
  have hi2 : ∀ w ∈ wsX20, w ∈ wsX2_decidedMatters := fun _ h => List.mem_cons_of_mem _ (List.mem_append_right _ h)
  have hP : va_P D vwCl [(h, .inr (2, [.ref q0, .ref q1, .ref q2, .ref q3, .ref q4, .ref q5, .ref q6, .int wg, .int dy, .int sd])), (q3, .inl (k 0, 3, .inl f3))] s.heap := hP
  have hl := lv_entry ([.ref h]) (n := 3) (Nat.le_of_ble_eq_true rfl)
  rw [lg_entry_eq]
  generalize (lg_sl ([.ref h]) ++ List.replicate (3 - (lg_sl ([.ref h])).length) Slot.unset).toArray = ls at hl ⊢
  have hl : lv_has ls 3 [(0, .ref h)] := hl
  refine lv_iconst (v := 0) hx hb dX2_decidedMatters_0 (by decide) ?_
  refine lv_istore_n (lv' := [(1, .int 0), (0, .ref h)]) hx hb dX2_decidedMatters_1 rfl hl (by decide) rfl (fun ls hl => ?_)
  refine lv_iconst (v := 0) hx hb dX2_decidedMatters_2 (by decide) ?_
  refine lv_istore_n (lv' := [(2, .int 0), (1, .int 0), (0, .ref h)]) hx hb dX2_decidedMatters_3 rfl hl (by decide) rfl (fun ls hl => ?_)
  refine lv_iload_n hx hb dX2_decidedMatters_4 rfl (lv_at hl 0 rfl) ?_
  refine lv_iconst (v := 3) hx hb dX2_decidedMatters_5 (by decide) ?_
  refine lv_icmp_ge (x := 0) (y := 3) (tgt := 27) hx hb dX2_decidedMatters_6 (by decide) (fun c1 => absurd c1 (by decide)) (fun c1 => ?_)
  refine lv_aload_n hx hb dX2_decidedMatters_9 rfl (lv_at hl 2 rfl) ?_
  refine va_get (D := D) (ci := 2) (v := .ref q3) (C := RX2) (T := TX2) (N := 10) hx hb hts hi2 hown hG.1 hP 0 rfl rfl 3 (by decide) (hts (.fieldLink RX2 21 "SleptMatters$Course" "outcome" "[I") (List.mem_cons_of_mem _ (List.mem_append_left _ (List.mem_of_getElem? (i := 0) rfl)))) (fun _ h9 => h9) rfl dX2_decidedMatters_10 ?_
  refine lv_iload_n hx hb dX2_decidedMatters_13 rfl (lv_at hl 0 rfl) ?_
  refine va_iald hx hb hG.1 hP 1 0 rfl rfl (vp_in_nI (n := 0) (by omega) (by omega)) dX2_decidedMatters_14 ?_
  refine tp_i (y := 0) (h3 _ (by decide)) ?_
  refine lv_if_eq (x := 0) (tgt := 21) hx hb dX2_decidedMatters_15 (by decide) (fun c2 => ?_) (fun c2 => absurd c2 (by decide))
  refine lv_iinc (v := 1) (lv' := [(2, .int 1), (1, .int 0), (0, .ref h)]) hx hb dX2_decidedMatters_21 hl (k := 0) rfl (by decide) (by decide) rfl (fun ls hl => ?_)
  refine lv_goto (tgt := 4) hx hb dX2_decidedMatters_24 (by decide) ?_
  refine lv_iload_n hx hb dX2_decidedMatters_4 rfl (lv_at hl 0 rfl) ?_
  refine lv_iconst (v := 3) hx hb dX2_decidedMatters_5 (by decide) ?_
  refine lv_icmp_ge (x := 1) (y := 3) (tgt := 27) hx hb dX2_decidedMatters_6 (by decide) (fun c3 => absurd c3 (by decide)) (fun c3 => ?_)
  refine lv_aload_n hx hb dX2_decidedMatters_9 rfl (lv_at hl 2 rfl) ?_
  refine va_get (D := D) (ci := 2) (v := .ref q3) (C := RX2) (T := TX2) (N := 10) hx hb hts hi2 hown hG.1 hP 0 rfl rfl 3 (by decide) (hts (.fieldLink RX2 21 "SleptMatters$Course" "outcome" "[I") (List.mem_cons_of_mem _ (List.mem_append_left _ (List.mem_of_getElem? (i := 0) rfl)))) (fun _ h9 => h9) rfl dX2_decidedMatters_10 ?_
  refine lv_iload_n hx hb dX2_decidedMatters_13 rfl (lv_at hl 0 rfl) ?_
  refine va_iald hx hb hG.1 hP 1 0 rfl rfl (vp_in_nI (n := 1) (by omega) (by omega)) dX2_decidedMatters_14 ?_
  refine tp_i (y := 0) (h3 _ (by decide)) ?_
  refine lv_if_eq (x := 0) (tgt := 21) hx hb dX2_decidedMatters_15 (by decide) (fun c4 => ?_) (fun c4 => absurd c4 (by decide))
  refine lv_iinc (v := 2) (lv' := [(2, .int 2), (1, .int 0), (0, .ref h)]) hx hb dX2_decidedMatters_21 hl (k := 0) rfl (by decide) (by decide) rfl (fun ls hl => ?_)
  refine lv_goto (tgt := 4) hx hb dX2_decidedMatters_24 (by decide) ?_
  refine lv_iload_n hx hb dX2_decidedMatters_4 rfl (lv_at hl 0 rfl) ?_
  refine lv_iconst (v := 3) hx hb dX2_decidedMatters_5 (by decide) ?_
  refine lv_icmp_ge (x := 2) (y := 3) (tgt := 27) hx hb dX2_decidedMatters_6 (by decide) (fun c5 => absurd c5 (by decide)) (fun c5 => ?_)
  refine lv_aload_n hx hb dX2_decidedMatters_9 rfl (lv_at hl 2 rfl) ?_
  refine va_get (D := D) (ci := 2) (v := .ref q3) (C := RX2) (T := TX2) (N := 10) hx hb hts hi2 hown hG.1 hP 0 rfl rfl 3 (by decide) (hts (.fieldLink RX2 21 "SleptMatters$Course" "outcome" "[I") (List.mem_cons_of_mem _ (List.mem_append_left _ (List.mem_of_getElem? (i := 0) rfl)))) (fun _ h9 => h9) rfl dX2_decidedMatters_10 ?_
  refine lv_iload_n hx hb dX2_decidedMatters_13 rfl (lv_at hl 0 rfl) ?_
  refine va_iald hx hb hG.1 hP 1 0 rfl rfl (vp_in_nI (n := 2) (by omega) (by omega)) dX2_decidedMatters_14 ?_
  refine tp_i (y := 0) (h3 _ (by decide)) ?_
  refine lv_if_eq (x := 0) (tgt := 21) hx hb dX2_decidedMatters_15 (by decide) (fun c6 => ?_) (fun c6 => absurd c6 (by decide))
  refine lv_iinc (v := 3) (lv' := [(2, .int 3), (1, .int 0), (0, .ref h)]) hx hb dX2_decidedMatters_21 hl (k := 0) rfl (by decide) (by decide) rfl (fun ls hl => ?_)
  refine lv_goto (tgt := 4) hx hb dX2_decidedMatters_24 (by decide) ?_
  refine lv_iload_n hx hb dX2_decidedMatters_4 rfl (lv_at hl 0 rfl) ?_
  refine lv_iconst (v := 3) hx hb dX2_decidedMatters_5 (by decide) ?_
  refine lv_icmp_ge (x := 3) (y := 3) (tgt := 27) hx hb dX2_decidedMatters_6 (by decide) (fun c7 => ?_) (fun c7 => absurd c7 (by decide))
  refine lv_iload_n hx hb dX2_decidedMatters_27 rfl (lv_at hl 1 rfl) ?_
  exact W.iret (v := 0) hx hb hr (fun t9 ht _ => ⟨0, rfl, rfl, ht⟩) (fun q h => by cases h) dX2_decidedMatters_28

abbrev c_X9_night (k : Nat → ClassId) (x : Nat) (xt : Nat) (xc : Nat) (xi : Nat) (xk : Nat) (xb : Nat) (xr : Nat) (xp : Nat) (xo : Nat) (xl : Nat) (xm : Nat) (xw : Nat) (xv : Nat) (fb : Int32) (lt : Nat) (ltn : Nat) (ltl : Nat) (ltc : Nat) (lta : Nat) (c0 : Nat) (c1 : Nat) (c2 : Nat) (c3 : Nat) (c4 : Nat) (c5 : Nat) (c6 : Nat) : va_W := [(x, .inr (9, [.ref xt, .ref xc, .ref xi, .ref xk, .ref xb, .ref xr, .ref xp, .ref xo, .ref xl, .ref xm, .ref xw, .ref xv, .int fb])), (xc, .inr (2, [.ref c0, .ref c1, .ref c2, .ref c3, .ref c4, .ref c5, .ref c6, .int 0, .int 0, .int 0])), (c0, .inl (k 0, 3, .inl (fl_i (fun _ => 0) 0 3))), (c1, .inl (k 0, 3, .inl (fl_i (fun _ => 0) 0 3))), (c2, .inl (k 0, 3, .inl (fl_i (fun _ => 0) 0 3))), (c3, .inl (k 0, 3, .inl (fl_i (fun _ => 0) 0 3))), (c4, .inl (k 0, 3, .inl (fl_i (fun _ => 0) (-1) 3))), (c5, .inl (k 0, 3, .inl (fl_i (fun _ => 0) (-1) 3))), (c6, .inl (k 0, 3, .inl (fl_i (fun _ => 0) (-1) 3))), (xl, .inr (8, [.ref lt, .ref ltn, .ref ltl, .ref ltc, .ref lta])), (lt, .inl (k 0, 4, .inl (fun _ => 0)))]
abbrev r_X9_night : Room := { frames := 3, cells := 0, slots := 0, locals := 68 }
def w_X9_night (k : Nat → ClassId) (x : Nat) (xt : Nat) (xc : Nat) (xi : Nat) (xk : Nat) (xb : Nat) (xr : Nat) (xp : Nat) (xo : Nat) (xl : Nat) (xm : Nat) (xw : Nat) (xv : Nat) (fb : Int32) (lt : Nat) (ltn : Nat) (ltl : Nat) (ltc : Nat) (lta : Nat) (c0 : Nat) (c1 : Nat) (c2 : Nat) (c3 : Nat) (c4 : Nat) (c5 : Nat) (c6 : Nat) : Unit → va_W := fun _ => []
def p_X9_night (k : Nat → ClassId) (x : Nat) (xt : Nat) (xc : Nat) (xi : Nat) (xk : Nat) (xb : Nat) (xr : Nat) (xp : Nat) (xo : Nat) (xl : Nat) (xm : Nat) (xw : Nat) (xv : Nat) (fb : Int32) (lt : Nat) (ltn : Nat) (ltl : Nat) (ltc : Nat) (lta : Nat) (c0 : Nat) (c1 : Nat) (c2 : Nat) (c3 : Nat) (c4 : Nat) (c5 : Nat) (c6 : Nat) : Int32 → Unit → Prop := fun (r : Int32) (u : Unit) => r = 0
abbrev q_X9_night (D : va_G) (k : Nat → ClassId) (x : Nat) (xt : Nat) (xc : Nat) (xi : Nat) (xk : Nat) (xb : Nat) (xr : Nat) (xp : Nat) (xo : Nat) (xl : Nat) (xm : Nat) (xw : Nat) (xv : Nat) (fb : Int32) (lt : Nat) (ltn : Nat) (ltl : Nat) (ltc : Nat) (lta : Nat) (c0 : Nat) (c1 : Nat) (c2 : Nat) (c3 : Nat) (c4 : Nat) (c5 : Nat) (c6 : Nat) (A : Nat → Prop) : Array Value → State → Outcome → State → Prop := va_Qi (p_X9_night k x xt xc xi xk xb xr xp xo xl xm xw xv fb lt ltn ltl ltc lta c0 c1 c2 c3 c4 c5 c6) (fun u9 t9 => BO D (w_X9_night k x xt xc xi xk xb xr xp xo xl xm xw xv fb lt ltn ltl ltc lta c0 c1 c2 c3 c4 c5 c6 u9) A t9) A
set_option maxHeartbeats 2000000 in
set_option maxRecDepth 100000 in
theorem X9_night (l : Launch) (D : va_G) (k : Nat → ClassId) (sz : Nat) (x : Nat) (xt : Nat) (xc : Nat) (xi : Nat) (xk : Nat) (xb : Nat) (xr : Nat) (xp : Nat) (xo : Nat) (xl : Nat) (xm : Nat) (xw : Nat) (xv : Nat) (fb : Int32) (lt : Nat) (ltn : Nat) (ltl : Nat) (ltc : Nat) (lta : Nat) (c0 : Nat) (c1 : Nat) (c2 : Nat) (c3 : Nat) (c4 : Nat) (c5 : Nat) (c6 : Nat)  : Met l yX9_night wsX9_night r_X9_night (va_Pc [.ref x] (PR D k (c_X9_night k x xt xc xi xk xb xr xp xo xl xm xw xv fb lt ltn ltl ltc lta c0 c1 c2 c3 c4 c5 c6) sz)) (q_X9_night D k x xt xc xi xk xb xr xp xo xl xm xw xv fb lt ltn ltl ltc lta c0 c1 c2 c3 c4 c5 c6 (va_A (c_X9_night k x xt xc xi xk xb xr xp xo xl xm xw xv fb lt ltn ltl ltc lta c0 c1 c2 c3 c4 c5 c6) sz)) 0 0 (va_A (c_X9_night k x xt xc xi xk xb xr xp xo xl xm xw xv fb lt ltn ltl ltc lta c0 c1 c2 c3 c4 c5 c6) sz) := by
  refine Met.ofW (cc := cX9_night) (maxL := 1) (ret := (some .int)) (by decide) rfl ?_
  intro p e s m args below meth c s₁ B hml hv
  obtain ⟨rfl, hsz, hP, hG, hD0⟩ := hv
  have hx := B.exec
  have hb := B.bytes
  have hr := B.returns
  have hts := atoms_spec (ws := wsX9_night) B.pre
  have hown : s.vm.findClass RX9 = some m.cls := findClass_of_methodNamed B.named
  have hlocks := B.notSynchronized
  have hi9 : ∀ w ∈ wsX90, w ∈ wsX9_night := fun _ h => List.mem_cons_of_mem _ (List.mem_append_left _ (List.mem_append_left _ (List.mem_append_left _ (List.mem_append_right _ h))))
  have hi2 : ∀ w ∈ wsX20, w ∈ wsX9_night := fun _ h => List.mem_cons_of_mem _ (List.mem_append_left _ (List.mem_append_left _ (List.mem_append_right _ h)))
  have hi3 : ∀ w ∈ wsX30, w ∈ wsX9_night := fun _ h => List.mem_cons_of_mem _ (List.mem_append_left _ (List.mem_append_right _ h))
  have hi8 : ∀ w ∈ wsX80, w ∈ wsX9_night := fun _ h => List.mem_cons_of_mem _ (List.mem_append_right _ h)
  subst hsz
  have hD := hD0.self (sz := s.heap.size)
  generalize hAe : va_A (c_X9_night k x xt xc xi xk xb xr xp xo xl xm xw xv fb lt ltn ltl ltc lta c0 c1 c2 c3 c4 c5 c6) s.heap.size = A at hD ⊢
  have hA : ∀ q : Nat, s.heap.size ≤ q → A q := fun q h => by rw [← hAe]; exact Or.inr h
  have hS : va_S A s.heap s.heap [] := va_S.rf
  have hP : va_P D vwCl [(x, .inr (9, [.ref xt, .ref xc, .ref xi, .ref xk, .ref xb, .ref xr, .ref xp, .ref xo, .ref xl, .ref xm, .ref xw, .ref xv, .int fb])), (xc, .inr (2, [.ref c0, .ref c1, .ref c2, .ref c3, .ref c4, .ref c5, .ref c6, .int 0, .int 0, .int 0])), (c0, .inl (k 0, 3, .inl (fl_i (fun _ => 0) 0 3))), (c1, .inl (k 0, 3, .inl (fl_i (fun _ => 0) 0 3))), (c2, .inl (k 0, 3, .inl (fl_i (fun _ => 0) 0 3))), (c3, .inl (k 0, 3, .inl (fl_i (fun _ => 0) 0 3))), (c4, .inl (k 0, 3, .inl (fl_i (fun _ => 0) (-1) 3))), (c5, .inl (k 0, 3, .inl (fl_i (fun _ => 0) (-1) 3))), (c6, .inl (k 0, 3, .inl (fl_i (fun _ => 0) (-1) 3))), (xl, .inr (8, [.ref lt, .ref ltn, .ref ltl, .ref ltc, .ref lta])), (lt, .inl (k 0, 4, .inl (fun _ => 0)))] s.heap := hP
  have hD : va_D A [(x, .inr (9, [.ref xt, .ref xc, .ref xi, .ref xk, .ref xb, .ref xr, .ref xp, .ref xo, .ref xl, .ref xm, .ref xw, .ref xv, .int fb])), (xc, .inr (2, [.ref c0, .ref c1, .ref c2, .ref c3, .ref c4, .ref c5, .ref c6, .int 0, .int 0, .int 0])), (c0, .inl (k 0, 3, .inl (fl_i (fun _ => 0) 0 3))), (c1, .inl (k 0, 3, .inl (fl_i (fun _ => 0) 0 3))), (c2, .inl (k 0, 3, .inl (fl_i (fun _ => 0) 0 3))), (c3, .inl (k 0, 3, .inl (fl_i (fun _ => 0) 0 3))), (c4, .inl (k 0, 3, .inl (fl_i (fun _ => 0) (-1) 3))), (c5, .inl (k 0, 3, .inl (fl_i (fun _ => 0) (-1) 3))), (c6, .inl (k 0, 3, .inl (fl_i (fun _ => 0) (-1) 3))), (xl, .inr (8, [.ref lt, .ref ltn, .ref ltl, .ref ltc, .ref lta])), (lt, .inl (k 0, 4, .inl (fun _ => 0)))] := hD
  have hl := lv_entry ([.ref x]) (n := 1) (Nat.le_of_ble_eq_true rfl)
  rw [lg_entry_eq]
  generalize (lg_sl ([.ref x]) ++ List.replicate (1 - (lg_sl ([.ref x])).length) Slot.unset).toArray = ls at hl ⊢
  have hl : lv_has ls 1 [(0, .ref x)] := hl
  refine lv_aload_n hx hb dX9_night_0 rfl (lv_at hl 0 rfl) ?_
  refine va_get (D := D) (ci := 9) (v := .ref xc) (C := RX9) (T := TX9) (N := 13) hx hb hts hi9 hown hG.1 hP 0 rfl rfl 1 (by decide) (hts (.fieldLink RX9 19 "SleptMatters" "course" "LSleptMatters$Course;") (List.mem_cons_of_mem _ (List.mem_append_left _ (List.mem_append_left _ (List.mem_append_left _ (List.mem_append_left _ (List.mem_append_left _ (List.mem_of_getElem? (i := 0) rfl)))))))) (fun _ h9 => h9) rfl dX9_night_1 ?_
  refine lv_aload_n hx hb dX9_night_4 rfl (lv_at hl 0 rfl) ?_
  refine va_get (D := D) (ci := 9) (v := .ref xl) (C := RX9) (T := TX9) (N := 13) hx hb hts hi9 hown hG.1 hP 0 rfl rfl 8 (by decide) (hts (.fieldLink RX9 41 "SleptMatters" "place" "LSleptMatters$Town;") (List.mem_cons_of_mem _ (List.mem_append_left _ (List.mem_append_left _ (List.mem_append_left _ (List.mem_append_left _ (List.mem_append_left _ (List.mem_of_getElem? (i := 1) rfl)))))))) (fun _ h9 => h9) rfl dX9_night_5 ?_
  refine lv_aload_n hx hb dX9_night_8 rfl (lv_at hl 0 rfl) ?_
  refine va_get (D := D) (ci := 9) (v := .ref xw) (C := RX9) (T := TX9) (N := 13) hx hb hts hi9 hown hG.1 hP 0 rfl rfl 10 (by decide) (hts (.fieldLink RX9 51 "SleptMatters" "law" "LSleptMatters$Law;") (List.mem_cons_of_mem _ (List.mem_append_left _ (List.mem_append_left _ (List.mem_append_left _ (List.mem_append_left _ (List.mem_append_left _ (List.mem_of_getElem? (i := 2) rfl)))))))) (fun _ h9 => h9) rfl dX9_night_9 ?_
  have hPc := hP.sub (ws' := (c_X2_pass k xc c0 c1 c2 c3 c4 c5 c6 (fl_i (fun _ => 0) 0 3) (fl_i (fun _ => 0) 0 3) (fl_i (fun _ => 0) 0 3) (fl_i (fun _ => 0) 0 3) (fl_i (fun _ => 0) (-1) 3) (fl_i (fun _ => 0) (-1) 3) (fl_i (fun _ => 0) (-1) 3) 0 0 0 xl lt ltn ltl ltc lta xw)) [1, 2, 3, 4, 5, 6, 7, 8, 9, 10] rfl
  have hDc := hD.sub (ws' := (c_X2_pass k xc c0 c1 c2 c3 c4 c5 c6 (fl_i (fun _ => 0) 0 3) (fl_i (fun _ => 0) 0 3) (fl_i (fun _ => 0) 0 3) (fl_i (fun _ => 0) 0 3) (fl_i (fun _ => 0) (-1) 3) (fl_i (fun _ => 0) (-1) 3) (fl_i (fun _ => 0) (-1) 3) 0 0 0 xl lt ltn ltl ltc lta xw)) [1, 2, 3, 4, 5, 6, 7, 8, 9, 10] (by decide +kernel) rfl
  refine cl_i (w1 := w_X2_pass k xc c0 c1 c2 c3 c4 c5 c6 (fl_i (fun _ => 0) 0 3) (fl_i (fun _ => 0) 0 3) (fl_i (fun _ => 0) 0 3) (fl_i (fun _ => 0) 0 3) (fl_i (fun _ => 0) (-1) 3) (fl_i (fun _ => 0) (-1) 3) (fl_i (fun _ => 0) (-1) 3) 0 0 0 xl lt ltn ltl ltc lta xw) (wr := [(x, .inr (9, [.ref xt, .ref xc, .ref xi, .ref xk, .ref xb, .ref xr, .ref xp, .ref xo, .ref xl, .ref xm, .ref xw, .ref xv, .int fb]))]) (va_runV (As := [.ref xl, .ref xw]) (rest := []) ⟨hx, hb, hml, hown, hts⟩ (X2_pass l D k s.heap.size xc c0 c1 c2 c3 c4 c5 c6 (fl_i (fun _ => 0) 0 3) (fl_i (fun _ => 0) 0 3) (fl_i (fun _ => 0) 0 3) (fl_i (fun _ => 0) 0 3) (fl_i (fun _ => 0) (-1) 3) (fl_i (fun _ => 0) (-1) 3) (fl_i (fun _ => 0) (-1) 3) 0 0 0 xl lt ltn ltl ltc lta xw ) (cwV 2 hts gX9_night_X2_pass rfl rfl rfl (by decide +kernel) ⟨Nat.le_of_ble_eq_true rfl, Nat.le_of_ble_eq_true rfl⟩) ⟨PR.blind _ _ _ _ _, va_recv hG.1 hP (ci := 2) (q0 := 1) rfl rfl, PR.pre hPc hDc hG [.ref xc, .ref xl, .ref xw]⟩ rfl rfl hl.1 rfl (lv_room (Nat.le_of_ble_eq_true rfl)) dX9_night_12 ⟨Nat.le_of_ble_eq_true rfl, Nat.le_of_ble_eq_true rfl⟩) hP hD hS hA [1, 2, 3, 4, 5, 6, 7, 8, 9, 10] [0] rfl rfl (by decide +kernel) (by decide +kernel) (fun r u H locs hq hP hD hS => ?_)
  cases u
  generalize r = y1 at hq ⊢
  have hq : y1 = 0 := hq
  have hP : va_P D vwCl [(x, .inr (9, [.ref xt, .ref xc, .ref xi, .ref xk, .ref xb, .ref xr, .ref xp, .ref xo, .ref xl, .ref xm, .ref xw, .ref xv, .int fb])), (xc, .inr (2, [.ref c0, .ref c1, .ref c2, .ref c3, .ref c4, .ref c5, .ref c6, .int 0, .int (0 + 1), .int 0])), (c0, .inl (k 0, 3, .inl (fl_i (fun _ => 0) 0 3))), (c1, .inl (k 0, 3, .inl (fl_i (fun _ => 0) 0 3))), (c2, .inl (k 0, 3, .inl (fl_i (fun _ => 0) 0 3))), (c3, .inl (k 0, 3, .inl (fl_i (fun _ => 0) 0 3))), (c4, .inl (k 0, 3, .inl (fl_i (fun _ => 0) (-1) 3))), (c5, .inl (k 0, 3, .inl (fl_i (fl_i (fun _ => 0) (-1) 3) (-1) 3))), (c6, .inl (k 0, 3, .inl (fl_i (fl_i (fun _ => 0) (-1) 3) (-1) 3))), (xl, .inr (8, [.ref lt, .ref ltn, .ref ltl, .ref ltc, .ref lta])), (lt, .inl (k 0, 4, .inl (fun _ => 0)))] H := hP
  have hD : va_D A [(x, .inr (9, [.ref xt, .ref xc, .ref xi, .ref xk, .ref xb, .ref xr, .ref xp, .ref xo, .ref xl, .ref xm, .ref xw, .ref xv, .int fb])), (xc, .inr (2, [.ref c0, .ref c1, .ref c2, .ref c3, .ref c4, .ref c5, .ref c6, .int 0, .int (0 + 1), .int 0])), (c0, .inl (k 0, 3, .inl (fl_i (fun _ => 0) 0 3))), (c1, .inl (k 0, 3, .inl (fl_i (fun _ => 0) 0 3))), (c2, .inl (k 0, 3, .inl (fl_i (fun _ => 0) 0 3))), (c3, .inl (k 0, 3, .inl (fl_i (fun _ => 0) 0 3))), (c4, .inl (k 0, 3, .inl (fl_i (fun _ => 0) (-1) 3))), (c5, .inl (k 0, 3, .inl (fl_i (fl_i (fun _ => 0) (-1) 3) (-1) 3))), (c6, .inl (k 0, 3, .inl (fl_i (fl_i (fun _ => 0) (-1) 3) (-1) 3))), (xl, .inr (8, [.ref lt, .ref ltn, .ref ltl, .ref ltc, .ref lta])), (lt, .inl (k 0, 4, .inl (fun _ => 0)))] := hD
  refine tp_i (y := 0) (hq) ?_
  have hP9 := hP.sub (ws' := []) [] rfl
  have hD9 := hD.sub (ws' := []) [] (by decide +kernel) rfl
  exact W.iret (v := 0) hx hb hr (fun t9 ht _ => ⟨⟨0, (), rfl, rfl, by rw [ht]; exact hP9, hD9⟩, hS.F ht⟩) hS.2.2 dX9_night_15

abbrev c_X9_run (k : Nat → ClassId) (x : Nat) (xt : Nat) (xc : Nat) (xi : Nat) (xk : Nat) (xb : Nat) (xr : Nat) (xp : Nat) (xo : Nat) (xl : Nat) (xm : Nat) (xw : Nat) (xv : Nat) (fb : Int32) (lt : Nat) (ltn : Nat) (ltl : Nat) (ltc : Nat) (lta : Nat) (c0 : Nat) (c1 : Nat) (c2 : Nat) (c3 : Nat) (c4 : Nat) (c5 : Nat) (c6 : Nat) (nn : Int32) : va_W := [(x, .inr (9, [.ref xt, .ref xc, .ref xi, .ref xk, .ref xb, .ref xr, .ref xp, .ref xo, .ref xl, .ref xm, .ref xw, .ref xv, .int fb])), (xc, .inr (2, [.ref c0, .ref c1, .ref c2, .ref c3, .ref c4, .ref c5, .ref c6, .int 0, .int 0, .int 0])), (c0, .inl (k 0, 3, .inl (fl_i (fun _ => 0) 0 3))), (c1, .inl (k 0, 3, .inl (fl_i (fun _ => 0) 0 3))), (c2, .inl (k 0, 3, .inl (fl_i (fun _ => 0) 0 3))), (c3, .inl (k 0, 3, .inl (fl_i (fun _ => 0) 0 3))), (c4, .inl (k 0, 3, .inl (fl_i (fun _ => 0) (-1) 3))), (c5, .inl (k 0, 3, .inl (fl_i (fun _ => 0) (-1) 3))), (c6, .inl (k 0, 3, .inl (fl_i (fun _ => 0) (-1) 3))), (xl, .inr (8, [.ref lt, .ref ltn, .ref ltl, .ref ltc, .ref lta])), (lt, .inl (k 0, 4, .inl (fun _ => 0)))]
abbrev r_X9_run : Room := { frames := 3, cells := 0, slots := 0, locals := 68 }
def w_X9_run (k : Nat → ClassId) (x : Nat) (xt : Nat) (xc : Nat) (xi : Nat) (xk : Nat) (xb : Nat) (xr : Nat) (xp : Nat) (xo : Nat) (xl : Nat) (xm : Nat) (xw : Nat) (xv : Nat) (fb : Int32) (lt : Nat) (ltn : Nat) (ltl : Nat) (ltc : Nat) (lta : Nat) (c0 : Nat) (c1 : Nat) (c2 : Nat) (c3 : Nat) (c4 : Nat) (c5 : Nat) (c6 : Nat) (nn : Int32) : Unit → va_W := fun _ => []
def p_X9_run (k : Nat → ClassId) (x : Nat) (xt : Nat) (xc : Nat) (xi : Nat) (xk : Nat) (xb : Nat) (xr : Nat) (xp : Nat) (xo : Nat) (xl : Nat) (xm : Nat) (xw : Nat) (xv : Nat) (fb : Int32) (lt : Nat) (ltn : Nat) (ltl : Nat) (ltc : Nat) (lta : Nat) (c0 : Nat) (c1 : Nat) (c2 : Nat) (c3 : Nat) (c4 : Nat) (c5 : Nat) (c6 : Nat) (nn : Int32) : Int32 → Unit → Prop := fun (r : Int32) (u : Unit) => r = ruA nn
abbrev q_X9_run (D : va_G) (k : Nat → ClassId) (x : Nat) (xt : Nat) (xc : Nat) (xi : Nat) (xk : Nat) (xb : Nat) (xr : Nat) (xp : Nat) (xo : Nat) (xl : Nat) (xm : Nat) (xw : Nat) (xv : Nat) (fb : Int32) (lt : Nat) (ltn : Nat) (ltl : Nat) (ltc : Nat) (lta : Nat) (c0 : Nat) (c1 : Nat) (c2 : Nat) (c3 : Nat) (c4 : Nat) (c5 : Nat) (c6 : Nat) (nn : Int32) (A : Nat → Prop) : Array Value → State → Outcome → State → Prop := va_Qi (p_X9_run k x xt xc xi xk xb xr xp xo xl xm xw xv fb lt ltn ltl ltc lta c0 c1 c2 c3 c4 c5 c6 nn) (fun u9 t9 => BO D (w_X9_run k x xt xc xi xk xb xr xp xo xl xm xw xv fb lt ltn ltl ltc lta c0 c1 c2 c3 c4 c5 c6 nn u9) A t9) A
set_option maxHeartbeats 2000000 in
set_option maxRecDepth 100000 in
theorem X9_run (l : Launch) (D : va_G) (k : Nat → ClassId) (sz : Nat) (x : Nat) (xt : Nat) (xc : Nat) (xi : Nat) (xk : Nat) (xb : Nat) (xr : Nat) (xp : Nat) (xo : Nat) (xl : Nat) (xm : Nat) (xw : Nat) (xv : Nat) (fb : Int32) (lt : Nat) (ltn : Nat) (ltl : Nat) (ltc : Nat) (lta : Nat) (c0 : Nat) (c1 : Nat) (c2 : Nat) (c3 : Nat) (c4 : Nat) (c5 : Nat) (c6 : Nat) (nn : Int32)  : Met l yX9_run wsX9_run r_X9_run (va_Pc [.ref x, .int nn] (PR D k (c_X9_run k x xt xc xi xk xb xr xp xo xl xm xw xv fb lt ltn ltl ltc lta c0 c1 c2 c3 c4 c5 c6 nn) sz)) (q_X9_run D k x xt xc xi xk xb xr xp xo xl xm xw xv fb lt ltn ltl ltc lta c0 c1 c2 c3 c4 c5 c6 nn (va_A (c_X9_run k x xt xc xi xk xb xr xp xo xl xm xw xv fb lt ltn ltl ltc lta c0 c1 c2 c3 c4 c5 c6 nn) sz)) 0 0 (va_A (c_X9_run k x xt xc xi xk xb xr xp xo xl xm xw xv fb lt ltn ltl ltc lta c0 c1 c2 c3 c4 c5 c6 nn) sz) := by
  refine Met.ofW (cc := cX9_run) (maxL := 3) (ret := (some .int)) (by decide) rfl ?_
  intro p e s m args below meth c s₁ B hml hv
  obtain ⟨rfl, hsz, hP, hG, hD0⟩ := hv
  have hx := B.exec
  have hb := B.bytes
  have hr := B.returns
  have hts := atoms_spec (ws := wsX9_run) B.pre
  have hown : s.vm.findClass RX9 = some m.cls := findClass_of_methodNamed B.named
  have hlocks := B.notSynchronized
  have hi9 : ∀ w ∈ wsX90, w ∈ wsX9_run := fun _ h => List.mem_cons_of_mem _ (List.mem_append_left _ (List.mem_append_left _ (List.mem_append_left _ (List.mem_append_right _ h))))
  have hi8 : ∀ w ∈ wsX80, w ∈ wsX9_run := fun _ h => List.mem_cons_of_mem _ (List.mem_append_left _ (List.mem_append_left _ (List.mem_append_right _ h)))
  have hi2 : ∀ w ∈ wsX20, w ∈ wsX9_run := fun _ h => List.mem_cons_of_mem _ (List.mem_append_left _ (List.mem_append_right _ h))
  have hi3 : ∀ w ∈ wsX30, w ∈ wsX9_run := fun _ h => List.mem_cons_of_mem _ (List.mem_append_right _ h)
  subst hsz
  have hD := hD0.self (sz := s.heap.size)
  generalize hAe : va_A (c_X9_run k x xt xc xi xk xb xr xp xo xl xm xw xv fb lt ltn ltl ltc lta c0 c1 c2 c3 c4 c5 c6 nn) s.heap.size = A at hD ⊢
  have hA : ∀ q : Nat, s.heap.size ≤ q → A q := fun q h => by rw [← hAe]; exact Or.inr h
  have hS : va_S A s.heap s.heap [] := va_S.rf
  have hP : va_P D vwCl [(x, .inr (9, [.ref xt, .ref xc, .ref xi, .ref xk, .ref xb, .ref xr, .ref xp, .ref xo, .ref xl, .ref xm, .ref xw, .ref xv, .int fb])), (xc, .inr (2, [.ref c0, .ref c1, .ref c2, .ref c3, .ref c4, .ref c5, .ref c6, .int 0, .int 0, .int 0])), (c0, .inl (k 0, 3, .inl (fl_i (fun _ => 0) 0 3))), (c1, .inl (k 0, 3, .inl (fl_i (fun _ => 0) 0 3))), (c2, .inl (k 0, 3, .inl (fl_i (fun _ => 0) 0 3))), (c3, .inl (k 0, 3, .inl (fl_i (fun _ => 0) 0 3))), (c4, .inl (k 0, 3, .inl (fl_i (fun _ => 0) (-1) 3))), (c5, .inl (k 0, 3, .inl (fl_i (fun _ => 0) (-1) 3))), (c6, .inl (k 0, 3, .inl (fl_i (fun _ => 0) (-1) 3))), (xl, .inr (8, [.ref lt, .ref ltn, .ref ltl, .ref ltc, .ref lta])), (lt, .inl (k 0, 4, .inl (fun _ => 0)))] s.heap := hP
  have hD : va_D A [(x, .inr (9, [.ref xt, .ref xc, .ref xi, .ref xk, .ref xb, .ref xr, .ref xp, .ref xo, .ref xl, .ref xm, .ref xw, .ref xv, .int fb])), (xc, .inr (2, [.ref c0, .ref c1, .ref c2, .ref c3, .ref c4, .ref c5, .ref c6, .int 0, .int 0, .int 0])), (c0, .inl (k 0, 3, .inl (fl_i (fun _ => 0) 0 3))), (c1, .inl (k 0, 3, .inl (fl_i (fun _ => 0) 0 3))), (c2, .inl (k 0, 3, .inl (fl_i (fun _ => 0) 0 3))), (c3, .inl (k 0, 3, .inl (fl_i (fun _ => 0) 0 3))), (c4, .inl (k 0, 3, .inl (fl_i (fun _ => 0) (-1) 3))), (c5, .inl (k 0, 3, .inl (fl_i (fun _ => 0) (-1) 3))), (c6, .inl (k 0, 3, .inl (fl_i (fun _ => 0) (-1) 3))), (xl, .inr (8, [.ref lt, .ref ltn, .ref ltl, .ref ltc, .ref lta])), (lt, .inl (k 0, 4, .inl (fun _ => 0)))] := hD
  have hl := lv_entry ([.ref x, .int nn]) (n := 3) (Nat.le_of_ble_eq_true rfl)
  rw [lg_entry_eq]
  generalize (lg_sl ([.ref x, .int nn]) ++ List.replicate (3 - (lg_sl ([.ref x, .int nn])).length) Slot.unset).toArray = ls at hl ⊢
  have hl : lv_has ls 3 [(0, .ref x), (1, .int nn)] := hl
  refine lv_iload_n hx hb dX9_run_0 rfl (lv_at hl 1 rfl) ?_
  refine lv_iconst (v := 1) hx hb dX9_run_1 (by decide) ?_
  refine lv_icmp_lt (x := nn) (y := 1) (tgt := 11) hx hb dX9_run_2 (by decide) (fun hc1 => ?_) (fun hc1 => ?_)
  · skip
    refine lv_ldc (v := (-1000000002)) hx hb hown (hts (.constant RX9 87 (-1000000002)) (List.mem_cons_of_mem _ (List.mem_append_left _ (List.mem_append_left _ (List.mem_append_left _ (List.mem_append_left _ (List.mem_append_left _ (List.mem_of_getElem? (i := 0) rfl)))))))) dX9_run_11 ?_
    have hP9 := hP.sub (ws' := []) [] rfl
    have hD9 := hD.sub (ws' := []) [] (by decide +kernel) rfl
    exact W.iret (v := (-1000000002)) hx hb hr (fun t9 ht _ => ⟨⟨(-1000000002), (), rfl, by simp [p_X9_run, ruA, hc1], by rw [ht]; exact hP9, hD9⟩, hS.F ht⟩) hS.2.2 dX9_run_13
  · skip
    refine lv_iload_n hx hb dX9_run_5 rfl (lv_at hl 1 rfl) ?_
    refine lv_bipush (v := 100) hx hb dX9_run_6 (by decide) ?_
    refine lv_icmp_le (x := nn) (y := 100) (tgt := 14) hx hb dX9_run_8 (by decide) (fun hc2 => ?_) (fun hc2 => ?_)
    · skip
      obtain ⟨mm, hm0, hm, en⟩ := nat_of (lo := 1) (hi := 100) hc1 hc2 (by decide) (by decide)
      refine lv_iconst (v := 0) hx hb dX9_run_14 (by decide) ?_
      refine lv_istore_n (lv' := [(2, .int 0), (0, .ref x), (1, .int nn)]) hx hb dX9_run_15 rfl hl (by decide) rfl (fun ls hl => ?_)
      have L3 : ∀ (n : Nat) (i : Nat) (dy : Int32) (f5 : Nat → Int32) (f6 : Nat → Int32), (i ≤ mm) → mm - i < n → ∀ (H : Heap) (locs : List Loc), va_P D vwCl [(x, .inr (9, [.ref xt, .ref xc, .ref xi, .ref xk, .ref xb, .ref xr, .ref xp, .ref xo, .ref xl, .ref xm, .ref xw, .ref xv, .int fb])), (xc, .inr (2, [.ref c0, .ref c1, .ref c2, .ref c3, .ref c4, .ref c5, .ref c6, .int 0, .int dy, .int 0])), (c0, .inl (k 0, 3, .inl (fl_i (fun _ => 0) 0 3))), (c1, .inl (k 0, 3, .inl (fl_i (fun _ => 0) 0 3))), (c2, .inl (k 0, 3, .inl (fl_i (fun _ => 0) 0 3))), (c3, .inl (k 0, 3, .inl (fl_i (fun _ => 0) 0 3))), (c4, .inl (k 0, 3, .inl (fl_i (fun _ => 0) (-1) 3))), (c5, .inl (k 0, 3, .inl f5)), (c6, .inl (k 0, 3, .inl f6)), (xl, .inr (8, [.ref lt, .ref ltn, .ref ltl, .ref ltc, .ref lta])), (lt, .inl (k 0, 4, .inl (fun _ => 0)))] H → va_D A [(x, .inr (9, [.ref xt, .ref xc, .ref xi, .ref xk, .ref xb, .ref xr, .ref xp, .ref xo, .ref xl, .ref xm, .ref xw, .ref xv, .int fb])), (xc, .inr (2, [.ref c0, .ref c1, .ref c2, .ref c3, .ref c4, .ref c5, .ref c6, .int 0, .int dy, .int 0])), (c0, .inl (k 0, 3, .inl (fl_i (fun _ => 0) 0 3))), (c1, .inl (k 0, 3, .inl (fl_i (fun _ => 0) 0 3))), (c2, .inl (k 0, 3, .inl (fl_i (fun _ => 0) 0 3))), (c3, .inl (k 0, 3, .inl (fl_i (fun _ => 0) 0 3))), (c4, .inl (k 0, 3, .inl (fl_i (fun _ => 0) (-1) 3))), (c5, .inl (k 0, 3, .inl f5)), (c6, .inl (k 0, 3, .inl f6)), (xl, .inr (8, [.ref lt, .ref ltn, .ref ltl, .ref ltc, .ref lta])), (lt, .inl (k 0, 4, .inl (fun _ => 0)))] → va_S A s.heap H locs → ∀ (ls : Array Slot), lv_has ls 3 [(2, .int (nI i)), (0, .ref x), (1, .int nn)] → W p l e r_X9_run s m ([.ref x, .int nn] : List Value).toArray below meth c H locs 0 0 (MQ below (q_X9_run D k x xt xc xi xk xb xr xp xo xl xm xw xv fb lt ltn ltl ltc lta c0 c1 c2 c3 c4 c5 c6 nn A) ([.ref x, .int nn] : List Value).toArray s 0 0 A) (F0 m 16 ls []) := by
        intro n
        induction n with
        | zero => intro i dy f5 f6 hi hmu; exact absurd hmu (Nat.not_lt_zero _)
        | succ n ih =>
          intro i dy f5 f6 hi hmu H locs hP hD hS ls hl
          refine lv_iload_n hx hb dX9_run_16 rfl (lv_at hl 0 rfl) ?_
          refine lv_iload_n hx hb dX9_run_17 rfl (lv_at hl 2 rfl) ?_
          refine tp_i (y := nI mm) (en) ?_
          refine bn_ge (i := i) (j := mm) (tgt := 54) hx hb dX9_run_18 (by decide) (by omega) (by omega) (fun hc4 => ?_) (fun hc4 => ?_)
          · skip
            refine lv_aload_n hx hb dX9_run_54 rfl (lv_at hl 1 rfl) ?_
            refine va_get (D := D) (ci := 9) (v := .ref xc) (C := RX9) (T := TX9) (N := 13) hx hb hts hi9 hown hG.1 hP 0 rfl rfl 1 (by decide) (hts (.fieldLink RX9 19 "SleptMatters" "course" "LSleptMatters$Course;") (List.mem_cons_of_mem _ (List.mem_append_left _ (List.mem_append_left _ (List.mem_append_left _ (List.mem_append_left _ (List.mem_append_left _ (List.mem_of_getElem? (i := 1) rfl)))))))) (fun _ h9 => h9) rfl dX9_run_55 ?_
            have hPc := hP.sub (ws' := (c_X2_decidedMatters k xc c0 c1 c2 c3 c4 c5 c6 0 dy 0 (fl_i (fun _ => 0) 0 3))) [1, 5] rfl
            refine vp_callSi (va_Run.run (va_runV (As := []) (rest := []) ⟨hx, hb, hml, hown, hts⟩ (X2_decidedMatters l D k xc c0 c1 c2 c3 c4 c5 c6 0 dy 0 (fl_i (fun _ => 0) 0 3) (fun j hj => fl_i_in hj)) (cwV 0 hts gX9_run_X2_decidedMatters rfl rfl rfl (by decide +kernel) ⟨Nat.le_of_ble_eq_true rfl, Nat.le_of_ble_eq_true rfl⟩) ⟨PS.blind _ _ _ _, va_recv hG.1 hP (ci := 2) (q0 := 1) rfl rfl, PS.pre hPc hG [.ref xc]⟩ rfl rfl hl.1 rfl (lv_room (Nat.le_of_ble_eq_true rfl)) dX9_run_58 ⟨Nat.le_of_ble_eq_true rfl, Nat.le_of_ble_eq_true rfl⟩)) (fun r hq => ?_)
            generalize r = y5 at hq ⊢
            have hq : y5 = 0 := hq
            refine tp_i (y := 0) (hq) ?_
            have hP9 := hP.sub (ws' := []) [] rfl
            have hD9 := hD.sub (ws' := []) [] (by decide +kernel) rfl
            exact W.iret (v := 0) hx hb hr (fun t9 ht _ => ⟨⟨0, (), rfl, by simp [p_X9_run, ruA, hc1, hc2, hc4], by rw [ht]; exact hP9, hD9⟩, hS.F ht⟩) hS.2.2 dX9_run_61
          · skip
            refine lv_aload_n hx hb dX9_run_21 rfl (lv_at hl 1 rfl) ?_
            refine va_get (D := D) (ci := 9) (v := .ref xc) (C := RX9) (T := TX9) (N := 13) hx hb hts hi9 hown hG.1 hP 0 rfl rfl 1 (by decide) (hts (.fieldLink RX9 19 "SleptMatters" "course" "LSleptMatters$Course;") (List.mem_cons_of_mem _ (List.mem_append_left _ (List.mem_append_left _ (List.mem_append_left _ (List.mem_append_left _ (List.mem_append_left _ (List.mem_of_getElem? (i := 1) rfl)))))))) (fun _ h9 => h9) rfl dX9_run_22 ?_
            refine lv_aload_n hx hb dX9_run_25 rfl (lv_at hl 1 rfl) ?_
            refine va_get (D := D) (ci := 9) (v := .ref xl) (C := RX9) (T := TX9) (N := 13) hx hb hts hi9 hown hG.1 hP 0 rfl rfl 8 (by decide) (hts (.fieldLink RX9 41 "SleptMatters" "place" "LSleptMatters$Town;") (List.mem_cons_of_mem _ (List.mem_append_left _ (List.mem_append_left _ (List.mem_append_left _ (List.mem_append_left _ (List.mem_append_left _ (List.mem_of_getElem? (i := 2) rfl)))))))) (fun _ h9 => h9) rfl dX9_run_26 ?_
            have hPc := hP.sub (ws' := (c_X2_layByThemselves k xc xl lt ltn ltl ltc lta)) [9, 10] rfl
            have hDc := hD.sub (ws' := (c_X2_layByThemselves k xc xl lt ltn ltl ltc lta)) [9, 10] (by decide +kernel) rfl
            refine cl_v (w1 := w_X2_layByThemselves k xc xl lt ltn ltl ltc lta) (wr := [(x, .inr (9, [.ref xt, .ref xc, .ref xi, .ref xk, .ref xb, .ref xr, .ref xp, .ref xo, .ref xl, .ref xm, .ref xw, .ref xv, .int fb])), (xc, .inr (2, [.ref c0, .ref c1, .ref c2, .ref c3, .ref c4, .ref c5, .ref c6, .int 0, .int dy, .int 0])), (c0, .inl (k 0, 3, .inl (fl_i (fun _ => 0) 0 3))), (c1, .inl (k 0, 3, .inl (fl_i (fun _ => 0) 0 3))), (c2, .inl (k 0, 3, .inl (fl_i (fun _ => 0) 0 3))), (c3, .inl (k 0, 3, .inl (fl_i (fun _ => 0) 0 3))), (c4, .inl (k 0, 3, .inl (fl_i (fun _ => 0) (-1) 3))), (c5, .inl (k 0, 3, .inl f5)), (c6, .inl (k 0, 3, .inl f6))]) (va_runV (As := [.ref xl]) (rest := []) ⟨hx, hb, hml, hown, hts⟩ (X2_layByThemselves l D k H.size xc xl lt ltn ltl ltc lta ) (cwV 1 hts gX9_run_X2_layByThemselves rfl rfl rfl (by decide +kernel) ⟨Nat.le_of_ble_eq_true rfl, Nat.le_of_ble_eq_true rfl⟩) ⟨PR.blind _ _ _ _ _, va_recv hG.1 hP (ci := 2) (q0 := 1) rfl rfl, PR.pre hPc hDc hG [.ref xc, .ref xl]⟩ rfl rfl hl.1 rfl (lv_room (Nat.le_of_ble_eq_true rfl)) dX9_run_29 ⟨Nat.le_of_ble_eq_true rfl, Nat.le_of_ble_eq_true rfl⟩) hP hD hS hA [9, 10] [0, 1, 2, 3, 4, 5, 6, 7, 8] rfl rfl (by decide +kernel) (by decide +kernel) (fun u H locs hq hP hD hS => ?_)
            cases u
            have hP : va_P D vwCl [(x, .inr (9, [.ref xt, .ref xc, .ref xi, .ref xk, .ref xb, .ref xr, .ref xp, .ref xo, .ref xl, .ref xm, .ref xw, .ref xv, .int fb])), (xc, .inr (2, [.ref c0, .ref c1, .ref c2, .ref c3, .ref c4, .ref c5, .ref c6, .int 0, .int dy, .int 0])), (c0, .inl (k 0, 3, .inl (fl_i (fun _ => 0) 0 3))), (c1, .inl (k 0, 3, .inl (fl_i (fun _ => 0) 0 3))), (c2, .inl (k 0, 3, .inl (fl_i (fun _ => 0) 0 3))), (c3, .inl (k 0, 3, .inl (fl_i (fun _ => 0) 0 3))), (c4, .inl (k 0, 3, .inl (fl_i (fun _ => 0) (-1) 3))), (c5, .inl (k 0, 3, .inl f5)), (c6, .inl (k 0, 3, .inl f6)), (xl, .inr (8, [.ref lt, .ref ltn, .ref ltl, .ref ltc, .ref lta])), (lt, .inl (k 0, 4, .inl (fun _ => 0)))] H := hP
            have hD : va_D A [(x, .inr (9, [.ref xt, .ref xc, .ref xi, .ref xk, .ref xb, .ref xr, .ref xp, .ref xo, .ref xl, .ref xm, .ref xw, .ref xv, .int fb])), (xc, .inr (2, [.ref c0, .ref c1, .ref c2, .ref c3, .ref c4, .ref c5, .ref c6, .int 0, .int dy, .int 0])), (c0, .inl (k 0, 3, .inl (fl_i (fun _ => 0) 0 3))), (c1, .inl (k 0, 3, .inl (fl_i (fun _ => 0) 0 3))), (c2, .inl (k 0, 3, .inl (fl_i (fun _ => 0) 0 3))), (c3, .inl (k 0, 3, .inl (fl_i (fun _ => 0) 0 3))), (c4, .inl (k 0, 3, .inl (fl_i (fun _ => 0) (-1) 3))), (c5, .inl (k 0, 3, .inl f5)), (c6, .inl (k 0, 3, .inl f6)), (xl, .inr (8, [.ref lt, .ref ltn, .ref ltl, .ref ltc, .ref lta])), (lt, .inl (k 0, 4, .inl (fun _ => 0)))] := hD
            refine lv_aload_n hx hb dX9_run_32 rfl (lv_at hl 1 rfl) ?_
            refine va_get (D := D) (ci := 9) (v := .ref xc) (C := RX9) (T := TX9) (N := 13) hx hb hts hi9 hown hG.1 hP 0 rfl rfl 1 (by decide) (hts (.fieldLink RX9 19 "SleptMatters" "course" "LSleptMatters$Course;") (List.mem_cons_of_mem _ (List.mem_append_left _ (List.mem_append_left _ (List.mem_append_left _ (List.mem_append_left _ (List.mem_append_left _ (List.mem_of_getElem? (i := 1) rfl)))))))) (fun _ h9 => h9) rfl dX9_run_33 ?_
            refine lv_aload_n hx hb dX9_run_36 rfl (lv_at hl 1 rfl) ?_
            refine va_get (D := D) (ci := 9) (v := .ref xl) (C := RX9) (T := TX9) (N := 13) hx hb hts hi9 hown hG.1 hP 0 rfl rfl 8 (by decide) (hts (.fieldLink RX9 41 "SleptMatters" "place" "LSleptMatters$Town;") (List.mem_cons_of_mem _ (List.mem_append_left _ (List.mem_append_left _ (List.mem_append_left _ (List.mem_append_left _ (List.mem_append_left _ (List.mem_of_getElem? (i := 2) rfl)))))))) (fun _ h9 => h9) rfl dX9_run_37 ?_
            refine lv_aload_n hx hb dX9_run_40 rfl (lv_at hl 1 rfl) ?_
            refine va_get (D := D) (ci := 9) (v := .ref xw) (C := RX9) (T := TX9) (N := 13) hx hb hts hi9 hown hG.1 hP 0 rfl rfl 10 (by decide) (hts (.fieldLink RX9 51 "SleptMatters" "law" "LSleptMatters$Law;") (List.mem_cons_of_mem _ (List.mem_append_left _ (List.mem_append_left _ (List.mem_append_left _ (List.mem_append_left _ (List.mem_append_left _ (List.mem_of_getElem? (i := 3) rfl)))))))) (fun _ h9 => h9) rfl dX9_run_41 ?_
            have hPc := hP.sub (ws' := (c_X2_pass k xc c0 c1 c2 c3 c4 c5 c6 (fl_i (fun _ => 0) 0 3) (fl_i (fun _ => 0) 0 3) (fl_i (fun _ => 0) 0 3) (fl_i (fun _ => 0) 0 3) (fl_i (fun _ => 0) (-1) 3) f5 f6 0 dy 0 xl lt ltn ltl ltc lta xw)) [1, 2, 3, 4, 5, 6, 7, 8, 9, 10] rfl
            have hDc := hD.sub (ws' := (c_X2_pass k xc c0 c1 c2 c3 c4 c5 c6 (fl_i (fun _ => 0) 0 3) (fl_i (fun _ => 0) 0 3) (fl_i (fun _ => 0) 0 3) (fl_i (fun _ => 0) 0 3) (fl_i (fun _ => 0) (-1) 3) f5 f6 0 dy 0 xl lt ltn ltl ltc lta xw)) [1, 2, 3, 4, 5, 6, 7, 8, 9, 10] (by decide +kernel) rfl
            refine cl_i (w1 := w_X2_pass k xc c0 c1 c2 c3 c4 c5 c6 (fl_i (fun _ => 0) 0 3) (fl_i (fun _ => 0) 0 3) (fl_i (fun _ => 0) 0 3) (fl_i (fun _ => 0) 0 3) (fl_i (fun _ => 0) (-1) 3) f5 f6 0 dy 0 xl lt ltn ltl ltc lta xw) (wr := [(x, .inr (9, [.ref xt, .ref xc, .ref xi, .ref xk, .ref xb, .ref xr, .ref xp, .ref xo, .ref xl, .ref xm, .ref xw, .ref xv, .int fb]))]) (va_runV (As := [.ref xl, .ref xw]) (rest := []) ⟨hx, hb, hml, hown, hts⟩ (X2_pass l D k H.size xc c0 c1 c2 c3 c4 c5 c6 (fl_i (fun _ => 0) 0 3) (fl_i (fun _ => 0) 0 3) (fl_i (fun _ => 0) 0 3) (fl_i (fun _ => 0) 0 3) (fl_i (fun _ => 0) (-1) 3) f5 f6 0 dy 0 xl lt ltn ltl ltc lta xw ) (cwV 2 hts gX9_run_X2_pass rfl rfl rfl (by decide +kernel) ⟨Nat.le_of_ble_eq_true rfl, Nat.le_of_ble_eq_true rfl⟩) ⟨PR.blind _ _ _ _ _, va_recv hG.1 hP (ci := 2) (q0 := 1) rfl rfl, PR.pre hPc hDc hG [.ref xc, .ref xl, .ref xw]⟩ rfl rfl hl.1 rfl (lv_room (Nat.le_of_ble_eq_true rfl)) dX9_run_44 ⟨Nat.le_of_ble_eq_true rfl, Nat.le_of_ble_eq_true rfl⟩) hP hD hS hA [1, 2, 3, 4, 5, 6, 7, 8, 9, 10] [0] rfl rfl (by decide +kernel) (by decide +kernel) (fun r u H locs hq hP hD hS => ?_)
            cases u
            generalize r = y6 at hq ⊢
            have hq : y6 = 0 := hq
            have hP : va_P D vwCl [(x, .inr (9, [.ref xt, .ref xc, .ref xi, .ref xk, .ref xb, .ref xr, .ref xp, .ref xo, .ref xl, .ref xm, .ref xw, .ref xv, .int fb])), (xc, .inr (2, [.ref c0, .ref c1, .ref c2, .ref c3, .ref c4, .ref c5, .ref c6, .int 0, .int (dy + 1), .int 0])), (c0, .inl (k 0, 3, .inl (fl_i (fun _ => 0) 0 3))), (c1, .inl (k 0, 3, .inl (fl_i (fun _ => 0) 0 3))), (c2, .inl (k 0, 3, .inl (fl_i (fun _ => 0) 0 3))), (c3, .inl (k 0, 3, .inl (fl_i (fun _ => 0) 0 3))), (c4, .inl (k 0, 3, .inl (fl_i (fun _ => 0) (-1) 3))), (c5, .inl (k 0, 3, .inl (fl_i f5 (-1) 3))), (c6, .inl (k 0, 3, .inl (fl_i f6 (-1) 3))), (xl, .inr (8, [.ref lt, .ref ltn, .ref ltl, .ref ltc, .ref lta])), (lt, .inl (k 0, 4, .inl (fun _ => 0)))] H := hP
            have hD : va_D A [(x, .inr (9, [.ref xt, .ref xc, .ref xi, .ref xk, .ref xb, .ref xr, .ref xp, .ref xo, .ref xl, .ref xm, .ref xw, .ref xv, .int fb])), (xc, .inr (2, [.ref c0, .ref c1, .ref c2, .ref c3, .ref c4, .ref c5, .ref c6, .int 0, .int (dy + 1), .int 0])), (c0, .inl (k 0, 3, .inl (fl_i (fun _ => 0) 0 3))), (c1, .inl (k 0, 3, .inl (fl_i (fun _ => 0) 0 3))), (c2, .inl (k 0, 3, .inl (fl_i (fun _ => 0) 0 3))), (c3, .inl (k 0, 3, .inl (fl_i (fun _ => 0) 0 3))), (c4, .inl (k 0, 3, .inl (fl_i (fun _ => 0) (-1) 3))), (c5, .inl (k 0, 3, .inl (fl_i f5 (-1) 3))), (c6, .inl (k 0, 3, .inl (fl_i f6 (-1) 3))), (xl, .inr (8, [.ref lt, .ref ltn, .ref ltl, .ref ltc, .ref lta])), (lt, .inl (k 0, 4, .inl (fun _ => 0)))] := hD
            refine tp_i (y := 0) (hq) ?_
            refine lv_pop hx hb dX9_run_47 rfl ?_
            refine lv_iinc (v := nI (i + 1)) (lv' := [(2, .int (nI (i + 1))), (0, .ref x), (1, .int nn)]) hx hb dX9_run_48 hl (k := 0) rfl (nI_add i 1) (by decide) rfl (fun ls hl => ?_)
            refine lv_goto (tgt := 16) hx hb dX9_run_51 (by decide) ?_
            exact ih (i + 1) (dy + 1) (fl_i f5 (-1) 3) (fl_i f6 (-1) 3) (by omega) (by omega) _ _ (hP.sub [0, 1, 2, 3, 4, 5, 6, 7, 8, 9, 10] rfl) (hD.sub [0, 1, 2, 3, 4, 5, 6, 7, 8, 9, 10] (by decide +kernel) rfl) hS ls (lv_sub hl [0, 1, 2] rfl)
      exact L3 _ 0 0 (fl_i (fun _ => 0) (-1) 3) (fl_i (fun _ => 0) (-1) 3) (Nat.zero_le _) (Nat.lt_succ_self _) _ _ hP hD hS ls (lv_sub hl [0, 1, 2] rfl)
    · skip
      refine lv_ldc (v := (-1000000002)) hx hb hown (hts (.constant RX9 87 (-1000000002)) (List.mem_cons_of_mem _ (List.mem_append_left _ (List.mem_append_left _ (List.mem_append_left _ (List.mem_append_left _ (List.mem_append_left _ (List.mem_of_getElem? (i := 0) rfl)))))))) dX9_run_11 ?_
      have hP9 := hP.sub (ws' := []) [] rfl
      have hD9 := hD.sub (ws' := []) [] (by decide +kernel) rfl
      exact W.iret (v := (-1000000002)) hx hb hr (fun t9 ht _ => ⟨⟨(-1000000002), (), rfl, by simp [p_X9_run, ruA, hc1, hc2], by rw [ht]; exact hP9, hD9⟩, hS.F ht⟩) hS.2.2 dX9_run_13

abbrev c_X7_add (k : Nat → ClassId) (h : Nat) (qb : Nat) (w1 : Int32) (w2 : Int32) (w3 : Int32) (w4 : Int32) (w5 : Int32) (w6 : Int32) (jj : Nat) (pk : Int64) : va_W := [(h, .inr (7, [.ref qb, .int 0, .int w1, .int w2, .int w3, .int w4, .int w5, .int w6])), (qb, .inl (k 0, 500, .inl (fun _ => 0)))]
abbrev r_X7_add : Room := { frames := 0, cells := 0, slots := 0, locals := 0 }
def w_X7_add (k : Nat → ClassId) (h : Nat) (qb : Nat) (w1 : Int32) (w2 : Int32) (w3 : Int32) (w4 : Int32) (w5 : Int32) (w6 : Int32) (jj : Nat) (pk : Int64) : (Nat → Int32) → va_W := fun g => [(h, .inr (7, [.ref qb, .int (nI jj), .int w1, .int w2, .int w3, .int w4, .int w5, .int w6])), (qb, .inl (k 0, 500, .inl g))]
def p_X7_add (k : Nat → ClassId) (h : Nat) (qb : Nat) (w1 : Int32) (w2 : Int32) (w3 : Int32) (w4 : Int32) (w5 : Int32) (w6 : Int32) (jj : Nat) (pk : Int64) : (Nat → Int32) → Prop := fun (u : (Nat → Int32)) => True
abbrev q_X7_add (D : va_G) (k : Nat → ClassId) (h : Nat) (qb : Nat) (w1 : Int32) (w2 : Int32) (w3 : Int32) (w4 : Int32) (w5 : Int32) (w6 : Int32) (jj : Nat) (pk : Int64) (A : Nat → Prop) : Array Value → State → Outcome → State → Prop := va_Qv (p_X7_add k h qb w1 w2 w3 w4 w5 w6 jj pk) (fun u9 t9 => BO D (w_X7_add k h qb w1 w2 w3 w4 w5 w6 jj pk u9) A t9) A
set_option maxHeartbeats 2000000 in
set_option maxRecDepth 100000 in
theorem X7_add (l : Launch) (D : va_G) (k : Nat → ClassId) (sz : Nat) (h : Nat) (qb : Nat) (w1 : Int32) (w2 : Int32) (w3 : Int32) (w4 : Int32) (w5 : Int32) (w6 : Int32) (jj : Nat) (pk : Int64) (hj : 1 ≤ jj ∧ jj ≤ 8) : Met l yX7_add wsX7_add r_X7_add (va_Pc [.ref h, .int (nI jj), .long pk] (PR D k (c_X7_add k h qb w1 w2 w3 w4 w5 w6 jj pk) sz)) (q_X7_add D k h qb w1 w2 w3 w4 w5 w6 jj pk (va_A (c_X7_add k h qb w1 w2 w3 w4 w5 w6 jj pk) sz)) 0 0 (va_A (c_X7_add k h qb w1 w2 w3 w4 w5 w6 jj pk) sz) := by
  refine Met.ofW (cc := cX7_add) (maxL := 5) (ret := none) (by decide) rfl ?_
  intro p e s m args below meth c s₁ B hml hv
  obtain ⟨rfl, hsz, hP, hG, hD0⟩ := hv
  have hx := B.exec
  have hb := B.bytes
  have hr := B.returns
  have hts := atoms_spec (ws := wsX7_add) B.pre
  have hown : s.vm.findClass RX7 = some m.cls := findClass_of_methodNamed B.named
  have hlocks := B.notSynchronized
  have hi7 : ∀ w ∈ wsX70, w ∈ wsX7_add := fun _ h => List.mem_cons_of_mem _ (List.mem_append_right _ h)
  subst hsz
  have hD := hD0.self (sz := s.heap.size)
  generalize hAe : va_A (c_X7_add k h qb w1 w2 w3 w4 w5 w6 jj pk) s.heap.size = A at hD ⊢
  have hA : ∀ q : Nat, s.heap.size ≤ q → A q := fun q h => by rw [← hAe]; exact Or.inr h
  have hS : va_S A s.heap s.heap [] := va_S.rf
  have hP : va_P D vwCl [(h, .inr (7, [.ref qb, .int 0, .int w1, .int w2, .int w3, .int w4, .int w5, .int w6])), (qb, .inl (k 0, 500, .inl (fun _ => 0)))] s.heap := hP
  have hD : va_D A [(h, .inr (7, [.ref qb, .int 0, .int w1, .int w2, .int w3, .int w4, .int w5, .int w6])), (qb, .inl (k 0, 500, .inl (fun _ => 0)))] := hD
  have hl := lv_entry ([.ref h, .int (nI jj), .long pk]) (n := 5) (Nat.le_of_ble_eq_true rfl)
  rw [lg_entry_eq]
  generalize (lg_sl ([.ref h, .int (nI jj), .long pk]) ++ List.replicate (5 - (lg_sl ([.ref h, .int (nI jj), .long pk])).length) Slot.unset).toArray = ls at hl ⊢
  have hl : lv_has ls 5 [(0, .ref h), (1, .int (nI jj)), (2, .long pk)] := hl
  refine lv_iload_n hx hb dX7_add_0 rfl (lv_at hl 1 rfl) ?_
  refine lv_iconst (v := 1) hx hb dX7_add_1 (by decide) ?_
  refine lv_isub hx hb dX7_add_2 ?_
  refine tp_i (y := nI jj + (-1)) (Int32.sub_eq_add_neg _ _) ?_
  refine lv_istore (lv' := [(4, .int (nI jj + (-1))), (0, .ref h), (1, .int (nI jj)), (2, .long pk)]) hx hb dX7_add_3 hl (by decide) rfl (fun ls hl => ?_)
  have L1 : ∀ (n : Nat) (cc : Nat) (z : Nat) (g : Nat → Int32), (z + cc = jj) → cc < n → ∀ (H : Heap) (locs : List Loc), va_P D vwCl [(h, .inr (7, [.ref qb, .int (nI z), .int w1, .int w2, .int w3, .int w4, .int w5, .int w6])), (qb, .inl (k 0, 500, .inl g))] H → va_D A [(h, .inr (7, [.ref qb, .int (nI z), .int w1, .int w2, .int w3, .int w4, .int w5, .int w6])), (qb, .inl (k 0, 500, .inl g))] → va_S A s.heap H locs → ∀ (ls : Array Slot), lv_has ls 5 [(4, .int (nI cc + (-1))), (0, .ref h), (1, .int (nI jj)), (2, .long pk)] → W p l e r_X7_add s m ([.ref h, .int (nI jj), .long pk] : List Value).toArray below meth c H locs 0 0 (MQ below (q_X7_add D k h qb w1 w2 w3 w4 w5 w6 jj pk A) ([.ref h, .int (nI jj), .long pk] : List Value).toArray s 0 0 A) (F0 m 5 ls []) := by
    intro n
    induction n with
    | zero => intro cc z g hz hmu; exact absurd hmu (Nat.not_lt_zero _)
    | succ n ih =>
      intro cc z g hz hmu H locs hP hD hS ls hl
      refine lv_iload hx hb dX7_add_5 (lv_at hl 0 rfl) ?_
      refine lv_if_lt (x := nI cc + (-1)) (tgt := 57) hx hb dX7_add_7 (by decide) (fun c2 => ?_) (fun c2 => ?_)
      · skip
        have h9 : z = jj := by have := dn_neg (by omega) c2; omega
        rw [h9] at hP hD
        have hP9 := hP.sub (ws' := [(h, .inr (7, [.ref qb, .int (nI jj), .int w1, .int w2, .int w3, .int w4, .int w5, .int w6])), (qb, .inl (k 0, 500, .inl g))]) [0, 1] rfl
        have hD9 := hD.sub (ws' := [(h, .inr (7, [.ref qb, .int (nI jj), .int w1, .int w2, .int w3, .int w4, .int w5, .int w6])), (qb, .inl (k 0, 500, .inl g))]) [0, 1] (by decide +kernel) rfl
        exact W.vret hx hb hr (fun t9 ht _ => ⟨⟨(g), rfl, trivial, by rw [ht]; exact hP9, hD9⟩, hS.F ht⟩) hS.2.2 dX7_add_57
      · skip
        obtain ⟨d, rfl⟩ := dn_pos c2
        rw [pk_m1] at hl
        refine lv_aload_n hx hb dX7_add_10 rfl (lv_at hl 1 rfl) ?_
        refine va_get (D := D) (ci := 7) (v := .int (nI z)) (C := RX7) (T := TX7) (N := 8) hx hb hts hi7 hown hG.1 hP 0 rfl rfl 1 (by decide) (hts (.fieldLink RX7 15 "SleptMatters$Text" "size" "I") (List.mem_cons_of_mem _ (List.mem_append_left _ (List.mem_of_getElem? (i := 0) rfl)))) (fun _ h9 => h9) rfl dX7_add_11 ?_
        refine lv_sipush (v := 500) hx hb dX7_add_14 (by decide) ?_
        refine bn_ge (i := z) (j := 500) (tgt := 57) hx hb dX7_add_17 (by decide) (by omega) (by omega) (fun c3 => absurd c3 (by omega)) (fun c3 => ?_)
        refine lv_aload_n hx hb dX7_add_20 rfl (lv_at hl 1 rfl) ?_
        refine va_get (D := D) (ci := 7) (v := .ref qb) (C := RX7) (T := TX7) (N := 8) hx hb hts hi7 hown hG.1 hP 0 rfl rfl 0 (by decide) (hts (.fieldLink RX7 9 "SleptMatters$Text" "bytes" "[I") (List.mem_cons_of_mem _ (List.mem_append_left _ (List.mem_of_getElem? (i := 1) rfl)))) (fun _ h9 => h9) rfl dX7_add_21 ?_
        refine lv_aload_n hx hb dX7_add_24 rfl (lv_at hl 1 rfl) ?_
        refine va_get (D := D) (ci := 7) (v := .int (nI z)) (C := RX7) (T := TX7) (N := 8) hx hb hts hi7 hown hG.1 hP 0 rfl rfl 1 (by decide) (hts (.fieldLink RX7 15 "SleptMatters$Text" "size" "I") (List.mem_cons_of_mem _ (List.mem_append_left _ (List.mem_of_getElem? (i := 0) rfl)))) (fun _ h9 => h9) rfl dX7_add_25 ?_
        refine lv_lload_n hx hb dX7_add_28 rfl (lv_at hl 3 rfl) ?_
        refine lv_bipush (v := 8) hx hb dX7_add_29 (by decide) ?_
        refine lv_iload hx hb dX7_add_31 (lv_at hl 0 rfl) ?_
        refine lv_imul hx hb dX7_add_33 ?_
        refine tp_i (y := nI (8 * d)) (pk_mul 8 d) ?_
        refine lv_lushr (v := (pk.toUInt64 >>> ((nI (8 * d)).toInt64.toUInt64 &&& Int64.toUInt64 63)).toInt64) hx hb dX7_add_34 rfl ?_
        refine lv_ldc2 (v := (255)) hx hb hown (hts (.constantLong RX7 37 (255)) (List.mem_cons_of_mem _ (List.mem_append_left _ (List.mem_of_getElem? (i := 2) rfl)))) dX7_add_35 ?_
        refine lv_land hx hb dX7_add_38 ?_
        refine lv_l2i (v := (((pk.toUInt64 >>> ((nI (8 * d)).toInt64.toUInt64 &&& Int64.toUInt64 63)).toInt64) &&& (255)).toInt32) hx hb dX7_add_39 rfl ?_
        refine va_iast hx hb hG.1 hP hD hS 1 0 rfl rfl (vp_in_nI (by omega) (by omega)) dX7_add_40 (fun H locs hP hD hS => ?_)
        rw [nI_clamp (n := z) (by omega)] at hP hD
        have hP : va_P D vwCl [(h, .inr (7, [.ref qb, .int (nI z), .int w1, .int w2, .int w3, .int w4, .int w5, .int w6])), (qb, .inl (k 0, 500, .inl (upd g z ((((pk.toUInt64 >>> ((nI (8 * d)).toInt64.toUInt64 &&& Int64.toUInt64 63)).toInt64) &&& (255)).toInt32))))] H := hP
        have hD : va_D A [(h, .inr (7, [.ref qb, .int (nI z), .int w1, .int w2, .int w3, .int w4, .int w5, .int w6])), (qb, .inl (k 0, 500, .inl (upd g z ((((pk.toUInt64 >>> ((nI (8 * d)).toInt64.toUInt64 &&& Int64.toUInt64 63)).toInt64) &&& (255)).toInt32))))] := hD
        refine lv_aload_n hx hb dX7_add_41 rfl (lv_at hl 1 rfl) ?_
        refine lv_dup hx hb dX7_add_42 rfl ?_
        refine va_get (D := D) (ci := 7) (v := .int (nI z)) (C := RX7) (T := TX7) (N := 8) hx hb hts hi7 hown hG.1 hP 0 rfl rfl 1 (by decide) (hts (.fieldLink RX7 15 "SleptMatters$Text" "size" "I") (List.mem_cons_of_mem _ (List.mem_append_left _ (List.mem_of_getElem? (i := 0) rfl)))) (fun _ h9 => h9) rfl dX7_add_43 ?_
        refine lv_iconst (v := 1) hx hb dX7_add_46 (by decide) ?_
        refine lv_iadd hx hb dX7_add_47 ?_
        refine tp_i (y := nI (z + 1)) (nI_add z 1) ?_
        refine va_put (D := D) (ci := 7) (v := .int (nI (z + 1))) (ty := .int) (C := RX7) (T := TX7) (N := 8) hx hb hts hi7 tyX7 tyX7_ok nmX7 hown hG.1 hP hD hS 0 rfl rfl 1 (by decide) (hts (.fieldLink RX7 15 "SleptMatters$Text" "size" "I") (List.mem_cons_of_mem _ (List.mem_append_left _ (List.mem_of_getElem? (i := 0) rfl)))) (fun _ h9 => h9) rfl (by decide +kernel) rfl rfl (Nat.le_of_ble_eq_true rfl) dX7_add_48 (fun H locs hP hD hS => ?_)
        have hP : va_P D vwCl [(h, .inr (7, [.ref qb, .int (nI (z + 1)), .int w1, .int w2, .int w3, .int w4, .int w5, .int w6])), (qb, .inl (k 0, 500, .inl (upd g z ((((pk.toUInt64 >>> ((nI (8 * d)).toInt64.toUInt64 &&& Int64.toUInt64 63)).toInt64) &&& (255)).toInt32))))] H := hP
        have hD : va_D A [(h, .inr (7, [.ref qb, .int (nI (z + 1)), .int w1, .int w2, .int w3, .int w4, .int w5, .int w6])), (qb, .inl (k 0, 500, .inl (upd g z ((((pk.toUInt64 >>> ((nI (8 * d)).toInt64.toUInt64 &&& Int64.toUInt64 63)).toInt64) &&& (255)).toInt32))))] := hD
        refine lv_iinc (v := (nI d) + (-1)) (lv' := [(4, .int ((nI d) + (-1))), (0, .ref h), (1, .int (nI jj)), (2, .long pk)]) hx hb dX7_add_51 hl (k := 0) rfl (rfl) (by decide) rfl (fun ls hl => ?_)
        refine lv_goto (tgt := 5) hx hb dX7_add_54 (by decide) ?_
        exact ih d (z + 1) (upd g z ((((pk.toUInt64 >>> ((nI (8 * d)).toInt64.toUInt64 &&& Int64.toUInt64 63)).toInt64) &&& (255)).toInt32)) (by omega) (by omega) _ _ (hP.sub [0, 1] rfl) (hD.sub [0, 1] (by decide +kernel) rfl) hS ls (lv_sub hl [0, 1, 2, 3] rfl)
  exact L1 _ jj 0 (fun _ => 0) (by omega) (Nat.lt_succ_self _) _ _ hP hD hS ls (lv_sub hl [0, 1, 2, 3] rfl)

abbrev c_X9_feed (k : Nat → ClassId) (x : Nat) (xt : Nat) (xc : Nat) (xi : Nat) (xk : Nat) (xb : Nat) (xr : Nat) (xp : Nat) (xo : Nat) (xl : Nat) (xm : Nat) (xw : Nat) (xv : Nat) (fb : Int32) (xtb : Nat) (nn : Int32) (pk : Int64) : va_W := [(x, .inr (9, [.ref xt, .ref xc, .ref xi, .ref xk, .ref xb, .ref xr, .ref xp, .ref xo, .ref xl, .ref xm, .ref xw, .ref xv, .int fb])), (xt, .inr (7, [.ref xtb, .int 0, .int 0, .int 0, .int 0, .int (-1), .int 0, .int 0])), (xtb, .inl (k 0, 500, .inl (fun _ => 0)))]
abbrev r_X9_feed : Room := { frames := 1, cells := 0, slots := 0, locals := 24 }
def w_X9_feed (k : Nat → ClassId) (x : Nat) (xt : Nat) (xc : Nat) (xi : Nat) (xk : Nat) (xb : Nat) (xr : Nat) (xp : Nat) (xo : Nat) (xl : Nat) (xm : Nat) (xw : Nat) (xv : Nat) (fb : Int32) (xtb : Nat) (nn : Int32) (pk : Int64) : Unit → va_W := fun _ => []
def p_X9_feed (k : Nat → ClassId) (x : Nat) (xt : Nat) (xc : Nat) (xi : Nat) (xk : Nat) (xb : Nat) (xr : Nat) (xp : Nat) (xo : Nat) (xl : Nat) (xm : Nat) (xw : Nat) (xv : Nat) (fb : Int32) (xtb : Nat) (nn : Int32) (pk : Int64) : Int32 → Unit → Prop := fun (r : Int32) (u : Unit) => r = fdA nn
abbrev q_X9_feed (D : va_G) (k : Nat → ClassId) (x : Nat) (xt : Nat) (xc : Nat) (xi : Nat) (xk : Nat) (xb : Nat) (xr : Nat) (xp : Nat) (xo : Nat) (xl : Nat) (xm : Nat) (xw : Nat) (xv : Nat) (fb : Int32) (xtb : Nat) (nn : Int32) (pk : Int64) (A : Nat → Prop) : Array Value → State → Outcome → State → Prop := va_Qi (p_X9_feed k x xt xc xi xk xb xr xp xo xl xm xw xv fb xtb nn pk) (fun u9 t9 => BO D (w_X9_feed k x xt xc xi xk xb xr xp xo xl xm xw xv fb xtb nn pk u9) A t9) A
set_option maxHeartbeats 2000000 in
set_option maxRecDepth 100000 in
theorem X9_feed (l : Launch) (D : va_G) (k : Nat → ClassId) (sz : Nat) (x : Nat) (xt : Nat) (xc : Nat) (xi : Nat) (xk : Nat) (xb : Nat) (xr : Nat) (xp : Nat) (xo : Nat) (xl : Nat) (xm : Nat) (xw : Nat) (xv : Nat) (fb : Int32) (xtb : Nat) (nn : Int32) (pk : Int64)  : Met l yX9_feed wsX9_feed r_X9_feed (va_Pc [.ref x, .int nn, .long pk] (PR D k (c_X9_feed k x xt xc xi xk xb xr xp xo xl xm xw xv fb xtb nn pk) sz)) (q_X9_feed D k x xt xc xi xk xb xr xp xo xl xm xw xv fb xtb nn pk (va_A (c_X9_feed k x xt xc xi xk xb xr xp xo xl xm xw xv fb xtb nn pk) sz)) 0 0 (va_A (c_X9_feed k x xt xc xi xk xb xr xp xo xl xm xw xv fb xtb nn pk) sz) := by
  refine Met.ofW (cc := cX9_feed) (maxL := 4) (ret := (some .int)) (by decide) rfl ?_
  intro p e s m args below meth c s₁ B hml hv
  obtain ⟨rfl, hsz, hP, hG, hD0⟩ := hv
  have hx := B.exec
  have hb := B.bytes
  have hr := B.returns
  have hts := atoms_spec (ws := wsX9_feed) B.pre
  have hown : s.vm.findClass RX9 = some m.cls := findClass_of_methodNamed B.named
  have hlocks := B.notSynchronized
  have hi9 : ∀ w ∈ wsX90, w ∈ wsX9_feed := fun _ h => List.mem_cons_of_mem _ (List.mem_append_left _ (List.mem_append_right _ h))
  have hi7 : ∀ w ∈ wsX70, w ∈ wsX9_feed := fun _ h => List.mem_cons_of_mem _ (List.mem_append_right _ h)
  subst hsz
  have hD := hD0.self (sz := s.heap.size)
  generalize hAe : va_A (c_X9_feed k x xt xc xi xk xb xr xp xo xl xm xw xv fb xtb nn pk) s.heap.size = A at hD ⊢
  have hA : ∀ q : Nat, s.heap.size ≤ q → A q := fun q h => by rw [← hAe]; exact Or.inr h
  have hS : va_S A s.heap s.heap [] := va_S.rf
  have hP : va_P D vwCl [(x, .inr (9, [.ref xt, .ref xc, .ref xi, .ref xk, .ref xb, .ref xr, .ref xp, .ref xo, .ref xl, .ref xm, .ref xw, .ref xv, .int fb])), (xt, .inr (7, [.ref xtb, .int 0, .int 0, .int 0, .int 0, .int (-1), .int 0, .int 0])), (xtb, .inl (k 0, 500, .inl (fun _ => 0)))] s.heap := hP
  have hD : va_D A [(x, .inr (9, [.ref xt, .ref xc, .ref xi, .ref xk, .ref xb, .ref xr, .ref xp, .ref xo, .ref xl, .ref xm, .ref xw, .ref xv, .int fb])), (xt, .inr (7, [.ref xtb, .int 0, .int 0, .int 0, .int 0, .int (-1), .int 0, .int 0])), (xtb, .inl (k 0, 500, .inl (fun _ => 0)))] := hD
  have hl := lv_entry ([.ref x, .int nn, .long pk]) (n := 4) (Nat.le_of_ble_eq_true rfl)
  rw [lg_entry_eq]
  generalize (lg_sl ([.ref x, .int nn, .long pk]) ++ List.replicate (4 - (lg_sl ([.ref x, .int nn, .long pk])).length) Slot.unset).toArray = ls at hl ⊢
  have hl : lv_has ls 4 [(0, .ref x), (1, .int nn), (2, .long pk)] := hl
  refine lv_iload_n hx hb dX9_feed_0 rfl (lv_at hl 1 rfl) ?_
  refine lv_iconst (v := 1) hx hb dX9_feed_1 (by decide) ?_
  refine lv_icmp_lt (x := nn) (y := 1) (tgt := 11) hx hb dX9_feed_2 (by decide) (fun c1 => ?_) (fun c1 => ?_)
  · skip
    refine lv_ldc (v := (-1000000002)) hx hb hown (hts (.constant RX9 87 (-1000000002)) (List.mem_cons_of_mem _ (List.mem_append_left _ (List.mem_append_left _ (List.mem_of_getElem? (i := 0) rfl))))) dX9_feed_11 ?_
    have hP9 := hP.sub (ws' := []) [] rfl
    have hD9 := hD.sub (ws' := []) [] (by decide +kernel) rfl
    exact W.iret (v := (-1000000002)) hx hb hr (fun t9 ht _ => ⟨⟨(-1000000002), (), rfl, by simp [p_X9_feed, fdA, c1], by rw [ht]; exact hP9, hD9⟩, hS.F ht⟩) hS.2.2 dX9_feed_13
  · skip
    refine lv_iload_n hx hb dX9_feed_5 rfl (lv_at hl 1 rfl) ?_
    refine lv_bipush (v := 8) hx hb dX9_feed_6 (by decide) ?_
    refine lv_icmp_le (x := nn) (y := 8) (tgt := 14) hx hb dX9_feed_8 (by decide) (fun c2 => ?_) (fun c2 => ?_)
    · skip
      obtain ⟨jj, hm0, hm, en⟩ := nat_of (lo := 1) (hi := 8) c1 c2 (by decide) (by decide)
      refine lv_aload_n hx hb dX9_feed_14 rfl (lv_at hl 0 rfl) ?_
      refine va_get (D := D) (ci := 9) (v := .ref xt) (C := RX9) (T := TX9) (N := 13) hx hb hts hi9 hown hG.1 hP 0 rfl rfl 0 (by decide) (hts (.fieldLink RX9 10 "SleptMatters" "text" "LSleptMatters$Text;") (List.mem_cons_of_mem _ (List.mem_append_left _ (List.mem_append_left _ (List.mem_of_getElem? (i := 1) rfl))))) (fun _ h9 => h9) rfl dX9_feed_15 ?_
      refine va_get (D := D) (ci := 7) (v := .int 0) (C := RX7) (T := TX7) (N := 8) hx hb hts hi7 hown hG.1 hP 1 rfl rfl 1 (by decide) (hts (.fieldLink RX9 88 "SleptMatters$Text" "size" "I") (List.mem_cons_of_mem _ (List.mem_append_left _ (List.mem_append_left _ (List.mem_of_getElem? (i := 2) rfl))))) (fun _ h9 => h9) rfl dX9_feed_18 ?_
      refine lv_iload_n hx hb dX9_feed_21 rfl (lv_at hl 1 rfl) ?_
      refine tp_i (y := nI jj) (en) ?_
      refine lv_iadd hx hb dX9_feed_22 ?_
      refine tp_i (y := nI (0 + jj)) (nI_add 0 jj) ?_
      refine lv_sipush (v := 500) hx hb dX9_feed_23 (by decide) ?_
      refine bn_le (i := 0 + jj) (j := 500) (tgt := 32) hx hb dX9_feed_26 (by decide) (by omega) (by omega) (fun c3 => ?_) (fun c3 => absurd c3 (by omega))
      refine lv_aload_n hx hb dX9_feed_32 rfl (lv_at hl 0 rfl) ?_
      refine va_get (D := D) (ci := 9) (v := .ref xt) (C := RX9) (T := TX9) (N := 13) hx hb hts hi9 hown hG.1 hP 0 rfl rfl 0 (by decide) (hts (.fieldLink RX9 10 "SleptMatters" "text" "LSleptMatters$Text;") (List.mem_cons_of_mem _ (List.mem_append_left _ (List.mem_append_left _ (List.mem_of_getElem? (i := 1) rfl))))) (fun _ h9 => h9) rfl dX9_feed_33 ?_
      refine lv_iload_n hx hb dX9_feed_36 rfl (lv_at hl 1 rfl) ?_
      refine tp_i (y := nI jj) (en) ?_
      refine lv_lload_n hx hb dX9_feed_37 rfl (lv_at hl 2 rfl) ?_
      have hPc := hP.sub (ws' := (c_X7_add k xt xtb 0 0 0 (-1) 0 0 jj pk)) [1, 2] rfl
      have hDc := hD.sub (ws' := (c_X7_add k xt xtb 0 0 0 (-1) 0 0 jj pk)) [1, 2] (by decide +kernel) rfl
      refine cl_v (w1 := w_X7_add k xt xtb 0 0 0 (-1) 0 0 jj pk) (wr := [(x, .inr (9, [.ref xt, .ref xc, .ref xi, .ref xk, .ref xb, .ref xr, .ref xp, .ref xo, .ref xl, .ref xm, .ref xw, .ref xv, .int fb]))]) (va_runV (As := [.int (nI jj), .long pk]) (rest := []) ⟨hx, hb, hml, hown, hts⟩ (X7_add l D k s.heap.size xt xtb 0 0 0 (-1) 0 0 jj pk (⟨hm0, hm⟩)) (cwV 2 hts gX9_feed_X7_add rfl rfl rfl (by decide +kernel) ⟨Nat.le_of_ble_eq_true rfl, Nat.le_of_ble_eq_true rfl⟩) ⟨PR.blind _ _ _ _ _, va_recv hG.1 hP (ci := 7) (q0 := 1) rfl rfl, PR.pre hPc hDc hG [.ref xt, .int (nI jj), .long pk]⟩ rfl rfl hl.1 rfl (lv_room (Nat.le_of_ble_eq_true rfl)) dX9_feed_38 ⟨Nat.le_of_ble_eq_true rfl, Nat.le_of_ble_eq_true rfl⟩) hP hD hS hA [1, 2] [0] rfl rfl (by decide +kernel) (by decide +kernel) (fun u H locs hq hP hD hS => ?_)
      obtain ⟨zu4, rfl⟩ : ∃ z, z = u := ⟨_, rfl⟩
      have hP : va_P D vwCl [(x, .inr (9, [.ref xt, .ref xc, .ref xi, .ref xk, .ref xb, .ref xr, .ref xp, .ref xo, .ref xl, .ref xm, .ref xw, .ref xv, .int fb])), (xt, .inr (7, [.ref xtb, .int (nI jj), .int 0, .int 0, .int 0, .int (-1), .int 0, .int 0])), (xtb, .inl (k 0, 500, .inl zu4))] H := hP
      have hD : va_D A [(x, .inr (9, [.ref xt, .ref xc, .ref xi, .ref xk, .ref xb, .ref xr, .ref xp, .ref xo, .ref xl, .ref xm, .ref xw, .ref xv, .int fb])), (xt, .inr (7, [.ref xtb, .int (nI jj), .int 0, .int 0, .int 0, .int (-1), .int 0, .int 0])), (xtb, .inl (k 0, 500, .inl zu4))] := hD
      refine lv_aload_n hx hb dX9_feed_41 rfl (lv_at hl 0 rfl) ?_
      refine va_get (D := D) (ci := 9) (v := .ref xt) (C := RX9) (T := TX9) (N := 13) hx hb hts hi9 hown hG.1 hP 0 rfl rfl 0 (by decide) (hts (.fieldLink RX9 10 "SleptMatters" "text" "LSleptMatters$Text;") (List.mem_cons_of_mem _ (List.mem_append_left _ (List.mem_append_left _ (List.mem_of_getElem? (i := 1) rfl))))) (fun _ h9 => h9) rfl dX9_feed_42 ?_
      refine va_get (D := D) (ci := 7) (v := .int (nI jj)) (C := RX7) (T := TX7) (N := 8) hx hb hts hi7 hown hG.1 hP 1 rfl rfl 1 (by decide) (hts (.fieldLink RX9 88 "SleptMatters$Text" "size" "I") (List.mem_cons_of_mem _ (List.mem_append_left _ (List.mem_append_left _ (List.mem_of_getElem? (i := 2) rfl))))) (fun _ h9 => h9) rfl dX9_feed_45 ?_
      have hP9 := hP.sub (ws' := []) [] rfl
      have hD9 := hD.sub (ws' := []) [] (by decide +kernel) rfl
      exact W.iret (v := nI jj) hx hb hr (fun t9 ht _ => ⟨⟨nI jj, (), rfl, by simp [p_X9_feed, fdA, en.symm, c1, c2], by rw [ht]; exact hP9, hD9⟩, hS.F ht⟩) hS.2.2 dX9_feed_48
    · skip
      refine lv_ldc (v := (-1000000002)) hx hb hown (hts (.constant RX9 87 (-1000000002)) (List.mem_cons_of_mem _ (List.mem_append_left _ (List.mem_append_left _ (List.mem_of_getElem? (i := 0) rfl))))) dX9_feed_11 ?_
      have hP9 := hP.sub (ws' := []) [] rfl
      have hD9 := hD.sub (ws' := []) [] (by decide +kernel) rfl
      exact W.iret (v := (-1000000002)) hx hb hr (fun t9 ht _ => ⟨⟨(-1000000002), (), rfl, by simp [p_X9_feed, fdA, c1, c2], by rw [ht]; exact hP9, hD9⟩, hS.F ht⟩) hS.2.2 dX9_feed_13
