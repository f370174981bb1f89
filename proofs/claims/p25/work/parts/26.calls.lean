set_option maxRecDepth 20000 in
theorem ggX9_feed_X7_add : GoodIn wsX9_feed wsX7_add := goodIn_r _ [9, 10, 11, 12, 26, 27, 28, 29, 30, 31, 32, 33] rfl (by decide +kernel)
set_option maxRecDepth 20000 in
theorem gX9_feed_X7_add : GoodIn wsX9_feed (wsV RX9 92 RX7 yX7_add wsX7_add) := goodIn_app (goodIn_of _ (by decide +kernel)) ggX9_feed_X7_add
theorem dX9_feed_0 : decode cX9_feed 0 = .ok (.iload_n 1, 1) := dc_Bk (by decide +kernel)
theorem dX9_feed_1 : decode cX9_feed 1 = .ok (.iconst 1, 1) := dc_Bk (by decide +kernel)
theorem dX9_feed_2 : decode cX9_feed 2 = .ok (.if_icmp .lt 9, 3) := dc_Bk (by decide +kernel)
theorem dX9_feed_5 : decode cX9_feed 5 = .ok (.iload_n 1, 1) := dc_Bk (by decide +kernel)
theorem dX9_feed_6 : decode cX9_feed 6 = .ok (.bipush 8, 2) := dc_Bk (by decide +kernel)
theorem dX9_feed_8 : decode cX9_feed 8 = .ok (.if_icmp .le 6, 3) := dc_Bk (by decide +kernel)
theorem dX9_feed_11 : decode cX9_feed 11 = .ok (.ldc 87, 2) := dc_Bk (by decide +kernel)
theorem dX9_feed_13 : decode cX9_feed 13 = .ok (.ireturn, 1) := dc_Bk (by decide +kernel)
theorem dX9_feed_14 : decode cX9_feed 14 = .ok (.aload_n 0, 1) := dc_Bk (by decide +kernel)
theorem dX9_feed_15 : decode cX9_feed 15 = .ok (.getfield 10, 3) := dc_Bk (by decide +kernel)
theorem dX9_feed_18 : decode cX9_feed 18 = .ok (.getfield 88, 3) := dc_Bk (by decide +kernel)
theorem dX9_feed_21 : decode cX9_feed 21 = .ok (.iload_n 1, 1) := dc_Bk (by decide +kernel)
theorem dX9_feed_22 : decode cX9_feed 22 = .ok (.iadd, 1) := dc_Bk (by decide +kernel)
theorem dX9_feed_23 : decode cX9_feed 23 = .ok (.sipush 500, 3) := dc_Bk (by decide +kernel)
theorem dX9_feed_26 : decode cX9_feed 26 = .ok (.if_icmp .le 6, 3) := dc_Bk (by decide +kernel)
theorem dX9_feed_29 : decode cX9_feed 29 = .ok (.ldc 91, 2) := dc_Bk (by decide +kernel)
theorem dX9_feed_31 : decode cX9_feed 31 = .ok (.ireturn, 1) := dc_Bk (by decide +kernel)
theorem dX9_feed_32 : decode cX9_feed 32 = .ok (.aload_n 0, 1) := dc_Bk (by decide +kernel)
theorem dX9_feed_33 : decode cX9_feed 33 = .ok (.getfield 10, 3) := dc_Bk (by decide +kernel)
theorem dX9_feed_36 : decode cX9_feed 36 = .ok (.iload_n 1, 1) := dc_Bk (by decide +kernel)
theorem dX9_feed_37 : decode cX9_feed 37 = .ok (.lload_n 2, 1) := dc_Bk (by decide +kernel)
theorem dX9_feed_38 : decode cX9_feed 38 = .ok (.invokevirtual 92, 3) := dc_Bk (by decide +kernel)
theorem dX9_feed_41 : decode cX9_feed 41 = .ok (.aload_n 0, 1) := dc_Bk (by decide +kernel)
theorem dX9_feed_42 : decode cX9_feed 42 = .ok (.getfield 10, 3) := dc_Bk (by decide +kernel)
theorem dX9_feed_45 : decode cX9_feed 45 = .ok (.getfield 88, 3) := dc_Bk (by decide +kernel)
theorem dX9_feed_48 : decode cX9_feed 48 = .ok (.ireturn, 1) := dc_Bk (by decide +kernel)
theorem dX9_endReading_0 : decode cX9_endReading 0 = .ok (.aload_n 0, 1) := dc_Bk (by decide +kernel)
theorem dX9_endReading_1 : decode cX9_endReading 1 = .ok (.aload_n 0, 1) := dc_Bk (by decide +kernel)
theorem dX9_endReading_2 : decode cX9_endReading 2 = .ok (.getfield 10, 3) := dc_Bk (by decide +kernel)
theorem dX9_endReading_5 : decode cX9_endReading 5 = .ok (.getfield 280, 3) := dc_Bk (by decide +kernel)
theorem dX9_endReading_8 : decode cX9_endReading 8 = .ok (.putfield 58, 3) := dc_Bk (by decide +kernel)
theorem dX9_endReading_11 : decode cX9_endReading 11 = .ok (.aload_n 0, 1) := dc_Bk (by decide +kernel)
theorem dX9_endReading_12 : decode cX9_endReading 12 = .ok (.getfield 10, 3) := dc_Bk (by decide +kernel)
theorem dX9_endReading_15 : decode cX9_endReading 15 = .ok (.iconst 0, 1) := dc_Bk (by decide +kernel)
theorem dX9_endReading_16 : decode cX9_endReading 16 = .ok (.putfield 88, 3) := dc_Bk (by decide +kernel)
theorem dX9_endReading_19 : decode cX9_endReading 19 = .ok (.aload_n 0, 1) := dc_Bk (by decide +kernel)
theorem dX9_endReading_20 : decode cX9_endReading 20 = .ok (.getfield 10, 3) := dc_Bk (by decide +kernel)
theorem dX9_endReading_23 : decode cX9_endReading 23 = .ok (.getfield 283, 3) := dc_Bk (by decide +kernel)
theorem dX9_endReading_26 : decode cX9_endReading 26 = .ok (.ireturn, 1) := dc_Bk (by decide +kernel)
theorem dX9_fault_0 : decode cX9_fault 0 = .ok (.aload_n 0, 1) := dc_Bk (by decide +kernel)
theorem dX9_fault_1 : decode cX9_fault 1 = .ok (.getfield 58, 3) := dc_Bk (by decide +kernel)
theorem dX9_fault_4 : decode cX9_fault 4 = .ok (.ireturn, 1) := dc_Bk (by decide +kernel)
set_option maxRecDepth 20000 in
theorem ggX9_told_X8_count : GoodIn wsX9_told wsX8_count := goodIn_r _ [18, 19, 83, 84, 85, 86, 87] rfl (by decide +kernel)
set_option maxRecDepth 20000 in
theorem gX9_told_X8_count : GoodIn wsX9_told (wsV RX9 115 RX8 yX8_count wsX8_count) := goodIn_app (goodIn_of _ (by decide +kernel)) ggX9_told_X8_count
set_option maxRecDepth 20000 in
theorem ggX9_told_X2_score : GoodIn wsX9_told wsX2_score := goodIn_r _ [24, 25, 26, 27, 28, 29, 30, 31, 32, 33, 15, 16, 17, 18, 19, 34, 35, 36, 37, 38, 39, 40, 41, 42, 61, 62, 63, 64, 65, 66, 67, 68, 69, 70, 83, 84, 85, 86, 87] rfl (by decide +kernel)
set_option maxRecDepth 20000 in
theorem gX9_told_X2_score : GoodIn wsX9_told (wsV RX9 139 RX2 yX2_score wsX2_score) := goodIn_app (goodIn_of _ (by decide +kernel)) ggX9_told_X2_score
theorem dX9_told_0 : decode cX9_told 0 = .ok (.iload_n 1, 1) := dc_Bk (by decide +kernel)
theorem dX9_told_1 : decode cX9_told 1 = .ok (.tableswitch 162 0 10 #[59, 68, 77, 86, 94, 102, 118, 126, 134, 142, 150], 59) := dc_Bk (by decide +kernel)
theorem dX9_told_60 : decode cX9_told 60 = .ok (.aload_n 0, 1) := dc_Bk (by decide +kernel)
theorem dX9_told_61 : decode cX9_told 61 = .ok (.getfield 41, 3) := dc_Bk (by decide +kernel)
theorem dX9_told_64 : decode cX9_told 64 = .ok (.iconst 0, 1) := dc_Bk (by decide +kernel)
theorem dX9_told_65 : decode cX9_told 65 = .ok (.invokevirtual 115, 3) := dc_Bk (by decide +kernel)
theorem dX9_told_68 : decode cX9_told 68 = .ok (.ireturn, 1) := dc_Bk (by decide +kernel)
theorem dX9_told_69 : decode cX9_told 69 = .ok (.aload_n 0, 1) := dc_Bk (by decide +kernel)
theorem dX9_told_70 : decode cX9_told 70 = .ok (.getfield 41, 3) := dc_Bk (by decide +kernel)
theorem dX9_told_73 : decode cX9_told 73 = .ok (.iconst 1, 1) := dc_Bk (by decide +kernel)
theorem dX9_told_74 : decode cX9_told 74 = .ok (.invokevirtual 115, 3) := dc_Bk (by decide +kernel)
theorem dX9_told_77 : decode cX9_told 77 = .ok (.ireturn, 1) := dc_Bk (by decide +kernel)
theorem dX9_told_78 : decode cX9_told 78 = .ok (.aload_n 0, 1) := dc_Bk (by decide +kernel)
theorem dX9_told_79 : decode cX9_told 79 = .ok (.getfield 41, 3) := dc_Bk (by decide +kernel)
theorem dX9_told_82 : decode cX9_told 82 = .ok (.iconst 3, 1) := dc_Bk (by decide +kernel)
theorem dX9_told_83 : decode cX9_told 83 = .ok (.invokevirtual 115, 3) := dc_Bk (by decide +kernel)
theorem dX9_told_86 : decode cX9_told 86 = .ok (.ireturn, 1) := dc_Bk (by decide +kernel)
theorem dX9_told_87 : decode cX9_told 87 = .ok (.aload_n 0, 1) := dc_Bk (by decide +kernel)
theorem dX9_told_88 : decode cX9_told 88 = .ok (.getfield 51, 3) := dc_Bk (by decide +kernel)
theorem dX9_told_91 : decode cX9_told 91 = .ok (.getfield 124, 3) := dc_Bk (by decide +kernel)
theorem dX9_told_94 : decode cX9_told 94 = .ok (.ireturn, 1) := dc_Bk (by decide +kernel)
theorem dX9_told_95 : decode cX9_told 95 = .ok (.aload_n 0, 1) := dc_Bk (by decide +kernel)
theorem dX9_told_96 : decode cX9_told 96 = .ok (.getfield 51, 3) := dc_Bk (by decide +kernel)
theorem dX9_told_99 : decode cX9_told 99 = .ok (.getfield 127, 3) := dc_Bk (by decide +kernel)
theorem dX9_told_102 : decode cX9_told 102 = .ok (.ireturn, 1) := dc_Bk (by decide +kernel)
theorem dX9_told_103 : decode cX9_told 103 = .ok (.aload_n 0, 1) := dc_Bk (by decide +kernel)
theorem dX9_told_104 : decode cX9_told 104 = .ok (.getfield 51, 3) := dc_Bk (by decide +kernel)
theorem dX9_told_107 : decode cX9_told 107 = .ok (.getfield 130, 3) := dc_Bk (by decide +kernel)
theorem dX9_told_110 : decode cX9_told 110 = .ok (.ifCond .eq 7, 3) := dc_Bk (by decide +kernel)
theorem dX9_told_113 : decode cX9_told 113 = .ok (.iconst 1, 1) := dc_Bk (by decide +kernel)
theorem dX9_told_114 : decode cX9_told 114 = .ok (.goto 4, 3) := dc_Bk (by decide +kernel)
theorem dX9_told_117 : decode cX9_told 117 = .ok (.iconst 0, 1) := dc_Bk (by decide +kernel)
theorem dX9_told_118 : decode cX9_told 118 = .ok (.ireturn, 1) := dc_Bk (by decide +kernel)
theorem dX9_told_119 : decode cX9_told 119 = .ok (.aload_n 0, 1) := dc_Bk (by decide +kernel)
theorem dX9_told_120 : decode cX9_told 120 = .ok (.getfield 19, 3) := dc_Bk (by decide +kernel)
theorem dX9_told_123 : decode cX9_told 123 = .ok (.getfield 133, 3) := dc_Bk (by decide +kernel)
theorem dX9_told_126 : decode cX9_told 126 = .ok (.ireturn, 1) := dc_Bk (by decide +kernel)
theorem dX9_told_127 : decode cX9_told 127 = .ok (.aload_n 0, 1) := dc_Bk (by decide +kernel)
theorem dX9_told_128 : decode cX9_told 128 = .ok (.getfield 19, 3) := dc_Bk (by decide +kernel)
theorem dX9_told_131 : decode cX9_told 131 = .ok (.getfield 136, 3) := dc_Bk (by decide +kernel)
theorem dX9_told_134 : decode cX9_told 134 = .ok (.ireturn, 1) := dc_Bk (by decide +kernel)
theorem dX9_told_135 : decode cX9_told 135 = .ok (.aload_n 0, 1) := dc_Bk (by decide +kernel)
theorem dX9_told_136 : decode cX9_told 136 = .ok (.getfield 10, 3) := dc_Bk (by decide +kernel)
theorem dX9_told_139 : decode cX9_told 139 = .ok (.getfield 88, 3) := dc_Bk (by decide +kernel)
theorem dX9_told_142 : decode cX9_told 142 = .ok (.ireturn, 1) := dc_Bk (by decide +kernel)
theorem dX9_told_143 : decode cX9_told 143 = .ok (.aload_n 0, 1) := dc_Bk (by decide +kernel)
theorem dX9_told_144 : decode cX9_told 144 = .ok (.getfield 34, 3) := dc_Bk (by decide +kernel)
theorem dX9_told_147 : decode cX9_told 147 = .ok (.getfield 114, 3) := dc_Bk (by decide +kernel)
theorem dX9_told_150 : decode cX9_told 150 = .ok (.ireturn, 1) := dc_Bk (by decide +kernel)
theorem dX9_told_151 : decode cX9_told 151 = .ok (.aload_n 0, 1) := dc_Bk (by decide +kernel)
theorem dX9_told_152 : decode cX9_told 152 = .ok (.getfield 19, 3) := dc_Bk (by decide +kernel)
theorem dX9_told_155 : decode cX9_told 155 = .ok (.aload_n 0, 1) := dc_Bk (by decide +kernel)
theorem dX9_told_156 : decode cX9_told 156 = .ok (.getfield 41, 3) := dc_Bk (by decide +kernel)
theorem dX9_told_159 : decode cX9_told 159 = .ok (.invokevirtual 139, 3) := dc_Bk (by decide +kernel)
theorem dX9_told_162 : decode cX9_told 162 = .ok (.ireturn, 1) := dc_Bk (by decide +kernel)
theorem dX9_told_163 : decode cX9_told 163 = .ok (.ldc 87, 2) := dc_Bk (by decide +kernel)
theorem dX9_told_165 : decode cX9_told 165 = .ok (.ireturn, 1) := dc_Bk (by decide +kernel)
set_option maxRecDepth 20000 in
theorem ggX9_house_X8_has : GoodIn wsX9_house wsX8_has := goodIn_r _ [9, 10, 37, 38, 39, 40, 41] rfl (by decide +kernel)
set_option maxRecDepth 20000 in
theorem gX9_house_X8_has : GoodIn wsX9_house (wsV RX9 143 RX8 yX8_has wsX8_has) := goodIn_app (goodIn_of _ (by decide +kernel)) ggX9_house_X8_has
set_option maxRecDepth 20000 in
theorem ggX9_house_X8_part : GoodIn wsX9_house wsX8_part := goodIn_r _ [14, 15, 16, 6, 7, 8, 9, 10, 37, 38, 39, 40, 41] rfl (by decide +kernel)
set_option maxRecDepth 20000 in
theorem gX9_house_X8_part : GoodIn wsX9_house (wsV RX9 148 RX8 yX8_part wsX8_part) := goodIn_app (goodIn_of _ (by decide +kernel)) ggX9_house_X8_part
set_option maxRecDepth 20000 in
theorem ggX9_house_X2_bedsFree : GoodIn wsX9_house wsX2_bedsFree := goodIn_r _ [21, 22, 23, 12, 13, 8, 14, 15, 16, 6, 7, 9, 10, 42, 43, 44, 45, 46, 47, 48, 49, 50, 51, 37, 38, 39, 40, 41] rfl (by decide +kernel)
set_option maxRecDepth 20000 in
theorem gX9_house_X2_bedsFree : GoodIn wsX9_house (wsV RX9 152 RX2 yX2_bedsFree wsX2_bedsFree) := goodIn_app (goodIn_of _ (by decide +kernel)) ggX9_house_X2_bedsFree
theorem dX9_house_0 : decode cX9_house 0 = .ok (.aload_n 0, 1) := dc_Bk (by decide +kernel)
theorem dX9_house_1 : decode cX9_house 1 = .ok (.getfield 41, 3) := dc_Bk (by decide +kernel)
theorem dX9_house_4 : decode cX9_house 4 = .ok (.iconst 0, 1) := dc_Bk (by decide +kernel)
theorem dX9_house_5 : decode cX9_house 5 = .ok (.iload_n 1, 1) := dc_Bk (by decide +kernel)
theorem dX9_house_6 : decode cX9_house 6 = .ok (.invokevirtual 143, 3) := dc_Bk (by decide +kernel)
theorem dX9_house_9 : decode cX9_house 9 = .ok (.ifCond .ne 6, 3) := dc_Bk (by decide +kernel)
theorem dX9_house_12 : decode cX9_house 12 = .ok (.ldc 147, 2) := dc_Bk (by decide +kernel)
theorem dX9_house_14 : decode cX9_house 14 = .ok (.ireturn, 1) := dc_Bk (by decide +kernel)
theorem dX9_house_15 : decode cX9_house 15 = .ok (.iload_n 2, 1) := dc_Bk (by decide +kernel)
theorem dX9_house_16 : decode cX9_house 16 = .ok (.tableswitch 63 0 2 #[28, 39, 50], 28) := dc_Bk (by decide +kernel)
theorem dX9_house_44 : decode cX9_house 44 = .ok (.aload_n 0, 1) := dc_Bk (by decide +kernel)
theorem dX9_house_45 : decode cX9_house 45 = .ok (.getfield 41, 3) := dc_Bk (by decide +kernel)
theorem dX9_house_48 : decode cX9_house 48 = .ok (.iconst 0, 1) := dc_Bk (by decide +kernel)
theorem dX9_house_49 : decode cX9_house 49 = .ok (.iload_n 1, 1) := dc_Bk (by decide +kernel)
theorem dX9_house_50 : decode cX9_house 50 = .ok (.iconst 0, 1) := dc_Bk (by decide +kernel)
theorem dX9_house_51 : decode cX9_house 51 = .ok (.invokevirtual 148, 3) := dc_Bk (by decide +kernel)
theorem dX9_house_54 : decode cX9_house 54 = .ok (.ireturn, 1) := dc_Bk (by decide +kernel)
theorem dX9_house_55 : decode cX9_house 55 = .ok (.aload_n 0, 1) := dc_Bk (by decide +kernel)
theorem dX9_house_56 : decode cX9_house 56 = .ok (.getfield 41, 3) := dc_Bk (by decide +kernel)
theorem dX9_house_59 : decode cX9_house 59 = .ok (.iconst 0, 1) := dc_Bk (by decide +kernel)
theorem dX9_house_60 : decode cX9_house 60 = .ok (.iload_n 1, 1) := dc_Bk (by decide +kernel)
theorem dX9_house_61 : decode cX9_house 61 = .ok (.iconst 1, 1) := dc_Bk (by decide +kernel)
theorem dX9_house_62 : decode cX9_house 62 = .ok (.invokevirtual 148, 3) := dc_Bk (by decide +kernel)
theorem dX9_house_65 : decode cX9_house 65 = .ok (.ireturn, 1) := dc_Bk (by decide +kernel)
theorem dX9_house_66 : decode cX9_house 66 = .ok (.aload_n 0, 1) := dc_Bk (by decide +kernel)
theorem dX9_house_67 : decode cX9_house 67 = .ok (.getfield 19, 3) := dc_Bk (by decide +kernel)
theorem dX9_house_70 : decode cX9_house 70 = .ok (.aload_n 0, 1) := dc_Bk (by decide +kernel)
theorem dX9_house_71 : decode cX9_house 71 = .ok (.getfield 41, 3) := dc_Bk (by decide +kernel)
theorem dX9_house_74 : decode cX9_house 74 = .ok (.iload_n 1, 1) := dc_Bk (by decide +kernel)
theorem dX9_house_75 : decode cX9_house 75 = .ok (.invokevirtual 152, 3) := dc_Bk (by decide +kernel)
theorem dX9_house_78 : decode cX9_house 78 = .ok (.ireturn, 1) := dc_Bk (by decide +kernel)
theorem dX9_house_79 : decode cX9_house 79 = .ok (.ldc 87, 2) := dc_Bk (by decide +kernel)
theorem dX9_house_81 : decode cX9_house 81 = .ok (.ireturn, 1) := dc_Bk (by decide +kernel)
set_option maxRecDepth 20000 in
theorem ggX9_sleeper_X8_has : GoodIn wsX9_sleeper wsX8_has := goodIn_r _ [9, 10, 36, 37, 38, 39, 40] rfl (by decide +kernel)
set_option maxRecDepth 20000 in
theorem gX9_sleeper_X8_has : GoodIn wsX9_sleeper (wsV RX9 143 RX8 yX8_has wsX8_has) := goodIn_app (goodIn_of _ (by decide +kernel)) ggX9_sleeper_X8_has
set_option maxRecDepth 20000 in
theorem ggX9_sleeper_X8_part : GoodIn wsX9_sleeper wsX8_part := goodIn_r _ [14, 15, 16, 6, 7, 8, 9, 10, 36, 37, 38, 39, 40] rfl (by decide +kernel)
set_option maxRecDepth 20000 in
theorem gX9_sleeper_X8_part : GoodIn wsX9_sleeper (wsV RX9 148 RX8 yX8_part wsX8_part) := goodIn_app (goodIn_of _ (by decide +kernel)) ggX9_sleeper_X8_part
set_option maxRecDepth 20000 in
theorem ggX9_sleeper_X2_matterOf : GoodIn wsX9_sleeper wsX2_matterOf := goodIn_r _ [21, 22, 41, 42, 43, 44, 45, 46, 47, 48, 49, 50] rfl (by decide +kernel)
set_option maxRecDepth 20000 in
theorem gX9_sleeper_X2_matterOf : GoodIn wsX9_sleeper (wsV RX9 156 RX2 yX2_matterOf wsX2_matterOf) := goodIn_app (goodIn_of _ (by decide +kernel)) ggX9_sleeper_X2_matterOf
theorem dX9_sleeper_0 : decode cX9_sleeper 0 = .ok (.aload_n 0, 1) := dc_Bk (by decide +kernel)
theorem dX9_sleeper_1 : decode cX9_sleeper 1 = .ok (.getfield 41, 3) := dc_Bk (by decide +kernel)
theorem dX9_sleeper_4 : decode cX9_sleeper 4 = .ok (.iconst 1, 1) := dc_Bk (by decide +kernel)
theorem dX9_sleeper_5 : decode cX9_sleeper 5 = .ok (.iload_n 1, 1) := dc_Bk (by decide +kernel)
theorem dX9_sleeper_6 : decode cX9_sleeper 6 = .ok (.invokevirtual 143, 3) := dc_Bk (by decide +kernel)
theorem dX9_sleeper_9 : decode cX9_sleeper 9 = .ok (.ifCond .ne 6, 3) := dc_Bk (by decide +kernel)
theorem dX9_sleeper_12 : decode cX9_sleeper 12 = .ok (.ldc 147, 2) := dc_Bk (by decide +kernel)
theorem dX9_sleeper_14 : decode cX9_sleeper 14 = .ok (.ireturn, 1) := dc_Bk (by decide +kernel)
theorem dX9_sleeper_15 : decode cX9_sleeper 15 = .ok (.iload_n 2, 1) := dc_Bk (by decide +kernel)
theorem dX9_sleeper_16 : decode cX9_sleeper 16 = .ok (.tableswitch 74 0 3 #[32, 43, 54, 65], 32) := dc_Bk (by decide +kernel)
theorem dX9_sleeper_48 : decode cX9_sleeper 48 = .ok (.aload_n 0, 1) := dc_Bk (by decide +kernel)
theorem dX9_sleeper_49 : decode cX9_sleeper 49 = .ok (.getfield 41, 3) := dc_Bk (by decide +kernel)
theorem dX9_sleeper_52 : decode cX9_sleeper 52 = .ok (.iconst 1, 1) := dc_Bk (by decide +kernel)
theorem dX9_sleeper_53 : decode cX9_sleeper 53 = .ok (.iload_n 1, 1) := dc_Bk (by decide +kernel)
theorem dX9_sleeper_54 : decode cX9_sleeper 54 = .ok (.iconst 0, 1) := dc_Bk (by decide +kernel)
theorem dX9_sleeper_55 : decode cX9_sleeper 55 = .ok (.invokevirtual 148, 3) := dc_Bk (by decide +kernel)
theorem dX9_sleeper_58 : decode cX9_sleeper 58 = .ok (.ireturn, 1) := dc_Bk (by decide +kernel)
theorem dX9_sleeper_59 : decode cX9_sleeper 59 = .ok (.aload_n 0, 1) := dc_Bk (by decide +kernel)
theorem dX9_sleeper_60 : decode cX9_sleeper 60 = .ok (.getfield 41, 3) := dc_Bk (by decide +kernel)
theorem dX9_sleeper_63 : decode cX9_sleeper 63 = .ok (.iconst 1, 1) := dc_Bk (by decide +kernel)
theorem dX9_sleeper_64 : decode cX9_sleeper 64 = .ok (.iload_n 1, 1) := dc_Bk (by decide +kernel)
theorem dX9_sleeper_65 : decode cX9_sleeper 65 = .ok (.iconst 1, 1) := dc_Bk (by decide +kernel)
theorem dX9_sleeper_66 : decode cX9_sleeper 66 = .ok (.invokevirtual 148, 3) := dc_Bk (by decide +kernel)
theorem dX9_sleeper_69 : decode cX9_sleeper 69 = .ok (.ireturn, 1) := dc_Bk (by decide +kernel)
theorem dX9_sleeper_70 : decode cX9_sleeper 70 = .ok (.aload_n 0, 1) := dc_Bk (by decide +kernel)
theorem dX9_sleeper_71 : decode cX9_sleeper 71 = .ok (.getfield 41, 3) := dc_Bk (by decide +kernel)
theorem dX9_sleeper_74 : decode cX9_sleeper 74 = .ok (.iconst 1, 1) := dc_Bk (by decide +kernel)
theorem dX9_sleeper_75 : decode cX9_sleeper 75 = .ok (.iload_n 1, 1) := dc_Bk (by decide +kernel)
theorem dX9_sleeper_76 : decode cX9_sleeper 76 = .ok (.iconst 2, 1) := dc_Bk (by decide +kernel)
theorem dX9_sleeper_77 : decode cX9_sleeper 77 = .ok (.invokevirtual 148, 3) := dc_Bk (by decide +kernel)
theorem dX9_sleeper_80 : decode cX9_sleeper 80 = .ok (.ireturn, 1) := dc_Bk (by decide +kernel)
theorem dX9_sleeper_81 : decode cX9_sleeper 81 = .ok (.aload_n 0, 1) := dc_Bk (by decide +kernel)
theorem dX9_sleeper_82 : decode cX9_sleeper 82 = .ok (.getfield 19, 3) := dc_Bk (by decide +kernel)
theorem dX9_sleeper_85 : decode cX9_sleeper 85 = .ok (.iload_n 1, 1) := dc_Bk (by decide +kernel)
theorem dX9_sleeper_86 : decode cX9_sleeper 86 = .ok (.invokevirtual 156, 3) := dc_Bk (by decide +kernel)
theorem dX9_sleeper_89 : decode cX9_sleeper 89 = .ok (.ireturn, 1) := dc_Bk (by decide +kernel)
theorem dX9_sleeper_90 : decode cX9_sleeper 90 = .ok (.ldc 87, 2) := dc_Bk (by decide +kernel)
theorem dX9_sleeper_92 : decode cX9_sleeper 92 = .ok (.ireturn, 1) := dc_Bk (by decide +kernel)
set_option maxRecDepth 20000 in
theorem ggX9_matter_X8_has : GoodIn wsX9_matter wsX8_has := goodIn_r _ [14, 15, 52, 53, 54, 55, 56] rfl (by decide +kernel)
set_option maxRecDepth 20000 in
theorem gX9_matter_X8_has : GoodIn wsX9_matter (wsV RX9 143 RX8 yX8_has wsX8_has) := goodIn_app (goodIn_of _ (by decide +kernel)) ggX9_matter_X8_has
set_option maxRecDepth 20000 in
theorem ggX9_matter_X8_part : GoodIn wsX9_matter wsX8_part := goodIn_r _ [19, 20, 21, 11, 12, 13, 14, 15, 52, 53, 54, 55, 56] rfl (by decide +kernel)
set_option maxRecDepth 20000 in
theorem gX9_matter_X8_part : GoodIn wsX9_matter (wsV RX9 148 RX8 yX8_part wsX8_part) := goodIn_app (goodIn_of _ (by decide +kernel)) ggX9_matter_X8_part
set_option maxRecDepth 20000 in
theorem ggX9_matter_J6_bitCount_0f7a4 : GoodIn wsX9_matter wsJ6_bitCount_0f7a4 := goodIn_r _ [25, 26, 27, 28] rfl (by decide +kernel)
set_option maxRecDepth 20000 in
theorem gX9_matter_J6_bitCount_0f7a4 : GoodIn wsX9_matter (va_wsS RX9 163 yJ6_bitCount_0f7a4 wsJ6_bitCount_0f7a4) := goodIn_app (goodIn_of _ (by decide +kernel)) ggX9_matter_J6_bitCount_0f7a4
theorem dX9_matter_0 : decode cX9_matter 0 = .ok (.aload_n 0, 1) := dc_Bk (by decide +kernel)
theorem dX9_matter_1 : decode cX9_matter 1 = .ok (.getfield 41, 3) := dc_Bk (by decide +kernel)
theorem dX9_matter_4 : decode cX9_matter 4 = .ok (.iconst 3, 1) := dc_Bk (by decide +kernel)
theorem dX9_matter_5 : decode cX9_matter 5 = .ok (.iload_n 1, 1) := dc_Bk (by decide +kernel)
theorem dX9_matter_6 : decode cX9_matter 6 = .ok (.invokevirtual 143, 3) := dc_Bk (by decide +kernel)
theorem dX9_matter_9 : decode cX9_matter 9 = .ok (.ifCond .ne 6, 3) := dc_Bk (by decide +kernel)
theorem dX9_matter_12 : decode cX9_matter 12 = .ok (.ldc 147, 2) := dc_Bk (by decide +kernel)
theorem dX9_matter_14 : decode cX9_matter 14 = .ok (.ireturn, 1) := dc_Bk (by decide +kernel)
theorem dX9_matter_15 : decode cX9_matter 15 = .ok (.iload_n 2, 1) := dc_Bk (by decide +kernel)
theorem dX9_matter_16 : decode cX9_matter 16 = .ok (.tableswitch 163 0 9 #[56, 67, 78, 89, 100, 113, 123, 133, 143, 153], 56) := dc_Bk (by decide +kernel)
theorem dX9_matter_72 : decode cX9_matter 72 = .ok (.aload_n 0, 1) := dc_Bk (by decide +kernel)
theorem dX9_matter_73 : decode cX9_matter 73 = .ok (.getfield 41, 3) := dc_Bk (by decide +kernel)
theorem dX9_matter_76 : decode cX9_matter 76 = .ok (.iconst 3, 1) := dc_Bk (by decide +kernel)
theorem dX9_matter_77 : decode cX9_matter 77 = .ok (.iload_n 1, 1) := dc_Bk (by decide +kernel)
theorem dX9_matter_78 : decode cX9_matter 78 = .ok (.iconst 0, 1) := dc_Bk (by decide +kernel)
theorem dX9_matter_79 : decode cX9_matter 79 = .ok (.invokevirtual 148, 3) := dc_Bk (by decide +kernel)
theorem dX9_matter_82 : decode cX9_matter 82 = .ok (.ireturn, 1) := dc_Bk (by decide +kernel)
theorem dX9_matter_83 : decode cX9_matter 83 = .ok (.aload_n 0, 1) := dc_Bk (by decide +kernel)
theorem dX9_matter_84 : decode cX9_matter 84 = .ok (.getfield 41, 3) := dc_Bk (by decide +kernel)
theorem dX9_matter_87 : decode cX9_matter 87 = .ok (.iconst 3, 1) := dc_Bk (by decide +kernel)
theorem dX9_matter_88 : decode cX9_matter 88 = .ok (.iload_n 1, 1) := dc_Bk (by decide +kernel)
theorem dX9_matter_89 : decode cX9_matter 89 = .ok (.iconst 1, 1) := dc_Bk (by decide +kernel)
theorem dX9_matter_90 : decode cX9_matter 90 = .ok (.invokevirtual 148, 3) := dc_Bk (by decide +kernel)
theorem dX9_matter_93 : decode cX9_matter 93 = .ok (.ireturn, 1) := dc_Bk (by decide +kernel)
theorem dX9_matter_94 : decode cX9_matter 94 = .ok (.aload_n 0, 1) := dc_Bk (by decide +kernel)
theorem dX9_matter_95 : decode cX9_matter 95 = .ok (.getfield 41, 3) := dc_Bk (by decide +kernel)
theorem dX9_matter_98 : decode cX9_matter 98 = .ok (.iconst 3, 1) := dc_Bk (by decide +kernel)
theorem dX9_matter_99 : decode cX9_matter 99 = .ok (.iload_n 1, 1) := dc_Bk (by decide +kernel)
theorem dX9_matter_100 : decode cX9_matter 100 = .ok (.iconst 2, 1) := dc_Bk (by decide +kernel)
theorem dX9_matter_101 : decode cX9_matter 101 = .ok (.invokevirtual 148, 3) := dc_Bk (by decide +kernel)
theorem dX9_matter_104 : decode cX9_matter 104 = .ok (.ireturn, 1) := dc_Bk (by decide +kernel)
theorem dX9_matter_105 : decode cX9_matter 105 = .ok (.aload_n 0, 1) := dc_Bk (by decide +kernel)
theorem dX9_matter_106 : decode cX9_matter 106 = .ok (.getfield 41, 3) := dc_Bk (by decide +kernel)
theorem dX9_matter_109 : decode cX9_matter 109 = .ok (.iconst 3, 1) := dc_Bk (by decide +kernel)
theorem dX9_matter_110 : decode cX9_matter 110 = .ok (.iload_n 1, 1) := dc_Bk (by decide +kernel)
theorem dX9_matter_111 : decode cX9_matter 111 = .ok (.iconst 3, 1) := dc_Bk (by decide +kernel)
theorem dX9_matter_112 : decode cX9_matter 112 = .ok (.invokevirtual 148, 3) := dc_Bk (by decide +kernel)
theorem dX9_matter_115 : decode cX9_matter 115 = .ok (.ireturn, 1) := dc_Bk (by decide +kernel)
theorem dX9_matter_116 : decode cX9_matter 116 = .ok (.aload_n 0, 1) := dc_Bk (by decide +kernel)
theorem dX9_matter_117 : decode cX9_matter 117 = .ok (.getfield 19, 3) := dc_Bk (by decide +kernel)
theorem dX9_matter_120 : decode cX9_matter 120 = .ok (.getfield 159, 3) := dc_Bk (by decide +kernel)
theorem dX9_matter_123 : decode cX9_matter 123 = .ok (.iload_n 1, 1) := dc_Bk (by decide +kernel)
theorem dX9_matter_124 : decode cX9_matter 124 = .ok (.iaload, 1) := dc_Bk (by decide +kernel)
theorem dX9_matter_125 : decode cX9_matter 125 = .ok (.invokestatic 163, 3) := dc_Bk (by decide +kernel)
theorem dX9_matter_128 : decode cX9_matter 128 = .ok (.ireturn, 1) := dc_Bk (by decide +kernel)
theorem dX9_matter_129 : decode cX9_matter 129 = .ok (.aload_n 0, 1) := dc_Bk (by decide +kernel)
theorem dX9_matter_130 : decode cX9_matter 130 = .ok (.getfield 19, 3) := dc_Bk (by decide +kernel)
theorem dX9_matter_133 : decode cX9_matter 133 = .ok (.getfield 168, 3) := dc_Bk (by decide +kernel)
theorem dX9_matter_136 : decode cX9_matter 136 = .ok (.iload_n 1, 1) := dc_Bk (by decide +kernel)
theorem dX9_matter_137 : decode cX9_matter 137 = .ok (.iaload, 1) := dc_Bk (by decide +kernel)
theorem dX9_matter_138 : decode cX9_matter 138 = .ok (.ireturn, 1) := dc_Bk (by decide +kernel)
theorem dX9_matter_139 : decode cX9_matter 139 = .ok (.aload_n 0, 1) := dc_Bk (by decide +kernel)
theorem dX9_matter_140 : decode cX9_matter 140 = .ok (.getfield 19, 3) := dc_Bk (by decide +kernel)
theorem dX9_matter_143 : decode cX9_matter 143 = .ok (.getfield 170, 3) := dc_Bk (by decide +kernel)
theorem dX9_matter_146 : decode cX9_matter 146 = .ok (.iload_n 1, 1) := dc_Bk (by decide +kernel)
theorem dX9_matter_147 : decode cX9_matter 147 = .ok (.iaload, 1) := dc_Bk (by decide +kernel)
theorem dX9_matter_148 : decode cX9_matter 148 = .ok (.ireturn, 1) := dc_Bk (by decide +kernel)
theorem dX9_matter_149 : decode cX9_matter 149 = .ok (.aload_n 0, 1) := dc_Bk (by decide +kernel)
theorem dX9_matter_150 : decode cX9_matter 150 = .ok (.getfield 19, 3) := dc_Bk (by decide +kernel)
theorem dX9_matter_153 : decode cX9_matter 153 = .ok (.getfield 173, 3) := dc_Bk (by decide +kernel)
theorem dX9_matter_156 : decode cX9_matter 156 = .ok (.iload_n 1, 1) := dc_Bk (by decide +kernel)
theorem dX9_matter_157 : decode cX9_matter 157 = .ok (.iaload, 1) := dc_Bk (by decide +kernel)
theorem dX9_matter_158 : decode cX9_matter 158 = .ok (.ireturn, 1) := dc_Bk (by decide +kernel)
theorem dX9_matter_159 : decode cX9_matter 159 = .ok (.aload_n 0, 1) := dc_Bk (by decide +kernel)
theorem dX9_matter_160 : decode cX9_matter 160 = .ok (.getfield 19, 3) := dc_Bk (by decide +kernel)
theorem dX9_matter_163 : decode cX9_matter 163 = .ok (.getfield 159, 3) := dc_Bk (by decide +kernel)
theorem dX9_matter_166 : decode cX9_matter 166 = .ok (.iload_n 1, 1) := dc_Bk (by decide +kernel)
theorem dX9_matter_167 : decode cX9_matter 167 = .ok (.iaload, 1) := dc_Bk (by decide +kernel)
theorem dX9_matter_168 : decode cX9_matter 168 = .ok (.ireturn, 1) := dc_Bk (by decide +kernel)
theorem dX9_matter_169 : decode cX9_matter 169 = .ok (.aload_n 0, 1) := dc_Bk (by decide +kernel)
theorem dX9_matter_170 : decode cX9_matter 170 = .ok (.getfield 19, 3) := dc_Bk (by decide +kernel)
theorem dX9_matter_173 : decode cX9_matter 173 = .ok (.getfield 176, 3) := dc_Bk (by decide +kernel)
theorem dX9_matter_176 : decode cX9_matter 176 = .ok (.iload_n 1, 1) := dc_Bk (by decide +kernel)
theorem dX9_matter_177 : decode cX9_matter 177 = .ok (.iaload, 1) := dc_Bk (by decide +kernel)
theorem dX9_matter_178 : decode cX9_matter 178 = .ok (.ireturn, 1) := dc_Bk (by decide +kernel)
theorem dX9_matter_179 : decode cX9_matter 179 = .ok (.ldc 87, 2) := dc_Bk (by decide +kernel)
theorem dX9_matter_181 : decode cX9_matter 181 = .ok (.ireturn, 1) := dc_Bk (by decide +kernel)
set_option maxRecDepth 20000 in
theorem ggX9_noise_X8_noiseOf : GoodIn wsX9_noise wsX8_noiseOf := goodIn_r _ [7, 8, 22, 23, 24, 25, 26] rfl (by decide +kernel)
set_option maxRecDepth 20000 in
theorem gX9_noise_X8_noiseOf : GoodIn wsX9_noise (wsV RX9 179 RX8 yX8_noiseOf wsX8_noiseOf) := goodIn_app (goodIn_of _ (by decide +kernel)) ggX9_noise_X8_noiseOf
theorem dX9_noise_0 : decode cX9_noise 0 = .ok (.iload_n 1, 1) := dc_Bk (by decide +kernel)
theorem dX9_noise_1 : decode cX9_noise 1 = .ok (.ifCond .lt 19, 3) := dc_Bk (by decide +kernel)
theorem dX9_noise_4 : decode cX9_noise 4 = .ok (.iload_n 1, 1) := dc_Bk (by decide +kernel)
theorem dX9_noise_5 : decode cX9_noise 5 = .ok (.iconst 4, 1) := dc_Bk (by decide +kernel)
theorem dX9_noise_6 : decode cX9_noise 6 = .ok (.if_icmp .ge 14, 3) := dc_Bk (by decide +kernel)
theorem dX9_noise_9 : decode cX9_noise 9 = .ok (.iload_n 2, 1) := dc_Bk (by decide +kernel)
theorem dX9_noise_10 : decode cX9_noise 10 = .ok (.ifCond .lt 10, 3) := dc_Bk (by decide +kernel)
theorem dX9_noise_13 : decode cX9_noise 13 = .ok (.iload_n 2, 1) := dc_Bk (by decide +kernel)
theorem dX9_noise_14 : decode cX9_noise 14 = .ok (.sipush 999, 3) := dc_Bk (by decide +kernel)
theorem dX9_noise_17 : decode cX9_noise 17 = .ok (.if_icmp .le 6, 3) := dc_Bk (by decide +kernel)
theorem dX9_noise_20 : decode cX9_noise 20 = .ok (.ldc 87, 2) := dc_Bk (by decide +kernel)
theorem dX9_noise_22 : decode cX9_noise 22 = .ok (.ireturn, 1) := dc_Bk (by decide +kernel)
theorem dX9_noise_23 : decode cX9_noise 23 = .ok (.aload_n 0, 1) := dc_Bk (by decide +kernel)
theorem dX9_noise_24 : decode cX9_noise 24 = .ok (.getfield 41, 3) := dc_Bk (by decide +kernel)
theorem dX9_noise_27 : decode cX9_noise 27 = .ok (.iload_n 1, 1) := dc_Bk (by decide +kernel)
theorem dX9_noise_28 : decode cX9_noise 28 = .ok (.iload_n 2, 1) := dc_Bk (by decide +kernel)
theorem dX9_noise_29 : decode cX9_noise 29 = .ok (.invokevirtual 179, 3) := dc_Bk (by decide +kernel)
theorem dX9_noise_32 : decode cX9_noise 32 = .ok (.ireturn, 1) := dc_Bk (by decide +kernel)
set_option maxRecDepth 20000 in
theorem ggX9_let_X8_has : GoodIn wsX9_let wsX8_has := goodIn_r _ [8, 9, 45, 46, 47, 48, 49] rfl (by decide +kernel)
set_option maxRecDepth 20000 in
theorem gX9_let_X8_has : GoodIn wsX9_let (wsV RX9 143 RX8 yX8_has wsX8_has) := goodIn_app (goodIn_of _ (by decide +kernel)) ggX9_let_X8_has
set_option maxRecDepth 20000 in
theorem ggX9_let_X8_calmHouses : GoodIn wsX9_let wsX8_calmHouses := goodIn_r _ [13, 14, 15, 5, 6, 7, 8, 9, 45, 46, 47, 48, 49] rfl (by decide +kernel)
set_option maxRecDepth 20000 in
theorem gX9_let_X8_calmHouses : GoodIn wsX9_let (wsV RX9 259 RX8 yX8_calmHouses wsX8_calmHouses) := goodIn_app (goodIn_of _ (by decide +kernel)) ggX9_let_X8_calmHouses
set_option maxRecDepth 20000 in
theorem ggX9_let_X8_bedsOf : GoodIn wsX9_let wsX8_bedsOf := goodIn_r _ [19, 9, 20, 21, 22, 23, 24, 25, 7, 26, 27, 15, 5, 6, 8, 45, 46, 47, 48, 49] rfl (by decide +kernel)
set_option maxRecDepth 20000 in
theorem gX9_let_X8_bedsOf : GoodIn wsX9_let (wsV RX9 262 RX8 yX8_bedsOf wsX8_bedsOf) := goodIn_app (goodIn_of _ (by decide +kernel)) ggX9_let_X8_bedsOf
set_option maxRecDepth 20000 in
theorem ggX9_let_X8_roomiestOf : GoodIn wsX9_let wsX8_roomiestOf := goodIn_r _ [31, 9, 20, 21, 22, 23, 24, 25, 7, 26, 27, 15, 5, 6, 8, 45, 46, 47, 48, 49] rfl (by decide +kernel)
set_option maxRecDepth 20000 in
theorem gX9_let_X8_roomiestOf : GoodIn wsX9_let (wsV RX9 265 RX8 yX8_roomiestOf wsX8_roomiestOf) := goodIn_app (goodIn_of _ (by decide +kernel)) ggX9_let_X8_roomiestOf
theorem dX9_let_0 : decode cX9_let 0 = .ok (.aload_n 0, 1) := dc_Bk (by decide +kernel)
theorem dX9_let_1 : decode cX9_let 1 = .ok (.getfield 41, 3) := dc_Bk (by decide +kernel)
theorem dX9_let_4 : decode cX9_let 4 = .ok (.iconst 1, 1) := dc_Bk (by decide +kernel)
theorem dX9_let_5 : decode cX9_let 5 = .ok (.iload_n 1, 1) := dc_Bk (by decide +kernel)
theorem dX9_let_6 : decode cX9_let 6 = .ok (.invokevirtual 143, 3) := dc_Bk (by decide +kernel)
theorem dX9_let_9 : decode cX9_let 9 = .ok (.ifCond .ne 6, 3) := dc_Bk (by decide +kernel)
theorem dX9_let_12 : decode cX9_let 12 = .ok (.ldc 147, 2) := dc_Bk (by decide +kernel)
theorem dX9_let_14 : decode cX9_let 14 = .ok (.ireturn, 1) := dc_Bk (by decide +kernel)
theorem dX9_let_15 : decode cX9_let 15 = .ok (.iload_n 2, 1) := dc_Bk (by decide +kernel)
theorem dX9_let_16 : decode cX9_let 16 = .ok (.ifCond .lt 18, 3) := dc_Bk (by decide +kernel)
theorem dX9_let_19 : decode cX9_let 19 = .ok (.iload_n 2, 1) := dc_Bk (by decide +kernel)
theorem dX9_let_20 : decode cX9_let 20 = .ok (.bipush 99, 2) := dc_Bk (by decide +kernel)
theorem dX9_let_22 : decode cX9_let 22 = .ok (.if_icmp .gt 12, 3) := dc_Bk (by decide +kernel)
theorem dX9_let_25 : decode cX9_let 25 = .ok (.iload_n 3, 1) := dc_Bk (by decide +kernel)
theorem dX9_let_26 : decode cX9_let 26 = .ok (.ifCond .lt 8, 3) := dc_Bk (by decide +kernel)
theorem dX9_let_29 : decode cX9_let 29 = .ok (.iload_n 3, 1) := dc_Bk (by decide +kernel)
theorem dX9_let_30 : decode cX9_let 30 = .ok (.iconst 1, 1) := dc_Bk (by decide +kernel)
theorem dX9_let_31 : decode cX9_let 31 = .ok (.if_icmp .le 6, 3) := dc_Bk (by decide +kernel)
theorem dX9_let_34 : decode cX9_let 34 = .ok (.ldc 87, 2) := dc_Bk (by decide +kernel)
theorem dX9_let_36 : decode cX9_let 36 = .ok (.ireturn, 1) := dc_Bk (by decide +kernel)
theorem dX9_let_37 : decode cX9_let 37 = .ok (.aload_n 0, 1) := dc_Bk (by decide +kernel)
theorem dX9_let_38 : decode cX9_let 38 = .ok (.getfield 41, 3) := dc_Bk (by decide +kernel)
theorem dX9_let_41 : decode cX9_let 41 = .ok (.iload_n 1, 1) := dc_Bk (by decide +kernel)
theorem dX9_let_42 : decode cX9_let 42 = .ok (.iload_n 2, 1) := dc_Bk (by decide +kernel)
theorem dX9_let_43 : decode cX9_let 43 = .ok (.invokevirtual 259, 3) := dc_Bk (by decide +kernel)
theorem dX9_let_46 : decode cX9_let 46 = .ok (.istore 4, 2) := dc_Bk (by decide +kernel)
theorem dX9_let_48 : decode cX9_let 48 = .ok (.iload_n 3, 1) := dc_Bk (by decide +kernel)
theorem dX9_let_49 : decode cX9_let 49 = .ok (.ifCond .ne 15, 3) := dc_Bk (by decide +kernel)
theorem dX9_let_52 : decode cX9_let 52 = .ok (.aload_n 0, 1) := dc_Bk (by decide +kernel)
theorem dX9_let_53 : decode cX9_let 53 = .ok (.getfield 41, 3) := dc_Bk (by decide +kernel)
theorem dX9_let_56 : decode cX9_let 56 = .ok (.iload 4, 2) := dc_Bk (by decide +kernel)
theorem dX9_let_58 : decode cX9_let 58 = .ok (.invokevirtual 262, 3) := dc_Bk (by decide +kernel)
theorem dX9_let_61 : decode cX9_let 61 = .ok (.goto 12, 3) := dc_Bk (by decide +kernel)
theorem dX9_let_64 : decode cX9_let 64 = .ok (.aload_n 0, 1) := dc_Bk (by decide +kernel)
theorem dX9_let_65 : decode cX9_let 65 = .ok (.getfield 41, 3) := dc_Bk (by decide +kernel)
theorem dX9_let_68 : decode cX9_let 68 = .ok (.iload 4, 2) := dc_Bk (by decide +kernel)
theorem dX9_let_70 : decode cX9_let 70 = .ok (.invokevirtual 265, 3) := dc_Bk (by decide +kernel)
theorem dX9_let_73 : decode cX9_let 73 = .ok (.ireturn, 1) := dc_Bk (by decide +kernel)
set_option maxRecDepth 20000 in
theorem ggX9_judge_X8_has : GoodIn wsX9_judge wsX8_has := goodIn_r _ [8, 9, 51, 52, 53, 54, 55] rfl (by decide +kernel)
set_option maxRecDepth 20000 in
theorem gX9_judge_X8_has : GoodIn wsX9_judge (wsV RX9 143 RX8 yX8_has wsX8_has) := goodIn_app (goodIn_of _ (by decide +kernel)) ggX9_judge_X8_has
set_option maxRecDepth 20000 in
theorem ggX9_judge_X8_part : GoodIn wsX9_judge wsX8_part := goodIn_r _ [13, 14, 15, 5, 6, 7, 8, 9, 51, 52, 53, 54, 55] rfl (by decide +kernel)
set_option maxRecDepth 20000 in
theorem gX9_judge_X8_part : GoodIn wsX9_judge (wsV RX9 148 RX8 yX8_part wsX8_part) := goodIn_app (goodIn_of _ (by decide +kernel)) ggX9_judge_X8_part
set_option maxRecDepth 20000 in
theorem ggX9_judge_X0_firstWrong : GoodIn wsX9_judge wsX0_firstWrong := goodIn_r _ [20, 21, 22, 23, 24, 25, 26, 27, 28, 29, 30, 7, 31, 32, 11, 12, 13, 14, 15, 5, 6, 8, 9, 33, 34, 35, 36, 37, 56, 57, 58, 59, 51, 52, 53, 54, 55] rfl (by decide +kernel)
set_option maxRecDepth 20000 in
theorem gX9_judge_X0_firstWrong : GoodIn wsX9_judge (wsV RX9 270 RX0 yX0_firstWrong wsX0_firstWrong) := goodIn_app (goodIn_of _ (by decide +kernel)) ggX9_judge_X0_firstWrong
theorem dX9_judge_0 : decode cX9_judge 0 = .ok (.aload_n 0, 1) := dc_Bk (by decide +kernel)
theorem dX9_judge_1 : decode cX9_judge 1 = .ok (.getfield 41, 3) := dc_Bk (by decide +kernel)
theorem dX9_judge_4 : decode cX9_judge 4 = .ok (.iconst 3, 1) := dc_Bk (by decide +kernel)
theorem dX9_judge_5 : decode cX9_judge 5 = .ok (.iload_n 1, 1) := dc_Bk (by decide +kernel)
theorem dX9_judge_6 : decode cX9_judge 6 = .ok (.invokevirtual 143, 3) := dc_Bk (by decide +kernel)
theorem dX9_judge_9 : decode cX9_judge 9 = .ok (.ifCond .ne 6, 3) := dc_Bk (by decide +kernel)
theorem dX9_judge_12 : decode cX9_judge 12 = .ok (.ldc 147, 2) := dc_Bk (by decide +kernel)
theorem dX9_judge_14 : decode cX9_judge 14 = .ok (.ireturn, 1) := dc_Bk (by decide +kernel)
theorem dX9_judge_15 : decode cX9_judge 15 = .ok (.aload_n 0, 1) := dc_Bk (by decide +kernel)
theorem dX9_judge_16 : decode cX9_judge 16 = .ok (.getfield 34, 3) := dc_Bk (by decide +kernel)
theorem dX9_judge_19 : decode cX9_judge 19 = .ok (.aload_n 0, 1) := dc_Bk (by decide +kernel)
theorem dX9_judge_20 : decode cX9_judge 20 = .ok (.getfield 41, 3) := dc_Bk (by decide +kernel)
theorem dX9_judge_23 : decode cX9_judge 23 = .ok (.aload_n 0, 1) := dc_Bk (by decide +kernel)
theorem dX9_judge_24 : decode cX9_judge 24 = .ok (.getfield 41, 3) := dc_Bk (by decide +kernel)
theorem dX9_judge_27 : decode cX9_judge 27 = .ok (.iconst 3, 1) := dc_Bk (by decide +kernel)
theorem dX9_judge_28 : decode cX9_judge 28 = .ok (.iload_n 1, 1) := dc_Bk (by decide +kernel)
theorem dX9_judge_29 : decode cX9_judge 29 = .ok (.iconst 0, 1) := dc_Bk (by decide +kernel)
theorem dX9_judge_30 : decode cX9_judge 30 = .ok (.invokevirtual 148, 3) := dc_Bk (by decide +kernel)
theorem dX9_judge_33 : decode cX9_judge 33 = .ok (.invokevirtual 270, 3) := dc_Bk (by decide +kernel)
theorem dX9_judge_36 : decode cX9_judge 36 = .ok (.ireturn, 1) := dc_Bk (by decide +kernel)
set_option maxRecDepth 20000 in
theorem ggX9_write_X8_has : GoodIn wsX9_write wsX8_has := goodIn_r _ [11, 12, 39, 40, 41, 42, 43] rfl (by decide +kernel)
set_option maxRecDepth 20000 in
theorem gX9_write_X8_has : GoodIn wsX9_write (wsV RX9 143 RX8 yX8_has wsX8_has) := goodIn_app (goodIn_of _ (by decide +kernel)) ggX9_write_X8_has
set_option maxRecDepth 20000 in
theorem ggX9_write_X0_add : GoodIn wsX9_write wsX0_add := goodIn_r _ [17, 18, 19, 20, 21, 35, 36, 37, 38] rfl (by decide +kernel)
set_option maxRecDepth 20000 in
theorem gX9_write_X0_add : GoodIn wsX9_write (wsV RX9 268 RX0 yX0_add wsX0_add) := goodIn_app (goodIn_of _ (by decide +kernel)) ggX9_write_X0_add
theorem dX9_write_0 : decode cX9_write 0 = .ok (.aload_n 0, 1) := dc_Bk (by decide +kernel)
theorem dX9_write_1 : decode cX9_write 1 = .ok (.getfield 41, 3) := dc_Bk (by decide +kernel)
theorem dX9_write_4 : decode cX9_write 4 = .ok (.iconst 1, 1) := dc_Bk (by decide +kernel)
theorem dX9_write_5 : decode cX9_write 5 = .ok (.iload_n 2, 1) := dc_Bk (by decide +kernel)
theorem dX9_write_6 : decode cX9_write 6 = .ok (.invokevirtual 143, 3) := dc_Bk (by decide +kernel)
theorem dX9_write_9 : decode cX9_write 9 = .ok (.ifCond .eq 15, 3) := dc_Bk (by decide +kernel)
theorem dX9_write_12 : decode cX9_write 12 = .ok (.aload_n 0, 1) := dc_Bk (by decide +kernel)
theorem dX9_write_13 : decode cX9_write 13 = .ok (.getfield 41, 3) := dc_Bk (by decide +kernel)
theorem dX9_write_16 : decode cX9_write 16 = .ok (.iconst 0, 1) := dc_Bk (by decide +kernel)
theorem dX9_write_17 : decode cX9_write 17 = .ok (.iload_n 3, 1) := dc_Bk (by decide +kernel)
theorem dX9_write_18 : decode cX9_write 18 = .ok (.invokevirtual 143, 3) := dc_Bk (by decide +kernel)
theorem dX9_write_21 : decode cX9_write 21 = .ok (.ifCond .ne 6, 3) := dc_Bk (by decide +kernel)
theorem dX9_write_24 : decode cX9_write 24 = .ok (.ldc 147, 2) := dc_Bk (by decide +kernel)
theorem dX9_write_26 : decode cX9_write 26 = .ok (.ireturn, 1) := dc_Bk (by decide +kernel)
theorem dX9_write_27 : decode cX9_write 27 = .ok (.iload_n 1, 1) := dc_Bk (by decide +kernel)
theorem dX9_write_28 : decode cX9_write 28 = .ok (.ifCond .lt 10, 3) := dc_Bk (by decide +kernel)
theorem dX9_write_31 : decode cX9_write 31 = .ok (.iload_n 1, 1) := dc_Bk (by decide +kernel)
theorem dX9_write_32 : decode cX9_write 32 = .ok (.sipush 999, 3) := dc_Bk (by decide +kernel)
theorem dX9_write_35 : decode cX9_write 35 = .ok (.if_icmp .le 6, 3) := dc_Bk (by decide +kernel)
theorem dX9_write_38 : decode cX9_write 38 = .ok (.ldc 87, 2) := dc_Bk (by decide +kernel)
theorem dX9_write_40 : decode cX9_write 40 = .ok (.ireturn, 1) := dc_Bk (by decide +kernel)
theorem dX9_write_41 : decode cX9_write 41 = .ok (.aload_n 0, 1) := dc_Bk (by decide +kernel)
theorem dX9_write_42 : decode cX9_write 42 = .ok (.getfield 34, 3) := dc_Bk (by decide +kernel)
theorem dX9_write_45 : decode cX9_write 45 = .ok (.getfield 114, 3) := dc_Bk (by decide +kernel)
theorem dX9_write_48 : decode cX9_write 48 = .ok (.bipush 20, 2) := dc_Bk (by decide +kernel)
theorem dX9_write_50 : decode cX9_write 50 = .ok (.if_icmp .lt 6, 3) := dc_Bk (by decide +kernel)
theorem dX9_write_53 : decode cX9_write 53 = .ok (.ldc 91, 2) := dc_Bk (by decide +kernel)
theorem dX9_write_55 : decode cX9_write 55 = .ok (.ireturn, 1) := dc_Bk (by decide +kernel)
theorem dX9_write_56 : decode cX9_write 56 = .ok (.aload_n 0, 1) := dc_Bk (by decide +kernel)
theorem dX9_write_57 : decode cX9_write 57 = .ok (.getfield 34, 3) := dc_Bk (by decide +kernel)
theorem dX9_write_60 : decode cX9_write 60 = .ok (.iload_n 1, 1) := dc_Bk (by decide +kernel)
theorem dX9_write_61 : decode cX9_write 61 = .ok (.iload_n 2, 1) := dc_Bk (by decide +kernel)
theorem dX9_write_62 : decode cX9_write 62 = .ok (.iload_n 3, 1) := dc_Bk (by decide +kernel)
theorem dX9_write_63 : decode cX9_write 63 = .ok (.invokevirtual 268, 3) := dc_Bk (by decide +kernel)
theorem dX9_write_66 : decode cX9_write 66 = .ok (.aload_n 0, 1) := dc_Bk (by decide +kernel)
theorem dX9_write_67 : decode cX9_write 67 = .ok (.getfield 34, 3) := dc_Bk (by decide +kernel)
theorem dX9_write_70 : decode cX9_write 70 = .ok (.getfield 114, 3) := dc_Bk (by decide +kernel)
theorem dX9_write_73 : decode cX9_write 73 = .ok (.ireturn, 1) := dc_Bk (by decide +kernel)
theorem dX9_tear_0 : decode cX9_tear 0 = .ok (.aload_n 0, 1) := dc_Bk (by decide +kernel)
theorem dX9_tear_1 : decode cX9_tear 1 = .ok (.getfield 34, 3) := dc_Bk (by decide +kernel)
theorem dX9_tear_4 : decode cX9_tear 4 = .ok (.getfield 114, 3) := dc_Bk (by decide +kernel)
theorem dX9_tear_7 : decode cX9_tear 7 = .ok (.istore_n 1, 1) := dc_Bk (by decide +kernel)
theorem dX9_tear_8 : decode cX9_tear 8 = .ok (.aload_n 0, 1) := dc_Bk (by decide +kernel)
theorem dX9_tear_9 : decode cX9_tear 9 = .ok (.getfield 34, 3) := dc_Bk (by decide +kernel)
theorem dX9_tear_12 : decode cX9_tear 12 = .ok (.iconst 0, 1) := dc_Bk (by decide +kernel)
theorem dX9_tear_13 : decode cX9_tear 13 = .ok (.putfield 114, 3) := dc_Bk (by decide +kernel)
theorem dX9_tear_16 : decode cX9_tear 16 = .ok (.iload_n 1, 1) := dc_Bk (by decide +kernel)
theorem dX9_tear_17 : decode cX9_tear 17 = .ok (.ireturn, 1) := dc_Bk (by decide +kernel)
theorem dX9_seed_0 : decode cX9_seed 0 = .ok (.iload_n 1, 1) := dc_Bk (by decide +kernel)
theorem dX9_seed_1 : decode cX9_seed 1 = .ok (.ifCond .ge 6, 3) := dc_Bk (by decide +kernel)
theorem dX9_seed_4 : decode cX9_seed 4 = .ok (.ldc 87, 2) := dc_Bk (by decide +kernel)
theorem dX9_seed_6 : decode cX9_seed 6 = .ok (.ireturn, 1) := dc_Bk (by decide +kernel)
theorem dX9_seed_7 : decode cX9_seed 7 = .ok (.aload_n 0, 1) := dc_Bk (by decide +kernel)
theorem dX9_seed_8 : decode cX9_seed 8 = .ok (.getfield 19, 3) := dc_Bk (by decide +kernel)
theorem dX9_seed_11 : decode cX9_seed 11 = .ok (.getfield 273, 3) := dc_Bk (by decide +kernel)
theorem dX9_seed_14 : decode cX9_seed 14 = .ok (.istore_n 2, 1) := dc_Bk (by decide +kernel)
theorem dX9_seed_15 : decode cX9_seed 15 = .ok (.aload_n 0, 1) := dc_Bk (by decide +kernel)
theorem dX9_seed_16 : decode cX9_seed 16 = .ok (.getfield 19, 3) := dc_Bk (by decide +kernel)
theorem dX9_seed_19 : decode cX9_seed 19 = .ok (.iload_n 1, 1) := dc_Bk (by decide +kernel)
theorem dX9_seed_20 : decode cX9_seed 20 = .ok (.putfield 273, 3) := dc_Bk (by decide +kernel)
theorem dX9_seed_23 : decode cX9_seed 23 = .ok (.iload_n 2, 1) := dc_Bk (by decide +kernel)
theorem dX9_seed_24 : decode cX9_seed 24 = .ok (.ireturn, 1) := dc_Bk (by decide +kernel)
theorem has_n {n : Nat} {i : Int32} (hn : n ≤ 20) (h : ¬ hs n i = 0) : ∃ a : Nat, a < n ∧ i = nI a := hs_ne (by omega) h
theorem ix2 {i : Int32} (h0 : ¬ i < 0) (h1 : i < 2) : i = 0 ∨ i = 1 := by
  obtain ⟨j, hj, rfl⟩ := nI_of h0
  have h2 : j < 2 := (nI_ltI (b := 2) hj (by decide)).mp h1
  rcases j with _ | _ | j
  · exact Or.inl rfl
  · exact Or.inr rfl
  · omega
theorem rg_n {x : Int32} {lo hi : Nat} (h0 : ¬ x < nI lo) (h1 : x ≤ nI hi) (hl : lo < 2 ^ 31) (hh : hi < 2 ^ 31) : ∃ j : Nat, lo ≤ j ∧ j ≤ hi ∧ x = nI j := by
  have h3 : nI lo ≤ x := Int32.not_lt.mp h0
  have h2 : ¬ x < 0 := fun q => absurd (Int32.lt_of_le_of_lt h3 q) (nI_pos hl)
  obtain ⟨j, hj, rfl⟩ := nI_of h2
  exact ⟨j, (nI_leI hl hj).mp h3, (nI_leI hj hh).mp h1, rfl⟩
def wrS (s9 h9 : Nat) (dy sa sh : Int32) (b b9 : Nat) (r : Int32) (bd bs bh bd9 bs9 bh9 : Nat → Int32) : Prop := (b9 = b ∧ bd9 = bd ∧ bs9 = bs ∧ bh9 = bh ∧ (((hs s9 sa = 0 ∨ hs h9 sh = 0) ∧ r = -1000000001) ∨ ((¬ hs s9 sa = 0 ∧ ¬ hs h9 sh = 0) ∧ ((dy < 0 ∨ 999 < dy) ∧ r = -1000000002 ∨ (¬ dy < 0 ∧ dy ≤ 999) ∧ 20 ≤ b ∧ r = -1000000004)))) ∨ ((¬ hs s9 sa = 0 ∧ ¬ hs h9 sh = 0) ∧ (¬ dy < 0 ∧ dy ≤ 999) ∧ b < 20 ∧ r = nI (b + 1) ∧ b9 = b + 1 ∧ bd9 = upd bd b dy ∧ bs9 = upd bs b sa ∧ bh9 = upd bh b sh)
def kpS (ia : Int32) (kz kz9 : Nat → Int32) (da da9 db db9 dy : Nat) : Prop := ((ia < 0 ∨ 2 ≤ ia) ∧ kz9 = kz ∧ da9 = da ∧ db9 = db) ∨ (ia = 0 ∧ kz9 = upd kz 0 (vp_nar .boolean 1) ∧ da9 = dy ∧ db9 = db) ∨ (ia = 1 ∧ kz9 = upd kz 1 (vp_nar .boolean 1) ∧ da9 = da ∧ db9 = dy)
def gbS (ia : Int32) (kz : Nat → Int32) (r : Int32) (dy dy9 da db : Nat) : Prop := ((ia < 0 ∨ 2 ≤ ia) ∧ r = -1000000001 ∧ dy9 = dy) ∨ (ia = 0 ∧ ((kz 0 = 0 ∧ r = -1000000003 ∧ dy9 = dy) ∨ (¬ kz 0 = 0 ∧ r = 1 ∧ dy9 = da))) ∨ (ia = 1 ∧ ((kz 1 = 0 ∧ r = -1000000003 ∧ dy9 = dy) ∨ (¬ kz 1 = 0 ∧ r = 1 ∧ dy9 = db)))
def rnS (ia : Int32) (dy dy9 : Nat) : Prop := ((ia < 1 ∨ 100 < ia) ∧ dy9 = dy) ∨ (∃ nq : Nat, ia = nI nq ∧ 1 ≤ nq ∧ nq ≤ 100 ∧ dy9 = dy + nq)
def tdL (hi : Int) (l : List Int32) (wt : Int32) : Int32 := if wt.toInt < 0 ∨ hi < wt.toInt then -1000000002 else l.getD wt.toNatClampNeg 0
def dnF (n : Nat) (x v : Int32) : Int32 := if hs n x = 0 then -1000000001 else v
def lyS (q : Nat → Nat) (G0 G3 f0 f1 f3 f5 f6 g5 g6 : Nat → Int32) (dy : Nat) (m sa sh r : Int32) : Prop := (g5 = f5 ∧ g6 = f6 ∧ (((hs (q 3) m = 0 ∨ hs (q 1) sa = 0 ∨ hs (q 0) sh = 0) ∧ r = -1000000001) ∨ (∃ j : Nat, j < q 3 ∧ m = nI j ∧ ¬ hs (q 1) sa = 0 ∧ ¬ hs (q 0) sh = 0 ∧ (imf (f3 j) (f5 j) (nI dy) (pt (q 3) G3 (nI j) 0) = 0 ∨ isf (f0 j) sa (mof f5 sa) = 0 ∨ ihf (f1 j) sh (bfr (pt (q 0) G0 sh 1) f6 sh) = 0) ∧ r = -1000000003))) ∨ (∃ j : Nat, j < q 3 ∧ m = nI j ∧ ¬ hs (q 1) sa = 0 ∧ ¬ hs (q 0) sh = 0 ∧ ¬ imf (f3 j) (f5 j) (nI dy) (pt (q 3) G3 (nI j) 0) = 0 ∧ ¬ isf (f0 j) sa (mof f5 sa) = 0 ∧ ¬ ihf (f1 j) sh (bfr (pt (q 0) G0 sh 1) f6 sh) = 0 ∧ g5 = upd f5 j sa ∧ g6 = upd f6 j sh ∧ r = ltn g5)
def riS (q : Nat → Nat) (f5 f6 g5 g6 : Nat → Int32) (m r : Int32) : Prop := (g5 = f5 ∧ g6 = f6 ∧ ((hs (q 3) m = 0 ∧ r = -1000000001) ∨ (∃ j : Nat, j < q 3 ∧ m = nI j ∧ f5 j = -1 ∧ r = -1000000003))) ∨ (∃ j : Nat, j < q 3 ∧ m = nI j ∧ ¬ f5 j = -1 ∧ r = f5 j ∧ g5 = upd f5 j (-1) ∧ g6 = upd f6 j (-1))
def sdS (ia sd sd9 r : Int32) : Prop := (ia < 0 ∧ r = -1000000002 ∧ sd9 = sd) ∨ (¬ ia < 0 ∧ r = sd ∧ sd9 = ia)
def nsA (lf : Nat → Int32) (a b : Int32) : Int32 := if a < 0 ∨ 4 ≤ a ∨ b < 0 ∨ 999 < b then -1000000002 else noZ lf a b
def ltA (s9 h9 : Nat) (G0 : Nat → Int32) (cs ia ib ic : Int32) : Int32 := if hs s9 ia = 0 then -1000000001 else if ib < 0 ∨ 99 < ib ∨ ic < 0 ∨ 1 < ic then -1000000002 else if ic = 0 then bdS G0 cs h9 else rmS h9 G0 cs h9
def jdA (m9 : Nat) (v ia : Int32) : Int32 := if hs m9 ia = 0 then -1000000001 else v
def img2 (a b : Nat) : Nat → Option Nat := va_up (va_up (fun _ => none) 0 (some a)) 1 (some b)
def kpA (i : Int32) : Int32 := if i < 0 then (-1000000001) else if 2 ≤ i then (-1000000001) else 1

abbrev c_X9_feed (k : Nat → ClassId) (h : Nat) (tx : Nat) (co : Nat) (im : Nat) (ik : Nat) (bo : Nat) (rs : Nat) (pl : Nat) (ch : Nat) (pa : Nat) (pb : Nat) (lw : Nat) (lv : Nat) (fb : Int32) (qb : Nat) (n : Nat) (v2 : Int32) (v3 : Int32) (v4 : Int32) (v5 : Int32) (v6 : Int32) (v7 : Int32) (f : Nat → Int32) (fn : Int32) (pk : Int64) : va_W := [(h, .inr (9, [.ref tx, .ref co, .ref im, .ref ik, .ref bo, .ref rs, .ref pl, .ref ch, .ref pa, .ref pb, .ref lw, .ref lv, .int fb])), (tx, .inr (7, [.ref qb, .int (nI n), .int v2, .int v3, .int v4, .int v5, .int v6, .int v7])), (qb, .inl (k 0, 500, .inl f))]
abbrev r_X9_feed : Room := { frames := 1, cells := 0, slots := 0, locals := 24 }
def w_X9_feed (k : Nat → ClassId) (h : Nat) (tx : Nat) (co : Nat) (im : Nat) (ik : Nat) (bo : Nat) (rs : Nat) (pl : Nat) (ch : Nat) (pa : Nat) (pb : Nat) (lw : Nat) (lv : Nat) (fb : Int32) (qb : Nat) (n : Nat) (v2 : Int32) (v3 : Int32) (v4 : Int32) (v5 : Int32) (v6 : Int32) (v7 : Int32) (f : Nat → Int32) (fn : Int32) (pk : Int64) : Nat × (Nat → Int32) → va_W := fun u => match u with | (n9, f9) => [(h, .inr (9, [.ref tx, .ref co, .ref im, .ref ik, .ref bo, .ref rs, .ref pl, .ref ch, .ref pa, .ref pb, .ref lw, .ref lv, .int fb])), (tx, .inr (7, [.ref qb, .int (nI n9), .int v2, .int v3, .int v4, .int v5, .int v6, .int v7])), (qb, .inl (k 0, 500, .inl f9))]
def p_X9_feed (k : Nat → ClassId) (h : Nat) (tx : Nat) (co : Nat) (im : Nat) (ik : Nat) (bo : Nat) (rs : Nat) (pl : Nat) (ch : Nat) (pa : Nat) (pb : Nat) (lw : Nat) (lv : Nat) (fb : Int32) (qb : Nat) (n : Nat) (v2 : Int32) (v3 : Int32) (v4 : Int32) (v5 : Int32) (v6 : Int32) (v7 : Int32) (f : Nat → Int32) (fn : Int32) (pk : Int64) : Int32 → Nat × (Nat → Int32) → Prop := fun (r : Int32) (u : Nat × (Nat → Int32)) => match u with | (n9, f9) => (((fn < 1 ∨ 8 < fn) ∧ r = -1000000002 ∧ n9 = n ∧ f9 = f) ∨ (∃ jj : Nat, fn = nI jj ∧ 1 ≤ jj ∧ jj ≤ 8 ∧ ((500 < n + jj ∧ r = -1000000004 ∧ n9 = n ∧ f9 = f) ∨ (n + jj ≤ 500 ∧ r = nI (n + jj) ∧ n9 = n + jj ∧ f9 = adF f pk n jj jj))))
abbrev q_X9_feed (D : va_G) (k : Nat → ClassId) (h : Nat) (tx : Nat) (co : Nat) (im : Nat) (ik : Nat) (bo : Nat) (rs : Nat) (pl : Nat) (ch : Nat) (pa : Nat) (pb : Nat) (lw : Nat) (lv : Nat) (fb : Int32) (qb : Nat) (n : Nat) (v2 : Int32) (v3 : Int32) (v4 : Int32) (v5 : Int32) (v6 : Int32) (v7 : Int32) (f : Nat → Int32) (fn : Int32) (pk : Int64) (A : Nat → Prop) : Array Value → State → Outcome → State → Prop := va_Qi (p_X9_feed k h tx co im ik bo rs pl ch pa pb lw lv fb qb n v2 v3 v4 v5 v6 v7 f fn pk) (fun u9 t9 => BO D (w_X9_feed k h tx co im ik bo rs pl ch pa pb lw lv fb qb n v2 v3 v4 v5 v6 v7 f fn pk u9) A t9) A
set_option maxHeartbeats 2000000 in
set_option maxRecDepth 100000 in
theorem X9_feed (l : Launch) (D : va_G) (k : Nat → ClassId) (sz : Nat) (h : Nat) (tx : Nat) (co : Nat) (im : Nat) (ik : Nat) (bo : Nat) (rs : Nat) (pl : Nat) (ch : Nat) (pa : Nat) (pb : Nat) (lw : Nat) (lv : Nat) (fb : Int32) (qb : Nat) (n : Nat) (v2 : Int32) (v3 : Int32) (v4 : Int32) (v5 : Int32) (v6 : Int32) (v7 : Int32) (f : Nat → Int32) (fn : Int32) (pk : Int64) (hn : n ≤ 500) : Met l yX9_feed wsX9_feed r_X9_feed (va_Pc [.ref h, .int fn, .long pk] (PR D k (c_X9_feed k h tx co im ik bo rs pl ch pa pb lw lv fb qb n v2 v3 v4 v5 v6 v7 f fn pk) sz)) (q_X9_feed D k h tx co im ik bo rs pl ch pa pb lw lv fb qb n v2 v3 v4 v5 v6 v7 f fn pk (va_A (c_X9_feed k h tx co im ik bo rs pl ch pa pb lw lv fb qb n v2 v3 v4 v5 v6 v7 f fn pk) sz)) 0 0 (va_A (c_X9_feed k h tx co im ik bo rs pl ch pa pb lw lv fb qb n v2 v3 v4 v5 v6 v7 f fn pk) sz) := by
  refine Met.ofW (cc := cX9_feed) (maxL := 4) (ret := (some .int)) (by decide) rfl ?_
  intro p e s m args below meth c s₁ B hml hv
  obtain ⟨rfl, hsz, hP, hG, hD0⟩ := hv
  have hx := B.exec
  have hb := B.bytes
  have hr := B.returns
  have hts := atoms_spec (ws := wsX9_feed) B.pre
  have hown : s.vm.findClass RX9 = some m.cls := findClass_of_methodNamed B.named
  have hlocks := B.notSynchronized
  have hi9 : ∀ w ∈ wsX90, w ∈ wsX9_feed := fun _ h => List.mem_cons_of_mem _ (List.mem_append_left _ (List.mem_append_right _ h))
  have hi7 : ∀ w ∈ wsX70, w ∈ wsX9_feed := fun _ h => List.mem_cons_of_mem _ (List.mem_append_right _ h)
  subst hsz
  have hD := hD0.self (sz := s.heap.size)
  generalize hAe : va_A (c_X9_feed k h tx co im ik bo rs pl ch pa pb lw lv fb qb n v2 v3 v4 v5 v6 v7 f fn pk) s.heap.size = A at hD ⊢
  have hA : ∀ q : Nat, s.heap.size ≤ q → A q := fun q h => by rw [← hAe]; exact Or.inr h
  have hS : va_S A s.heap s.heap [] := va_S.rf
  have hP : va_P D vwCl [(h, .inr (9, [.ref tx, .ref co, .ref im, .ref ik, .ref bo, .ref rs, .ref pl, .ref ch, .ref pa, .ref pb, .ref lw, .ref lv, .int fb])), (tx, .inr (7, [.ref qb, .int (nI n), .int v2, .int v3, .int v4, .int v5, .int v6, .int v7])), (qb, .inl (k 0, 500, .inl f))] s.heap := hP
  have hD : va_D A [(h, .inr (9, [.ref tx, .ref co, .ref im, .ref ik, .ref bo, .ref rs, .ref pl, .ref ch, .ref pa, .ref pb, .ref lw, .ref lv, .int fb])), (tx, .inr (7, [.ref qb, .int (nI n), .int v2, .int v3, .int v4, .int v5, .int v6, .int v7])), (qb, .inl (k 0, 500, .inl f))] := hD
  have hl := lv_entry ([.ref h, .int fn, .long pk]) (n := 4) (Nat.le_of_ble_eq_true rfl)
  rw [lg_entry_eq]
  generalize (lg_sl ([.ref h, .int fn, .long pk]) ++ List.replicate (4 - (lg_sl ([.ref h, .int fn, .long pk])).length) Slot.unset).toArray = ls at hl ⊢
  have hl : lv_has ls 4 [(0, .ref h), (1, .int fn), (2, .long pk)] := hl
  refine lv_iload_n hx hb dX9_feed_0 rfl (lv_at hl 1 rfl) ?_
  refine lv_iconst (v := 1) hx hb dX9_feed_1 (by decide) ?_
  refine lv_icmp_lt (x := fn) (y := 1) (tgt := 11) hx hb dX9_feed_2 (by decide) (fun c1 => ?_) (fun c1 => ?_)
  · skip
    have k9 := c1
    refine lv_ldc (v := (-1000000002)) hx hb hown (hts (.constant RX9 87 (-1000000002)) (List.mem_cons_of_mem _ (List.mem_append_left _ (List.mem_append_left _ (List.mem_of_getElem? (i := 0) rfl))))) dX9_feed_11 ?_
    have hP9 := hP.sub (ws' := [(h, .inr (9, [.ref tx, .ref co, .ref im, .ref ik, .ref bo, .ref rs, .ref pl, .ref ch, .ref pa, .ref pb, .ref lw, .ref lv, .int fb])), (tx, .inr (7, [.ref qb, .int (nI n), .int v2, .int v3, .int v4, .int v5, .int v6, .int v7])), (qb, .inl (k 0, 500, .inl f))]) [0, 1, 2] rfl
    have hD9 := hD.sub (ws' := [(h, .inr (9, [.ref tx, .ref co, .ref im, .ref ik, .ref bo, .ref rs, .ref pl, .ref ch, .ref pa, .ref pb, .ref lw, .ref lv, .int fb])), (tx, .inr (7, [.ref qb, .int (nI n), .int v2, .int v3, .int v4, .int v5, .int v6, .int v7])), (qb, .inl (k 0, 500, .inl f))]) [0, 1, 2] (by decide +kernel) rfl
    exact W.iret (v := (-1000000002)) hx hb hr (fun t9 ht _ => ⟨⟨(-1000000002), (n, f), rfl, Or.inl ⟨Or.inl k9, rfl, rfl, rfl⟩, by rw [ht]; exact hP9, hD9⟩, hS.F ht⟩) hS.2.2 dX9_feed_13
  · skip
    have k1 := c1
    refine lv_iload_n hx hb dX9_feed_5 rfl (lv_at hl 1 rfl) ?_
    refine lv_bipush (v := 8) hx hb dX9_feed_6 (by decide) ?_
    refine lv_icmp_le (x := fn) (y := 8) (tgt := 14) hx hb dX9_feed_8 (by decide) (fun c2 => ?_) (fun c2 => ?_)
    · skip
      obtain ⟨jj, hj1, hj8, ejj⟩ := rg_n (lo := 1) (hi := 8) k1 c2 (by decide) (by decide)
      have hl : lv_has ls 4 [(0, .ref h), (1, .int (nI jj)), (2, .long pk)] := by rw [← ejj]; exact hl
      refine lv_aload_n hx hb dX9_feed_14 rfl (lv_at hl 0 rfl) ?_
      refine va_get (D := D) (ci := 9) (v := .ref tx) (C := RX9) (T := TX9) (N := 13) hx hb hts hi9 hown hG.1 hP 0 rfl rfl 0 (by decide) (hts (.fieldLink RX9 10 "SleptMatters" "text" "LSleptMatters$Text;") (List.mem_cons_of_mem _ (List.mem_append_left _ (List.mem_append_left _ (List.mem_of_getElem? (i := 1) rfl))))) (fun _ h9 => h9) rfl dX9_feed_15 ?_
      refine va_get (D := D) (ci := 7) (v := .int (nI n)) (C := RX7) (T := TX7) (N := 8) hx hb hts hi7 hown hG.1 hP 1 rfl rfl 1 (by decide) (hts (.fieldLink RX9 88 "SleptMatters$Text" "size" "I") (List.mem_cons_of_mem _ (List.mem_append_left _ (List.mem_append_left _ (List.mem_of_getElem? (i := 2) rfl))))) (fun _ h9 => h9) rfl dX9_feed_18 ?_
      refine lv_iload_n hx hb dX9_feed_21 rfl (lv_at hl 1 rfl) ?_
      refine lv_iadd hx hb dX9_feed_22 ?_
      refine tp_i (y := nI (n + jj)) (nI_add n jj) ?_
      refine lv_sipush (v := 500) hx hb dX9_feed_23 (by decide) ?_
      refine bn_le (i := n + jj) (j := 500) (tgt := 32) hx hb dX9_feed_26 (by decide) (by omega) (by omega) (fun c3 => ?_) (fun c3 => ?_)
      · skip
        have k9 := c3
        refine lv_aload_n hx hb dX9_feed_32 rfl (lv_at hl 0 rfl) ?_
        refine va_get (D := D) (ci := 9) (v := .ref tx) (C := RX9) (T := TX9) (N := 13) hx hb hts hi9 hown hG.1 hP 0 rfl rfl 0 (by decide) (hts (.fieldLink RX9 10 "SleptMatters" "text" "LSleptMatters$Text;") (List.mem_cons_of_mem _ (List.mem_append_left _ (List.mem_append_left _ (List.mem_of_getElem? (i := 1) rfl))))) (fun _ h9 => h9) rfl dX9_feed_33 ?_
        refine lv_iload_n hx hb dX9_feed_36 rfl (lv_at hl 1 rfl) ?_
        refine lv_lload_n hx hb dX9_feed_37 rfl (lv_at hl 2 rfl) ?_
        have hPc := hP.sub (ws' := (c_X7_add k tx qb n jj v2 v3 v4 v5 v6 v7 f pk)) [1, 2] rfl
        have hDc := hD.sub (ws' := (c_X7_add k tx qb n jj v2 v3 v4 v5 v6 v7 f pk)) [1, 2] (by decide +kernel) rfl
        refine cl_v (w1 := w_X7_add k tx qb n jj v2 v3 v4 v5 v6 v7 f pk) (wr := [(h, .inr (9, [.ref tx, .ref co, .ref im, .ref ik, .ref bo, .ref rs, .ref pl, .ref ch, .ref pa, .ref pb, .ref lw, .ref lv, .int fb]))]) (va_runV (As := [.int (nI jj), .long pk]) (rest := []) ⟨hx, hb, hml, hown, hts⟩ (X7_add l D k s.heap.size tx qb n jj v2 v3 v4 v5 v6 v7 f pk (by omega) (by omega)) (cwV 2 hts gX9_feed_X7_add rfl rfl rfl (by decide +kernel) ⟨Nat.le_of_ble_eq_true rfl, Nat.le_of_ble_eq_true rfl⟩) ⟨PR.blind _ _ _ _ _, va_recv hG.1 hP (ci := 7) (q0 := 1) rfl rfl, PR.pre hPc hDc hG [.ref tx, .int (nI jj), .long pk]⟩ rfl rfl hl.1 rfl (lv_room (Nat.le_of_ble_eq_true rfl)) dX9_feed_38 ⟨Nat.le_of_ble_eq_true rfl, Nat.le_of_ble_eq_true rfl⟩) hP hD hS hA [1, 2] [0] rfl rfl (by decide +kernel) (by decide +kernel) (fun u H locs hq hP hD hS => ?_)
        cases u
        have hP : va_P D vwCl [(h, .inr (9, [.ref tx, .ref co, .ref im, .ref ik, .ref bo, .ref rs, .ref pl, .ref ch, .ref pa, .ref pb, .ref lw, .ref lv, .int fb])), (tx, .inr (7, [.ref qb, .int (nI (n + jj)), .int v2, .int v3, .int v4, .int v5, .int v6, .int v7])), (qb, .inl (k 0, 500, .inl (adF f pk n jj jj)))] H := hP
        have hD : va_D A [(h, .inr (9, [.ref tx, .ref co, .ref im, .ref ik, .ref bo, .ref rs, .ref pl, .ref ch, .ref pa, .ref pb, .ref lw, .ref lv, .int fb])), (tx, .inr (7, [.ref qb, .int (nI (n + jj)), .int v2, .int v3, .int v4, .int v5, .int v6, .int v7])), (qb, .inl (k 0, 500, .inl (adF f pk n jj jj)))] := hD
        refine lv_aload_n hx hb dX9_feed_41 rfl (lv_at hl 0 rfl) ?_
        refine va_get (D := D) (ci := 9) (v := .ref tx) (C := RX9) (T := TX9) (N := 13) hx hb hts hi9 hown hG.1 hP 0 rfl rfl 0 (by decide) (hts (.fieldLink RX9 10 "SleptMatters" "text" "LSleptMatters$Text;") (List.mem_cons_of_mem _ (List.mem_append_left _ (List.mem_append_left _ (List.mem_of_getElem? (i := 1) rfl))))) (fun _ h9 => h9) rfl dX9_feed_42 ?_
        refine va_get (D := D) (ci := 7) (v := .int (nI (n + jj))) (C := RX7) (T := TX7) (N := 8) hx hb hts hi7 hown hG.1 hP 1 rfl rfl 1 (by decide) (hts (.fieldLink RX9 88 "SleptMatters$Text" "size" "I") (List.mem_cons_of_mem _ (List.mem_append_left _ (List.mem_append_left _ (List.mem_of_getElem? (i := 2) rfl))))) (fun _ h9 => h9) rfl dX9_feed_45 ?_
        have hP9 := hP.sub (ws' := [(h, .inr (9, [.ref tx, .ref co, .ref im, .ref ik, .ref bo, .ref rs, .ref pl, .ref ch, .ref pa, .ref pb, .ref lw, .ref lv, .int fb])), (tx, .inr (7, [.ref qb, .int (nI (n + jj)), .int v2, .int v3, .int v4, .int v5, .int v6, .int v7])), (qb, .inl (k 0, 500, .inl (adF f pk n jj jj)))]) [0, 1, 2] rfl
        have hD9 := hD.sub (ws' := [(h, .inr (9, [.ref tx, .ref co, .ref im, .ref ik, .ref bo, .ref rs, .ref pl, .ref ch, .ref pa, .ref pb, .ref lw, .ref lv, .int fb])), (tx, .inr (7, [.ref qb, .int (nI (n + jj)), .int v2, .int v3, .int v4, .int v5, .int v6, .int v7])), (qb, .inl (k 0, 500, .inl (adF f pk n jj jj)))]) [0, 1, 2] (by decide +kernel) rfl
        exact W.iret (v := nI (n + jj)) hx hb hr (fun t9 ht _ => ⟨⟨nI (n + jj), (n + jj, adF f pk n jj jj), rfl, Or.inr ⟨jj, ejj, hj1, hj8, Or.inr ⟨by omega, rfl, rfl, rfl⟩⟩, by rw [ht]; exact hP9, hD9⟩, hS.F ht⟩) hS.2.2 dX9_feed_48
      · skip
        have k9 := c3
        refine lv_ldc (v := (-1000000004)) hx hb hown (hts (.constant RX9 91 (-1000000004)) (List.mem_cons_of_mem _ (List.mem_append_left _ (List.mem_append_left _ (List.mem_of_getElem? (i := 3) rfl))))) dX9_feed_29 ?_
        have hP9 := hP.sub (ws' := [(h, .inr (9, [.ref tx, .ref co, .ref im, .ref ik, .ref bo, .ref rs, .ref pl, .ref ch, .ref pa, .ref pb, .ref lw, .ref lv, .int fb])), (tx, .inr (7, [.ref qb, .int (nI n), .int v2, .int v3, .int v4, .int v5, .int v6, .int v7])), (qb, .inl (k 0, 500, .inl f))]) [0, 1, 2] rfl
        have hD9 := hD.sub (ws' := [(h, .inr (9, [.ref tx, .ref co, .ref im, .ref ik, .ref bo, .ref rs, .ref pl, .ref ch, .ref pa, .ref pb, .ref lw, .ref lv, .int fb])), (tx, .inr (7, [.ref qb, .int (nI n), .int v2, .int v3, .int v4, .int v5, .int v6, .int v7])), (qb, .inl (k 0, 500, .inl f))]) [0, 1, 2] (by decide +kernel) rfl
        exact W.iret (v := (-1000000004)) hx hb hr (fun t9 ht _ => ⟨⟨(-1000000004), (n, f), rfl, Or.inr ⟨jj, ejj, hj1, hj8, Or.inl ⟨by omega, rfl, rfl, rfl⟩⟩, by rw [ht]; exact hP9, hD9⟩, hS.F ht⟩) hS.2.2 dX9_feed_31
    · skip
      have k9 := c2
      refine lv_ldc (v := (-1000000002)) hx hb hown (hts (.constant RX9 87 (-1000000002)) (List.mem_cons_of_mem _ (List.mem_append_left _ (List.mem_append_left _ (List.mem_of_getElem? (i := 0) rfl))))) dX9_feed_11 ?_
      have hP9 := hP.sub (ws' := [(h, .inr (9, [.ref tx, .ref co, .ref im, .ref ik, .ref bo, .ref rs, .ref pl, .ref ch, .ref pa, .ref pb, .ref lw, .ref lv, .int fb])), (tx, .inr (7, [.ref qb, .int (nI n), .int v2, .int v3, .int v4, .int v5, .int v6, .int v7])), (qb, .inl (k 0, 500, .inl f))]) [0, 1, 2] rfl
      have hD9 := hD.sub (ws' := [(h, .inr (9, [.ref tx, .ref co, .ref im, .ref ik, .ref bo, .ref rs, .ref pl, .ref ch, .ref pa, .ref pb, .ref lw, .ref lv, .int fb])), (tx, .inr (7, [.ref qb, .int (nI n), .int v2, .int v3, .int v4, .int v5, .int v6, .int v7])), (qb, .inl (k 0, 500, .inl f))]) [0, 1, 2] (by decide +kernel) rfl
      exact W.iret (v := (-1000000002)) hx hb hr (fun t9 ht _ => ⟨⟨(-1000000002), (n, f), rfl, Or.inl ⟨Or.inr (Int32.not_le.mp k9), rfl, rfl, rfl⟩, by rw [ht]; exact hP9, hD9⟩, hS.F ht⟩) hS.2.2 dX9_feed_13

abbrev c_X9_endReading (k : Nat → ClassId) (h : Nat) (tx : Nat) (co : Nat) (im : Nat) (ik : Nat) (bo : Nat) (rs : Nat) (pl : Nat) (ch : Nat) (pa : Nat) (pb : Nat) (lw : Nat) (lv : Nat) (fb : Int32) (qb : Nat) (v1 : Int32) (v2 : Int32) (v3 : Int32) (v4 : Int32) (v5 : Int32) (v6 : Int32) (v7 : Int32) : va_W := [(h, .inr (9, [.ref tx, .ref co, .ref im, .ref ik, .ref bo, .ref rs, .ref pl, .ref ch, .ref pa, .ref pb, .ref lw, .ref lv, .int fb])), (tx, .inr (7, [.ref qb, .int v1, .int v2, .int v3, .int v4, .int v5, .int v6, .int v7]))]
abbrev r_X9_endReading : Room := { frames := 0, cells := 0, slots := 0, locals := 0 }
def w_X9_endReading (k : Nat → ClassId) (h : Nat) (tx : Nat) (co : Nat) (im : Nat) (ik : Nat) (bo : Nat) (rs : Nat) (pl : Nat) (ch : Nat) (pa : Nat) (pb : Nat) (lw : Nat) (lv : Nat) (fb : Int32) (qb : Nat) (v1 : Int32) (v2 : Int32) (v3 : Int32) (v4 : Int32) (v5 : Int32) (v6 : Int32) (v7 : Int32) : Unit → va_W := fun _ => [(h, .inr (9, [.ref tx, .ref co, .ref im, .ref ik, .ref bo, .ref rs, .ref pl, .ref ch, .ref pa, .ref pb, .ref lw, .ref lv, .int v5])), (tx, .inr (7, [.ref qb, .int 0, .int v2, .int v3, .int v4, .int v5, .int v6, .int v7]))]
def p_X9_endReading (k : Nat → ClassId) (h : Nat) (tx : Nat) (co : Nat) (im : Nat) (ik : Nat) (bo : Nat) (rs : Nat) (pl : Nat) (ch : Nat) (pa : Nat) (pb : Nat) (lw : Nat) (lv : Nat) (fb : Int32) (qb : Nat) (v1 : Int32) (v2 : Int32) (v3 : Int32) (v4 : Int32) (v5 : Int32) (v6 : Int32) (v7 : Int32) : Int32 → Unit → Prop := fun (r : Int32) (u : Unit) => r = v4
abbrev q_X9_endReading (D : va_G) (k : Nat → ClassId) (h : Nat) (tx : Nat) (co : Nat) (im : Nat) (ik : Nat) (bo : Nat) (rs : Nat) (pl : Nat) (ch : Nat) (pa : Nat) (pb : Nat) (lw : Nat) (lv : Nat) (fb : Int32) (qb : Nat) (v1 : Int32) (v2 : Int32) (v3 : Int32) (v4 : Int32) (v5 : Int32) (v6 : Int32) (v7 : Int32) (A : Nat → Prop) : Array Value → State → Outcome → State → Prop := va_Qi (p_X9_endReading k h tx co im ik bo rs pl ch pa pb lw lv fb qb v1 v2 v3 v4 v5 v6 v7) (fun u9 t9 => BO D (w_X9_endReading k h tx co im ik bo rs pl ch pa pb lw lv fb qb v1 v2 v3 v4 v5 v6 v7 u9) A t9) A
set_option maxHeartbeats 2000000 in
set_option maxRecDepth 100000 in
theorem X9_endReading (l : Launch) (D : va_G) (k : Nat → ClassId) (sz : Nat) (h : Nat) (tx : Nat) (co : Nat) (im : Nat) (ik : Nat) (bo : Nat) (rs : Nat) (pl : Nat) (ch : Nat) (pa : Nat) (pb : Nat) (lw : Nat) (lv : Nat) (fb : Int32) (qb : Nat) (v1 : Int32) (v2 : Int32) (v3 : Int32) (v4 : Int32) (v5 : Int32) (v6 : Int32) (v7 : Int32)  : Met l yX9_endReading wsX9_endReading r_X9_endReading (va_Pc [.ref h] (PR D k (c_X9_endReading k h tx co im ik bo rs pl ch pa pb lw lv fb qb v1 v2 v3 v4 v5 v6 v7) sz)) (q_X9_endReading D k h tx co im ik bo rs pl ch pa pb lw lv fb qb v1 v2 v3 v4 v5 v6 v7 (va_A (c_X9_endReading k h tx co im ik bo rs pl ch pa pb lw lv fb qb v1 v2 v3 v4 v5 v6 v7) sz)) 0 0 (va_A (c_X9_endReading k h tx co im ik bo rs pl ch pa pb lw lv fb qb v1 v2 v3 v4 v5 v6 v7) sz) := by
  refine Met.ofW (cc := cX9_endReading) (maxL := 1) (ret := (some .int)) (by decide) rfl ?_
  intro p e s m args below meth c s₁ B hml hv
  obtain ⟨rfl, hsz, hP, hG, hD0⟩ := hv
  have hx := B.exec
  have hb := B.bytes
  have hr := B.returns
  have hts := atoms_spec (ws := wsX9_endReading) B.pre
  have hown : s.vm.findClass RX9 = some m.cls := findClass_of_methodNamed B.named
  have hlocks := B.notSynchronized
  have hi9 : ∀ w ∈ wsX90, w ∈ wsX9_endReading := fun _ h => List.mem_cons_of_mem _ (List.mem_append_left _ (List.mem_append_right _ h))
  have hi7 : ∀ w ∈ wsX70, w ∈ wsX9_endReading := fun _ h => List.mem_cons_of_mem _ (List.mem_append_right _ h)
  subst hsz
  have hD := hD0.self (sz := s.heap.size)
  generalize hAe : va_A (c_X9_endReading k h tx co im ik bo rs pl ch pa pb lw lv fb qb v1 v2 v3 v4 v5 v6 v7) s.heap.size = A at hD ⊢
  have hA : ∀ q : Nat, s.heap.size ≤ q → A q := fun q h => by rw [← hAe]; exact Or.inr h
  have hS : va_S A s.heap s.heap [] := va_S.rf
  have hP : va_P D vwCl [(h, .inr (9, [.ref tx, .ref co, .ref im, .ref ik, .ref bo, .ref rs, .ref pl, .ref ch, .ref pa, .ref pb, .ref lw, .ref lv, .int fb])), (tx, .inr (7, [.ref qb, .int v1, .int v2, .int v3, .int v4, .int v5, .int v6, .int v7]))] s.heap := hP
  have hD : va_D A [(h, .inr (9, [.ref tx, .ref co, .ref im, .ref ik, .ref bo, .ref rs, .ref pl, .ref ch, .ref pa, .ref pb, .ref lw, .ref lv, .int fb])), (tx, .inr (7, [.ref qb, .int v1, .int v2, .int v3, .int v4, .int v5, .int v6, .int v7]))] := hD
  have hl := lv_entry ([.ref h]) (n := 1) (Nat.le_of_ble_eq_true rfl)
  rw [lg_entry_eq]
  generalize (lg_sl ([.ref h]) ++ List.replicate (1 - (lg_sl ([.ref h])).length) Slot.unset).toArray = ls at hl ⊢
  have hl : lv_has ls 1 [(0, .ref h)] := hl
  refine lv_aload_n hx hb dX9_endReading_0 rfl (lv_at hl 0 rfl) ?_
  refine lv_aload_n hx hb dX9_endReading_1 rfl (lv_at hl 0 rfl) ?_
  refine va_get (D := D) (ci := 9) (v := .ref tx) (C := RX9) (T := TX9) (N := 13) hx hb hts hi9 hown hG.1 hP 0 rfl rfl 0 (by decide) (hts (.fieldLink RX9 10 "SleptMatters" "text" "LSleptMatters$Text;") (List.mem_cons_of_mem _ (List.mem_append_left _ (List.mem_append_left _ (List.mem_of_getElem? (i := 0) rfl))))) (fun _ h9 => h9) rfl dX9_endReading_2 ?_
  refine va_get (D := D) (ci := 7) (v := .int v5) (C := RX7) (T := TX7) (N := 8) hx hb hts hi7 hown hG.1 hP 1 rfl rfl 5 (by decide) (hts (.fieldLink RX9 280 "SleptMatters$Text" "faultAt" "I") (List.mem_cons_of_mem _ (List.mem_append_left _ (List.mem_append_left _ (List.mem_of_getElem? (i := 1) rfl))))) (fun _ h9 => h9) rfl dX9_endReading_5 ?_
  refine va_put (D := D) (ci := 9) (v := .int v5) (ty := .int) (C := RX9) (T := TX9) (N := 13) hx hb hts hi9 tyX9 tyX9_ok nmX9 hown hG.1 hP hD hS 0 rfl rfl 12 (by decide) (hts (.fieldLink RX9 58 "SleptMatters" "faultByte" "I") (List.mem_cons_of_mem _ (List.mem_append_left _ (List.mem_append_left _ (List.mem_of_getElem? (i := 2) rfl))))) (fun _ h9 => h9) rfl (by decide +kernel) rfl rfl (Nat.le_of_ble_eq_true rfl) dX9_endReading_8 (fun H locs hP hD hS => ?_)
  have hP : va_P D vwCl [(h, .inr (9, [.ref tx, .ref co, .ref im, .ref ik, .ref bo, .ref rs, .ref pl, .ref ch, .ref pa, .ref pb, .ref lw, .ref lv, .int v5])), (tx, .inr (7, [.ref qb, .int v1, .int v2, .int v3, .int v4, .int v5, .int v6, .int v7]))] H := hP
  have hD : va_D A [(h, .inr (9, [.ref tx, .ref co, .ref im, .ref ik, .ref bo, .ref rs, .ref pl, .ref ch, .ref pa, .ref pb, .ref lw, .ref lv, .int v5])), (tx, .inr (7, [.ref qb, .int v1, .int v2, .int v3, .int v4, .int v5, .int v6, .int v7]))] := hD
  refine lv_aload_n hx hb dX9_endReading_11 rfl (lv_at hl 0 rfl) ?_
  refine va_get (D := D) (ci := 9) (v := .ref tx) (C := RX9) (T := TX9) (N := 13) hx hb hts hi9 hown hG.1 hP 0 rfl rfl 0 (by decide) (hts (.fieldLink RX9 10 "SleptMatters" "text" "LSleptMatters$Text;") (List.mem_cons_of_mem _ (List.mem_append_left _ (List.mem_append_left _ (List.mem_of_getElem? (i := 0) rfl))))) (fun _ h9 => h9) rfl dX9_endReading_12 ?_
  refine lv_iconst (v := 0) hx hb dX9_endReading_15 (by decide) ?_
  refine va_put (D := D) (ci := 7) (v := .int 0) (ty := .int) (C := RX7) (T := TX7) (N := 8) hx hb hts hi7 tyX7 tyX7_ok nmX7 hown hG.1 hP hD hS 1 rfl rfl 1 (by decide) (hts (.fieldLink RX9 88 "SleptMatters$Text" "size" "I") (List.mem_cons_of_mem _ (List.mem_append_left _ (List.mem_append_left _ (List.mem_of_getElem? (i := 3) rfl))))) (fun _ h9 => h9) rfl (by decide +kernel) rfl rfl (Nat.le_of_ble_eq_true rfl) dX9_endReading_16 (fun H locs hP hD hS => ?_)
  have hP : va_P D vwCl [(h, .inr (9, [.ref tx, .ref co, .ref im, .ref ik, .ref bo, .ref rs, .ref pl, .ref ch, .ref pa, .ref pb, .ref lw, .ref lv, .int v5])), (tx, .inr (7, [.ref qb, .int 0, .int v2, .int v3, .int v4, .int v5, .int v6, .int v7]))] H := hP
  have hD : va_D A [(h, .inr (9, [.ref tx, .ref co, .ref im, .ref ik, .ref bo, .ref rs, .ref pl, .ref ch, .ref pa, .ref pb, .ref lw, .ref lv, .int v5])), (tx, .inr (7, [.ref qb, .int 0, .int v2, .int v3, .int v4, .int v5, .int v6, .int v7]))] := hD
  refine lv_aload_n hx hb dX9_endReading_19 rfl (lv_at hl 0 rfl) ?_
  refine va_get (D := D) (ci := 9) (v := .ref tx) (C := RX9) (T := TX9) (N := 13) hx hb hts hi9 hown hG.1 hP 0 rfl rfl 0 (by decide) (hts (.fieldLink RX9 10 "SleptMatters" "text" "LSleptMatters$Text;") (List.mem_cons_of_mem _ (List.mem_append_left _ (List.mem_append_left _ (List.mem_of_getElem? (i := 0) rfl))))) (fun _ h9 => h9) rfl dX9_endReading_20 ?_
  refine va_get (D := D) (ci := 7) (v := .int v4) (C := RX7) (T := TX7) (N := 8) hx hb hts hi7 hown hG.1 hP 1 rfl rfl 4 (by decide) (hts (.fieldLink RX9 283 "SleptMatters$Text" "faultNumber" "I") (List.mem_cons_of_mem _ (List.mem_append_left _ (List.mem_append_left _ (List.mem_of_getElem? (i := 4) rfl))))) (fun _ h9 => h9) rfl dX9_endReading_23 ?_
  have hP9 := hP.sub (ws' := [(h, .inr (9, [.ref tx, .ref co, .ref im, .ref ik, .ref bo, .ref rs, .ref pl, .ref ch, .ref pa, .ref pb, .ref lw, .ref lv, .int v5])), (tx, .inr (7, [.ref qb, .int 0, .int v2, .int v3, .int v4, .int v5, .int v6, .int v7]))]) [0, 1] rfl
  have hD9 := hD.sub (ws' := [(h, .inr (9, [.ref tx, .ref co, .ref im, .ref ik, .ref bo, .ref rs, .ref pl, .ref ch, .ref pa, .ref pb, .ref lw, .ref lv, .int v5])), (tx, .inr (7, [.ref qb, .int 0, .int v2, .int v3, .int v4, .int v5, .int v6, .int v7]))]) [0, 1] (by decide +kernel) rfl
  exact W.iret (v := v4) hx hb hr (fun t9 ht _ => ⟨⟨v4, (), rfl, rfl, by rw [ht]; exact hP9, hD9⟩, hS.F ht⟩) hS.2.2 dX9_endReading_26

abbrev c_X9_fault (k : Nat → ClassId) (h : Nat) (tx : Nat) (co : Nat) (im : Nat) (ik : Nat) (bo : Nat) (rs : Nat) (pl : Nat) (ch : Nat) (pa : Nat) (pb : Nat) (lw : Nat) (lv : Nat) (fb : Int32) : va_W := [(h, .inr (9, [.ref tx, .ref co, .ref im, .ref ik, .ref bo, .ref rs, .ref pl, .ref ch, .ref pa, .ref pb, .ref lw, .ref lv, .int fb]))]
abbrev r_X9_fault : Room := { frames := 0, cells := 0, slots := 0, locals := 0 }
abbrev q_X9_fault (k : Nat → ClassId) (h : Nat) (tx : Nat) (co : Nat) (im : Nat) (ik : Nat) (bo : Nat) (rs : Nat) (pl : Nat) (ch : Nat) (pa : Nat) (pb : Nat) (lw : Nat) (lv : Nat) (fb : Int32) : Array Value → State → Outcome → State → Prop := vp_Si (fun r => r = fb)
set_option maxHeartbeats 2000000 in
set_option maxRecDepth 100000 in
theorem X9_fault (l : Launch) (D : va_G) (k : Nat → ClassId) (h : Nat) (tx : Nat) (co : Nat) (im : Nat) (ik : Nat) (bo : Nat) (rs : Nat) (pl : Nat) (ch : Nat) (pa : Nat) (pb : Nat) (lw : Nat) (lv : Nat) (fb : Int32)  : Met l yX9_fault wsX9_fault r_X9_fault (va_Pc [.ref h] (PS D k (c_X9_fault k h tx co im ik bo rs pl ch pa pb lw lv fb))) (q_X9_fault k h tx co im ik bo rs pl ch pa pb lw lv fb) 0 0 (fun _ => False) := by
  refine Met.ofW (cc := cX9_fault) (maxL := 1) (ret := (some .int)) (by decide) rfl ?_
  intro p e s m args below meth c s₁ B hml hv
  obtain ⟨rfl, hP, hG⟩ := hv
  have hx := B.exec
  have hb := B.bytes
  have hr := B.returns
  have hts := atoms_spec (ws := wsX9_fault) B.pre
  have hown : s.vm.findClass RX9 = some m.cls := findClass_of_methodNamed B.named
  have hlocks := B.notSynchronized
  have hi9 : ∀ w ∈ wsX90, w ∈ wsX9_fault := fun _ h => List.mem_cons_of_mem _ (List.mem_append_right _ h)
  have hP : va_P D vwCl [(h, .inr (9, [.ref tx, .ref co, .ref im, .ref ik, .ref bo, .ref rs, .ref pl, .ref ch, .ref pa, .ref pb, .ref lw, .ref lv, .int fb]))] s.heap := hP
  have hl := lv_entry ([.ref h]) (n := 1) (Nat.le_of_ble_eq_true rfl)
  rw [lg_entry_eq]
  generalize (lg_sl ([.ref h]) ++ List.replicate (1 - (lg_sl ([.ref h])).length) Slot.unset).toArray = ls at hl ⊢
  have hl : lv_has ls 1 [(0, .ref h)] := hl
  refine lv_aload_n hx hb dX9_fault_0 rfl (lv_at hl 0 rfl) ?_
  refine va_get (D := D) (ci := 9) (v := .int fb) (C := RX9) (T := TX9) (N := 13) hx hb hts hi9 hown hG.1 hP 0 rfl rfl 12 (by decide) (hts (.fieldLink RX9 58 "SleptMatters" "faultByte" "I") (List.mem_cons_of_mem _ (List.mem_append_left _ (List.mem_of_getElem? (i := 0) rfl)))) (fun _ h9 => h9) rfl dX9_fault_1 ?_
  exact W.iret (v := fb) hx hb hr (fun t9 ht _ => ⟨fb, rfl, rfl, ht⟩) (fun q h => by cases h) dX9_fault_4

abbrev c_X9_told (k : Nat → ClassId) (h : Nat) (tx : Nat) (co : Nat) (im : Nat) (ik : Nat) (bo : Nat) (rs : Nat) (pl : Nat) (ch : Nat) (pa : Nat) (pb : Nat) (lw : Nat) (lv : Nat) (fb : Int32) (t : Nat) (tn : Nat) (tl : Nat) (tc : Nat) (ta : Nat) (rw : Nat → Nat) (q : Nat → Nat) (G3 : Nat → Int32) (nn : Nat) (yy : Nat) (ag : Int32) (l4 : Int32) (l5 : Int32) (q0 : Nat) (q1 : Nat) (q2 : Nat) (q3 : Nat) (q4 : Nat) (q5 : Nat) (q6 : Nat) (wg : Int32) (dy : Nat) (sd : Int32) (f3 : Nat → Int32) (f4 : Nat → Int32) (qb : Nat) (v1 : Int32) (v2 : Int32) (v3 : Int32) (v4 : Int32) (v5 : Int32) (v6 : Int32) (v7 : Int32) (bq1 : Nat) (bq2 : Nat) (bq3 : Nat) (b : Nat) (wt : Int32) : va_W := [(h, .inr (9, [.ref tx, .ref co, .ref im, .ref ik, .ref bo, .ref rs, .ref pl, .ref ch, .ref pa, .ref pb, .ref lw, .ref lv, .int fb])), (pa, .inr (8, [.ref t, .ref tn, .ref tl, .ref tc, .ref ta])), (t, .inl (k 0, 4, .inl (cI q))), (tn, .inl (k 4, 4, .inr (.inr (.inr (.inr (gr4 rw)))))), ((rw 3), .inl (k 0, 80, .inl G3)), (lw, .inr (3, [.int (nI nn), .int (nI yy), .int ag, .int l4, .int l5])), (co, .inr (2, [.ref q0, .ref q1, .ref q2, .ref q3, .ref q4, .ref q5, .ref q6, .int wg, .int (nI dy), .int sd])), (q3, .inl (k 0, 3, .inl f3)), (q4, .inl (k 0, 3, .inl f4)), (tx, .inr (7, [.ref qb, .int v1, .int v2, .int v3, .int v4, .int v5, .int v6, .int v7])), (bo, .inr (0, [.int (nI b), .ref bq1, .ref bq2, .ref bq3]))]
abbrev r_X9_told : Room := { frames := 3, cells := 0, slots := 0, locals := 71 }
abbrev q_X9_told (k : Nat → ClassId) (h : Nat) (tx : Nat) (co : Nat) (im : Nat) (ik : Nat) (bo : Nat) (rs : Nat) (pl : Nat) (ch : Nat) (pa : Nat) (pb : Nat) (lw : Nat) (lv : Nat) (fb : Int32) (t : Nat) (tn : Nat) (tl : Nat) (tc : Nat) (ta : Nat) (rw : Nat → Nat) (q : Nat → Nat) (G3 : Nat → Int32) (nn : Nat) (yy : Nat) (ag : Int32) (l4 : Int32) (l5 : Int32) (q0 : Nat) (q1 : Nat) (q2 : Nat) (q3 : Nat) (q4 : Nat) (q5 : Nat) (q6 : Nat) (wg : Int32) (dy : Nat) (sd : Int32) (f3 : Nat → Int32) (f4 : Nat → Int32) (qb : Nat) (v1 : Int32) (v2 : Int32) (v3 : Int32) (v4 : Int32) (v5 : Int32) (v6 : Int32) (v7 : Int32) (bq1 : Nat) (bq2 : Nat) (bq3 : Nat) (b : Nat) (wt : Int32) : Array Value → State → Outcome → State → Prop := vp_Si (fun r => r = tdL 10 [nI (q 0), nI (q 1), nI (q 3), nI nn, nI yy, (if ag = 0 then 0 else 1), nI dy, wg, v1, nI b, scI (q 3) G3 f3 f4 (nI dy) wg (q 3)] wt)
set_option maxHeartbeats 2000000 in
set_option maxRecDepth 100000 in
theorem X9_told (l : Launch) (D : va_G) (k : Nat → ClassId) (h : Nat) (tx : Nat) (co : Nat) (im : Nat) (ik : Nat) (bo : Nat) (rs : Nat) (pl : Nat) (ch : Nat) (pa : Nat) (pb : Nat) (lw : Nat) (lv : Nat) (fb : Int32) (t : Nat) (tn : Nat) (tl : Nat) (tc : Nat) (ta : Nat) (rw : Nat → Nat) (q : Nat → Nat) (G3 : Nat → Int32) (nn : Nat) (yy : Nat) (ag : Int32) (l4 : Int32) (l5 : Int32) (q0 : Nat) (q1 : Nat) (q2 : Nat) (q3 : Nat) (q4 : Nat) (q5 : Nat) (q6 : Nat) (wg : Int32) (dy : Nat) (sd : Int32) (f3 : Nat → Int32) (f4 : Nat → Int32) (qb : Nat) (v1 : Int32) (v2 : Int32) (v3 : Int32) (v4 : Int32) (v5 : Int32) (v6 : Int32) (v7 : Int32) (bq1 : Nat) (bq2 : Nat) (bq3 : Nat) (b : Nat) (wt : Int32) (hq3 : q 3 ≤ 3) : Met l yX9_told wsX9_told r_X9_told (va_Pc [.ref h, .int wt] (PS D k (c_X9_told k h tx co im ik bo rs pl ch pa pb lw lv fb t tn tl tc ta rw q G3 nn yy ag l4 l5 q0 q1 q2 q3 q4 q5 q6 wg dy sd f3 f4 qb v1 v2 v3 v4 v5 v6 v7 bq1 bq2 bq3 b wt))) (q_X9_told k h tx co im ik bo rs pl ch pa pb lw lv fb t tn tl tc ta rw q G3 nn yy ag l4 l5 q0 q1 q2 q3 q4 q5 q6 wg dy sd f3 f4 qb v1 v2 v3 v4 v5 v6 v7 bq1 bq2 bq3 b wt) 0 0 (fun _ => False) := by
  refine Met.ofW (cc := cX9_told) (maxL := 2) (ret := (some .int)) (by decide) rfl ?_
  intro p e s m args below meth c s₁ B hml hv
  obtain ⟨rfl, hP, hG⟩ := hv
  have hx := B.exec
  have hb := B.bytes
  have hr := B.returns
  have hts := atoms_spec (ws := wsX9_told) B.pre
  have hown : s.vm.findClass RX9 = some m.cls := findClass_of_methodNamed B.named
  have hlocks := B.notSynchronized
  have hi9 : ∀ w ∈ wsX90, w ∈ wsX9_told := fun _ h => List.mem_cons_of_mem _ (List.mem_append_left _ (List.mem_append_left _ (List.mem_append_left _ (List.mem_append_left _ (List.mem_append_left _ (List.mem_append_right _ h))))))
  have hi3 : ∀ w ∈ wsX30, w ∈ wsX9_told := fun _ h => List.mem_cons_of_mem _ (List.mem_append_left _ (List.mem_append_left _ (List.mem_append_left _ (List.mem_append_left _ (List.mem_append_right _ h)))))
  have hi2 : ∀ w ∈ wsX20, w ∈ wsX9_told := fun _ h => List.mem_cons_of_mem _ (List.mem_append_left _ (List.mem_append_left _ (List.mem_append_left _ (List.mem_append_right _ h))))
  have hi7 : ∀ w ∈ wsX70, w ∈ wsX9_told := fun _ h => List.mem_cons_of_mem _ (List.mem_append_left _ (List.mem_append_left _ (List.mem_append_right _ h)))
  have hi0 : ∀ w ∈ wsX00, w ∈ wsX9_told := fun _ h => List.mem_cons_of_mem _ (List.mem_append_left _ (List.mem_append_right _ h))
  have hi8 : ∀ w ∈ wsX80, w ∈ wsX9_told := fun _ h => List.mem_cons_of_mem _ (List.mem_append_right _ h)
  have hP : va_P D vwCl [(h, .inr (9, [.ref tx, .ref co, .ref im, .ref ik, .ref bo, .ref rs, .ref pl, .ref ch, .ref pa, .ref pb, .ref lw, .ref lv, .int fb])), (pa, .inr (8, [.ref t, .ref tn, .ref tl, .ref tc, .ref ta])), (t, .inl (k 0, 4, .inl (cI q))), (tn, .inl (k 4, 4, .inr (.inr (.inr (.inr (gr4 rw)))))), ((rw 3), .inl (k 0, 80, .inl G3)), (lw, .inr (3, [.int (nI nn), .int (nI yy), .int ag, .int l4, .int l5])), (co, .inr (2, [.ref q0, .ref q1, .ref q2, .ref q3, .ref q4, .ref q5, .ref q6, .int wg, .int (nI dy), .int sd])), (q3, .inl (k 0, 3, .inl f3)), (q4, .inl (k 0, 3, .inl f4)), (tx, .inr (7, [.ref qb, .int v1, .int v2, .int v3, .int v4, .int v5, .int v6, .int v7])), (bo, .inr (0, [.int (nI b), .ref bq1, .ref bq2, .ref bq3]))] s.heap := hP
  have hl := lv_entry ([.ref h, .int wt]) (n := 2) (Nat.le_of_ble_eq_true rfl)
  rw [lg_entry_eq]
  generalize (lg_sl ([.ref h, .int wt]) ++ List.replicate (2 - (lg_sl ([.ref h, .int wt])).length) Slot.unset).toArray = ls at hl ⊢
  have hl : lv_has ls 2 [(0, .ref h), (1, .int wt)] := hl
  refine lv_iload_n hx hb dX9_told_0 rfl (lv_at hl 1 rfl) ?_
  by_cases ho : wt.toInt < 0 ∨ 10 < wt.toInt
  · skip
    refine lv_tableOut (tgt := 163) hx hb dX9_told_1 ho (by decide) ?_
    refine lv_ldc (v := (-1000000002)) hx hb hown (hts (.constant RX9 87 (-1000000002)) (List.mem_cons_of_mem _ (List.mem_append_left _ (List.mem_append_left _ (List.mem_append_left _ (List.mem_append_left _ (List.mem_append_left _ (List.mem_append_left _ (List.mem_append_left _ (List.mem_of_getElem? (i := 12) rfl)))))))))) dX9_told_163 ?_
    exact W.iret (v := (-1000000002)) hx hb hr (fun t9 ht _ => ⟨(-1000000002), rfl, (if_pos ho).symm, ht⟩) (fun q h => by cases h) dX9_told_165
  · skip
    obtain ⟨o, ho1, rfl⟩ : ∃ o : Nat, o < 11 ∧ wt = nI o := sw_nat (x := wt) (n := 11) (by omega) (by omega)
    rcases o with _ | o
    · skip
      refine lv_tableIn (off := 59) (tgt := 60) hx hb dX9_told_1 (by decide) (by decide) (by decide) (by decide) ?_
      refine lv_aload_n hx hb dX9_told_60 rfl (lv_at hl 0 rfl) ?_
      refine va_get (D := D) (ci := 9) (v := .ref pa) (C := RX9) (T := TX9) (N := 13) hx hb hts hi9 hown hG.1 hP 0 rfl rfl 8 (by decide) (hts (.fieldLink RX9 41 "SleptMatters" "place" "LSleptMatters$Town;") (List.mem_cons_of_mem _ (List.mem_append_left _ (List.mem_append_left _ (List.mem_append_left _ (List.mem_append_left _ (List.mem_append_left _ (List.mem_append_left _ (List.mem_append_left _ (List.mem_of_getElem? (i := 0) rfl)))))))))) (fun _ h9 => h9) rfl dX9_told_61 ?_
      refine lv_iconst (v := 0) hx hb dX9_told_64 (by decide) ?_
      have hPc := hP.sub (ws' := (c_X8_count k pa t tn tl tc ta q 0)) [1, 2] rfl
      refine vp_callSi (va_Run.run (va_runV (As := [.int 0]) (rest := []) ⟨hx, hb, hml, hown, hts⟩ (X8_count l D k pa t tn tl tc ta q 0 (by decide)) (cwV 1 hts gX9_told_X8_count rfl rfl rfl (by decide +kernel) ⟨Nat.le_of_ble_eq_true rfl, Nat.le_of_ble_eq_true rfl⟩) ⟨PS.blind _ _ _ _, va_recv hG.1 hP (ci := 8) (q0 := 1) rfl rfl, PS.pre hPc hG [.ref pa, .int 0]⟩ rfl rfl hl.1 rfl (lv_room (Nat.le_of_ble_eq_true rfl)) dX9_told_65 ⟨Nat.le_of_ble_eq_true rfl, Nat.le_of_ble_eq_true rfl⟩)) (fun r hq => ?_)
      generalize r = y1 at hq ⊢
      have hq : y1 = nI (q 0) := hq
      refine tp_i (y := nI (q 0)) (hq) ?_
      exact W.iret (v := nI (q 0)) hx hb hr (fun t9 ht _ => ⟨nI (q 0), rfl, ((if_neg (by decide)).trans rfl).symm, ht⟩) (fun q h => by cases h) dX9_told_68
    rcases o with _ | o
    · skip
      refine lv_tableIn (off := 68) (tgt := 69) hx hb dX9_told_1 (by decide) (by decide) (by decide) (by decide) ?_
      refine lv_aload_n hx hb dX9_told_69 rfl (lv_at hl 0 rfl) ?_
      refine va_get (D := D) (ci := 9) (v := .ref pa) (C := RX9) (T := TX9) (N := 13) hx hb hts hi9 hown hG.1 hP 0 rfl rfl 8 (by decide) (hts (.fieldLink RX9 41 "SleptMatters" "place" "LSleptMatters$Town;") (List.mem_cons_of_mem _ (List.mem_append_left _ (List.mem_append_left _ (List.mem_append_left _ (List.mem_append_left _ (List.mem_append_left _ (List.mem_append_left _ (List.mem_append_left _ (List.mem_of_getElem? (i := 0) rfl)))))))))) (fun _ h9 => h9) rfl dX9_told_70 ?_
      refine lv_iconst (v := 1) hx hb dX9_told_73 (by decide) ?_
      have hPc := hP.sub (ws' := (c_X8_count k pa t tn tl tc ta q 1)) [1, 2] rfl
      refine vp_callSi (va_Run.run (va_runV (As := [.int 1]) (rest := []) ⟨hx, hb, hml, hown, hts⟩ (X8_count l D k pa t tn tl tc ta q 1 (by decide)) (cwV 1 hts gX9_told_X8_count rfl rfl rfl (by decide +kernel) ⟨Nat.le_of_ble_eq_true rfl, Nat.le_of_ble_eq_true rfl⟩) ⟨PS.blind _ _ _ _, va_recv hG.1 hP (ci := 8) (q0 := 1) rfl rfl, PS.pre hPc hG [.ref pa, .int 1]⟩ rfl rfl hl.1 rfl (lv_room (Nat.le_of_ble_eq_true rfl)) dX9_told_74 ⟨Nat.le_of_ble_eq_true rfl, Nat.le_of_ble_eq_true rfl⟩)) (fun r hq => ?_)
      generalize r = y2 at hq ⊢
      have hq : y2 = nI (q 1) := hq
      refine tp_i (y := nI (q 1)) (hq) ?_
      exact W.iret (v := nI (q 1)) hx hb hr (fun t9 ht _ => ⟨nI (q 1), rfl, ((if_neg (by decide)).trans rfl).symm, ht⟩) (fun q h => by cases h) dX9_told_77
    rcases o with _ | o
    · skip
      refine lv_tableIn (off := 77) (tgt := 78) hx hb dX9_told_1 (by decide) (by decide) (by decide) (by decide) ?_
      refine lv_aload_n hx hb dX9_told_78 rfl (lv_at hl 0 rfl) ?_
      refine va_get (D := D) (ci := 9) (v := .ref pa) (C := RX9) (T := TX9) (N := 13) hx hb hts hi9 hown hG.1 hP 0 rfl rfl 8 (by decide) (hts (.fieldLink RX9 41 "SleptMatters" "place" "LSleptMatters$Town;") (List.mem_cons_of_mem _ (List.mem_append_left _ (List.mem_append_left _ (List.mem_append_left _ (List.mem_append_left _ (List.mem_append_left _ (List.mem_append_left _ (List.mem_append_left _ (List.mem_of_getElem? (i := 0) rfl)))))))))) (fun _ h9 => h9) rfl dX9_told_79 ?_
      refine lv_iconst (v := 3) hx hb dX9_told_82 (by decide) ?_
      have hPc := hP.sub (ws' := (c_X8_count k pa t tn tl tc ta q 3)) [1, 2] rfl
      refine vp_callSi (va_Run.run (va_runV (As := [.int 3]) (rest := []) ⟨hx, hb, hml, hown, hts⟩ (X8_count l D k pa t tn tl tc ta q 3 (by decide)) (cwV 1 hts gX9_told_X8_count rfl rfl rfl (by decide +kernel) ⟨Nat.le_of_ble_eq_true rfl, Nat.le_of_ble_eq_true rfl⟩) ⟨PS.blind _ _ _ _, va_recv hG.1 hP (ci := 8) (q0 := 1) rfl rfl, PS.pre hPc hG [.ref pa, .int 3]⟩ rfl rfl hl.1 rfl (lv_room (Nat.le_of_ble_eq_true rfl)) dX9_told_83 ⟨Nat.le_of_ble_eq_true rfl, Nat.le_of_ble_eq_true rfl⟩)) (fun r hq => ?_)
      generalize r = y3 at hq ⊢
      have hq : y3 = nI (q 3) := hq
      refine tp_i (y := nI (q 3)) (hq) ?_
      exact W.iret (v := nI (q 3)) hx hb hr (fun t9 ht _ => ⟨nI (q 3), rfl, ((if_neg (by decide)).trans rfl).symm, ht⟩) (fun q h => by cases h) dX9_told_86
    rcases o with _ | o
    · skip
      refine lv_tableIn (off := 86) (tgt := 87) hx hb dX9_told_1 (by decide) (by decide) (by decide) (by decide) ?_
      refine lv_aload_n hx hb dX9_told_87 rfl (lv_at hl 0 rfl) ?_
      refine va_get (D := D) (ci := 9) (v := .ref lw) (C := RX9) (T := TX9) (N := 13) hx hb hts hi9 hown hG.1 hP 0 rfl rfl 10 (by decide) (hts (.fieldLink RX9 51 "SleptMatters" "law" "LSleptMatters$Law;") (List.mem_cons_of_mem _ (List.mem_append_left _ (List.mem_append_left _ (List.mem_append_left _ (List.mem_append_left _ (List.mem_append_left _ (List.mem_append_left _ (List.mem_append_left _ (List.mem_of_getElem? (i := 1) rfl)))))))))) (fun _ h9 => h9) rfl dX9_told_88 ?_
      refine va_get (D := D) (ci := 3) (v := .int (nI nn)) (C := RX3) (T := TX3) (N := 5) hx hb hts hi3 hown hG.1 hP 5 rfl rfl 0 (by decide) (hts (.fieldLink RX9 124 "SleptMatters$Law" "nights" "I") (List.mem_cons_of_mem _ (List.mem_append_left _ (List.mem_append_left _ (List.mem_append_left _ (List.mem_append_left _ (List.mem_append_left _ (List.mem_append_left _ (List.mem_append_left _ (List.mem_of_getElem? (i := 2) rfl)))))))))) (fun _ h9 => h9) rfl dX9_told_91 ?_
      exact W.iret (v := nI nn) hx hb hr (fun t9 ht _ => ⟨nI nn, rfl, ((if_neg (by decide)).trans rfl).symm, ht⟩) (fun q h => by cases h) dX9_told_94
    rcases o with _ | o
    · skip
      refine lv_tableIn (off := 94) (tgt := 95) hx hb dX9_told_1 (by decide) (by decide) (by decide) (by decide) ?_
      refine lv_aload_n hx hb dX9_told_95 rfl (lv_at hl 0 rfl) ?_
      refine va_get (D := D) (ci := 9) (v := .ref lw) (C := RX9) (T := TX9) (N := 13) hx hb hts hi9 hown hG.1 hP 0 rfl rfl 10 (by decide) (hts (.fieldLink RX9 51 "SleptMatters" "law" "LSleptMatters$Law;") (List.mem_cons_of_mem _ (List.mem_append_left _ (List.mem_append_left _ (List.mem_append_left _ (List.mem_append_left _ (List.mem_append_left _ (List.mem_append_left _ (List.mem_append_left _ (List.mem_of_getElem? (i := 1) rfl)))))))))) (fun _ h9 => h9) rfl dX9_told_96 ?_
      refine va_get (D := D) (ci := 3) (v := .int (nI yy)) (C := RX3) (T := TX3) (N := 5) hx hb hts hi3 hown hG.1 hP 5 rfl rfl 1 (by decide) (hts (.fieldLink RX9 127 "SleptMatters$Law" "yes" "I") (List.mem_cons_of_mem _ (List.mem_append_left _ (List.mem_append_left _ (List.mem_append_left _ (List.mem_append_left _ (List.mem_append_left _ (List.mem_append_left _ (List.mem_append_left _ (List.mem_of_getElem? (i := 3) rfl)))))))))) (fun _ h9 => h9) rfl dX9_told_99 ?_
      exact W.iret (v := nI yy) hx hb hr (fun t9 ht _ => ⟨nI yy, rfl, ((if_neg (by decide)).trans rfl).symm, ht⟩) (fun q h => by cases h) dX9_told_102
    rcases o with _ | o
    · skip
      refine lv_tableIn (off := 102) (tgt := 103) hx hb dX9_told_1 (by decide) (by decide) (by decide) (by decide) ?_
      refine lv_aload_n hx hb dX9_told_103 rfl (lv_at hl 0 rfl) ?_
      refine va_get (D := D) (ci := 9) (v := .ref lw) (C := RX9) (T := TX9) (N := 13) hx hb hts hi9 hown hG.1 hP 0 rfl rfl 10 (by decide) (hts (.fieldLink RX9 51 "SleptMatters" "law" "LSleptMatters$Law;") (List.mem_cons_of_mem _ (List.mem_append_left _ (List.mem_append_left _ (List.mem_append_left _ (List.mem_append_left _ (List.mem_append_left _ (List.mem_append_left _ (List.mem_append_left _ (List.mem_of_getElem? (i := 1) rfl)))))))))) (fun _ h9 => h9) rfl dX9_told_104 ?_
      refine va_get (D := D) (ci := 3) (v := .int ag) (C := RX3) (T := TX3) (N := 5) hx hb hts hi3 hown hG.1 hP 5 rfl rfl 2 (by decide) (hts (.fieldLink RX9 130 "SleptMatters$Law" "again" "Z") (List.mem_cons_of_mem _ (List.mem_append_left _ (List.mem_append_left _ (List.mem_append_left _ (List.mem_append_left _ (List.mem_append_left _ (List.mem_append_left _ (List.mem_append_left _ (List.mem_of_getElem? (i := 4) rfl)))))))))) (fun _ h9 => h9) rfl dX9_told_107 ?_
      refine lv_if_eq (x := ag) (tgt := 117) hx hb dX9_told_110 (by decide) (fun c4 => ?_) (fun c4 => ?_)
      · skip
        have k110 := c4
        refine lv_iconst (v := 0) hx hb dX9_told_117 (by decide) ?_
        exact W.iret (v := 0) hx hb hr (fun t9 ht _ => ⟨0, rfl, ((if_neg (by decide)).trans (show (if ag = 0 then (0 : Int32) else 1) = 0 from if_pos k110)).symm, ht⟩) (fun q h => by cases h) dX9_told_118
      · skip
        have k110 := c4
        refine lv_iconst (v := 1) hx hb dX9_told_113 (by decide) ?_
        refine lv_goto (tgt := 118) hx hb dX9_told_114 (by decide) ?_
        exact W.iret (v := 1) hx hb hr (fun t9 ht _ => ⟨1, rfl, ((if_neg (by decide)).trans (show (if ag = 0 then (0 : Int32) else 1) = 1 from if_neg k110)).symm, ht⟩) (fun q h => by cases h) dX9_told_118
    rcases o with _ | o
    · skip
      refine lv_tableIn (off := 118) (tgt := 119) hx hb dX9_told_1 (by decide) (by decide) (by decide) (by decide) ?_
      refine lv_aload_n hx hb dX9_told_119 rfl (lv_at hl 0 rfl) ?_
      refine va_get (D := D) (ci := 9) (v := .ref co) (C := RX9) (T := TX9) (N := 13) hx hb hts hi9 hown hG.1 hP 0 rfl rfl 1 (by decide) (hts (.fieldLink RX9 19 "SleptMatters" "course" "LSleptMatters$Course;") (List.mem_cons_of_mem _ (List.mem_append_left _ (List.mem_append_left _ (List.mem_append_left _ (List.mem_append_left _ (List.mem_append_left _ (List.mem_append_left _ (List.mem_append_left _ (List.mem_of_getElem? (i := 5) rfl)))))))))) (fun _ h9 => h9) rfl dX9_told_120 ?_
      refine va_get (D := D) (ci := 2) (v := .int (nI dy)) (C := RX2) (T := TX2) (N := 10) hx hb hts hi2 hown hG.1 hP 6 rfl rfl 8 (by decide) (hts (.fieldLink RX9 133 "SleptMatters$Course" "day" "I") (List.mem_cons_of_mem _ (List.mem_append_left _ (List.mem_append_left _ (List.mem_append_left _ (List.mem_append_left _ (List.mem_append_left _ (List.mem_append_left _ (List.mem_append_left _ (List.mem_of_getElem? (i := 6) rfl)))))))))) (fun _ h9 => h9) rfl dX9_told_123 ?_
      exact W.iret (v := nI dy) hx hb hr (fun t9 ht _ => ⟨nI dy, rfl, ((if_neg (by decide)).trans rfl).symm, ht⟩) (fun q h => by cases h) dX9_told_126
    rcases o with _ | o
    · skip
      refine lv_tableIn (off := 126) (tgt := 127) hx hb dX9_told_1 (by decide) (by decide) (by decide) (by decide) ?_
      refine lv_aload_n hx hb dX9_told_127 rfl (lv_at hl 0 rfl) ?_
      refine va_get (D := D) (ci := 9) (v := .ref co) (C := RX9) (T := TX9) (N := 13) hx hb hts hi9 hown hG.1 hP 0 rfl rfl 1 (by decide) (hts (.fieldLink RX9 19 "SleptMatters" "course" "LSleptMatters$Course;") (List.mem_cons_of_mem _ (List.mem_append_left _ (List.mem_append_left _ (List.mem_append_left _ (List.mem_append_left _ (List.mem_append_left _ (List.mem_append_left _ (List.mem_append_left _ (List.mem_of_getElem? (i := 5) rfl)))))))))) (fun _ h9 => h9) rfl dX9_told_128 ?_
      refine va_get (D := D) (ci := 2) (v := .int wg) (C := RX2) (T := TX2) (N := 10) hx hb hts hi2 hown hG.1 hP 6 rfl rfl 7 (by decide) (hts (.fieldLink RX9 136 "SleptMatters$Course" "wages" "I") (List.mem_cons_of_mem _ (List.mem_append_left _ (List.mem_append_left _ (List.mem_append_left _ (List.mem_append_left _ (List.mem_append_left _ (List.mem_append_left _ (List.mem_append_left _ (List.mem_of_getElem? (i := 7) rfl)))))))))) (fun _ h9 => h9) rfl dX9_told_131 ?_
      exact W.iret (v := wg) hx hb hr (fun t9 ht _ => ⟨wg, rfl, ((if_neg (by decide)).trans rfl).symm, ht⟩) (fun q h => by cases h) dX9_told_134
    rcases o with _ | o
    · skip
      refine lv_tableIn (off := 134) (tgt := 135) hx hb dX9_told_1 (by decide) (by decide) (by decide) (by decide) ?_
      refine lv_aload_n hx hb dX9_told_135 rfl (lv_at hl 0 rfl) ?_
      refine va_get (D := D) (ci := 9) (v := .ref tx) (C := RX9) (T := TX9) (N := 13) hx hb hts hi9 hown hG.1 hP 0 rfl rfl 0 (by decide) (hts (.fieldLink RX9 10 "SleptMatters" "text" "LSleptMatters$Text;") (List.mem_cons_of_mem _ (List.mem_append_left _ (List.mem_append_left _ (List.mem_append_left _ (List.mem_append_left _ (List.mem_append_left _ (List.mem_append_left _ (List.mem_append_left _ (List.mem_of_getElem? (i := 8) rfl)))))))))) (fun _ h9 => h9) rfl dX9_told_136 ?_
      refine va_get (D := D) (ci := 7) (v := .int v1) (C := RX7) (T := TX7) (N := 8) hx hb hts hi7 hown hG.1 hP 9 rfl rfl 1 (by decide) (hts (.fieldLink RX9 88 "SleptMatters$Text" "size" "I") (List.mem_cons_of_mem _ (List.mem_append_left _ (List.mem_append_left _ (List.mem_append_left _ (List.mem_append_left _ (List.mem_append_left _ (List.mem_append_left _ (List.mem_append_left _ (List.mem_of_getElem? (i := 9) rfl)))))))))) (fun _ h9 => h9) rfl dX9_told_139 ?_
      exact W.iret (v := v1) hx hb hr (fun t9 ht _ => ⟨v1, rfl, ((if_neg (by decide)).trans rfl).symm, ht⟩) (fun q h => by cases h) dX9_told_142
    rcases o with _ | o
    · skip
      refine lv_tableIn (off := 142) (tgt := 143) hx hb dX9_told_1 (by decide) (by decide) (by decide) (by decide) ?_
      refine lv_aload_n hx hb dX9_told_143 rfl (lv_at hl 0 rfl) ?_
      refine va_get (D := D) (ci := 9) (v := .ref bo) (C := RX9) (T := TX9) (N := 13) hx hb hts hi9 hown hG.1 hP 0 rfl rfl 4 (by decide) (hts (.fieldLink RX9 34 "SleptMatters" "book" "LSleptMatters$Book;") (List.mem_cons_of_mem _ (List.mem_append_left _ (List.mem_append_left _ (List.mem_append_left _ (List.mem_append_left _ (List.mem_append_left _ (List.mem_append_left _ (List.mem_append_left _ (List.mem_of_getElem? (i := 10) rfl)))))))))) (fun _ h9 => h9) rfl dX9_told_144 ?_
      refine va_get (D := D) (ci := 0) (v := .int (nI b)) (C := RX0) (T := TX0) (N := 4) hx hb hts hi0 hown hG.1 hP 10 rfl rfl 0 (by decide) (hts (.fieldLink RX9 114 "SleptMatters$Book" "size" "I") (List.mem_cons_of_mem _ (List.mem_append_left _ (List.mem_append_left _ (List.mem_append_left _ (List.mem_append_left _ (List.mem_append_left _ (List.mem_append_left _ (List.mem_append_left _ (List.mem_of_getElem? (i := 11) rfl)))))))))) (fun _ h9 => h9) rfl dX9_told_147 ?_
      exact W.iret (v := nI b) hx hb hr (fun t9 ht _ => ⟨nI b, rfl, ((if_neg (by decide)).trans rfl).symm, ht⟩) (fun q h => by cases h) dX9_told_150
    rcases o with _ | o
    · skip
      refine lv_tableIn (off := 150) (tgt := 151) hx hb dX9_told_1 (by decide) (by decide) (by decide) (by decide) ?_
      refine lv_aload_n hx hb dX9_told_151 rfl (lv_at hl 0 rfl) ?_
      refine va_get (D := D) (ci := 9) (v := .ref co) (C := RX9) (T := TX9) (N := 13) hx hb hts hi9 hown hG.1 hP 0 rfl rfl 1 (by decide) (hts (.fieldLink RX9 19 "SleptMatters" "course" "LSleptMatters$Course;") (List.mem_cons_of_mem _ (List.mem_append_left _ (List.mem_append_left _ (List.mem_append_left _ (List.mem_append_left _ (List.mem_append_left _ (List.mem_append_left _ (List.mem_append_left _ (List.mem_of_getElem? (i := 5) rfl)))))))))) (fun _ h9 => h9) rfl dX9_told_152 ?_
      refine lv_aload_n hx hb dX9_told_155 rfl (lv_at hl 0 rfl) ?_
      refine va_get (D := D) (ci := 9) (v := .ref pa) (C := RX9) (T := TX9) (N := 13) hx hb hts hi9 hown hG.1 hP 0 rfl rfl 8 (by decide) (hts (.fieldLink RX9 41 "SleptMatters" "place" "LSleptMatters$Town;") (List.mem_cons_of_mem _ (List.mem_append_left _ (List.mem_append_left _ (List.mem_append_left _ (List.mem_append_left _ (List.mem_append_left _ (List.mem_append_left _ (List.mem_append_left _ (List.mem_of_getElem? (i := 0) rfl)))))))))) (fun _ h9 => h9) rfl dX9_told_156 ?_
      have hPc := hP.sub (ws' := (c_X2_score k co q0 q1 q2 q3 q4 q5 q6 wg (nI dy) sd f3 f4 pa t tn tl tc ta rw q G3)) [6, 7, 8, 1, 2, 3, 4] rfl
      refine vp_callSi (va_Run.run (va_runV (As := [.ref pa]) (rest := []) ⟨hx, hb, hml, hown, hts⟩ (X2_score l D k co q0 q1 q2 q3 q4 q5 q6 wg (nI dy) sd f3 f4 pa t tn tl tc ta rw q G3 (hq3)) (cwV 1 hts gX9_told_X2_score rfl rfl rfl (by decide +kernel) ⟨Nat.le_of_ble_eq_true rfl, Nat.le_of_ble_eq_true rfl⟩) ⟨PS.blind _ _ _ _, va_recv hG.1 hP (ci := 2) (q0 := 6) rfl rfl, PS.pre hPc hG [.ref co, .ref pa]⟩ rfl rfl hl.1 rfl (lv_room (Nat.le_of_ble_eq_true rfl)) dX9_told_159 ⟨Nat.le_of_ble_eq_true rfl, Nat.le_of_ble_eq_true rfl⟩)) (fun r hq => ?_)
      generalize r = y5 at hq ⊢
      have hq : y5 = scI (q 3) G3 f3 f4 (nI dy) wg (q 3) := hq
      refine tp_i (y := scI (q 3) G3 f3 f4 (nI dy) wg (q 3)) (hq) ?_
      exact W.iret (v := scI (q 3) G3 f3 f4 (nI dy) wg (q 3)) hx hb hr (fun t9 ht _ => ⟨scI (q 3) G3 f3 f4 (nI dy) wg (q 3), rfl, ((if_neg (by decide)).trans rfl).symm, ht⟩) (fun q h => by cases h) dX9_told_162
    exact absurd ho1 (by omega)

abbrev c_X9_house (k : Nat → ClassId) (h : Nat) (tx : Nat) (co : Nat) (im : Nat) (ik : Nat) (bo : Nat) (rs : Nat) (pl : Nat) (ch : Nat) (pa : Nat) (pb : Nat) (lw : Nat) (lv : Nat) (fb : Int32) (t : Nat) (tn : Nat) (tl : Nat) (tc : Nat) (ta : Nat) (rw : Nat → Nat) (q : Nat → Nat) (G0 : Nat → Int32) (q0 : Nat) (q1 : Nat) (q2 : Nat) (q3 : Nat) (q4 : Nat) (q5 : Nat) (q6 : Nat) (wg : Int32) (dy : Nat) (sd : Int32) (f6 : Nat → Int32) (ih : Int32) (wt : Int32) : va_W := [(h, .inr (9, [.ref tx, .ref co, .ref im, .ref ik, .ref bo, .ref rs, .ref pl, .ref ch, .ref pa, .ref pb, .ref lw, .ref lv, .int fb])), (pa, .inr (8, [.ref t, .ref tn, .ref tl, .ref tc, .ref ta])), (t, .inl (k 0, 4, .inl (cI q))), (tn, .inl (k 4, 4, .inr (.inr (.inr (.inr (gr4 rw)))))), ((rw 0), .inl (k 0, 80, .inl G0)), (co, .inr (2, [.ref q0, .ref q1, .ref q2, .ref q3, .ref q4, .ref q5, .ref q6, .int wg, .int (nI dy), .int sd])), (q6, .inl (k 0, 3, .inl f6))]
abbrev r_X9_house : Room := { frames := 3, cells := 0, slots := 0, locals := 69 }
abbrev q_X9_house (k : Nat → ClassId) (h : Nat) (tx : Nat) (co : Nat) (im : Nat) (ik : Nat) (bo : Nat) (rs : Nat) (pl : Nat) (ch : Nat) (pa : Nat) (pb : Nat) (lw : Nat) (lv : Nat) (fb : Int32) (t : Nat) (tn : Nat) (tl : Nat) (tc : Nat) (ta : Nat) (rw : Nat → Nat) (q : Nat → Nat) (G0 : Nat → Int32) (q0 : Nat) (q1 : Nat) (q2 : Nat) (q3 : Nat) (q4 : Nat) (q5 : Nat) (q6 : Nat) (wg : Int32) (dy : Nat) (sd : Int32) (f6 : Nat → Int32) (ih : Int32) (wt : Int32) : Array Value → State → Outcome → State → Prop := vp_Si (fun r => r = dnF (q 0) ih (tdL 2 [pt (q 0) G0 ih 0, pt (q 0) G0 ih 1, bfr (pt (q 0) G0 ih 1) f6 ih] wt))
set_option maxHeartbeats 2000000 in
set_option maxRecDepth 100000 in
theorem X9_house (l : Launch) (D : va_G) (k : Nat → ClassId) (h : Nat) (tx : Nat) (co : Nat) (im : Nat) (ik : Nat) (bo : Nat) (rs : Nat) (pl : Nat) (ch : Nat) (pa : Nat) (pb : Nat) (lw : Nat) (lv : Nat) (fb : Int32) (t : Nat) (tn : Nat) (tl : Nat) (tc : Nat) (ta : Nat) (rw : Nat → Nat) (q : Nat → Nat) (G0 : Nat → Int32) (q0 : Nat) (q1 : Nat) (q2 : Nat) (q3 : Nat) (q4 : Nat) (q5 : Nat) (q6 : Nat) (wg : Int32) (dy : Nat) (sd : Int32) (f6 : Nat → Int32) (ih : Int32) (wt : Int32) (hq0 : q 0 ≤ 7) : Met l yX9_house wsX9_house r_X9_house (va_Pc [.ref h, .int ih, .int wt] (PS D k (c_X9_house k h tx co im ik bo rs pl ch pa pb lw lv fb t tn tl tc ta rw q G0 q0 q1 q2 q3 q4 q5 q6 wg dy sd f6 ih wt))) (q_X9_house k h tx co im ik bo rs pl ch pa pb lw lv fb t tn tl tc ta rw q G0 q0 q1 q2 q3 q4 q5 q6 wg dy sd f6 ih wt) 0 0 (fun _ => False) := by
  refine Met.ofW (cc := cX9_house) (maxL := 3) (ret := (some .int)) (by decide) rfl ?_
  intro p e s m args below meth c s₁ B hml hv
  obtain ⟨rfl, hP, hG⟩ := hv
  have hx := B.exec
  have hb := B.bytes
  have hr := B.returns
  have hts := atoms_spec (ws := wsX9_house) B.pre
  have hown : s.vm.findClass RX9 = some m.cls := findClass_of_methodNamed B.named
  have hlocks := B.notSynchronized
  have hi9 : ∀ w ∈ wsX90, w ∈ wsX9_house := fun _ h => List.mem_cons_of_mem _ (List.mem_append_left _ (List.mem_append_left _ (List.mem_append_right _ h)))
  have hi8 : ∀ w ∈ wsX80, w ∈ wsX9_house := fun _ h => List.mem_cons_of_mem _ (List.mem_append_left _ (List.mem_append_right _ h))
  have hi2 : ∀ w ∈ wsX20, w ∈ wsX9_house := fun _ h => List.mem_cons_of_mem _ (List.mem_append_right _ h)
  have hP : va_P D vwCl [(h, .inr (9, [.ref tx, .ref co, .ref im, .ref ik, .ref bo, .ref rs, .ref pl, .ref ch, .ref pa, .ref pb, .ref lw, .ref lv, .int fb])), (pa, .inr (8, [.ref t, .ref tn, .ref tl, .ref tc, .ref ta])), (t, .inl (k 0, 4, .inl (cI q))), (tn, .inl (k 4, 4, .inr (.inr (.inr (.inr (gr4 rw)))))), ((rw 0), .inl (k 0, 80, .inl G0)), (co, .inr (2, [.ref q0, .ref q1, .ref q2, .ref q3, .ref q4, .ref q5, .ref q6, .int wg, .int (nI dy), .int sd])), (q6, .inl (k 0, 3, .inl f6))] s.heap := hP
  have hl := lv_entry ([.ref h, .int ih, .int wt]) (n := 3) (Nat.le_of_ble_eq_true rfl)
  rw [lg_entry_eq]
  generalize (lg_sl ([.ref h, .int ih, .int wt]) ++ List.replicate (3 - (lg_sl ([.ref h, .int ih, .int wt])).length) Slot.unset).toArray = ls at hl ⊢
  have hl : lv_has ls 3 [(0, .ref h), (1, .int ih), (2, .int wt)] := hl
  refine lv_aload_n hx hb dX9_house_0 rfl (lv_at hl 0 rfl) ?_
  refine va_get (D := D) (ci := 9) (v := .ref pa) (C := RX9) (T := TX9) (N := 13) hx hb hts hi9 hown hG.1 hP 0 rfl rfl 8 (by decide) (hts (.fieldLink RX9 41 "SleptMatters" "place" "LSleptMatters$Town;") (List.mem_cons_of_mem _ (List.mem_append_left _ (List.mem_append_left _ (List.mem_append_left _ (List.mem_of_getElem? (i := 0) rfl)))))) (fun _ h9 => h9) rfl dX9_house_1 ?_
  refine lv_iconst (v := 0) hx hb dX9_house_4 (by decide) ?_
  refine lv_iload_n hx hb dX9_house_5 rfl (lv_at hl 1 rfl) ?_
  have hPc := hP.sub (ws' := (c_X8_has k pa t tn tl tc ta q 0 ih)) [1, 2] rfl
  refine vp_callSi (va_Run.run (va_runV (As := [.int 0, .int ih]) (rest := []) ⟨hx, hb, hml, hown, hts⟩ (X8_has l D k pa t tn tl tc ta q 0 ih (by decide)) (cwV 2 hts gX9_house_X8_has rfl rfl rfl (by decide +kernel) ⟨Nat.le_of_ble_eq_true rfl, Nat.le_of_ble_eq_true rfl⟩) ⟨PS.blind _ _ _ _, va_recv hG.1 hP (ci := 8) (q0 := 1) rfl rfl, PS.pre hPc hG [.ref pa, .int 0, .int ih]⟩ rfl rfl hl.1 rfl (lv_room (Nat.le_of_ble_eq_true rfl)) dX9_house_6 ⟨Nat.le_of_ble_eq_true rfl, Nat.le_of_ble_eq_true rfl⟩)) (fun r hq => ?_)
  generalize r = y1 at hq ⊢
  have hq : y1 = hs (q 0) ih := hq
  refine tp_i (y := hs (q 0) ih) (hq) ?_
  refine lv_if_ne (x := hs (q 0) ih) (tgt := 15) hx hb dX9_house_9 (by decide) (fun c2 => ?_) (fun c2 => ?_)
  · skip
    have k9 := c2
    refine lv_iload_n hx hb dX9_house_15 rfl (lv_at hl 2 rfl) ?_
    by_cases ho : wt.toInt < 0 ∨ 2 < wt.toInt
    · skip
      refine lv_tableOut (tgt := 79) hx hb dX9_house_16 ho (by decide) ?_
      refine lv_ldc (v := (-1000000002)) hx hb hown (hts (.constant RX9 87 (-1000000002)) (List.mem_cons_of_mem _ (List.mem_append_left _ (List.mem_append_left _ (List.mem_append_left _ (List.mem_of_getElem? (i := 3) rfl)))))) dX9_house_79 ?_
      exact W.iret (v := (-1000000002)) hx hb hr (fun t9 ht _ => ⟨(-1000000002), rfl, ((if_neg k9).trans (if_pos ho)).symm, ht⟩) (fun q h => by cases h) dX9_house_81
    · skip
      obtain ⟨o, ho1, rfl⟩ : ∃ o : Nat, o < 3 ∧ wt = nI o := sw_nat (x := wt) (n := 3) (by omega) (by omega)
      rcases o with _ | o
      · skip
        refine lv_tableIn (off := 28) (tgt := 44) hx hb dX9_house_16 (by decide) (by decide) (by decide) (by decide) ?_
        refine lv_aload_n hx hb dX9_house_44 rfl (lv_at hl 0 rfl) ?_
        refine va_get (D := D) (ci := 9) (v := .ref pa) (C := RX9) (T := TX9) (N := 13) hx hb hts hi9 hown hG.1 hP 0 rfl rfl 8 (by decide) (hts (.fieldLink RX9 41 "SleptMatters" "place" "LSleptMatters$Town;") (List.mem_cons_of_mem _ (List.mem_append_left _ (List.mem_append_left _ (List.mem_append_left _ (List.mem_of_getElem? (i := 0) rfl)))))) (fun _ h9 => h9) rfl dX9_house_45 ?_
        refine lv_iconst (v := 0) hx hb dX9_house_48 (by decide) ?_
        refine lv_iload_n hx hb dX9_house_49 rfl (lv_at hl 1 rfl) ?_
        refine lv_iconst (v := 0) hx hb dX9_house_50 (by decide) ?_
        have hPc := hP.sub (ws' := (c_X8_part0 k pa t tn tl tc ta rw q G0 ih 0)) [1, 2, 3, 4] rfl
        refine vp_callSi (va_Run.run (va_runV (As := [.int 0, .int ih, .int 0]) (rest := []) ⟨hx, hb, hml, hown, hts⟩ (X8_part0 l D k pa t tn tl tc ta rw q G0 ih 0 (by omega) (by decide)) (cwV 3 hts gX9_house_X8_part rfl rfl rfl (by decide +kernel) ⟨Nat.le_of_ble_eq_true rfl, Nat.le_of_ble_eq_true rfl⟩) ⟨PS.blind _ _ _ _, va_recv hG.1 hP (ci := 8) (q0 := 1) rfl rfl, PS.pre hPc hG [.ref pa, .int 0, .int ih, .int 0]⟩ rfl rfl hl.1 rfl (lv_room (Nat.le_of_ble_eq_true rfl)) dX9_house_51 ⟨Nat.le_of_ble_eq_true rfl, Nat.le_of_ble_eq_true rfl⟩)) (fun r hq => ?_)
        generalize r = y3 at hq ⊢
        have hq : y3 = pt (q 0) G0 ih 0 := hq
        refine tp_i (y := pt (q 0) G0 ih 0) (hq) ?_
        exact W.iret (v := pt (q 0) G0 ih 0) hx hb hr (fun t9 ht _ => ⟨pt (q 0) G0 ih 0, rfl, ((if_neg k9).trans ((if_neg (by decide)).trans rfl)).symm, ht⟩) (fun q h => by cases h) dX9_house_54
      rcases o with _ | o
      · skip
        refine lv_tableIn (off := 39) (tgt := 55) hx hb dX9_house_16 (by decide) (by decide) (by decide) (by decide) ?_
        refine lv_aload_n hx hb dX9_house_55 rfl (lv_at hl 0 rfl) ?_
        refine va_get (D := D) (ci := 9) (v := .ref pa) (C := RX9) (T := TX9) (N := 13) hx hb hts hi9 hown hG.1 hP 0 rfl rfl 8 (by decide) (hts (.fieldLink RX9 41 "SleptMatters" "place" "LSleptMatters$Town;") (List.mem_cons_of_mem _ (List.mem_append_left _ (List.mem_append_left _ (List.mem_append_left _ (List.mem_of_getElem? (i := 0) rfl)))))) (fun _ h9 => h9) rfl dX9_house_56 ?_
        refine lv_iconst (v := 0) hx hb dX9_house_59 (by decide) ?_
        refine lv_iload_n hx hb dX9_house_60 rfl (lv_at hl 1 rfl) ?_
        refine lv_iconst (v := 1) hx hb dX9_house_61 (by decide) ?_
        have hPc := hP.sub (ws' := (c_X8_part0 k pa t tn tl tc ta rw q G0 ih 1)) [1, 2, 3, 4] rfl
        refine vp_callSi (va_Run.run (va_runV (As := [.int 0, .int ih, .int 1]) (rest := []) ⟨hx, hb, hml, hown, hts⟩ (X8_part0 l D k pa t tn tl tc ta rw q G0 ih 1 (by omega) (by decide)) (cwV 3 hts gX9_house_X8_part rfl rfl rfl (by decide +kernel) ⟨Nat.le_of_ble_eq_true rfl, Nat.le_of_ble_eq_true rfl⟩) ⟨PS.blind _ _ _ _, va_recv hG.1 hP (ci := 8) (q0 := 1) rfl rfl, PS.pre hPc hG [.ref pa, .int 0, .int ih, .int 1]⟩ rfl rfl hl.1 rfl (lv_room (Nat.le_of_ble_eq_true rfl)) dX9_house_62 ⟨Nat.le_of_ble_eq_true rfl, Nat.le_of_ble_eq_true rfl⟩)) (fun r hq => ?_)
        generalize r = y4 at hq ⊢
        have hq : y4 = pt (q 0) G0 ih 1 := hq
        refine tp_i (y := pt (q 0) G0 ih 1) (hq) ?_
        exact W.iret (v := pt (q 0) G0 ih 1) hx hb hr (fun t9 ht _ => ⟨pt (q 0) G0 ih 1, rfl, ((if_neg k9).trans ((if_neg (by decide)).trans rfl)).symm, ht⟩) (fun q h => by cases h) dX9_house_65
      rcases o with _ | o
      · skip
        refine lv_tableIn (off := 50) (tgt := 66) hx hb dX9_house_16 (by decide) (by decide) (by decide) (by decide) ?_
        refine lv_aload_n hx hb dX9_house_66 rfl (lv_at hl 0 rfl) ?_
        refine va_get (D := D) (ci := 9) (v := .ref co) (C := RX9) (T := TX9) (N := 13) hx hb hts hi9 hown hG.1 hP 0 rfl rfl 1 (by decide) (hts (.fieldLink RX9 19 "SleptMatters" "course" "LSleptMatters$Course;") (List.mem_cons_of_mem _ (List.mem_append_left _ (List.mem_append_left _ (List.mem_append_left _ (List.mem_of_getElem? (i := 2) rfl)))))) (fun _ h9 => h9) rfl dX9_house_67 ?_
        refine lv_aload_n hx hb dX9_house_70 rfl (lv_at hl 0 rfl) ?_
        refine va_get (D := D) (ci := 9) (v := .ref pa) (C := RX9) (T := TX9) (N := 13) hx hb hts hi9 hown hG.1 hP 0 rfl rfl 8 (by decide) (hts (.fieldLink RX9 41 "SleptMatters" "place" "LSleptMatters$Town;") (List.mem_cons_of_mem _ (List.mem_append_left _ (List.mem_append_left _ (List.mem_append_left _ (List.mem_of_getElem? (i := 0) rfl)))))) (fun _ h9 => h9) rfl dX9_house_71 ?_
        refine lv_iload_n hx hb dX9_house_74 rfl (lv_at hl 1 rfl) ?_
        have hPc := hP.sub (ws' := (c_X2_bedsFree k co q0 q1 q2 q3 q4 q5 q6 wg (nI dy) sd f6 pa t tn tl tc ta rw q G0 ih)) [5, 6, 1, 2, 3, 4] rfl
        refine vp_callSi (va_Run.run (va_runV (As := [.ref pa, .int ih]) (rest := []) ⟨hx, hb, hml, hown, hts⟩ (X2_bedsFree l D k co q0 q1 q2 q3 q4 q5 q6 wg (nI dy) sd f6 pa t tn tl tc ta rw q G0 ih (hq0)) (cwV 2 hts gX9_house_X2_bedsFree rfl rfl rfl (by decide +kernel) ⟨Nat.le_of_ble_eq_true rfl, Nat.le_of_ble_eq_true rfl⟩) ⟨PS.blind _ _ _ _, va_recv hG.1 hP (ci := 2) (q0 := 5) rfl rfl, PS.pre hPc hG [.ref co, .ref pa, .int ih]⟩ rfl rfl hl.1 rfl (lv_room (Nat.le_of_ble_eq_true rfl)) dX9_house_75 ⟨Nat.le_of_ble_eq_true rfl, Nat.le_of_ble_eq_true rfl⟩)) (fun r hq => ?_)
        generalize r = y5 at hq ⊢
        have hq : y5 = bfr (pt (q 0) G0 ih 1) f6 ih := hq
        refine tp_i (y := bfr (pt (q 0) G0 ih 1) f6 ih) (hq) ?_
        exact W.iret (v := bfr (pt (q 0) G0 ih 1) f6 ih) hx hb hr (fun t9 ht _ => ⟨bfr (pt (q 0) G0 ih 1) f6 ih, rfl, ((if_neg k9).trans ((if_neg (by decide)).trans rfl)).symm, ht⟩) (fun q h => by cases h) dX9_house_78
      exact absurd ho1 (by omega)
  · skip
    have k9 := c2
    refine lv_ldc (v := (-1000000001)) hx hb hown (hts (.constant RX9 147 (-1000000001)) (List.mem_cons_of_mem _ (List.mem_append_left _ (List.mem_append_left _ (List.mem_append_left _ (List.mem_of_getElem? (i := 1) rfl)))))) dX9_house_12 ?_
    exact W.iret (v := (-1000000001)) hx hb hr (fun t9 ht _ => ⟨(-1000000001), rfl, (if_pos k9).symm, ht⟩) (fun q h => by cases h) dX9_house_14

abbrev c_X9_sleeper (k : Nat → ClassId) (h : Nat) (tx : Nat) (co : Nat) (im : Nat) (ik : Nat) (bo : Nat) (rs : Nat) (pl : Nat) (ch : Nat) (pa : Nat) (pb : Nat) (lw : Nat) (lv : Nat) (fb : Int32) (t : Nat) (tn : Nat) (tl : Nat) (tc : Nat) (ta : Nat) (rw : Nat → Nat) (q : Nat → Nat) (G1 : Nat → Int32) (q0 : Nat) (q1 : Nat) (q2 : Nat) (q3 : Nat) (q4 : Nat) (q5 : Nat) (q6 : Nat) (wg : Int32) (dy : Nat) (sd : Int32) (f5 : Nat → Int32) (ih : Int32) (wt : Int32) : va_W := [(h, .inr (9, [.ref tx, .ref co, .ref im, .ref ik, .ref bo, .ref rs, .ref pl, .ref ch, .ref pa, .ref pb, .ref lw, .ref lv, .int fb])), (pa, .inr (8, [.ref t, .ref tn, .ref tl, .ref tc, .ref ta])), (t, .inl (k 0, 4, .inl (cI q))), (tn, .inl (k 4, 4, .inr (.inr (.inr (.inr (gr4 rw)))))), ((rw 1), .inl (k 0, 80, .inl G1)), (co, .inr (2, [.ref q0, .ref q1, .ref q2, .ref q3, .ref q4, .ref q5, .ref q6, .int wg, .int (nI dy), .int sd])), (q5, .inl (k 0, 3, .inl f5))]
abbrev r_X9_sleeper : Room := { frames := 2, cells := 0, slots := 0, locals := 45 }
abbrev q_X9_sleeper (k : Nat → ClassId) (h : Nat) (tx : Nat) (co : Nat) (im : Nat) (ik : Nat) (bo : Nat) (rs : Nat) (pl : Nat) (ch : Nat) (pa : Nat) (pb : Nat) (lw : Nat) (lv : Nat) (fb : Int32) (t : Nat) (tn : Nat) (tl : Nat) (tc : Nat) (ta : Nat) (rw : Nat → Nat) (q : Nat → Nat) (G1 : Nat → Int32) (q0 : Nat) (q1 : Nat) (q2 : Nat) (q3 : Nat) (q4 : Nat) (q5 : Nat) (q6 : Nat) (wg : Int32) (dy : Nat) (sd : Int32) (f5 : Nat → Int32) (ih : Int32) (wt : Int32) : Array Value → State → Outcome → State → Prop := vp_Si (fun r => r = dnF (q 1) ih (tdL 3 [pt (q 1) G1 ih 0, pt (q 1) G1 ih 1, pt (q 1) G1 ih 2, mof f5 ih] wt))
set_option maxHeartbeats 2000000 in
set_option maxRecDepth 100000 in
theorem X9_sleeper (l : Launch) (D : va_G) (k : Nat → ClassId) (h : Nat) (tx : Nat) (co : Nat) (im : Nat) (ik : Nat) (bo : Nat) (rs : Nat) (pl : Nat) (ch : Nat) (pa : Nat) (pb : Nat) (lw : Nat) (lv : Nat) (fb : Int32) (t : Nat) (tn : Nat) (tl : Nat) (tc : Nat) (ta : Nat) (rw : Nat → Nat) (q : Nat → Nat) (G1 : Nat → Int32) (q0 : Nat) (q1 : Nat) (q2 : Nat) (q3 : Nat) (q4 : Nat) (q5 : Nat) (q6 : Nat) (wg : Int32) (dy : Nat) (sd : Int32) (f5 : Nat → Int32) (ih : Int32) (wt : Int32) (hq1 : q 1 ≤ 7) : Met l yX9_sleeper wsX9_sleeper r_X9_sleeper (va_Pc [.ref h, .int ih, .int wt] (PS D k (c_X9_sleeper k h tx co im ik bo rs pl ch pa pb lw lv fb t tn tl tc ta rw q G1 q0 q1 q2 q3 q4 q5 q6 wg dy sd f5 ih wt))) (q_X9_sleeper k h tx co im ik bo rs pl ch pa pb lw lv fb t tn tl tc ta rw q G1 q0 q1 q2 q3 q4 q5 q6 wg dy sd f5 ih wt) 0 0 (fun _ => False) := by
  refine Met.ofW (cc := cX9_sleeper) (maxL := 3) (ret := (some .int)) (by decide) rfl ?_
  intro p e s m args below meth c s₁ B hml hv
  obtain ⟨rfl, hP, hG⟩ := hv
  have hx := B.exec
  have hb := B.bytes
  have hr := B.returns
  have hts := atoms_spec (ws := wsX9_sleeper) B.pre
  have hown : s.vm.findClass RX9 = some m.cls := findClass_of_methodNamed B.named
  have hlocks := B.notSynchronized
  have hi9 : ∀ w ∈ wsX90, w ∈ wsX9_sleeper := fun _ h => List.mem_cons_of_mem _ (List.mem_append_left _ (List.mem_append_left _ (List.mem_append_right _ h)))
  have hi8 : ∀ w ∈ wsX80, w ∈ wsX9_sleeper := fun _ h => List.mem_cons_of_mem _ (List.mem_append_left _ (List.mem_append_right _ h))
  have hi2 : ∀ w ∈ wsX20, w ∈ wsX9_sleeper := fun _ h => List.mem_cons_of_mem _ (List.mem_append_right _ h)
  have hP : va_P D vwCl [(h, .inr (9, [.ref tx, .ref co, .ref im, .ref ik, .ref bo, .ref rs, .ref pl, .ref ch, .ref pa, .ref pb, .ref lw, .ref lv, .int fb])), (pa, .inr (8, [.ref t, .ref tn, .ref tl, .ref tc, .ref ta])), (t, .inl (k 0, 4, .inl (cI q))), (tn, .inl (k 4, 4, .inr (.inr (.inr (.inr (gr4 rw)))))), ((rw 1), .inl (k 0, 80, .inl G1)), (co, .inr (2, [.ref q0, .ref q1, .ref q2, .ref q3, .ref q4, .ref q5, .ref q6, .int wg, .int (nI dy), .int sd])), (q5, .inl (k 0, 3, .inl f5))] s.heap := hP
  have hl := lv_entry ([.ref h, .int ih, .int wt]) (n := 3) (Nat.le_of_ble_eq_true rfl)
  rw [lg_entry_eq]
  generalize (lg_sl ([.ref h, .int ih, .int wt]) ++ List.replicate (3 - (lg_sl ([.ref h, .int ih, .int wt])).length) Slot.unset).toArray = ls at hl ⊢
  have hl : lv_has ls 3 [(0, .ref h), (1, .int ih), (2, .int wt)] := hl
  refine lv_aload_n hx hb dX9_sleeper_0 rfl (lv_at hl 0 rfl) ?_
  refine va_get (D := D) (ci := 9) (v := .ref pa) (C := RX9) (T := TX9) (N := 13) hx hb hts hi9 hown hG.1 hP 0 rfl rfl 8 (by decide) (hts (.fieldLink RX9 41 "SleptMatters" "place" "LSleptMatters$Town;") (List.mem_cons_of_mem _ (List.mem_append_left _ (List.mem_append_left _ (List.mem_append_left _ (List.mem_of_getElem? (i := 0) rfl)))))) (fun _ h9 => h9) rfl dX9_sleeper_1 ?_
  refine lv_iconst (v := 1) hx hb dX9_sleeper_4 (by decide) ?_
  refine lv_iload_n hx hb dX9_sleeper_5 rfl (lv_at hl 1 rfl) ?_
  have hPc := hP.sub (ws' := (c_X8_has k pa t tn tl tc ta q 1 ih)) [1, 2] rfl
  refine vp_callSi (va_Run.run (va_runV (As := [.int 1, .int ih]) (rest := []) ⟨hx, hb, hml, hown, hts⟩ (X8_has l D k pa t tn tl tc ta q 1 ih (by decide)) (cwV 2 hts gX9_sleeper_X8_has rfl rfl rfl (by decide +kernel) ⟨Nat.le_of_ble_eq_true rfl, Nat.le_of_ble_eq_true rfl⟩) ⟨PS.blind _ _ _ _, va_recv hG.1 hP (ci := 8) (q0 := 1) rfl rfl, PS.pre hPc hG [.ref pa, .int 1, .int ih]⟩ rfl rfl hl.1 rfl (lv_room (Nat.le_of_ble_eq_true rfl)) dX9_sleeper_6 ⟨Nat.le_of_ble_eq_true rfl, Nat.le_of_ble_eq_true rfl⟩)) (fun r hq => ?_)
  generalize r = y1 at hq ⊢
  have hq : y1 = hs (q 1) ih := hq
  refine tp_i (y := hs (q 1) ih) (hq) ?_
  refine lv_if_ne (x := hs (q 1) ih) (tgt := 15) hx hb dX9_sleeper_9 (by decide) (fun c2 => ?_) (fun c2 => ?_)
  · skip
    have k9 := c2
    refine lv_iload_n hx hb dX9_sleeper_15 rfl (lv_at hl 2 rfl) ?_
    by_cases ho : wt.toInt < 0 ∨ 3 < wt.toInt
    · skip
      refine lv_tableOut (tgt := 90) hx hb dX9_sleeper_16 ho (by decide) ?_
      refine lv_ldc (v := (-1000000002)) hx hb hown (hts (.constant RX9 87 (-1000000002)) (List.mem_cons_of_mem _ (List.mem_append_left _ (List.mem_append_left _ (List.mem_append_left _ (List.mem_of_getElem? (i := 3) rfl)))))) dX9_sleeper_90 ?_
      exact W.iret (v := (-1000000002)) hx hb hr (fun t9 ht _ => ⟨(-1000000002), rfl, ((if_neg k9).trans (if_pos ho)).symm, ht⟩) (fun q h => by cases h) dX9_sleeper_92
    · skip
      obtain ⟨o, ho1, rfl⟩ : ∃ o : Nat, o < 4 ∧ wt = nI o := sw_nat (x := wt) (n := 4) (by omega) (by omega)
      rcases o with _ | o
      · skip
        refine lv_tableIn (off := 32) (tgt := 48) hx hb dX9_sleeper_16 (by decide) (by decide) (by decide) (by decide) ?_
        refine lv_aload_n hx hb dX9_sleeper_48 rfl (lv_at hl 0 rfl) ?_
        refine va_get (D := D) (ci := 9) (v := .ref pa) (C := RX9) (T := TX9) (N := 13) hx hb hts hi9 hown hG.1 hP 0 rfl rfl 8 (by decide) (hts (.fieldLink RX9 41 "SleptMatters" "place" "LSleptMatters$Town;") (List.mem_cons_of_mem _ (List.mem_append_left _ (List.mem_append_left _ (List.mem_append_left _ (List.mem_of_getElem? (i := 0) rfl)))))) (fun _ h9 => h9) rfl dX9_sleeper_49 ?_
        refine lv_iconst (v := 1) hx hb dX9_sleeper_52 (by decide) ?_
        refine lv_iload_n hx hb dX9_sleeper_53 rfl (lv_at hl 1 rfl) ?_
        refine lv_iconst (v := 0) hx hb dX9_sleeper_54 (by decide) ?_
        have hPc := hP.sub (ws' := (c_X8_part1 k pa t tn tl tc ta rw q G1 ih 0)) [1, 2, 3, 4] rfl
        refine vp_callSi (va_Run.run (va_runV (As := [.int 1, .int ih, .int 0]) (rest := []) ⟨hx, hb, hml, hown, hts⟩ (X8_part1 l D k pa t tn tl tc ta rw q G1 ih 0 (by omega) (by decide)) (cwV 3 hts gX9_sleeper_X8_part rfl rfl rfl (by decide +kernel) ⟨Nat.le_of_ble_eq_true rfl, Nat.le_of_ble_eq_true rfl⟩) ⟨PS.blind _ _ _ _, va_recv hG.1 hP (ci := 8) (q0 := 1) rfl rfl, PS.pre hPc hG [.ref pa, .int 1, .int ih, .int 0]⟩ rfl rfl hl.1 rfl (lv_room (Nat.le_of_ble_eq_true rfl)) dX9_sleeper_55 ⟨Nat.le_of_ble_eq_true rfl, Nat.le_of_ble_eq_true rfl⟩)) (fun r hq => ?_)
        generalize r = y3 at hq ⊢
        have hq : y3 = pt (q 1) G1 ih 0 := hq
        refine tp_i (y := pt (q 1) G1 ih 0) (hq) ?_
        exact W.iret (v := pt (q 1) G1 ih 0) hx hb hr (fun t9 ht _ => ⟨pt (q 1) G1 ih 0, rfl, ((if_neg k9).trans ((if_neg (by decide)).trans rfl)).symm, ht⟩) (fun q h => by cases h) dX9_sleeper_58
      rcases o with _ | o
      · skip
        refine lv_tableIn (off := 43) (tgt := 59) hx hb dX9_sleeper_16 (by decide) (by decide) (by decide) (by decide) ?_
        refine lv_aload_n hx hb dX9_sleeper_59 rfl (lv_at hl 0 rfl) ?_
        refine va_get (D := D) (ci := 9) (v := .ref pa) (C := RX9) (T := TX9) (N := 13) hx hb hts hi9 hown hG.1 hP 0 rfl rfl 8 (by decide) (hts (.fieldLink RX9 41 "SleptMatters" "place" "LSleptMatters$Town;") (List.mem_cons_of_mem _ (List.mem_append_left _ (List.mem_append_left _ (List.mem_append_left _ (List.mem_of_getElem? (i := 0) rfl)))))) (fun _ h9 => h9) rfl dX9_sleeper_60 ?_
        refine lv_iconst (v := 1) hx hb dX9_sleeper_63 (by decide) ?_
        refine lv_iload_n hx hb dX9_sleeper_64 rfl (lv_at hl 1 rfl) ?_
        refine lv_iconst (v := 1) hx hb dX9_sleeper_65 (by decide) ?_
        have hPc := hP.sub (ws' := (c_X8_part1 k pa t tn tl tc ta rw q G1 ih 1)) [1, 2, 3, 4] rfl
        refine vp_callSi (va_Run.run (va_runV (As := [.int 1, .int ih, .int 1]) (rest := []) ⟨hx, hb, hml, hown, hts⟩ (X8_part1 l D k pa t tn tl tc ta rw q G1 ih 1 (by omega) (by decide)) (cwV 3 hts gX9_sleeper_X8_part rfl rfl rfl (by decide +kernel) ⟨Nat.le_of_ble_eq_true rfl, Nat.le_of_ble_eq_true rfl⟩) ⟨PS.blind _ _ _ _, va_recv hG.1 hP (ci := 8) (q0 := 1) rfl rfl, PS.pre hPc hG [.ref pa, .int 1, .int ih, .int 1]⟩ rfl rfl hl.1 rfl (lv_room (Nat.le_of_ble_eq_true rfl)) dX9_sleeper_66 ⟨Nat.le_of_ble_eq_true rfl, Nat.le_of_ble_eq_true rfl⟩)) (fun r hq => ?_)
        generalize r = y4 at hq ⊢
        have hq : y4 = pt (q 1) G1 ih 1 := hq
        refine tp_i (y := pt (q 1) G1 ih 1) (hq) ?_
        exact W.iret (v := pt (q 1) G1 ih 1) hx hb hr (fun t9 ht _ => ⟨pt (q 1) G1 ih 1, rfl, ((if_neg k9).trans ((if_neg (by decide)).trans rfl)).symm, ht⟩) (fun q h => by cases h) dX9_sleeper_69
      rcases o with _ | o
      · skip
        refine lv_tableIn (off := 54) (tgt := 70) hx hb dX9_sleeper_16 (by decide) (by decide) (by decide) (by decide) ?_
        refine lv_aload_n hx hb dX9_sleeper_70 rfl (lv_at hl 0 rfl) ?_
        refine va_get (D := D) (ci := 9) (v := .ref pa) (C := RX9) (T := TX9) (N := 13) hx hb hts hi9 hown hG.1 hP 0 rfl rfl 8 (by decide) (hts (.fieldLink RX9 41 "SleptMatters" "place" "LSleptMatters$Town;") (List.mem_cons_of_mem _ (List.mem_append_left _ (List.mem_append_left _ (List.mem_append_left _ (List.mem_of_getElem? (i := 0) rfl)))))) (fun _ h9 => h9) rfl dX9_sleeper_71 ?_
        refine lv_iconst (v := 1) hx hb dX9_sleeper_74 (by decide) ?_
        refine lv_iload_n hx hb dX9_sleeper_75 rfl (lv_at hl 1 rfl) ?_
        refine lv_iconst (v := 2) hx hb dX9_sleeper_76 (by decide) ?_
        have hPc := hP.sub (ws' := (c_X8_part1 k pa t tn tl tc ta rw q G1 ih 2)) [1, 2, 3, 4] rfl
        refine vp_callSi (va_Run.run (va_runV (As := [.int 1, .int ih, .int 2]) (rest := []) ⟨hx, hb, hml, hown, hts⟩ (X8_part1 l D k pa t tn tl tc ta rw q G1 ih 2 (by omega) (by decide)) (cwV 3 hts gX9_sleeper_X8_part rfl rfl rfl (by decide +kernel) ⟨Nat.le_of_ble_eq_true rfl, Nat.le_of_ble_eq_true rfl⟩) ⟨PS.blind _ _ _ _, va_recv hG.1 hP (ci := 8) (q0 := 1) rfl rfl, PS.pre hPc hG [.ref pa, .int 1, .int ih, .int 2]⟩ rfl rfl hl.1 rfl (lv_room (Nat.le_of_ble_eq_true rfl)) dX9_sleeper_77 ⟨Nat.le_of_ble_eq_true rfl, Nat.le_of_ble_eq_true rfl⟩)) (fun r hq => ?_)
        generalize r = y5 at hq ⊢
        have hq : y5 = pt (q 1) G1 ih 2 := hq
        refine tp_i (y := pt (q 1) G1 ih 2) (hq) ?_
        exact W.iret (v := pt (q 1) G1 ih 2) hx hb hr (fun t9 ht _ => ⟨pt (q 1) G1 ih 2, rfl, ((if_neg k9).trans ((if_neg (by decide)).trans rfl)).symm, ht⟩) (fun q h => by cases h) dX9_sleeper_80
      rcases o with _ | o
      · skip
        refine lv_tableIn (off := 65) (tgt := 81) hx hb dX9_sleeper_16 (by decide) (by decide) (by decide) (by decide) ?_
        refine lv_aload_n hx hb dX9_sleeper_81 rfl (lv_at hl 0 rfl) ?_
        refine va_get (D := D) (ci := 9) (v := .ref co) (C := RX9) (T := TX9) (N := 13) hx hb hts hi9 hown hG.1 hP 0 rfl rfl 1 (by decide) (hts (.fieldLink RX9 19 "SleptMatters" "course" "LSleptMatters$Course;") (List.mem_cons_of_mem _ (List.mem_append_left _ (List.mem_append_left _ (List.mem_append_left _ (List.mem_of_getElem? (i := 2) rfl)))))) (fun _ h9 => h9) rfl dX9_sleeper_82 ?_
        refine lv_iload_n hx hb dX9_sleeper_85 rfl (lv_at hl 1 rfl) ?_
        have hPc := hP.sub (ws' := (c_X2_matterOf k co q0 q1 q2 q3 q4 q5 q6 wg (nI dy) sd f5 ih)) [5, 6] rfl
        refine vp_callSi (va_Run.run (va_runV (As := [.int ih]) (rest := []) ⟨hx, hb, hml, hown, hts⟩ (X2_matterOf l D k co q0 q1 q2 q3 q4 q5 q6 wg (nI dy) sd f5 ih ) (cwV 1 hts gX9_sleeper_X2_matterOf rfl rfl rfl (by decide +kernel) ⟨Nat.le_of_ble_eq_true rfl, Nat.le_of_ble_eq_true rfl⟩) ⟨PS.blind _ _ _ _, va_recv hG.1 hP (ci := 2) (q0 := 5) rfl rfl, PS.pre hPc hG [.ref co, .int ih]⟩ rfl rfl hl.1 rfl (lv_room (Nat.le_of_ble_eq_true rfl)) dX9_sleeper_86 ⟨Nat.le_of_ble_eq_true rfl, Nat.le_of_ble_eq_true rfl⟩)) (fun r hq => ?_)
        generalize r = y6 at hq ⊢
        have hq : y6 = mof f5 ih := hq
        refine tp_i (y := mof f5 ih) (hq) ?_
        exact W.iret (v := mof f5 ih) hx hb hr (fun t9 ht _ => ⟨mof f5 ih, rfl, ((if_neg k9).trans ((if_neg (by decide)).trans rfl)).symm, ht⟩) (fun q h => by cases h) dX9_sleeper_89
      exact absurd ho1 (by omega)
  · skip
    have k9 := c2
    refine lv_ldc (v := (-1000000001)) hx hb hown (hts (.constant RX9 147 (-1000000001)) (List.mem_cons_of_mem _ (List.mem_append_left _ (List.mem_append_left _ (List.mem_append_left _ (List.mem_of_getElem? (i := 1) rfl)))))) dX9_sleeper_12 ?_
    exact W.iret (v := (-1000000001)) hx hb hr (fun t9 ht _ => ⟨(-1000000001), rfl, (if_pos k9).symm, ht⟩) (fun q h => by cases h) dX9_sleeper_14

abbrev c_X9_matter (k : Nat → ClassId) (h : Nat) (tx : Nat) (co : Nat) (im : Nat) (ik : Nat) (bo : Nat) (rs : Nat) (pl : Nat) (ch : Nat) (pa : Nat) (pb : Nat) (lw : Nat) (lv : Nat) (fb : Int32) (t : Nat) (tn : Nat) (tl : Nat) (tc : Nat) (ta : Nat) (rw : Nat → Nat) (q : Nat → Nat) (G3 : Nat → Int32) (q0 : Nat) (q1 : Nat) (q2 : Nat) (q3 : Nat) (q4 : Nat) (q5 : Nat) (q6 : Nat) (wg : Int32) (dy : Nat) (sd : Int32) (f0 : Nat → Int32) (f1 : Nat → Int32) (f2 : Nat → Int32) (f3 : Nat → Int32) (f4 : Nat → Int32) (f5 : Nat → Int32) (f6 : Nat → Int32) (ih : Int32) (wt : Int32) : va_W := [(h, .inr (9, [.ref tx, .ref co, .ref im, .ref ik, .ref bo, .ref rs, .ref pl, .ref ch, .ref pa, .ref pb, .ref lw, .ref lv, .int fb])), (pa, .inr (8, [.ref t, .ref tn, .ref tl, .ref tc, .ref ta])), (t, .inl (k 0, 4, .inl (cI q))), (tn, .inl (k 4, 4, .inr (.inr (.inr (.inr (gr4 rw)))))), ((rw 3), .inl (k 0, 80, .inl G3)), (co, .inr (2, [.ref q0, .ref q1, .ref q2, .ref q3, .ref q4, .ref q5, .ref q6, .int wg, .int (nI dy), .int sd])), (q0, .inl (k 0, 3, .inl f0)), (q1, .inl (k 0, 3, .inl f1)), (q2, .inl (k 0, 3, .inl f2)), (q3, .inl (k 0, 3, .inl f3)), (q4, .inl (k 0, 3, .inl f4)), (q5, .inl (k 0, 3, .inl f5)), (q6, .inl (k 0, 3, .inl f6))]
abbrev r_X9_matter : Room := { frames := 2, cells := 0, slots := 0, locals := 45 }
abbrev q_X9_matter (k : Nat → ClassId) (h : Nat) (tx : Nat) (co : Nat) (im : Nat) (ik : Nat) (bo : Nat) (rs : Nat) (pl : Nat) (ch : Nat) (pa : Nat) (pb : Nat) (lw : Nat) (lv : Nat) (fb : Int32) (t : Nat) (tn : Nat) (tl : Nat) (tc : Nat) (ta : Nat) (rw : Nat → Nat) (q : Nat → Nat) (G3 : Nat → Int32) (q0 : Nat) (q1 : Nat) (q2 : Nat) (q3 : Nat) (q4 : Nat) (q5 : Nat) (q6 : Nat) (wg : Int32) (dy : Nat) (sd : Int32) (f0 : Nat → Int32) (f1 : Nat → Int32) (f2 : Nat → Int32) (f3 : Nat → Int32) (f4 : Nat → Int32) (f5 : Nat → Int32) (f6 : Nat → Int32) (ih : Int32) (wt : Int32) : Array Value → State → Outcome → State → Prop := vp_Si (fun r => True)
set_option maxHeartbeats 2000000 in
set_option maxRecDepth 100000 in
theorem X9_matter (l : Launch) (D : va_G) (k : Nat → ClassId) (h : Nat) (tx : Nat) (co : Nat) (im : Nat) (ik : Nat) (bo : Nat) (rs : Nat) (pl : Nat) (ch : Nat) (pa : Nat) (pb : Nat) (lw : Nat) (lv : Nat) (fb : Int32) (t : Nat) (tn : Nat) (tl : Nat) (tc : Nat) (ta : Nat) (rw : Nat → Nat) (q : Nat → Nat) (G3 : Nat → Int32) (q0 : Nat) (q1 : Nat) (q2 : Nat) (q3 : Nat) (q4 : Nat) (q5 : Nat) (q6 : Nat) (wg : Int32) (dy : Nat) (sd : Int32) (f0 : Nat → Int32) (f1 : Nat → Int32) (f2 : Nat → Int32) (f3 : Nat → Int32) (f4 : Nat → Int32) (f5 : Nat → Int32) (f6 : Nat → Int32) (ih : Int32) (wt : Int32) (hq3 : q 3 ≤ 3) : Met l yX9_matter wsX9_matter r_X9_matter (va_Pc [.ref h, .int ih, .int wt] (PS D k (c_X9_matter k h tx co im ik bo rs pl ch pa pb lw lv fb t tn tl tc ta rw q G3 q0 q1 q2 q3 q4 q5 q6 wg dy sd f0 f1 f2 f3 f4 f5 f6 ih wt))) (q_X9_matter k h tx co im ik bo rs pl ch pa pb lw lv fb t tn tl tc ta rw q G3 q0 q1 q2 q3 q4 q5 q6 wg dy sd f0 f1 f2 f3 f4 f5 f6 ih wt) 0 0 (fun _ => False) := by
  refine Met.ofW (cc := cX9_matter) (maxL := 3) (ret := (some .int)) (by decide) rfl ?_
  intro p e s m args below meth c s₁ B hml hv
  obtain ⟨rfl, hP, hG⟩ := hv
  have hx := B.exec
  have hb := B.bytes
  have hr := B.returns
  have hts := atoms_spec (ws := wsX9_matter) B.pre
  have hown : s.vm.findClass RX9 = some m.cls := findClass_of_methodNamed B.named
  have hlocks := B.notSynchronized
  have hi9 : ∀ w ∈ wsX90, w ∈ wsX9_matter := fun _ h => List.mem_cons_of_mem _ (List.mem_append_left _ (List.mem_append_left _ (List.mem_append_right _ h)))
  have hi2 : ∀ w ∈ wsX20, w ∈ wsX9_matter := fun _ h => List.mem_cons_of_mem _ (List.mem_append_left _ (List.mem_append_right _ h))
  have hi8 : ∀ w ∈ wsX80, w ∈ wsX9_matter := fun _ h => List.mem_cons_of_mem _ (List.mem_append_right _ h)
  have hP : va_P D vwCl [(h, .inr (9, [.ref tx, .ref co, .ref im, .ref ik, .ref bo, .ref rs, .ref pl, .ref ch, .ref pa, .ref pb, .ref lw, .ref lv, .int fb])), (pa, .inr (8, [.ref t, .ref tn, .ref tl, .ref tc, .ref ta])), (t, .inl (k 0, 4, .inl (cI q))), (tn, .inl (k 4, 4, .inr (.inr (.inr (.inr (gr4 rw)))))), ((rw 3), .inl (k 0, 80, .inl G3)), (co, .inr (2, [.ref q0, .ref q1, .ref q2, .ref q3, .ref q4, .ref q5, .ref q6, .int wg, .int (nI dy), .int sd])), (q0, .inl (k 0, 3, .inl f0)), (q1, .inl (k 0, 3, .inl f1)), (q2, .inl (k 0, 3, .inl f2)), (q3, .inl (k 0, 3, .inl f3)), (q4, .inl (k 0, 3, .inl f4)), (q5, .inl (k 0, 3, .inl f5)), (q6, .inl (k 0, 3, .inl f6))] s.heap := hP
  have hl := lv_entry ([.ref h, .int ih, .int wt]) (n := 3) (Nat.le_of_ble_eq_true rfl)
  rw [lg_entry_eq]
  generalize (lg_sl ([.ref h, .int ih, .int wt]) ++ List.replicate (3 - (lg_sl ([.ref h, .int ih, .int wt])).length) Slot.unset).toArray = ls at hl ⊢
  have hl : lv_has ls 3 [(0, .ref h), (1, .int ih), (2, .int wt)] := hl
  refine lv_aload_n hx hb dX9_matter_0 rfl (lv_at hl 0 rfl) ?_
  refine va_get (D := D) (ci := 9) (v := .ref pa) (C := RX9) (T := TX9) (N := 13) hx hb hts hi9 hown hG.1 hP 0 rfl rfl 8 (by decide) (hts (.fieldLink RX9 41 "SleptMatters" "place" "LSleptMatters$Town;") (List.mem_cons_of_mem _ (List.mem_append_left _ (List.mem_append_left _ (List.mem_append_left _ (List.mem_append_left _ (List.mem_of_getElem? (i := 0) rfl))))))) (fun _ h9 => h9) rfl dX9_matter_1 ?_
  refine lv_iconst (v := 3) hx hb dX9_matter_4 (by decide) ?_
  refine lv_iload_n hx hb dX9_matter_5 rfl (lv_at hl 1 rfl) ?_
  have hPc := hP.sub (ws' := (c_X8_has k pa t tn tl tc ta q 3 ih)) [1, 2] rfl
  refine vp_callSi (va_Run.run (va_runV (As := [.int 3, .int ih]) (rest := []) ⟨hx, hb, hml, hown, hts⟩ (X8_has l D k pa t tn tl tc ta q 3 ih (by decide)) (cwV 2 hts gX9_matter_X8_has rfl rfl rfl (by decide +kernel) ⟨Nat.le_of_ble_eq_true rfl, Nat.le_of_ble_eq_true rfl⟩) ⟨PS.blind _ _ _ _, va_recv hG.1 hP (ci := 8) (q0 := 1) rfl rfl, PS.pre hPc hG [.ref pa, .int 3, .int ih]⟩ rfl rfl hl.1 rfl (lv_room (Nat.le_of_ble_eq_true rfl)) dX9_matter_6 ⟨Nat.le_of_ble_eq_true rfl, Nat.le_of_ble_eq_true rfl⟩)) (fun r hq => ?_)
  generalize r = y1 at hq ⊢
  have hq : y1 = hs (q 3) ih := hq
  refine tp_i (y := hs (q 3) ih) (hq) ?_
  refine lv_if_ne (x := hs (q 3) ih) (tgt := 15) hx hb dX9_matter_9 (by decide) (fun c2 => ?_) (fun c2 => ?_)
  · skip
    obtain ⟨a9, ha9, ea9⟩ := has_n (by omega) c2
    have hl : lv_has ls 3 [(0, .ref h), (1, .int (nI a9)), (2, .int wt)] := by rw [← ea9]; exact hl
    refine lv_iload_n hx hb dX9_matter_15 rfl (lv_at hl 2 rfl) ?_
    by_cases ho : wt.toInt < 0 ∨ 9 < wt.toInt
    · skip
      refine lv_tableOut (tgt := 179) hx hb dX9_matter_16 ho (by decide) ?_
      refine lv_ldc (v := (-1000000002)) hx hb hown (hts (.constant RX9 87 (-1000000002)) (List.mem_cons_of_mem _ (List.mem_append_left _ (List.mem_append_left _ (List.mem_append_left _ (List.mem_append_left _ (List.mem_of_getElem? (i := 8) rfl))))))) dX9_matter_179 ?_
      exact W.iret (v := (-1000000002)) hx hb hr (fun t9 ht _ => ⟨(-1000000002), rfl, trivial, ht⟩) (fun q h => by cases h) dX9_matter_181
    · skip
      obtain ⟨o, ho1, rfl⟩ : ∃ o : Nat, o < 10 ∧ wt = nI o := sw_nat (x := wt) (n := 10) (by omega) (by omega)
      rcases o with _ | o
      · skip
        refine lv_tableIn (off := 56) (tgt := 72) hx hb dX9_matter_16 (by decide) (by decide) (by decide) (by decide) ?_
        refine lv_aload_n hx hb dX9_matter_72 rfl (lv_at hl 0 rfl) ?_
        refine va_get (D := D) (ci := 9) (v := .ref pa) (C := RX9) (T := TX9) (N := 13) hx hb hts hi9 hown hG.1 hP 0 rfl rfl 8 (by decide) (hts (.fieldLink RX9 41 "SleptMatters" "place" "LSleptMatters$Town;") (List.mem_cons_of_mem _ (List.mem_append_left _ (List.mem_append_left _ (List.mem_append_left _ (List.mem_append_left _ (List.mem_of_getElem? (i := 0) rfl))))))) (fun _ h9 => h9) rfl dX9_matter_73 ?_
        refine lv_iconst (v := 3) hx hb dX9_matter_76 (by decide) ?_
        refine lv_iload_n hx hb dX9_matter_77 rfl (lv_at hl 1 rfl) ?_
        refine lv_iconst (v := 0) hx hb dX9_matter_78 (by decide) ?_
        have hPc := hP.sub (ws' := (c_X8_part3 k pa t tn tl tc ta rw q G3 (nI a9) 0)) [1, 2, 3, 4] rfl
        refine vp_callSi (va_Run.run (va_runV (As := [.int 3, .int (nI a9), .int 0]) (rest := []) ⟨hx, hb, hml, hown, hts⟩ (X8_part3 l D k pa t tn tl tc ta rw q G3 (nI a9) 0 (by omega) (by decide)) (cwV 3 hts gX9_matter_X8_part rfl rfl rfl (by decide +kernel) ⟨Nat.le_of_ble_eq_true rfl, Nat.le_of_ble_eq_true rfl⟩) ⟨PS.blind _ _ _ _, va_recv hG.1 hP (ci := 8) (q0 := 1) rfl rfl, PS.pre hPc hG [.ref pa, .int 3, .int (nI a9), .int 0]⟩ rfl rfl hl.1 rfl (lv_room (Nat.le_of_ble_eq_true rfl)) dX9_matter_79 ⟨Nat.le_of_ble_eq_true rfl, Nat.le_of_ble_eq_true rfl⟩)) (fun r hq => ?_)
        generalize r = y3 at hq ⊢
        have hq : y3 = pt (q 3) G3 (nI a9) 0 := hq
        refine tp_i (y := pt (q 3) G3 (nI a9) 0) (hq) ?_
        exact W.iret (v := pt (q 3) G3 (nI a9) 0) hx hb hr (fun t9 ht _ => ⟨pt (q 3) G3 (nI a9) 0, rfl, trivial, ht⟩) (fun q h => by cases h) dX9_matter_82
      rcases o with _ | o
      · skip
        refine lv_tableIn (off := 67) (tgt := 83) hx hb dX9_matter_16 (by decide) (by decide) (by decide) (by decide) ?_
        refine lv_aload_n hx hb dX9_matter_83 rfl (lv_at hl 0 rfl) ?_
        refine va_get (D := D) (ci := 9) (v := .ref pa) (C := RX9) (T := TX9) (N := 13) hx hb hts hi9 hown hG.1 hP 0 rfl rfl 8 (by decide) (hts (.fieldLink RX9 41 "SleptMatters" "place" "LSleptMatters$Town;") (List.mem_cons_of_mem _ (List.mem_append_left _ (List.mem_append_left _ (List.mem_append_left _ (List.mem_append_left _ (List.mem_of_getElem? (i := 0) rfl))))))) (fun _ h9 => h9) rfl dX9_matter_84 ?_
        refine lv_iconst (v := 3) hx hb dX9_matter_87 (by decide) ?_
        refine lv_iload_n hx hb dX9_matter_88 rfl (lv_at hl 1 rfl) ?_
        refine lv_iconst (v := 1) hx hb dX9_matter_89 (by decide) ?_
        have hPc := hP.sub (ws' := (c_X8_part3 k pa t tn tl tc ta rw q G3 (nI a9) 1)) [1, 2, 3, 4] rfl
        refine vp_callSi (va_Run.run (va_runV (As := [.int 3, .int (nI a9), .int 1]) (rest := []) ⟨hx, hb, hml, hown, hts⟩ (X8_part3 l D k pa t tn tl tc ta rw q G3 (nI a9) 1 (by omega) (by decide)) (cwV 3 hts gX9_matter_X8_part rfl rfl rfl (by decide +kernel) ⟨Nat.le_of_ble_eq_true rfl, Nat.le_of_ble_eq_true rfl⟩) ⟨PS.blind _ _ _ _, va_recv hG.1 hP (ci := 8) (q0 := 1) rfl rfl, PS.pre hPc hG [.ref pa, .int 3, .int (nI a9), .int 1]⟩ rfl rfl hl.1 rfl (lv_room (Nat.le_of_ble_eq_true rfl)) dX9_matter_90 ⟨Nat.le_of_ble_eq_true rfl, Nat.le_of_ble_eq_true rfl⟩)) (fun r hq => ?_)
        generalize r = y4 at hq ⊢
        have hq : y4 = pt (q 3) G3 (nI a9) 1 := hq
        refine tp_i (y := pt (q 3) G3 (nI a9) 1) (hq) ?_
        exact W.iret (v := pt (q 3) G3 (nI a9) 1) hx hb hr (fun t9 ht _ => ⟨pt (q 3) G3 (nI a9) 1, rfl, trivial, ht⟩) (fun q h => by cases h) dX9_matter_93
      rcases o with _ | o
      · skip
        refine lv_tableIn (off := 78) (tgt := 94) hx hb dX9_matter_16 (by decide) (by decide) (by decide) (by decide) ?_
        refine lv_aload_n hx hb dX9_matter_94 rfl (lv_at hl 0 rfl) ?_
        refine va_get (D := D) (ci := 9) (v := .ref pa) (C := RX9) (T := TX9) (N := 13) hx hb hts hi9 hown hG.1 hP 0 rfl rfl 8 (by decide) (hts (.fieldLink RX9 41 "SleptMatters" "place" "LSleptMatters$Town;") (List.mem_cons_of_mem _ (List.mem_append_left _ (List.mem_append_left _ (List.mem_append_left _ (List.mem_append_left _ (List.mem_of_getElem? (i := 0) rfl))))))) (fun _ h9 => h9) rfl dX9_matter_95 ?_
        refine lv_iconst (v := 3) hx hb dX9_matter_98 (by decide) ?_
        refine lv_iload_n hx hb dX9_matter_99 rfl (lv_at hl 1 rfl) ?_
        refine lv_iconst (v := 2) hx hb dX9_matter_100 (by decide) ?_
        have hPc := hP.sub (ws' := (c_X8_part3 k pa t tn tl tc ta rw q G3 (nI a9) 2)) [1, 2, 3, 4] rfl
        refine vp_callSi (va_Run.run (va_runV (As := [.int 3, .int (nI a9), .int 2]) (rest := []) ⟨hx, hb, hml, hown, hts⟩ (X8_part3 l D k pa t tn tl tc ta rw q G3 (nI a9) 2 (by omega) (by decide)) (cwV 3 hts gX9_matter_X8_part rfl rfl rfl (by decide +kernel) ⟨Nat.le_of_ble_eq_true rfl, Nat.le_of_ble_eq_true rfl⟩) ⟨PS.blind _ _ _ _, va_recv hG.1 hP (ci := 8) (q0 := 1) rfl rfl, PS.pre hPc hG [.ref pa, .int 3, .int (nI a9), .int 2]⟩ rfl rfl hl.1 rfl (lv_room (Nat.le_of_ble_eq_true rfl)) dX9_matter_101 ⟨Nat.le_of_ble_eq_true rfl, Nat.le_of_ble_eq_true rfl⟩)) (fun r hq => ?_)
        generalize r = y5 at hq ⊢
        have hq : y5 = pt (q 3) G3 (nI a9) 2 := hq
        refine tp_i (y := pt (q 3) G3 (nI a9) 2) (hq) ?_
        exact W.iret (v := pt (q 3) G3 (nI a9) 2) hx hb hr (fun t9 ht _ => ⟨pt (q 3) G3 (nI a9) 2, rfl, trivial, ht⟩) (fun q h => by cases h) dX9_matter_104
      rcases o with _ | o
      · skip
        refine lv_tableIn (off := 89) (tgt := 105) hx hb dX9_matter_16 (by decide) (by decide) (by decide) (by decide) ?_
        refine lv_aload_n hx hb dX9_matter_105 rfl (lv_at hl 0 rfl) ?_
        refine va_get (D := D) (ci := 9) (v := .ref pa) (C := RX9) (T := TX9) (N := 13) hx hb hts hi9 hown hG.1 hP 0 rfl rfl 8 (by decide) (hts (.fieldLink RX9 41 "SleptMatters" "place" "LSleptMatters$Town;") (List.mem_cons_of_mem _ (List.mem_append_left _ (List.mem_append_left _ (List.mem_append_left _ (List.mem_append_left _ (List.mem_of_getElem? (i := 0) rfl))))))) (fun _ h9 => h9) rfl dX9_matter_106 ?_
        refine lv_iconst (v := 3) hx hb dX9_matter_109 (by decide) ?_
        refine lv_iload_n hx hb dX9_matter_110 rfl (lv_at hl 1 rfl) ?_
        refine lv_iconst (v := 3) hx hb dX9_matter_111 (by decide) ?_
        have hPc := hP.sub (ws' := (c_X8_part3 k pa t tn tl tc ta rw q G3 (nI a9) 3)) [1, 2, 3, 4] rfl
        refine vp_callSi (va_Run.run (va_runV (As := [.int 3, .int (nI a9), .int 3]) (rest := []) ⟨hx, hb, hml, hown, hts⟩ (X8_part3 l D k pa t tn tl tc ta rw q G3 (nI a9) 3 (by omega) (by decide)) (cwV 3 hts gX9_matter_X8_part rfl rfl rfl (by decide +kernel) ⟨Nat.le_of_ble_eq_true rfl, Nat.le_of_ble_eq_true rfl⟩) ⟨PS.blind _ _ _ _, va_recv hG.1 hP (ci := 8) (q0 := 1) rfl rfl, PS.pre hPc hG [.ref pa, .int 3, .int (nI a9), .int 3]⟩ rfl rfl hl.1 rfl (lv_room (Nat.le_of_ble_eq_true rfl)) dX9_matter_112 ⟨Nat.le_of_ble_eq_true rfl, Nat.le_of_ble_eq_true rfl⟩)) (fun r hq => ?_)
        generalize r = y6 at hq ⊢
        have hq : y6 = pt (q 3) G3 (nI a9) 3 := hq
        refine tp_i (y := pt (q 3) G3 (nI a9) 3) (hq) ?_
        exact W.iret (v := pt (q 3) G3 (nI a9) 3) hx hb hr (fun t9 ht _ => ⟨pt (q 3) G3 (nI a9) 3, rfl, trivial, ht⟩) (fun q h => by cases h) dX9_matter_115
      rcases o with _ | o
      · skip
        refine lv_tableIn (off := 100) (tgt := 116) hx hb dX9_matter_16 (by decide) (by decide) (by decide) (by decide) ?_
        refine lv_aload_n hx hb dX9_matter_116 rfl (lv_at hl 0 rfl) ?_
        refine va_get (D := D) (ci := 9) (v := .ref co) (C := RX9) (T := TX9) (N := 13) hx hb hts hi9 hown hG.1 hP 0 rfl rfl 1 (by decide) (hts (.fieldLink RX9 19 "SleptMatters" "course" "LSleptMatters$Course;") (List.mem_cons_of_mem _ (List.mem_append_left _ (List.mem_append_left _ (List.mem_append_left _ (List.mem_append_left _ (List.mem_of_getElem? (i := 2) rfl))))))) (fun _ h9 => h9) rfl dX9_matter_117 ?_
        refine va_get (D := D) (ci := 2) (v := .ref q0) (C := RX2) (T := TX2) (N := 10) hx hb hts hi2 hown hG.1 hP 5 rfl rfl 0 (by decide) (hts (.fieldLink RX9 159 "SleptMatters$Course" "sleepers" "[I") (List.mem_cons_of_mem _ (List.mem_append_left _ (List.mem_append_left _ (List.mem_append_left _ (List.mem_append_left _ (List.mem_of_getElem? (i := 3) rfl))))))) (fun _ h9 => h9) rfl dX9_matter_120 ?_
        refine lv_iload_n hx hb dX9_matter_123 rfl (lv_at hl 1 rfl) ?_
        refine va_iald hx hb hG.1 hP 6 0 rfl rfl (vp_in_nI (by omega) (by omega)) dX9_matter_124 ?_
        refine tp_i (y := f0 a9) (congrArg _ (nI_clamp (n := a9) (by omega))) ?_
        have hPc := hP.sub (ws' := (c_J6_bitCount k (f0 a9))) [] rfl
        refine vp_callSi (va_Run.run (va_runS (As := [.int (f0 a9)]) (rest := []) ⟨hx, hb, hml, hown, hts⟩ (J6_bitCount l D k (f0 a9) ) (va_cwS 1 hts gX9_matter_J6_bitCount_0f7a4 rfl rfl rfl (by decide +kernel) ⟨Nat.le_of_ble_eq_true rfl, Nat.le_of_ble_eq_true rfl⟩) ⟨PS.blind _ _ _ _, PS.pre hPc hG [.int (f0 a9)]⟩ rfl rfl hl.1 rfl (lv_room (Nat.le_of_ble_eq_true rfl)) dX9_matter_125 ⟨Nat.le_of_ble_eq_true rfl, Nat.le_of_ble_eq_true rfl⟩)) (fun r hq => ?_)
        generalize r = y7 at hq ⊢
        have hq : y7 = bcA (f0 a9) := hq
        refine tp_i (y := bcA (f0 a9)) (hq) ?_
        exact W.iret (v := bcA (f0 a9)) hx hb hr (fun t9 ht _ => ⟨bcA (f0 a9), rfl, trivial, ht⟩) (fun q h => by cases h) dX9_matter_128
      rcases o with _ | o
      · skip
        refine lv_tableIn (off := 113) (tgt := 129) hx hb dX9_matter_16 (by decide) (by decide) (by decide) (by decide) ?_
        refine lv_aload_n hx hb dX9_matter_129 rfl (lv_at hl 0 rfl) ?_
        refine va_get (D := D) (ci := 9) (v := .ref co) (C := RX9) (T := TX9) (N := 13) hx hb hts hi9 hown hG.1 hP 0 rfl rfl 1 (by decide) (hts (.fieldLink RX9 19 "SleptMatters" "course" "LSleptMatters$Course;") (List.mem_cons_of_mem _ (List.mem_append_left _ (List.mem_append_left _ (List.mem_append_left _ (List.mem_append_left _ (List.mem_of_getElem? (i := 2) rfl))))))) (fun _ h9 => h9) rfl dX9_matter_130 ?_
        refine va_get (D := D) (ci := 2) (v := .ref q2) (C := RX2) (T := TX2) (N := 10) hx hb hts hi2 hown hG.1 hP 5 rfl rfl 2 (by decide) (hts (.fieldLink RX9 168 "SleptMatters$Course" "yes" "[I") (List.mem_cons_of_mem _ (List.mem_append_left _ (List.mem_append_left _ (List.mem_append_left _ (List.mem_append_left _ (List.mem_of_getElem? (i := 4) rfl))))))) (fun _ h9 => h9) rfl dX9_matter_133 ?_
        refine lv_iload_n hx hb dX9_matter_136 rfl (lv_at hl 1 rfl) ?_
        refine va_iald hx hb hG.1 hP 8 0 rfl rfl (vp_in_nI (by omega) (by omega)) dX9_matter_137 ?_
        refine tp_i (y := f2 a9) (congrArg _ (nI_clamp (n := a9) (by omega))) ?_
        exact W.iret (v := f2 a9) hx hb hr (fun t9 ht _ => ⟨f2 a9, rfl, trivial, ht⟩) (fun q h => by cases h) dX9_matter_138
      rcases o with _ | o
      · skip
        refine lv_tableIn (off := 123) (tgt := 139) hx hb dX9_matter_16 (by decide) (by decide) (by decide) (by decide) ?_
        refine lv_aload_n hx hb dX9_matter_139 rfl (lv_at hl 0 rfl) ?_
        refine va_get (D := D) (ci := 9) (v := .ref co) (C := RX9) (T := TX9) (N := 13) hx hb hts hi9 hown hG.1 hP 0 rfl rfl 1 (by decide) (hts (.fieldLink RX9 19 "SleptMatters" "course" "LSleptMatters$Course;") (List.mem_cons_of_mem _ (List.mem_append_left _ (List.mem_append_left _ (List.mem_append_left _ (List.mem_append_left _ (List.mem_of_getElem? (i := 2) rfl))))))) (fun _ h9 => h9) rfl dX9_matter_140 ?_
        refine va_get (D := D) (ci := 2) (v := .ref q3) (C := RX2) (T := TX2) (N := 10) hx hb hts hi2 hown hG.1 hP 5 rfl rfl 3 (by decide) (hts (.fieldLink RX9 170 "SleptMatters$Course" "outcome" "[I") (List.mem_cons_of_mem _ (List.mem_append_left _ (List.mem_append_left _ (List.mem_append_left _ (List.mem_append_left _ (List.mem_of_getElem? (i := 5) rfl))))))) (fun _ h9 => h9) rfl dX9_matter_143 ?_
        refine lv_iload_n hx hb dX9_matter_146 rfl (lv_at hl 1 rfl) ?_
        refine va_iald hx hb hG.1 hP 9 0 rfl rfl (vp_in_nI (by omega) (by omega)) dX9_matter_147 ?_
        refine tp_i (y := f3 a9) (congrArg _ (nI_clamp (n := a9) (by omega))) ?_
        exact W.iret (v := f3 a9) hx hb hr (fun t9 ht _ => ⟨f3 a9, rfl, trivial, ht⟩) (fun q h => by cases h) dX9_matter_148
      rcases o with _ | o
      · skip
        refine lv_tableIn (off := 133) (tgt := 149) hx hb dX9_matter_16 (by decide) (by decide) (by decide) (by decide) ?_
        refine lv_aload_n hx hb dX9_matter_149 rfl (lv_at hl 0 rfl) ?_
        refine va_get (D := D) (ci := 9) (v := .ref co) (C := RX9) (T := TX9) (N := 13) hx hb hts hi9 hown hG.1 hP 0 rfl rfl 1 (by decide) (hts (.fieldLink RX9 19 "SleptMatters" "course" "LSleptMatters$Course;") (List.mem_cons_of_mem _ (List.mem_append_left _ (List.mem_append_left _ (List.mem_append_left _ (List.mem_append_left _ (List.mem_of_getElem? (i := 2) rfl))))))) (fun _ h9 => h9) rfl dX9_matter_150 ?_
        refine va_get (D := D) (ci := 2) (v := .ref q4) (C := RX2) (T := TX2) (N := 10) hx hb hts hi2 hown hG.1 hP 5 rfl rfl 4 (by decide) (hts (.fieldLink RX9 173 "SleptMatters$Course" "decidedOn" "[I") (List.mem_cons_of_mem _ (List.mem_append_left _ (List.mem_append_left _ (List.mem_append_left _ (List.mem_append_left _ (List.mem_of_getElem? (i := 6) rfl))))))) (fun _ h9 => h9) rfl dX9_matter_153 ?_
        refine lv_iload_n hx hb dX9_matter_156 rfl (lv_at hl 1 rfl) ?_
        refine va_iald hx hb hG.1 hP 10 0 rfl rfl (vp_in_nI (by omega) (by omega)) dX9_matter_157 ?_
        refine tp_i (y := f4 a9) (congrArg _ (nI_clamp (n := a9) (by omega))) ?_
        exact W.iret (v := f4 a9) hx hb hr (fun t9 ht _ => ⟨f4 a9, rfl, trivial, ht⟩) (fun q h => by cases h) dX9_matter_158
      rcases o with _ | o
      · skip
        refine lv_tableIn (off := 143) (tgt := 159) hx hb dX9_matter_16 (by decide) (by decide) (by decide) (by decide) ?_
        refine lv_aload_n hx hb dX9_matter_159 rfl (lv_at hl 0 rfl) ?_
        refine va_get (D := D) (ci := 9) (v := .ref co) (C := RX9) (T := TX9) (N := 13) hx hb hts hi9 hown hG.1 hP 0 rfl rfl 1 (by decide) (hts (.fieldLink RX9 19 "SleptMatters" "course" "LSleptMatters$Course;") (List.mem_cons_of_mem _ (List.mem_append_left _ (List.mem_append_left _ (List.mem_append_left _ (List.mem_append_left _ (List.mem_of_getElem? (i := 2) rfl))))))) (fun _ h9 => h9) rfl dX9_matter_160 ?_
        refine va_get (D := D) (ci := 2) (v := .ref q0) (C := RX2) (T := TX2) (N := 10) hx hb hts hi2 hown hG.1 hP 5 rfl rfl 0 (by decide) (hts (.fieldLink RX9 159 "SleptMatters$Course" "sleepers" "[I") (List.mem_cons_of_mem _ (List.mem_append_left _ (List.mem_append_left _ (List.mem_append_left _ (List.mem_append_left _ (List.mem_of_getElem? (i := 3) rfl))))))) (fun _ h9 => h9) rfl dX9_matter_163 ?_
        refine lv_iload_n hx hb dX9_matter_166 rfl (lv_at hl 1 rfl) ?_
        refine va_iald hx hb hG.1 hP 6 0 rfl rfl (vp_in_nI (by omega) (by omega)) dX9_matter_167 ?_
        refine tp_i (y := f0 a9) (congrArg _ (nI_clamp (n := a9) (by omega))) ?_
        exact W.iret (v := f0 a9) hx hb hr (fun t9 ht _ => ⟨f0 a9, rfl, trivial, ht⟩) (fun q h => by cases h) dX9_matter_168
      rcases o with _ | o
      · skip
        refine lv_tableIn (off := 153) (tgt := 169) hx hb dX9_matter_16 (by decide) (by decide) (by decide) (by decide) ?_
        refine lv_aload_n hx hb dX9_matter_169 rfl (lv_at hl 0 rfl) ?_
        refine va_get (D := D) (ci := 9) (v := .ref co) (C := RX9) (T := TX9) (N := 13) hx hb hts hi9 hown hG.1 hP 0 rfl rfl 1 (by decide) (hts (.fieldLink RX9 19 "SleptMatters" "course" "LSleptMatters$Course;") (List.mem_cons_of_mem _ (List.mem_append_left _ (List.mem_append_left _ (List.mem_append_left _ (List.mem_append_left _ (List.mem_of_getElem? (i := 2) rfl))))))) (fun _ h9 => h9) rfl dX9_matter_170 ?_
        refine va_get (D := D) (ci := 2) (v := .ref q1) (C := RX2) (T := TX2) (N := 10) hx hb hts hi2 hown hG.1 hP 5 rfl rfl 1 (by decide) (hts (.fieldLink RX9 176 "SleptMatters$Course" "houses" "[I") (List.mem_cons_of_mem _ (List.mem_append_left _ (List.mem_append_left _ (List.mem_append_left _ (List.mem_append_left _ (List.mem_of_getElem? (i := 7) rfl))))))) (fun _ h9 => h9) rfl dX9_matter_173 ?_
        refine lv_iload_n hx hb dX9_matter_176 rfl (lv_at hl 1 rfl) ?_
        refine va_iald hx hb hG.1 hP 7 0 rfl rfl (vp_in_nI (by omega) (by omega)) dX9_matter_177 ?_
        refine tp_i (y := f1 a9) (congrArg _ (nI_clamp (n := a9) (by omega))) ?_
        exact W.iret (v := f1 a9) hx hb hr (fun t9 ht _ => ⟨f1 a9, rfl, trivial, ht⟩) (fun q h => by cases h) dX9_matter_178
      exact absurd ho1 (by omega)
  · skip
    refine lv_ldc (v := (-1000000001)) hx hb hown (hts (.constant RX9 147 (-1000000001)) (List.mem_cons_of_mem _ (List.mem_append_left _ (List.mem_append_left _ (List.mem_append_left _ (List.mem_append_left _ (List.mem_of_getElem? (i := 1) rfl))))))) dX9_matter_12 ?_
    exact W.iret (v := (-1000000001)) hx hb hr (fun t9 ht _ => ⟨(-1000000001), rfl, trivial, ht⟩) (fun q h => by cases h) dX9_matter_14

abbrev c_X9_noise (k : Nat → ClassId) (h : Nat) (tx : Nat) (co : Nat) (im : Nat) (ik : Nat) (bo : Nat) (rs : Nat) (pl : Nat) (ch : Nat) (pa : Nat) (pb : Nat) (lw : Nat) (lv : Nat) (fb : Int32) (t : Nat) (tn : Nat) (tl : Nat) (tc : Nat) (ta : Nat) (rw : Nat → Nat) (q : Nat → Nat) (lf : Nat → Int32) (ia : Int32) (ib : Int32) : va_W := [(h, .inr (9, [.ref tx, .ref co, .ref im, .ref ik, .ref bo, .ref rs, .ref pl, .ref ch, .ref pa, .ref pb, .ref lw, .ref lv, .int fb])), (pa, .inr (8, [.ref t, .ref tn, .ref tl, .ref tc, .ref ta])), (tl, .inl (k 0, 400, .inl lf))]
abbrev r_X9_noise : Room := { frames := 1, cells := 0, slots := 0, locals := 23 }
abbrev q_X9_noise (k : Nat → ClassId) (h : Nat) (tx : Nat) (co : Nat) (im : Nat) (ik : Nat) (bo : Nat) (rs : Nat) (pl : Nat) (ch : Nat) (pa : Nat) (pb : Nat) (lw : Nat) (lv : Nat) (fb : Int32) (t : Nat) (tn : Nat) (tl : Nat) (tc : Nat) (ta : Nat) (rw : Nat → Nat) (q : Nat → Nat) (lf : Nat → Int32) (ia : Int32) (ib : Int32) : Array Value → State → Outcome → State → Prop := vp_Si (fun r => r = nsA lf ia ib)
set_option maxHeartbeats 2000000 in
set_option maxRecDepth 100000 in
theorem X9_noise (l : Launch) (D : va_G) (k : Nat → ClassId) (h : Nat) (tx : Nat) (co : Nat) (im : Nat) (ik : Nat) (bo : Nat) (rs : Nat) (pl : Nat) (ch : Nat) (pa : Nat) (pb : Nat) (lw : Nat) (lv : Nat) (fb : Int32) (t : Nat) (tn : Nat) (tl : Nat) (tc : Nat) (ta : Nat) (rw : Nat → Nat) (q : Nat → Nat) (lf : Nat → Int32) (ia : Int32) (ib : Int32)  : Met l yX9_noise wsX9_noise r_X9_noise (va_Pc [.ref h, .int ia, .int ib] (PS D k (c_X9_noise k h tx co im ik bo rs pl ch pa pb lw lv fb t tn tl tc ta rw q lf ia ib))) (q_X9_noise k h tx co im ik bo rs pl ch pa pb lw lv fb t tn tl tc ta rw q lf ia ib) 0 0 (fun _ => False) := by
  refine Met.ofW (cc := cX9_noise) (maxL := 3) (ret := (some .int)) (by decide) rfl ?_
  intro p e s m args below meth c s₁ B hml hv
  obtain ⟨rfl, hP, hG⟩ := hv
  have hx := B.exec
  have hb := B.bytes
  have hr := B.returns
  have hts := atoms_spec (ws := wsX9_noise) B.pre
  have hown : s.vm.findClass RX9 = some m.cls := findClass_of_methodNamed B.named
  have hlocks := B.notSynchronized
  have hi9 : ∀ w ∈ wsX90, w ∈ wsX9_noise := fun _ h => List.mem_cons_of_mem _ (List.mem_append_left _ (List.mem_append_right _ h))
  have hi8 : ∀ w ∈ wsX80, w ∈ wsX9_noise := fun _ h => List.mem_cons_of_mem _ (List.mem_append_right _ h)
  have hP : va_P D vwCl [(h, .inr (9, [.ref tx, .ref co, .ref im, .ref ik, .ref bo, .ref rs, .ref pl, .ref ch, .ref pa, .ref pb, .ref lw, .ref lv, .int fb])), (pa, .inr (8, [.ref t, .ref tn, .ref tl, .ref tc, .ref ta])), (tl, .inl (k 0, 400, .inl lf))] s.heap := hP
  have hl := lv_entry ([.ref h, .int ia, .int ib]) (n := 3) (Nat.le_of_ble_eq_true rfl)
  rw [lg_entry_eq]
  generalize (lg_sl ([.ref h, .int ia, .int ib]) ++ List.replicate (3 - (lg_sl ([.ref h, .int ia, .int ib])).length) Slot.unset).toArray = ls at hl ⊢
  have hl : lv_has ls 3 [(0, .ref h), (1, .int ia), (2, .int ib)] := hl
  refine lv_iload_n hx hb dX9_noise_0 rfl (lv_at hl 1 rfl) ?_
  refine lv_if_lt (x := ia) (tgt := 20) hx hb dX9_noise_1 (by decide) (fun c1 => ?_) (fun c1 => ?_)
  · skip
    have k1 := c1
    refine lv_ldc (v := (-1000000002)) hx hb hown (hts (.constant RX9 87 (-1000000002)) (List.mem_cons_of_mem _ (List.mem_append_left _ (List.mem_append_left _ (List.mem_of_getElem? (i := 0) rfl))))) dX9_noise_20 ?_
    exact W.iret (v := (-1000000002)) hx hb hr (fun t9 ht _ => ⟨(-1000000002), rfl, (if_pos (by first | exact Or.inl k1 | exact Or.inr (Or.inl k6) | exact Or.inr (Or.inr (Or.inl k10)) | exact Or.inr (Or.inr (Or.inr (Int32.not_le.mp k17))))).symm, ht⟩) (fun q h => by cases h) dX9_noise_22
  · skip
    have k1 := c1
    refine lv_iload_n hx hb dX9_noise_4 rfl (lv_at hl 1 rfl) ?_
    refine lv_iconst (v := 4) hx hb dX9_noise_5 (by decide) ?_
    refine lv_icmp_ge (x := ia) (y := 4) (tgt := 20) hx hb dX9_noise_6 (by decide) (fun c2 => ?_) (fun c2 => ?_)
    · skip
      have k6 := c2
      refine lv_ldc (v := (-1000000002)) hx hb hown (hts (.constant RX9 87 (-1000000002)) (List.mem_cons_of_mem _ (List.mem_append_left _ (List.mem_append_left _ (List.mem_of_getElem? (i := 0) rfl))))) dX9_noise_20 ?_
      exact W.iret (v := (-1000000002)) hx hb hr (fun t9 ht _ => ⟨(-1000000002), rfl, (if_pos (by first | exact Or.inl k1 | exact Or.inr (Or.inl k6) | exact Or.inr (Or.inr (Or.inl k10)) | exact Or.inr (Or.inr (Or.inr (Int32.not_le.mp k17))))).symm, ht⟩) (fun q h => by cases h) dX9_noise_22
    · skip
      have k6 := c2
      refine lv_iload_n hx hb dX9_noise_9 rfl (lv_at hl 2 rfl) ?_
      refine lv_if_lt (x := ib) (tgt := 20) hx hb dX9_noise_10 (by decide) (fun c3 => ?_) (fun c3 => ?_)
      · skip
        have k10 := c3
        refine lv_ldc (v := (-1000000002)) hx hb hown (hts (.constant RX9 87 (-1000000002)) (List.mem_cons_of_mem _ (List.mem_append_left _ (List.mem_append_left _ (List.mem_of_getElem? (i := 0) rfl))))) dX9_noise_20 ?_
        exact W.iret (v := (-1000000002)) hx hb hr (fun t9 ht _ => ⟨(-1000000002), rfl, (if_pos (by first | exact Or.inl k1 | exact Or.inr (Or.inl k6) | exact Or.inr (Or.inr (Or.inl k10)) | exact Or.inr (Or.inr (Or.inr (Int32.not_le.mp k17))))).symm, ht⟩) (fun q h => by cases h) dX9_noise_22
      · skip
        have k10 := c3
        refine lv_iload_n hx hb dX9_noise_13 rfl (lv_at hl 2 rfl) ?_
        refine lv_sipush (v := 999) hx hb dX9_noise_14 (by decide) ?_
        refine lv_icmp_le (x := ib) (y := 999) (tgt := 23) hx hb dX9_noise_17 (by decide) (fun c4 => ?_) (fun c4 => ?_)
        · skip
          have k17 := c4
          refine lv_aload_n hx hb dX9_noise_23 rfl (lv_at hl 0 rfl) ?_
          refine va_get (D := D) (ci := 9) (v := .ref pa) (C := RX9) (T := TX9) (N := 13) hx hb hts hi9 hown hG.1 hP 0 rfl rfl 8 (by decide) (hts (.fieldLink RX9 41 "SleptMatters" "place" "LSleptMatters$Town;") (List.mem_cons_of_mem _ (List.mem_append_left _ (List.mem_append_left _ (List.mem_of_getElem? (i := 1) rfl))))) (fun _ h9 => h9) rfl dX9_noise_24 ?_
          refine lv_iload_n hx hb dX9_noise_27 rfl (lv_at hl 1 rfl) ?_
          refine lv_iload_n hx hb dX9_noise_28 rfl (lv_at hl 2 rfl) ?_
          have hPc := hP.sub (ws' := (c_X8_noiseOf k pa t tn tl tc ta lf ia ib)) [1, 2] rfl
          refine vp_callSi (va_Run.run (va_runV (As := [.int ia, .int ib]) (rest := []) ⟨hx, hb, hml, hown, hts⟩ (X8_noiseOf l D k pa t tn tl tc ta lf ia ib ) (cwV 2 hts gX9_noise_X8_noiseOf rfl rfl rfl (by decide +kernel) ⟨Nat.le_of_ble_eq_true rfl, Nat.le_of_ble_eq_true rfl⟩) ⟨PS.blind _ _ _ _, va_recv hG.1 hP (ci := 8) (q0 := 1) rfl rfl, PS.pre hPc hG [.ref pa, .int ia, .int ib]⟩ rfl rfl hl.1 rfl (lv_room (Nat.le_of_ble_eq_true rfl)) dX9_noise_29 ⟨Nat.le_of_ble_eq_true rfl, Nat.le_of_ble_eq_true rfl⟩)) (fun r hq => ?_)
          generalize r = y5 at hq ⊢
          have hq : y5 = noZ lf ia ib := hq
          refine tp_i (y := noZ lf ia ib) (hq) ?_
          exact W.iret (v := noZ lf ia ib) hx hb hr (fun t9 ht _ => ⟨noZ lf ia ib, rfl, (if_neg (fun q8 => q8.elim k1 (fun q8 => q8.elim k6 (fun q8 => q8.elim k10 (fun q8 => absurd k17 (Int32.not_le.mpr q8)))))).symm, ht⟩) (fun q h => by cases h) dX9_noise_32
        · skip
          have k17 := c4
          refine lv_ldc (v := (-1000000002)) hx hb hown (hts (.constant RX9 87 (-1000000002)) (List.mem_cons_of_mem _ (List.mem_append_left _ (List.mem_append_left _ (List.mem_of_getElem? (i := 0) rfl))))) dX9_noise_20 ?_
          exact W.iret (v := (-1000000002)) hx hb hr (fun t9 ht _ => ⟨(-1000000002), rfl, (if_pos (by first | exact Or.inl k1 | exact Or.inr (Or.inl k6) | exact Or.inr (Or.inr (Or.inl k10)) | exact Or.inr (Or.inr (Or.inr (Int32.not_le.mp k17))))).symm, ht⟩) (fun q h => by cases h) dX9_noise_22

abbrev c_X9_let (k : Nat → ClassId) (h : Nat) (tx : Nat) (co : Nat) (im : Nat) (ik : Nat) (bo : Nat) (rs : Nat) (pl : Nat) (ch : Nat) (pa : Nat) (pb : Nat) (lw : Nat) (lv : Nat) (fb : Int32) (t : Nat) (tn : Nat) (tl : Nat) (tc : Nat) (ta : Nat) (rw : Nat → Nat) (q : Nat → Nat) (G0 : Nat → Int32) (cf : Nat → Int32) (ia : Int32) (ib : Int32) (ic : Int32) : va_W := [(h, .inr (9, [.ref tx, .ref co, .ref im, .ref ik, .ref bo, .ref rs, .ref pl, .ref ch, .ref pa, .ref pb, .ref lw, .ref lv, .int fb])), (pa, .inr (8, [.ref t, .ref tn, .ref tl, .ref tc, .ref ta])), (t, .inl (k 0, 4, .inl (cI q))), (tn, .inl (k 4, 4, .inr (.inr (.inr (.inr (gr4 rw)))))), ((rw 0), .inl (k 0, 80, .inl G0)), (tc, .inl (k 0, 700, .inl cf))]
abbrev r_X9_let : Room := { frames := 3, cells := 0, slots := 0, locals := 68 }
abbrev q_X9_let (k : Nat → ClassId) (h : Nat) (tx : Nat) (co : Nat) (im : Nat) (ik : Nat) (bo : Nat) (rs : Nat) (pl : Nat) (ch : Nat) (pa : Nat) (pb : Nat) (lw : Nat) (lv : Nat) (fb : Int32) (t : Nat) (tn : Nat) (tl : Nat) (tc : Nat) (ta : Nat) (rw : Nat → Nat) (q : Nat → Nat) (G0 : Nat → Int32) (cf : Nat → Int32) (ia : Int32) (ib : Int32) (ic : Int32) : Array Value → State → Outcome → State → Prop := vp_Si (fun r => r = ltA (q 1) (q 0) G0 (chA (q 1) cf ia ib) ia ib ic)
set_option maxHeartbeats 2000000 in
set_option maxRecDepth 100000 in
theorem X9_let (l : Launch) (D : va_G) (k : Nat → ClassId) (h : Nat) (tx : Nat) (co : Nat) (im : Nat) (ik : Nat) (bo : Nat) (rs : Nat) (pl : Nat) (ch : Nat) (pa : Nat) (pb : Nat) (lw : Nat) (lv : Nat) (fb : Int32) (t : Nat) (tn : Nat) (tl : Nat) (tc : Nat) (ta : Nat) (rw : Nat → Nat) (q : Nat → Nat) (G0 : Nat → Int32) (cf : Nat → Int32) (ia : Int32) (ib : Int32) (ic : Int32) (hq0 : q 0 ≤ 7) (hq1 : q 1 ≤ 7) : Met l yX9_let wsX9_let r_X9_let (va_Pc [.ref h, .int ia, .int ib, .int ic] (PS D k (c_X9_let k h tx co im ik bo rs pl ch pa pb lw lv fb t tn tl tc ta rw q G0 cf ia ib ic))) (q_X9_let k h tx co im ik bo rs pl ch pa pb lw lv fb t tn tl tc ta rw q G0 cf ia ib ic) 0 0 (fun _ => False) := by
  refine Met.ofW (cc := cX9_let) (maxL := 5) (ret := (some .int)) (by decide) rfl ?_
  intro p e s m args below meth c s₁ B hml hv
  obtain ⟨rfl, hP, hG⟩ := hv
  have hx := B.exec
  have hb := B.bytes
  have hr := B.returns
  have hts := atoms_spec (ws := wsX9_let) B.pre
  have hown : s.vm.findClass RX9 = some m.cls := findClass_of_methodNamed B.named
  have hlocks := B.notSynchronized
  have hi9 : ∀ w ∈ wsX90, w ∈ wsX9_let := fun _ h => List.mem_cons_of_mem _ (List.mem_append_left _ (List.mem_append_right _ h))
  have hi8 : ∀ w ∈ wsX80, w ∈ wsX9_let := fun _ h => List.mem_cons_of_mem _ (List.mem_append_right _ h)
  have hP : va_P D vwCl [(h, .inr (9, [.ref tx, .ref co, .ref im, .ref ik, .ref bo, .ref rs, .ref pl, .ref ch, .ref pa, .ref pb, .ref lw, .ref lv, .int fb])), (pa, .inr (8, [.ref t, .ref tn, .ref tl, .ref tc, .ref ta])), (t, .inl (k 0, 4, .inl (cI q))), (tn, .inl (k 4, 4, .inr (.inr (.inr (.inr (gr4 rw)))))), ((rw 0), .inl (k 0, 80, .inl G0)), (tc, .inl (k 0, 700, .inl cf))] s.heap := hP
  have hl := lv_entry ([.ref h, .int ia, .int ib, .int ic]) (n := 5) (Nat.le_of_ble_eq_true rfl)
  rw [lg_entry_eq]
  generalize (lg_sl ([.ref h, .int ia, .int ib, .int ic]) ++ List.replicate (5 - (lg_sl ([.ref h, .int ia, .int ib, .int ic])).length) Slot.unset).toArray = ls at hl ⊢
  have hl : lv_has ls 5 [(0, .ref h), (1, .int ia), (2, .int ib), (3, .int ic)] := hl
  refine lv_aload_n hx hb dX9_let_0 rfl (lv_at hl 0 rfl) ?_
  refine va_get (D := D) (ci := 9) (v := .ref pa) (C := RX9) (T := TX9) (N := 13) hx hb hts hi9 hown hG.1 hP 0 rfl rfl 8 (by decide) (hts (.fieldLink RX9 41 "SleptMatters" "place" "LSleptMatters$Town;") (List.mem_cons_of_mem _ (List.mem_append_left _ (List.mem_append_left _ (List.mem_append_left _ (List.mem_of_getElem? (i := 0) rfl)))))) (fun _ h9 => h9) rfl dX9_let_1 ?_
  refine lv_iconst (v := 1) hx hb dX9_let_4 (by decide) ?_
  refine lv_iload_n hx hb dX9_let_5 rfl (lv_at hl 1 rfl) ?_
  have hPc := hP.sub (ws' := (c_X8_has k pa t tn tl tc ta q 1 ia)) [1, 2] rfl
  refine vp_callSi (va_Run.run (va_runV (As := [.int 1, .int ia]) (rest := []) ⟨hx, hb, hml, hown, hts⟩ (X8_has l D k pa t tn tl tc ta q 1 ia (by decide)) (cwV 2 hts gX9_let_X8_has rfl rfl rfl (by decide +kernel) ⟨Nat.le_of_ble_eq_true rfl, Nat.le_of_ble_eq_true rfl⟩) ⟨PS.blind _ _ _ _, va_recv hG.1 hP (ci := 8) (q0 := 1) rfl rfl, PS.pre hPc hG [.ref pa, .int 1, .int ia]⟩ rfl rfl hl.1 rfl (lv_room (Nat.le_of_ble_eq_true rfl)) dX9_let_6 ⟨Nat.le_of_ble_eq_true rfl, Nat.le_of_ble_eq_true rfl⟩)) (fun r hq => ?_)
  generalize r = y1 at hq ⊢
  have hq : y1 = hs (q 1) ia := hq
  refine tp_i (y := hs (q 1) ia) (hq) ?_
  refine lv_if_ne (x := hs (q 1) ia) (tgt := 15) hx hb dX9_let_9 (by decide) (fun c2 => ?_) (fun c2 => ?_)
  · skip
    have k9 := c2
    refine lv_iload_n hx hb dX9_let_15 rfl (lv_at hl 2 rfl) ?_
    refine lv_if_lt (x := ib) (tgt := 34) hx hb dX9_let_16 (by decide) (fun c3 => ?_) (fun c3 => ?_)
    · skip
      have k16 := c3
      refine lv_ldc (v := (-1000000002)) hx hb hown (hts (.constant RX9 87 (-1000000002)) (List.mem_cons_of_mem _ (List.mem_append_left _ (List.mem_append_left _ (List.mem_append_left _ (List.mem_of_getElem? (i := 2) rfl)))))) dX9_let_34 ?_
      exact W.iret (v := (-1000000002)) hx hb hr (fun t9 ht _ => ⟨(-1000000002), rfl, ((if_neg k9).trans (if_pos (by first | exact Or.inl k16 | exact Or.inr (Or.inl k22) | exact Or.inr (Or.inr (Or.inl k26)) | exact Or.inr (Or.inr (Or.inr (Int32.not_le.mp k31)))))).symm, ht⟩) (fun q h => by cases h) dX9_let_36
    · skip
      have k16 := c3
      refine lv_iload_n hx hb dX9_let_19 rfl (lv_at hl 2 rfl) ?_
      refine lv_bipush (v := 99) hx hb dX9_let_20 (by decide) ?_
      refine lv_icmp_gt (x := ib) (y := 99) (tgt := 34) hx hb dX9_let_22 (by decide) (fun c4 => ?_) (fun c4 => ?_)
      · skip
        have k22 := c4
        refine lv_ldc (v := (-1000000002)) hx hb hown (hts (.constant RX9 87 (-1000000002)) (List.mem_cons_of_mem _ (List.mem_append_left _ (List.mem_append_left _ (List.mem_append_left _ (List.mem_of_getElem? (i := 2) rfl)))))) dX9_let_34 ?_
        exact W.iret (v := (-1000000002)) hx hb hr (fun t9 ht _ => ⟨(-1000000002), rfl, ((if_neg k9).trans (if_pos (by first | exact Or.inl k16 | exact Or.inr (Or.inl k22) | exact Or.inr (Or.inr (Or.inl k26)) | exact Or.inr (Or.inr (Or.inr (Int32.not_le.mp k31)))))).symm, ht⟩) (fun q h => by cases h) dX9_let_36
      · skip
        have k22 := c4
        refine lv_iload_n hx hb dX9_let_25 rfl (lv_at hl 3 rfl) ?_
        refine lv_if_lt (x := ic) (tgt := 34) hx hb dX9_let_26 (by decide) (fun c5 => ?_) (fun c5 => ?_)
        · skip
          have k26 := c5
          refine lv_ldc (v := (-1000000002)) hx hb hown (hts (.constant RX9 87 (-1000000002)) (List.mem_cons_of_mem _ (List.mem_append_left _ (List.mem_append_left _ (List.mem_append_left _ (List.mem_of_getElem? (i := 2) rfl)))))) dX9_let_34 ?_
          exact W.iret (v := (-1000000002)) hx hb hr (fun t9 ht _ => ⟨(-1000000002), rfl, ((if_neg k9).trans (if_pos (by first | exact Or.inl k16 | exact Or.inr (Or.inl k22) | exact Or.inr (Or.inr (Or.inl k26)) | exact Or.inr (Or.inr (Or.inr (Int32.not_le.mp k31)))))).symm, ht⟩) (fun q h => by cases h) dX9_let_36
        · skip
          have k26 := c5
          refine lv_iload_n hx hb dX9_let_29 rfl (lv_at hl 3 rfl) ?_
          refine lv_iconst (v := 1) hx hb dX9_let_30 (by decide) ?_
          refine lv_icmp_le (x := ic) (y := 1) (tgt := 37) hx hb dX9_let_31 (by decide) (fun c6 => ?_) (fun c6 => ?_)
          · skip
            have k31 := c6
            refine lv_aload_n hx hb dX9_let_37 rfl (lv_at hl 0 rfl) ?_
            refine va_get (D := D) (ci := 9) (v := .ref pa) (C := RX9) (T := TX9) (N := 13) hx hb hts hi9 hown hG.1 hP 0 rfl rfl 8 (by decide) (hts (.fieldLink RX9 41 "SleptMatters" "place" "LSleptMatters$Town;") (List.mem_cons_of_mem _ (List.mem_append_left _ (List.mem_append_left _ (List.mem_append_left _ (List.mem_of_getElem? (i := 0) rfl)))))) (fun _ h9 => h9) rfl dX9_let_38 ?_
            refine lv_iload_n hx hb dX9_let_41 rfl (lv_at hl 1 rfl) ?_
            refine lv_iload_n hx hb dX9_let_42 rfl (lv_at hl 2 rfl) ?_
            have hPc := hP.sub (ws' := (c_X8_calmHouses k pa t tn tl tc ta q cf ia ib)) [1, 2, 5] rfl
            refine vp_callSi (va_Run.run (va_runV (As := [.int ia, .int ib]) (rest := []) ⟨hx, hb, hml, hown, hts⟩ (X8_calmHouses l D k pa t tn tl tc ta q cf ia ib (hq1)) (cwV 2 hts gX9_let_X8_calmHouses rfl rfl rfl (by decide +kernel) ⟨Nat.le_of_ble_eq_true rfl, Nat.le_of_ble_eq_true rfl⟩) ⟨PS.blind _ _ _ _, va_recv hG.1 hP (ci := 8) (q0 := 1) rfl rfl, PS.pre hPc hG [.ref pa, .int ia, .int ib]⟩ rfl rfl hl.1 rfl (lv_room (Nat.le_of_ble_eq_true rfl)) dX9_let_43 ⟨Nat.le_of_ble_eq_true rfl, Nat.le_of_ble_eq_true rfl⟩)) (fun r hq => ?_)
            generalize r = y7 at hq ⊢
            have hq : y7 = chA (q 1) cf ia ib := hq
            refine tp_i (y := chA (q 1) cf ia ib) (hq) ?_
            refine lv_istore (lv' := [(4, .int (chA (q 1) cf ia ib)), (0, .ref h), (1, .int ia), (2, .int ib), (3, .int ic)]) hx hb dX9_let_46 hl (by decide) rfl (fun ls hl => ?_)
            refine lv_iload_n hx hb dX9_let_48 rfl (lv_at hl 4 rfl) ?_
            refine lv_if_ne (x := ic) (tgt := 64) hx hb dX9_let_49 (by decide) (fun c8 => ?_) (fun c8 => ?_)
            · skip
              have k49 := c8
              refine lv_aload_n hx hb dX9_let_64 rfl (lv_at hl 1 rfl) ?_
              refine va_get (D := D) (ci := 9) (v := .ref pa) (C := RX9) (T := TX9) (N := 13) hx hb hts hi9 hown hG.1 hP 0 rfl rfl 8 (by decide) (hts (.fieldLink RX9 41 "SleptMatters" "place" "LSleptMatters$Town;") (List.mem_cons_of_mem _ (List.mem_append_left _ (List.mem_append_left _ (List.mem_append_left _ (List.mem_of_getElem? (i := 0) rfl)))))) (fun _ h9 => h9) rfl dX9_let_65 ?_
              refine lv_iload hx hb dX9_let_68 (lv_at hl 0 rfl) ?_
              have hPc := hP.sub (ws' := (c_X8_roomiestOf k pa t tn tl tc ta rw q G0 (chA (q 1) cf ia ib))) [1, 2, 3, 4] rfl
              refine vp_callSi (va_Run.run (va_runV (As := [.int (chA (q 1) cf ia ib)]) (rest := []) ⟨hx, hb, hml, hown, hts⟩ (X8_roomiestOf l D k pa t tn tl tc ta rw q G0 (chA (q 1) cf ia ib) (hq0)) (cwV 1 hts gX9_let_X8_roomiestOf rfl rfl rfl (by decide +kernel) ⟨Nat.le_of_ble_eq_true rfl, Nat.le_of_ble_eq_true rfl⟩) ⟨PS.blind _ _ _ _, va_recv hG.1 hP (ci := 8) (q0 := 1) rfl rfl, PS.pre hPc hG [.ref pa, .int (chA (q 1) cf ia ib)]⟩ rfl rfl hl.1 rfl (lv_room (Nat.le_of_ble_eq_true rfl)) dX9_let_70 ⟨Nat.le_of_ble_eq_true rfl, Nat.le_of_ble_eq_true rfl⟩)) (fun r hq => ?_)
              generalize r = y9 at hq ⊢
              have hq : y9 = rmS (q 0) G0 (chA (q 1) cf ia ib) (q 0) := hq
              refine tp_i (y := rmS (q 0) G0 (chA (q 1) cf ia ib) (q 0)) (hq) ?_
              exact W.iret (v := rmS (q 0) G0 (chA (q 1) cf ia ib) (q 0)) hx hb hr (fun t9 ht _ => ⟨rmS (q 0) G0 (chA (q 1) cf ia ib) (q 0), rfl, ((if_neg k9).trans ((if_neg (fun q8 => q8.elim k16 (fun q8 => q8.elim k22 (fun q8 => q8.elim k26 (fun q8 => absurd k31 (Int32.not_le.mpr q8)))))).trans (if_neg k49))).symm, ht⟩) (fun q h => by cases h) dX9_let_73
            · skip
              have k49 := c8
              refine lv_aload_n hx hb dX9_let_52 rfl (lv_at hl 1 rfl) ?_
              refine va_get (D := D) (ci := 9) (v := .ref pa) (C := RX9) (T := TX9) (N := 13) hx hb hts hi9 hown hG.1 hP 0 rfl rfl 8 (by decide) (hts (.fieldLink RX9 41 "SleptMatters" "place" "LSleptMatters$Town;") (List.mem_cons_of_mem _ (List.mem_append_left _ (List.mem_append_left _ (List.mem_append_left _ (List.mem_of_getElem? (i := 0) rfl)))))) (fun _ h9 => h9) rfl dX9_let_53 ?_
              refine lv_iload hx hb dX9_let_56 (lv_at hl 0 rfl) ?_
              have hPc := hP.sub (ws' := (c_X8_bedsOf k pa t tn tl tc ta rw q G0 (chA (q 1) cf ia ib))) [1, 2, 3, 4] rfl
              refine vp_callSi (va_Run.run (va_runV (As := [.int (chA (q 1) cf ia ib)]) (rest := []) ⟨hx, hb, hml, hown, hts⟩ (X8_bedsOf l D k pa t tn tl tc ta rw q G0 (chA (q 1) cf ia ib) (hq0)) (cwV 1 hts gX9_let_X8_bedsOf rfl rfl rfl (by decide +kernel) ⟨Nat.le_of_ble_eq_true rfl, Nat.le_of_ble_eq_true rfl⟩) ⟨PS.blind _ _ _ _, va_recv hG.1 hP (ci := 8) (q0 := 1) rfl rfl, PS.pre hPc hG [.ref pa, .int (chA (q 1) cf ia ib)]⟩ rfl rfl hl.1 rfl (lv_room (Nat.le_of_ble_eq_true rfl)) dX9_let_58 ⟨Nat.le_of_ble_eq_true rfl, Nat.le_of_ble_eq_true rfl⟩)) (fun r hq => ?_)
              generalize r = y10 at hq ⊢
              have hq : y10 = bdS G0 (chA (q 1) cf ia ib) (q 0) := hq
              refine tp_i (y := bdS G0 (chA (q 1) cf ia ib) (q 0)) (hq) ?_
              refine lv_goto (tgt := 73) hx hb dX9_let_61 (by decide) ?_
              exact W.iret (v := bdS G0 (chA (q 1) cf ia ib) (q 0)) hx hb hr (fun t9 ht _ => ⟨bdS G0 (chA (q 1) cf ia ib) (q 0), rfl, ((if_neg k9).trans ((if_neg (fun q8 => q8.elim k16 (fun q8 => q8.elim k22 (fun q8 => q8.elim k26 (fun q8 => absurd k31 (Int32.not_le.mpr q8)))))).trans (if_pos k49))).symm, ht⟩) (fun q h => by cases h) dX9_let_73
          · skip
            have k31 := c6
            refine lv_ldc (v := (-1000000002)) hx hb hown (hts (.constant RX9 87 (-1000000002)) (List.mem_cons_of_mem _ (List.mem_append_left _ (List.mem_append_left _ (List.mem_append_left _ (List.mem_of_getElem? (i := 2) rfl)))))) dX9_let_34 ?_
            exact W.iret (v := (-1000000002)) hx hb hr (fun t9 ht _ => ⟨(-1000000002), rfl, ((if_neg k9).trans (if_pos (by first | exact Or.inl k16 | exact Or.inr (Or.inl k22) | exact Or.inr (Or.inr (Or.inl k26)) | exact Or.inr (Or.inr (Or.inr (Int32.not_le.mp k31)))))).symm, ht⟩) (fun q h => by cases h) dX9_let_36
  · skip
    have k9 := c2
    refine lv_ldc (v := (-1000000001)) hx hb hown (hts (.constant RX9 147 (-1000000001)) (List.mem_cons_of_mem _ (List.mem_append_left _ (List.mem_append_left _ (List.mem_append_left _ (List.mem_of_getElem? (i := 1) rfl)))))) dX9_let_12 ?_
    exact W.iret (v := (-1000000001)) hx hb hr (fun t9 ht _ => ⟨(-1000000001), rfl, (if_pos k9).symm, ht⟩) (fun q h => by cases h) dX9_let_14

abbrev c_X9_judge (k : Nat → ClassId) (h : Nat) (tx : Nat) (co : Nat) (im : Nat) (ik : Nat) (bo : Nat) (rs : Nat) (pl : Nat) (ch : Nat) (pa : Nat) (pb : Nat) (lw : Nat) (lv : Nat) (fb : Int32) (t : Nat) (tn : Nat) (tl : Nat) (tc : Nat) (ta : Nat) (rw : Nat → Nat) (q : Nat → Nat) (G0 : Nat → Int32) (G1 : Nat → Int32) (G3 : Nat → Int32) (lf : Nat → Int32) (bq1 : Nat) (bq2 : Nat) (bq3 : Nat) (b : Nat) (bd : Nat → Int32) (bs : Nat → Int32) (bh : Nat → Int32) (ia : Int32) : va_W := [(h, .inr (9, [.ref tx, .ref co, .ref im, .ref ik, .ref bo, .ref rs, .ref pl, .ref ch, .ref pa, .ref pb, .ref lw, .ref lv, .int fb])), (pa, .inr (8, [.ref t, .ref tn, .ref tl, .ref tc, .ref ta])), (t, .inl (k 0, 4, .inl (cI q))), (tn, .inl (k 4, 4, .inr (.inr (.inr (.inr (gr4 rw)))))), ((rw 0), .inl (k 0, 80, .inl G0)), ((rw 1), .inl (k 0, 80, .inl G1)), ((rw 3), .inl (k 0, 80, .inl G3)), (tl, .inl (k 0, 400, .inl lf)), (bo, .inr (0, [.int (nI b), .ref bq1, .ref bq2, .ref bq3])), (bq1, .inl (k 0, 20, .inl bd)), (bq2, .inl (k 0, 20, .inl bs)), (bq3, .inl (k 0, 20, .inl bh))]
abbrev r_X9_judge : Room := { frames := 4, cells := 0, slots := 0, locals := 95 }
abbrev q_X9_judge (k : Nat → ClassId) (h : Nat) (tx : Nat) (co : Nat) (im : Nat) (ik : Nat) (bo : Nat) (rs : Nat) (pl : Nat) (ch : Nat) (pa : Nat) (pb : Nat) (lw : Nat) (lv : Nat) (fb : Int32) (t : Nat) (tn : Nat) (tl : Nat) (tc : Nat) (ta : Nat) (rw : Nat → Nat) (q : Nat → Nat) (G0 : Nat → Int32) (G1 : Nat → Int32) (G3 : Nat → Int32) (lf : Nat → Int32) (bq1 : Nat) (bq2 : Nat) (bq3 : Nat) (b : Nat) (bd : Nat → Int32) (bs : Nat → Int32) (bh : Nat → Int32) (ia : Int32) : Array Value → State → Outcome → State → Prop := vp_Si (fun r => r = jdA (q 3) (fwR q G0 G1 lf bd bs bh (pt (q 3) G3 ia 0) b) ia)
set_option maxHeartbeats 2000000 in
set_option maxRecDepth 100000 in
theorem X9_judge (l : Launch) (D : va_G) (k : Nat → ClassId) (h : Nat) (tx : Nat) (co : Nat) (im : Nat) (ik : Nat) (bo : Nat) (rs : Nat) (pl : Nat) (ch : Nat) (pa : Nat) (pb : Nat) (lw : Nat) (lv : Nat) (fb : Int32) (t : Nat) (tn : Nat) (tl : Nat) (tc : Nat) (ta : Nat) (rw : Nat → Nat) (q : Nat → Nat) (G0 : Nat → Int32) (G1 : Nat → Int32) (G3 : Nat → Int32) (lf : Nat → Int32) (bq1 : Nat) (bq2 : Nat) (bq3 : Nat) (b : Nat) (bd : Nat → Int32) (bs : Nat → Int32) (bh : Nat → Int32) (ia : Int32) (hq0 : q 0 ≤ 7) (hq1 : q 1 ≤ 7) (hq3 : q 3 ≤ 3) (hb : b ≤ 20) : Met l yX9_judge wsX9_judge r_X9_judge (va_Pc [.ref h, .int ia] (PS D k (c_X9_judge k h tx co im ik bo rs pl ch pa pb lw lv fb t tn tl tc ta rw q G0 G1 G3 lf bq1 bq2 bq3 b bd bs bh ia))) (q_X9_judge k h tx co im ik bo rs pl ch pa pb lw lv fb t tn tl tc ta rw q G0 G1 G3 lf bq1 bq2 bq3 b bd bs bh ia) 0 0 (fun _ => False) := by
  refine Met.ofW (cc := cX9_judge) (maxL := 2) (ret := (some .int)) (by decide) rfl ?_
  intro p e s m args below meth c s₁ B hml hv
  obtain ⟨rfl, hP, hG⟩ := hv
  have hx := B.exec
  have hb := B.bytes
  have hr := B.returns
  have hts := atoms_spec (ws := wsX9_judge) B.pre
  have hown : s.vm.findClass RX9 = some m.cls := findClass_of_methodNamed B.named
  have hlocks := B.notSynchronized
  have hi9 : ∀ w ∈ wsX90, w ∈ wsX9_judge := fun _ h => List.mem_cons_of_mem _ (List.mem_append_left _ (List.mem_append_left _ (List.mem_append_right _ h)))
  have hi8 : ∀ w ∈ wsX80, w ∈ wsX9_judge := fun _ h => List.mem_cons_of_mem _ (List.mem_append_left _ (List.mem_append_right _ h))
  have hi0 : ∀ w ∈ wsX00, w ∈ wsX9_judge := fun _ h => List.mem_cons_of_mem _ (List.mem_append_right _ h)
  have hP : va_P D vwCl [(h, .inr (9, [.ref tx, .ref co, .ref im, .ref ik, .ref bo, .ref rs, .ref pl, .ref ch, .ref pa, .ref pb, .ref lw, .ref lv, .int fb])), (pa, .inr (8, [.ref t, .ref tn, .ref tl, .ref tc, .ref ta])), (t, .inl (k 0, 4, .inl (cI q))), (tn, .inl (k 4, 4, .inr (.inr (.inr (.inr (gr4 rw)))))), ((rw 0), .inl (k 0, 80, .inl G0)), ((rw 1), .inl (k 0, 80, .inl G1)), ((rw 3), .inl (k 0, 80, .inl G3)), (tl, .inl (k 0, 400, .inl lf)), (bo, .inr (0, [.int (nI b), .ref bq1, .ref bq2, .ref bq3])), (bq1, .inl (k 0, 20, .inl bd)), (bq2, .inl (k 0, 20, .inl bs)), (bq3, .inl (k 0, 20, .inl bh))] s.heap := hP
  have hl := lv_entry ([.ref h, .int ia]) (n := 2) (Nat.le_of_ble_eq_true rfl)
  rw [lg_entry_eq]
  generalize (lg_sl ([.ref h, .int ia]) ++ List.replicate (2 - (lg_sl ([.ref h, .int ia])).length) Slot.unset).toArray = ls at hl ⊢
  have hl : lv_has ls 2 [(0, .ref h), (1, .int ia)] := hl
  refine lv_aload_n hx hb dX9_judge_0 rfl (lv_at hl 0 rfl) ?_
  refine va_get (D := D) (ci := 9) (v := .ref pa) (C := RX9) (T := TX9) (N := 13) hx hb hts hi9 hown hG.1 hP 0 rfl rfl 8 (by decide) (hts (.fieldLink RX9 41 "SleptMatters" "place" "LSleptMatters$Town;") (List.mem_cons_of_mem _ (List.mem_append_left _ (List.mem_append_left _ (List.mem_append_left _ (List.mem_append_left _ (List.mem_of_getElem? (i := 0) rfl))))))) (fun _ h9 => h9) rfl dX9_judge_1 ?_
  refine lv_iconst (v := 3) hx hb dX9_judge_4 (by decide) ?_
  refine lv_iload_n hx hb dX9_judge_5 rfl (lv_at hl 1 rfl) ?_
  have hPc := hP.sub (ws' := (c_X8_has k pa t tn tl tc ta q 3 ia)) [1, 2] rfl
  refine vp_callSi (va_Run.run (va_runV (As := [.int 3, .int ia]) (rest := []) ⟨hx, hb, hml, hown, hts⟩ (X8_has l D k pa t tn tl tc ta q 3 ia (by decide)) (cwV 2 hts gX9_judge_X8_has rfl rfl rfl (by decide +kernel) ⟨Nat.le_of_ble_eq_true rfl, Nat.le_of_ble_eq_true rfl⟩) ⟨PS.blind _ _ _ _, va_recv hG.1 hP (ci := 8) (q0 := 1) rfl rfl, PS.pre hPc hG [.ref pa, .int 3, .int ia]⟩ rfl rfl hl.1 rfl (lv_room (Nat.le_of_ble_eq_true rfl)) dX9_judge_6 ⟨Nat.le_of_ble_eq_true rfl, Nat.le_of_ble_eq_true rfl⟩)) (fun r hq => ?_)
  generalize r = y1 at hq ⊢
  have hq : y1 = hs (q 3) ia := hq
  refine tp_i (y := hs (q 3) ia) (hq) ?_
  refine lv_if_ne (x := hs (q 3) ia) (tgt := 15) hx hb dX9_judge_9 (by decide) (fun c2 => ?_) (fun c2 => ?_)
  · skip
    have k9 := c2
    refine lv_aload_n hx hb dX9_judge_15 rfl (lv_at hl 0 rfl) ?_
    refine va_get (D := D) (ci := 9) (v := .ref bo) (C := RX9) (T := TX9) (N := 13) hx hb hts hi9 hown hG.1 hP 0 rfl rfl 4 (by decide) (hts (.fieldLink RX9 34 "SleptMatters" "book" "LSleptMatters$Book;") (List.mem_cons_of_mem _ (List.mem_append_left _ (List.mem_append_left _ (List.mem_append_left _ (List.mem_append_left _ (List.mem_of_getElem? (i := 2) rfl))))))) (fun _ h9 => h9) rfl dX9_judge_16 ?_
    refine lv_aload_n hx hb dX9_judge_19 rfl (lv_at hl 0 rfl) ?_
    refine va_get (D := D) (ci := 9) (v := .ref pa) (C := RX9) (T := TX9) (N := 13) hx hb hts hi9 hown hG.1 hP 0 rfl rfl 8 (by decide) (hts (.fieldLink RX9 41 "SleptMatters" "place" "LSleptMatters$Town;") (List.mem_cons_of_mem _ (List.mem_append_left _ (List.mem_append_left _ (List.mem_append_left _ (List.mem_append_left _ (List.mem_of_getElem? (i := 0) rfl))))))) (fun _ h9 => h9) rfl dX9_judge_20 ?_
    refine lv_aload_n hx hb dX9_judge_23 rfl (lv_at hl 0 rfl) ?_
    refine va_get (D := D) (ci := 9) (v := .ref pa) (C := RX9) (T := TX9) (N := 13) hx hb hts hi9 hown hG.1 hP 0 rfl rfl 8 (by decide) (hts (.fieldLink RX9 41 "SleptMatters" "place" "LSleptMatters$Town;") (List.mem_cons_of_mem _ (List.mem_append_left _ (List.mem_append_left _ (List.mem_append_left _ (List.mem_append_left _ (List.mem_of_getElem? (i := 0) rfl))))))) (fun _ h9 => h9) rfl dX9_judge_24 ?_
    refine lv_iconst (v := 3) hx hb dX9_judge_27 (by decide) ?_
    refine lv_iload_n hx hb dX9_judge_28 rfl (lv_at hl 1 rfl) ?_
    refine lv_iconst (v := 0) hx hb dX9_judge_29 (by decide) ?_
    have hPc := hP.sub (ws' := (c_X8_part3 k pa t tn tl tc ta rw q G3 ia 0)) [1, 2, 3, 6] rfl
    refine vp_callSi (va_Run.run (va_runV (As := [.int 3, .int ia, .int 0]) (rest := [.ref pa, .ref bo]) ⟨hx, hb, hml, hown, hts⟩ (X8_part3 l D k pa t tn tl tc ta rw q G3 ia 0 (by omega) (by decide)) (cwV 3 hts gX9_judge_X8_part rfl rfl rfl (by decide +kernel) ⟨Nat.le_of_ble_eq_true rfl, Nat.le_of_ble_eq_true rfl⟩) ⟨PS.blind _ _ _ _, va_recv hG.1 hP (ci := 8) (q0 := 1) rfl rfl, PS.pre hPc hG [.ref pa, .int 3, .int ia, .int 0]⟩ rfl rfl hl.1 rfl (lv_room (Nat.le_of_ble_eq_true rfl)) dX9_judge_30 ⟨Nat.le_of_ble_eq_true rfl, Nat.le_of_ble_eq_true rfl⟩)) (fun r hq => ?_)
    generalize r = y3 at hq ⊢
    have hq : y3 = pt (q 3) G3 ia 0 := hq
    refine tp_i (y := pt (q 3) G3 ia 0) (hq) ?_
    have hPc := hP.sub (ws' := (c_X0_firstWrong k bo bq1 bq2 bq3 b bd bs bh pa t tn tl tc ta rw q G0 G1 lf (pt (q 3) G3 ia 0))) [8, 9, 10, 11, 1, 2, 3, 4, 5, 7] rfl
    refine vp_callSi (va_Run.run (va_runV (As := [.ref pa, .int (pt (q 3) G3 ia 0)]) (rest := []) ⟨hx, hb, hml, hown, hts⟩ (X0_firstWrong l D k bo bq1 bq2 bq3 b bd bs bh pa t tn tl tc ta rw q G0 G1 lf (pt (q 3) G3 ia 0) (by omega) (by omega) (by omega)) (cwV 2 hts gX9_judge_X0_firstWrong rfl rfl rfl (by decide +kernel) ⟨Nat.le_of_ble_eq_true rfl, Nat.le_of_ble_eq_true rfl⟩) ⟨PS.blind _ _ _ _, va_recv hG.1 hP (ci := 0) (q0 := 8) rfl rfl, PS.pre hPc hG [.ref bo, .ref pa, .int (pt (q 3) G3 ia 0)]⟩ rfl rfl hl.1 rfl (lv_room (Nat.le_of_ble_eq_true rfl)) dX9_judge_33 ⟨Nat.le_of_ble_eq_true rfl, Nat.le_of_ble_eq_true rfl⟩)) (fun r hq => ?_)
    generalize r = y4 at hq ⊢
    have hq : y4 = fwR q G0 G1 lf bd bs bh (pt (q 3) G3 ia 0) b := hq
    refine tp_i (y := fwR q G0 G1 lf bd bs bh (pt (q 3) G3 ia 0) b) (hq) ?_
    exact W.iret (v := fwR q G0 G1 lf bd bs bh (pt (q 3) G3 ia 0) b) hx hb hr (fun t9 ht _ => ⟨fwR q G0 G1 lf bd bs bh (pt (q 3) G3 ia 0) b, rfl, (if_neg k9).symm, ht⟩) (fun q h => by cases h) dX9_judge_36
  · skip
    have k9 := c2
    refine lv_ldc (v := (-1000000001)) hx hb hown (hts (.constant RX9 147 (-1000000001)) (List.mem_cons_of_mem _ (List.mem_append_left _ (List.mem_append_left _ (List.mem_append_left _ (List.mem_append_left _ (List.mem_of_getElem? (i := 1) rfl))))))) dX9_judge_12 ?_
    exact W.iret (v := (-1000000001)) hx hb hr (fun t9 ht _ => ⟨(-1000000001), rfl, (if_pos k9).symm, ht⟩) (fun q h => by cases h) dX9_judge_14

abbrev c_X9_write (k : Nat → ClassId) (h : Nat) (tx : Nat) (co : Nat) (im : Nat) (ik : Nat) (bo : Nat) (rs : Nat) (pl : Nat) (ch : Nat) (pa : Nat) (pb : Nat) (lw : Nat) (lv : Nat) (fb : Int32) (t : Nat) (tn : Nat) (tl : Nat) (tc : Nat) (ta : Nat) (rw : Nat → Nat) (q : Nat → Nat) (bq1 : Nat) (bq2 : Nat) (bq3 : Nat) (b : Nat) (bd : Nat → Int32) (bs : Nat → Int32) (bh : Nat → Int32) (ia : Int32) (ib : Int32) (ic : Int32) : va_W := [(h, .inr (9, [.ref tx, .ref co, .ref im, .ref ik, .ref bo, .ref rs, .ref pl, .ref ch, .ref pa, .ref pb, .ref lw, .ref lv, .int fb])), (pa, .inr (8, [.ref t, .ref tn, .ref tl, .ref tc, .ref ta])), (t, .inl (k 0, 4, .inl (cI q))), (bo, .inr (0, [.int (nI b), .ref bq1, .ref bq2, .ref bq3])), (bq1, .inl (k 0, 20, .inl bd)), (bq2, .inl (k 0, 20, .inl bs)), (bq3, .inl (k 0, 20, .inl bh))]
abbrev r_X9_write : Room := { frames := 1, cells := 0, slots := 0, locals := 23 }
def w_X9_write (k : Nat → ClassId) (h : Nat) (tx : Nat) (co : Nat) (im : Nat) (ik : Nat) (bo : Nat) (rs : Nat) (pl : Nat) (ch : Nat) (pa : Nat) (pb : Nat) (lw : Nat) (lv : Nat) (fb : Int32) (t : Nat) (tn : Nat) (tl : Nat) (tc : Nat) (ta : Nat) (rw : Nat → Nat) (q : Nat → Nat) (bq1 : Nat) (bq2 : Nat) (bq3 : Nat) (b : Nat) (bd : Nat → Int32) (bs : Nat → Int32) (bh : Nat → Int32) (ia : Int32) (ib : Int32) (ic : Int32) : Nat × (Nat → Int32) × (Nat → Int32) × (Nat → Int32) → va_W := fun u => match u with | (b9, bd9, bs9, bh9) => [(h, .inr (9, [.ref tx, .ref co, .ref im, .ref ik, .ref bo, .ref rs, .ref pl, .ref ch, .ref pa, .ref pb, .ref lw, .ref lv, .int fb])), (pa, .inr (8, [.ref t, .ref tn, .ref tl, .ref tc, .ref ta])), (t, .inl (k 0, 4, .inl (cI q))), (bo, .inr (0, [.int (nI b9), .ref bq1, .ref bq2, .ref bq3])), (bq1, .inl (k 0, 20, .inl bd9)), (bq2, .inl (k 0, 20, .inl bs9)), (bq3, .inl (k 0, 20, .inl bh9))]
def p_X9_write (k : Nat → ClassId) (h : Nat) (tx : Nat) (co : Nat) (im : Nat) (ik : Nat) (bo : Nat) (rs : Nat) (pl : Nat) (ch : Nat) (pa : Nat) (pb : Nat) (lw : Nat) (lv : Nat) (fb : Int32) (t : Nat) (tn : Nat) (tl : Nat) (tc : Nat) (ta : Nat) (rw : Nat → Nat) (q : Nat → Nat) (bq1 : Nat) (bq2 : Nat) (bq3 : Nat) (b : Nat) (bd : Nat → Int32) (bs : Nat → Int32) (bh : Nat → Int32) (ia : Int32) (ib : Int32) (ic : Int32) : Int32 → Nat × (Nat → Int32) × (Nat → Int32) × (Nat → Int32) → Prop := fun (r : Int32) (u : Nat × (Nat → Int32) × (Nat → Int32) × (Nat → Int32)) => match u with | (b9, bd9, bs9, bh9) => (b9 ≤ 20 ∧ wrS (q 1) (q 0) ia ib ic b b9 r bd bs bh bd9 bs9 bh9)
abbrev q_X9_write (D : va_G) (k : Nat → ClassId) (h : Nat) (tx : Nat) (co : Nat) (im : Nat) (ik : Nat) (bo : Nat) (rs : Nat) (pl : Nat) (ch : Nat) (pa : Nat) (pb : Nat) (lw : Nat) (lv : Nat) (fb : Int32) (t : Nat) (tn : Nat) (tl : Nat) (tc : Nat) (ta : Nat) (rw : Nat → Nat) (q : Nat → Nat) (bq1 : Nat) (bq2 : Nat) (bq3 : Nat) (b : Nat) (bd : Nat → Int32) (bs : Nat → Int32) (bh : Nat → Int32) (ia : Int32) (ib : Int32) (ic : Int32) (A : Nat → Prop) : Array Value → State → Outcome → State → Prop := va_Qi (p_X9_write k h tx co im ik bo rs pl ch pa pb lw lv fb t tn tl tc ta rw q bq1 bq2 bq3 b bd bs bh ia ib ic) (fun u9 t9 => BO D (w_X9_write k h tx co im ik bo rs pl ch pa pb lw lv fb t tn tl tc ta rw q bq1 bq2 bq3 b bd bs bh ia ib ic u9) A t9) A
set_option maxHeartbeats 2000000 in
set_option maxRecDepth 100000 in
theorem X9_write (l : Launch) (D : va_G) (k : Nat → ClassId) (sz : Nat) (h : Nat) (tx : Nat) (co : Nat) (im : Nat) (ik : Nat) (bo : Nat) (rs : Nat) (pl : Nat) (ch : Nat) (pa : Nat) (pb : Nat) (lw : Nat) (lv : Nat) (fb : Int32) (t : Nat) (tn : Nat) (tl : Nat) (tc : Nat) (ta : Nat) (rw : Nat → Nat) (q : Nat → Nat) (bq1 : Nat) (bq2 : Nat) (bq3 : Nat) (b : Nat) (bd : Nat → Int32) (bs : Nat → Int32) (bh : Nat → Int32) (ia : Int32) (ib : Int32) (ic : Int32) (hb : b ≤ 20) : Met l yX9_write wsX9_write r_X9_write (va_Pc [.ref h, .int ia, .int ib, .int ic] (PR D k (c_X9_write k h tx co im ik bo rs pl ch pa pb lw lv fb t tn tl tc ta rw q bq1 bq2 bq3 b bd bs bh ia ib ic) sz)) (q_X9_write D k h tx co im ik bo rs pl ch pa pb lw lv fb t tn tl tc ta rw q bq1 bq2 bq3 b bd bs bh ia ib ic (va_A (c_X9_write k h tx co im ik bo rs pl ch pa pb lw lv fb t tn tl tc ta rw q bq1 bq2 bq3 b bd bs bh ia ib ic) sz)) 0 0 (va_A (c_X9_write k h tx co im ik bo rs pl ch pa pb lw lv fb t tn tl tc ta rw q bq1 bq2 bq3 b bd bs bh ia ib ic) sz) := by
  refine Met.ofW (cc := cX9_write) (maxL := 4) (ret := (some .int)) (by decide) rfl ?_
  intro p e s m args below meth c s₁ B hml hv
  obtain ⟨rfl, hsz, hP, hG, hD0⟩ := hv
  have hx := B.exec
  have hb := B.bytes
  have hr := B.returns
  have hts := atoms_spec (ws := wsX9_write) B.pre
  have hown : s.vm.findClass RX9 = some m.cls := findClass_of_methodNamed B.named
  have hlocks := B.notSynchronized
  have hi9 : ∀ w ∈ wsX90, w ∈ wsX9_write := fun _ h => List.mem_cons_of_mem _ (List.mem_append_left _ (List.mem_append_left _ (List.mem_append_right _ h)))
  have hi0 : ∀ w ∈ wsX00, w ∈ wsX9_write := fun _ h => List.mem_cons_of_mem _ (List.mem_append_left _ (List.mem_append_right _ h))
  have hi8 : ∀ w ∈ wsX80, w ∈ wsX9_write := fun _ h => List.mem_cons_of_mem _ (List.mem_append_right _ h)
  subst hsz
  have hD := hD0.self (sz := s.heap.size)
  generalize hAe : va_A (c_X9_write k h tx co im ik bo rs pl ch pa pb lw lv fb t tn tl tc ta rw q bq1 bq2 bq3 b bd bs bh ia ib ic) s.heap.size = A at hD ⊢
  have hA : ∀ q : Nat, s.heap.size ≤ q → A q := fun q h => by rw [← hAe]; exact Or.inr h
  have hS : va_S A s.heap s.heap [] := va_S.rf
  have hP : va_P D vwCl [(h, .inr (9, [.ref tx, .ref co, .ref im, .ref ik, .ref bo, .ref rs, .ref pl, .ref ch, .ref pa, .ref pb, .ref lw, .ref lv, .int fb])), (pa, .inr (8, [.ref t, .ref tn, .ref tl, .ref tc, .ref ta])), (t, .inl (k 0, 4, .inl (cI q))), (bo, .inr (0, [.int (nI b), .ref bq1, .ref bq2, .ref bq3])), (bq1, .inl (k 0, 20, .inl bd)), (bq2, .inl (k 0, 20, .inl bs)), (bq3, .inl (k 0, 20, .inl bh))] s.heap := hP
  have hD : va_D A [(h, .inr (9, [.ref tx, .ref co, .ref im, .ref ik, .ref bo, .ref rs, .ref pl, .ref ch, .ref pa, .ref pb, .ref lw, .ref lv, .int fb])), (pa, .inr (8, [.ref t, .ref tn, .ref tl, .ref tc, .ref ta])), (t, .inl (k 0, 4, .inl (cI q))), (bo, .inr (0, [.int (nI b), .ref bq1, .ref bq2, .ref bq3])), (bq1, .inl (k 0, 20, .inl bd)), (bq2, .inl (k 0, 20, .inl bs)), (bq3, .inl (k 0, 20, .inl bh))] := hD
  have hl := lv_entry ([.ref h, .int ia, .int ib, .int ic]) (n := 4) (Nat.le_of_ble_eq_true rfl)
  rw [lg_entry_eq]
  generalize (lg_sl ([.ref h, .int ia, .int ib, .int ic]) ++ List.replicate (4 - (lg_sl ([.ref h, .int ia, .int ib, .int ic])).length) Slot.unset).toArray = ls at hl ⊢
  have hl : lv_has ls 4 [(0, .ref h), (1, .int ia), (2, .int ib), (3, .int ic)] := hl
  refine lv_aload_n hx hb dX9_write_0 rfl (lv_at hl 0 rfl) ?_
  refine va_get (D := D) (ci := 9) (v := .ref pa) (C := RX9) (T := TX9) (N := 13) hx hb hts hi9 hown hG.1 hP 0 rfl rfl 8 (by decide) (hts (.fieldLink RX9 41 "SleptMatters" "place" "LSleptMatters$Town;") (List.mem_cons_of_mem _ (List.mem_append_left _ (List.mem_append_left _ (List.mem_append_left _ (List.mem_of_getElem? (i := 0) rfl)))))) (fun _ h9 => h9) rfl dX9_write_1 ?_
  refine lv_iconst (v := 1) hx hb dX9_write_4 (by decide) ?_
  refine lv_iload_n hx hb dX9_write_5 rfl (lv_at hl 2 rfl) ?_
  have hPc := hP.sub (ws' := (c_X8_has k pa t tn tl tc ta q 1 ib)) [1, 2] rfl
  refine vp_callSi (va_Run.run (va_runV (As := [.int 1, .int ib]) (rest := []) ⟨hx, hb, hml, hown, hts⟩ (X8_has l D k pa t tn tl tc ta q 1 ib (by decide)) (cwV 2 hts gX9_write_X8_has rfl rfl rfl (by decide +kernel) ⟨Nat.le_of_ble_eq_true rfl, Nat.le_of_ble_eq_true rfl⟩) ⟨PS.blind _ _ _ _, va_recv hG.1 hP (ci := 8) (q0 := 1) rfl rfl, PS.pre hPc hG [.ref pa, .int 1, .int ib]⟩ rfl rfl hl.1 rfl (lv_room (Nat.le_of_ble_eq_true rfl)) dX9_write_6 ⟨Nat.le_of_ble_eq_true rfl, Nat.le_of_ble_eq_true rfl⟩)) (fun r hq => ?_)
  generalize r = y1 at hq ⊢
  have hq : y1 = hs (q 1) ib := hq
  refine tp_i (y := hs (q 1) ib) (hq) ?_
  refine lv_if_eq (x := hs (q 1) ib) (tgt := 24) hx hb dX9_write_9 (by decide) (fun c2 => ?_) (fun c2 => ?_)
  · skip
    have k9 := c2
    refine lv_ldc (v := (-1000000001)) hx hb hown (hts (.constant RX9 147 (-1000000001)) (List.mem_cons_of_mem _ (List.mem_append_left _ (List.mem_append_left _ (List.mem_append_left _ (List.mem_of_getElem? (i := 1) rfl)))))) dX9_write_24 ?_
    have hP9 := hP.sub (ws' := [(h, .inr (9, [.ref tx, .ref co, .ref im, .ref ik, .ref bo, .ref rs, .ref pl, .ref ch, .ref pa, .ref pb, .ref lw, .ref lv, .int fb])), (pa, .inr (8, [.ref t, .ref tn, .ref tl, .ref tc, .ref ta])), (t, .inl (k 0, 4, .inl (cI q))), (bo, .inr (0, [.int (nI b), .ref bq1, .ref bq2, .ref bq3])), (bq1, .inl (k 0, 20, .inl bd)), (bq2, .inl (k 0, 20, .inl bs)), (bq3, .inl (k 0, 20, .inl bh))]) [0, 1, 2, 3, 4, 5, 6] rfl
    have hD9 := hD.sub (ws' := [(h, .inr (9, [.ref tx, .ref co, .ref im, .ref ik, .ref bo, .ref rs, .ref pl, .ref ch, .ref pa, .ref pb, .ref lw, .ref lv, .int fb])), (pa, .inr (8, [.ref t, .ref tn, .ref tl, .ref tc, .ref ta])), (t, .inl (k 0, 4, .inl (cI q))), (bo, .inr (0, [.int (nI b), .ref bq1, .ref bq2, .ref bq3])), (bq1, .inl (k 0, 20, .inl bd)), (bq2, .inl (k 0, 20, .inl bs)), (bq3, .inl (k 0, 20, .inl bh))]) [0, 1, 2, 3, 4, 5, 6] (by decide +kernel) rfl
    exact W.iret (v := (-1000000001)) hx hb hr (fun t9 ht _ => ⟨⟨(-1000000001), (b, bd, bs, bh), rfl, ⟨(show b ≤ 20 by omega), Or.inl ⟨rfl, rfl, rfl, rfl, Or.inl ⟨by first | exact Or.inl k9 | exact Or.inr k21, rfl⟩⟩⟩, by rw [ht]; exact hP9, hD9⟩, hS.F ht⟩) hS.2.2 dX9_write_26
  · skip
    have k9 := c2
    refine lv_aload_n hx hb dX9_write_12 rfl (lv_at hl 0 rfl) ?_
    refine va_get (D := D) (ci := 9) (v := .ref pa) (C := RX9) (T := TX9) (N := 13) hx hb hts hi9 hown hG.1 hP 0 rfl rfl 8 (by decide) (hts (.fieldLink RX9 41 "SleptMatters" "place" "LSleptMatters$Town;") (List.mem_cons_of_mem _ (List.mem_append_left _ (List.mem_append_left _ (List.mem_append_left _ (List.mem_of_getElem? (i := 0) rfl)))))) (fun _ h9 => h9) rfl dX9_write_13 ?_
    refine lv_iconst (v := 0) hx hb dX9_write_16 (by decide) ?_
    refine lv_iload_n hx hb dX9_write_17 rfl (lv_at hl 3 rfl) ?_
    have hPc := hP.sub (ws' := (c_X8_has k pa t tn tl tc ta q 0 ic)) [1, 2] rfl
    refine vp_callSi (va_Run.run (va_runV (As := [.int 0, .int ic]) (rest := []) ⟨hx, hb, hml, hown, hts⟩ (X8_has l D k pa t tn tl tc ta q 0 ic (by decide)) (cwV 2 hts gX9_write_X8_has rfl rfl rfl (by decide +kernel) ⟨Nat.le_of_ble_eq_true rfl, Nat.le_of_ble_eq_true rfl⟩) ⟨PS.blind _ _ _ _, va_recv hG.1 hP (ci := 8) (q0 := 1) rfl rfl, PS.pre hPc hG [.ref pa, .int 0, .int ic]⟩ rfl rfl hl.1 rfl (lv_room (Nat.le_of_ble_eq_true rfl)) dX9_write_18 ⟨Nat.le_of_ble_eq_true rfl, Nat.le_of_ble_eq_true rfl⟩)) (fun r hq => ?_)
    generalize r = y3 at hq ⊢
    have hq : y3 = hs (q 0) ic := hq
    refine tp_i (y := hs (q 0) ic) (hq) ?_
    refine lv_if_ne (x := hs (q 0) ic) (tgt := 27) hx hb dX9_write_21 (by decide) (fun c4 => ?_) (fun c4 => ?_)
    · skip
      have k21 := c4
      refine lv_iload_n hx hb dX9_write_27 rfl (lv_at hl 1 rfl) ?_
      refine lv_if_lt (x := ia) (tgt := 38) hx hb dX9_write_28 (by decide) (fun c5 => ?_) (fun c5 => ?_)
      · skip
        have k28 := c5
        refine lv_ldc (v := (-1000000002)) hx hb hown (hts (.constant RX9 87 (-1000000002)) (List.mem_cons_of_mem _ (List.mem_append_left _ (List.mem_append_left _ (List.mem_append_left _ (List.mem_of_getElem? (i := 2) rfl)))))) dX9_write_38 ?_
        have hP9 := hP.sub (ws' := [(h, .inr (9, [.ref tx, .ref co, .ref im, .ref ik, .ref bo, .ref rs, .ref pl, .ref ch, .ref pa, .ref pb, .ref lw, .ref lv, .int fb])), (pa, .inr (8, [.ref t, .ref tn, .ref tl, .ref tc, .ref ta])), (t, .inl (k 0, 4, .inl (cI q))), (bo, .inr (0, [.int (nI b), .ref bq1, .ref bq2, .ref bq3])), (bq1, .inl (k 0, 20, .inl bd)), (bq2, .inl (k 0, 20, .inl bs)), (bq3, .inl (k 0, 20, .inl bh))]) [0, 1, 2, 3, 4, 5, 6] rfl
        have hD9 := hD.sub (ws' := [(h, .inr (9, [.ref tx, .ref co, .ref im, .ref ik, .ref bo, .ref rs, .ref pl, .ref ch, .ref pa, .ref pb, .ref lw, .ref lv, .int fb])), (pa, .inr (8, [.ref t, .ref tn, .ref tl, .ref tc, .ref ta])), (t, .inl (k 0, 4, .inl (cI q))), (bo, .inr (0, [.int (nI b), .ref bq1, .ref bq2, .ref bq3])), (bq1, .inl (k 0, 20, .inl bd)), (bq2, .inl (k 0, 20, .inl bs)), (bq3, .inl (k 0, 20, .inl bh))]) [0, 1, 2, 3, 4, 5, 6] (by decide +kernel) rfl
        exact W.iret (v := (-1000000002)) hx hb hr (fun t9 ht _ => ⟨⟨(-1000000002), (b, bd, bs, bh), rfl, ⟨(show b ≤ 20 by omega), Or.inl ⟨rfl, rfl, rfl, rfl, Or.inr ⟨⟨k9, k21⟩, Or.inl ⟨by first | exact Or.inl k28 | exact Or.inr (Int32.not_le.mp k35), rfl⟩⟩⟩⟩, by rw [ht]; exact hP9, hD9⟩, hS.F ht⟩) hS.2.2 dX9_write_40
      · skip
        have k28 := c5
        refine lv_iload_n hx hb dX9_write_31 rfl (lv_at hl 1 rfl) ?_
        refine lv_sipush (v := 999) hx hb dX9_write_32 (by decide) ?_
        refine lv_icmp_le (x := ia) (y := 999) (tgt := 41) hx hb dX9_write_35 (by decide) (fun c6 => ?_) (fun c6 => ?_)
        · skip
          have k35 := c6
          refine lv_aload_n hx hb dX9_write_41 rfl (lv_at hl 0 rfl) ?_
          refine va_get (D := D) (ci := 9) (v := .ref bo) (C := RX9) (T := TX9) (N := 13) hx hb hts hi9 hown hG.1 hP 0 rfl rfl 4 (by decide) (hts (.fieldLink RX9 34 "SleptMatters" "book" "LSleptMatters$Book;") (List.mem_cons_of_mem _ (List.mem_append_left _ (List.mem_append_left _ (List.mem_append_left _ (List.mem_of_getElem? (i := 3) rfl)))))) (fun _ h9 => h9) rfl dX9_write_42 ?_
          refine va_get (D := D) (ci := 0) (v := .int (nI b)) (C := RX0) (T := TX0) (N := 4) hx hb hts hi0 hown hG.1 hP 3 rfl rfl 0 (by decide) (hts (.fieldLink RX9 114 "SleptMatters$Book" "size" "I") (List.mem_cons_of_mem _ (List.mem_append_left _ (List.mem_append_left _ (List.mem_append_left _ (List.mem_of_getElem? (i := 4) rfl)))))) (fun _ h9 => h9) rfl dX9_write_45 ?_
          refine lv_bipush (v := 20) hx hb dX9_write_48 (by decide) ?_
          refine bn_lt (i := b) (j := 20) (tgt := 56) hx hb dX9_write_50 (by decide) (by omega) (by omega) (fun c7 => ?_) (fun c7 => ?_)
          · skip
            refine lv_aload_n hx hb dX9_write_56 rfl (lv_at hl 0 rfl) ?_
            refine va_get (D := D) (ci := 9) (v := .ref bo) (C := RX9) (T := TX9) (N := 13) hx hb hts hi9 hown hG.1 hP 0 rfl rfl 4 (by decide) (hts (.fieldLink RX9 34 "SleptMatters" "book" "LSleptMatters$Book;") (List.mem_cons_of_mem _ (List.mem_append_left _ (List.mem_append_left _ (List.mem_append_left _ (List.mem_of_getElem? (i := 3) rfl)))))) (fun _ h9 => h9) rfl dX9_write_57 ?_
            refine lv_iload_n hx hb dX9_write_60 rfl (lv_at hl 1 rfl) ?_
            refine lv_iload_n hx hb dX9_write_61 rfl (lv_at hl 2 rfl) ?_
            refine lv_iload_n hx hb dX9_write_62 rfl (lv_at hl 3 rfl) ?_
            have hPc := hP.sub (ws' := (c_X0_add k bo bq1 bq2 bq3 b bd bs bh ia ib ic)) [3, 4, 5, 6] rfl
            have hDc := hD.sub (ws' := (c_X0_add k bo bq1 bq2 bq3 b bd bs bh ia ib ic)) [3, 4, 5, 6] (by decide +kernel) rfl
            refine cl_v (w1 := w_X0_add k bo bq1 bq2 bq3 b bd bs bh ia ib ic) (wr := [(h, .inr (9, [.ref tx, .ref co, .ref im, .ref ik, .ref bo, .ref rs, .ref pl, .ref ch, .ref pa, .ref pb, .ref lw, .ref lv, .int fb])), (pa, .inr (8, [.ref t, .ref tn, .ref tl, .ref tc, .ref ta])), (t, .inl (k 0, 4, .inl (cI q)))]) (va_runV (As := [.int ia, .int ib, .int ic]) (rest := []) ⟨hx, hb, hml, hown, hts⟩ (X0_add l D k s.heap.size bo bq1 bq2 bq3 b bd bs bh ia ib ic (by omega)) (cwV 3 hts gX9_write_X0_add rfl rfl rfl (by decide +kernel) ⟨Nat.le_of_ble_eq_true rfl, Nat.le_of_ble_eq_true rfl⟩) ⟨PR.blind _ _ _ _ _, va_recv hG.1 hP (ci := 0) (q0 := 3) rfl rfl, PR.pre hPc hDc hG [.ref bo, .int ia, .int ib, .int ic]⟩ rfl rfl hl.1 rfl (lv_room (Nat.le_of_ble_eq_true rfl)) dX9_write_63 ⟨Nat.le_of_ble_eq_true rfl, Nat.le_of_ble_eq_true rfl⟩) hP hD hS hA [3, 4, 5, 6] [0, 1, 2] rfl rfl (by decide +kernel) (by decide +kernel) (fun u H locs hq hP hD hS => ?_)
            cases u
            have hP : va_P D vwCl [(h, .inr (9, [.ref tx, .ref co, .ref im, .ref ik, .ref bo, .ref rs, .ref pl, .ref ch, .ref pa, .ref pb, .ref lw, .ref lv, .int fb])), (pa, .inr (8, [.ref t, .ref tn, .ref tl, .ref tc, .ref ta])), (t, .inl (k 0, 4, .inl (cI q))), (bo, .inr (0, [.int (nI (b + 1)), .ref bq1, .ref bq2, .ref bq3])), (bq1, .inl (k 0, 20, .inl (upd bd b ia))), (bq2, .inl (k 0, 20, .inl (upd bs b ib))), (bq3, .inl (k 0, 20, .inl (upd bh b ic)))] H := hP
            have hD : va_D A [(h, .inr (9, [.ref tx, .ref co, .ref im, .ref ik, .ref bo, .ref rs, .ref pl, .ref ch, .ref pa, .ref pb, .ref lw, .ref lv, .int fb])), (pa, .inr (8, [.ref t, .ref tn, .ref tl, .ref tc, .ref ta])), (t, .inl (k 0, 4, .inl (cI q))), (bo, .inr (0, [.int (nI (b + 1)), .ref bq1, .ref bq2, .ref bq3])), (bq1, .inl (k 0, 20, .inl (upd bd b ia))), (bq2, .inl (k 0, 20, .inl (upd bs b ib))), (bq3, .inl (k 0, 20, .inl (upd bh b ic)))] := hD
            refine lv_aload_n hx hb dX9_write_66 rfl (lv_at hl 0 rfl) ?_
            refine va_get (D := D) (ci := 9) (v := .ref bo) (C := RX9) (T := TX9) (N := 13) hx hb hts hi9 hown hG.1 hP 0 rfl rfl 4 (by decide) (hts (.fieldLink RX9 34 "SleptMatters" "book" "LSleptMatters$Book;") (List.mem_cons_of_mem _ (List.mem_append_left _ (List.mem_append_left _ (List.mem_append_left _ (List.mem_of_getElem? (i := 3) rfl)))))) (fun _ h9 => h9) rfl dX9_write_67 ?_
            refine va_get (D := D) (ci := 0) (v := .int (nI (b + 1))) (C := RX0) (T := TX0) (N := 4) hx hb hts hi0 hown hG.1 hP 3 rfl rfl 0 (by decide) (hts (.fieldLink RX9 114 "SleptMatters$Book" "size" "I") (List.mem_cons_of_mem _ (List.mem_append_left _ (List.mem_append_left _ (List.mem_append_left _ (List.mem_of_getElem? (i := 4) rfl)))))) (fun _ h9 => h9) rfl dX9_write_70 ?_
            have hP9 := hP.sub (ws' := [(h, .inr (9, [.ref tx, .ref co, .ref im, .ref ik, .ref bo, .ref rs, .ref pl, .ref ch, .ref pa, .ref pb, .ref lw, .ref lv, .int fb])), (pa, .inr (8, [.ref t, .ref tn, .ref tl, .ref tc, .ref ta])), (t, .inl (k 0, 4, .inl (cI q))), (bo, .inr (0, [.int (nI (b + 1)), .ref bq1, .ref bq2, .ref bq3])), (bq1, .inl (k 0, 20, .inl (upd bd b ia))), (bq2, .inl (k 0, 20, .inl (upd bs b ib))), (bq3, .inl (k 0, 20, .inl (upd bh b ic)))]) [0, 1, 2, 3, 4, 5, 6] rfl
            have hD9 := hD.sub (ws' := [(h, .inr (9, [.ref tx, .ref co, .ref im, .ref ik, .ref bo, .ref rs, .ref pl, .ref ch, .ref pa, .ref pb, .ref lw, .ref lv, .int fb])), (pa, .inr (8, [.ref t, .ref tn, .ref tl, .ref tc, .ref ta])), (t, .inl (k 0, 4, .inl (cI q))), (bo, .inr (0, [.int (nI (b + 1)), .ref bq1, .ref bq2, .ref bq3])), (bq1, .inl (k 0, 20, .inl (upd bd b ia))), (bq2, .inl (k 0, 20, .inl (upd bs b ib))), (bq3, .inl (k 0, 20, .inl (upd bh b ic)))]) [0, 1, 2, 3, 4, 5, 6] (by decide +kernel) rfl
            exact W.iret (v := nI (b + 1)) hx hb hr (fun t9 ht _ => ⟨⟨nI (b + 1), (b + 1, upd bd b ia, upd bs b ib, upd bh b ic), rfl, ⟨(show (b + 1) ≤ 20 by omega), Or.inr ⟨⟨k9, k21⟩, ⟨k28, k35⟩, by omega, rfl, rfl, rfl, rfl, rfl⟩⟩, by rw [ht]; exact hP9, hD9⟩, hS.F ht⟩) hS.2.2 dX9_write_73
          · skip
            refine lv_ldc (v := (-1000000004)) hx hb hown (hts (.constant RX9 91 (-1000000004)) (List.mem_cons_of_mem _ (List.mem_append_left _ (List.mem_append_left _ (List.mem_append_left _ (List.mem_of_getElem? (i := 5) rfl)))))) dX9_write_53 ?_
            have hP9 := hP.sub (ws' := [(h, .inr (9, [.ref tx, .ref co, .ref im, .ref ik, .ref bo, .ref rs, .ref pl, .ref ch, .ref pa, .ref pb, .ref lw, .ref lv, .int fb])), (pa, .inr (8, [.ref t, .ref tn, .ref tl, .ref tc, .ref ta])), (t, .inl (k 0, 4, .inl (cI q))), (bo, .inr (0, [.int (nI b), .ref bq1, .ref bq2, .ref bq3])), (bq1, .inl (k 0, 20, .inl bd)), (bq2, .inl (k 0, 20, .inl bs)), (bq3, .inl (k 0, 20, .inl bh))]) [0, 1, 2, 3, 4, 5, 6] rfl
            have hD9 := hD.sub (ws' := [(h, .inr (9, [.ref tx, .ref co, .ref im, .ref ik, .ref bo, .ref rs, .ref pl, .ref ch, .ref pa, .ref pb, .ref lw, .ref lv, .int fb])), (pa, .inr (8, [.ref t, .ref tn, .ref tl, .ref tc, .ref ta])), (t, .inl (k 0, 4, .inl (cI q))), (bo, .inr (0, [.int (nI b), .ref bq1, .ref bq2, .ref bq3])), (bq1, .inl (k 0, 20, .inl bd)), (bq2, .inl (k 0, 20, .inl bs)), (bq3, .inl (k 0, 20, .inl bh))]) [0, 1, 2, 3, 4, 5, 6] (by decide +kernel) rfl
            exact W.iret (v := (-1000000004)) hx hb hr (fun t9 ht _ => ⟨⟨(-1000000004), (b, bd, bs, bh), rfl, ⟨(show b ≤ 20 by omega), Or.inl ⟨rfl, rfl, rfl, rfl, Or.inr ⟨⟨k9, k21⟩, Or.inr ⟨⟨k28, k35⟩, by omega, rfl⟩⟩⟩⟩, by rw [ht]; exact hP9, hD9⟩, hS.F ht⟩) hS.2.2 dX9_write_55
        · skip
          have k35 := c6
          refine lv_ldc (v := (-1000000002)) hx hb hown (hts (.constant RX9 87 (-1000000002)) (List.mem_cons_of_mem _ (List.mem_append_left _ (List.mem_append_left _ (List.mem_append_left _ (List.mem_of_getElem? (i := 2) rfl)))))) dX9_write_38 ?_
          have hP9 := hP.sub (ws' := [(h, .inr (9, [.ref tx, .ref co, .ref im, .ref ik, .ref bo, .ref rs, .ref pl, .ref ch, .ref pa, .ref pb, .ref lw, .ref lv, .int fb])), (pa, .inr (8, [.ref t, .ref tn, .ref tl, .ref tc, .ref ta])), (t, .inl (k 0, 4, .inl (cI q))), (bo, .inr (0, [.int (nI b), .ref bq1, .ref bq2, .ref bq3])), (bq1, .inl (k 0, 20, .inl bd)), (bq2, .inl (k 0, 20, .inl bs)), (bq3, .inl (k 0, 20, .inl bh))]) [0, 1, 2, 3, 4, 5, 6] rfl
          have hD9 := hD.sub (ws' := [(h, .inr (9, [.ref tx, .ref co, .ref im, .ref ik, .ref bo, .ref rs, .ref pl, .ref ch, .ref pa, .ref pb, .ref lw, .ref lv, .int fb])), (pa, .inr (8, [.ref t, .ref tn, .ref tl, .ref tc, .ref ta])), (t, .inl (k 0, 4, .inl (cI q))), (bo, .inr (0, [.int (nI b), .ref bq1, .ref bq2, .ref bq3])), (bq1, .inl (k 0, 20, .inl bd)), (bq2, .inl (k 0, 20, .inl bs)), (bq3, .inl (k 0, 20, .inl bh))]) [0, 1, 2, 3, 4, 5, 6] (by decide +kernel) rfl
          exact W.iret (v := (-1000000002)) hx hb hr (fun t9 ht _ => ⟨⟨(-1000000002), (b, bd, bs, bh), rfl, ⟨(show b ≤ 20 by omega), Or.inl ⟨rfl, rfl, rfl, rfl, Or.inr ⟨⟨k9, k21⟩, Or.inl ⟨by first | exact Or.inl k28 | exact Or.inr (Int32.not_le.mp k35), rfl⟩⟩⟩⟩, by rw [ht]; exact hP9, hD9⟩, hS.F ht⟩) hS.2.2 dX9_write_40
    · skip
      have k21 := c4
      refine lv_ldc (v := (-1000000001)) hx hb hown (hts (.constant RX9 147 (-1000000001)) (List.mem_cons_of_mem _ (List.mem_append_left _ (List.mem_append_left _ (List.mem_append_left _ (List.mem_of_getElem? (i := 1) rfl)))))) dX9_write_24 ?_
      have hP9 := hP.sub (ws' := [(h, .inr (9, [.ref tx, .ref co, .ref im, .ref ik, .ref bo, .ref rs, .ref pl, .ref ch, .ref pa, .ref pb, .ref lw, .ref lv, .int fb])), (pa, .inr (8, [.ref t, .ref tn, .ref tl, .ref tc, .ref ta])), (t, .inl (k 0, 4, .inl (cI q))), (bo, .inr (0, [.int (nI b), .ref bq1, .ref bq2, .ref bq3])), (bq1, .inl (k 0, 20, .inl bd)), (bq2, .inl (k 0, 20, .inl bs)), (bq3, .inl (k 0, 20, .inl bh))]) [0, 1, 2, 3, 4, 5, 6] rfl
      have hD9 := hD.sub (ws' := [(h, .inr (9, [.ref tx, .ref co, .ref im, .ref ik, .ref bo, .ref rs, .ref pl, .ref ch, .ref pa, .ref pb, .ref lw, .ref lv, .int fb])), (pa, .inr (8, [.ref t, .ref tn, .ref tl, .ref tc, .ref ta])), (t, .inl (k 0, 4, .inl (cI q))), (bo, .inr (0, [.int (nI b), .ref bq1, .ref bq2, .ref bq3])), (bq1, .inl (k 0, 20, .inl bd)), (bq2, .inl (k 0, 20, .inl bs)), (bq3, .inl (k 0, 20, .inl bh))]) [0, 1, 2, 3, 4, 5, 6] (by decide +kernel) rfl
      exact W.iret (v := (-1000000001)) hx hb hr (fun t9 ht _ => ⟨⟨(-1000000001), (b, bd, bs, bh), rfl, ⟨(show b ≤ 20 by omega), Or.inl ⟨rfl, rfl, rfl, rfl, Or.inl ⟨by first | exact Or.inl k9 | exact Or.inr k21, rfl⟩⟩⟩, by rw [ht]; exact hP9, hD9⟩, hS.F ht⟩) hS.2.2 dX9_write_26

abbrev c_X9_tear (k : Nat → ClassId) (h : Nat) (tx : Nat) (co : Nat) (im : Nat) (ik : Nat) (bo : Nat) (rs : Nat) (pl : Nat) (ch : Nat) (pa : Nat) (pb : Nat) (lw : Nat) (lv : Nat) (fb : Int32) (bq1 : Nat) (bq2 : Nat) (bq3 : Nat) (b : Nat) : va_W := [(h, .inr (9, [.ref tx, .ref co, .ref im, .ref ik, .ref bo, .ref rs, .ref pl, .ref ch, .ref pa, .ref pb, .ref lw, .ref lv, .int fb])), (bo, .inr (0, [.int (nI b), .ref bq1, .ref bq2, .ref bq3]))]
abbrev r_X9_tear : Room := { frames := 0, cells := 0, slots := 0, locals := 0 }
def w_X9_tear (k : Nat → ClassId) (h : Nat) (tx : Nat) (co : Nat) (im : Nat) (ik : Nat) (bo : Nat) (rs : Nat) (pl : Nat) (ch : Nat) (pa : Nat) (pb : Nat) (lw : Nat) (lv : Nat) (fb : Int32) (bq1 : Nat) (bq2 : Nat) (bq3 : Nat) (b : Nat) : Unit → va_W := fun _ => [(h, .inr (9, [.ref tx, .ref co, .ref im, .ref ik, .ref bo, .ref rs, .ref pl, .ref ch, .ref pa, .ref pb, .ref lw, .ref lv, .int fb])), (bo, .inr (0, [.int (nI 0), .ref bq1, .ref bq2, .ref bq3]))]
def p_X9_tear (k : Nat → ClassId) (h : Nat) (tx : Nat) (co : Nat) (im : Nat) (ik : Nat) (bo : Nat) (rs : Nat) (pl : Nat) (ch : Nat) (pa : Nat) (pb : Nat) (lw : Nat) (lv : Nat) (fb : Int32) (bq1 : Nat) (bq2 : Nat) (bq3 : Nat) (b : Nat) : Int32 → Unit → Prop := fun (r : Int32) (u : Unit) => r = nI b
abbrev q_X9_tear (D : va_G) (k : Nat → ClassId) (h : Nat) (tx : Nat) (co : Nat) (im : Nat) (ik : Nat) (bo : Nat) (rs : Nat) (pl : Nat) (ch : Nat) (pa : Nat) (pb : Nat) (lw : Nat) (lv : Nat) (fb : Int32) (bq1 : Nat) (bq2 : Nat) (bq3 : Nat) (b : Nat) (A : Nat → Prop) : Array Value → State → Outcome → State → Prop := va_Qi (p_X9_tear k h tx co im ik bo rs pl ch pa pb lw lv fb bq1 bq2 bq3 b) (fun u9 t9 => BO D (w_X9_tear k h tx co im ik bo rs pl ch pa pb lw lv fb bq1 bq2 bq3 b u9) A t9) A
set_option maxHeartbeats 2000000 in
set_option maxRecDepth 100000 in
theorem X9_tear (l : Launch) (D : va_G) (k : Nat → ClassId) (sz : Nat) (h : Nat) (tx : Nat) (co : Nat) (im : Nat) (ik : Nat) (bo : Nat) (rs : Nat) (pl : Nat) (ch : Nat) (pa : Nat) (pb : Nat) (lw : Nat) (lv : Nat) (fb : Int32) (bq1 : Nat) (bq2 : Nat) (bq3 : Nat) (b : Nat)  : Met l yX9_tear wsX9_tear r_X9_tear (va_Pc [.ref h] (PR D k (c_X9_tear k h tx co im ik bo rs pl ch pa pb lw lv fb bq1 bq2 bq3 b) sz)) (q_X9_tear D k h tx co im ik bo rs pl ch pa pb lw lv fb bq1 bq2 bq3 b (va_A (c_X9_tear k h tx co im ik bo rs pl ch pa pb lw lv fb bq1 bq2 bq3 b) sz)) 0 0 (va_A (c_X9_tear k h tx co im ik bo rs pl ch pa pb lw lv fb bq1 bq2 bq3 b) sz) := by
  refine Met.ofW (cc := cX9_tear) (maxL := 2) (ret := (some .int)) (by decide) rfl ?_
  intro p e s m args below meth c s₁ B hml hv
  obtain ⟨rfl, hsz, hP, hG, hD0⟩ := hv
  have hx := B.exec
  have hb := B.bytes
  have hr := B.returns
  have hts := atoms_spec (ws := wsX9_tear) B.pre
  have hown : s.vm.findClass RX9 = some m.cls := findClass_of_methodNamed B.named
  have hlocks := B.notSynchronized
  have hi9 : ∀ w ∈ wsX90, w ∈ wsX9_tear := fun _ h => List.mem_cons_of_mem _ (List.mem_append_left _ (List.mem_append_right _ h))
  have hi0 : ∀ w ∈ wsX00, w ∈ wsX9_tear := fun _ h => List.mem_cons_of_mem _ (List.mem_append_right _ h)
  subst hsz
  have hD := hD0.self (sz := s.heap.size)
  generalize hAe : va_A (c_X9_tear k h tx co im ik bo rs pl ch pa pb lw lv fb bq1 bq2 bq3 b) s.heap.size = A at hD ⊢
  have hA : ∀ q : Nat, s.heap.size ≤ q → A q := fun q h => by rw [← hAe]; exact Or.inr h
  have hS : va_S A s.heap s.heap [] := va_S.rf
  have hP : va_P D vwCl [(h, .inr (9, [.ref tx, .ref co, .ref im, .ref ik, .ref bo, .ref rs, .ref pl, .ref ch, .ref pa, .ref pb, .ref lw, .ref lv, .int fb])), (bo, .inr (0, [.int (nI b), .ref bq1, .ref bq2, .ref bq3]))] s.heap := hP
  have hD : va_D A [(h, .inr (9, [.ref tx, .ref co, .ref im, .ref ik, .ref bo, .ref rs, .ref pl, .ref ch, .ref pa, .ref pb, .ref lw, .ref lv, .int fb])), (bo, .inr (0, [.int (nI b), .ref bq1, .ref bq2, .ref bq3]))] := hD
  have hl := lv_entry ([.ref h]) (n := 2) (Nat.le_of_ble_eq_true rfl)
  rw [lg_entry_eq]
  generalize (lg_sl ([.ref h]) ++ List.replicate (2 - (lg_sl ([.ref h])).length) Slot.unset).toArray = ls at hl ⊢
  have hl : lv_has ls 2 [(0, .ref h)] := hl
  refine lv_aload_n hx hb dX9_tear_0 rfl (lv_at hl 0 rfl) ?_
  refine va_get (D := D) (ci := 9) (v := .ref bo) (C := RX9) (T := TX9) (N := 13) hx hb hts hi9 hown hG.1 hP 0 rfl rfl 4 (by decide) (hts (.fieldLink RX9 34 "SleptMatters" "book" "LSleptMatters$Book;") (List.mem_cons_of_mem _ (List.mem_append_left _ (List.mem_append_left _ (List.mem_of_getElem? (i := 0) rfl))))) (fun _ h9 => h9) rfl dX9_tear_1 ?_
  refine va_get (D := D) (ci := 0) (v := .int (nI b)) (C := RX0) (T := TX0) (N := 4) hx hb hts hi0 hown hG.1 hP 1 rfl rfl 0 (by decide) (hts (.fieldLink RX9 114 "SleptMatters$Book" "size" "I") (List.mem_cons_of_mem _ (List.mem_append_left _ (List.mem_append_left _ (List.mem_of_getElem? (i := 1) rfl))))) (fun _ h9 => h9) rfl dX9_tear_4 ?_
  refine lv_istore_n (lv' := [(1, .int (nI b)), (0, .ref h)]) hx hb dX9_tear_7 rfl hl (by decide) rfl (fun ls hl => ?_)
  refine lv_aload_n hx hb dX9_tear_8 rfl (lv_at hl 1 rfl) ?_
  refine va_get (D := D) (ci := 9) (v := .ref bo) (C := RX9) (T := TX9) (N := 13) hx hb hts hi9 hown hG.1 hP 0 rfl rfl 4 (by decide) (hts (.fieldLink RX9 34 "SleptMatters" "book" "LSleptMatters$Book;") (List.mem_cons_of_mem _ (List.mem_append_left _ (List.mem_append_left _ (List.mem_of_getElem? (i := 0) rfl))))) (fun _ h9 => h9) rfl dX9_tear_9 ?_
  refine lv_iconst (v := 0) hx hb dX9_tear_12 (by decide) ?_
  refine va_put (D := D) (ci := 0) (v := .int 0) (ty := .int) (C := RX0) (T := TX0) (N := 4) hx hb hts hi0 tyX0 tyX0_ok nmX0 hown hG.1 hP hD hS 1 rfl rfl 0 (by decide) (hts (.fieldLink RX9 114 "SleptMatters$Book" "size" "I") (List.mem_cons_of_mem _ (List.mem_append_left _ (List.mem_append_left _ (List.mem_of_getElem? (i := 1) rfl))))) (fun _ h9 => h9) rfl (by decide +kernel) rfl rfl (Nat.le_of_ble_eq_true rfl) dX9_tear_13 (fun H locs hP hD hS => ?_)
  have hP : va_P D vwCl [(h, .inr (9, [.ref tx, .ref co, .ref im, .ref ik, .ref bo, .ref rs, .ref pl, .ref ch, .ref pa, .ref pb, .ref lw, .ref lv, .int fb])), (bo, .inr (0, [.int 0, .ref bq1, .ref bq2, .ref bq3]))] H := hP
  have hD : va_D A [(h, .inr (9, [.ref tx, .ref co, .ref im, .ref ik, .ref bo, .ref rs, .ref pl, .ref ch, .ref pa, .ref pb, .ref lw, .ref lv, .int fb])), (bo, .inr (0, [.int 0, .ref bq1, .ref bq2, .ref bq3]))] := hD
  refine lv_iload_n hx hb dX9_tear_16 rfl (lv_at hl 0 rfl) ?_
  have hP9 := hP.sub (ws' := [(h, .inr (9, [.ref tx, .ref co, .ref im, .ref ik, .ref bo, .ref rs, .ref pl, .ref ch, .ref pa, .ref pb, .ref lw, .ref lv, .int fb])), (bo, .inr (0, [.int (nI 0), .ref bq1, .ref bq2, .ref bq3]))]) [0, 1] rfl
  have hD9 := hD.sub (ws' := [(h, .inr (9, [.ref tx, .ref co, .ref im, .ref ik, .ref bo, .ref rs, .ref pl, .ref ch, .ref pa, .ref pb, .ref lw, .ref lv, .int fb])), (bo, .inr (0, [.int (nI 0), .ref bq1, .ref bq2, .ref bq3]))]) [0, 1] (by decide +kernel) rfl
  exact W.iret (v := nI b) hx hb hr (fun t9 ht _ => ⟨⟨nI b, (), rfl, rfl, by rw [ht]; exact hP9, hD9⟩, hS.F ht⟩) hS.2.2 dX9_tear_17

abbrev c_X9_seed (k : Nat → ClassId) (h : Nat) (tx : Nat) (co : Nat) (im : Nat) (ik : Nat) (bo : Nat) (rs : Nat) (pl : Nat) (ch : Nat) (pa : Nat) (pb : Nat) (lw : Nat) (lv : Nat) (fb : Int32) (q0 : Nat) (q1 : Nat) (q2 : Nat) (q3 : Nat) (q4 : Nat) (q5 : Nat) (q6 : Nat) (wg : Int32) (dy : Nat) (sd : Int32) (ia : Int32) : va_W := [(h, .inr (9, [.ref tx, .ref co, .ref im, .ref ik, .ref bo, .ref rs, .ref pl, .ref ch, .ref pa, .ref pb, .ref lw, .ref lv, .int fb])), (co, .inr (2, [.ref q0, .ref q1, .ref q2, .ref q3, .ref q4, .ref q5, .ref q6, .int wg, .int (nI dy), .int sd]))]
abbrev r_X9_seed : Room := { frames := 0, cells := 0, slots := 0, locals := 0 }
def w_X9_seed (k : Nat → ClassId) (h : Nat) (tx : Nat) (co : Nat) (im : Nat) (ik : Nat) (bo : Nat) (rs : Nat) (pl : Nat) (ch : Nat) (pa : Nat) (pb : Nat) (lw : Nat) (lv : Nat) (fb : Int32) (q0 : Nat) (q1 : Nat) (q2 : Nat) (q3 : Nat) (q4 : Nat) (q5 : Nat) (q6 : Nat) (wg : Int32) (dy : Nat) (sd : Int32) (ia : Int32) : Int32 → va_W := fun sd9 => [(h, .inr (9, [.ref tx, .ref co, .ref im, .ref ik, .ref bo, .ref rs, .ref pl, .ref ch, .ref pa, .ref pb, .ref lw, .ref lv, .int fb])), (co, .inr (2, [.ref q0, .ref q1, .ref q2, .ref q3, .ref q4, .ref q5, .ref q6, .int wg, .int (nI dy), .int sd9]))]
def p_X9_seed (k : Nat → ClassId) (h : Nat) (tx : Nat) (co : Nat) (im : Nat) (ik : Nat) (bo : Nat) (rs : Nat) (pl : Nat) (ch : Nat) (pa : Nat) (pb : Nat) (lw : Nat) (lv : Nat) (fb : Int32) (q0 : Nat) (q1 : Nat) (q2 : Nat) (q3 : Nat) (q4 : Nat) (q5 : Nat) (q6 : Nat) (wg : Int32) (dy : Nat) (sd : Int32) (ia : Int32) : Int32 → Int32 → Prop := fun (r : Int32) (u : Int32) => sdS ia sd u r
abbrev q_X9_seed (D : va_G) (k : Nat → ClassId) (h : Nat) (tx : Nat) (co : Nat) (im : Nat) (ik : Nat) (bo : Nat) (rs : Nat) (pl : Nat) (ch : Nat) (pa : Nat) (pb : Nat) (lw : Nat) (lv : Nat) (fb : Int32) (q0 : Nat) (q1 : Nat) (q2 : Nat) (q3 : Nat) (q4 : Nat) (q5 : Nat) (q6 : Nat) (wg : Int32) (dy : Nat) (sd : Int32) (ia : Int32) (A : Nat → Prop) : Array Value → State → Outcome → State → Prop := va_Qi (p_X9_seed k h tx co im ik bo rs pl ch pa pb lw lv fb q0 q1 q2 q3 q4 q5 q6 wg dy sd ia) (fun u9 t9 => BO D (w_X9_seed k h tx co im ik bo rs pl ch pa pb lw lv fb q0 q1 q2 q3 q4 q5 q6 wg dy sd ia u9) A t9) A
set_option maxHeartbeats 2000000 in
set_option maxRecDepth 100000 in
theorem X9_seed (l : Launch) (D : va_G) (k : Nat → ClassId) (sz : Nat) (h : Nat) (tx : Nat) (co : Nat) (im : Nat) (ik : Nat) (bo : Nat) (rs : Nat) (pl : Nat) (ch : Nat) (pa : Nat) (pb : Nat) (lw : Nat) (lv : Nat) (fb : Int32) (q0 : Nat) (q1 : Nat) (q2 : Nat) (q3 : Nat) (q4 : Nat) (q5 : Nat) (q6 : Nat) (wg : Int32) (dy : Nat) (sd : Int32) (ia : Int32)  : Met l yX9_seed wsX9_seed r_X9_seed (va_Pc [.ref h, .int ia] (PR D k (c_X9_seed k h tx co im ik bo rs pl ch pa pb lw lv fb q0 q1 q2 q3 q4 q5 q6 wg dy sd ia) sz)) (q_X9_seed D k h tx co im ik bo rs pl ch pa pb lw lv fb q0 q1 q2 q3 q4 q5 q6 wg dy sd ia (va_A (c_X9_seed k h tx co im ik bo rs pl ch pa pb lw lv fb q0 q1 q2 q3 q4 q5 q6 wg dy sd ia) sz)) 0 0 (va_A (c_X9_seed k h tx co im ik bo rs pl ch pa pb lw lv fb q0 q1 q2 q3 q4 q5 q6 wg dy sd ia) sz) := by
  refine Met.ofW (cc := cX9_seed) (maxL := 3) (ret := (some .int)) (by decide) rfl ?_
  intro p e s m args below meth c s₁ B hml hv
  obtain ⟨rfl, hsz, hP, hG, hD0⟩ := hv
  have hx := B.exec
  have hb := B.bytes
  have hr := B.returns
  have hts := atoms_spec (ws := wsX9_seed) B.pre
  have hown : s.vm.findClass RX9 = some m.cls := findClass_of_methodNamed B.named
  have hlocks := B.notSynchronized
  have hi9 : ∀ w ∈ wsX90, w ∈ wsX9_seed := fun _ h => List.mem_cons_of_mem _ (List.mem_append_left _ (List.mem_append_right _ h))
  have hi2 : ∀ w ∈ wsX20, w ∈ wsX9_seed := fun _ h => List.mem_cons_of_mem _ (List.mem_append_right _ h)
  subst hsz
  have hD := hD0.self (sz := s.heap.size)
  generalize hAe : va_A (c_X9_seed k h tx co im ik bo rs pl ch pa pb lw lv fb q0 q1 q2 q3 q4 q5 q6 wg dy sd ia) s.heap.size = A at hD ⊢
  have hA : ∀ q : Nat, s.heap.size ≤ q → A q := fun q h => by rw [← hAe]; exact Or.inr h
  have hS : va_S A s.heap s.heap [] := va_S.rf
  have hP : va_P D vwCl [(h, .inr (9, [.ref tx, .ref co, .ref im, .ref ik, .ref bo, .ref rs, .ref pl, .ref ch, .ref pa, .ref pb, .ref lw, .ref lv, .int fb])), (co, .inr (2, [.ref q0, .ref q1, .ref q2, .ref q3, .ref q4, .ref q5, .ref q6, .int wg, .int (nI dy), .int sd]))] s.heap := hP
  have hD : va_D A [(h, .inr (9, [.ref tx, .ref co, .ref im, .ref ik, .ref bo, .ref rs, .ref pl, .ref ch, .ref pa, .ref pb, .ref lw, .ref lv, .int fb])), (co, .inr (2, [.ref q0, .ref q1, .ref q2, .ref q3, .ref q4, .ref q5, .ref q6, .int wg, .int (nI dy), .int sd]))] := hD
  have hl := lv_entry ([.ref h, .int ia]) (n := 3) (Nat.le_of_ble_eq_true rfl)
  rw [lg_entry_eq]
  generalize (lg_sl ([.ref h, .int ia]) ++ List.replicate (3 - (lg_sl ([.ref h, .int ia])).length) Slot.unset).toArray = ls at hl ⊢
  have hl : lv_has ls 3 [(0, .ref h), (1, .int ia)] := hl
  refine lv_iload_n hx hb dX9_seed_0 rfl (lv_at hl 1 rfl) ?_
  refine lv_if_ge (x := ia) (tgt := 7) hx hb dX9_seed_1 (by decide) (fun c1 => ?_) (fun c1 => ?_)
  · skip
    have k1 := c1
    refine lv_aload_n hx hb dX9_seed_7 rfl (lv_at hl 0 rfl) ?_
    refine va_get (D := D) (ci := 9) (v := .ref co) (C := RX9) (T := TX9) (N := 13) hx hb hts hi9 hown hG.1 hP 0 rfl rfl 1 (by decide) (hts (.fieldLink RX9 19 "SleptMatters" "course" "LSleptMatters$Course;") (List.mem_cons_of_mem _ (List.mem_append_left _ (List.mem_append_left _ (List.mem_of_getElem? (i := 1) rfl))))) (fun _ h9 => h9) rfl dX9_seed_8 ?_
    refine va_get (D := D) (ci := 2) (v := .int sd) (C := RX2) (T := TX2) (N := 10) hx hb hts hi2 hown hG.1 hP 1 rfl rfl 9 (by decide) (hts (.fieldLink RX9 273 "SleptMatters$Course" "drawSeed" "I") (List.mem_cons_of_mem _ (List.mem_append_left _ (List.mem_append_left _ (List.mem_of_getElem? (i := 2) rfl))))) (fun _ h9 => h9) rfl dX9_seed_11 ?_
    refine lv_istore_n (lv' := [(2, .int sd), (0, .ref h), (1, .int ia)]) hx hb dX9_seed_14 rfl hl (by decide) rfl (fun ls hl => ?_)
    refine lv_aload_n hx hb dX9_seed_15 rfl (lv_at hl 1 rfl) ?_
    refine va_get (D := D) (ci := 9) (v := .ref co) (C := RX9) (T := TX9) (N := 13) hx hb hts hi9 hown hG.1 hP 0 rfl rfl 1 (by decide) (hts (.fieldLink RX9 19 "SleptMatters" "course" "LSleptMatters$Course;") (List.mem_cons_of_mem _ (List.mem_append_left _ (List.mem_append_left _ (List.mem_of_getElem? (i := 1) rfl))))) (fun _ h9 => h9) rfl dX9_seed_16 ?_
    refine lv_iload_n hx hb dX9_seed_19 rfl (lv_at hl 2 rfl) ?_
    refine va_put (D := D) (ci := 2) (v := .int ia) (ty := .int) (C := RX2) (T := TX2) (N := 10) hx hb hts hi2 tyX2 tyX2_ok nmX2 hown hG.1 hP hD hS 1 rfl rfl 9 (by decide) (hts (.fieldLink RX9 273 "SleptMatters$Course" "drawSeed" "I") (List.mem_cons_of_mem _ (List.mem_append_left _ (List.mem_append_left _ (List.mem_of_getElem? (i := 2) rfl))))) (fun _ h9 => h9) rfl (by decide +kernel) rfl rfl (Nat.le_of_ble_eq_true rfl) dX9_seed_20 (fun H locs hP hD hS => ?_)
    have hP : va_P D vwCl [(h, .inr (9, [.ref tx, .ref co, .ref im, .ref ik, .ref bo, .ref rs, .ref pl, .ref ch, .ref pa, .ref pb, .ref lw, .ref lv, .int fb])), (co, .inr (2, [.ref q0, .ref q1, .ref q2, .ref q3, .ref q4, .ref q5, .ref q6, .int wg, .int (nI dy), .int ia]))] H := hP
    have hD : va_D A [(h, .inr (9, [.ref tx, .ref co, .ref im, .ref ik, .ref bo, .ref rs, .ref pl, .ref ch, .ref pa, .ref pb, .ref lw, .ref lv, .int fb])), (co, .inr (2, [.ref q0, .ref q1, .ref q2, .ref q3, .ref q4, .ref q5, .ref q6, .int wg, .int (nI dy), .int ia]))] := hD
    refine lv_iload_n hx hb dX9_seed_23 rfl (lv_at hl 0 rfl) ?_
    have hP9 := hP.sub (ws' := [(h, .inr (9, [.ref tx, .ref co, .ref im, .ref ik, .ref bo, .ref rs, .ref pl, .ref ch, .ref pa, .ref pb, .ref lw, .ref lv, .int fb])), (co, .inr (2, [.ref q0, .ref q1, .ref q2, .ref q3, .ref q4, .ref q5, .ref q6, .int wg, .int (nI dy), .int ia]))]) [0, 1] rfl
    have hD9 := hD.sub (ws' := [(h, .inr (9, [.ref tx, .ref co, .ref im, .ref ik, .ref bo, .ref rs, .ref pl, .ref ch, .ref pa, .ref pb, .ref lw, .ref lv, .int fb])), (co, .inr (2, [.ref q0, .ref q1, .ref q2, .ref q3, .ref q4, .ref q5, .ref q6, .int wg, .int (nI dy), .int ia]))]) [0, 1] (by decide +kernel) rfl
    exact W.iret (v := sd) hx hb hr (fun t9 ht _ => ⟨⟨sd, (ia), rfl, Or.inr ⟨Int32.not_lt.mpr k1, rfl, rfl⟩, by rw [ht]; exact hP9, hD9⟩, hS.F ht⟩) hS.2.2 dX9_seed_24
  · skip
    have k1 := c1
    refine lv_ldc (v := (-1000000002)) hx hb hown (hts (.constant RX9 87 (-1000000002)) (List.mem_cons_of_mem _ (List.mem_append_left _ (List.mem_append_left _ (List.mem_of_getElem? (i := 0) rfl))))) dX9_seed_4 ?_
    have hP9 := hP.sub (ws' := [(h, .inr (9, [.ref tx, .ref co, .ref im, .ref ik, .ref bo, .ref rs, .ref pl, .ref ch, .ref pa, .ref pb, .ref lw, .ref lv, .int fb])), (co, .inr (2, [.ref q0, .ref q1, .ref q2, .ref q3, .ref q4, .ref q5, .ref q6, .int wg, .int (nI dy), .int sd]))]) [0, 1] rfl
    have hD9 := hD.sub (ws' := [(h, .inr (9, [.ref tx, .ref co, .ref im, .ref ik, .ref bo, .ref rs, .ref pl, .ref ch, .ref pa, .ref pb, .ref lw, .ref lv, .int fb])), (co, .inr (2, [.ref q0, .ref q1, .ref q2, .ref q3, .ref q4, .ref q5, .ref q6, .int wg, .int (nI dy), .int sd]))]) [0, 1] (by decide +kernel) rfl
    exact W.iret (v := (-1000000002)) hx hb hr (fun t9 ht _ => ⟨⟨(-1000000002), (sd), rfl, Or.inl ⟨Int32.not_le.mp k1, rfl, rfl⟩, by rw [ht]; exact hP9, hD9⟩, hS.F ht⟩) hS.2.2 dX9_seed_6
