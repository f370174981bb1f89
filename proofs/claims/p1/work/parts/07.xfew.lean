set_option maxRecDepth 20000 in
theorem ggX9_house_X8_has : GoodIn wsX9_house wsX8_has := goodIn_r _ [9, 10, 37, 38, 39, 40, 41] rfl (by decide +kernel)
set_option maxRecDepth 20000 in
theorem gX9_house_X8_has : GoodIn wsX9_house (wsV RX9 143 RX8 yX8_has wsX8_has) := goodIn_app (goodIn_of _ (by decide +kernel)) ggX9_house_X8_has
set_option maxRecDepth 20000 in
theorem ggX9_house_X8_part : GoodIn wsX9_house wsX8_part := goodIn_r _ [14, 15, 16, 6, 7, 8, 9, 10, 37, 38, 39, 40, 41] rfl (by decide +kernel)
set_option maxRecDepth 20000 in
theorem gX9_house_X8_part : GoodIn wsX9_house (wsV RX9 148 RX8 yX8_part wsX8_part) := goodIn_app (goodIn_of _ (by decide +kernel)) ggX9_house_X8_part
set_option maxRecDepth 20000 in
theorem ggX9_house_X2_bedsFree : GoodIn wsX9_house wsX2_bedsFree := goodIn_r _ [21, 22, 23, 12, 13, 8, 14, 15, 16, 6, 7, 9, 10, 42, 43, 44, 45, 46, 47, 48, 49, 50, 51, 37, 38, 39, 40, 41] rfl (by decide +kernel)
set_option maxRecDepth 20000 in
theorem gX9_house_X2_bedsFree : GoodIn wsX9_house (wsV RX9 152 RX2 yX2_bedsFree wsX2_bedsFree) := goodIn_app (goodIn_of _ (by decide +kernel)) ggX9_house_X2_bedsFree
theorem dX9_house_0 : decode cX9_house 0 = .ok (.aload_n 0, 1) := by decide +kernel
theorem dX9_house_1 : decode cX9_house 1 = .ok (.getfield 41, 3) := by decide +kernel
theorem dX9_house_4 : decode cX9_house 4 = .ok (.iconst 0, 1) := by decide +kernel
theorem dX9_house_5 : decode cX9_house 5 = .ok (.iload_n 1, 1) := by decide +kernel
theorem dX9_house_6 : decode cX9_house 6 = .ok (.invokevirtual 143, 3) := by decide +kernel
theorem dX9_house_9 : decode cX9_house 9 = .ok (.ifCond .ne 6, 3) := by decide +kernel
theorem dX9_house_12 : decode cX9_house 12 = .ok (.ldc 147, 2) := by decide +kernel
theorem dX9_house_14 : decode cX9_house 14 = .ok (.ireturn, 1) := by decide +kernel
theorem dX9_house_15 : decode cX9_house 15 = .ok (.iload_n 2, 1) := by decide +kernel
theorem dX9_house_16 : decode cX9_house 16 = .ok (.tableswitch 63 0 2 #[28, 39, 50], 28) := by decide +kernel
theorem dX9_house_44 : decode cX9_house 44 = .ok (.aload_n 0, 1) := by decide +kernel
theorem dX9_house_45 : decode cX9_house 45 = .ok (.getfield 41, 3) := by decide +kernel
theorem dX9_house_48 : decode cX9_house 48 = .ok (.iconst 0, 1) := by decide +kernel
theorem dX9_house_49 : decode cX9_house 49 = .ok (.iload_n 1, 1) := by decide +kernel
theorem dX9_house_50 : decode cX9_house 50 = .ok (.iconst 0, 1) := by decide +kernel
theorem dX9_house_51 : decode cX9_house 51 = .ok (.invokevirtual 148, 3) := by decide +kernel
theorem dX9_house_54 : decode cX9_house 54 = .ok (.ireturn, 1) := by decide +kernel
theorem dX9_house_55 : decode cX9_house 55 = .ok (.aload_n 0, 1) := by decide +kernel
theorem dX9_house_56 : decode cX9_house 56 = .ok (.getfield 41, 3) := by decide +kernel
theorem dX9_house_59 : decode cX9_house 59 = .ok (.iconst 0, 1) := by decide +kernel
theorem dX9_house_60 : decode cX9_house 60 = .ok (.iload_n 1, 1) := by decide +kernel
theorem dX9_house_61 : decode cX9_house 61 = .ok (.iconst 1, 1) := by decide +kernel
theorem dX9_house_62 : decode cX9_house 62 = .ok (.invokevirtual 148, 3) := by decide +kernel
theorem dX9_house_65 : decode cX9_house 65 = .ok (.ireturn, 1) := by decide +kernel
theorem dX9_house_66 : decode cX9_house 66 = .ok (.aload_n 0, 1) := by decide +kernel
theorem dX9_house_67 : decode cX9_house 67 = .ok (.getfield 19, 3) := by decide +kernel
theorem dX9_house_70 : decode cX9_house 70 = .ok (.aload_n 0, 1) := by decide +kernel
theorem dX9_house_71 : decode cX9_house 71 = .ok (.getfield 41, 3) := by decide +kernel
theorem dX9_house_74 : decode cX9_house 74 = .ok (.iload_n 1, 1) := by decide +kernel
theorem dX9_house_75 : decode cX9_house 75 = .ok (.invokevirtual 152, 3) := by decide +kernel
theorem dX9_house_78 : decode cX9_house 78 = .ok (.ireturn, 1) := by decide +kernel
theorem dX9_house_79 : decode cX9_house 79 = .ok (.ldc 87, 2) := by decide +kernel
theorem dX9_house_81 : decode cX9_house 81 = .ok (.ireturn, 1) := by decide +kernel
set_option maxRecDepth 20000 in
theorem ggX9_sleeper_X8_has : GoodIn wsX9_sleeper wsX8_has := goodIn_r _ [9, 10, 36, 37, 38, 39, 40] rfl (by decide +kernel)
set_option maxRecDepth 20000 in
theorem gX9_sleeper_X8_has : GoodIn wsX9_sleeper (wsV RX9 143 RX8 yX8_has wsX8_has) := goodIn_app (goodIn_of _ (by decide +kernel)) ggX9_sleeper_X8_has
set_option maxRecDepth 20000 in
theorem ggX9_sleeper_X8_part : GoodIn wsX9_sleeper wsX8_part := goodIn_r _ [14, 15, 16, 6, 7, 8, 9, 10, 36, 37, 38, 39, 40] rfl (by decide +kernel)
set_option maxRecDepth 20000 in
theorem gX9_sleeper_X8_part : GoodIn wsX9_sleeper (wsV RX9 148 RX8 yX8_part wsX8_part) := goodIn_app (goodIn_of _ (by decide +kernel)) ggX9_sleeper_X8_part
set_option maxRecDepth 20000 in
theorem ggX9_sleeper_X2_matterOf : GoodIn wsX9_sleeper wsX2_matterOf := goodIn_r _ [21, 22, 41, 42, 43, 44, 45, 46, 47, 48, 49, 50] rfl (by decide +kernel)
set_option maxRecDepth 20000 in
theorem gX9_sleeper_X2_matterOf : GoodIn wsX9_sleeper (wsV RX9 156 RX2 yX2_matterOf wsX2_matterOf) := goodIn_app (goodIn_of _ (by decide +kernel)) ggX9_sleeper_X2_matterOf
theorem dX9_sleeper_0 : decode cX9_sleeper 0 = .ok (.aload_n 0, 1) := by decide +kernel
theorem dX9_sleeper_1 : decode cX9_sleeper 1 = .ok (.getfield 41, 3) := by decide +kernel
theorem dX9_sleeper_4 : decode cX9_sleeper 4 = .ok (.iconst 1, 1) := by decide +kernel
theorem dX9_sleeper_5 : decode cX9_sleeper 5 = .ok (.iload_n 1, 1) := by decide +kernel
theorem dX9_sleeper_6 : decode cX9_sleeper 6 = .ok (.invokevirtual 143, 3) := by decide +kernel
theorem dX9_sleeper_9 : decode cX9_sleeper 9 = .ok (.ifCond .ne 6, 3) := by decide +kernel
theorem dX9_sleeper_12 : decode cX9_sleeper 12 = .ok (.ldc 147, 2) := by decide +kernel
theorem dX9_sleeper_14 : decode cX9_sleeper 14 = .ok (.ireturn, 1) := by decide +kernel
theorem dX9_sleeper_15 : decode cX9_sleeper 15 = .ok (.iload_n 2, 1) := by decide +kernel
theorem dX9_sleeper_16 : decode cX9_sleeper 16 = .ok (.tableswitch 74 0 3 #[32, 43, 54, 65], 32) := by decide +kernel
theorem dX9_sleeper_48 : decode cX9_sleeper 48 = .ok (.aload_n 0, 1) := by decide +kernel
theorem dX9_sleeper_49 : decode cX9_sleeper 49 = .ok (.getfield 41, 3) := by decide +kernel
theorem dX9_sleeper_52 : decode cX9_sleeper 52 = .ok (.iconst 1, 1) := by decide +kernel
theorem dX9_sleeper_53 : decode cX9_sleeper 53 = .ok (.iload_n 1, 1) := by decide +kernel
theorem dX9_sleeper_54 : decode cX9_sleeper 54 = .ok (.iconst 0, 1) := by decide +kernel
theorem dX9_sleeper_55 : decode cX9_sleeper 55 = .ok (.invokevirtual 148, 3) := by decide +kernel
theorem dX9_sleeper_58 : decode cX9_sleeper 58 = .ok (.ireturn, 1) := by decide +kernel
theorem dX9_sleeper_59 : decode cX9_sleeper 59 = .ok (.aload_n 0, 1) := by decide +kernel
theorem dX9_sleeper_60 : decode cX9_sleeper 60 = .ok (.getfield 41, 3) := by decide +kernel
theorem dX9_sleeper_63 : decode cX9_sleeper 63 = .ok (.iconst 1, 1) := by decide +kernel
theorem dX9_sleeper_64 : decode cX9_sleeper 64 = .ok (.iload_n 1, 1) := by decide +kernel
theorem dX9_sleeper_65 : decode cX9_sleeper 65 = .ok (.iconst 1, 1) := by decide +kernel
theorem dX9_sleeper_66 : decode cX9_sleeper 66 = .ok (.invokevirtual 148, 3) := by decide +kernel
theorem dX9_sleeper_69 : decode cX9_sleeper 69 = .ok (.ireturn, 1) := by decide +kernel
theorem dX9_sleeper_70 : decode cX9_sleeper 70 = .ok (.aload_n 0, 1) := by decide +kernel
theorem dX9_sleeper_71 : decode cX9_sleeper 71 = .ok (.getfield 41, 3) := by decide +kernel
theorem dX9_sleeper_74 : decode cX9_sleeper 74 = .ok (.iconst 1, 1) := by decide +kernel
theorem dX9_sleeper_75 : decode cX9_sleeper 75 = .ok (.iload_n 1, 1) := by decide +kernel
theorem dX9_sleeper_76 : decode cX9_sleeper 76 = .ok (.iconst 2, 1) := by decide +kernel
theorem dX9_sleeper_77 : decode cX9_sleeper 77 = .ok (.invokevirtual 148, 3) := by decide +kernel
theorem dX9_sleeper_80 : decode cX9_sleeper 80 = .ok (.ireturn, 1) := by decide +kernel
theorem dX9_sleeper_81 : decode cX9_sleeper 81 = .ok (.aload_n 0, 1) := by decide +kernel
theorem dX9_sleeper_82 : decode cX9_sleeper 82 = .ok (.getfield 19, 3) := by decide +kernel
theorem dX9_sleeper_85 : decode cX9_sleeper 85 = .ok (.iload_n 1, 1) := by decide +kernel
theorem dX9_sleeper_86 : decode cX9_sleeper 86 = .ok (.invokevirtual 156, 3) := by decide +kernel
theorem dX9_sleeper_89 : decode cX9_sleeper 89 = .ok (.ireturn, 1) := by decide +kernel
theorem dX9_sleeper_90 : decode cX9_sleeper 90 = .ok (.ldc 87, 2) := by decide +kernel
theorem dX9_sleeper_92 : decode cX9_sleeper 92 = .ok (.ireturn, 1) := by decide +kernel
set_option maxRecDepth 20000 in
theorem ggX9_matter_X8_has : GoodIn wsX9_matter wsX8_has := goodIn_r _ [14, 15, 52, 53, 54, 55, 56] rfl (by decide +kernel)
set_option maxRecDepth 20000 in
theorem gX9_matter_X8_has : GoodIn wsX9_matter (wsV RX9 143 RX8 yX8_has wsX8_has) := goodIn_app (goodIn_of _ (by decide +kernel)) ggX9_matter_X8_has
set_option maxRecDepth 20000 in
theorem ggX9_matter_X8_part : GoodIn wsX9_matter wsX8_part := goodIn_r _ [19, 20, 21, 11, 12, 13, 14, 15, 52, 53, 54, 55, 56] rfl (by decide +kernel)
set_option maxRecDepth 20000 in
theorem gX9_matter_X8_part : GoodIn wsX9_matter (wsV RX9 148 RX8 yX8_part wsX8_part) := goodIn_app (goodIn_of _ (by decide +kernel)) ggX9_matter_X8_part
set_option maxRecDepth 20000 in
theorem ggX9_matter_J6_bitCount_0f7a4 : GoodIn wsX9_matter wsJ6_bitCount_0f7a4 := goodIn_r _ [25, 26, 27, 28] rfl (by decide +kernel)
set_option maxRecDepth 20000 in
theorem gX9_matter_J6_bitCount_0f7a4 : GoodIn wsX9_matter (va_wsS RX9 163 yJ6_bitCount_0f7a4 wsJ6_bitCount_0f7a4) := goodIn_app (goodIn_of _ (by decide +kernel)) ggX9_matter_J6_bitCount_0f7a4
theorem dX9_matter_0 : decode cX9_matter 0 = .ok (.aload_n 0, 1) := by decide +kernel
theorem dX9_matter_1 : decode cX9_matter 1 = .ok (.getfield 41, 3) := by decide +kernel
theorem dX9_matter_4 : decode cX9_matter 4 = .ok (.iconst 3, 1) := by decide +kernel
theorem dX9_matter_5 : decode cX9_matter 5 = .ok (.iload_n 1, 1) := by decide +kernel
theorem dX9_matter_6 : decode cX9_matter 6 = .ok (.invokevirtual 143, 3) := by decide +kernel
theorem dX9_matter_9 : decode cX9_matter 9 = .ok (.ifCond .ne 6, 3) := by decide +kernel
theorem dX9_matter_12 : decode cX9_matter 12 = .ok (.ldc 147, 2) := by decide +kernel
theorem dX9_matter_14 : decode cX9_matter 14 = .ok (.ireturn, 1) := by decide +kernel
theorem dX9_matter_15 : decode cX9_matter 15 = .ok (.iload_n 2, 1) := by decide +kernel
theorem dX9_matter_16 : decode cX9_matter 16 = .ok (.tableswitch 163 0 9 #[56, 67, 78, 89, 100, 113, 123, 133, 143, 153], 56) := by decide +kernel
theorem dX9_matter_72 : decode cX9_matter 72 = .ok (.aload_n 0, 1) := by decide +kernel
theorem dX9_matter_73 : decode cX9_matter 73 = .ok (.getfield 41, 3) := by decide +kernel
theorem dX9_matter_76 : decode cX9_matter 76 = .ok (.iconst 3, 1) := by decide +kernel
theorem dX9_matter_77 : decode cX9_matter 77 = .ok (.iload_n 1, 1) := by decide +kernel
theorem dX9_matter_78 : decode cX9_matter 78 = .ok (.iconst 0, 1) := by decide +kernel
theorem dX9_matter_79 : decode cX9_matter 79 = .ok (.invokevirtual 148, 3) := by decide +kernel
theorem dX9_matter_82 : decode cX9_matter 82 = .ok (.ireturn, 1) := by decide +kernel
theorem dX9_matter_83 : decode cX9_matter 83 = .ok (.aload_n 0, 1) := by decide +kernel
theorem dX9_matter_84 : decode cX9_matter 84 = .ok (.getfield 41, 3) := by decide +kernel
theorem dX9_matter_87 : decode cX9_matter 87 = .ok (.iconst 3, 1) := by decide +kernel
theorem dX9_matter_88 : decode cX9_matter 88 = .ok (.iload_n 1, 1) := by decide +kernel
theorem dX9_matter_89 : decode cX9_matter 89 = .ok (.iconst 1, 1) := by decide +kernel
theorem dX9_matter_90 : decode cX9_matter 90 = .ok (.invokevirtual 148, 3) := by decide +kernel
theorem dX9_matter_93 : decode cX9_matter 93 = .ok (.ireturn, 1) := by decide +kernel
theorem dX9_matter_94 : decode cX9_matter 94 = .ok (.aload_n 0, 1) := by decide +kernel
theorem dX9_matter_95 : decode cX9_matter 95 = .ok (.getfield 41, 3) := by decide +kernel
theorem dX9_matter_98 : decode cX9_matter 98 = .ok (.iconst 3, 1) := by decide +kernel
theorem dX9_matter_99 : decode cX9_matter 99 = .ok (.iload_n 1, 1) := by decide +kernel
theorem dX9_matter_100 : decode cX9_matter 100 = .ok (.iconst 2, 1) := by decide +kernel
theorem dX9_matter_101 : decode cX9_matter 101 = .ok (.invokevirtual 148, 3) := by decide +kernel
theorem dX9_matter_104 : decode cX9_matter 104 = .ok (.ireturn, 1) := by decide +kernel
theorem dX9_matter_105 : decode cX9_matter 105 = .ok (.aload_n 0, 1) := by decide +kernel
theorem dX9_matter_106 : decode cX9_matter 106 = .ok (.getfield 41, 3) := by decide +kernel
theorem dX9_matter_109 : decode cX9_matter 109 = .ok (.iconst 3, 1) := by decide +kernel
theorem dX9_matter_110 : decode cX9_matter 110 = .ok (.iload_n 1, 1) := by decide +kernel
theorem dX9_matter_111 : decode cX9_matter 111 = .ok (.iconst 3, 1) := by decide +kernel
theorem dX9_matter_112 : decode cX9_matter 112 = .ok (.invokevirtual 148, 3) := by decide +kernel
theorem dX9_matter_115 : decode cX9_matter 115 = .ok (.ireturn, 1) := by decide +kernel
theorem dX9_matter_116 : decode cX9_matter 116 = .ok (.aload_n 0, 1) := by decide +kernel
theorem dX9_matter_117 : decode cX9_matter 117 = .ok (.getfield 19, 3) := by decide +kernel
theorem dX9_matter_120 : decode cX9_matter 120 = .ok (.getfield 159, 3) := by decide +kernel
theorem dX9_matter_123 : decode cX9_matter 123 = .ok (.iload_n 1, 1) := by decide +kernel
theorem dX9_matter_124 : decode cX9_matter 124 = .ok (.iaload, 1) := by decide +kernel
theorem dX9_matter_125 : decode cX9_matter 125 = .ok (.invokestatic 163, 3) := by decide +kernel
theorem dX9_matter_128 : decode cX9_matter 128 = .ok (.ireturn, 1) := by decide +kernel
theorem dX9_matter_129 : decode cX9_matter 129 = .ok (.aload_n 0, 1) := by decide +kernel
theorem dX9_matter_130 : decode cX9_matter 130 = .ok (.getfield 19, 3) := by decide +kernel
theorem dX9_matter_133 : decode cX9_matter 133 = .ok (.getfield 168, 3) := by decide +kernel
theorem dX9_matter_136 : decode cX9_matter 136 = .ok (.iload_n 1, 1) := by decide +kernel
theorem dX9_matter_137 : decode cX9_matter 137 = .ok (.iaload, 1) := by decide +kernel
theorem dX9_matter_138 : decode cX9_matter 138 = .ok (.ireturn, 1) := by decide +kernel
theorem dX9_matter_139 : decode cX9_matter 139 = .ok (.aload_n 0, 1) := by decide +kernel
theorem dX9_matter_140 : decode cX9_matter 140 = .ok (.getfield 19, 3) := by decide +kernel
theorem dX9_matter_143 : decode cX9_matter 143 = .ok (.getfield 170, 3) := by decide +kernel
theorem dX9_matter_146 : decode cX9_matter 146 = .ok (.iload_n 1, 1) := by decide +kernel
theorem dX9_matter_147 : decode cX9_matter 147 = .ok (.iaload, 1) := by decide +kernel
theorem dX9_matter_148 : decode cX9_matter 148 = .ok (.ireturn, 1) := by decide +kernel
theorem dX9_matter_149 : decode cX9_matter 149 = .ok (.aload_n 0, 1) := by decide +kernel
theorem dX9_matter_150 : decode cX9_matter 150 = .ok (.getfield 19, 3) := by decide +kernel
theorem dX9_matter_153 : decode cX9_matter 153 = .ok (.getfield 173, 3) := by decide +kernel
theorem dX9_matter_156 : decode cX9_matter 156 = .ok (.iload_n 1, 1) := by decide +kernel
theorem dX9_matter_157 : decode cX9_matter 157 = .ok (.iaload, 1) := by decide +kernel
theorem dX9_matter_158 : decode cX9_matter 158 = .ok (.ireturn, 1) := by decide +kernel
theorem dX9_matter_159 : decode cX9_matter 159 = .ok (.aload_n 0, 1) := by decide +kernel
theorem dX9_matter_160 : decode cX9_matter 160 = .ok (.getfield 19, 3) := by decide +kernel
theorem dX9_matter_163 : decode cX9_matter 163 = .ok (.getfield 159, 3) := by decide +kernel
theorem dX9_matter_166 : decode cX9_matter 166 = .ok (.iload_n 1, 1) := by decide +kernel
theorem dX9_matter_167 : decode cX9_matter 167 = .ok (.iaload, 1) := by decide +kernel
theorem dX9_matter_168 : decode cX9_matter 168 = .ok (.ireturn, 1) := by decide +kernel
theorem dX9_matter_169 : decode cX9_matter 169 = .ok (.aload_n 0, 1) := by decide +kernel
theorem dX9_matter_170 : decode cX9_matter 170 = .ok (.getfield 19, 3) := by decide +kernel
theorem dX9_matter_173 : decode cX9_matter 173 = .ok (.getfield 176, 3) := by decide +kernel
theorem dX9_matter_176 : decode cX9_matter 176 = .ok (.iload_n 1, 1) := by decide +kernel
theorem dX9_matter_177 : decode cX9_matter 177 = .ok (.iaload, 1) := by decide +kernel
theorem dX9_matter_178 : decode cX9_matter 178 = .ok (.ireturn, 1) := by decide +kernel
theorem dX9_matter_179 : decode cX9_matter 179 = .ok (.ldc 87, 2) := by decide +kernel
theorem dX9_matter_181 : decode cX9_matter 181 = .ok (.ireturn, 1) := by decide +kernel
set_option maxRecDepth 20000 in
theorem ggX9_lay_X8_has : GoodIn wsX9_lay wsX8_has := goodIn_r _ [9, 10, 68, 69, 70, 71, 72] rfl (by decide +kernel)
set_option maxRecDepth 20000 in
theorem gX9_lay_X8_has : GoodIn wsX9_lay (wsV RX9 143 RX8 yX8_has wsX8_has) := goodIn_app (goodIn_of _ (by decide +kernel)) ggX9_lay_X8_has
set_option maxRecDepth 20000 in
theorem ggX9_lay_X2_isMatterFree : GoodIn wsX9_lay wsX2_isMatterFree := goodIn_r _ [15, 16, 17, 18, 19, 20, 21, 8, 22, 23, 24, 6, 7, 9, 10, 73, 74, 75, 76, 77, 78, 79, 80, 81, 82, 68, 69, 70, 71, 72] rfl (by decide +kernel)
set_option maxRecDepth 20000 in
theorem gX9_lay_X2_isMatterFree : GoodIn wsX9_lay (wsV RX9 183 RX2 yX2_isMatterFree wsX2_isMatterFree) := goodIn_app (goodIn_of _ (by decide +kernel)) ggX9_lay_X2_isMatterFree
set_option maxRecDepth 20000 in
theorem ggX9_lay_X2_isSleeperFree : GoodIn wsX9_lay wsX2_isSleeperFree := goodIn_r _ [28, 29, 30, 31, 32, 33, 34, 35, 14, 36, 17, 73, 74, 75, 76, 77, 78, 79, 80, 81, 82] rfl (by decide +kernel)
set_option maxRecDepth 20000 in
theorem gX9_lay_X2_isSleeperFree : GoodIn wsX9_lay (wsV RX9 187 RX2 yX2_isSleeperFree wsX2_isSleeperFree) := goodIn_app (goodIn_of _ (by decide +kernel)) ggX9_lay_X2_isSleeperFree
set_option maxRecDepth 20000 in
theorem ggX9_lay_X2_isHouseFree : GoodIn wsX9_lay wsX2_isHouseFree := goodIn_r _ [40, 41, 30, 31, 32, 42, 43, 44, 14, 45, 46, 19, 20, 21, 8, 22, 23, 24, 6, 7, 9, 10, 73, 74, 75, 76, 77, 78, 79, 80, 81, 82, 68, 69, 70, 71, 72] rfl (by decide +kernel)
set_option maxRecDepth 20000 in
theorem gX9_lay_X2_isHouseFree : GoodIn wsX9_lay (wsV RX9 190 RX2 yX2_isHouseFree wsX2_isHouseFree) := goodIn_app (goodIn_of _ (by decide +kernel)) ggX9_lay_X2_isHouseFree
set_option maxRecDepth 20000 in
theorem ggX9_lay_X2_layDown : GoodIn wsX9_lay wsX2_layDown := goodIn_r _ [50, 17, 46, 73, 74, 75, 76, 77, 78, 79, 80, 81, 82] rfl (by decide +kernel)
set_option maxRecDepth 20000 in
theorem gX9_lay_X2_layDown : GoodIn wsX9_lay (wsV RX9 194 RX2 yX2_layDown wsX2_layDown) := goodIn_app (goodIn_of _ (by decide +kernel)) ggX9_lay_X2_layDown
set_option maxRecDepth 20000 in
theorem ggX9_lay_X2_laidTonight : GoodIn wsX9_lay wsX2_laidTonight := goodIn_r _ [54, 17, 73, 74, 75, 76, 77, 78, 79, 80, 81, 82] rfl (by decide +kernel)
set_option maxRecDepth 20000 in
theorem gX9_lay_X2_laidTonight : GoodIn wsX9_lay (wsV RX9 198 RX2 yX2_laidTonight wsX2_laidTonight) := goodIn_app (goodIn_of _ (by decide +kernel)) ggX9_lay_X2_laidTonight
theorem dX9_lay_0 : decode cX9_lay 0 = .ok (.aload_n 0, 1) := by decide +kernel
theorem dX9_lay_1 : decode cX9_lay 1 = .ok (.getfield 41, 3) := by decide +kernel
theorem dX9_lay_4 : decode cX9_lay 4 = .ok (.iconst 3, 1) := by decide +kernel
theorem dX9_lay_5 : decode cX9_lay 5 = .ok (.iload_n 1, 1) := by decide +kernel
theorem dX9_lay_6 : decode cX9_lay 6 = .ok (.invokevirtual 143, 3) := by decide +kernel
theorem dX9_lay_9 : decode cX9_lay 9 = .ok (.ifCond .eq 27, 3) := by decide +kernel
theorem dX9_lay_12 : decode cX9_lay 12 = .ok (.aload_n 0, 1) := by decide +kernel
theorem dX9_lay_13 : decode cX9_lay 13 = .ok (.getfield 41, 3) := by decide +kernel
theorem dX9_lay_16 : decode cX9_lay 16 = .ok (.iconst 1, 1) := by decide +kernel
theorem dX9_lay_17 : decode cX9_lay 17 = .ok (.iload_n 2, 1) := by decide +kernel
theorem dX9_lay_18 : decode cX9_lay 18 = .ok (.invokevirtual 143, 3) := by decide +kernel
theorem dX9_lay_21 : decode cX9_lay 21 = .ok (.ifCond .eq 15, 3) := by decide +kernel
theorem dX9_lay_24 : decode cX9_lay 24 = .ok (.aload_n 0, 1) := by decide +kernel
theorem dX9_lay_25 : decode cX9_lay 25 = .ok (.getfield 41, 3) := by decide +kernel
theorem dX9_lay_28 : decode cX9_lay 28 = .ok (.iconst 0, 1) := by decide +kernel
theorem dX9_lay_29 : decode cX9_lay 29 = .ok (.iload_n 3, 1) := by decide +kernel
theorem dX9_lay_30 : decode cX9_lay 30 = .ok (.invokevirtual 143, 3) := by decide +kernel
theorem dX9_lay_33 : decode cX9_lay 33 = .ok (.ifCond .ne 6, 3) := by decide +kernel
theorem dX9_lay_36 : decode cX9_lay 36 = .ok (.ldc 147, 2) := by decide +kernel
theorem dX9_lay_38 : decode cX9_lay 38 = .ok (.ireturn, 1) := by decide +kernel
theorem dX9_lay_39 : decode cX9_lay 39 = .ok (.aload_n 0, 1) := by decide +kernel
theorem dX9_lay_40 : decode cX9_lay 40 = .ok (.getfield 19, 3) := by decide +kernel
theorem dX9_lay_43 : decode cX9_lay 43 = .ok (.aload_n 0, 1) := by decide +kernel
theorem dX9_lay_44 : decode cX9_lay 44 = .ok (.getfield 41, 3) := by decide +kernel
theorem dX9_lay_47 : decode cX9_lay 47 = .ok (.iload_n 1, 1) := by decide +kernel
theorem dX9_lay_48 : decode cX9_lay 48 = .ok (.invokevirtual 183, 3) := by decide +kernel
theorem dX9_lay_51 : decode cX9_lay 51 = .ok (.ifCond .eq 35, 3) := by decide +kernel
theorem dX9_lay_54 : decode cX9_lay 54 = .ok (.aload_n 0, 1) := by decide +kernel
theorem dX9_lay_55 : decode cX9_lay 55 = .ok (.getfield 19, 3) := by decide +kernel
theorem dX9_lay_58 : decode cX9_lay 58 = .ok (.iload_n 1, 1) := by decide +kernel
theorem dX9_lay_59 : decode cX9_lay 59 = .ok (.iload_n 2, 1) := by decide +kernel
theorem dX9_lay_60 : decode cX9_lay 60 = .ok (.invokevirtual 187, 3) := by decide +kernel
theorem dX9_lay_63 : decode cX9_lay 63 = .ok (.ifCond .eq 23, 3) := by decide +kernel
theorem dX9_lay_66 : decode cX9_lay 66 = .ok (.aload_n 0, 1) := by decide +kernel
theorem dX9_lay_67 : decode cX9_lay 67 = .ok (.getfield 19, 3) := by decide +kernel
theorem dX9_lay_70 : decode cX9_lay 70 = .ok (.aload_n 0, 1) := by decide +kernel
theorem dX9_lay_71 : decode cX9_lay 71 = .ok (.getfield 41, 3) := by decide +kernel
theorem dX9_lay_74 : decode cX9_lay 74 = .ok (.iload_n 1, 1) := by decide +kernel
theorem dX9_lay_75 : decode cX9_lay 75 = .ok (.iload_n 3, 1) := by decide +kernel
theorem dX9_lay_76 : decode cX9_lay 76 = .ok (.invokevirtual 190, 3) := by decide +kernel
theorem dX9_lay_79 : decode cX9_lay 79 = .ok (.ifCond .eq 7, 3) := by decide +kernel
theorem dX9_lay_82 : decode cX9_lay 82 = .ok (.iconst 1, 1) := by decide +kernel
theorem dX9_lay_83 : decode cX9_lay 83 = .ok (.goto 4, 3) := by decide +kernel
theorem dX9_lay_86 : decode cX9_lay 86 = .ok (.iconst 0, 1) := by decide +kernel
theorem dX9_lay_87 : decode cX9_lay 87 = .ok (.istore 4, 2) := by decide +kernel
theorem dX9_lay_89 : decode cX9_lay 89 = .ok (.iload 4, 2) := by decide +kernel
theorem dX9_lay_91 : decode cX9_lay 91 = .ok (.ifCond .ne 6, 3) := by decide +kernel
theorem dX9_lay_94 : decode cX9_lay 94 = .ok (.ldc 119, 2) := by decide +kernel
theorem dX9_lay_96 : decode cX9_lay 96 = .ok (.ireturn, 1) := by decide +kernel
theorem dX9_lay_97 : decode cX9_lay 97 = .ok (.aload_n 0, 1) := by decide +kernel
theorem dX9_lay_98 : decode cX9_lay 98 = .ok (.getfield 19, 3) := by decide +kernel
theorem dX9_lay_101 : decode cX9_lay 101 = .ok (.iload_n 1, 1) := by decide +kernel
theorem dX9_lay_102 : decode cX9_lay 102 = .ok (.iload_n 2, 1) := by decide +kernel
theorem dX9_lay_103 : decode cX9_lay 103 = .ok (.iload_n 3, 1) := by decide +kernel
theorem dX9_lay_104 : decode cX9_lay 104 = .ok (.invokevirtual 194, 3) := by decide +kernel
theorem dX9_lay_107 : decode cX9_lay 107 = .ok (.aload_n 0, 1) := by decide +kernel
theorem dX9_lay_108 : decode cX9_lay 108 = .ok (.getfield 19, 3) := by decide +kernel
theorem dX9_lay_111 : decode cX9_lay 111 = .ok (.invokevirtual 198, 3) := by decide +kernel
theorem dX9_lay_114 : decode cX9_lay 114 = .ok (.ireturn, 1) := by decide +kernel
set_option maxRecDepth 20000 in
theorem ggX9_rise_X8_has : GoodIn wsX9_rise wsX8_has := goodIn_r _ [10, 11, 42, 43, 44, 45, 46] rfl (by decide +kernel)
set_option maxRecDepth 20000 in
theorem gX9_rise_X8_has : GoodIn wsX9_rise (wsV RX9 143 RX8 yX8_has wsX8_has) := goodIn_app (goodIn_of _ (by decide +kernel)) ggX9_rise_X8_has
set_option maxRecDepth 20000 in
theorem ggX9_rise_X2_layDown : GoodIn wsX9_rise wsX2_layDown := goodIn_r _ [16, 17, 18, 32, 33, 34, 35, 36, 37, 38, 39, 40, 41] rfl (by decide +kernel)
set_option maxRecDepth 20000 in
theorem gX9_rise_X2_layDown : GoodIn wsX9_rise (wsV RX9 194 RX2 yX2_layDown wsX2_layDown) := goodIn_app (goodIn_of _ (by decide +kernel)) ggX9_rise_X2_layDown
theorem dX9_rise_0 : decode cX9_rise 0 = .ok (.aload_n 0, 1) := by decide +kernel
theorem dX9_rise_1 : decode cX9_rise 1 = .ok (.getfield 41, 3) := by decide +kernel
theorem dX9_rise_4 : decode cX9_rise 4 = .ok (.iconst 3, 1) := by decide +kernel
theorem dX9_rise_5 : decode cX9_rise 5 = .ok (.iload_n 1, 1) := by decide +kernel
theorem dX9_rise_6 : decode cX9_rise 6 = .ok (.invokevirtual 143, 3) := by decide +kernel
theorem dX9_rise_9 : decode cX9_rise 9 = .ok (.ifCond .ne 6, 3) := by decide +kernel
theorem dX9_rise_12 : decode cX9_rise 12 = .ok (.ldc 147, 2) := by decide +kernel
theorem dX9_rise_14 : decode cX9_rise 14 = .ok (.ireturn, 1) := by decide +kernel
theorem dX9_rise_15 : decode cX9_rise 15 = .ok (.aload_n 0, 1) := by decide +kernel
theorem dX9_rise_16 : decode cX9_rise 16 = .ok (.getfield 19, 3) := by decide +kernel
theorem dX9_rise_19 : decode cX9_rise 19 = .ok (.getfield 201, 3) := by decide +kernel
theorem dX9_rise_22 : decode cX9_rise 22 = .ok (.iload_n 1, 1) := by decide +kernel
theorem dX9_rise_23 : decode cX9_rise 23 = .ok (.iaload, 1) := by decide +kernel
theorem dX9_rise_24 : decode cX9_rise 24 = .ok (.istore_n 2, 1) := by decide +kernel
theorem dX9_rise_25 : decode cX9_rise 25 = .ok (.iload_n 2, 1) := by decide +kernel
theorem dX9_rise_26 : decode cX9_rise 26 = .ok (.iconst (-1), 1) := by decide +kernel
theorem dX9_rise_27 : decode cX9_rise 27 = .ok (.if_icmp .ne 6, 3) := by decide +kernel
theorem dX9_rise_30 : decode cX9_rise 30 = .ok (.ldc 119, 2) := by decide +kernel
theorem dX9_rise_32 : decode cX9_rise 32 = .ok (.ireturn, 1) := by decide +kernel
theorem dX9_rise_33 : decode cX9_rise 33 = .ok (.aload_n 0, 1) := by decide +kernel
theorem dX9_rise_34 : decode cX9_rise 34 = .ok (.getfield 19, 3) := by decide +kernel
theorem dX9_rise_37 : decode cX9_rise 37 = .ok (.iload_n 1, 1) := by decide +kernel
theorem dX9_rise_38 : decode cX9_rise 38 = .ok (.iconst (-1), 1) := by decide +kernel
theorem dX9_rise_39 : decode cX9_rise 39 = .ok (.iconst (-1), 1) := by decide +kernel
theorem dX9_rise_40 : decode cX9_rise 40 = .ok (.invokevirtual 194, 3) := by decide +kernel
theorem dX9_rise_43 : decode cX9_rise 43 = .ok (.iload_n 2, 1) := by decide +kernel
theorem dX9_rise_44 : decode cX9_rise 44 = .ok (.ireturn, 1) := by decide +kernel
set_option maxRecDepth 20000 in
theorem ggX9_soonest_X8_has : GoodIn wsX9_soonest wsX8_has := goodIn_r _ [13, 14, 150, 151, 152, 153, 154] rfl (by decide +kernel)
set_option maxRecDepth 20000 in
theorem gX9_soonest_X8_has : GoodIn wsX9_soonest (wsV RX9 143 RX8 yX8_has wsX8_has) := goodIn_app (goodIn_of _ (by decide +kernel)) ggX9_soonest_X8_has
set_option maxRecDepth 20000 in
theorem ggX9_soonest_X9_firstDay : GoodIn wsX9_soonest wsX9_firstDay := goodIn_r _ [19, 20, 21, 1, 22, 23, 24, 25, 26, 27, 28, 12, 29, 30, 31, 10, 11, 13, 14, 122, 123, 124, 125, 126, 127, 128, 129, 130, 131, 132, 133, 134, 155, 156, 157, 158, 159, 160, 161, 162, 163, 164, 150, 151, 152, 153, 154] rfl (by decide +kernel)
set_option maxRecDepth 20000 in
theorem gX9_soonest_X9_firstDay : GoodIn wsX9_soonest (wsV RX9 214 RX9 yX9_firstDay wsX9_firstDay) := goodIn_app (goodIn_of _ (by decide +kernel)) ggX9_soonest_X9_firstDay
set_option maxRecDepth 20000 in
theorem ggX9_soonest_X5_soonestEnd : GoodIn wsX9_soonest wsX5_soonestEnd := goodIn_r _ [36, 37, 38, 39, 35, 40, 41, 42, 43, 44, 24, 45, 46, 47, 48, 49, 23, 25, 50, 51, 52, 53, 12, 54, 55, 56, 57, 58, 59, 60, 61, 62, 63, 64, 65, 66, 67, 68, 69, 70, 71, 72, 73, 74, 75, 76, 77, 78, 79, 80, 18, 81, 82, 83, 84, 85, 86, 31, 10, 11, 13, 14, 87, 88, 89, 90, 91, 92, 93, 94, 95, 96, 97, 98, 99, 100, 101, 102, 103, 104, 105, 140, 141, 142, 143, 144, 145, 146, 147, 148, 149, 150, 151, 152, 153, 154, 165, 166, 167, 168, 169] rfl (by decide +kernel)
set_option maxRecDepth 20000 in
theorem gX9_soonest_X5_soonestEnd : GoodIn wsX9_soonest (wsV RX9 217 RX5 yX5_soonestEnd wsX5_soonestEnd) := goodIn_app (goodIn_of _ (by decide +kernel)) ggX9_soonest_X5_soonestEnd
set_option maxRecDepth 20000 in
theorem ggX9_soonest_X5_prepare : GoodIn wsX9_soonest wsX5_prepare := goodIn_r _ [59, 60, 41, 61, 62, 63, 64, 65, 66, 67, 68, 69, 70, 71, 72, 73, 74, 75, 76, 77, 78, 79, 80, 18, 81, 82, 83, 84, 12, 85, 86, 31, 10, 11, 13, 14, 87, 88, 89, 35, 90, 47, 48, 91, 92, 93, 94, 95, 96, 97, 98, 99, 100, 101, 102, 103, 104, 105, 140, 141, 142, 143, 144, 145, 146, 147, 148, 149, 165, 166, 167, 168, 169, 150, 151, 152, 153, 154] rfl (by decide +kernel)
set_option maxRecDepth 20000 in
theorem gX9_soonest_X5_prepare : GoodIn wsX9_soonest (wsV RX9 224 RX5 yX5_prepare wsX5_prepare) := goodIn_app (goodIn_of _ (by decide +kernel)) ggX9_soonest_X5_prepare
set_option maxRecDepth 20000 in
theorem ggX9_soonest_X5_readRow : GoodIn wsX9_soonest wsX5_readRow := goodIn_r _ [110, 111, 112, 113, 114, 115, 35, 116, 61, 80, 18, 81, 117, 118, 119, 120, 121, 47, 48, 95, 96, 97, 98, 99, 100, 101, 140, 141, 142, 143, 144, 145, 146, 147, 148, 149] rfl (by decide +kernel)
set_option maxRecDepth 20000 in
theorem gX9_soonest_X5_readRow : GoodIn wsX9_soonest (wsV RX9 228 RX5 yX5_readRow wsX5_readRow) := goodIn_app (goodIn_of _ (by decide +kernel)) ggX9_soonest_X5_readRow
theorem dX9_soonest_0 : decode cX9_soonest 0 = .ok (.aload_n 0, 1) := by decide +kernel
theorem dX9_soonest_1 : decode cX9_soonest 1 = .ok (.getfield 41, 3) := by decide +kernel
theorem dX9_soonest_4 : decode cX9_soonest 4 = .ok (.iconst 3, 1) := by decide +kernel
theorem dX9_soonest_5 : decode cX9_soonest 5 = .ok (.iload_n 1, 1) := by decide +kernel
theorem dX9_soonest_6 : decode cX9_soonest 6 = .ok (.invokevirtual 143, 3) := by decide +kernel
theorem dX9_soonest_9 : decode cX9_soonest 9 = .ok (.ifCond .ne 6, 3) := by decide +kernel
theorem dX9_soonest_12 : decode cX9_soonest 12 = .ok (.ldc 147, 2) := by decide +kernel
theorem dX9_soonest_14 : decode cX9_soonest 14 = .ok (.ireturn, 1) := by decide +kernel
theorem dX9_soonest_15 : decode cX9_soonest 15 = .ok (.aload_n 0, 1) := by decide +kernel
theorem dX9_soonest_16 : decode cX9_soonest 16 = .ok (.getfield 67, 3) := by decide +kernel
theorem dX9_soonest_19 : decode cX9_soonest 19 = .ok (.aload_n 0, 1) := by decide +kernel
theorem dX9_soonest_20 : decode cX9_soonest 20 = .ok (.iload_n 1, 1) := by decide +kernel
theorem dX9_soonest_21 : decode cX9_soonest 21 = .ok (.invokevirtual 214, 3) := by decide +kernel
theorem dX9_soonest_24 : decode cX9_soonest 24 = .ok (.aload_n 0, 1) := by decide +kernel
theorem dX9_soonest_25 : decode cX9_soonest 25 = .ok (.getfield 51, 3) := by decide +kernel
theorem dX9_soonest_28 : decode cX9_soonest 28 = .ok (.getfield 124, 3) := by decide +kernel
theorem dX9_soonest_31 : decode cX9_soonest 31 = .ok (.bipush 99, 2) := by decide +kernel
theorem dX9_soonest_33 : decode cX9_soonest 33 = .ok (.invokevirtual 217, 3) := by decide +kernel
theorem dX9_soonest_36 : decode cX9_soonest 36 = .ok (.istore_n 3, 1) := by decide +kernel
theorem dX9_soonest_37 : decode cX9_soonest 37 = .ok (.iload_n 2, 1) := by decide +kernel
theorem dX9_soonest_38 : decode cX9_soonest 38 = .ok (.iconst (-1), 1) := by decide +kernel
theorem dX9_soonest_39 : decode cX9_soonest 39 = .ok (.if_icmp .eq 8, 3) := by decide +kernel
theorem dX9_soonest_42 : decode cX9_soonest 42 = .ok (.iload_n 3, 1) := by decide +kernel
theorem dX9_soonest_43 : decode cX9_soonest 43 = .ok (.iconst (-1), 1) := by decide +kernel
theorem dX9_soonest_44 : decode cX9_soonest 44 = .ok (.if_icmp .ne 5, 3) := by decide +kernel
theorem dX9_soonest_47 : decode cX9_soonest 47 = .ok (.iload_n 3, 1) := by decide +kernel
theorem dX9_soonest_48 : decode cX9_soonest 48 = .ok (.ireturn, 1) := by decide +kernel
theorem dX9_soonest_49 : decode cX9_soonest 49 = .ok (.iload_n 2, 1) := by decide +kernel
theorem dX9_soonest_50 : decode cX9_soonest 50 = .ok (.ifCond .lt 16, 3) := by decide +kernel
theorem dX9_soonest_53 : decode cX9_soonest 53 = .ok (.iload_n 2, 1) := by decide +kernel
theorem dX9_soonest_54 : decode cX9_soonest 54 = .ok (.iconst 2, 1) := by decide +kernel
theorem dX9_soonest_55 : decode cX9_soonest 55 = .ok (.idiv, 1) := by decide +kernel
theorem dX9_soonest_56 : decode cX9_soonest 56 = .ok (.aload_n 0, 1) := by decide +kernel
theorem dX9_soonest_57 : decode cX9_soonest 57 = .ok (.getfield 51, 3) := by decide +kernel
theorem dX9_soonest_60 : decode cX9_soonest 60 = .ok (.getfield 124, 3) := by decide +kernel
theorem dX9_soonest_63 : decode cX9_soonest 63 = .ok (.if_icmp .lt 5, 3) := by decide +kernel
theorem dX9_soonest_66 : decode cX9_soonest 66 = .ok (.iconst (-1), 1) := by decide +kernel
theorem dX9_soonest_67 : decode cX9_soonest 67 = .ok (.ireturn, 1) := by decide +kernel
theorem dX9_soonest_68 : decode cX9_soonest 68 = .ok (.aload_n 0, 1) := by decide +kernel
theorem dX9_soonest_69 : decode cX9_soonest 69 = .ok (.getfield 67, 3) := by decide +kernel
theorem dX9_soonest_72 : decode cX9_soonest 72 = .ok (.iload_n 3, 1) := by decide +kernel
theorem dX9_soonest_73 : decode cX9_soonest 73 = .ok (.aload_n 0, 1) := by decide +kernel
theorem dX9_soonest_74 : decode cX9_soonest 74 = .ok (.getfield 51, 3) := by decide +kernel
theorem dX9_soonest_77 : decode cX9_soonest 77 = .ok (.getfield 124, 3) := by decide +kernel
theorem dX9_soonest_80 : decode cX9_soonest 80 = .ok (.aload_n 0, 1) := by decide +kernel
theorem dX9_soonest_81 : decode cX9_soonest 81 = .ok (.getfield 67, 3) := by decide +kernel
theorem dX9_soonest_84 : decode cX9_soonest 84 = .ok (.getfield 220, 3) := by decide +kernel
theorem dX9_soonest_87 : decode cX9_soonest 87 = .ok (.invokevirtual 224, 3) := by decide +kernel
theorem dX9_soonest_90 : decode cX9_soonest 90 = .ok (.pop, 1) := by decide +kernel
theorem dX9_soonest_91 : decode cX9_soonest 91 = .ok (.aload_n 0, 1) := by decide +kernel
theorem dX9_soonest_92 : decode cX9_soonest 92 = .ok (.getfield 67, 3) := by decide +kernel
theorem dX9_soonest_95 : decode cX9_soonest 95 = .ok (.aload_n 0, 1) := by decide +kernel
theorem dX9_soonest_96 : decode cX9_soonest 96 = .ok (.getfield 51, 3) := by decide +kernel
theorem dX9_soonest_99 : decode cX9_soonest 99 = .ok (.getfield 124, 3) := by decide +kernel
theorem dX9_soonest_102 : decode cX9_soonest 102 = .ok (.invokevirtual 228, 3) := by decide +kernel
theorem dX9_soonest_105 : decode cX9_soonest 105 = .ok (.iload_n 2, 1) := by decide +kernel
theorem dX9_soonest_106 : decode cX9_soonest 106 = .ok (.iconst 2, 1) := by decide +kernel
theorem dX9_soonest_107 : decode cX9_soonest 107 = .ok (.irem, 1) := by decide +kernel
theorem dX9_soonest_108 : decode cX9_soonest 108 = .ok (.ifCond .ne 17, 3) := by decide +kernel
theorem dX9_soonest_111 : decode cX9_soonest 111 = .ok (.aload_n 0, 1) := by decide +kernel
theorem dX9_soonest_112 : decode cX9_soonest 112 = .ok (.getfield 67, 3) := by decide +kernel
theorem dX9_soonest_115 : decode cX9_soonest 115 = .ok (.getfield 232, 3) := by decide +kernel
theorem dX9_soonest_118 : decode cX9_soonest 118 = .ok (.iload_n 2, 1) := by decide +kernel
theorem dX9_soonest_119 : decode cX9_soonest 119 = .ok (.iconst 2, 1) := by decide +kernel
theorem dX9_soonest_120 : decode cX9_soonest 120 = .ok (.idiv, 1) := by decide +kernel
theorem dX9_soonest_121 : decode cX9_soonest 121 = .ok (.iaload, 1) := by decide +kernel
theorem dX9_soonest_122 : decode cX9_soonest 122 = .ok (.goto 14, 3) := by decide +kernel
theorem dX9_soonest_125 : decode cX9_soonest 125 = .ok (.aload_n 0, 1) := by decide +kernel
theorem dX9_soonest_126 : decode cX9_soonest 126 = .ok (.getfield 67, 3) := by decide +kernel
theorem dX9_soonest_129 : decode cX9_soonest 129 = .ok (.getfield 235, 3) := by decide +kernel
theorem dX9_soonest_132 : decode cX9_soonest 132 = .ok (.iload_n 2, 1) := by decide +kernel
theorem dX9_soonest_133 : decode cX9_soonest 133 = .ok (.iconst 2, 1) := by decide +kernel
theorem dX9_soonest_134 : decode cX9_soonest 134 = .ok (.idiv, 1) := by decide +kernel
theorem dX9_soonest_135 : decode cX9_soonest 135 = .ok (.iaload, 1) := by decide +kernel
theorem dX9_soonest_136 : decode cX9_soonest 136 = .ok (.ireturn, 1) := by decide +kernel
set_option maxRecDepth 20000 in
theorem ggX9_chosen_X8_has : GoodIn wsX9_chosen wsX8_has := goodIn_r _ [13, 14, 155, 156, 157, 158, 159] rfl (by decide +kernel)
set_option maxRecDepth 20000 in
theorem gX9_chosen_X8_has : GoodIn wsX9_chosen (wsV RX9 143 RX8 yX8_has wsX8_has) := goodIn_app (goodIn_of _ (by decide +kernel)) ggX9_chosen_X8_has
set_option maxRecDepth 20000 in
theorem ggX9_chosen_X9_firstDay : GoodIn wsX9_chosen wsX9_firstDay := goodIn_r _ [19, 20, 21, 1, 22, 23, 24, 25, 26, 27, 28, 12, 29, 30, 31, 10, 11, 13, 14, 137, 138, 139, 140, 141, 142, 143, 144, 145, 146, 147, 148, 149, 160, 161, 162, 163, 164, 165, 166, 167, 168, 169, 155, 156, 157, 158, 159] rfl (by decide +kernel)
set_option maxRecDepth 20000 in
theorem gX9_chosen_X9_firstDay : GoodIn wsX9_chosen (wsV RX9 214 RX9 yX9_firstDay wsX9_firstDay) := goodIn_app (goodIn_of _ (by decide +kernel)) ggX9_chosen_X9_firstDay
set_option maxRecDepth 20000 in
theorem ggX9_chosen_X8_part : GoodIn wsX9_chosen wsX8_part := goodIn_r _ [29, 30, 31, 10, 11, 12, 13, 14, 155, 156, 157, 158, 159] rfl (by decide +kernel)
set_option maxRecDepth 20000 in
theorem gX9_chosen_X8_part : GoodIn wsX9_chosen (wsV RX9 148 RX8 yX8_part wsX8_part) := goodIn_app (goodIn_of _ (by decide +kernel)) ggX9_chosen_X8_part
set_option maxRecDepth 20000 in
theorem ggX9_chosen_X1_make : GoodIn wsX9_chosen wsX1_make := goodIn_r _ [36, 37, 38, 39, 40, 41, 42, 43, 44, 45, 46, 47, 48, 49, 50, 51, 52, 53, 54, 55, 56, 57, 58, 59, 60, 61, 62, 63, 64, 24, 65, 66, 67, 68, 69, 23, 25, 70, 71, 72, 12, 73, 74, 75, 76, 77, 78, 79, 80, 81, 82, 83, 84, 85, 86, 87, 88, 89, 90, 91, 92, 93, 94, 95, 96, 97, 98, 99, 18, 100, 101, 102, 103, 104, 105, 31, 10, 11, 13, 14, 106, 107, 108, 109, 110, 111, 112, 113, 114, 115, 116, 117, 118, 119, 120, 35, 121, 122, 123, 124, 125, 126, 127, 128, 27, 28, 29, 30, 129, 130, 131, 132, 133, 134, 135, 136, 150, 151, 152, 153, 154, 170, 171, 172, 173, 174, 175, 176, 177, 178, 179, 180, 181, 182, 183, 184, 155, 156, 157, 158, 159, 185, 186, 187, 188, 189] rfl (by decide +kernel)
set_option maxRecDepth 20000 in
theorem gX9_chosen_X1_make : GoodIn wsX9_chosen (wsV RX9 291 RX1 yX1_make wsX1_make) := goodIn_app (goodIn_of _ (by decide +kernel)) ggX9_chosen_X1_make
theorem dX9_chosen_0 : decode cX9_chosen 0 = .ok (.aload_n 0, 1) := by decide +kernel
theorem dX9_chosen_1 : decode cX9_chosen 1 = .ok (.getfield 41, 3) := by decide +kernel
theorem dX9_chosen_4 : decode cX9_chosen 4 = .ok (.iconst 3, 1) := by decide +kernel
theorem dX9_chosen_5 : decode cX9_chosen 5 = .ok (.iload_n 1, 1) := by decide +kernel
theorem dX9_chosen_6 : decode cX9_chosen 6 = .ok (.invokevirtual 143, 3) := by decide +kernel
theorem dX9_chosen_9 : decode cX9_chosen 9 = .ok (.ifCond .ne 6, 3) := by decide +kernel
theorem dX9_chosen_12 : decode cX9_chosen 12 = .ok (.ldc 147, 2) := by decide +kernel
theorem dX9_chosen_14 : decode cX9_chosen 14 = .ok (.ireturn, 1) := by decide +kernel
theorem dX9_chosen_15 : decode cX9_chosen 15 = .ok (.iload_n 2, 1) := by decide +kernel
theorem dX9_chosen_16 : decode cX9_chosen 16 = .ok (.ifCond .lt 8, 3) := by decide +kernel
theorem dX9_chosen_19 : decode cX9_chosen 19 = .ok (.iload_n 2, 1) := by decide +kernel
theorem dX9_chosen_20 : decode cX9_chosen 20 = .ok (.iconst 2, 1) := by decide +kernel
theorem dX9_chosen_21 : decode cX9_chosen 21 = .ok (.if_icmp .le 6, 3) := by decide +kernel
theorem dX9_chosen_24 : decode cX9_chosen 24 = .ok (.ldc 87, 2) := by decide +kernel
theorem dX9_chosen_26 : decode cX9_chosen 26 = .ok (.ireturn, 1) := by decide +kernel
theorem dX9_chosen_27 : decode cX9_chosen 27 = .ok (.aload_n 0, 1) := by decide +kernel
theorem dX9_chosen_28 : decode cX9_chosen 28 = .ok (.getfield 83, 3) := by decide +kernel
theorem dX9_chosen_31 : decode cX9_chosen 31 = .ok (.aload_n 0, 1) := by decide +kernel
theorem dX9_chosen_32 : decode cX9_chosen 32 = .ok (.getfield 51, 3) := by decide +kernel
theorem dX9_chosen_35 : decode cX9_chosen 35 = .ok (.aload_n 0, 1) := by decide +kernel
theorem dX9_chosen_36 : decode cX9_chosen 36 = .ok (.iload_n 1, 1) := by decide +kernel
theorem dX9_chosen_37 : decode cX9_chosen 37 = .ok (.invokevirtual 214, 3) := by decide +kernel
theorem dX9_chosen_40 : decode cX9_chosen 40 = .ok (.aload_n 0, 1) := by decide +kernel
theorem dX9_chosen_41 : decode cX9_chosen 41 = .ok (.getfield 41, 3) := by decide +kernel
theorem dX9_chosen_44 : decode cX9_chosen 44 = .ok (.iconst 3, 1) := by decide +kernel
theorem dX9_chosen_45 : decode cX9_chosen 45 = .ok (.iload_n 1, 1) := by decide +kernel
theorem dX9_chosen_46 : decode cX9_chosen 46 = .ok (.iconst 1, 1) := by decide +kernel
theorem dX9_chosen_47 : decode cX9_chosen 47 = .ok (.invokevirtual 148, 3) := by decide +kernel
theorem dX9_chosen_50 : decode cX9_chosen 50 = .ok (.iload_n 3, 1) := by decide +kernel
theorem dX9_chosen_51 : decode cX9_chosen 51 = .ok (.invokevirtual 291, 3) := by decide +kernel
theorem dX9_chosen_54 : decode cX9_chosen 54 = .ok (.iload_n 2, 1) := by decide +kernel
theorem dX9_chosen_55 : decode cX9_chosen 55 = .ok (.ifCond .ne 11, 3) := by decide +kernel
theorem dX9_chosen_58 : decode cX9_chosen 58 = .ok (.aload_n 0, 1) := by decide +kernel
theorem dX9_chosen_59 : decode cX9_chosen 59 = .ok (.getfield 83, 3) := by decide +kernel
theorem dX9_chosen_62 : decode cX9_chosen 62 = .ok (.getfield 295, 3) := by decide +kernel
theorem dX9_chosen_65 : decode cX9_chosen 65 = .ok (.ireturn, 1) := by decide +kernel
theorem dX9_chosen_66 : decode cX9_chosen 66 = .ok (.iload_n 2, 1) := by decide +kernel
theorem dX9_chosen_67 : decode cX9_chosen 67 = .ok (.iconst 1, 1) := by decide +kernel
theorem dX9_chosen_68 : decode cX9_chosen 68 = .ok (.if_icmp .ne 13, 3) := by decide +kernel
theorem dX9_chosen_71 : decode cX9_chosen 71 = .ok (.aload_n 0, 1) := by decide +kernel
theorem dX9_chosen_72 : decode cX9_chosen 72 = .ok (.getfield 83, 3) := by decide +kernel
theorem dX9_chosen_75 : decode cX9_chosen 75 = .ok (.getfield 298, 3) := by decide +kernel
theorem dX9_chosen_78 : decode cX9_chosen 78 = .ok (.goto 10, 3) := by decide +kernel
theorem dX9_chosen_81 : decode cX9_chosen 81 = .ok (.aload_n 0, 1) := by decide +kernel
theorem dX9_chosen_82 : decode cX9_chosen 82 = .ok (.getfield 83, 3) := by decide +kernel
theorem dX9_chosen_85 : decode cX9_chosen 85 = .ok (.getfield 301, 3) := by decide +kernel
theorem dX9_chosen_88 : decode cX9_chosen 88 = .ok (.ireturn, 1) := by decide +kernel
set_option maxRecDepth 20000 in
theorem ggX9_cheapest_X9_chosen : GoodIn wsX9_cheapest wsX9_chosen := goodIn_r _ [5, 6, 7, 8, 9, 10, 11, 12, 13, 14, 15, 16, 17, 18, 19, 20, 21, 22, 4, 23, 24, 25, 26, 27, 28, 29, 30, 31, 32, 33, 34, 35, 36, 37, 38, 39, 40, 41, 42, 43, 44, 45, 46, 47, 48, 49, 50, 51, 52, 53, 54, 55, 56, 57, 58, 59, 60, 61, 62, 63, 64, 65, 66, 67, 68, 69, 70, 71, 72, 73, 74, 75, 76, 77, 78, 79, 80, 81, 82, 83, 84, 85, 86, 87, 88, 89, 90, 91, 92, 93, 94, 95, 96, 97, 98, 99, 100, 101, 102, 103, 104, 105, 106, 107, 108, 109, 110, 111, 112, 113, 114, 115, 116, 117, 118, 119, 120, 121, 122, 123, 124, 125, 126, 127, 128, 129, 130, 131, 132, 133, 134, 135, 136, 137, 138, 139, 140, 141, 142, 143, 144, 145, 146, 147, 148, 149, 150, 151, 152, 153, 154, 155, 156, 157, 158, 159, 160, 161, 162, 163, 164, 165, 166, 167, 168, 169, 170, 171, 172, 173, 174, 175, 176, 177, 178, 179, 180, 181, 182, 183, 184, 185, 186, 187, 188, 189, 190, 191, 192, 193] rfl (by decide +kernel)
set_option maxRecDepth 20000 in
theorem gX9_cheapest_X9_chosen : GoodIn wsX9_cheapest (wsV RX9 238 RX9 yX9_chosen wsX9_chosen) := goodIn_app (goodIn_of _ (by decide +kernel)) ggX9_cheapest_X9_chosen
theorem dX9_cheapest_0 : decode cX9_cheapest 0 = .ok (.aload_n 0, 1) := by decide +kernel
theorem dX9_cheapest_1 : decode cX9_cheapest 1 = .ok (.iload_n 1, 1) := by decide +kernel
theorem dX9_cheapest_2 : decode cX9_cheapest 2 = .ok (.iload_n 2, 1) := by decide +kernel
theorem dX9_cheapest_3 : decode cX9_cheapest 3 = .ok (.iconst 0, 1) := by decide +kernel
theorem dX9_cheapest_4 : decode cX9_cheapest 4 = .ok (.invokevirtual 238, 3) := by decide +kernel
theorem dX9_cheapest_7 : decode cX9_cheapest 7 = .ok (.ireturn, 1) := by decide +kernel
set_option maxRecDepth 20000 in
theorem ggX9_likeliest_X9_chosen : GoodIn wsX9_likeliest wsX9_chosen := goodIn_r _ [5, 6, 7, 8, 9, 10, 11, 12, 13, 14, 15, 16, 17, 18, 19, 20, 21, 22, 4, 23, 24, 25, 26, 27, 28, 29, 30, 31, 32, 33, 34, 35, 36, 37, 38, 39, 40, 41, 42, 43, 44, 45, 46, 47, 48, 49, 50, 51, 52, 53, 54, 55, 56, 57, 58, 59, 60, 61, 62, 63, 64, 65, 66, 67, 68, 69, 70, 71, 72, 73, 74, 75, 76, 77, 78, 79, 80, 81, 82, 83, 84, 85, 86, 87, 88, 89, 90, 91, 92, 93, 94, 95, 96, 97, 98, 99, 100, 101, 102, 103, 104, 105, 106, 107, 108, 109, 110, 111, 112, 113, 114, 115, 116, 117, 118, 119, 120, 121, 122, 123, 124, 125, 126, 127, 128, 129, 130, 131, 132, 133, 134, 135, 136, 137, 138, 139, 140, 141, 142, 143, 144, 145, 146, 147, 148, 149, 150, 151, 152, 153, 154, 155, 156, 157, 158, 159, 160, 161, 162, 163, 164, 165, 166, 167, 168, 169, 170, 171, 172, 173, 174, 175, 176, 177, 178, 179, 180, 181, 182, 183, 184, 185, 186, 187, 188, 189, 190, 191, 192, 193] rfl (by decide +kernel)
set_option maxRecDepth 20000 in
theorem gX9_likeliest_X9_chosen : GoodIn wsX9_likeliest (wsV RX9 238 RX9 yX9_chosen wsX9_chosen) := goodIn_app (goodIn_of _ (by decide +kernel)) ggX9_likeliest_X9_chosen
theorem dX9_likeliest_0 : decode cX9_likeliest 0 = .ok (.aload_n 0, 1) := by decide +kernel
theorem dX9_likeliest_1 : decode cX9_likeliest 1 = .ok (.iload_n 1, 1) := by decide +kernel
theorem dX9_likeliest_2 : decode cX9_likeliest 2 = .ok (.iload_n 2, 1) := by decide +kernel
theorem dX9_likeliest_3 : decode cX9_likeliest 3 = .ok (.iconst 1, 1) := by decide +kernel
theorem dX9_likeliest_4 : decode cX9_likeliest 4 = .ok (.invokevirtual 238, 3) := by decide +kernel
theorem dX9_likeliest_7 : decode cX9_likeliest 7 = .ok (.ireturn, 1) := by decide +kernel
set_option maxRecDepth 20000 in
theorem ggX9_stopped_X8_has : GoodIn wsX9_stopped wsX8_has := goodIn_r _ [10, 11, 121, 122, 123, 124, 125] rfl (by decide +kernel)
set_option maxRecDepth 20000 in
theorem gX9_stopped_X8_has : GoodIn wsX9_stopped (wsV RX9 143 RX8 yX8_has wsX8_has) := goodIn_app (goodIn_of _ (by decide +kernel)) ggX9_stopped_X8_has
set_option maxRecDepth 20000 in
theorem ggX9_stopped_X9_firstDay : GoodIn wsX9_stopped wsX9_firstDay := goodIn_r _ [16, 17, 18, 1, 19, 20, 21, 22, 23, 24, 25, 9, 26, 27, 28, 7, 8, 10, 11, 103, 104, 105, 106, 107, 108, 109, 110, 111, 112, 113, 114, 115, 126, 127, 128, 129, 130, 131, 132, 133, 134, 135, 121, 122, 123, 124, 125] rfl (by decide +kernel)
set_option maxRecDepth 20000 in
theorem gX9_stopped_X9_firstDay : GoodIn wsX9_stopped (wsV RX9 214 RX9 yX9_firstDay wsX9_firstDay) := goodIn_app (goodIn_of _ (by decide +kernel)) ggX9_stopped_X9_firstDay
set_option maxRecDepth 20000 in
theorem ggX9_stopped_X8_part : GoodIn wsX9_stopped wsX8_part := goodIn_r _ [26, 27, 28, 7, 8, 9, 10, 11, 121, 122, 123, 124, 125] rfl (by decide +kernel)
set_option maxRecDepth 20000 in
theorem gX9_stopped_X8_part : GoodIn wsX9_stopped (wsV RX9 148 RX8 yX8_part wsX8_part) := goodIn_app (goodIn_of _ (by decide +kernel)) ggX9_stopped_X8_part
set_option maxRecDepth 20000 in
theorem ggX9_stopped_X5_loudDay : GoodIn wsX9_stopped wsX5_loudDay := goodIn_r _ [33, 34, 35, 36, 32, 37, 38, 39, 40, 41, 21, 42, 43, 44, 45, 46, 20, 22, 47, 48, 49, 50, 9, 51, 52, 53, 54, 55, 56, 57, 58, 59, 60, 61, 62, 63, 64, 65, 66, 67, 68, 69, 70, 71, 72, 73, 74, 75, 76, 77, 15, 78, 79, 80, 81, 82, 83, 28, 7, 8, 10, 11, 84, 85, 86, 87, 88, 89, 90, 91, 92, 93, 94, 95, 96, 97, 98, 99, 100, 101, 102, 136, 137, 138, 139, 140, 141, 142, 143, 144, 145, 121, 122, 123, 124, 125, 146, 147, 148, 149, 150] rfl (by decide +kernel)
set_option maxRecDepth 20000 in
theorem gX9_stopped_X5_loudDay : GoodIn wsX9_stopped (wsV RX9 255 RX5 yX5_loudDay wsX5_loudDay) := goodIn_app (goodIn_of _ (by decide +kernel)) ggX9_stopped_X5_loudDay
theorem dX9_stopped_0 : decode cX9_stopped 0 = .ok (.aload_n 0, 1) := by decide +kernel
theorem dX9_stopped_1 : decode cX9_stopped 1 = .ok (.getfield 41, 3) := by decide +kernel
theorem dX9_stopped_4 : decode cX9_stopped 4 = .ok (.iconst 3, 1) := by decide +kernel
theorem dX9_stopped_5 : decode cX9_stopped 5 = .ok (.iload_n 1, 1) := by decide +kernel
theorem dX9_stopped_6 : decode cX9_stopped 6 = .ok (.invokevirtual 143, 3) := by decide +kernel
theorem dX9_stopped_9 : decode cX9_stopped 9 = .ok (.ifCond .ne 6, 3) := by decide +kernel
theorem dX9_stopped_12 : decode cX9_stopped 12 = .ok (.ldc 147, 2) := by decide +kernel
theorem dX9_stopped_14 : decode cX9_stopped 14 = .ok (.ireturn, 1) := by decide +kernel
theorem dX9_stopped_15 : decode cX9_stopped 15 = .ok (.aload_n 0, 1) := by decide +kernel
theorem dX9_stopped_16 : decode cX9_stopped 16 = .ok (.getfield 67, 3) := by decide +kernel
theorem dX9_stopped_19 : decode cX9_stopped 19 = .ok (.aload_n 0, 1) := by decide +kernel
theorem dX9_stopped_20 : decode cX9_stopped 20 = .ok (.iload_n 1, 1) := by decide +kernel
theorem dX9_stopped_21 : decode cX9_stopped 21 = .ok (.invokevirtual 214, 3) := by decide +kernel
theorem dX9_stopped_24 : decode cX9_stopped 24 = .ok (.aload_n 0, 1) := by decide +kernel
theorem dX9_stopped_25 : decode cX9_stopped 25 = .ok (.getfield 51, 3) := by decide +kernel
theorem dX9_stopped_28 : decode cX9_stopped 28 = .ok (.getfield 124, 3) := by decide +kernel
theorem dX9_stopped_31 : decode cX9_stopped 31 = .ok (.aload_n 0, 1) := by decide +kernel
theorem dX9_stopped_32 : decode cX9_stopped 32 = .ok (.getfield 41, 3) := by decide +kernel
theorem dX9_stopped_35 : decode cX9_stopped 35 = .ok (.iconst 3, 1) := by decide +kernel
theorem dX9_stopped_36 : decode cX9_stopped 36 = .ok (.iload_n 1, 1) := by decide +kernel
theorem dX9_stopped_37 : decode cX9_stopped 37 = .ok (.iconst 1, 1) := by decide +kernel
theorem dX9_stopped_38 : decode cX9_stopped 38 = .ok (.invokevirtual 148, 3) := by decide +kernel
theorem dX9_stopped_41 : decode cX9_stopped 41 = .ok (.iload_n 2, 1) := by decide +kernel
theorem dX9_stopped_42 : decode cX9_stopped 42 = .ok (.invokevirtual 255, 3) := by decide +kernel
theorem dX9_stopped_45 : decode cX9_stopped 45 = .ok (.ireturn, 1) := by decide +kernel
set_option maxRecDepth 20000 in
theorem ggX9_tried_X8_has : GoodIn wsX9_tried wsX8_has := goodIn_r _ [9, 10, 115, 116, 117, 118, 119] rfl (by decide +kernel)
set_option maxRecDepth 20000 in
theorem gX9_tried_X8_has : GoodIn wsX9_tried (wsV RX9 143 RX8 yX8_has wsX8_has) := goodIn_app (goodIn_of _ (by decide +kernel)) ggX9_tried_X8_has
set_option maxRecDepth 20000 in
theorem ggX9_tried_X9_firstDay : GoodIn wsX9_tried wsX9_firstDay := goodIn_r _ [15, 16, 17, 1, 18, 19, 20, 21, 22, 23, 24, 8, 25, 26, 27, 6, 7, 9, 10, 102, 103, 104, 105, 106, 107, 108, 109, 110, 111, 112, 113, 114, 120, 121, 122, 123, 124, 125, 126, 127, 128, 129, 115, 116, 117, 118, 119] rfl (by decide +kernel)
set_option maxRecDepth 20000 in
theorem gX9_tried_X9_firstDay : GoodIn wsX9_tried (wsV RX9 214 RX9 yX9_firstDay wsX9_firstDay) := goodIn_app (goodIn_of _ (by decide +kernel)) ggX9_tried_X9_firstDay
set_option maxRecDepth 20000 in
theorem ggX9_tried_X5_soonestEnd : GoodIn wsX9_tried wsX5_soonestEnd := goodIn_r _ [32, 33, 34, 35, 31, 36, 37, 38, 39, 40, 20, 41, 42, 43, 44, 45, 19, 21, 46, 47, 48, 49, 8, 50, 51, 52, 53, 54, 55, 56, 57, 58, 59, 60, 61, 62, 63, 64, 65, 66, 67, 68, 69, 70, 71, 72, 73, 74, 75, 76, 14, 77, 78, 79, 80, 81, 82, 27, 6, 7, 9, 10, 83, 84, 85, 86, 87, 88, 89, 90, 91, 92, 93, 94, 95, 96, 97, 98, 99, 100, 101, 130, 131, 132, 133, 134, 135, 136, 137, 138, 139, 115, 116, 117, 118, 119, 140, 141, 142, 143, 144] rfl (by decide +kernel)
set_option maxRecDepth 20000 in
theorem gX9_tried_X5_soonestEnd : GoodIn wsX9_tried (wsV RX9 217 RX5 yX5_soonestEnd wsX5_soonestEnd) := goodIn_app (goodIn_of _ (by decide +kernel)) ggX9_tried_X5_soonestEnd
theorem dX9_tried_0 : decode cX9_tried 0 = .ok (.aload_n 0, 1) := by decide +kernel
theorem dX9_tried_1 : decode cX9_tried 1 = .ok (.getfield 41, 3) := by decide +kernel
theorem dX9_tried_4 : decode cX9_tried 4 = .ok (.iconst 3, 1) := by decide +kernel
theorem dX9_tried_5 : decode cX9_tried 5 = .ok (.iload_n 1, 1) := by decide +kernel
theorem dX9_tried_6 : decode cX9_tried 6 = .ok (.invokevirtual 143, 3) := by decide +kernel
theorem dX9_tried_9 : decode cX9_tried 9 = .ok (.ifCond .ne 6, 3) := by decide +kernel
theorem dX9_tried_12 : decode cX9_tried 12 = .ok (.ldc 147, 2) := by decide +kernel
theorem dX9_tried_14 : decode cX9_tried 14 = .ok (.ireturn, 1) := by decide +kernel
theorem dX9_tried_15 : decode cX9_tried 15 = .ok (.iload_n 2, 1) := by decide +kernel
theorem dX9_tried_16 : decode cX9_tried 16 = .ok (.iconst 1, 1) := by decide +kernel
theorem dX9_tried_17 : decode cX9_tried 17 = .ok (.if_icmp .lt 9, 3) := by decide +kernel
theorem dX9_tried_20 : decode cX9_tried 20 = .ok (.iload_n 2, 1) := by decide +kernel
theorem dX9_tried_21 : decode cX9_tried 21 = .ok (.bipush 7, 2) := by decide +kernel
theorem dX9_tried_23 : decode cX9_tried 23 = .ok (.if_icmp .le 6, 3) := by decide +kernel
theorem dX9_tried_26 : decode cX9_tried 26 = .ok (.ldc 87, 2) := by decide +kernel
theorem dX9_tried_28 : decode cX9_tried 28 = .ok (.ireturn, 1) := by decide +kernel
theorem dX9_tried_29 : decode cX9_tried 29 = .ok (.aload_n 0, 1) := by decide +kernel
theorem dX9_tried_30 : decode cX9_tried 30 = .ok (.getfield 67, 3) := by decide +kernel
theorem dX9_tried_33 : decode cX9_tried 33 = .ok (.aload_n 0, 1) := by decide +kernel
theorem dX9_tried_34 : decode cX9_tried 34 = .ok (.iload_n 1, 1) := by decide +kernel
theorem dX9_tried_35 : decode cX9_tried 35 = .ok (.invokevirtual 214, 3) := by decide +kernel
theorem dX9_tried_38 : decode cX9_tried 38 = .ok (.iload_n 2, 1) := by decide +kernel
theorem dX9_tried_39 : decode cX9_tried 39 = .ok (.bipush 99, 2) := by decide +kernel
theorem dX9_tried_41 : decode cX9_tried 41 = .ok (.invokevirtual 217, 3) := by decide +kernel
theorem dX9_tried_44 : decode cX9_tried 44 = .ok (.ireturn, 1) := by decide +kernel
set_option maxRecDepth 20000 in
theorem ggX9_let_X8_has : GoodIn wsX9_let wsX8_has := goodIn_r _ [8, 9, 45, 46, 47, 48, 49] rfl (by decide +kernel)
set_option maxRecDepth 20000 in
theorem gX9_let_X8_has : GoodIn wsX9_let (wsV RX9 143 RX8 yX8_has wsX8_has) := goodIn_app (goodIn_of _ (by decide +kernel)) ggX9_let_X8_has
set_option maxRecDepth 20000 in
theorem ggX9_let_X8_calmHouses : GoodIn wsX9_let wsX8_calmHouses := goodIn_r _ [13, 14, 15, 5, 6, 7, 8, 9, 45, 46, 47, 48, 49] rfl (by decide +kernel)
set_option maxRecDepth 20000 in
theorem gX9_let_X8_calmHouses : GoodIn wsX9_let (wsV RX9 259 RX8 yX8_calmHouses wsX8_calmHouses) := goodIn_app (goodIn_of _ (by decide +kernel)) ggX9_let_X8_calmHouses
set_option maxRecDepth 20000 in
theorem ggX9_let_X8_bedsOf : GoodIn wsX9_let wsX8_bedsOf := goodIn_r _ [19, 9, 20, 21, 22, 23, 24, 25, 7, 26, 27, 15, 5, 6, 8, 45, 46, 47, 48, 49] rfl (by decide +kernel)
set_option maxRecDepth 20000 in
theorem gX9_let_X8_bedsOf : GoodIn wsX9_let (wsV RX9 262 RX8 yX8_bedsOf wsX8_bedsOf) := goodIn_app (goodIn_of _ (by decide +kernel)) ggX9_let_X8_bedsOf
set_option maxRecDepth 20000 in
theorem ggX9_let_X8_roomiestOf : GoodIn wsX9_let wsX8_roomiestOf := goodIn_r _ [31, 9, 20, 21, 22, 23, 24, 25, 7, 26, 27, 15, 5, 6, 8, 45, 46, 47, 48, 49] rfl (by decide +kernel)
set_option maxRecDepth 20000 in
theorem gX9_let_X8_roomiestOf : GoodIn wsX9_let (wsV RX9 265 RX8 yX8_roomiestOf wsX8_roomiestOf) := goodIn_app (goodIn_of _ (by decide +kernel)) ggX9_let_X8_roomiestOf
theorem dX9_let_0 : decode cX9_let 0 = .ok (.aload_n 0, 1) := by decide +kernel
theorem dX9_let_1 : decode cX9_let 1 = .ok (.getfield 41, 3) := by decide +kernel
theorem dX9_let_4 : decode cX9_let 4 = .ok (.iconst 1, 1) := by decide +kernel
theorem dX9_let_5 : decode cX9_let 5 = .ok (.iload_n 1, 1) := by decide +kernel
theorem dX9_let_6 : decode cX9_let 6 = .ok (.invokevirtual 143, 3) := by decide +kernel
theorem dX9_let_9 : decode cX9_let 9 = .ok (.ifCond .ne 6, 3) := by decide +kernel
theorem dX9_let_12 : decode cX9_let 12 = .ok (.ldc 147, 2) := by decide +kernel
theorem dX9_let_14 : decode cX9_let 14 = .ok (.ireturn, 1) := by decide +kernel
theorem dX9_let_15 : decode cX9_let 15 = .ok (.iload_n 2, 1) := by decide +kernel
theorem dX9_let_16 : decode cX9_let 16 = .ok (.ifCond .lt 18, 3) := by decide +kernel
theorem dX9_let_19 : decode cX9_let 19 = .ok (.iload_n 2, 1) := by decide +kernel
theorem dX9_let_20 : decode cX9_let 20 = .ok (.bipush 99, 2) := by decide +kernel
theorem dX9_let_22 : decode cX9_let 22 = .ok (.if_icmp .gt 12, 3) := by decide +kernel
theorem dX9_let_25 : decode cX9_let 25 = .ok (.iload_n 3, 1) := by decide +kernel
theorem dX9_let_26 : decode cX9_let 26 = .ok (.ifCond .lt 8, 3) := by decide +kernel
theorem dX9_let_29 : decode cX9_let 29 = .ok (.iload_n 3, 1) := by decide +kernel
theorem dX9_let_30 : decode cX9_let 30 = .ok (.iconst 1, 1) := by decide +kernel
theorem dX9_let_31 : decode cX9_let 31 = .ok (.if_icmp .le 6, 3) := by decide +kernel
theorem dX9_let_34 : decode cX9_let 34 = .ok (.ldc 87, 2) := by decide +kernel
theorem dX9_let_36 : decode cX9_let 36 = .ok (.ireturn, 1) := by decide +kernel
theorem dX9_let_37 : decode cX9_let 37 = .ok (.aload_n 0, 1) := by decide +kernel
theorem dX9_let_38 : decode cX9_let 38 = .ok (.getfield 41, 3) := by decide +kernel
theorem dX9_let_41 : decode cX9_let 41 = .ok (.iload_n 1, 1) := by decide +kernel
theorem dX9_let_42 : decode cX9_let 42 = .ok (.iload_n 2, 1) := by decide +kernel
theorem dX9_let_43 : decode cX9_let 43 = .ok (.invokevirtual 259, 3) := by decide +kernel
theorem dX9_let_46 : decode cX9_let 46 = .ok (.istore 4, 2) := by decide +kernel
theorem dX9_let_48 : decode cX9_let 48 = .ok (.iload_n 3, 1) := by decide +kernel
theorem dX9_let_49 : decode cX9_let 49 = .ok (.ifCond .ne 15, 3) := by decide +kernel
theorem dX9_let_52 : decode cX9_let 52 = .ok (.aload_n 0, 1) := by decide +kernel
theorem dX9_let_53 : decode cX9_let 53 = .ok (.getfield 41, 3) := by decide +kernel
theorem dX9_let_56 : decode cX9_let 56 = .ok (.iload 4, 2) := by decide +kernel
theorem dX9_let_58 : decode cX9_let 58 = .ok (.invokevirtual 262, 3) := by decide +kernel
theorem dX9_let_61 : decode cX9_let 61 = .ok (.goto 12, 3) := by decide +kernel
theorem dX9_let_64 : decode cX9_let 64 = .ok (.aload_n 0, 1) := by decide +kernel
theorem dX9_let_65 : decode cX9_let 65 = .ok (.getfield 41, 3) := by decide +kernel
theorem dX9_let_68 : decode cX9_let 68 = .ok (.iload 4, 2) := by decide +kernel
theorem dX9_let_70 : decode cX9_let 70 = .ok (.invokevirtual 265, 3) := by decide +kernel
theorem dX9_let_73 : decode cX9_let 73 = .ok (.ireturn, 1) := by decide +kernel
set_option maxRecDepth 20000 in
theorem ggX9_write_X8_has : GoodIn wsX9_write wsX8_has := goodIn_r _ [11, 12, 39, 40, 41, 42, 43] rfl (by decide +kernel)
set_option maxRecDepth 20000 in
theorem gX9_write_X8_has : GoodIn wsX9_write (wsV RX9 143 RX8 yX8_has wsX8_has) := goodIn_app (goodIn_of _ (by decide +kernel)) ggX9_write_X8_has
set_option maxRecDepth 20000 in
theorem ggX9_write_X0_add : GoodIn wsX9_write wsX0_add := goodIn_r _ [17, 18, 19, 20, 21, 35, 36, 37, 38] rfl (by decide +kernel)
set_option maxRecDepth 20000 in
theorem gX9_write_X0_add : GoodIn wsX9_write (wsV RX9 268 RX0 yX0_add wsX0_add) := goodIn_app (goodIn_of _ (by decide +kernel)) ggX9_write_X0_add
theorem dX9_write_0 : decode cX9_write 0 = .ok (.aload_n 0, 1) := by decide +kernel
theorem dX9_write_1 : decode cX9_write 1 = .ok (.getfield 41, 3) := by decide +kernel
theorem dX9_write_4 : decode cX9_write 4 = .ok (.iconst 1, 1) := by decide +kernel
theorem dX9_write_5 : decode cX9_write 5 = .ok (.iload_n 2, 1) := by decide +kernel
theorem dX9_write_6 : decode cX9_write 6 = .ok (.invokevirtual 143, 3) := by decide +kernel
theorem dX9_write_9 : decode cX9_write 9 = .ok (.ifCond .eq 15, 3) := by decide +kernel
theorem dX9_write_12 : decode cX9_write 12 = .ok (.aload_n 0, 1) := by decide +kernel
theorem dX9_write_13 : decode cX9_write 13 = .ok (.getfield 41, 3) := by decide +kernel
theorem dX9_write_16 : decode cX9_write 16 = .ok (.iconst 0, 1) := by decide +kernel
theorem dX9_write_17 : decode cX9_write 17 = .ok (.iload_n 3, 1) := by decide +kernel
theorem dX9_write_18 : decode cX9_write 18 = .ok (.invokevirtual 143, 3) := by decide +kernel
theorem dX9_write_21 : decode cX9_write 21 = .ok (.ifCond .ne 6, 3) := by decide +kernel
theorem dX9_write_24 : decode cX9_write 24 = .ok (.ldc 147, 2) := by decide +kernel
theorem dX9_write_26 : decode cX9_write 26 = .ok (.ireturn, 1) := by decide +kernel
theorem dX9_write_27 : decode cX9_write 27 = .ok (.iload_n 1, 1) := by decide +kernel
theorem dX9_write_28 : decode cX9_write 28 = .ok (.ifCond .lt 10, 3) := by decide +kernel
theorem dX9_write_31 : decode cX9_write 31 = .ok (.iload_n 1, 1) := by decide +kernel
theorem dX9_write_32 : decode cX9_write 32 = .ok (.sipush 999, 3) := by decide +kernel
theorem dX9_write_35 : decode cX9_write 35 = .ok (.if_icmp .le 6, 3) := by decide +kernel
theorem dX9_write_38 : decode cX9_write 38 = .ok (.ldc 87, 2) := by decide +kernel
theorem dX9_write_40 : decode cX9_write 40 = .ok (.ireturn, 1) := by decide +kernel
theorem dX9_write_41 : decode cX9_write 41 = .ok (.aload_n 0, 1) := by decide +kernel
theorem dX9_write_42 : decode cX9_write 42 = .ok (.getfield 34, 3) := by decide +kernel
theorem dX9_write_45 : decode cX9_write 45 = .ok (.getfield 114, 3) := by decide +kernel
theorem dX9_write_48 : decode cX9_write 48 = .ok (.bipush 20, 2) := by decide +kernel
theorem dX9_write_50 : decode cX9_write 50 = .ok (.if_icmp .lt 6, 3) := by decide +kernel
theorem dX9_write_53 : decode cX9_write 53 = .ok (.ldc 91, 2) := by decide +kernel
theorem dX9_write_55 : decode cX9_write 55 = .ok (.ireturn, 1) := by decide +kernel
theorem dX9_write_56 : decode cX9_write 56 = .ok (.aload_n 0, 1) := by decide +kernel
theorem dX9_write_57 : decode cX9_write 57 = .ok (.getfield 34, 3) := by decide +kernel
theorem dX9_write_60 : decode cX9_write 60 = .ok (.iload_n 1, 1) := by decide +kernel
theorem dX9_write_61 : decode cX9_write 61 = .ok (.iload_n 2, 1) := by decide +kernel
theorem dX9_write_62 : decode cX9_write 62 = .ok (.iload_n 3, 1) := by decide +kernel
theorem dX9_write_63 : decode cX9_write 63 = .ok (.invokevirtual 268, 3) := by decide +kernel
theorem dX9_write_66 : decode cX9_write 66 = .ok (.aload_n 0, 1) := by decide +kernel
theorem dX9_write_67 : decode cX9_write 67 = .ok (.getfield 34, 3) := by decide +kernel
theorem dX9_write_70 : decode cX9_write 70 = .ok (.getfield 114, 3) := by decide +kernel
theorem dX9_write_73 : decode cX9_write 73 = .ok (.ireturn, 1) := by decide +kernel
set_option maxRecDepth 20000 in
theorem ggX9_judge_X8_has : GoodIn wsX9_judge wsX8_has := goodIn_r _ [8, 9, 51, 52, 53, 54, 55] rfl (by decide +kernel)
set_option maxRecDepth 20000 in
theorem gX9_judge_X8_has : GoodIn wsX9_judge (wsV RX9 143 RX8 yX8_has wsX8_has) := goodIn_app (goodIn_of _ (by decide +kernel)) ggX9_judge_X8_has
set_option maxRecDepth 20000 in
theorem ggX9_judge_X8_part : GoodIn wsX9_judge wsX8_part := goodIn_r _ [13, 14, 15, 5, 6, 7, 8, 9, 51, 52, 53, 54, 55] rfl (by decide +kernel)
set_option maxRecDepth 20000 in
theorem gX9_judge_X8_part : GoodIn wsX9_judge (wsV RX9 148 RX8 yX8_part wsX8_part) := goodIn_app (goodIn_of _ (by decide +kernel)) ggX9_judge_X8_part
set_option maxRecDepth 20000 in
theorem ggX9_judge_X0_firstWrong : GoodIn wsX9_judge wsX0_firstWrong := goodIn_r _ [20, 21, 22, 23, 24, 25, 26, 27, 28, 29, 30, 7, 31, 32, 11, 12, 13, 14, 15, 5, 6, 8, 9, 33, 34, 35, 36, 37, 56, 57, 58, 59, 51, 52, 53, 54, 55] rfl (by decide +kernel)
set_option maxRecDepth 20000 in
theorem gX9_judge_X0_firstWrong : GoodIn wsX9_judge (wsV RX9 270 RX0 yX0_firstWrong wsX0_firstWrong) := goodIn_app (goodIn_of _ (by decide +kernel)) ggX9_judge_X0_firstWrong
theorem dX9_judge_0 : decode cX9_judge 0 = .ok (.aload_n 0, 1) := by decide +kernel
theorem dX9_judge_1 : decode cX9_judge 1 = .ok (.getfield 41, 3) := by decide +kernel
theorem dX9_judge_4 : decode cX9_judge 4 = .ok (.iconst 3, 1) := by decide +kernel
theorem dX9_judge_5 : decode cX9_judge 5 = .ok (.iload_n 1, 1) := by decide +kernel
theorem dX9_judge_6 : decode cX9_judge 6 = .ok (.invokevirtual 143, 3) := by decide +kernel
theorem dX9_judge_9 : decode cX9_judge 9 = .ok (.ifCond .ne 6, 3) := by decide +kernel
theorem dX9_judge_12 : decode cX9_judge 12 = .ok (.ldc 147, 2) := by decide +kernel
theorem dX9_judge_14 : decode cX9_judge 14 = .ok (.ireturn, 1) := by decide +kernel
theorem dX9_judge_15 : decode cX9_judge 15 = .ok (.aload_n 0, 1) := by decide +kernel
theorem dX9_judge_16 : decode cX9_judge 16 = .ok (.getfield 34, 3) := by decide +kernel
theorem dX9_judge_19 : decode cX9_judge 19 = .ok (.aload_n 0, 1) := by decide +kernel
theorem dX9_judge_20 : decode cX9_judge 20 = .ok (.getfield 41, 3) := by decide +kernel
theorem dX9_judge_23 : decode cX9_judge 23 = .ok (.aload_n 0, 1) := by decide +kernel
theorem dX9_judge_24 : decode cX9_judge 24 = .ok (.getfield 41, 3) := by decide +kernel
theorem dX9_judge_27 : decode cX9_judge 27 = .ok (.iconst 3, 1) := by decide +kernel
theorem dX9_judge_28 : decode cX9_judge 28 = .ok (.iload_n 1, 1) := by decide +kernel
theorem dX9_judge_29 : decode cX9_judge 29 = .ok (.iconst 0, 1) := by decide +kernel
theorem dX9_judge_30 : decode cX9_judge 30 = .ok (.invokevirtual 148, 3) := by decide +kernel
theorem dX9_judge_33 : decode cX9_judge 33 = .ok (.invokevirtual 270, 3) := by decide +kernel
theorem dX9_judge_36 : decode cX9_judge 36 = .ok (.ireturn, 1) := by decide +kernel
theorem dX9_fault_0 : decode cX9_fault 0 = .ok (.aload_n 0, 1) := by decide +kernel
theorem dX9_fault_1 : decode cX9_fault 1 = .ok (.getfield 58, 3) := by decide +kernel
theorem dX9_fault_4 : decode cX9_fault 4 = .ok (.ireturn, 1) := by decide +kernel
theorem dX8_noiseOf_0 : decode cX8_noiseOf 0 = .ok (.iload_n 1, 1) := by decide +kernel
theorem dX8_noiseOf_1 : decode cX8_noiseOf 1 = .ok (.ifCond .lt 22, 3) := by decide +kernel
theorem dX8_noiseOf_4 : decode cX8_noiseOf 4 = .ok (.iload_n 1, 1) := by decide +kernel
theorem dX8_noiseOf_5 : decode cX8_noiseOf 5 = .ok (.iconst 4, 1) := by decide +kernel
theorem dX8_noiseOf_6 : decode cX8_noiseOf 6 = .ok (.if_icmp .ge 17, 3) := by decide +kernel
theorem dX8_noiseOf_9 : decode cX8_noiseOf 9 = .ok (.iload_n 2, 1) := by decide +kernel
theorem dX8_noiseOf_10 : decode cX8_noiseOf 10 = .ok (.ifCond .lt 13, 3) := by decide +kernel
theorem dX8_noiseOf_13 : decode cX8_noiseOf 13 = .ok (.iload_n 2, 1) := by decide +kernel
theorem dX8_noiseOf_14 : decode cX8_noiseOf 14 = .ok (.bipush 100, 2) := by decide +kernel
theorem dX8_noiseOf_16 : decode cX8_noiseOf 16 = .ok (.if_icmp .ge 7, 3) := by decide +kernel
theorem dX8_noiseOf_19 : decode cX8_noiseOf 19 = .ok (.iconst 1, 1) := by decide +kernel
theorem dX8_noiseOf_20 : decode cX8_noiseOf 20 = .ok (.goto 4, 3) := by decide +kernel
theorem dX8_noiseOf_23 : decode cX8_noiseOf 23 = .ok (.iconst 0, 1) := by decide +kernel
theorem dX8_noiseOf_24 : decode cX8_noiseOf 24 = .ok (.istore_n 3, 1) := by decide +kernel
theorem dX8_noiseOf_25 : decode cX8_noiseOf 25 = .ok (.iload_n 3, 1) := by decide +kernel
theorem dX8_noiseOf_26 : decode cX8_noiseOf 26 = .ok (.ifCond .eq 17, 3) := by decide +kernel
theorem dX8_noiseOf_29 : decode cX8_noiseOf 29 = .ok (.aload_n 0, 1) := by decide +kernel
theorem dX8_noiseOf_30 : decode cX8_noiseOf 30 = .ok (.getfield 20, 3) := by decide +kernel
theorem dX8_noiseOf_33 : decode cX8_noiseOf 33 = .ok (.iload_n 1, 1) := by decide +kernel
theorem dX8_noiseOf_34 : decode cX8_noiseOf 34 = .ok (.bipush 100, 2) := by decide +kernel
theorem dX8_noiseOf_36 : decode cX8_noiseOf 36 = .ok (.imul, 1) := by decide +kernel
theorem dX8_noiseOf_37 : decode cX8_noiseOf 37 = .ok (.iload_n 2, 1) := by decide +kernel
theorem dX8_noiseOf_38 : decode cX8_noiseOf 38 = .ok (.iadd, 1) := by decide +kernel
theorem dX8_noiseOf_39 : decode cX8_noiseOf 39 = .ok (.iaload, 1) := by decide +kernel
theorem dX8_noiseOf_40 : decode cX8_noiseOf 40 = .ok (.goto 4, 3) := by decide +kernel
theorem dX8_noiseOf_43 : decode cX8_noiseOf 43 = .ok (.iconst 0, 1) := by decide +kernel
theorem dX8_noiseOf_44 : decode cX8_noiseOf 44 = .ok (.ireturn, 1) := by decide +kernel
set_option maxRecDepth 20000 in
theorem ggX9_noise_X8_noiseOf : GoodIn wsX9_noise wsX8_noiseOf := goodIn_r _ [7, 8, 22, 23, 24, 25, 26] rfl (by decide +kernel)
set_option maxRecDepth 20000 in
theorem gX9_noise_X8_noiseOf : GoodIn wsX9_noise (wsV RX9 179 RX8 yX8_noiseOf wsX8_noiseOf) := goodIn_app (goodIn_of _ (by decide +kernel)) ggX9_noise_X8_noiseOf
theorem dX9_noise_0 : decode cX9_noise 0 = .ok (.iload_n 1, 1) := by decide +kernel
theorem dX9_noise_1 : decode cX9_noise 1 = .ok (.ifCond .lt 19, 3) := by decide +kernel
theorem dX9_noise_4 : decode cX9_noise 4 = .ok (.iload_n 1, 1) := by decide +kernel
theorem dX9_noise_5 : decode cX9_noise 5 = .ok (.iconst 4, 1) := by decide +kernel
theorem dX9_noise_6 : decode cX9_noise 6 = .ok (.if_icmp .ge 14, 3) := by decide +kernel
theorem dX9_noise_9 : decode cX9_noise 9 = .ok (.iload_n 2, 1) := by decide +kernel
theorem dX9_noise_10 : decode cX9_noise 10 = .ok (.ifCond .lt 10, 3) := by decide +kernel
theorem dX9_noise_13 : decode cX9_noise 13 = .ok (.iload_n 2, 1) := by decide +kernel
theorem dX9_noise_14 : decode cX9_noise 14 = .ok (.sipush 999, 3) := by decide +kernel
theorem dX9_noise_17 : decode cX9_noise 17 = .ok (.if_icmp .le 6, 3) := by decide +kernel
theorem dX9_noise_20 : decode cX9_noise 20 = .ok (.ldc 87, 2) := by decide +kernel
theorem dX9_noise_22 : decode cX9_noise 22 = .ok (.ireturn, 1) := by decide +kernel
theorem dX9_noise_23 : decode cX9_noise 23 = .ok (.aload_n 0, 1) := by decide +kernel
theorem dX9_noise_24 : decode cX9_noise 24 = .ok (.getfield 41, 3) := by decide +kernel
theorem dX9_noise_27 : decode cX9_noise 27 = .ok (.iload_n 1, 1) := by decide +kernel
theorem dX9_noise_28 : decode cX9_noise 28 = .ok (.iload_n 2, 1) := by decide +kernel
theorem dX9_noise_29 : decode cX9_noise 29 = .ok (.invokevirtual 179, 3) := by decide +kernel
theorem dX9_noise_32 : decode cX9_noise 32 = .ok (.ireturn, 1) := by decide +kernel
set_option maxRecDepth 20000 in
theorem ggX2_score_X8_count : GoodIn wsX2_score wsX8_count := goodIn_r _ [13, 14, 34, 35, 36, 37, 38] rfl (by decide +kernel)
set_option maxRecDepth 20000 in
theorem gX2_score_X8_count : GoodIn wsX2_score (wsV RX2 79 RX8 yX8_count wsX8_count) := goodIn_app (goodIn_of _ (by decide +kernel)) ggX2_score_X8_count
set_option maxRecDepth 20000 in
theorem ggX2_score_X8_part : GoodIn wsX2_score wsX8_part := goodIn_r _ [18, 19, 20, 21, 22, 12, 23, 14, 34, 35, 36, 37, 38] rfl (by decide +kernel)
set_option maxRecDepth 20000 in
theorem gX2_score_X8_part : GoodIn wsX2_score (wsV RX2 61 RX8 yX8_part wsX8_part) := goodIn_app (goodIn_of _ (by decide +kernel)) ggX2_score_X8_part
theorem dX2_score_0 : decode cX2_score 0 = .ok (.aload_n 0, 1) := by decide +kernel
theorem dX2_score_1 : decode cX2_score 1 = .ok (.getfield 33, 3) := by decide +kernel
theorem dX2_score_4 : decode cX2_score 4 = .ok (.ineg, 1) := by decide +kernel
theorem dX2_score_5 : decode cX2_score 5 = .ok (.istore_n 2, 1) := by decide +kernel
theorem dX2_score_6 : decode cX2_score 6 = .ok (.iconst 0, 1) := by decide +kernel
theorem dX2_score_7 : decode cX2_score 7 = .ok (.istore_n 3, 1) := by decide +kernel
theorem dX2_score_8 : decode cX2_score 8 = .ok (.iload_n 3, 1) := by decide +kernel
theorem dX2_score_9 : decode cX2_score 9 = .ok (.aload_n 1, 1) := by decide +kernel
theorem dX2_score_10 : decode cX2_score 10 = .ok (.iconst 3, 1) := by decide +kernel
theorem dX2_score_11 : decode cX2_score 11 = .ok (.invokevirtual 79, 3) := by decide +kernel
theorem dX2_score_14 : decode cX2_score 14 = .ok (.if_icmp .ge 107, 3) := by decide +kernel
theorem dX2_score_17 : decode cX2_score 17 = .ok (.aload_n 1, 1) := by decide +kernel
theorem dX2_score_18 : decode cX2_score 18 = .ok (.iconst 3, 1) := by decide +kernel
theorem dX2_score_19 : decode cX2_score 19 = .ok (.iload_n 3, 1) := by decide +kernel
theorem dX2_score_20 : decode cX2_score 20 = .ok (.iconst 0, 1) := by decide +kernel
theorem dX2_score_21 : decode cX2_score 21 = .ok (.invokevirtual 61, 3) := by decide +kernel
theorem dX2_score_24 : decode cX2_score 24 = .ok (.istore 4, 2) := by decide +kernel
theorem dX2_score_26 : decode cX2_score 26 = .ok (.aload_n 0, 1) := by decide +kernel
theorem dX2_score_27 : decode cX2_score 27 = .ok (.getfield 21, 3) := by decide +kernel
theorem dX2_score_30 : decode cX2_score 30 = .ok (.iload_n 3, 1) := by decide +kernel
theorem dX2_score_31 : decode cX2_score 31 = .ok (.iaload, 1) := by decide +kernel
theorem dX2_score_32 : decode cX2_score 32 = .ok (.ifCond .ne 15, 3) := by decide +kernel
theorem dX2_score_35 : decode cX2_score 35 = .ok (.aload_n 0, 1) := by decide +kernel
theorem dX2_score_36 : decode cX2_score 36 = .ok (.getfield 37, 3) := by decide +kernel
theorem dX2_score_39 : decode cX2_score 39 = .ok (.iload 4, 2) := by decide +kernel
theorem dX2_score_41 : decode cX2_score 41 = .ok (.invokestatic 144, 3) := by decide +kernel
theorem dX2_score_44 : decode cX2_score 44 = .ok (.goto 9, 3) := by decide +kernel
theorem dX2_score_47 : decode cX2_score 47 = .ok (.aload_n 0, 1) := by decide +kernel
theorem dX2_score_48 : decode cX2_score 48 = .ok (.getfield 24, 3) := by decide +kernel
theorem dX2_score_51 : decode cX2_score 51 = .ok (.iload_n 3, 1) := by decide +kernel
theorem dX2_score_52 : decode cX2_score 52 = .ok (.iaload, 1) := by decide +kernel
theorem dX2_score_53 : decode cX2_score 53 = .ok (.istore 5, 2) := by decide +kernel
theorem dX2_score_55 : decode cX2_score 55 = .ok (.iload_n 2, 1) := by decide +kernel
theorem dX2_score_56 : decode cX2_score 56 = .ok (.aload_n 1, 1) := by decide +kernel
theorem dX2_score_57 : decode cX2_score 57 = .ok (.iconst 3, 1) := by decide +kernel
theorem dX2_score_58 : decode cX2_score 58 = .ok (.iload_n 3, 1) := by decide +kernel
theorem dX2_score_59 : decode cX2_score 59 = .ok (.iconst 3, 1) := by decide +kernel
theorem dX2_score_60 : decode cX2_score 60 = .ok (.invokevirtual 61, 3) := by decide +kernel
theorem dX2_score_63 : decode cX2_score 63 = .ok (.iload 5, 2) := by decide +kernel
theorem dX2_score_65 : decode cX2_score 65 = .ok (.iload 4, 2) := by decide +kernel
theorem dX2_score_67 : decode cX2_score 67 = .ok (.isub, 1) := by decide +kernel
theorem dX2_score_68 : decode cX2_score 68 = .ok (.imul, 1) := by decide +kernel
theorem dX2_score_69 : decode cX2_score 69 = .ok (.isub, 1) := by decide +kernel
theorem dX2_score_70 : decode cX2_score 70 = .ok (.istore_n 2, 1) := by decide +kernel
theorem dX2_score_71 : decode cX2_score 71 = .ok (.aload_n 0, 1) := by decide +kernel
theorem dX2_score_72 : decode cX2_score 72 = .ok (.getfield 21, 3) := by decide +kernel
theorem dX2_score_75 : decode cX2_score 75 = .ok (.iload_n 3, 1) := by decide +kernel
theorem dX2_score_76 : decode cX2_score 76 = .ok (.iaload, 1) := by decide +kernel
theorem dX2_score_77 : decode cX2_score 77 = .ok (.iconst 1, 1) := by decide +kernel
theorem dX2_score_78 : decode cX2_score 78 = .ok (.if_icmp .ne 19, 3) := by decide +kernel
theorem dX2_score_81 : decode cX2_score 81 = .ok (.iload 5, 2) := by decide +kernel
theorem dX2_score_83 : decode cX2_score 83 = .ok (.aload_n 1, 1) := by decide +kernel
theorem dX2_score_84 : decode cX2_score 84 = .ok (.iconst 3, 1) := by decide +kernel
theorem dX2_score_85 : decode cX2_score 85 = .ok (.iload_n 3, 1) := by decide +kernel
theorem dX2_score_86 : decode cX2_score 86 = .ok (.iconst 1, 1) := by decide +kernel
theorem dX2_score_87 : decode cX2_score 87 = .ok (.invokevirtual 61, 3) := by decide +kernel
theorem dX2_score_90 : decode cX2_score 90 = .ok (.if_icmp .gt 7, 3) := by decide +kernel
theorem dX2_score_93 : decode cX2_score 93 = .ok (.iconst 1, 1) := by decide +kernel
theorem dX2_score_94 : decode cX2_score 94 = .ok (.goto 4, 3) := by decide +kernel
theorem dX2_score_97 : decode cX2_score 97 = .ok (.iconst 0, 1) := by decide +kernel
theorem dX2_score_98 : decode cX2_score 98 = .ok (.istore 6, 2) := by decide +kernel
theorem dX2_score_100 : decode cX2_score 100 = .ok (.iload 6, 2) := by decide +kernel
theorem dX2_score_102 : decode cX2_score 102 = .ok (.ifCond .eq 13, 3) := by decide +kernel
theorem dX2_score_105 : decode cX2_score 105 = .ok (.iload_n 2, 1) := by decide +kernel
theorem dX2_score_106 : decode cX2_score 106 = .ok (.aload_n 1, 1) := by decide +kernel
theorem dX2_score_107 : decode cX2_score 107 = .ok (.iconst 3, 1) := by decide +kernel
theorem dX2_score_108 : decode cX2_score 108 = .ok (.iload_n 3, 1) := by decide +kernel
theorem dX2_score_109 : decode cX2_score 109 = .ok (.iconst 2, 1) := by decide +kernel
theorem dX2_score_110 : decode cX2_score 110 = .ok (.invokevirtual 61, 3) := by decide +kernel
theorem dX2_score_113 : decode cX2_score 113 = .ok (.iadd, 1) := by decide +kernel
theorem dX2_score_114 : decode cX2_score 114 = .ok (.istore_n 2, 1) := by decide +kernel
theorem dX2_score_115 : decode cX2_score 115 = .ok (.iinc 3 1, 3) := by decide +kernel
theorem dX2_score_118 : decode cX2_score 118 = .ok (.goto (-110), 3) := by decide +kernel
theorem dX2_score_121 : decode cX2_score 121 = .ok (.iload_n 2, 1) := by decide +kernel
theorem dX2_score_122 : decode cX2_score 122 = .ok (.ireturn, 1) := by decide +kernel
set_option maxRecDepth 20000 in
theorem ggX9_told_X8_count : GoodIn wsX9_told wsX8_count := goodIn_r _ [18, 19, 83, 84, 85, 86, 87] rfl (by decide +kernel)
set_option maxRecDepth 20000 in
theorem gX9_told_X8_count : GoodIn wsX9_told (wsV RX9 115 RX8 yX8_count wsX8_count) := goodIn_app (goodIn_of _ (by decide +kernel)) ggX9_told_X8_count
set_option maxRecDepth 20000 in
theorem ggX9_told_X2_score : GoodIn wsX9_told wsX2_score := goodIn_r _ [24, 25, 26, 27, 28, 29, 30, 31, 32, 33, 15, 16, 17, 18, 19, 34, 35, 36, 37, 38, 39, 40, 41, 42, 61, 62, 63, 64, 65, 66, 67, 68, 69, 70, 83, 84, 85, 86, 87] rfl (by decide +kernel)
set_option maxRecDepth 20000 in
theorem gX9_told_X2_score : GoodIn wsX9_told (wsV RX9 139 RX2 yX2_score wsX2_score) := goodIn_app (goodIn_of _ (by decide +kernel)) ggX9_told_X2_score
theorem dX9_told_0 : decode cX9_told 0 = .ok (.iload_n 1, 1) := by decide +kernel
theorem dX9_told_1 : decode cX9_told 1 = .ok (.tableswitch 162 0 10 #[59, 68, 77, 86, 94, 102, 118, 126, 134, 142, 150], 59) := by decide +kernel
theorem dX9_told_60 : decode cX9_told 60 = .ok (.aload_n 0, 1) := by decide +kernel
theorem dX9_told_61 : decode cX9_told 61 = .ok (.getfield 41, 3) := by decide +kernel
theorem dX9_told_64 : decode cX9_told 64 = .ok (.iconst 0, 1) := by decide +kernel
theorem dX9_told_65 : decode cX9_told 65 = .ok (.invokevirtual 115, 3) := by decide +kernel
theorem dX9_told_68 : decode cX9_told 68 = .ok (.ireturn, 1) := by decide +kernel
theorem dX9_told_69 : decode cX9_told 69 = .ok (.aload_n 0, 1) := by decide +kernel
theorem dX9_told_70 : decode cX9_told 70 = .ok (.getfield 41, 3) := by decide +kernel
theorem dX9_told_73 : decode cX9_told 73 = .ok (.iconst 1, 1) := by decide +kernel
theorem dX9_told_74 : decode cX9_told 74 = .ok (.invokevirtual 115, 3) := by decide +kernel
theorem dX9_told_77 : decode cX9_told 77 = .ok (.ireturn, 1) := by decide +kernel
theorem dX9_told_78 : decode cX9_told 78 = .ok (.aload_n 0, 1) := by decide +kernel
theorem dX9_told_79 : decode cX9_told 79 = .ok (.getfield 41, 3) := by decide +kernel
theorem dX9_told_82 : decode cX9_told 82 = .ok (.iconst 3, 1) := by decide +kernel
theorem dX9_told_83 : decode cX9_told 83 = .ok (.invokevirtual 115, 3) := by decide +kernel
theorem dX9_told_86 : decode cX9_told 86 = .ok (.ireturn, 1) := by decide +kernel
theorem dX9_told_87 : decode cX9_told 87 = .ok (.aload_n 0, 1) := by decide +kernel
theorem dX9_told_88 : decode cX9_told 88 = .ok (.getfield 51, 3) := by decide +kernel
theorem dX9_told_91 : decode cX9_told 91 = .ok (.getfield 124, 3) := by decide +kernel
theorem dX9_told_94 : decode cX9_told 94 = .ok (.ireturn, 1) := by decide +kernel
theorem dX9_told_95 : decode cX9_told 95 = .ok (.aload_n 0, 1) := by decide +kernel
theorem dX9_told_96 : decode cX9_told 96 = .ok (.getfield 51, 3) := by decide +kernel
theorem dX9_told_99 : decode cX9_told 99 = .ok (.getfield 127, 3) := by decide +kernel
theorem dX9_told_102 : decode cX9_told 102 = .ok (.ireturn, 1) := by decide +kernel
theorem dX9_told_103 : decode cX9_told 103 = .ok (.aload_n 0, 1) := by decide +kernel
theorem dX9_told_104 : decode cX9_told 104 = .ok (.getfield 51, 3) := by decide +kernel
theorem dX9_told_107 : decode cX9_told 107 = .ok (.getfield 130, 3) := by decide +kernel
theorem dX9_told_110 : decode cX9_told 110 = .ok (.ifCond .eq 7, 3) := by decide +kernel
theorem dX9_told_113 : decode cX9_told 113 = .ok (.iconst 1, 1) := by decide +kernel
theorem dX9_told_114 : decode cX9_told 114 = .ok (.goto 4, 3) := by decide +kernel
theorem dX9_told_117 : decode cX9_told 117 = .ok (.iconst 0, 1) := by decide +kernel
theorem dX9_told_118 : decode cX9_told 118 = .ok (.ireturn, 1) := by decide +kernel
theorem dX9_told_119 : decode cX9_told 119 = .ok (.aload_n 0, 1) := by decide +kernel
theorem dX9_told_120 : decode cX9_told 120 = .ok (.getfield 19, 3) := by decide +kernel
theorem dX9_told_123 : decode cX9_told 123 = .ok (.getfield 133, 3) := by decide +kernel
theorem dX9_told_126 : decode cX9_told 126 = .ok (.ireturn, 1) := by decide +kernel
theorem dX9_told_127 : decode cX9_told 127 = .ok (.aload_n 0, 1) := by decide +kernel
theorem dX9_told_128 : decode cX9_told 128 = .ok (.getfield 19, 3) := by decide +kernel
theorem dX9_told_131 : decode cX9_told 131 = .ok (.getfield 136, 3) := by decide +kernel
theorem dX9_told_134 : decode cX9_told 134 = .ok (.ireturn, 1) := by decide +kernel
theorem dX9_told_135 : decode cX9_told 135 = .ok (.aload_n 0, 1) := by decide +kernel
theorem dX9_told_136 : decode cX9_told 136 = .ok (.getfield 10, 3) := by decide +kernel
theorem dX9_told_139 : decode cX9_told 139 = .ok (.getfield 88, 3) := by decide +kernel
theorem dX9_told_142 : decode cX9_told 142 = .ok (.ireturn, 1) := by decide +kernel
theorem dX9_told_143 : decode cX9_told 143 = .ok (.aload_n 0, 1) := by decide +kernel
theorem dX9_told_144 : decode cX9_told 144 = .ok (.getfield 34, 3) := by decide +kernel
theorem dX9_told_147 : decode cX9_told 147 = .ok (.getfield 114, 3) := by decide +kernel
theorem dX9_told_150 : decode cX9_told 150 = .ok (.ireturn, 1) := by decide +kernel
theorem dX9_told_151 : decode cX9_told 151 = .ok (.aload_n 0, 1) := by decide +kernel
theorem dX9_told_152 : decode cX9_told 152 = .ok (.getfield 19, 3) := by decide +kernel
theorem dX9_told_155 : decode cX9_told 155 = .ok (.aload_n 0, 1) := by decide +kernel
theorem dX9_told_156 : decode cX9_told 156 = .ok (.getfield 41, 3) := by decide +kernel
theorem dX9_told_159 : decode cX9_told 159 = .ok (.invokevirtual 139, 3) := by decide +kernel
theorem dX9_told_162 : decode cX9_told 162 = .ok (.ireturn, 1) := by decide +kernel
theorem dX9_told_163 : decode cX9_told 163 = .ok (.ldc 87, 2) := by decide +kernel
theorem dX9_told_165 : decode cX9_told 165 = .ok (.ireturn, 1) := by decide +kernel
def noA (a b : Int32) : Int32 := if a < 0 then (-1000000002) else if 4 ≤ a then (-1000000002) else if b < 0 then (-1000000002) else if b ≤ 999 then 0 else (-1000000002)
def toA (w : Int32) : Int32 := if w.toInt < 0 ∨ 10 < w.toInt then (-1000000002) else if w = 3 then 7 else if w = 4 then 4 else if w = 5 then 1 else 0
def seA (v : Int32) : Int32 := if v < 0 then (-1000000002) else 0
def fdA (n : Int32) : Int32 := if n < 1 then (-1000000002) else if n ≤ 8 then n else (-1000000002)
def ruA (n : Int32) : Int32 := if n < 1 then (-1000000002) else if n ≤ 100 then 0 else (-1000000002)
def keA (i : Int32) : Int32 := if i < 0 then (-1000000001) else if i < 2 then 1 else (-1000000001)
def gbA (i : Int32) : Int32 := if i < 0 then (-1000000001) else if i < 2 then (-1000000003) else (-1000000001)
def tgA (w : Int32) : Int32 := if w = 0 then 0 else (-1000000002)
theorem in_cmp {i : Int32} {N : Nat} (h0 : ¬ i < 0) (h1 : i < nI N) (hN : N < 2 ^ 31) : vp_in i N := by
  obtain ⟨j, hj, rfl⟩ := nI_of h0
  exact vp_in_nI ((nI_ltI hj hN).mp h1) hN
theorem in_cmp2 {i : Int32} {N : Nat} (h0 : ¬ i < 0) (h1 : ¬ nI N ≤ i) (hN : N < 2 ^ 31) : vp_in i N := in_cmp h0 (Int32.not_le.mp h1) hN
theorem in_noise {a b : Int32} (h1 : ¬ a < 0) (h2 : ¬ 4 ≤ a) (h3 : ¬ b < 0) (h4 : ¬ 100 ≤ b) : vp_in (a * 100 + b) 400 := by
  obtain ⟨x, hx, rfl⟩ := nI_of h1
  obtain ⟨y, hy, rfl⟩ := nI_of h3
  have hx4 : x < 4 := Nat.not_le.mp (fun q => h2 (nI_le (a := 4) q hx))
  have hy4 : y < 100 := Nat.not_le.mp (fun q => h4 (nI_le (a := 100) q hy))
  have e : nI x * 100 + nI y = nI (x * 100 + y) := by
    rw [← nI_add, ← pk_mul]; rfl
  rw [e]
  exact vp_in_nI (by omega) (by omega)
theorem two_of {i : Int32} (h0 : ¬ i < 0) (h1 : i < 2) : i = 0 ∨ i = 1 := by
  obtain ⟨j, hj, rfl⟩ := nI_of h0
  have : j < 2 := (nI_ltI (b := 2) hj (by decide)).mp h1
  rcases (show j = 0 ∨ j = 1 by omega) with rfl | rfl
  · exact Or.inl rfl
  · exact Or.inr rfl
theorem nat_of {n : Int32} {lo hi : Nat} (h0 : ¬ n < nI lo) (h1 : n ≤ nI hi) (hh : hi < 2 ^ 31) (hl : lo < 2 ^ 31) : ∃ j : Nat, lo ≤ j ∧ j ≤ hi ∧ n = nI j := by
  have hle : nI lo ≤ n := Int32.not_lt.mp h0
  have hn0 : ¬ n < 0 := fun q => Int32.lt_irrefl (Int32.lt_of_le_of_lt (Int32.le_trans (nI_pos' hl) hle) q)
  obtain ⟨j, hj, rfl⟩ := nI_of hn0
  exact ⟨j, (nI_leI hl hj).mp hle, (nI_leI hj hh).mp h1, rfl⟩
theorem dn_neg {c : Nat} (hc : c < 2 ^ 31) (h : nI c + (-1) < 0) : c = 0 := by
  rcases c with _ | c
  · rfl
  · rw [pk_m1] at h
    exact absurd h (nI_pos (by omega))
theorem dn_pos {c : Nat} (h : ¬ nI c + (-1) < 0) : ∃ d : Nat, c = d + 1 := by
  rcases c with _ | c
  · exact absurd (by decide) h
  · exact ⟨c, rfl⟩

abbrev c_X9_house (k : Nat → ClassId) (x : Nat) (xt : Nat) (xc : Nat) (xi : Nat) (xk : Nat) (xb : Nat) (xr : Nat) (xp : Nat) (xo : Nat) (xl : Nat) (xm : Nat) (xw : Nat) (xv : Nat) (fb : Int32) (lt : Nat) (ltn : Nat) (ltl : Nat) (ltc : Nat) (lta : Nat) (w0 : Int32) (w1 : Int32) : va_W := [(x, .inr (9, [.ref xt, .ref xc, .ref xi, .ref xk, .ref xb, .ref xr, .ref xp, .ref xo, .ref xl, .ref xm, .ref xw, .ref xv, .int fb])), (xl, .inr (8, [.ref lt, .ref ltn, .ref ltl, .ref ltc, .ref lta])), (lt, .inl (k 0, 4, .inl (fun _ => 0)))]
abbrev r_X9_house : Room := { frames := 1, cells := 0, slots := 0, locals := 22 }
abbrev q_X9_house (k : Nat → ClassId) (x : Nat) (xt : Nat) (xc : Nat) (xi : Nat) (xk : Nat) (xb : Nat) (xr : Nat) (xp : Nat) (xo : Nat) (xl : Nat) (xm : Nat) (xw : Nat) (xv : Nat) (fb : Int32) (lt : Nat) (ltn : Nat) (ltl : Nat) (ltc : Nat) (lta : Nat) (w0 : Int32) (w1 : Int32) : Array Value → State → Outcome → State → Prop := vp_Si (fun r => r = (-1000000001))
set_option maxHeartbeats 2000000 in
set_option maxRecDepth 100000 in
theorem X9_house (l : Launch) (D : va_G) (k : Nat → ClassId) (x : Nat) (xt : Nat) (xc : Nat) (xi : Nat) (xk : Nat) (xb : Nat) (xr : Nat) (xp : Nat) (xo : Nat) (xl : Nat) (xm : Nat) (xw : Nat) (xv : Nat) (fb : Int32) (lt : Nat) (ltn : Nat) (ltl : Nat) (ltc : Nat) (lta : Nat) (w0 : Int32) (w1 : Int32)  : Met l yX9_house wsX9_house r_X9_house (va_Pc [.ref x, .int w0, .int w1] (PS D k (c_X9_house k x xt xc xi xk xb xr xp xo xl xm xw xv fb lt ltn ltl ltc lta w0 w1))) (q_X9_house k x xt xc xi xk xb xr xp xo xl xm xw xv fb lt ltn ltl ltc lta w0 w1) 0 0 (fun _ => False) := by
  refine Met.ofW (cc := cX9_house) (maxL := 3) (ret := (some .int)) (by decide) rfl ?_
  intro p e s m args below meth c s₁ B hml hv
  obtain ⟨rfl, hP, hG⟩ := hv
  have hx := B.exec
  have hb := B.bytes
  have hr := B.returns
  have hts := atoms_spec (ws := wsX9_house) B.pre
  have hown : s.vm.findClass RX9 = some m.cls := findClass_of_methodNamed B.named
  have hlocks := B.notSynchronized
  have hi9 : ∀ w ∈ wsX90, w ∈ wsX9_house := fun _ h => List.mem_cons_of_mem _ (List.mem_append_left _ (List.mem_append_left _ (List.mem_append_right _ h)))
  have hi8 : ∀ w ∈ wsX80, w ∈ wsX9_house := fun _ h => List.mem_cons_of_mem _ (List.mem_append_left _ (List.mem_append_right _ h))
  have hi2 : ∀ w ∈ wsX20, w ∈ wsX9_house := fun _ h => List.mem_cons_of_mem _ (List.mem_append_right _ h)
  have hP : va_P D vwCl [(x, .inr (9, [.ref xt, .ref xc, .ref xi, .ref xk, .ref xb, .ref xr, .ref xp, .ref xo, .ref xl, .ref xm, .ref xw, .ref xv, .int fb])), (xl, .inr (8, [.ref lt, .ref ltn, .ref ltl, .ref ltc, .ref lta])), (lt, .inl (k 0, 4, .inl (fun _ => 0)))] s.heap := hP
  have hl := lv_entry ([.ref x, .int w0, .int w1]) (n := 3) (Nat.le_of_ble_eq_true rfl)
  rw [lg_entry_eq]
  generalize (lg_sl ([.ref x, .int w0, .int w1]) ++ List.replicate (3 - (lg_sl ([.ref x, .int w0, .int w1])).length) Slot.unset).toArray = ls at hl ⊢
  have hl : lv_has ls 3 [(0, .ref x), (1, .int w0), (2, .int w1)] := hl
  refine lv_aload_n hx hb dX9_house_0 rfl (lv_at hl 0 rfl) ?_
  refine va_get (D := D) (ci := 9) (v := .ref xl) (C := RX9) (T := TX9) (N := 13) hx hb hts hi9 hown hG.1 hP 0 rfl rfl 8 (by decide) (hts (.fieldLink RX9 41 "SleptMatters" "place" "LSleptMatters$Town;") (List.mem_cons_of_mem _ (List.mem_append_left _ (List.mem_append_left _ (List.mem_append_left _ (List.mem_of_getElem? (i := 0) rfl)))))) (fun _ h9 => h9) rfl dX9_house_1 ?_
  refine lv_iconst (v := 0) hx hb dX9_house_4 (by decide) ?_
  refine lv_iload_n hx hb dX9_house_5 rfl (lv_at hl 1 rfl) ?_
  have hPc := hP.sub (ws' := (c_X8_has k xl lt ltn ltl ltc lta (fun _ => 0) 0 w0)) [1, 2] rfl
  refine vp_callSi (va_Run.run (va_runV (As := [.int 0, .int w0]) (rest := []) ⟨hx, hb, hml, hown, hts⟩ (X8_has l D k xl lt ltn ltl ltc lta (fun _ => 0) 0 w0 (by decide) (rfl)) (cwV 2 hts gX9_house_X8_has rfl rfl rfl (by decide +kernel) ⟨Nat.le_of_ble_eq_true rfl, Nat.le_of_ble_eq_true rfl⟩) ⟨PS.blind _ _ _ _, va_recv hG.1 hP (ci := 8) (q0 := 1) rfl rfl, PS.pre hPc hG [.ref xl, .int 0, .int w0]⟩ rfl rfl hl.1 rfl (lv_room (Nat.le_of_ble_eq_true rfl)) dX9_house_6 ⟨Nat.le_of_ble_eq_true rfl, Nat.le_of_ble_eq_true rfl⟩)) (fun r hq => ?_)
  generalize r = y1 at hq ⊢
  have hq : y1 = 0 := hq
  refine tp_i (y := 0) (hq) ?_
  refine lv_if_ne (x := 0) (tgt := 15) hx hb dX9_house_9 (by decide) (fun c2 => absurd c2 (by decide)) (fun c2 => ?_)
  refine lv_ldc (v := (-1000000001)) hx hb hown (hts (.constant RX9 147 (-1000000001)) (List.mem_cons_of_mem _ (List.mem_append_left _ (List.mem_append_left _ (List.mem_append_left _ (List.mem_of_getElem? (i := 1) rfl)))))) dX9_house_12 ?_
  exact W.iret (v := (-1000000001)) hx hb hr (fun t9 ht _ => ⟨(-1000000001), rfl, rfl, ht⟩) (fun q h => by cases h) dX9_house_14

abbrev c_X9_sleeper (k : Nat → ClassId) (x : Nat) (xt : Nat) (xc : Nat) (xi : Nat) (xk : Nat) (xb : Nat) (xr : Nat) (xp : Nat) (xo : Nat) (xl : Nat) (xm : Nat) (xw : Nat) (xv : Nat) (fb : Int32) (lt : Nat) (ltn : Nat) (ltl : Nat) (ltc : Nat) (lta : Nat) (w0 : Int32) (w1 : Int32) : va_W := [(x, .inr (9, [.ref xt, .ref xc, .ref xi, .ref xk, .ref xb, .ref xr, .ref xp, .ref xo, .ref xl, .ref xm, .ref xw, .ref xv, .int fb])), (xl, .inr (8, [.ref lt, .ref ltn, .ref ltl, .ref ltc, .ref lta])), (lt, .inl (k 0, 4, .inl (fun _ => 0)))]
abbrev r_X9_sleeper : Room := { frames := 1, cells := 0, slots := 0, locals := 22 }
abbrev q_X9_sleeper (k : Nat → ClassId) (x : Nat) (xt : Nat) (xc : Nat) (xi : Nat) (xk : Nat) (xb : Nat) (xr : Nat) (xp : Nat) (xo : Nat) (xl : Nat) (xm : Nat) (xw : Nat) (xv : Nat) (fb : Int32) (lt : Nat) (ltn : Nat) (ltl : Nat) (ltc : Nat) (lta : Nat) (w0 : Int32) (w1 : Int32) : Array Value → State → Outcome → State → Prop := vp_Si (fun r => r = (-1000000001))
set_option maxHeartbeats 2000000 in
set_option maxRecDepth 100000 in
theorem X9_sleeper (l : Launch) (D : va_G) (k : Nat → ClassId) (x : Nat) (xt : Nat) (xc : Nat) (xi : Nat) (xk : Nat) (xb : Nat) (xr : Nat) (xp : Nat) (xo : Nat) (xl : Nat) (xm : Nat) (xw : Nat) (xv : Nat) (fb : Int32) (lt : Nat) (ltn : Nat) (ltl : Nat) (ltc : Nat) (lta : Nat) (w0 : Int32) (w1 : Int32)  : Met l yX9_sleeper wsX9_sleeper r_X9_sleeper (va_Pc [.ref x, .int w0, .int w1] (PS D k (c_X9_sleeper k x xt xc xi xk xb xr xp xo xl xm xw xv fb lt ltn ltl ltc lta w0 w1))) (q_X9_sleeper k x xt xc xi xk xb xr xp xo xl xm xw xv fb lt ltn ltl ltc lta w0 w1) 0 0 (fun _ => False) := by
  refine Met.ofW (cc := cX9_sleeper) (maxL := 3) (ret := (some .int)) (by decide) rfl ?_
  intro p e s m args below meth c s₁ B hml hv
  obtain ⟨rfl, hP, hG⟩ := hv
  have hx := B.exec
  have hb := B.bytes
  have hr := B.returns
  have hts := atoms_spec (ws := wsX9_sleeper) B.pre
  have hown : s.vm.findClass RX9 = some m.cls := findClass_of_methodNamed B.named
  have hlocks := B.notSynchronized
  have hi9 : ∀ w ∈ wsX90, w ∈ wsX9_sleeper := fun _ h => List.mem_cons_of_mem _ (List.mem_append_left _ (List.mem_append_left _ (List.mem_append_right _ h)))
  have hi8 : ∀ w ∈ wsX80, w ∈ wsX9_sleeper := fun _ h => List.mem_cons_of_mem _ (List.mem_append_left _ (List.mem_append_right _ h))
  have hi2 : ∀ w ∈ wsX20, w ∈ wsX9_sleeper := fun _ h => List.mem_cons_of_mem _ (List.mem_append_right _ h)
  have hP : va_P D vwCl [(x, .inr (9, [.ref xt, .ref xc, .ref xi, .ref xk, .ref xb, .ref xr, .ref xp, .ref xo, .ref xl, .ref xm, .ref xw, .ref xv, .int fb])), (xl, .inr (8, [.ref lt, .ref ltn, .ref ltl, .ref ltc, .ref lta])), (lt, .inl (k 0, 4, .inl (fun _ => 0)))] s.heap := hP
  have hl := lv_entry ([.ref x, .int w0, .int w1]) (n := 3) (Nat.le_of_ble_eq_true rfl)
  rw [lg_entry_eq]
  generalize (lg_sl ([.ref x, .int w0, .int w1]) ++ List.replicate (3 - (lg_sl ([.ref x, .int w0, .int w1])).length) Slot.unset).toArray = ls at hl ⊢
  have hl : lv_has ls 3 [(0, .ref x), (1, .int w0), (2, .int w1)] := hl
  refine lv_aload_n hx hb dX9_sleeper_0 rfl (lv_at hl 0 rfl) ?_
  refine va_get (D := D) (ci := 9) (v := .ref xl) (C := RX9) (T := TX9) (N := 13) hx hb hts hi9 hown hG.1 hP 0 rfl rfl 8 (by decide) (hts (.fieldLink RX9 41 "SleptMatters" "place" "LSleptMatters$Town;") (List.mem_cons_of_mem _ (List.mem_append_left _ (List.mem_append_left _ (List.mem_append_left _ (List.mem_of_getElem? (i := 0) rfl)))))) (fun _ h9 => h9) rfl dX9_sleeper_1 ?_
  refine lv_iconst (v := 1) hx hb dX9_sleeper_4 (by decide) ?_
  refine lv_iload_n hx hb dX9_sleeper_5 rfl (lv_at hl 1 rfl) ?_
  have hPc := hP.sub (ws' := (c_X8_has k xl lt ltn ltl ltc lta (fun _ => 0) 1 w0)) [1, 2] rfl
  refine vp_callSi (va_Run.run (va_runV (As := [.int 1, .int w0]) (rest := []) ⟨hx, hb, hml, hown, hts⟩ (X8_has l D k xl lt ltn ltl ltc lta (fun _ => 0) 1 w0 (by decide) (rfl)) (cwV 2 hts gX9_sleeper_X8_has rfl rfl rfl (by decide +kernel) ⟨Nat.le_of_ble_eq_true rfl, Nat.le_of_ble_eq_true rfl⟩) ⟨PS.blind _ _ _ _, va_recv hG.1 hP (ci := 8) (q0 := 1) rfl rfl, PS.pre hPc hG [.ref xl, .int 1, .int w0]⟩ rfl rfl hl.1 rfl (lv_room (Nat.le_of_ble_eq_true rfl)) dX9_sleeper_6 ⟨Nat.le_of_ble_eq_true rfl, Nat.le_of_ble_eq_true rfl⟩)) (fun r hq => ?_)
  generalize r = y1 at hq ⊢
  have hq : y1 = 0 := hq
  refine tp_i (y := 0) (hq) ?_
  refine lv_if_ne (x := 0) (tgt := 15) hx hb dX9_sleeper_9 (by decide) (fun c2 => absurd c2 (by decide)) (fun c2 => ?_)
  refine lv_ldc (v := (-1000000001)) hx hb hown (hts (.constant RX9 147 (-1000000001)) (List.mem_cons_of_mem _ (List.mem_append_left _ (List.mem_append_left _ (List.mem_append_left _ (List.mem_of_getElem? (i := 1) rfl)))))) dX9_sleeper_12 ?_
  exact W.iret (v := (-1000000001)) hx hb hr (fun t9 ht _ => ⟨(-1000000001), rfl, rfl, ht⟩) (fun q h => by cases h) dX9_sleeper_14

abbrev c_X9_matter (k : Nat → ClassId) (x : Nat) (xt : Nat) (xc : Nat) (xi : Nat) (xk : Nat) (xb : Nat) (xr : Nat) (xp : Nat) (xo : Nat) (xl : Nat) (xm : Nat) (xw : Nat) (xv : Nat) (fb : Int32) (lt : Nat) (ltn : Nat) (ltl : Nat) (ltc : Nat) (lta : Nat) (w0 : Int32) (w1 : Int32) : va_W := [(x, .inr (9, [.ref xt, .ref xc, .ref xi, .ref xk, .ref xb, .ref xr, .ref xp, .ref xo, .ref xl, .ref xm, .ref xw, .ref xv, .int fb])), (xl, .inr (8, [.ref lt, .ref ltn, .ref ltl, .ref ltc, .ref lta])), (lt, .inl (k 0, 4, .inl (fun _ => 0)))]
abbrev r_X9_matter : Room := { frames := 1, cells := 0, slots := 0, locals := 22 }
abbrev q_X9_matter (k : Nat → ClassId) (x : Nat) (xt : Nat) (xc : Nat) (xi : Nat) (xk : Nat) (xb : Nat) (xr : Nat) (xp : Nat) (xo : Nat) (xl : Nat) (xm : Nat) (xw : Nat) (xv : Nat) (fb : Int32) (lt : Nat) (ltn : Nat) (ltl : Nat) (ltc : Nat) (lta : Nat) (w0 : Int32) (w1 : Int32) : Array Value → State → Outcome → State → Prop := vp_Si (fun r => r = (-1000000001))
set_option maxHeartbeats 2000000 in
set_option maxRecDepth 100000 in
theorem X9_matter (l : Launch) (D : va_G) (k : Nat → ClassId) (x : Nat) (xt : Nat) (xc : Nat) (xi : Nat) (xk : Nat) (xb : Nat) (xr : Nat) (xp : Nat) (xo : Nat) (xl : Nat) (xm : Nat) (xw : Nat) (xv : Nat) (fb : Int32) (lt : Nat) (ltn : Nat) (ltl : Nat) (ltc : Nat) (lta : Nat) (w0 : Int32) (w1 : Int32)  : Met l yX9_matter wsX9_matter r_X9_matter (va_Pc [.ref x, .int w0, .int w1] (PS D k (c_X9_matter k x xt xc xi xk xb xr xp xo xl xm xw xv fb lt ltn ltl ltc lta w0 w1))) (q_X9_matter k x xt xc xi xk xb xr xp xo xl xm xw xv fb lt ltn ltl ltc lta w0 w1) 0 0 (fun _ => False) := by
  refine Met.ofW (cc := cX9_matter) (maxL := 3) (ret := (some .int)) (by decide) rfl ?_
  intro p e s m args below meth c s₁ B hml hv
  obtain ⟨rfl, hP, hG⟩ := hv
  have hx := B.exec
  have hb := B.bytes
  have hr := B.returns
  have hts := atoms_spec (ws := wsX9_matter) B.pre
  have hown : s.vm.findClass RX9 = some m.cls := findClass_of_methodNamed B.named
  have hlocks := B.notSynchronized
  have hi9 : ∀ w ∈ wsX90, w ∈ wsX9_matter := fun _ h => List.mem_cons_of_mem _ (List.mem_append_left _ (List.mem_append_left _ (List.mem_append_right _ h)))
  have hi2 : ∀ w ∈ wsX20, w ∈ wsX9_matter := fun _ h => List.mem_cons_of_mem _ (List.mem_append_left _ (List.mem_append_right _ h))
  have hi8 : ∀ w ∈ wsX80, w ∈ wsX9_matter := fun _ h => List.mem_cons_of_mem _ (List.mem_append_right _ h)
  have hP : va_P D vwCl [(x, .inr (9, [.ref xt, .ref xc, .ref xi, .ref xk, .ref xb, .ref xr, .ref xp, .ref xo, .ref xl, .ref xm, .ref xw, .ref xv, .int fb])), (xl, .inr (8, [.ref lt, .ref ltn, .ref ltl, .ref ltc, .ref lta])), (lt, .inl (k 0, 4, .inl (fun _ => 0)))] s.heap := hP
  have hl := lv_entry ([.ref x, .int w0, .int w1]) (n := 3) (Nat.le_of_ble_eq_true rfl)
  rw [lg_entry_eq]
  generalize (lg_sl ([.ref x, .int w0, .int w1]) ++ List.replicate (3 - (lg_sl ([.ref x, .int w0, .int w1])).length) Slot.unset).toArray = ls at hl ⊢
  have hl : lv_has ls 3 [(0, .ref x), (1, .int w0), (2, .int w1)] := hl
  refine lv_aload_n hx hb dX9_matter_0 rfl (lv_at hl 0 rfl) ?_
  refine va_get (D := D) (ci := 9) (v := .ref xl) (C := RX9) (T := TX9) (N := 13) hx hb hts hi9 hown hG.1 hP 0 rfl rfl 8 (by decide) (hts (.fieldLink RX9 41 "SleptMatters" "place" "LSleptMatters$Town;") (List.mem_cons_of_mem _ (List.mem_append_left _ (List.mem_append_left _ (List.mem_append_left _ (List.mem_append_left _ (List.mem_of_getElem? (i := 0) rfl))))))) (fun _ h9 => h9) rfl dX9_matter_1 ?_
  refine lv_iconst (v := 3) hx hb dX9_matter_4 (by decide) ?_
  refine lv_iload_n hx hb dX9_matter_5 rfl (lv_at hl 1 rfl) ?_
  have hPc := hP.sub (ws' := (c_X8_has k xl lt ltn ltl ltc lta (fun _ => 0) 3 w0)) [1, 2] rfl
  refine vp_callSi (va_Run.run (va_runV (As := [.int 3, .int w0]) (rest := []) ⟨hx, hb, hml, hown, hts⟩ (X8_has l D k xl lt ltn ltl ltc lta (fun _ => 0) 3 w0 (by decide) (rfl)) (cwV 2 hts gX9_matter_X8_has rfl rfl rfl (by decide +kernel) ⟨Nat.le_of_ble_eq_true rfl, Nat.le_of_ble_eq_true rfl⟩) ⟨PS.blind _ _ _ _, va_recv hG.1 hP (ci := 8) (q0 := 1) rfl rfl, PS.pre hPc hG [.ref xl, .int 3, .int w0]⟩ rfl rfl hl.1 rfl (lv_room (Nat.le_of_ble_eq_true rfl)) dX9_matter_6 ⟨Nat.le_of_ble_eq_true rfl, Nat.le_of_ble_eq_true rfl⟩)) (fun r hq => ?_)
  generalize r = y1 at hq ⊢
  have hq : y1 = 0 := hq
  refine tp_i (y := 0) (hq) ?_
  refine lv_if_ne (x := 0) (tgt := 15) hx hb dX9_matter_9 (by decide) (fun c2 => absurd c2 (by decide)) (fun c2 => ?_)
  refine lv_ldc (v := (-1000000001)) hx hb hown (hts (.constant RX9 147 (-1000000001)) (List.mem_cons_of_mem _ (List.mem_append_left _ (List.mem_append_left _ (List.mem_append_left _ (List.mem_append_left _ (List.mem_of_getElem? (i := 1) rfl))))))) dX9_matter_12 ?_
  exact W.iret (v := (-1000000001)) hx hb hr (fun t9 ht _ => ⟨(-1000000001), rfl, rfl, ht⟩) (fun q h => by cases h) dX9_matter_14

abbrev c_X9_lay (k : Nat → ClassId) (x : Nat) (xt : Nat) (xc : Nat) (xi : Nat) (xk : Nat) (xb : Nat) (xr : Nat) (xp : Nat) (xo : Nat) (xl : Nat) (xm : Nat) (xw : Nat) (xv : Nat) (fb : Int32) (lt : Nat) (ltn : Nat) (ltl : Nat) (ltc : Nat) (lta : Nat) (w0 : Int32) (w1 : Int32) (w2 : Int32) : va_W := [(x, .inr (9, [.ref xt, .ref xc, .ref xi, .ref xk, .ref xb, .ref xr, .ref xp, .ref xo, .ref xl, .ref xm, .ref xw, .ref xv, .int fb])), (xl, .inr (8, [.ref lt, .ref ltn, .ref ltl, .ref ltc, .ref lta])), (lt, .inl (k 0, 4, .inl (fun _ => 0)))]
abbrev r_X9_lay : Room := { frames := 1, cells := 0, slots := 0, locals := 22 }
abbrev q_X9_lay (k : Nat → ClassId) (x : Nat) (xt : Nat) (xc : Nat) (xi : Nat) (xk : Nat) (xb : Nat) (xr : Nat) (xp : Nat) (xo : Nat) (xl : Nat) (xm : Nat) (xw : Nat) (xv : Nat) (fb : Int32) (lt : Nat) (ltn : Nat) (ltl : Nat) (ltc : Nat) (lta : Nat) (w0 : Int32) (w1 : Int32) (w2 : Int32) : Array Value → State → Outcome → State → Prop := vp_Si (fun r => r = (-1000000001))
set_option maxHeartbeats 2000000 in
set_option maxRecDepth 100000 in
theorem X9_lay (l : Launch) (D : va_G) (k : Nat → ClassId) (x : Nat) (xt : Nat) (xc : Nat) (xi : Nat) (xk : Nat) (xb : Nat) (xr : Nat) (xp : Nat) (xo : Nat) (xl : Nat) (xm : Nat) (xw : Nat) (xv : Nat) (fb : Int32) (lt : Nat) (ltn : Nat) (ltl : Nat) (ltc : Nat) (lta : Nat) (w0 : Int32) (w1 : Int32) (w2 : Int32)  : Met l yX9_lay wsX9_lay r_X9_lay (va_Pc [.ref x, .int w0, .int w1, .int w2] (PS D k (c_X9_lay k x xt xc xi xk xb xr xp xo xl xm xw xv fb lt ltn ltl ltc lta w0 w1 w2))) (q_X9_lay k x xt xc xi xk xb xr xp xo xl xm xw xv fb lt ltn ltl ltc lta w0 w1 w2) 0 0 (fun _ => False) := by
  refine Met.ofW (cc := cX9_lay) (maxL := 5) (ret := (some .int)) (by decide) rfl ?_
  intro p e s m args below meth c s₁ B hml hv
  obtain ⟨rfl, hP, hG⟩ := hv
  have hx := B.exec
  have hb := B.bytes
  have hr := B.returns
  have hts := atoms_spec (ws := wsX9_lay) B.pre
  have hown : s.vm.findClass RX9 = some m.cls := findClass_of_methodNamed B.named
  have hlocks := B.notSynchronized
  have hi9 : ∀ w ∈ wsX90, w ∈ wsX9_lay := fun _ h => List.mem_cons_of_mem _ (List.mem_append_left _ (List.mem_append_left _ (List.mem_append_right _ h)))
  have hi8 : ∀ w ∈ wsX80, w ∈ wsX9_lay := fun _ h => List.mem_cons_of_mem _ (List.mem_append_left _ (List.mem_append_right _ h))
  have hi2 : ∀ w ∈ wsX20, w ∈ wsX9_lay := fun _ h => List.mem_cons_of_mem _ (List.mem_append_right _ h)
  have hP : va_P D vwCl [(x, .inr (9, [.ref xt, .ref xc, .ref xi, .ref xk, .ref xb, .ref xr, .ref xp, .ref xo, .ref xl, .ref xm, .ref xw, .ref xv, .int fb])), (xl, .inr (8, [.ref lt, .ref ltn, .ref ltl, .ref ltc, .ref lta])), (lt, .inl (k 0, 4, .inl (fun _ => 0)))] s.heap := hP
  have hl := lv_entry ([.ref x, .int w0, .int w1, .int w2]) (n := 5) (Nat.le_of_ble_eq_true rfl)
  rw [lg_entry_eq]
  generalize (lg_sl ([.ref x, .int w0, .int w1, .int w2]) ++ List.replicate (5 - (lg_sl ([.ref x, .int w0, .int w1, .int w2])).length) Slot.unset).toArray = ls at hl ⊢
  have hl : lv_has ls 5 [(0, .ref x), (1, .int w0), (2, .int w1), (3, .int w2)] := hl
  refine lv_aload_n hx hb dX9_lay_0 rfl (lv_at hl 0 rfl) ?_
  refine va_get (D := D) (ci := 9) (v := .ref xl) (C := RX9) (T := TX9) (N := 13) hx hb hts hi9 hown hG.1 hP 0 rfl rfl 8 (by decide) (hts (.fieldLink RX9 41 "SleptMatters" "place" "LSleptMatters$Town;") (List.mem_cons_of_mem _ (List.mem_append_left _ (List.mem_append_left _ (List.mem_append_left _ (List.mem_append_left _ (List.mem_of_getElem? (i := 0) rfl))))))) (fun _ h9 => h9) rfl dX9_lay_1 ?_
  refine lv_iconst (v := 3) hx hb dX9_lay_4 (by decide) ?_
  refine lv_iload_n hx hb dX9_lay_5 rfl (lv_at hl 1 rfl) ?_
  have hPc := hP.sub (ws' := (c_X8_has k xl lt ltn ltl ltc lta (fun _ => 0) 3 w0)) [1, 2] rfl
  refine vp_callSi (va_Run.run (va_runV (As := [.int 3, .int w0]) (rest := []) ⟨hx, hb, hml, hown, hts⟩ (X8_has l D k xl lt ltn ltl ltc lta (fun _ => 0) 3 w0 (by decide) (rfl)) (cwV 2 hts gX9_lay_X8_has rfl rfl rfl (by decide +kernel) ⟨Nat.le_of_ble_eq_true rfl, Nat.le_of_ble_eq_true rfl⟩) ⟨PS.blind _ _ _ _, va_recv hG.1 hP (ci := 8) (q0 := 1) rfl rfl, PS.pre hPc hG [.ref xl, .int 3, .int w0]⟩ rfl rfl hl.1 rfl (lv_room (Nat.le_of_ble_eq_true rfl)) dX9_lay_6 ⟨Nat.le_of_ble_eq_true rfl, Nat.le_of_ble_eq_true rfl⟩)) (fun r hq => ?_)
  generalize r = y1 at hq ⊢
  have hq : y1 = 0 := hq
  refine tp_i (y := 0) (hq) ?_
  refine lv_if_eq (x := 0) (tgt := 36) hx hb dX9_lay_9 (by decide) (fun c2 => ?_) (fun c2 => absurd c2 (by decide))
  refine lv_ldc (v := (-1000000001)) hx hb hown (hts (.constant RX9 147 (-1000000001)) (List.mem_cons_of_mem _ (List.mem_append_left _ (List.mem_append_left _ (List.mem_append_left _ (List.mem_append_left _ (List.mem_of_getElem? (i := 1) rfl))))))) dX9_lay_36 ?_
  exact W.iret (v := (-1000000001)) hx hb hr (fun t9 ht _ => ⟨(-1000000001), rfl, rfl, ht⟩) (fun q h => by cases h) dX9_lay_38

abbrev c_X9_rise (k : Nat → ClassId) (x : Nat) (xt : Nat) (xc : Nat) (xi : Nat) (xk : Nat) (xb : Nat) (xr : Nat) (xp : Nat) (xo : Nat) (xl : Nat) (xm : Nat) (xw : Nat) (xv : Nat) (fb : Int32) (lt : Nat) (ltn : Nat) (ltl : Nat) (ltc : Nat) (lta : Nat) (w0 : Int32) : va_W := [(x, .inr (9, [.ref xt, .ref xc, .ref xi, .ref xk, .ref xb, .ref xr, .ref xp, .ref xo, .ref xl, .ref xm, .ref xw, .ref xv, .int fb])), (xl, .inr (8, [.ref lt, .ref ltn, .ref ltl, .ref ltc, .ref lta])), (lt, .inl (k 0, 4, .inl (fun _ => 0)))]
abbrev r_X9_rise : Room := { frames := 1, cells := 0, slots := 0, locals := 22 }
abbrev q_X9_rise (k : Nat → ClassId) (x : Nat) (xt : Nat) (xc : Nat) (xi : Nat) (xk : Nat) (xb : Nat) (xr : Nat) (xp : Nat) (xo : Nat) (xl : Nat) (xm : Nat) (xw : Nat) (xv : Nat) (fb : Int32) (lt : Nat) (ltn : Nat) (ltl : Nat) (ltc : Nat) (lta : Nat) (w0 : Int32) : Array Value → State → Outcome → State → Prop := vp_Si (fun r => r = (-1000000001))
set_option maxHeartbeats 2000000 in
set_option maxRecDepth 100000 in
theorem X9_rise (l : Launch) (D : va_G) (k : Nat → ClassId) (x : Nat) (xt : Nat) (xc : Nat) (xi : Nat) (xk : Nat) (xb : Nat) (xr : Nat) (xp : Nat) (xo : Nat) (xl : Nat) (xm : Nat) (xw : Nat) (xv : Nat) (fb : Int32) (lt : Nat) (ltn : Nat) (ltl : Nat) (ltc : Nat) (lta : Nat) (w0 : Int32)  : Met l yX9_rise wsX9_rise r_X9_rise (va_Pc [.ref x, .int w0] (PS D k (c_X9_rise k x xt xc xi xk xb xr xp xo xl xm xw xv fb lt ltn ltl ltc lta w0))) (q_X9_rise k x xt xc xi xk xb xr xp xo xl xm xw xv fb lt ltn ltl ltc lta w0) 0 0 (fun _ => False) := by
  refine Met.ofW (cc := cX9_rise) (maxL := 3) (ret := (some .int)) (by decide) rfl ?_
  intro p e s m args below meth c s₁ B hml hv
  obtain ⟨rfl, hP, hG⟩ := hv
  have hx := B.exec
  have hb := B.bytes
  have hr := B.returns
  have hts := atoms_spec (ws := wsX9_rise) B.pre
  have hown : s.vm.findClass RX9 = some m.cls := findClass_of_methodNamed B.named
  have hlocks := B.notSynchronized
  have hi9 : ∀ w ∈ wsX90, w ∈ wsX9_rise := fun _ h => List.mem_cons_of_mem _ (List.mem_append_left _ (List.mem_append_left _ (List.mem_append_right _ h)))
  have hi2 : ∀ w ∈ wsX20, w ∈ wsX9_rise := fun _ h => List.mem_cons_of_mem _ (List.mem_append_left _ (List.mem_append_right _ h))
  have hi8 : ∀ w ∈ wsX80, w ∈ wsX9_rise := fun _ h => List.mem_cons_of_mem _ (List.mem_append_right _ h)
  have hP : va_P D vwCl [(x, .inr (9, [.ref xt, .ref xc, .ref xi, .ref xk, .ref xb, .ref xr, .ref xp, .ref xo, .ref xl, .ref xm, .ref xw, .ref xv, .int fb])), (xl, .inr (8, [.ref lt, .ref ltn, .ref ltl, .ref ltc, .ref lta])), (lt, .inl (k 0, 4, .inl (fun _ => 0)))] s.heap := hP
  have hl := lv_entry ([.ref x, .int w0]) (n := 3) (Nat.le_of_ble_eq_true rfl)
  rw [lg_entry_eq]
  generalize (lg_sl ([.ref x, .int w0]) ++ List.replicate (3 - (lg_sl ([.ref x, .int w0])).length) Slot.unset).toArray = ls at hl ⊢
  have hl : lv_has ls 3 [(0, .ref x), (1, .int w0)] := hl
  refine lv_aload_n hx hb dX9_rise_0 rfl (lv_at hl 0 rfl) ?_
  refine va_get (D := D) (ci := 9) (v := .ref xl) (C := RX9) (T := TX9) (N := 13) hx hb hts hi9 hown hG.1 hP 0 rfl rfl 8 (by decide) (hts (.fieldLink RX9 41 "SleptMatters" "place" "LSleptMatters$Town;") (List.mem_cons_of_mem _ (List.mem_append_left _ (List.mem_append_left _ (List.mem_append_left _ (List.mem_of_getElem? (i := 0) rfl)))))) (fun _ h9 => h9) rfl dX9_rise_1 ?_
  refine lv_iconst (v := 3) hx hb dX9_rise_4 (by decide) ?_
  refine lv_iload_n hx hb dX9_rise_5 rfl (lv_at hl 1 rfl) ?_
  have hPc := hP.sub (ws' := (c_X8_has k xl lt ltn ltl ltc lta (fun _ => 0) 3 w0)) [1, 2] rfl
  refine vp_callSi (va_Run.run (va_runV (As := [.int 3, .int w0]) (rest := []) ⟨hx, hb, hml, hown, hts⟩ (X8_has l D k xl lt ltn ltl ltc lta (fun _ => 0) 3 w0 (by decide) (rfl)) (cwV 2 hts gX9_rise_X8_has rfl rfl rfl (by decide +kernel) ⟨Nat.le_of_ble_eq_true rfl, Nat.le_of_ble_eq_true rfl⟩) ⟨PS.blind _ _ _ _, va_recv hG.1 hP (ci := 8) (q0 := 1) rfl rfl, PS.pre hPc hG [.ref xl, .int 3, .int w0]⟩ rfl rfl hl.1 rfl (lv_room (Nat.le_of_ble_eq_true rfl)) dX9_rise_6 ⟨Nat.le_of_ble_eq_true rfl, Nat.le_of_ble_eq_true rfl⟩)) (fun r hq => ?_)
  generalize r = y1 at hq ⊢
  have hq : y1 = 0 := hq
  refine tp_i (y := 0) (hq) ?_
  refine lv_if_ne (x := 0) (tgt := 15) hx hb dX9_rise_9 (by decide) (fun c2 => absurd c2 (by decide)) (fun c2 => ?_)
  refine lv_ldc (v := (-1000000001)) hx hb hown (hts (.constant RX9 147 (-1000000001)) (List.mem_cons_of_mem _ (List.mem_append_left _ (List.mem_append_left _ (List.mem_append_left _ (List.mem_of_getElem? (i := 1) rfl)))))) dX9_rise_12 ?_
  exact W.iret (v := (-1000000001)) hx hb hr (fun t9 ht _ => ⟨(-1000000001), rfl, rfl, ht⟩) (fun q h => by cases h) dX9_rise_14

abbrev c_X9_soonest (k : Nat → ClassId) (x : Nat) (xt : Nat) (xc : Nat) (xi : Nat) (xk : Nat) (xb : Nat) (xr : Nat) (xp : Nat) (xo : Nat) (xl : Nat) (xm : Nat) (xw : Nat) (xv : Nat) (fb : Int32) (lt : Nat) (ltn : Nat) (ltl : Nat) (ltc : Nat) (lta : Nat) (w0 : Int32) (w1 : Int32) : va_W := [(x, .inr (9, [.ref xt, .ref xc, .ref xi, .ref xk, .ref xb, .ref xr, .ref xp, .ref xo, .ref xl, .ref xm, .ref xw, .ref xv, .int fb])), (xl, .inr (8, [.ref lt, .ref ltn, .ref ltl, .ref ltc, .ref lta])), (lt, .inl (k 0, 4, .inl (fun _ => 0)))]
abbrev r_X9_soonest : Room := { frames := 1, cells := 0, slots := 0, locals := 22 }
abbrev q_X9_soonest (k : Nat → ClassId) (x : Nat) (xt : Nat) (xc : Nat) (xi : Nat) (xk : Nat) (xb : Nat) (xr : Nat) (xp : Nat) (xo : Nat) (xl : Nat) (xm : Nat) (xw : Nat) (xv : Nat) (fb : Int32) (lt : Nat) (ltn : Nat) (ltl : Nat) (ltc : Nat) (lta : Nat) (w0 : Int32) (w1 : Int32) : Array Value → State → Outcome → State → Prop := vp_Si (fun r => r = (-1000000001))
set_option maxHeartbeats 2000000 in
set_option maxRecDepth 100000 in
theorem X9_soonest (l : Launch) (D : va_G) (k : Nat → ClassId) (x : Nat) (xt : Nat) (xc : Nat) (xi : Nat) (xk : Nat) (xb : Nat) (xr : Nat) (xp : Nat) (xo : Nat) (xl : Nat) (xm : Nat) (xw : Nat) (xv : Nat) (fb : Int32) (lt : Nat) (ltn : Nat) (ltl : Nat) (ltc : Nat) (lta : Nat) (w0 : Int32) (w1 : Int32)  : Met l yX9_soonest wsX9_soonest r_X9_soonest (va_Pc [.ref x, .int w0, .int w1] (PS D k (c_X9_soonest k x xt xc xi xk xb xr xp xo xl xm xw xv fb lt ltn ltl ltc lta w0 w1))) (q_X9_soonest k x xt xc xi xk xb xr xp xo xl xm xw xv fb lt ltn ltl ltc lta w0 w1) 0 0 (fun _ => False) := by
  refine Met.ofW (cc := cX9_soonest) (maxL := 4) (ret := (some .int)) (by decide) rfl ?_
  intro p e s m args below meth c s₁ B hml hv
  obtain ⟨rfl, hP, hG⟩ := hv
  have hx := B.exec
  have hb := B.bytes
  have hr := B.returns
  have hts := atoms_spec (ws := wsX9_soonest) B.pre
  have hown : s.vm.findClass RX9 = some m.cls := findClass_of_methodNamed B.named
  have hlocks := B.notSynchronized
  have hi9 : ∀ w ∈ wsX90, w ∈ wsX9_soonest := fun _ h => List.mem_cons_of_mem _ (List.mem_append_left _ (List.mem_append_left _ (List.mem_append_left _ (List.mem_append_left _ (List.mem_append_left _ (List.mem_append_right _ h))))))
  have hi3 : ∀ w ∈ wsX30, w ∈ wsX9_soonest := fun _ h => List.mem_cons_of_mem _ (List.mem_append_left _ (List.mem_append_left _ (List.mem_append_left _ (List.mem_append_left _ (List.mem_append_right _ h)))))
  have hi5 : ∀ w ∈ wsX50, w ∈ wsX9_soonest := fun _ h => List.mem_cons_of_mem _ (List.mem_append_left _ (List.mem_append_left _ (List.mem_append_left _ (List.mem_append_right _ h))))
  have hi8 : ∀ w ∈ wsX80, w ∈ wsX9_soonest := fun _ h => List.mem_cons_of_mem _ (List.mem_append_left _ (List.mem_append_left _ (List.mem_append_right _ h)))
  have hi2 : ∀ w ∈ wsX20, w ∈ wsX9_soonest := fun _ h => List.mem_cons_of_mem _ (List.mem_append_left _ (List.mem_append_right _ h))
  have hi6 : ∀ w ∈ wsX60, w ∈ wsX9_soonest := fun _ h => List.mem_cons_of_mem _ (List.mem_append_right _ h)
  have hP : va_P D vwCl [(x, .inr (9, [.ref xt, .ref xc, .ref xi, .ref xk, .ref xb, .ref xr, .ref xp, .ref xo, .ref xl, .ref xm, .ref xw, .ref xv, .int fb])), (xl, .inr (8, [.ref lt, .ref ltn, .ref ltl, .ref ltc, .ref lta])), (lt, .inl (k 0, 4, .inl (fun _ => 0)))] s.heap := hP
  have hl := lv_entry ([.ref x, .int w0, .int w1]) (n := 4) (Nat.le_of_ble_eq_true rfl)
  rw [lg_entry_eq]
  generalize (lg_sl ([.ref x, .int w0, .int w1]) ++ List.replicate (4 - (lg_sl ([.ref x, .int w0, .int w1])).length) Slot.unset).toArray = ls at hl ⊢
  have hl : lv_has ls 4 [(0, .ref x), (1, .int w0), (2, .int w1)] := hl
  refine lv_aload_n hx hb dX9_soonest_0 rfl (lv_at hl 0 rfl) ?_
  refine va_get (D := D) (ci := 9) (v := .ref xl) (C := RX9) (T := TX9) (N := 13) hx hb hts hi9 hown hG.1 hP 0 rfl rfl 8 (by decide) (hts (.fieldLink RX9 41 "SleptMatters" "place" "LSleptMatters$Town;") (List.mem_cons_of_mem _ (List.mem_append_left _ (List.mem_append_left _ (List.mem_append_left _ (List.mem_append_left _ (List.mem_append_left _ (List.mem_append_left _ (List.mem_append_left _ (List.mem_of_getElem? (i := 0) rfl)))))))))) (fun _ h9 => h9) rfl dX9_soonest_1 ?_
  refine lv_iconst (v := 3) hx hb dX9_soonest_4 (by decide) ?_
  refine lv_iload_n hx hb dX9_soonest_5 rfl (lv_at hl 1 rfl) ?_
  have hPc := hP.sub (ws' := (c_X8_has k xl lt ltn ltl ltc lta (fun _ => 0) 3 w0)) [1, 2] rfl
  refine vp_callSi (va_Run.run (va_runV (As := [.int 3, .int w0]) (rest := []) ⟨hx, hb, hml, hown, hts⟩ (X8_has l D k xl lt ltn ltl ltc lta (fun _ => 0) 3 w0 (by decide) (rfl)) (cwV 2 hts gX9_soonest_X8_has rfl rfl rfl (by decide +kernel) ⟨Nat.le_of_ble_eq_true rfl, Nat.le_of_ble_eq_true rfl⟩) ⟨PS.blind _ _ _ _, va_recv hG.1 hP (ci := 8) (q0 := 1) rfl rfl, PS.pre hPc hG [.ref xl, .int 3, .int w0]⟩ rfl rfl hl.1 rfl (lv_room (Nat.le_of_ble_eq_true rfl)) dX9_soonest_6 ⟨Nat.le_of_ble_eq_true rfl, Nat.le_of_ble_eq_true rfl⟩)) (fun r hq => ?_)
  generalize r = y1 at hq ⊢
  have hq : y1 = 0 := hq
  refine tp_i (y := 0) (hq) ?_
  refine lv_if_ne (x := 0) (tgt := 15) hx hb dX9_soonest_9 (by decide) (fun c2 => absurd c2 (by decide)) (fun c2 => ?_)
  refine lv_ldc (v := (-1000000001)) hx hb hown (hts (.constant RX9 147 (-1000000001)) (List.mem_cons_of_mem _ (List.mem_append_left _ (List.mem_append_left _ (List.mem_append_left _ (List.mem_append_left _ (List.mem_append_left _ (List.mem_append_left _ (List.mem_append_left _ (List.mem_of_getElem? (i := 1) rfl)))))))))) dX9_soonest_12 ?_
  exact W.iret (v := (-1000000001)) hx hb hr (fun t9 ht _ => ⟨(-1000000001), rfl, rfl, ht⟩) (fun q h => by cases h) dX9_soonest_14

abbrev c_X9_chosen (k : Nat → ClassId) (x : Nat) (xt : Nat) (xc : Nat) (xi : Nat) (xk : Nat) (xb : Nat) (xr : Nat) (xp : Nat) (xo : Nat) (xl : Nat) (xm : Nat) (xw : Nat) (xv : Nat) (fb : Int32) (lt : Nat) (ltn : Nat) (ltl : Nat) (ltc : Nat) (lta : Nat) (w0 : Int32) (w1 : Int32) (w2 : Int32) : va_W := [(x, .inr (9, [.ref xt, .ref xc, .ref xi, .ref xk, .ref xb, .ref xr, .ref xp, .ref xo, .ref xl, .ref xm, .ref xw, .ref xv, .int fb])), (xl, .inr (8, [.ref lt, .ref ltn, .ref ltl, .ref ltc, .ref lta])), (lt, .inl (k 0, 4, .inl (fun _ => 0)))]
abbrev r_X9_chosen : Room := { frames := 1, cells := 0, slots := 0, locals := 22 }
abbrev q_X9_chosen (k : Nat → ClassId) (x : Nat) (xt : Nat) (xc : Nat) (xi : Nat) (xk : Nat) (xb : Nat) (xr : Nat) (xp : Nat) (xo : Nat) (xl : Nat) (xm : Nat) (xw : Nat) (xv : Nat) (fb : Int32) (lt : Nat) (ltn : Nat) (ltl : Nat) (ltc : Nat) (lta : Nat) (w0 : Int32) (w1 : Int32) (w2 : Int32) : Array Value → State → Outcome → State → Prop := vp_Si (fun r => r = (-1000000001))
set_option maxHeartbeats 2000000 in
set_option maxRecDepth 100000 in
theorem X9_chosen (l : Launch) (D : va_G) (k : Nat → ClassId) (x : Nat) (xt : Nat) (xc : Nat) (xi : Nat) (xk : Nat) (xb : Nat) (xr : Nat) (xp : Nat) (xo : Nat) (xl : Nat) (xm : Nat) (xw : Nat) (xv : Nat) (fb : Int32) (lt : Nat) (ltn : Nat) (ltl : Nat) (ltc : Nat) (lta : Nat) (w0 : Int32) (w1 : Int32) (w2 : Int32)  : Met l yX9_chosen wsX9_chosen r_X9_chosen (va_Pc [.ref x, .int w0, .int w1, .int w2] (PS D k (c_X9_chosen k x xt xc xi xk xb xr xp xo xl xm xw xv fb lt ltn ltl ltc lta w0 w1 w2))) (q_X9_chosen k x xt xc xi xk xb xr xp xo xl xm xw xv fb lt ltn ltl ltc lta w0 w1 w2) 0 0 (fun _ => False) := by
  refine Met.ofW (cc := cX9_chosen) (maxL := 4) (ret := (some .int)) (by decide) rfl ?_
  intro p e s m args below meth c s₁ B hml hv
  obtain ⟨rfl, hP, hG⟩ := hv
  have hx := B.exec
  have hb := B.bytes
  have hr := B.returns
  have hts := atoms_spec (ws := wsX9_chosen) B.pre
  have hown : s.vm.findClass RX9 = some m.cls := findClass_of_methodNamed B.named
  have hlocks := B.notSynchronized
  have hi9 : ∀ w ∈ wsX90, w ∈ wsX9_chosen := fun _ h => List.mem_cons_of_mem _ (List.mem_append_left _ (List.mem_append_left _ (List.mem_append_left _ (List.mem_append_left _ (List.mem_append_left _ (List.mem_append_left _ (List.mem_append_right _ h)))))))
  have hi1 : ∀ w ∈ wsX10, w ∈ wsX9_chosen := fun _ h => List.mem_cons_of_mem _ (List.mem_append_left _ (List.mem_append_left _ (List.mem_append_left _ (List.mem_append_left _ (List.mem_append_left _ (List.mem_append_right _ h))))))
  have hi8 : ∀ w ∈ wsX80, w ∈ wsX9_chosen := fun _ h => List.mem_cons_of_mem _ (List.mem_append_left _ (List.mem_append_left _ (List.mem_append_left _ (List.mem_append_left _ (List.mem_append_right _ h)))))
  have hi2 : ∀ w ∈ wsX20, w ∈ wsX9_chosen := fun _ h => List.mem_cons_of_mem _ (List.mem_append_left _ (List.mem_append_left _ (List.mem_append_left _ (List.mem_append_right _ h))))
  have hi3 : ∀ w ∈ wsX30, w ∈ wsX9_chosen := fun _ h => List.mem_cons_of_mem _ (List.mem_append_left _ (List.mem_append_left _ (List.mem_append_right _ h)))
  have hi5 : ∀ w ∈ wsX50, w ∈ wsX9_chosen := fun _ h => List.mem_cons_of_mem _ (List.mem_append_left _ (List.mem_append_right _ h))
  have hi6 : ∀ w ∈ wsX60, w ∈ wsX9_chosen := fun _ h => List.mem_cons_of_mem _ (List.mem_append_right _ h)
  have hP : va_P D vwCl [(x, .inr (9, [.ref xt, .ref xc, .ref xi, .ref xk, .ref xb, .ref xr, .ref xp, .ref xo, .ref xl, .ref xm, .ref xw, .ref xv, .int fb])), (xl, .inr (8, [.ref lt, .ref ltn, .ref ltl, .ref ltc, .ref lta])), (lt, .inl (k 0, 4, .inl (fun _ => 0)))] s.heap := hP
  have hl := lv_entry ([.ref x, .int w0, .int w1, .int w2]) (n := 4) (Nat.le_of_ble_eq_true rfl)
  rw [lg_entry_eq]
  generalize (lg_sl ([.ref x, .int w0, .int w1, .int w2]) ++ List.replicate (4 - (lg_sl ([.ref x, .int w0, .int w1, .int w2])).length) Slot.unset).toArray = ls at hl ⊢
  have hl : lv_has ls 4 [(0, .ref x), (1, .int w0), (2, .int w1), (3, .int w2)] := hl
  refine lv_aload_n hx hb dX9_chosen_0 rfl (lv_at hl 0 rfl) ?_
  refine va_get (D := D) (ci := 9) (v := .ref xl) (C := RX9) (T := TX9) (N := 13) hx hb hts hi9 hown hG.1 hP 0 rfl rfl 8 (by decide) (hts (.fieldLink RX9 41 "SleptMatters" "place" "LSleptMatters$Town;") (List.mem_cons_of_mem _ (List.mem_append_left _ (List.mem_append_left _ (List.mem_append_left _ (List.mem_append_left _ (List.mem_append_left _ (List.mem_append_left _ (List.mem_append_left _ (List.mem_append_left _ (List.mem_of_getElem? (i := 0) rfl))))))))))) (fun _ h9 => h9) rfl dX9_chosen_1 ?_
  refine lv_iconst (v := 3) hx hb dX9_chosen_4 (by decide) ?_
  refine lv_iload_n hx hb dX9_chosen_5 rfl (lv_at hl 1 rfl) ?_
  have hPc := hP.sub (ws' := (c_X8_has k xl lt ltn ltl ltc lta (fun _ => 0) 3 w0)) [1, 2] rfl
  refine vp_callSi (va_Run.run (va_runV (As := [.int 3, .int w0]) (rest := []) ⟨hx, hb, hml, hown, hts⟩ (X8_has l D k xl lt ltn ltl ltc lta (fun _ => 0) 3 w0 (by decide) (rfl)) (cwV 2 hts gX9_chosen_X8_has rfl rfl rfl (by decide +kernel) ⟨Nat.le_of_ble_eq_true rfl, Nat.le_of_ble_eq_true rfl⟩) ⟨PS.blind _ _ _ _, va_recv hG.1 hP (ci := 8) (q0 := 1) rfl rfl, PS.pre hPc hG [.ref xl, .int 3, .int w0]⟩ rfl rfl hl.1 rfl (lv_room (Nat.le_of_ble_eq_true rfl)) dX9_chosen_6 ⟨Nat.le_of_ble_eq_true rfl, Nat.le_of_ble_eq_true rfl⟩)) (fun r hq => ?_)
  generalize r = y1 at hq ⊢
  have hq : y1 = 0 := hq
  refine tp_i (y := 0) (hq) ?_
  refine lv_if_ne (x := 0) (tgt := 15) hx hb dX9_chosen_9 (by decide) (fun c2 => absurd c2 (by decide)) (fun c2 => ?_)
  refine lv_ldc (v := (-1000000001)) hx hb hown (hts (.constant RX9 147 (-1000000001)) (List.mem_cons_of_mem _ (List.mem_append_left _ (List.mem_append_left _ (List.mem_append_left _ (List.mem_append_left _ (List.mem_append_left _ (List.mem_append_left _ (List.mem_append_left _ (List.mem_append_left _ (List.mem_of_getElem? (i := 1) rfl))))))))))) dX9_chosen_12 ?_
  exact W.iret (v := (-1000000001)) hx hb hr (fun t9 ht _ => ⟨(-1000000001), rfl, rfl, ht⟩) (fun q h => by cases h) dX9_chosen_14

abbrev c_X9_cheapest (k : Nat → ClassId) (x : Nat) (xt : Nat) (xc : Nat) (xi : Nat) (xk : Nat) (xb : Nat) (xr : Nat) (xp : Nat) (xo : Nat) (xl : Nat) (xm : Nat) (xw : Nat) (xv : Nat) (fb : Int32) (lt : Nat) (ltn : Nat) (ltl : Nat) (ltc : Nat) (lta : Nat) (w0 : Int32) (w1 : Int32) : va_W := [(x, .inr (9, [.ref xt, .ref xc, .ref xi, .ref xk, .ref xb, .ref xr, .ref xp, .ref xo, .ref xl, .ref xm, .ref xw, .ref xv, .int fb])), (xl, .inr (8, [.ref lt, .ref ltn, .ref ltl, .ref ltc, .ref lta])), (lt, .inl (k 0, 4, .inl (fun _ => 0)))]
abbrev r_X9_cheapest : Room := { frames := 2, cells := 0, slots := 0, locals := 45 }
abbrev q_X9_cheapest (k : Nat → ClassId) (x : Nat) (xt : Nat) (xc : Nat) (xi : Nat) (xk : Nat) (xb : Nat) (xr : Nat) (xp : Nat) (xo : Nat) (xl : Nat) (xm : Nat) (xw : Nat) (xv : Nat) (fb : Int32) (lt : Nat) (ltn : Nat) (ltl : Nat) (ltc : Nat) (lta : Nat) (w0 : Int32) (w1 : Int32) : Array Value → State → Outcome → State → Prop := vp_Si (fun r => r = (-1000000001))
set_option maxHeartbeats 2000000 in
set_option maxRecDepth 100000 in
theorem X9_cheapest (l : Launch) (D : va_G) (k : Nat → ClassId) (x : Nat) (xt : Nat) (xc : Nat) (xi : Nat) (xk : Nat) (xb : Nat) (xr : Nat) (xp : Nat) (xo : Nat) (xl : Nat) (xm : Nat) (xw : Nat) (xv : Nat) (fb : Int32) (lt : Nat) (ltn : Nat) (ltl : Nat) (ltc : Nat) (lta : Nat) (w0 : Int32) (w1 : Int32)  : Met l yX9_cheapest wsX9_cheapest r_X9_cheapest (va_Pc [.ref x, .int w0, .int w1] (PS D k (c_X9_cheapest k x xt xc xi xk xb xr xp xo xl xm xw xv fb lt ltn ltl ltc lta w0 w1))) (q_X9_cheapest k x xt xc xi xk xb xr xp xo xl xm xw xv fb lt ltn ltl ltc lta w0 w1) 0 0 (fun _ => False) := by
  refine Met.ofW (cc := cX9_cheapest) (maxL := 3) (ret := (some .int)) (by decide) rfl ?_
  intro p e s m args below meth c s₁ B hml hv
  obtain ⟨rfl, hP, hG⟩ := hv
  have hx := B.exec
  have hb := B.bytes
  have hr := B.returns
  have hts := atoms_spec (ws := wsX9_cheapest) B.pre
  have hown : s.vm.findClass RX9 = some m.cls := findClass_of_methodNamed B.named
  have hlocks := B.notSynchronized
  have hi9 : ∀ w ∈ wsX90, w ∈ wsX9_cheapest := fun _ h => List.mem_cons_of_mem _ (List.mem_append_left _ (List.mem_append_left _ (List.mem_append_left _ (List.mem_append_left _ (List.mem_append_left _ (List.mem_append_left _ (List.mem_append_right _ h)))))))
  have hi1 : ∀ w ∈ wsX10, w ∈ wsX9_cheapest := fun _ h => List.mem_cons_of_mem _ (List.mem_append_left _ (List.mem_append_left _ (List.mem_append_left _ (List.mem_append_left _ (List.mem_append_left _ (List.mem_append_right _ h))))))
  have hi8 : ∀ w ∈ wsX80, w ∈ wsX9_cheapest := fun _ h => List.mem_cons_of_mem _ (List.mem_append_left _ (List.mem_append_left _ (List.mem_append_left _ (List.mem_append_left _ (List.mem_append_right _ h)))))
  have hi2 : ∀ w ∈ wsX20, w ∈ wsX9_cheapest := fun _ h => List.mem_cons_of_mem _ (List.mem_append_left _ (List.mem_append_left _ (List.mem_append_left _ (List.mem_append_right _ h))))
  have hi3 : ∀ w ∈ wsX30, w ∈ wsX9_cheapest := fun _ h => List.mem_cons_of_mem _ (List.mem_append_left _ (List.mem_append_left _ (List.mem_append_right _ h)))
  have hi5 : ∀ w ∈ wsX50, w ∈ wsX9_cheapest := fun _ h => List.mem_cons_of_mem _ (List.mem_append_left _ (List.mem_append_right _ h))
  have hi6 : ∀ w ∈ wsX60, w ∈ wsX9_cheapest := fun _ h => List.mem_cons_of_mem _ (List.mem_append_right _ h)
  have hP : va_P D vwCl [(x, .inr (9, [.ref xt, .ref xc, .ref xi, .ref xk, .ref xb, .ref xr, .ref xp, .ref xo, .ref xl, .ref xm, .ref xw, .ref xv, .int fb])), (xl, .inr (8, [.ref lt, .ref ltn, .ref ltl, .ref ltc, .ref lta])), (lt, .inl (k 0, 4, .inl (fun _ => 0)))] s.heap := hP
  have hl := lv_entry ([.ref x, .int w0, .int w1]) (n := 3) (Nat.le_of_ble_eq_true rfl)
  rw [lg_entry_eq]
  generalize (lg_sl ([.ref x, .int w0, .int w1]) ++ List.replicate (3 - (lg_sl ([.ref x, .int w0, .int w1])).length) Slot.unset).toArray = ls at hl ⊢
  have hl : lv_has ls 3 [(0, .ref x), (1, .int w0), (2, .int w1)] := hl
  refine lv_aload_n hx hb dX9_cheapest_0 rfl (lv_at hl 0 rfl) ?_
  refine lv_iload_n hx hb dX9_cheapest_1 rfl (lv_at hl 1 rfl) ?_
  refine lv_iload_n hx hb dX9_cheapest_2 rfl (lv_at hl 2 rfl) ?_
  refine lv_iconst (v := 0) hx hb dX9_cheapest_3 (by decide) ?_
  have hPc := hP.sub (ws' := (c_X9_chosen k x xt xc xi xk xb xr xp xo xl xm xw xv fb lt ltn ltl ltc lta w0 w1 0)) [0, 1, 2] rfl
  refine vp_callSi (va_Run.run (va_runV (As := [.int w0, .int w1, .int 0]) (rest := []) ⟨hx, hb, hml, hown, hts⟩ (X9_chosen l D k x xt xc xi xk xb xr xp xo xl xm xw xv fb lt ltn ltl ltc lta w0 w1 0 ) (cwV 3 hts gX9_cheapest_X9_chosen rfl rfl rfl (by decide +kernel) ⟨Nat.le_of_ble_eq_true rfl, Nat.le_of_ble_eq_true rfl⟩) ⟨PS.blind _ _ _ _, va_recv hG.1 hP (ci := 9) (q0 := 0) rfl rfl, PS.pre hPc hG [.ref x, .int w0, .int w1, .int 0]⟩ rfl rfl hl.1 rfl (lv_room (Nat.le_of_ble_eq_true rfl)) dX9_cheapest_4 ⟨Nat.le_of_ble_eq_true rfl, Nat.le_of_ble_eq_true rfl⟩)) (fun r hq => ?_)
  generalize r = y1 at hq ⊢
  have hq : y1 = (-1000000001) := hq
  refine tp_i (y := (-1000000001)) (hq) ?_
  exact W.iret (v := (-1000000001)) hx hb hr (fun t9 ht _ => ⟨(-1000000001), rfl, rfl, ht⟩) (fun q h => by cases h) dX9_cheapest_7

abbrev c_X9_likeliest (k : Nat → ClassId) (x : Nat) (xt : Nat) (xc : Nat) (xi : Nat) (xk : Nat) (xb : Nat) (xr : Nat) (xp : Nat) (xo : Nat) (xl : Nat) (xm : Nat) (xw : Nat) (xv : Nat) (fb : Int32) (lt : Nat) (ltn : Nat) (ltl : Nat) (ltc : Nat) (lta : Nat) (w0 : Int32) (w1 : Int32) : va_W := [(x, .inr (9, [.ref xt, .ref xc, .ref xi, .ref xk, .ref xb, .ref xr, .ref xp, .ref xo, .ref xl, .ref xm, .ref xw, .ref xv, .int fb])), (xl, .inr (8, [.ref lt, .ref ltn, .ref ltl, .ref ltc, .ref lta])), (lt, .inl (k 0, 4, .inl (fun _ => 0)))]
abbrev r_X9_likeliest : Room := { frames := 2, cells := 0, slots := 0, locals := 45 }
abbrev q_X9_likeliest (k : Nat → ClassId) (x : Nat) (xt : Nat) (xc : Nat) (xi : Nat) (xk : Nat) (xb : Nat) (xr : Nat) (xp : Nat) (xo : Nat) (xl : Nat) (xm : Nat) (xw : Nat) (xv : Nat) (fb : Int32) (lt : Nat) (ltn : Nat) (ltl : Nat) (ltc : Nat) (lta : Nat) (w0 : Int32) (w1 : Int32) : Array Value → State → Outcome → State → Prop := vp_Si (fun r => r = (-1000000001))
set_option maxHeartbeats 2000000 in
set_option maxRecDepth 100000 in
theorem X9_likeliest (l : Launch) (D : va_G) (k : Nat → ClassId) (x : Nat) (xt : Nat) (xc : Nat) (xi : Nat) (xk : Nat) (xb : Nat) (xr : Nat) (xp : Nat) (xo : Nat) (xl : Nat) (xm : Nat) (xw : Nat) (xv : Nat) (fb : Int32) (lt : Nat) (ltn : Nat) (ltl : Nat) (ltc : Nat) (lta : Nat) (w0 : Int32) (w1 : Int32)  : Met l yX9_likeliest wsX9_likeliest r_X9_likeliest (va_Pc [.ref x, .int w0, .int w1] (PS D k (c_X9_likeliest k x xt xc xi xk xb xr xp xo xl xm xw xv fb lt ltn ltl ltc lta w0 w1))) (q_X9_likeliest k x xt xc xi xk xb xr xp xo xl xm xw xv fb lt ltn ltl ltc lta w0 w1) 0 0 (fun _ => False) := by
  refine Met.ofW (cc := cX9_likeliest) (maxL := 3) (ret := (some .int)) (by decide) rfl ?_
  intro p e s m args below meth c s₁ B hml hv
  obtain ⟨rfl, hP, hG⟩ := hv
  have hx := B.exec
  have hb := B.bytes
  have hr := B.returns
  have hts := atoms_spec (ws := wsX9_likeliest) B.pre
  have hown : s.vm.findClass RX9 = some m.cls := findClass_of_methodNamed B.named
  have hlocks := B.notSynchronized
  have hi9 : ∀ w ∈ wsX90, w ∈ wsX9_likeliest := fun _ h => List.mem_cons_of_mem _ (List.mem_append_left _ (List.mem_append_left _ (List.mem_append_left _ (List.mem_append_left _ (List.mem_append_left _ (List.mem_append_left _ (List.mem_append_right _ h)))))))
  have hi1 : ∀ w ∈ wsX10, w ∈ wsX9_likeliest := fun _ h => List.mem_cons_of_mem _ (List.mem_append_left _ (List.mem_append_left _ (List.mem_append_left _ (List.mem_append_left _ (List.mem_append_left _ (List.mem_append_right _ h))))))
  have hi8 : ∀ w ∈ wsX80, w ∈ wsX9_likeliest := fun _ h => List.mem_cons_of_mem _ (List.mem_append_left _ (List.mem_append_left _ (List.mem_append_left _ (List.mem_append_left _ (List.mem_append_right _ h)))))
  have hi2 : ∀ w ∈ wsX20, w ∈ wsX9_likeliest := fun _ h => List.mem_cons_of_mem _ (List.mem_append_left _ (List.mem_append_left _ (List.mem_append_left _ (List.mem_append_right _ h))))
  have hi3 : ∀ w ∈ wsX30, w ∈ wsX9_likeliest := fun _ h => List.mem_cons_of_mem _ (List.mem_append_left _ (List.mem_append_left _ (List.mem_append_right _ h)))
  have hi5 : ∀ w ∈ wsX50, w ∈ wsX9_likeliest := fun _ h => List.mem_cons_of_mem _ (List.mem_append_left _ (List.mem_append_right _ h))
  have hi6 : ∀ w ∈ wsX60, w ∈ wsX9_likeliest := fun _ h => List.mem_cons_of_mem _ (List.mem_append_right _ h)
  have hP : va_P D vwCl [(x, .inr (9, [.ref xt, .ref xc, .ref xi, .ref xk, .ref xb, .ref xr, .ref xp, .ref xo, .ref xl, .ref xm, .ref xw, .ref xv, .int fb])), (xl, .inr (8, [.ref lt, .ref ltn, .ref ltl, .ref ltc, .ref lta])), (lt, .inl (k 0, 4, .inl (fun _ => 0)))] s.heap := hP
  have hl := lv_entry ([.ref x, .int w0, .int w1]) (n := 3) (Nat.le_of_ble_eq_true rfl)
  rw [lg_entry_eq]
  generalize (lg_sl ([.ref x, .int w0, .int w1]) ++ List.replicate (3 - (lg_sl ([.ref x, .int w0, .int w1])).length) Slot.unset).toArray = ls at hl ⊢
  have hl : lv_has ls 3 [(0, .ref x), (1, .int w0), (2, .int w1)] := hl
  refine lv_aload_n hx hb dX9_likeliest_0 rfl (lv_at hl 0 rfl) ?_
  refine lv_iload_n hx hb dX9_likeliest_1 rfl (lv_at hl 1 rfl) ?_
  refine lv_iload_n hx hb dX9_likeliest_2 rfl (lv_at hl 2 rfl) ?_
  refine lv_iconst (v := 1) hx hb dX9_likeliest_3 (by decide) ?_
  have hPc := hP.sub (ws' := (c_X9_chosen k x xt xc xi xk xb xr xp xo xl xm xw xv fb lt ltn ltl ltc lta w0 w1 1)) [0, 1, 2] rfl
  refine vp_callSi (va_Run.run (va_runV (As := [.int w0, .int w1, .int 1]) (rest := []) ⟨hx, hb, hml, hown, hts⟩ (X9_chosen l D k x xt xc xi xk xb xr xp xo xl xm xw xv fb lt ltn ltl ltc lta w0 w1 1 ) (cwV 3 hts gX9_likeliest_X9_chosen rfl rfl rfl (by decide +kernel) ⟨Nat.le_of_ble_eq_true rfl, Nat.le_of_ble_eq_true rfl⟩) ⟨PS.blind _ _ _ _, va_recv hG.1 hP (ci := 9) (q0 := 0) rfl rfl, PS.pre hPc hG [.ref x, .int w0, .int w1, .int 1]⟩ rfl rfl hl.1 rfl (lv_room (Nat.le_of_ble_eq_true rfl)) dX9_likeliest_4 ⟨Nat.le_of_ble_eq_true rfl, Nat.le_of_ble_eq_true rfl⟩)) (fun r hq => ?_)
  generalize r = y1 at hq ⊢
  have hq : y1 = (-1000000001) := hq
  refine tp_i (y := (-1000000001)) (hq) ?_
  exact W.iret (v := (-1000000001)) hx hb hr (fun t9 ht _ => ⟨(-1000000001), rfl, rfl, ht⟩) (fun q h => by cases h) dX9_likeliest_7

abbrev c_X9_stopped (k : Nat → ClassId) (x : Nat) (xt : Nat) (xc : Nat) (xi : Nat) (xk : Nat) (xb : Nat) (xr : Nat) (xp : Nat) (xo : Nat) (xl : Nat) (xm : Nat) (xw : Nat) (xv : Nat) (fb : Int32) (lt : Nat) (ltn : Nat) (ltl : Nat) (ltc : Nat) (lta : Nat) (w0 : Int32) (w1 : Int32) : va_W := [(x, .inr (9, [.ref xt, .ref xc, .ref xi, .ref xk, .ref xb, .ref xr, .ref xp, .ref xo, .ref xl, .ref xm, .ref xw, .ref xv, .int fb])), (xl, .inr (8, [.ref lt, .ref ltn, .ref ltl, .ref ltc, .ref lta])), (lt, .inl (k 0, 4, .inl (fun _ => 0)))]
abbrev r_X9_stopped : Room := { frames := 1, cells := 0, slots := 0, locals := 22 }
abbrev q_X9_stopped (k : Nat → ClassId) (x : Nat) (xt : Nat) (xc : Nat) (xi : Nat) (xk : Nat) (xb : Nat) (xr : Nat) (xp : Nat) (xo : Nat) (xl : Nat) (xm : Nat) (xw : Nat) (xv : Nat) (fb : Int32) (lt : Nat) (ltn : Nat) (ltl : Nat) (ltc : Nat) (lta : Nat) (w0 : Int32) (w1 : Int32) : Array Value → State → Outcome → State → Prop := vp_Si (fun r => r = (-1000000001))
set_option maxHeartbeats 2000000 in
set_option maxRecDepth 100000 in
theorem X9_stopped (l : Launch) (D : va_G) (k : Nat → ClassId) (x : Nat) (xt : Nat) (xc : Nat) (xi : Nat) (xk : Nat) (xb : Nat) (xr : Nat) (xp : Nat) (xo : Nat) (xl : Nat) (xm : Nat) (xw : Nat) (xv : Nat) (fb : Int32) (lt : Nat) (ltn : Nat) (ltl : Nat) (ltc : Nat) (lta : Nat) (w0 : Int32) (w1 : Int32)  : Met l yX9_stopped wsX9_stopped r_X9_stopped (va_Pc [.ref x, .int w0, .int w1] (PS D k (c_X9_stopped k x xt xc xi xk xb xr xp xo xl xm xw xv fb lt ltn ltl ltc lta w0 w1))) (q_X9_stopped k x xt xc xi xk xb xr xp xo xl xm xw xv fb lt ltn ltl ltc lta w0 w1) 0 0 (fun _ => False) := by
  refine Met.ofW (cc := cX9_stopped) (maxL := 3) (ret := (some .int)) (by decide) rfl ?_
  intro p e s m args below meth c s₁ B hml hv
  obtain ⟨rfl, hP, hG⟩ := hv
  have hx := B.exec
  have hb := B.bytes
  have hr := B.returns
  have hts := atoms_spec (ws := wsX9_stopped) B.pre
  have hown : s.vm.findClass RX9 = some m.cls := findClass_of_methodNamed B.named
  have hlocks := B.notSynchronized
  have hi9 : ∀ w ∈ wsX90, w ∈ wsX9_stopped := fun _ h => List.mem_cons_of_mem _ (List.mem_append_left _ (List.mem_append_left _ (List.mem_append_left _ (List.mem_append_left _ (List.mem_append_left _ (List.mem_append_right _ h))))))
  have hi3 : ∀ w ∈ wsX30, w ∈ wsX9_stopped := fun _ h => List.mem_cons_of_mem _ (List.mem_append_left _ (List.mem_append_left _ (List.mem_append_left _ (List.mem_append_left _ (List.mem_append_right _ h)))))
  have hi8 : ∀ w ∈ wsX80, w ∈ wsX9_stopped := fun _ h => List.mem_cons_of_mem _ (List.mem_append_left _ (List.mem_append_left _ (List.mem_append_left _ (List.mem_append_right _ h))))
  have hi2 : ∀ w ∈ wsX20, w ∈ wsX9_stopped := fun _ h => List.mem_cons_of_mem _ (List.mem_append_left _ (List.mem_append_left _ (List.mem_append_right _ h)))
  have hi5 : ∀ w ∈ wsX50, w ∈ wsX9_stopped := fun _ h => List.mem_cons_of_mem _ (List.mem_append_left _ (List.mem_append_right _ h))
  have hi6 : ∀ w ∈ wsX60, w ∈ wsX9_stopped := fun _ h => List.mem_cons_of_mem _ (List.mem_append_right _ h)
  have hP : va_P D vwCl [(x, .inr (9, [.ref xt, .ref xc, .ref xi, .ref xk, .ref xb, .ref xr, .ref xp, .ref xo, .ref xl, .ref xm, .ref xw, .ref xv, .int fb])), (xl, .inr (8, [.ref lt, .ref ltn, .ref ltl, .ref ltc, .ref lta])), (lt, .inl (k 0, 4, .inl (fun _ => 0)))] s.heap := hP
  have hl := lv_entry ([.ref x, .int w0, .int w1]) (n := 3) (Nat.le_of_ble_eq_true rfl)
  rw [lg_entry_eq]
  generalize (lg_sl ([.ref x, .int w0, .int w1]) ++ List.replicate (3 - (lg_sl ([.ref x, .int w0, .int w1])).length) Slot.unset).toArray = ls at hl ⊢
  have hl : lv_has ls 3 [(0, .ref x), (1, .int w0), (2, .int w1)] := hl
  refine lv_aload_n hx hb dX9_stopped_0 rfl (lv_at hl 0 rfl) ?_
  refine va_get (D := D) (ci := 9) (v := .ref xl) (C := RX9) (T := TX9) (N := 13) hx hb hts hi9 hown hG.1 hP 0 rfl rfl 8 (by decide) (hts (.fieldLink RX9 41 "SleptMatters" "place" "LSleptMatters$Town;") (List.mem_cons_of_mem _ (List.mem_append_left _ (List.mem_append_left _ (List.mem_append_left _ (List.mem_append_left _ (List.mem_append_left _ (List.mem_append_left _ (List.mem_append_left _ (List.mem_of_getElem? (i := 0) rfl)))))))))) (fun _ h9 => h9) rfl dX9_stopped_1 ?_
  refine lv_iconst (v := 3) hx hb dX9_stopped_4 (by decide) ?_
  refine lv_iload_n hx hb dX9_stopped_5 rfl (lv_at hl 1 rfl) ?_
  have hPc := hP.sub (ws' := (c_X8_has k xl lt ltn ltl ltc lta (fun _ => 0) 3 w0)) [1, 2] rfl
  refine vp_callSi (va_Run.run (va_runV (As := [.int 3, .int w0]) (rest := []) ⟨hx, hb, hml, hown, hts⟩ (X8_has l D k xl lt ltn ltl ltc lta (fun _ => 0) 3 w0 (by decide) (rfl)) (cwV 2 hts gX9_stopped_X8_has rfl rfl rfl (by decide +kernel) ⟨Nat.le_of_ble_eq_true rfl, Nat.le_of_ble_eq_true rfl⟩) ⟨PS.blind _ _ _ _, va_recv hG.1 hP (ci := 8) (q0 := 1) rfl rfl, PS.pre hPc hG [.ref xl, .int 3, .int w0]⟩ rfl rfl hl.1 rfl (lv_room (Nat.le_of_ble_eq_true rfl)) dX9_stopped_6 ⟨Nat.le_of_ble_eq_true rfl, Nat.le_of_ble_eq_true rfl⟩)) (fun r hq => ?_)
  generalize r = y1 at hq ⊢
  have hq : y1 = 0 := hq
  refine tp_i (y := 0) (hq) ?_
  refine lv_if_ne (x := 0) (tgt := 15) hx hb dX9_stopped_9 (by decide) (fun c2 => absurd c2 (by decide)) (fun c2 => ?_)
  refine lv_ldc (v := (-1000000001)) hx hb hown (hts (.constant RX9 147 (-1000000001)) (List.mem_cons_of_mem _ (List.mem_append_left _ (List.mem_append_left _ (List.mem_append_left _ (List.mem_append_left _ (List.mem_append_left _ (List.mem_append_left _ (List.mem_append_left _ (List.mem_of_getElem? (i := 1) rfl)))))))))) dX9_stopped_12 ?_
  exact W.iret (v := (-1000000001)) hx hb hr (fun t9 ht _ => ⟨(-1000000001), rfl, rfl, ht⟩) (fun q h => by cases h) dX9_stopped_14

abbrev c_X9_tried (k : Nat → ClassId) (x : Nat) (xt : Nat) (xc : Nat) (xi : Nat) (xk : Nat) (xb : Nat) (xr : Nat) (xp : Nat) (xo : Nat) (xl : Nat) (xm : Nat) (xw : Nat) (xv : Nat) (fb : Int32) (lt : Nat) (ltn : Nat) (ltl : Nat) (ltc : Nat) (lta : Nat) (w0 : Int32) (w1 : Int32) : va_W := [(x, .inr (9, [.ref xt, .ref xc, .ref xi, .ref xk, .ref xb, .ref xr, .ref xp, .ref xo, .ref xl, .ref xm, .ref xw, .ref xv, .int fb])), (xl, .inr (8, [.ref lt, .ref ltn, .ref ltl, .ref ltc, .ref lta])), (lt, .inl (k 0, 4, .inl (fun _ => 0)))]
abbrev r_X9_tried : Room := { frames := 1, cells := 0, slots := 0, locals := 22 }
abbrev q_X9_tried (k : Nat → ClassId) (x : Nat) (xt : Nat) (xc : Nat) (xi : Nat) (xk : Nat) (xb : Nat) (xr : Nat) (xp : Nat) (xo : Nat) (xl : Nat) (xm : Nat) (xw : Nat) (xv : Nat) (fb : Int32) (lt : Nat) (ltn : Nat) (ltl : Nat) (ltc : Nat) (lta : Nat) (w0 : Int32) (w1 : Int32) : Array Value → State → Outcome → State → Prop := vp_Si (fun r => r = (-1000000001))
set_option maxHeartbeats 2000000 in
set_option maxRecDepth 100000 in
theorem X9_tried (l : Launch) (D : va_G) (k : Nat → ClassId) (x : Nat) (xt : Nat) (xc : Nat) (xi : Nat) (xk : Nat) (xb : Nat) (xr : Nat) (xp : Nat) (xo : Nat) (xl : Nat) (xm : Nat) (xw : Nat) (xv : Nat) (fb : Int32) (lt : Nat) (ltn : Nat) (ltl : Nat) (ltc : Nat) (lta : Nat) (w0 : Int32) (w1 : Int32)  : Met l yX9_tried wsX9_tried r_X9_tried (va_Pc [.ref x, .int w0, .int w1] (PS D k (c_X9_tried k x xt xc xi xk xb xr xp xo xl xm xw xv fb lt ltn ltl ltc lta w0 w1))) (q_X9_tried k x xt xc xi xk xb xr xp xo xl xm xw xv fb lt ltn ltl ltc lta w0 w1) 0 0 (fun _ => False) := by
  refine Met.ofW (cc := cX9_tried) (maxL := 3) (ret := (some .int)) (by decide) rfl ?_
  intro p e s m args below meth c s₁ B hml hv
  obtain ⟨rfl, hP, hG⟩ := hv
  have hx := B.exec
  have hb := B.bytes
  have hr := B.returns
  have hts := atoms_spec (ws := wsX9_tried) B.pre
  have hown : s.vm.findClass RX9 = some m.cls := findClass_of_methodNamed B.named
  have hlocks := B.notSynchronized
  have hi9 : ∀ w ∈ wsX90, w ∈ wsX9_tried := fun _ h => List.mem_cons_of_mem _ (List.mem_append_left _ (List.mem_append_left _ (List.mem_append_left _ (List.mem_append_left _ (List.mem_append_right _ h)))))
  have hi8 : ∀ w ∈ wsX80, w ∈ wsX9_tried := fun _ h => List.mem_cons_of_mem _ (List.mem_append_left _ (List.mem_append_left _ (List.mem_append_left _ (List.mem_append_right _ h))))
  have hi2 : ∀ w ∈ wsX20, w ∈ wsX9_tried := fun _ h => List.mem_cons_of_mem _ (List.mem_append_left _ (List.mem_append_left _ (List.mem_append_right _ h)))
  have hi5 : ∀ w ∈ wsX50, w ∈ wsX9_tried := fun _ h => List.mem_cons_of_mem _ (List.mem_append_left _ (List.mem_append_right _ h))
  have hi6 : ∀ w ∈ wsX60, w ∈ wsX9_tried := fun _ h => List.mem_cons_of_mem _ (List.mem_append_right _ h)
  have hP : va_P D vwCl [(x, .inr (9, [.ref xt, .ref xc, .ref xi, .ref xk, .ref xb, .ref xr, .ref xp, .ref xo, .ref xl, .ref xm, .ref xw, .ref xv, .int fb])), (xl, .inr (8, [.ref lt, .ref ltn, .ref ltl, .ref ltc, .ref lta])), (lt, .inl (k 0, 4, .inl (fun _ => 0)))] s.heap := hP
  have hl := lv_entry ([.ref x, .int w0, .int w1]) (n := 3) (Nat.le_of_ble_eq_true rfl)
  rw [lg_entry_eq]
  generalize (lg_sl ([.ref x, .int w0, .int w1]) ++ List.replicate (3 - (lg_sl ([.ref x, .int w0, .int w1])).length) Slot.unset).toArray = ls at hl ⊢
  have hl : lv_has ls 3 [(0, .ref x), (1, .int w0), (2, .int w1)] := hl
  refine lv_aload_n hx hb dX9_tried_0 rfl (lv_at hl 0 rfl) ?_
  refine va_get (D := D) (ci := 9) (v := .ref xl) (C := RX9) (T := TX9) (N := 13) hx hb hts hi9 hown hG.1 hP 0 rfl rfl 8 (by decide) (hts (.fieldLink RX9 41 "SleptMatters" "place" "LSleptMatters$Town;") (List.mem_cons_of_mem _ (List.mem_append_left _ (List.mem_append_left _ (List.mem_append_left _ (List.mem_append_left _ (List.mem_append_left _ (List.mem_append_left _ (List.mem_of_getElem? (i := 0) rfl))))))))) (fun _ h9 => h9) rfl dX9_tried_1 ?_
  refine lv_iconst (v := 3) hx hb dX9_tried_4 (by decide) ?_
  refine lv_iload_n hx hb dX9_tried_5 rfl (lv_at hl 1 rfl) ?_
  have hPc := hP.sub (ws' := (c_X8_has k xl lt ltn ltl ltc lta (fun _ => 0) 3 w0)) [1, 2] rfl
  refine vp_callSi (va_Run.run (va_runV (As := [.int 3, .int w0]) (rest := []) ⟨hx, hb, hml, hown, hts⟩ (X8_has l D k xl lt ltn ltl ltc lta (fun _ => 0) 3 w0 (by decide) (rfl)) (cwV 2 hts gX9_tried_X8_has rfl rfl rfl (by decide +kernel) ⟨Nat.le_of_ble_eq_true rfl, Nat.le_of_ble_eq_true rfl⟩) ⟨PS.blind _ _ _ _, va_recv hG.1 hP (ci := 8) (q0 := 1) rfl rfl, PS.pre hPc hG [.ref xl, .int 3, .int w0]⟩ rfl rfl hl.1 rfl (lv_room (Nat.le_of_ble_eq_true rfl)) dX9_tried_6 ⟨Nat.le_of_ble_eq_true rfl, Nat.le_of_ble_eq_true rfl⟩)) (fun r hq => ?_)
  generalize r = y1 at hq ⊢
  have hq : y1 = 0 := hq
  refine tp_i (y := 0) (hq) ?_
  refine lv_if_ne (x := 0) (tgt := 15) hx hb dX9_tried_9 (by decide) (fun c2 => absurd c2 (by decide)) (fun c2 => ?_)
  refine lv_ldc (v := (-1000000001)) hx hb hown (hts (.constant RX9 147 (-1000000001)) (List.mem_cons_of_mem _ (List.mem_append_left _ (List.mem_append_left _ (List.mem_append_left _ (List.mem_append_left _ (List.mem_append_left _ (List.mem_append_left _ (List.mem_of_getElem? (i := 1) rfl))))))))) dX9_tried_12 ?_
  exact W.iret (v := (-1000000001)) hx hb hr (fun t9 ht _ => ⟨(-1000000001), rfl, rfl, ht⟩) (fun q h => by cases h) dX9_tried_14

abbrev c_X9_let (k : Nat → ClassId) (x : Nat) (xt : Nat) (xc : Nat) (xi : Nat) (xk : Nat) (xb : Nat) (xr : Nat) (xp : Nat) (xo : Nat) (xl : Nat) (xm : Nat) (xw : Nat) (xv : Nat) (fb : Int32) (lt : Nat) (ltn : Nat) (ltl : Nat) (ltc : Nat) (lta : Nat) (w0 : Int32) (w1 : Int32) (w2 : Int32) : va_W := [(x, .inr (9, [.ref xt, .ref xc, .ref xi, .ref xk, .ref xb, .ref xr, .ref xp, .ref xo, .ref xl, .ref xm, .ref xw, .ref xv, .int fb])), (xl, .inr (8, [.ref lt, .ref ltn, .ref ltl, .ref ltc, .ref lta])), (lt, .inl (k 0, 4, .inl (fun _ => 0)))]
abbrev r_X9_let : Room := { frames := 1, cells := 0, slots := 0, locals := 22 }
abbrev q_X9_let (k : Nat → ClassId) (x : Nat) (xt : Nat) (xc : Nat) (xi : Nat) (xk : Nat) (xb : Nat) (xr : Nat) (xp : Nat) (xo : Nat) (xl : Nat) (xm : Nat) (xw : Nat) (xv : Nat) (fb : Int32) (lt : Nat) (ltn : Nat) (ltl : Nat) (ltc : Nat) (lta : Nat) (w0 : Int32) (w1 : Int32) (w2 : Int32) : Array Value → State → Outcome → State → Prop := vp_Si (fun r => r = (-1000000001))
set_option maxHeartbeats 2000000 in
set_option maxRecDepth 100000 in
theorem X9_let (l : Launch) (D : va_G) (k : Nat → ClassId) (x : Nat) (xt : Nat) (xc : Nat) (xi : Nat) (xk : Nat) (xb : Nat) (xr : Nat) (xp : Nat) (xo : Nat) (xl : Nat) (xm : Nat) (xw : Nat) (xv : Nat) (fb : Int32) (lt : Nat) (ltn : Nat) (ltl : Nat) (ltc : Nat) (lta : Nat) (w0 : Int32) (w1 : Int32) (w2 : Int32)  : Met l yX9_let wsX9_let r_X9_let (va_Pc [.ref x, .int w0, .int w1, .int w2] (PS D k (c_X9_let k x xt xc xi xk xb xr xp xo xl xm xw xv fb lt ltn ltl ltc lta w0 w1 w2))) (q_X9_let k x xt xc xi xk xb xr xp xo xl xm xw xv fb lt ltn ltl ltc lta w0 w1 w2) 0 0 (fun _ => False) := by
  refine Met.ofW (cc := cX9_let) (maxL := 5) (ret := (some .int)) (by decide) rfl ?_
  intro p e s m args below meth c s₁ B hml hv
  obtain ⟨rfl, hP, hG⟩ := hv
  have hx := B.exec
  have hb := B.bytes
  have hr := B.returns
  have hts := atoms_spec (ws := wsX9_let) B.pre
  have hown : s.vm.findClass RX9 = some m.cls := findClass_of_methodNamed B.named
  have hlocks := B.notSynchronized
  have hi9 : ∀ w ∈ wsX90, w ∈ wsX9_let := fun _ h => List.mem_cons_of_mem _ (List.mem_append_left _ (List.mem_append_right _ h))
  have hi8 : ∀ w ∈ wsX80, w ∈ wsX9_let := fun _ h => List.mem_cons_of_mem _ (List.mem_append_right _ h)
  have hP : va_P D vwCl [(x, .inr (9, [.ref xt, .ref xc, .ref xi, .ref xk, .ref xb, .ref xr, .ref xp, .ref xo, .ref xl, .ref xm, .ref xw, .ref xv, .int fb])), (xl, .inr (8, [.ref lt, .ref ltn, .ref ltl, .ref ltc, .ref lta])), (lt, .inl (k 0, 4, .inl (fun _ => 0)))] s.heap := hP
  have hl := lv_entry ([.ref x, .int w0, .int w1, .int w2]) (n := 5) (Nat.le_of_ble_eq_true rfl)
  rw [lg_entry_eq]
  generalize (lg_sl ([.ref x, .int w0, .int w1, .int w2]) ++ List.replicate (5 - (lg_sl ([.ref x, .int w0, .int w1, .int w2])).length) Slot.unset).toArray = ls at hl ⊢
  have hl : lv_has ls 5 [(0, .ref x), (1, .int w0), (2, .int w1), (3, .int w2)] := hl
  refine lv_aload_n hx hb dX9_let_0 rfl (lv_at hl 0 rfl) ?_
  refine va_get (D := D) (ci := 9) (v := .ref xl) (C := RX9) (T := TX9) (N := 13) hx hb hts hi9 hown hG.1 hP 0 rfl rfl 8 (by decide) (hts (.fieldLink RX9 41 "SleptMatters" "place" "LSleptMatters$Town;") (List.mem_cons_of_mem _ (List.mem_append_left _ (List.mem_append_left _ (List.mem_append_left _ (List.mem_of_getElem? (i := 0) rfl)))))) (fun _ h9 => h9) rfl dX9_let_1 ?_
  refine lv_iconst (v := 1) hx hb dX9_let_4 (by decide) ?_
  refine lv_iload_n hx hb dX9_let_5 rfl (lv_at hl 1 rfl) ?_
  have hPc := hP.sub (ws' := (c_X8_has k xl lt ltn ltl ltc lta (fun _ => 0) 1 w0)) [1, 2] rfl
  refine vp_callSi (va_Run.run (va_runV (As := [.int 1, .int w0]) (rest := []) ⟨hx, hb, hml, hown, hts⟩ (X8_has l D k xl lt ltn ltl ltc lta (fun _ => 0) 1 w0 (by decide) (rfl)) (cwV 2 hts gX9_let_X8_has rfl rfl rfl (by decide +kernel) ⟨Nat.le_of_ble_eq_true rfl, Nat.le_of_ble_eq_true rfl⟩) ⟨PS.blind _ _ _ _, va_recv hG.1 hP (ci := 8) (q0 := 1) rfl rfl, PS.pre hPc hG [.ref xl, .int 1, .int w0]⟩ rfl rfl hl.1 rfl (lv_room (Nat.le_of_ble_eq_true rfl)) dX9_let_6 ⟨Nat.le_of_ble_eq_true rfl, Nat.le_of_ble_eq_true rfl⟩)) (fun r hq => ?_)
  generalize r = y1 at hq ⊢
  have hq : y1 = 0 := hq
  refine tp_i (y := 0) (hq) ?_
  refine lv_if_ne (x := 0) (tgt := 15) hx hb dX9_let_9 (by decide) (fun c2 => absurd c2 (by decide)) (fun c2 => ?_)
  refine lv_ldc (v := (-1000000001)) hx hb hown (hts (.constant RX9 147 (-1000000001)) (List.mem_cons_of_mem _ (List.mem_append_left _ (List.mem_append_left _ (List.mem_append_left _ (List.mem_of_getElem? (i := 1) rfl)))))) dX9_let_12 ?_
  exact W.iret (v := (-1000000001)) hx hb hr (fun t9 ht _ => ⟨(-1000000001), rfl, rfl, ht⟩) (fun q h => by cases h) dX9_let_14

abbrev c_X9_write (k : Nat → ClassId) (x : Nat) (xt : Nat) (xc : Nat) (xi : Nat) (xk : Nat) (xb : Nat) (xr : Nat) (xp : Nat) (xo : Nat) (xl : Nat) (xm : Nat) (xw : Nat) (xv : Nat) (fb : Int32) (lt : Nat) (ltn : Nat) (ltl : Nat) (ltc : Nat) (lta : Nat) (w0 : Int32) (w1 : Int32) (w2 : Int32) : va_W := [(x, .inr (9, [.ref xt, .ref xc, .ref xi, .ref xk, .ref xb, .ref xr, .ref xp, .ref xo, .ref xl, .ref xm, .ref xw, .ref xv, .int fb])), (xl, .inr (8, [.ref lt, .ref ltn, .ref ltl, .ref ltc, .ref lta])), (lt, .inl (k 0, 4, .inl (fun _ => 0)))]
abbrev r_X9_write : Room := { frames := 1, cells := 0, slots := 0, locals := 22 }
abbrev q_X9_write (k : Nat → ClassId) (x : Nat) (xt : Nat) (xc : Nat) (xi : Nat) (xk : Nat) (xb : Nat) (xr : Nat) (xp : Nat) (xo : Nat) (xl : Nat) (xm : Nat) (xw : Nat) (xv : Nat) (fb : Int32) (lt : Nat) (ltn : Nat) (ltl : Nat) (ltc : Nat) (lta : Nat) (w0 : Int32) (w1 : Int32) (w2 : Int32) : Array Value → State → Outcome → State → Prop := vp_Si (fun r => r = (-1000000001))
set_option maxHeartbeats 2000000 in
set_option maxRecDepth 100000 in
theorem X9_write (l : Launch) (D : va_G) (k : Nat → ClassId) (x : Nat) (xt : Nat) (xc : Nat) (xi : Nat) (xk : Nat) (xb : Nat) (xr : Nat) (xp : Nat) (xo : Nat) (xl : Nat) (xm : Nat) (xw : Nat) (xv : Nat) (fb : Int32) (lt : Nat) (ltn : Nat) (ltl : Nat) (ltc : Nat) (lta : Nat) (w0 : Int32) (w1 : Int32) (w2 : Int32)  : Met l yX9_write wsX9_write r_X9_write (va_Pc [.ref x, .int w0, .int w1, .int w2] (PS D k (c_X9_write k x xt xc xi xk xb xr xp xo xl xm xw xv fb lt ltn ltl ltc lta w0 w1 w2))) (q_X9_write k x xt xc xi xk xb xr xp xo xl xm xw xv fb lt ltn ltl ltc lta w0 w1 w2) 0 0 (fun _ => False) := by
  refine Met.ofW (cc := cX9_write) (maxL := 4) (ret := (some .int)) (by decide) rfl ?_
  intro p e s m args below meth c s₁ B hml hv
  obtain ⟨rfl, hP, hG⟩ := hv
  have hx := B.exec
  have hb := B.bytes
  have hr := B.returns
  have hts := atoms_spec (ws := wsX9_write) B.pre
  have hown : s.vm.findClass RX9 = some m.cls := findClass_of_methodNamed B.named
  have hlocks := B.notSynchronized
  have hi9 : ∀ w ∈ wsX90, w ∈ wsX9_write := fun _ h => List.mem_cons_of_mem _ (List.mem_append_left _ (List.mem_append_left _ (List.mem_append_right _ h)))
  have hi0 : ∀ w ∈ wsX00, w ∈ wsX9_write := fun _ h => List.mem_cons_of_mem _ (List.mem_append_left _ (List.mem_append_right _ h))
  have hi8 : ∀ w ∈ wsX80, w ∈ wsX9_write := fun _ h => List.mem_cons_of_mem _ (List.mem_append_right _ h)
  have hP : va_P D vwCl [(x, .inr (9, [.ref xt, .ref xc, .ref xi, .ref xk, .ref xb, .ref xr, .ref xp, .ref xo, .ref xl, .ref xm, .ref xw, .ref xv, .int fb])), (xl, .inr (8, [.ref lt, .ref ltn, .ref ltl, .ref ltc, .ref lta])), (lt, .inl (k 0, 4, .inl (fun _ => 0)))] s.heap := hP
  have hl := lv_entry ([.ref x, .int w0, .int w1, .int w2]) (n := 4) (Nat.le_of_ble_eq_true rfl)
  rw [lg_entry_eq]
  generalize (lg_sl ([.ref x, .int w0, .int w1, .int w2]) ++ List.replicate (4 - (lg_sl ([.ref x, .int w0, .int w1, .int w2])).length) Slot.unset).toArray = ls at hl ⊢
  have hl : lv_has ls 4 [(0, .ref x), (1, .int w0), (2, .int w1), (3, .int w2)] := hl
  refine lv_aload_n hx hb dX9_write_0 rfl (lv_at hl 0 rfl) ?_
  refine va_get (D := D) (ci := 9) (v := .ref xl) (C := RX9) (T := TX9) (N := 13) hx hb hts hi9 hown hG.1 hP 0 rfl rfl 8 (by decide) (hts (.fieldLink RX9 41 "SleptMatters" "place" "LSleptMatters$Town;") (List.mem_cons_of_mem _ (List.mem_append_left _ (List.mem_append_left _ (List.mem_append_left _ (List.mem_of_getElem? (i := 0) rfl)))))) (fun _ h9 => h9) rfl dX9_write_1 ?_
  refine lv_iconst (v := 1) hx hb dX9_write_4 (by decide) ?_
  refine lv_iload_n hx hb dX9_write_5 rfl (lv_at hl 2 rfl) ?_
  have hPc := hP.sub (ws' := (c_X8_has k xl lt ltn ltl ltc lta (fun _ => 0) 1 w1)) [1, 2] rfl
  refine vp_callSi (va_Run.run (va_runV (As := [.int 1, .int w1]) (rest := []) ⟨hx, hb, hml, hown, hts⟩ (X8_has l D k xl lt ltn ltl ltc lta (fun _ => 0) 1 w1 (by decide) (rfl)) (cwV 2 hts gX9_write_X8_has rfl rfl rfl (by decide +kernel) ⟨Nat.le_of_ble_eq_true rfl, Nat.le_of_ble_eq_true rfl⟩) ⟨PS.blind _ _ _ _, va_recv hG.1 hP (ci := 8) (q0 := 1) rfl rfl, PS.pre hPc hG [.ref xl, .int 1, .int w1]⟩ rfl rfl hl.1 rfl (lv_room (Nat.le_of_ble_eq_true rfl)) dX9_write_6 ⟨Nat.le_of_ble_eq_true rfl, Nat.le_of_ble_eq_true rfl⟩)) (fun r hq => ?_)
  generalize r = y1 at hq ⊢
  have hq : y1 = 0 := hq
  refine tp_i (y := 0) (hq) ?_
  refine lv_if_eq (x := 0) (tgt := 24) hx hb dX9_write_9 (by decide) (fun c2 => ?_) (fun c2 => absurd c2 (by decide))
  refine lv_ldc (v := (-1000000001)) hx hb hown (hts (.constant RX9 147 (-1000000001)) (List.mem_cons_of_mem _ (List.mem_append_left _ (List.mem_append_left _ (List.mem_append_left _ (List.mem_of_getElem? (i := 1) rfl)))))) dX9_write_24 ?_
  exact W.iret (v := (-1000000001)) hx hb hr (fun t9 ht _ => ⟨(-1000000001), rfl, rfl, ht⟩) (fun q h => by cases h) dX9_write_26

abbrev c_X9_judge (k : Nat → ClassId) (x : Nat) (xt : Nat) (xc : Nat) (xi : Nat) (xk : Nat) (xb : Nat) (xr : Nat) (xp : Nat) (xo : Nat) (xl : Nat) (xm : Nat) (xw : Nat) (xv : Nat) (fb : Int32) (lt : Nat) (ltn : Nat) (ltl : Nat) (ltc : Nat) (lta : Nat) (w0 : Int32) : va_W := [(x, .inr (9, [.ref xt, .ref xc, .ref xi, .ref xk, .ref xb, .ref xr, .ref xp, .ref xo, .ref xl, .ref xm, .ref xw, .ref xv, .int fb])), (xl, .inr (8, [.ref lt, .ref ltn, .ref ltl, .ref ltc, .ref lta])), (lt, .inl (k 0, 4, .inl (fun _ => 0)))]
abbrev r_X9_judge : Room := { frames := 1, cells := 0, slots := 0, locals := 22 }
abbrev q_X9_judge (k : Nat → ClassId) (x : Nat) (xt : Nat) (xc : Nat) (xi : Nat) (xk : Nat) (xb : Nat) (xr : Nat) (xp : Nat) (xo : Nat) (xl : Nat) (xm : Nat) (xw : Nat) (xv : Nat) (fb : Int32) (lt : Nat) (ltn : Nat) (ltl : Nat) (ltc : Nat) (lta : Nat) (w0 : Int32) : Array Value → State → Outcome → State → Prop := vp_Si (fun r => r = (-1000000001))
set_option maxHeartbeats 2000000 in
set_option maxRecDepth 100000 in
theorem X9_judge (l : Launch) (D : va_G) (k : Nat → ClassId) (x : Nat) (xt : Nat) (xc : Nat) (xi : Nat) (xk : Nat) (xb : Nat) (xr : Nat) (xp : Nat) (xo : Nat) (xl : Nat) (xm : Nat) (xw : Nat) (xv : Nat) (fb : Int32) (lt : Nat) (ltn : Nat) (ltl : Nat) (ltc : Nat) (lta : Nat) (w0 : Int32)  : Met l yX9_judge wsX9_judge r_X9_judge (va_Pc [.ref x, .int w0] (PS D k (c_X9_judge k x xt xc xi xk xb xr xp xo xl xm xw xv fb lt ltn ltl ltc lta w0))) (q_X9_judge k x xt xc xi xk xb xr xp xo xl xm xw xv fb lt ltn ltl ltc lta w0) 0 0 (fun _ => False) := by
  refine Met.ofW (cc := cX9_judge) (maxL := 2) (ret := (some .int)) (by decide) rfl ?_
  intro p e s m args below meth c s₁ B hml hv
  obtain ⟨rfl, hP, hG⟩ := hv
  have hx := B.exec
  have hb := B.bytes
  have hr := B.returns
  have hts := atoms_spec (ws := wsX9_judge) B.pre
  have hown : s.vm.findClass RX9 = some m.cls := findClass_of_methodNamed B.named
  have hlocks := B.notSynchronized
  have hi9 : ∀ w ∈ wsX90, w ∈ wsX9_judge := fun _ h => List.mem_cons_of_mem _ (List.mem_append_left _ (List.mem_append_left _ (List.mem_append_right _ h)))
  have hi8 : ∀ w ∈ wsX80, w ∈ wsX9_judge := fun _ h => List.mem_cons_of_mem _ (List.mem_append_left _ (List.mem_append_right _ h))
  have hi0 : ∀ w ∈ wsX00, w ∈ wsX9_judge := fun _ h => List.mem_cons_of_mem _ (List.mem_append_right _ h)
  have hP : va_P D vwCl [(x, .inr (9, [.ref xt, .ref xc, .ref xi, .ref xk, .ref xb, .ref xr, .ref xp, .ref xo, .ref xl, .ref xm, .ref xw, .ref xv, .int fb])), (xl, .inr (8, [.ref lt, .ref ltn, .ref ltl, .ref ltc, .ref lta])), (lt, .inl (k 0, 4, .inl (fun _ => 0)))] s.heap := hP
  have hl := lv_entry ([.ref x, .int w0]) (n := 2) (Nat.le_of_ble_eq_true rfl)
  rw [lg_entry_eq]
  generalize (lg_sl ([.ref x, .int w0]) ++ List.replicate (2 - (lg_sl ([.ref x, .int w0])).length) Slot.unset).toArray = ls at hl ⊢
  have hl : lv_has ls 2 [(0, .ref x), (1, .int w0)] := hl
  refine lv_aload_n hx hb dX9_judge_0 rfl (lv_at hl 0 rfl) ?_
  refine va_get (D := D) (ci := 9) (v := .ref xl) (C := RX9) (T := TX9) (N := 13) hx hb hts hi9 hown hG.1 hP 0 rfl rfl 8 (by decide) (hts (.fieldLink RX9 41 "SleptMatters" "place" "LSleptMatters$Town;") (List.mem_cons_of_mem _ (List.mem_append_left _ (List.mem_append_left _ (List.mem_append_left _ (List.mem_append_left _ (List.mem_of_getElem? (i := 0) rfl))))))) (fun _ h9 => h9) rfl dX9_judge_1 ?_
  refine lv_iconst (v := 3) hx hb dX9_judge_4 (by decide) ?_
  refine lv_iload_n hx hb dX9_judge_5 rfl (lv_at hl 1 rfl) ?_
  have hPc := hP.sub (ws' := (c_X8_has k xl lt ltn ltl ltc lta (fun _ => 0) 3 w0)) [1, 2] rfl
  refine vp_callSi (va_Run.run (va_runV (As := [.int 3, .int w0]) (rest := []) ⟨hx, hb, hml, hown, hts⟩ (X8_has l D k xl lt ltn ltl ltc lta (fun _ => 0) 3 w0 (by decide) (rfl)) (cwV 2 hts gX9_judge_X8_has rfl rfl rfl (by decide +kernel) ⟨Nat.le_of_ble_eq_true rfl, Nat.le_of_ble_eq_true rfl⟩) ⟨PS.blind _ _ _ _, va_recv hG.1 hP (ci := 8) (q0 := 1) rfl rfl, PS.pre hPc hG [.ref xl, .int 3, .int w0]⟩ rfl rfl hl.1 rfl (lv_room (Nat.le_of_ble_eq_true rfl)) dX9_judge_6 ⟨Nat.le_of_ble_eq_true rfl, Nat.le_of_ble_eq_true rfl⟩)) (fun r hq => ?_)
  generalize r = y1 at hq ⊢
  have hq : y1 = 0 := hq
  refine tp_i (y := 0) (hq) ?_
  refine lv_if_ne (x := 0) (tgt := 15) hx hb dX9_judge_9 (by decide) (fun c2 => absurd c2 (by decide)) (fun c2 => ?_)
  refine lv_ldc (v := (-1000000001)) hx hb hown (hts (.constant RX9 147 (-1000000001)) (List.mem_cons_of_mem _ (List.mem_append_left _ (List.mem_append_left _ (List.mem_append_left _ (List.mem_append_left _ (List.mem_of_getElem? (i := 1) rfl))))))) dX9_judge_12 ?_
  exact W.iret (v := (-1000000001)) hx hb hr (fun t9 ht _ => ⟨(-1000000001), rfl, rfl, ht⟩) (fun q h => by cases h) dX9_judge_14

abbrev c_X9_fault (k : Nat → ClassId) (x : Nat) (xt : Nat) (xc : Nat) (xi : Nat) (xk : Nat) (xb : Nat) (xr : Nat) (xp : Nat) (xo : Nat) (xl : Nat) (xm : Nat) (xw : Nat) (xv : Nat) (fb : Int32) : va_W := [(x, .inr (9, [.ref xt, .ref xc, .ref xi, .ref xk, .ref xb, .ref xr, .ref xp, .ref xo, .ref xl, .ref xm, .ref xw, .ref xv, .int fb]))]
abbrev r_X9_fault : Room := { frames := 0, cells := 0, slots := 0, locals := 0 }
abbrev q_X9_fault (k : Nat → ClassId) (x : Nat) (xt : Nat) (xc : Nat) (xi : Nat) (xk : Nat) (xb : Nat) (xr : Nat) (xp : Nat) (xo : Nat) (xl : Nat) (xm : Nat) (xw : Nat) (xv : Nat) (fb : Int32) : Array Value → State → Outcome → State → Prop := vp_Si (fun r => r = fb)
set_option maxHeartbeats 2000000 in
set_option maxRecDepth 100000 in
theorem X9_fault (l : Launch) (D : va_G) (k : Nat → ClassId) (x : Nat) (xt : Nat) (xc : Nat) (xi : Nat) (xk : Nat) (xb : Nat) (xr : Nat) (xp : Nat) (xo : Nat) (xl : Nat) (xm : Nat) (xw : Nat) (xv : Nat) (fb : Int32)  : Met l yX9_fault wsX9_fault r_X9_fault (va_Pc [.ref x] (PS D k (c_X9_fault k x xt xc xi xk xb xr xp xo xl xm xw xv fb))) (q_X9_fault k x xt xc xi xk xb xr xp xo xl xm xw xv fb) 0 0 (fun _ => False) := by
  refine Met.ofW (cc := cX9_fault) (maxL := 1) (ret := (some .int)) (by decide) rfl ?_
  intro p e s m args below meth c s₁ B hml hv
  obtain ⟨rfl, hP, hG⟩ := hv
  have hx := B.exec
  have hb := B.bytes
  have hr := B.returns
  have hts := atoms_spec (ws := wsX9_fault) B.pre
  have hown : s.vm.findClass RX9 = some m.cls := findClass_of_methodNamed B.named
  have hlocks := B.notSynchronized
  have hi9 : ∀ w ∈ wsX90, w ∈ wsX9_fault := fun _ h => List.mem_cons_of_mem _ (List.mem_append_right _ h)
  have hP : va_P D vwCl [(x, .inr (9, [.ref xt, .ref xc, .ref xi, .ref xk, .ref xb, .ref xr, .ref xp, .ref xo, .ref xl, .ref xm, .ref xw, .ref xv, .int fb]))] s.heap := hP
  have hl := lv_entry ([.ref x]) (n := 1) (Nat.le_of_ble_eq_true rfl)
  rw [lg_entry_eq]
  generalize (lg_sl ([.ref x]) ++ List.replicate (1 - (lg_sl ([.ref x])).length) Slot.unset).toArray = ls at hl ⊢
  have hl : lv_has ls 1 [(0, .ref x)] := hl
  refine lv_aload_n hx hb dX9_fault_0 rfl (lv_at hl 0 rfl) ?_
  refine va_get (D := D) (ci := 9) (v := .int fb) (C := RX9) (T := TX9) (N := 13) hx hb hts hi9 hown hG.1 hP 0 rfl rfl 12 (by decide) (hts (.fieldLink RX9 58 "SleptMatters" "faultByte" "I") (List.mem_cons_of_mem _ (List.mem_append_left _ (List.mem_of_getElem? (i := 0) rfl)))) (fun _ h9 => h9) rfl dX9_fault_1 ?_
  exact W.iret (v := fb) hx hb hr (fun t9 ht _ => ⟨fb, rfl, rfl, ht⟩) (fun q h => by cases h) dX9_fault_4

abbrev c_X8_noiseOf (k : Nat → ClassId) (h : Nat) (t : Nat) (tn : Nat) (tl : Nat) (tc : Nat) (ta : Nat) (sa : Int32) (sb : Int32) : va_W := [(h, .inr (8, [.ref t, .ref tn, .ref tl, .ref tc, .ref ta])), (tl, .inl (k 0, 400, .inl (fun _ => 0)))]
abbrev r_X8_noiseOf : Room := { frames := 0, cells := 0, slots := 0, locals := 0 }
abbrev q_X8_noiseOf (k : Nat → ClassId) (h : Nat) (t : Nat) (tn : Nat) (tl : Nat) (tc : Nat) (ta : Nat) (sa : Int32) (sb : Int32) : Array Value → State → Outcome → State → Prop := vp_Si (fun r => r = 0)
set_option maxHeartbeats 2000000 in
set_option maxRecDepth 100000 in
theorem X8_noiseOf (l : Launch) (D : va_G) (k : Nat → ClassId) (h : Nat) (t : Nat) (tn : Nat) (tl : Nat) (tc : Nat) (ta : Nat) (sa : Int32) (sb : Int32)  : Met l yX8_noiseOf wsX8_noiseOf r_X8_noiseOf (va_Pc [.ref h, .int sa, .int sb] (PS D k (c_X8_noiseOf k h t tn tl tc ta sa sb))) (q_X8_noiseOf k h t tn tl tc ta sa sb) 0 0 (fun _ => False) := by
  refine Met.ofW (cc := cX8_noiseOf) (maxL := 4) (ret := (some .int)) (by decide) rfl ?_
  intro p e s m args below meth c s₁ B hml hv
  obtain ⟨rfl, hP, hG⟩ := hv
  have hx := B.exec
  have hb := B.bytes
  have hr := B.returns
  have hts := atoms_spec (ws := wsX8_noiseOf) B.pre
  have hown : s.vm.findClass RX8 = some m.cls := findClass_of_methodNamed B.named
  have hlocks := B.notSynchronized
  have hi8 : ∀ w ∈ wsX80, w ∈ wsX8_noiseOf := fun _ h => List.mem_cons_of_mem _ (List.mem_append_right _ h)
  have hP : va_P D vwCl [(h, .inr (8, [.ref t, .ref tn, .ref tl, .ref tc, .ref ta])), (tl, .inl (k 0, 400, .inl (fun _ => 0)))] s.heap := hP
  have hl := lv_entry ([.ref h, .int sa, .int sb]) (n := 4) (Nat.le_of_ble_eq_true rfl)
  rw [lg_entry_eq]
  generalize (lg_sl ([.ref h, .int sa, .int sb]) ++ List.replicate (4 - (lg_sl ([.ref h, .int sa, .int sb])).length) Slot.unset).toArray = ls at hl ⊢
  have hl : lv_has ls 4 [(0, .ref h), (1, .int sa), (2, .int sb)] := hl
  refine lv_iload_n hx hb dX8_noiseOf_0 rfl (lv_at hl 1 rfl) ?_
  refine lv_if_lt (x := sa) (tgt := 23) hx hb dX8_noiseOf_1 (by decide) (fun c1 => ?_) (fun c1 => ?_)
  · skip
    refine lv_iconst (v := 0) hx hb dX8_noiseOf_23 (by decide) ?_
    refine lv_istore_n (lv' := [(3, .int 0), (0, .ref h), (1, .int sa), (2, .int sb)]) hx hb dX8_noiseOf_24 rfl hl (by decide) rfl (fun ls hl => ?_)
    refine lv_iload_n hx hb dX8_noiseOf_25 rfl (lv_at hl 0 rfl) ?_
    refine lv_if_eq (x := 0) (tgt := 43) hx hb dX8_noiseOf_26 (by decide) (fun c2 => ?_) (fun c2 => absurd c2 (by decide))
    refine lv_iconst (v := 0) hx hb dX8_noiseOf_43 (by decide) ?_
    exact W.iret (v := 0) hx hb hr (fun t9 ht _ => ⟨0, rfl, rfl, ht⟩) (fun q h => by cases h) dX8_noiseOf_44
  · skip
    refine lv_iload_n hx hb dX8_noiseOf_4 rfl (lv_at hl 1 rfl) ?_
    refine lv_iconst (v := 4) hx hb dX8_noiseOf_5 (by decide) ?_
    refine lv_icmp_ge (x := sa) (y := 4) (tgt := 23) hx hb dX8_noiseOf_6 (by decide) (fun c3 => ?_) (fun c3 => ?_)
    · skip
      refine lv_iconst (v := 0) hx hb dX8_noiseOf_23 (by decide) ?_
      refine lv_istore_n (lv' := [(3, .int 0), (0, .ref h), (1, .int sa), (2, .int sb)]) hx hb dX8_noiseOf_24 rfl hl (by decide) rfl (fun ls hl => ?_)
      refine lv_iload_n hx hb dX8_noiseOf_25 rfl (lv_at hl 0 rfl) ?_
      refine lv_if_eq (x := 0) (tgt := 43) hx hb dX8_noiseOf_26 (by decide) (fun c4 => ?_) (fun c4 => absurd c4 (by decide))
      refine lv_iconst (v := 0) hx hb dX8_noiseOf_43 (by decide) ?_
      exact W.iret (v := 0) hx hb hr (fun t9 ht _ => ⟨0, rfl, rfl, ht⟩) (fun q h => by cases h) dX8_noiseOf_44
    · skip
      refine lv_iload_n hx hb dX8_noiseOf_9 rfl (lv_at hl 2 rfl) ?_
      refine lv_if_lt (x := sb) (tgt := 23) hx hb dX8_noiseOf_10 (by decide) (fun c5 => ?_) (fun c5 => ?_)
      · skip
        refine lv_iconst (v := 0) hx hb dX8_noiseOf_23 (by decide) ?_
        refine lv_istore_n (lv' := [(3, .int 0), (0, .ref h), (1, .int sa), (2, .int sb)]) hx hb dX8_noiseOf_24 rfl hl (by decide) rfl (fun ls hl => ?_)
        refine lv_iload_n hx hb dX8_noiseOf_25 rfl (lv_at hl 0 rfl) ?_
        refine lv_if_eq (x := 0) (tgt := 43) hx hb dX8_noiseOf_26 (by decide) (fun c6 => ?_) (fun c6 => absurd c6 (by decide))
        refine lv_iconst (v := 0) hx hb dX8_noiseOf_43 (by decide) ?_
        exact W.iret (v := 0) hx hb hr (fun t9 ht _ => ⟨0, rfl, rfl, ht⟩) (fun q h => by cases h) dX8_noiseOf_44
      · skip
        refine lv_iload_n hx hb dX8_noiseOf_13 rfl (lv_at hl 2 rfl) ?_
        refine lv_bipush (v := 100) hx hb dX8_noiseOf_14 (by decide) ?_
        refine lv_icmp_ge (x := sb) (y := 100) (tgt := 23) hx hb dX8_noiseOf_16 (by decide) (fun c7 => ?_) (fun c7 => ?_)
        · skip
          refine lv_iconst (v := 0) hx hb dX8_noiseOf_23 (by decide) ?_
          refine lv_istore_n (lv' := [(3, .int 0), (0, .ref h), (1, .int sa), (2, .int sb)]) hx hb dX8_noiseOf_24 rfl hl (by decide) rfl (fun ls hl => ?_)
          refine lv_iload_n hx hb dX8_noiseOf_25 rfl (lv_at hl 0 rfl) ?_
          refine lv_if_eq (x := 0) (tgt := 43) hx hb dX8_noiseOf_26 (by decide) (fun c8 => ?_) (fun c8 => absurd c8 (by decide))
          refine lv_iconst (v := 0) hx hb dX8_noiseOf_43 (by decide) ?_
          exact W.iret (v := 0) hx hb hr (fun t9 ht _ => ⟨0, rfl, rfl, ht⟩) (fun q h => by cases h) dX8_noiseOf_44
        · skip
          refine lv_iconst (v := 1) hx hb dX8_noiseOf_19 (by decide) ?_
          refine lv_goto (tgt := 24) hx hb dX8_noiseOf_20 (by decide) ?_
          refine lv_istore_n (lv' := [(3, .int 1), (0, .ref h), (1, .int sa), (2, .int sb)]) hx hb dX8_noiseOf_24 rfl hl (by decide) rfl (fun ls hl => ?_)
          refine lv_iload_n hx hb dX8_noiseOf_25 rfl (lv_at hl 0 rfl) ?_
          refine lv_if_eq (x := 1) (tgt := 43) hx hb dX8_noiseOf_26 (by decide) (fun c9 => absurd c9 (by decide)) (fun c9 => ?_)
          refine lv_aload_n hx hb dX8_noiseOf_29 rfl (lv_at hl 1 rfl) ?_
          refine va_get (D := D) (ci := 8) (v := .ref tl) (C := RX8) (T := TX8) (N := 5) hx hb hts hi8 hown hG.1 hP 0 rfl rfl 2 (by decide) (hts (.fieldLink RX8 20 "SleptMatters$Town" "loudness" "[I") (List.mem_cons_of_mem _ (List.mem_append_left _ (List.mem_of_getElem? (i := 0) rfl)))) (fun _ h9 => h9) rfl dX8_noiseOf_30 ?_
          refine lv_iload_n hx hb dX8_noiseOf_33 rfl (lv_at hl 2 rfl) ?_
          refine lv_bipush (v := 100) hx hb dX8_noiseOf_34 (by decide) ?_
          refine lv_imul hx hb dX8_noiseOf_36 ?_
          refine lv_iload_n hx hb dX8_noiseOf_37 rfl (lv_at hl 3 rfl) ?_
          refine lv_iadd hx hb dX8_noiseOf_38 ?_
          refine va_iald hx hb hG.1 hP 1 0 rfl rfl (in_noise c1 c3 c5 c7) dX8_noiseOf_39 ?_
          refine tp_i (y := 0) (rfl) ?_
          refine lv_goto (tgt := 44) hx hb dX8_noiseOf_40 (by decide) ?_
          exact W.iret (v := 0) hx hb hr (fun t9 ht _ => ⟨0, rfl, rfl, ht⟩) (fun q h => by cases h) dX8_noiseOf_44

abbrev c_X9_noise (k : Nat → ClassId) (x : Nat) (xt : Nat) (xc : Nat) (xi : Nat) (xk : Nat) (xb : Nat) (xr : Nat) (xp : Nat) (xo : Nat) (xl : Nat) (xm : Nat) (xw : Nat) (xv : Nat) (fb : Int32) (lt : Nat) (ltn : Nat) (ltl : Nat) (ltc : Nat) (lta : Nat) (sa : Int32) (sb : Int32) : va_W := [(x, .inr (9, [.ref xt, .ref xc, .ref xi, .ref xk, .ref xb, .ref xr, .ref xp, .ref xo, .ref xl, .ref xm, .ref xw, .ref xv, .int fb])), (xl, .inr (8, [.ref lt, .ref ltn, .ref ltl, .ref ltc, .ref lta])), (ltl, .inl (k 0, 400, .inl (fun _ => 0)))]
abbrev r_X9_noise : Room := { frames := 1, cells := 0, slots := 0, locals := 23 }
abbrev q_X9_noise (k : Nat → ClassId) (x : Nat) (xt : Nat) (xc : Nat) (xi : Nat) (xk : Nat) (xb : Nat) (xr : Nat) (xp : Nat) (xo : Nat) (xl : Nat) (xm : Nat) (xw : Nat) (xv : Nat) (fb : Int32) (lt : Nat) (ltn : Nat) (ltl : Nat) (ltc : Nat) (lta : Nat) (sa : Int32) (sb : Int32) : Array Value → State → Outcome → State → Prop := vp_Si (fun r => r = noA sa sb)
set_option maxHeartbeats 2000000 in
set_option maxRecDepth 100000 in
theorem X9_noise (l : Launch) (D : va_G) (k : Nat → ClassId) (x : Nat) (xt : Nat) (xc : Nat) (xi : Nat) (xk : Nat) (xb : Nat) (xr : Nat) (xp : Nat) (xo : Nat) (xl : Nat) (xm : Nat) (xw : Nat) (xv : Nat) (fb : Int32) (lt : Nat) (ltn : Nat) (ltl : Nat) (ltc : Nat) (lta : Nat) (sa : Int32) (sb : Int32)  : Met l yX9_noise wsX9_noise r_X9_noise (va_Pc [.ref x, .int sa, .int sb] (PS D k (c_X9_noise k x xt xc xi xk xb xr xp xo xl xm xw xv fb lt ltn ltl ltc lta sa sb))) (q_X9_noise k x xt xc xi xk xb xr xp xo xl xm xw xv fb lt ltn ltl ltc lta sa sb) 0 0 (fun _ => False) := by
  refine Met.ofW (cc := cX9_noise) (maxL := 3) (ret := (some .int)) (by decide) rfl ?_
  intro p e s m args below meth c s₁ B hml hv
  obtain ⟨rfl, hP, hG⟩ := hv
  have hx := B.exec
  have hb := B.bytes
  have hr := B.returns
  have hts := atoms_spec (ws := wsX9_noise) B.pre
  have hown : s.vm.findClass RX9 = some m.cls := findClass_of_methodNamed B.named
  have hlocks := B.notSynchronized
  have hi9 : ∀ w ∈ wsX90, w ∈ wsX9_noise := fun _ h => List.mem_cons_of_mem _ (List.mem_append_left _ (List.mem_append_right _ h))
  have hi8 : ∀ w ∈ wsX80, w ∈ wsX9_noise := fun _ h => List.mem_cons_of_mem _ (List.mem_append_right _ h)
  have hP : va_P D vwCl [(x, .inr (9, [.ref xt, .ref xc, .ref xi, .ref xk, .ref xb, .ref xr, .ref xp, .ref xo, .ref xl, .ref xm, .ref xw, .ref xv, .int fb])), (xl, .inr (8, [.ref lt, .ref ltn, .ref ltl, .ref ltc, .ref lta])), (ltl, .inl (k 0, 400, .inl (fun _ => 0)))] s.heap := hP
  have hl := lv_entry ([.ref x, .int sa, .int sb]) (n := 3) (Nat.le_of_ble_eq_true rfl)
  rw [lg_entry_eq]
  generalize (lg_sl ([.ref x, .int sa, .int sb]) ++ List.replicate (3 - (lg_sl ([.ref x, .int sa, .int sb])).length) Slot.unset).toArray = ls at hl ⊢
  have hl : lv_has ls 3 [(0, .ref x), (1, .int sa), (2, .int sb)] := hl
  refine lv_iload_n hx hb dX9_noise_0 rfl (lv_at hl 1 rfl) ?_
  refine lv_if_lt (x := sa) (tgt := 20) hx hb dX9_noise_1 (by decide) (fun c1 => ?_) (fun c1 => ?_)
  · skip
    refine lv_ldc (v := (-1000000002)) hx hb hown (hts (.constant RX9 87 (-1000000002)) (List.mem_cons_of_mem _ (List.mem_append_left _ (List.mem_append_left _ (List.mem_of_getElem? (i := 0) rfl))))) dX9_noise_20 ?_
    exact W.iret (v := (-1000000002)) hx hb hr (fun t9 ht _ => ⟨(-1000000002), rfl, by simp [noA, c1], ht⟩) (fun q h => by cases h) dX9_noise_22
  · skip
    refine lv_iload_n hx hb dX9_noise_4 rfl (lv_at hl 1 rfl) ?_
    refine lv_iconst (v := 4) hx hb dX9_noise_5 (by decide) ?_
    refine lv_icmp_ge (x := sa) (y := 4) (tgt := 20) hx hb dX9_noise_6 (by decide) (fun c2 => ?_) (fun c2 => ?_)
    · skip
      refine lv_ldc (v := (-1000000002)) hx hb hown (hts (.constant RX9 87 (-1000000002)) (List.mem_cons_of_mem _ (List.mem_append_left _ (List.mem_append_left _ (List.mem_of_getElem? (i := 0) rfl))))) dX9_noise_20 ?_
      exact W.iret (v := (-1000000002)) hx hb hr (fun t9 ht _ => ⟨(-1000000002), rfl, by simp [noA, c1, c2], ht⟩) (fun q h => by cases h) dX9_noise_22
    · skip
      refine lv_iload_n hx hb dX9_noise_9 rfl (lv_at hl 2 rfl) ?_
      refine lv_if_lt (x := sb) (tgt := 20) hx hb dX9_noise_10 (by decide) (fun c3 => ?_) (fun c3 => ?_)
      · skip
        refine lv_ldc (v := (-1000000002)) hx hb hown (hts (.constant RX9 87 (-1000000002)) (List.mem_cons_of_mem _ (List.mem_append_left _ (List.mem_append_left _ (List.mem_of_getElem? (i := 0) rfl))))) dX9_noise_20 ?_
        exact W.iret (v := (-1000000002)) hx hb hr (fun t9 ht _ => ⟨(-1000000002), rfl, by simp [noA, c1, c2, c3], ht⟩) (fun q h => by cases h) dX9_noise_22
      · skip
        refine lv_iload_n hx hb dX9_noise_13 rfl (lv_at hl 2 rfl) ?_
        refine lv_sipush (v := 999) hx hb dX9_noise_14 (by decide) ?_
        refine lv_icmp_le (x := sb) (y := 999) (tgt := 23) hx hb dX9_noise_17 (by decide) (fun c4 => ?_) (fun c4 => ?_)
        · skip
          refine lv_aload_n hx hb dX9_noise_23 rfl (lv_at hl 0 rfl) ?_
          refine va_get (D := D) (ci := 9) (v := .ref xl) (C := RX9) (T := TX9) (N := 13) hx hb hts hi9 hown hG.1 hP 0 rfl rfl 8 (by decide) (hts (.fieldLink RX9 41 "SleptMatters" "place" "LSleptMatters$Town;") (List.mem_cons_of_mem _ (List.mem_append_left _ (List.mem_append_left _ (List.mem_of_getElem? (i := 1) rfl))))) (fun _ h9 => h9) rfl dX9_noise_24 ?_
          refine lv_iload_n hx hb dX9_noise_27 rfl (lv_at hl 1 rfl) ?_
          refine lv_iload_n hx hb dX9_noise_28 rfl (lv_at hl 2 rfl) ?_
          have hPc := hP.sub (ws' := (c_X8_noiseOf k xl lt ltn ltl ltc lta sa sb)) [1, 2] rfl
          refine vp_callSi (va_Run.run (va_runV (As := [.int sa, .int sb]) (rest := []) ⟨hx, hb, hml, hown, hts⟩ (X8_noiseOf l D k xl lt ltn ltl ltc lta sa sb ) (cwV 2 hts gX9_noise_X8_noiseOf rfl rfl rfl (by decide +kernel) ⟨Nat.le_of_ble_eq_true rfl, Nat.le_of_ble_eq_true rfl⟩) ⟨PS.blind _ _ _ _, va_recv hG.1 hP (ci := 8) (q0 := 1) rfl rfl, PS.pre hPc hG [.ref xl, .int sa, .int sb]⟩ rfl rfl hl.1 rfl (lv_room (Nat.le_of_ble_eq_true rfl)) dX9_noise_29 ⟨Nat.le_of_ble_eq_true rfl, Nat.le_of_ble_eq_true rfl⟩)) (fun r hq => ?_)
          generalize r = y5 at hq ⊢
          have hq : y5 = 0 := hq
          refine tp_i (y := 0) (hq) ?_
          exact W.iret (v := 0) hx hb hr (fun t9 ht _ => ⟨0, rfl, by simp [noA, c1, c2, c3, c4], ht⟩) (fun q h => by cases h) dX9_noise_32
        · skip
          refine lv_ldc (v := (-1000000002)) hx hb hown (hts (.constant RX9 87 (-1000000002)) (List.mem_cons_of_mem _ (List.mem_append_left _ (List.mem_append_left _ (List.mem_of_getElem? (i := 0) rfl))))) dX9_noise_20 ?_
          exact W.iret (v := (-1000000002)) hx hb hr (fun t9 ht _ => ⟨(-1000000002), rfl, by simp [noA, c1, c2, c3, c4], ht⟩) (fun q h => by cases h) dX9_noise_22

abbrev c_X2_score (k : Nat → ClassId) (h : Nat) (q0 : Nat) (q1 : Nat) (q2 : Nat) (q3 : Nat) (q4 : Nat) (q5 : Nat) (q6 : Nat) (t0 : Nat) (t : Nat) (tn : Nat) (tl : Nat) (tc : Nat) (ta : Nat) (dy : Int32) (sd : Int32) : va_W := [(h, .inr (2, [.ref q0, .ref q1, .ref q2, .ref q3, .ref q4, .ref q5, .ref q6, .int 0, .int dy, .int sd])), (t0, .inr (8, [.ref t, .ref tn, .ref tl, .ref tc, .ref ta])), (t, .inl (k 0, 4, .inl (fun _ => 0)))]
abbrev r_X2_score : Room := { frames := 1, cells := 0, slots := 0, locals := 21 }
abbrev q_X2_score (k : Nat → ClassId) (h : Nat) (q0 : Nat) (q1 : Nat) (q2 : Nat) (q3 : Nat) (q4 : Nat) (q5 : Nat) (q6 : Nat) (t0 : Nat) (t : Nat) (tn : Nat) (tl : Nat) (tc : Nat) (ta : Nat) (dy : Int32) (sd : Int32) : Array Value → State → Outcome → State → Prop := vp_Si (fun r => r = 0)
set_option maxHeartbeats 2000000 in
set_option maxRecDepth 100000 in
theorem X2_score (l : Launch) (D : va_G) (k : Nat → ClassId) (h : Nat) (q0 : Nat) (q1 : Nat) (q2 : Nat) (q3 : Nat) (q4 : Nat) (q5 : Nat) (q6 : Nat) (t0 : Nat) (t : Nat) (tn : Nat) (tl : Nat) (tc : Nat) (ta : Nat) (dy : Int32) (sd : Int32)  : Met l yX2_score wsX2_score r_X2_score (va_Pc [.ref h, .ref t0] (PS D k (c_X2_score k h q0 q1 q2 q3 q4 q5 q6 t0 t tn tl tc ta dy sd))) (q_X2_score k h q0 q1 q2 q3 q4 q5 q6 t0 t tn tl tc ta dy sd) 0 0 (fun _ => False) := by
  refine Met.ofW (cc := cX2_score) (maxL := 7) (ret := (some .int)) (by decide) rfl ?_
  intro p e s m args below meth c s₁ B hml hv
  obtain ⟨rfl, hP, hG⟩ := hv
  have hx := B.exec
  have hb := B.bytes
  have hr := B.returns
  have hts := atoms_spec (ws := wsX2_score) B.pre
  have hown : s.vm.findClass RX2 = some m.cls := findClass_of_methodNamed B.named
  have hlocks := B.notSynchronized
  have hi2 : ∀ w ∈ wsX20, w ∈ wsX2_score := fun _ h => List.mem_cons_of_mem _ (List.mem_append_left _ (List.mem_append_right _ h))
  have hi8 : ∀ w ∈ wsX80, w ∈ wsX2_score := fun _ h => List.mem_cons_of_mem _ (List.mem_append_right _ h)
  have hP : va_P D vwCl [(h, .inr (2, [.ref q0, .ref q1, .ref q2, .ref q3, .ref q4, .ref q5, .ref q6, .int 0, .int dy, .int sd])), (t0, .inr (8, [.ref t, .ref tn, .ref tl, .ref tc, .ref ta])), (t, .inl (k 0, 4, .inl (fun _ => 0)))] s.heap := hP
  have hl := lv_entry ([.ref h, .ref t0]) (n := 7) (Nat.le_of_ble_eq_true rfl)
  rw [lg_entry_eq]
  generalize (lg_sl ([.ref h, .ref t0]) ++ List.replicate (7 - (lg_sl ([.ref h, .ref t0])).length) Slot.unset).toArray = ls at hl ⊢
  have hl : lv_has ls 7 [(0, .ref h), (1, .ref t0)] := hl
  refine lv_aload_n hx hb dX2_score_0 rfl (lv_at hl 0 rfl) ?_
  refine va_get (D := D) (ci := 2) (v := .int 0) (C := RX2) (T := TX2) (N := 10) hx hb hts hi2 hown hG.1 hP 0 rfl rfl 7 (by decide) (hts (.fieldLink RX2 33 "SleptMatters$Course" "wages" "I") (List.mem_cons_of_mem _ (List.mem_append_left _ (List.mem_append_left _ (List.mem_of_getElem? (i := 0) rfl))))) (fun _ h9 => h9) rfl dX2_score_1 ?_
  refine lv_ineg hx hb dX2_score_4 ?_
  refine tp_i (y := 0) (by decide) ?_
  refine lv_istore_n (lv' := [(2, .int 0), (0, .ref h), (1, .ref t0)]) hx hb dX2_score_5 rfl hl (by decide) rfl (fun ls hl => ?_)
  refine lv_iconst (v := 0) hx hb dX2_score_6 (by decide) ?_
  refine lv_istore_n (lv' := [(3, .int 0), (2, .int 0), (0, .ref h), (1, .ref t0)]) hx hb dX2_score_7 rfl hl (by decide) rfl (fun ls hl => ?_)
  refine lv_iload_n hx hb dX2_score_8 rfl (lv_at hl 0 rfl) ?_
  refine lv_aload_n hx hb dX2_score_9 rfl (lv_at hl 3 rfl) ?_
  refine lv_iconst (v := 3) hx hb dX2_score_10 (by decide) ?_
  have hPc := hP.sub (ws' := (c_X8_count k t0 t tn tl tc ta (fun _ => 0) 3)) [1, 2] rfl
  refine vp_callSi (va_Run.run (va_runV (As := [.int 3]) (rest := [.int 0]) ⟨hx, hb, hml, hown, hts⟩ (X8_count l D k t0 t tn tl tc ta (fun _ => 0) 3 (by decide)) (cwV 1 hts gX2_score_X8_count rfl rfl rfl (by decide +kernel) ⟨Nat.le_of_ble_eq_true rfl, Nat.le_of_ble_eq_true rfl⟩) ⟨PS.blind _ _ _ _, va_recv hG.1 hP (ci := 8) (q0 := 1) rfl rfl, PS.pre hPc hG [.ref t0, .int 3]⟩ rfl rfl hl.1 rfl (lv_room (Nat.le_of_ble_eq_true rfl)) dX2_score_11 ⟨Nat.le_of_ble_eq_true rfl, Nat.le_of_ble_eq_true rfl⟩)) (fun r hq => ?_)
  generalize r = y1 at hq ⊢
  have hq : y1 = (fun _ => 0) 3 := hq
  refine tp_i (y := 0) (hq) ?_
  refine lv_icmp_ge (x := 0) (y := 0) (tgt := 121) hx hb dX2_score_14 (by decide) (fun c2 => ?_) (fun c2 => absurd c2 (by decide))
  refine lv_iload_n hx hb dX2_score_121 rfl (lv_at hl 1 rfl) ?_
  exact W.iret (v := 0) hx hb hr (fun t9 ht _ => ⟨0, rfl, rfl, ht⟩) (fun q h => by cases h) dX2_score_122

abbrev c_X9_told (k : Nat → ClassId) (x : Nat) (xt : Nat) (xc : Nat) (xi : Nat) (xk : Nat) (xb : Nat) (xr : Nat) (xp : Nat) (xo : Nat) (xl : Nat) (xm : Nat) (xw : Nat) (xv : Nat) (fb : Int32) (lt : Nat) (ltn : Nat) (ltl : Nat) (ltc : Nat) (lta : Nat) (xtb : Nat) (c0 : Nat) (c1 : Nat) (c2 : Nat) (c3 : Nat) (c4 : Nat) (c5 : Nat) (c6 : Nat) (b1 : Nat) (b2 : Nat) (b3 : Nat) (w : Int32) : va_W := [(x, .inr (9, [.ref xt, .ref xc, .ref xi, .ref xk, .ref xb, .ref xr, .ref xp, .ref xo, .ref xl, .ref xm, .ref xw, .ref xv, .int fb])), (xl, .inr (8, [.ref lt, .ref ltn, .ref ltl, .ref ltc, .ref lta])), (lt, .inl (k 0, 4, .inl (fun _ => 0))), (xw, .inr (3, [.int 7, .int 4, .int 1, .int 0, .int 0])), (xc, .inr (2, [.ref c0, .ref c1, .ref c2, .ref c3, .ref c4, .ref c5, .ref c6, .int 0, .int 0, .int 0])), (xt, .inr (7, [.ref xtb, .int 0, .int 0, .int 0, .int 0, .int (-1), .int 0, .int 0])), (xb, .inr (0, [.int 0, .ref b1, .ref b2, .ref b3]))]
abbrev r_X9_told : Room := { frames := 2, cells := 0, slots := 0, locals := 47 }
abbrev q_X9_told (k : Nat → ClassId) (x : Nat) (xt : Nat) (xc : Nat) (xi : Nat) (xk : Nat) (xb : Nat) (xr : Nat) (xp : Nat) (xo : Nat) (xl : Nat) (xm : Nat) (xw : Nat) (xv : Nat) (fb : Int32) (lt : Nat) (ltn : Nat) (ltl : Nat) (ltc : Nat) (lta : Nat) (xtb : Nat) (c0 : Nat) (c1 : Nat) (c2 : Nat) (c3 : Nat) (c4 : Nat) (c5 : Nat) (c6 : Nat) (b1 : Nat) (b2 : Nat) (b3 : Nat) (w : Int32) : Array Value → State → Outcome → State → Prop := vp_Si (fun r => r = toA w)
set_option maxHeartbeats 2000000 in
set_option maxRecDepth 100000 in
theorem X9_told (l : Launch) (D : va_G) (k : Nat → ClassId) (x : Nat) (xt : Nat) (xc : Nat) (xi : Nat) (xk : Nat) (xb : Nat) (xr : Nat) (xp : Nat) (xo : Nat) (xl : Nat) (xm : Nat) (xw : Nat) (xv : Nat) (fb : Int32) (lt : Nat) (ltn : Nat) (ltl : Nat) (ltc : Nat) (lta : Nat) (xtb : Nat) (c0 : Nat) (c1 : Nat) (c2 : Nat) (c3 : Nat) (c4 : Nat) (c5 : Nat) (c6 : Nat) (b1 : Nat) (b2 : Nat) (b3 : Nat) (w : Int32)  : Met l yX9_told wsX9_told r_X9_told (va_Pc [.ref x, .int w] (PS D k (c_X9_told k x xt xc xi xk xb xr xp xo xl xm xw xv fb lt ltn ltl ltc lta xtb c0 c1 c2 c3 c4 c5 c6 b1 b2 b3 w))) (q_X9_told k x xt xc xi xk xb xr xp xo xl xm xw xv fb lt ltn ltl ltc lta xtb c0 c1 c2 c3 c4 c5 c6 b1 b2 b3 w) 0 0 (fun _ => False) := by
  refine Met.ofW (cc := cX9_told) (maxL := 2) (ret := (some .int)) (by decide) rfl ?_
  intro p e s m args below meth c s₁ B hml hv
  obtain ⟨rfl, hP, hG⟩ := hv
  have hx := B.exec
  have hb := B.bytes
  have hr := B.returns
  have hts := atoms_spec (ws := wsX9_told) B.pre
  have hown : s.vm.findClass RX9 = some m.cls := findClass_of_methodNamed B.named
  have hlocks := B.notSynchronized
  have hi9 : ∀ w ∈ wsX90, w ∈ wsX9_told := fun _ h => List.mem_cons_of_mem _ (List.mem_append_left _ (List.mem_append_left _ (List.mem_append_left _ (List.mem_append_left _ (List.mem_append_left _ (List.mem_append_right _ h))))))
  have hi3 : ∀ w ∈ wsX30, w ∈ wsX9_told := fun _ h => List.mem_cons_of_mem _ (List.mem_append_left _ (List.mem_append_left _ (List.mem_append_left _ (List.mem_append_left _ (List.mem_append_right _ h)))))
  have hi2 : ∀ w ∈ wsX20, w ∈ wsX9_told := fun _ h => List.mem_cons_of_mem _ (List.mem_append_left _ (List.mem_append_left _ (List.mem_append_left _ (List.mem_append_right _ h))))
  have hi7 : ∀ w ∈ wsX70, w ∈ wsX9_told := fun _ h => List.mem_cons_of_mem _ (List.mem_append_left _ (List.mem_append_left _ (List.mem_append_right _ h)))
  have hi0 : ∀ w ∈ wsX00, w ∈ wsX9_told := fun _ h => List.mem_cons_of_mem _ (List.mem_append_left _ (List.mem_append_right _ h))
  have hi8 : ∀ w ∈ wsX80, w ∈ wsX9_told := fun _ h => List.mem_cons_of_mem _ (List.mem_append_right _ h)
  have hP : va_P D vwCl [(x, .inr (9, [.ref xt, .ref xc, .ref xi, .ref xk, .ref xb, .ref xr, .ref xp, .ref xo, .ref xl, .ref xm, .ref xw, .ref xv, .int fb])), (xl, .inr (8, [.ref lt, .ref ltn, .ref ltl, .ref ltc, .ref lta])), (lt, .inl (k 0, 4, .inl (fun _ => 0))), (xw, .inr (3, [.int 7, .int 4, .int 1, .int 0, .int 0])), (xc, .inr (2, [.ref c0, .ref c1, .ref c2, .ref c3, .ref c4, .ref c5, .ref c6, .int 0, .int 0, .int 0])), (xt, .inr (7, [.ref xtb, .int 0, .int 0, .int 0, .int 0, .int (-1), .int 0, .int 0])), (xb, .inr (0, [.int 0, .ref b1, .ref b2, .ref b3]))] s.heap := hP
  have hl := lv_entry ([.ref x, .int w]) (n := 2) (Nat.le_of_ble_eq_true rfl)
  rw [lg_entry_eq]
  generalize (lg_sl ([.ref x, .int w]) ++ List.replicate (2 - (lg_sl ([.ref x, .int w])).length) Slot.unset).toArray = ls at hl ⊢
  have hl : lv_has ls 2 [(0, .ref x), (1, .int w)] := hl
  refine lv_iload_n hx hb dX9_told_0 rfl (lv_at hl 1 rfl) ?_
  by_cases ho : w.toInt < 0 ∨ 10 < w.toInt
  · skip
    refine lv_tableOut (tgt := 163) hx hb dX9_told_1 ho (by decide) ?_
    refine lv_ldc (v := (-1000000002)) hx hb hown (hts (.constant RX9 87 (-1000000002)) (List.mem_cons_of_mem _ (List.mem_append_left _ (List.mem_append_left _ (List.mem_append_left _ (List.mem_append_left _ (List.mem_append_left _ (List.mem_append_left _ (List.mem_append_left _ (List.mem_of_getElem? (i := 12) rfl)))))))))) dX9_told_163 ?_
    exact W.iret (v := (-1000000002)) hx hb hr (fun t9 ht _ => ⟨(-1000000002), rfl, (show toA w = _ from if_pos ho).symm, ht⟩) (fun q h => by cases h) dX9_told_165
  · skip
    obtain ⟨o, ho1, rfl⟩ : ∃ o : Nat, o < 11 ∧ w = nI o := sw_nat (x := w) (n := 11) (by omega) (by omega)
    rcases o with _ | o
    · skip
      refine lv_tableIn (off := 59) (tgt := 60) hx hb dX9_told_1 (by decide) (by decide) (by decide) (by decide) ?_
      refine lv_aload_n hx hb dX9_told_60 rfl (lv_at hl 0 rfl) ?_
      refine va_get (D := D) (ci := 9) (v := .ref xl) (C := RX9) (T := TX9) (N := 13) hx hb hts hi9 hown hG.1 hP 0 rfl rfl 8 (by decide) (hts (.fieldLink RX9 41 "SleptMatters" "place" "LSleptMatters$Town;") (List.mem_cons_of_mem _ (List.mem_append_left _ (List.mem_append_left _ (List.mem_append_left _ (List.mem_append_left _ (List.mem_append_left _ (List.mem_append_left _ (List.mem_append_left _ (List.mem_of_getElem? (i := 0) rfl)))))))))) (fun _ h9 => h9) rfl dX9_told_61 ?_
      refine lv_iconst (v := 0) hx hb dX9_told_64 (by decide) ?_
      have hPc := hP.sub (ws' := (c_X8_count k xl lt ltn ltl ltc lta (fun _ => 0) 0)) [1, 2] rfl
      refine vp_callSi (va_Run.run (va_runV (As := [.int 0]) (rest := []) ⟨hx, hb, hml, hown, hts⟩ (X8_count l D k xl lt ltn ltl ltc lta (fun _ => 0) 0 (by decide)) (cwV 1 hts gX9_told_X8_count rfl rfl rfl (by decide +kernel) ⟨Nat.le_of_ble_eq_true rfl, Nat.le_of_ble_eq_true rfl⟩) ⟨PS.blind _ _ _ _, va_recv hG.1 hP (ci := 8) (q0 := 1) rfl rfl, PS.pre hPc hG [.ref xl, .int 0]⟩ rfl rfl hl.1 rfl (lv_room (Nat.le_of_ble_eq_true rfl)) dX9_told_65 ⟨Nat.le_of_ble_eq_true rfl, Nat.le_of_ble_eq_true rfl⟩)) (fun r hq => ?_)
      generalize r = y1 at hq ⊢
      have hq : y1 = (fun _ => 0) 0 := hq
      refine tp_i (y := 0) (hq) ?_
      exact W.iret (v := 0) hx hb hr (fun t9 ht _ => ⟨0, rfl, by decide, ht⟩) (fun q h => by cases h) dX9_told_68
    rcases o with _ | o
    · skip
      refine lv_tableIn (off := 68) (tgt := 69) hx hb dX9_told_1 (by decide) (by decide) (by decide) (by decide) ?_
      refine lv_aload_n hx hb dX9_told_69 rfl (lv_at hl 0 rfl) ?_
      refine va_get (D := D) (ci := 9) (v := .ref xl) (C := RX9) (T := TX9) (N := 13) hx hb hts hi9 hown hG.1 hP 0 rfl rfl 8 (by decide) (hts (.fieldLink RX9 41 "SleptMatters" "place" "LSleptMatters$Town;") (List.mem_cons_of_mem _ (List.mem_append_left _ (List.mem_append_left _ (List.mem_append_left _ (List.mem_append_left _ (List.mem_append_left _ (List.mem_append_left _ (List.mem_append_left _ (List.mem_of_getElem? (i := 0) rfl)))))))))) (fun _ h9 => h9) rfl dX9_told_70 ?_
      refine lv_iconst (v := 1) hx hb dX9_told_73 (by decide) ?_
      have hPc := hP.sub (ws' := (c_X8_count k xl lt ltn ltl ltc lta (fun _ => 0) 1)) [1, 2] rfl
      refine vp_callSi (va_Run.run (va_runV (As := [.int 1]) (rest := []) ⟨hx, hb, hml, hown, hts⟩ (X8_count l D k xl lt ltn ltl ltc lta (fun _ => 0) 1 (by decide)) (cwV 1 hts gX9_told_X8_count rfl rfl rfl (by decide +kernel) ⟨Nat.le_of_ble_eq_true rfl, Nat.le_of_ble_eq_true rfl⟩) ⟨PS.blind _ _ _ _, va_recv hG.1 hP (ci := 8) (q0 := 1) rfl rfl, PS.pre hPc hG [.ref xl, .int 1]⟩ rfl rfl hl.1 rfl (lv_room (Nat.le_of_ble_eq_true rfl)) dX9_told_74 ⟨Nat.le_of_ble_eq_true rfl, Nat.le_of_ble_eq_true rfl⟩)) (fun r hq => ?_)
      generalize r = y2 at hq ⊢
      have hq : y2 = (fun _ => 0) 1 := hq
      refine tp_i (y := 0) (hq) ?_
      exact W.iret (v := 0) hx hb hr (fun t9 ht _ => ⟨0, rfl, by decide, ht⟩) (fun q h => by cases h) dX9_told_77
    rcases o with _ | o
    · skip
      refine lv_tableIn (off := 77) (tgt := 78) hx hb dX9_told_1 (by decide) (by decide) (by decide) (by decide) ?_
      refine lv_aload_n hx hb dX9_told_78 rfl (lv_at hl 0 rfl) ?_
      refine va_get (D := D) (ci := 9) (v := .ref xl) (C := RX9) (T := TX9) (N := 13) hx hb hts hi9 hown hG.1 hP 0 rfl rfl 8 (by decide) (hts (.fieldLink RX9 41 "SleptMatters" "place" "LSleptMatters$Town;") (List.mem_cons_of_mem _ (List.mem_append_left _ (List.mem_append_left _ (List.mem_append_left _ (List.mem_append_left _ (List.mem_append_left _ (List.mem_append_left _ (List.mem_append_left _ (List.mem_of_getElem? (i := 0) rfl)))))))))) (fun _ h9 => h9) rfl dX9_told_79 ?_
      refine lv_iconst (v := 3) hx hb dX9_told_82 (by decide) ?_
      have hPc := hP.sub (ws' := (c_X8_count k xl lt ltn ltl ltc lta (fun _ => 0) 3)) [1, 2] rfl
      refine vp_callSi (va_Run.run (va_runV (As := [.int 3]) (rest := []) ⟨hx, hb, hml, hown, hts⟩ (X8_count l D k xl lt ltn ltl ltc lta (fun _ => 0) 3 (by decide)) (cwV 1 hts gX9_told_X8_count rfl rfl rfl (by decide +kernel) ⟨Nat.le_of_ble_eq_true rfl, Nat.le_of_ble_eq_true rfl⟩) ⟨PS.blind _ _ _ _, va_recv hG.1 hP (ci := 8) (q0 := 1) rfl rfl, PS.pre hPc hG [.ref xl, .int 3]⟩ rfl rfl hl.1 rfl (lv_room (Nat.le_of_ble_eq_true rfl)) dX9_told_83 ⟨Nat.le_of_ble_eq_true rfl, Nat.le_of_ble_eq_true rfl⟩)) (fun r hq => ?_)
      generalize r = y3 at hq ⊢
      have hq : y3 = (fun _ => 0) 3 := hq
      refine tp_i (y := 0) (hq) ?_
      exact W.iret (v := 0) hx hb hr (fun t9 ht _ => ⟨0, rfl, by decide, ht⟩) (fun q h => by cases h) dX9_told_86
    rcases o with _ | o
    · skip
      refine lv_tableIn (off := 86) (tgt := 87) hx hb dX9_told_1 (by decide) (by decide) (by decide) (by decide) ?_
      refine lv_aload_n hx hb dX9_told_87 rfl (lv_at hl 0 rfl) ?_
      refine va_get (D := D) (ci := 9) (v := .ref xw) (C := RX9) (T := TX9) (N := 13) hx hb hts hi9 hown hG.1 hP 0 rfl rfl 10 (by decide) (hts (.fieldLink RX9 51 "SleptMatters" "law" "LSleptMatters$Law;") (List.mem_cons_of_mem _ (List.mem_append_left _ (List.mem_append_left _ (List.mem_append_left _ (List.mem_append_left _ (List.mem_append_left _ (List.mem_append_left _ (List.mem_append_left _ (List.mem_of_getElem? (i := 1) rfl)))))))))) (fun _ h9 => h9) rfl dX9_told_88 ?_
      refine va_get (D := D) (ci := 3) (v := .int 7) (C := RX3) (T := TX3) (N := 5) hx hb hts hi3 hown hG.1 hP 3 rfl rfl 0 (by decide) (hts (.fieldLink RX9 124 "SleptMatters$Law" "nights" "I") (List.mem_cons_of_mem _ (List.mem_append_left _ (List.mem_append_left _ (List.mem_append_left _ (List.mem_append_left _ (List.mem_append_left _ (List.mem_append_left _ (List.mem_append_left _ (List.mem_of_getElem? (i := 2) rfl)))))))))) (fun _ h9 => h9) rfl dX9_told_91 ?_
      exact W.iret (v := 7) hx hb hr (fun t9 ht _ => ⟨7, rfl, by decide, ht⟩) (fun q h => by cases h) dX9_told_94
    rcases o with _ | o
    · skip
      refine lv_tableIn (off := 94) (tgt := 95) hx hb dX9_told_1 (by decide) (by decide) (by decide) (by decide) ?_
      refine lv_aload_n hx hb dX9_told_95 rfl (lv_at hl 0 rfl) ?_
      refine va_get (D := D) (ci := 9) (v := .ref xw) (C := RX9) (T := TX9) (N := 13) hx hb hts hi9 hown hG.1 hP 0 rfl rfl 10 (by decide) (hts (.fieldLink RX9 51 "SleptMatters" "law" "LSleptMatters$Law;") (List.mem_cons_of_mem _ (List.mem_append_left _ (List.mem_append_left _ (List.mem_append_left _ (List.mem_append_left _ (List.mem_append_left _ (List.mem_append_left _ (List.mem_append_left _ (List.mem_of_getElem? (i := 1) rfl)))))))))) (fun _ h9 => h9) rfl dX9_told_96 ?_
      refine va_get (D := D) (ci := 3) (v := .int 4) (C := RX3) (T := TX3) (N := 5) hx hb hts hi3 hown hG.1 hP 3 rfl rfl 1 (by decide) (hts (.fieldLink RX9 127 "SleptMatters$Law" "yes" "I") (List.mem_cons_of_mem _ (List.mem_append_left _ (List.mem_append_left _ (List.mem_append_left _ (List.mem_append_left _ (List.mem_append_left _ (List.mem_append_left _ (List.mem_append_left _ (List.mem_of_getElem? (i := 3) rfl)))))))))) (fun _ h9 => h9) rfl dX9_told_99 ?_
      exact W.iret (v := 4) hx hb hr (fun t9 ht _ => ⟨4, rfl, by decide, ht⟩) (fun q h => by cases h) dX9_told_102
    rcases o with _ | o
    · skip
      refine lv_tableIn (off := 102) (tgt := 103) hx hb dX9_told_1 (by decide) (by decide) (by decide) (by decide) ?_
      refine lv_aload_n hx hb dX9_told_103 rfl (lv_at hl 0 rfl) ?_
      refine va_get (D := D) (ci := 9) (v := .ref xw) (C := RX9) (T := TX9) (N := 13) hx hb hts hi9 hown hG.1 hP 0 rfl rfl 10 (by decide) (hts (.fieldLink RX9 51 "SleptMatters" "law" "LSleptMatters$Law;") (List.mem_cons_of_mem _ (List.mem_append_left _ (List.mem_append_left _ (List.mem_append_left _ (List.mem_append_left _ (List.mem_append_left _ (List.mem_append_left _ (List.mem_append_left _ (List.mem_of_getElem? (i := 1) rfl)))))))))) (fun _ h9 => h9) rfl dX9_told_104 ?_
      refine va_get (D := D) (ci := 3) (v := .int 1) (C := RX3) (T := TX3) (N := 5) hx hb hts hi3 hown hG.1 hP 3 rfl rfl 2 (by decide) (hts (.fieldLink RX9 130 "SleptMatters$Law" "again" "Z") (List.mem_cons_of_mem _ (List.mem_append_left _ (List.mem_append_left _ (List.mem_append_left _ (List.mem_append_left _ (List.mem_append_left _ (List.mem_append_left _ (List.mem_append_left _ (List.mem_of_getElem? (i := 4) rfl)))))))))) (fun _ h9 => h9) rfl dX9_told_107 ?_
      refine lv_if_eq (x := 1) (tgt := 117) hx hb dX9_told_110 (by decide) (fun c4 => absurd c4 (by decide)) (fun c4 => ?_)
      refine lv_iconst (v := 1) hx hb dX9_told_113 (by decide) ?_
      refine lv_goto (tgt := 118) hx hb dX9_told_114 (by decide) ?_
      exact W.iret (v := 1) hx hb hr (fun t9 ht _ => ⟨1, rfl, by decide, ht⟩) (fun q h => by cases h) dX9_told_118
    rcases o with _ | o
    · skip
      refine lv_tableIn (off := 118) (tgt := 119) hx hb dX9_told_1 (by decide) (by decide) (by decide) (by decide) ?_
      refine lv_aload_n hx hb dX9_told_119 rfl (lv_at hl 0 rfl) ?_
      refine va_get (D := D) (ci := 9) (v := .ref xc) (C := RX9) (T := TX9) (N := 13) hx hb hts hi9 hown hG.1 hP 0 rfl rfl 1 (by decide) (hts (.fieldLink RX9 19 "SleptMatters" "course" "LSleptMatters$Course;") (List.mem_cons_of_mem _ (List.mem_append_left _ (List.mem_append_left _ (List.mem_append_left _ (List.mem_append_left _ (List.mem_append_left _ (List.mem_append_left _ (List.mem_append_left _ (List.mem_of_getElem? (i := 5) rfl)))))))))) (fun _ h9 => h9) rfl dX9_told_120 ?_
      refine va_get (D := D) (ci := 2) (v := .int 0) (C := RX2) (T := TX2) (N := 10) hx hb hts hi2 hown hG.1 hP 4 rfl rfl 8 (by decide) (hts (.fieldLink RX9 133 "SleptMatters$Course" "day" "I") (List.mem_cons_of_mem _ (List.mem_append_left _ (List.mem_append_left _ (List.mem_append_left _ (List.mem_append_left _ (List.mem_append_left _ (List.mem_append_left _ (List.mem_append_left _ (List.mem_of_getElem? (i := 6) rfl)))))))))) (fun _ h9 => h9) rfl dX9_told_123 ?_
      exact W.iret (v := 0) hx hb hr (fun t9 ht _ => ⟨0, rfl, by decide, ht⟩) (fun q h => by cases h) dX9_told_126
    rcases o with _ | o
    · skip
      refine lv_tableIn (off := 126) (tgt := 127) hx hb dX9_told_1 (by decide) (by decide) (by decide) (by decide) ?_
      refine lv_aload_n hx hb dX9_told_127 rfl (lv_at hl 0 rfl) ?_
      refine va_get (D := D) (ci := 9) (v := .ref xc) (C := RX9) (T := TX9) (N := 13) hx hb hts hi9 hown hG.1 hP 0 rfl rfl 1 (by decide) (hts (.fieldLink RX9 19 "SleptMatters" "course" "LSleptMatters$Course;") (List.mem_cons_of_mem _ (List.mem_append_left _ (List.mem_append_left _ (List.mem_append_left _ (List.mem_append_left _ (List.mem_append_left _ (List.mem_append_left _ (List.mem_append_left _ (List.mem_of_getElem? (i := 5) rfl)))))))))) (fun _ h9 => h9) rfl dX9_told_128 ?_
      refine va_get (D := D) (ci := 2) (v := .int 0) (C := RX2) (T := TX2) (N := 10) hx hb hts hi2 hown hG.1 hP 4 rfl rfl 7 (by decide) (hts (.fieldLink RX9 136 "SleptMatters$Course" "wages" "I") (List.mem_cons_of_mem _ (List.mem_append_left _ (List.mem_append_left _ (List.mem_append_left _ (List.mem_append_left _ (List.mem_append_left _ (List.mem_append_left _ (List.mem_append_left _ (List.mem_of_getElem? (i := 7) rfl)))))))))) (fun _ h9 => h9) rfl dX9_told_131 ?_
      exact W.iret (v := 0) hx hb hr (fun t9 ht _ => ⟨0, rfl, by decide, ht⟩) (fun q h => by cases h) dX9_told_134
    rcases o with _ | o
    · skip
      refine lv_tableIn (off := 134) (tgt := 135) hx hb dX9_told_1 (by decide) (by decide) (by decide) (by decide) ?_
      refine lv_aload_n hx hb dX9_told_135 rfl (lv_at hl 0 rfl) ?_
      refine va_get (D := D) (ci := 9) (v := .ref xt) (C := RX9) (T := TX9) (N := 13) hx hb hts hi9 hown hG.1 hP 0 rfl rfl 0 (by decide) (hts (.fieldLink RX9 10 "SleptMatters" "text" "LSleptMatters$Text;") (List.mem_cons_of_mem _ (List.mem_append_left _ (List.mem_append_left _ (List.mem_append_left _ (List.mem_append_left _ (List.mem_append_left _ (List.mem_append_left _ (List.mem_append_left _ (List.mem_of_getElem? (i := 8) rfl)))))))))) (fun _ h9 => h9) rfl dX9_told_136 ?_
      refine va_get (D := D) (ci := 7) (v := .int 0) (C := RX7) (T := TX7) (N := 8) hx hb hts hi7 hown hG.1 hP 5 rfl rfl 1 (by decide) (hts (.fieldLink RX9 88 "SleptMatters$Text" "size" "I") (List.mem_cons_of_mem _ (List.mem_append_left _ (List.mem_append_left _ (List.mem_append_left _ (List.mem_append_left _ (List.mem_append_left _ (List.mem_append_left _ (List.mem_append_left _ (List.mem_of_getElem? (i := 9) rfl)))))))))) (fun _ h9 => h9) rfl dX9_told_139 ?_
      exact W.iret (v := 0) hx hb hr (fun t9 ht _ => ⟨0, rfl, by decide, ht⟩) (fun q h => by cases h) dX9_told_142
    rcases o with _ | o
    · skip
      refine lv_tableIn (off := 142) (tgt := 143) hx hb dX9_told_1 (by decide) (by decide) (by decide) (by decide) ?_
      refine lv_aload_n hx hb dX9_told_143 rfl (lv_at hl 0 rfl) ?_
      refine va_get (D := D) (ci := 9) (v := .ref xb) (C := RX9) (T := TX9) (N := 13) hx hb hts hi9 hown hG.1 hP 0 rfl rfl 4 (by decide) (hts (.fieldLink RX9 34 "SleptMatters" "book" "LSleptMatters$Book;") (List.mem_cons_of_mem _ (List.mem_append_left _ (List.mem_append_left _ (List.mem_append_left _ (List.mem_append_left _ (List.mem_append_left _ (List.mem_append_left _ (List.mem_append_left _ (List.mem_of_getElem? (i := 10) rfl)))))))))) (fun _ h9 => h9) rfl dX9_told_144 ?_
      refine va_get (D := D) (ci := 0) (v := .int 0) (C := RX0) (T := TX0) (N := 4) hx hb hts hi0 hown hG.1 hP 6 rfl rfl 0 (by decide) (hts (.fieldLink RX9 114 "SleptMatters$Book" "size" "I") (List.mem_cons_of_mem _ (List.mem_append_left _ (List.mem_append_left _ (List.mem_append_left _ (List.mem_append_left _ (List.mem_append_left _ (List.mem_append_left _ (List.mem_append_left _ (List.mem_of_getElem? (i := 11) rfl)))))))))) (fun _ h9 => h9) rfl dX9_told_147 ?_
      exact W.iret (v := 0) hx hb hr (fun t9 ht _ => ⟨0, rfl, by decide, ht⟩) (fun q h => by cases h) dX9_told_150
    rcases o with _ | o
    · skip
      refine lv_tableIn (off := 150) (tgt := 151) hx hb dX9_told_1 (by decide) (by decide) (by decide) (by decide) ?_
      refine lv_aload_n hx hb dX9_told_151 rfl (lv_at hl 0 rfl) ?_
      refine va_get (D := D) (ci := 9) (v := .ref xc) (C := RX9) (T := TX9) (N := 13) hx hb hts hi9 hown hG.1 hP 0 rfl rfl 1 (by decide) (hts (.fieldLink RX9 19 "SleptMatters" "course" "LSleptMatters$Course;") (List.mem_cons_of_mem _ (List.mem_append_left _ (List.mem_append_left _ (List.mem_append_left _ (List.mem_append_left _ (List.mem_append_left _ (List.mem_append_left _ (List.mem_append_left _ (List.mem_of_getElem? (i := 5) rfl)))))))))) (fun _ h9 => h9) rfl dX9_told_152 ?_
      refine lv_aload_n hx hb dX9_told_155 rfl (lv_at hl 0 rfl) ?_
      refine va_get (D := D) (ci := 9) (v := .ref xl) (C := RX9) (T := TX9) (N := 13) hx hb hts hi9 hown hG.1 hP 0 rfl rfl 8 (by decide) (hts (.fieldLink RX9 41 "SleptMatters" "place" "LSleptMatters$Town;") (List.mem_cons_of_mem _ (List.mem_append_left _ (List.mem_append_left _ (List.mem_append_left _ (List.mem_append_left _ (List.mem_append_left _ (List.mem_append_left _ (List.mem_append_left _ (List.mem_of_getElem? (i := 0) rfl)))))))))) (fun _ h9 => h9) rfl dX9_told_156 ?_
      have hPc := hP.sub (ws' := (c_X2_score k xc c0 c1 c2 c3 c4 c5 c6 xl lt ltn ltl ltc lta 0 0)) [4, 1, 2] rfl
      refine vp_callSi (va_Run.run (va_runV (As := [.ref xl]) (rest := []) ⟨hx, hb, hml, hown, hts⟩ (X2_score l D k xc c0 c1 c2 c3 c4 c5 c6 xl lt ltn ltl ltc lta 0 0 ) (cwV 1 hts gX9_told_X2_score rfl rfl rfl (by decide +kernel) ⟨Nat.le_of_ble_eq_true rfl, Nat.le_of_ble_eq_true rfl⟩) ⟨PS.blind _ _ _ _, va_recv hG.1 hP (ci := 2) (q0 := 4) rfl rfl, PS.pre hPc hG [.ref xc, .ref xl]⟩ rfl rfl hl.1 rfl (lv_room (Nat.le_of_ble_eq_true rfl)) dX9_told_159 ⟨Nat.le_of_ble_eq_true rfl, Nat.le_of_ble_eq_true rfl⟩)) (fun r hq => ?_)
      generalize r = y5 at hq ⊢
      have hq : y5 = 0 := hq
      refine tp_i (y := 0) (hq) ?_
      exact W.iret (v := 0) hx hb hr (fun t9 ht _ => ⟨0, rfl, by decide, ht⟩) (fun q h => by cases h) dX9_told_162
    exact absurd ho1 (by omega)
