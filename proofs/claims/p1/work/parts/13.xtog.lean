theorem dX6_clearFor_0 : decode cX6_clearFor 0 = .ok (.aload_n 0, 1) := by decide +kernel
theorem dX6_clearFor_1 : decode cX6_clearFor 1 = .ok (.iconst 0, 1) := by decide +kernel
theorem dX6_clearFor_2 : decode cX6_clearFor 2 = .ok (.putfield 9, 3) := by decide +kernel
theorem dX6_clearFor_5 : decode cX6_clearFor 5 = .ok (.aload_n 0, 1) := by decide +kernel
theorem dX6_clearFor_6 : decode cX6_clearFor 6 = .ok (.iload_n 1, 1) := by decide +kernel
theorem dX6_clearFor_7 : decode cX6_clearFor 7 = .ok (.putfield 15, 3) := by decide +kernel
theorem dX6_clearFor_10 : decode cX6_clearFor 10 = .ok (.return_, 1) := by decide +kernel
set_option maxRecDepth 20000 in
theorem ggX4_gainOf_X6_clearFor : GoodIn wsX4_gainOf wsX6_clearFor := goodIn_r _ [10, 11, 12, 147, 148, 149, 150, 151] rfl (by decide +kernel)
set_option maxRecDepth 20000 in
theorem gX4_gainOf_X6_clearFor : GoodIn wsX4_gainOf (wsV RX4 77 RX6 yX6_clearFor wsX6_clearFor) := goodIn_app (goodIn_of _ (by decide +kernel)) ggX4_gainOf_X6_clearFor
set_option maxRecDepth 20000 in
theorem ggX4_gainOf_X4_takeSoonest : GoodIn wsX4_gainOf wsX4_takeSoonest := goodIn_r _ [17, 18, 1, 2, 19, 20, 21, 22, 4, 3, 23, 24, 25, 26, 27, 28, 29, 30, 31, 32, 33, 34, 35, 36, 37, 38, 39, 40, 41, 42, 43, 44, 45, 46, 47, 48, 49, 50, 51, 52, 53, 54, 55, 56, 57, 58, 59, 60, 61, 62, 63, 64, 9, 65, 11, 66, 67, 68, 69, 70, 71, 12, 72, 73, 74, 75, 76, 77, 78, 79, 80, 81, 82, 83, 84, 85, 86, 87, 88, 89, 90, 91, 92, 93, 94, 95, 96, 97, 98, 99, 100, 101, 102, 103, 104, 105, 106, 107, 108, 109, 110, 111, 112, 113, 114, 115, 116, 117, 118, 119, 120, 121, 122, 123, 124, 125, 126, 127, 128, 129, 130, 131, 132, 133, 134, 135, 136, 137, 138, 139, 140, 141, 142, 143, 144, 145, 146, 152, 153, 154, 155, 156, 147, 148, 149, 150, 151] rfl (by decide +kernel)
set_option maxRecDepth 20000 in
theorem gX4_gainOf_X4_takeSoonest : GoodIn wsX4_gainOf (wsV RX4 81 RX4 yX4_takeSoonest wsX4_takeSoonest) := goodIn_app (goodIn_of _ (by decide +kernel)) ggX4_gainOf_X4_takeSoonest
set_option maxRecDepth 20000 in
theorem ggX4_gainOf_X8_part : GoodIn wsX4_gainOf wsX8_part := goodIn_r _ [29, 30, 31, 32, 33, 28, 34, 35, 152, 153, 154, 155, 156] rfl (by decide +kernel)
set_option maxRecDepth 20000 in
theorem gX4_gainOf_X8_part : GoodIn wsX4_gainOf (wsV RX4 84 RX8 yX8_part wsX8_part) := goodIn_app (goodIn_of _ (by decide +kernel)) ggX4_gainOf_X8_part
theorem dX4_gainOf_0 : decode cX4_gainOf 0 = .ok (.aload_n 0, 1) := by decide +kernel
theorem dX4_gainOf_1 : decode cX4_gainOf 1 = .ok (.getfield 42, 3) := by decide +kernel
theorem dX4_gainOf_4 : decode cX4_gainOf 4 = .ok (.getfield 46, 3) := by decide +kernel
theorem dX4_gainOf_7 : decode cX4_gainOf 7 = .ok (.astore_n 3, 1) := by decide +kernel
theorem dX4_gainOf_8 : decode cX4_gainOf 8 = .ok (.aload_n 0, 1) := by decide +kernel
theorem dX4_gainOf_9 : decode cX4_gainOf 9 = .ok (.getfield 32, 3) := by decide +kernel
theorem dX4_gainOf_12 : decode cX4_gainOf 12 = .ok (.aload_n 0, 1) := by decide +kernel
theorem dX4_gainOf_13 : decode cX4_gainOf 13 = .ok (.getfield 39, 3) := by decide +kernel
theorem dX4_gainOf_16 : decode cX4_gainOf 16 = .ok (.invokevirtual 77, 3) := by decide +kernel
theorem dX4_gainOf_19 : decode cX4_gainOf 19 = .ok (.iconst 0, 1) := by decide +kernel
theorem dX4_gainOf_20 : decode cX4_gainOf 20 = .ok (.istore 4, 2) := by decide +kernel
theorem dX4_gainOf_22 : decode cX4_gainOf 22 = .ok (.iconst 0, 1) := by decide +kernel
theorem dX4_gainOf_23 : decode cX4_gainOf 23 = .ok (.istore 5, 2) := by decide +kernel
theorem dX4_gainOf_25 : decode cX4_gainOf 25 = .ok (.iload 5, 2) := by decide +kernel
theorem dX4_gainOf_27 : decode cX4_gainOf 27 = .ok (.iload_n 2, 1) := by decide +kernel
theorem dX4_gainOf_28 : decode cX4_gainOf 28 = .ok (.if_icmp .ge 80, 3) := by decide +kernel
theorem dX4_gainOf_31 : decode cX4_gainOf 31 = .ok (.getstatic 68, 3) := by decide +kernel
theorem dX4_gainOf_34 : decode cX4_gainOf 34 = .ok (.iload_n 1, 1) := by decide +kernel
theorem dX4_gainOf_35 : decode cX4_gainOf 35 = .ok (.iload 5, 2) := by decide +kernel
theorem dX4_gainOf_37 : decode cX4_gainOf 37 = .ok (.iadd, 1) := by decide +kernel
theorem dX4_gainOf_38 : decode cX4_gainOf 38 = .ok (.iaload, 1) := by decide +kernel
theorem dX4_gainOf_39 : decode cX4_gainOf 39 = .ok (.istore 6, 2) := by decide +kernel
theorem dX4_gainOf_41 : decode cX4_gainOf 41 = .ok (.aload_n 0, 1) := by decide +kernel
theorem dX4_gainOf_42 : decode cX4_gainOf 42 = .ok (.iload 6, 2) := by decide +kernel
theorem dX4_gainOf_44 : decode cX4_gainOf 44 = .ok (.invokevirtual 81, 3) := by decide +kernel
theorem dX4_gainOf_47 : decode cX4_gainOf 47 = .ok (.istore 7, 2) := by decide +kernel
theorem dX4_gainOf_49 : decode cX4_gainOf 49 = .ok (.aload_n 0, 1) := by decide +kernel
theorem dX4_gainOf_50 : decode cX4_gainOf 50 = .ok (.getfield 26, 3) := by decide +kernel
theorem dX4_gainOf_53 : decode cX4_gainOf 53 = .ok (.iload 6, 2) := by decide +kernel
theorem dX4_gainOf_55 : decode cX4_gainOf 55 = .ok (.iload 7, 2) := by decide +kernel
theorem dX4_gainOf_57 : decode cX4_gainOf 57 = .ok (.iastore, 1) := by decide +kernel
theorem dX4_gainOf_58 : decode cX4_gainOf 58 = .ok (.iload 7, 2) := by decide +kernel
theorem dX4_gainOf_60 : decode cX4_gainOf 60 = .ok (.aload_n 3, 1) := by decide +kernel
theorem dX4_gainOf_61 : decode cX4_gainOf 61 = .ok (.iconst 3, 1) := by decide +kernel
theorem dX4_gainOf_62 : decode cX4_gainOf 62 = .ok (.iload 6, 2) := by decide +kernel
theorem dX4_gainOf_64 : decode cX4_gainOf 64 = .ok (.iconst 0, 1) := by decide +kernel
theorem dX4_gainOf_65 : decode cX4_gainOf 65 = .ok (.invokevirtual 84, 3) := by decide +kernel
theorem dX4_gainOf_68 : decode cX4_gainOf 68 = .ok (.isub, 1) := by decide +kernel
theorem dX4_gainOf_69 : decode cX4_gainOf 69 = .ok (.istore 8, 2) := by decide +kernel
theorem dX4_gainOf_71 : decode cX4_gainOf 71 = .ok (.iload 7, 2) := by decide +kernel
theorem dX4_gainOf_73 : decode cX4_gainOf 73 = .ok (.iconst (-1), 1) := by decide +kernel
theorem dX4_gainOf_74 : decode cX4_gainOf 74 = .ok (.if_icmp .eq 28, 3) := by decide +kernel
theorem dX4_gainOf_77 : decode cX4_gainOf 77 = .ok (.iload 4, 2) := by decide +kernel
theorem dX4_gainOf_79 : decode cX4_gainOf 79 = .ok (.aload_n 3, 1) := by decide +kernel
theorem dX4_gainOf_80 : decode cX4_gainOf 80 = .ok (.iconst 3, 1) := by decide +kernel
theorem dX4_gainOf_81 : decode cX4_gainOf 81 = .ok (.iload 6, 2) := by decide +kernel
theorem dX4_gainOf_83 : decode cX4_gainOf 83 = .ok (.iconst 2, 1) := by decide +kernel
theorem dX4_gainOf_84 : decode cX4_gainOf 84 = .ok (.invokevirtual 84, 3) := by decide +kernel
theorem dX4_gainOf_87 : decode cX4_gainOf 87 = .ok (.aload_n 3, 1) := by decide +kernel
theorem dX4_gainOf_88 : decode cX4_gainOf 88 = .ok (.iconst 3, 1) := by decide +kernel
theorem dX4_gainOf_89 : decode cX4_gainOf 89 = .ok (.iload 6, 2) := by decide +kernel
theorem dX4_gainOf_91 : decode cX4_gainOf 91 = .ok (.iconst 3, 1) := by decide +kernel
theorem dX4_gainOf_92 : decode cX4_gainOf 92 = .ok (.invokevirtual 84, 3) := by decide +kernel
theorem dX4_gainOf_95 : decode cX4_gainOf 95 = .ok (.iload 8, 2) := by decide +kernel
theorem dX4_gainOf_97 : decode cX4_gainOf 97 = .ok (.imul, 1) := by decide +kernel
theorem dX4_gainOf_98 : decode cX4_gainOf 98 = .ok (.isub, 1) := by decide +kernel
theorem dX4_gainOf_99 : decode cX4_gainOf 99 = .ok (.iadd, 1) := by decide +kernel
theorem dX4_gainOf_100 : decode cX4_gainOf 100 = .ok (.istore 4, 2) := by decide +kernel
theorem dX4_gainOf_102 : decode cX4_gainOf 102 = .ok (.iinc 5 1, 3) := by decide +kernel
theorem dX4_gainOf_105 : decode cX4_gainOf 105 = .ok (.goto (-80), 3) := by decide +kernel
theorem dX4_gainOf_108 : decode cX4_gainOf 108 = .ok (.iload 4, 2) := by decide +kernel
theorem dX4_gainOf_110 : decode cX4_gainOf 110 = .ok (.ireturn, 1) := by decide +kernel
set_option maxRecDepth 20000 in
theorem ggX4_update_X8_count : GoodIn wsX4_update wsX8_count := goodIn_r _ [18, 19, 160, 161, 162, 163, 164] rfl (by decide +kernel)
set_option maxRecDepth 20000 in
theorem gX4_update_X8_count : GoodIn wsX4_update (wsV RX4 52 RX8 yX8_count wsX8_count) := goodIn_app (goodIn_of _ (by decide +kernel)) ggX4_update_X8_count
set_option maxRecDepth 20000 in
theorem ggX4_update_X4_gainOf : GoodIn wsX4_update wsX4_gainOf := goodIn_r _ [24, 4, 5, 25, 3, 12, 26, 27, 28, 29, 30, 31, 32, 33, 34, 35, 23, 36, 2, 37, 38, 39, 40, 41, 42, 43, 44, 45, 17, 46, 47, 48, 49, 50, 51, 19, 52, 53, 54, 55, 56, 57, 58, 59, 60, 61, 62, 63, 64, 65, 66, 67, 68, 69, 70, 71, 72, 73, 74, 75, 76, 77, 78, 79, 80, 81, 82, 83, 84, 85, 86, 87, 88, 89, 90, 91, 92, 93, 94, 95, 96, 97, 98, 99, 100, 101, 102, 103, 104, 105, 106, 107, 108, 109, 110, 111, 112, 113, 114, 115, 116, 117, 118, 119, 120, 121, 122, 123, 124, 125, 126, 127, 128, 129, 130, 131, 132, 133, 134, 135, 136, 137, 138, 139, 140, 9, 10, 11, 141, 142, 143, 144, 145, 146, 147, 148, 149, 150, 151, 152, 153, 154, 155, 156, 157, 158, 159, 165, 166, 167, 168, 169, 160, 161, 162, 163, 164] rfl (by decide +kernel)
set_option maxRecDepth 20000 in
theorem gX4_update_X4_gainOf : GoodIn wsX4_update (wsV RX4 64 RX4 yX4_gainOf wsX4_gainOf) := goodIn_app (goodIn_of _ (by decide +kernel)) ggX4_update_X4_gainOf
theorem dX4_update_0 : decode cX4_update 0 = .ok (.aload_n 0, 1) := by decide +kernel
theorem dX4_update_1 : decode cX4_update 1 = .ok (.getfield 9, 3) := by decide +kernel
theorem dX4_update_4 : decode cX4_update 4 = .ok (.ifCond .eq 12, 3) := by decide +kernel
theorem dX4_update_7 : decode cX4_update 7 = .ok (.aload_n 0, 1) := by decide +kernel
theorem dX4_update_8 : decode cX4_update 8 = .ok (.getfield 36, 3) := by decide +kernel
theorem dX4_update_11 : decode cX4_update 11 = .ok (.iload_n 1, 1) := by decide +kernel
theorem dX4_update_12 : decode cX4_update 12 = .ok (.if_icmp .ne 4, 3) := by decide +kernel
theorem dX4_update_15 : decode cX4_update 15 = .ok (.return_, 1) := by decide +kernel
theorem dX4_update_16 : decode cX4_update 16 = .ok (.aload_n 0, 1) := by decide +kernel
theorem dX4_update_17 : decode cX4_update 17 = .ok (.iload_n 1, 1) := by decide +kernel
theorem dX4_update_18 : decode cX4_update 18 = .ok (.putfield 36, 3) := by decide +kernel
theorem dX4_update_21 : decode cX4_update 21 = .ok (.aload_n 0, 1) := by decide +kernel
theorem dX4_update_22 : decode cX4_update 22 = .ok (.iload_n 2, 1) := by decide +kernel
theorem dX4_update_23 : decode cX4_update 23 = .ok (.putfield 39, 3) := by decide +kernel
theorem dX4_update_26 : decode cX4_update 26 = .ok (.aload_n 0, 1) := by decide +kernel
theorem dX4_update_27 : decode cX4_update 27 = .ok (.getfield 42, 3) := by decide +kernel
theorem dX4_update_30 : decode cX4_update 30 = .ok (.getfield 46, 3) := by decide +kernel
theorem dX4_update_33 : decode cX4_update 33 = .ok (.iconst 3, 1) := by decide +kernel
theorem dX4_update_34 : decode cX4_update 34 = .ok (.invokevirtual 52, 3) := by decide +kernel
theorem dX4_update_37 : decode cX4_update 37 = .ok (.istore_n 3, 1) := by decide +kernel
theorem dX4_update_38 : decode cX4_update 38 = .ok (.iconst 0, 1) := by decide +kernel
theorem dX4_update_39 : decode cX4_update 39 = .ok (.istore 4, 2) := by decide +kernel
theorem dX4_update_41 : decode cX4_update 41 = .ok (.iload 4, 2) := by decide +kernel
theorem dX4_update_43 : decode cX4_update 43 = .ok (.getstatic 58, 3) := by decide +kernel
theorem dX4_update_46 : decode cX4_update 46 = .ok (.iload_n 3, 1) := by decide +kernel
theorem dX4_update_47 : decode cX4_update 47 = .ok (.iaload, 1) := by decide +kernel
theorem dX4_update_48 : decode cX4_update 48 = .ok (.if_icmp .ge 81, 3) := by decide +kernel
theorem dX4_update_51 : decode cX4_update 51 = .ok (.getstatic 61, 3) := by decide +kernel
theorem dX4_update_54 : decode cX4_update 54 = .ok (.iload_n 3, 1) := by decide +kernel
theorem dX4_update_55 : decode cX4_update 55 = .ok (.iaload, 1) := by decide +kernel
theorem dX4_update_56 : decode cX4_update 56 = .ok (.iload 4, 2) := by decide +kernel
theorem dX4_update_58 : decode cX4_update 58 = .ok (.iload_n 3, 1) := by decide +kernel
theorem dX4_update_59 : decode cX4_update 59 = .ok (.imul, 1) := by decide +kernel
theorem dX4_update_60 : decode cX4_update 60 = .ok (.iadd, 1) := by decide +kernel
theorem dX4_update_61 : decode cX4_update 61 = .ok (.istore 5, 2) := by decide +kernel
theorem dX4_update_63 : decode cX4_update 63 = .ok (.aload_n 0, 1) := by decide +kernel
theorem dX4_update_64 : decode cX4_update 64 = .ok (.iload 5, 2) := by decide +kernel
theorem dX4_update_66 : decode cX4_update 66 = .ok (.iload_n 3, 1) := by decide +kernel
theorem dX4_update_67 : decode cX4_update 67 = .ok (.invokevirtual 64, 3) := by decide +kernel
theorem dX4_update_70 : decode cX4_update 70 = .ok (.istore 6, 2) := by decide +kernel
theorem dX4_update_72 : decode cX4_update 72 = .ok (.iload 4, 2) := by decide +kernel
theorem dX4_update_74 : decode cX4_update 74 = .ok (.ifCond .le 15, 3) := by decide +kernel
theorem dX4_update_77 : decode cX4_update 77 = .ok (.iload 6, 2) := by decide +kernel
theorem dX4_update_79 : decode cX4_update 79 = .ok (.aload_n 0, 1) := by decide +kernel
theorem dX4_update_80 : decode cX4_update 80 = .ok (.getfield 15, 3) := by decide +kernel
theorem dX4_update_83 : decode cX4_update 83 = .ok (.if_icmp .gt 6, 3) := by decide +kernel
theorem dX4_update_86 : decode cX4_update 86 = .ok (.goto 37, 3) := by decide +kernel
theorem dX4_update_89 : decode cX4_update 89 = .ok (.aload_n 0, 1) := by decide +kernel
theorem dX4_update_90 : decode cX4_update 90 = .ok (.iload 6, 2) := by decide +kernel
theorem dX4_update_92 : decode cX4_update 92 = .ok (.putfield 15, 3) := by decide +kernel
theorem dX4_update_95 : decode cX4_update 95 = .ok (.getstatic 68, 3) := by decide +kernel
theorem dX4_update_98 : decode cX4_update 98 = .ok (.iload 5, 2) := by decide +kernel
theorem dX4_update_100 : decode cX4_update 100 = .ok (.aload_n 0, 1) := by decide +kernel
theorem dX4_update_101 : decode cX4_update 101 = .ok (.getfield 19, 3) := by decide +kernel
theorem dX4_update_104 : decode cX4_update 104 = .ok (.iconst 0, 1) := by decide +kernel
theorem dX4_update_105 : decode cX4_update 105 = .ok (.iload_n 3, 1) := by decide +kernel
theorem dX4_update_106 : decode cX4_update 106 = .ok (.invokestatic 71, 3) := by decide +kernel
theorem dX4_update_109 : decode cX4_update 109 = .ok (.aload_n 0, 1) := by decide +kernel
theorem dX4_update_110 : decode cX4_update 110 = .ok (.getfield 26, 3) := by decide +kernel
theorem dX4_update_113 : decode cX4_update 113 = .ok (.iconst 0, 1) := by decide +kernel
theorem dX4_update_114 : decode cX4_update 114 = .ok (.aload_n 0, 1) := by decide +kernel
theorem dX4_update_115 : decode cX4_update 115 = .ok (.getfield 23, 3) := by decide +kernel
theorem dX4_update_118 : decode cX4_update 118 = .ok (.iconst 0, 1) := by decide +kernel
theorem dX4_update_119 : decode cX4_update 119 = .ok (.iload_n 3, 1) := by decide +kernel
theorem dX4_update_120 : decode cX4_update 120 = .ok (.invokestatic 71, 3) := by decide +kernel
theorem dX4_update_123 : decode cX4_update 123 = .ok (.iinc 4 1, 3) := by decide +kernel
theorem dX4_update_126 : decode cX4_update 126 = .ok (.goto (-85), 3) := by decide +kernel
theorem dX4_update_129 : decode cX4_update 129 = .ok (.aload_n 0, 1) := by decide +kernel
theorem dX4_update_130 : decode cX4_update 130 = .ok (.iconst 1, 1) := by decide +kernel
theorem dX4_update_131 : decode cX4_update 131 = .ok (.putfield 9, 3) := by decide +kernel
theorem dX4_update_134 : decode cX4_update 134 = .ok (.return_, 1) := by decide +kernel
set_option maxRecDepth 20000 in
theorem ggX9_together_X8_count : GoodIn wsX9_together wsX8_count := goodIn_r _ [15, 16, 193, 194, 195, 196, 197] rfl (by decide +kernel)
set_option maxRecDepth 20000 in
theorem gX9_together_X8_count : GoodIn wsX9_together (wsV RX9 115 RX8 yX8_count wsX8_count) := goodIn_app (goodIn_of _ (by decide +kernel)) ggX9_together_X8_count
set_option maxRecDepth 20000 in
theorem ggX9_together_X4_update : GoodIn wsX9_together wsX4_update := goodIn_r _ [21, 22, 23, 24, 25, 26, 27, 28, 29, 30, 31, 32, 33, 34, 35, 12, 13, 14, 15, 16, 36, 37, 38, 20, 39, 40, 41, 42, 43, 44, 45, 46, 47, 48, 49, 50, 51, 52, 53, 54, 55, 56, 57, 58, 59, 60, 61, 62, 63, 64, 65, 66, 67, 68, 69, 70, 71, 72, 73, 74, 75, 76, 77, 78, 79, 80, 81, 82, 83, 84, 85, 86, 87, 88, 89, 90, 91, 92, 93, 94, 95, 96, 97, 98, 99, 100, 101, 102, 103, 104, 105, 106, 107, 108, 109, 110, 111, 112, 113, 114, 115, 116, 117, 118, 119, 120, 121, 122, 123, 124, 125, 126, 127, 128, 129, 130, 131, 132, 133, 134, 135, 136, 137, 138, 139, 140, 141, 142, 143, 144, 145, 146, 147, 148, 149, 150, 151, 152, 153, 154, 155, 184, 185, 186, 187, 188, 189, 190, 191, 192, 198, 199, 200, 201, 202, 203, 204, 205, 206, 207, 193, 194, 195, 196, 197, 208, 209, 210, 211, 212] rfl (by decide +kernel)
set_option maxRecDepth 20000 in
theorem gX9_together_X4_update : GoodIn wsX9_together (wsV RX9 242 RX4 yX4_update wsX4_update) := goodIn_app (goodIn_of _ (by decide +kernel)) ggX9_together_X4_update
theorem dX9_together_0 : decode cX9_together 0 = .ok (.aload_n 0, 1) := by decide +kernel
theorem dX9_together_1 : decode cX9_together 1 = .ok (.getfield 41, 3) := by decide +kernel
theorem dX9_together_4 : decode cX9_together 4 = .ok (.iconst 3, 1) := by decide +kernel
theorem dX9_together_5 : decode cX9_together 5 = .ok (.invokevirtual 115, 3) := by decide +kernel
theorem dX9_together_8 : decode cX9_together 8 = .ok (.istore_n 2, 1) := by decide +kernel
theorem dX9_together_9 : decode cX9_together 9 = .ok (.iload_n 1, 1) := by decide +kernel
theorem dX9_together_10 : decode cX9_together 10 = .ok (.iconst 1, 1) := by decide +kernel
theorem dX9_together_11 : decode cX9_together 11 = .ok (.if_icmp .lt 14, 3) := by decide +kernel
theorem dX9_together_14 : decode cX9_together 14 = .ok (.iload_n 1, 1) := by decide +kernel
theorem dX9_together_15 : decode cX9_together 15 = .ok (.iconst 1, 1) := by decide +kernel
theorem dX9_together_16 : decode cX9_together 16 = .ok (.isub, 1) := by decide +kernel
theorem dX9_together_17 : decode cX9_together 17 = .ok (.iload_n 2, 1) := by decide +kernel
theorem dX9_together_18 : decode cX9_together 18 = .ok (.if_icmp .ge 7, 3) := by decide +kernel
theorem dX9_together_21 : decode cX9_together 21 = .ok (.iconst 1, 1) := by decide +kernel
theorem dX9_together_22 : decode cX9_together 22 = .ok (.goto 4, 3) := by decide +kernel
theorem dX9_together_25 : decode cX9_together 25 = .ok (.iconst 0, 1) := by decide +kernel
theorem dX9_together_26 : decode cX9_together 26 = .ok (.istore_n 3, 1) := by decide +kernel
theorem dX9_together_27 : decode cX9_together 27 = .ok (.iload_n 1, 1) := by decide +kernel
theorem dX9_together_28 : decode cX9_together 28 = .ok (.bipush 11, 2) := by decide +kernel
theorem dX9_together_30 : decode cX9_together 30 = .ok (.if_icmp .lt 15, 3) := by decide +kernel
theorem dX9_together_33 : decode cX9_together 33 = .ok (.iload_n 1, 1) := by decide +kernel
theorem dX9_together_34 : decode cX9_together 34 = .ok (.bipush 11, 2) := by decide +kernel
theorem dX9_together_36 : decode cX9_together 36 = .ok (.isub, 1) := by decide +kernel
theorem dX9_together_37 : decode cX9_together 37 = .ok (.iload_n 2, 1) := by decide +kernel
theorem dX9_together_38 : decode cX9_together 38 = .ok (.if_icmp .ge 7, 3) := by decide +kernel
theorem dX9_together_41 : decode cX9_together 41 = .ok (.iconst 1, 1) := by decide +kernel
theorem dX9_together_42 : decode cX9_together 42 = .ok (.goto 4, 3) := by decide +kernel
theorem dX9_together_45 : decode cX9_together 45 = .ok (.iconst 0, 1) := by decide +kernel
theorem dX9_together_46 : decode cX9_together 46 = .ok (.istore 4, 2) := by decide +kernel
theorem dX9_together_48 : decode cX9_together 48 = .ok (.iload_n 1, 1) := by decide +kernel
theorem dX9_together_49 : decode cX9_together 49 = .ok (.ifCond .eq 15, 3) := by decide +kernel
theorem dX9_together_52 : decode cX9_together 52 = .ok (.iload_n 3, 1) := by decide +kernel
theorem dX9_together_53 : decode cX9_together 53 = .ok (.ifCond .ne 11, 3) := by decide +kernel
theorem dX9_together_56 : decode cX9_together 56 = .ok (.iload 4, 2) := by decide +kernel
theorem dX9_together_58 : decode cX9_together 58 = .ok (.ifCond .ne 6, 3) := by decide +kernel
theorem dX9_together_61 : decode cX9_together 61 = .ok (.ldc 87, 2) := by decide +kernel
theorem dX9_together_63 : decode cX9_together 63 = .ok (.ireturn, 1) := by decide +kernel
theorem dX9_together_64 : decode cX9_together 64 = .ok (.aload_n 0, 1) := by decide +kernel
theorem dX9_together_65 : decode cX9_together 65 = .ok (.getfield 76, 3) := by decide +kernel
theorem dX9_together_68 : decode cX9_together 68 = .ok (.aload_n 0, 1) := by decide +kernel
theorem dX9_together_69 : decode cX9_together 69 = .ok (.getfield 19, 3) := by decide +kernel
theorem dX9_together_72 : decode cX9_together 72 = .ok (.getfield 133, 3) := by decide +kernel
theorem dX9_together_75 : decode cX9_together 75 = .ok (.aload_n 0, 1) := by decide +kernel
theorem dX9_together_76 : decode cX9_together 76 = .ok (.getfield 51, 3) := by decide +kernel
theorem dX9_together_79 : decode cX9_together 79 = .ok (.getfield 124, 3) := by decide +kernel
theorem dX9_together_82 : decode cX9_together 82 = .ok (.invokevirtual 242, 3) := by decide +kernel
theorem dX9_together_85 : decode cX9_together 85 = .ok (.iload_n 3, 1) := by decide +kernel
theorem dX9_together_86 : decode cX9_together 86 = .ok (.ifCond .eq 15, 3) := by decide +kernel
theorem dX9_together_89 : decode cX9_together 89 = .ok (.aload_n 0, 1) := by decide +kernel
theorem dX9_together_90 : decode cX9_together 90 = .ok (.getfield 76, 3) := by decide +kernel
theorem dX9_together_93 : decode cX9_together 93 = .ok (.getfield 246, 3) := by decide +kernel
theorem dX9_together_96 : decode cX9_together 96 = .ok (.iload_n 1, 1) := by decide +kernel
theorem dX9_together_97 : decode cX9_together 97 = .ok (.iconst 1, 1) := by decide +kernel
theorem dX9_together_98 : decode cX9_together 98 = .ok (.isub, 1) := by decide +kernel
theorem dX9_together_99 : decode cX9_together 99 = .ok (.iaload, 1) := by decide +kernel
theorem dX9_together_100 : decode cX9_together 100 = .ok (.ireturn, 1) := by decide +kernel
theorem dX9_together_101 : decode cX9_together 101 = .ok (.iload 4, 2) := by decide +kernel
theorem dX9_together_103 : decode cX9_together 103 = .ok (.ifCond .eq 16, 3) := by decide +kernel
theorem dX9_together_106 : decode cX9_together 106 = .ok (.aload_n 0, 1) := by decide +kernel
theorem dX9_together_107 : decode cX9_together 107 = .ok (.getfield 76, 3) := by decide +kernel
theorem dX9_together_110 : decode cX9_together 110 = .ok (.getfield 249, 3) := by decide +kernel
theorem dX9_together_113 : decode cX9_together 113 = .ok (.iload_n 1, 1) := by decide +kernel
theorem dX9_together_114 : decode cX9_together 114 = .ok (.bipush 11, 2) := by decide +kernel
theorem dX9_together_116 : decode cX9_together 116 = .ok (.isub, 1) := by decide +kernel
theorem dX9_together_117 : decode cX9_together 117 = .ok (.iaload, 1) := by decide +kernel
theorem dX9_together_118 : decode cX9_together 118 = .ok (.ireturn, 1) := by decide +kernel
theorem dX9_together_119 : decode cX9_together 119 = .ok (.aload_n 0, 1) := by decide +kernel
theorem dX9_together_120 : decode cX9_together 120 = .ok (.getfield 76, 3) := by decide +kernel
theorem dX9_together_123 : decode cX9_together 123 = .ok (.getfield 252, 3) := by decide +kernel
theorem dX9_together_126 : decode cX9_together 126 = .ok (.ireturn, 1) := by decide +kernel
def stC (j : Nat) : Int32 := ([1, 1, 2, 6] : List Int32).getD j 0
def stA (j : Nat) : Int32 := ([0, 0, 1, 5] : List Int32).getD j 0
def stO (j : Nat) : Int32 := ([0, 0, 1, 1, 0, 0, 1, 2, 0, 2, 1, 1, 0, 2, 1, 2, 0, 2, 0, 1, 2, 1, 0] : List Int32).getD j 0
def SA (z : Nat → Nat) (A : Nat → Prop) (U : State) (H : Heap) : Prop :=
  va_Nw (.fieldLinkNest RX4 58 RX9 "ORDERS_COUNT" "[I" RX9) U ∧ va_Nw (.fieldLinkNest RX4 61 RX9 "ORDERS_AT" "[I" RX9) U ∧ va_Nw (.fieldLinkNest RX4 68 RX9 "ORDERS" "[I" RX9) U ∧
  va_Z RX9 "ORDERS_COUNT" "[I" (.ref (z 0)) A U H ∧ va_T .int (z 0) 4 (fun j => .int (stC j)) A U H ∧
  va_Z RX9 "ORDERS_AT" "[I" (.ref (z 1)) A U H ∧ va_T .int (z 1) 4 (fun j => .int (stA j)) A U H ∧
  va_Z RX9 "ORDERS" "[I" (.ref (z 2)) A U H ∧ va_T .int (z 2) 23 (fun j => .int (stO j)) A U H
def PT (D : va_G) (k : Nat → ClassId) (ws : va_W) (sz : Nat) (z : Nat → Nat) (U : State) : Prop := PR D k ws sz U ∧ SA z (va_A ws sz) U U.heap
theorem SA.call {z : Nat → Nat} {A : Nat → Prop} {U : State} {H : Heap} (g : JFrame) (mk : MethodId) (a : Array Value) (h : SA z A U H) : SA z A (U.calling g mk a) H := by
  have hv : U.vm.Alike (U.calling g mk a).vm := Vm.Alike.refl U.vm
  obtain ⟨h1, h2, h3, h4, h5, h6, h7, h8, h9⟩ := h
  exact ⟨va_Nw.same (u := U) rfl rfl h1, va_Nw.same (u := U) rfl rfl h2, va_Nw.same (u := U) rfl rfl h3, h4.moved hv, h5.moved hv, h6.moved hv, h7.moved hv, h8.moved hv, h9.moved hv⟩
theorem PT.blind (av : List Value) (D : va_G) (k : Nat → ClassId) (ws : va_W) (sz : Nat) (z : Nat → Nat) : FrameBlind (va_Pc av (PT D k ws sz z)) := fun a U g mk q => ⟨q.1, (PR.blind av D k ws sz a U g mk ⟨q.1, q.2.1⟩).2, SA.call g mk a q.2.2⟩
theorem PT.pre {s : State} {H : Heap} {ws : va_W} {D : va_G} {k : Nat → ClassId} {A A0 : Nat → Prop} {locs : List Loc} {z : Nat → Nat} (hP : va_P D vwCl ws H) (hD : va_D A ws) (hG : GE D k s) (hZ : SA z A0 s s.heap) (hS : va_S A0 s.heap H locs) (hF : ∀ q, va_A ws H.size q → A0 q) (av : List Value) : ∀ U : State, U.heap = H → s.WarmedH U.vm → va_Pc av (PT D k ws H.size z) av.toArray U := by
  intro U hU hW
  have hv := hW.alike
  obtain ⟨h1, h2, h3, h4, h5, h6, h7, h8, h9⟩ := hZ
  refine ⟨rfl, (PR.pre hP hD hG av U hU hW).2, h1.warmF hW, h2.warmF hW, h3.warmF hW, ?_, ?_, ?_, ?_, ?_, ?_⟩ <;> rw [hU]
  · exact ((h4.kept hS.2.1).narrow hF).moved hv
  · exact ((h5.kept hS.2.1).narrow hF).moved hv
  · exact ((h6.kept hS.2.1).narrow hF).moved hv
  · exact ((h7.kept hS.2.1).narrow hF).moved hv
  · exact ((h8.kept hS.2.1).narrow hF).moved hv
  · exact ((h9.kept hS.2.1).narrow hF).moved hv
theorem sub_nn {w : Int32} (n : Nat) (hn : n < 2 ^ 31) (h : ¬ w < nI n) : 0 ≤ w - nI n := by
  have hle : nI n ≤ w := Int32.not_lt.mp h
  have h0 : ¬ w < 0 := fun q => Int32.lt_irrefl (Int32.lt_of_le_of_lt (Int32.le_trans (nI_pos' hn) hle) q)
  obtain ⟨j, hj, rfl⟩ := nI_of h0
  have hnj : n ≤ j := (nI_leI hn hj).mp hle
  rw [pk_sub hnj]
  exact nI_pos' (by omega)
section CPT
variable {p : Program} {l : Launch} {e : Env} {R : Room} {s : State} {m : MethodId} {args : Array Value} {below : List Frame} {meth : Method} {c : Code} {H : Heap} {locs : List Loc} {cells slots : Nat} {Q : State → Prop}
variable {pc : Nat} {ls : Array Slot} {rest : List Value} {D : va_G} {cl : List vw_C} {A : Nat → Prop} {a : Nat} {tys : List (ClassId × FieldType)} {ws : va_W}
theorem va_copyT {cc : ByteArray} (hexec : p.tables.exec = Jvm.exec) (hb : c.code = cc) (hml : c.maxLocals = ls.size) {own : String} {index : Nat} (hown : s.vm.findClass own = some m.cls) (hlink : (Cond.methodLink own index arraycopyName).before args s = true) (hnat : (Cond.native arraycopyName).before args s = true) (hstat : (Cond.static arraycopyName).before args s = true) (hini : (Cond.initialized "java/lang/System").before args s = true)
    (hK : va_K D cl tys s) (hP : va_P D cl ws H) (hD : va_D A ws) {t N : Nat} {f : Nat → Int32} (hT0 : va_T .int t N (fun j => .int (f j)) A s s.heap) (hS : va_S A s.heap H locs) (q1 t1 : Nat) {c1 : ClassId} {n1 : Nat} {g : Nat → Int32} (ha1 : ws[q1]? = some (a, .inl (c1, n1, .inl g))) (ht1 : tys[t1]? = some (c1, .int))
    {sp dp n : Int32} (h1 : ¬ sp < 0) (h2 : ¬ dp < 0) (h3 : ¬ n < 0) (h4 : sp.toNatClampNeg + n.toNatClampNeg ≤ N) (h5 : dp.toNatClampNeg + n.toNatClampNeg ≤ n1)
    (hframes : 1 ≤ R.frames) (hlocals : (rest.map fun v => v.category).sum + (nativeFrameWords "java/lang/System" "arraycopy" 5 + 11) ≤ R.locals) (hdg : decode cc pc = .ok (.invokestatic index, 3))
    (kk : ∀ (H1 : Heap) (locs1 : List Loc), va_P D cl (ws.set q1 (a, .inl (c1, n1, .inl (va_cpy f g sp.toNatClampNeg dp.toNatClampNeg n.toNatClampNeg)))) H1 → va_D A (ws.set q1 (a, .inl (c1, n1, .inl (va_cpy f g sp.toNatClampNeg dp.toNatClampNeg n.toNatClampNeg)))) → va_S A s.heap H1 locs1 → W p l e R s m args below meth c H1 locs1 cells slots Q (F0 m (pc + 3) ls rest)) : W p l e R s m args below meth c H locs cells slots Q (F0 m pc ls (.int n :: .int dp :: .ref a :: .int sp :: .ref t :: rest)) := by
  have nn : ∀ z : Int32, ¬ z < 0 → z.toInt = (z.toNatClampNeg : Int) := by
    intro z hz
    have hz0 : (0 : Int) ≤ z.toInt := by
      have := Int32.not_lt.mp hz
      simpa using Int32.le_iff_toInt_le.mp this
    show z.toInt = ((z.toInt.toNat : Nat) : Int)
    omega
  intro T hT X
  obtain ⟨cell, b1, b2, b3, b4, b5, b6, b7⟩ := hT0
  have hc0 : H[t]? = some cell := (hS.2.1 t (Array.getElem?_eq_some_iff.mp b1).1 b7).trans b1
  have hc1 : H[a]? = some (vp_cell c1 (n1, .inl g)) := hP q1 _ ha1
  obtain ⟨b20, k0, hk0, cm0, hkk0⟩ := b2
  obtain ⟨-, k1, hk1, cm1, hkk1⟩ := (hK.2 t1 _ ht1).1 n1 (fun j => .int (g j))
  have hrd : ∀ i : Nat, i < n.toNatClampNeg → cell.slots.getD (sp.toNatClampNeg + i) .null = .int (f (sp.toNatClampNeg + i)) := fun i hi => by
    rw [Array.getD_eq_getD_getElem?, b6 _ (by omega)]
    rfl
  obtain ⟨vm', X', step⟩ := X.arraycopy hexec hown hlink hnat hstat hini (src := t) (dst := a) (cs := cell) (cd := vp_cell c1 (n1, .inl g)) (srcPos := sp) (destPos := dp) (n := n) (by rw [hT]; exact hc0) (by rw [hT]; exact hc1)
    b20 (fun _ h => by cases h) b3 (fun h => by cases h) hk0 hk1 hkk0 hkk1 rfl h1 h2 h3
    (by rw [nn sp h1, nn n h3]; omega)
    (by rw [nn dp h2, nn n h3]; show ¬ _ > ((arrV c1 n1 (fun j => .int (g j))).slots.size : Int); rw [arrV_size]; omega)
    (fun vm₁ _ i hi => by
      refine ⟨?_, ?_⟩
      · rw [hrd i hi]
        rfl
      · rw [hrd i hi]
        exact trivial)
    (g := F0 m pc ls (.int n :: .int dp :: .ref a :: .int sp :: .ref t :: rest)) rfl (by rw [hml]) (rest := rest) rfl (by rw [hb]; exact hdg) hframes (by show 2 * 0 + _ + _ ≤ _; omega)
  have es : cell.stretch sp.toNatClampNeg n.toNatClampNeg = (arrV c1 N (fun j => .int (f j))).stretch sp.toNatClampNeg n.toNatClampNeg := by
    unfold Cell.stretch
    apply List.map_congr_left
    intro i hi
    have hi' := List.mem_range.mp hi
    rw [hrd i hi', Array.getD_eq_getD_getElem?, arrV_read _ _ (by omega)]
    rfl
  have e1 : copied cell (vp_cell c1 (n1, .inl g)) sp dp n = vp_cell c1 (n1, .inl (va_cpy f g sp.toNatClampNeg dp.toNatClampNeg n.toNatClampNeg)) := by
    show (vp_cell c1 (n1, .inl g)).storeRun dp.toNatClampNeg (cell.stretch sp.toNatClampNeg n.toNatClampNeg) = _
    rw [es]
    exact va_copied (fun z => .int z) c1 c1 f g h4
  rw [e1] at X' step
  have hl : a < H.size := (Array.getElem?_eq_some_iff.mp hc1).1
  have hheap : ((T.setVm vm').setCell a (vp_cell c1 (n1, .inl (va_cpy f g sp.toNatClampNeg dp.toNatClampNeg n.toNatClampNeg)))).heap = H.setIfInBounds a (vp_cell c1 (n1, .inl (va_cpy f g sp.toNatClampNeg dp.toNatClampNeg n.toNatClampNeg))) := by rw [← hT]; rfl
  have oq : ∀ q : Nat, q ≠ a → (H.setIfInBounds a (vp_cell c1 (n1, .inl (va_cpy f g sp.toNatClampNeg dp.toNatClampNeg n.toNatClampNeg))))[q]? = H[q]? := fun q hq => by simp [Array.getElem?_setIfInBounds, Ne.symm hq]
  obtain ⟨t2, a1, d1⟩ := kk _ _ (hP.set hD ha1 (show (H.setIfInBounds a _)[a]? = some _ by simp [Array.getElem?_setIfInBounds, hl]) oq) (hD.set ha1) ⟨by simp; exact hS.1, fun q g1 g2 => by
      rw [oq q (fun e => g2 (by rw [e]; exact hD.2 q1 _ ha1))]
      exact hS.2.1 q g1 g2, fun q hq => by
      rcases List.mem_append.mp hq with h | h
      · exact hS.2.2 q h
      · obtain ⟨z, -, hz⟩ := List.mem_map.mp h
        rw [← hz]
        exact hD.2 q1 _ ha1⟩ _ hheap X'
  exact ⟨t2, step t2 a1, d1⟩
end CPT

abbrev c_X6_clearFor (k : Nat → ClassId) (h : Nat) (t1 : Nat) (t2 : Nat) (t3 : Nat) (ca : Int32) (cb : Int32) (w : Int32) : va_W := [(h, .inr (6, [.int ca, .int cb, .ref t1, .ref t2, .ref t3]))]
abbrev r_X6_clearFor : Room := { frames := 0, cells := 0, slots := 0, locals := 0 }
def w_X6_clearFor (k : Nat → ClassId) (h : Nat) (t1 : Nat) (t2 : Nat) (t3 : Nat) (ca : Int32) (cb : Int32) (w : Int32) : Unit → va_W := fun _ => [(h, .inr (6, [.int 0, .int w, .ref t1, .ref t2, .ref t3]))]
def p_X6_clearFor (k : Nat → ClassId) (h : Nat) (t1 : Nat) (t2 : Nat) (t3 : Nat) (ca : Int32) (cb : Int32) (w : Int32) : Unit → Prop := fun (u : Unit) => True
abbrev q_X6_clearFor (D : va_G) (k : Nat → ClassId) (h : Nat) (t1 : Nat) (t2 : Nat) (t3 : Nat) (ca : Int32) (cb : Int32) (w : Int32) (A : Nat → Prop) : Array Value → State → Outcome → State → Prop := va_Qv (p_X6_clearFor k h t1 t2 t3 ca cb w) (fun u9 t9 => BO D (w_X6_clearFor k h t1 t2 t3 ca cb w u9) A t9) A
set_option maxHeartbeats 2000000 in
set_option maxRecDepth 100000 in
theorem X6_clearFor (l : Launch) (D : va_G) (k : Nat → ClassId) (sz : Nat) (h : Nat) (t1 : Nat) (t2 : Nat) (t3 : Nat) (ca : Int32) (cb : Int32) (w : Int32)  : Met l yX6_clearFor wsX6_clearFor r_X6_clearFor (va_Pc [.ref h, .int w] (PR D k (c_X6_clearFor k h t1 t2 t3 ca cb w) sz)) (q_X6_clearFor D k h t1 t2 t3 ca cb w (va_A (c_X6_clearFor k h t1 t2 t3 ca cb w) sz)) 0 0 (va_A (c_X6_clearFor k h t1 t2 t3 ca cb w) sz) := by
  refine Met.ofW (cc := cX6_clearFor) (maxL := 2) (ret := none) (by decide) rfl ?_
  intro p e s m args below meth c s₁ B hml hv
  obtain ⟨rfl, hsz, hP, hG, hD0⟩ := hv
  have hx := B.exec
  have hb := B.bytes
  have hr := B.returns
  have hts := atoms_spec (ws := wsX6_clearFor) B.pre
  have hown : s.vm.findClass RX6 = some m.cls := findClass_of_methodNamed B.named
  have hlocks := B.notSynchronized
  have hi6 : ∀ w ∈ wsX60, w ∈ wsX6_clearFor := fun _ h => List.mem_cons_of_mem _ (List.mem_append_right _ h)
  subst hsz
  have hD := hD0.self (sz := s.heap.size)
  generalize hAe : va_A (c_X6_clearFor k h t1 t2 t3 ca cb w) s.heap.size = A at hD ⊢
  have hA : ∀ q : Nat, s.heap.size ≤ q → A q := fun q h => by rw [← hAe]; exact Or.inr h
  have hS : va_S A s.heap s.heap [] := va_S.rf
  have hP : va_P D vwCl [(h, .inr (6, [.int ca, .int cb, .ref t1, .ref t2, .ref t3]))] s.heap := hP
  have hD : va_D A [(h, .inr (6, [.int ca, .int cb, .ref t1, .ref t2, .ref t3]))] := hD
  have hl := lv_entry ([.ref h, .int w]) (n := 2) (Nat.le_of_ble_eq_true rfl)
  rw [lg_entry_eq]
  generalize (lg_sl ([.ref h, .int w]) ++ List.replicate (2 - (lg_sl ([.ref h, .int w])).length) Slot.unset).toArray = ls at hl ⊢
  have hl : lv_has ls 2 [(0, .ref h), (1, .int w)] := hl
  refine lv_aload_n hx hb dX6_clearFor_0 rfl (lv_at hl 0 rfl) ?_
  refine lv_iconst (v := 0) hx hb dX6_clearFor_1 (by decide) ?_
  refine va_put (D := D) (ci := 6) (v := .int 0) (ty := .int) (C := RX6) (T := TX6) (N := 5) hx hb hts hi6 tyX6 tyX6_ok nmX6 hown hG.1 hP hD hS 0 rfl rfl 0 (by decide) (hts (.fieldLink RX6 9 "SleptMatters$Taken" "count" "I") (List.mem_cons_of_mem _ (List.mem_append_left _ (List.mem_of_getElem? (i := 0) rfl)))) (fun _ h9 => h9) rfl (by decide +kernel) rfl rfl (Nat.le_of_ble_eq_true rfl) dX6_clearFor_2 (fun H locs hP hD hS => ?_)
  have hP : va_P D vwCl [(h, .inr (6, [.int 0, .int cb, .ref t1, .ref t2, .ref t3]))] H := hP
  have hD : va_D A [(h, .inr (6, [.int 0, .int cb, .ref t1, .ref t2, .ref t3]))] := hD
  refine lv_aload_n hx hb dX6_clearFor_5 rfl (lv_at hl 0 rfl) ?_
  refine lv_iload_n hx hb dX6_clearFor_6 rfl (lv_at hl 1 rfl) ?_
  refine va_put (D := D) (ci := 6) (v := .int w) (ty := .int) (C := RX6) (T := TX6) (N := 5) hx hb hts hi6 tyX6 tyX6_ok nmX6 hown hG.1 hP hD hS 0 rfl rfl 1 (by decide) (hts (.fieldLink RX6 15 "SleptMatters$Taken" "nights" "I") (List.mem_cons_of_mem _ (List.mem_append_left _ (List.mem_of_getElem? (i := 1) rfl)))) (fun _ h9 => h9) rfl (by decide +kernel) rfl rfl (Nat.le_of_ble_eq_true rfl) dX6_clearFor_7 (fun H locs hP hD hS => ?_)
  have hP : va_P D vwCl [(h, .inr (6, [.int 0, .int w, .ref t1, .ref t2, .ref t3]))] H := hP
  have hD : va_D A [(h, .inr (6, [.int 0, .int w, .ref t1, .ref t2, .ref t3]))] := hD
  have hP9 := hP.sub (ws' := [(h, .inr (6, [.int 0, .int w, .ref t1, .ref t2, .ref t3]))]) [0] rfl
  have hD9 := hD.sub (ws' := [(h, .inr (6, [.int 0, .int w, .ref t1, .ref t2, .ref t3]))]) [0] (by decide +kernel) rfl
  exact W.vret hx hb hr (fun t9 ht _ => ⟨⟨(), rfl, trivial, by rw [ht]; exact hP9, hD9⟩, hS.F ht⟩) hS.2.2 dX6_clearFor_10

abbrev c_X4_gainOf (k : Nat → ClassId) (xp : Nat) (xr : Nat) (od : Nat) (en : Nat) (te : Nat) (tk : Nat) (kn : Int32) (ga : Int32) (dd : Int32) (ni : Int32) (w : Int32) (r0 : Nat) (r1 : Nat) (xl : Nat) (r3 : Nat) (r4 : Nat) (r5 : Nat) (r6 : Nat) (r7 : Nat) (r8 : Nat) (r9 : Nat) (t1 : Nat) (t2 : Nat) (t3 : Nat) (ca : Int32) (cb : Int32) : va_W := [(xp, .inr (4, [.int kn, .int ga, .ref od, .ref en, .ref te, .ref tk, .ref xr, .int dd, .int ni])), (xr, .inr (5, [.ref r0, .ref r1, .ref xl, .ref r3, .ref r4, .ref r5, .ref r6, .ref r7, .ref r8, .ref r9])), (tk, .inr (6, [.int ca, .int cb, .ref t1, .ref t2, .ref t3]))]
abbrev r_X4_gainOf : Room := { frames := 1, cells := 0, slots := 0, locals := 21 }
def w_X4_gainOf (k : Nat → ClassId) (xp : Nat) (xr : Nat) (od : Nat) (en : Nat) (te : Nat) (tk : Nat) (kn : Int32) (ga : Int32) (dd : Int32) (ni : Int32) (w : Int32) (r0 : Nat) (r1 : Nat) (xl : Nat) (r3 : Nat) (r4 : Nat) (r5 : Nat) (r6 : Nat) (r7 : Nat) (r8 : Nat) (r9 : Nat) (t1 : Nat) (t2 : Nat) (t3 : Nat) (ca : Int32) (cb : Int32) : Unit → va_W := fun _ => [(xp, .inr (4, [.int kn, .int ga, .ref od, .ref en, .ref te, .ref tk, .ref xr, .int dd, .int ni])), (xr, .inr (5, [.ref r0, .ref r1, .ref xl, .ref r3, .ref r4, .ref r5, .ref r6, .ref r7, .ref r8, .ref r9])), (tk, .inr (6, [.int 0, .int ni, .ref t1, .ref t2, .ref t3]))]
def p_X4_gainOf (k : Nat → ClassId) (xp : Nat) (xr : Nat) (od : Nat) (en : Nat) (te : Nat) (tk : Nat) (kn : Int32) (ga : Int32) (dd : Int32) (ni : Int32) (w : Int32) (r0 : Nat) (r1 : Nat) (xl : Nat) (r3 : Nat) (r4 : Nat) (r5 : Nat) (r6 : Nat) (r7 : Nat) (r8 : Nat) (r9 : Nat) (t1 : Nat) (t2 : Nat) (t3 : Nat) (ca : Int32) (cb : Int32) : Int32 → Unit → Prop := fun (r : Int32) (u : Unit) => r = 0
abbrev q_X4_gainOf (D : va_G) (k : Nat → ClassId) (xp : Nat) (xr : Nat) (od : Nat) (en : Nat) (te : Nat) (tk : Nat) (kn : Int32) (ga : Int32) (dd : Int32) (ni : Int32) (w : Int32) (r0 : Nat) (r1 : Nat) (xl : Nat) (r3 : Nat) (r4 : Nat) (r5 : Nat) (r6 : Nat) (r7 : Nat) (r8 : Nat) (r9 : Nat) (t1 : Nat) (t2 : Nat) (t3 : Nat) (ca : Int32) (cb : Int32) (A : Nat → Prop) : Array Value → State → Outcome → State → Prop := va_Qi (p_X4_gainOf k xp xr od en te tk kn ga dd ni w r0 r1 xl r3 r4 r5 r6 r7 r8 r9 t1 t2 t3 ca cb) (fun u9 t9 => BO D (w_X4_gainOf k xp xr od en te tk kn ga dd ni w r0 r1 xl r3 r4 r5 r6 r7 r8 r9 t1 t2 t3 ca cb u9) A t9) A
set_option maxHeartbeats 2000000 in
set_option maxRecDepth 100000 in
theorem X4_gainOf (l : Launch) (D : va_G) (k : Nat → ClassId) (sz : Nat) (xp : Nat) (xr : Nat) (od : Nat) (en : Nat) (te : Nat) (tk : Nat) (kn : Int32) (ga : Int32) (dd : Int32) (ni : Int32) (w : Int32) (r0 : Nat) (r1 : Nat) (xl : Nat) (r3 : Nat) (r4 : Nat) (r5 : Nat) (r6 : Nat) (r7 : Nat) (r8 : Nat) (r9 : Nat) (t1 : Nat) (t2 : Nat) (t3 : Nat) (ca : Int32) (cb : Int32)  : Met l yX4_gainOf wsX4_gainOf r_X4_gainOf (va_Pc [.ref xp, .int w, .int 0] (PR D k (c_X4_gainOf k xp xr od en te tk kn ga dd ni w r0 r1 xl r3 r4 r5 r6 r7 r8 r9 t1 t2 t3 ca cb) sz)) (q_X4_gainOf D k xp xr od en te tk kn ga dd ni w r0 r1 xl r3 r4 r5 r6 r7 r8 r9 t1 t2 t3 ca cb (va_A (c_X4_gainOf k xp xr od en te tk kn ga dd ni w r0 r1 xl r3 r4 r5 r6 r7 r8 r9 t1 t2 t3 ca cb) sz)) 0 0 (va_A (c_X4_gainOf k xp xr od en te tk kn ga dd ni w r0 r1 xl r3 r4 r5 r6 r7 r8 r9 t1 t2 t3 ca cb) sz) := by
  refine Met.ofW (cc := cX4_gainOf) (maxL := 9) (ret := (some .int)) (by decide) rfl ?_
  intro p e s m args below meth c s₁ B hml hv
  obtain ⟨rfl, hsz, hP, hG, hD0⟩ := hv
  have hx := B.exec
  have hb := B.bytes
  have hr := B.returns
  have hts := atoms_spec (ws := wsX4_gainOf) B.pre
  have hown : s.vm.findClass RX4 = some m.cls := findClass_of_methodNamed B.named
  have hlocks := B.notSynchronized
  have hi4 : ∀ w ∈ wsX40, w ∈ wsX4_gainOf := fun _ h => List.mem_cons_of_mem _ (List.mem_append_left _ (List.mem_append_left _ (List.mem_append_left _ (List.mem_append_right _ h))))
  have hi5 : ∀ w ∈ wsX50, w ∈ wsX4_gainOf := fun _ h => List.mem_cons_of_mem _ (List.mem_append_left _ (List.mem_append_left _ (List.mem_append_right _ h)))
  have hi6 : ∀ w ∈ wsX60, w ∈ wsX4_gainOf := fun _ h => List.mem_cons_of_mem _ (List.mem_append_left _ (List.mem_append_right _ h))
  have hi8 : ∀ w ∈ wsX80, w ∈ wsX4_gainOf := fun _ h => List.mem_cons_of_mem _ (List.mem_append_right _ h)
  subst hsz
  have hD := hD0.self (sz := s.heap.size)
  generalize hAe : va_A (c_X4_gainOf k xp xr od en te tk kn ga dd ni w r0 r1 xl r3 r4 r5 r6 r7 r8 r9 t1 t2 t3 ca cb) s.heap.size = A at hD ⊢
  have hA : ∀ q : Nat, s.heap.size ≤ q → A q := fun q h => by rw [← hAe]; exact Or.inr h
  have hS : va_S A s.heap s.heap [] := va_S.rf
  have hP : va_P D vwCl [(xp, .inr (4, [.int kn, .int ga, .ref od, .ref en, .ref te, .ref tk, .ref xr, .int dd, .int ni])), (xr, .inr (5, [.ref r0, .ref r1, .ref xl, .ref r3, .ref r4, .ref r5, .ref r6, .ref r7, .ref r8, .ref r9])), (tk, .inr (6, [.int ca, .int cb, .ref t1, .ref t2, .ref t3]))] s.heap := hP
  have hD : va_D A [(xp, .inr (4, [.int kn, .int ga, .ref od, .ref en, .ref te, .ref tk, .ref xr, .int dd, .int ni])), (xr, .inr (5, [.ref r0, .ref r1, .ref xl, .ref r3, .ref r4, .ref r5, .ref r6, .ref r7, .ref r8, .ref r9])), (tk, .inr (6, [.int ca, .int cb, .ref t1, .ref t2, .ref t3]))] := hD
  have hl := lv_entry ([.ref xp, .int w, .int 0]) (n := 9) (Nat.le_of_ble_eq_true rfl)
  rw [lg_entry_eq]
  generalize (lg_sl ([.ref xp, .int w, .int 0]) ++ List.replicate (9 - (lg_sl ([.ref xp, .int w, .int 0])).length) Slot.unset).toArray = ls at hl ⊢
  have hl : lv_has ls 9 [(0, .ref xp), (1, .int w), (2, .int 0)] := hl
  refine lv_aload_n hx hb dX4_gainOf_0 rfl (lv_at hl 0 rfl) ?_
  refine va_get (D := D) (ci := 4) (v := .ref xr) (C := RX4) (T := TX4) (N := 9) hx hb hts hi4 hown hG.1 hP 0 rfl rfl 6 (by decide) (hts (.fieldLink RX4 42 "SleptMatters$Plan" "rows" "LSleptMatters$Rows;") (List.mem_cons_of_mem _ (List.mem_append_left _ (List.mem_append_left _ (List.mem_append_left _ (List.mem_append_left _ (List.mem_append_left _ (List.mem_of_getElem? (i := 0) rfl)))))))) (fun _ h9 => h9) rfl dX4_gainOf_1 ?_
  refine va_get (D := D) (ci := 5) (v := .ref xl) (C := RX5) (T := TX5) (N := 10) hx hb hts hi5 hown hG.1 hP 1 rfl rfl 2 (by decide) (hts (.fieldLink RX4 46 "SleptMatters$Rows" "town" "LSleptMatters$Town;") (List.mem_cons_of_mem _ (List.mem_append_left _ (List.mem_append_left _ (List.mem_append_left _ (List.mem_append_left _ (List.mem_append_left _ (List.mem_of_getElem? (i := 1) rfl)))))))) (fun _ h9 => h9) rfl dX4_gainOf_4 ?_
  refine lv_astore_n (lv' := [(3, .ref xl), (0, .ref xp), (1, .int w), (2, .int 0)]) hx hb dX4_gainOf_7 rfl hl (by decide) rfl (fun ls hl => ?_)
  refine lv_aload_n hx hb dX4_gainOf_8 rfl (lv_at hl 1 rfl) ?_
  refine va_get (D := D) (ci := 4) (v := .ref tk) (C := RX4) (T := TX4) (N := 9) hx hb hts hi4 hown hG.1 hP 0 rfl rfl 5 (by decide) (hts (.fieldLink RX4 32 "SleptMatters$Plan" "taken" "LSleptMatters$Taken;") (List.mem_cons_of_mem _ (List.mem_append_left _ (List.mem_append_left _ (List.mem_append_left _ (List.mem_append_left _ (List.mem_append_left _ (List.mem_of_getElem? (i := 2) rfl)))))))) (fun _ h9 => h9) rfl dX4_gainOf_9 ?_
  refine lv_aload_n hx hb dX4_gainOf_12 rfl (lv_at hl 1 rfl) ?_
  refine va_get (D := D) (ci := 4) (v := .int ni) (C := RX4) (T := TX4) (N := 9) hx hb hts hi4 hown hG.1 hP 0 rfl rfl 8 (by decide) (hts (.fieldLink RX4 39 "SleptMatters$Plan" "nights" "I") (List.mem_cons_of_mem _ (List.mem_append_left _ (List.mem_append_left _ (List.mem_append_left _ (List.mem_append_left _ (List.mem_append_left _ (List.mem_of_getElem? (i := 3) rfl)))))))) (fun _ h9 => h9) rfl dX4_gainOf_13 ?_
  have hPc := hP.sub (ws' := (c_X6_clearFor k tk t1 t2 t3 ca cb ni)) [2] rfl
  have hDc := hD.sub (ws' := (c_X6_clearFor k tk t1 t2 t3 ca cb ni)) [2] (by decide +kernel) rfl
  refine cl_v (w1 := w_X6_clearFor k tk t1 t2 t3 ca cb ni) (wr := [(xp, .inr (4, [.int kn, .int ga, .ref od, .ref en, .ref te, .ref tk, .ref xr, .int dd, .int ni])), (xr, .inr (5, [.ref r0, .ref r1, .ref xl, .ref r3, .ref r4, .ref r5, .ref r6, .ref r7, .ref r8, .ref r9]))]) (va_runV (As := [.int ni]) (rest := []) ⟨hx, hb, hml, hown, hts⟩ (X6_clearFor l D k s.heap.size tk t1 t2 t3 ca cb ni ) (cwV 1 hts gX4_gainOf_X6_clearFor rfl rfl rfl (by decide +kernel) ⟨Nat.le_of_ble_eq_true rfl, Nat.le_of_ble_eq_true rfl⟩) ⟨PR.blind _ _ _ _ _, va_recv hG.1 hP (ci := 6) (q0 := 2) rfl rfl, PR.pre hPc hDc hG [.ref tk, .int ni]⟩ rfl rfl hl.1 rfl (lv_room (Nat.le_of_ble_eq_true rfl)) dX4_gainOf_16 ⟨Nat.le_of_ble_eq_true rfl, Nat.le_of_ble_eq_true rfl⟩) hP hD hS hA [2] [0, 1] rfl rfl (by decide +kernel) (by decide +kernel) (fun u H locs hq hP hD hS => ?_)
  cases u
  have hP : va_P D vwCl [(xp, .inr (4, [.int kn, .int ga, .ref od, .ref en, .ref te, .ref tk, .ref xr, .int dd, .int ni])), (xr, .inr (5, [.ref r0, .ref r1, .ref xl, .ref r3, .ref r4, .ref r5, .ref r6, .ref r7, .ref r8, .ref r9])), (tk, .inr (6, [.int 0, .int ni, .ref t1, .ref t2, .ref t3]))] H := hP
  have hD : va_D A [(xp, .inr (4, [.int kn, .int ga, .ref od, .ref en, .ref te, .ref tk, .ref xr, .int dd, .int ni])), (xr, .inr (5, [.ref r0, .ref r1, .ref xl, .ref r3, .ref r4, .ref r5, .ref r6, .ref r7, .ref r8, .ref r9])), (tk, .inr (6, [.int 0, .int ni, .ref t1, .ref t2, .ref t3]))] := hD
  refine lv_iconst (v := 0) hx hb dX4_gainOf_19 (by decide) ?_
  refine lv_istore (lv' := [(4, .int 0), (3, .ref xl), (0, .ref xp), (1, .int w), (2, .int 0)]) hx hb dX4_gainOf_20 hl (by decide) rfl (fun ls hl => ?_)
  refine lv_iconst (v := 0) hx hb dX4_gainOf_22 (by decide) ?_
  refine lv_istore (lv' := [(5, .int 0), (4, .int 0), (3, .ref xl), (0, .ref xp), (1, .int w), (2, .int 0)]) hx hb dX4_gainOf_23 hl (by decide) rfl (fun ls hl => ?_)
  refine lv_iload hx hb dX4_gainOf_25 (lv_at hl 0 rfl) ?_
  refine lv_iload_n hx hb dX4_gainOf_27 rfl (lv_at hl 5 rfl) ?_
  refine lv_icmp_ge (x := 0) (y := 0) (tgt := 108) hx hb dX4_gainOf_28 (by decide) (fun c1 => ?_) (fun c1 => absurd c1 (by decide))
  refine lv_iload hx hb dX4_gainOf_108 (lv_at hl 1 rfl) ?_
  have hP9 := hP.sub (ws' := [(xp, .inr (4, [.int kn, .int ga, .ref od, .ref en, .ref te, .ref tk, .ref xr, .int dd, .int ni])), (xr, .inr (5, [.ref r0, .ref r1, .ref xl, .ref r3, .ref r4, .ref r5, .ref r6, .ref r7, .ref r8, .ref r9])), (tk, .inr (6, [.int 0, .int ni, .ref t1, .ref t2, .ref t3]))]) [0, 1, 2] rfl
  have hD9 := hD.sub (ws' := [(xp, .inr (4, [.int kn, .int ga, .ref od, .ref en, .ref te, .ref tk, .ref xr, .int dd, .int ni])), (xr, .inr (5, [.ref r0, .ref r1, .ref xl, .ref r3, .ref r4, .ref r5, .ref r6, .ref r7, .ref r8, .ref r9])), (tk, .inr (6, [.int 0, .int ni, .ref t1, .ref t2, .ref t3]))]) [0, 1, 2] (by decide +kernel) rfl
  exact W.iret (v := 0) hx hb hr (fun t9 ht _ => ⟨⟨0, (), rfl, rfl, by rw [ht]; exact hP9, hD9⟩, hS.F ht⟩) hS.2.2 dX4_gainOf_110

abbrev c_X4_update (k : Nat → ClassId) (xp : Nat) (xr : Nat) (od : Nat) (en : Nat) (te : Nat) (tk : Nat) (r0 : Nat) (r1 : Nat) (xl : Nat) (r3 : Nat) (r4 : Nat) (r5 : Nat) (r6 : Nat) (r7 : Nat) (r8 : Nat) (r9 : Nat) (t1 : Nat) (t2 : Nat) (t3 : Nat) (lt : Nat) (ltn : Nat) (ltl : Nat) (ltc : Nat) (lta : Nat) (dd : Int32) (ni : Int32) : va_W := [(xp, .inr (4, [.int 0, .int 0, .ref od, .ref en, .ref te, .ref tk, .ref xr, .int 0, .int 0])), (xr, .inr (5, [.ref r0, .ref r1, .ref xl, .ref r3, .ref r4, .ref r5, .ref r6, .ref r7, .ref r8, .ref r9])), (xl, .inr (8, [.ref lt, .ref ltn, .ref ltl, .ref ltc, .ref lta])), (lt, .inl (k 0, 4, .inl (fun _ => 0))), (od, .inl (k 0, 3, .inl (fun _ => 0))), (en, .inl (k 0, 3, .inl (fun _ => 0))), (te, .inl (k 0, 3, .inl (fun _ => 0))), (tk, .inr (6, [.int 0, .int 0, .ref t1, .ref t2, .ref t3]))]
abbrev r_X4_update : Room := { frames := 2, cells := 0, slots := 0, locals := 49 }
def w_X4_update (k : Nat → ClassId) (xp : Nat) (xr : Nat) (od : Nat) (en : Nat) (te : Nat) (tk : Nat) (r0 : Nat) (r1 : Nat) (xl : Nat) (r3 : Nat) (r4 : Nat) (r5 : Nat) (r6 : Nat) (r7 : Nat) (r8 : Nat) (r9 : Nat) (t1 : Nat) (t2 : Nat) (t3 : Nat) (lt : Nat) (ltn : Nat) (ltl : Nat) (ltc : Nat) (lta : Nat) (dd : Int32) (ni : Int32) : Unit → va_W := fun _ => [(xp, .inr (4, [.int 1, .int 0, .ref od, .ref en, .ref te, .ref tk, .ref xr, .int dd, .int ni]))]
def p_X4_update (k : Nat → ClassId) (xp : Nat) (xr : Nat) (od : Nat) (en : Nat) (te : Nat) (tk : Nat) (r0 : Nat) (r1 : Nat) (xl : Nat) (r3 : Nat) (r4 : Nat) (r5 : Nat) (r6 : Nat) (r7 : Nat) (r8 : Nat) (r9 : Nat) (t1 : Nat) (t2 : Nat) (t3 : Nat) (lt : Nat) (ltn : Nat) (ltl : Nat) (ltc : Nat) (lta : Nat) (dd : Int32) (ni : Int32) : Unit → Prop := fun (u : Unit) => True
abbrev q_X4_update (D : va_G) (k : Nat → ClassId) (xp : Nat) (xr : Nat) (od : Nat) (en : Nat) (te : Nat) (tk : Nat) (r0 : Nat) (r1 : Nat) (xl : Nat) (r3 : Nat) (r4 : Nat) (r5 : Nat) (r6 : Nat) (r7 : Nat) (r8 : Nat) (r9 : Nat) (t1 : Nat) (t2 : Nat) (t3 : Nat) (lt : Nat) (ltn : Nat) (ltl : Nat) (ltc : Nat) (lta : Nat) (dd : Int32) (ni : Int32) (A : Nat → Prop) : Array Value → State → Outcome → State → Prop := va_Qv (p_X4_update k xp xr od en te tk r0 r1 xl r3 r4 r5 r6 r7 r8 r9 t1 t2 t3 lt ltn ltl ltc lta dd ni) (fun u9 t9 => BO D (w_X4_update k xp xr od en te tk r0 r1 xl r3 r4 r5 r6 r7 r8 r9 t1 t2 t3 lt ltn ltl ltc lta dd ni u9) A t9) A
set_option maxHeartbeats 2000000 in
set_option maxRecDepth 100000 in
theorem X4_update (l : Launch) (D : va_G) (k : Nat → ClassId) (sz : Nat) (z : Nat → Nat) (xp : Nat) (xr : Nat) (od : Nat) (en : Nat) (te : Nat) (tk : Nat) (r0 : Nat) (r1 : Nat) (xl : Nat) (r3 : Nat) (r4 : Nat) (r5 : Nat) (r6 : Nat) (r7 : Nat) (r8 : Nat) (r9 : Nat) (t1 : Nat) (t2 : Nat) (t3 : Nat) (lt : Nat) (ltn : Nat) (ltl : Nat) (ltc : Nat) (lta : Nat) (dd : Int32) (ni : Int32)  : Met l yX4_update wsX4_update r_X4_update (va_Pc [.ref xp, .int dd, .int ni] (PT D k (c_X4_update k xp xr od en te tk r0 r1 xl r3 r4 r5 r6 r7 r8 r9 t1 t2 t3 lt ltn ltl ltc lta dd ni) sz z)) (q_X4_update D k xp xr od en te tk r0 r1 xl r3 r4 r5 r6 r7 r8 r9 t1 t2 t3 lt ltn ltl ltc lta dd ni (va_A (c_X4_update k xp xr od en te tk r0 r1 xl r3 r4 r5 r6 r7 r8 r9 t1 t2 t3 lt ltn ltl ltc lta dd ni) sz)) 0 0 (va_A (c_X4_update k xp xr od en te tk r0 r1 xl r3 r4 r5 r6 r7 r8 r9 t1 t2 t3 lt ltn ltl ltc lta dd ni) sz) := by
  refine Met.ofW (cc := cX4_update) (maxL := 7) (ret := none) (by decide) rfl ?_
  intro p e s m args below meth c s₁ B hml hv
  obtain ⟨rfl, ⟨hsz, hP, hG, hD0⟩, hZ⟩ := hv
  have hx := B.exec
  have hb := B.bytes
  have hr := B.returns
  have hts := atoms_spec (ws := wsX4_update) B.pre
  have hown : s.vm.findClass RX4 = some m.cls := findClass_of_methodNamed B.named
  have hlocks := B.notSynchronized
  have hi4 : ∀ w ∈ wsX40, w ∈ wsX4_update := fun _ h => List.mem_cons_of_mem _ (List.mem_append_left _ (List.mem_append_left _ (List.mem_append_left _ (List.mem_append_right _ h))))
  have hi5 : ∀ w ∈ wsX50, w ∈ wsX4_update := fun _ h => List.mem_cons_of_mem _ (List.mem_append_left _ (List.mem_append_left _ (List.mem_append_right _ h)))
  have hi8 : ∀ w ∈ wsX80, w ∈ wsX4_update := fun _ h => List.mem_cons_of_mem _ (List.mem_append_left _ (List.mem_append_right _ h))
  have hi6 : ∀ w ∈ wsX60, w ∈ wsX4_update := fun _ h => List.mem_cons_of_mem _ (List.mem_append_right _ h)
  subst hsz
  have hD := hD0.self (sz := s.heap.size)
  generalize hAe : va_A (c_X4_update k xp xr od en te tk r0 r1 xl r3 r4 r5 r6 r7 r8 r9 t1 t2 t3 lt ltn ltl ltc lta dd ni) s.heap.size = A at hD hZ ⊢
  have hA : ∀ q : Nat, s.heap.size ≤ q → A q := fun q h => by rw [← hAe]; exact Or.inr h
  have hS : va_S A s.heap s.heap [] := va_S.rf
  have hP : va_P D vwCl [(xp, .inr (4, [.int 0, .int 0, .ref od, .ref en, .ref te, .ref tk, .ref xr, .int 0, .int 0])), (xr, .inr (5, [.ref r0, .ref r1, .ref xl, .ref r3, .ref r4, .ref r5, .ref r6, .ref r7, .ref r8, .ref r9])), (xl, .inr (8, [.ref lt, .ref ltn, .ref ltl, .ref ltc, .ref lta])), (lt, .inl (k 0, 4, .inl (fun _ => 0))), (od, .inl (k 0, 3, .inl (fun _ => 0))), (en, .inl (k 0, 3, .inl (fun _ => 0))), (te, .inl (k 0, 3, .inl (fun _ => 0))), (tk, .inr (6, [.int 0, .int 0, .ref t1, .ref t2, .ref t3]))] s.heap := hP
  have hD : va_D A [(xp, .inr (4, [.int 0, .int 0, .ref od, .ref en, .ref te, .ref tk, .ref xr, .int 0, .int 0])), (xr, .inr (5, [.ref r0, .ref r1, .ref xl, .ref r3, .ref r4, .ref r5, .ref r6, .ref r7, .ref r8, .ref r9])), (xl, .inr (8, [.ref lt, .ref ltn, .ref ltl, .ref ltc, .ref lta])), (lt, .inl (k 0, 4, .inl (fun _ => 0))), (od, .inl (k 0, 3, .inl (fun _ => 0))), (en, .inl (k 0, 3, .inl (fun _ => 0))), (te, .inl (k 0, 3, .inl (fun _ => 0))), (tk, .inr (6, [.int 0, .int 0, .ref t1, .ref t2, .ref t3]))] := hD
  have hl := lv_entry ([.ref xp, .int dd, .int ni]) (n := 7) (Nat.le_of_ble_eq_true rfl)
  rw [lg_entry_eq]
  generalize (lg_sl ([.ref xp, .int dd, .int ni]) ++ List.replicate (7 - (lg_sl ([.ref xp, .int dd, .int ni])).length) Slot.unset).toArray = ls at hl ⊢
  have hl : lv_has ls 7 [(0, .ref xp), (1, .int dd), (2, .int ni)] := hl
  refine lv_aload_n hx hb dX4_update_0 rfl (lv_at hl 0 rfl) ?_
  refine va_get (D := D) (ci := 4) (v := .int 0) (C := RX4) (T := TX4) (N := 9) hx hb hts hi4 hown hG.1 hP 0 rfl rfl 0 (by decide) (hts (.fieldLink RX4 9 "SleptMatters$Plan" "isKnown" "Z") (List.mem_cons_of_mem _ (List.mem_append_left _ (List.mem_append_left _ (List.mem_append_left _ (List.mem_append_left _ (List.mem_append_left _ (List.mem_of_getElem? (i := 0) rfl)))))))) (fun _ h9 => h9) rfl dX4_update_1 ?_
  refine lv_if_eq (x := 0) (tgt := 16) hx hb dX4_update_4 (by decide) (fun c1 => ?_) (fun c1 => absurd c1 (by decide))
  refine lv_aload_n hx hb dX4_update_16 rfl (lv_at hl 0 rfl) ?_
  refine lv_iload_n hx hb dX4_update_17 rfl (lv_at hl 1 rfl) ?_
  refine va_put (D := D) (ci := 4) (v := .int dd) (ty := .int) (C := RX4) (T := TX4) (N := 9) hx hb hts hi4 tyX4 tyX4_ok nmX4 hown hG.1 hP hD hS 0 rfl rfl 7 (by decide) (hts (.fieldLink RX4 36 "SleptMatters$Plan" "day" "I") (List.mem_cons_of_mem _ (List.mem_append_left _ (List.mem_append_left _ (List.mem_append_left _ (List.mem_append_left _ (List.mem_append_left _ (List.mem_of_getElem? (i := 1) rfl)))))))) (fun _ h9 => h9) rfl (by decide +kernel) rfl rfl (Nat.le_of_ble_eq_true rfl) dX4_update_18 (fun H locs hP hD hS => ?_)
  have hP : va_P D vwCl [(xp, .inr (4, [.int 0, .int 0, .ref od, .ref en, .ref te, .ref tk, .ref xr, .int dd, .int 0])), (xr, .inr (5, [.ref r0, .ref r1, .ref xl, .ref r3, .ref r4, .ref r5, .ref r6, .ref r7, .ref r8, .ref r9])), (xl, .inr (8, [.ref lt, .ref ltn, .ref ltl, .ref ltc, .ref lta])), (lt, .inl (k 0, 4, .inl (fun _ => 0))), (od, .inl (k 0, 3, .inl (fun _ => 0))), (en, .inl (k 0, 3, .inl (fun _ => 0))), (te, .inl (k 0, 3, .inl (fun _ => 0))), (tk, .inr (6, [.int 0, .int 0, .ref t1, .ref t2, .ref t3]))] H := hP
  have hD : va_D A [(xp, .inr (4, [.int 0, .int 0, .ref od, .ref en, .ref te, .ref tk, .ref xr, .int dd, .int 0])), (xr, .inr (5, [.ref r0, .ref r1, .ref xl, .ref r3, .ref r4, .ref r5, .ref r6, .ref r7, .ref r8, .ref r9])), (xl, .inr (8, [.ref lt, .ref ltn, .ref ltl, .ref ltc, .ref lta])), (lt, .inl (k 0, 4, .inl (fun _ => 0))), (od, .inl (k 0, 3, .inl (fun _ => 0))), (en, .inl (k 0, 3, .inl (fun _ => 0))), (te, .inl (k 0, 3, .inl (fun _ => 0))), (tk, .inr (6, [.int 0, .int 0, .ref t1, .ref t2, .ref t3]))] := hD
  refine lv_aload_n hx hb dX4_update_21 rfl (lv_at hl 0 rfl) ?_
  refine lv_iload_n hx hb dX4_update_22 rfl (lv_at hl 2 rfl) ?_
  refine va_put (D := D) (ci := 4) (v := .int ni) (ty := .int) (C := RX4) (T := TX4) (N := 9) hx hb hts hi4 tyX4 tyX4_ok nmX4 hown hG.1 hP hD hS 0 rfl rfl 8 (by decide) (hts (.fieldLink RX4 39 "SleptMatters$Plan" "nights" "I") (List.mem_cons_of_mem _ (List.mem_append_left _ (List.mem_append_left _ (List.mem_append_left _ (List.mem_append_left _ (List.mem_append_left _ (List.mem_of_getElem? (i := 2) rfl)))))))) (fun _ h9 => h9) rfl (by decide +kernel) rfl rfl (Nat.le_of_ble_eq_true rfl) dX4_update_23 (fun H locs hP hD hS => ?_)
  have hP : va_P D vwCl [(xp, .inr (4, [.int 0, .int 0, .ref od, .ref en, .ref te, .ref tk, .ref xr, .int dd, .int ni])), (xr, .inr (5, [.ref r0, .ref r1, .ref xl, .ref r3, .ref r4, .ref r5, .ref r6, .ref r7, .ref r8, .ref r9])), (xl, .inr (8, [.ref lt, .ref ltn, .ref ltl, .ref ltc, .ref lta])), (lt, .inl (k 0, 4, .inl (fun _ => 0))), (od, .inl (k 0, 3, .inl (fun _ => 0))), (en, .inl (k 0, 3, .inl (fun _ => 0))), (te, .inl (k 0, 3, .inl (fun _ => 0))), (tk, .inr (6, [.int 0, .int 0, .ref t1, .ref t2, .ref t3]))] H := hP
  have hD : va_D A [(xp, .inr (4, [.int 0, .int 0, .ref od, .ref en, .ref te, .ref tk, .ref xr, .int dd, .int ni])), (xr, .inr (5, [.ref r0, .ref r1, .ref xl, .ref r3, .ref r4, .ref r5, .ref r6, .ref r7, .ref r8, .ref r9])), (xl, .inr (8, [.ref lt, .ref ltn, .ref ltl, .ref ltc, .ref lta])), (lt, .inl (k 0, 4, .inl (fun _ => 0))), (od, .inl (k 0, 3, .inl (fun _ => 0))), (en, .inl (k 0, 3, .inl (fun _ => 0))), (te, .inl (k 0, 3, .inl (fun _ => 0))), (tk, .inr (6, [.int 0, .int 0, .ref t1, .ref t2, .ref t3]))] := hD
  refine lv_aload_n hx hb dX4_update_26 rfl (lv_at hl 0 rfl) ?_
  refine va_get (D := D) (ci := 4) (v := .ref xr) (C := RX4) (T := TX4) (N := 9) hx hb hts hi4 hown hG.1 hP 0 rfl rfl 6 (by decide) (hts (.fieldLink RX4 42 "SleptMatters$Plan" "rows" "LSleptMatters$Rows;") (List.mem_cons_of_mem _ (List.mem_append_left _ (List.mem_append_left _ (List.mem_append_left _ (List.mem_append_left _ (List.mem_append_left _ (List.mem_of_getElem? (i := 3) rfl)))))))) (fun _ h9 => h9) rfl dX4_update_27 ?_
  refine va_get (D := D) (ci := 5) (v := .ref xl) (C := RX5) (T := TX5) (N := 10) hx hb hts hi5 hown hG.1 hP 1 rfl rfl 2 (by decide) (hts (.fieldLink RX4 46 "SleptMatters$Rows" "town" "LSleptMatters$Town;") (List.mem_cons_of_mem _ (List.mem_append_left _ (List.mem_append_left _ (List.mem_append_left _ (List.mem_append_left _ (List.mem_append_left _ (List.mem_of_getElem? (i := 4) rfl)))))))) (fun _ h9 => h9) rfl dX4_update_30 ?_
  refine lv_iconst (v := 3) hx hb dX4_update_33 (by decide) ?_
  have hPc := hP.sub (ws' := (c_X8_count k xl lt ltn ltl ltc lta (fun _ => 0) 3)) [2, 3] rfl
  refine vp_callSi (va_Run.run (va_runV (As := [.int 3]) (rest := []) ⟨hx, hb, hml, hown, hts⟩ (X8_count l D k xl lt ltn ltl ltc lta (fun _ => 0) 3 (by decide)) (cwV 1 hts gX4_update_X8_count rfl rfl rfl (by decide +kernel) ⟨Nat.le_of_ble_eq_true rfl, Nat.le_of_ble_eq_true rfl⟩) ⟨PS.blind _ _ _ _, va_recv hG.1 hP (ci := 8) (q0 := 2) rfl rfl, PS.pre hPc hG [.ref xl, .int 3]⟩ rfl rfl hl.1 rfl (lv_room (Nat.le_of_ble_eq_true rfl)) dX4_update_34 ⟨Nat.le_of_ble_eq_true rfl, Nat.le_of_ble_eq_true rfl⟩)) (fun r hq => ?_)
  generalize r = y2 at hq ⊢
  have hq : y2 = (fun _ => 0) 3 := hq
  refine tp_i (y := 0) (hq) ?_
  refine lv_istore_n (lv' := [(3, .int 0), (0, .ref xp), (1, .int dd), (2, .int ni)]) hx hb dX4_update_37 rfl hl (by decide) rfl (fun ls hl => ?_)
  refine lv_iconst (v := 0) hx hb dX4_update_38 (by decide) ?_
  refine lv_istore (lv' := [(4, .int 0), (3, .int 0), (0, .ref xp), (1, .int dd), (2, .int ni)]) hx hb dX4_update_39 hl (by decide) rfl (fun ls hl => ?_)
  refine lv_iload hx hb dX4_update_41 (lv_at hl 0 rfl) ?_
  refine va_getsN (C := RX9) (ref := RX9) (host := RX9) hx hb (hZ.2.2.2.1) hS hown (va_Nw.use rfl hZ.1) (fun _ h9 => h9) dX4_update_43 ?_
  refine lv_iload_n hx hb dX4_update_46 rfl (lv_at hl 1 rfl) ?_
  refine va_ti (v := .int 1) hx hb hZ.2.2.2.2.1 hS (vp_in_nI (n := 0) (by omega) (by omega)) (rfl) dX4_update_47 ?_
  refine lv_icmp_ge (x := 0) (y := 1) (tgt := 129) hx hb dX4_update_48 (by decide) (fun c3 => absurd c3 (by decide)) (fun c3 => ?_)
  refine va_getsN (C := RX9) (ref := RX9) (host := RX9) hx hb (hZ.2.2.2.2.2.1) hS hown (va_Nw.use rfl hZ.2.1) (fun _ h9 => h9) dX4_update_51 ?_
  refine lv_iload_n hx hb dX4_update_54 rfl (lv_at hl 1 rfl) ?_
  refine va_ti (v := .int 0) hx hb hZ.2.2.2.2.2.2.1 hS (vp_in_nI (n := 0) (by omega) (by omega)) (rfl) dX4_update_55 ?_
  refine lv_iload hx hb dX4_update_56 (lv_at hl 0 rfl) ?_
  refine lv_iload_n hx hb dX4_update_58 rfl (lv_at hl 1 rfl) ?_
  refine lv_imul hx hb dX4_update_59 ?_
  refine tp_i (y := 0) (by decide) ?_
  refine lv_iadd hx hb dX4_update_60 ?_
  refine tp_i (y := 0) (by decide) ?_
  refine lv_istore (lv' := [(5, .int 0), (4, .int 0), (3, .int 0), (0, .ref xp), (1, .int dd), (2, .int ni)]) hx hb dX4_update_61 hl (by decide) rfl (fun ls hl => ?_)
  refine lv_aload_n hx hb dX4_update_63 rfl (lv_at hl 3 rfl) ?_
  refine lv_iload hx hb dX4_update_64 (lv_at hl 0 rfl) ?_
  refine lv_iload_n hx hb dX4_update_66 rfl (lv_at hl 2 rfl) ?_
  have hPc := hP.sub (ws' := (c_X4_gainOf k xp xr od en te tk 0 0 dd ni 0 r0 r1 xl r3 r4 r5 r6 r7 r8 r9 t1 t2 t3 0 0)) [0, 1, 7] rfl
  have hDc := hD.sub (ws' := (c_X4_gainOf k xp xr od en te tk 0 0 dd ni 0 r0 r1 xl r3 r4 r5 r6 r7 r8 r9 t1 t2 t3 0 0)) [0, 1, 7] (by decide +kernel) rfl
  refine cl_i (w1 := w_X4_gainOf k xp xr od en te tk 0 0 dd ni 0 r0 r1 xl r3 r4 r5 r6 r7 r8 r9 t1 t2 t3 0 0) (wr := [(xl, .inr (8, [.ref lt, .ref ltn, .ref ltl, .ref ltc, .ref lta])), (lt, .inl (k 0, 4, .inl (fun _ => 0))), (od, .inl (k 0, 3, .inl (fun _ => 0))), (en, .inl (k 0, 3, .inl (fun _ => 0))), (te, .inl (k 0, 3, .inl (fun _ => 0)))]) (va_runV (As := [.int 0, .int 0]) (rest := []) ⟨hx, hb, hml, hown, hts⟩ (X4_gainOf l D k H.size xp xr od en te tk 0 0 dd ni 0 r0 r1 xl r3 r4 r5 r6 r7 r8 r9 t1 t2 t3 0 0 ) (cwV 2 hts gX4_update_X4_gainOf rfl rfl rfl (by decide +kernel) ⟨Nat.le_of_ble_eq_true rfl, Nat.le_of_ble_eq_true rfl⟩) ⟨PR.blind _ _ _ _ _, va_recv hG.1 hP (ci := 4) (q0 := 0) rfl rfl, PR.pre hPc hDc hG [.ref xp, .int 0, .int 0]⟩ rfl rfl hl.1 rfl (lv_room (Nat.le_of_ble_eq_true rfl)) dX4_update_67 ⟨Nat.le_of_ble_eq_true rfl, Nat.le_of_ble_eq_true rfl⟩) hP hD hS hA [0, 1, 7] [2, 3, 4, 5, 6] rfl rfl (by decide +kernel) (by decide +kernel) (fun r u H locs hq hP hD hS => ?_)
  cases u
  generalize r = y4 at hq ⊢
  have hq : y4 = 0 := hq
  have hP : va_P D vwCl [(xl, .inr (8, [.ref lt, .ref ltn, .ref ltl, .ref ltc, .ref lta])), (lt, .inl (k 0, 4, .inl (fun _ => 0))), (od, .inl (k 0, 3, .inl (fun _ => 0))), (en, .inl (k 0, 3, .inl (fun _ => 0))), (te, .inl (k 0, 3, .inl (fun _ => 0))), (xp, .inr (4, [.int 0, .int 0, .ref od, .ref en, .ref te, .ref tk, .ref xr, .int dd, .int ni])), (xr, .inr (5, [.ref r0, .ref r1, .ref xl, .ref r3, .ref r4, .ref r5, .ref r6, .ref r7, .ref r8, .ref r9])), (tk, .inr (6, [.int 0, .int ni, .ref t1, .ref t2, .ref t3]))] H := hP
  have hD : va_D A [(xl, .inr (8, [.ref lt, .ref ltn, .ref ltl, .ref ltc, .ref lta])), (lt, .inl (k 0, 4, .inl (fun _ => 0))), (od, .inl (k 0, 3, .inl (fun _ => 0))), (en, .inl (k 0, 3, .inl (fun _ => 0))), (te, .inl (k 0, 3, .inl (fun _ => 0))), (xp, .inr (4, [.int 0, .int 0, .ref od, .ref en, .ref te, .ref tk, .ref xr, .int dd, .int ni])), (xr, .inr (5, [.ref r0, .ref r1, .ref xl, .ref r3, .ref r4, .ref r5, .ref r6, .ref r7, .ref r8, .ref r9])), (tk, .inr (6, [.int 0, .int ni, .ref t1, .ref t2, .ref t3]))] := hD
  refine tp_i (y := 0) (hq) ?_
  refine lv_istore (lv' := [(6, .int 0), (5, .int 0), (4, .int 0), (3, .int 0), (0, .ref xp), (1, .int dd), (2, .int ni)]) hx hb dX4_update_70 hl (by decide) rfl (fun ls hl => ?_)
  refine lv_iload hx hb dX4_update_72 (lv_at hl 2 rfl) ?_
  refine lv_if_le (x := 0) (tgt := 89) hx hb dX4_update_74 (by decide) (fun c5 => ?_) (fun c5 => absurd c5 (by decide))
  refine lv_aload_n hx hb dX4_update_89 rfl (lv_at hl 4 rfl) ?_
  refine lv_iload hx hb dX4_update_90 (lv_at hl 0 rfl) ?_
  refine va_put (D := D) (ci := 4) (v := .int 0) (ty := .int) (C := RX4) (T := TX4) (N := 9) hx hb hts hi4 tyX4 tyX4_ok nmX4 hown hG.1 hP hD hS 5 rfl rfl 1 (by decide) (hts (.fieldLink RX4 15 "SleptMatters$Plan" "gain" "I") (List.mem_cons_of_mem _ (List.mem_append_left _ (List.mem_append_left _ (List.mem_append_left _ (List.mem_append_left _ (List.mem_append_left _ (List.mem_of_getElem? (i := 5) rfl)))))))) (fun _ h9 => h9) rfl (by decide +kernel) rfl rfl (Nat.le_of_ble_eq_true rfl) dX4_update_92 (fun H locs hP hD hS => ?_)
  have hP : va_P D vwCl [(xl, .inr (8, [.ref lt, .ref ltn, .ref ltl, .ref ltc, .ref lta])), (lt, .inl (k 0, 4, .inl (fun _ => 0))), (od, .inl (k 0, 3, .inl (fun _ => 0))), (en, .inl (k 0, 3, .inl (fun _ => 0))), (te, .inl (k 0, 3, .inl (fun _ => 0))), (xp, .inr (4, [.int 0, .int 0, .ref od, .ref en, .ref te, .ref tk, .ref xr, .int dd, .int ni])), (xr, .inr (5, [.ref r0, .ref r1, .ref xl, .ref r3, .ref r4, .ref r5, .ref r6, .ref r7, .ref r8, .ref r9])), (tk, .inr (6, [.int 0, .int ni, .ref t1, .ref t2, .ref t3]))] H := hP
  have hD : va_D A [(xl, .inr (8, [.ref lt, .ref ltn, .ref ltl, .ref ltc, .ref lta])), (lt, .inl (k 0, 4, .inl (fun _ => 0))), (od, .inl (k 0, 3, .inl (fun _ => 0))), (en, .inl (k 0, 3, .inl (fun _ => 0))), (te, .inl (k 0, 3, .inl (fun _ => 0))), (xp, .inr (4, [.int 0, .int 0, .ref od, .ref en, .ref te, .ref tk, .ref xr, .int dd, .int ni])), (xr, .inr (5, [.ref r0, .ref r1, .ref xl, .ref r3, .ref r4, .ref r5, .ref r6, .ref r7, .ref r8, .ref r9])), (tk, .inr (6, [.int 0, .int ni, .ref t1, .ref t2, .ref t3]))] := hD
  refine va_getsN (C := RX9) (ref := RX9) (host := RX9) hx hb (hZ.2.2.2.2.2.2.2.1) hS hown (va_Nw.use rfl hZ.2.2.1) (fun _ h9 => h9) dX4_update_95 ?_
  refine lv_iload hx hb dX4_update_98 (lv_at hl 1 rfl) ?_
  refine lv_aload_n hx hb dX4_update_100 rfl (lv_at hl 4 rfl) ?_
  refine va_get (D := D) (ci := 4) (v := .ref od) (C := RX4) (T := TX4) (N := 9) hx hb hts hi4 hown hG.1 hP 5 rfl rfl 2 (by decide) (hts (.fieldLink RX4 19 "SleptMatters$Plan" "order" "[I") (List.mem_cons_of_mem _ (List.mem_append_left _ (List.mem_append_left _ (List.mem_append_left _ (List.mem_append_left _ (List.mem_append_left _ (List.mem_of_getElem? (i := 6) rfl)))))))) (fun _ h9 => h9) rfl dX4_update_101 ?_
  refine lv_iconst (v := 0) hx hb dX4_update_104 (by decide) ?_
  refine lv_iload_n hx hb dX4_update_105 rfl (lv_at hl 3 rfl) ?_
  refine va_copyT (f := stO) hx hb (hml.trans hl.1.symm) hown (hts (.methodLink RX4 71 arraycopyName) (List.mem_cons_of_mem _ (List.mem_append_left _ (List.mem_append_left _ (List.mem_append_left _ (List.mem_append_left _ (List.mem_append_left _ (List.mem_of_getElem? (i := 7) rfl)))))))) (hts (.native arraycopyName) (List.mem_cons_of_mem _ (List.mem_append_left _ (List.mem_append_left _ (List.mem_append_left _ (List.mem_append_left _ (List.mem_append_left _ (List.mem_of_getElem? (i := 8) rfl)))))))) (hts (.static arraycopyName) (List.mem_cons_of_mem _ (List.mem_append_left _ (List.mem_append_left _ (List.mem_append_left _ (List.mem_append_left _ (List.mem_append_left _ (List.mem_of_getElem? (i := 9) rfl)))))))) (hts (.initialized "java/lang/System") (List.mem_cons_of_mem _ (List.mem_append_left _ (List.mem_append_left _ (List.mem_append_left _ (List.mem_append_left _ (List.mem_append_left _ (List.mem_of_getElem? (i := 10) rfl)))))))) hG.1 hP hD hZ.2.2.2.2.2.2.2.2 hS 2 0 rfl rfl (by decide) (by decide) (by decide) (by decide) (by decide) (Nat.le_of_ble_eq_true rfl) (by decide +kernel) dX4_update_106 (fun H locs hP hD hS => ?_)
  have hP : va_P D vwCl [(xl, .inr (8, [.ref lt, .ref ltn, .ref ltl, .ref ltc, .ref lta])), (lt, .inl (k 0, 4, .inl (fun _ => 0))), (od, .inl (k 0, 3, .inl (va_cpy stO (fun _ => 0) 0 0 0))), (en, .inl (k 0, 3, .inl (fun _ => 0))), (te, .inl (k 0, 3, .inl (fun _ => 0))), (xp, .inr (4, [.int 0, .int 0, .ref od, .ref en, .ref te, .ref tk, .ref xr, .int dd, .int ni])), (xr, .inr (5, [.ref r0, .ref r1, .ref xl, .ref r3, .ref r4, .ref r5, .ref r6, .ref r7, .ref r8, .ref r9])), (tk, .inr (6, [.int 0, .int ni, .ref t1, .ref t2, .ref t3]))] H := hP
  have hD : va_D A [(xl, .inr (8, [.ref lt, .ref ltn, .ref ltl, .ref ltc, .ref lta])), (lt, .inl (k 0, 4, .inl (fun _ => 0))), (od, .inl (k 0, 3, .inl (va_cpy stO (fun _ => 0) 0 0 0))), (en, .inl (k 0, 3, .inl (fun _ => 0))), (te, .inl (k 0, 3, .inl (fun _ => 0))), (xp, .inr (4, [.int 0, .int 0, .ref od, .ref en, .ref te, .ref tk, .ref xr, .int dd, .int ni])), (xr, .inr (5, [.ref r0, .ref r1, .ref xl, .ref r3, .ref r4, .ref r5, .ref r6, .ref r7, .ref r8, .ref r9])), (tk, .inr (6, [.int 0, .int ni, .ref t1, .ref t2, .ref t3]))] := hD
  refine lv_aload_n hx hb dX4_update_109 rfl (lv_at hl 4 rfl) ?_
  refine va_get (D := D) (ci := 4) (v := .ref te) (C := RX4) (T := TX4) (N := 9) hx hb hts hi4 hown hG.1 hP 5 rfl rfl 4 (by decide) (hts (.fieldLink RX4 26 "SleptMatters$Plan" "triedEnds" "[I") (List.mem_cons_of_mem _ (List.mem_append_left _ (List.mem_append_left _ (List.mem_append_left _ (List.mem_append_left _ (List.mem_append_left _ (List.mem_of_getElem? (i := 11) rfl)))))))) (fun _ h9 => h9) rfl dX4_update_110 ?_
  refine lv_iconst (v := 0) hx hb dX4_update_113 (by decide) ?_
  refine lv_aload_n hx hb dX4_update_114 rfl (lv_at hl 4 rfl) ?_
  refine va_get (D := D) (ci := 4) (v := .ref en) (C := RX4) (T := TX4) (N := 9) hx hb hts hi4 hown hG.1 hP 5 rfl rfl 3 (by decide) (hts (.fieldLink RX4 23 "SleptMatters$Plan" "ends" "[I") (List.mem_cons_of_mem _ (List.mem_append_left _ (List.mem_append_left _ (List.mem_append_left _ (List.mem_append_left _ (List.mem_append_left _ (List.mem_of_getElem? (i := 12) rfl)))))))) (fun _ h9 => h9) rfl dX4_update_115 ?_
  refine lv_iconst (v := 0) hx hb dX4_update_118 (by decide) ?_
  refine lv_iload_n hx hb dX4_update_119 rfl (lv_at hl 3 rfl) ?_
  refine va_copyi (ty := .int) hx hb (hml.trans hl.1.symm) hown (hts (.methodLink RX4 71 arraycopyName) (List.mem_cons_of_mem _ (List.mem_append_left _ (List.mem_append_left _ (List.mem_append_left _ (List.mem_append_left _ (List.mem_append_left _ (List.mem_of_getElem? (i := 7) rfl)))))))) (hts (.native arraycopyName) (List.mem_cons_of_mem _ (List.mem_append_left _ (List.mem_append_left _ (List.mem_append_left _ (List.mem_append_left _ (List.mem_append_left _ (List.mem_of_getElem? (i := 8) rfl)))))))) (hts (.static arraycopyName) (List.mem_cons_of_mem _ (List.mem_append_left _ (List.mem_append_left _ (List.mem_append_left _ (List.mem_append_left _ (List.mem_append_left _ (List.mem_of_getElem? (i := 9) rfl)))))))) (hts (.initialized "java/lang/System") (List.mem_cons_of_mem _ (List.mem_append_left _ (List.mem_append_left _ (List.mem_append_left _ (List.mem_append_left _ (List.mem_append_left _ (List.mem_of_getElem? (i := 10) rfl)))))))) hG.1 hP hD hS 4 3 0 0 rfl rfl rfl rfl rfl (by decide) (by decide) (by decide) (by decide) (by decide) (fun _ _ => rfl) (Nat.le_of_ble_eq_true rfl) (by decide +kernel) dX4_update_120 (fun H locs hP hD hS => ?_)
  have hP : va_P D vwCl [(xl, .inr (8, [.ref lt, .ref ltn, .ref ltl, .ref ltc, .ref lta])), (lt, .inl (k 0, 4, .inl (fun _ => 0))), (od, .inl (k 0, 3, .inl (va_cpy stO (fun _ => 0) 0 0 0))), (en, .inl (k 0, 3, .inl (va_cpy (fun _ => 0) (fun _ => 0) 0 0 0))), (te, .inl (k 0, 3, .inl (fun _ => 0))), (xp, .inr (4, [.int 0, .int 0, .ref od, .ref en, .ref te, .ref tk, .ref xr, .int dd, .int ni])), (xr, .inr (5, [.ref r0, .ref r1, .ref xl, .ref r3, .ref r4, .ref r5, .ref r6, .ref r7, .ref r8, .ref r9])), (tk, .inr (6, [.int 0, .int ni, .ref t1, .ref t2, .ref t3]))] H := hP
  have hD : va_D A [(xl, .inr (8, [.ref lt, .ref ltn, .ref ltl, .ref ltc, .ref lta])), (lt, .inl (k 0, 4, .inl (fun _ => 0))), (od, .inl (k 0, 3, .inl (va_cpy stO (fun _ => 0) 0 0 0))), (en, .inl (k 0, 3, .inl (va_cpy (fun _ => 0) (fun _ => 0) 0 0 0))), (te, .inl (k 0, 3, .inl (fun _ => 0))), (xp, .inr (4, [.int 0, .int 0, .ref od, .ref en, .ref te, .ref tk, .ref xr, .int dd, .int ni])), (xr, .inr (5, [.ref r0, .ref r1, .ref xl, .ref r3, .ref r4, .ref r5, .ref r6, .ref r7, .ref r8, .ref r9])), (tk, .inr (6, [.int 0, .int ni, .ref t1, .ref t2, .ref t3]))] := hD
  refine lv_iinc (v := 1) (lv' := [(4, .int 1), (6, .int 0), (5, .int 0), (3, .int 0), (0, .ref xp), (1, .int dd), (2, .int ni)]) hx hb dX4_update_123 hl (k := 2) rfl (by decide) (by decide) rfl (fun ls hl => ?_)
  refine lv_goto (tgt := 41) hx hb dX4_update_126 (by decide) ?_
  refine lv_iload hx hb dX4_update_41 (lv_at hl 0 rfl) ?_
  refine va_getsN (C := RX9) (ref := RX9) (host := RX9) hx hb (hZ.2.2.2.1) hS hown (va_Nw.use rfl hZ.1) (fun _ h9 => h9) dX4_update_43 ?_
  refine lv_iload_n hx hb dX4_update_46 rfl (lv_at hl 3 rfl) ?_
  refine va_ti (v := .int 1) hx hb hZ.2.2.2.2.1 hS (vp_in_nI (n := 0) (by omega) (by omega)) (rfl) dX4_update_47 ?_
  refine lv_icmp_ge (x := 1) (y := 1) (tgt := 129) hx hb dX4_update_48 (by decide) (fun c6 => ?_) (fun c6 => absurd c6 (by decide))
  refine lv_aload_n hx hb dX4_update_129 rfl (lv_at hl 4 rfl) ?_
  refine lv_iconst (v := 1) hx hb dX4_update_130 (by decide) ?_
  refine va_put (D := D) (ci := 4) (v := .int 1) (ty := .boolean) (C := RX4) (T := TX4) (N := 9) hx hb hts hi4 tyX4 tyX4_ok nmX4 hown hG.1 hP hD hS 5 rfl rfl 0 (by decide) (hts (.fieldLink RX4 9 "SleptMatters$Plan" "isKnown" "Z") (List.mem_cons_of_mem _ (List.mem_append_left _ (List.mem_append_left _ (List.mem_append_left _ (List.mem_append_left _ (List.mem_append_left _ (List.mem_of_getElem? (i := 0) rfl)))))))) (fun _ h9 => h9) rfl (by decide +kernel) rfl rfl (Nat.le_of_ble_eq_true rfl) dX4_update_131 (fun H locs hP hD hS => ?_)
  have hP : va_P D vwCl [(xl, .inr (8, [.ref lt, .ref ltn, .ref ltl, .ref ltc, .ref lta])), (lt, .inl (k 0, 4, .inl (fun _ => 0))), (od, .inl (k 0, 3, .inl (va_cpy stO (fun _ => 0) 0 0 0))), (en, .inl (k 0, 3, .inl (va_cpy (fun _ => 0) (fun _ => 0) 0 0 0))), (te, .inl (k 0, 3, .inl (fun _ => 0))), (xp, .inr (4, [.int 1, .int 0, .ref od, .ref en, .ref te, .ref tk, .ref xr, .int dd, .int ni])), (xr, .inr (5, [.ref r0, .ref r1, .ref xl, .ref r3, .ref r4, .ref r5, .ref r6, .ref r7, .ref r8, .ref r9])), (tk, .inr (6, [.int 0, .int ni, .ref t1, .ref t2, .ref t3]))] H := hP
  have hD : va_D A [(xl, .inr (8, [.ref lt, .ref ltn, .ref ltl, .ref ltc, .ref lta])), (lt, .inl (k 0, 4, .inl (fun _ => 0))), (od, .inl (k 0, 3, .inl (va_cpy stO (fun _ => 0) 0 0 0))), (en, .inl (k 0, 3, .inl (va_cpy (fun _ => 0) (fun _ => 0) 0 0 0))), (te, .inl (k 0, 3, .inl (fun _ => 0))), (xp, .inr (4, [.int 1, .int 0, .ref od, .ref en, .ref te, .ref tk, .ref xr, .int dd, .int ni])), (xr, .inr (5, [.ref r0, .ref r1, .ref xl, .ref r3, .ref r4, .ref r5, .ref r6, .ref r7, .ref r8, .ref r9])), (tk, .inr (6, [.int 0, .int ni, .ref t1, .ref t2, .ref t3]))] := hD
  have hP9 := hP.sub (ws' := [(xp, .inr (4, [.int 1, .int 0, .ref od, .ref en, .ref te, .ref tk, .ref xr, .int dd, .int ni]))]) [5] rfl
  have hD9 := hD.sub (ws' := [(xp, .inr (4, [.int 1, .int 0, .ref od, .ref en, .ref te, .ref tk, .ref xr, .int dd, .int ni]))]) [5] (by decide +kernel) rfl
  exact W.vret hx hb hr (fun t9 ht _ => ⟨⟨(), rfl, trivial, by rw [ht]; exact hP9, hD9⟩, hS.F ht⟩) hS.2.2 dX4_update_134

abbrev c_X9_together (k : Nat → ClassId) (x : Nat) (xt : Nat) (xc : Nat) (xi : Nat) (xk : Nat) (xb : Nat) (xr : Nat) (xp : Nat) (xo : Nat) (xl : Nat) (xm : Nat) (xw : Nat) (xv : Nat) (fb : Int32) (lt : Nat) (ltn : Nat) (ltl : Nat) (ltc : Nat) (lta : Nat) (od : Nat) (en : Nat) (te : Nat) (tk : Nat) (r0 : Nat) (r1 : Nat) (r3 : Nat) (r4 : Nat) (r5 : Nat) (r6 : Nat) (r7 : Nat) (r8 : Nat) (r9 : Nat) (t1 : Nat) (t2 : Nat) (t3 : Nat) (c0 : Nat) (c1 : Nat) (c2 : Nat) (c3 : Nat) (c4 : Nat) (c5 : Nat) (c6 : Nat) (w : Int32) : va_W := [(x, .inr (9, [.ref xt, .ref xc, .ref xi, .ref xk, .ref xb, .ref xr, .ref xp, .ref xo, .ref xl, .ref xm, .ref xw, .ref xv, .int fb])), (xp, .inr (4, [.int 0, .int 0, .ref od, .ref en, .ref te, .ref tk, .ref xr, .int 0, .int 0])), (xr, .inr (5, [.ref r0, .ref r1, .ref xl, .ref r3, .ref r4, .ref r5, .ref r6, .ref r7, .ref r8, .ref r9])), (xl, .inr (8, [.ref lt, .ref ltn, .ref ltl, .ref ltc, .ref lta])), (lt, .inl (k 0, 4, .inl (fun _ => 0))), (od, .inl (k 0, 3, .inl (fun _ => 0))), (en, .inl (k 0, 3, .inl (fun _ => 0))), (te, .inl (k 0, 3, .inl (fun _ => 0))), (tk, .inr (6, [.int 0, .int 0, .ref t1, .ref t2, .ref t3])), (xc, .inr (2, [.ref c0, .ref c1, .ref c2, .ref c3, .ref c4, .ref c5, .ref c6, .int 0, .int 0, .int 0])), (xw, .inr (3, [.int 7, .int 4, .int 1, .int 0, .int 0]))]
abbrev r_X9_together : Room := { frames := 3, cells := 0, slots := 0, locals := 75 }
def w_X9_together (k : Nat → ClassId) (x : Nat) (xt : Nat) (xc : Nat) (xi : Nat) (xk : Nat) (xb : Nat) (xr : Nat) (xp : Nat) (xo : Nat) (xl : Nat) (xm : Nat) (xw : Nat) (xv : Nat) (fb : Int32) (lt : Nat) (ltn : Nat) (ltl : Nat) (ltc : Nat) (lta : Nat) (od : Nat) (en : Nat) (te : Nat) (tk : Nat) (r0 : Nat) (r1 : Nat) (r3 : Nat) (r4 : Nat) (r5 : Nat) (r6 : Nat) (r7 : Nat) (r8 : Nat) (r9 : Nat) (t1 : Nat) (t2 : Nat) (t3 : Nat) (c0 : Nat) (c1 : Nat) (c2 : Nat) (c3 : Nat) (c4 : Nat) (c5 : Nat) (c6 : Nat) (w : Int32) : Unit → va_W := fun _ => []
def p_X9_together (k : Nat → ClassId) (x : Nat) (xt : Nat) (xc : Nat) (xi : Nat) (xk : Nat) (xb : Nat) (xr : Nat) (xp : Nat) (xo : Nat) (xl : Nat) (xm : Nat) (xw : Nat) (xv : Nat) (fb : Int32) (lt : Nat) (ltn : Nat) (ltl : Nat) (ltc : Nat) (lta : Nat) (od : Nat) (en : Nat) (te : Nat) (tk : Nat) (r0 : Nat) (r1 : Nat) (r3 : Nat) (r4 : Nat) (r5 : Nat) (r6 : Nat) (r7 : Nat) (r8 : Nat) (r9 : Nat) (t1 : Nat) (t2 : Nat) (t3 : Nat) (c0 : Nat) (c1 : Nat) (c2 : Nat) (c3 : Nat) (c4 : Nat) (c5 : Nat) (c6 : Nat) (w : Int32) : Int32 → Unit → Prop := fun (r : Int32) (u : Unit) => r = tgA w
abbrev q_X9_together (D : va_G) (k : Nat → ClassId) (x : Nat) (xt : Nat) (xc : Nat) (xi : Nat) (xk : Nat) (xb : Nat) (xr : Nat) (xp : Nat) (xo : Nat) (xl : Nat) (xm : Nat) (xw : Nat) (xv : Nat) (fb : Int32) (lt : Nat) (ltn : Nat) (ltl : Nat) (ltc : Nat) (lta : Nat) (od : Nat) (en : Nat) (te : Nat) (tk : Nat) (r0 : Nat) (r1 : Nat) (r3 : Nat) (r4 : Nat) (r5 : Nat) (r6 : Nat) (r7 : Nat) (r8 : Nat) (r9 : Nat) (t1 : Nat) (t2 : Nat) (t3 : Nat) (c0 : Nat) (c1 : Nat) (c2 : Nat) (c3 : Nat) (c4 : Nat) (c5 : Nat) (c6 : Nat) (w : Int32) (A : Nat → Prop) : Array Value → State → Outcome → State → Prop := va_Qi (p_X9_together k x xt xc xi xk xb xr xp xo xl xm xw xv fb lt ltn ltl ltc lta od en te tk r0 r1 r3 r4 r5 r6 r7 r8 r9 t1 t2 t3 c0 c1 c2 c3 c4 c5 c6 w) (fun u9 t9 => BO D (w_X9_together k x xt xc xi xk xb xr xp xo xl xm xw xv fb lt ltn ltl ltc lta od en te tk r0 r1 r3 r4 r5 r6 r7 r8 r9 t1 t2 t3 c0 c1 c2 c3 c4 c5 c6 w u9) A t9) A
set_option maxHeartbeats 2000000 in
set_option maxRecDepth 100000 in
theorem X9_together (l : Launch) (D : va_G) (k : Nat → ClassId) (sz : Nat) (z : Nat → Nat) (x : Nat) (xt : Nat) (xc : Nat) (xi : Nat) (xk : Nat) (xb : Nat) (xr : Nat) (xp : Nat) (xo : Nat) (xl : Nat) (xm : Nat) (xw : Nat) (xv : Nat) (fb : Int32) (lt : Nat) (ltn : Nat) (ltl : Nat) (ltc : Nat) (lta : Nat) (od : Nat) (en : Nat) (te : Nat) (tk : Nat) (r0 : Nat) (r1 : Nat) (r3 : Nat) (r4 : Nat) (r5 : Nat) (r6 : Nat) (r7 : Nat) (r8 : Nat) (r9 : Nat) (t1 : Nat) (t2 : Nat) (t3 : Nat) (c0 : Nat) (c1 : Nat) (c2 : Nat) (c3 : Nat) (c4 : Nat) (c5 : Nat) (c6 : Nat) (w : Int32)  : Met l yX9_together wsX9_together r_X9_together (va_Pc [.ref x, .int w] (PT D k (c_X9_together k x xt xc xi xk xb xr xp xo xl xm xw xv fb lt ltn ltl ltc lta od en te tk r0 r1 r3 r4 r5 r6 r7 r8 r9 t1 t2 t3 c0 c1 c2 c3 c4 c5 c6 w) sz z)) (q_X9_together D k x xt xc xi xk xb xr xp xo xl xm xw xv fb lt ltn ltl ltc lta od en te tk r0 r1 r3 r4 r5 r6 r7 r8 r9 t1 t2 t3 c0 c1 c2 c3 c4 c5 c6 w (va_A (c_X9_together k x xt xc xi xk xb xr xp xo xl xm xw xv fb lt ltn ltl ltc lta od en te tk r0 r1 r3 r4 r5 r6 r7 r8 r9 t1 t2 t3 c0 c1 c2 c3 c4 c5 c6 w) sz)) 0 0 (va_A (c_X9_together k x xt xc xi xk xb xr xp xo xl xm xw xv fb lt ltn ltl ltc lta od en te tk r0 r1 r3 r4 r5 r6 r7 r8 r9 t1 t2 t3 c0 c1 c2 c3 c4 c5 c6 w) sz) := by
  refine Met.ofW (cc := cX9_together) (maxL := 5) (ret := (some .int)) (by decide) rfl ?_
  intro p e s m args below meth c s₁ B hml hv
  obtain ⟨rfl, ⟨hsz, hP, hG, hD0⟩, hZ⟩ := hv
  have hx := B.exec
  have hb := B.bytes
  have hr := B.returns
  have hts := atoms_spec (ws := wsX9_together) B.pre
  have hown : s.vm.findClass RX9 = some m.cls := findClass_of_methodNamed B.named
  have hlocks := B.notSynchronized
  have hi9 : ∀ w ∈ wsX90, w ∈ wsX9_together := fun _ h => List.mem_cons_of_mem _ (List.mem_append_left _ (List.mem_append_left _ (List.mem_append_left _ (List.mem_append_left _ (List.mem_append_left _ (List.mem_append_left _ (List.mem_append_right _ h)))))))
  have hi2 : ∀ w ∈ wsX20, w ∈ wsX9_together := fun _ h => List.mem_cons_of_mem _ (List.mem_append_left _ (List.mem_append_left _ (List.mem_append_left _ (List.mem_append_left _ (List.mem_append_left _ (List.mem_append_right _ h))))))
  have hi3 : ∀ w ∈ wsX30, w ∈ wsX9_together := fun _ h => List.mem_cons_of_mem _ (List.mem_append_left _ (List.mem_append_left _ (List.mem_append_left _ (List.mem_append_left _ (List.mem_append_right _ h)))))
  have hi4 : ∀ w ∈ wsX40, w ∈ wsX9_together := fun _ h => List.mem_cons_of_mem _ (List.mem_append_left _ (List.mem_append_left _ (List.mem_append_left _ (List.mem_append_right _ h))))
  have hi8 : ∀ w ∈ wsX80, w ∈ wsX9_together := fun _ h => List.mem_cons_of_mem _ (List.mem_append_left _ (List.mem_append_left _ (List.mem_append_right _ h)))
  have hi5 : ∀ w ∈ wsX50, w ∈ wsX9_together := fun _ h => List.mem_cons_of_mem _ (List.mem_append_left _ (List.mem_append_right _ h))
  have hi6 : ∀ w ∈ wsX60, w ∈ wsX9_together := fun _ h => List.mem_cons_of_mem _ (List.mem_append_right _ h)
  subst hsz
  have hD := hD0.self (sz := s.heap.size)
  generalize hAe : va_A (c_X9_together k x xt xc xi xk xb xr xp xo xl xm xw xv fb lt ltn ltl ltc lta od en te tk r0 r1 r3 r4 r5 r6 r7 r8 r9 t1 t2 t3 c0 c1 c2 c3 c4 c5 c6 w) s.heap.size = A at hD hZ ⊢
  have hA : ∀ q : Nat, s.heap.size ≤ q → A q := fun q h => by rw [← hAe]; exact Or.inr h
  have hS : va_S A s.heap s.heap [] := va_S.rf
  have hP : va_P D vwCl [(x, .inr (9, [.ref xt, .ref xc, .ref xi, .ref xk, .ref xb, .ref xr, .ref xp, .ref xo, .ref xl, .ref xm, .ref xw, .ref xv, .int fb])), (xp, .inr (4, [.int 0, .int 0, .ref od, .ref en, .ref te, .ref tk, .ref xr, .int 0, .int 0])), (xr, .inr (5, [.ref r0, .ref r1, .ref xl, .ref r3, .ref r4, .ref r5, .ref r6, .ref r7, .ref r8, .ref r9])), (xl, .inr (8, [.ref lt, .ref ltn, .ref ltl, .ref ltc, .ref lta])), (lt, .inl (k 0, 4, .inl (fun _ => 0))), (od, .inl (k 0, 3, .inl (fun _ => 0))), (en, .inl (k 0, 3, .inl (fun _ => 0))), (te, .inl (k 0, 3, .inl (fun _ => 0))), (tk, .inr (6, [.int 0, .int 0, .ref t1, .ref t2, .ref t3])), (xc, .inr (2, [.ref c0, .ref c1, .ref c2, .ref c3, .ref c4, .ref c5, .ref c6, .int 0, .int 0, .int 0])), (xw, .inr (3, [.int 7, .int 4, .int 1, .int 0, .int 0]))] s.heap := hP
  have hD : va_D A [(x, .inr (9, [.ref xt, .ref xc, .ref xi, .ref xk, .ref xb, .ref xr, .ref xp, .ref xo, .ref xl, .ref xm, .ref xw, .ref xv, .int fb])), (xp, .inr (4, [.int 0, .int 0, .ref od, .ref en, .ref te, .ref tk, .ref xr, .int 0, .int 0])), (xr, .inr (5, [.ref r0, .ref r1, .ref xl, .ref r3, .ref r4, .ref r5, .ref r6, .ref r7, .ref r8, .ref r9])), (xl, .inr (8, [.ref lt, .ref ltn, .ref ltl, .ref ltc, .ref lta])), (lt, .inl (k 0, 4, .inl (fun _ => 0))), (od, .inl (k 0, 3, .inl (fun _ => 0))), (en, .inl (k 0, 3, .inl (fun _ => 0))), (te, .inl (k 0, 3, .inl (fun _ => 0))), (tk, .inr (6, [.int 0, .int 0, .ref t1, .ref t2, .ref t3])), (xc, .inr (2, [.ref c0, .ref c1, .ref c2, .ref c3, .ref c4, .ref c5, .ref c6, .int 0, .int 0, .int 0])), (xw, .inr (3, [.int 7, .int 4, .int 1, .int 0, .int 0]))] := hD
  have hl := lv_entry ([.ref x, .int w]) (n := 5) (Nat.le_of_ble_eq_true rfl)
  rw [lg_entry_eq]
  generalize (lg_sl ([.ref x, .int w]) ++ List.replicate (5 - (lg_sl ([.ref x, .int w])).length) Slot.unset).toArray = ls at hl ⊢
  have hl : lv_has ls 5 [(0, .ref x), (1, .int w)] := hl
  refine lv_aload_n hx hb dX9_together_0 rfl (lv_at hl 0 rfl) ?_
  refine va_get (D := D) (ci := 9) (v := .ref xl) (C := RX9) (T := TX9) (N := 13) hx hb hts hi9 hown hG.1 hP 0 rfl rfl 8 (by decide) (hts (.fieldLink RX9 41 "SleptMatters" "place" "LSleptMatters$Town;") (List.mem_cons_of_mem _ (List.mem_append_left _ (List.mem_append_left _ (List.mem_append_left _ (List.mem_append_left _ (List.mem_append_left _ (List.mem_append_left _ (List.mem_append_left _ (List.mem_append_left _ (List.mem_of_getElem? (i := 0) rfl))))))))))) (fun _ h9 => h9) rfl dX9_together_1 ?_
  refine lv_iconst (v := 3) hx hb dX9_together_4 (by decide) ?_
  have hPc := hP.sub (ws' := (c_X8_count k xl lt ltn ltl ltc lta (fun _ => 0) 3)) [3, 4] rfl
  refine vp_callSi (va_Run.run (va_runV (As := [.int 3]) (rest := []) ⟨hx, hb, hml, hown, hts⟩ (X8_count l D k xl lt ltn ltl ltc lta (fun _ => 0) 3 (by decide)) (cwV 1 hts gX9_together_X8_count rfl rfl rfl (by decide +kernel) ⟨Nat.le_of_ble_eq_true rfl, Nat.le_of_ble_eq_true rfl⟩) ⟨PS.blind _ _ _ _, va_recv hG.1 hP (ci := 8) (q0 := 3) rfl rfl, PS.pre hPc hG [.ref xl, .int 3]⟩ rfl rfl hl.1 rfl (lv_room (Nat.le_of_ble_eq_true rfl)) dX9_together_5 ⟨Nat.le_of_ble_eq_true rfl, Nat.le_of_ble_eq_true rfl⟩)) (fun r hq => ?_)
  generalize r = y1 at hq ⊢
  have hq : y1 = (fun _ => 0) 3 := hq
  refine tp_i (y := 0) (hq) ?_
  refine lv_istore_n (lv' := [(2, .int 0), (0, .ref x), (1, .int w)]) hx hb dX9_together_8 rfl hl (by decide) rfl (fun ls hl => ?_)
  refine lv_iload_n hx hb dX9_together_9 rfl (lv_at hl 2 rfl) ?_
  refine lv_iconst (v := 1) hx hb dX9_together_10 (by decide) ?_
  refine lv_icmp_lt (x := w) (y := 1) (tgt := 25) hx hb dX9_together_11 (by decide) (fun hc2 => ?_) (fun hc2 => ?_)
  · skip
    refine lv_iconst (v := 0) hx hb dX9_together_25 (by decide) ?_
    refine lv_istore_n (lv' := [(3, .int 0), (2, .int 0), (0, .ref x), (1, .int w)]) hx hb dX9_together_26 rfl hl (by decide) rfl (fun ls hl => ?_)
    refine lv_iload_n hx hb dX9_together_27 rfl (lv_at hl 3 rfl) ?_
    refine lv_bipush (v := 11) hx hb dX9_together_28 (by decide) ?_
    refine lv_icmp_lt (x := w) (y := 11) (tgt := 45) hx hb dX9_together_30 (by decide) (fun hc3 => ?_) (fun hc3 => ?_)
    · skip
      refine lv_iconst (v := 0) hx hb dX9_together_45 (by decide) ?_
      refine lv_istore (lv' := [(4, .int 0), (3, .int 0), (2, .int 0), (0, .ref x), (1, .int w)]) hx hb dX9_together_46 hl (by decide) rfl (fun ls hl => ?_)
      refine lv_iload_n hx hb dX9_together_48 rfl (lv_at hl 4 rfl) ?_
      refine lv_if_eq (x := w) (tgt := 64) hx hb dX9_together_49 (by decide) (fun hc4 => ?_) (fun hc4 => ?_)
      · skip
        have e1 : tgA w = 0 := if_pos hc4
        refine lv_aload_n hx hb dX9_together_64 rfl (lv_at hl 3 rfl) ?_
        refine va_get (D := D) (ci := 9) (v := .ref xp) (C := RX9) (T := TX9) (N := 13) hx hb hts hi9 hown hG.1 hP 0 rfl rfl 6 (by decide) (hts (.fieldLink RX9 76 "SleptMatters" "plan" "LSleptMatters$Plan;") (List.mem_cons_of_mem _ (List.mem_append_left _ (List.mem_append_left _ (List.mem_append_left _ (List.mem_append_left _ (List.mem_append_left _ (List.mem_append_left _ (List.mem_append_left _ (List.mem_append_left _ (List.mem_of_getElem? (i := 2) rfl))))))))))) (fun _ h9 => h9) rfl dX9_together_65 ?_
        refine lv_aload_n hx hb dX9_together_68 rfl (lv_at hl 3 rfl) ?_
        refine va_get (D := D) (ci := 9) (v := .ref xc) (C := RX9) (T := TX9) (N := 13) hx hb hts hi9 hown hG.1 hP 0 rfl rfl 1 (by decide) (hts (.fieldLink RX9 19 "SleptMatters" "course" "LSleptMatters$Course;") (List.mem_cons_of_mem _ (List.mem_append_left _ (List.mem_append_left _ (List.mem_append_left _ (List.mem_append_left _ (List.mem_append_left _ (List.mem_append_left _ (List.mem_append_left _ (List.mem_append_left _ (List.mem_of_getElem? (i := 3) rfl))))))))))) (fun _ h9 => h9) rfl dX9_together_69 ?_
        refine va_get (D := D) (ci := 2) (v := .int 0) (C := RX2) (T := TX2) (N := 10) hx hb hts hi2 hown hG.1 hP 9 rfl rfl 8 (by decide) (hts (.fieldLink RX9 133 "SleptMatters$Course" "day" "I") (List.mem_cons_of_mem _ (List.mem_append_left _ (List.mem_append_left _ (List.mem_append_left _ (List.mem_append_left _ (List.mem_append_left _ (List.mem_append_left _ (List.mem_append_left _ (List.mem_append_left _ (List.mem_of_getElem? (i := 4) rfl))))))))))) (fun _ h9 => h9) rfl dX9_together_72 ?_
        refine lv_aload_n hx hb dX9_together_75 rfl (lv_at hl 3 rfl) ?_
        refine va_get (D := D) (ci := 9) (v := .ref xw) (C := RX9) (T := TX9) (N := 13) hx hb hts hi9 hown hG.1 hP 0 rfl rfl 10 (by decide) (hts (.fieldLink RX9 51 "SleptMatters" "law" "LSleptMatters$Law;") (List.mem_cons_of_mem _ (List.mem_append_left _ (List.mem_append_left _ (List.mem_append_left _ (List.mem_append_left _ (List.mem_append_left _ (List.mem_append_left _ (List.mem_append_left _ (List.mem_append_left _ (List.mem_of_getElem? (i := 5) rfl))))))))))) (fun _ h9 => h9) rfl dX9_together_76 ?_
        refine va_get (D := D) (ci := 3) (v := .int 7) (C := RX3) (T := TX3) (N := 5) hx hb hts hi3 hown hG.1 hP 10 rfl rfl 0 (by decide) (hts (.fieldLink RX9 124 "SleptMatters$Law" "nights" "I") (List.mem_cons_of_mem _ (List.mem_append_left _ (List.mem_append_left _ (List.mem_append_left _ (List.mem_append_left _ (List.mem_append_left _ (List.mem_append_left _ (List.mem_append_left _ (List.mem_append_left _ (List.mem_of_getElem? (i := 6) rfl))))))))))) (fun _ h9 => h9) rfl dX9_together_79 ?_
        have hPc := hP.sub (ws' := (c_X4_update k xp xr od en te tk r0 r1 xl r3 r4 r5 r6 r7 r8 r9 t1 t2 t3 lt ltn ltl ltc lta 0 7)) [1, 2, 3, 4, 5, 6, 7, 8] rfl
        have hDc := hD.sub (ws' := (c_X4_update k xp xr od en te tk r0 r1 xl r3 r4 r5 r6 r7 r8 r9 t1 t2 t3 lt ltn ltl ltc lta 0 7)) [1, 2, 3, 4, 5, 6, 7, 8] (by decide +kernel) rfl
        refine cl_v (w1 := w_X4_update k xp xr od en te tk r0 r1 xl r3 r4 r5 r6 r7 r8 r9 t1 t2 t3 lt ltn ltl ltc lta 0 7) (wr := [(x, .inr (9, [.ref xt, .ref xc, .ref xi, .ref xk, .ref xb, .ref xr, .ref xp, .ref xo, .ref xl, .ref xm, .ref xw, .ref xv, .int fb])), (xc, .inr (2, [.ref c0, .ref c1, .ref c2, .ref c3, .ref c4, .ref c5, .ref c6, .int 0, .int 0, .int 0])), (xw, .inr (3, [.int 7, .int 4, .int 1, .int 0, .int 0]))]) (va_runV (As := [.int 0, .int 7]) (rest := []) ⟨hx, hb, hml, hown, hts⟩ (X4_update l D k s.heap.size z xp xr od en te tk r0 r1 xl r3 r4 r5 r6 r7 r8 r9 t1 t2 t3 lt ltn ltl ltc lta 0 7 ) (cwV 2 hts gX9_together_X4_update rfl rfl rfl (by decide +kernel) ⟨Nat.le_of_ble_eq_true rfl, Nat.le_of_ble_eq_true rfl⟩) ⟨PT.blind _ _ _ _ _ _, va_recv hG.1 hP (ci := 4) (q0 := 1) rfl rfl, PT.pre hPc hDc hG hZ hS (va_free hD hS hA [1, 2, 3, 4, 5, 6, 7, 8] rfl) [.ref xp, .int 0, .int 7]⟩ rfl rfl hl.1 rfl (lv_room (Nat.le_of_ble_eq_true rfl)) dX9_together_82 ⟨Nat.le_of_ble_eq_true rfl, Nat.le_of_ble_eq_true rfl⟩) hP hD hS hA [1, 2, 3, 4, 5, 6, 7, 8] [0, 9, 10] rfl rfl (by decide +kernel) (by decide +kernel) (fun u H locs hq hP hD hS => ?_)
        cases u
        have hP : va_P D vwCl [(x, .inr (9, [.ref xt, .ref xc, .ref xi, .ref xk, .ref xb, .ref xr, .ref xp, .ref xo, .ref xl, .ref xm, .ref xw, .ref xv, .int fb])), (xc, .inr (2, [.ref c0, .ref c1, .ref c2, .ref c3, .ref c4, .ref c5, .ref c6, .int 0, .int 0, .int 0])), (xw, .inr (3, [.int 7, .int 4, .int 1, .int 0, .int 0])), (xp, .inr (4, [.int 1, .int 0, .ref od, .ref en, .ref te, .ref tk, .ref xr, .int 0, .int 7]))] H := hP
        have hD : va_D A [(x, .inr (9, [.ref xt, .ref xc, .ref xi, .ref xk, .ref xb, .ref xr, .ref xp, .ref xo, .ref xl, .ref xm, .ref xw, .ref xv, .int fb])), (xc, .inr (2, [.ref c0, .ref c1, .ref c2, .ref c3, .ref c4, .ref c5, .ref c6, .int 0, .int 0, .int 0])), (xw, .inr (3, [.int 7, .int 4, .int 1, .int 0, .int 0])), (xp, .inr (4, [.int 1, .int 0, .ref od, .ref en, .ref te, .ref tk, .ref xr, .int 0, .int 7]))] := hD
        refine lv_iload_n hx hb dX9_together_85 rfl (lv_at hl 1 rfl) ?_
        refine lv_if_eq (x := 0) (tgt := 101) hx hb dX9_together_86 (by decide) (fun hc5 => ?_) (fun hc5 => absurd hc5 (by decide))
        refine lv_iload hx hb dX9_together_101 (lv_at hl 0 rfl) ?_
        refine lv_if_eq (x := 0) (tgt := 119) hx hb dX9_together_103 (by decide) (fun hc6 => ?_) (fun hc6 => absurd hc6 (by decide))
        refine lv_aload_n hx hb dX9_together_119 rfl (lv_at hl 3 rfl) ?_
        refine va_get (D := D) (ci := 9) (v := .ref xp) (C := RX9) (T := TX9) (N := 13) hx hb hts hi9 hown hG.1 hP 0 rfl rfl 6 (by decide) (hts (.fieldLink RX9 76 "SleptMatters" "plan" "LSleptMatters$Plan;") (List.mem_cons_of_mem _ (List.mem_append_left _ (List.mem_append_left _ (List.mem_append_left _ (List.mem_append_left _ (List.mem_append_left _ (List.mem_append_left _ (List.mem_append_left _ (List.mem_append_left _ (List.mem_of_getElem? (i := 2) rfl))))))))))) (fun _ h9 => h9) rfl dX9_together_120 ?_
        refine va_get (D := D) (ci := 4) (v := .int 0) (C := RX4) (T := TX4) (N := 9) hx hb hts hi4 hown hG.1 hP 3 rfl rfl 1 (by decide) (hts (.fieldLink RX9 252 "SleptMatters$Plan" "gain" "I") (List.mem_cons_of_mem _ (List.mem_append_left _ (List.mem_append_left _ (List.mem_append_left _ (List.mem_append_left _ (List.mem_append_left _ (List.mem_append_left _ (List.mem_append_left _ (List.mem_append_left _ (List.mem_of_getElem? (i := 9) rfl))))))))))) (fun _ h9 => h9) rfl dX9_together_123 ?_
        have hP9 := hP.sub (ws' := []) [] rfl
        have hD9 := hD.sub (ws' := []) [] (by decide +kernel) rfl
        exact W.iret (v := 0) hx hb hr (fun t9 ht _ => ⟨⟨0, (), rfl, e1.symm, by rw [ht]; exact hP9, hD9⟩, hS.F ht⟩) hS.2.2 dX9_together_126
      · skip
        have e1 : tgA w = (-1000000002) := if_neg hc4
        refine lv_iload_n hx hb dX9_together_52 rfl (lv_at hl 1 rfl) ?_
        refine lv_if_ne (x := 0) (tgt := 64) hx hb dX9_together_53 (by decide) (fun hc7 => absurd hc7 (by decide)) (fun hc7 => ?_)
        refine lv_iload hx hb dX9_together_56 (lv_at hl 0 rfl) ?_
        refine lv_if_ne (x := 0) (tgt := 64) hx hb dX9_together_58 (by decide) (fun hc8 => absurd hc8 (by decide)) (fun hc8 => ?_)
        refine lv_ldc (v := (-1000000002)) hx hb hown (hts (.constant RX9 87 (-1000000002)) (List.mem_cons_of_mem _ (List.mem_append_left _ (List.mem_append_left _ (List.mem_append_left _ (List.mem_append_left _ (List.mem_append_left _ (List.mem_append_left _ (List.mem_append_left _ (List.mem_append_left _ (List.mem_of_getElem? (i := 1) rfl))))))))))) dX9_together_61 ?_
        have hP9 := hP.sub (ws' := []) [] rfl
        have hD9 := hD.sub (ws' := []) [] (by decide +kernel) rfl
        exact W.iret (v := (-1000000002)) hx hb hr (fun t9 ht _ => ⟨⟨(-1000000002), (), rfl, e1.symm, by rw [ht]; exact hP9, hD9⟩, hS.F ht⟩) hS.2.2 dX9_together_63
    · skip
      have hlast2 := hc3
      refine lv_iload_n hx hb dX9_together_33 rfl (lv_at hl 3 rfl) ?_
      refine lv_bipush (v := 11) hx hb dX9_together_34 (by decide) ?_
      refine lv_isub hx hb dX9_together_36 ?_
      refine lv_iload_n hx hb dX9_together_37 rfl (lv_at hl 1 rfl) ?_
      refine lv_icmp_ge (x := w - 11) (y := 0) (tgt := 45) hx hb dX9_together_38 (by decide) (fun hc9 => ?_) (fun hc9 => absurd (sub_nn 11 (by decide) hlast2) hc9)
      refine lv_iconst (v := 0) hx hb dX9_together_45 (by decide) ?_
      refine lv_istore (lv' := [(4, .int 0), (3, .int 0), (2, .int 0), (0, .ref x), (1, .int w)]) hx hb dX9_together_46 hl (by decide) rfl (fun ls hl => ?_)
      refine lv_iload_n hx hb dX9_together_48 rfl (lv_at hl 4 rfl) ?_
      refine lv_if_eq (x := w) (tgt := 64) hx hb dX9_together_49 (by decide) (fun hc10 => ?_) (fun hc10 => ?_)
      · skip
        have e1 : tgA w = 0 := if_pos hc10
        refine lv_aload_n hx hb dX9_together_64 rfl (lv_at hl 3 rfl) ?_
        refine va_get (D := D) (ci := 9) (v := .ref xp) (C := RX9) (T := TX9) (N := 13) hx hb hts hi9 hown hG.1 hP 0 rfl rfl 6 (by decide) (hts (.fieldLink RX9 76 "SleptMatters" "plan" "LSleptMatters$Plan;") (List.mem_cons_of_mem _ (List.mem_append_left _ (List.mem_append_left _ (List.mem_append_left _ (List.mem_append_left _ (List.mem_append_left _ (List.mem_append_left _ (List.mem_append_left _ (List.mem_append_left _ (List.mem_of_getElem? (i := 2) rfl))))))))))) (fun _ h9 => h9) rfl dX9_together_65 ?_
        refine lv_aload_n hx hb dX9_together_68 rfl (lv_at hl 3 rfl) ?_
        refine va_get (D := D) (ci := 9) (v := .ref xc) (C := RX9) (T := TX9) (N := 13) hx hb hts hi9 hown hG.1 hP 0 rfl rfl 1 (by decide) (hts (.fieldLink RX9 19 "SleptMatters" "course" "LSleptMatters$Course;") (List.mem_cons_of_mem _ (List.mem_append_left _ (List.mem_append_left _ (List.mem_append_left _ (List.mem_append_left _ (List.mem_append_left _ (List.mem_append_left _ (List.mem_append_left _ (List.mem_append_left _ (List.mem_of_getElem? (i := 3) rfl))))))))))) (fun _ h9 => h9) rfl dX9_together_69 ?_
        refine va_get (D := D) (ci := 2) (v := .int 0) (C := RX2) (T := TX2) (N := 10) hx hb hts hi2 hown hG.1 hP 9 rfl rfl 8 (by decide) (hts (.fieldLink RX9 133 "SleptMatters$Course" "day" "I") (List.mem_cons_of_mem _ (List.mem_append_left _ (List.mem_append_left _ (List.mem_append_left _ (List.mem_append_left _ (List.mem_append_left _ (List.mem_append_left _ (List.mem_append_left _ (List.mem_append_left _ (List.mem_of_getElem? (i := 4) rfl))))))))))) (fun _ h9 => h9) rfl dX9_together_72 ?_
        refine lv_aload_n hx hb dX9_together_75 rfl (lv_at hl 3 rfl) ?_
        refine va_get (D := D) (ci := 9) (v := .ref xw) (C := RX9) (T := TX9) (N := 13) hx hb hts hi9 hown hG.1 hP 0 rfl rfl 10 (by decide) (hts (.fieldLink RX9 51 "SleptMatters" "law" "LSleptMatters$Law;") (List.mem_cons_of_mem _ (List.mem_append_left _ (List.mem_append_left _ (List.mem_append_left _ (List.mem_append_left _ (List.mem_append_left _ (List.mem_append_left _ (List.mem_append_left _ (List.mem_append_left _ (List.mem_of_getElem? (i := 5) rfl))))))))))) (fun _ h9 => h9) rfl dX9_together_76 ?_
        refine va_get (D := D) (ci := 3) (v := .int 7) (C := RX3) (T := TX3) (N := 5) hx hb hts hi3 hown hG.1 hP 10 rfl rfl 0 (by decide) (hts (.fieldLink RX9 124 "SleptMatters$Law" "nights" "I") (List.mem_cons_of_mem _ (List.mem_append_left _ (List.mem_append_left _ (List.mem_append_left _ (List.mem_append_left _ (List.mem_append_left _ (List.mem_append_left _ (List.mem_append_left _ (List.mem_append_left _ (List.mem_of_getElem? (i := 6) rfl))))))))))) (fun _ h9 => h9) rfl dX9_together_79 ?_
        have hPc := hP.sub (ws' := (c_X4_update k xp xr od en te tk r0 r1 xl r3 r4 r5 r6 r7 r8 r9 t1 t2 t3 lt ltn ltl ltc lta 0 7)) [1, 2, 3, 4, 5, 6, 7, 8] rfl
        have hDc := hD.sub (ws' := (c_X4_update k xp xr od en te tk r0 r1 xl r3 r4 r5 r6 r7 r8 r9 t1 t2 t3 lt ltn ltl ltc lta 0 7)) [1, 2, 3, 4, 5, 6, 7, 8] (by decide +kernel) rfl
        refine cl_v (w1 := w_X4_update k xp xr od en te tk r0 r1 xl r3 r4 r5 r6 r7 r8 r9 t1 t2 t3 lt ltn ltl ltc lta 0 7) (wr := [(x, .inr (9, [.ref xt, .ref xc, .ref xi, .ref xk, .ref xb, .ref xr, .ref xp, .ref xo, .ref xl, .ref xm, .ref xw, .ref xv, .int fb])), (xc, .inr (2, [.ref c0, .ref c1, .ref c2, .ref c3, .ref c4, .ref c5, .ref c6, .int 0, .int 0, .int 0])), (xw, .inr (3, [.int 7, .int 4, .int 1, .int 0, .int 0]))]) (va_runV (As := [.int 0, .int 7]) (rest := []) ⟨hx, hb, hml, hown, hts⟩ (X4_update l D k s.heap.size z xp xr od en te tk r0 r1 xl r3 r4 r5 r6 r7 r8 r9 t1 t2 t3 lt ltn ltl ltc lta 0 7 ) (cwV 2 hts gX9_together_X4_update rfl rfl rfl (by decide +kernel) ⟨Nat.le_of_ble_eq_true rfl, Nat.le_of_ble_eq_true rfl⟩) ⟨PT.blind _ _ _ _ _ _, va_recv hG.1 hP (ci := 4) (q0 := 1) rfl rfl, PT.pre hPc hDc hG hZ hS (va_free hD hS hA [1, 2, 3, 4, 5, 6, 7, 8] rfl) [.ref xp, .int 0, .int 7]⟩ rfl rfl hl.1 rfl (lv_room (Nat.le_of_ble_eq_true rfl)) dX9_together_82 ⟨Nat.le_of_ble_eq_true rfl, Nat.le_of_ble_eq_true rfl⟩) hP hD hS hA [1, 2, 3, 4, 5, 6, 7, 8] [0, 9, 10] rfl rfl (by decide +kernel) (by decide +kernel) (fun u H locs hq hP hD hS => ?_)
        cases u
        have hP : va_P D vwCl [(x, .inr (9, [.ref xt, .ref xc, .ref xi, .ref xk, .ref xb, .ref xr, .ref xp, .ref xo, .ref xl, .ref xm, .ref xw, .ref xv, .int fb])), (xc, .inr (2, [.ref c0, .ref c1, .ref c2, .ref c3, .ref c4, .ref c5, .ref c6, .int 0, .int 0, .int 0])), (xw, .inr (3, [.int 7, .int 4, .int 1, .int 0, .int 0])), (xp, .inr (4, [.int 1, .int 0, .ref od, .ref en, .ref te, .ref tk, .ref xr, .int 0, .int 7]))] H := hP
        have hD : va_D A [(x, .inr (9, [.ref xt, .ref xc, .ref xi, .ref xk, .ref xb, .ref xr, .ref xp, .ref xo, .ref xl, .ref xm, .ref xw, .ref xv, .int fb])), (xc, .inr (2, [.ref c0, .ref c1, .ref c2, .ref c3, .ref c4, .ref c5, .ref c6, .int 0, .int 0, .int 0])), (xw, .inr (3, [.int 7, .int 4, .int 1, .int 0, .int 0])), (xp, .inr (4, [.int 1, .int 0, .ref od, .ref en, .ref te, .ref tk, .ref xr, .int 0, .int 7]))] := hD
        refine lv_iload_n hx hb dX9_together_85 rfl (lv_at hl 1 rfl) ?_
        refine lv_if_eq (x := 0) (tgt := 101) hx hb dX9_together_86 (by decide) (fun hc11 => ?_) (fun hc11 => absurd hc11 (by decide))
        refine lv_iload hx hb dX9_together_101 (lv_at hl 0 rfl) ?_
        refine lv_if_eq (x := 0) (tgt := 119) hx hb dX9_together_103 (by decide) (fun hc12 => ?_) (fun hc12 => absurd hc12 (by decide))
        refine lv_aload_n hx hb dX9_together_119 rfl (lv_at hl 3 rfl) ?_
        refine va_get (D := D) (ci := 9) (v := .ref xp) (C := RX9) (T := TX9) (N := 13) hx hb hts hi9 hown hG.1 hP 0 rfl rfl 6 (by decide) (hts (.fieldLink RX9 76 "SleptMatters" "plan" "LSleptMatters$Plan;") (List.mem_cons_of_mem _ (List.mem_append_left _ (List.mem_append_left _ (List.mem_append_left _ (List.mem_append_left _ (List.mem_append_left _ (List.mem_append_left _ (List.mem_append_left _ (List.mem_append_left _ (List.mem_of_getElem? (i := 2) rfl))))))))))) (fun _ h9 => h9) rfl dX9_together_120 ?_
        refine va_get (D := D) (ci := 4) (v := .int 0) (C := RX4) (T := TX4) (N := 9) hx hb hts hi4 hown hG.1 hP 3 rfl rfl 1 (by decide) (hts (.fieldLink RX9 252 "SleptMatters$Plan" "gain" "I") (List.mem_cons_of_mem _ (List.mem_append_left _ (List.mem_append_left _ (List.mem_append_left _ (List.mem_append_left _ (List.mem_append_left _ (List.mem_append_left _ (List.mem_append_left _ (List.mem_append_left _ (List.mem_of_getElem? (i := 9) rfl))))))))))) (fun _ h9 => h9) rfl dX9_together_123 ?_
        have hP9 := hP.sub (ws' := []) [] rfl
        have hD9 := hD.sub (ws' := []) [] (by decide +kernel) rfl
        exact W.iret (v := 0) hx hb hr (fun t9 ht _ => ⟨⟨0, (), rfl, e1.symm, by rw [ht]; exact hP9, hD9⟩, hS.F ht⟩) hS.2.2 dX9_together_126
      · skip
        have e1 : tgA w = (-1000000002) := if_neg hc10
        refine lv_iload_n hx hb dX9_together_52 rfl (lv_at hl 1 rfl) ?_
        refine lv_if_ne (x := 0) (tgt := 64) hx hb dX9_together_53 (by decide) (fun hc13 => absurd hc13 (by decide)) (fun hc13 => ?_)
        refine lv_iload hx hb dX9_together_56 (lv_at hl 0 rfl) ?_
        refine lv_if_ne (x := 0) (tgt := 64) hx hb dX9_together_58 (by decide) (fun hc14 => absurd hc14 (by decide)) (fun hc14 => ?_)
        refine lv_ldc (v := (-1000000002)) hx hb hown (hts (.constant RX9 87 (-1000000002)) (List.mem_cons_of_mem _ (List.mem_append_left _ (List.mem_append_left _ (List.mem_append_left _ (List.mem_append_left _ (List.mem_append_left _ (List.mem_append_left _ (List.mem_append_left _ (List.mem_append_left _ (List.mem_of_getElem? (i := 1) rfl))))))))))) dX9_together_61 ?_
        have hP9 := hP.sub (ws' := []) [] rfl
        have hD9 := hD.sub (ws' := []) [] (by decide +kernel) rfl
        exact W.iret (v := (-1000000002)) hx hb hr (fun t9 ht _ => ⟨⟨(-1000000002), (), rfl, e1.symm, by rw [ht]; exact hP9, hD9⟩, hS.F ht⟩) hS.2.2 dX9_together_63
  · skip
    have hlast1 := hc2
    refine lv_iload_n hx hb dX9_together_14 rfl (lv_at hl 2 rfl) ?_
    refine lv_iconst (v := 1) hx hb dX9_together_15 (by decide) ?_
    refine lv_isub hx hb dX9_together_16 ?_
    refine lv_iload_n hx hb dX9_together_17 rfl (lv_at hl 0 rfl) ?_
    refine lv_icmp_ge (x := w - 1) (y := 0) (tgt := 25) hx hb dX9_together_18 (by decide) (fun hc15 => ?_) (fun hc15 => absurd (sub_nn 1 (by decide) hlast1) hc15)
    refine lv_iconst (v := 0) hx hb dX9_together_25 (by decide) ?_
    refine lv_istore_n (lv' := [(3, .int 0), (2, .int 0), (0, .ref x), (1, .int w)]) hx hb dX9_together_26 rfl hl (by decide) rfl (fun ls hl => ?_)
    refine lv_iload_n hx hb dX9_together_27 rfl (lv_at hl 3 rfl) ?_
    refine lv_bipush (v := 11) hx hb dX9_together_28 (by decide) ?_
    refine lv_icmp_lt (x := w) (y := 11) (tgt := 45) hx hb dX9_together_30 (by decide) (fun hc16 => ?_) (fun hc16 => ?_)
    · skip
      refine lv_iconst (v := 0) hx hb dX9_together_45 (by decide) ?_
      refine lv_istore (lv' := [(4, .int 0), (3, .int 0), (2, .int 0), (0, .ref x), (1, .int w)]) hx hb dX9_together_46 hl (by decide) rfl (fun ls hl => ?_)
      refine lv_iload_n hx hb dX9_together_48 rfl (lv_at hl 4 rfl) ?_
      refine lv_if_eq (x := w) (tgt := 64) hx hb dX9_together_49 (by decide) (fun hc17 => ?_) (fun hc17 => ?_)
      · skip
        have e1 : tgA w = 0 := if_pos hc17
        refine lv_aload_n hx hb dX9_together_64 rfl (lv_at hl 3 rfl) ?_
        refine va_get (D := D) (ci := 9) (v := .ref xp) (C := RX9) (T := TX9) (N := 13) hx hb hts hi9 hown hG.1 hP 0 rfl rfl 6 (by decide) (hts (.fieldLink RX9 76 "SleptMatters" "plan" "LSleptMatters$Plan;") (List.mem_cons_of_mem _ (List.mem_append_left _ (List.mem_append_left _ (List.mem_append_left _ (List.mem_append_left _ (List.mem_append_left _ (List.mem_append_left _ (List.mem_append_left _ (List.mem_append_left _ (List.mem_of_getElem? (i := 2) rfl))))))))))) (fun _ h9 => h9) rfl dX9_together_65 ?_
        refine lv_aload_n hx hb dX9_together_68 rfl (lv_at hl 3 rfl) ?_
        refine va_get (D := D) (ci := 9) (v := .ref xc) (C := RX9) (T := TX9) (N := 13) hx hb hts hi9 hown hG.1 hP 0 rfl rfl 1 (by decide) (hts (.fieldLink RX9 19 "SleptMatters" "course" "LSleptMatters$Course;") (List.mem_cons_of_mem _ (List.mem_append_left _ (List.mem_append_left _ (List.mem_append_left _ (List.mem_append_left _ (List.mem_append_left _ (List.mem_append_left _ (List.mem_append_left _ (List.mem_append_left _ (List.mem_of_getElem? (i := 3) rfl))))))))))) (fun _ h9 => h9) rfl dX9_together_69 ?_
        refine va_get (D := D) (ci := 2) (v := .int 0) (C := RX2) (T := TX2) (N := 10) hx hb hts hi2 hown hG.1 hP 9 rfl rfl 8 (by decide) (hts (.fieldLink RX9 133 "SleptMatters$Course" "day" "I") (List.mem_cons_of_mem _ (List.mem_append_left _ (List.mem_append_left _ (List.mem_append_left _ (List.mem_append_left _ (List.mem_append_left _ (List.mem_append_left _ (List.mem_append_left _ (List.mem_append_left _ (List.mem_of_getElem? (i := 4) rfl))))))))))) (fun _ h9 => h9) rfl dX9_together_72 ?_
        refine lv_aload_n hx hb dX9_together_75 rfl (lv_at hl 3 rfl) ?_
        refine va_get (D := D) (ci := 9) (v := .ref xw) (C := RX9) (T := TX9) (N := 13) hx hb hts hi9 hown hG.1 hP 0 rfl rfl 10 (by decide) (hts (.fieldLink RX9 51 "SleptMatters" "law" "LSleptMatters$Law;") (List.mem_cons_of_mem _ (List.mem_append_left _ (List.mem_append_left _ (List.mem_append_left _ (List.mem_append_left _ (List.mem_append_left _ (List.mem_append_left _ (List.mem_append_left _ (List.mem_append_left _ (List.mem_of_getElem? (i := 5) rfl))))))))))) (fun _ h9 => h9) rfl dX9_together_76 ?_
        refine va_get (D := D) (ci := 3) (v := .int 7) (C := RX3) (T := TX3) (N := 5) hx hb hts hi3 hown hG.1 hP 10 rfl rfl 0 (by decide) (hts (.fieldLink RX9 124 "SleptMatters$Law" "nights" "I") (List.mem_cons_of_mem _ (List.mem_append_left _ (List.mem_append_left _ (List.mem_append_left _ (List.mem_append_left _ (List.mem_append_left _ (List.mem_append_left _ (List.mem_append_left _ (List.mem_append_left _ (List.mem_of_getElem? (i := 6) rfl))))))))))) (fun _ h9 => h9) rfl dX9_together_79 ?_
        have hPc := hP.sub (ws' := (c_X4_update k xp xr od en te tk r0 r1 xl r3 r4 r5 r6 r7 r8 r9 t1 t2 t3 lt ltn ltl ltc lta 0 7)) [1, 2, 3, 4, 5, 6, 7, 8] rfl
        have hDc := hD.sub (ws' := (c_X4_update k xp xr od en te tk r0 r1 xl r3 r4 r5 r6 r7 r8 r9 t1 t2 t3 lt ltn ltl ltc lta 0 7)) [1, 2, 3, 4, 5, 6, 7, 8] (by decide +kernel) rfl
        refine cl_v (w1 := w_X4_update k xp xr od en te tk r0 r1 xl r3 r4 r5 r6 r7 r8 r9 t1 t2 t3 lt ltn ltl ltc lta 0 7) (wr := [(x, .inr (9, [.ref xt, .ref xc, .ref xi, .ref xk, .ref xb, .ref xr, .ref xp, .ref xo, .ref xl, .ref xm, .ref xw, .ref xv, .int fb])), (xc, .inr (2, [.ref c0, .ref c1, .ref c2, .ref c3, .ref c4, .ref c5, .ref c6, .int 0, .int 0, .int 0])), (xw, .inr (3, [.int 7, .int 4, .int 1, .int 0, .int 0]))]) (va_runV (As := [.int 0, .int 7]) (rest := []) ⟨hx, hb, hml, hown, hts⟩ (X4_update l D k s.heap.size z xp xr od en te tk r0 r1 xl r3 r4 r5 r6 r7 r8 r9 t1 t2 t3 lt ltn ltl ltc lta 0 7 ) (cwV 2 hts gX9_together_X4_update rfl rfl rfl (by decide +kernel) ⟨Nat.le_of_ble_eq_true rfl, Nat.le_of_ble_eq_true rfl⟩) ⟨PT.blind _ _ _ _ _ _, va_recv hG.1 hP (ci := 4) (q0 := 1) rfl rfl, PT.pre hPc hDc hG hZ hS (va_free hD hS hA [1, 2, 3, 4, 5, 6, 7, 8] rfl) [.ref xp, .int 0, .int 7]⟩ rfl rfl hl.1 rfl (lv_room (Nat.le_of_ble_eq_true rfl)) dX9_together_82 ⟨Nat.le_of_ble_eq_true rfl, Nat.le_of_ble_eq_true rfl⟩) hP hD hS hA [1, 2, 3, 4, 5, 6, 7, 8] [0, 9, 10] rfl rfl (by decide +kernel) (by decide +kernel) (fun u H locs hq hP hD hS => ?_)
        cases u
        have hP : va_P D vwCl [(x, .inr (9, [.ref xt, .ref xc, .ref xi, .ref xk, .ref xb, .ref xr, .ref xp, .ref xo, .ref xl, .ref xm, .ref xw, .ref xv, .int fb])), (xc, .inr (2, [.ref c0, .ref c1, .ref c2, .ref c3, .ref c4, .ref c5, .ref c6, .int 0, .int 0, .int 0])), (xw, .inr (3, [.int 7, .int 4, .int 1, .int 0, .int 0])), (xp, .inr (4, [.int 1, .int 0, .ref od, .ref en, .ref te, .ref tk, .ref xr, .int 0, .int 7]))] H := hP
        have hD : va_D A [(x, .inr (9, [.ref xt, .ref xc, .ref xi, .ref xk, .ref xb, .ref xr, .ref xp, .ref xo, .ref xl, .ref xm, .ref xw, .ref xv, .int fb])), (xc, .inr (2, [.ref c0, .ref c1, .ref c2, .ref c3, .ref c4, .ref c5, .ref c6, .int 0, .int 0, .int 0])), (xw, .inr (3, [.int 7, .int 4, .int 1, .int 0, .int 0])), (xp, .inr (4, [.int 1, .int 0, .ref od, .ref en, .ref te, .ref tk, .ref xr, .int 0, .int 7]))] := hD
        refine lv_iload_n hx hb dX9_together_85 rfl (lv_at hl 1 rfl) ?_
        refine lv_if_eq (x := 0) (tgt := 101) hx hb dX9_together_86 (by decide) (fun hc18 => ?_) (fun hc18 => absurd hc18 (by decide))
        refine lv_iload hx hb dX9_together_101 (lv_at hl 0 rfl) ?_
        refine lv_if_eq (x := 0) (tgt := 119) hx hb dX9_together_103 (by decide) (fun hc19 => ?_) (fun hc19 => absurd hc19 (by decide))
        refine lv_aload_n hx hb dX9_together_119 rfl (lv_at hl 3 rfl) ?_
        refine va_get (D := D) (ci := 9) (v := .ref xp) (C := RX9) (T := TX9) (N := 13) hx hb hts hi9 hown hG.1 hP 0 rfl rfl 6 (by decide) (hts (.fieldLink RX9 76 "SleptMatters" "plan" "LSleptMatters$Plan;") (List.mem_cons_of_mem _ (List.mem_append_left _ (List.mem_append_left _ (List.mem_append_left _ (List.mem_append_left _ (List.mem_append_left _ (List.mem_append_left _ (List.mem_append_left _ (List.mem_append_left _ (List.mem_of_getElem? (i := 2) rfl))))))))))) (fun _ h9 => h9) rfl dX9_together_120 ?_
        refine va_get (D := D) (ci := 4) (v := .int 0) (C := RX4) (T := TX4) (N := 9) hx hb hts hi4 hown hG.1 hP 3 rfl rfl 1 (by decide) (hts (.fieldLink RX9 252 "SleptMatters$Plan" "gain" "I") (List.mem_cons_of_mem _ (List.mem_append_left _ (List.mem_append_left _ (List.mem_append_left _ (List.mem_append_left _ (List.mem_append_left _ (List.mem_append_left _ (List.mem_append_left _ (List.mem_append_left _ (List.mem_of_getElem? (i := 9) rfl))))))))))) (fun _ h9 => h9) rfl dX9_together_123 ?_
        have hP9 := hP.sub (ws' := []) [] rfl
        have hD9 := hD.sub (ws' := []) [] (by decide +kernel) rfl
        exact W.iret (v := 0) hx hb hr (fun t9 ht _ => ⟨⟨0, (), rfl, e1.symm, by rw [ht]; exact hP9, hD9⟩, hS.F ht⟩) hS.2.2 dX9_together_126
      · skip
        have e1 : tgA w = (-1000000002) := if_neg hc17
        refine lv_iload_n hx hb dX9_together_52 rfl (lv_at hl 1 rfl) ?_
        refine lv_if_ne (x := 0) (tgt := 64) hx hb dX9_together_53 (by decide) (fun hc20 => absurd hc20 (by decide)) (fun hc20 => ?_)
        refine lv_iload hx hb dX9_together_56 (lv_at hl 0 rfl) ?_
        refine lv_if_ne (x := 0) (tgt := 64) hx hb dX9_together_58 (by decide) (fun hc21 => absurd hc21 (by decide)) (fun hc21 => ?_)
        refine lv_ldc (v := (-1000000002)) hx hb hown (hts (.constant RX9 87 (-1000000002)) (List.mem_cons_of_mem _ (List.mem_append_left _ (List.mem_append_left _ (List.mem_append_left _ (List.mem_append_left _ (List.mem_append_left _ (List.mem_append_left _ (List.mem_append_left _ (List.mem_append_left _ (List.mem_of_getElem? (i := 1) rfl))))))))))) dX9_together_61 ?_
        have hP9 := hP.sub (ws' := []) [] rfl
        have hD9 := hD.sub (ws' := []) [] (by decide +kernel) rfl
        exact W.iret (v := (-1000000002)) hx hb hr (fun t9 ht _ => ⟨⟨(-1000000002), (), rfl, e1.symm, by rw [ht]; exact hP9, hD9⟩, hS.F ht⟩) hS.2.2 dX9_together_63
    · skip
      have hlast2 := hc16
      refine lv_iload_n hx hb dX9_together_33 rfl (lv_at hl 3 rfl) ?_
      refine lv_bipush (v := 11) hx hb dX9_together_34 (by decide) ?_
      refine lv_isub hx hb dX9_together_36 ?_
      refine lv_iload_n hx hb dX9_together_37 rfl (lv_at hl 1 rfl) ?_
      refine lv_icmp_ge (x := w - 11) (y := 0) (tgt := 45) hx hb dX9_together_38 (by decide) (fun hc22 => ?_) (fun hc22 => absurd (sub_nn 11 (by decide) hlast2) hc22)
      refine lv_iconst (v := 0) hx hb dX9_together_45 (by decide) ?_
      refine lv_istore (lv' := [(4, .int 0), (3, .int 0), (2, .int 0), (0, .ref x), (1, .int w)]) hx hb dX9_together_46 hl (by decide) rfl (fun ls hl => ?_)
      refine lv_iload_n hx hb dX9_together_48 rfl (lv_at hl 4 rfl) ?_
      refine lv_if_eq (x := w) (tgt := 64) hx hb dX9_together_49 (by decide) (fun hc23 => ?_) (fun hc23 => ?_)
      · skip
        have e1 : tgA w = 0 := if_pos hc23
        refine lv_aload_n hx hb dX9_together_64 rfl (lv_at hl 3 rfl) ?_
        refine va_get (D := D) (ci := 9) (v := .ref xp) (C := RX9) (T := TX9) (N := 13) hx hb hts hi9 hown hG.1 hP 0 rfl rfl 6 (by decide) (hts (.fieldLink RX9 76 "SleptMatters" "plan" "LSleptMatters$Plan;") (List.mem_cons_of_mem _ (List.mem_append_left _ (List.mem_append_left _ (List.mem_append_left _ (List.mem_append_left _ (List.mem_append_left _ (List.mem_append_left _ (List.mem_append_left _ (List.mem_append_left _ (List.mem_of_getElem? (i := 2) rfl))))))))))) (fun _ h9 => h9) rfl dX9_together_65 ?_
        refine lv_aload_n hx hb dX9_together_68 rfl (lv_at hl 3 rfl) ?_
        refine va_get (D := D) (ci := 9) (v := .ref xc) (C := RX9) (T := TX9) (N := 13) hx hb hts hi9 hown hG.1 hP 0 rfl rfl 1 (by decide) (hts (.fieldLink RX9 19 "SleptMatters" "course" "LSleptMatters$Course;") (List.mem_cons_of_mem _ (List.mem_append_left _ (List.mem_append_left _ (List.mem_append_left _ (List.mem_append_left _ (List.mem_append_left _ (List.mem_append_left _ (List.mem_append_left _ (List.mem_append_left _ (List.mem_of_getElem? (i := 3) rfl))))))))))) (fun _ h9 => h9) rfl dX9_together_69 ?_
        refine va_get (D := D) (ci := 2) (v := .int 0) (C := RX2) (T := TX2) (N := 10) hx hb hts hi2 hown hG.1 hP 9 rfl rfl 8 (by decide) (hts (.fieldLink RX9 133 "SleptMatters$Course" "day" "I") (List.mem_cons_of_mem _ (List.mem_append_left _ (List.mem_append_left _ (List.mem_append_left _ (List.mem_append_left _ (List.mem_append_left _ (List.mem_append_left _ (List.mem_append_left _ (List.mem_append_left _ (List.mem_of_getElem? (i := 4) rfl))))))))))) (fun _ h9 => h9) rfl dX9_together_72 ?_
        refine lv_aload_n hx hb dX9_together_75 rfl (lv_at hl 3 rfl) ?_
        refine va_get (D := D) (ci := 9) (v := .ref xw) (C := RX9) (T := TX9) (N := 13) hx hb hts hi9 hown hG.1 hP 0 rfl rfl 10 (by decide) (hts (.fieldLink RX9 51 "SleptMatters" "law" "LSleptMatters$Law;") (List.mem_cons_of_mem _ (List.mem_append_left _ (List.mem_append_left _ (List.mem_append_left _ (List.mem_append_left _ (List.mem_append_left _ (List.mem_append_left _ (List.mem_append_left _ (List.mem_append_left _ (List.mem_of_getElem? (i := 5) rfl))))))))))) (fun _ h9 => h9) rfl dX9_together_76 ?_
        refine va_get (D := D) (ci := 3) (v := .int 7) (C := RX3) (T := TX3) (N := 5) hx hb hts hi3 hown hG.1 hP 10 rfl rfl 0 (by decide) (hts (.fieldLink RX9 124 "SleptMatters$Law" "nights" "I") (List.mem_cons_of_mem _ (List.mem_append_left _ (List.mem_append_left _ (List.mem_append_left _ (List.mem_append_left _ (List.mem_append_left _ (List.mem_append_left _ (List.mem_append_left _ (List.mem_append_left _ (List.mem_of_getElem? (i := 6) rfl))))))))))) (fun _ h9 => h9) rfl dX9_together_79 ?_
        have hPc := hP.sub (ws' := (c_X4_update k xp xr od en te tk r0 r1 xl r3 r4 r5 r6 r7 r8 r9 t1 t2 t3 lt ltn ltl ltc lta 0 7)) [1, 2, 3, 4, 5, 6, 7, 8] rfl
        have hDc := hD.sub (ws' := (c_X4_update k xp xr od en te tk r0 r1 xl r3 r4 r5 r6 r7 r8 r9 t1 t2 t3 lt ltn ltl ltc lta 0 7)) [1, 2, 3, 4, 5, 6, 7, 8] (by decide +kernel) rfl
        refine cl_v (w1 := w_X4_update k xp xr od en te tk r0 r1 xl r3 r4 r5 r6 r7 r8 r9 t1 t2 t3 lt ltn ltl ltc lta 0 7) (wr := [(x, .inr (9, [.ref xt, .ref xc, .ref xi, .ref xk, .ref xb, .ref xr, .ref xp, .ref xo, .ref xl, .ref xm, .ref xw, .ref xv, .int fb])), (xc, .inr (2, [.ref c0, .ref c1, .ref c2, .ref c3, .ref c4, .ref c5, .ref c6, .int 0, .int 0, .int 0])), (xw, .inr (3, [.int 7, .int 4, .int 1, .int 0, .int 0]))]) (va_runV (As := [.int 0, .int 7]) (rest := []) ⟨hx, hb, hml, hown, hts⟩ (X4_update l D k s.heap.size z xp xr od en te tk r0 r1 xl r3 r4 r5 r6 r7 r8 r9 t1 t2 t3 lt ltn ltl ltc lta 0 7 ) (cwV 2 hts gX9_together_X4_update rfl rfl rfl (by decide +kernel) ⟨Nat.le_of_ble_eq_true rfl, Nat.le_of_ble_eq_true rfl⟩) ⟨PT.blind _ _ _ _ _ _, va_recv hG.1 hP (ci := 4) (q0 := 1) rfl rfl, PT.pre hPc hDc hG hZ hS (va_free hD hS hA [1, 2, 3, 4, 5, 6, 7, 8] rfl) [.ref xp, .int 0, .int 7]⟩ rfl rfl hl.1 rfl (lv_room (Nat.le_of_ble_eq_true rfl)) dX9_together_82 ⟨Nat.le_of_ble_eq_true rfl, Nat.le_of_ble_eq_true rfl⟩) hP hD hS hA [1, 2, 3, 4, 5, 6, 7, 8] [0, 9, 10] rfl rfl (by decide +kernel) (by decide +kernel) (fun u H locs hq hP hD hS => ?_)
        cases u
        have hP : va_P D vwCl [(x, .inr (9, [.ref xt, .ref xc, .ref xi, .ref xk, .ref xb, .ref xr, .ref xp, .ref xo, .ref xl, .ref xm, .ref xw, .ref xv, .int fb])), (xc, .inr (2, [.ref c0, .ref c1, .ref c2, .ref c3, .ref c4, .ref c5, .ref c6, .int 0, .int 0, .int 0])), (xw, .inr (3, [.int 7, .int 4, .int 1, .int 0, .int 0])), (xp, .inr (4, [.int 1, .int 0, .ref od, .ref en, .ref te, .ref tk, .ref xr, .int 0, .int 7]))] H := hP
        have hD : va_D A [(x, .inr (9, [.ref xt, .ref xc, .ref xi, .ref xk, .ref xb, .ref xr, .ref xp, .ref xo, .ref xl, .ref xm, .ref xw, .ref xv, .int fb])), (xc, .inr (2, [.ref c0, .ref c1, .ref c2, .ref c3, .ref c4, .ref c5, .ref c6, .int 0, .int 0, .int 0])), (xw, .inr (3, [.int 7, .int 4, .int 1, .int 0, .int 0])), (xp, .inr (4, [.int 1, .int 0, .ref od, .ref en, .ref te, .ref tk, .ref xr, .int 0, .int 7]))] := hD
        refine lv_iload_n hx hb dX9_together_85 rfl (lv_at hl 1 rfl) ?_
        refine lv_if_eq (x := 0) (tgt := 101) hx hb dX9_together_86 (by decide) (fun hc24 => ?_) (fun hc24 => absurd hc24 (by decide))
        refine lv_iload hx hb dX9_together_101 (lv_at hl 0 rfl) ?_
        refine lv_if_eq (x := 0) (tgt := 119) hx hb dX9_together_103 (by decide) (fun hc25 => ?_) (fun hc25 => absurd hc25 (by decide))
        refine lv_aload_n hx hb dX9_together_119 rfl (lv_at hl 3 rfl) ?_
        refine va_get (D := D) (ci := 9) (v := .ref xp) (C := RX9) (T := TX9) (N := 13) hx hb hts hi9 hown hG.1 hP 0 rfl rfl 6 (by decide) (hts (.fieldLink RX9 76 "SleptMatters" "plan" "LSleptMatters$Plan;") (List.mem_cons_of_mem _ (List.mem_append_left _ (List.mem_append_left _ (List.mem_append_left _ (List.mem_append_left _ (List.mem_append_left _ (List.mem_append_left _ (List.mem_append_left _ (List.mem_append_left _ (List.mem_of_getElem? (i := 2) rfl))))))))))) (fun _ h9 => h9) rfl dX9_together_120 ?_
        refine va_get (D := D) (ci := 4) (v := .int 0) (C := RX4) (T := TX4) (N := 9) hx hb hts hi4 hown hG.1 hP 3 rfl rfl 1 (by decide) (hts (.fieldLink RX9 252 "SleptMatters$Plan" "gain" "I") (List.mem_cons_of_mem _ (List.mem_append_left _ (List.mem_append_left _ (List.mem_append_left _ (List.mem_append_left _ (List.mem_append_left _ (List.mem_append_left _ (List.mem_append_left _ (List.mem_append_left _ (List.mem_of_getElem? (i := 9) rfl))))))))))) (fun _ h9 => h9) rfl dX9_together_123 ?_
        have hP9 := hP.sub (ws' := []) [] rfl
        have hD9 := hD.sub (ws' := []) [] (by decide +kernel) rfl
        exact W.iret (v := 0) hx hb hr (fun t9 ht _ => ⟨⟨0, (), rfl, e1.symm, by rw [ht]; exact hP9, hD9⟩, hS.F ht⟩) hS.2.2 dX9_together_126
      · skip
        have e1 : tgA w = (-1000000002) := if_neg hc23
        refine lv_iload_n hx hb dX9_together_52 rfl (lv_at hl 1 rfl) ?_
        refine lv_if_ne (x := 0) (tgt := 64) hx hb dX9_together_53 (by decide) (fun hc26 => absurd hc26 (by decide)) (fun hc26 => ?_)
        refine lv_iload hx hb dX9_together_56 (lv_at hl 0 rfl) ?_
        refine lv_if_ne (x := 0) (tgt := 64) hx hb dX9_together_58 (by decide) (fun hc27 => absurd hc27 (by decide)) (fun hc27 => ?_)
        refine lv_ldc (v := (-1000000002)) hx hb hown (hts (.constant RX9 87 (-1000000002)) (List.mem_cons_of_mem _ (List.mem_append_left _ (List.mem_append_left _ (List.mem_append_left _ (List.mem_append_left _ (List.mem_append_left _ (List.mem_append_left _ (List.mem_append_left _ (List.mem_append_left _ (List.mem_of_getElem? (i := 1) rfl))))))))))) dX9_together_61 ?_
        have hP9 := hP.sub (ws' := []) [] rfl
        have hD9 := hD.sub (ws' := []) [] (by decide +kernel) rfl
        exact W.iret (v := (-1000000002)) hx hb hr (fun t9 ht _ => ⟨⟨(-1000000002), (), rfl, e1.symm, by rw [ht]; exact hP9, hD9⟩, hS.F ht⟩) hS.2.2 dX9_together_63
