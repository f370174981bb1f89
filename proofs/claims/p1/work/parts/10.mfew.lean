theorem dX10_in_0 : decode cX10_in 0 = .ok (.lload_n 0, 1) := by decide +kernel
theorem dX10_in_1 : decode cX10_in 1 = .ok (.lload_n 2, 1) := by decide +kernel
theorem dX10_in_2 : decode cX10_in 2 = .ok (.lcmp, 1) := by decide +kernel
theorem dX10_in_3 : decode cX10_in 3 = .ok (.ifCond .lt 14, 3) := by decide +kernel
theorem dX10_in_6 : decode cX10_in 6 = .ok (.lload_n 0, 1) := by decide +kernel
theorem dX10_in_7 : decode cX10_in 7 = .ok (.lload 4, 2) := by decide +kernel
theorem dX10_in_9 : decode cX10_in 9 = .ok (.lcmp, 1) := by decide +kernel
theorem dX10_in_10 : decode cX10_in 10 = .ok (.ifCond .gt 7, 3) := by decide +kernel
theorem dX10_in_13 : decode cX10_in 13 = .ok (.iconst 1, 1) := by decide +kernel
theorem dX10_in_14 : decode cX10_in 14 = .ok (.goto 4, 3) := by decide +kernel
theorem dX10_in_17 : decode cX10_in 17 = .ok (.iconst 0, 1) := by decide +kernel
theorem dX10_in_18 : decode cX10_in 18 = .ok (.ireturn, 1) := by decide +kernel
theorem dX10_bits_0 : decode cX10_bits 0 = .ok (.iconst 0, 1) := by decide +kernel
theorem dX10_bits_1 : decode cX10_bits 1 = .ok (.istore_n 1, 1) := by decide +kernel
theorem dX10_bits_2 : decode cX10_bits 2 = .ok (.iconst 0, 1) := by decide +kernel
theorem dX10_bits_3 : decode cX10_bits 3 = .ok (.istore_n 2, 1) := by decide +kernel
theorem dX10_bits_4 : decode cX10_bits 4 = .ok (.iload_n 2, 1) := by decide +kernel
theorem dX10_bits_5 : decode cX10_bits 5 = .ok (.bipush 7, 2) := by decide +kernel
theorem dX10_bits_7 : decode cX10_bits 7 = .ok (.if_icmp .ge 17, 3) := by decide +kernel
theorem dX10_bits_10 : decode cX10_bits 10 = .ok (.iload_n 1, 1) := by decide +kernel
theorem dX10_bits_11 : decode cX10_bits 11 = .ok (.iload_n 0, 1) := by decide +kernel
theorem dX10_bits_12 : decode cX10_bits 12 = .ok (.iload_n 2, 1) := by decide +kernel
theorem dX10_bits_13 : decode cX10_bits 13 = .ok (.ishr, 1) := by decide +kernel
theorem dX10_bits_14 : decode cX10_bits 14 = .ok (.iconst 1, 1) := by decide +kernel
theorem dX10_bits_15 : decode cX10_bits 15 = .ok (.iand, 1) := by decide +kernel
theorem dX10_bits_16 : decode cX10_bits 16 = .ok (.iadd, 1) := by decide +kernel
theorem dX10_bits_17 : decode cX10_bits 17 = .ok (.istore_n 1, 1) := by decide +kernel
theorem dX10_bits_18 : decode cX10_bits 18 = .ok (.iinc 2 1, 3) := by decide +kernel
theorem dX10_bits_21 : decode cX10_bits 21 = .ok (.goto (-17), 3) := by decide +kernel
theorem dX10_bits_24 : decode cX10_bits 24 = .ok (.iload_n 1, 1) := by decide +kernel
theorem dX10_bits_25 : decode cX10_bits 25 = .ok (.ireturn, 1) := by decide +kernel
set_option maxRecDepth 20000 in
theorem ggX10_isHouse_X10_in : GoodIn wsX10_isHouse wsX10_in := goodIn_r _ [5] rfl (by decide +kernel)
set_option maxRecDepth 20000 in
theorem gX10_isHouse_X10_in : GoodIn wsX10_isHouse (va_wsS RX10 168 yX10_in wsX10_in) := goodIn_app (goodIn_of _ (by decide +kernel)) ggX10_isHouse_X10_in
theorem dX10_isHouse_0 : decode cX10_isHouse 0 = .ok (.iload_n 1, 1) := by decide +kernel
theorem dX10_isHouse_1 : decode cX10_isHouse 1 = .ok (.i2l, 1) := by decide +kernel
theorem dX10_isHouse_2 : decode cX10_isHouse 2 = .ok (.lconst 0, 1) := by decide +kernel
theorem dX10_isHouse_3 : decode cX10_isHouse 3 = .ok (.aload_n 0, 1) := by decide +kernel
theorem dX10_isHouse_4 : decode cX10_isHouse 4 = .ok (.getfield 165, 3) := by decide +kernel
theorem dX10_isHouse_7 : decode cX10_isHouse 7 = .ok (.iconst 1, 1) := by decide +kernel
theorem dX10_isHouse_8 : decode cX10_isHouse 8 = .ok (.isub, 1) := by decide +kernel
theorem dX10_isHouse_9 : decode cX10_isHouse 9 = .ok (.i2l, 1) := by decide +kernel
theorem dX10_isHouse_10 : decode cX10_isHouse 10 = .ok (.invokestatic 168, 3) := by decide +kernel
theorem dX10_isHouse_13 : decode cX10_isHouse 13 = .ok (.ireturn, 1) := by decide +kernel
set_option maxRecDepth 20000 in
theorem ggX10_isSleeper_X10_in : GoodIn wsX10_isSleeper wsX10_in := goodIn_r _ [5] rfl (by decide +kernel)
set_option maxRecDepth 20000 in
theorem gX10_isSleeper_X10_in : GoodIn wsX10_isSleeper (va_wsS RX10 168 yX10_in wsX10_in) := goodIn_app (goodIn_of _ (by decide +kernel)) ggX10_isSleeper_X10_in
theorem dX10_isSleeper_0 : decode cX10_isSleeper 0 = .ok (.iload_n 1, 1) := by decide +kernel
theorem dX10_isSleeper_1 : decode cX10_isSleeper 1 = .ok (.i2l, 1) := by decide +kernel
theorem dX10_isSleeper_2 : decode cX10_isSleeper 2 = .ok (.lconst 0, 1) := by decide +kernel
theorem dX10_isSleeper_3 : decode cX10_isSleeper 3 = .ok (.aload_n 0, 1) := by decide +kernel
theorem dX10_isSleeper_4 : decode cX10_isSleeper 4 = .ok (.getfield 172, 3) := by decide +kernel
theorem dX10_isSleeper_7 : decode cX10_isSleeper 7 = .ok (.iconst 1, 1) := by decide +kernel
theorem dX10_isSleeper_8 : decode cX10_isSleeper 8 = .ok (.isub, 1) := by decide +kernel
theorem dX10_isSleeper_9 : decode cX10_isSleeper 9 = .ok (.i2l, 1) := by decide +kernel
theorem dX10_isSleeper_10 : decode cX10_isSleeper 10 = .ok (.invokestatic 168, 3) := by decide +kernel
theorem dX10_isSleeper_13 : decode cX10_isSleeper 13 = .ok (.ireturn, 1) := by decide +kernel
set_option maxRecDepth 20000 in
theorem ggX10_isMatter_X10_in : GoodIn wsX10_isMatter wsX10_in := goodIn_r _ [5] rfl (by decide +kernel)
set_option maxRecDepth 20000 in
theorem gX10_isMatter_X10_in : GoodIn wsX10_isMatter (va_wsS RX10 168 yX10_in wsX10_in) := goodIn_app (goodIn_of _ (by decide +kernel)) ggX10_isMatter_X10_in
theorem dX10_isMatter_0 : decode cX10_isMatter 0 = .ok (.iload_n 1, 1) := by decide +kernel
theorem dX10_isMatter_1 : decode cX10_isMatter 1 = .ok (.i2l, 1) := by decide +kernel
theorem dX10_isMatter_2 : decode cX10_isMatter 2 = .ok (.lconst 0, 1) := by decide +kernel
theorem dX10_isMatter_3 : decode cX10_isMatter 3 = .ok (.aload_n 0, 1) := by decide +kernel
theorem dX10_isMatter_4 : decode cX10_isMatter 4 = .ok (.getfield 175, 3) := by decide +kernel
theorem dX10_isMatter_7 : decode cX10_isMatter 7 = .ok (.iconst 1, 1) := by decide +kernel
theorem dX10_isMatter_8 : decode cX10_isMatter 8 = .ok (.isub, 1) := by decide +kernel
theorem dX10_isMatter_9 : decode cX10_isMatter 9 = .ok (.i2l, 1) := by decide +kernel
theorem dX10_isMatter_10 : decode cX10_isMatter 10 = .ok (.invokestatic 168, 3) := by decide +kernel
theorem dX10_isMatter_13 : decode cX10_isMatter 13 = .ok (.ireturn, 1) := by decide +kernel
set_option maxRecDepth 20000 in
theorem ggX10_house_X10_isHouse : GoodIn wsX10_house wsX10_isHouse := goodIn_r _ [9, 10, 11, 12, 8, 13, 21, 22, 23, 24, 25, 26, 27, 28, 29, 30, 31, 32, 33, 34, 35, 36, 37, 38, 39, 40, 41, 42, 43, 44, 45, 46, 47, 48, 49, 50, 51, 52, 53, 54, 55, 56, 57, 58, 59, 60, 61, 62, 63, 64, 65, 66, 67, 68, 69, 70, 71, 72, 73, 74, 75, 76, 77, 78, 79, 80, 81, 82, 83, 84, 85, 86, 87, 88, 89, 90, 91, 92, 93] rfl (by decide +kernel)
set_option maxRecDepth 20000 in
theorem gX10_house_X10_isHouse : GoodIn wsX10_house (wsV RX10 317 RX10 yX10_isHouse wsX10_isHouse) := goodIn_app (goodIn_of _ (by decide +kernel)) ggX10_house_X10_isHouse
set_option maxRecDepth 20000 in
theorem ggX10_house_X10_laidAt : GoodIn wsX10_house wsX10_laidAt := goodIn_r _ [17, 18, 19, 20, 21, 22, 23, 24, 25, 26, 27, 28, 29, 30, 31, 32, 33, 34, 35, 36, 37, 38, 39, 40, 41, 42, 43, 44, 45, 46, 47, 48, 49, 50, 51, 52, 53, 54, 55, 56, 57, 58, 59, 60, 61, 62, 63, 64, 65, 66, 67, 68, 69, 70, 71, 72, 73, 74, 75, 76, 77, 78, 79, 80, 81, 82, 83, 84, 85, 86, 87, 88, 89, 90, 91, 92, 93] rfl (by decide +kernel)
set_option maxRecDepth 20000 in
theorem gX10_house_X10_laidAt : GoodIn wsX10_house (wsV RX10 322 RX10 yX10_laidAt wsX10_laidAt) := goodIn_app (goodIn_of _ (by decide +kernel)) ggX10_house_X10_laidAt
theorem dX10_house_0 : decode cX10_house 0 = .ok (.aload_n 0, 1) := by decide +kernel
theorem dX10_house_1 : decode cX10_house 1 = .ok (.iload_n 1, 1) := by decide +kernel
theorem dX10_house_2 : decode cX10_house 2 = .ok (.invokevirtual 317, 3) := by decide +kernel
theorem dX10_house_5 : decode cX10_house 5 = .ok (.ifCond .ne 7, 3) := by decide +kernel
theorem dX10_house_8 : decode cX10_house 8 = .ok (.ldc_w 321, 3) := by decide +kernel
theorem dX10_house_11 : decode cX10_house 11 = .ok (.ireturn, 1) := by decide +kernel
theorem dX10_house_12 : decode cX10_house 12 = .ok (.iload_n 2, 1) := by decide +kernel
theorem dX10_house_13 : decode cX10_house 13 = .ok (.ifCond .ne 12, 3) := by decide +kernel
theorem dX10_house_16 : decode cX10_house 16 = .ok (.aload_n 0, 1) := by decide +kernel
theorem dX10_house_17 : decode cX10_house 17 = .ok (.getfield 7, 3) := by decide +kernel
theorem dX10_house_20 : decode cX10_house 20 = .ok (.iload_n 1, 1) := by decide +kernel
theorem dX10_house_21 : decode cX10_house 21 = .ok (.iaload, 1) := by decide +kernel
theorem dX10_house_22 : decode cX10_house 22 = .ok (.goto 39, 3) := by decide +kernel
theorem dX10_house_25 : decode cX10_house 25 = .ok (.iload_n 2, 1) := by decide +kernel
theorem dX10_house_26 : decode cX10_house 26 = .ok (.iconst 1, 1) := by decide +kernel
theorem dX10_house_27 : decode cX10_house 27 = .ok (.if_icmp .ne 12, 3) := by decide +kernel
theorem dX10_house_30 : decode cX10_house 30 = .ok (.aload_n 0, 1) := by decide +kernel
theorem dX10_house_31 : decode cX10_house 31 = .ok (.getfield 13, 3) := by decide +kernel
theorem dX10_house_34 : decode cX10_house 34 = .ok (.iload_n 1, 1) := by decide +kernel
theorem dX10_house_35 : decode cX10_house 35 = .ok (.iaload, 1) := by decide +kernel
theorem dX10_house_36 : decode cX10_house 36 = .ok (.goto 25, 3) := by decide +kernel
theorem dX10_house_39 : decode cX10_house 39 = .ok (.iload_n 2, 1) := by decide +kernel
theorem dX10_house_40 : decode cX10_house 40 = .ok (.iconst 2, 1) := by decide +kernel
theorem dX10_house_41 : decode cX10_house 41 = .ok (.if_icmp .ne 18, 3) := by decide +kernel
theorem dX10_house_44 : decode cX10_house 44 = .ok (.aload_n 0, 1) := by decide +kernel
theorem dX10_house_45 : decode cX10_house 45 = .ok (.getfield 13, 3) := by decide +kernel
theorem dX10_house_48 : decode cX10_house 48 = .ok (.iload_n 1, 1) := by decide +kernel
theorem dX10_house_49 : decode cX10_house 49 = .ok (.iaload, 1) := by decide +kernel
theorem dX10_house_50 : decode cX10_house 50 = .ok (.aload_n 0, 1) := by decide +kernel
theorem dX10_house_51 : decode cX10_house 51 = .ok (.iload_n 1, 1) := by decide +kernel
theorem dX10_house_52 : decode cX10_house 52 = .ok (.invokevirtual 322, 3) := by decide +kernel
theorem dX10_house_55 : decode cX10_house 55 = .ok (.isub, 1) := by decide +kernel
theorem dX10_house_56 : decode cX10_house 56 = .ok (.goto 5, 3) := by decide +kernel
theorem dX10_house_59 : decode cX10_house 59 = .ok (.ldc 186, 2) := by decide +kernel
theorem dX10_house_61 : decode cX10_house 61 = .ok (.ireturn, 1) := by decide +kernel
set_option maxRecDepth 20000 in
theorem ggX10_sleeper_X10_isSleeper : GoodIn wsX10_sleeper wsX10_isSleeper := goodIn_r _ [10, 11, 12, 13, 9, 14, 21, 22, 23, 24, 25, 26, 27, 28, 29, 30, 31, 32, 33, 34, 35, 36, 37, 38, 39, 40, 41, 42, 43, 44, 45, 46, 47, 48, 49, 50, 51, 52, 53, 54, 55, 56, 57, 58, 59, 60, 61, 62, 63, 64, 65, 66, 67, 68, 69, 70, 71, 72, 73, 74, 75, 76, 77, 78, 79, 80, 81, 82, 83, 84, 85, 86, 87, 88, 89, 90, 91, 92, 93] rfl (by decide +kernel)
set_option maxRecDepth 20000 in
theorem gX10_sleeper_X10_isSleeper : GoodIn wsX10_sleeper (wsV RX10 325 RX10 yX10_isSleeper wsX10_isSleeper) := goodIn_app (goodIn_of _ (by decide +kernel)) ggX10_sleeper_X10_isSleeper
set_option maxRecDepth 20000 in
theorem ggX10_sleeper_X10_laidFor : GoodIn wsX10_sleeper wsX10_laidFor := goodIn_r _ [18, 19, 20, 21, 22, 23, 24, 25, 26, 27, 28, 29, 30, 31, 32, 33, 34, 35, 36, 37, 38, 39, 40, 41, 42, 43, 44, 45, 46, 47, 48, 49, 50, 51, 52, 53, 54, 55, 56, 57, 58, 59, 60, 61, 62, 63, 64, 65, 66, 67, 68, 69, 70, 71, 72, 73, 74, 75, 76, 77, 78, 79, 80, 81, 82, 83, 84, 85, 86, 87, 88, 89, 90, 91, 92, 93] rfl (by decide +kernel)
set_option maxRecDepth 20000 in
theorem gX10_sleeper_X10_laidFor : GoodIn wsX10_sleeper (wsV RX10 328 RX10 yX10_laidFor wsX10_laidFor) := goodIn_app (goodIn_of _ (by decide +kernel)) ggX10_sleeper_X10_laidFor
theorem dX10_sleeper_0 : decode cX10_sleeper 0 = .ok (.aload_n 0, 1) := by decide +kernel
theorem dX10_sleeper_1 : decode cX10_sleeper 1 = .ok (.iload_n 1, 1) := by decide +kernel
theorem dX10_sleeper_2 : decode cX10_sleeper 2 = .ok (.invokevirtual 325, 3) := by decide +kernel
theorem dX10_sleeper_5 : decode cX10_sleeper 5 = .ok (.ifCond .ne 7, 3) := by decide +kernel
theorem dX10_sleeper_8 : decode cX10_sleeper 8 = .ok (.ldc_w 321, 3) := by decide +kernel
theorem dX10_sleeper_11 : decode cX10_sleeper 11 = .ok (.ireturn, 1) := by decide +kernel
theorem dX10_sleeper_12 : decode cX10_sleeper 12 = .ok (.iload_n 2, 1) := by decide +kernel
theorem dX10_sleeper_13 : decode cX10_sleeper 13 = .ok (.ifCond .ne 12, 3) := by decide +kernel
theorem dX10_sleeper_16 : decode cX10_sleeper 16 = .ok (.aload_n 0, 1) := by decide +kernel
theorem dX10_sleeper_17 : decode cX10_sleeper 17 = .ok (.getfield 16, 3) := by decide +kernel
theorem dX10_sleeper_20 : decode cX10_sleeper 20 = .ok (.iload_n 1, 1) := by decide +kernel
theorem dX10_sleeper_21 : decode cX10_sleeper 21 = .ok (.iaload, 1) := by decide +kernel
theorem dX10_sleeper_22 : decode cX10_sleeper 22 = .ok (.goto 46, 3) := by decide +kernel
theorem dX10_sleeper_25 : decode cX10_sleeper 25 = .ok (.iload_n 2, 1) := by decide +kernel
theorem dX10_sleeper_26 : decode cX10_sleeper 26 = .ok (.iconst 1, 1) := by decide +kernel
theorem dX10_sleeper_27 : decode cX10_sleeper 27 = .ok (.if_icmp .ne 12, 3) := by decide +kernel
theorem dX10_sleeper_30 : decode cX10_sleeper 30 = .ok (.aload_n 0, 1) := by decide +kernel
theorem dX10_sleeper_31 : decode cX10_sleeper 31 = .ok (.getfield 19, 3) := by decide +kernel
theorem dX10_sleeper_34 : decode cX10_sleeper 34 = .ok (.iload_n 1, 1) := by decide +kernel
theorem dX10_sleeper_35 : decode cX10_sleeper 35 = .ok (.iaload, 1) := by decide +kernel
theorem dX10_sleeper_36 : decode cX10_sleeper 36 = .ok (.goto 32, 3) := by decide +kernel
theorem dX10_sleeper_39 : decode cX10_sleeper 39 = .ok (.iload_n 2, 1) := by decide +kernel
theorem dX10_sleeper_40 : decode cX10_sleeper 40 = .ok (.iconst 2, 1) := by decide +kernel
theorem dX10_sleeper_41 : decode cX10_sleeper 41 = .ok (.if_icmp .ne 12, 3) := by decide +kernel
theorem dX10_sleeper_44 : decode cX10_sleeper 44 = .ok (.aload_n 0, 1) := by decide +kernel
theorem dX10_sleeper_45 : decode cX10_sleeper 45 = .ok (.getfield 22, 3) := by decide +kernel
theorem dX10_sleeper_48 : decode cX10_sleeper 48 = .ok (.iload_n 1, 1) := by decide +kernel
theorem dX10_sleeper_49 : decode cX10_sleeper 49 = .ok (.iaload, 1) := by decide +kernel
theorem dX10_sleeper_50 : decode cX10_sleeper 50 = .ok (.goto 18, 3) := by decide +kernel
theorem dX10_sleeper_53 : decode cX10_sleeper 53 = .ok (.iload_n 2, 1) := by decide +kernel
theorem dX10_sleeper_54 : decode cX10_sleeper 54 = .ok (.iconst 3, 1) := by decide +kernel
theorem dX10_sleeper_55 : decode cX10_sleeper 55 = .ok (.if_icmp .ne 11, 3) := by decide +kernel
theorem dX10_sleeper_58 : decode cX10_sleeper 58 = .ok (.aload_n 0, 1) := by decide +kernel
theorem dX10_sleeper_59 : decode cX10_sleeper 59 = .ok (.iload_n 1, 1) := by decide +kernel
theorem dX10_sleeper_60 : decode cX10_sleeper 60 = .ok (.invokevirtual 328, 3) := by decide +kernel
theorem dX10_sleeper_63 : decode cX10_sleeper 63 = .ok (.goto 5, 3) := by decide +kernel
theorem dX10_sleeper_66 : decode cX10_sleeper 66 = .ok (.ldc 186, 2) := by decide +kernel
theorem dX10_sleeper_68 : decode cX10_sleeper 68 = .ok (.ireturn, 1) := by decide +kernel
set_option maxRecDepth 20000 in
theorem ggX10_matter_X10_isMatter : GoodIn wsX10_matter wsX10_isMatter := goodIn_r _ [14, 15, 16, 17, 13, 18, 19, 20, 21, 22, 23, 24, 25, 26, 27, 28, 29, 30, 31, 32, 33, 34, 35, 36, 37, 38, 39, 40, 41, 42, 43, 44, 45, 46, 47, 48, 49, 50, 51, 52, 53, 54, 55, 56, 57, 58, 59, 60, 61, 62, 63, 64, 65, 66, 67, 68, 69, 70, 71, 72, 73, 74, 75, 76, 77, 78, 79, 80, 81, 82, 83, 84, 85, 86, 87, 88, 89, 90, 91] rfl (by decide +kernel)
set_option maxRecDepth 20000 in
theorem gX10_matter_X10_isMatter : GoodIn wsX10_matter (wsV RX10 331 RX10 yX10_isMatter wsX10_isMatter) := goodIn_app (goodIn_of _ (by decide +kernel)) ggX10_matter_X10_isMatter
theorem dX10_matter_0 : decode cX10_matter 0 = .ok (.aload_n 0, 1) := by decide +kernel
theorem dX10_matter_1 : decode cX10_matter 1 = .ok (.iload_n 1, 1) := by decide +kernel
theorem dX10_matter_2 : decode cX10_matter 2 = .ok (.invokevirtual 331, 3) := by decide +kernel
theorem dX10_matter_5 : decode cX10_matter 5 = .ok (.ifCond .ne 7, 3) := by decide +kernel
theorem dX10_matter_8 : decode cX10_matter 8 = .ok (.ldc_w 321, 3) := by decide +kernel
theorem dX10_matter_11 : decode cX10_matter 11 = .ok (.ireturn, 1) := by decide +kernel
theorem dX10_matter_12 : decode cX10_matter 12 = .ok (.iload_n 2, 1) := by decide +kernel
theorem dX10_matter_13 : decode cX10_matter 13 = .ok (.tableswitch 108 0 9 #[55, 55, 55, 55, 66, 73, 80, 87, 94, 101], 55) := by decide +kernel
theorem dX10_matter_68 : decode cX10_matter 68 = .ok (.aload_n 0, 1) := by decide +kernel
theorem dX10_matter_69 : decode cX10_matter 69 = .ok (.getfield 28, 3) := by decide +kernel
theorem dX10_matter_72 : decode cX10_matter 72 = .ok (.iconst 4, 1) := by decide +kernel
theorem dX10_matter_73 : decode cX10_matter 73 = .ok (.iload_n 1, 1) := by decide +kernel
theorem dX10_matter_74 : decode cX10_matter 74 = .ok (.imul, 1) := by decide +kernel
theorem dX10_matter_75 : decode cX10_matter 75 = .ok (.iload_n 2, 1) := by decide +kernel
theorem dX10_matter_76 : decode cX10_matter 76 = .ok (.iadd, 1) := by decide +kernel
theorem dX10_matter_77 : decode cX10_matter 77 = .ok (.iaload, 1) := by decide +kernel
theorem dX10_matter_78 : decode cX10_matter 78 = .ok (.ireturn, 1) := by decide +kernel
theorem dX10_matter_79 : decode cX10_matter 79 = .ok (.aload_n 0, 1) := by decide +kernel
theorem dX10_matter_80 : decode cX10_matter 80 = .ok (.getfield 42, 3) := by decide +kernel
theorem dX10_matter_83 : decode cX10_matter 83 = .ok (.iload_n 1, 1) := by decide +kernel
theorem dX10_matter_84 : decode cX10_matter 84 = .ok (.iaload, 1) := by decide +kernel
theorem dX10_matter_85 : decode cX10_matter 85 = .ok (.ireturn, 1) := by decide +kernel
theorem dX10_matter_86 : decode cX10_matter 86 = .ok (.aload_n 0, 1) := by decide +kernel
theorem dX10_matter_87 : decode cX10_matter 87 = .ok (.getfield 45, 3) := by decide +kernel
theorem dX10_matter_90 : decode cX10_matter 90 = .ok (.iload_n 1, 1) := by decide +kernel
theorem dX10_matter_91 : decode cX10_matter 91 = .ok (.iaload, 1) := by decide +kernel
theorem dX10_matter_92 : decode cX10_matter 92 = .ok (.ireturn, 1) := by decide +kernel
theorem dX10_matter_93 : decode cX10_matter 93 = .ok (.aload_n 0, 1) := by decide +kernel
theorem dX10_matter_94 : decode cX10_matter 94 = .ok (.getfield 48, 3) := by decide +kernel
theorem dX10_matter_97 : decode cX10_matter 97 = .ok (.iload_n 1, 1) := by decide +kernel
theorem dX10_matter_98 : decode cX10_matter 98 = .ok (.iaload, 1) := by decide +kernel
theorem dX10_matter_99 : decode cX10_matter 99 = .ok (.ireturn, 1) := by decide +kernel
theorem dX10_matter_100 : decode cX10_matter 100 = .ok (.aload_n 0, 1) := by decide +kernel
theorem dX10_matter_101 : decode cX10_matter 101 = .ok (.getfield 51, 3) := by decide +kernel
theorem dX10_matter_104 : decode cX10_matter 104 = .ok (.iload_n 1, 1) := by decide +kernel
theorem dX10_matter_105 : decode cX10_matter 105 = .ok (.iaload, 1) := by decide +kernel
theorem dX10_matter_106 : decode cX10_matter 106 = .ok (.ireturn, 1) := by decide +kernel
theorem dX10_matter_107 : decode cX10_matter 107 = .ok (.aload_n 0, 1) := by decide +kernel
theorem dX10_matter_108 : decode cX10_matter 108 = .ok (.getfield 54, 3) := by decide +kernel
theorem dX10_matter_111 : decode cX10_matter 111 = .ok (.iload_n 1, 1) := by decide +kernel
theorem dX10_matter_112 : decode cX10_matter 112 = .ok (.iaload, 1) := by decide +kernel
theorem dX10_matter_113 : decode cX10_matter 113 = .ok (.ireturn, 1) := by decide +kernel
theorem dX10_matter_114 : decode cX10_matter 114 = .ok (.aload_n 0, 1) := by decide +kernel
theorem dX10_matter_115 : decode cX10_matter 115 = .ok (.getfield 57, 3) := by decide +kernel
theorem dX10_matter_118 : decode cX10_matter 118 = .ok (.iload_n 1, 1) := by decide +kernel
theorem dX10_matter_119 : decode cX10_matter 119 = .ok (.iaload, 1) := by decide +kernel
theorem dX10_matter_120 : decode cX10_matter 120 = .ok (.ireturn, 1) := by decide +kernel
theorem dX10_matter_121 : decode cX10_matter 121 = .ok (.ldc 186, 2) := by decide +kernel
theorem dX10_matter_123 : decode cX10_matter 123 = .ok (.ireturn, 1) := by decide +kernel
set_option maxRecDepth 20000 in
theorem ggX10_lay_X10_isMatter : GoodIn wsX10_lay wsX10_isMatter := goodIn_r _ [9, 10, 11, 12, 8, 13, 49, 50, 51, 52, 53, 54, 55, 56, 57, 58, 59, 60, 61, 62, 63, 64, 65, 66, 67, 68, 69, 70, 71, 72, 73, 74, 75, 76, 77, 78, 79, 80, 81, 82, 83, 84, 85, 86, 87, 88, 89, 90, 91, 92, 93, 94, 95, 96, 97, 98, 99, 100, 101, 102, 103, 104, 105, 106, 107, 108, 109, 110, 111, 112, 113, 114, 115, 116, 117, 118, 119, 120, 121] rfl (by decide +kernel)
set_option maxRecDepth 20000 in
theorem gX10_lay_X10_isMatter : GoodIn wsX10_lay (wsV RX10 331 RX10 yX10_isMatter wsX10_isMatter) := goodIn_app (goodIn_of _ (by decide +kernel)) ggX10_lay_X10_isMatter
set_option maxRecDepth 20000 in
theorem ggX10_lay_X10_isSleeper : GoodIn wsX10_lay wsX10_isSleeper := goodIn_r _ [17, 18, 11, 12, 8, 13, 49, 50, 51, 52, 53, 54, 55, 56, 57, 58, 59, 60, 61, 62, 63, 64, 65, 66, 67, 68, 69, 70, 71, 72, 73, 74, 75, 76, 77, 78, 79, 80, 81, 82, 83, 84, 85, 86, 87, 88, 89, 90, 91, 92, 93, 94, 95, 96, 97, 98, 99, 100, 101, 102, 103, 104, 105, 106, 107, 108, 109, 110, 111, 112, 113, 114, 115, 116, 117, 118, 119, 120, 121] rfl (by decide +kernel)
set_option maxRecDepth 20000 in
theorem gX10_lay_X10_isSleeper : GoodIn wsX10_lay (wsV RX10 325 RX10 yX10_isSleeper wsX10_isSleeper) := goodIn_app (goodIn_of _ (by decide +kernel)) ggX10_lay_X10_isSleeper
set_option maxRecDepth 20000 in
theorem ggX10_lay_X10_isHouse : GoodIn wsX10_lay wsX10_isHouse := goodIn_r _ [22, 23, 11, 12, 8, 13, 49, 50, 51, 52, 53, 54, 55, 56, 57, 58, 59, 60, 61, 62, 63, 64, 65, 66, 67, 68, 69, 70, 71, 72, 73, 74, 75, 76, 77, 78, 79, 80, 81, 82, 83, 84, 85, 86, 87, 88, 89, 90, 91, 92, 93, 94, 95, 96, 97, 98, 99, 100, 101, 102, 103, 104, 105, 106, 107, 108, 109, 110, 111, 112, 113, 114, 115, 116, 117, 118, 119, 120, 121] rfl (by decide +kernel)
set_option maxRecDepth 20000 in
theorem gX10_lay_X10_isHouse : GoodIn wsX10_lay (wsV RX10 317 RX10 yX10_isHouse wsX10_isHouse) := goodIn_app (goodIn_of _ (by decide +kernel)) ggX10_lay_X10_isHouse
set_option maxRecDepth 20000 in
theorem ggX10_lay_X10_mayLay : GoodIn wsX10_lay wsX10_mayLay := goodIn_r _ [27, 28, 29, 30, 3, 31, 32, 33, 34, 35, 36, 8, 37, 10, 38, 39, 40, 41, 4, 42, 43, 44, 49, 50, 51, 52, 53, 54, 55, 56, 57, 58, 59, 60, 61, 62, 63, 64, 65, 66, 67, 68, 69, 70, 71, 72, 73, 74, 75, 76, 77, 78, 79, 80, 81, 82, 83, 84, 85, 86, 87, 88, 89, 90, 91, 92, 93, 94, 95, 96, 97, 98, 99, 100, 101, 102, 103, 104, 105, 106, 107, 108, 109, 110, 111, 112, 113, 114, 115, 116, 117, 118, 119, 120, 121] rfl (by decide +kernel)
set_option maxRecDepth 20000 in
theorem gX10_lay_X10_mayLay : GoodIn wsX10_lay (wsV RX10 345 RX10 yX10_mayLay wsX10_mayLay) := goodIn_app (goodIn_of _ (by decide +kernel)) ggX10_lay_X10_mayLay
set_option maxRecDepth 20000 in
theorem ggX10_lay_X10_laidMany : GoodIn wsX10_lay wsX10_laidMany := goodIn_r _ [48, 10, 3, 49, 50, 51, 52, 53, 54, 55, 56, 57, 58, 59, 60, 61, 62, 63, 64, 65, 66, 67, 68, 69, 70, 71, 72, 73, 74, 75, 76, 77, 78, 79, 80, 81, 82, 83, 84, 85, 86, 87, 88, 89, 90, 91, 92, 93, 94, 95, 96, 97, 98, 99, 100, 101, 102, 103, 104, 105, 106, 107, 108, 109, 110, 111, 112, 113, 114, 115, 116, 117, 118, 119, 120, 121] rfl (by decide +kernel)
set_option maxRecDepth 20000 in
theorem gX10_lay_X10_laidMany : GoodIn wsX10_lay (wsV RX10 349 RX10 yX10_laidMany wsX10_laidMany) := goodIn_app (goodIn_of _ (by decide +kernel)) ggX10_lay_X10_laidMany
theorem dX10_lay_0 : decode cX10_lay 0 = .ok (.aload_n 0, 1) := by decide +kernel
theorem dX10_lay_1 : decode cX10_lay 1 = .ok (.iload_n 1, 1) := by decide +kernel
theorem dX10_lay_2 : decode cX10_lay 2 = .ok (.invokevirtual 331, 3) := by decide +kernel
theorem dX10_lay_5 : decode cX10_lay 5 = .ok (.ifCond .eq 19, 3) := by decide +kernel
theorem dX10_lay_8 : decode cX10_lay 8 = .ok (.aload_n 0, 1) := by decide +kernel
theorem dX10_lay_9 : decode cX10_lay 9 = .ok (.iload_n 2, 1) := by decide +kernel
theorem dX10_lay_10 : decode cX10_lay 10 = .ok (.invokevirtual 325, 3) := by decide +kernel
theorem dX10_lay_13 : decode cX10_lay 13 = .ok (.ifCond .eq 11, 3) := by decide +kernel
theorem dX10_lay_16 : decode cX10_lay 16 = .ok (.aload_n 0, 1) := by decide +kernel
theorem dX10_lay_17 : decode cX10_lay 17 = .ok (.iload_n 3, 1) := by decide +kernel
theorem dX10_lay_18 : decode cX10_lay 18 = .ok (.invokevirtual 317, 3) := by decide +kernel
theorem dX10_lay_21 : decode cX10_lay 21 = .ok (.ifCond .ne 7, 3) := by decide +kernel
theorem dX10_lay_24 : decode cX10_lay 24 = .ok (.ldc_w 321, 3) := by decide +kernel
theorem dX10_lay_27 : decode cX10_lay 27 = .ok (.ireturn, 1) := by decide +kernel
theorem dX10_lay_28 : decode cX10_lay 28 = .ok (.aload_n 0, 1) := by decide +kernel
theorem dX10_lay_29 : decode cX10_lay 29 = .ok (.iload_n 1, 1) := by decide +kernel
theorem dX10_lay_30 : decode cX10_lay 30 = .ok (.iload_n 2, 1) := by decide +kernel
theorem dX10_lay_31 : decode cX10_lay 31 = .ok (.iload_n 3, 1) := by decide +kernel
theorem dX10_lay_32 : decode cX10_lay 32 = .ok (.invokevirtual 345, 3) := by decide +kernel
theorem dX10_lay_35 : decode cX10_lay 35 = .ok (.ifCond .ne 7, 3) := by decide +kernel
theorem dX10_lay_38 : decode cX10_lay 38 = .ok (.ldc_w 304, 3) := by decide +kernel
theorem dX10_lay_41 : decode cX10_lay 41 = .ok (.ireturn, 1) := by decide +kernel
theorem dX10_lay_42 : decode cX10_lay 42 = .ok (.aload_n 0, 1) := by decide +kernel
theorem dX10_lay_43 : decode cX10_lay 43 = .ok (.getfield 60, 3) := by decide +kernel
theorem dX10_lay_46 : decode cX10_lay 46 = .ok (.iload_n 1, 1) := by decide +kernel
theorem dX10_lay_47 : decode cX10_lay 47 = .ok (.iload_n 2, 1) := by decide +kernel
theorem dX10_lay_48 : decode cX10_lay 48 = .ok (.iastore, 1) := by decide +kernel
theorem dX10_lay_49 : decode cX10_lay 49 = .ok (.aload_n 0, 1) := by decide +kernel
theorem dX10_lay_50 : decode cX10_lay 50 = .ok (.getfield 63, 3) := by decide +kernel
theorem dX10_lay_53 : decode cX10_lay 53 = .ok (.iload_n 1, 1) := by decide +kernel
theorem dX10_lay_54 : decode cX10_lay 54 = .ok (.iload_n 3, 1) := by decide +kernel
theorem dX10_lay_55 : decode cX10_lay 55 = .ok (.iastore, 1) := by decide +kernel
theorem dX10_lay_56 : decode cX10_lay 56 = .ok (.aload_n 0, 1) := by decide +kernel
theorem dX10_lay_57 : decode cX10_lay 57 = .ok (.invokevirtual 349, 3) := by decide +kernel
theorem dX10_lay_60 : decode cX10_lay 60 = .ok (.ireturn, 1) := by decide +kernel
set_option maxRecDepth 20000 in
theorem ggX10_rise_X10_isMatter : GoodIn wsX10_rise wsX10_isMatter := goodIn_r _ [8, 9, 10, 11, 7, 12, 13, 14, 15, 16, 17, 18, 19, 20, 21, 22, 23, 24, 25, 26, 27, 28, 29, 30, 31, 32, 33, 34, 35, 36, 37, 38, 39, 40, 41, 42, 43, 44, 45, 46, 47, 48, 49, 50, 51, 52, 53, 54, 55, 56, 57, 58, 59, 60, 61, 62, 63, 64, 65, 66, 67, 68, 69, 70, 71, 72, 73, 74, 75, 76, 77, 78, 79, 80, 81, 82, 83, 84, 85] rfl (by decide +kernel)
set_option maxRecDepth 20000 in
theorem gX10_rise_X10_isMatter : GoodIn wsX10_rise (wsV RX10 331 RX10 yX10_isMatter wsX10_isMatter) := goodIn_app (goodIn_of _ (by decide +kernel)) ggX10_rise_X10_isMatter
theorem dX10_rise_0 : decode cX10_rise 0 = .ok (.aload_n 0, 1) := by decide +kernel
theorem dX10_rise_1 : decode cX10_rise 1 = .ok (.iload_n 1, 1) := by decide +kernel
theorem dX10_rise_2 : decode cX10_rise 2 = .ok (.invokevirtual 331, 3) := by decide +kernel
theorem dX10_rise_5 : decode cX10_rise 5 = .ok (.ifCond .ne 7, 3) := by decide +kernel
theorem dX10_rise_8 : decode cX10_rise 8 = .ok (.ldc_w 321, 3) := by decide +kernel
theorem dX10_rise_11 : decode cX10_rise 11 = .ok (.ireturn, 1) := by decide +kernel
theorem dX10_rise_12 : decode cX10_rise 12 = .ok (.aload_n 0, 1) := by decide +kernel
theorem dX10_rise_13 : decode cX10_rise 13 = .ok (.getfield 60, 3) := by decide +kernel
theorem dX10_rise_16 : decode cX10_rise 16 = .ok (.iload_n 1, 1) := by decide +kernel
theorem dX10_rise_17 : decode cX10_rise 17 = .ok (.iaload, 1) := by decide +kernel
theorem dX10_rise_18 : decode cX10_rise 18 = .ok (.ifCond .ge 7, 3) := by decide +kernel
theorem dX10_rise_21 : decode cX10_rise 21 = .ok (.ldc_w 304, 3) := by decide +kernel
theorem dX10_rise_24 : decode cX10_rise 24 = .ok (.ireturn, 1) := by decide +kernel
theorem dX10_rise_25 : decode cX10_rise 25 = .ok (.aload_n 0, 1) := by decide +kernel
theorem dX10_rise_26 : decode cX10_rise 26 = .ok (.getfield 60, 3) := by decide +kernel
theorem dX10_rise_29 : decode cX10_rise 29 = .ok (.iload_n 1, 1) := by decide +kernel
theorem dX10_rise_30 : decode cX10_rise 30 = .ok (.iaload, 1) := by decide +kernel
theorem dX10_rise_31 : decode cX10_rise 31 = .ok (.istore_n 2, 1) := by decide +kernel
theorem dX10_rise_32 : decode cX10_rise 32 = .ok (.aload_n 0, 1) := by decide +kernel
theorem dX10_rise_33 : decode cX10_rise 33 = .ok (.getfield 60, 3) := by decide +kernel
theorem dX10_rise_36 : decode cX10_rise 36 = .ok (.iload_n 1, 1) := by decide +kernel
theorem dX10_rise_37 : decode cX10_rise 37 = .ok (.iconst (-1), 1) := by decide +kernel
theorem dX10_rise_38 : decode cX10_rise 38 = .ok (.iastore, 1) := by decide +kernel
theorem dX10_rise_39 : decode cX10_rise 39 = .ok (.iload_n 2, 1) := by decide +kernel
theorem dX10_rise_40 : decode cX10_rise 40 = .ok (.ireturn, 1) := by decide +kernel
set_option maxRecDepth 20000 in
theorem ggX10_soonest_X10_isMatter : GoodIn wsX10_soonest wsX10_isMatter := goodIn_r _ [9, 10, 11, 12, 8, 13, 81, 82, 83, 84, 85, 86, 87, 88, 89, 90, 91, 92, 93, 94, 95, 96, 97, 98, 99, 100, 101, 102, 103, 104, 105, 106, 107, 108, 109, 110, 111, 112, 113, 114, 115, 116, 117, 118, 119, 120, 121, 122, 123, 124, 125, 126, 127, 128, 129, 130, 131, 132, 133, 134, 135, 136, 137, 138, 139, 140, 141, 142, 143, 144, 145, 146, 147, 148, 149, 150, 151, 152, 153] rfl (by decide +kernel)
set_option maxRecDepth 20000 in
theorem gX10_soonest_X10_isMatter : GoodIn wsX10_soonest (wsV RX10 331 RX10 yX10_isMatter wsX10_isMatter) := goodIn_app (goodIn_of _ (by decide +kernel)) ggX10_soonest_X10_isMatter
set_option maxRecDepth 20000 in
theorem ggX10_soonest_X10_freeAll : GoodIn wsX10_soonest wsX10_freeAll := goodIn_r _ [17, 18, 19, 81, 82, 83, 84, 85, 86, 87, 88, 89, 90, 91, 92, 93, 94, 95, 96, 97, 98, 99, 100, 101, 102, 103, 104, 105, 106, 107, 108, 109, 110, 111, 112, 113, 114, 115, 116, 117, 118, 119, 120, 121, 122, 123, 124, 125, 126, 127, 128, 129, 130, 131, 132, 133, 134, 135, 136, 137, 138, 139, 140, 141, 142, 143, 144, 145, 146, 147, 148, 149, 150, 151, 152, 153] rfl (by decide +kernel)
set_option maxRecDepth 20000 in
theorem gX10_soonest_X10_freeAll : GoodIn wsX10_soonest (wsV RX10 417 RX10 yX10_freeAll wsX10_freeAll) := goodIn_app (goodIn_of _ (by decide +kernel)) ggX10_soonest_X10_freeAll
set_option maxRecDepth 20000 in
theorem ggX10_soonest_X10_soonestBegin : GoodIn wsX10_soonest wsX10_soonestBegin := goodIn_r _ [23, 24, 25, 26, 27, 28, 8, 29, 30, 31, 32, 33, 34, 35, 36, 37, 38, 39, 40, 41, 42, 43, 44, 45, 46, 47, 48, 49, 50, 18, 19, 51, 52, 53, 54, 55, 56, 57, 58, 59, 60, 61, 62, 63, 11, 12, 13, 64, 65, 66, 67, 68, 69, 70, 71, 72, 81, 82, 83, 84, 85, 86, 87, 88, 89, 90, 91, 92, 93, 94, 95, 96, 97, 98, 99, 100, 101, 102, 103, 104, 105, 106, 107, 108, 109, 110, 111, 112, 113, 114, 115, 116, 117, 118, 119, 120, 121, 122, 123, 124, 125, 126, 127, 128, 129, 130, 131, 132, 133, 134, 135, 136, 137, 138, 139, 140, 141, 142, 143, 144, 145, 146, 147, 148, 149, 150, 151, 152, 153] rfl (by decide +kernel)
set_option maxRecDepth 20000 in
theorem gX10_soonest_X10_soonestBegin : GoodIn wsX10_soonest (wsV RX10 420 RX10 yX10_soonestBegin wsX10_soonestBegin) := goodIn_app (goodIn_of _ (by decide +kernel)) ggX10_soonest_X10_soonestBegin
set_option maxRecDepth 20000 in
theorem ggX10_soonest_X10_in : GoodIn wsX10_soonest wsX10_in := goodIn_r _ [13] rfl (by decide +kernel)
set_option maxRecDepth 20000 in
theorem gX10_soonest_X10_in : GoodIn wsX10_soonest (va_wsS RX10 168 yX10_in wsX10_in) := goodIn_app (goodIn_of _ (by decide +kernel)) ggX10_soonest_X10_in
set_option maxRecDepth 20000 in
theorem ggX10_soonest_X10_findRow : GoodIn wsX10_soonest wsX10_findRow := goodIn_r _ [76, 25, 3, 4, 44, 45, 8, 46, 77, 78, 79, 80, 37, 39, 47, 48, 49, 50, 18, 19, 51, 52, 53, 54, 55, 56, 57, 58, 59, 60, 61, 62, 63, 11, 12, 13, 81, 82, 83, 84, 85, 86, 87, 88, 89, 90, 91, 92, 93, 94, 95, 96, 97, 98, 99, 100, 101, 102, 103, 104, 105, 106, 107, 108, 109, 110, 111, 112, 113, 114, 115, 116, 117, 118, 119, 120, 121, 122, 123, 124, 125, 126, 127, 128, 129, 130, 131, 132, 133, 134, 135, 136, 137, 138, 139, 140, 141, 142, 143, 144, 145, 146, 147, 148, 149, 150, 151, 152, 153] rfl (by decide +kernel)
set_option maxRecDepth 20000 in
theorem gX10_soonest_X10_findRow : GoodIn wsX10_soonest (wsV RX10 424 RX10 yX10_findRow wsX10_findRow) := goodIn_app (goodIn_of _ (by decide +kernel)) ggX10_soonest_X10_findRow
theorem dX10_soonest_0 : decode cX10_soonest 0 = .ok (.aload_n 0, 1) := by decide +kernel
theorem dX10_soonest_1 : decode cX10_soonest 1 = .ok (.iload_n 1, 1) := by decide +kernel
theorem dX10_soonest_2 : decode cX10_soonest 2 = .ok (.invokevirtual 331, 3) := by decide +kernel
theorem dX10_soonest_5 : decode cX10_soonest 5 = .ok (.ifCond .ne 7, 3) := by decide +kernel
theorem dX10_soonest_8 : decode cX10_soonest 8 = .ok (.ldc_w 321, 3) := by decide +kernel
theorem dX10_soonest_11 : decode cX10_soonest 11 = .ok (.ireturn, 1) := by decide +kernel
theorem dX10_soonest_12 : decode cX10_soonest 12 = .ok (.aload_n 0, 1) := by decide +kernel
theorem dX10_soonest_13 : decode cX10_soonest 13 = .ok (.invokevirtual 417, 3) := by decide +kernel
theorem dX10_soonest_16 : decode cX10_soonest 16 = .ok (.aload_n 0, 1) := by decide +kernel
theorem dX10_soonest_17 : decode cX10_soonest 17 = .ok (.iload_n 1, 1) := by decide +kernel
theorem dX10_soonest_18 : decode cX10_soonest 18 = .ok (.aload_n 0, 1) := by decide +kernel
theorem dX10_soonest_19 : decode cX10_soonest 19 = .ok (.getfield 31, 3) := by decide +kernel
theorem dX10_soonest_22 : decode cX10_soonest 22 = .ok (.bipush 99, 2) := by decide +kernel
theorem dX10_soonest_24 : decode cX10_soonest 24 = .ok (.invokevirtual 420, 3) := by decide +kernel
theorem dX10_soonest_27 : decode cX10_soonest 27 = .ok (.istore_n 3, 1) := by decide +kernel
theorem dX10_soonest_28 : decode cX10_soonest 28 = .ok (.iload_n 3, 1) := by decide +kernel
theorem dX10_soonest_29 : decode cX10_soonest 29 = .ok (.ifCond .lt 8, 3) := by decide +kernel
theorem dX10_soonest_32 : decode cX10_soonest 32 = .ok (.iload_n 2, 1) := by decide +kernel
theorem dX10_soonest_33 : decode cX10_soonest 33 = .ok (.iconst (-1), 1) := by decide +kernel
theorem dX10_soonest_34 : decode cX10_soonest 34 = .ok (.if_icmp .ne 20, 3) := by decide +kernel
theorem dX10_soonest_37 : decode cX10_soonest 37 = .ok (.iload_n 3, 1) := by decide +kernel
theorem dX10_soonest_38 : decode cX10_soonest 38 = .ok (.ifCond .ge 7, 3) := by decide +kernel
theorem dX10_soonest_41 : decode cX10_soonest 41 = .ok (.iconst (-1), 1) := by decide +kernel
theorem dX10_soonest_42 : decode cX10_soonest 42 = .ok (.goto 11, 3) := by decide +kernel
theorem dX10_soonest_45 : decode cX10_soonest 45 = .ok (.iload_n 3, 1) := by decide +kernel
theorem dX10_soonest_46 : decode cX10_soonest 46 = .ok (.aload_n 0, 1) := by decide +kernel
theorem dX10_soonest_47 : decode cX10_soonest 47 = .ok (.getfield 31, 3) := by decide +kernel
theorem dX10_soonest_50 : decode cX10_soonest 50 = .ok (.iadd, 1) := by decide +kernel
theorem dX10_soonest_51 : decode cX10_soonest 51 = .ok (.iconst 1, 1) := by decide +kernel
theorem dX10_soonest_52 : decode cX10_soonest 52 = .ok (.isub, 1) := by decide +kernel
theorem dX10_soonest_53 : decode cX10_soonest 53 = .ok (.ireturn, 1) := by decide +kernel
theorem dX10_soonest_54 : decode cX10_soonest 54 = .ok (.iload_n 2, 1) := by decide +kernel
theorem dX10_soonest_55 : decode cX10_soonest 55 = .ok (.i2l, 1) := by decide +kernel
theorem dX10_soonest_56 : decode cX10_soonest 56 = .ok (.lconst 0, 1) := by decide +kernel
theorem dX10_soonest_57 : decode cX10_soonest 57 = .ok (.iconst 2, 1) := by decide +kernel
theorem dX10_soonest_58 : decode cX10_soonest 58 = .ok (.aload_n 0, 1) := by decide +kernel
theorem dX10_soonest_59 : decode cX10_soonest 59 = .ok (.getfield 31, 3) := by decide +kernel
theorem dX10_soonest_62 : decode cX10_soonest 62 = .ok (.imul, 1) := by decide +kernel
theorem dX10_soonest_63 : decode cX10_soonest 63 = .ok (.iconst 1, 1) := by decide +kernel
theorem dX10_soonest_64 : decode cX10_soonest 64 = .ok (.isub, 1) := by decide +kernel
theorem dX10_soonest_65 : decode cX10_soonest 65 = .ok (.i2l, 1) := by decide +kernel
theorem dX10_soonest_66 : decode cX10_soonest 66 = .ok (.invokestatic 168, 3) := by decide +kernel
theorem dX10_soonest_69 : decode cX10_soonest 69 = .ok (.ifCond .ne 5, 3) := by decide +kernel
theorem dX10_soonest_72 : decode cX10_soonest 72 = .ok (.iconst (-1), 1) := by decide +kernel
theorem dX10_soonest_73 : decode cX10_soonest 73 = .ok (.ireturn, 1) := by decide +kernel
theorem dX10_soonest_74 : decode cX10_soonest 74 = .ok (.aload_n 0, 1) := by decide +kernel
theorem dX10_soonest_75 : decode cX10_soonest 75 = .ok (.iload_n 3, 1) := by decide +kernel
theorem dX10_soonest_76 : decode cX10_soonest 76 = .ok (.aload_n 0, 1) := by decide +kernel
theorem dX10_soonest_77 : decode cX10_soonest 77 = .ok (.getfield 31, 3) := by decide +kernel
theorem dX10_soonest_80 : decode cX10_soonest 80 = .ok (.invokevirtual 424, 3) := by decide +kernel
theorem dX10_soonest_83 : decode cX10_soonest 83 = .ok (.iload_n 2, 1) := by decide +kernel
theorem dX10_soonest_84 : decode cX10_soonest 84 = .ok (.iconst 2, 1) := by decide +kernel
theorem dX10_soonest_85 : decode cX10_soonest 85 = .ok (.irem, 1) := by decide +kernel
theorem dX10_soonest_86 : decode cX10_soonest 86 = .ok (.ifCond .ne 14, 3) := by decide +kernel
theorem dX10_soonest_89 : decode cX10_soonest 89 = .ok (.aload_n 0, 1) := by decide +kernel
theorem dX10_soonest_90 : decode cX10_soonest 90 = .ok (.getfield 112, 3) := by decide +kernel
theorem dX10_soonest_93 : decode cX10_soonest 93 = .ok (.iload_n 2, 1) := by decide +kernel
theorem dX10_soonest_94 : decode cX10_soonest 94 = .ok (.iconst 2, 1) := by decide +kernel
theorem dX10_soonest_95 : decode cX10_soonest 95 = .ok (.idiv, 1) := by decide +kernel
theorem dX10_soonest_96 : decode cX10_soonest 96 = .ok (.iaload, 1) := by decide +kernel
theorem dX10_soonest_97 : decode cX10_soonest 97 = .ok (.goto 11, 3) := by decide +kernel
theorem dX10_soonest_100 : decode cX10_soonest 100 = .ok (.aload_n 0, 1) := by decide +kernel
theorem dX10_soonest_101 : decode cX10_soonest 101 = .ok (.getfield 115, 3) := by decide +kernel
theorem dX10_soonest_104 : decode cX10_soonest 104 = .ok (.iload_n 2, 1) := by decide +kernel
theorem dX10_soonest_105 : decode cX10_soonest 105 = .ok (.iconst 2, 1) := by decide +kernel
theorem dX10_soonest_106 : decode cX10_soonest 106 = .ok (.idiv, 1) := by decide +kernel
theorem dX10_soonest_107 : decode cX10_soonest 107 = .ok (.iaload, 1) := by decide +kernel
theorem dX10_soonest_108 : decode cX10_soonest 108 = .ok (.ireturn, 1) := by decide +kernel
set_option maxRecDepth 20000 in
theorem ggX10_bestOf_X10_isMatter : GoodIn wsX10_bestOf wsX10_isMatter := goodIn_r _ [11, 12, 13, 14, 10, 15, 94, 95, 96, 97, 98, 99, 100, 101, 102, 103, 104, 105, 106, 107, 108, 109, 110, 111, 112, 113, 114, 115, 116, 117, 118, 119, 120, 121, 122, 123, 124, 125, 126, 127, 128, 129, 130, 131, 132, 133, 134, 135, 136, 137, 138, 139, 140, 141, 142, 143, 144, 145, 146, 147, 148, 149, 150, 151, 152, 153, 154, 155, 156, 157, 158, 159, 160, 161, 162, 163, 164, 165, 166] rfl (by decide +kernel)
set_option maxRecDepth 20000 in
theorem gX10_bestOf_X10_isMatter : GoodIn wsX10_bestOf (wsV RX10 331 RX10 yX10_isMatter wsX10_isMatter) := goodIn_app (goodIn_of _ (by decide +kernel)) ggX10_bestOf_X10_isMatter
set_option maxRecDepth 20000 in
theorem ggX10_bestOf_X10_in : GoodIn wsX10_bestOf wsX10_in := goodIn_r _ [15] rfl (by decide +kernel)
set_option maxRecDepth 20000 in
theorem gX10_bestOf_X10_in : GoodIn wsX10_bestOf (va_wsS RX10 168 yX10_in wsX10_in) := goodIn_app (goodIn_of _ (by decide +kernel)) ggX10_bestOf_X10_in
set_option maxRecDepth 20000 in
theorem ggX10_bestOf_X10_findBest : GoodIn wsX10_bestOf wsX10_findBest := goodIn_r _ [19, 4, 20, 21, 22, 5, 6, 23, 24, 25, 10, 26, 27, 28, 29, 30, 31, 32, 33, 34, 35, 36, 37, 38, 39, 40, 41, 42, 43, 44, 45, 46, 47, 48, 49, 50, 51, 52, 53, 54, 55, 56, 57, 58, 59, 60, 61, 62, 63, 64, 65, 66, 13, 14, 15, 67, 68, 69, 70, 71, 72, 73, 74, 75, 76, 77, 78, 79, 80, 81, 82, 83, 84, 85, 86, 87, 88, 89, 90, 91, 92, 93, 94, 95, 96, 97, 98, 99, 100, 101, 102, 103, 104, 105, 106, 107, 108, 109, 110, 111, 112, 113, 114, 115, 116, 117, 118, 119, 120, 121, 122, 123, 124, 125, 126, 127, 128, 129, 130, 131, 132, 133, 134, 135, 136, 137, 138, 139, 140, 141, 142, 143, 144, 145, 146, 147, 148, 149, 150, 151, 152, 153, 154, 155, 156, 157, 158, 159, 160, 161, 162, 163, 164, 165, 166] rfl (by decide +kernel)
set_option maxRecDepth 20000 in
theorem gX10_bestOf_X10_findBest : GoodIn wsX10_bestOf (wsV RX10 451 RX10 yX10_findBest wsX10_findBest) := goodIn_app (goodIn_of _ (by decide +kernel)) ggX10_bestOf_X10_findBest
theorem dX10_bestOf_0 : decode cX10_bestOf 0 = .ok (.aload_n 0, 1) := by decide +kernel
theorem dX10_bestOf_1 : decode cX10_bestOf 1 = .ok (.iload_n 1, 1) := by decide +kernel
theorem dX10_bestOf_2 : decode cX10_bestOf 2 = .ok (.invokevirtual 331, 3) := by decide +kernel
theorem dX10_bestOf_5 : decode cX10_bestOf 5 = .ok (.ifCond .ne 7, 3) := by decide +kernel
theorem dX10_bestOf_8 : decode cX10_bestOf 8 = .ok (.ldc_w 321, 3) := by decide +kernel
theorem dX10_bestOf_11 : decode cX10_bestOf 11 = .ok (.ireturn, 1) := by decide +kernel
theorem dX10_bestOf_12 : decode cX10_bestOf 12 = .ok (.iload_n 2, 1) := by decide +kernel
theorem dX10_bestOf_13 : decode cX10_bestOf 13 = .ok (.i2l, 1) := by decide +kernel
theorem dX10_bestOf_14 : decode cX10_bestOf 14 = .ok (.lconst 0, 1) := by decide +kernel
theorem dX10_bestOf_15 : decode cX10_bestOf 15 = .ok (.ldc2_w 449, 3) := by decide +kernel
theorem dX10_bestOf_18 : decode cX10_bestOf 18 = .ok (.invokestatic 168, 3) := by decide +kernel
theorem dX10_bestOf_21 : decode cX10_bestOf 21 = .ok (.ifCond .ne 6, 3) := by decide +kernel
theorem dX10_bestOf_24 : decode cX10_bestOf 24 = .ok (.ldc 186, 2) := by decide +kernel
theorem dX10_bestOf_26 : decode cX10_bestOf 26 = .ok (.ireturn, 1) := by decide +kernel
theorem dX10_bestOf_27 : decode cX10_bestOf 27 = .ok (.aload_n 0, 1) := by decide +kernel
theorem dX10_bestOf_28 : decode cX10_bestOf 28 = .ok (.iload_n 1, 1) := by decide +kernel
theorem dX10_bestOf_29 : decode cX10_bestOf 29 = .ok (.iload_n 3, 1) := by decide +kernel
theorem dX10_bestOf_30 : decode cX10_bestOf 30 = .ok (.invokevirtual 451, 3) := by decide +kernel
theorem dX10_bestOf_33 : decode cX10_bestOf 33 = .ok (.aload_n 0, 1) := by decide +kernel
theorem dX10_bestOf_34 : decode cX10_bestOf 34 = .ok (.getfield 431, 3) := by decide +kernel
theorem dX10_bestOf_37 : decode cX10_bestOf 37 = .ok (.ifCond .ge 7, 3) := by decide +kernel
theorem dX10_bestOf_40 : decode cX10_bestOf 40 = .ok (.iconst (-1), 1) := by decide +kernel
theorem dX10_bestOf_41 : decode cX10_bestOf 41 = .ok (.goto 42, 3) := by decide +kernel
theorem dX10_bestOf_44 : decode cX10_bestOf 44 = .ok (.iload_n 2, 1) := by decide +kernel
theorem dX10_bestOf_45 : decode cX10_bestOf 45 = .ok (.ifCond .ne 22, 3) := by decide +kernel
theorem dX10_bestOf_48 : decode cX10_bestOf 48 = .ok (.iload_n 3, 1) := by decide +kernel
theorem dX10_bestOf_49 : decode cX10_bestOf 49 = .ok (.ifCond .eq 11, 3) := by decide +kernel
theorem dX10_bestOf_52 : decode cX10_bestOf 52 = .ok (.aload_n 0, 1) := by decide +kernel
theorem dX10_bestOf_53 : decode cX10_bestOf 53 = .ok (.getfield 443, 3) := by decide +kernel
theorem dX10_bestOf_56 : decode cX10_bestOf 56 = .ok (.ineg, 1) := by decide +kernel
theorem dX10_bestOf_57 : decode cX10_bestOf 57 = .ok (.goto 26, 3) := by decide +kernel
theorem dX10_bestOf_60 : decode cX10_bestOf 60 = .ok (.aload_n 0, 1) := by decide +kernel
theorem dX10_bestOf_61 : decode cX10_bestOf 61 = .ok (.getfield 443, 3) := by decide +kernel
theorem dX10_bestOf_64 : decode cX10_bestOf 64 = .ok (.goto 19, 3) := by decide +kernel
theorem dX10_bestOf_67 : decode cX10_bestOf 67 = .ok (.iload_n 2, 1) := by decide +kernel
theorem dX10_bestOf_68 : decode cX10_bestOf 68 = .ok (.iconst 1, 1) := by decide +kernel
theorem dX10_bestOf_69 : decode cX10_bestOf 69 = .ok (.if_icmp .ne 10, 3) := by decide +kernel
theorem dX10_bestOf_72 : decode cX10_bestOf 72 = .ok (.aload_n 0, 1) := by decide +kernel
theorem dX10_bestOf_73 : decode cX10_bestOf 73 = .ok (.getfield 431, 3) := by decide +kernel
theorem dX10_bestOf_76 : decode cX10_bestOf 76 = .ok (.goto 7, 3) := by decide +kernel
theorem dX10_bestOf_79 : decode cX10_bestOf 79 = .ok (.aload_n 0, 1) := by decide +kernel
theorem dX10_bestOf_80 : decode cX10_bestOf 80 = .ok (.getfield 446, 3) := by decide +kernel
theorem dX10_bestOf_83 : decode cX10_bestOf 83 = .ok (.ireturn, 1) := by decide +kernel
set_option maxRecDepth 20000 in
theorem ggX10_cheapest_X10_bestOf : GoodIn wsX10_cheapest wsX10_bestOf := goodIn_r _ [5, 6, 7, 8, 9, 10, 11, 12, 13, 14, 4, 15, 16, 17, 18, 19, 20, 21, 22, 23, 24, 25, 26, 27, 28, 29, 30, 31, 32, 33, 34, 35, 36, 37, 38, 39, 40, 41, 42, 43, 44, 45, 46, 47, 48, 49, 50, 51, 52, 53, 54, 55, 56, 57, 58, 59, 60, 61, 62, 63, 64, 65, 66, 67, 68, 69, 70, 71, 72, 73, 74, 75, 76, 77, 78, 79, 80, 81, 82, 83, 84, 85, 86, 87, 88, 89, 90, 91, 92, 93, 94, 95, 96, 97, 98, 99, 100, 101, 102, 103, 104, 105, 106, 107, 108, 109, 110, 111, 112, 113, 114, 115, 116, 117, 118, 119, 120, 121, 122, 123, 124, 125, 126, 127, 128, 129, 130, 131, 132, 133, 134, 135, 136, 137, 138, 139, 140, 141, 142, 143, 144, 145, 146, 147, 148, 149, 150, 151, 152, 153, 154, 155, 156, 157, 158, 159, 160, 161, 162, 163, 164, 165, 166, 167, 168, 169, 170] rfl (by decide +kernel)
set_option maxRecDepth 20000 in
theorem gX10_cheapest_X10_bestOf : GoodIn wsX10_cheapest (wsV RX10 455 RX10 yX10_bestOf wsX10_bestOf) := goodIn_app (goodIn_of _ (by decide +kernel)) ggX10_cheapest_X10_bestOf
theorem dX10_cheapest_0 : decode cX10_cheapest 0 = .ok (.aload_n 0, 1) := by decide +kernel
theorem dX10_cheapest_1 : decode cX10_cheapest 1 = .ok (.iload_n 1, 1) := by decide +kernel
theorem dX10_cheapest_2 : decode cX10_cheapest 2 = .ok (.iload_n 2, 1) := by decide +kernel
theorem dX10_cheapest_3 : decode cX10_cheapest 3 = .ok (.iconst 1, 1) := by decide +kernel
theorem dX10_cheapest_4 : decode cX10_cheapest 4 = .ok (.invokevirtual 455, 3) := by decide +kernel
theorem dX10_cheapest_7 : decode cX10_cheapest 7 = .ok (.ireturn, 1) := by decide +kernel
set_option maxRecDepth 20000 in
theorem ggX10_likeliest_X10_bestOf : GoodIn wsX10_likeliest wsX10_bestOf := goodIn_r _ [5, 6, 7, 8, 9, 10, 11, 12, 13, 14, 4, 15, 16, 17, 18, 19, 20, 21, 22, 23, 24, 25, 26, 27, 28, 29, 30, 31, 32, 33, 34, 35, 36, 37, 38, 39, 40, 41, 42, 43, 44, 45, 46, 47, 48, 49, 50, 51, 52, 53, 54, 55, 56, 57, 58, 59, 60, 61, 62, 63, 64, 65, 66, 67, 68, 69, 70, 71, 72, 73, 74, 75, 76, 77, 78, 79, 80, 81, 82, 83, 84, 85, 86, 87, 88, 89, 90, 91, 92, 93, 94, 95, 96, 97, 98, 99, 100, 101, 102, 103, 104, 105, 106, 107, 108, 109, 110, 111, 112, 113, 114, 115, 116, 117, 118, 119, 120, 121, 122, 123, 124, 125, 126, 127, 128, 129, 130, 131, 132, 133, 134, 135, 136, 137, 138, 139, 140, 141, 142, 143, 144, 145, 146, 147, 148, 149, 150, 151, 152, 153, 154, 155, 156, 157, 158, 159, 160, 161, 162, 163, 164, 165, 166, 167, 168, 169, 170] rfl (by decide +kernel)
set_option maxRecDepth 20000 in
theorem gX10_likeliest_X10_bestOf : GoodIn wsX10_likeliest (wsV RX10 455 RX10 yX10_bestOf wsX10_bestOf) := goodIn_app (goodIn_of _ (by decide +kernel)) ggX10_likeliest_X10_bestOf
theorem dX10_likeliest_0 : decode cX10_likeliest 0 = .ok (.aload_n 0, 1) := by decide +kernel
theorem dX10_likeliest_1 : decode cX10_likeliest 1 = .ok (.iload_n 1, 1) := by decide +kernel
theorem dX10_likeliest_2 : decode cX10_likeliest 2 = .ok (.iload_n 2, 1) := by decide +kernel
theorem dX10_likeliest_3 : decode cX10_likeliest 3 = .ok (.iconst 0, 1) := by decide +kernel
theorem dX10_likeliest_4 : decode cX10_likeliest 4 = .ok (.invokevirtual 455, 3) := by decide +kernel
theorem dX10_likeliest_7 : decode cX10_likeliest 7 = .ok (.ireturn, 1) := by decide +kernel
set_option maxRecDepth 20000 in
theorem ggX10_stopped_X10_isMatter : GoodIn wsX10_stopped wsX10_isMatter := goodIn_r _ [7, 8, 9, 10, 6, 11, 72, 73, 74, 75, 76, 77, 78, 79, 80, 81, 82, 83, 84, 85, 86, 87, 88, 89, 90, 91, 92, 93, 94, 95, 96, 97, 98, 99, 100, 101, 102, 103, 104, 105, 106, 107, 108, 109, 110, 111, 112, 113, 114, 115, 116, 117, 118, 119, 120, 121, 122, 123, 124, 125, 126, 127, 128, 129, 130, 131, 132, 133, 134, 135, 136, 137, 138, 139, 140, 141, 142, 143, 144] rfl (by decide +kernel)
set_option maxRecDepth 20000 in
theorem gX10_stopped_X10_isMatter : GoodIn wsX10_stopped (wsV RX10 331 RX10 yX10_isMatter wsX10_isMatter) := goodIn_app (goodIn_of _ (by decide +kernel)) ggX10_stopped_X10_isMatter
set_option maxRecDepth 20000 in
theorem ggX10_stopped_X10_findStops : GoodIn wsX10_stopped wsX10_findStops := goodIn_r _ [15, 16, 17, 18, 19, 2, 20, 21, 22, 6, 23, 24, 25, 26, 27, 28, 29, 30, 31, 32, 33, 34, 35, 36, 37, 38, 39, 40, 41, 42, 43, 44, 45, 46, 47, 48, 49, 50, 51, 52, 53, 54, 55, 56, 57, 58, 59, 60, 61, 62, 9, 10, 11, 63, 64, 65, 66, 67, 68, 69, 70, 71, 72, 73, 74, 75, 76, 77, 78, 79, 80, 81, 82, 83, 84, 85, 86, 87, 88, 89, 90, 91, 92, 93, 94, 95, 96, 97, 98, 99, 100, 101, 102, 103, 104, 105, 106, 107, 108, 109, 110, 111, 112, 113, 114, 115, 116, 117, 118, 119, 120, 121, 122, 123, 124, 125, 126, 127, 128, 129, 130, 131, 132, 133, 134, 135, 136, 137, 138, 139, 140, 141, 142, 143, 144] rfl (by decide +kernel)
set_option maxRecDepth 20000 in
theorem gX10_stopped_X10_findStops : GoodIn wsX10_stopped (wsV RX10 470 RX10 yX10_findStops wsX10_findStops) := goodIn_app (goodIn_of _ (by decide +kernel)) ggX10_stopped_X10_findStops
set_option maxRecDepth 20000 in
theorem ggX10_stopped_X10_in : GoodIn wsX10_stopped wsX10_in := goodIn_r _ [11] rfl (by decide +kernel)
set_option maxRecDepth 20000 in
theorem gX10_stopped_X10_in : GoodIn wsX10_stopped (va_wsS RX10 168 yX10_in wsX10_in) := goodIn_app (goodIn_of _ (by decide +kernel)) ggX10_stopped_X10_in
theorem dX10_stopped_0 : decode cX10_stopped 0 = .ok (.aload_n 0, 1) := by decide +kernel
theorem dX10_stopped_1 : decode cX10_stopped 1 = .ok (.iload_n 1, 1) := by decide +kernel
theorem dX10_stopped_2 : decode cX10_stopped 2 = .ok (.invokevirtual 331, 3) := by decide +kernel
theorem dX10_stopped_5 : decode cX10_stopped 5 = .ok (.ifCond .ne 7, 3) := by decide +kernel
theorem dX10_stopped_8 : decode cX10_stopped 8 = .ok (.ldc_w 321, 3) := by decide +kernel
theorem dX10_stopped_11 : decode cX10_stopped 11 = .ok (.ireturn, 1) := by decide +kernel
theorem dX10_stopped_12 : decode cX10_stopped 12 = .ok (.aload_n 0, 1) := by decide +kernel
theorem dX10_stopped_13 : decode cX10_stopped 13 = .ok (.iload_n 1, 1) := by decide +kernel
theorem dX10_stopped_14 : decode cX10_stopped 14 = .ok (.invokevirtual 470, 3) := by decide +kernel
theorem dX10_stopped_17 : decode cX10_stopped 17 = .ok (.istore_n 3, 1) := by decide +kernel
theorem dX10_stopped_18 : decode cX10_stopped 18 = .ok (.iload_n 3, 1) := by decide +kernel
theorem dX10_stopped_19 : decode cX10_stopped 19 = .ok (.ifCond .ne 7, 3) := by decide +kernel
theorem dX10_stopped_22 : decode cX10_stopped 22 = .ok (.iconst (-1), 1) := by decide +kernel
theorem dX10_stopped_23 : decode cX10_stopped 23 = .ok (.goto 35, 3) := by decide +kernel
theorem dX10_stopped_26 : decode cX10_stopped 26 = .ok (.iload_n 2, 1) := by decide +kernel
theorem dX10_stopped_27 : decode cX10_stopped 27 = .ok (.iconst (-1), 1) := by decide +kernel
theorem dX10_stopped_28 : decode cX10_stopped 28 = .ok (.if_icmp .ne 7, 3) := by decide +kernel
theorem dX10_stopped_31 : decode cX10_stopped 31 = .ok (.iload_n 3, 1) := by decide +kernel
theorem dX10_stopped_32 : decode cX10_stopped 32 = .ok (.goto 26, 3) := by decide +kernel
theorem dX10_stopped_35 : decode cX10_stopped 35 = .ok (.iload_n 2, 1) := by decide +kernel
theorem dX10_stopped_36 : decode cX10_stopped 36 = .ok (.i2l, 1) := by decide +kernel
theorem dX10_stopped_37 : decode cX10_stopped 37 = .ok (.lconst 0, 1) := by decide +kernel
theorem dX10_stopped_38 : decode cX10_stopped 38 = .ok (.iload_n 3, 1) := by decide +kernel
theorem dX10_stopped_39 : decode cX10_stopped 39 = .ok (.iconst 1, 1) := by decide +kernel
theorem dX10_stopped_40 : decode cX10_stopped 40 = .ok (.isub, 1) := by decide +kernel
theorem dX10_stopped_41 : decode cX10_stopped 41 = .ok (.i2l, 1) := by decide +kernel
theorem dX10_stopped_42 : decode cX10_stopped 42 = .ok (.invokestatic 168, 3) := by decide +kernel
theorem dX10_stopped_45 : decode cX10_stopped 45 = .ok (.ifCond .eq 12, 3) := by decide +kernel
theorem dX10_stopped_48 : decode cX10_stopped 48 = .ok (.aload_n 0, 1) := by decide +kernel
theorem dX10_stopped_49 : decode cX10_stopped 49 = .ok (.getfield 140, 3) := by decide +kernel
theorem dX10_stopped_52 : decode cX10_stopped 52 = .ok (.iload_n 2, 1) := by decide +kernel
theorem dX10_stopped_53 : decode cX10_stopped 53 = .ok (.iaload, 1) := by decide +kernel
theorem dX10_stopped_54 : decode cX10_stopped 54 = .ok (.goto 4, 3) := by decide +kernel
theorem dX10_stopped_57 : decode cX10_stopped 57 = .ok (.iconst (-1), 1) := by decide +kernel
theorem dX10_stopped_58 : decode cX10_stopped 58 = .ok (.ireturn, 1) := by decide +kernel
set_option maxRecDepth 20000 in
theorem ggX10_tried_X10_isMatter : GoodIn wsX10_tried wsX10_isMatter := goodIn_r _ [8, 9, 10, 11, 7, 12, 72, 73, 74, 75, 76, 77, 78, 79, 80, 81, 82, 83, 84, 85, 86, 87, 88, 89, 90, 91, 92, 93, 94, 95, 96, 97, 98, 99, 100, 101, 102, 103, 104, 105, 106, 107, 108, 109, 110, 111, 112, 113, 114, 115, 116, 117, 118, 119, 120, 121, 122, 123, 124, 125, 126, 127, 128, 129, 130, 131, 132, 133, 134, 135, 136, 137, 138, 139, 140, 141, 142, 143, 144] rfl (by decide +kernel)
set_option maxRecDepth 20000 in
theorem gX10_tried_X10_isMatter : GoodIn wsX10_tried (wsV RX10 331 RX10 yX10_isMatter wsX10_isMatter) := goodIn_app (goodIn_of _ (by decide +kernel)) ggX10_tried_X10_isMatter
set_option maxRecDepth 20000 in
theorem ggX10_tried_X10_in : GoodIn wsX10_tried wsX10_in := goodIn_r _ [12] rfl (by decide +kernel)
set_option maxRecDepth 20000 in
theorem gX10_tried_X10_in : GoodIn wsX10_tried (va_wsS RX10 168 yX10_in wsX10_in) := goodIn_app (goodIn_of _ (by decide +kernel)) ggX10_tried_X10_in
set_option maxRecDepth 20000 in
theorem ggX10_tried_X10_freeAll : GoodIn wsX10_tried wsX10_freeAll := goodIn_r _ [16, 17, 18, 72, 73, 74, 75, 76, 77, 78, 79, 80, 81, 82, 83, 84, 85, 86, 87, 88, 89, 90, 91, 92, 93, 94, 95, 96, 97, 98, 99, 100, 101, 102, 103, 104, 105, 106, 107, 108, 109, 110, 111, 112, 113, 114, 115, 116, 117, 118, 119, 120, 121, 122, 123, 124, 125, 126, 127, 128, 129, 130, 131, 132, 133, 134, 135, 136, 137, 138, 139, 140, 141, 142, 143, 144] rfl (by decide +kernel)
set_option maxRecDepth 20000 in
theorem gX10_tried_X10_freeAll : GoodIn wsX10_tried (wsV RX10 417 RX10 yX10_freeAll wsX10_freeAll) := goodIn_app (goodIn_of _ (by decide +kernel)) ggX10_tried_X10_freeAll
set_option maxRecDepth 20000 in
theorem ggX10_tried_X10_soonestBegin : GoodIn wsX10_tried wsX10_soonestBegin := goodIn_r _ [22, 23, 24, 25, 26, 27, 7, 28, 29, 30, 31, 32, 33, 34, 35, 36, 37, 38, 39, 40, 41, 42, 43, 44, 45, 46, 47, 48, 49, 17, 18, 50, 51, 52, 53, 54, 55, 56, 57, 58, 59, 60, 61, 62, 10, 11, 12, 63, 64, 65, 66, 67, 68, 69, 70, 71, 72, 73, 74, 75, 76, 77, 78, 79, 80, 81, 82, 83, 84, 85, 86, 87, 88, 89, 90, 91, 92, 93, 94, 95, 96, 97, 98, 99, 100, 101, 102, 103, 104, 105, 106, 107, 108, 109, 110, 111, 112, 113, 114, 115, 116, 117, 118, 119, 120, 121, 122, 123, 124, 125, 126, 127, 128, 129, 130, 131, 132, 133, 134, 135, 136, 137, 138, 139, 140, 141, 142, 143, 144] rfl (by decide +kernel)
set_option maxRecDepth 20000 in
theorem gX10_tried_X10_soonestBegin : GoodIn wsX10_tried (wsV RX10 420 RX10 yX10_soonestBegin wsX10_soonestBegin) := goodIn_app (goodIn_of _ (by decide +kernel)) ggX10_tried_X10_soonestBegin
theorem dX10_tried_0 : decode cX10_tried 0 = .ok (.aload_n 0, 1) := by decide +kernel
theorem dX10_tried_1 : decode cX10_tried 1 = .ok (.iload_n 1, 1) := by decide +kernel
theorem dX10_tried_2 : decode cX10_tried 2 = .ok (.invokevirtual 331, 3) := by decide +kernel
theorem dX10_tried_5 : decode cX10_tried 5 = .ok (.ifCond .ne 7, 3) := by decide +kernel
theorem dX10_tried_8 : decode cX10_tried 8 = .ok (.ldc_w 321, 3) := by decide +kernel
theorem dX10_tried_11 : decode cX10_tried 11 = .ok (.ireturn, 1) := by decide +kernel
theorem dX10_tried_12 : decode cX10_tried 12 = .ok (.iload_n 2, 1) := by decide +kernel
theorem dX10_tried_13 : decode cX10_tried 13 = .ok (.i2l, 1) := by decide +kernel
theorem dX10_tried_14 : decode cX10_tried 14 = .ok (.lconst 1, 1) := by decide +kernel
theorem dX10_tried_15 : decode cX10_tried 15 = .ok (.ldc2_w 473, 3) := by decide +kernel
theorem dX10_tried_18 : decode cX10_tried 18 = .ok (.invokestatic 168, 3) := by decide +kernel
theorem dX10_tried_21 : decode cX10_tried 21 = .ok (.ifCond .ne 6, 3) := by decide +kernel
theorem dX10_tried_24 : decode cX10_tried 24 = .ok (.ldc 186, 2) := by decide +kernel
theorem dX10_tried_26 : decode cX10_tried 26 = .ok (.ireturn, 1) := by decide +kernel
theorem dX10_tried_27 : decode cX10_tried 27 = .ok (.aload_n 0, 1) := by decide +kernel
theorem dX10_tried_28 : decode cX10_tried 28 = .ok (.invokevirtual 417, 3) := by decide +kernel
theorem dX10_tried_31 : decode cX10_tried 31 = .ok (.aload_n 0, 1) := by decide +kernel
theorem dX10_tried_32 : decode cX10_tried 32 = .ok (.iload_n 1, 1) := by decide +kernel
theorem dX10_tried_33 : decode cX10_tried 33 = .ok (.iload_n 2, 1) := by decide +kernel
theorem dX10_tried_34 : decode cX10_tried 34 = .ok (.bipush 99, 2) := by decide +kernel
theorem dX10_tried_36 : decode cX10_tried 36 = .ok (.invokevirtual 420, 3) := by decide +kernel
theorem dX10_tried_39 : decode cX10_tried 39 = .ok (.istore_n 3, 1) := by decide +kernel
theorem dX10_tried_40 : decode cX10_tried 40 = .ok (.iload_n 3, 1) := by decide +kernel
theorem dX10_tried_41 : decode cX10_tried 41 = .ok (.ifCond .ge 7, 3) := by decide +kernel
theorem dX10_tried_44 : decode cX10_tried 44 = .ok (.iconst (-1), 1) := by decide +kernel
theorem dX10_tried_45 : decode cX10_tried 45 = .ok (.goto 8, 3) := by decide +kernel
theorem dX10_tried_48 : decode cX10_tried 48 = .ok (.iload_n 3, 1) := by decide +kernel
theorem dX10_tried_49 : decode cX10_tried 49 = .ok (.iload_n 2, 1) := by decide +kernel
theorem dX10_tried_50 : decode cX10_tried 50 = .ok (.iadd, 1) := by decide +kernel
theorem dX10_tried_51 : decode cX10_tried 51 = .ok (.iconst 1, 1) := by decide +kernel
theorem dX10_tried_52 : decode cX10_tried 52 = .ok (.isub, 1) := by decide +kernel
theorem dX10_tried_53 : decode cX10_tried 53 = .ok (.ireturn, 1) := by decide +kernel
set_option maxRecDepth 20000 in
theorem ggX10_let_X10_isSleeper : GoodIn wsX10_let wsX10_isSleeper := goodIn_r _ [10, 11, 12, 13, 9, 14, 27, 28, 29, 30, 31, 32, 33, 34, 35, 36, 37, 38, 39, 40, 41, 42, 43, 44, 45, 46, 47, 48, 49, 50, 51, 52, 53, 54, 55, 56, 57, 58, 59, 60, 61, 62, 63, 64, 65, 66, 67, 68, 69, 70, 71, 72, 73, 74, 75, 76, 77, 78, 79, 80, 81, 82, 83, 84, 85, 86, 87, 88, 89, 90, 91, 92, 93, 94, 95, 96, 97, 98, 99] rfl (by decide +kernel)
set_option maxRecDepth 20000 in
theorem gX10_let_X10_isSleeper : GoodIn wsX10_let (wsV RX10 325 RX10 yX10_isSleeper wsX10_isSleeper) := goodIn_app (goodIn_of _ (by decide +kernel)) ggX10_let_X10_isSleeper
set_option maxRecDepth 20000 in
theorem ggX10_let_X10_in : GoodIn wsX10_let wsX10_in := goodIn_r _ [14] rfl (by decide +kernel)
set_option maxRecDepth 20000 in
theorem gX10_let_X10_in : GoodIn wsX10_let (va_wsS RX10 168 yX10_in wsX10_in) := goodIn_app (goodIn_of _ (by decide +kernel)) ggX10_let_X10_in
set_option maxRecDepth 20000 in
theorem ggX10_let_X10_isWoken : GoodIn wsX10_let wsX10_isWoken := goodIn_r _ [18, 19, 20, 21, 22, 23, 9, 24, 25, 26, 12, 13, 14, 27, 28, 29, 30, 31, 32, 33, 34, 35, 36, 37, 38, 39, 40, 41, 42, 43, 44, 45, 46, 47, 48, 49, 50, 51, 52, 53, 54, 55, 56, 57, 58, 59, 60, 61, 62, 63, 64, 65, 66, 67, 68, 69, 70, 71, 72, 73, 74, 75, 76, 77, 78, 79, 80, 81, 82, 83, 84, 85, 86, 87, 88, 89, 90, 91, 92, 93, 94, 95, 96, 97, 98, 99] rfl (by decide +kernel)
set_option maxRecDepth 20000 in
theorem gX10_let_X10_isWoken : GoodIn wsX10_let (wsV RX10 365 RX10 yX10_isWoken wsX10_isWoken) := goodIn_app (goodIn_of _ (by decide +kernel)) ggX10_let_X10_isWoken
theorem dX10_let_0 : decode cX10_let 0 = .ok (.aload_n 0, 1) := by decide +kernel
theorem dX10_let_1 : decode cX10_let 1 = .ok (.iload_n 1, 1) := by decide +kernel
theorem dX10_let_2 : decode cX10_let 2 = .ok (.invokevirtual 325, 3) := by decide +kernel
theorem dX10_let_5 : decode cX10_let 5 = .ok (.ifCond .ne 7, 3) := by decide +kernel
theorem dX10_let_8 : decode cX10_let 8 = .ok (.ldc_w 321, 3) := by decide +kernel
theorem dX10_let_11 : decode cX10_let 11 = .ok (.ireturn, 1) := by decide +kernel
theorem dX10_let_12 : decode cX10_let 12 = .ok (.iload_n 2, 1) := by decide +kernel
theorem dX10_let_13 : decode cX10_let 13 = .ok (.i2l, 1) := by decide +kernel
theorem dX10_let_14 : decode cX10_let 14 = .ok (.lconst 0, 1) := by decide +kernel
theorem dX10_let_15 : decode cX10_let 15 = .ok (.ldc2_w 475, 3) := by decide +kernel
theorem dX10_let_18 : decode cX10_let 18 = .ok (.invokestatic 168, 3) := by decide +kernel
theorem dX10_let_21 : decode cX10_let 21 = .ok (.ifCond .eq 13, 3) := by decide +kernel
theorem dX10_let_24 : decode cX10_let 24 = .ok (.iload_n 3, 1) := by decide +kernel
theorem dX10_let_25 : decode cX10_let 25 = .ok (.i2l, 1) := by decide +kernel
theorem dX10_let_26 : decode cX10_let 26 = .ok (.lconst 0, 1) := by decide +kernel
theorem dX10_let_27 : decode cX10_let 27 = .ok (.lconst 1, 1) := by decide +kernel
theorem dX10_let_28 : decode cX10_let 28 = .ok (.invokestatic 168, 3) := by decide +kernel
theorem dX10_let_31 : decode cX10_let 31 = .ok (.ifCond .ne 6, 3) := by decide +kernel
theorem dX10_let_34 : decode cX10_let 34 = .ok (.ldc 186, 2) := by decide +kernel
theorem dX10_let_36 : decode cX10_let 36 = .ok (.ireturn, 1) := by decide +kernel
theorem dX10_let_37 : decode cX10_let 37 = .ok (.iconst 0, 1) := by decide +kernel
theorem dX10_let_38 : decode cX10_let 38 = .ok (.istore 4, 2) := by decide +kernel
theorem dX10_let_40 : decode cX10_let 40 = .ok (.iconst (-1), 1) := by decide +kernel
theorem dX10_let_41 : decode cX10_let 41 = .ok (.istore 5, 2) := by decide +kernel
theorem dX10_let_43 : decode cX10_let 43 = .ok (.iconst 0, 1) := by decide +kernel
theorem dX10_let_44 : decode cX10_let 44 = .ok (.istore 6, 2) := by decide +kernel
theorem dX10_let_46 : decode cX10_let 46 = .ok (.iload 6, 2) := by decide +kernel
theorem dX10_let_48 : decode cX10_let 48 = .ok (.aload_n 0, 1) := by decide +kernel
theorem dX10_let_49 : decode cX10_let 49 = .ok (.getfield 165, 3) := by decide +kernel
theorem dX10_let_52 : decode cX10_let 52 = .ok (.if_icmp .ge 63, 3) := by decide +kernel
theorem dX10_let_55 : decode cX10_let 55 = .ok (.aload_n 0, 1) := by decide +kernel
theorem dX10_let_56 : decode cX10_let 56 = .ok (.iload_n 1, 1) := by decide +kernel
theorem dX10_let_57 : decode cX10_let 57 = .ok (.iload 6, 2) := by decide +kernel
theorem dX10_let_59 : decode cX10_let 59 = .ok (.iload_n 2, 1) := by decide +kernel
theorem dX10_let_60 : decode cX10_let 60 = .ok (.invokevirtual 365, 3) := by decide +kernel
theorem dX10_let_63 : decode cX10_let 63 = .ok (.ifCond .ne 46, 3) := by decide +kernel
theorem dX10_let_66 : decode cX10_let 66 = .ok (.iload 4, 2) := by decide +kernel
theorem dX10_let_68 : decode cX10_let 68 = .ok (.aload_n 0, 1) := by decide +kernel
theorem dX10_let_69 : decode cX10_let 69 = .ok (.getfield 13, 3) := by decide +kernel
theorem dX10_let_72 : decode cX10_let 72 = .ok (.iload 6, 2) := by decide +kernel
theorem dX10_let_74 : decode cX10_let 74 = .ok (.iaload, 1) := by decide +kernel
theorem dX10_let_75 : decode cX10_let 75 = .ok (.iadd, 1) := by decide +kernel
theorem dX10_let_76 : decode cX10_let 76 = .ok (.istore 4, 2) := by decide +kernel
theorem dX10_let_78 : decode cX10_let 78 = .ok (.iload 5, 2) := by decide +kernel
theorem dX10_let_80 : decode cX10_let 80 = .ok (.ifCond .lt 20, 3) := by decide +kernel
theorem dX10_let_83 : decode cX10_let 83 = .ok (.aload_n 0, 1) := by decide +kernel
theorem dX10_let_84 : decode cX10_let 84 = .ok (.getfield 13, 3) := by decide +kernel
theorem dX10_let_87 : decode cX10_let 87 = .ok (.iload 6, 2) := by decide +kernel
theorem dX10_let_89 : decode cX10_let 89 = .ok (.iaload, 1) := by decide +kernel
theorem dX10_let_90 : decode cX10_let 90 = .ok (.aload_n 0, 1) := by decide +kernel
theorem dX10_let_91 : decode cX10_let 91 = .ok (.getfield 13, 3) := by decide +kernel
theorem dX10_let_94 : decode cX10_let 94 = .ok (.iload 5, 2) := by decide +kernel
theorem dX10_let_96 : decode cX10_let 96 = .ok (.iaload, 1) := by decide +kernel
theorem dX10_let_97 : decode cX10_let 97 = .ok (.if_icmp .le 8, 3) := by decide +kernel
theorem dX10_let_100 : decode cX10_let 100 = .ok (.iload 6, 2) := by decide +kernel
theorem dX10_let_102 : decode cX10_let 102 = .ok (.goto 5, 3) := by decide +kernel
theorem dX10_let_105 : decode cX10_let 105 = .ok (.iload 5, 2) := by decide +kernel
theorem dX10_let_107 : decode cX10_let 107 = .ok (.istore 5, 2) := by decide +kernel
theorem dX10_let_109 : decode cX10_let 109 = .ok (.iinc 6 1, 3) := by decide +kernel
theorem dX10_let_112 : decode cX10_let 112 = .ok (.goto (-66), 3) := by decide +kernel
theorem dX10_let_115 : decode cX10_let 115 = .ok (.iload_n 3, 1) := by decide +kernel
theorem dX10_let_116 : decode cX10_let 116 = .ok (.ifCond .ne 8, 3) := by decide +kernel
theorem dX10_let_119 : decode cX10_let 119 = .ok (.iload 4, 2) := by decide +kernel
theorem dX10_let_121 : decode cX10_let 121 = .ok (.goto 5, 3) := by decide +kernel
theorem dX10_let_124 : decode cX10_let 124 = .ok (.iload 5, 2) := by decide +kernel
theorem dX10_let_126 : decode cX10_let 126 = .ok (.ireturn, 1) := by decide +kernel
set_option maxRecDepth 20000 in
theorem ggX10_write_X10_isSleeper : GoodIn wsX10_write wsX10_isSleeper := goodIn_r _ [13, 14, 15, 16, 12, 17, 23, 24, 25, 26, 27, 28, 29, 30, 31, 32, 33, 34, 35, 36, 37, 38, 39, 40, 41, 42, 43, 44, 45, 46, 47, 48, 49, 50, 51, 52, 53, 54, 55, 56, 57, 58, 59, 60, 61, 62, 63, 64, 65, 66, 67, 68, 69, 70, 71, 72, 73, 74, 75, 76, 77, 78, 79, 80, 81, 82, 83, 84, 85, 86, 87, 88, 89, 90, 91, 92, 93, 94, 95] rfl (by decide +kernel)
set_option maxRecDepth 20000 in
theorem gX10_write_X10_isSleeper : GoodIn wsX10_write (wsV RX10 325 RX10 yX10_isSleeper wsX10_isSleeper) := goodIn_app (goodIn_of _ (by decide +kernel)) ggX10_write_X10_isSleeper
set_option maxRecDepth 20000 in
theorem ggX10_write_X10_isHouse : GoodIn wsX10_write wsX10_isHouse := goodIn_r _ [21, 22, 15, 16, 12, 17, 23, 24, 25, 26, 27, 28, 29, 30, 31, 32, 33, 34, 35, 36, 37, 38, 39, 40, 41, 42, 43, 44, 45, 46, 47, 48, 49, 50, 51, 52, 53, 54, 55, 56, 57, 58, 59, 60, 61, 62, 63, 64, 65, 66, 67, 68, 69, 70, 71, 72, 73, 74, 75, 76, 77, 78, 79, 80, 81, 82, 83, 84, 85, 86, 87, 88, 89, 90, 91, 92, 93, 94, 95] rfl (by decide +kernel)
set_option maxRecDepth 20000 in
theorem gX10_write_X10_isHouse : GoodIn wsX10_write (wsV RX10 317 RX10 yX10_isHouse wsX10_isHouse) := goodIn_app (goodIn_of _ (by decide +kernel)) ggX10_write_X10_isHouse
set_option maxRecDepth 20000 in
theorem ggX10_write_X10_in : GoodIn wsX10_write wsX10_in := goodIn_r _ [17] rfl (by decide +kernel)
set_option maxRecDepth 20000 in
theorem gX10_write_X10_in : GoodIn wsX10_write (va_wsS RX10 168 yX10_in wsX10_in) := goodIn_app (goodIn_of _ (by decide +kernel)) ggX10_write_X10_in
theorem dX10_write_0 : decode cX10_write 0 = .ok (.aload_n 0, 1) := by decide +kernel
theorem dX10_write_1 : decode cX10_write 1 = .ok (.iload_n 2, 1) := by decide +kernel
theorem dX10_write_2 : decode cX10_write 2 = .ok (.invokevirtual 325, 3) := by decide +kernel
theorem dX10_write_5 : decode cX10_write 5 = .ok (.ifCond .eq 11, 3) := by decide +kernel
theorem dX10_write_8 : decode cX10_write 8 = .ok (.aload_n 0, 1) := by decide +kernel
theorem dX10_write_9 : decode cX10_write 9 = .ok (.iload_n 3, 1) := by decide +kernel
theorem dX10_write_10 : decode cX10_write 10 = .ok (.invokevirtual 317, 3) := by decide +kernel
theorem dX10_write_13 : decode cX10_write 13 = .ok (.ifCond .ne 7, 3) := by decide +kernel
theorem dX10_write_16 : decode cX10_write 16 = .ok (.ldc_w 321, 3) := by decide +kernel
theorem dX10_write_19 : decode cX10_write 19 = .ok (.ireturn, 1) := by decide +kernel
theorem dX10_write_20 : decode cX10_write 20 = .ok (.iload_n 1, 1) := by decide +kernel
theorem dX10_write_21 : decode cX10_write 21 = .ok (.i2l, 1) := by decide +kernel
theorem dX10_write_22 : decode cX10_write 22 = .ok (.lconst 0, 1) := by decide +kernel
theorem dX10_write_23 : decode cX10_write 23 = .ok (.ldc2_w 336, 3) := by decide +kernel
theorem dX10_write_26 : decode cX10_write 26 = .ok (.invokestatic 168, 3) := by decide +kernel
theorem dX10_write_29 : decode cX10_write 29 = .ok (.ifCond .ne 6, 3) := by decide +kernel
theorem dX10_write_32 : decode cX10_write 32 = .ok (.ldc 186, 2) := by decide +kernel
theorem dX10_write_34 : decode cX10_write 34 = .ok (.ireturn, 1) := by decide +kernel
theorem dX10_write_35 : decode cX10_write 35 = .ok (.aload_n 0, 1) := by decide +kernel
theorem dX10_write_36 : decode cX10_write 36 = .ok (.getfield 288, 3) := by decide +kernel
theorem dX10_write_39 : decode cX10_write 39 = .ok (.bipush 20, 2) := by decide +kernel
theorem dX10_write_41 : decode cX10_write 41 = .ok (.if_icmp .ne 6, 3) := by decide +kernel
theorem dX10_write_44 : decode cX10_write 44 = .ok (.ldc 190, 2) := by decide +kernel
theorem dX10_write_46 : decode cX10_write 46 = .ok (.ireturn, 1) := by decide +kernel
theorem dX10_write_47 : decode cX10_write 47 = .ok (.aload_n 0, 1) := by decide +kernel
theorem dX10_write_48 : decode cX10_write 48 = .ok (.getfield 143, 3) := by decide +kernel
theorem dX10_write_51 : decode cX10_write 51 = .ok (.aload_n 0, 1) := by decide +kernel
theorem dX10_write_52 : decode cX10_write 52 = .ok (.getfield 288, 3) := by decide +kernel
theorem dX10_write_55 : decode cX10_write 55 = .ok (.iload_n 1, 1) := by decide +kernel
theorem dX10_write_56 : decode cX10_write 56 = .ok (.iastore, 1) := by decide +kernel
theorem dX10_write_57 : decode cX10_write 57 = .ok (.aload_n 0, 1) := by decide +kernel
theorem dX10_write_58 : decode cX10_write 58 = .ok (.getfield 146, 3) := by decide +kernel
theorem dX10_write_61 : decode cX10_write 61 = .ok (.aload_n 0, 1) := by decide +kernel
theorem dX10_write_62 : decode cX10_write 62 = .ok (.getfield 288, 3) := by decide +kernel
theorem dX10_write_65 : decode cX10_write 65 = .ok (.iload_n 2, 1) := by decide +kernel
theorem dX10_write_66 : decode cX10_write 66 = .ok (.iastore, 1) := by decide +kernel
theorem dX10_write_67 : decode cX10_write 67 = .ok (.aload_n 0, 1) := by decide +kernel
theorem dX10_write_68 : decode cX10_write 68 = .ok (.getfield 149, 3) := by decide +kernel
theorem dX10_write_71 : decode cX10_write 71 = .ok (.aload_n 0, 1) := by decide +kernel
theorem dX10_write_72 : decode cX10_write 72 = .ok (.getfield 288, 3) := by decide +kernel
theorem dX10_write_75 : decode cX10_write 75 = .ok (.iload_n 3, 1) := by decide +kernel
theorem dX10_write_76 : decode cX10_write 76 = .ok (.iastore, 1) := by decide +kernel
theorem dX10_write_77 : decode cX10_write 77 = .ok (.aload_n 0, 1) := by decide +kernel
theorem dX10_write_78 : decode cX10_write 78 = .ok (.dup, 1) := by decide +kernel
theorem dX10_write_79 : decode cX10_write 79 = .ok (.getfield 288, 3) := by decide +kernel
theorem dX10_write_82 : decode cX10_write 82 = .ok (.iconst 1, 1) := by decide +kernel
theorem dX10_write_83 : decode cX10_write 83 = .ok (.iadd, 1) := by decide +kernel
theorem dX10_write_84 : decode cX10_write 84 = .ok (.putfield 288, 3) := by decide +kernel
theorem dX10_write_87 : decode cX10_write 87 = .ok (.aload_n 0, 1) := by decide +kernel
theorem dX10_write_88 : decode cX10_write 88 = .ok (.getfield 288, 3) := by decide +kernel
theorem dX10_write_91 : decode cX10_write 91 = .ok (.ireturn, 1) := by decide +kernel
set_option maxRecDepth 20000 in
theorem ggX10_judge_X10_isMatter : GoodIn wsX10_judge wsX10_isMatter := goodIn_r _ [7, 8, 9, 10, 6, 11, 32, 33, 34, 35, 36, 37, 38, 39, 40, 41, 42, 43, 44, 45, 46, 47, 48, 49, 50, 51, 52, 53, 54, 55, 56, 57, 58, 59, 60, 61, 62, 63, 64, 65, 66, 67, 68, 69, 70, 71, 72, 73, 74, 75, 76, 77, 78, 79, 80, 81, 82, 83, 84, 85, 86, 87, 88, 89, 90, 91, 92, 93, 94, 95, 96, 97, 98, 99, 100, 101, 102, 103, 104] rfl (by decide +kernel)
set_option maxRecDepth 20000 in
theorem gX10_judge_X10_isMatter : GoodIn wsX10_judge (wsV RX10 331 RX10 yX10_isMatter wsX10_isMatter) := goodIn_app (goodIn_of _ (by decide +kernel)) ggX10_judge_X10_isMatter
set_option maxRecDepth 20000 in
theorem ggX10_judge_X10_isRight : GoodIn wsX10_judge wsX10_isRight := goodIn_r _ [15, 16, 17, 18, 19, 20, 21, 22, 6, 23, 24, 25, 26, 27, 28, 29, 30, 31, 9, 10, 11, 32, 33, 34, 35, 36, 37, 38, 39, 40, 41, 42, 43, 44, 45, 46, 47, 48, 49, 50, 51, 52, 53, 54, 55, 56, 57, 58, 59, 60, 61, 62, 63, 64, 65, 66, 67, 68, 69, 70, 71, 72, 73, 74, 75, 76, 77, 78, 79, 80, 81, 82, 83, 84, 85, 86, 87, 88, 89, 90, 91, 92, 93, 94, 95, 96, 97, 98, 99, 100, 101, 102, 103, 104] rfl (by decide +kernel)
set_option maxRecDepth 20000 in
theorem gX10_judge_X10_isRight : GoodIn wsX10_judge (wsV RX10 477 RX10 yX10_isRight wsX10_isRight) := goodIn_app (goodIn_of _ (by decide +kernel)) ggX10_judge_X10_isRight
theorem dX10_judge_0 : decode cX10_judge 0 = .ok (.aload_n 0, 1) := by decide +kernel
theorem dX10_judge_1 : decode cX10_judge 1 = .ok (.iload_n 1, 1) := by decide +kernel
theorem dX10_judge_2 : decode cX10_judge 2 = .ok (.invokevirtual 331, 3) := by decide +kernel
theorem dX10_judge_5 : decode cX10_judge 5 = .ok (.ifCond .ne 7, 3) := by decide +kernel
theorem dX10_judge_8 : decode cX10_judge 8 = .ok (.ldc_w 321, 3) := by decide +kernel
theorem dX10_judge_11 : decode cX10_judge 11 = .ok (.ireturn, 1) := by decide +kernel
theorem dX10_judge_12 : decode cX10_judge 12 = .ok (.iconst 0, 1) := by decide +kernel
theorem dX10_judge_13 : decode cX10_judge 13 = .ok (.istore_n 2, 1) := by decide +kernel
theorem dX10_judge_14 : decode cX10_judge 14 = .ok (.iload_n 2, 1) := by decide +kernel
theorem dX10_judge_15 : decode cX10_judge 15 = .ok (.aload_n 0, 1) := by decide +kernel
theorem dX10_judge_16 : decode cX10_judge 16 = .ok (.getfield 288, 3) := by decide +kernel
theorem dX10_judge_19 : decode cX10_judge 19 = .ok (.if_icmp .ge 20, 3) := by decide +kernel
theorem dX10_judge_22 : decode cX10_judge 22 = .ok (.aload_n 0, 1) := by decide +kernel
theorem dX10_judge_23 : decode cX10_judge 23 = .ok (.iload_n 1, 1) := by decide +kernel
theorem dX10_judge_24 : decode cX10_judge 24 = .ok (.iload_n 2, 1) := by decide +kernel
theorem dX10_judge_25 : decode cX10_judge 25 = .ok (.invokevirtual 477, 3) := by decide +kernel
theorem dX10_judge_28 : decode cX10_judge 28 = .ok (.ifCond .ne 5, 3) := by decide +kernel
theorem dX10_judge_31 : decode cX10_judge 31 = .ok (.iload_n 2, 1) := by decide +kernel
theorem dX10_judge_32 : decode cX10_judge 32 = .ok (.ireturn, 1) := by decide +kernel
theorem dX10_judge_33 : decode cX10_judge 33 = .ok (.iinc 2 1, 3) := by decide +kernel
theorem dX10_judge_36 : decode cX10_judge 36 = .ok (.goto (-22), 3) := by decide +kernel
theorem dX10_judge_39 : decode cX10_judge 39 = .ok (.iconst (-1), 1) := by decide +kernel
theorem dX10_judge_40 : decode cX10_judge 40 = .ok (.ireturn, 1) := by decide +kernel
theorem dX10_fault_0 : decode cX10_fault 0 = .ok (.aload_n 0, 1) := by decide +kernel
theorem dX10_fault_1 : decode cX10_fault 1 = .ok (.getfield 72, 3) := by decide +kernel
theorem dX10_fault_4 : decode cX10_fault 4 = .ok (.ireturn, 1) := by decide +kernel
theorem dX10_neededYes_0 : decode cX10_neededYes 0 = .ok (.aload_n 0, 1) := by decide +kernel
theorem dX10_neededYes_1 : decode cX10_neededYes 1 = .ok (.getfield 35, 3) := by decide +kernel
theorem dX10_neededYes_4 : decode cX10_neededYes 4 = .ok (.ifCond .ge 14, 3) := by decide +kernel
theorem dX10_neededYes_7 : decode cX10_neededYes 7 = .ok (.aload_n 0, 1) := by decide +kernel
theorem dX10_neededYes_8 : decode cX10_neededYes 8 = .ok (.getfield 31, 3) := by decide +kernel
theorem dX10_neededYes_11 : decode cX10_neededYes 11 = .ok (.iconst 2, 1) := by decide +kernel
theorem dX10_neededYes_12 : decode cX10_neededYes 12 = .ok (.idiv, 1) := by decide +kernel
theorem dX10_neededYes_13 : decode cX10_neededYes 13 = .ok (.iconst 1, 1) := by decide +kernel
theorem dX10_neededYes_14 : decode cX10_neededYes 14 = .ok (.iadd, 1) := by decide +kernel
theorem dX10_neededYes_15 : decode cX10_neededYes 15 = .ok (.goto 7, 3) := by decide +kernel
theorem dX10_neededYes_18 : decode cX10_neededYes 18 = .ok (.aload_n 0, 1) := by decide +kernel
theorem dX10_neededYes_19 : decode cX10_neededYes 19 = .ok (.getfield 35, 3) := by decide +kernel
theorem dX10_neededYes_22 : decode cX10_neededYes 22 = .ok (.ireturn, 1) := by decide +kernel
theorem dX10_scoreNow_0 : decode cX10_scoreNow 0 = .ok (.aload_n 0, 1) := by decide +kernel
theorem dX10_scoreNow_1 : decode cX10_scoreNow 1 = .ok (.getfield 181, 3) := by decide +kernel
theorem dX10_scoreNow_4 : decode cX10_scoreNow 4 = .ok (.ineg, 1) := by decide +kernel
theorem dX10_scoreNow_5 : decode cX10_scoreNow 5 = .ok (.istore_n 1, 1) := by decide +kernel
theorem dX10_scoreNow_6 : decode cX10_scoreNow 6 = .ok (.iconst 0, 1) := by decide +kernel
theorem dX10_scoreNow_7 : decode cX10_scoreNow 7 = .ok (.istore_n 2, 1) := by decide +kernel
theorem dX10_scoreNow_8 : decode cX10_scoreNow 8 = .ok (.iload_n 2, 1) := by decide +kernel
theorem dX10_scoreNow_9 : decode cX10_scoreNow 9 = .ok (.aload_n 0, 1) := by decide +kernel
theorem dX10_scoreNow_10 : decode cX10_scoreNow 10 = .ok (.getfield 175, 3) := by decide +kernel
theorem dX10_scoreNow_13 : decode cX10_scoreNow 13 = .ok (.if_icmp .ge 120, 3) := by decide +kernel
theorem dX10_scoreNow_16 : decode cX10_scoreNow 16 = .ok (.aload_n 0, 1) := by decide +kernel
theorem dX10_scoreNow_17 : decode cX10_scoreNow 17 = .ok (.getfield 28, 3) := by decide +kernel
theorem dX10_scoreNow_20 : decode cX10_scoreNow 20 = .ok (.iconst 4, 1) := by decide +kernel
theorem dX10_scoreNow_21 : decode cX10_scoreNow 21 = .ok (.iload_n 2, 1) := by decide +kernel
theorem dX10_scoreNow_22 : decode cX10_scoreNow 22 = .ok (.imul, 1) := by decide +kernel
theorem dX10_scoreNow_23 : decode cX10_scoreNow 23 = .ok (.iaload, 1) := by decide +kernel
theorem dX10_scoreNow_24 : decode cX10_scoreNow 24 = .ok (.istore_n 3, 1) := by decide +kernel
theorem dX10_scoreNow_25 : decode cX10_scoreNow 25 = .ok (.aload_n 0, 1) := by decide +kernel
theorem dX10_scoreNow_26 : decode cX10_scoreNow 26 = .ok (.getfield 48, 3) := by decide +kernel
theorem dX10_scoreNow_29 : decode cX10_scoreNow 29 = .ok (.iload_n 2, 1) := by decide +kernel
theorem dX10_scoreNow_30 : decode cX10_scoreNow 30 = .ok (.iaload, 1) := by decide +kernel
theorem dX10_scoreNow_31 : decode cX10_scoreNow 31 = .ok (.ifCond .le 14, 3) := by decide +kernel
theorem dX10_scoreNow_34 : decode cX10_scoreNow 34 = .ok (.aload_n 0, 1) := by decide +kernel
theorem dX10_scoreNow_35 : decode cX10_scoreNow 35 = .ok (.getfield 51, 3) := by decide +kernel
theorem dX10_scoreNow_38 : decode cX10_scoreNow 38 = .ok (.iload_n 2, 1) := by decide +kernel
theorem dX10_scoreNow_39 : decode cX10_scoreNow 39 = .ok (.iaload, 1) := by decide +kernel
theorem dX10_scoreNow_40 : decode cX10_scoreNow 40 = .ok (.iload_n 3, 1) := by decide +kernel
theorem dX10_scoreNow_41 : decode cX10_scoreNow 41 = .ok (.isub, 1) := by decide +kernel
theorem dX10_scoreNow_42 : decode cX10_scoreNow 42 = .ok (.goto 21, 3) := by decide +kernel
theorem dX10_scoreNow_45 : decode cX10_scoreNow 45 = .ok (.aload_n 0, 1) := by decide +kernel
theorem dX10_scoreNow_46 : decode cX10_scoreNow 46 = .ok (.getfield 178, 3) := by decide +kernel
theorem dX10_scoreNow_49 : decode cX10_scoreNow 49 = .ok (.iload_n 3, 1) := by decide +kernel
theorem dX10_scoreNow_50 : decode cX10_scoreNow 50 = .ok (.if_icmp .le 12, 3) := by decide +kernel
theorem dX10_scoreNow_53 : decode cX10_scoreNow 53 = .ok (.aload_n 0, 1) := by decide +kernel
theorem dX10_scoreNow_54 : decode cX10_scoreNow 54 = .ok (.getfield 178, 3) := by decide +kernel
theorem dX10_scoreNow_57 : decode cX10_scoreNow 57 = .ok (.iload_n 3, 1) := by decide +kernel
theorem dX10_scoreNow_58 : decode cX10_scoreNow 58 = .ok (.isub, 1) := by decide +kernel
theorem dX10_scoreNow_59 : decode cX10_scoreNow 59 = .ok (.goto 4, 3) := by decide +kernel
theorem dX10_scoreNow_62 : decode cX10_scoreNow 62 = .ok (.iconst 0, 1) := by decide +kernel
theorem dX10_scoreNow_63 : decode cX10_scoreNow 63 = .ok (.istore 4, 2) := by decide +kernel
theorem dX10_scoreNow_65 : decode cX10_scoreNow 65 = .ok (.iload_n 1, 1) := by decide +kernel
theorem dX10_scoreNow_66 : decode cX10_scoreNow 66 = .ok (.aload_n 0, 1) := by decide +kernel
theorem dX10_scoreNow_67 : decode cX10_scoreNow 67 = .ok (.getfield 48, 3) := by decide +kernel
theorem dX10_scoreNow_70 : decode cX10_scoreNow 70 = .ok (.iload_n 2, 1) := by decide +kernel
theorem dX10_scoreNow_71 : decode cX10_scoreNow 71 = .ok (.iaload, 1) := by decide +kernel
theorem dX10_scoreNow_72 : decode cX10_scoreNow 72 = .ok (.iconst 1, 1) := by decide +kernel
theorem dX10_scoreNow_73 : decode cX10_scoreNow 73 = .ok (.if_icmp .ne 35, 3) := by decide +kernel
theorem dX10_scoreNow_76 : decode cX10_scoreNow 76 = .ok (.aload_n 0, 1) := by decide +kernel
theorem dX10_scoreNow_77 : decode cX10_scoreNow 77 = .ok (.getfield 51, 3) := by decide +kernel
theorem dX10_scoreNow_80 : decode cX10_scoreNow 80 = .ok (.iload_n 2, 1) := by decide +kernel
theorem dX10_scoreNow_81 : decode cX10_scoreNow 81 = .ok (.iaload, 1) := by decide +kernel
theorem dX10_scoreNow_82 : decode cX10_scoreNow 82 = .ok (.aload_n 0, 1) := by decide +kernel
theorem dX10_scoreNow_83 : decode cX10_scoreNow 83 = .ok (.getfield 28, 3) := by decide +kernel
theorem dX10_scoreNow_86 : decode cX10_scoreNow 86 = .ok (.iconst 4, 1) := by decide +kernel
theorem dX10_scoreNow_87 : decode cX10_scoreNow 87 = .ok (.iload_n 2, 1) := by decide +kernel
theorem dX10_scoreNow_88 : decode cX10_scoreNow 88 = .ok (.imul, 1) := by decide +kernel
theorem dX10_scoreNow_89 : decode cX10_scoreNow 89 = .ok (.iconst 1, 1) := by decide +kernel
theorem dX10_scoreNow_90 : decode cX10_scoreNow 90 = .ok (.iadd, 1) := by decide +kernel
theorem dX10_scoreNow_91 : decode cX10_scoreNow 91 = .ok (.iaload, 1) := by decide +kernel
theorem dX10_scoreNow_92 : decode cX10_scoreNow 92 = .ok (.if_icmp .gt 16, 3) := by decide +kernel
theorem dX10_scoreNow_95 : decode cX10_scoreNow 95 = .ok (.aload_n 0, 1) := by decide +kernel
theorem dX10_scoreNow_96 : decode cX10_scoreNow 96 = .ok (.getfield 28, 3) := by decide +kernel
theorem dX10_scoreNow_99 : decode cX10_scoreNow 99 = .ok (.iconst 4, 1) := by decide +kernel
theorem dX10_scoreNow_100 : decode cX10_scoreNow 100 = .ok (.iload_n 2, 1) := by decide +kernel
theorem dX10_scoreNow_101 : decode cX10_scoreNow 101 = .ok (.imul, 1) := by decide +kernel
theorem dX10_scoreNow_102 : decode cX10_scoreNow 102 = .ok (.iconst 2, 1) := by decide +kernel
theorem dX10_scoreNow_103 : decode cX10_scoreNow 103 = .ok (.iadd, 1) := by decide +kernel
theorem dX10_scoreNow_104 : decode cX10_scoreNow 104 = .ok (.iaload, 1) := by decide +kernel
theorem dX10_scoreNow_105 : decode cX10_scoreNow 105 = .ok (.goto 4, 3) := by decide +kernel
theorem dX10_scoreNow_108 : decode cX10_scoreNow 108 = .ok (.iconst 0, 1) := by decide +kernel
theorem dX10_scoreNow_109 : decode cX10_scoreNow 109 = .ok (.iadd, 1) := by decide +kernel
theorem dX10_scoreNow_110 : decode cX10_scoreNow 110 = .ok (.istore_n 1, 1) := by decide +kernel
theorem dX10_scoreNow_111 : decode cX10_scoreNow 111 = .ok (.iload_n 1, 1) := by decide +kernel
theorem dX10_scoreNow_112 : decode cX10_scoreNow 112 = .ok (.aload_n 0, 1) := by decide +kernel
theorem dX10_scoreNow_113 : decode cX10_scoreNow 113 = .ok (.getfield 28, 3) := by decide +kernel
theorem dX10_scoreNow_116 : decode cX10_scoreNow 116 = .ok (.iconst 4, 1) := by decide +kernel
theorem dX10_scoreNow_117 : decode cX10_scoreNow 117 = .ok (.iload_n 2, 1) := by decide +kernel
theorem dX10_scoreNow_118 : decode cX10_scoreNow 118 = .ok (.imul, 1) := by decide +kernel
theorem dX10_scoreNow_119 : decode cX10_scoreNow 119 = .ok (.iconst 3, 1) := by decide +kernel
theorem dX10_scoreNow_120 : decode cX10_scoreNow 120 = .ok (.iadd, 1) := by decide +kernel
theorem dX10_scoreNow_121 : decode cX10_scoreNow 121 = .ok (.iaload, 1) := by decide +kernel
theorem dX10_scoreNow_122 : decode cX10_scoreNow 122 = .ok (.iload 4, 2) := by decide +kernel
theorem dX10_scoreNow_124 : decode cX10_scoreNow 124 = .ok (.imul, 1) := by decide +kernel
theorem dX10_scoreNow_125 : decode cX10_scoreNow 125 = .ok (.isub, 1) := by decide +kernel
theorem dX10_scoreNow_126 : decode cX10_scoreNow 126 = .ok (.istore_n 1, 1) := by decide +kernel
theorem dX10_scoreNow_127 : decode cX10_scoreNow 127 = .ok (.iinc 2 1, 3) := by decide +kernel
theorem dX10_scoreNow_130 : decode cX10_scoreNow 130 = .ok (.goto (-122), 3) := by decide +kernel
theorem dX10_scoreNow_133 : decode cX10_scoreNow 133 = .ok (.iload_n 1, 1) := by decide +kernel
theorem dX10_scoreNow_134 : decode cX10_scoreNow 134 = .ok (.ireturn, 1) := by decide +kernel
set_option maxRecDepth 20000 in
theorem ggX10_told_X10_neededYes : GoodIn wsX10_told wsX10_neededYes := goodIn_r _ [15, 16, 4, 24, 25, 26, 27, 28, 29, 30, 31, 32, 33, 34, 35, 36, 37, 38, 39, 40, 41, 42, 43, 44, 45, 46, 47, 48, 49, 50, 51, 52, 53, 54, 55, 56, 57, 58, 59, 60, 61, 62, 63, 64, 65, 66, 67, 68, 69, 70, 71, 72, 73, 74, 75, 76, 77, 78, 79, 80, 81, 82, 83, 84, 85, 86, 87, 88, 89, 90, 91, 92, 93, 94, 95, 96] rfl (by decide +kernel)
set_option maxRecDepth 20000 in
theorem gX10_told_X10_neededYes : GoodIn wsX10_told (wsV RX10 311 RX10 yX10_neededYes wsX10_neededYes) := goodIn_app (goodIn_of _ (by decide +kernel)) ggX10_told_X10_neededYes
set_option maxRecDepth 20000 in
theorem ggX10_told_X10_scoreNow : GoodIn wsX10_told wsX10_scoreNow := goodIn_r _ [20, 7, 3, 21, 22, 23, 6, 24, 25, 26, 27, 28, 29, 30, 31, 32, 33, 34, 35, 36, 37, 38, 39, 40, 41, 42, 43, 44, 45, 46, 47, 48, 49, 50, 51, 52, 53, 54, 55, 56, 57, 58, 59, 60, 61, 62, 63, 64, 65, 66, 67, 68, 69, 70, 71, 72, 73, 74, 75, 76, 77, 78, 79, 80, 81, 82, 83, 84, 85, 86, 87, 88, 89, 90, 91, 92, 93, 94, 95, 96] rfl (by decide +kernel)
set_option maxRecDepth 20000 in
theorem gX10_told_X10_scoreNow : GoodIn wsX10_told (wsV RX10 314 RX10 yX10_scoreNow wsX10_scoreNow) := goodIn_app (goodIn_of _ (by decide +kernel)) ggX10_told_X10_scoreNow
theorem dX10_told_0 : decode cX10_told 0 = .ok (.iload_n 1, 1) := by decide +kernel
theorem dX10_told_1 : decode cX10_told 1 = .ok (.tableswitch 122 0 10 #[59, 64, 69, 74, 79, 84, 97, 102, 107, 112, 117], 59) := by decide +kernel
theorem dX10_told_60 : decode cX10_told 60 = .ok (.aload_n 0, 1) := by decide +kernel
theorem dX10_told_61 : decode cX10_told 61 = .ok (.getfield 165, 3) := by decide +kernel
theorem dX10_told_64 : decode cX10_told 64 = .ok (.ireturn, 1) := by decide +kernel
theorem dX10_told_65 : decode cX10_told 65 = .ok (.aload_n 0, 1) := by decide +kernel
theorem dX10_told_66 : decode cX10_told 66 = .ok (.getfield 172, 3) := by decide +kernel
theorem dX10_told_69 : decode cX10_told 69 = .ok (.ireturn, 1) := by decide +kernel
theorem dX10_told_70 : decode cX10_told 70 = .ok (.aload_n 0, 1) := by decide +kernel
theorem dX10_told_71 : decode cX10_told 71 = .ok (.getfield 175, 3) := by decide +kernel
theorem dX10_told_74 : decode cX10_told 74 = .ok (.ireturn, 1) := by decide +kernel
theorem dX10_told_75 : decode cX10_told 75 = .ok (.aload_n 0, 1) := by decide +kernel
theorem dX10_told_76 : decode cX10_told 76 = .ok (.getfield 31, 3) := by decide +kernel
theorem dX10_told_79 : decode cX10_told 79 = .ok (.ireturn, 1) := by decide +kernel
theorem dX10_told_80 : decode cX10_told 80 = .ok (.aload_n 0, 1) := by decide +kernel
theorem dX10_told_81 : decode cX10_told 81 = .ok (.invokevirtual 311, 3) := by decide +kernel
theorem dX10_told_84 : decode cX10_told 84 = .ok (.ireturn, 1) := by decide +kernel
theorem dX10_told_85 : decode cX10_told 85 = .ok (.aload_n 0, 1) := by decide +kernel
theorem dX10_told_86 : decode cX10_told 86 = .ok (.getfield 38, 3) := by decide +kernel
theorem dX10_told_89 : decode cX10_told 89 = .ok (.ifCond .eq 7, 3) := by decide +kernel
theorem dX10_told_92 : decode cX10_told 92 = .ok (.iconst 1, 1) := by decide +kernel
theorem dX10_told_93 : decode cX10_told 93 = .ok (.goto 4, 3) := by decide +kernel
theorem dX10_told_96 : decode cX10_told 96 = .ok (.iconst 0, 1) := by decide +kernel
theorem dX10_told_97 : decode cX10_told 97 = .ok (.ireturn, 1) := by decide +kernel
theorem dX10_told_98 : decode cX10_told 98 = .ok (.aload_n 0, 1) := by decide +kernel
theorem dX10_told_99 : decode cX10_told 99 = .ok (.getfield 178, 3) := by decide +kernel
theorem dX10_told_102 : decode cX10_told 102 = .ok (.ireturn, 1) := by decide +kernel
theorem dX10_told_103 : decode cX10_told 103 = .ok (.aload_n 0, 1) := by decide +kernel
theorem dX10_told_104 : decode cX10_told 104 = .ok (.getfield 181, 3) := by decide +kernel
theorem dX10_told_107 : decode cX10_told 107 = .ok (.ireturn, 1) := by decide +kernel
theorem dX10_told_108 : decode cX10_told 108 = .ok (.aload_n 0, 1) := by decide +kernel
theorem dX10_told_109 : decode cX10_told 109 = .ok (.getfield 187, 3) := by decide +kernel
theorem dX10_told_112 : decode cX10_told 112 = .ok (.ireturn, 1) := by decide +kernel
theorem dX10_told_113 : decode cX10_told 113 = .ok (.aload_n 0, 1) := by decide +kernel
theorem dX10_told_114 : decode cX10_told 114 = .ok (.getfield 288, 3) := by decide +kernel
theorem dX10_told_117 : decode cX10_told 117 = .ok (.ireturn, 1) := by decide +kernel
theorem dX10_told_118 : decode cX10_told 118 = .ok (.aload_n 0, 1) := by decide +kernel
theorem dX10_told_119 : decode cX10_told 119 = .ok (.invokevirtual 314, 3) := by decide +kernel
theorem dX10_told_122 : decode cX10_told 122 = .ok (.ireturn, 1) := by decide +kernel
theorem dX10_told_123 : decode cX10_told 123 = .ok (.ldc 186, 2) := by decide +kernel
theorem dX10_told_125 : decode cX10_told 125 = .ok (.ireturn, 1) := by decide +kernel
set_option maxRecDepth 20000 in
theorem ggX10_noiseAt_X10_in : GoodIn wsX10_noiseAt wsX10_in := goodIn_r _ [6] rfl (by decide +kernel)
set_option maxRecDepth 20000 in
theorem gX10_noiseAt_X10_in : GoodIn wsX10_noiseAt (va_wsS RX10 168 yX10_in wsX10_in) := goodIn_app (goodIn_of _ (by decide +kernel)) ggX10_noiseAt_X10_in
theorem dX10_noiseAt_0 : decode cX10_noiseAt 0 = .ok (.iconst 0, 1) := by decide +kernel
theorem dX10_noiseAt_1 : decode cX10_noiseAt 1 = .ok (.istore_n 3, 1) := by decide +kernel
theorem dX10_noiseAt_2 : decode cX10_noiseAt 2 = .ok (.iconst 0, 1) := by decide +kernel
theorem dX10_noiseAt_3 : decode cX10_noiseAt 3 = .ok (.istore 4, 2) := by decide +kernel
theorem dX10_noiseAt_5 : decode cX10_noiseAt 5 = .ok (.iload 4, 2) := by decide +kernel
theorem dX10_noiseAt_7 : decode cX10_noiseAt 7 = .ok (.aload_n 0, 1) := by decide +kernel
theorem dX10_noiseAt_8 : decode cX10_noiseAt 8 = .ok (.getfield 285, 3) := by decide +kernel
theorem dX10_noiseAt_11 : decode cX10_noiseAt 11 = .ok (.if_icmp .ge 72, 3) := by decide +kernel
theorem dX10_noiseAt_14 : decode cX10_noiseAt 14 = .ok (.iload_n 3, 1) := by decide +kernel
theorem dX10_noiseAt_15 : decode cX10_noiseAt 15 = .ok (.aload_n 0, 1) := by decide +kernel
theorem dX10_noiseAt_16 : decode cX10_noiseAt 16 = .ok (.getfield 25, 3) := by decide +kernel
theorem dX10_noiseAt_19 : decode cX10_noiseAt 19 = .ok (.iconst 4, 1) := by decide +kernel
theorem dX10_noiseAt_20 : decode cX10_noiseAt 20 = .ok (.iload 4, 2) := by decide +kernel
theorem dX10_noiseAt_22 : decode cX10_noiseAt 22 = .ok (.imul, 1) := by decide +kernel
theorem dX10_noiseAt_23 : decode cX10_noiseAt 23 = .ok (.iaload, 1) := by decide +kernel
theorem dX10_noiseAt_24 : decode cX10_noiseAt 24 = .ok (.iload_n 1, 1) := by decide +kernel
theorem dX10_noiseAt_25 : decode cX10_noiseAt 25 = .ok (.if_icmp .ne 49, 3) := by decide +kernel
theorem dX10_noiseAt_28 : decode cX10_noiseAt 28 = .ok (.iload_n 2, 1) := by decide +kernel
theorem dX10_noiseAt_29 : decode cX10_noiseAt 29 = .ok (.i2l, 1) := by decide +kernel
theorem dX10_noiseAt_30 : decode cX10_noiseAt 30 = .ok (.aload_n 0, 1) := by decide +kernel
theorem dX10_noiseAt_31 : decode cX10_noiseAt 31 = .ok (.getfield 25, 3) := by decide +kernel
theorem dX10_noiseAt_34 : decode cX10_noiseAt 34 = .ok (.iconst 4, 1) := by decide +kernel
theorem dX10_noiseAt_35 : decode cX10_noiseAt 35 = .ok (.iload 4, 2) := by decide +kernel
theorem dX10_noiseAt_37 : decode cX10_noiseAt 37 = .ok (.imul, 1) := by decide +kernel
theorem dX10_noiseAt_38 : decode cX10_noiseAt 38 = .ok (.iconst 1, 1) := by decide +kernel
theorem dX10_noiseAt_39 : decode cX10_noiseAt 39 = .ok (.iadd, 1) := by decide +kernel
theorem dX10_noiseAt_40 : decode cX10_noiseAt 40 = .ok (.iaload, 1) := by decide +kernel
theorem dX10_noiseAt_41 : decode cX10_noiseAt 41 = .ok (.i2l, 1) := by decide +kernel
theorem dX10_noiseAt_42 : decode cX10_noiseAt 42 = .ok (.aload_n 0, 1) := by decide +kernel
theorem dX10_noiseAt_43 : decode cX10_noiseAt 43 = .ok (.getfield 25, 3) := by decide +kernel
theorem dX10_noiseAt_46 : decode cX10_noiseAt 46 = .ok (.iconst 4, 1) := by decide +kernel
theorem dX10_noiseAt_47 : decode cX10_noiseAt 47 = .ok (.iload 4, 2) := by decide +kernel
theorem dX10_noiseAt_49 : decode cX10_noiseAt 49 = .ok (.imul, 1) := by decide +kernel
theorem dX10_noiseAt_50 : decode cX10_noiseAt 50 = .ok (.iconst 2, 1) := by decide +kernel
theorem dX10_noiseAt_51 : decode cX10_noiseAt 51 = .ok (.iadd, 1) := by decide +kernel
theorem dX10_noiseAt_52 : decode cX10_noiseAt 52 = .ok (.iaload, 1) := by decide +kernel
theorem dX10_noiseAt_53 : decode cX10_noiseAt 53 = .ok (.i2l, 1) := by decide +kernel
theorem dX10_noiseAt_54 : decode cX10_noiseAt 54 = .ok (.invokestatic 168, 3) := by decide +kernel
theorem dX10_noiseAt_57 : decode cX10_noiseAt 57 = .ok (.ifCond .eq 17, 3) := by decide +kernel
theorem dX10_noiseAt_60 : decode cX10_noiseAt 60 = .ok (.aload_n 0, 1) := by decide +kernel
theorem dX10_noiseAt_61 : decode cX10_noiseAt 61 = .ok (.getfield 25, 3) := by decide +kernel
theorem dX10_noiseAt_64 : decode cX10_noiseAt 64 = .ok (.iconst 4, 1) := by decide +kernel
theorem dX10_noiseAt_65 : decode cX10_noiseAt 65 = .ok (.iload 4, 2) := by decide +kernel
theorem dX10_noiseAt_67 : decode cX10_noiseAt 67 = .ok (.imul, 1) := by decide +kernel
theorem dX10_noiseAt_68 : decode cX10_noiseAt 68 = .ok (.iconst 3, 1) := by decide +kernel
theorem dX10_noiseAt_69 : decode cX10_noiseAt 69 = .ok (.iadd, 1) := by decide +kernel
theorem dX10_noiseAt_70 : decode cX10_noiseAt 70 = .ok (.iaload, 1) := by decide +kernel
theorem dX10_noiseAt_71 : decode cX10_noiseAt 71 = .ok (.goto 4, 3) := by decide +kernel
theorem dX10_noiseAt_74 : decode cX10_noiseAt 74 = .ok (.iconst 0, 1) := by decide +kernel
theorem dX10_noiseAt_75 : decode cX10_noiseAt 75 = .ok (.iadd, 1) := by decide +kernel
theorem dX10_noiseAt_76 : decode cX10_noiseAt 76 = .ok (.istore_n 3, 1) := by decide +kernel
theorem dX10_noiseAt_77 : decode cX10_noiseAt 77 = .ok (.iinc 4 1, 3) := by decide +kernel
theorem dX10_noiseAt_80 : decode cX10_noiseAt 80 = .ok (.goto (-75), 3) := by decide +kernel
theorem dX10_noiseAt_83 : decode cX10_noiseAt 83 = .ok (.iload_n 3, 1) := by decide +kernel
theorem dX10_noiseAt_84 : decode cX10_noiseAt 84 = .ok (.ireturn, 1) := by decide +kernel
set_option maxRecDepth 20000 in
theorem ggX10_noise_X10_in : GoodIn wsX10_noise wsX10_in := goodIn_r _ [7] rfl (by decide +kernel)
set_option maxRecDepth 20000 in
theorem gX10_noise_X10_in : GoodIn wsX10_noise (va_wsS RX10 168 yX10_in wsX10_in) := goodIn_app (goodIn_of _ (by decide +kernel)) ggX10_noise_X10_in
set_option maxRecDepth 20000 in
theorem ggX10_noise_X10_noiseAt : GoodIn wsX10_noise wsX10_noiseAt := goodIn_r _ [11, 12, 13, 4, 5, 6, 7, 14, 15, 16, 17, 18, 19, 20, 21, 22, 23, 24, 25, 26, 27, 28, 29, 30, 31, 32, 33, 34, 35, 36, 37, 38, 39, 40, 41, 42, 43, 44, 45, 46, 47, 48, 49, 50, 51, 52, 53, 54, 55, 56, 57, 58, 59, 60, 61, 62, 63, 64, 65, 66, 67, 68, 69, 70, 71, 72, 73, 74, 75, 76, 77, 78, 79, 80, 81, 82, 83, 84, 85, 86] rfl (by decide +kernel)
set_option maxRecDepth 20000 in
theorem gX10_noise_X10_noiseAt : GoodIn wsX10_noise (wsV RX10 338 RX10 yX10_noiseAt wsX10_noiseAt) := goodIn_app (goodIn_of _ (by decide +kernel)) ggX10_noise_X10_noiseAt
theorem dX10_noise_0 : decode cX10_noise 0 = .ok (.iload_n 1, 1) := by decide +kernel
theorem dX10_noise_1 : decode cX10_noise 1 = .ok (.i2l, 1) := by decide +kernel
theorem dX10_noise_2 : decode cX10_noise 2 = .ok (.lconst 0, 1) := by decide +kernel
theorem dX10_noise_3 : decode cX10_noise 3 = .ok (.ldc2_w 334, 3) := by decide +kernel
theorem dX10_noise_6 : decode cX10_noise 6 = .ok (.invokestatic 168, 3) := by decide +kernel
theorem dX10_noise_9 : decode cX10_noise 9 = .ok (.ifCond .eq 24, 3) := by decide +kernel
theorem dX10_noise_12 : decode cX10_noise 12 = .ok (.iload_n 2, 1) := by decide +kernel
theorem dX10_noise_13 : decode cX10_noise 13 = .ok (.i2l, 1) := by decide +kernel
theorem dX10_noise_14 : decode cX10_noise 14 = .ok (.lconst 0, 1) := by decide +kernel
theorem dX10_noise_15 : decode cX10_noise 15 = .ok (.ldc2_w 336, 3) := by decide +kernel
theorem dX10_noise_18 : decode cX10_noise 18 = .ok (.invokestatic 168, 3) := by decide +kernel
theorem dX10_noise_21 : decode cX10_noise 21 = .ok (.ifCond .eq 12, 3) := by decide +kernel
theorem dX10_noise_24 : decode cX10_noise 24 = .ok (.aload_n 0, 1) := by decide +kernel
theorem dX10_noise_25 : decode cX10_noise 25 = .ok (.iload_n 1, 1) := by decide +kernel
theorem dX10_noise_26 : decode cX10_noise 26 = .ok (.iload_n 2, 1) := by decide +kernel
theorem dX10_noise_27 : decode cX10_noise 27 = .ok (.invokevirtual 338, 3) := by decide +kernel
theorem dX10_noise_30 : decode cX10_noise 30 = .ok (.goto 5, 3) := by decide +kernel
theorem dX10_noise_33 : decode cX10_noise 33 = .ok (.ldc 186, 2) := by decide +kernel
theorem dX10_noise_35 : decode cX10_noise 35 = .ok (.ireturn, 1) := by decide +kernel
set_option maxRecDepth 20000 in
theorem ggX10_goBack_X10_in : GoodIn wsX10_goBack wsX10_in := goodIn_r _ [19] rfl (by decide +kernel)
set_option maxRecDepth 20000 in
theorem gX10_goBack_X10_in : GoodIn wsX10_goBack (va_wsS RX10 168 yX10_in wsX10_in) := goodIn_app (goodIn_of _ (by decide +kernel)) ggX10_goBack_X10_in
theorem dX10_goBack_0 : decode cX10_goBack 0 = .ok (.iload_n 1, 1) := by decide +kernel
theorem dX10_goBack_1 : decode cX10_goBack 1 = .ok (.i2l, 1) := by decide +kernel
theorem dX10_goBack_2 : decode cX10_goBack 2 = .ok (.lconst 0, 1) := by decide +kernel
theorem dX10_goBack_3 : decode cX10_goBack 3 = .ok (.lconst 1, 1) := by decide +kernel
theorem dX10_goBack_4 : decode cX10_goBack 4 = .ok (.invokestatic 168, 3) := by decide +kernel
theorem dX10_goBack_7 : decode cX10_goBack 7 = .ok (.ifCond .ne 7, 3) := by decide +kernel
theorem dX10_goBack_10 : decode cX10_goBack 10 = .ok (.ldc_w 321, 3) := by decide +kernel
theorem dX10_goBack_13 : decode cX10_goBack 13 = .ok (.ireturn, 1) := by decide +kernel
theorem dX10_goBack_14 : decode cX10_goBack 14 = .ok (.aload_n 0, 1) := by decide +kernel
theorem dX10_goBack_15 : decode cX10_goBack 15 = .ok (.getfield 155, 3) := by decide +kernel
theorem dX10_goBack_18 : decode cX10_goBack 18 = .ok (.iload_n 1, 1) := by decide +kernel
theorem dX10_goBack_19 : decode cX10_goBack 19 = .ok (.baload, 1) := by decide +kernel
theorem dX10_goBack_20 : decode cX10_goBack 20 = .ok (.ifCond .ne 7, 3) := by decide +kernel
theorem dX10_goBack_23 : decode cX10_goBack 23 = .ok (.ldc_w 304, 3) := by decide +kernel
theorem dX10_goBack_26 : decode cX10_goBack 26 = .ok (.ireturn, 1) := by decide +kernel
theorem dX10_goBack_27 : decode cX10_goBack 27 = .ok (.bipush 30, 2) := by decide +kernel
theorem dX10_goBack_29 : decode cX10_goBack 29 = .ok (.iload_n 1, 1) := by decide +kernel
theorem dX10_goBack_30 : decode cX10_goBack 30 = .ok (.imul, 1) := by decide +kernel
theorem dX10_goBack_31 : decode cX10_goBack 31 = .ok (.istore_n 2, 1) := by decide +kernel
theorem dX10_goBack_32 : decode cX10_goBack 32 = .ok (.iconst 0, 1) := by decide +kernel
theorem dX10_goBack_33 : decode cX10_goBack 33 = .ok (.istore_n 3, 1) := by decide +kernel
theorem dX10_goBack_34 : decode cX10_goBack 34 = .ok (.iload_n 3, 1) := by decide +kernel
theorem dX10_goBack_35 : decode cX10_goBack 35 = .ok (.iconst 3, 1) := by decide +kernel
theorem dX10_goBack_36 : decode cX10_goBack 36 = .ok (.if_icmp .ge 141, 3) := by decide +kernel
theorem dX10_goBack_39 : decode cX10_goBack 39 = .ok (.aload_n 0, 1) := by decide +kernel
theorem dX10_goBack_40 : decode cX10_goBack 40 = .ok (.getfield 42, 3) := by decide +kernel
theorem dX10_goBack_43 : decode cX10_goBack 43 = .ok (.iload_n 3, 1) := by decide +kernel
theorem dX10_goBack_44 : decode cX10_goBack 44 = .ok (.aload_n 0, 1) := by decide +kernel
theorem dX10_goBack_45 : decode cX10_goBack 45 = .ok (.getfield 152, 3) := by decide +kernel
theorem dX10_goBack_48 : decode cX10_goBack 48 = .ok (.iload_n 2, 1) := by decide +kernel
theorem dX10_goBack_49 : decode cX10_goBack 49 = .ok (.iload_n 3, 1) := by decide +kernel
theorem dX10_goBack_50 : decode cX10_goBack 50 = .ok (.iadd, 1) := by decide +kernel
theorem dX10_goBack_51 : decode cX10_goBack 51 = .ok (.iaload, 1) := by decide +kernel
theorem dX10_goBack_52 : decode cX10_goBack 52 = .ok (.iastore, 1) := by decide +kernel
theorem dX10_goBack_53 : decode cX10_goBack 53 = .ok (.aload_n 0, 1) := by decide +kernel
theorem dX10_goBack_54 : decode cX10_goBack 54 = .ok (.getfield 45, 3) := by decide +kernel
theorem dX10_goBack_57 : decode cX10_goBack 57 = .ok (.iload_n 3, 1) := by decide +kernel
theorem dX10_goBack_58 : decode cX10_goBack 58 = .ok (.aload_n 0, 1) := by decide +kernel
theorem dX10_goBack_59 : decode cX10_goBack 59 = .ok (.getfield 152, 3) := by decide +kernel
theorem dX10_goBack_62 : decode cX10_goBack 62 = .ok (.iload_n 2, 1) := by decide +kernel
theorem dX10_goBack_63 : decode cX10_goBack 63 = .ok (.iconst 3, 1) := by decide +kernel
theorem dX10_goBack_64 : decode cX10_goBack 64 = .ok (.iadd, 1) := by decide +kernel
theorem dX10_goBack_65 : decode cX10_goBack 65 = .ok (.iload_n 3, 1) := by decide +kernel
theorem dX10_goBack_66 : decode cX10_goBack 66 = .ok (.iadd, 1) := by decide +kernel
theorem dX10_goBack_67 : decode cX10_goBack 67 = .ok (.iaload, 1) := by decide +kernel
theorem dX10_goBack_68 : decode cX10_goBack 68 = .ok (.iastore, 1) := by decide +kernel
theorem dX10_goBack_69 : decode cX10_goBack 69 = .ok (.aload_n 0, 1) := by decide +kernel
theorem dX10_goBack_70 : decode cX10_goBack 70 = .ok (.getfield 48, 3) := by decide +kernel
theorem dX10_goBack_73 : decode cX10_goBack 73 = .ok (.iload_n 3, 1) := by decide +kernel
theorem dX10_goBack_74 : decode cX10_goBack 74 = .ok (.aload_n 0, 1) := by decide +kernel
theorem dX10_goBack_75 : decode cX10_goBack 75 = .ok (.getfield 152, 3) := by decide +kernel
theorem dX10_goBack_78 : decode cX10_goBack 78 = .ok (.iload_n 2, 1) := by decide +kernel
theorem dX10_goBack_79 : decode cX10_goBack 79 = .ok (.bipush 6, 2) := by decide +kernel
theorem dX10_goBack_81 : decode cX10_goBack 81 = .ok (.iadd, 1) := by decide +kernel
theorem dX10_goBack_82 : decode cX10_goBack 82 = .ok (.iload_n 3, 1) := by decide +kernel
theorem dX10_goBack_83 : decode cX10_goBack 83 = .ok (.iadd, 1) := by decide +kernel
theorem dX10_goBack_84 : decode cX10_goBack 84 = .ok (.iaload, 1) := by decide +kernel
theorem dX10_goBack_85 : decode cX10_goBack 85 = .ok (.iastore, 1) := by decide +kernel
theorem dX10_goBack_86 : decode cX10_goBack 86 = .ok (.aload_n 0, 1) := by decide +kernel
theorem dX10_goBack_87 : decode cX10_goBack 87 = .ok (.getfield 51, 3) := by decide +kernel
theorem dX10_goBack_90 : decode cX10_goBack 90 = .ok (.iload_n 3, 1) := by decide +kernel
theorem dX10_goBack_91 : decode cX10_goBack 91 = .ok (.aload_n 0, 1) := by decide +kernel
theorem dX10_goBack_92 : decode cX10_goBack 92 = .ok (.getfield 152, 3) := by decide +kernel
theorem dX10_goBack_95 : decode cX10_goBack 95 = .ok (.iload_n 2, 1) := by decide +kernel
theorem dX10_goBack_96 : decode cX10_goBack 96 = .ok (.bipush 9, 2) := by decide +kernel
theorem dX10_goBack_98 : decode cX10_goBack 98 = .ok (.iadd, 1) := by decide +kernel
theorem dX10_goBack_99 : decode cX10_goBack 99 = .ok (.iload_n 3, 1) := by decide +kernel
theorem dX10_goBack_100 : decode cX10_goBack 100 = .ok (.iadd, 1) := by decide +kernel
theorem dX10_goBack_101 : decode cX10_goBack 101 = .ok (.iaload, 1) := by decide +kernel
theorem dX10_goBack_102 : decode cX10_goBack 102 = .ok (.iastore, 1) := by decide +kernel
theorem dX10_goBack_103 : decode cX10_goBack 103 = .ok (.aload_n 0, 1) := by decide +kernel
theorem dX10_goBack_104 : decode cX10_goBack 104 = .ok (.getfield 54, 3) := by decide +kernel
theorem dX10_goBack_107 : decode cX10_goBack 107 = .ok (.iload_n 3, 1) := by decide +kernel
theorem dX10_goBack_108 : decode cX10_goBack 108 = .ok (.aload_n 0, 1) := by decide +kernel
theorem dX10_goBack_109 : decode cX10_goBack 109 = .ok (.getfield 152, 3) := by decide +kernel
theorem dX10_goBack_112 : decode cX10_goBack 112 = .ok (.iload_n 2, 1) := by decide +kernel
theorem dX10_goBack_113 : decode cX10_goBack 113 = .ok (.bipush 12, 2) := by decide +kernel
theorem dX10_goBack_115 : decode cX10_goBack 115 = .ok (.iadd, 1) := by decide +kernel
theorem dX10_goBack_116 : decode cX10_goBack 116 = .ok (.iload_n 3, 1) := by decide +kernel
theorem dX10_goBack_117 : decode cX10_goBack 117 = .ok (.iadd, 1) := by decide +kernel
theorem dX10_goBack_118 : decode cX10_goBack 118 = .ok (.iaload, 1) := by decide +kernel
theorem dX10_goBack_119 : decode cX10_goBack 119 = .ok (.iastore, 1) := by decide +kernel
theorem dX10_goBack_120 : decode cX10_goBack 120 = .ok (.aload_n 0, 1) := by decide +kernel
theorem dX10_goBack_121 : decode cX10_goBack 121 = .ok (.getfield 57, 3) := by decide +kernel
theorem dX10_goBack_124 : decode cX10_goBack 124 = .ok (.iload_n 3, 1) := by decide +kernel
theorem dX10_goBack_125 : decode cX10_goBack 125 = .ok (.aload_n 0, 1) := by decide +kernel
theorem dX10_goBack_126 : decode cX10_goBack 126 = .ok (.getfield 152, 3) := by decide +kernel
theorem dX10_goBack_129 : decode cX10_goBack 129 = .ok (.iload_n 2, 1) := by decide +kernel
theorem dX10_goBack_130 : decode cX10_goBack 130 = .ok (.bipush 15, 2) := by decide +kernel
theorem dX10_goBack_132 : decode cX10_goBack 132 = .ok (.iadd, 1) := by decide +kernel
theorem dX10_goBack_133 : decode cX10_goBack 133 = .ok (.iload_n 3, 1) := by decide +kernel
theorem dX10_goBack_134 : decode cX10_goBack 134 = .ok (.iadd, 1) := by decide +kernel
theorem dX10_goBack_135 : decode cX10_goBack 135 = .ok (.iaload, 1) := by decide +kernel
theorem dX10_goBack_136 : decode cX10_goBack 136 = .ok (.iastore, 1) := by decide +kernel
theorem dX10_goBack_137 : decode cX10_goBack 137 = .ok (.aload_n 0, 1) := by decide +kernel
theorem dX10_goBack_138 : decode cX10_goBack 138 = .ok (.getfield 60, 3) := by decide +kernel
theorem dX10_goBack_141 : decode cX10_goBack 141 = .ok (.iload_n 3, 1) := by decide +kernel
theorem dX10_goBack_142 : decode cX10_goBack 142 = .ok (.aload_n 0, 1) := by decide +kernel
theorem dX10_goBack_143 : decode cX10_goBack 143 = .ok (.getfield 152, 3) := by decide +kernel
theorem dX10_goBack_146 : decode cX10_goBack 146 = .ok (.iload_n 2, 1) := by decide +kernel
theorem dX10_goBack_147 : decode cX10_goBack 147 = .ok (.bipush 18, 2) := by decide +kernel
theorem dX10_goBack_149 : decode cX10_goBack 149 = .ok (.iadd, 1) := by decide +kernel
theorem dX10_goBack_150 : decode cX10_goBack 150 = .ok (.iload_n 3, 1) := by decide +kernel
theorem dX10_goBack_151 : decode cX10_goBack 151 = .ok (.iadd, 1) := by decide +kernel
theorem dX10_goBack_152 : decode cX10_goBack 152 = .ok (.iaload, 1) := by decide +kernel
theorem dX10_goBack_153 : decode cX10_goBack 153 = .ok (.iastore, 1) := by decide +kernel
theorem dX10_goBack_154 : decode cX10_goBack 154 = .ok (.aload_n 0, 1) := by decide +kernel
theorem dX10_goBack_155 : decode cX10_goBack 155 = .ok (.getfield 63, 3) := by decide +kernel
theorem dX10_goBack_158 : decode cX10_goBack 158 = .ok (.iload_n 3, 1) := by decide +kernel
theorem dX10_goBack_159 : decode cX10_goBack 159 = .ok (.aload_n 0, 1) := by decide +kernel
theorem dX10_goBack_160 : decode cX10_goBack 160 = .ok (.getfield 152, 3) := by decide +kernel
theorem dX10_goBack_163 : decode cX10_goBack 163 = .ok (.iload_n 2, 1) := by decide +kernel
theorem dX10_goBack_164 : decode cX10_goBack 164 = .ok (.bipush 21, 2) := by decide +kernel
theorem dX10_goBack_166 : decode cX10_goBack 166 = .ok (.iadd, 1) := by decide +kernel
theorem dX10_goBack_167 : decode cX10_goBack 167 = .ok (.iload_n 3, 1) := by decide +kernel
theorem dX10_goBack_168 : decode cX10_goBack 168 = .ok (.iadd, 1) := by decide +kernel
theorem dX10_goBack_169 : decode cX10_goBack 169 = .ok (.iaload, 1) := by decide +kernel
theorem dX10_goBack_170 : decode cX10_goBack 170 = .ok (.iastore, 1) := by decide +kernel
theorem dX10_goBack_171 : decode cX10_goBack 171 = .ok (.iinc 3 1, 3) := by decide +kernel
theorem dX10_goBack_174 : decode cX10_goBack 174 = .ok (.goto (-140), 3) := by decide +kernel
theorem dX10_goBack_177 : decode cX10_goBack 177 = .ok (.aload_n 0, 1) := by decide +kernel
theorem dX10_goBack_178 : decode cX10_goBack 178 = .ok (.aload_n 0, 1) := by decide +kernel
theorem dX10_goBack_179 : decode cX10_goBack 179 = .ok (.getfield 152, 3) := by decide +kernel
theorem dX10_goBack_182 : decode cX10_goBack 182 = .ok (.iload_n 2, 1) := by decide +kernel
theorem dX10_goBack_183 : decode cX10_goBack 183 = .ok (.bipush 24, 2) := by decide +kernel
theorem dX10_goBack_185 : decode cX10_goBack 185 = .ok (.iadd, 1) := by decide +kernel
theorem dX10_goBack_186 : decode cX10_goBack 186 = .ok (.iaload, 1) := by decide +kernel
theorem dX10_goBack_187 : decode cX10_goBack 187 = .ok (.putfield 178, 3) := by decide +kernel
theorem dX10_goBack_190 : decode cX10_goBack 190 = .ok (.aload_n 0, 1) := by decide +kernel
theorem dX10_goBack_191 : decode cX10_goBack 191 = .ok (.aload_n 0, 1) := by decide +kernel
theorem dX10_goBack_192 : decode cX10_goBack 192 = .ok (.getfield 152, 3) := by decide +kernel
theorem dX10_goBack_195 : decode cX10_goBack 195 = .ok (.iload_n 2, 1) := by decide +kernel
theorem dX10_goBack_196 : decode cX10_goBack 196 = .ok (.bipush 25, 2) := by decide +kernel
theorem dX10_goBack_198 : decode cX10_goBack 198 = .ok (.iadd, 1) := by decide +kernel
theorem dX10_goBack_199 : decode cX10_goBack 199 = .ok (.iaload, 1) := by decide +kernel
theorem dX10_goBack_200 : decode cX10_goBack 200 = .ok (.putfield 181, 3) := by decide +kernel
theorem dX10_goBack_203 : decode cX10_goBack 203 = .ok (.aload_n 0, 1) := by decide +kernel
theorem dX10_goBack_204 : decode cX10_goBack 204 = .ok (.aload_n 0, 1) := by decide +kernel
theorem dX10_goBack_205 : decode cX10_goBack 205 = .ok (.getfield 152, 3) := by decide +kernel
theorem dX10_goBack_208 : decode cX10_goBack 208 = .ok (.iload_n 2, 1) := by decide +kernel
theorem dX10_goBack_209 : decode cX10_goBack 209 = .ok (.bipush 26, 2) := by decide +kernel
theorem dX10_goBack_211 : decode cX10_goBack 211 = .ok (.iadd, 1) := by decide +kernel
theorem dX10_goBack_212 : decode cX10_goBack 212 = .ok (.iaload, 1) := by decide +kernel
theorem dX10_goBack_213 : decode cX10_goBack 213 = .ok (.putfield 352, 3) := by decide +kernel
theorem dX10_goBack_216 : decode cX10_goBack 216 = .ok (.iconst 1, 1) := by decide +kernel
theorem dX10_goBack_217 : decode cX10_goBack 217 = .ok (.ireturn, 1) := by decide +kernel
theorem lg_lt (x y : Int64) : lg_cmp x y < 0 ↔ x < y := by
  unfold lg_cmp
  by_cases h1 : y < x
  · have h2 : ¬ x < y := fun q => by
      have a1 := Int64.lt_iff_toInt_lt.mp h1
      have a2 := Int64.lt_iff_toInt_lt.mp q
      omega
    simp [h1, h2]
  · by_cases h3 : x = y
    · subst h3
      simp [h1]
    · have h2 : x < y := Int64.lt_iff_toInt_lt.mpr (by
        have a1 := mt Int64.lt_iff_toInt_lt.mpr h1
        have a2 := mt Int64.toInt_inj.mp h3
        omega)
      simp [h1, h3, h2]
theorem lg_gt (x y : Int64) : 0 < lg_cmp x y ↔ y < x := by
  unfold lg_cmp
  by_cases h1 : y < x
  · simp [h1]
  · by_cases h3 : x = y
    · subst h3
      simp [h1]
    · simp [h1, h3]
theorem wide_lt (a b : Int32) : a.toInt64 < b.toInt64 ↔ a < b := by rw [Int64.lt_iff_toInt_lt, Int32.lt_iff_toInt_lt, Int32.toInt_toInt64, Int32.toInt_toInt64]
def inA (v a b : Int64) : Int32 := if v < a then 0 else if b < v then 0 else 1
theorem in_eq {n a b : Int32} {x y : Int64} (hx : a.toInt64 = x) (hy : b.toInt64 = y) (h : inA n.toInt64 x y = 0) : n < a ∨ b < n := by
  subst hx; subst hy
  unfold inA at h
  by_cases h1 : n.toInt64 < a.toInt64
  · exact Or.inl ((wide_lt _ _).mp h1)
  · by_cases h2 : b.toInt64 < n.toInt64
    · exact Or.inr ((wide_lt _ _).mp h2)
    · rw [if_neg h1, if_neg h2] at h
      exact absurd h (by decide)
theorem in_ne {n a b : Int32} {x y : Int64} (hx : a.toInt64 = x) (hy : b.toInt64 = y) (h : ¬ inA n.toInt64 x y = 0) : ¬ n < a ∧ n ≤ b := by
  subst hx; subst hy
  unfold inA at h
  by_cases h1 : n.toInt64 < a.toInt64
  · rw [if_pos h1] at h
    exact absurd rfl h
  · by_cases h2 : b.toInt64 < n.toInt64
    · rw [if_neg h1, if_pos h2] at h
      exact absurd rfl h
    · exact ⟨fun q => h1 ((wide_lt _ _).mpr q), Int32.not_lt.mp (fun q => h2 ((wide_lt _ _).mpr q))⟩
theorem in_zero {n a b : Int32} {x y : Int64} (hx : a.toInt64 = x) (hy : b.toInt64 = y) (hba : b < a) : inA n.toInt64 x y = 0 := by
  subst hx; subst hy
  unfold inA
  by_cases h1 : n.toInt64 < a.toInt64
  · rw [if_pos h1]
  · rw [if_neg h1, if_pos ((wide_lt _ _).mpr (Int32.lt_of_lt_of_le hba (Int32.not_lt.mp (fun q => h1 ((wide_lt _ _).mpr q)))))]
theorem nle_of {a b : Int32} (h : b < a) : ¬ a ≤ b := fun q => Int32.lt_irrefl (Int32.lt_of_lt_of_le h q)
theorem fd_out {n : Int32} (h : n < 1 ∨ 8 < n) : fdA n = (-1000000002) := by
  rcases h with h | h
  · exact if_pos h
  · unfold fdA
    split
    · rfl
    · exact if_neg (nle_of h)
theorem ru_out {n : Int32} (h : n < 1 ∨ 100 < n) : ruA n = (-1000000002) := by
  rcases h with h | h
  · exact if_pos h
  · unfold ruA
    split
    · rfl
    · exact if_neg (nle_of h)
theorem ru_in {n : Int32} (h : ¬ n < 1 ∧ n ≤ 100) : ruA n = 0 := by rw [ruA, if_neg h.1, if_pos h.2]
theorem fd_in {n : Int32} (h : ¬ n < 1 ∧ n ≤ 8) : fdA n = n := by rw [fdA, if_neg h.1, if_pos h.2]
theorem ke_out {i : Int32} (h : i < 0 ∨ 1 < i) : keA i = (-1000000001) := by
  rcases h with h | h
  · exact if_pos h
  · unfold keA
    split
    · rfl
    · refine if_neg (fun q => ?_)
      rw [Int32.lt_iff_toInt_lt] at h q
      simp at h q
      omega
theorem gb_out {i : Int32} (h : i < 0 ∨ 1 < i) : gbA i = (-1000000001) := by
  rcases h with h | h
  · exact if_pos h
  · unfold gbA
    split
    · rfl
    · refine if_neg (fun q => ?_)
      rw [Int32.lt_iff_toInt_lt] at h q
      simp at h q
      omega
theorem lt2_of {i : Int32} (h : i ≤ 1) : i < 2 := by
  rw [Int32.le_iff_toInt_le] at h
  rw [Int32.lt_iff_toInt_lt]
  simp at h ⊢
  omega
theorem ke_in {i : Int32} (h : ¬ i < 0 ∧ i ≤ 1) : keA i = 1 := by rw [keA, if_neg h.1, if_pos (lt2_of h.2)]
theorem gb_in {i : Int32} (h : ¬ i < 0 ∧ i ≤ 1) : gbA i = (-1000000003) := by rw [gbA, if_neg h.1, if_pos (lt2_of h.2)]
theorem no_out1 {a b : Int32} (h : a < 0 ∨ 3 < a) : noA a b = (-1000000002) := by
  unfold noA
  split
  · rfl
  · rename_i h0
    rcases h with h | h
    · exact absurd h h0
    · refine if_pos ?_
      rw [Int32.lt_iff_toInt_lt] at h
      rw [Int32.le_iff_toInt_le]
      simp at h ⊢
      omega
theorem no_out2 {a b : Int32} (h : b < 0 ∨ 999 < b) : noA a b = (-1000000002) := by
  unfold noA
  split
  · rfl
  · split
    · rfl
    · split
      · rfl
      · rename_i h0
        rcases h with h | h
        · exact absurd h h0
        · exact if_neg (nle_of h)
theorem no_in {a b : Int32} (h : ¬ a < 0 ∧ a ≤ 3) (h2 : ¬ b < 0 ∧ b ≤ 999) : noA a b = 0 := by
  rw [noA, if_neg h.1, if_neg, if_neg h2.1, if_pos h2.2]
  intro q
  have h3 := h.2
  rw [Int32.le_iff_toInt_le] at h3 q
  simp at h3 q
  omega

abbrev c_X10_in (k : Nat → ClassId) (v0 : Int64) (v1 : Int64) (v2 : Int64) : va_W := []
abbrev r_X10_in : Room := { frames := 0, cells := 0, slots := 0, locals := 0 }
abbrev q_X10_in (k : Nat → ClassId) (v0 : Int64) (v1 : Int64) (v2 : Int64) : Array Value → State → Outcome → State → Prop := vp_Si (fun r => r = inA v0 v1 v2)
set_option maxHeartbeats 2000000 in
set_option maxRecDepth 100000 in
theorem X10_in (l : Launch) (D : va_G) (k : Nat → ClassId) (v0 : Int64) (v1 : Int64) (v2 : Int64)  : Met l yX10_in wsX10_in r_X10_in (va_Pc [.long v0, .long v1, .long v2] (PS D k (c_X10_in k v0 v1 v2))) (q_X10_in k v0 v1 v2) 0 0 (fun _ => False) := by
  refine Met.ofW (cc := cX10_in) (maxL := 6) (ret := (some .boolean)) (by decide) rfl ?_
  intro p e s m args below meth c s₁ B hml hv
  obtain ⟨rfl, hP, hG⟩ := hv
  have hx := B.exec
  have hb := B.bytes
  have hr := B.returns
  have hts := atoms_spec (ws := wsX10_in) B.pre
  have hown : s.vm.findClass RX10 = some m.cls := findClass_of_methodNamed B.named
  have hlocks := B.notSynchronized
  have hP : va_P D vwCl [] s.heap := hP
  have hl := lv_entry ([.long v0, .long v1, .long v2]) (n := 6) (Nat.le_of_ble_eq_true rfl)
  rw [lg_entry_eq]
  generalize (lg_sl ([.long v0, .long v1, .long v2]) ++ List.replicate (6 - (lg_sl ([.long v0, .long v1, .long v2])).length) Slot.unset).toArray = ls at hl ⊢
  have hl : lv_has ls 6 [(0, .long v0), (2, .long v1), (4, .long v2)] := hl
  refine lv_lload_n hx hb dX10_in_0 rfl (lv_at hl 0 rfl) ?_
  refine lv_lload_n hx hb dX10_in_1 rfl (lv_at hl 1 rfl) ?_
  refine W.lcmp hx hb dX10_in_2 ?_
  refine lv_if_lt (x := lg_cmp v0 v1) (tgt := 17) hx hb dX10_in_3 (by decide) (fun c1 => ?_) (fun c1 => ?_)
  · skip
    have h1 := (lg_lt _ _).mp c1
    refine lv_iconst (v := 0) hx hb dX10_in_17 (by decide) ?_
    exact W.zret (v := 0) hx hb hr (rfl) (fun t9 ht _ => ⟨0, rfl, by first | (simp [inA, h1, h2]; done) | (simp [inA, h1]; done), ht⟩) (fun q h => by cases h) dX10_in_18
  · skip
    have h1 := mt (lg_lt _ _).mpr c1
    refine lv_lload_n hx hb dX10_in_6 rfl (lv_at hl 0 rfl) ?_
    refine lv_lload hx hb dX10_in_7 (lv_at hl 2 rfl) ?_
    refine W.lcmp hx hb dX10_in_9 ?_
    refine lv_if_gt (x := lg_cmp v0 v2) (tgt := 17) hx hb dX10_in_10 (by decide) (fun c2 => ?_) (fun c2 => ?_)
    · skip
      have h2 := (lg_gt _ _).mp c2
      refine lv_iconst (v := 0) hx hb dX10_in_17 (by decide) ?_
      exact W.zret (v := 0) hx hb hr (rfl) (fun t9 ht _ => ⟨0, rfl, by first | (simp [inA, h1, h2]; done) | (simp [inA, h1]; done), ht⟩) (fun q h => by cases h) dX10_in_18
    · skip
      have h2 := mt (lg_gt _ _).mpr c2
      refine lv_iconst (v := 1) hx hb dX10_in_13 (by decide) ?_
      refine lv_goto (tgt := 18) hx hb dX10_in_14 (by decide) ?_
      exact W.zret (v := 1) hx hb hr (rfl) (fun t9 ht _ => ⟨1, rfl, by first | (simp [inA, h1, h2]; done) | (simp [inA, h1]; done), ht⟩) (fun q h => by cases h) dX10_in_18

def bitsA (sb : Int32) : Int32 := ((((((0 + ((sb >>> ((0 : Int32) &&& 31)) &&& 1)) + ((sb >>> ((1 : Int32) &&& 31)) &&& 1)) + ((sb >>> ((2 : Int32) &&& 31)) &&& 1)) + ((sb >>> ((3 : Int32) &&& 31)) &&& 1)) + ((sb >>> ((4 : Int32) &&& 31)) &&& 1)) + ((sb >>> ((5 : Int32) &&& 31)) &&& 1)) + ((sb >>> ((6 : Int32) &&& 31)) &&& 1)
abbrev c_X10_bits (k : Nat → ClassId) (sb : Int32) : va_W := []
abbrev r_X10_bits : Room := { frames := 0, cells := 0, slots := 0, locals := 0 }
abbrev q_X10_bits (k : Nat → ClassId) (sb : Int32) : Array Value → State → Outcome → State → Prop := vp_Si (fun r => r = bitsA sb)
set_option maxHeartbeats 2000000 in
set_option maxRecDepth 100000 in
theorem X10_bits (l : Launch) (D : va_G) (k : Nat → ClassId) (sb : Int32)  : Met l yX10_bits wsX10_bits r_X10_bits (va_Pc [.int sb] (PS D k (c_X10_bits k sb))) (q_X10_bits k sb) 0 0 (fun _ => False) := by
  refine Met.ofW (cc := cX10_bits) (maxL := 3) (ret := (some .int)) (by decide) rfl ?_
  intro p e s m args below meth c s₁ B hml hv
  obtain ⟨rfl, hP, hG⟩ := hv
  have hx := B.exec
  have hb := B.bytes
  have hr := B.returns
  have hts := atoms_spec (ws := wsX10_bits) B.pre
  have hown : s.vm.findClass RX10 = some m.cls := findClass_of_methodNamed B.named
  have hlocks := B.notSynchronized
  have hP : va_P D vwCl [] s.heap := hP
  have hl := lv_entry ([.int sb]) (n := 3) (Nat.le_of_ble_eq_true rfl)
  rw [lg_entry_eq]
  generalize (lg_sl ([.int sb]) ++ List.replicate (3 - (lg_sl ([.int sb])).length) Slot.unset).toArray = ls at hl ⊢
  have hl : lv_has ls 3 [(0, .int sb)] := hl
  refine lv_iconst (v := 0) hx hb dX10_bits_0 (by decide) ?_
  refine lv_istore_n (lv' := [(1, .int 0), (0, .int sb)]) hx hb dX10_bits_1 rfl hl (by decide) rfl (fun ls hl => ?_)
  refine lv_iconst (v := 0) hx hb dX10_bits_2 (by decide) ?_
  refine lv_istore_n (lv' := [(2, .int 0), (1, .int 0), (0, .int sb)]) hx hb dX10_bits_3 rfl hl (by decide) rfl (fun ls hl => ?_)
  refine lv_iload_n hx hb dX10_bits_4 rfl (lv_at hl 0 rfl) ?_
  refine lv_bipush (v := 7) hx hb dX10_bits_5 (by decide) ?_
  refine lv_icmp_ge (x := 0) (y := 7) (tgt := 24) hx hb dX10_bits_7 (by decide) (fun c1 => absurd c1 (by decide)) (fun c1 => ?_)
  refine lv_iload_n hx hb dX10_bits_10 rfl (lv_at hl 1 rfl) ?_
  refine lv_iload_n hx hb dX10_bits_11 rfl (lv_at hl 2 rfl) ?_
  refine lv_iload_n hx hb dX10_bits_12 rfl (lv_at hl 0 rfl) ?_
  refine lv_ishr hx hb dX10_bits_13 ?_
  refine lv_iconst (v := 1) hx hb dX10_bits_14 (by decide) ?_
  refine lv_iand hx hb dX10_bits_15 ?_
  refine lv_iadd hx hb dX10_bits_16 ?_
  refine lv_istore_n (lv' := [(1, .int (0 + ((sb >>> ((0 : Int32) &&& 31)) &&& 1))), (2, .int 0), (0, .int sb)]) hx hb dX10_bits_17 rfl hl (by decide) rfl (fun ls hl => ?_)
  refine lv_iinc (v := 1) (lv' := [(2, .int 1), (1, .int (0 + ((sb >>> ((0 : Int32) &&& 31)) &&& 1))), (0, .int sb)]) hx hb dX10_bits_18 hl (k := 1) rfl (by decide) (by decide) rfl (fun ls hl => ?_)
  refine lv_goto (tgt := 4) hx hb dX10_bits_21 (by decide) ?_
  refine lv_iload_n hx hb dX10_bits_4 rfl (lv_at hl 0 rfl) ?_
  refine lv_bipush (v := 7) hx hb dX10_bits_5 (by decide) ?_
  refine lv_icmp_ge (x := 1) (y := 7) (tgt := 24) hx hb dX10_bits_7 (by decide) (fun c2 => absurd c2 (by decide)) (fun c2 => ?_)
  refine lv_iload_n hx hb dX10_bits_10 rfl (lv_at hl 1 rfl) ?_
  refine lv_iload_n hx hb dX10_bits_11 rfl (lv_at hl 2 rfl) ?_
  refine lv_iload_n hx hb dX10_bits_12 rfl (lv_at hl 0 rfl) ?_
  refine lv_ishr hx hb dX10_bits_13 ?_
  refine lv_iconst (v := 1) hx hb dX10_bits_14 (by decide) ?_
  refine lv_iand hx hb dX10_bits_15 ?_
  refine lv_iadd hx hb dX10_bits_16 ?_
  refine lv_istore_n (lv' := [(1, .int ((0 + ((sb >>> ((0 : Int32) &&& 31)) &&& 1)) + ((sb >>> ((1 : Int32) &&& 31)) &&& 1))), (2, .int 1), (0, .int sb)]) hx hb dX10_bits_17 rfl hl (by decide) rfl (fun ls hl => ?_)
  refine lv_iinc (v := 2) (lv' := [(2, .int 2), (1, .int ((0 + ((sb >>> ((0 : Int32) &&& 31)) &&& 1)) + ((sb >>> ((1 : Int32) &&& 31)) &&& 1))), (0, .int sb)]) hx hb dX10_bits_18 hl (k := 1) rfl (by decide) (by decide) rfl (fun ls hl => ?_)
  refine lv_goto (tgt := 4) hx hb dX10_bits_21 (by decide) ?_
  refine lv_iload_n hx hb dX10_bits_4 rfl (lv_at hl 0 rfl) ?_
  refine lv_bipush (v := 7) hx hb dX10_bits_5 (by decide) ?_
  refine lv_icmp_ge (x := 2) (y := 7) (tgt := 24) hx hb dX10_bits_7 (by decide) (fun c3 => absurd c3 (by decide)) (fun c3 => ?_)
  refine lv_iload_n hx hb dX10_bits_10 rfl (lv_at hl 1 rfl) ?_
  refine lv_iload_n hx hb dX10_bits_11 rfl (lv_at hl 2 rfl) ?_
  refine lv_iload_n hx hb dX10_bits_12 rfl (lv_at hl 0 rfl) ?_
  refine lv_ishr hx hb dX10_bits_13 ?_
  refine lv_iconst (v := 1) hx hb dX10_bits_14 (by decide) ?_
  refine lv_iand hx hb dX10_bits_15 ?_
  refine lv_iadd hx hb dX10_bits_16 ?_
  refine lv_istore_n (lv' := [(1, .int (((0 + ((sb >>> ((0 : Int32) &&& 31)) &&& 1)) + ((sb >>> ((1 : Int32) &&& 31)) &&& 1)) + ((sb >>> ((2 : Int32) &&& 31)) &&& 1))), (2, .int 2), (0, .int sb)]) hx hb dX10_bits_17 rfl hl (by decide) rfl (fun ls hl => ?_)
  refine lv_iinc (v := 3) (lv' := [(2, .int 3), (1, .int (((0 + ((sb >>> ((0 : Int32) &&& 31)) &&& 1)) + ((sb >>> ((1 : Int32) &&& 31)) &&& 1)) + ((sb >>> ((2 : Int32) &&& 31)) &&& 1))), (0, .int sb)]) hx hb dX10_bits_18 hl (k := 1) rfl (by decide) (by decide) rfl (fun ls hl => ?_)
  refine lv_goto (tgt := 4) hx hb dX10_bits_21 (by decide) ?_
  refine lv_iload_n hx hb dX10_bits_4 rfl (lv_at hl 0 rfl) ?_
  refine lv_bipush (v := 7) hx hb dX10_bits_5 (by decide) ?_
  refine lv_icmp_ge (x := 3) (y := 7) (tgt := 24) hx hb dX10_bits_7 (by decide) (fun c4 => absurd c4 (by decide)) (fun c4 => ?_)
  refine lv_iload_n hx hb dX10_bits_10 rfl (lv_at hl 1 rfl) ?_
  refine lv_iload_n hx hb dX10_bits_11 rfl (lv_at hl 2 rfl) ?_
  refine lv_iload_n hx hb dX10_bits_12 rfl (lv_at hl 0 rfl) ?_
  refine lv_ishr hx hb dX10_bits_13 ?_
  refine lv_iconst (v := 1) hx hb dX10_bits_14 (by decide) ?_
  refine lv_iand hx hb dX10_bits_15 ?_
  refine lv_iadd hx hb dX10_bits_16 ?_
  refine lv_istore_n (lv' := [(1, .int ((((0 + ((sb >>> ((0 : Int32) &&& 31)) &&& 1)) + ((sb >>> ((1 : Int32) &&& 31)) &&& 1)) + ((sb >>> ((2 : Int32) &&& 31)) &&& 1)) + ((sb >>> ((3 : Int32) &&& 31)) &&& 1))), (2, .int 3), (0, .int sb)]) hx hb dX10_bits_17 rfl hl (by decide) rfl (fun ls hl => ?_)
  refine lv_iinc (v := 4) (lv' := [(2, .int 4), (1, .int ((((0 + ((sb >>> ((0 : Int32) &&& 31)) &&& 1)) + ((sb >>> ((1 : Int32) &&& 31)) &&& 1)) + ((sb >>> ((2 : Int32) &&& 31)) &&& 1)) + ((sb >>> ((3 : Int32) &&& 31)) &&& 1))), (0, .int sb)]) hx hb dX10_bits_18 hl (k := 1) rfl (by decide) (by decide) rfl (fun ls hl => ?_)
  refine lv_goto (tgt := 4) hx hb dX10_bits_21 (by decide) ?_
  refine lv_iload_n hx hb dX10_bits_4 rfl (lv_at hl 0 rfl) ?_
  refine lv_bipush (v := 7) hx hb dX10_bits_5 (by decide) ?_
  refine lv_icmp_ge (x := 4) (y := 7) (tgt := 24) hx hb dX10_bits_7 (by decide) (fun c5 => absurd c5 (by decide)) (fun c5 => ?_)
  refine lv_iload_n hx hb dX10_bits_10 rfl (lv_at hl 1 rfl) ?_
  refine lv_iload_n hx hb dX10_bits_11 rfl (lv_at hl 2 rfl) ?_
  refine lv_iload_n hx hb dX10_bits_12 rfl (lv_at hl 0 rfl) ?_
  refine lv_ishr hx hb dX10_bits_13 ?_
  refine lv_iconst (v := 1) hx hb dX10_bits_14 (by decide) ?_
  refine lv_iand hx hb dX10_bits_15 ?_
  refine lv_iadd hx hb dX10_bits_16 ?_
  refine lv_istore_n (lv' := [(1, .int (((((0 + ((sb >>> ((0 : Int32) &&& 31)) &&& 1)) + ((sb >>> ((1 : Int32) &&& 31)) &&& 1)) + ((sb >>> ((2 : Int32) &&& 31)) &&& 1)) + ((sb >>> ((3 : Int32) &&& 31)) &&& 1)) + ((sb >>> ((4 : Int32) &&& 31)) &&& 1))), (2, .int 4), (0, .int sb)]) hx hb dX10_bits_17 rfl hl (by decide) rfl (fun ls hl => ?_)
  refine lv_iinc (v := 5) (lv' := [(2, .int 5), (1, .int (((((0 + ((sb >>> ((0 : Int32) &&& 31)) &&& 1)) + ((sb >>> ((1 : Int32) &&& 31)) &&& 1)) + ((sb >>> ((2 : Int32) &&& 31)) &&& 1)) + ((sb >>> ((3 : Int32) &&& 31)) &&& 1)) + ((sb >>> ((4 : Int32) &&& 31)) &&& 1))), (0, .int sb)]) hx hb dX10_bits_18 hl (k := 1) rfl (by decide) (by decide) rfl (fun ls hl => ?_)
  refine lv_goto (tgt := 4) hx hb dX10_bits_21 (by decide) ?_
  refine lv_iload_n hx hb dX10_bits_4 rfl (lv_at hl 0 rfl) ?_
  refine lv_bipush (v := 7) hx hb dX10_bits_5 (by decide) ?_
  refine lv_icmp_ge (x := 5) (y := 7) (tgt := 24) hx hb dX10_bits_7 (by decide) (fun c6 => absurd c6 (by decide)) (fun c6 => ?_)
  refine lv_iload_n hx hb dX10_bits_10 rfl (lv_at hl 1 rfl) ?_
  refine lv_iload_n hx hb dX10_bits_11 rfl (lv_at hl 2 rfl) ?_
  refine lv_iload_n hx hb dX10_bits_12 rfl (lv_at hl 0 rfl) ?_
  refine lv_ishr hx hb dX10_bits_13 ?_
  refine lv_iconst (v := 1) hx hb dX10_bits_14 (by decide) ?_
  refine lv_iand hx hb dX10_bits_15 ?_
  refine lv_iadd hx hb dX10_bits_16 ?_
  refine lv_istore_n (lv' := [(1, .int ((((((0 + ((sb >>> ((0 : Int32) &&& 31)) &&& 1)) + ((sb >>> ((1 : Int32) &&& 31)) &&& 1)) + ((sb >>> ((2 : Int32) &&& 31)) &&& 1)) + ((sb >>> ((3 : Int32) &&& 31)) &&& 1)) + ((sb >>> ((4 : Int32) &&& 31)) &&& 1)) + ((sb >>> ((5 : Int32) &&& 31)) &&& 1))), (2, .int 5), (0, .int sb)]) hx hb dX10_bits_17 rfl hl (by decide) rfl (fun ls hl => ?_)
  refine lv_iinc (v := 6) (lv' := [(2, .int 6), (1, .int ((((((0 + ((sb >>> ((0 : Int32) &&& 31)) &&& 1)) + ((sb >>> ((1 : Int32) &&& 31)) &&& 1)) + ((sb >>> ((2 : Int32) &&& 31)) &&& 1)) + ((sb >>> ((3 : Int32) &&& 31)) &&& 1)) + ((sb >>> ((4 : Int32) &&& 31)) &&& 1)) + ((sb >>> ((5 : Int32) &&& 31)) &&& 1))), (0, .int sb)]) hx hb dX10_bits_18 hl (k := 1) rfl (by decide) (by decide) rfl (fun ls hl => ?_)
  refine lv_goto (tgt := 4) hx hb dX10_bits_21 (by decide) ?_
  refine lv_iload_n hx hb dX10_bits_4 rfl (lv_at hl 0 rfl) ?_
  refine lv_bipush (v := 7) hx hb dX10_bits_5 (by decide) ?_
  refine lv_icmp_ge (x := 6) (y := 7) (tgt := 24) hx hb dX10_bits_7 (by decide) (fun c7 => absurd c7 (by decide)) (fun c7 => ?_)
  refine lv_iload_n hx hb dX10_bits_10 rfl (lv_at hl 1 rfl) ?_
  refine lv_iload_n hx hb dX10_bits_11 rfl (lv_at hl 2 rfl) ?_
  refine lv_iload_n hx hb dX10_bits_12 rfl (lv_at hl 0 rfl) ?_
  refine lv_ishr hx hb dX10_bits_13 ?_
  refine lv_iconst (v := 1) hx hb dX10_bits_14 (by decide) ?_
  refine lv_iand hx hb dX10_bits_15 ?_
  refine lv_iadd hx hb dX10_bits_16 ?_
  refine lv_istore_n (lv' := [(1, .int (((((((0 + ((sb >>> ((0 : Int32) &&& 31)) &&& 1)) + ((sb >>> ((1 : Int32) &&& 31)) &&& 1)) + ((sb >>> ((2 : Int32) &&& 31)) &&& 1)) + ((sb >>> ((3 : Int32) &&& 31)) &&& 1)) + ((sb >>> ((4 : Int32) &&& 31)) &&& 1)) + ((sb >>> ((5 : Int32) &&& 31)) &&& 1)) + ((sb >>> ((6 : Int32) &&& 31)) &&& 1))), (2, .int 6), (0, .int sb)]) hx hb dX10_bits_17 rfl hl (by decide) rfl (fun ls hl => ?_)
  refine lv_iinc (v := 7) (lv' := [(2, .int 7), (1, .int (((((((0 + ((sb >>> ((0 : Int32) &&& 31)) &&& 1)) + ((sb >>> ((1 : Int32) &&& 31)) &&& 1)) + ((sb >>> ((2 : Int32) &&& 31)) &&& 1)) + ((sb >>> ((3 : Int32) &&& 31)) &&& 1)) + ((sb >>> ((4 : Int32) &&& 31)) &&& 1)) + ((sb >>> ((5 : Int32) &&& 31)) &&& 1)) + ((sb >>> ((6 : Int32) &&& 31)) &&& 1))), (0, .int sb)]) hx hb dX10_bits_18 hl (k := 1) rfl (by decide) (by decide) rfl (fun ls hl => ?_)
  refine lv_goto (tgt := 4) hx hb dX10_bits_21 (by decide) ?_
  refine lv_iload_n hx hb dX10_bits_4 rfl (lv_at hl 0 rfl) ?_
  refine lv_bipush (v := 7) hx hb dX10_bits_5 (by decide) ?_
  refine lv_icmp_ge (x := 7) (y := 7) (tgt := 24) hx hb dX10_bits_7 (by decide) (fun c8 => ?_) (fun c8 => absurd c8 (by decide))
  refine lv_iload_n hx hb dX10_bits_24 rfl (lv_at hl 1 rfl) ?_
  exact W.iret (v := ((((((0 + ((sb >>> ((0 : Int32) &&& 31)) &&& 1)) + ((sb >>> ((1 : Int32) &&& 31)) &&& 1)) + ((sb >>> ((2 : Int32) &&& 31)) &&& 1)) + ((sb >>> ((3 : Int32) &&& 31)) &&& 1)) + ((sb >>> ((4 : Int32) &&& 31)) &&& 1)) + ((sb >>> ((5 : Int32) &&& 31)) &&& 1)) + ((sb >>> ((6 : Int32) &&& 31)) &&& 1)) hx hb hr (fun t9 ht _ => ⟨((((((0 + ((sb >>> ((0 : Int32) &&& 31)) &&& 1)) + ((sb >>> ((1 : Int32) &&& 31)) &&& 1)) + ((sb >>> ((2 : Int32) &&& 31)) &&& 1)) + ((sb >>> ((3 : Int32) &&& 31)) &&& 1)) + ((sb >>> ((4 : Int32) &&& 31)) &&& 1)) + ((sb >>> ((5 : Int32) &&& 31)) &&& 1)) + ((sb >>> ((6 : Int32) &&& 31)) &&& 1), rfl, rfl, ht⟩) (fun q h => by cases h) dX10_bits_25

abbrev c_X10_isHouse (k : Nat → ClassId) (y : Nat) (m_street : Nat) (m_beds : Nat) (m_light : Nat) (m_yes : Nat) (m_wage : Nat) (m_noiseOf : Nat) (m_matter : Nat) (m_counted : Nat) (m_dreams : Nat) (m_state : Nat) (m_decided : Nat) (m_slept : Nat) (m_sleptIn : Nat) (m_laid : Nat) (m_laidIn : Nat) (m_sizes : Nat) (m_text : Nat) (m_readStreet : Nat) (m_readBeds : Nat) (m_readLight : Nat) (m_readYes : Nat) (m_readWage : Nat) (m_readNoise : Nat) (m_readMatter : Nat) (m_busy : Nat) (m_taken : Nat) (m_canLow : Nat) (m_canHigh : Nat) (m_ends : Nat) (m_rowWho : Nat) (m_rowWhere : Nat) (m_gotLow : Nat) (m_gotHigh : Nat) (m_made : Nat) (m_oddsBy : Nat) (m_order : Nat) (m_bestOrder : Nat) (m_bestEnds : Nat) (m_stops : Nat) (m_bookDay : Nat) (m_bookWho : Nat) (m_bookWhere : Nat) (m_images : Nat) (m_isKept : Nat) (w : Int32) : va_W := [(y, .inr (10, [.int 0, .ref m_street, .ref m_beds, .int 0, .ref m_light, .ref m_yes, .ref m_wage, .int 0, .ref m_noiseOf, .int 0, .ref m_matter, .int 0, .int 7, .int (-1), .int 1, .int 0, .int 0, .ref m_counted, .ref m_dreams, .ref m_state, .ref m_decided, .ref m_slept, .ref m_sleptIn, .ref m_laid, .ref m_laidIn, .int 0, .ref m_sizes, .ref m_text, .int 0, .int (-1), .int 0, .long 0, .int 0, .int 0, .int 0, .int 0, .ref m_readStreet, .ref m_readBeds, .int 0, .ref m_readLight, .ref m_readYes, .ref m_readWage, .int 0, .ref m_readNoise, .int 0, .ref m_readMatter, .int 0, .int 0, .int 0, .ref m_busy, .ref m_taken, .ref m_canLow, .ref m_canHigh, .ref m_ends, .ref m_rowWho, .ref m_rowWhere, .ref m_gotLow, .ref m_gotHigh, .ref m_made, .ref m_oddsBy, .int 0, .int 0, .int 0, .ref m_order, .ref m_bestOrder, .ref m_bestEnds, .ref m_stops, .int 0, .ref m_bookDay, .ref m_bookWho, .ref m_bookWhere, .ref m_images, .ref m_isKept]))]
abbrev r_X10_isHouse : Room := { frames := 1, cells := 0, slots := 0, locals := 25 }
abbrev q_X10_isHouse (k : Nat → ClassId) (y : Nat) (m_street : Nat) (m_beds : Nat) (m_light : Nat) (m_yes : Nat) (m_wage : Nat) (m_noiseOf : Nat) (m_matter : Nat) (m_counted : Nat) (m_dreams : Nat) (m_state : Nat) (m_decided : Nat) (m_slept : Nat) (m_sleptIn : Nat) (m_laid : Nat) (m_laidIn : Nat) (m_sizes : Nat) (m_text : Nat) (m_readStreet : Nat) (m_readBeds : Nat) (m_readLight : Nat) (m_readYes : Nat) (m_readWage : Nat) (m_readNoise : Nat) (m_readMatter : Nat) (m_busy : Nat) (m_taken : Nat) (m_canLow : Nat) (m_canHigh : Nat) (m_ends : Nat) (m_rowWho : Nat) (m_rowWhere : Nat) (m_gotLow : Nat) (m_gotHigh : Nat) (m_made : Nat) (m_oddsBy : Nat) (m_order : Nat) (m_bestOrder : Nat) (m_bestEnds : Nat) (m_stops : Nat) (m_bookDay : Nat) (m_bookWho : Nat) (m_bookWhere : Nat) (m_images : Nat) (m_isKept : Nat) (w : Int32) : Array Value → State → Outcome → State → Prop := vp_Si (fun r => r = 0)
set_option maxHeartbeats 2000000 in
set_option maxRecDepth 100000 in
theorem X10_isHouse (l : Launch) (D : va_G) (k : Nat → ClassId) (y : Nat) (m_street : Nat) (m_beds : Nat) (m_light : Nat) (m_yes : Nat) (m_wage : Nat) (m_noiseOf : Nat) (m_matter : Nat) (m_counted : Nat) (m_dreams : Nat) (m_state : Nat) (m_decided : Nat) (m_slept : Nat) (m_sleptIn : Nat) (m_laid : Nat) (m_laidIn : Nat) (m_sizes : Nat) (m_text : Nat) (m_readStreet : Nat) (m_readBeds : Nat) (m_readLight : Nat) (m_readYes : Nat) (m_readWage : Nat) (m_readNoise : Nat) (m_readMatter : Nat) (m_busy : Nat) (m_taken : Nat) (m_canLow : Nat) (m_canHigh : Nat) (m_ends : Nat) (m_rowWho : Nat) (m_rowWhere : Nat) (m_gotLow : Nat) (m_gotHigh : Nat) (m_made : Nat) (m_oddsBy : Nat) (m_order : Nat) (m_bestOrder : Nat) (m_bestEnds : Nat) (m_stops : Nat) (m_bookDay : Nat) (m_bookWho : Nat) (m_bookWhere : Nat) (m_images : Nat) (m_isKept : Nat) (w : Int32)  : Met l yX10_isHouse wsX10_isHouse r_X10_isHouse (va_Pc [.ref y, .int w] (PS D k (c_X10_isHouse k y m_street m_beds m_light m_yes m_wage m_noiseOf m_matter m_counted m_dreams m_state m_decided m_slept m_sleptIn m_laid m_laidIn m_sizes m_text m_readStreet m_readBeds m_readLight m_readYes m_readWage m_readNoise m_readMatter m_busy m_taken m_canLow m_canHigh m_ends m_rowWho m_rowWhere m_gotLow m_gotHigh m_made m_oddsBy m_order m_bestOrder m_bestEnds m_stops m_bookDay m_bookWho m_bookWhere m_images m_isKept w))) (q_X10_isHouse k y m_street m_beds m_light m_yes m_wage m_noiseOf m_matter m_counted m_dreams m_state m_decided m_slept m_sleptIn m_laid m_laidIn m_sizes m_text m_readStreet m_readBeds m_readLight m_readYes m_readWage m_readNoise m_readMatter m_busy m_taken m_canLow m_canHigh m_ends m_rowWho m_rowWhere m_gotLow m_gotHigh m_made m_oddsBy m_order m_bestOrder m_bestEnds m_stops m_bookDay m_bookWho m_bookWhere m_images m_isKept w) 0 0 (fun _ => False) := by
  refine Met.ofW (cc := cX10_isHouse) (maxL := 2) (ret := (some .boolean)) (by decide) rfl ?_
  intro p e s m args below meth c s₁ B hml hv
  obtain ⟨rfl, hP, hG⟩ := hv
  have hx := B.exec
  have hb := B.bytes
  have hr := B.returns
  have hts := atoms_spec (ws := wsX10_isHouse) B.pre
  have hown : s.vm.findClass RX10 = some m.cls := findClass_of_methodNamed B.named
  have hlocks := B.notSynchronized
  have hi10 : ∀ w ∈ wsX100, w ∈ wsX10_isHouse := fun _ h => List.mem_cons_of_mem _ (List.mem_append_right _ h)
  have hP : va_P D vwCl [(y, .inr (10, [.int 0, .ref m_street, .ref m_beds, .int 0, .ref m_light, .ref m_yes, .ref m_wage, .int 0, .ref m_noiseOf, .int 0, .ref m_matter, .int 0, .int 7, .int (-1), .int 1, .int 0, .int 0, .ref m_counted, .ref m_dreams, .ref m_state, .ref m_decided, .ref m_slept, .ref m_sleptIn, .ref m_laid, .ref m_laidIn, .int 0, .ref m_sizes, .ref m_text, .int 0, .int (-1), .int 0, .long 0, .int 0, .int 0, .int 0, .int 0, .ref m_readStreet, .ref m_readBeds, .int 0, .ref m_readLight, .ref m_readYes, .ref m_readWage, .int 0, .ref m_readNoise, .int 0, .ref m_readMatter, .int 0, .int 0, .int 0, .ref m_busy, .ref m_taken, .ref m_canLow, .ref m_canHigh, .ref m_ends, .ref m_rowWho, .ref m_rowWhere, .ref m_gotLow, .ref m_gotHigh, .ref m_made, .ref m_oddsBy, .int 0, .int 0, .int 0, .ref m_order, .ref m_bestOrder, .ref m_bestEnds, .ref m_stops, .int 0, .ref m_bookDay, .ref m_bookWho, .ref m_bookWhere, .ref m_images, .ref m_isKept]))] s.heap := hP
  have hl := lv_entry ([.ref y, .int w]) (n := 2) (Nat.le_of_ble_eq_true rfl)
  rw [lg_entry_eq]
  generalize (lg_sl ([.ref y, .int w]) ++ List.replicate (2 - (lg_sl ([.ref y, .int w])).length) Slot.unset).toArray = ls at hl ⊢
  have hl : lv_has ls 2 [(0, .ref y), (1, .int w)] := hl
  refine lv_iload_n hx hb dX10_isHouse_0 rfl (lv_at hl 1 rfl) ?_
  refine lv_i2l (v := w.toInt64) hx hb dX10_isHouse_1 rfl ?_
  refine lv_lconst (v := 0) hx hb dX10_isHouse_2 (by decide) ?_
  refine lv_aload_n hx hb dX10_isHouse_3 rfl (lv_at hl 0 rfl) ?_
  refine va_get (D := D) (ci := 10) (v := .int 0) (C := RX10) (T := TX10) (N := 73) hx hb hts hi10 hown hG.1 hP 0 rfl rfl 0 (by decide) (hts (.fieldLink RX10 165 "SleptMattersModel" "houses" "I") (List.mem_cons_of_mem _ (List.mem_append_left _ (List.mem_of_getElem? (i := 0) rfl)))) (fun _ h9 => h9) rfl dX10_isHouse_4 ?_
  refine lv_iconst (v := 1) hx hb dX10_isHouse_7 (by decide) ?_
  refine lv_isub hx hb dX10_isHouse_8 ?_
  refine tp_i (y := (-1)) (by decide) ?_
  refine lv_i2l (v := (-1 : Int32).toInt64) hx hb dX10_isHouse_9 rfl ?_
  have hPc := hP.sub (ws' := (c_X10_in k w.toInt64 0 ((-1 : Int32).toInt64))) [] rfl
  refine vp_callSi (va_Run.run (va_runS (As := [.long w.toInt64, .long 0, .long ((-1 : Int32).toInt64)]) (rest := []) ⟨hx, hb, hml, hown, hts⟩ (X10_in l D k w.toInt64 0 ((-1 : Int32).toInt64) ) (va_cwS 3 hts gX10_isHouse_X10_in rfl rfl rfl (by decide +kernel) ⟨Nat.le_of_ble_eq_true rfl, Nat.le_of_ble_eq_true rfl⟩) ⟨PS.blind _ _ _ _, PS.pre hPc hG [.long w.toInt64, .long 0, .long ((-1 : Int32).toInt64)]⟩ rfl rfl hl.1 rfl (lv_room (Nat.le_of_ble_eq_true rfl)) dX10_isHouse_10 ⟨Nat.le_of_ble_eq_true rfl, Nat.le_of_ble_eq_true rfl⟩)) (fun r hq => ?_)
  generalize r = y1 at hq ⊢
  have hq : y1 = inA w.toInt64 0 ((-1 : Int32).toInt64) := hq
  refine tp_i (y := 0) (hq.trans (in_zero (a := 0) (b := -1) rfl rfl (by decide))) ?_
  exact W.zret (v := 0) hx hb hr (rfl) (fun t9 ht _ => ⟨0, rfl, rfl, ht⟩) (fun q h => by cases h) dX10_isHouse_13

abbrev c_X10_isSleeper (k : Nat → ClassId) (y : Nat) (m_street : Nat) (m_beds : Nat) (m_light : Nat) (m_yes : Nat) (m_wage : Nat) (m_noiseOf : Nat) (m_matter : Nat) (m_counted : Nat) (m_dreams : Nat) (m_state : Nat) (m_decided : Nat) (m_slept : Nat) (m_sleptIn : Nat) (m_laid : Nat) (m_laidIn : Nat) (m_sizes : Nat) (m_text : Nat) (m_readStreet : Nat) (m_readBeds : Nat) (m_readLight : Nat) (m_readYes : Nat) (m_readWage : Nat) (m_readNoise : Nat) (m_readMatter : Nat) (m_busy : Nat) (m_taken : Nat) (m_canLow : Nat) (m_canHigh : Nat) (m_ends : Nat) (m_rowWho : Nat) (m_rowWhere : Nat) (m_gotLow : Nat) (m_gotHigh : Nat) (m_made : Nat) (m_oddsBy : Nat) (m_order : Nat) (m_bestOrder : Nat) (m_bestEnds : Nat) (m_stops : Nat) (m_bookDay : Nat) (m_bookWho : Nat) (m_bookWhere : Nat) (m_images : Nat) (m_isKept : Nat) (w : Int32) : va_W := [(y, .inr (10, [.int 0, .ref m_street, .ref m_beds, .int 0, .ref m_light, .ref m_yes, .ref m_wage, .int 0, .ref m_noiseOf, .int 0, .ref m_matter, .int 0, .int 7, .int (-1), .int 1, .int 0, .int 0, .ref m_counted, .ref m_dreams, .ref m_state, .ref m_decided, .ref m_slept, .ref m_sleptIn, .ref m_laid, .ref m_laidIn, .int 0, .ref m_sizes, .ref m_text, .int 0, .int (-1), .int 0, .long 0, .int 0, .int 0, .int 0, .int 0, .ref m_readStreet, .ref m_readBeds, .int 0, .ref m_readLight, .ref m_readYes, .ref m_readWage, .int 0, .ref m_readNoise, .int 0, .ref m_readMatter, .int 0, .int 0, .int 0, .ref m_busy, .ref m_taken, .ref m_canLow, .ref m_canHigh, .ref m_ends, .ref m_rowWho, .ref m_rowWhere, .ref m_gotLow, .ref m_gotHigh, .ref m_made, .ref m_oddsBy, .int 0, .int 0, .int 0, .ref m_order, .ref m_bestOrder, .ref m_bestEnds, .ref m_stops, .int 0, .ref m_bookDay, .ref m_bookWho, .ref m_bookWhere, .ref m_images, .ref m_isKept]))]
abbrev r_X10_isSleeper : Room := { frames := 1, cells := 0, slots := 0, locals := 25 }
abbrev q_X10_isSleeper (k : Nat → ClassId) (y : Nat) (m_street : Nat) (m_beds : Nat) (m_light : Nat) (m_yes : Nat) (m_wage : Nat) (m_noiseOf : Nat) (m_matter : Nat) (m_counted : Nat) (m_dreams : Nat) (m_state : Nat) (m_decided : Nat) (m_slept : Nat) (m_sleptIn : Nat) (m_laid : Nat) (m_laidIn : Nat) (m_sizes : Nat) (m_text : Nat) (m_readStreet : Nat) (m_readBeds : Nat) (m_readLight : Nat) (m_readYes : Nat) (m_readWage : Nat) (m_readNoise : Nat) (m_readMatter : Nat) (m_busy : Nat) (m_taken : Nat) (m_canLow : Nat) (m_canHigh : Nat) (m_ends : Nat) (m_rowWho : Nat) (m_rowWhere : Nat) (m_gotLow : Nat) (m_gotHigh : Nat) (m_made : Nat) (m_oddsBy : Nat) (m_order : Nat) (m_bestOrder : Nat) (m_bestEnds : Nat) (m_stops : Nat) (m_bookDay : Nat) (m_bookWho : Nat) (m_bookWhere : Nat) (m_images : Nat) (m_isKept : Nat) (w : Int32) : Array Value → State → Outcome → State → Prop := vp_Si (fun r => r = 0)
set_option maxHeartbeats 2000000 in
set_option maxRecDepth 100000 in
theorem X10_isSleeper (l : Launch) (D : va_G) (k : Nat → ClassId) (y : Nat) (m_street : Nat) (m_beds : Nat) (m_light : Nat) (m_yes : Nat) (m_wage : Nat) (m_noiseOf : Nat) (m_matter : Nat) (m_counted : Nat) (m_dreams : Nat) (m_state : Nat) (m_decided : Nat) (m_slept : Nat) (m_sleptIn : Nat) (m_laid : Nat) (m_laidIn : Nat) (m_sizes : Nat) (m_text : Nat) (m_readStreet : Nat) (m_readBeds : Nat) (m_readLight : Nat) (m_readYes : Nat) (m_readWage : Nat) (m_readNoise : Nat) (m_readMatter : Nat) (m_busy : Nat) (m_taken : Nat) (m_canLow : Nat) (m_canHigh : Nat) (m_ends : Nat) (m_rowWho : Nat) (m_rowWhere : Nat) (m_gotLow : Nat) (m_gotHigh : Nat) (m_made : Nat) (m_oddsBy : Nat) (m_order : Nat) (m_bestOrder : Nat) (m_bestEnds : Nat) (m_stops : Nat) (m_bookDay : Nat) (m_bookWho : Nat) (m_bookWhere : Nat) (m_images : Nat) (m_isKept : Nat) (w : Int32)  : Met l yX10_isSleeper wsX10_isSleeper r_X10_isSleeper (va_Pc [.ref y, .int w] (PS D k (c_X10_isSleeper k y m_street m_beds m_light m_yes m_wage m_noiseOf m_matter m_counted m_dreams m_state m_decided m_slept m_sleptIn m_laid m_laidIn m_sizes m_text m_readStreet m_readBeds m_readLight m_readYes m_readWage m_readNoise m_readMatter m_busy m_taken m_canLow m_canHigh m_ends m_rowWho m_rowWhere m_gotLow m_gotHigh m_made m_oddsBy m_order m_bestOrder m_bestEnds m_stops m_bookDay m_bookWho m_bookWhere m_images m_isKept w))) (q_X10_isSleeper k y m_street m_beds m_light m_yes m_wage m_noiseOf m_matter m_counted m_dreams m_state m_decided m_slept m_sleptIn m_laid m_laidIn m_sizes m_text m_readStreet m_readBeds m_readLight m_readYes m_readWage m_readNoise m_readMatter m_busy m_taken m_canLow m_canHigh m_ends m_rowWho m_rowWhere m_gotLow m_gotHigh m_made m_oddsBy m_order m_bestOrder m_bestEnds m_stops m_bookDay m_bookWho m_bookWhere m_images m_isKept w) 0 0 (fun _ => False) := by
  refine Met.ofW (cc := cX10_isSleeper) (maxL := 2) (ret := (some .boolean)) (by decide) rfl ?_
  intro p e s m args below meth c s₁ B hml hv
  obtain ⟨rfl, hP, hG⟩ := hv
  have hx := B.exec
  have hb := B.bytes
  have hr := B.returns
  have hts := atoms_spec (ws := wsX10_isSleeper) B.pre
  have hown : s.vm.findClass RX10 = some m.cls := findClass_of_methodNamed B.named
  have hlocks := B.notSynchronized
  have hi10 : ∀ w ∈ wsX100, w ∈ wsX10_isSleeper := fun _ h => List.mem_cons_of_mem _ (List.mem_append_right _ h)
  have hP : va_P D vwCl [(y, .inr (10, [.int 0, .ref m_street, .ref m_beds, .int 0, .ref m_light, .ref m_yes, .ref m_wage, .int 0, .ref m_noiseOf, .int 0, .ref m_matter, .int 0, .int 7, .int (-1), .int 1, .int 0, .int 0, .ref m_counted, .ref m_dreams, .ref m_state, .ref m_decided, .ref m_slept, .ref m_sleptIn, .ref m_laid, .ref m_laidIn, .int 0, .ref m_sizes, .ref m_text, .int 0, .int (-1), .int 0, .long 0, .int 0, .int 0, .int 0, .int 0, .ref m_readStreet, .ref m_readBeds, .int 0, .ref m_readLight, .ref m_readYes, .ref m_readWage, .int 0, .ref m_readNoise, .int 0, .ref m_readMatter, .int 0, .int 0, .int 0, .ref m_busy, .ref m_taken, .ref m_canLow, .ref m_canHigh, .ref m_ends, .ref m_rowWho, .ref m_rowWhere, .ref m_gotLow, .ref m_gotHigh, .ref m_made, .ref m_oddsBy, .int 0, .int 0, .int 0, .ref m_order, .ref m_bestOrder, .ref m_bestEnds, .ref m_stops, .int 0, .ref m_bookDay, .ref m_bookWho, .ref m_bookWhere, .ref m_images, .ref m_isKept]))] s.heap := hP
  have hl := lv_entry ([.ref y, .int w]) (n := 2) (Nat.le_of_ble_eq_true rfl)
  rw [lg_entry_eq]
  generalize (lg_sl ([.ref y, .int w]) ++ List.replicate (2 - (lg_sl ([.ref y, .int w])).length) Slot.unset).toArray = ls at hl ⊢
  have hl : lv_has ls 2 [(0, .ref y), (1, .int w)] := hl
  refine lv_iload_n hx hb dX10_isSleeper_0 rfl (lv_at hl 1 rfl) ?_
  refine lv_i2l (v := w.toInt64) hx hb dX10_isSleeper_1 rfl ?_
  refine lv_lconst (v := 0) hx hb dX10_isSleeper_2 (by decide) ?_
  refine lv_aload_n hx hb dX10_isSleeper_3 rfl (lv_at hl 0 rfl) ?_
  refine va_get (D := D) (ci := 10) (v := .int 0) (C := RX10) (T := TX10) (N := 73) hx hb hts hi10 hown hG.1 hP 0 rfl rfl 3 (by decide) (hts (.fieldLink RX10 172 "SleptMattersModel" "sleepers" "I") (List.mem_cons_of_mem _ (List.mem_append_left _ (List.mem_of_getElem? (i := 0) rfl)))) (fun _ h9 => h9) rfl dX10_isSleeper_4 ?_
  refine lv_iconst (v := 1) hx hb dX10_isSleeper_7 (by decide) ?_
  refine lv_isub hx hb dX10_isSleeper_8 ?_
  refine tp_i (y := (-1)) (by decide) ?_
  refine lv_i2l (v := (-1 : Int32).toInt64) hx hb dX10_isSleeper_9 rfl ?_
  have hPc := hP.sub (ws' := (c_X10_in k w.toInt64 0 ((-1 : Int32).toInt64))) [] rfl
  refine vp_callSi (va_Run.run (va_runS (As := [.long w.toInt64, .long 0, .long ((-1 : Int32).toInt64)]) (rest := []) ⟨hx, hb, hml, hown, hts⟩ (X10_in l D k w.toInt64 0 ((-1 : Int32).toInt64) ) (va_cwS 3 hts gX10_isSleeper_X10_in rfl rfl rfl (by decide +kernel) ⟨Nat.le_of_ble_eq_true rfl, Nat.le_of_ble_eq_true rfl⟩) ⟨PS.blind _ _ _ _, PS.pre hPc hG [.long w.toInt64, .long 0, .long ((-1 : Int32).toInt64)]⟩ rfl rfl hl.1 rfl (lv_room (Nat.le_of_ble_eq_true rfl)) dX10_isSleeper_10 ⟨Nat.le_of_ble_eq_true rfl, Nat.le_of_ble_eq_true rfl⟩)) (fun r hq => ?_)
  generalize r = y1 at hq ⊢
  have hq : y1 = inA w.toInt64 0 ((-1 : Int32).toInt64) := hq
  refine tp_i (y := 0) (hq.trans (in_zero (a := 0) (b := -1) rfl rfl (by decide))) ?_
  exact W.zret (v := 0) hx hb hr (rfl) (fun t9 ht _ => ⟨0, rfl, rfl, ht⟩) (fun q h => by cases h) dX10_isSleeper_13

abbrev c_X10_isMatter (k : Nat → ClassId) (y : Nat) (m_street : Nat) (m_beds : Nat) (m_light : Nat) (m_yes : Nat) (m_wage : Nat) (m_noiseOf : Nat) (m_matter : Nat) (m_counted : Nat) (m_dreams : Nat) (m_state : Nat) (m_decided : Nat) (m_slept : Nat) (m_sleptIn : Nat) (m_laid : Nat) (m_laidIn : Nat) (m_sizes : Nat) (m_text : Nat) (m_readStreet : Nat) (m_readBeds : Nat) (m_readLight : Nat) (m_readYes : Nat) (m_readWage : Nat) (m_readNoise : Nat) (m_readMatter : Nat) (m_busy : Nat) (m_taken : Nat) (m_canLow : Nat) (m_canHigh : Nat) (m_ends : Nat) (m_rowWho : Nat) (m_rowWhere : Nat) (m_gotLow : Nat) (m_gotHigh : Nat) (m_made : Nat) (m_oddsBy : Nat) (m_order : Nat) (m_bestOrder : Nat) (m_bestEnds : Nat) (m_stops : Nat) (m_bookDay : Nat) (m_bookWho : Nat) (m_bookWhere : Nat) (m_images : Nat) (m_isKept : Nat) (w : Int32) : va_W := [(y, .inr (10, [.int 0, .ref m_street, .ref m_beds, .int 0, .ref m_light, .ref m_yes, .ref m_wage, .int 0, .ref m_noiseOf, .int 0, .ref m_matter, .int 0, .int 7, .int (-1), .int 1, .int 0, .int 0, .ref m_counted, .ref m_dreams, .ref m_state, .ref m_decided, .ref m_slept, .ref m_sleptIn, .ref m_laid, .ref m_laidIn, .int 0, .ref m_sizes, .ref m_text, .int 0, .int (-1), .int 0, .long 0, .int 0, .int 0, .int 0, .int 0, .ref m_readStreet, .ref m_readBeds, .int 0, .ref m_readLight, .ref m_readYes, .ref m_readWage, .int 0, .ref m_readNoise, .int 0, .ref m_readMatter, .int 0, .int 0, .int 0, .ref m_busy, .ref m_taken, .ref m_canLow, .ref m_canHigh, .ref m_ends, .ref m_rowWho, .ref m_rowWhere, .ref m_gotLow, .ref m_gotHigh, .ref m_made, .ref m_oddsBy, .int 0, .int 0, .int 0, .ref m_order, .ref m_bestOrder, .ref m_bestEnds, .ref m_stops, .int 0, .ref m_bookDay, .ref m_bookWho, .ref m_bookWhere, .ref m_images, .ref m_isKept]))]
abbrev r_X10_isMatter : Room := { frames := 1, cells := 0, slots := 0, locals := 25 }
abbrev q_X10_isMatter (k : Nat → ClassId) (y : Nat) (m_street : Nat) (m_beds : Nat) (m_light : Nat) (m_yes : Nat) (m_wage : Nat) (m_noiseOf : Nat) (m_matter : Nat) (m_counted : Nat) (m_dreams : Nat) (m_state : Nat) (m_decided : Nat) (m_slept : Nat) (m_sleptIn : Nat) (m_laid : Nat) (m_laidIn : Nat) (m_sizes : Nat) (m_text : Nat) (m_readStreet : Nat) (m_readBeds : Nat) (m_readLight : Nat) (m_readYes : Nat) (m_readWage : Nat) (m_readNoise : Nat) (m_readMatter : Nat) (m_busy : Nat) (m_taken : Nat) (m_canLow : Nat) (m_canHigh : Nat) (m_ends : Nat) (m_rowWho : Nat) (m_rowWhere : Nat) (m_gotLow : Nat) (m_gotHigh : Nat) (m_made : Nat) (m_oddsBy : Nat) (m_order : Nat) (m_bestOrder : Nat) (m_bestEnds : Nat) (m_stops : Nat) (m_bookDay : Nat) (m_bookWho : Nat) (m_bookWhere : Nat) (m_images : Nat) (m_isKept : Nat) (w : Int32) : Array Value → State → Outcome → State → Prop := vp_Si (fun r => r = 0)
set_option maxHeartbeats 2000000 in
set_option maxRecDepth 100000 in
theorem X10_isMatter (l : Launch) (D : va_G) (k : Nat → ClassId) (y : Nat) (m_street : Nat) (m_beds : Nat) (m_light : Nat) (m_yes : Nat) (m_wage : Nat) (m_noiseOf : Nat) (m_matter : Nat) (m_counted : Nat) (m_dreams : Nat) (m_state : Nat) (m_decided : Nat) (m_slept : Nat) (m_sleptIn : Nat) (m_laid : Nat) (m_laidIn : Nat) (m_sizes : Nat) (m_text : Nat) (m_readStreet : Nat) (m_readBeds : Nat) (m_readLight : Nat) (m_readYes : Nat) (m_readWage : Nat) (m_readNoise : Nat) (m_readMatter : Nat) (m_busy : Nat) (m_taken : Nat) (m_canLow : Nat) (m_canHigh : Nat) (m_ends : Nat) (m_rowWho : Nat) (m_rowWhere : Nat) (m_gotLow : Nat) (m_gotHigh : Nat) (m_made : Nat) (m_oddsBy : Nat) (m_order : Nat) (m_bestOrder : Nat) (m_bestEnds : Nat) (m_stops : Nat) (m_bookDay : Nat) (m_bookWho : Nat) (m_bookWhere : Nat) (m_images : Nat) (m_isKept : Nat) (w : Int32)  : Met l yX10_isMatter wsX10_isMatter r_X10_isMatter (va_Pc [.ref y, .int w] (PS D k (c_X10_isMatter k y m_street m_beds m_light m_yes m_wage m_noiseOf m_matter m_counted m_dreams m_state m_decided m_slept m_sleptIn m_laid m_laidIn m_sizes m_text m_readStreet m_readBeds m_readLight m_readYes m_readWage m_readNoise m_readMatter m_busy m_taken m_canLow m_canHigh m_ends m_rowWho m_rowWhere m_gotLow m_gotHigh m_made m_oddsBy m_order m_bestOrder m_bestEnds m_stops m_bookDay m_bookWho m_bookWhere m_images m_isKept w))) (q_X10_isMatter k y m_street m_beds m_light m_yes m_wage m_noiseOf m_matter m_counted m_dreams m_state m_decided m_slept m_sleptIn m_laid m_laidIn m_sizes m_text m_readStreet m_readBeds m_readLight m_readYes m_readWage m_readNoise m_readMatter m_busy m_taken m_canLow m_canHigh m_ends m_rowWho m_rowWhere m_gotLow m_gotHigh m_made m_oddsBy m_order m_bestOrder m_bestEnds m_stops m_bookDay m_bookWho m_bookWhere m_images m_isKept w) 0 0 (fun _ => False) := by
  refine Met.ofW (cc := cX10_isMatter) (maxL := 2) (ret := (some .boolean)) (by decide) rfl ?_
  intro p e s m args below meth c s₁ B hml hv
  obtain ⟨rfl, hP, hG⟩ := hv
  have hx := B.exec
  have hb := B.bytes
  have hr := B.returns
  have hts := atoms_spec (ws := wsX10_isMatter) B.pre
  have hown : s.vm.findClass RX10 = some m.cls := findClass_of_methodNamed B.named
  have hlocks := B.notSynchronized
  have hi10 : ∀ w ∈ wsX100, w ∈ wsX10_isMatter := fun _ h => List.mem_cons_of_mem _ (List.mem_append_right _ h)
  have hP : va_P D vwCl [(y, .inr (10, [.int 0, .ref m_street, .ref m_beds, .int 0, .ref m_light, .ref m_yes, .ref m_wage, .int 0, .ref m_noiseOf, .int 0, .ref m_matter, .int 0, .int 7, .int (-1), .int 1, .int 0, .int 0, .ref m_counted, .ref m_dreams, .ref m_state, .ref m_decided, .ref m_slept, .ref m_sleptIn, .ref m_laid, .ref m_laidIn, .int 0, .ref m_sizes, .ref m_text, .int 0, .int (-1), .int 0, .long 0, .int 0, .int 0, .int 0, .int 0, .ref m_readStreet, .ref m_readBeds, .int 0, .ref m_readLight, .ref m_readYes, .ref m_readWage, .int 0, .ref m_readNoise, .int 0, .ref m_readMatter, .int 0, .int 0, .int 0, .ref m_busy, .ref m_taken, .ref m_canLow, .ref m_canHigh, .ref m_ends, .ref m_rowWho, .ref m_rowWhere, .ref m_gotLow, .ref m_gotHigh, .ref m_made, .ref m_oddsBy, .int 0, .int 0, .int 0, .ref m_order, .ref m_bestOrder, .ref m_bestEnds, .ref m_stops, .int 0, .ref m_bookDay, .ref m_bookWho, .ref m_bookWhere, .ref m_images, .ref m_isKept]))] s.heap := hP
  have hl := lv_entry ([.ref y, .int w]) (n := 2) (Nat.le_of_ble_eq_true rfl)
  rw [lg_entry_eq]
  generalize (lg_sl ([.ref y, .int w]) ++ List.replicate (2 - (lg_sl ([.ref y, .int w])).length) Slot.unset).toArray = ls at hl ⊢
  have hl : lv_has ls 2 [(0, .ref y), (1, .int w)] := hl
  refine lv_iload_n hx hb dX10_isMatter_0 rfl (lv_at hl 1 rfl) ?_
  refine lv_i2l (v := w.toInt64) hx hb dX10_isMatter_1 rfl ?_
  refine lv_lconst (v := 0) hx hb dX10_isMatter_2 (by decide) ?_
  refine lv_aload_n hx hb dX10_isMatter_3 rfl (lv_at hl 0 rfl) ?_
  refine va_get (D := D) (ci := 10) (v := .int 0) (C := RX10) (T := TX10) (N := 73) hx hb hts hi10 hown hG.1 hP 0 rfl rfl 9 (by decide) (hts (.fieldLink RX10 175 "SleptMattersModel" "matters" "I") (List.mem_cons_of_mem _ (List.mem_append_left _ (List.mem_of_getElem? (i := 0) rfl)))) (fun _ h9 => h9) rfl dX10_isMatter_4 ?_
  refine lv_iconst (v := 1) hx hb dX10_isMatter_7 (by decide) ?_
  refine lv_isub hx hb dX10_isMatter_8 ?_
  refine tp_i (y := (-1)) (by decide) ?_
  refine lv_i2l (v := (-1 : Int32).toInt64) hx hb dX10_isMatter_9 rfl ?_
  have hPc := hP.sub (ws' := (c_X10_in k w.toInt64 0 ((-1 : Int32).toInt64))) [] rfl
  refine vp_callSi (va_Run.run (va_runS (As := [.long w.toInt64, .long 0, .long ((-1 : Int32).toInt64)]) (rest := []) ⟨hx, hb, hml, hown, hts⟩ (X10_in l D k w.toInt64 0 ((-1 : Int32).toInt64) ) (va_cwS 3 hts gX10_isMatter_X10_in rfl rfl rfl (by decide +kernel) ⟨Nat.le_of_ble_eq_true rfl, Nat.le_of_ble_eq_true rfl⟩) ⟨PS.blind _ _ _ _, PS.pre hPc hG [.long w.toInt64, .long 0, .long ((-1 : Int32).toInt64)]⟩ rfl rfl hl.1 rfl (lv_room (Nat.le_of_ble_eq_true rfl)) dX10_isMatter_10 ⟨Nat.le_of_ble_eq_true rfl, Nat.le_of_ble_eq_true rfl⟩)) (fun r hq => ?_)
  generalize r = y1 at hq ⊢
  have hq : y1 = inA w.toInt64 0 ((-1 : Int32).toInt64) := hq
  refine tp_i (y := 0) (hq.trans (in_zero (a := 0) (b := -1) rfl rfl (by decide))) ?_
  exact W.zret (v := 0) hx hb hr (rfl) (fun t9 ht _ => ⟨0, rfl, rfl, ht⟩) (fun q h => by cases h) dX10_isMatter_13

abbrev c_X10_house (k : Nat → ClassId) (y : Nat) (m_street : Nat) (m_beds : Nat) (m_light : Nat) (m_yes : Nat) (m_wage : Nat) (m_noiseOf : Nat) (m_matter : Nat) (m_counted : Nat) (m_dreams : Nat) (m_state : Nat) (m_decided : Nat) (m_slept : Nat) (m_sleptIn : Nat) (m_laid : Nat) (m_laidIn : Nat) (m_sizes : Nat) (m_text : Nat) (m_readStreet : Nat) (m_readBeds : Nat) (m_readLight : Nat) (m_readYes : Nat) (m_readWage : Nat) (m_readNoise : Nat) (m_readMatter : Nat) (m_busy : Nat) (m_taken : Nat) (m_canLow : Nat) (m_canHigh : Nat) (m_ends : Nat) (m_rowWho : Nat) (m_rowWhere : Nat) (m_gotLow : Nat) (m_gotHigh : Nat) (m_made : Nat) (m_oddsBy : Nat) (m_order : Nat) (m_bestOrder : Nat) (m_bestEnds : Nat) (m_stops : Nat) (m_bookDay : Nat) (m_bookWho : Nat) (m_bookWhere : Nat) (m_images : Nat) (m_isKept : Nat) (w0 : Int32) (w1 : Int32) : va_W := [(y, .inr (10, [.int 0, .ref m_street, .ref m_beds, .int 0, .ref m_light, .ref m_yes, .ref m_wage, .int 0, .ref m_noiseOf, .int 0, .ref m_matter, .int 0, .int 7, .int (-1), .int 1, .int 0, .int 0, .ref m_counted, .ref m_dreams, .ref m_state, .ref m_decided, .ref m_slept, .ref m_sleptIn, .ref m_laid, .ref m_laidIn, .int 0, .ref m_sizes, .ref m_text, .int 0, .int (-1), .int 0, .long 0, .int 0, .int 0, .int 0, .int 0, .ref m_readStreet, .ref m_readBeds, .int 0, .ref m_readLight, .ref m_readYes, .ref m_readWage, .int 0, .ref m_readNoise, .int 0, .ref m_readMatter, .int 0, .int 0, .int 0, .ref m_busy, .ref m_taken, .ref m_canLow, .ref m_canHigh, .ref m_ends, .ref m_rowWho, .ref m_rowWhere, .ref m_gotLow, .ref m_gotHigh, .ref m_made, .ref m_oddsBy, .int 0, .int 0, .int 0, .ref m_order, .ref m_bestOrder, .ref m_bestEnds, .ref m_stops, .int 0, .ref m_bookDay, .ref m_bookWho, .ref m_bookWhere, .ref m_images, .ref m_isKept]))]
abbrev r_X10_house : Room := { frames := 2, cells := 0, slots := 0, locals := 46 }
abbrev q_X10_house (k : Nat → ClassId) (y : Nat) (m_street : Nat) (m_beds : Nat) (m_light : Nat) (m_yes : Nat) (m_wage : Nat) (m_noiseOf : Nat) (m_matter : Nat) (m_counted : Nat) (m_dreams : Nat) (m_state : Nat) (m_decided : Nat) (m_slept : Nat) (m_sleptIn : Nat) (m_laid : Nat) (m_laidIn : Nat) (m_sizes : Nat) (m_text : Nat) (m_readStreet : Nat) (m_readBeds : Nat) (m_readLight : Nat) (m_readYes : Nat) (m_readWage : Nat) (m_readNoise : Nat) (m_readMatter : Nat) (m_busy : Nat) (m_taken : Nat) (m_canLow : Nat) (m_canHigh : Nat) (m_ends : Nat) (m_rowWho : Nat) (m_rowWhere : Nat) (m_gotLow : Nat) (m_gotHigh : Nat) (m_made : Nat) (m_oddsBy : Nat) (m_order : Nat) (m_bestOrder : Nat) (m_bestEnds : Nat) (m_stops : Nat) (m_bookDay : Nat) (m_bookWho : Nat) (m_bookWhere : Nat) (m_images : Nat) (m_isKept : Nat) (w0 : Int32) (w1 : Int32) : Array Value → State → Outcome → State → Prop := vp_Si (fun r => r = (-1000000001))
set_option maxHeartbeats 2000000 in
set_option maxRecDepth 100000 in
theorem X10_house (l : Launch) (D : va_G) (k : Nat → ClassId) (y : Nat) (m_street : Nat) (m_beds : Nat) (m_light : Nat) (m_yes : Nat) (m_wage : Nat) (m_noiseOf : Nat) (m_matter : Nat) (m_counted : Nat) (m_dreams : Nat) (m_state : Nat) (m_decided : Nat) (m_slept : Nat) (m_sleptIn : Nat) (m_laid : Nat) (m_laidIn : Nat) (m_sizes : Nat) (m_text : Nat) (m_readStreet : Nat) (m_readBeds : Nat) (m_readLight : Nat) (m_readYes : Nat) (m_readWage : Nat) (m_readNoise : Nat) (m_readMatter : Nat) (m_busy : Nat) (m_taken : Nat) (m_canLow : Nat) (m_canHigh : Nat) (m_ends : Nat) (m_rowWho : Nat) (m_rowWhere : Nat) (m_gotLow : Nat) (m_gotHigh : Nat) (m_made : Nat) (m_oddsBy : Nat) (m_order : Nat) (m_bestOrder : Nat) (m_bestEnds : Nat) (m_stops : Nat) (m_bookDay : Nat) (m_bookWho : Nat) (m_bookWhere : Nat) (m_images : Nat) (m_isKept : Nat) (w0 : Int32) (w1 : Int32)  : Met l yX10_house wsX10_house r_X10_house (va_Pc [.ref y, .int w0, .int w1] (PS D k (c_X10_house k y m_street m_beds m_light m_yes m_wage m_noiseOf m_matter m_counted m_dreams m_state m_decided m_slept m_sleptIn m_laid m_laidIn m_sizes m_text m_readStreet m_readBeds m_readLight m_readYes m_readWage m_readNoise m_readMatter m_busy m_taken m_canLow m_canHigh m_ends m_rowWho m_rowWhere m_gotLow m_gotHigh m_made m_oddsBy m_order m_bestOrder m_bestEnds m_stops m_bookDay m_bookWho m_bookWhere m_images m_isKept w0 w1))) (q_X10_house k y m_street m_beds m_light m_yes m_wage m_noiseOf m_matter m_counted m_dreams m_state m_decided m_slept m_sleptIn m_laid m_laidIn m_sizes m_text m_readStreet m_readBeds m_readLight m_readYes m_readWage m_readNoise m_readMatter m_busy m_taken m_canLow m_canHigh m_ends m_rowWho m_rowWhere m_gotLow m_gotHigh m_made m_oddsBy m_order m_bestOrder m_bestEnds m_stops m_bookDay m_bookWho m_bookWhere m_images m_isKept w0 w1) 0 0 (fun _ => False) := by
  refine Met.ofW (cc := cX10_house) (maxL := 3) (ret := (some .int)) (by decide) rfl ?_
  intro p e s m args below meth c s₁ B hml hv
  obtain ⟨rfl, hP, hG⟩ := hv
  have hx := B.exec
  have hb := B.bytes
  have hr := B.returns
  have hts := atoms_spec (ws := wsX10_house) B.pre
  have hown : s.vm.findClass RX10 = some m.cls := findClass_of_methodNamed B.named
  have hlocks := B.notSynchronized
  have hi10 : ∀ w ∈ wsX100, w ∈ wsX10_house := fun _ h => List.mem_cons_of_mem _ (List.mem_append_right _ h)
  have hP : va_P D vwCl [(y, .inr (10, [.int 0, .ref m_street, .ref m_beds, .int 0, .ref m_light, .ref m_yes, .ref m_wage, .int 0, .ref m_noiseOf, .int 0, .ref m_matter, .int 0, .int 7, .int (-1), .int 1, .int 0, .int 0, .ref m_counted, .ref m_dreams, .ref m_state, .ref m_decided, .ref m_slept, .ref m_sleptIn, .ref m_laid, .ref m_laidIn, .int 0, .ref m_sizes, .ref m_text, .int 0, .int (-1), .int 0, .long 0, .int 0, .int 0, .int 0, .int 0, .ref m_readStreet, .ref m_readBeds, .int 0, .ref m_readLight, .ref m_readYes, .ref m_readWage, .int 0, .ref m_readNoise, .int 0, .ref m_readMatter, .int 0, .int 0, .int 0, .ref m_busy, .ref m_taken, .ref m_canLow, .ref m_canHigh, .ref m_ends, .ref m_rowWho, .ref m_rowWhere, .ref m_gotLow, .ref m_gotHigh, .ref m_made, .ref m_oddsBy, .int 0, .int 0, .int 0, .ref m_order, .ref m_bestOrder, .ref m_bestEnds, .ref m_stops, .int 0, .ref m_bookDay, .ref m_bookWho, .ref m_bookWhere, .ref m_images, .ref m_isKept]))] s.heap := hP
  have hl := lv_entry ([.ref y, .int w0, .int w1]) (n := 3) (Nat.le_of_ble_eq_true rfl)
  rw [lg_entry_eq]
  generalize (lg_sl ([.ref y, .int w0, .int w1]) ++ List.replicate (3 - (lg_sl ([.ref y, .int w0, .int w1])).length) Slot.unset).toArray = ls at hl ⊢
  have hl : lv_has ls 3 [(0, .ref y), (1, .int w0), (2, .int w1)] := hl
  refine lv_aload_n hx hb dX10_house_0 rfl (lv_at hl 0 rfl) ?_
  refine lv_iload_n hx hb dX10_house_1 rfl (lv_at hl 1 rfl) ?_
  have hPc := hP.sub (ws' := (c_X10_isHouse k y m_street m_beds m_light m_yes m_wage m_noiseOf m_matter m_counted m_dreams m_state m_decided m_slept m_sleptIn m_laid m_laidIn m_sizes m_text m_readStreet m_readBeds m_readLight m_readYes m_readWage m_readNoise m_readMatter m_busy m_taken m_canLow m_canHigh m_ends m_rowWho m_rowWhere m_gotLow m_gotHigh m_made m_oddsBy m_order m_bestOrder m_bestEnds m_stops m_bookDay m_bookWho m_bookWhere m_images m_isKept w0)) [0] rfl
  refine vp_callSi (va_Run.run (va_runV (As := [.int w0]) (rest := []) ⟨hx, hb, hml, hown, hts⟩ (X10_isHouse l D k y m_street m_beds m_light m_yes m_wage m_noiseOf m_matter m_counted m_dreams m_state m_decided m_slept m_sleptIn m_laid m_laidIn m_sizes m_text m_readStreet m_readBeds m_readLight m_readYes m_readWage m_readNoise m_readMatter m_busy m_taken m_canLow m_canHigh m_ends m_rowWho m_rowWhere m_gotLow m_gotHigh m_made m_oddsBy m_order m_bestOrder m_bestEnds m_stops m_bookDay m_bookWho m_bookWhere m_images m_isKept w0 ) (cwV 1 hts gX10_house_X10_isHouse rfl rfl rfl (by decide +kernel) ⟨Nat.le_of_ble_eq_true rfl, Nat.le_of_ble_eq_true rfl⟩) ⟨PS.blind _ _ _ _, va_recv hG.1 hP (ci := 10) (q0 := 0) rfl rfl, PS.pre hPc hG [.ref y, .int w0]⟩ rfl rfl hl.1 rfl (lv_room (Nat.le_of_ble_eq_true rfl)) dX10_house_2 ⟨Nat.le_of_ble_eq_true rfl, Nat.le_of_ble_eq_true rfl⟩)) (fun r hq => ?_)
  generalize r = y1 at hq ⊢
  have hq : y1 = 0 := hq
  refine tp_i (y := 0) (hq) ?_
  refine lv_if_ne (x := 0) (tgt := 12) hx hb dX10_house_5 (by decide) (fun c2 => absurd c2 (by decide)) (fun c2 => ?_)
  refine lv_ldcw (v := (-1000000001)) hx hb hown (hts (.constant RX10 321 (-1000000001)) (List.mem_cons_of_mem _ (List.mem_append_left _ (List.mem_of_getElem? (i := 0) rfl)))) dX10_house_8 ?_
  exact W.iret (v := (-1000000001)) hx hb hr (fun t9 ht _ => ⟨(-1000000001), rfl, rfl, ht⟩) (fun q h => by cases h) dX10_house_11

abbrev c_X10_sleeper (k : Nat → ClassId) (y : Nat) (m_street : Nat) (m_beds : Nat) (m_light : Nat) (m_yes : Nat) (m_wage : Nat) (m_noiseOf : Nat) (m_matter : Nat) (m_counted : Nat) (m_dreams : Nat) (m_state : Nat) (m_decided : Nat) (m_slept : Nat) (m_sleptIn : Nat) (m_laid : Nat) (m_laidIn : Nat) (m_sizes : Nat) (m_text : Nat) (m_readStreet : Nat) (m_readBeds : Nat) (m_readLight : Nat) (m_readYes : Nat) (m_readWage : Nat) (m_readNoise : Nat) (m_readMatter : Nat) (m_busy : Nat) (m_taken : Nat) (m_canLow : Nat) (m_canHigh : Nat) (m_ends : Nat) (m_rowWho : Nat) (m_rowWhere : Nat) (m_gotLow : Nat) (m_gotHigh : Nat) (m_made : Nat) (m_oddsBy : Nat) (m_order : Nat) (m_bestOrder : Nat) (m_bestEnds : Nat) (m_stops : Nat) (m_bookDay : Nat) (m_bookWho : Nat) (m_bookWhere : Nat) (m_images : Nat) (m_isKept : Nat) (w0 : Int32) (w1 : Int32) : va_W := [(y, .inr (10, [.int 0, .ref m_street, .ref m_beds, .int 0, .ref m_light, .ref m_yes, .ref m_wage, .int 0, .ref m_noiseOf, .int 0, .ref m_matter, .int 0, .int 7, .int (-1), .int 1, .int 0, .int 0, .ref m_counted, .ref m_dreams, .ref m_state, .ref m_decided, .ref m_slept, .ref m_sleptIn, .ref m_laid, .ref m_laidIn, .int 0, .ref m_sizes, .ref m_text, .int 0, .int (-1), .int 0, .long 0, .int 0, .int 0, .int 0, .int 0, .ref m_readStreet, .ref m_readBeds, .int 0, .ref m_readLight, .ref m_readYes, .ref m_readWage, .int 0, .ref m_readNoise, .int 0, .ref m_readMatter, .int 0, .int 0, .int 0, .ref m_busy, .ref m_taken, .ref m_canLow, .ref m_canHigh, .ref m_ends, .ref m_rowWho, .ref m_rowWhere, .ref m_gotLow, .ref m_gotHigh, .ref m_made, .ref m_oddsBy, .int 0, .int 0, .int 0, .ref m_order, .ref m_bestOrder, .ref m_bestEnds, .ref m_stops, .int 0, .ref m_bookDay, .ref m_bookWho, .ref m_bookWhere, .ref m_images, .ref m_isKept]))]
abbrev r_X10_sleeper : Room := { frames := 2, cells := 0, slots := 0, locals := 46 }
abbrev q_X10_sleeper (k : Nat → ClassId) (y : Nat) (m_street : Nat) (m_beds : Nat) (m_light : Nat) (m_yes : Nat) (m_wage : Nat) (m_noiseOf : Nat) (m_matter : Nat) (m_counted : Nat) (m_dreams : Nat) (m_state : Nat) (m_decided : Nat) (m_slept : Nat) (m_sleptIn : Nat) (m_laid : Nat) (m_laidIn : Nat) (m_sizes : Nat) (m_text : Nat) (m_readStreet : Nat) (m_readBeds : Nat) (m_readLight : Nat) (m_readYes : Nat) (m_readWage : Nat) (m_readNoise : Nat) (m_readMatter : Nat) (m_busy : Nat) (m_taken : Nat) (m_canLow : Nat) (m_canHigh : Nat) (m_ends : Nat) (m_rowWho : Nat) (m_rowWhere : Nat) (m_gotLow : Nat) (m_gotHigh : Nat) (m_made : Nat) (m_oddsBy : Nat) (m_order : Nat) (m_bestOrder : Nat) (m_bestEnds : Nat) (m_stops : Nat) (m_bookDay : Nat) (m_bookWho : Nat) (m_bookWhere : Nat) (m_images : Nat) (m_isKept : Nat) (w0 : Int32) (w1 : Int32) : Array Value → State → Outcome → State → Prop := vp_Si (fun r => r = (-1000000001))
set_option maxHeartbeats 2000000 in
set_option maxRecDepth 100000 in
theorem X10_sleeper (l : Launch) (D : va_G) (k : Nat → ClassId) (y : Nat) (m_street : Nat) (m_beds : Nat) (m_light : Nat) (m_yes : Nat) (m_wage : Nat) (m_noiseOf : Nat) (m_matter : Nat) (m_counted : Nat) (m_dreams : Nat) (m_state : Nat) (m_decided : Nat) (m_slept : Nat) (m_sleptIn : Nat) (m_laid : Nat) (m_laidIn : Nat) (m_sizes : Nat) (m_text : Nat) (m_readStreet : Nat) (m_readBeds : Nat) (m_readLight : Nat) (m_readYes : Nat) (m_readWage : Nat) (m_readNoise : Nat) (m_readMatter : Nat) (m_busy : Nat) (m_taken : Nat) (m_canLow : Nat) (m_canHigh : Nat) (m_ends : Nat) (m_rowWho : Nat) (m_rowWhere : Nat) (m_gotLow : Nat) (m_gotHigh : Nat) (m_made : Nat) (m_oddsBy : Nat) (m_order : Nat) (m_bestOrder : Nat) (m_bestEnds : Nat) (m_stops : Nat) (m_bookDay : Nat) (m_bookWho : Nat) (m_bookWhere : Nat) (m_images : Nat) (m_isKept : Nat) (w0 : Int32) (w1 : Int32)  : Met l yX10_sleeper wsX10_sleeper r_X10_sleeper (va_Pc [.ref y, .int w0, .int w1] (PS D k (c_X10_sleeper k y m_street m_beds m_light m_yes m_wage m_noiseOf m_matter m_counted m_dreams m_state m_decided m_slept m_sleptIn m_laid m_laidIn m_sizes m_text m_readStreet m_readBeds m_readLight m_readYes m_readWage m_readNoise m_readMatter m_busy m_taken m_canLow m_canHigh m_ends m_rowWho m_rowWhere m_gotLow m_gotHigh m_made m_oddsBy m_order m_bestOrder m_bestEnds m_stops m_bookDay m_bookWho m_bookWhere m_images m_isKept w0 w1))) (q_X10_sleeper k y m_street m_beds m_light m_yes m_wage m_noiseOf m_matter m_counted m_dreams m_state m_decided m_slept m_sleptIn m_laid m_laidIn m_sizes m_text m_readStreet m_readBeds m_readLight m_readYes m_readWage m_readNoise m_readMatter m_busy m_taken m_canLow m_canHigh m_ends m_rowWho m_rowWhere m_gotLow m_gotHigh m_made m_oddsBy m_order m_bestOrder m_bestEnds m_stops m_bookDay m_bookWho m_bookWhere m_images m_isKept w0 w1) 0 0 (fun _ => False) := by
  refine Met.ofW (cc := cX10_sleeper) (maxL := 3) (ret := (some .int)) (by decide) rfl ?_
  intro p e s m args below meth c s₁ B hml hv
  obtain ⟨rfl, hP, hG⟩ := hv
  have hx := B.exec
  have hb := B.bytes
  have hr := B.returns
  have hts := atoms_spec (ws := wsX10_sleeper) B.pre
  have hown : s.vm.findClass RX10 = some m.cls := findClass_of_methodNamed B.named
  have hlocks := B.notSynchronized
  have hi10 : ∀ w ∈ wsX100, w ∈ wsX10_sleeper := fun _ h => List.mem_cons_of_mem _ (List.mem_append_right _ h)
  have hP : va_P D vwCl [(y, .inr (10, [.int 0, .ref m_street, .ref m_beds, .int 0, .ref m_light, .ref m_yes, .ref m_wage, .int 0, .ref m_noiseOf, .int 0, .ref m_matter, .int 0, .int 7, .int (-1), .int 1, .int 0, .int 0, .ref m_counted, .ref m_dreams, .ref m_state, .ref m_decided, .ref m_slept, .ref m_sleptIn, .ref m_laid, .ref m_laidIn, .int 0, .ref m_sizes, .ref m_text, .int 0, .int (-1), .int 0, .long 0, .int 0, .int 0, .int 0, .int 0, .ref m_readStreet, .ref m_readBeds, .int 0, .ref m_readLight, .ref m_readYes, .ref m_readWage, .int 0, .ref m_readNoise, .int 0, .ref m_readMatter, .int 0, .int 0, .int 0, .ref m_busy, .ref m_taken, .ref m_canLow, .ref m_canHigh, .ref m_ends, .ref m_rowWho, .ref m_rowWhere, .ref m_gotLow, .ref m_gotHigh, .ref m_made, .ref m_oddsBy, .int 0, .int 0, .int 0, .ref m_order, .ref m_bestOrder, .ref m_bestEnds, .ref m_stops, .int 0, .ref m_bookDay, .ref m_bookWho, .ref m_bookWhere, .ref m_images, .ref m_isKept]))] s.heap := hP
  have hl := lv_entry ([.ref y, .int w0, .int w1]) (n := 3) (Nat.le_of_ble_eq_true rfl)
  rw [lg_entry_eq]
  generalize (lg_sl ([.ref y, .int w0, .int w1]) ++ List.replicate (3 - (lg_sl ([.ref y, .int w0, .int w1])).length) Slot.unset).toArray = ls at hl ⊢
  have hl : lv_has ls 3 [(0, .ref y), (1, .int w0), (2, .int w1)] := hl
  refine lv_aload_n hx hb dX10_sleeper_0 rfl (lv_at hl 0 rfl) ?_
  refine lv_iload_n hx hb dX10_sleeper_1 rfl (lv_at hl 1 rfl) ?_
  have hPc := hP.sub (ws' := (c_X10_isSleeper k y m_street m_beds m_light m_yes m_wage m_noiseOf m_matter m_counted m_dreams m_state m_decided m_slept m_sleptIn m_laid m_laidIn m_sizes m_text m_readStreet m_readBeds m_readLight m_readYes m_readWage m_readNoise m_readMatter m_busy m_taken m_canLow m_canHigh m_ends m_rowWho m_rowWhere m_gotLow m_gotHigh m_made m_oddsBy m_order m_bestOrder m_bestEnds m_stops m_bookDay m_bookWho m_bookWhere m_images m_isKept w0)) [0] rfl
  refine vp_callSi (va_Run.run (va_runV (As := [.int w0]) (rest := []) ⟨hx, hb, hml, hown, hts⟩ (X10_isSleeper l D k y m_street m_beds m_light m_yes m_wage m_noiseOf m_matter m_counted m_dreams m_state m_decided m_slept m_sleptIn m_laid m_laidIn m_sizes m_text m_readStreet m_readBeds m_readLight m_readYes m_readWage m_readNoise m_readMatter m_busy m_taken m_canLow m_canHigh m_ends m_rowWho m_rowWhere m_gotLow m_gotHigh m_made m_oddsBy m_order m_bestOrder m_bestEnds m_stops m_bookDay m_bookWho m_bookWhere m_images m_isKept w0 ) (cwV 1 hts gX10_sleeper_X10_isSleeper rfl rfl rfl (by decide +kernel) ⟨Nat.le_of_ble_eq_true rfl, Nat.le_of_ble_eq_true rfl⟩) ⟨PS.blind _ _ _ _, va_recv hG.1 hP (ci := 10) (q0 := 0) rfl rfl, PS.pre hPc hG [.ref y, .int w0]⟩ rfl rfl hl.1 rfl (lv_room (Nat.le_of_ble_eq_true rfl)) dX10_sleeper_2 ⟨Nat.le_of_ble_eq_true rfl, Nat.le_of_ble_eq_true rfl⟩)) (fun r hq => ?_)
  generalize r = y1 at hq ⊢
  have hq : y1 = 0 := hq
  refine tp_i (y := 0) (hq) ?_
  refine lv_if_ne (x := 0) (tgt := 12) hx hb dX10_sleeper_5 (by decide) (fun c2 => absurd c2 (by decide)) (fun c2 => ?_)
  refine lv_ldcw (v := (-1000000001)) hx hb hown (hts (.constant RX10 321 (-1000000001)) (List.mem_cons_of_mem _ (List.mem_append_left _ (List.mem_of_getElem? (i := 0) rfl)))) dX10_sleeper_8 ?_
  exact W.iret (v := (-1000000001)) hx hb hr (fun t9 ht _ => ⟨(-1000000001), rfl, rfl, ht⟩) (fun q h => by cases h) dX10_sleeper_11

abbrev c_X10_matter (k : Nat → ClassId) (y : Nat) (m_street : Nat) (m_beds : Nat) (m_light : Nat) (m_yes : Nat) (m_wage : Nat) (m_noiseOf : Nat) (m_matter : Nat) (m_counted : Nat) (m_dreams : Nat) (m_state : Nat) (m_decided : Nat) (m_slept : Nat) (m_sleptIn : Nat) (m_laid : Nat) (m_laidIn : Nat) (m_sizes : Nat) (m_text : Nat) (m_readStreet : Nat) (m_readBeds : Nat) (m_readLight : Nat) (m_readYes : Nat) (m_readWage : Nat) (m_readNoise : Nat) (m_readMatter : Nat) (m_busy : Nat) (m_taken : Nat) (m_canLow : Nat) (m_canHigh : Nat) (m_ends : Nat) (m_rowWho : Nat) (m_rowWhere : Nat) (m_gotLow : Nat) (m_gotHigh : Nat) (m_made : Nat) (m_oddsBy : Nat) (m_order : Nat) (m_bestOrder : Nat) (m_bestEnds : Nat) (m_stops : Nat) (m_bookDay : Nat) (m_bookWho : Nat) (m_bookWhere : Nat) (m_images : Nat) (m_isKept : Nat) (w0 : Int32) (w1 : Int32) : va_W := [(y, .inr (10, [.int 0, .ref m_street, .ref m_beds, .int 0, .ref m_light, .ref m_yes, .ref m_wage, .int 0, .ref m_noiseOf, .int 0, .ref m_matter, .int 0, .int 7, .int (-1), .int 1, .int 0, .int 0, .ref m_counted, .ref m_dreams, .ref m_state, .ref m_decided, .ref m_slept, .ref m_sleptIn, .ref m_laid, .ref m_laidIn, .int 0, .ref m_sizes, .ref m_text, .int 0, .int (-1), .int 0, .long 0, .int 0, .int 0, .int 0, .int 0, .ref m_readStreet, .ref m_readBeds, .int 0, .ref m_readLight, .ref m_readYes, .ref m_readWage, .int 0, .ref m_readNoise, .int 0, .ref m_readMatter, .int 0, .int 0, .int 0, .ref m_busy, .ref m_taken, .ref m_canLow, .ref m_canHigh, .ref m_ends, .ref m_rowWho, .ref m_rowWhere, .ref m_gotLow, .ref m_gotHigh, .ref m_made, .ref m_oddsBy, .int 0, .int 0, .int 0, .ref m_order, .ref m_bestOrder, .ref m_bestEnds, .ref m_stops, .int 0, .ref m_bookDay, .ref m_bookWho, .ref m_bookWhere, .ref m_images, .ref m_isKept]))]
abbrev r_X10_matter : Room := { frames := 2, cells := 0, slots := 0, locals := 46 }
abbrev q_X10_matter (k : Nat → ClassId) (y : Nat) (m_street : Nat) (m_beds : Nat) (m_light : Nat) (m_yes : Nat) (m_wage : Nat) (m_noiseOf : Nat) (m_matter : Nat) (m_counted : Nat) (m_dreams : Nat) (m_state : Nat) (m_decided : Nat) (m_slept : Nat) (m_sleptIn : Nat) (m_laid : Nat) (m_laidIn : Nat) (m_sizes : Nat) (m_text : Nat) (m_readStreet : Nat) (m_readBeds : Nat) (m_readLight : Nat) (m_readYes : Nat) (m_readWage : Nat) (m_readNoise : Nat) (m_readMatter : Nat) (m_busy : Nat) (m_taken : Nat) (m_canLow : Nat) (m_canHigh : Nat) (m_ends : Nat) (m_rowWho : Nat) (m_rowWhere : Nat) (m_gotLow : Nat) (m_gotHigh : Nat) (m_made : Nat) (m_oddsBy : Nat) (m_order : Nat) (m_bestOrder : Nat) (m_bestEnds : Nat) (m_stops : Nat) (m_bookDay : Nat) (m_bookWho : Nat) (m_bookWhere : Nat) (m_images : Nat) (m_isKept : Nat) (w0 : Int32) (w1 : Int32) : Array Value → State → Outcome → State → Prop := vp_Si (fun r => r = (-1000000001))
set_option maxHeartbeats 2000000 in
set_option maxRecDepth 100000 in
theorem X10_matter (l : Launch) (D : va_G) (k : Nat → ClassId) (y : Nat) (m_street : Nat) (m_beds : Nat) (m_light : Nat) (m_yes : Nat) (m_wage : Nat) (m_noiseOf : Nat) (m_matter : Nat) (m_counted : Nat) (m_dreams : Nat) (m_state : Nat) (m_decided : Nat) (m_slept : Nat) (m_sleptIn : Nat) (m_laid : Nat) (m_laidIn : Nat) (m_sizes : Nat) (m_text : Nat) (m_readStreet : Nat) (m_readBeds : Nat) (m_readLight : Nat) (m_readYes : Nat) (m_readWage : Nat) (m_readNoise : Nat) (m_readMatter : Nat) (m_busy : Nat) (m_taken : Nat) (m_canLow : Nat) (m_canHigh : Nat) (m_ends : Nat) (m_rowWho : Nat) (m_rowWhere : Nat) (m_gotLow : Nat) (m_gotHigh : Nat) (m_made : Nat) (m_oddsBy : Nat) (m_order : Nat) (m_bestOrder : Nat) (m_bestEnds : Nat) (m_stops : Nat) (m_bookDay : Nat) (m_bookWho : Nat) (m_bookWhere : Nat) (m_images : Nat) (m_isKept : Nat) (w0 : Int32) (w1 : Int32)  : Met l yX10_matter wsX10_matter r_X10_matter (va_Pc [.ref y, .int w0, .int w1] (PS D k (c_X10_matter k y m_street m_beds m_light m_yes m_wage m_noiseOf m_matter m_counted m_dreams m_state m_decided m_slept m_sleptIn m_laid m_laidIn m_sizes m_text m_readStreet m_readBeds m_readLight m_readYes m_readWage m_readNoise m_readMatter m_busy m_taken m_canLow m_canHigh m_ends m_rowWho m_rowWhere m_gotLow m_gotHigh m_made m_oddsBy m_order m_bestOrder m_bestEnds m_stops m_bookDay m_bookWho m_bookWhere m_images m_isKept w0 w1))) (q_X10_matter k y m_street m_beds m_light m_yes m_wage m_noiseOf m_matter m_counted m_dreams m_state m_decided m_slept m_sleptIn m_laid m_laidIn m_sizes m_text m_readStreet m_readBeds m_readLight m_readYes m_readWage m_readNoise m_readMatter m_busy m_taken m_canLow m_canHigh m_ends m_rowWho m_rowWhere m_gotLow m_gotHigh m_made m_oddsBy m_order m_bestOrder m_bestEnds m_stops m_bookDay m_bookWho m_bookWhere m_images m_isKept w0 w1) 0 0 (fun _ => False) := by
  refine Met.ofW (cc := cX10_matter) (maxL := 3) (ret := (some .int)) (by decide) rfl ?_
  intro p e s m args below meth c s₁ B hml hv
  obtain ⟨rfl, hP, hG⟩ := hv
  have hx := B.exec
  have hb := B.bytes
  have hr := B.returns
  have hts := atoms_spec (ws := wsX10_matter) B.pre
  have hown : s.vm.findClass RX10 = some m.cls := findClass_of_methodNamed B.named
  have hlocks := B.notSynchronized
  have hi10 : ∀ w ∈ wsX100, w ∈ wsX10_matter := fun _ h => List.mem_cons_of_mem _ (List.mem_append_right _ h)
  have hP : va_P D vwCl [(y, .inr (10, [.int 0, .ref m_street, .ref m_beds, .int 0, .ref m_light, .ref m_yes, .ref m_wage, .int 0, .ref m_noiseOf, .int 0, .ref m_matter, .int 0, .int 7, .int (-1), .int 1, .int 0, .int 0, .ref m_counted, .ref m_dreams, .ref m_state, .ref m_decided, .ref m_slept, .ref m_sleptIn, .ref m_laid, .ref m_laidIn, .int 0, .ref m_sizes, .ref m_text, .int 0, .int (-1), .int 0, .long 0, .int 0, .int 0, .int 0, .int 0, .ref m_readStreet, .ref m_readBeds, .int 0, .ref m_readLight, .ref m_readYes, .ref m_readWage, .int 0, .ref m_readNoise, .int 0, .ref m_readMatter, .int 0, .int 0, .int 0, .ref m_busy, .ref m_taken, .ref m_canLow, .ref m_canHigh, .ref m_ends, .ref m_rowWho, .ref m_rowWhere, .ref m_gotLow, .ref m_gotHigh, .ref m_made, .ref m_oddsBy, .int 0, .int 0, .int 0, .ref m_order, .ref m_bestOrder, .ref m_bestEnds, .ref m_stops, .int 0, .ref m_bookDay, .ref m_bookWho, .ref m_bookWhere, .ref m_images, .ref m_isKept]))] s.heap := hP
  have hl := lv_entry ([.ref y, .int w0, .int w1]) (n := 3) (Nat.le_of_ble_eq_true rfl)
  rw [lg_entry_eq]
  generalize (lg_sl ([.ref y, .int w0, .int w1]) ++ List.replicate (3 - (lg_sl ([.ref y, .int w0, .int w1])).length) Slot.unset).toArray = ls at hl ⊢
  have hl : lv_has ls 3 [(0, .ref y), (1, .int w0), (2, .int w1)] := hl
  refine lv_aload_n hx hb dX10_matter_0 rfl (lv_at hl 0 rfl) ?_
  refine lv_iload_n hx hb dX10_matter_1 rfl (lv_at hl 1 rfl) ?_
  have hPc := hP.sub (ws' := (c_X10_isMatter k y m_street m_beds m_light m_yes m_wage m_noiseOf m_matter m_counted m_dreams m_state m_decided m_slept m_sleptIn m_laid m_laidIn m_sizes m_text m_readStreet m_readBeds m_readLight m_readYes m_readWage m_readNoise m_readMatter m_busy m_taken m_canLow m_canHigh m_ends m_rowWho m_rowWhere m_gotLow m_gotHigh m_made m_oddsBy m_order m_bestOrder m_bestEnds m_stops m_bookDay m_bookWho m_bookWhere m_images m_isKept w0)) [0] rfl
  refine vp_callSi (va_Run.run (va_runV (As := [.int w0]) (rest := []) ⟨hx, hb, hml, hown, hts⟩ (X10_isMatter l D k y m_street m_beds m_light m_yes m_wage m_noiseOf m_matter m_counted m_dreams m_state m_decided m_slept m_sleptIn m_laid m_laidIn m_sizes m_text m_readStreet m_readBeds m_readLight m_readYes m_readWage m_readNoise m_readMatter m_busy m_taken m_canLow m_canHigh m_ends m_rowWho m_rowWhere m_gotLow m_gotHigh m_made m_oddsBy m_order m_bestOrder m_bestEnds m_stops m_bookDay m_bookWho m_bookWhere m_images m_isKept w0 ) (cwV 1 hts gX10_matter_X10_isMatter rfl rfl rfl (by decide +kernel) ⟨Nat.le_of_ble_eq_true rfl, Nat.le_of_ble_eq_true rfl⟩) ⟨PS.blind _ _ _ _, va_recv hG.1 hP (ci := 10) (q0 := 0) rfl rfl, PS.pre hPc hG [.ref y, .int w0]⟩ rfl rfl hl.1 rfl (lv_room (Nat.le_of_ble_eq_true rfl)) dX10_matter_2 ⟨Nat.le_of_ble_eq_true rfl, Nat.le_of_ble_eq_true rfl⟩)) (fun r hq => ?_)
  generalize r = y1 at hq ⊢
  have hq : y1 = 0 := hq
  refine tp_i (y := 0) (hq) ?_
  refine lv_if_ne (x := 0) (tgt := 12) hx hb dX10_matter_5 (by decide) (fun c2 => absurd c2 (by decide)) (fun c2 => ?_)
  refine lv_ldcw (v := (-1000000001)) hx hb hown (hts (.constant RX10 321 (-1000000001)) (List.mem_cons_of_mem _ (List.mem_append_left _ (List.mem_of_getElem? (i := 0) rfl)))) dX10_matter_8 ?_
  exact W.iret (v := (-1000000001)) hx hb hr (fun t9 ht _ => ⟨(-1000000001), rfl, rfl, ht⟩) (fun q h => by cases h) dX10_matter_11

abbrev c_X10_lay (k : Nat → ClassId) (y : Nat) (m_street : Nat) (m_beds : Nat) (m_light : Nat) (m_yes : Nat) (m_wage : Nat) (m_noiseOf : Nat) (m_matter : Nat) (m_counted : Nat) (m_dreams : Nat) (m_state : Nat) (m_decided : Nat) (m_slept : Nat) (m_sleptIn : Nat) (m_laid : Nat) (m_laidIn : Nat) (m_sizes : Nat) (m_text : Nat) (m_readStreet : Nat) (m_readBeds : Nat) (m_readLight : Nat) (m_readYes : Nat) (m_readWage : Nat) (m_readNoise : Nat) (m_readMatter : Nat) (m_busy : Nat) (m_taken : Nat) (m_canLow : Nat) (m_canHigh : Nat) (m_ends : Nat) (m_rowWho : Nat) (m_rowWhere : Nat) (m_gotLow : Nat) (m_gotHigh : Nat) (m_made : Nat) (m_oddsBy : Nat) (m_order : Nat) (m_bestOrder : Nat) (m_bestEnds : Nat) (m_stops : Nat) (m_bookDay : Nat) (m_bookWho : Nat) (m_bookWhere : Nat) (m_images : Nat) (m_isKept : Nat) (w0 : Int32) (w1 : Int32) (w2 : Int32) : va_W := [(y, .inr (10, [.int 0, .ref m_street, .ref m_beds, .int 0, .ref m_light, .ref m_yes, .ref m_wage, .int 0, .ref m_noiseOf, .int 0, .ref m_matter, .int 0, .int 7, .int (-1), .int 1, .int 0, .int 0, .ref m_counted, .ref m_dreams, .ref m_state, .ref m_decided, .ref m_slept, .ref m_sleptIn, .ref m_laid, .ref m_laidIn, .int 0, .ref m_sizes, .ref m_text, .int 0, .int (-1), .int 0, .long 0, .int 0, .int 0, .int 0, .int 0, .ref m_readStreet, .ref m_readBeds, .int 0, .ref m_readLight, .ref m_readYes, .ref m_readWage, .int 0, .ref m_readNoise, .int 0, .ref m_readMatter, .int 0, .int 0, .int 0, .ref m_busy, .ref m_taken, .ref m_canLow, .ref m_canHigh, .ref m_ends, .ref m_rowWho, .ref m_rowWhere, .ref m_gotLow, .ref m_gotHigh, .ref m_made, .ref m_oddsBy, .int 0, .int 0, .int 0, .ref m_order, .ref m_bestOrder, .ref m_bestEnds, .ref m_stops, .int 0, .ref m_bookDay, .ref m_bookWho, .ref m_bookWhere, .ref m_images, .ref m_isKept]))]
abbrev r_X10_lay : Room := { frames := 2, cells := 0, slots := 0, locals := 46 }
abbrev q_X10_lay (k : Nat → ClassId) (y : Nat) (m_street : Nat) (m_beds : Nat) (m_light : Nat) (m_yes : Nat) (m_wage : Nat) (m_noiseOf : Nat) (m_matter : Nat) (m_counted : Nat) (m_dreams : Nat) (m_state : Nat) (m_decided : Nat) (m_slept : Nat) (m_sleptIn : Nat) (m_laid : Nat) (m_laidIn : Nat) (m_sizes : Nat) (m_text : Nat) (m_readStreet : Nat) (m_readBeds : Nat) (m_readLight : Nat) (m_readYes : Nat) (m_readWage : Nat) (m_readNoise : Nat) (m_readMatter : Nat) (m_busy : Nat) (m_taken : Nat) (m_canLow : Nat) (m_canHigh : Nat) (m_ends : Nat) (m_rowWho : Nat) (m_rowWhere : Nat) (m_gotLow : Nat) (m_gotHigh : Nat) (m_made : Nat) (m_oddsBy : Nat) (m_order : Nat) (m_bestOrder : Nat) (m_bestEnds : Nat) (m_stops : Nat) (m_bookDay : Nat) (m_bookWho : Nat) (m_bookWhere : Nat) (m_images : Nat) (m_isKept : Nat) (w0 : Int32) (w1 : Int32) (w2 : Int32) : Array Value → State → Outcome → State → Prop := vp_Si (fun r => r = (-1000000001))
set_option maxHeartbeats 2000000 in
set_option maxRecDepth 100000 in
theorem X10_lay (l : Launch) (D : va_G) (k : Nat → ClassId) (y : Nat) (m_street : Nat) (m_beds : Nat) (m_light : Nat) (m_yes : Nat) (m_wage : Nat) (m_noiseOf : Nat) (m_matter : Nat) (m_counted : Nat) (m_dreams : Nat) (m_state : Nat) (m_decided : Nat) (m_slept : Nat) (m_sleptIn : Nat) (m_laid : Nat) (m_laidIn : Nat) (m_sizes : Nat) (m_text : Nat) (m_readStreet : Nat) (m_readBeds : Nat) (m_readLight : Nat) (m_readYes : Nat) (m_readWage : Nat) (m_readNoise : Nat) (m_readMatter : Nat) (m_busy : Nat) (m_taken : Nat) (m_canLow : Nat) (m_canHigh : Nat) (m_ends : Nat) (m_rowWho : Nat) (m_rowWhere : Nat) (m_gotLow : Nat) (m_gotHigh : Nat) (m_made : Nat) (m_oddsBy : Nat) (m_order : Nat) (m_bestOrder : Nat) (m_bestEnds : Nat) (m_stops : Nat) (m_bookDay : Nat) (m_bookWho : Nat) (m_bookWhere : Nat) (m_images : Nat) (m_isKept : Nat) (w0 : Int32) (w1 : Int32) (w2 : Int32)  : Met l yX10_lay wsX10_lay r_X10_lay (va_Pc [.ref y, .int w0, .int w1, .int w2] (PS D k (c_X10_lay k y m_street m_beds m_light m_yes m_wage m_noiseOf m_matter m_counted m_dreams m_state m_decided m_slept m_sleptIn m_laid m_laidIn m_sizes m_text m_readStreet m_readBeds m_readLight m_readYes m_readWage m_readNoise m_readMatter m_busy m_taken m_canLow m_canHigh m_ends m_rowWho m_rowWhere m_gotLow m_gotHigh m_made m_oddsBy m_order m_bestOrder m_bestEnds m_stops m_bookDay m_bookWho m_bookWhere m_images m_isKept w0 w1 w2))) (q_X10_lay k y m_street m_beds m_light m_yes m_wage m_noiseOf m_matter m_counted m_dreams m_state m_decided m_slept m_sleptIn m_laid m_laidIn m_sizes m_text m_readStreet m_readBeds m_readLight m_readYes m_readWage m_readNoise m_readMatter m_busy m_taken m_canLow m_canHigh m_ends m_rowWho m_rowWhere m_gotLow m_gotHigh m_made m_oddsBy m_order m_bestOrder m_bestEnds m_stops m_bookDay m_bookWho m_bookWhere m_images m_isKept w0 w1 w2) 0 0 (fun _ => False) := by
  refine Met.ofW (cc := cX10_lay) (maxL := 4) (ret := (some .int)) (by decide) rfl ?_
  intro p e s m args below meth c s₁ B hml hv
  obtain ⟨rfl, hP, hG⟩ := hv
  have hx := B.exec
  have hb := B.bytes
  have hr := B.returns
  have hts := atoms_spec (ws := wsX10_lay) B.pre
  have hown : s.vm.findClass RX10 = some m.cls := findClass_of_methodNamed B.named
  have hlocks := B.notSynchronized
  have hi10 : ∀ w ∈ wsX100, w ∈ wsX10_lay := fun _ h => List.mem_cons_of_mem _ (List.mem_append_right _ h)
  have hP : va_P D vwCl [(y, .inr (10, [.int 0, .ref m_street, .ref m_beds, .int 0, .ref m_light, .ref m_yes, .ref m_wage, .int 0, .ref m_noiseOf, .int 0, .ref m_matter, .int 0, .int 7, .int (-1), .int 1, .int 0, .int 0, .ref m_counted, .ref m_dreams, .ref m_state, .ref m_decided, .ref m_slept, .ref m_sleptIn, .ref m_laid, .ref m_laidIn, .int 0, .ref m_sizes, .ref m_text, .int 0, .int (-1), .int 0, .long 0, .int 0, .int 0, .int 0, .int 0, .ref m_readStreet, .ref m_readBeds, .int 0, .ref m_readLight, .ref m_readYes, .ref m_readWage, .int 0, .ref m_readNoise, .int 0, .ref m_readMatter, .int 0, .int 0, .int 0, .ref m_busy, .ref m_taken, .ref m_canLow, .ref m_canHigh, .ref m_ends, .ref m_rowWho, .ref m_rowWhere, .ref m_gotLow, .ref m_gotHigh, .ref m_made, .ref m_oddsBy, .int 0, .int 0, .int 0, .ref m_order, .ref m_bestOrder, .ref m_bestEnds, .ref m_stops, .int 0, .ref m_bookDay, .ref m_bookWho, .ref m_bookWhere, .ref m_images, .ref m_isKept]))] s.heap := hP
  have hl := lv_entry ([.ref y, .int w0, .int w1, .int w2]) (n := 4) (Nat.le_of_ble_eq_true rfl)
  rw [lg_entry_eq]
  generalize (lg_sl ([.ref y, .int w0, .int w1, .int w2]) ++ List.replicate (4 - (lg_sl ([.ref y, .int w0, .int w1, .int w2])).length) Slot.unset).toArray = ls at hl ⊢
  have hl : lv_has ls 4 [(0, .ref y), (1, .int w0), (2, .int w1), (3, .int w2)] := hl
  refine lv_aload_n hx hb dX10_lay_0 rfl (lv_at hl 0 rfl) ?_
  refine lv_iload_n hx hb dX10_lay_1 rfl (lv_at hl 1 rfl) ?_
  have hPc := hP.sub (ws' := (c_X10_isMatter k y m_street m_beds m_light m_yes m_wage m_noiseOf m_matter m_counted m_dreams m_state m_decided m_slept m_sleptIn m_laid m_laidIn m_sizes m_text m_readStreet m_readBeds m_readLight m_readYes m_readWage m_readNoise m_readMatter m_busy m_taken m_canLow m_canHigh m_ends m_rowWho m_rowWhere m_gotLow m_gotHigh m_made m_oddsBy m_order m_bestOrder m_bestEnds m_stops m_bookDay m_bookWho m_bookWhere m_images m_isKept w0)) [0] rfl
  refine vp_callSi (va_Run.run (va_runV (As := [.int w0]) (rest := []) ⟨hx, hb, hml, hown, hts⟩ (X10_isMatter l D k y m_street m_beds m_light m_yes m_wage m_noiseOf m_matter m_counted m_dreams m_state m_decided m_slept m_sleptIn m_laid m_laidIn m_sizes m_text m_readStreet m_readBeds m_readLight m_readYes m_readWage m_readNoise m_readMatter m_busy m_taken m_canLow m_canHigh m_ends m_rowWho m_rowWhere m_gotLow m_gotHigh m_made m_oddsBy m_order m_bestOrder m_bestEnds m_stops m_bookDay m_bookWho m_bookWhere m_images m_isKept w0 ) (cwV 1 hts gX10_lay_X10_isMatter rfl rfl rfl (by decide +kernel) ⟨Nat.le_of_ble_eq_true rfl, Nat.le_of_ble_eq_true rfl⟩) ⟨PS.blind _ _ _ _, va_recv hG.1 hP (ci := 10) (q0 := 0) rfl rfl, PS.pre hPc hG [.ref y, .int w0]⟩ rfl rfl hl.1 rfl (lv_room (Nat.le_of_ble_eq_true rfl)) dX10_lay_2 ⟨Nat.le_of_ble_eq_true rfl, Nat.le_of_ble_eq_true rfl⟩)) (fun r hq => ?_)
  generalize r = y1 at hq ⊢
  have hq : y1 = 0 := hq
  refine tp_i (y := 0) (hq) ?_
  refine lv_if_eq (x := 0) (tgt := 24) hx hb dX10_lay_5 (by decide) (fun c2 => ?_) (fun c2 => absurd c2 (by decide))
  refine lv_ldcw (v := (-1000000001)) hx hb hown (hts (.constant RX10 321 (-1000000001)) (List.mem_cons_of_mem _ (List.mem_append_left _ (List.mem_append_left _ (List.mem_of_getElem? (i := 0) rfl))))) dX10_lay_24 ?_
  exact W.iret (v := (-1000000001)) hx hb hr (fun t9 ht _ => ⟨(-1000000001), rfl, rfl, ht⟩) (fun q h => by cases h) dX10_lay_27

abbrev c_X10_rise (k : Nat → ClassId) (y : Nat) (m_street : Nat) (m_beds : Nat) (m_light : Nat) (m_yes : Nat) (m_wage : Nat) (m_noiseOf : Nat) (m_matter : Nat) (m_counted : Nat) (m_dreams : Nat) (m_state : Nat) (m_decided : Nat) (m_slept : Nat) (m_sleptIn : Nat) (m_laid : Nat) (m_laidIn : Nat) (m_sizes : Nat) (m_text : Nat) (m_readStreet : Nat) (m_readBeds : Nat) (m_readLight : Nat) (m_readYes : Nat) (m_readWage : Nat) (m_readNoise : Nat) (m_readMatter : Nat) (m_busy : Nat) (m_taken : Nat) (m_canLow : Nat) (m_canHigh : Nat) (m_ends : Nat) (m_rowWho : Nat) (m_rowWhere : Nat) (m_gotLow : Nat) (m_gotHigh : Nat) (m_made : Nat) (m_oddsBy : Nat) (m_order : Nat) (m_bestOrder : Nat) (m_bestEnds : Nat) (m_stops : Nat) (m_bookDay : Nat) (m_bookWho : Nat) (m_bookWhere : Nat) (m_images : Nat) (m_isKept : Nat) (w0 : Int32) : va_W := [(y, .inr (10, [.int 0, .ref m_street, .ref m_beds, .int 0, .ref m_light, .ref m_yes, .ref m_wage, .int 0, .ref m_noiseOf, .int 0, .ref m_matter, .int 0, .int 7, .int (-1), .int 1, .int 0, .int 0, .ref m_counted, .ref m_dreams, .ref m_state, .ref m_decided, .ref m_slept, .ref m_sleptIn, .ref m_laid, .ref m_laidIn, .int 0, .ref m_sizes, .ref m_text, .int 0, .int (-1), .int 0, .long 0, .int 0, .int 0, .int 0, .int 0, .ref m_readStreet, .ref m_readBeds, .int 0, .ref m_readLight, .ref m_readYes, .ref m_readWage, .int 0, .ref m_readNoise, .int 0, .ref m_readMatter, .int 0, .int 0, .int 0, .ref m_busy, .ref m_taken, .ref m_canLow, .ref m_canHigh, .ref m_ends, .ref m_rowWho, .ref m_rowWhere, .ref m_gotLow, .ref m_gotHigh, .ref m_made, .ref m_oddsBy, .int 0, .int 0, .int 0, .ref m_order, .ref m_bestOrder, .ref m_bestEnds, .ref m_stops, .int 0, .ref m_bookDay, .ref m_bookWho, .ref m_bookWhere, .ref m_images, .ref m_isKept]))]
abbrev r_X10_rise : Room := { frames := 2, cells := 0, slots := 0, locals := 46 }
abbrev q_X10_rise (k : Nat → ClassId) (y : Nat) (m_street : Nat) (m_beds : Nat) (m_light : Nat) (m_yes : Nat) (m_wage : Nat) (m_noiseOf : Nat) (m_matter : Nat) (m_counted : Nat) (m_dreams : Nat) (m_state : Nat) (m_decided : Nat) (m_slept : Nat) (m_sleptIn : Nat) (m_laid : Nat) (m_laidIn : Nat) (m_sizes : Nat) (m_text : Nat) (m_readStreet : Nat) (m_readBeds : Nat) (m_readLight : Nat) (m_readYes : Nat) (m_readWage : Nat) (m_readNoise : Nat) (m_readMatter : Nat) (m_busy : Nat) (m_taken : Nat) (m_canLow : Nat) (m_canHigh : Nat) (m_ends : Nat) (m_rowWho : Nat) (m_rowWhere : Nat) (m_gotLow : Nat) (m_gotHigh : Nat) (m_made : Nat) (m_oddsBy : Nat) (m_order : Nat) (m_bestOrder : Nat) (m_bestEnds : Nat) (m_stops : Nat) (m_bookDay : Nat) (m_bookWho : Nat) (m_bookWhere : Nat) (m_images : Nat) (m_isKept : Nat) (w0 : Int32) : Array Value → State → Outcome → State → Prop := vp_Si (fun r => r = (-1000000001))
set_option maxHeartbeats 2000000 in
set_option maxRecDepth 100000 in
theorem X10_rise (l : Launch) (D : va_G) (k : Nat → ClassId) (y : Nat) (m_street : Nat) (m_beds : Nat) (m_light : Nat) (m_yes : Nat) (m_wage : Nat) (m_noiseOf : Nat) (m_matter : Nat) (m_counted : Nat) (m_dreams : Nat) (m_state : Nat) (m_decided : Nat) (m_slept : Nat) (m_sleptIn : Nat) (m_laid : Nat) (m_laidIn : Nat) (m_sizes : Nat) (m_text : Nat) (m_readStreet : Nat) (m_readBeds : Nat) (m_readLight : Nat) (m_readYes : Nat) (m_readWage : Nat) (m_readNoise : Nat) (m_readMatter : Nat) (m_busy : Nat) (m_taken : Nat) (m_canLow : Nat) (m_canHigh : Nat) (m_ends : Nat) (m_rowWho : Nat) (m_rowWhere : Nat) (m_gotLow : Nat) (m_gotHigh : Nat) (m_made : Nat) (m_oddsBy : Nat) (m_order : Nat) (m_bestOrder : Nat) (m_bestEnds : Nat) (m_stops : Nat) (m_bookDay : Nat) (m_bookWho : Nat) (m_bookWhere : Nat) (m_images : Nat) (m_isKept : Nat) (w0 : Int32)  : Met l yX10_rise wsX10_rise r_X10_rise (va_Pc [.ref y, .int w0] (PS D k (c_X10_rise k y m_street m_beds m_light m_yes m_wage m_noiseOf m_matter m_counted m_dreams m_state m_decided m_slept m_sleptIn m_laid m_laidIn m_sizes m_text m_readStreet m_readBeds m_readLight m_readYes m_readWage m_readNoise m_readMatter m_busy m_taken m_canLow m_canHigh m_ends m_rowWho m_rowWhere m_gotLow m_gotHigh m_made m_oddsBy m_order m_bestOrder m_bestEnds m_stops m_bookDay m_bookWho m_bookWhere m_images m_isKept w0))) (q_X10_rise k y m_street m_beds m_light m_yes m_wage m_noiseOf m_matter m_counted m_dreams m_state m_decided m_slept m_sleptIn m_laid m_laidIn m_sizes m_text m_readStreet m_readBeds m_readLight m_readYes m_readWage m_readNoise m_readMatter m_busy m_taken m_canLow m_canHigh m_ends m_rowWho m_rowWhere m_gotLow m_gotHigh m_made m_oddsBy m_order m_bestOrder m_bestEnds m_stops m_bookDay m_bookWho m_bookWhere m_images m_isKept w0) 0 0 (fun _ => False) := by
  refine Met.ofW (cc := cX10_rise) (maxL := 3) (ret := (some .int)) (by decide) rfl ?_
  intro p e s m args below meth c s₁ B hml hv
  obtain ⟨rfl, hP, hG⟩ := hv
  have hx := B.exec
  have hb := B.bytes
  have hr := B.returns
  have hts := atoms_spec (ws := wsX10_rise) B.pre
  have hown : s.vm.findClass RX10 = some m.cls := findClass_of_methodNamed B.named
  have hlocks := B.notSynchronized
  have hi10 : ∀ w ∈ wsX100, w ∈ wsX10_rise := fun _ h => List.mem_cons_of_mem _ (List.mem_append_right _ h)
  have hP : va_P D vwCl [(y, .inr (10, [.int 0, .ref m_street, .ref m_beds, .int 0, .ref m_light, .ref m_yes, .ref m_wage, .int 0, .ref m_noiseOf, .int 0, .ref m_matter, .int 0, .int 7, .int (-1), .int 1, .int 0, .int 0, .ref m_counted, .ref m_dreams, .ref m_state, .ref m_decided, .ref m_slept, .ref m_sleptIn, .ref m_laid, .ref m_laidIn, .int 0, .ref m_sizes, .ref m_text, .int 0, .int (-1), .int 0, .long 0, .int 0, .int 0, .int 0, .int 0, .ref m_readStreet, .ref m_readBeds, .int 0, .ref m_readLight, .ref m_readYes, .ref m_readWage, .int 0, .ref m_readNoise, .int 0, .ref m_readMatter, .int 0, .int 0, .int 0, .ref m_busy, .ref m_taken, .ref m_canLow, .ref m_canHigh, .ref m_ends, .ref m_rowWho, .ref m_rowWhere, .ref m_gotLow, .ref m_gotHigh, .ref m_made, .ref m_oddsBy, .int 0, .int 0, .int 0, .ref m_order, .ref m_bestOrder, .ref m_bestEnds, .ref m_stops, .int 0, .ref m_bookDay, .ref m_bookWho, .ref m_bookWhere, .ref m_images, .ref m_isKept]))] s.heap := hP
  have hl := lv_entry ([.ref y, .int w0]) (n := 3) (Nat.le_of_ble_eq_true rfl)
  rw [lg_entry_eq]
  generalize (lg_sl ([.ref y, .int w0]) ++ List.replicate (3 - (lg_sl ([.ref y, .int w0])).length) Slot.unset).toArray = ls at hl ⊢
  have hl : lv_has ls 3 [(0, .ref y), (1, .int w0)] := hl
  refine lv_aload_n hx hb dX10_rise_0 rfl (lv_at hl 0 rfl) ?_
  refine lv_iload_n hx hb dX10_rise_1 rfl (lv_at hl 1 rfl) ?_
  have hPc := hP.sub (ws' := (c_X10_isMatter k y m_street m_beds m_light m_yes m_wage m_noiseOf m_matter m_counted m_dreams m_state m_decided m_slept m_sleptIn m_laid m_laidIn m_sizes m_text m_readStreet m_readBeds m_readLight m_readYes m_readWage m_readNoise m_readMatter m_busy m_taken m_canLow m_canHigh m_ends m_rowWho m_rowWhere m_gotLow m_gotHigh m_made m_oddsBy m_order m_bestOrder m_bestEnds m_stops m_bookDay m_bookWho m_bookWhere m_images m_isKept w0)) [0] rfl
  refine vp_callSi (va_Run.run (va_runV (As := [.int w0]) (rest := []) ⟨hx, hb, hml, hown, hts⟩ (X10_isMatter l D k y m_street m_beds m_light m_yes m_wage m_noiseOf m_matter m_counted m_dreams m_state m_decided m_slept m_sleptIn m_laid m_laidIn m_sizes m_text m_readStreet m_readBeds m_readLight m_readYes m_readWage m_readNoise m_readMatter m_busy m_taken m_canLow m_canHigh m_ends m_rowWho m_rowWhere m_gotLow m_gotHigh m_made m_oddsBy m_order m_bestOrder m_bestEnds m_stops m_bookDay m_bookWho m_bookWhere m_images m_isKept w0 ) (cwV 1 hts gX10_rise_X10_isMatter rfl rfl rfl (by decide +kernel) ⟨Nat.le_of_ble_eq_true rfl, Nat.le_of_ble_eq_true rfl⟩) ⟨PS.blind _ _ _ _, va_recv hG.1 hP (ci := 10) (q0 := 0) rfl rfl, PS.pre hPc hG [.ref y, .int w0]⟩ rfl rfl hl.1 rfl (lv_room (Nat.le_of_ble_eq_true rfl)) dX10_rise_2 ⟨Nat.le_of_ble_eq_true rfl, Nat.le_of_ble_eq_true rfl⟩)) (fun r hq => ?_)
  generalize r = y1 at hq ⊢
  have hq : y1 = 0 := hq
  refine tp_i (y := 0) (hq) ?_
  refine lv_if_ne (x := 0) (tgt := 12) hx hb dX10_rise_5 (by decide) (fun c2 => absurd c2 (by decide)) (fun c2 => ?_)
  refine lv_ldcw (v := (-1000000001)) hx hb hown (hts (.constant RX10 321 (-1000000001)) (List.mem_cons_of_mem _ (List.mem_append_left _ (List.mem_of_getElem? (i := 0) rfl)))) dX10_rise_8 ?_
  exact W.iret (v := (-1000000001)) hx hb hr (fun t9 ht _ => ⟨(-1000000001), rfl, rfl, ht⟩) (fun q h => by cases h) dX10_rise_11

abbrev c_X10_soonest (k : Nat → ClassId) (y : Nat) (m_street : Nat) (m_beds : Nat) (m_light : Nat) (m_yes : Nat) (m_wage : Nat) (m_noiseOf : Nat) (m_matter : Nat) (m_counted : Nat) (m_dreams : Nat) (m_state : Nat) (m_decided : Nat) (m_slept : Nat) (m_sleptIn : Nat) (m_laid : Nat) (m_laidIn : Nat) (m_sizes : Nat) (m_text : Nat) (m_readStreet : Nat) (m_readBeds : Nat) (m_readLight : Nat) (m_readYes : Nat) (m_readWage : Nat) (m_readNoise : Nat) (m_readMatter : Nat) (m_busy : Nat) (m_taken : Nat) (m_canLow : Nat) (m_canHigh : Nat) (m_ends : Nat) (m_rowWho : Nat) (m_rowWhere : Nat) (m_gotLow : Nat) (m_gotHigh : Nat) (m_made : Nat) (m_oddsBy : Nat) (m_order : Nat) (m_bestOrder : Nat) (m_bestEnds : Nat) (m_stops : Nat) (m_bookDay : Nat) (m_bookWho : Nat) (m_bookWhere : Nat) (m_images : Nat) (m_isKept : Nat) (w0 : Int32) (w1 : Int32) : va_W := [(y, .inr (10, [.int 0, .ref m_street, .ref m_beds, .int 0, .ref m_light, .ref m_yes, .ref m_wage, .int 0, .ref m_noiseOf, .int 0, .ref m_matter, .int 0, .int 7, .int (-1), .int 1, .int 0, .int 0, .ref m_counted, .ref m_dreams, .ref m_state, .ref m_decided, .ref m_slept, .ref m_sleptIn, .ref m_laid, .ref m_laidIn, .int 0, .ref m_sizes, .ref m_text, .int 0, .int (-1), .int 0, .long 0, .int 0, .int 0, .int 0, .int 0, .ref m_readStreet, .ref m_readBeds, .int 0, .ref m_readLight, .ref m_readYes, .ref m_readWage, .int 0, .ref m_readNoise, .int 0, .ref m_readMatter, .int 0, .int 0, .int 0, .ref m_busy, .ref m_taken, .ref m_canLow, .ref m_canHigh, .ref m_ends, .ref m_rowWho, .ref m_rowWhere, .ref m_gotLow, .ref m_gotHigh, .ref m_made, .ref m_oddsBy, .int 0, .int 0, .int 0, .ref m_order, .ref m_bestOrder, .ref m_bestEnds, .ref m_stops, .int 0, .ref m_bookDay, .ref m_bookWho, .ref m_bookWhere, .ref m_images, .ref m_isKept]))]
abbrev r_X10_soonest : Room := { frames := 2, cells := 0, slots := 0, locals := 46 }
abbrev q_X10_soonest (k : Nat → ClassId) (y : Nat) (m_street : Nat) (m_beds : Nat) (m_light : Nat) (m_yes : Nat) (m_wage : Nat) (m_noiseOf : Nat) (m_matter : Nat) (m_counted : Nat) (m_dreams : Nat) (m_state : Nat) (m_decided : Nat) (m_slept : Nat) (m_sleptIn : Nat) (m_laid : Nat) (m_laidIn : Nat) (m_sizes : Nat) (m_text : Nat) (m_readStreet : Nat) (m_readBeds : Nat) (m_readLight : Nat) (m_readYes : Nat) (m_readWage : Nat) (m_readNoise : Nat) (m_readMatter : Nat) (m_busy : Nat) (m_taken : Nat) (m_canLow : Nat) (m_canHigh : Nat) (m_ends : Nat) (m_rowWho : Nat) (m_rowWhere : Nat) (m_gotLow : Nat) (m_gotHigh : Nat) (m_made : Nat) (m_oddsBy : Nat) (m_order : Nat) (m_bestOrder : Nat) (m_bestEnds : Nat) (m_stops : Nat) (m_bookDay : Nat) (m_bookWho : Nat) (m_bookWhere : Nat) (m_images : Nat) (m_isKept : Nat) (w0 : Int32) (w1 : Int32) : Array Value → State → Outcome → State → Prop := vp_Si (fun r => r = (-1000000001))
set_option maxHeartbeats 2000000 in
set_option maxRecDepth 100000 in
theorem X10_soonest (l : Launch) (D : va_G) (k : Nat → ClassId) (y : Nat) (m_street : Nat) (m_beds : Nat) (m_light : Nat) (m_yes : Nat) (m_wage : Nat) (m_noiseOf : Nat) (m_matter : Nat) (m_counted : Nat) (m_dreams : Nat) (m_state : Nat) (m_decided : Nat) (m_slept : Nat) (m_sleptIn : Nat) (m_laid : Nat) (m_laidIn : Nat) (m_sizes : Nat) (m_text : Nat) (m_readStreet : Nat) (m_readBeds : Nat) (m_readLight : Nat) (m_readYes : Nat) (m_readWage : Nat) (m_readNoise : Nat) (m_readMatter : Nat) (m_busy : Nat) (m_taken : Nat) (m_canLow : Nat) (m_canHigh : Nat) (m_ends : Nat) (m_rowWho : Nat) (m_rowWhere : Nat) (m_gotLow : Nat) (m_gotHigh : Nat) (m_made : Nat) (m_oddsBy : Nat) (m_order : Nat) (m_bestOrder : Nat) (m_bestEnds : Nat) (m_stops : Nat) (m_bookDay : Nat) (m_bookWho : Nat) (m_bookWhere : Nat) (m_images : Nat) (m_isKept : Nat) (w0 : Int32) (w1 : Int32)  : Met l yX10_soonest wsX10_soonest r_X10_soonest (va_Pc [.ref y, .int w0, .int w1] (PS D k (c_X10_soonest k y m_street m_beds m_light m_yes m_wage m_noiseOf m_matter m_counted m_dreams m_state m_decided m_slept m_sleptIn m_laid m_laidIn m_sizes m_text m_readStreet m_readBeds m_readLight m_readYes m_readWage m_readNoise m_readMatter m_busy m_taken m_canLow m_canHigh m_ends m_rowWho m_rowWhere m_gotLow m_gotHigh m_made m_oddsBy m_order m_bestOrder m_bestEnds m_stops m_bookDay m_bookWho m_bookWhere m_images m_isKept w0 w1))) (q_X10_soonest k y m_street m_beds m_light m_yes m_wage m_noiseOf m_matter m_counted m_dreams m_state m_decided m_slept m_sleptIn m_laid m_laidIn m_sizes m_text m_readStreet m_readBeds m_readLight m_readYes m_readWage m_readNoise m_readMatter m_busy m_taken m_canLow m_canHigh m_ends m_rowWho m_rowWhere m_gotLow m_gotHigh m_made m_oddsBy m_order m_bestOrder m_bestEnds m_stops m_bookDay m_bookWho m_bookWhere m_images m_isKept w0 w1) 0 0 (fun _ => False) := by
  refine Met.ofW (cc := cX10_soonest) (maxL := 4) (ret := (some .int)) (by decide) rfl ?_
  intro p e s m args below meth c s₁ B hml hv
  obtain ⟨rfl, hP, hG⟩ := hv
  have hx := B.exec
  have hb := B.bytes
  have hr := B.returns
  have hts := atoms_spec (ws := wsX10_soonest) B.pre
  have hown : s.vm.findClass RX10 = some m.cls := findClass_of_methodNamed B.named
  have hlocks := B.notSynchronized
  have hi10 : ∀ w ∈ wsX100, w ∈ wsX10_soonest := fun _ h => List.mem_cons_of_mem _ (List.mem_append_right _ h)
  have hP : va_P D vwCl [(y, .inr (10, [.int 0, .ref m_street, .ref m_beds, .int 0, .ref m_light, .ref m_yes, .ref m_wage, .int 0, .ref m_noiseOf, .int 0, .ref m_matter, .int 0, .int 7, .int (-1), .int 1, .int 0, .int 0, .ref m_counted, .ref m_dreams, .ref m_state, .ref m_decided, .ref m_slept, .ref m_sleptIn, .ref m_laid, .ref m_laidIn, .int 0, .ref m_sizes, .ref m_text, .int 0, .int (-1), .int 0, .long 0, .int 0, .int 0, .int 0, .int 0, .ref m_readStreet, .ref m_readBeds, .int 0, .ref m_readLight, .ref m_readYes, .ref m_readWage, .int 0, .ref m_readNoise, .int 0, .ref m_readMatter, .int 0, .int 0, .int 0, .ref m_busy, .ref m_taken, .ref m_canLow, .ref m_canHigh, .ref m_ends, .ref m_rowWho, .ref m_rowWhere, .ref m_gotLow, .ref m_gotHigh, .ref m_made, .ref m_oddsBy, .int 0, .int 0, .int 0, .ref m_order, .ref m_bestOrder, .ref m_bestEnds, .ref m_stops, .int 0, .ref m_bookDay, .ref m_bookWho, .ref m_bookWhere, .ref m_images, .ref m_isKept]))] s.heap := hP
  have hl := lv_entry ([.ref y, .int w0, .int w1]) (n := 4) (Nat.le_of_ble_eq_true rfl)
  rw [lg_entry_eq]
  generalize (lg_sl ([.ref y, .int w0, .int w1]) ++ List.replicate (4 - (lg_sl ([.ref y, .int w0, .int w1])).length) Slot.unset).toArray = ls at hl ⊢
  have hl : lv_has ls 4 [(0, .ref y), (1, .int w0), (2, .int w1)] := hl
  refine lv_aload_n hx hb dX10_soonest_0 rfl (lv_at hl 0 rfl) ?_
  refine lv_iload_n hx hb dX10_soonest_1 rfl (lv_at hl 1 rfl) ?_
  have hPc := hP.sub (ws' := (c_X10_isMatter k y m_street m_beds m_light m_yes m_wage m_noiseOf m_matter m_counted m_dreams m_state m_decided m_slept m_sleptIn m_laid m_laidIn m_sizes m_text m_readStreet m_readBeds m_readLight m_readYes m_readWage m_readNoise m_readMatter m_busy m_taken m_canLow m_canHigh m_ends m_rowWho m_rowWhere m_gotLow m_gotHigh m_made m_oddsBy m_order m_bestOrder m_bestEnds m_stops m_bookDay m_bookWho m_bookWhere m_images m_isKept w0)) [0] rfl
  refine vp_callSi (va_Run.run (va_runV (As := [.int w0]) (rest := []) ⟨hx, hb, hml, hown, hts⟩ (X10_isMatter l D k y m_street m_beds m_light m_yes m_wage m_noiseOf m_matter m_counted m_dreams m_state m_decided m_slept m_sleptIn m_laid m_laidIn m_sizes m_text m_readStreet m_readBeds m_readLight m_readYes m_readWage m_readNoise m_readMatter m_busy m_taken m_canLow m_canHigh m_ends m_rowWho m_rowWhere m_gotLow m_gotHigh m_made m_oddsBy m_order m_bestOrder m_bestEnds m_stops m_bookDay m_bookWho m_bookWhere m_images m_isKept w0 ) (cwV 1 hts gX10_soonest_X10_isMatter rfl rfl rfl (by decide +kernel) ⟨Nat.le_of_ble_eq_true rfl, Nat.le_of_ble_eq_true rfl⟩) ⟨PS.blind _ _ _ _, va_recv hG.1 hP (ci := 10) (q0 := 0) rfl rfl, PS.pre hPc hG [.ref y, .int w0]⟩ rfl rfl hl.1 rfl (lv_room (Nat.le_of_ble_eq_true rfl)) dX10_soonest_2 ⟨Nat.le_of_ble_eq_true rfl, Nat.le_of_ble_eq_true rfl⟩)) (fun r hq => ?_)
  generalize r = y1 at hq ⊢
  have hq : y1 = 0 := hq
  refine tp_i (y := 0) (hq) ?_
  refine lv_if_ne (x := 0) (tgt := 12) hx hb dX10_soonest_5 (by decide) (fun c2 => absurd c2 (by decide)) (fun c2 => ?_)
  refine lv_ldcw (v := (-1000000001)) hx hb hown (hts (.constant RX10 321 (-1000000001)) (List.mem_cons_of_mem _ (List.mem_append_left _ (List.mem_append_left _ (List.mem_of_getElem? (i := 0) rfl))))) dX10_soonest_8 ?_
  exact W.iret (v := (-1000000001)) hx hb hr (fun t9 ht _ => ⟨(-1000000001), rfl, rfl, ht⟩) (fun q h => by cases h) dX10_soonest_11

abbrev c_X10_bestOf (k : Nat → ClassId) (y : Nat) (m_street : Nat) (m_beds : Nat) (m_light : Nat) (m_yes : Nat) (m_wage : Nat) (m_noiseOf : Nat) (m_matter : Nat) (m_counted : Nat) (m_dreams : Nat) (m_state : Nat) (m_decided : Nat) (m_slept : Nat) (m_sleptIn : Nat) (m_laid : Nat) (m_laidIn : Nat) (m_sizes : Nat) (m_text : Nat) (m_readStreet : Nat) (m_readBeds : Nat) (m_readLight : Nat) (m_readYes : Nat) (m_readWage : Nat) (m_readNoise : Nat) (m_readMatter : Nat) (m_busy : Nat) (m_taken : Nat) (m_canLow : Nat) (m_canHigh : Nat) (m_ends : Nat) (m_rowWho : Nat) (m_rowWhere : Nat) (m_gotLow : Nat) (m_gotHigh : Nat) (m_made : Nat) (m_oddsBy : Nat) (m_order : Nat) (m_bestOrder : Nat) (m_bestEnds : Nat) (m_stops : Nat) (m_bookDay : Nat) (m_bookWho : Nat) (m_bookWhere : Nat) (m_images : Nat) (m_isKept : Nat) (w0 : Int32) (w1 : Int32) (w2 : Int32) : va_W := [(y, .inr (10, [.int 0, .ref m_street, .ref m_beds, .int 0, .ref m_light, .ref m_yes, .ref m_wage, .int 0, .ref m_noiseOf, .int 0, .ref m_matter, .int 0, .int 7, .int (-1), .int 1, .int 0, .int 0, .ref m_counted, .ref m_dreams, .ref m_state, .ref m_decided, .ref m_slept, .ref m_sleptIn, .ref m_laid, .ref m_laidIn, .int 0, .ref m_sizes, .ref m_text, .int 0, .int (-1), .int 0, .long 0, .int 0, .int 0, .int 0, .int 0, .ref m_readStreet, .ref m_readBeds, .int 0, .ref m_readLight, .ref m_readYes, .ref m_readWage, .int 0, .ref m_readNoise, .int 0, .ref m_readMatter, .int 0, .int 0, .int 0, .ref m_busy, .ref m_taken, .ref m_canLow, .ref m_canHigh, .ref m_ends, .ref m_rowWho, .ref m_rowWhere, .ref m_gotLow, .ref m_gotHigh, .ref m_made, .ref m_oddsBy, .int 0, .int 0, .int 0, .ref m_order, .ref m_bestOrder, .ref m_bestEnds, .ref m_stops, .int 0, .ref m_bookDay, .ref m_bookWho, .ref m_bookWhere, .ref m_images, .ref m_isKept]))]
abbrev r_X10_bestOf : Room := { frames := 2, cells := 0, slots := 0, locals := 46 }
abbrev q_X10_bestOf (k : Nat → ClassId) (y : Nat) (m_street : Nat) (m_beds : Nat) (m_light : Nat) (m_yes : Nat) (m_wage : Nat) (m_noiseOf : Nat) (m_matter : Nat) (m_counted : Nat) (m_dreams : Nat) (m_state : Nat) (m_decided : Nat) (m_slept : Nat) (m_sleptIn : Nat) (m_laid : Nat) (m_laidIn : Nat) (m_sizes : Nat) (m_text : Nat) (m_readStreet : Nat) (m_readBeds : Nat) (m_readLight : Nat) (m_readYes : Nat) (m_readWage : Nat) (m_readNoise : Nat) (m_readMatter : Nat) (m_busy : Nat) (m_taken : Nat) (m_canLow : Nat) (m_canHigh : Nat) (m_ends : Nat) (m_rowWho : Nat) (m_rowWhere : Nat) (m_gotLow : Nat) (m_gotHigh : Nat) (m_made : Nat) (m_oddsBy : Nat) (m_order : Nat) (m_bestOrder : Nat) (m_bestEnds : Nat) (m_stops : Nat) (m_bookDay : Nat) (m_bookWho : Nat) (m_bookWhere : Nat) (m_images : Nat) (m_isKept : Nat) (w0 : Int32) (w1 : Int32) (w2 : Int32) : Array Value → State → Outcome → State → Prop := vp_Si (fun r => r = (-1000000001))
set_option maxHeartbeats 2000000 in
set_option maxRecDepth 100000 in
theorem X10_bestOf (l : Launch) (D : va_G) (k : Nat → ClassId) (y : Nat) (m_street : Nat) (m_beds : Nat) (m_light : Nat) (m_yes : Nat) (m_wage : Nat) (m_noiseOf : Nat) (m_matter : Nat) (m_counted : Nat) (m_dreams : Nat) (m_state : Nat) (m_decided : Nat) (m_slept : Nat) (m_sleptIn : Nat) (m_laid : Nat) (m_laidIn : Nat) (m_sizes : Nat) (m_text : Nat) (m_readStreet : Nat) (m_readBeds : Nat) (m_readLight : Nat) (m_readYes : Nat) (m_readWage : Nat) (m_readNoise : Nat) (m_readMatter : Nat) (m_busy : Nat) (m_taken : Nat) (m_canLow : Nat) (m_canHigh : Nat) (m_ends : Nat) (m_rowWho : Nat) (m_rowWhere : Nat) (m_gotLow : Nat) (m_gotHigh : Nat) (m_made : Nat) (m_oddsBy : Nat) (m_order : Nat) (m_bestOrder : Nat) (m_bestEnds : Nat) (m_stops : Nat) (m_bookDay : Nat) (m_bookWho : Nat) (m_bookWhere : Nat) (m_images : Nat) (m_isKept : Nat) (w0 : Int32) (w1 : Int32) (w2 : Int32)  : Met l yX10_bestOf wsX10_bestOf r_X10_bestOf (va_Pc [.ref y, .int w0, .int w1, .int w2] (PS D k (c_X10_bestOf k y m_street m_beds m_light m_yes m_wage m_noiseOf m_matter m_counted m_dreams m_state m_decided m_slept m_sleptIn m_laid m_laidIn m_sizes m_text m_readStreet m_readBeds m_readLight m_readYes m_readWage m_readNoise m_readMatter m_busy m_taken m_canLow m_canHigh m_ends m_rowWho m_rowWhere m_gotLow m_gotHigh m_made m_oddsBy m_order m_bestOrder m_bestEnds m_stops m_bookDay m_bookWho m_bookWhere m_images m_isKept w0 w1 w2))) (q_X10_bestOf k y m_street m_beds m_light m_yes m_wage m_noiseOf m_matter m_counted m_dreams m_state m_decided m_slept m_sleptIn m_laid m_laidIn m_sizes m_text m_readStreet m_readBeds m_readLight m_readYes m_readWage m_readNoise m_readMatter m_busy m_taken m_canLow m_canHigh m_ends m_rowWho m_rowWhere m_gotLow m_gotHigh m_made m_oddsBy m_order m_bestOrder m_bestEnds m_stops m_bookDay m_bookWho m_bookWhere m_images m_isKept w0 w1 w2) 0 0 (fun _ => False) := by
  refine Met.ofW (cc := cX10_bestOf) (maxL := 4) (ret := (some .int)) (by decide) rfl ?_
  intro p e s m args below meth c s₁ B hml hv
  obtain ⟨rfl, hP, hG⟩ := hv
  have hx := B.exec
  have hb := B.bytes
  have hr := B.returns
  have hts := atoms_spec (ws := wsX10_bestOf) B.pre
  have hown : s.vm.findClass RX10 = some m.cls := findClass_of_methodNamed B.named
  have hlocks := B.notSynchronized
  have hi10 : ∀ w ∈ wsX100, w ∈ wsX10_bestOf := fun _ h => List.mem_cons_of_mem _ (List.mem_append_right _ h)
  have hP : va_P D vwCl [(y, .inr (10, [.int 0, .ref m_street, .ref m_beds, .int 0, .ref m_light, .ref m_yes, .ref m_wage, .int 0, .ref m_noiseOf, .int 0, .ref m_matter, .int 0, .int 7, .int (-1), .int 1, .int 0, .int 0, .ref m_counted, .ref m_dreams, .ref m_state, .ref m_decided, .ref m_slept, .ref m_sleptIn, .ref m_laid, .ref m_laidIn, .int 0, .ref m_sizes, .ref m_text, .int 0, .int (-1), .int 0, .long 0, .int 0, .int 0, .int 0, .int 0, .ref m_readStreet, .ref m_readBeds, .int 0, .ref m_readLight, .ref m_readYes, .ref m_readWage, .int 0, .ref m_readNoise, .int 0, .ref m_readMatter, .int 0, .int 0, .int 0, .ref m_busy, .ref m_taken, .ref m_canLow, .ref m_canHigh, .ref m_ends, .ref m_rowWho, .ref m_rowWhere, .ref m_gotLow, .ref m_gotHigh, .ref m_made, .ref m_oddsBy, .int 0, .int 0, .int 0, .ref m_order, .ref m_bestOrder, .ref m_bestEnds, .ref m_stops, .int 0, .ref m_bookDay, .ref m_bookWho, .ref m_bookWhere, .ref m_images, .ref m_isKept]))] s.heap := hP
  have hl := lv_entry ([.ref y, .int w0, .int w1, .int w2]) (n := 4) (Nat.le_of_ble_eq_true rfl)
  rw [lg_entry_eq]
  generalize (lg_sl ([.ref y, .int w0, .int w1, .int w2]) ++ List.replicate (4 - (lg_sl ([.ref y, .int w0, .int w1, .int w2])).length) Slot.unset).toArray = ls at hl ⊢
  have hl : lv_has ls 4 [(0, .ref y), (1, .int w0), (2, .int w1), (3, .int w2)] := hl
  refine lv_aload_n hx hb dX10_bestOf_0 rfl (lv_at hl 0 rfl) ?_
  refine lv_iload_n hx hb dX10_bestOf_1 rfl (lv_at hl 1 rfl) ?_
  have hPc := hP.sub (ws' := (c_X10_isMatter k y m_street m_beds m_light m_yes m_wage m_noiseOf m_matter m_counted m_dreams m_state m_decided m_slept m_sleptIn m_laid m_laidIn m_sizes m_text m_readStreet m_readBeds m_readLight m_readYes m_readWage m_readNoise m_readMatter m_busy m_taken m_canLow m_canHigh m_ends m_rowWho m_rowWhere m_gotLow m_gotHigh m_made m_oddsBy m_order m_bestOrder m_bestEnds m_stops m_bookDay m_bookWho m_bookWhere m_images m_isKept w0)) [0] rfl
  refine vp_callSi (va_Run.run (va_runV (As := [.int w0]) (rest := []) ⟨hx, hb, hml, hown, hts⟩ (X10_isMatter l D k y m_street m_beds m_light m_yes m_wage m_noiseOf m_matter m_counted m_dreams m_state m_decided m_slept m_sleptIn m_laid m_laidIn m_sizes m_text m_readStreet m_readBeds m_readLight m_readYes m_readWage m_readNoise m_readMatter m_busy m_taken m_canLow m_canHigh m_ends m_rowWho m_rowWhere m_gotLow m_gotHigh m_made m_oddsBy m_order m_bestOrder m_bestEnds m_stops m_bookDay m_bookWho m_bookWhere m_images m_isKept w0 ) (cwV 1 hts gX10_bestOf_X10_isMatter rfl rfl rfl (by decide +kernel) ⟨Nat.le_of_ble_eq_true rfl, Nat.le_of_ble_eq_true rfl⟩) ⟨PS.blind _ _ _ _, va_recv hG.1 hP (ci := 10) (q0 := 0) rfl rfl, PS.pre hPc hG [.ref y, .int w0]⟩ rfl rfl hl.1 rfl (lv_room (Nat.le_of_ble_eq_true rfl)) dX10_bestOf_2 ⟨Nat.le_of_ble_eq_true rfl, Nat.le_of_ble_eq_true rfl⟩)) (fun r hq => ?_)
  generalize r = y1 at hq ⊢
  have hq : y1 = 0 := hq
  refine tp_i (y := 0) (hq) ?_
  refine lv_if_ne (x := 0) (tgt := 12) hx hb dX10_bestOf_5 (by decide) (fun c2 => absurd c2 (by decide)) (fun c2 => ?_)
  refine lv_ldcw (v := (-1000000001)) hx hb hown (hts (.constant RX10 321 (-1000000001)) (List.mem_cons_of_mem _ (List.mem_append_left _ (List.mem_append_left _ (List.mem_of_getElem? (i := 0) rfl))))) dX10_bestOf_8 ?_
  exact W.iret (v := (-1000000001)) hx hb hr (fun t9 ht _ => ⟨(-1000000001), rfl, rfl, ht⟩) (fun q h => by cases h) dX10_bestOf_11

abbrev c_X10_cheapest (k : Nat → ClassId) (y : Nat) (m_street : Nat) (m_beds : Nat) (m_light : Nat) (m_yes : Nat) (m_wage : Nat) (m_noiseOf : Nat) (m_matter : Nat) (m_counted : Nat) (m_dreams : Nat) (m_state : Nat) (m_decided : Nat) (m_slept : Nat) (m_sleptIn : Nat) (m_laid : Nat) (m_laidIn : Nat) (m_sizes : Nat) (m_text : Nat) (m_readStreet : Nat) (m_readBeds : Nat) (m_readLight : Nat) (m_readYes : Nat) (m_readWage : Nat) (m_readNoise : Nat) (m_readMatter : Nat) (m_busy : Nat) (m_taken : Nat) (m_canLow : Nat) (m_canHigh : Nat) (m_ends : Nat) (m_rowWho : Nat) (m_rowWhere : Nat) (m_gotLow : Nat) (m_gotHigh : Nat) (m_made : Nat) (m_oddsBy : Nat) (m_order : Nat) (m_bestOrder : Nat) (m_bestEnds : Nat) (m_stops : Nat) (m_bookDay : Nat) (m_bookWho : Nat) (m_bookWhere : Nat) (m_images : Nat) (m_isKept : Nat) (w0 : Int32) (w1 : Int32) : va_W := [(y, .inr (10, [.int 0, .ref m_street, .ref m_beds, .int 0, .ref m_light, .ref m_yes, .ref m_wage, .int 0, .ref m_noiseOf, .int 0, .ref m_matter, .int 0, .int 7, .int (-1), .int 1, .int 0, .int 0, .ref m_counted, .ref m_dreams, .ref m_state, .ref m_decided, .ref m_slept, .ref m_sleptIn, .ref m_laid, .ref m_laidIn, .int 0, .ref m_sizes, .ref m_text, .int 0, .int (-1), .int 0, .long 0, .int 0, .int 0, .int 0, .int 0, .ref m_readStreet, .ref m_readBeds, .int 0, .ref m_readLight, .ref m_readYes, .ref m_readWage, .int 0, .ref m_readNoise, .int 0, .ref m_readMatter, .int 0, .int 0, .int 0, .ref m_busy, .ref m_taken, .ref m_canLow, .ref m_canHigh, .ref m_ends, .ref m_rowWho, .ref m_rowWhere, .ref m_gotLow, .ref m_gotHigh, .ref m_made, .ref m_oddsBy, .int 0, .int 0, .int 0, .ref m_order, .ref m_bestOrder, .ref m_bestEnds, .ref m_stops, .int 0, .ref m_bookDay, .ref m_bookWho, .ref m_bookWhere, .ref m_images, .ref m_isKept]))]
abbrev r_X10_cheapest : Room := { frames := 3, cells := 0, slots := 0, locals := 69 }
abbrev q_X10_cheapest (k : Nat → ClassId) (y : Nat) (m_street : Nat) (m_beds : Nat) (m_light : Nat) (m_yes : Nat) (m_wage : Nat) (m_noiseOf : Nat) (m_matter : Nat) (m_counted : Nat) (m_dreams : Nat) (m_state : Nat) (m_decided : Nat) (m_slept : Nat) (m_sleptIn : Nat) (m_laid : Nat) (m_laidIn : Nat) (m_sizes : Nat) (m_text : Nat) (m_readStreet : Nat) (m_readBeds : Nat) (m_readLight : Nat) (m_readYes : Nat) (m_readWage : Nat) (m_readNoise : Nat) (m_readMatter : Nat) (m_busy : Nat) (m_taken : Nat) (m_canLow : Nat) (m_canHigh : Nat) (m_ends : Nat) (m_rowWho : Nat) (m_rowWhere : Nat) (m_gotLow : Nat) (m_gotHigh : Nat) (m_made : Nat) (m_oddsBy : Nat) (m_order : Nat) (m_bestOrder : Nat) (m_bestEnds : Nat) (m_stops : Nat) (m_bookDay : Nat) (m_bookWho : Nat) (m_bookWhere : Nat) (m_images : Nat) (m_isKept : Nat) (w0 : Int32) (w1 : Int32) : Array Value → State → Outcome → State → Prop := vp_Si (fun r => r = (-1000000001))
set_option maxHeartbeats 2000000 in
set_option maxRecDepth 100000 in
theorem X10_cheapest (l : Launch) (D : va_G) (k : Nat → ClassId) (y : Nat) (m_street : Nat) (m_beds : Nat) (m_light : Nat) (m_yes : Nat) (m_wage : Nat) (m_noiseOf : Nat) (m_matter : Nat) (m_counted : Nat) (m_dreams : Nat) (m_state : Nat) (m_decided : Nat) (m_slept : Nat) (m_sleptIn : Nat) (m_laid : Nat) (m_laidIn : Nat) (m_sizes : Nat) (m_text : Nat) (m_readStreet : Nat) (m_readBeds : Nat) (m_readLight : Nat) (m_readYes : Nat) (m_readWage : Nat) (m_readNoise : Nat) (m_readMatter : Nat) (m_busy : Nat) (m_taken : Nat) (m_canLow : Nat) (m_canHigh : Nat) (m_ends : Nat) (m_rowWho : Nat) (m_rowWhere : Nat) (m_gotLow : Nat) (m_gotHigh : Nat) (m_made : Nat) (m_oddsBy : Nat) (m_order : Nat) (m_bestOrder : Nat) (m_bestEnds : Nat) (m_stops : Nat) (m_bookDay : Nat) (m_bookWho : Nat) (m_bookWhere : Nat) (m_images : Nat) (m_isKept : Nat) (w0 : Int32) (w1 : Int32)  : Met l yX10_cheapest wsX10_cheapest r_X10_cheapest (va_Pc [.ref y, .int w0, .int w1] (PS D k (c_X10_cheapest k y m_street m_beds m_light m_yes m_wage m_noiseOf m_matter m_counted m_dreams m_state m_decided m_slept m_sleptIn m_laid m_laidIn m_sizes m_text m_readStreet m_readBeds m_readLight m_readYes m_readWage m_readNoise m_readMatter m_busy m_taken m_canLow m_canHigh m_ends m_rowWho m_rowWhere m_gotLow m_gotHigh m_made m_oddsBy m_order m_bestOrder m_bestEnds m_stops m_bookDay m_bookWho m_bookWhere m_images m_isKept w0 w1))) (q_X10_cheapest k y m_street m_beds m_light m_yes m_wage m_noiseOf m_matter m_counted m_dreams m_state m_decided m_slept m_sleptIn m_laid m_laidIn m_sizes m_text m_readStreet m_readBeds m_readLight m_readYes m_readWage m_readNoise m_readMatter m_busy m_taken m_canLow m_canHigh m_ends m_rowWho m_rowWhere m_gotLow m_gotHigh m_made m_oddsBy m_order m_bestOrder m_bestEnds m_stops m_bookDay m_bookWho m_bookWhere m_images m_isKept w0 w1) 0 0 (fun _ => False) := by
  refine Met.ofW (cc := cX10_cheapest) (maxL := 3) (ret := (some .int)) (by decide) rfl ?_
  intro p e s m args below meth c s₁ B hml hv
  obtain ⟨rfl, hP, hG⟩ := hv
  have hx := B.exec
  have hb := B.bytes
  have hr := B.returns
  have hts := atoms_spec (ws := wsX10_cheapest) B.pre
  have hown : s.vm.findClass RX10 = some m.cls := findClass_of_methodNamed B.named
  have hlocks := B.notSynchronized
  have hi10 : ∀ w ∈ wsX100, w ∈ wsX10_cheapest := fun _ h => List.mem_cons_of_mem _ (List.mem_append_right _ h)
  have hP : va_P D vwCl [(y, .inr (10, [.int 0, .ref m_street, .ref m_beds, .int 0, .ref m_light, .ref m_yes, .ref m_wage, .int 0, .ref m_noiseOf, .int 0, .ref m_matter, .int 0, .int 7, .int (-1), .int 1, .int 0, .int 0, .ref m_counted, .ref m_dreams, .ref m_state, .ref m_decided, .ref m_slept, .ref m_sleptIn, .ref m_laid, .ref m_laidIn, .int 0, .ref m_sizes, .ref m_text, .int 0, .int (-1), .int 0, .long 0, .int 0, .int 0, .int 0, .int 0, .ref m_readStreet, .ref m_readBeds, .int 0, .ref m_readLight, .ref m_readYes, .ref m_readWage, .int 0, .ref m_readNoise, .int 0, .ref m_readMatter, .int 0, .int 0, .int 0, .ref m_busy, .ref m_taken, .ref m_canLow, .ref m_canHigh, .ref m_ends, .ref m_rowWho, .ref m_rowWhere, .ref m_gotLow, .ref m_gotHigh, .ref m_made, .ref m_oddsBy, .int 0, .int 0, .int 0, .ref m_order, .ref m_bestOrder, .ref m_bestEnds, .ref m_stops, .int 0, .ref m_bookDay, .ref m_bookWho, .ref m_bookWhere, .ref m_images, .ref m_isKept]))] s.heap := hP
  have hl := lv_entry ([.ref y, .int w0, .int w1]) (n := 3) (Nat.le_of_ble_eq_true rfl)
  rw [lg_entry_eq]
  generalize (lg_sl ([.ref y, .int w0, .int w1]) ++ List.replicate (3 - (lg_sl ([.ref y, .int w0, .int w1])).length) Slot.unset).toArray = ls at hl ⊢
  have hl : lv_has ls 3 [(0, .ref y), (1, .int w0), (2, .int w1)] := hl
  refine lv_aload_n hx hb dX10_cheapest_0 rfl (lv_at hl 0 rfl) ?_
  refine lv_iload_n hx hb dX10_cheapest_1 rfl (lv_at hl 1 rfl) ?_
  refine lv_iload_n hx hb dX10_cheapest_2 rfl (lv_at hl 2 rfl) ?_
  refine lv_iconst (v := 1) hx hb dX10_cheapest_3 (by decide) ?_
  have hPc := hP.sub (ws' := (c_X10_bestOf k y m_street m_beds m_light m_yes m_wage m_noiseOf m_matter m_counted m_dreams m_state m_decided m_slept m_sleptIn m_laid m_laidIn m_sizes m_text m_readStreet m_readBeds m_readLight m_readYes m_readWage m_readNoise m_readMatter m_busy m_taken m_canLow m_canHigh m_ends m_rowWho m_rowWhere m_gotLow m_gotHigh m_made m_oddsBy m_order m_bestOrder m_bestEnds m_stops m_bookDay m_bookWho m_bookWhere m_images m_isKept w0 w1 1)) [0] rfl
  refine vp_callSi (va_Run.run (va_runV (As := [.int w0, .int w1, .int 1]) (rest := []) ⟨hx, hb, hml, hown, hts⟩ (X10_bestOf l D k y m_street m_beds m_light m_yes m_wage m_noiseOf m_matter m_counted m_dreams m_state m_decided m_slept m_sleptIn m_laid m_laidIn m_sizes m_text m_readStreet m_readBeds m_readLight m_readYes m_readWage m_readNoise m_readMatter m_busy m_taken m_canLow m_canHigh m_ends m_rowWho m_rowWhere m_gotLow m_gotHigh m_made m_oddsBy m_order m_bestOrder m_bestEnds m_stops m_bookDay m_bookWho m_bookWhere m_images m_isKept w0 w1 1 ) (cwV 3 hts gX10_cheapest_X10_bestOf rfl rfl rfl (by decide +kernel) ⟨Nat.le_of_ble_eq_true rfl, Nat.le_of_ble_eq_true rfl⟩) ⟨PS.blind _ _ _ _, va_recv hG.1 hP (ci := 10) (q0 := 0) rfl rfl, PS.pre hPc hG [.ref y, .int w0, .int w1, .int 1]⟩ rfl rfl hl.1 rfl (lv_room (Nat.le_of_ble_eq_true rfl)) dX10_cheapest_4 ⟨Nat.le_of_ble_eq_true rfl, Nat.le_of_ble_eq_true rfl⟩)) (fun r hq => ?_)
  generalize r = y1 at hq ⊢
  have hq : y1 = (-1000000001) := hq
  refine tp_i (y := (-1000000001)) (hq) ?_
  exact W.iret (v := (-1000000001)) hx hb hr (fun t9 ht _ => ⟨(-1000000001), rfl, rfl, ht⟩) (fun q h => by cases h) dX10_cheapest_7

abbrev c_X10_likeliest (k : Nat → ClassId) (y : Nat) (m_street : Nat) (m_beds : Nat) (m_light : Nat) (m_yes : Nat) (m_wage : Nat) (m_noiseOf : Nat) (m_matter : Nat) (m_counted : Nat) (m_dreams : Nat) (m_state : Nat) (m_decided : Nat) (m_slept : Nat) (m_sleptIn : Nat) (m_laid : Nat) (m_laidIn : Nat) (m_sizes : Nat) (m_text : Nat) (m_readStreet : Nat) (m_readBeds : Nat) (m_readLight : Nat) (m_readYes : Nat) (m_readWage : Nat) (m_readNoise : Nat) (m_readMatter : Nat) (m_busy : Nat) (m_taken : Nat) (m_canLow : Nat) (m_canHigh : Nat) (m_ends : Nat) (m_rowWho : Nat) (m_rowWhere : Nat) (m_gotLow : Nat) (m_gotHigh : Nat) (m_made : Nat) (m_oddsBy : Nat) (m_order : Nat) (m_bestOrder : Nat) (m_bestEnds : Nat) (m_stops : Nat) (m_bookDay : Nat) (m_bookWho : Nat) (m_bookWhere : Nat) (m_images : Nat) (m_isKept : Nat) (w0 : Int32) (w1 : Int32) : va_W := [(y, .inr (10, [.int 0, .ref m_street, .ref m_beds, .int 0, .ref m_light, .ref m_yes, .ref m_wage, .int 0, .ref m_noiseOf, .int 0, .ref m_matter, .int 0, .int 7, .int (-1), .int 1, .int 0, .int 0, .ref m_counted, .ref m_dreams, .ref m_state, .ref m_decided, .ref m_slept, .ref m_sleptIn, .ref m_laid, .ref m_laidIn, .int 0, .ref m_sizes, .ref m_text, .int 0, .int (-1), .int 0, .long 0, .int 0, .int 0, .int 0, .int 0, .ref m_readStreet, .ref m_readBeds, .int 0, .ref m_readLight, .ref m_readYes, .ref m_readWage, .int 0, .ref m_readNoise, .int 0, .ref m_readMatter, .int 0, .int 0, .int 0, .ref m_busy, .ref m_taken, .ref m_canLow, .ref m_canHigh, .ref m_ends, .ref m_rowWho, .ref m_rowWhere, .ref m_gotLow, .ref m_gotHigh, .ref m_made, .ref m_oddsBy, .int 0, .int 0, .int 0, .ref m_order, .ref m_bestOrder, .ref m_bestEnds, .ref m_stops, .int 0, .ref m_bookDay, .ref m_bookWho, .ref m_bookWhere, .ref m_images, .ref m_isKept]))]
abbrev r_X10_likeliest : Room := { frames := 3, cells := 0, slots := 0, locals := 69 }
abbrev q_X10_likeliest (k : Nat → ClassId) (y : Nat) (m_street : Nat) (m_beds : Nat) (m_light : Nat) (m_yes : Nat) (m_wage : Nat) (m_noiseOf : Nat) (m_matter : Nat) (m_counted : Nat) (m_dreams : Nat) (m_state : Nat) (m_decided : Nat) (m_slept : Nat) (m_sleptIn : Nat) (m_laid : Nat) (m_laidIn : Nat) (m_sizes : Nat) (m_text : Nat) (m_readStreet : Nat) (m_readBeds : Nat) (m_readLight : Nat) (m_readYes : Nat) (m_readWage : Nat) (m_readNoise : Nat) (m_readMatter : Nat) (m_busy : Nat) (m_taken : Nat) (m_canLow : Nat) (m_canHigh : Nat) (m_ends : Nat) (m_rowWho : Nat) (m_rowWhere : Nat) (m_gotLow : Nat) (m_gotHigh : Nat) (m_made : Nat) (m_oddsBy : Nat) (m_order : Nat) (m_bestOrder : Nat) (m_bestEnds : Nat) (m_stops : Nat) (m_bookDay : Nat) (m_bookWho : Nat) (m_bookWhere : Nat) (m_images : Nat) (m_isKept : Nat) (w0 : Int32) (w1 : Int32) : Array Value → State → Outcome → State → Prop := vp_Si (fun r => r = (-1000000001))
set_option maxHeartbeats 2000000 in
set_option maxRecDepth 100000 in
theorem X10_likeliest (l : Launch) (D : va_G) (k : Nat → ClassId) (y : Nat) (m_street : Nat) (m_beds : Nat) (m_light : Nat) (m_yes : Nat) (m_wage : Nat) (m_noiseOf : Nat) (m_matter : Nat) (m_counted : Nat) (m_dreams : Nat) (m_state : Nat) (m_decided : Nat) (m_slept : Nat) (m_sleptIn : Nat) (m_laid : Nat) (m_laidIn : Nat) (m_sizes : Nat) (m_text : Nat) (m_readStreet : Nat) (m_readBeds : Nat) (m_readLight : Nat) (m_readYes : Nat) (m_readWage : Nat) (m_readNoise : Nat) (m_readMatter : Nat) (m_busy : Nat) (m_taken : Nat) (m_canLow : Nat) (m_canHigh : Nat) (m_ends : Nat) (m_rowWho : Nat) (m_rowWhere : Nat) (m_gotLow : Nat) (m_gotHigh : Nat) (m_made : Nat) (m_oddsBy : Nat) (m_order : Nat) (m_bestOrder : Nat) (m_bestEnds : Nat) (m_stops : Nat) (m_bookDay : Nat) (m_bookWho : Nat) (m_bookWhere : Nat) (m_images : Nat) (m_isKept : Nat) (w0 : Int32) (w1 : Int32)  : Met l yX10_likeliest wsX10_likeliest r_X10_likeliest (va_Pc [.ref y, .int w0, .int w1] (PS D k (c_X10_likeliest k y m_street m_beds m_light m_yes m_wage m_noiseOf m_matter m_counted m_dreams m_state m_decided m_slept m_sleptIn m_laid m_laidIn m_sizes m_text m_readStreet m_readBeds m_readLight m_readYes m_readWage m_readNoise m_readMatter m_busy m_taken m_canLow m_canHigh m_ends m_rowWho m_rowWhere m_gotLow m_gotHigh m_made m_oddsBy m_order m_bestOrder m_bestEnds m_stops m_bookDay m_bookWho m_bookWhere m_images m_isKept w0 w1))) (q_X10_likeliest k y m_street m_beds m_light m_yes m_wage m_noiseOf m_matter m_counted m_dreams m_state m_decided m_slept m_sleptIn m_laid m_laidIn m_sizes m_text m_readStreet m_readBeds m_readLight m_readYes m_readWage m_readNoise m_readMatter m_busy m_taken m_canLow m_canHigh m_ends m_rowWho m_rowWhere m_gotLow m_gotHigh m_made m_oddsBy m_order m_bestOrder m_bestEnds m_stops m_bookDay m_bookWho m_bookWhere m_images m_isKept w0 w1) 0 0 (fun _ => False) := by
  refine Met.ofW (cc := cX10_likeliest) (maxL := 3) (ret := (some .int)) (by decide) rfl ?_
  intro p e s m args below meth c s₁ B hml hv
  obtain ⟨rfl, hP, hG⟩ := hv
  have hx := B.exec
  have hb := B.bytes
  have hr := B.returns
  have hts := atoms_spec (ws := wsX10_likeliest) B.pre
  have hown : s.vm.findClass RX10 = some m.cls := findClass_of_methodNamed B.named
  have hlocks := B.notSynchronized
  have hi10 : ∀ w ∈ wsX100, w ∈ wsX10_likeliest := fun _ h => List.mem_cons_of_mem _ (List.mem_append_right _ h)
  have hP : va_P D vwCl [(y, .inr (10, [.int 0, .ref m_street, .ref m_beds, .int 0, .ref m_light, .ref m_yes, .ref m_wage, .int 0, .ref m_noiseOf, .int 0, .ref m_matter, .int 0, .int 7, .int (-1), .int 1, .int 0, .int 0, .ref m_counted, .ref m_dreams, .ref m_state, .ref m_decided, .ref m_slept, .ref m_sleptIn, .ref m_laid, .ref m_laidIn, .int 0, .ref m_sizes, .ref m_text, .int 0, .int (-1), .int 0, .long 0, .int 0, .int 0, .int 0, .int 0, .ref m_readStreet, .ref m_readBeds, .int 0, .ref m_readLight, .ref m_readYes, .ref m_readWage, .int 0, .ref m_readNoise, .int 0, .ref m_readMatter, .int 0, .int 0, .int 0, .ref m_busy, .ref m_taken, .ref m_canLow, .ref m_canHigh, .ref m_ends, .ref m_rowWho, .ref m_rowWhere, .ref m_gotLow, .ref m_gotHigh, .ref m_made, .ref m_oddsBy, .int 0, .int 0, .int 0, .ref m_order, .ref m_bestOrder, .ref m_bestEnds, .ref m_stops, .int 0, .ref m_bookDay, .ref m_bookWho, .ref m_bookWhere, .ref m_images, .ref m_isKept]))] s.heap := hP
  have hl := lv_entry ([.ref y, .int w0, .int w1]) (n := 3) (Nat.le_of_ble_eq_true rfl)
  rw [lg_entry_eq]
  generalize (lg_sl ([.ref y, .int w0, .int w1]) ++ List.replicate (3 - (lg_sl ([.ref y, .int w0, .int w1])).length) Slot.unset).toArray = ls at hl ⊢
  have hl : lv_has ls 3 [(0, .ref y), (1, .int w0), (2, .int w1)] := hl
  refine lv_aload_n hx hb dX10_likeliest_0 rfl (lv_at hl 0 rfl) ?_
  refine lv_iload_n hx hb dX10_likeliest_1 rfl (lv_at hl 1 rfl) ?_
  refine lv_iload_n hx hb dX10_likeliest_2 rfl (lv_at hl 2 rfl) ?_
  refine lv_iconst (v := 0) hx hb dX10_likeliest_3 (by decide) ?_
  have hPc := hP.sub (ws' := (c_X10_bestOf k y m_street m_beds m_light m_yes m_wage m_noiseOf m_matter m_counted m_dreams m_state m_decided m_slept m_sleptIn m_laid m_laidIn m_sizes m_text m_readStreet m_readBeds m_readLight m_readYes m_readWage m_readNoise m_readMatter m_busy m_taken m_canLow m_canHigh m_ends m_rowWho m_rowWhere m_gotLow m_gotHigh m_made m_oddsBy m_order m_bestOrder m_bestEnds m_stops m_bookDay m_bookWho m_bookWhere m_images m_isKept w0 w1 0)) [0] rfl
  refine vp_callSi (va_Run.run (va_runV (As := [.int w0, .int w1, .int 0]) (rest := []) ⟨hx, hb, hml, hown, hts⟩ (X10_bestOf l D k y m_street m_beds m_light m_yes m_wage m_noiseOf m_matter m_counted m_dreams m_state m_decided m_slept m_sleptIn m_laid m_laidIn m_sizes m_text m_readStreet m_readBeds m_readLight m_readYes m_readWage m_readNoise m_readMatter m_busy m_taken m_canLow m_canHigh m_ends m_rowWho m_rowWhere m_gotLow m_gotHigh m_made m_oddsBy m_order m_bestOrder m_bestEnds m_stops m_bookDay m_bookWho m_bookWhere m_images m_isKept w0 w1 0 ) (cwV 3 hts gX10_likeliest_X10_bestOf rfl rfl rfl (by decide +kernel) ⟨Nat.le_of_ble_eq_true rfl, Nat.le_of_ble_eq_true rfl⟩) ⟨PS.blind _ _ _ _, va_recv hG.1 hP (ci := 10) (q0 := 0) rfl rfl, PS.pre hPc hG [.ref y, .int w0, .int w1, .int 0]⟩ rfl rfl hl.1 rfl (lv_room (Nat.le_of_ble_eq_true rfl)) dX10_likeliest_4 ⟨Nat.le_of_ble_eq_true rfl, Nat.le_of_ble_eq_true rfl⟩)) (fun r hq => ?_)
  generalize r = y1 at hq ⊢
  have hq : y1 = (-1000000001) := hq
  refine tp_i (y := (-1000000001)) (hq) ?_
  exact W.iret (v := (-1000000001)) hx hb hr (fun t9 ht _ => ⟨(-1000000001), rfl, rfl, ht⟩) (fun q h => by cases h) dX10_likeliest_7

abbrev c_X10_stopped (k : Nat → ClassId) (y : Nat) (m_street : Nat) (m_beds : Nat) (m_light : Nat) (m_yes : Nat) (m_wage : Nat) (m_noiseOf : Nat) (m_matter : Nat) (m_counted : Nat) (m_dreams : Nat) (m_state : Nat) (m_decided : Nat) (m_slept : Nat) (m_sleptIn : Nat) (m_laid : Nat) (m_laidIn : Nat) (m_sizes : Nat) (m_text : Nat) (m_readStreet : Nat) (m_readBeds : Nat) (m_readLight : Nat) (m_readYes : Nat) (m_readWage : Nat) (m_readNoise : Nat) (m_readMatter : Nat) (m_busy : Nat) (m_taken : Nat) (m_canLow : Nat) (m_canHigh : Nat) (m_ends : Nat) (m_rowWho : Nat) (m_rowWhere : Nat) (m_gotLow : Nat) (m_gotHigh : Nat) (m_made : Nat) (m_oddsBy : Nat) (m_order : Nat) (m_bestOrder : Nat) (m_bestEnds : Nat) (m_stops : Nat) (m_bookDay : Nat) (m_bookWho : Nat) (m_bookWhere : Nat) (m_images : Nat) (m_isKept : Nat) (w0 : Int32) (w1 : Int32) : va_W := [(y, .inr (10, [.int 0, .ref m_street, .ref m_beds, .int 0, .ref m_light, .ref m_yes, .ref m_wage, .int 0, .ref m_noiseOf, .int 0, .ref m_matter, .int 0, .int 7, .int (-1), .int 1, .int 0, .int 0, .ref m_counted, .ref m_dreams, .ref m_state, .ref m_decided, .ref m_slept, .ref m_sleptIn, .ref m_laid, .ref m_laidIn, .int 0, .ref m_sizes, .ref m_text, .int 0, .int (-1), .int 0, .long 0, .int 0, .int 0, .int 0, .int 0, .ref m_readStreet, .ref m_readBeds, .int 0, .ref m_readLight, .ref m_readYes, .ref m_readWage, .int 0, .ref m_readNoise, .int 0, .ref m_readMatter, .int 0, .int 0, .int 0, .ref m_busy, .ref m_taken, .ref m_canLow, .ref m_canHigh, .ref m_ends, .ref m_rowWho, .ref m_rowWhere, .ref m_gotLow, .ref m_gotHigh, .ref m_made, .ref m_oddsBy, .int 0, .int 0, .int 0, .ref m_order, .ref m_bestOrder, .ref m_bestEnds, .ref m_stops, .int 0, .ref m_bookDay, .ref m_bookWho, .ref m_bookWhere, .ref m_images, .ref m_isKept]))]
abbrev r_X10_stopped : Room := { frames := 2, cells := 0, slots := 0, locals := 46 }
abbrev q_X10_stopped (k : Nat → ClassId) (y : Nat) (m_street : Nat) (m_beds : Nat) (m_light : Nat) (m_yes : Nat) (m_wage : Nat) (m_noiseOf : Nat) (m_matter : Nat) (m_counted : Nat) (m_dreams : Nat) (m_state : Nat) (m_decided : Nat) (m_slept : Nat) (m_sleptIn : Nat) (m_laid : Nat) (m_laidIn : Nat) (m_sizes : Nat) (m_text : Nat) (m_readStreet : Nat) (m_readBeds : Nat) (m_readLight : Nat) (m_readYes : Nat) (m_readWage : Nat) (m_readNoise : Nat) (m_readMatter : Nat) (m_busy : Nat) (m_taken : Nat) (m_canLow : Nat) (m_canHigh : Nat) (m_ends : Nat) (m_rowWho : Nat) (m_rowWhere : Nat) (m_gotLow : Nat) (m_gotHigh : Nat) (m_made : Nat) (m_oddsBy : Nat) (m_order : Nat) (m_bestOrder : Nat) (m_bestEnds : Nat) (m_stops : Nat) (m_bookDay : Nat) (m_bookWho : Nat) (m_bookWhere : Nat) (m_images : Nat) (m_isKept : Nat) (w0 : Int32) (w1 : Int32) : Array Value → State → Outcome → State → Prop := vp_Si (fun r => r = (-1000000001))
set_option maxHeartbeats 2000000 in
set_option maxRecDepth 100000 in
theorem X10_stopped (l : Launch) (D : va_G) (k : Nat → ClassId) (y : Nat) (m_street : Nat) (m_beds : Nat) (m_light : Nat) (m_yes : Nat) (m_wage : Nat) (m_noiseOf : Nat) (m_matter : Nat) (m_counted : Nat) (m_dreams : Nat) (m_state : Nat) (m_decided : Nat) (m_slept : Nat) (m_sleptIn : Nat) (m_laid : Nat) (m_laidIn : Nat) (m_sizes : Nat) (m_text : Nat) (m_readStreet : Nat) (m_readBeds : Nat) (m_readLight : Nat) (m_readYes : Nat) (m_readWage : Nat) (m_readNoise : Nat) (m_readMatter : Nat) (m_busy : Nat) (m_taken : Nat) (m_canLow : Nat) (m_canHigh : Nat) (m_ends : Nat) (m_rowWho : Nat) (m_rowWhere : Nat) (m_gotLow : Nat) (m_gotHigh : Nat) (m_made : Nat) (m_oddsBy : Nat) (m_order : Nat) (m_bestOrder : Nat) (m_bestEnds : Nat) (m_stops : Nat) (m_bookDay : Nat) (m_bookWho : Nat) (m_bookWhere : Nat) (m_images : Nat) (m_isKept : Nat) (w0 : Int32) (w1 : Int32)  : Met l yX10_stopped wsX10_stopped r_X10_stopped (va_Pc [.ref y, .int w0, .int w1] (PS D k (c_X10_stopped k y m_street m_beds m_light m_yes m_wage m_noiseOf m_matter m_counted m_dreams m_state m_decided m_slept m_sleptIn m_laid m_laidIn m_sizes m_text m_readStreet m_readBeds m_readLight m_readYes m_readWage m_readNoise m_readMatter m_busy m_taken m_canLow m_canHigh m_ends m_rowWho m_rowWhere m_gotLow m_gotHigh m_made m_oddsBy m_order m_bestOrder m_bestEnds m_stops m_bookDay m_bookWho m_bookWhere m_images m_isKept w0 w1))) (q_X10_stopped k y m_street m_beds m_light m_yes m_wage m_noiseOf m_matter m_counted m_dreams m_state m_decided m_slept m_sleptIn m_laid m_laidIn m_sizes m_text m_readStreet m_readBeds m_readLight m_readYes m_readWage m_readNoise m_readMatter m_busy m_taken m_canLow m_canHigh m_ends m_rowWho m_rowWhere m_gotLow m_gotHigh m_made m_oddsBy m_order m_bestOrder m_bestEnds m_stops m_bookDay m_bookWho m_bookWhere m_images m_isKept w0 w1) 0 0 (fun _ => False) := by
  refine Met.ofW (cc := cX10_stopped) (maxL := 4) (ret := (some .int)) (by decide) rfl ?_
  intro p e s m args below meth c s₁ B hml hv
  obtain ⟨rfl, hP, hG⟩ := hv
  have hx := B.exec
  have hb := B.bytes
  have hr := B.returns
  have hts := atoms_spec (ws := wsX10_stopped) B.pre
  have hown : s.vm.findClass RX10 = some m.cls := findClass_of_methodNamed B.named
  have hlocks := B.notSynchronized
  have hi10 : ∀ w ∈ wsX100, w ∈ wsX10_stopped := fun _ h => List.mem_cons_of_mem _ (List.mem_append_right _ h)
  have hP : va_P D vwCl [(y, .inr (10, [.int 0, .ref m_street, .ref m_beds, .int 0, .ref m_light, .ref m_yes, .ref m_wage, .int 0, .ref m_noiseOf, .int 0, .ref m_matter, .int 0, .int 7, .int (-1), .int 1, .int 0, .int 0, .ref m_counted, .ref m_dreams, .ref m_state, .ref m_decided, .ref m_slept, .ref m_sleptIn, .ref m_laid, .ref m_laidIn, .int 0, .ref m_sizes, .ref m_text, .int 0, .int (-1), .int 0, .long 0, .int 0, .int 0, .int 0, .int 0, .ref m_readStreet, .ref m_readBeds, .int 0, .ref m_readLight, .ref m_readYes, .ref m_readWage, .int 0, .ref m_readNoise, .int 0, .ref m_readMatter, .int 0, .int 0, .int 0, .ref m_busy, .ref m_taken, .ref m_canLow, .ref m_canHigh, .ref m_ends, .ref m_rowWho, .ref m_rowWhere, .ref m_gotLow, .ref m_gotHigh, .ref m_made, .ref m_oddsBy, .int 0, .int 0, .int 0, .ref m_order, .ref m_bestOrder, .ref m_bestEnds, .ref m_stops, .int 0, .ref m_bookDay, .ref m_bookWho, .ref m_bookWhere, .ref m_images, .ref m_isKept]))] s.heap := hP
  have hl := lv_entry ([.ref y, .int w0, .int w1]) (n := 4) (Nat.le_of_ble_eq_true rfl)
  rw [lg_entry_eq]
  generalize (lg_sl ([.ref y, .int w0, .int w1]) ++ List.replicate (4 - (lg_sl ([.ref y, .int w0, .int w1])).length) Slot.unset).toArray = ls at hl ⊢
  have hl : lv_has ls 4 [(0, .ref y), (1, .int w0), (2, .int w1)] := hl
  refine lv_aload_n hx hb dX10_stopped_0 rfl (lv_at hl 0 rfl) ?_
  refine lv_iload_n hx hb dX10_stopped_1 rfl (lv_at hl 1 rfl) ?_
  have hPc := hP.sub (ws' := (c_X10_isMatter k y m_street m_beds m_light m_yes m_wage m_noiseOf m_matter m_counted m_dreams m_state m_decided m_slept m_sleptIn m_laid m_laidIn m_sizes m_text m_readStreet m_readBeds m_readLight m_readYes m_readWage m_readNoise m_readMatter m_busy m_taken m_canLow m_canHigh m_ends m_rowWho m_rowWhere m_gotLow m_gotHigh m_made m_oddsBy m_order m_bestOrder m_bestEnds m_stops m_bookDay m_bookWho m_bookWhere m_images m_isKept w0)) [0] rfl
  refine vp_callSi (va_Run.run (va_runV (As := [.int w0]) (rest := []) ⟨hx, hb, hml, hown, hts⟩ (X10_isMatter l D k y m_street m_beds m_light m_yes m_wage m_noiseOf m_matter m_counted m_dreams m_state m_decided m_slept m_sleptIn m_laid m_laidIn m_sizes m_text m_readStreet m_readBeds m_readLight m_readYes m_readWage m_readNoise m_readMatter m_busy m_taken m_canLow m_canHigh m_ends m_rowWho m_rowWhere m_gotLow m_gotHigh m_made m_oddsBy m_order m_bestOrder m_bestEnds m_stops m_bookDay m_bookWho m_bookWhere m_images m_isKept w0 ) (cwV 1 hts gX10_stopped_X10_isMatter rfl rfl rfl (by decide +kernel) ⟨Nat.le_of_ble_eq_true rfl, Nat.le_of_ble_eq_true rfl⟩) ⟨PS.blind _ _ _ _, va_recv hG.1 hP (ci := 10) (q0 := 0) rfl rfl, PS.pre hPc hG [.ref y, .int w0]⟩ rfl rfl hl.1 rfl (lv_room (Nat.le_of_ble_eq_true rfl)) dX10_stopped_2 ⟨Nat.le_of_ble_eq_true rfl, Nat.le_of_ble_eq_true rfl⟩)) (fun r hq => ?_)
  generalize r = y1 at hq ⊢
  have hq : y1 = 0 := hq
  refine tp_i (y := 0) (hq) ?_
  refine lv_if_ne (x := 0) (tgt := 12) hx hb dX10_stopped_5 (by decide) (fun c2 => absurd c2 (by decide)) (fun c2 => ?_)
  refine lv_ldcw (v := (-1000000001)) hx hb hown (hts (.constant RX10 321 (-1000000001)) (List.mem_cons_of_mem _ (List.mem_append_left _ (List.mem_append_left _ (List.mem_of_getElem? (i := 0) rfl))))) dX10_stopped_8 ?_
  exact W.iret (v := (-1000000001)) hx hb hr (fun t9 ht _ => ⟨(-1000000001), rfl, rfl, ht⟩) (fun q h => by cases h) dX10_stopped_11

abbrev c_X10_tried (k : Nat → ClassId) (y : Nat) (m_street : Nat) (m_beds : Nat) (m_light : Nat) (m_yes : Nat) (m_wage : Nat) (m_noiseOf : Nat) (m_matter : Nat) (m_counted : Nat) (m_dreams : Nat) (m_state : Nat) (m_decided : Nat) (m_slept : Nat) (m_sleptIn : Nat) (m_laid : Nat) (m_laidIn : Nat) (m_sizes : Nat) (m_text : Nat) (m_readStreet : Nat) (m_readBeds : Nat) (m_readLight : Nat) (m_readYes : Nat) (m_readWage : Nat) (m_readNoise : Nat) (m_readMatter : Nat) (m_busy : Nat) (m_taken : Nat) (m_canLow : Nat) (m_canHigh : Nat) (m_ends : Nat) (m_rowWho : Nat) (m_rowWhere : Nat) (m_gotLow : Nat) (m_gotHigh : Nat) (m_made : Nat) (m_oddsBy : Nat) (m_order : Nat) (m_bestOrder : Nat) (m_bestEnds : Nat) (m_stops : Nat) (m_bookDay : Nat) (m_bookWho : Nat) (m_bookWhere : Nat) (m_images : Nat) (m_isKept : Nat) (w0 : Int32) (w1 : Int32) : va_W := [(y, .inr (10, [.int 0, .ref m_street, .ref m_beds, .int 0, .ref m_light, .ref m_yes, .ref m_wage, .int 0, .ref m_noiseOf, .int 0, .ref m_matter, .int 0, .int 7, .int (-1), .int 1, .int 0, .int 0, .ref m_counted, .ref m_dreams, .ref m_state, .ref m_decided, .ref m_slept, .ref m_sleptIn, .ref m_laid, .ref m_laidIn, .int 0, .ref m_sizes, .ref m_text, .int 0, .int (-1), .int 0, .long 0, .int 0, .int 0, .int 0, .int 0, .ref m_readStreet, .ref m_readBeds, .int 0, .ref m_readLight, .ref m_readYes, .ref m_readWage, .int 0, .ref m_readNoise, .int 0, .ref m_readMatter, .int 0, .int 0, .int 0, .ref m_busy, .ref m_taken, .ref m_canLow, .ref m_canHigh, .ref m_ends, .ref m_rowWho, .ref m_rowWhere, .ref m_gotLow, .ref m_gotHigh, .ref m_made, .ref m_oddsBy, .int 0, .int 0, .int 0, .ref m_order, .ref m_bestOrder, .ref m_bestEnds, .ref m_stops, .int 0, .ref m_bookDay, .ref m_bookWho, .ref m_bookWhere, .ref m_images, .ref m_isKept]))]
abbrev r_X10_tried : Room := { frames := 2, cells := 0, slots := 0, locals := 46 }
abbrev q_X10_tried (k : Nat → ClassId) (y : Nat) (m_street : Nat) (m_beds : Nat) (m_light : Nat) (m_yes : Nat) (m_wage : Nat) (m_noiseOf : Nat) (m_matter : Nat) (m_counted : Nat) (m_dreams : Nat) (m_state : Nat) (m_decided : Nat) (m_slept : Nat) (m_sleptIn : Nat) (m_laid : Nat) (m_laidIn : Nat) (m_sizes : Nat) (m_text : Nat) (m_readStreet : Nat) (m_readBeds : Nat) (m_readLight : Nat) (m_readYes : Nat) (m_readWage : Nat) (m_readNoise : Nat) (m_readMatter : Nat) (m_busy : Nat) (m_taken : Nat) (m_canLow : Nat) (m_canHigh : Nat) (m_ends : Nat) (m_rowWho : Nat) (m_rowWhere : Nat) (m_gotLow : Nat) (m_gotHigh : Nat) (m_made : Nat) (m_oddsBy : Nat) (m_order : Nat) (m_bestOrder : Nat) (m_bestEnds : Nat) (m_stops : Nat) (m_bookDay : Nat) (m_bookWho : Nat) (m_bookWhere : Nat) (m_images : Nat) (m_isKept : Nat) (w0 : Int32) (w1 : Int32) : Array Value → State → Outcome → State → Prop := vp_Si (fun r => r = (-1000000001))
set_option maxHeartbeats 2000000 in
set_option maxRecDepth 100000 in
theorem X10_tried (l : Launch) (D : va_G) (k : Nat → ClassId) (y : Nat) (m_street : Nat) (m_beds : Nat) (m_light : Nat) (m_yes : Nat) (m_wage : Nat) (m_noiseOf : Nat) (m_matter : Nat) (m_counted : Nat) (m_dreams : Nat) (m_state : Nat) (m_decided : Nat) (m_slept : Nat) (m_sleptIn : Nat) (m_laid : Nat) (m_laidIn : Nat) (m_sizes : Nat) (m_text : Nat) (m_readStreet : Nat) (m_readBeds : Nat) (m_readLight : Nat) (m_readYes : Nat) (m_readWage : Nat) (m_readNoise : Nat) (m_readMatter : Nat) (m_busy : Nat) (m_taken : Nat) (m_canLow : Nat) (m_canHigh : Nat) (m_ends : Nat) (m_rowWho : Nat) (m_rowWhere : Nat) (m_gotLow : Nat) (m_gotHigh : Nat) (m_made : Nat) (m_oddsBy : Nat) (m_order : Nat) (m_bestOrder : Nat) (m_bestEnds : Nat) (m_stops : Nat) (m_bookDay : Nat) (m_bookWho : Nat) (m_bookWhere : Nat) (m_images : Nat) (m_isKept : Nat) (w0 : Int32) (w1 : Int32)  : Met l yX10_tried wsX10_tried r_X10_tried (va_Pc [.ref y, .int w0, .int w1] (PS D k (c_X10_tried k y m_street m_beds m_light m_yes m_wage m_noiseOf m_matter m_counted m_dreams m_state m_decided m_slept m_sleptIn m_laid m_laidIn m_sizes m_text m_readStreet m_readBeds m_readLight m_readYes m_readWage m_readNoise m_readMatter m_busy m_taken m_canLow m_canHigh m_ends m_rowWho m_rowWhere m_gotLow m_gotHigh m_made m_oddsBy m_order m_bestOrder m_bestEnds m_stops m_bookDay m_bookWho m_bookWhere m_images m_isKept w0 w1))) (q_X10_tried k y m_street m_beds m_light m_yes m_wage m_noiseOf m_matter m_counted m_dreams m_state m_decided m_slept m_sleptIn m_laid m_laidIn m_sizes m_text m_readStreet m_readBeds m_readLight m_readYes m_readWage m_readNoise m_readMatter m_busy m_taken m_canLow m_canHigh m_ends m_rowWho m_rowWhere m_gotLow m_gotHigh m_made m_oddsBy m_order m_bestOrder m_bestEnds m_stops m_bookDay m_bookWho m_bookWhere m_images m_isKept w0 w1) 0 0 (fun _ => False) := by
  refine Met.ofW (cc := cX10_tried) (maxL := 4) (ret := (some .int)) (by decide) rfl ?_
  intro p e s m args below meth c s₁ B hml hv
  obtain ⟨rfl, hP, hG⟩ := hv
  have hx := B.exec
  have hb := B.bytes
  have hr := B.returns
  have hts := atoms_spec (ws := wsX10_tried) B.pre
  have hown : s.vm.findClass RX10 = some m.cls := findClass_of_methodNamed B.named
  have hlocks := B.notSynchronized
  have hi10 : ∀ w ∈ wsX100, w ∈ wsX10_tried := fun _ h => List.mem_cons_of_mem _ (List.mem_append_right _ h)
  have hP : va_P D vwCl [(y, .inr (10, [.int 0, .ref m_street, .ref m_beds, .int 0, .ref m_light, .ref m_yes, .ref m_wage, .int 0, .ref m_noiseOf, .int 0, .ref m_matter, .int 0, .int 7, .int (-1), .int 1, .int 0, .int 0, .ref m_counted, .ref m_dreams, .ref m_state, .ref m_decided, .ref m_slept, .ref m_sleptIn, .ref m_laid, .ref m_laidIn, .int 0, .ref m_sizes, .ref m_text, .int 0, .int (-1), .int 0, .long 0, .int 0, .int 0, .int 0, .int 0, .ref m_readStreet, .ref m_readBeds, .int 0, .ref m_readLight, .ref m_readYes, .ref m_readWage, .int 0, .ref m_readNoise, .int 0, .ref m_readMatter, .int 0, .int 0, .int 0, .ref m_busy, .ref m_taken, .ref m_canLow, .ref m_canHigh, .ref m_ends, .ref m_rowWho, .ref m_rowWhere, .ref m_gotLow, .ref m_gotHigh, .ref m_made, .ref m_oddsBy, .int 0, .int 0, .int 0, .ref m_order, .ref m_bestOrder, .ref m_bestEnds, .ref m_stops, .int 0, .ref m_bookDay, .ref m_bookWho, .ref m_bookWhere, .ref m_images, .ref m_isKept]))] s.heap := hP
  have hl := lv_entry ([.ref y, .int w0, .int w1]) (n := 4) (Nat.le_of_ble_eq_true rfl)
  rw [lg_entry_eq]
  generalize (lg_sl ([.ref y, .int w0, .int w1]) ++ List.replicate (4 - (lg_sl ([.ref y, .int w0, .int w1])).length) Slot.unset).toArray = ls at hl ⊢
  have hl : lv_has ls 4 [(0, .ref y), (1, .int w0), (2, .int w1)] := hl
  refine lv_aload_n hx hb dX10_tried_0 rfl (lv_at hl 0 rfl) ?_
  refine lv_iload_n hx hb dX10_tried_1 rfl (lv_at hl 1 rfl) ?_
  have hPc := hP.sub (ws' := (c_X10_isMatter k y m_street m_beds m_light m_yes m_wage m_noiseOf m_matter m_counted m_dreams m_state m_decided m_slept m_sleptIn m_laid m_laidIn m_sizes m_text m_readStreet m_readBeds m_readLight m_readYes m_readWage m_readNoise m_readMatter m_busy m_taken m_canLow m_canHigh m_ends m_rowWho m_rowWhere m_gotLow m_gotHigh m_made m_oddsBy m_order m_bestOrder m_bestEnds m_stops m_bookDay m_bookWho m_bookWhere m_images m_isKept w0)) [0] rfl
  refine vp_callSi (va_Run.run (va_runV (As := [.int w0]) (rest := []) ⟨hx, hb, hml, hown, hts⟩ (X10_isMatter l D k y m_street m_beds m_light m_yes m_wage m_noiseOf m_matter m_counted m_dreams m_state m_decided m_slept m_sleptIn m_laid m_laidIn m_sizes m_text m_readStreet m_readBeds m_readLight m_readYes m_readWage m_readNoise m_readMatter m_busy m_taken m_canLow m_canHigh m_ends m_rowWho m_rowWhere m_gotLow m_gotHigh m_made m_oddsBy m_order m_bestOrder m_bestEnds m_stops m_bookDay m_bookWho m_bookWhere m_images m_isKept w0 ) (cwV 1 hts gX10_tried_X10_isMatter rfl rfl rfl (by decide +kernel) ⟨Nat.le_of_ble_eq_true rfl, Nat.le_of_ble_eq_true rfl⟩) ⟨PS.blind _ _ _ _, va_recv hG.1 hP (ci := 10) (q0 := 0) rfl rfl, PS.pre hPc hG [.ref y, .int w0]⟩ rfl rfl hl.1 rfl (lv_room (Nat.le_of_ble_eq_true rfl)) dX10_tried_2 ⟨Nat.le_of_ble_eq_true rfl, Nat.le_of_ble_eq_true rfl⟩)) (fun r hq => ?_)
  generalize r = y1 at hq ⊢
  have hq : y1 = 0 := hq
  refine tp_i (y := 0) (hq) ?_
  refine lv_if_ne (x := 0) (tgt := 12) hx hb dX10_tried_5 (by decide) (fun c2 => absurd c2 (by decide)) (fun c2 => ?_)
  refine lv_ldcw (v := (-1000000001)) hx hb hown (hts (.constant RX10 321 (-1000000001)) (List.mem_cons_of_mem _ (List.mem_append_left _ (List.mem_append_left _ (List.mem_of_getElem? (i := 0) rfl))))) dX10_tried_8 ?_
  exact W.iret (v := (-1000000001)) hx hb hr (fun t9 ht _ => ⟨(-1000000001), rfl, rfl, ht⟩) (fun q h => by cases h) dX10_tried_11

abbrev c_X10_let (k : Nat → ClassId) (y : Nat) (m_street : Nat) (m_beds : Nat) (m_light : Nat) (m_yes : Nat) (m_wage : Nat) (m_noiseOf : Nat) (m_matter : Nat) (m_counted : Nat) (m_dreams : Nat) (m_state : Nat) (m_decided : Nat) (m_slept : Nat) (m_sleptIn : Nat) (m_laid : Nat) (m_laidIn : Nat) (m_sizes : Nat) (m_text : Nat) (m_readStreet : Nat) (m_readBeds : Nat) (m_readLight : Nat) (m_readYes : Nat) (m_readWage : Nat) (m_readNoise : Nat) (m_readMatter : Nat) (m_busy : Nat) (m_taken : Nat) (m_canLow : Nat) (m_canHigh : Nat) (m_ends : Nat) (m_rowWho : Nat) (m_rowWhere : Nat) (m_gotLow : Nat) (m_gotHigh : Nat) (m_made : Nat) (m_oddsBy : Nat) (m_order : Nat) (m_bestOrder : Nat) (m_bestEnds : Nat) (m_stops : Nat) (m_bookDay : Nat) (m_bookWho : Nat) (m_bookWhere : Nat) (m_images : Nat) (m_isKept : Nat) (w0 : Int32) (w1 : Int32) (w2 : Int32) : va_W := [(y, .inr (10, [.int 0, .ref m_street, .ref m_beds, .int 0, .ref m_light, .ref m_yes, .ref m_wage, .int 0, .ref m_noiseOf, .int 0, .ref m_matter, .int 0, .int 7, .int (-1), .int 1, .int 0, .int 0, .ref m_counted, .ref m_dreams, .ref m_state, .ref m_decided, .ref m_slept, .ref m_sleptIn, .ref m_laid, .ref m_laidIn, .int 0, .ref m_sizes, .ref m_text, .int 0, .int (-1), .int 0, .long 0, .int 0, .int 0, .int 0, .int 0, .ref m_readStreet, .ref m_readBeds, .int 0, .ref m_readLight, .ref m_readYes, .ref m_readWage, .int 0, .ref m_readNoise, .int 0, .ref m_readMatter, .int 0, .int 0, .int 0, .ref m_busy, .ref m_taken, .ref m_canLow, .ref m_canHigh, .ref m_ends, .ref m_rowWho, .ref m_rowWhere, .ref m_gotLow, .ref m_gotHigh, .ref m_made, .ref m_oddsBy, .int 0, .int 0, .int 0, .ref m_order, .ref m_bestOrder, .ref m_bestEnds, .ref m_stops, .int 0, .ref m_bookDay, .ref m_bookWho, .ref m_bookWhere, .ref m_images, .ref m_isKept]))]
abbrev r_X10_let : Room := { frames := 2, cells := 0, slots := 0, locals := 46 }
abbrev q_X10_let (k : Nat → ClassId) (y : Nat) (m_street : Nat) (m_beds : Nat) (m_light : Nat) (m_yes : Nat) (m_wage : Nat) (m_noiseOf : Nat) (m_matter : Nat) (m_counted : Nat) (m_dreams : Nat) (m_state : Nat) (m_decided : Nat) (m_slept : Nat) (m_sleptIn : Nat) (m_laid : Nat) (m_laidIn : Nat) (m_sizes : Nat) (m_text : Nat) (m_readStreet : Nat) (m_readBeds : Nat) (m_readLight : Nat) (m_readYes : Nat) (m_readWage : Nat) (m_readNoise : Nat) (m_readMatter : Nat) (m_busy : Nat) (m_taken : Nat) (m_canLow : Nat) (m_canHigh : Nat) (m_ends : Nat) (m_rowWho : Nat) (m_rowWhere : Nat) (m_gotLow : Nat) (m_gotHigh : Nat) (m_made : Nat) (m_oddsBy : Nat) (m_order : Nat) (m_bestOrder : Nat) (m_bestEnds : Nat) (m_stops : Nat) (m_bookDay : Nat) (m_bookWho : Nat) (m_bookWhere : Nat) (m_images : Nat) (m_isKept : Nat) (w0 : Int32) (w1 : Int32) (w2 : Int32) : Array Value → State → Outcome → State → Prop := vp_Si (fun r => r = (-1000000001))
set_option maxHeartbeats 2000000 in
set_option maxRecDepth 100000 in
theorem X10_let (l : Launch) (D : va_G) (k : Nat → ClassId) (y : Nat) (m_street : Nat) (m_beds : Nat) (m_light : Nat) (m_yes : Nat) (m_wage : Nat) (m_noiseOf : Nat) (m_matter : Nat) (m_counted : Nat) (m_dreams : Nat) (m_state : Nat) (m_decided : Nat) (m_slept : Nat) (m_sleptIn : Nat) (m_laid : Nat) (m_laidIn : Nat) (m_sizes : Nat) (m_text : Nat) (m_readStreet : Nat) (m_readBeds : Nat) (m_readLight : Nat) (m_readYes : Nat) (m_readWage : Nat) (m_readNoise : Nat) (m_readMatter : Nat) (m_busy : Nat) (m_taken : Nat) (m_canLow : Nat) (m_canHigh : Nat) (m_ends : Nat) (m_rowWho : Nat) (m_rowWhere : Nat) (m_gotLow : Nat) (m_gotHigh : Nat) (m_made : Nat) (m_oddsBy : Nat) (m_order : Nat) (m_bestOrder : Nat) (m_bestEnds : Nat) (m_stops : Nat) (m_bookDay : Nat) (m_bookWho : Nat) (m_bookWhere : Nat) (m_images : Nat) (m_isKept : Nat) (w0 : Int32) (w1 : Int32) (w2 : Int32)  : Met l yX10_let wsX10_let r_X10_let (va_Pc [.ref y, .int w0, .int w1, .int w2] (PS D k (c_X10_let k y m_street m_beds m_light m_yes m_wage m_noiseOf m_matter m_counted m_dreams m_state m_decided m_slept m_sleptIn m_laid m_laidIn m_sizes m_text m_readStreet m_readBeds m_readLight m_readYes m_readWage m_readNoise m_readMatter m_busy m_taken m_canLow m_canHigh m_ends m_rowWho m_rowWhere m_gotLow m_gotHigh m_made m_oddsBy m_order m_bestOrder m_bestEnds m_stops m_bookDay m_bookWho m_bookWhere m_images m_isKept w0 w1 w2))) (q_X10_let k y m_street m_beds m_light m_yes m_wage m_noiseOf m_matter m_counted m_dreams m_state m_decided m_slept m_sleptIn m_laid m_laidIn m_sizes m_text m_readStreet m_readBeds m_readLight m_readYes m_readWage m_readNoise m_readMatter m_busy m_taken m_canLow m_canHigh m_ends m_rowWho m_rowWhere m_gotLow m_gotHigh m_made m_oddsBy m_order m_bestOrder m_bestEnds m_stops m_bookDay m_bookWho m_bookWhere m_images m_isKept w0 w1 w2) 0 0 (fun _ => False) := by
  refine Met.ofW (cc := cX10_let) (maxL := 7) (ret := (some .int)) (by decide) rfl ?_
  intro p e s m args below meth c s₁ B hml hv
  obtain ⟨rfl, hP, hG⟩ := hv
  have hx := B.exec
  have hb := B.bytes
  have hr := B.returns
  have hts := atoms_spec (ws := wsX10_let) B.pre
  have hown : s.vm.findClass RX10 = some m.cls := findClass_of_methodNamed B.named
  have hlocks := B.notSynchronized
  have hi10 : ∀ w ∈ wsX100, w ∈ wsX10_let := fun _ h => List.mem_cons_of_mem _ (List.mem_append_right _ h)
  have hP : va_P D vwCl [(y, .inr (10, [.int 0, .ref m_street, .ref m_beds, .int 0, .ref m_light, .ref m_yes, .ref m_wage, .int 0, .ref m_noiseOf, .int 0, .ref m_matter, .int 0, .int 7, .int (-1), .int 1, .int 0, .int 0, .ref m_counted, .ref m_dreams, .ref m_state, .ref m_decided, .ref m_slept, .ref m_sleptIn, .ref m_laid, .ref m_laidIn, .int 0, .ref m_sizes, .ref m_text, .int 0, .int (-1), .int 0, .long 0, .int 0, .int 0, .int 0, .int 0, .ref m_readStreet, .ref m_readBeds, .int 0, .ref m_readLight, .ref m_readYes, .ref m_readWage, .int 0, .ref m_readNoise, .int 0, .ref m_readMatter, .int 0, .int 0, .int 0, .ref m_busy, .ref m_taken, .ref m_canLow, .ref m_canHigh, .ref m_ends, .ref m_rowWho, .ref m_rowWhere, .ref m_gotLow, .ref m_gotHigh, .ref m_made, .ref m_oddsBy, .int 0, .int 0, .int 0, .ref m_order, .ref m_bestOrder, .ref m_bestEnds, .ref m_stops, .int 0, .ref m_bookDay, .ref m_bookWho, .ref m_bookWhere, .ref m_images, .ref m_isKept]))] s.heap := hP
  have hl := lv_entry ([.ref y, .int w0, .int w1, .int w2]) (n := 7) (Nat.le_of_ble_eq_true rfl)
  rw [lg_entry_eq]
  generalize (lg_sl ([.ref y, .int w0, .int w1, .int w2]) ++ List.replicate (7 - (lg_sl ([.ref y, .int w0, .int w1, .int w2])).length) Slot.unset).toArray = ls at hl ⊢
  have hl : lv_has ls 7 [(0, .ref y), (1, .int w0), (2, .int w1), (3, .int w2)] := hl
  refine lv_aload_n hx hb dX10_let_0 rfl (lv_at hl 0 rfl) ?_
  refine lv_iload_n hx hb dX10_let_1 rfl (lv_at hl 1 rfl) ?_
  have hPc := hP.sub (ws' := (c_X10_isSleeper k y m_street m_beds m_light m_yes m_wage m_noiseOf m_matter m_counted m_dreams m_state m_decided m_slept m_sleptIn m_laid m_laidIn m_sizes m_text m_readStreet m_readBeds m_readLight m_readYes m_readWage m_readNoise m_readMatter m_busy m_taken m_canLow m_canHigh m_ends m_rowWho m_rowWhere m_gotLow m_gotHigh m_made m_oddsBy m_order m_bestOrder m_bestEnds m_stops m_bookDay m_bookWho m_bookWhere m_images m_isKept w0)) [0] rfl
  refine vp_callSi (va_Run.run (va_runV (As := [.int w0]) (rest := []) ⟨hx, hb, hml, hown, hts⟩ (X10_isSleeper l D k y m_street m_beds m_light m_yes m_wage m_noiseOf m_matter m_counted m_dreams m_state m_decided m_slept m_sleptIn m_laid m_laidIn m_sizes m_text m_readStreet m_readBeds m_readLight m_readYes m_readWage m_readNoise m_readMatter m_busy m_taken m_canLow m_canHigh m_ends m_rowWho m_rowWhere m_gotLow m_gotHigh m_made m_oddsBy m_order m_bestOrder m_bestEnds m_stops m_bookDay m_bookWho m_bookWhere m_images m_isKept w0 ) (cwV 1 hts gX10_let_X10_isSleeper rfl rfl rfl (by decide +kernel) ⟨Nat.le_of_ble_eq_true rfl, Nat.le_of_ble_eq_true rfl⟩) ⟨PS.blind _ _ _ _, va_recv hG.1 hP (ci := 10) (q0 := 0) rfl rfl, PS.pre hPc hG [.ref y, .int w0]⟩ rfl rfl hl.1 rfl (lv_room (Nat.le_of_ble_eq_true rfl)) dX10_let_2 ⟨Nat.le_of_ble_eq_true rfl, Nat.le_of_ble_eq_true rfl⟩)) (fun r hq => ?_)
  generalize r = y1 at hq ⊢
  have hq : y1 = 0 := hq
  refine tp_i (y := 0) (hq) ?_
  refine lv_if_ne (x := 0) (tgt := 12) hx hb dX10_let_5 (by decide) (fun c2 => absurd c2 (by decide)) (fun c2 => ?_)
  refine lv_ldcw (v := (-1000000001)) hx hb hown (hts (.constant RX10 321 (-1000000001)) (List.mem_cons_of_mem _ (List.mem_append_left _ (List.mem_append_left _ (List.mem_of_getElem? (i := 0) rfl))))) dX10_let_8 ?_
  exact W.iret (v := (-1000000001)) hx hb hr (fun t9 ht _ => ⟨(-1000000001), rfl, rfl, ht⟩) (fun q h => by cases h) dX10_let_11

abbrev c_X10_write (k : Nat → ClassId) (y : Nat) (m_street : Nat) (m_beds : Nat) (m_light : Nat) (m_yes : Nat) (m_wage : Nat) (m_noiseOf : Nat) (m_matter : Nat) (m_counted : Nat) (m_dreams : Nat) (m_state : Nat) (m_decided : Nat) (m_slept : Nat) (m_sleptIn : Nat) (m_laid : Nat) (m_laidIn : Nat) (m_sizes : Nat) (m_text : Nat) (m_readStreet : Nat) (m_readBeds : Nat) (m_readLight : Nat) (m_readYes : Nat) (m_readWage : Nat) (m_readNoise : Nat) (m_readMatter : Nat) (m_busy : Nat) (m_taken : Nat) (m_canLow : Nat) (m_canHigh : Nat) (m_ends : Nat) (m_rowWho : Nat) (m_rowWhere : Nat) (m_gotLow : Nat) (m_gotHigh : Nat) (m_made : Nat) (m_oddsBy : Nat) (m_order : Nat) (m_bestOrder : Nat) (m_bestEnds : Nat) (m_stops : Nat) (m_bookDay : Nat) (m_bookWho : Nat) (m_bookWhere : Nat) (m_images : Nat) (m_isKept : Nat) (w0 : Int32) (w1 : Int32) (w2 : Int32) : va_W := [(y, .inr (10, [.int 0, .ref m_street, .ref m_beds, .int 0, .ref m_light, .ref m_yes, .ref m_wage, .int 0, .ref m_noiseOf, .int 0, .ref m_matter, .int 0, .int 7, .int (-1), .int 1, .int 0, .int 0, .ref m_counted, .ref m_dreams, .ref m_state, .ref m_decided, .ref m_slept, .ref m_sleptIn, .ref m_laid, .ref m_laidIn, .int 0, .ref m_sizes, .ref m_text, .int 0, .int (-1), .int 0, .long 0, .int 0, .int 0, .int 0, .int 0, .ref m_readStreet, .ref m_readBeds, .int 0, .ref m_readLight, .ref m_readYes, .ref m_readWage, .int 0, .ref m_readNoise, .int 0, .ref m_readMatter, .int 0, .int 0, .int 0, .ref m_busy, .ref m_taken, .ref m_canLow, .ref m_canHigh, .ref m_ends, .ref m_rowWho, .ref m_rowWhere, .ref m_gotLow, .ref m_gotHigh, .ref m_made, .ref m_oddsBy, .int 0, .int 0, .int 0, .ref m_order, .ref m_bestOrder, .ref m_bestEnds, .ref m_stops, .int 0, .ref m_bookDay, .ref m_bookWho, .ref m_bookWhere, .ref m_images, .ref m_isKept]))]
abbrev r_X10_write : Room := { frames := 2, cells := 0, slots := 0, locals := 46 }
abbrev q_X10_write (k : Nat → ClassId) (y : Nat) (m_street : Nat) (m_beds : Nat) (m_light : Nat) (m_yes : Nat) (m_wage : Nat) (m_noiseOf : Nat) (m_matter : Nat) (m_counted : Nat) (m_dreams : Nat) (m_state : Nat) (m_decided : Nat) (m_slept : Nat) (m_sleptIn : Nat) (m_laid : Nat) (m_laidIn : Nat) (m_sizes : Nat) (m_text : Nat) (m_readStreet : Nat) (m_readBeds : Nat) (m_readLight : Nat) (m_readYes : Nat) (m_readWage : Nat) (m_readNoise : Nat) (m_readMatter : Nat) (m_busy : Nat) (m_taken : Nat) (m_canLow : Nat) (m_canHigh : Nat) (m_ends : Nat) (m_rowWho : Nat) (m_rowWhere : Nat) (m_gotLow : Nat) (m_gotHigh : Nat) (m_made : Nat) (m_oddsBy : Nat) (m_order : Nat) (m_bestOrder : Nat) (m_bestEnds : Nat) (m_stops : Nat) (m_bookDay : Nat) (m_bookWho : Nat) (m_bookWhere : Nat) (m_images : Nat) (m_isKept : Nat) (w0 : Int32) (w1 : Int32) (w2 : Int32) : Array Value → State → Outcome → State → Prop := vp_Si (fun r => r = (-1000000001))
set_option maxHeartbeats 2000000 in
set_option maxRecDepth 100000 in
theorem X10_write (l : Launch) (D : va_G) (k : Nat → ClassId) (y : Nat) (m_street : Nat) (m_beds : Nat) (m_light : Nat) (m_yes : Nat) (m_wage : Nat) (m_noiseOf : Nat) (m_matter : Nat) (m_counted : Nat) (m_dreams : Nat) (m_state : Nat) (m_decided : Nat) (m_slept : Nat) (m_sleptIn : Nat) (m_laid : Nat) (m_laidIn : Nat) (m_sizes : Nat) (m_text : Nat) (m_readStreet : Nat) (m_readBeds : Nat) (m_readLight : Nat) (m_readYes : Nat) (m_readWage : Nat) (m_readNoise : Nat) (m_readMatter : Nat) (m_busy : Nat) (m_taken : Nat) (m_canLow : Nat) (m_canHigh : Nat) (m_ends : Nat) (m_rowWho : Nat) (m_rowWhere : Nat) (m_gotLow : Nat) (m_gotHigh : Nat) (m_made : Nat) (m_oddsBy : Nat) (m_order : Nat) (m_bestOrder : Nat) (m_bestEnds : Nat) (m_stops : Nat) (m_bookDay : Nat) (m_bookWho : Nat) (m_bookWhere : Nat) (m_images : Nat) (m_isKept : Nat) (w0 : Int32) (w1 : Int32) (w2 : Int32)  : Met l yX10_write wsX10_write r_X10_write (va_Pc [.ref y, .int w0, .int w1, .int w2] (PS D k (c_X10_write k y m_street m_beds m_light m_yes m_wage m_noiseOf m_matter m_counted m_dreams m_state m_decided m_slept m_sleptIn m_laid m_laidIn m_sizes m_text m_readStreet m_readBeds m_readLight m_readYes m_readWage m_readNoise m_readMatter m_busy m_taken m_canLow m_canHigh m_ends m_rowWho m_rowWhere m_gotLow m_gotHigh m_made m_oddsBy m_order m_bestOrder m_bestEnds m_stops m_bookDay m_bookWho m_bookWhere m_images m_isKept w0 w1 w2))) (q_X10_write k y m_street m_beds m_light m_yes m_wage m_noiseOf m_matter m_counted m_dreams m_state m_decided m_slept m_sleptIn m_laid m_laidIn m_sizes m_text m_readStreet m_readBeds m_readLight m_readYes m_readWage m_readNoise m_readMatter m_busy m_taken m_canLow m_canHigh m_ends m_rowWho m_rowWhere m_gotLow m_gotHigh m_made m_oddsBy m_order m_bestOrder m_bestEnds m_stops m_bookDay m_bookWho m_bookWhere m_images m_isKept w0 w1 w2) 0 0 (fun _ => False) := by
  refine Met.ofW (cc := cX10_write) (maxL := 4) (ret := (some .int)) (by decide) rfl ?_
  intro p e s m args below meth c s₁ B hml hv
  obtain ⟨rfl, hP, hG⟩ := hv
  have hx := B.exec
  have hb := B.bytes
  have hr := B.returns
  have hts := atoms_spec (ws := wsX10_write) B.pre
  have hown : s.vm.findClass RX10 = some m.cls := findClass_of_methodNamed B.named
  have hlocks := B.notSynchronized
  have hi10 : ∀ w ∈ wsX100, w ∈ wsX10_write := fun _ h => List.mem_cons_of_mem _ (List.mem_append_right _ h)
  have hP : va_P D vwCl [(y, .inr (10, [.int 0, .ref m_street, .ref m_beds, .int 0, .ref m_light, .ref m_yes, .ref m_wage, .int 0, .ref m_noiseOf, .int 0, .ref m_matter, .int 0, .int 7, .int (-1), .int 1, .int 0, .int 0, .ref m_counted, .ref m_dreams, .ref m_state, .ref m_decided, .ref m_slept, .ref m_sleptIn, .ref m_laid, .ref m_laidIn, .int 0, .ref m_sizes, .ref m_text, .int 0, .int (-1), .int 0, .long 0, .int 0, .int 0, .int 0, .int 0, .ref m_readStreet, .ref m_readBeds, .int 0, .ref m_readLight, .ref m_readYes, .ref m_readWage, .int 0, .ref m_readNoise, .int 0, .ref m_readMatter, .int 0, .int 0, .int 0, .ref m_busy, .ref m_taken, .ref m_canLow, .ref m_canHigh, .ref m_ends, .ref m_rowWho, .ref m_rowWhere, .ref m_gotLow, .ref m_gotHigh, .ref m_made, .ref m_oddsBy, .int 0, .int 0, .int 0, .ref m_order, .ref m_bestOrder, .ref m_bestEnds, .ref m_stops, .int 0, .ref m_bookDay, .ref m_bookWho, .ref m_bookWhere, .ref m_images, .ref m_isKept]))] s.heap := hP
  have hl := lv_entry ([.ref y, .int w0, .int w1, .int w2]) (n := 4) (Nat.le_of_ble_eq_true rfl)
  rw [lg_entry_eq]
  generalize (lg_sl ([.ref y, .int w0, .int w1, .int w2]) ++ List.replicate (4 - (lg_sl ([.ref y, .int w0, .int w1, .int w2])).length) Slot.unset).toArray = ls at hl ⊢
  have hl : lv_has ls 4 [(0, .ref y), (1, .int w0), (2, .int w1), (3, .int w2)] := hl
  refine lv_aload_n hx hb dX10_write_0 rfl (lv_at hl 0 rfl) ?_
  refine lv_iload_n hx hb dX10_write_1 rfl (lv_at hl 2 rfl) ?_
  have hPc := hP.sub (ws' := (c_X10_isSleeper k y m_street m_beds m_light m_yes m_wage m_noiseOf m_matter m_counted m_dreams m_state m_decided m_slept m_sleptIn m_laid m_laidIn m_sizes m_text m_readStreet m_readBeds m_readLight m_readYes m_readWage m_readNoise m_readMatter m_busy m_taken m_canLow m_canHigh m_ends m_rowWho m_rowWhere m_gotLow m_gotHigh m_made m_oddsBy m_order m_bestOrder m_bestEnds m_stops m_bookDay m_bookWho m_bookWhere m_images m_isKept w1)) [0] rfl
  refine vp_callSi (va_Run.run (va_runV (As := [.int w1]) (rest := []) ⟨hx, hb, hml, hown, hts⟩ (X10_isSleeper l D k y m_street m_beds m_light m_yes m_wage m_noiseOf m_matter m_counted m_dreams m_state m_decided m_slept m_sleptIn m_laid m_laidIn m_sizes m_text m_readStreet m_readBeds m_readLight m_readYes m_readWage m_readNoise m_readMatter m_busy m_taken m_canLow m_canHigh m_ends m_rowWho m_rowWhere m_gotLow m_gotHigh m_made m_oddsBy m_order m_bestOrder m_bestEnds m_stops m_bookDay m_bookWho m_bookWhere m_images m_isKept w1 ) (cwV 1 hts gX10_write_X10_isSleeper rfl rfl rfl (by decide +kernel) ⟨Nat.le_of_ble_eq_true rfl, Nat.le_of_ble_eq_true rfl⟩) ⟨PS.blind _ _ _ _, va_recv hG.1 hP (ci := 10) (q0 := 0) rfl rfl, PS.pre hPc hG [.ref y, .int w1]⟩ rfl rfl hl.1 rfl (lv_room (Nat.le_of_ble_eq_true rfl)) dX10_write_2 ⟨Nat.le_of_ble_eq_true rfl, Nat.le_of_ble_eq_true rfl⟩)) (fun r hq => ?_)
  generalize r = y1 at hq ⊢
  have hq : y1 = 0 := hq
  refine tp_i (y := 0) (hq) ?_
  refine lv_if_eq (x := 0) (tgt := 16) hx hb dX10_write_5 (by decide) (fun c2 => ?_) (fun c2 => absurd c2 (by decide))
  refine lv_ldcw (v := (-1000000001)) hx hb hown (hts (.constant RX10 321 (-1000000001)) (List.mem_cons_of_mem _ (List.mem_append_left _ (List.mem_of_getElem? (i := 0) rfl)))) dX10_write_16 ?_
  exact W.iret (v := (-1000000001)) hx hb hr (fun t9 ht _ => ⟨(-1000000001), rfl, rfl, ht⟩) (fun q h => by cases h) dX10_write_19

abbrev c_X10_judge (k : Nat → ClassId) (y : Nat) (m_street : Nat) (m_beds : Nat) (m_light : Nat) (m_yes : Nat) (m_wage : Nat) (m_noiseOf : Nat) (m_matter : Nat) (m_counted : Nat) (m_dreams : Nat) (m_state : Nat) (m_decided : Nat) (m_slept : Nat) (m_sleptIn : Nat) (m_laid : Nat) (m_laidIn : Nat) (m_sizes : Nat) (m_text : Nat) (m_readStreet : Nat) (m_readBeds : Nat) (m_readLight : Nat) (m_readYes : Nat) (m_readWage : Nat) (m_readNoise : Nat) (m_readMatter : Nat) (m_busy : Nat) (m_taken : Nat) (m_canLow : Nat) (m_canHigh : Nat) (m_ends : Nat) (m_rowWho : Nat) (m_rowWhere : Nat) (m_gotLow : Nat) (m_gotHigh : Nat) (m_made : Nat) (m_oddsBy : Nat) (m_order : Nat) (m_bestOrder : Nat) (m_bestEnds : Nat) (m_stops : Nat) (m_bookDay : Nat) (m_bookWho : Nat) (m_bookWhere : Nat) (m_images : Nat) (m_isKept : Nat) (w0 : Int32) : va_W := [(y, .inr (10, [.int 0, .ref m_street, .ref m_beds, .int 0, .ref m_light, .ref m_yes, .ref m_wage, .int 0, .ref m_noiseOf, .int 0, .ref m_matter, .int 0, .int 7, .int (-1), .int 1, .int 0, .int 0, .ref m_counted, .ref m_dreams, .ref m_state, .ref m_decided, .ref m_slept, .ref m_sleptIn, .ref m_laid, .ref m_laidIn, .int 0, .ref m_sizes, .ref m_text, .int 0, .int (-1), .int 0, .long 0, .int 0, .int 0, .int 0, .int 0, .ref m_readStreet, .ref m_readBeds, .int 0, .ref m_readLight, .ref m_readYes, .ref m_readWage, .int 0, .ref m_readNoise, .int 0, .ref m_readMatter, .int 0, .int 0, .int 0, .ref m_busy, .ref m_taken, .ref m_canLow, .ref m_canHigh, .ref m_ends, .ref m_rowWho, .ref m_rowWhere, .ref m_gotLow, .ref m_gotHigh, .ref m_made, .ref m_oddsBy, .int 0, .int 0, .int 0, .ref m_order, .ref m_bestOrder, .ref m_bestEnds, .ref m_stops, .int 0, .ref m_bookDay, .ref m_bookWho, .ref m_bookWhere, .ref m_images, .ref m_isKept]))]
abbrev r_X10_judge : Room := { frames := 2, cells := 0, slots := 0, locals := 46 }
abbrev q_X10_judge (k : Nat → ClassId) (y : Nat) (m_street : Nat) (m_beds : Nat) (m_light : Nat) (m_yes : Nat) (m_wage : Nat) (m_noiseOf : Nat) (m_matter : Nat) (m_counted : Nat) (m_dreams : Nat) (m_state : Nat) (m_decided : Nat) (m_slept : Nat) (m_sleptIn : Nat) (m_laid : Nat) (m_laidIn : Nat) (m_sizes : Nat) (m_text : Nat) (m_readStreet : Nat) (m_readBeds : Nat) (m_readLight : Nat) (m_readYes : Nat) (m_readWage : Nat) (m_readNoise : Nat) (m_readMatter : Nat) (m_busy : Nat) (m_taken : Nat) (m_canLow : Nat) (m_canHigh : Nat) (m_ends : Nat) (m_rowWho : Nat) (m_rowWhere : Nat) (m_gotLow : Nat) (m_gotHigh : Nat) (m_made : Nat) (m_oddsBy : Nat) (m_order : Nat) (m_bestOrder : Nat) (m_bestEnds : Nat) (m_stops : Nat) (m_bookDay : Nat) (m_bookWho : Nat) (m_bookWhere : Nat) (m_images : Nat) (m_isKept : Nat) (w0 : Int32) : Array Value → State → Outcome → State → Prop := vp_Si (fun r => r = (-1000000001))
set_option maxHeartbeats 2000000 in
set_option maxRecDepth 100000 in
theorem X10_judge (l : Launch) (D : va_G) (k : Nat → ClassId) (y : Nat) (m_street : Nat) (m_beds : Nat) (m_light : Nat) (m_yes : Nat) (m_wage : Nat) (m_noiseOf : Nat) (m_matter : Nat) (m_counted : Nat) (m_dreams : Nat) (m_state : Nat) (m_decided : Nat) (m_slept : Nat) (m_sleptIn : Nat) (m_laid : Nat) (m_laidIn : Nat) (m_sizes : Nat) (m_text : Nat) (m_readStreet : Nat) (m_readBeds : Nat) (m_readLight : Nat) (m_readYes : Nat) (m_readWage : Nat) (m_readNoise : Nat) (m_readMatter : Nat) (m_busy : Nat) (m_taken : Nat) (m_canLow : Nat) (m_canHigh : Nat) (m_ends : Nat) (m_rowWho : Nat) (m_rowWhere : Nat) (m_gotLow : Nat) (m_gotHigh : Nat) (m_made : Nat) (m_oddsBy : Nat) (m_order : Nat) (m_bestOrder : Nat) (m_bestEnds : Nat) (m_stops : Nat) (m_bookDay : Nat) (m_bookWho : Nat) (m_bookWhere : Nat) (m_images : Nat) (m_isKept : Nat) (w0 : Int32)  : Met l yX10_judge wsX10_judge r_X10_judge (va_Pc [.ref y, .int w0] (PS D k (c_X10_judge k y m_street m_beds m_light m_yes m_wage m_noiseOf m_matter m_counted m_dreams m_state m_decided m_slept m_sleptIn m_laid m_laidIn m_sizes m_text m_readStreet m_readBeds m_readLight m_readYes m_readWage m_readNoise m_readMatter m_busy m_taken m_canLow m_canHigh m_ends m_rowWho m_rowWhere m_gotLow m_gotHigh m_made m_oddsBy m_order m_bestOrder m_bestEnds m_stops m_bookDay m_bookWho m_bookWhere m_images m_isKept w0))) (q_X10_judge k y m_street m_beds m_light m_yes m_wage m_noiseOf m_matter m_counted m_dreams m_state m_decided m_slept m_sleptIn m_laid m_laidIn m_sizes m_text m_readStreet m_readBeds m_readLight m_readYes m_readWage m_readNoise m_readMatter m_busy m_taken m_canLow m_canHigh m_ends m_rowWho m_rowWhere m_gotLow m_gotHigh m_made m_oddsBy m_order m_bestOrder m_bestEnds m_stops m_bookDay m_bookWho m_bookWhere m_images m_isKept w0) 0 0 (fun _ => False) := by
  refine Met.ofW (cc := cX10_judge) (maxL := 3) (ret := (some .int)) (by decide) rfl ?_
  intro p e s m args below meth c s₁ B hml hv
  obtain ⟨rfl, hP, hG⟩ := hv
  have hx := B.exec
  have hb := B.bytes
  have hr := B.returns
  have hts := atoms_spec (ws := wsX10_judge) B.pre
  have hown : s.vm.findClass RX10 = some m.cls := findClass_of_methodNamed B.named
  have hlocks := B.notSynchronized
  have hi10 : ∀ w ∈ wsX100, w ∈ wsX10_judge := fun _ h => List.mem_cons_of_mem _ (List.mem_append_right _ h)
  have hP : va_P D vwCl [(y, .inr (10, [.int 0, .ref m_street, .ref m_beds, .int 0, .ref m_light, .ref m_yes, .ref m_wage, .int 0, .ref m_noiseOf, .int 0, .ref m_matter, .int 0, .int 7, .int (-1), .int 1, .int 0, .int 0, .ref m_counted, .ref m_dreams, .ref m_state, .ref m_decided, .ref m_slept, .ref m_sleptIn, .ref m_laid, .ref m_laidIn, .int 0, .ref m_sizes, .ref m_text, .int 0, .int (-1), .int 0, .long 0, .int 0, .int 0, .int 0, .int 0, .ref m_readStreet, .ref m_readBeds, .int 0, .ref m_readLight, .ref m_readYes, .ref m_readWage, .int 0, .ref m_readNoise, .int 0, .ref m_readMatter, .int 0, .int 0, .int 0, .ref m_busy, .ref m_taken, .ref m_canLow, .ref m_canHigh, .ref m_ends, .ref m_rowWho, .ref m_rowWhere, .ref m_gotLow, .ref m_gotHigh, .ref m_made, .ref m_oddsBy, .int 0, .int 0, .int 0, .ref m_order, .ref m_bestOrder, .ref m_bestEnds, .ref m_stops, .int 0, .ref m_bookDay, .ref m_bookWho, .ref m_bookWhere, .ref m_images, .ref m_isKept]))] s.heap := hP
  have hl := lv_entry ([.ref y, .int w0]) (n := 3) (Nat.le_of_ble_eq_true rfl)
  rw [lg_entry_eq]
  generalize (lg_sl ([.ref y, .int w0]) ++ List.replicate (3 - (lg_sl ([.ref y, .int w0])).length) Slot.unset).toArray = ls at hl ⊢
  have hl : lv_has ls 3 [(0, .ref y), (1, .int w0)] := hl
  refine lv_aload_n hx hb dX10_judge_0 rfl (lv_at hl 0 rfl) ?_
  refine lv_iload_n hx hb dX10_judge_1 rfl (lv_at hl 1 rfl) ?_
  have hPc := hP.sub (ws' := (c_X10_isMatter k y m_street m_beds m_light m_yes m_wage m_noiseOf m_matter m_counted m_dreams m_state m_decided m_slept m_sleptIn m_laid m_laidIn m_sizes m_text m_readStreet m_readBeds m_readLight m_readYes m_readWage m_readNoise m_readMatter m_busy m_taken m_canLow m_canHigh m_ends m_rowWho m_rowWhere m_gotLow m_gotHigh m_made m_oddsBy m_order m_bestOrder m_bestEnds m_stops m_bookDay m_bookWho m_bookWhere m_images m_isKept w0)) [0] rfl
  refine vp_callSi (va_Run.run (va_runV (As := [.int w0]) (rest := []) ⟨hx, hb, hml, hown, hts⟩ (X10_isMatter l D k y m_street m_beds m_light m_yes m_wage m_noiseOf m_matter m_counted m_dreams m_state m_decided m_slept m_sleptIn m_laid m_laidIn m_sizes m_text m_readStreet m_readBeds m_readLight m_readYes m_readWage m_readNoise m_readMatter m_busy m_taken m_canLow m_canHigh m_ends m_rowWho m_rowWhere m_gotLow m_gotHigh m_made m_oddsBy m_order m_bestOrder m_bestEnds m_stops m_bookDay m_bookWho m_bookWhere m_images m_isKept w0 ) (cwV 1 hts gX10_judge_X10_isMatter rfl rfl rfl (by decide +kernel) ⟨Nat.le_of_ble_eq_true rfl, Nat.le_of_ble_eq_true rfl⟩) ⟨PS.blind _ _ _ _, va_recv hG.1 hP (ci := 10) (q0 := 0) rfl rfl, PS.pre hPc hG [.ref y, .int w0]⟩ rfl rfl hl.1 rfl (lv_room (Nat.le_of_ble_eq_true rfl)) dX10_judge_2 ⟨Nat.le_of_ble_eq_true rfl, Nat.le_of_ble_eq_true rfl⟩)) (fun r hq => ?_)
  generalize r = y1 at hq ⊢
  have hq : y1 = 0 := hq
  refine tp_i (y := 0) (hq) ?_
  refine lv_if_ne (x := 0) (tgt := 12) hx hb dX10_judge_5 (by decide) (fun c2 => absurd c2 (by decide)) (fun c2 => ?_)
  refine lv_ldcw (v := (-1000000001)) hx hb hown (hts (.constant RX10 321 (-1000000001)) (List.mem_cons_of_mem _ (List.mem_append_left _ (List.mem_append_left _ (List.mem_of_getElem? (i := 0) rfl))))) dX10_judge_8 ?_
  exact W.iret (v := (-1000000001)) hx hb hr (fun t9 ht _ => ⟨(-1000000001), rfl, rfl, ht⟩) (fun q h => by cases h) dX10_judge_11

abbrev c_X10_fault (k : Nat → ClassId) (y : Nat) (m_street : Nat) (m_beds : Nat) (m_light : Nat) (m_yes : Nat) (m_wage : Nat) (m_noiseOf : Nat) (m_matter : Nat) (m_counted : Nat) (m_dreams : Nat) (m_state : Nat) (m_decided : Nat) (m_slept : Nat) (m_sleptIn : Nat) (m_laid : Nat) (m_laidIn : Nat) (m_sizes : Nat) (m_text : Nat) (m_readStreet : Nat) (m_readBeds : Nat) (m_readLight : Nat) (m_readYes : Nat) (m_readWage : Nat) (m_readNoise : Nat) (m_readMatter : Nat) (m_busy : Nat) (m_taken : Nat) (m_canLow : Nat) (m_canHigh : Nat) (m_ends : Nat) (m_rowWho : Nat) (m_rowWhere : Nat) (m_gotLow : Nat) (m_gotHigh : Nat) (m_made : Nat) (m_oddsBy : Nat) (m_order : Nat) (m_bestOrder : Nat) (m_bestEnds : Nat) (m_stops : Nat) (m_bookDay : Nat) (m_bookWho : Nat) (m_bookWhere : Nat) (m_images : Nat) (m_isKept : Nat) : va_W := [(y, .inr (10, [.int 0, .ref m_street, .ref m_beds, .int 0, .ref m_light, .ref m_yes, .ref m_wage, .int 0, .ref m_noiseOf, .int 0, .ref m_matter, .int 0, .int 7, .int (-1), .int 1, .int 0, .int 0, .ref m_counted, .ref m_dreams, .ref m_state, .ref m_decided, .ref m_slept, .ref m_sleptIn, .ref m_laid, .ref m_laidIn, .int 0, .ref m_sizes, .ref m_text, .int 0, .int (-1), .int 0, .long 0, .int 0, .int 0, .int 0, .int 0, .ref m_readStreet, .ref m_readBeds, .int 0, .ref m_readLight, .ref m_readYes, .ref m_readWage, .int 0, .ref m_readNoise, .int 0, .ref m_readMatter, .int 0, .int 0, .int 0, .ref m_busy, .ref m_taken, .ref m_canLow, .ref m_canHigh, .ref m_ends, .ref m_rowWho, .ref m_rowWhere, .ref m_gotLow, .ref m_gotHigh, .ref m_made, .ref m_oddsBy, .int 0, .int 0, .int 0, .ref m_order, .ref m_bestOrder, .ref m_bestEnds, .ref m_stops, .int 0, .ref m_bookDay, .ref m_bookWho, .ref m_bookWhere, .ref m_images, .ref m_isKept]))]
abbrev r_X10_fault : Room := { frames := 0, cells := 0, slots := 0, locals := 0 }
abbrev q_X10_fault (k : Nat → ClassId) (y : Nat) (m_street : Nat) (m_beds : Nat) (m_light : Nat) (m_yes : Nat) (m_wage : Nat) (m_noiseOf : Nat) (m_matter : Nat) (m_counted : Nat) (m_dreams : Nat) (m_state : Nat) (m_decided : Nat) (m_slept : Nat) (m_sleptIn : Nat) (m_laid : Nat) (m_laidIn : Nat) (m_sizes : Nat) (m_text : Nat) (m_readStreet : Nat) (m_readBeds : Nat) (m_readLight : Nat) (m_readYes : Nat) (m_readWage : Nat) (m_readNoise : Nat) (m_readMatter : Nat) (m_busy : Nat) (m_taken : Nat) (m_canLow : Nat) (m_canHigh : Nat) (m_ends : Nat) (m_rowWho : Nat) (m_rowWhere : Nat) (m_gotLow : Nat) (m_gotHigh : Nat) (m_made : Nat) (m_oddsBy : Nat) (m_order : Nat) (m_bestOrder : Nat) (m_bestEnds : Nat) (m_stops : Nat) (m_bookDay : Nat) (m_bookWho : Nat) (m_bookWhere : Nat) (m_images : Nat) (m_isKept : Nat) : Array Value → State → Outcome → State → Prop := vp_Si (fun r => r = (-1))
set_option maxHeartbeats 2000000 in
set_option maxRecDepth 100000 in
theorem X10_fault (l : Launch) (D : va_G) (k : Nat → ClassId) (y : Nat) (m_street : Nat) (m_beds : Nat) (m_light : Nat) (m_yes : Nat) (m_wage : Nat) (m_noiseOf : Nat) (m_matter : Nat) (m_counted : Nat) (m_dreams : Nat) (m_state : Nat) (m_decided : Nat) (m_slept : Nat) (m_sleptIn : Nat) (m_laid : Nat) (m_laidIn : Nat) (m_sizes : Nat) (m_text : Nat) (m_readStreet : Nat) (m_readBeds : Nat) (m_readLight : Nat) (m_readYes : Nat) (m_readWage : Nat) (m_readNoise : Nat) (m_readMatter : Nat) (m_busy : Nat) (m_taken : Nat) (m_canLow : Nat) (m_canHigh : Nat) (m_ends : Nat) (m_rowWho : Nat) (m_rowWhere : Nat) (m_gotLow : Nat) (m_gotHigh : Nat) (m_made : Nat) (m_oddsBy : Nat) (m_order : Nat) (m_bestOrder : Nat) (m_bestEnds : Nat) (m_stops : Nat) (m_bookDay : Nat) (m_bookWho : Nat) (m_bookWhere : Nat) (m_images : Nat) (m_isKept : Nat)  : Met l yX10_fault wsX10_fault r_X10_fault (va_Pc [.ref y] (PS D k (c_X10_fault k y m_street m_beds m_light m_yes m_wage m_noiseOf m_matter m_counted m_dreams m_state m_decided m_slept m_sleptIn m_laid m_laidIn m_sizes m_text m_readStreet m_readBeds m_readLight m_readYes m_readWage m_readNoise m_readMatter m_busy m_taken m_canLow m_canHigh m_ends m_rowWho m_rowWhere m_gotLow m_gotHigh m_made m_oddsBy m_order m_bestOrder m_bestEnds m_stops m_bookDay m_bookWho m_bookWhere m_images m_isKept))) (q_X10_fault k y m_street m_beds m_light m_yes m_wage m_noiseOf m_matter m_counted m_dreams m_state m_decided m_slept m_sleptIn m_laid m_laidIn m_sizes m_text m_readStreet m_readBeds m_readLight m_readYes m_readWage m_readNoise m_readMatter m_busy m_taken m_canLow m_canHigh m_ends m_rowWho m_rowWhere m_gotLow m_gotHigh m_made m_oddsBy m_order m_bestOrder m_bestEnds m_stops m_bookDay m_bookWho m_bookWhere m_images m_isKept) 0 0 (fun _ => False) := by
  refine Met.ofW (cc := cX10_fault) (maxL := 1) (ret := (some .int)) (by decide) rfl ?_
  intro p e s m args below meth c s₁ B hml hv
  obtain ⟨rfl, hP, hG⟩ := hv
  have hx := B.exec
  have hb := B.bytes
  have hr := B.returns
  have hts := atoms_spec (ws := wsX10_fault) B.pre
  have hown : s.vm.findClass RX10 = some m.cls := findClass_of_methodNamed B.named
  have hlocks := B.notSynchronized
  have hi10 : ∀ w ∈ wsX100, w ∈ wsX10_fault := fun _ h => List.mem_cons_of_mem _ (List.mem_append_right _ h)
  have hP : va_P D vwCl [(y, .inr (10, [.int 0, .ref m_street, .ref m_beds, .int 0, .ref m_light, .ref m_yes, .ref m_wage, .int 0, .ref m_noiseOf, .int 0, .ref m_matter, .int 0, .int 7, .int (-1), .int 1, .int 0, .int 0, .ref m_counted, .ref m_dreams, .ref m_state, .ref m_decided, .ref m_slept, .ref m_sleptIn, .ref m_laid, .ref m_laidIn, .int 0, .ref m_sizes, .ref m_text, .int 0, .int (-1), .int 0, .long 0, .int 0, .int 0, .int 0, .int 0, .ref m_readStreet, .ref m_readBeds, .int 0, .ref m_readLight, .ref m_readYes, .ref m_readWage, .int 0, .ref m_readNoise, .int 0, .ref m_readMatter, .int 0, .int 0, .int 0, .ref m_busy, .ref m_taken, .ref m_canLow, .ref m_canHigh, .ref m_ends, .ref m_rowWho, .ref m_rowWhere, .ref m_gotLow, .ref m_gotHigh, .ref m_made, .ref m_oddsBy, .int 0, .int 0, .int 0, .ref m_order, .ref m_bestOrder, .ref m_bestEnds, .ref m_stops, .int 0, .ref m_bookDay, .ref m_bookWho, .ref m_bookWhere, .ref m_images, .ref m_isKept]))] s.heap := hP
  have hl := lv_entry ([.ref y]) (n := 1) (Nat.le_of_ble_eq_true rfl)
  rw [lg_entry_eq]
  generalize (lg_sl ([.ref y]) ++ List.replicate (1 - (lg_sl ([.ref y])).length) Slot.unset).toArray = ls at hl ⊢
  have hl : lv_has ls 1 [(0, .ref y)] := hl
  refine lv_aload_n hx hb dX10_fault_0 rfl (lv_at hl 0 rfl) ?_
  refine va_get (D := D) (ci := 10) (v := .int (-1)) (C := RX10) (T := TX10) (N := 73) hx hb hts hi10 hown hG.1 hP 0 rfl rfl 29 (by decide) (hts (.fieldLink RX10 72 "SleptMattersModel" "faultPlace" "I") (List.mem_cons_of_mem _ (List.mem_append_left _ (List.mem_of_getElem? (i := 0) rfl)))) (fun _ h9 => h9) rfl dX10_fault_1 ?_
  exact W.iret (v := (-1)) hx hb hr (fun t9 ht _ => ⟨(-1), rfl, rfl, ht⟩) (fun q h => by cases h) dX10_fault_4

abbrev c_X10_neededYes (k : Nat → ClassId) (y : Nat) (m_street : Nat) (m_beds : Nat) (m_light : Nat) (m_yes : Nat) (m_wage : Nat) (m_noiseOf : Nat) (m_matter : Nat) (m_counted : Nat) (m_dreams : Nat) (m_state : Nat) (m_decided : Nat) (m_slept : Nat) (m_sleptIn : Nat) (m_laid : Nat) (m_laidIn : Nat) (m_sizes : Nat) (m_text : Nat) (m_readStreet : Nat) (m_readBeds : Nat) (m_readLight : Nat) (m_readYes : Nat) (m_readWage : Nat) (m_readNoise : Nat) (m_readMatter : Nat) (m_busy : Nat) (m_taken : Nat) (m_canLow : Nat) (m_canHigh : Nat) (m_ends : Nat) (m_rowWho : Nat) (m_rowWhere : Nat) (m_gotLow : Nat) (m_gotHigh : Nat) (m_made : Nat) (m_oddsBy : Nat) (m_order : Nat) (m_bestOrder : Nat) (m_bestEnds : Nat) (m_stops : Nat) (m_bookDay : Nat) (m_bookWho : Nat) (m_bookWhere : Nat) (m_images : Nat) (m_isKept : Nat) : va_W := [(y, .inr (10, [.int 0, .ref m_street, .ref m_beds, .int 0, .ref m_light, .ref m_yes, .ref m_wage, .int 0, .ref m_noiseOf, .int 0, .ref m_matter, .int 0, .int 7, .int (-1), .int 1, .int 0, .int 0, .ref m_counted, .ref m_dreams, .ref m_state, .ref m_decided, .ref m_slept, .ref m_sleptIn, .ref m_laid, .ref m_laidIn, .int 0, .ref m_sizes, .ref m_text, .int 0, .int (-1), .int 0, .long 0, .int 0, .int 0, .int 0, .int 0, .ref m_readStreet, .ref m_readBeds, .int 0, .ref m_readLight, .ref m_readYes, .ref m_readWage, .int 0, .ref m_readNoise, .int 0, .ref m_readMatter, .int 0, .int 0, .int 0, .ref m_busy, .ref m_taken, .ref m_canLow, .ref m_canHigh, .ref m_ends, .ref m_rowWho, .ref m_rowWhere, .ref m_gotLow, .ref m_gotHigh, .ref m_made, .ref m_oddsBy, .int 0, .int 0, .int 0, .ref m_order, .ref m_bestOrder, .ref m_bestEnds, .ref m_stops, .int 0, .ref m_bookDay, .ref m_bookWho, .ref m_bookWhere, .ref m_images, .ref m_isKept]))]
abbrev r_X10_neededYes : Room := { frames := 0, cells := 0, slots := 0, locals := 0 }
abbrev q_X10_neededYes (k : Nat → ClassId) (y : Nat) (m_street : Nat) (m_beds : Nat) (m_light : Nat) (m_yes : Nat) (m_wage : Nat) (m_noiseOf : Nat) (m_matter : Nat) (m_counted : Nat) (m_dreams : Nat) (m_state : Nat) (m_decided : Nat) (m_slept : Nat) (m_sleptIn : Nat) (m_laid : Nat) (m_laidIn : Nat) (m_sizes : Nat) (m_text : Nat) (m_readStreet : Nat) (m_readBeds : Nat) (m_readLight : Nat) (m_readYes : Nat) (m_readWage : Nat) (m_readNoise : Nat) (m_readMatter : Nat) (m_busy : Nat) (m_taken : Nat) (m_canLow : Nat) (m_canHigh : Nat) (m_ends : Nat) (m_rowWho : Nat) (m_rowWhere : Nat) (m_gotLow : Nat) (m_gotHigh : Nat) (m_made : Nat) (m_oddsBy : Nat) (m_order : Nat) (m_bestOrder : Nat) (m_bestEnds : Nat) (m_stops : Nat) (m_bookDay : Nat) (m_bookWho : Nat) (m_bookWhere : Nat) (m_images : Nat) (m_isKept : Nat) : Array Value → State → Outcome → State → Prop := vp_Si (fun r => r = 4)
set_option maxHeartbeats 2000000 in
set_option maxRecDepth 100000 in
theorem X10_neededYes (l : Launch) (D : va_G) (k : Nat → ClassId) (y : Nat) (m_street : Nat) (m_beds : Nat) (m_light : Nat) (m_yes : Nat) (m_wage : Nat) (m_noiseOf : Nat) (m_matter : Nat) (m_counted : Nat) (m_dreams : Nat) (m_state : Nat) (m_decided : Nat) (m_slept : Nat) (m_sleptIn : Nat) (m_laid : Nat) (m_laidIn : Nat) (m_sizes : Nat) (m_text : Nat) (m_readStreet : Nat) (m_readBeds : Nat) (m_readLight : Nat) (m_readYes : Nat) (m_readWage : Nat) (m_readNoise : Nat) (m_readMatter : Nat) (m_busy : Nat) (m_taken : Nat) (m_canLow : Nat) (m_canHigh : Nat) (m_ends : Nat) (m_rowWho : Nat) (m_rowWhere : Nat) (m_gotLow : Nat) (m_gotHigh : Nat) (m_made : Nat) (m_oddsBy : Nat) (m_order : Nat) (m_bestOrder : Nat) (m_bestEnds : Nat) (m_stops : Nat) (m_bookDay : Nat) (m_bookWho : Nat) (m_bookWhere : Nat) (m_images : Nat) (m_isKept : Nat)  : Met l yX10_neededYes wsX10_neededYes r_X10_neededYes (va_Pc [.ref y] (PS D k (c_X10_neededYes k y m_street m_beds m_light m_yes m_wage m_noiseOf m_matter m_counted m_dreams m_state m_decided m_slept m_sleptIn m_laid m_laidIn m_sizes m_text m_readStreet m_readBeds m_readLight m_readYes m_readWage m_readNoise m_readMatter m_busy m_taken m_canLow m_canHigh m_ends m_rowWho m_rowWhere m_gotLow m_gotHigh m_made m_oddsBy m_order m_bestOrder m_bestEnds m_stops m_bookDay m_bookWho m_bookWhere m_images m_isKept))) (q_X10_neededYes k y m_street m_beds m_light m_yes m_wage m_noiseOf m_matter m_counted m_dreams m_state m_decided m_slept m_sleptIn m_laid m_laidIn m_sizes m_text m_readStreet m_readBeds m_readLight m_readYes m_readWage m_readNoise m_readMatter m_busy m_taken m_canLow m_canHigh m_ends m_rowWho m_rowWhere m_gotLow m_gotHigh m_made m_oddsBy m_order m_bestOrder m_bestEnds m_stops m_bookDay m_bookWho m_bookWhere m_images m_isKept) 0 0 (fun _ => False) := by
  refine Met.ofW (cc := cX10_neededYes) (maxL := 1) (ret := (some .int)) (by decide) rfl ?_
  intro p e s m args below meth c s₁ B hml hv
  obtain ⟨rfl, hP, hG⟩ := hv
  have hx := B.exec
  have hb := B.bytes
  have hr := B.returns
  have hts := atoms_spec (ws := wsX10_neededYes) B.pre
  have hown : s.vm.findClass RX10 = some m.cls := findClass_of_methodNamed B.named
  have hlocks := B.notSynchronized
  have hi10 : ∀ w ∈ wsX100, w ∈ wsX10_neededYes := fun _ h => List.mem_cons_of_mem _ (List.mem_append_right _ h)
  have hP : va_P D vwCl [(y, .inr (10, [.int 0, .ref m_street, .ref m_beds, .int 0, .ref m_light, .ref m_yes, .ref m_wage, .int 0, .ref m_noiseOf, .int 0, .ref m_matter, .int 0, .int 7, .int (-1), .int 1, .int 0, .int 0, .ref m_counted, .ref m_dreams, .ref m_state, .ref m_decided, .ref m_slept, .ref m_sleptIn, .ref m_laid, .ref m_laidIn, .int 0, .ref m_sizes, .ref m_text, .int 0, .int (-1), .int 0, .long 0, .int 0, .int 0, .int 0, .int 0, .ref m_readStreet, .ref m_readBeds, .int 0, .ref m_readLight, .ref m_readYes, .ref m_readWage, .int 0, .ref m_readNoise, .int 0, .ref m_readMatter, .int 0, .int 0, .int 0, .ref m_busy, .ref m_taken, .ref m_canLow, .ref m_canHigh, .ref m_ends, .ref m_rowWho, .ref m_rowWhere, .ref m_gotLow, .ref m_gotHigh, .ref m_made, .ref m_oddsBy, .int 0, .int 0, .int 0, .ref m_order, .ref m_bestOrder, .ref m_bestEnds, .ref m_stops, .int 0, .ref m_bookDay, .ref m_bookWho, .ref m_bookWhere, .ref m_images, .ref m_isKept]))] s.heap := hP
  have hl := lv_entry ([.ref y]) (n := 1) (Nat.le_of_ble_eq_true rfl)
  rw [lg_entry_eq]
  generalize (lg_sl ([.ref y]) ++ List.replicate (1 - (lg_sl ([.ref y])).length) Slot.unset).toArray = ls at hl ⊢
  have hl : lv_has ls 1 [(0, .ref y)] := hl
  refine lv_aload_n hx hb dX10_neededYes_0 rfl (lv_at hl 0 rfl) ?_
  refine va_get (D := D) (ci := 10) (v := .int (-1)) (C := RX10) (T := TX10) (N := 73) hx hb hts hi10 hown hG.1 hP 0 rfl rfl 13 (by decide) (hts (.fieldLink RX10 35 "SleptMattersModel" "yesTold" "I") (List.mem_cons_of_mem _ (List.mem_append_left _ (List.mem_of_getElem? (i := 0) rfl)))) (fun _ h9 => h9) rfl dX10_neededYes_1 ?_
  refine lv_if_ge (x := (-1)) (tgt := 18) hx hb dX10_neededYes_4 (by decide) (fun c1 => absurd c1 (by decide)) (fun c1 => ?_)
  refine lv_aload_n hx hb dX10_neededYes_7 rfl (lv_at hl 0 rfl) ?_
  refine va_get (D := D) (ci := 10) (v := .int 7) (C := RX10) (T := TX10) (N := 73) hx hb hts hi10 hown hG.1 hP 0 rfl rfl 12 (by decide) (hts (.fieldLink RX10 31 "SleptMattersModel" "nightsTold" "I") (List.mem_cons_of_mem _ (List.mem_append_left _ (List.mem_of_getElem? (i := 1) rfl)))) (fun _ h9 => h9) rfl dX10_neededYes_8 ?_
  refine lv_iconst (v := 2) hx hb dX10_neededYes_11 (by decide) ?_
  refine lv_idiv hx hb dX10_neededYes_12 (by decide) ?_
  refine tp_i (y := 3) (by decide) ?_
  refine lv_iconst (v := 1) hx hb dX10_neededYes_13 (by decide) ?_
  refine lv_iadd hx hb dX10_neededYes_14 ?_
  refine tp_i (y := 4) (by decide) ?_
  refine lv_goto (tgt := 22) hx hb dX10_neededYes_15 (by decide) ?_
  exact W.iret (v := 4) hx hb hr (fun t9 ht _ => ⟨4, rfl, rfl, ht⟩) (fun q h => by cases h) dX10_neededYes_22

abbrev c_X10_scoreNow (k : Nat → ClassId) (y : Nat) (m_street : Nat) (m_beds : Nat) (m_light : Nat) (m_yes : Nat) (m_wage : Nat) (m_noiseOf : Nat) (m_matter : Nat) (m_counted : Nat) (m_dreams : Nat) (m_state : Nat) (m_decided : Nat) (m_slept : Nat) (m_sleptIn : Nat) (m_laid : Nat) (m_laidIn : Nat) (m_sizes : Nat) (m_text : Nat) (m_readStreet : Nat) (m_readBeds : Nat) (m_readLight : Nat) (m_readYes : Nat) (m_readWage : Nat) (m_readNoise : Nat) (m_readMatter : Nat) (m_busy : Nat) (m_taken : Nat) (m_canLow : Nat) (m_canHigh : Nat) (m_ends : Nat) (m_rowWho : Nat) (m_rowWhere : Nat) (m_gotLow : Nat) (m_gotHigh : Nat) (m_made : Nat) (m_oddsBy : Nat) (m_order : Nat) (m_bestOrder : Nat) (m_bestEnds : Nat) (m_stops : Nat) (m_bookDay : Nat) (m_bookWho : Nat) (m_bookWhere : Nat) (m_images : Nat) (m_isKept : Nat) : va_W := [(y, .inr (10, [.int 0, .ref m_street, .ref m_beds, .int 0, .ref m_light, .ref m_yes, .ref m_wage, .int 0, .ref m_noiseOf, .int 0, .ref m_matter, .int 0, .int 7, .int (-1), .int 1, .int 0, .int 0, .ref m_counted, .ref m_dreams, .ref m_state, .ref m_decided, .ref m_slept, .ref m_sleptIn, .ref m_laid, .ref m_laidIn, .int 0, .ref m_sizes, .ref m_text, .int 0, .int (-1), .int 0, .long 0, .int 0, .int 0, .int 0, .int 0, .ref m_readStreet, .ref m_readBeds, .int 0, .ref m_readLight, .ref m_readYes, .ref m_readWage, .int 0, .ref m_readNoise, .int 0, .ref m_readMatter, .int 0, .int 0, .int 0, .ref m_busy, .ref m_taken, .ref m_canLow, .ref m_canHigh, .ref m_ends, .ref m_rowWho, .ref m_rowWhere, .ref m_gotLow, .ref m_gotHigh, .ref m_made, .ref m_oddsBy, .int 0, .int 0, .int 0, .ref m_order, .ref m_bestOrder, .ref m_bestEnds, .ref m_stops, .int 0, .ref m_bookDay, .ref m_bookWho, .ref m_bookWhere, .ref m_images, .ref m_isKept]))]
abbrev r_X10_scoreNow : Room := { frames := 0, cells := 0, slots := 0, locals := 0 }
abbrev q_X10_scoreNow (k : Nat → ClassId) (y : Nat) (m_street : Nat) (m_beds : Nat) (m_light : Nat) (m_yes : Nat) (m_wage : Nat) (m_noiseOf : Nat) (m_matter : Nat) (m_counted : Nat) (m_dreams : Nat) (m_state : Nat) (m_decided : Nat) (m_slept : Nat) (m_sleptIn : Nat) (m_laid : Nat) (m_laidIn : Nat) (m_sizes : Nat) (m_text : Nat) (m_readStreet : Nat) (m_readBeds : Nat) (m_readLight : Nat) (m_readYes : Nat) (m_readWage : Nat) (m_readNoise : Nat) (m_readMatter : Nat) (m_busy : Nat) (m_taken : Nat) (m_canLow : Nat) (m_canHigh : Nat) (m_ends : Nat) (m_rowWho : Nat) (m_rowWhere : Nat) (m_gotLow : Nat) (m_gotHigh : Nat) (m_made : Nat) (m_oddsBy : Nat) (m_order : Nat) (m_bestOrder : Nat) (m_bestEnds : Nat) (m_stops : Nat) (m_bookDay : Nat) (m_bookWho : Nat) (m_bookWhere : Nat) (m_images : Nat) (m_isKept : Nat) : Array Value → State → Outcome → State → Prop := vp_Si (fun r => r = 0)
set_option maxHeartbeats 2000000 in
set_option maxRecDepth 100000 in
theorem X10_scoreNow (l : Launch) (D : va_G) (k : Nat → ClassId) (y : Nat) (m_street : Nat) (m_beds : Nat) (m_light : Nat) (m_yes : Nat) (m_wage : Nat) (m_noiseOf : Nat) (m_matter : Nat) (m_counted : Nat) (m_dreams : Nat) (m_state : Nat) (m_decided : Nat) (m_slept : Nat) (m_sleptIn : Nat) (m_laid : Nat) (m_laidIn : Nat) (m_sizes : Nat) (m_text : Nat) (m_readStreet : Nat) (m_readBeds : Nat) (m_readLight : Nat) (m_readYes : Nat) (m_readWage : Nat) (m_readNoise : Nat) (m_readMatter : Nat) (m_busy : Nat) (m_taken : Nat) (m_canLow : Nat) (m_canHigh : Nat) (m_ends : Nat) (m_rowWho : Nat) (m_rowWhere : Nat) (m_gotLow : Nat) (m_gotHigh : Nat) (m_made : Nat) (m_oddsBy : Nat) (m_order : Nat) (m_bestOrder : Nat) (m_bestEnds : Nat) (m_stops : Nat) (m_bookDay : Nat) (m_bookWho : Nat) (m_bookWhere : Nat) (m_images : Nat) (m_isKept : Nat)  : Met l yX10_scoreNow wsX10_scoreNow r_X10_scoreNow (va_Pc [.ref y] (PS D k (c_X10_scoreNow k y m_street m_beds m_light m_yes m_wage m_noiseOf m_matter m_counted m_dreams m_state m_decided m_slept m_sleptIn m_laid m_laidIn m_sizes m_text m_readStreet m_readBeds m_readLight m_readYes m_readWage m_readNoise m_readMatter m_busy m_taken m_canLow m_canHigh m_ends m_rowWho m_rowWhere m_gotLow m_gotHigh m_made m_oddsBy m_order m_bestOrder m_bestEnds m_stops m_bookDay m_bookWho m_bookWhere m_images m_isKept))) (q_X10_scoreNow k y m_street m_beds m_light m_yes m_wage m_noiseOf m_matter m_counted m_dreams m_state m_decided m_slept m_sleptIn m_laid m_laidIn m_sizes m_text m_readStreet m_readBeds m_readLight m_readYes m_readWage m_readNoise m_readMatter m_busy m_taken m_canLow m_canHigh m_ends m_rowWho m_rowWhere m_gotLow m_gotHigh m_made m_oddsBy m_order m_bestOrder m_bestEnds m_stops m_bookDay m_bookWho m_bookWhere m_images m_isKept) 0 0 (fun _ => False) := by
  refine Met.ofW (cc := cX10_scoreNow) (maxL := 5) (ret := (some .int)) (by decide) rfl ?_
  intro p e s m args below meth c s₁ B hml hv
  obtain ⟨rfl, hP, hG⟩ := hv
  have hx := B.exec
  have hb := B.bytes
  have hr := B.returns
  have hts := atoms_spec (ws := wsX10_scoreNow) B.pre
  have hown : s.vm.findClass RX10 = some m.cls := findClass_of_methodNamed B.named
  have hlocks := B.notSynchronized
  have hi10 : ∀ w ∈ wsX100, w ∈ wsX10_scoreNow := fun _ h => List.mem_cons_of_mem _ (List.mem_append_right _ h)
  have hP : va_P D vwCl [(y, .inr (10, [.int 0, .ref m_street, .ref m_beds, .int 0, .ref m_light, .ref m_yes, .ref m_wage, .int 0, .ref m_noiseOf, .int 0, .ref m_matter, .int 0, .int 7, .int (-1), .int 1, .int 0, .int 0, .ref m_counted, .ref m_dreams, .ref m_state, .ref m_decided, .ref m_slept, .ref m_sleptIn, .ref m_laid, .ref m_laidIn, .int 0, .ref m_sizes, .ref m_text, .int 0, .int (-1), .int 0, .long 0, .int 0, .int 0, .int 0, .int 0, .ref m_readStreet, .ref m_readBeds, .int 0, .ref m_readLight, .ref m_readYes, .ref m_readWage, .int 0, .ref m_readNoise, .int 0, .ref m_readMatter, .int 0, .int 0, .int 0, .ref m_busy, .ref m_taken, .ref m_canLow, .ref m_canHigh, .ref m_ends, .ref m_rowWho, .ref m_rowWhere, .ref m_gotLow, .ref m_gotHigh, .ref m_made, .ref m_oddsBy, .int 0, .int 0, .int 0, .ref m_order, .ref m_bestOrder, .ref m_bestEnds, .ref m_stops, .int 0, .ref m_bookDay, .ref m_bookWho, .ref m_bookWhere, .ref m_images, .ref m_isKept]))] s.heap := hP
  have hl := lv_entry ([.ref y]) (n := 5) (Nat.le_of_ble_eq_true rfl)
  rw [lg_entry_eq]
  generalize (lg_sl ([.ref y]) ++ List.replicate (5 - (lg_sl ([.ref y])).length) Slot.unset).toArray = ls at hl ⊢
  have hl : lv_has ls 5 [(0, .ref y)] := hl
  refine lv_aload_n hx hb dX10_scoreNow_0 rfl (lv_at hl 0 rfl) ?_
  refine va_get (D := D) (ci := 10) (v := .int 0) (C := RX10) (T := TX10) (N := 73) hx hb hts hi10 hown hG.1 hP 0 rfl rfl 16 (by decide) (hts (.fieldLink RX10 181 "SleptMattersModel" "wages" "I") (List.mem_cons_of_mem _ (List.mem_append_left _ (List.mem_of_getElem? (i := 0) rfl)))) (fun _ h9 => h9) rfl dX10_scoreNow_1 ?_
  refine lv_ineg hx hb dX10_scoreNow_4 ?_
  refine tp_i (y := 0) (by decide) ?_
  refine lv_istore_n (lv' := [(1, .int 0), (0, .ref y)]) hx hb dX10_scoreNow_5 rfl hl (by decide) rfl (fun ls hl => ?_)
  refine lv_iconst (v := 0) hx hb dX10_scoreNow_6 (by decide) ?_
  refine lv_istore_n (lv' := [(2, .int 0), (1, .int 0), (0, .ref y)]) hx hb dX10_scoreNow_7 rfl hl (by decide) rfl (fun ls hl => ?_)
  refine lv_iload_n hx hb dX10_scoreNow_8 rfl (lv_at hl 0 rfl) ?_
  refine lv_aload_n hx hb dX10_scoreNow_9 rfl (lv_at hl 2 rfl) ?_
  refine va_get (D := D) (ci := 10) (v := .int 0) (C := RX10) (T := TX10) (N := 73) hx hb hts hi10 hown hG.1 hP 0 rfl rfl 9 (by decide) (hts (.fieldLink RX10 175 "SleptMattersModel" "matters" "I") (List.mem_cons_of_mem _ (List.mem_append_left _ (List.mem_of_getElem? (i := 1) rfl)))) (fun _ h9 => h9) rfl dX10_scoreNow_10 ?_
  refine lv_icmp_ge (x := 0) (y := 0) (tgt := 133) hx hb dX10_scoreNow_13 (by decide) (fun c1 => ?_) (fun c1 => absurd c1 (by decide))
  refine lv_iload_n hx hb dX10_scoreNow_133 rfl (lv_at hl 1 rfl) ?_
  exact W.iret (v := 0) hx hb hr (fun t9 ht _ => ⟨0, rfl, rfl, ht⟩) (fun q h => by cases h) dX10_scoreNow_134

abbrev c_X10_told (k : Nat → ClassId) (y : Nat) (m_street : Nat) (m_beds : Nat) (m_light : Nat) (m_yes : Nat) (m_wage : Nat) (m_noiseOf : Nat) (m_matter : Nat) (m_counted : Nat) (m_dreams : Nat) (m_state : Nat) (m_decided : Nat) (m_slept : Nat) (m_sleptIn : Nat) (m_laid : Nat) (m_laidIn : Nat) (m_sizes : Nat) (m_text : Nat) (m_readStreet : Nat) (m_readBeds : Nat) (m_readLight : Nat) (m_readYes : Nat) (m_readWage : Nat) (m_readNoise : Nat) (m_readMatter : Nat) (m_busy : Nat) (m_taken : Nat) (m_canLow : Nat) (m_canHigh : Nat) (m_ends : Nat) (m_rowWho : Nat) (m_rowWhere : Nat) (m_gotLow : Nat) (m_gotHigh : Nat) (m_made : Nat) (m_oddsBy : Nat) (m_order : Nat) (m_bestOrder : Nat) (m_bestEnds : Nat) (m_stops : Nat) (m_bookDay : Nat) (m_bookWho : Nat) (m_bookWhere : Nat) (m_images : Nat) (m_isKept : Nat) (w : Int32) : va_W := [(y, .inr (10, [.int 0, .ref m_street, .ref m_beds, .int 0, .ref m_light, .ref m_yes, .ref m_wage, .int 0, .ref m_noiseOf, .int 0, .ref m_matter, .int 0, .int 7, .int (-1), .int 1, .int 0, .int 0, .ref m_counted, .ref m_dreams, .ref m_state, .ref m_decided, .ref m_slept, .ref m_sleptIn, .ref m_laid, .ref m_laidIn, .int 0, .ref m_sizes, .ref m_text, .int 0, .int (-1), .int 0, .long 0, .int 0, .int 0, .int 0, .int 0, .ref m_readStreet, .ref m_readBeds, .int 0, .ref m_readLight, .ref m_readYes, .ref m_readWage, .int 0, .ref m_readNoise, .int 0, .ref m_readMatter, .int 0, .int 0, .int 0, .ref m_busy, .ref m_taken, .ref m_canLow, .ref m_canHigh, .ref m_ends, .ref m_rowWho, .ref m_rowWhere, .ref m_gotLow, .ref m_gotHigh, .ref m_made, .ref m_oddsBy, .int 0, .int 0, .int 0, .ref m_order, .ref m_bestOrder, .ref m_bestEnds, .ref m_stops, .int 0, .ref m_bookDay, .ref m_bookWho, .ref m_bookWhere, .ref m_images, .ref m_isKept]))]
abbrev r_X10_told : Room := { frames := 1, cells := 0, slots := 0, locals := 24 }
abbrev q_X10_told (k : Nat → ClassId) (y : Nat) (m_street : Nat) (m_beds : Nat) (m_light : Nat) (m_yes : Nat) (m_wage : Nat) (m_noiseOf : Nat) (m_matter : Nat) (m_counted : Nat) (m_dreams : Nat) (m_state : Nat) (m_decided : Nat) (m_slept : Nat) (m_sleptIn : Nat) (m_laid : Nat) (m_laidIn : Nat) (m_sizes : Nat) (m_text : Nat) (m_readStreet : Nat) (m_readBeds : Nat) (m_readLight : Nat) (m_readYes : Nat) (m_readWage : Nat) (m_readNoise : Nat) (m_readMatter : Nat) (m_busy : Nat) (m_taken : Nat) (m_canLow : Nat) (m_canHigh : Nat) (m_ends : Nat) (m_rowWho : Nat) (m_rowWhere : Nat) (m_gotLow : Nat) (m_gotHigh : Nat) (m_made : Nat) (m_oddsBy : Nat) (m_order : Nat) (m_bestOrder : Nat) (m_bestEnds : Nat) (m_stops : Nat) (m_bookDay : Nat) (m_bookWho : Nat) (m_bookWhere : Nat) (m_images : Nat) (m_isKept : Nat) (w : Int32) : Array Value → State → Outcome → State → Prop := vp_Si (fun r => r = toA w)
set_option maxHeartbeats 2000000 in
set_option maxRecDepth 100000 in
theorem X10_told (l : Launch) (D : va_G) (k : Nat → ClassId) (y : Nat) (m_street : Nat) (m_beds : Nat) (m_light : Nat) (m_yes : Nat) (m_wage : Nat) (m_noiseOf : Nat) (m_matter : Nat) (m_counted : Nat) (m_dreams : Nat) (m_state : Nat) (m_decided : Nat) (m_slept : Nat) (m_sleptIn : Nat) (m_laid : Nat) (m_laidIn : Nat) (m_sizes : Nat) (m_text : Nat) (m_readStreet : Nat) (m_readBeds : Nat) (m_readLight : Nat) (m_readYes : Nat) (m_readWage : Nat) (m_readNoise : Nat) (m_readMatter : Nat) (m_busy : Nat) (m_taken : Nat) (m_canLow : Nat) (m_canHigh : Nat) (m_ends : Nat) (m_rowWho : Nat) (m_rowWhere : Nat) (m_gotLow : Nat) (m_gotHigh : Nat) (m_made : Nat) (m_oddsBy : Nat) (m_order : Nat) (m_bestOrder : Nat) (m_bestEnds : Nat) (m_stops : Nat) (m_bookDay : Nat) (m_bookWho : Nat) (m_bookWhere : Nat) (m_images : Nat) (m_isKept : Nat) (w : Int32)  : Met l yX10_told wsX10_told r_X10_told (va_Pc [.ref y, .int w] (PS D k (c_X10_told k y m_street m_beds m_light m_yes m_wage m_noiseOf m_matter m_counted m_dreams m_state m_decided m_slept m_sleptIn m_laid m_laidIn m_sizes m_text m_readStreet m_readBeds m_readLight m_readYes m_readWage m_readNoise m_readMatter m_busy m_taken m_canLow m_canHigh m_ends m_rowWho m_rowWhere m_gotLow m_gotHigh m_made m_oddsBy m_order m_bestOrder m_bestEnds m_stops m_bookDay m_bookWho m_bookWhere m_images m_isKept w))) (q_X10_told k y m_street m_beds m_light m_yes m_wage m_noiseOf m_matter m_counted m_dreams m_state m_decided m_slept m_sleptIn m_laid m_laidIn m_sizes m_text m_readStreet m_readBeds m_readLight m_readYes m_readWage m_readNoise m_readMatter m_busy m_taken m_canLow m_canHigh m_ends m_rowWho m_rowWhere m_gotLow m_gotHigh m_made m_oddsBy m_order m_bestOrder m_bestEnds m_stops m_bookDay m_bookWho m_bookWhere m_images m_isKept w) 0 0 (fun _ => False) := by
  refine Met.ofW (cc := cX10_told) (maxL := 2) (ret := (some .int)) (by decide) rfl ?_
  intro p e s m args below meth c s₁ B hml hv
  obtain ⟨rfl, hP, hG⟩ := hv
  have hx := B.exec
  have hb := B.bytes
  have hr := B.returns
  have hts := atoms_spec (ws := wsX10_told) B.pre
  have hown : s.vm.findClass RX10 = some m.cls := findClass_of_methodNamed B.named
  have hlocks := B.notSynchronized
  have hi10 : ∀ w ∈ wsX100, w ∈ wsX10_told := fun _ h => List.mem_cons_of_mem _ (List.mem_append_right _ h)
  have hP : va_P D vwCl [(y, .inr (10, [.int 0, .ref m_street, .ref m_beds, .int 0, .ref m_light, .ref m_yes, .ref m_wage, .int 0, .ref m_noiseOf, .int 0, .ref m_matter, .int 0, .int 7, .int (-1), .int 1, .int 0, .int 0, .ref m_counted, .ref m_dreams, .ref m_state, .ref m_decided, .ref m_slept, .ref m_sleptIn, .ref m_laid, .ref m_laidIn, .int 0, .ref m_sizes, .ref m_text, .int 0, .int (-1), .int 0, .long 0, .int 0, .int 0, .int 0, .int 0, .ref m_readStreet, .ref m_readBeds, .int 0, .ref m_readLight, .ref m_readYes, .ref m_readWage, .int 0, .ref m_readNoise, .int 0, .ref m_readMatter, .int 0, .int 0, .int 0, .ref m_busy, .ref m_taken, .ref m_canLow, .ref m_canHigh, .ref m_ends, .ref m_rowWho, .ref m_rowWhere, .ref m_gotLow, .ref m_gotHigh, .ref m_made, .ref m_oddsBy, .int 0, .int 0, .int 0, .ref m_order, .ref m_bestOrder, .ref m_bestEnds, .ref m_stops, .int 0, .ref m_bookDay, .ref m_bookWho, .ref m_bookWhere, .ref m_images, .ref m_isKept]))] s.heap := hP
  have hl := lv_entry ([.ref y, .int w]) (n := 2) (Nat.le_of_ble_eq_true rfl)
  rw [lg_entry_eq]
  generalize (lg_sl ([.ref y, .int w]) ++ List.replicate (2 - (lg_sl ([.ref y, .int w])).length) Slot.unset).toArray = ls at hl ⊢
  have hl : lv_has ls 2 [(0, .ref y), (1, .int w)] := hl
  refine lv_iload_n hx hb dX10_told_0 rfl (lv_at hl 1 rfl) ?_
  by_cases ho : w.toInt < 0 ∨ 10 < w.toInt
  · skip
    refine lv_tableOut (tgt := 123) hx hb dX10_told_1 ho (by decide) ?_
    refine lv_ldc (v := (-1000000002)) hx hb hown (hts (.constant RX10 186 (-1000000002)) (List.mem_cons_of_mem _ (List.mem_append_left _ (List.mem_of_getElem? (i := 9) rfl)))) dX10_told_123 ?_
    exact W.iret (v := (-1000000002)) hx hb hr (fun t9 ht _ => ⟨(-1000000002), rfl, (show toA w = _ from if_pos ho).symm, ht⟩) (fun q h => by cases h) dX10_told_125
  · skip
    obtain ⟨o, ho1, rfl⟩ : ∃ o : Nat, o < 11 ∧ w = nI o := sw_nat (x := w) (n := 11) (by omega) (by omega)
    rcases o with _ | o
    · skip
      refine lv_tableIn (off := 59) (tgt := 60) hx hb dX10_told_1 (by decide) (by decide) (by decide) (by decide) ?_
      refine lv_aload_n hx hb dX10_told_60 rfl (lv_at hl 0 rfl) ?_
      refine va_get (D := D) (ci := 10) (v := .int 0) (C := RX10) (T := TX10) (N := 73) hx hb hts hi10 hown hG.1 hP 0 rfl rfl 0 (by decide) (hts (.fieldLink RX10 165 "SleptMattersModel" "houses" "I") (List.mem_cons_of_mem _ (List.mem_append_left _ (List.mem_of_getElem? (i := 0) rfl)))) (fun _ h9 => h9) rfl dX10_told_61 ?_
      exact W.iret (v := 0) hx hb hr (fun t9 ht _ => ⟨0, rfl, by decide, ht⟩) (fun q h => by cases h) dX10_told_64
    rcases o with _ | o
    · skip
      refine lv_tableIn (off := 64) (tgt := 65) hx hb dX10_told_1 (by decide) (by decide) (by decide) (by decide) ?_
      refine lv_aload_n hx hb dX10_told_65 rfl (lv_at hl 0 rfl) ?_
      refine va_get (D := D) (ci := 10) (v := .int 0) (C := RX10) (T := TX10) (N := 73) hx hb hts hi10 hown hG.1 hP 0 rfl rfl 3 (by decide) (hts (.fieldLink RX10 172 "SleptMattersModel" "sleepers" "I") (List.mem_cons_of_mem _ (List.mem_append_left _ (List.mem_of_getElem? (i := 1) rfl)))) (fun _ h9 => h9) rfl dX10_told_66 ?_
      exact W.iret (v := 0) hx hb hr (fun t9 ht _ => ⟨0, rfl, by decide, ht⟩) (fun q h => by cases h) dX10_told_69
    rcases o with _ | o
    · skip
      refine lv_tableIn (off := 69) (tgt := 70) hx hb dX10_told_1 (by decide) (by decide) (by decide) (by decide) ?_
      refine lv_aload_n hx hb dX10_told_70 rfl (lv_at hl 0 rfl) ?_
      refine va_get (D := D) (ci := 10) (v := .int 0) (C := RX10) (T := TX10) (N := 73) hx hb hts hi10 hown hG.1 hP 0 rfl rfl 9 (by decide) (hts (.fieldLink RX10 175 "SleptMattersModel" "matters" "I") (List.mem_cons_of_mem _ (List.mem_append_left _ (List.mem_of_getElem? (i := 2) rfl)))) (fun _ h9 => h9) rfl dX10_told_71 ?_
      exact W.iret (v := 0) hx hb hr (fun t9 ht _ => ⟨0, rfl, by decide, ht⟩) (fun q h => by cases h) dX10_told_74
    rcases o with _ | o
    · skip
      refine lv_tableIn (off := 74) (tgt := 75) hx hb dX10_told_1 (by decide) (by decide) (by decide) (by decide) ?_
      refine lv_aload_n hx hb dX10_told_75 rfl (lv_at hl 0 rfl) ?_
      refine va_get (D := D) (ci := 10) (v := .int 7) (C := RX10) (T := TX10) (N := 73) hx hb hts hi10 hown hG.1 hP 0 rfl rfl 12 (by decide) (hts (.fieldLink RX10 31 "SleptMattersModel" "nightsTold" "I") (List.mem_cons_of_mem _ (List.mem_append_left _ (List.mem_of_getElem? (i := 3) rfl)))) (fun _ h9 => h9) rfl dX10_told_76 ?_
      exact W.iret (v := 7) hx hb hr (fun t9 ht _ => ⟨7, rfl, by decide, ht⟩) (fun q h => by cases h) dX10_told_79
    rcases o with _ | o
    · skip
      refine lv_tableIn (off := 79) (tgt := 80) hx hb dX10_told_1 (by decide) (by decide) (by decide) (by decide) ?_
      refine lv_aload_n hx hb dX10_told_80 rfl (lv_at hl 0 rfl) ?_
      have hPc := hP.sub (ws' := (c_X10_neededYes k y m_street m_beds m_light m_yes m_wage m_noiseOf m_matter m_counted m_dreams m_state m_decided m_slept m_sleptIn m_laid m_laidIn m_sizes m_text m_readStreet m_readBeds m_readLight m_readYes m_readWage m_readNoise m_readMatter m_busy m_taken m_canLow m_canHigh m_ends m_rowWho m_rowWhere m_gotLow m_gotHigh m_made m_oddsBy m_order m_bestOrder m_bestEnds m_stops m_bookDay m_bookWho m_bookWhere m_images m_isKept)) [0] rfl
      refine vp_callSi (va_Run.run (va_runV (As := []) (rest := []) ⟨hx, hb, hml, hown, hts⟩ (X10_neededYes l D k y m_street m_beds m_light m_yes m_wage m_noiseOf m_matter m_counted m_dreams m_state m_decided m_slept m_sleptIn m_laid m_laidIn m_sizes m_text m_readStreet m_readBeds m_readLight m_readYes m_readWage m_readNoise m_readMatter m_busy m_taken m_canLow m_canHigh m_ends m_rowWho m_rowWhere m_gotLow m_gotHigh m_made m_oddsBy m_order m_bestOrder m_bestEnds m_stops m_bookDay m_bookWho m_bookWhere m_images m_isKept ) (cwV 0 hts gX10_told_X10_neededYes rfl rfl rfl (by decide +kernel) ⟨Nat.le_of_ble_eq_true rfl, Nat.le_of_ble_eq_true rfl⟩) ⟨PS.blind _ _ _ _, va_recv hG.1 hP (ci := 10) (q0 := 0) rfl rfl, PS.pre hPc hG [.ref y]⟩ rfl rfl hl.1 rfl (lv_room (Nat.le_of_ble_eq_true rfl)) dX10_told_81 ⟨Nat.le_of_ble_eq_true rfl, Nat.le_of_ble_eq_true rfl⟩)) (fun r hq => ?_)
      generalize r = y1 at hq ⊢
      have hq : y1 = 4 := hq
      refine tp_i (y := 4) (hq) ?_
      exact W.iret (v := 4) hx hb hr (fun t9 ht _ => ⟨4, rfl, by decide, ht⟩) (fun q h => by cases h) dX10_told_84
    rcases o with _ | o
    · skip
      refine lv_tableIn (off := 84) (tgt := 85) hx hb dX10_told_1 (by decide) (by decide) (by decide) (by decide) ?_
      refine lv_aload_n hx hb dX10_told_85 rfl (lv_at hl 0 rfl) ?_
      refine va_get (D := D) (ci := 10) (v := .int 1) (C := RX10) (T := TX10) (N := 73) hx hb hts hi10 hown hG.1 hP 0 rfl rfl 14 (by decide) (hts (.fieldLink RX10 38 "SleptMattersModel" "isAgain" "Z") (List.mem_cons_of_mem _ (List.mem_append_left _ (List.mem_of_getElem? (i := 4) rfl)))) (fun _ h9 => h9) rfl dX10_told_86 ?_
      refine lv_if_eq (x := 1) (tgt := 96) hx hb dX10_told_89 (by decide) (fun c2 => absurd c2 (by decide)) (fun c2 => ?_)
      refine lv_iconst (v := 1) hx hb dX10_told_92 (by decide) ?_
      refine lv_goto (tgt := 97) hx hb dX10_told_93 (by decide) ?_
      exact W.iret (v := 1) hx hb hr (fun t9 ht _ => ⟨1, rfl, by decide, ht⟩) (fun q h => by cases h) dX10_told_97
    rcases o with _ | o
    · skip
      refine lv_tableIn (off := 97) (tgt := 98) hx hb dX10_told_1 (by decide) (by decide) (by decide) (by decide) ?_
      refine lv_aload_n hx hb dX10_told_98 rfl (lv_at hl 0 rfl) ?_
      refine va_get (D := D) (ci := 10) (v := .int 0) (C := RX10) (T := TX10) (N := 73) hx hb hts hi10 hown hG.1 hP 0 rfl rfl 15 (by decide) (hts (.fieldLink RX10 178 "SleptMattersModel" "day" "I") (List.mem_cons_of_mem _ (List.mem_append_left _ (List.mem_of_getElem? (i := 5) rfl)))) (fun _ h9 => h9) rfl dX10_told_99 ?_
      exact W.iret (v := 0) hx hb hr (fun t9 ht _ => ⟨0, rfl, by decide, ht⟩) (fun q h => by cases h) dX10_told_102
    rcases o with _ | o
    · skip
      refine lv_tableIn (off := 102) (tgt := 103) hx hb dX10_told_1 (by decide) (by decide) (by decide) (by decide) ?_
      refine lv_aload_n hx hb dX10_told_103 rfl (lv_at hl 0 rfl) ?_
      refine va_get (D := D) (ci := 10) (v := .int 0) (C := RX10) (T := TX10) (N := 73) hx hb hts hi10 hown hG.1 hP 0 rfl rfl 16 (by decide) (hts (.fieldLink RX10 181 "SleptMattersModel" "wages" "I") (List.mem_cons_of_mem _ (List.mem_append_left _ (List.mem_of_getElem? (i := 6) rfl)))) (fun _ h9 => h9) rfl dX10_told_104 ?_
      exact W.iret (v := 0) hx hb hr (fun t9 ht _ => ⟨0, rfl, by decide, ht⟩) (fun q h => by cases h) dX10_told_107
    rcases o with _ | o
    · skip
      refine lv_tableIn (off := 107) (tgt := 108) hx hb dX10_told_1 (by decide) (by decide) (by decide) (by decide) ?_
      refine lv_aload_n hx hb dX10_told_108 rfl (lv_at hl 0 rfl) ?_
      refine va_get (D := D) (ci := 10) (v := .int 0) (C := RX10) (T := TX10) (N := 73) hx hb hts hi10 hown hG.1 hP 0 rfl rfl 28 (by decide) (hts (.fieldLink RX10 187 "SleptMattersModel" "texted" "I") (List.mem_cons_of_mem _ (List.mem_append_left _ (List.mem_of_getElem? (i := 7) rfl)))) (fun _ h9 => h9) rfl dX10_told_109 ?_
      exact W.iret (v := 0) hx hb hr (fun t9 ht _ => ⟨0, rfl, by decide, ht⟩) (fun q h => by cases h) dX10_told_112
    rcases o with _ | o
    · skip
      refine lv_tableIn (off := 112) (tgt := 113) hx hb dX10_told_1 (by decide) (by decide) (by decide) (by decide) ?_
      refine lv_aload_n hx hb dX10_told_113 rfl (lv_at hl 0 rfl) ?_
      refine va_get (D := D) (ci := 10) (v := .int 0) (C := RX10) (T := TX10) (N := 73) hx hb hts hi10 hown hG.1 hP 0 rfl rfl 67 (by decide) (hts (.fieldLink RX10 288 "SleptMattersModel" "booked" "I") (List.mem_cons_of_mem _ (List.mem_append_left _ (List.mem_of_getElem? (i := 8) rfl)))) (fun _ h9 => h9) rfl dX10_told_114 ?_
      exact W.iret (v := 0) hx hb hr (fun t9 ht _ => ⟨0, rfl, by decide, ht⟩) (fun q h => by cases h) dX10_told_117
    rcases o with _ | o
    · skip
      refine lv_tableIn (off := 117) (tgt := 118) hx hb dX10_told_1 (by decide) (by decide) (by decide) (by decide) ?_
      refine lv_aload_n hx hb dX10_told_118 rfl (lv_at hl 0 rfl) ?_
      have hPc := hP.sub (ws' := (c_X10_scoreNow k y m_street m_beds m_light m_yes m_wage m_noiseOf m_matter m_counted m_dreams m_state m_decided m_slept m_sleptIn m_laid m_laidIn m_sizes m_text m_readStreet m_readBeds m_readLight m_readYes m_readWage m_readNoise m_readMatter m_busy m_taken m_canLow m_canHigh m_ends m_rowWho m_rowWhere m_gotLow m_gotHigh m_made m_oddsBy m_order m_bestOrder m_bestEnds m_stops m_bookDay m_bookWho m_bookWhere m_images m_isKept)) [0] rfl
      refine vp_callSi (va_Run.run (va_runV (As := []) (rest := []) ⟨hx, hb, hml, hown, hts⟩ (X10_scoreNow l D k y m_street m_beds m_light m_yes m_wage m_noiseOf m_matter m_counted m_dreams m_state m_decided m_slept m_sleptIn m_laid m_laidIn m_sizes m_text m_readStreet m_readBeds m_readLight m_readYes m_readWage m_readNoise m_readMatter m_busy m_taken m_canLow m_canHigh m_ends m_rowWho m_rowWhere m_gotLow m_gotHigh m_made m_oddsBy m_order m_bestOrder m_bestEnds m_stops m_bookDay m_bookWho m_bookWhere m_images m_isKept ) (cwV 0 hts gX10_told_X10_scoreNow rfl rfl rfl (by decide +kernel) ⟨Nat.le_of_ble_eq_true rfl, Nat.le_of_ble_eq_true rfl⟩) ⟨PS.blind _ _ _ _, va_recv hG.1 hP (ci := 10) (q0 := 0) rfl rfl, PS.pre hPc hG [.ref y]⟩ rfl rfl hl.1 rfl (lv_room (Nat.le_of_ble_eq_true rfl)) dX10_told_119 ⟨Nat.le_of_ble_eq_true rfl, Nat.le_of_ble_eq_true rfl⟩)) (fun r hq => ?_)
      generalize r = y3 at hq ⊢
      have hq : y3 = 0 := hq
      refine tp_i (y := 0) (hq) ?_
      exact W.iret (v := 0) hx hb hr (fun t9 ht _ => ⟨0, rfl, by decide, ht⟩) (fun q h => by cases h) dX10_told_122
    exact absurd ho1 (by omega)

abbrev c_X10_noiseAt (k : Nat → ClassId) (y : Nat) (m_street : Nat) (m_beds : Nat) (m_light : Nat) (m_yes : Nat) (m_wage : Nat) (m_noiseOf : Nat) (m_matter : Nat) (m_counted : Nat) (m_dreams : Nat) (m_state : Nat) (m_decided : Nat) (m_slept : Nat) (m_sleptIn : Nat) (m_laid : Nat) (m_laidIn : Nat) (m_sizes : Nat) (m_text : Nat) (m_readStreet : Nat) (m_readBeds : Nat) (m_readLight : Nat) (m_readYes : Nat) (m_readWage : Nat) (m_readNoise : Nat) (m_readMatter : Nat) (m_busy : Nat) (m_taken : Nat) (m_canLow : Nat) (m_canHigh : Nat) (m_ends : Nat) (m_rowWho : Nat) (m_rowWhere : Nat) (m_gotLow : Nat) (m_gotHigh : Nat) (m_made : Nat) (m_oddsBy : Nat) (m_order : Nat) (m_bestOrder : Nat) (m_bestEnds : Nat) (m_stops : Nat) (m_bookDay : Nat) (m_bookWho : Nat) (m_bookWhere : Nat) (m_images : Nat) (m_isKept : Nat) (sa : Int32) (sb : Int32) : va_W := [(y, .inr (10, [.int 0, .ref m_street, .ref m_beds, .int 0, .ref m_light, .ref m_yes, .ref m_wage, .int 0, .ref m_noiseOf, .int 0, .ref m_matter, .int 0, .int 7, .int (-1), .int 1, .int 0, .int 0, .ref m_counted, .ref m_dreams, .ref m_state, .ref m_decided, .ref m_slept, .ref m_sleptIn, .ref m_laid, .ref m_laidIn, .int 0, .ref m_sizes, .ref m_text, .int 0, .int (-1), .int 0, .long 0, .int 0, .int 0, .int 0, .int 0, .ref m_readStreet, .ref m_readBeds, .int 0, .ref m_readLight, .ref m_readYes, .ref m_readWage, .int 0, .ref m_readNoise, .int 0, .ref m_readMatter, .int 0, .int 0, .int 0, .ref m_busy, .ref m_taken, .ref m_canLow, .ref m_canHigh, .ref m_ends, .ref m_rowWho, .ref m_rowWhere, .ref m_gotLow, .ref m_gotHigh, .ref m_made, .ref m_oddsBy, .int 0, .int 0, .int 0, .ref m_order, .ref m_bestOrder, .ref m_bestEnds, .ref m_stops, .int 0, .ref m_bookDay, .ref m_bookWho, .ref m_bookWhere, .ref m_images, .ref m_isKept]))]
abbrev r_X10_noiseAt : Room := { frames := 0, cells := 0, slots := 0, locals := 0 }
abbrev q_X10_noiseAt (k : Nat → ClassId) (y : Nat) (m_street : Nat) (m_beds : Nat) (m_light : Nat) (m_yes : Nat) (m_wage : Nat) (m_noiseOf : Nat) (m_matter : Nat) (m_counted : Nat) (m_dreams : Nat) (m_state : Nat) (m_decided : Nat) (m_slept : Nat) (m_sleptIn : Nat) (m_laid : Nat) (m_laidIn : Nat) (m_sizes : Nat) (m_text : Nat) (m_readStreet : Nat) (m_readBeds : Nat) (m_readLight : Nat) (m_readYes : Nat) (m_readWage : Nat) (m_readNoise : Nat) (m_readMatter : Nat) (m_busy : Nat) (m_taken : Nat) (m_canLow : Nat) (m_canHigh : Nat) (m_ends : Nat) (m_rowWho : Nat) (m_rowWhere : Nat) (m_gotLow : Nat) (m_gotHigh : Nat) (m_made : Nat) (m_oddsBy : Nat) (m_order : Nat) (m_bestOrder : Nat) (m_bestEnds : Nat) (m_stops : Nat) (m_bookDay : Nat) (m_bookWho : Nat) (m_bookWhere : Nat) (m_images : Nat) (m_isKept : Nat) (sa : Int32) (sb : Int32) : Array Value → State → Outcome → State → Prop := vp_Si (fun r => r = 0)
set_option maxHeartbeats 2000000 in
set_option maxRecDepth 100000 in
theorem X10_noiseAt (l : Launch) (D : va_G) (k : Nat → ClassId) (y : Nat) (m_street : Nat) (m_beds : Nat) (m_light : Nat) (m_yes : Nat) (m_wage : Nat) (m_noiseOf : Nat) (m_matter : Nat) (m_counted : Nat) (m_dreams : Nat) (m_state : Nat) (m_decided : Nat) (m_slept : Nat) (m_sleptIn : Nat) (m_laid : Nat) (m_laidIn : Nat) (m_sizes : Nat) (m_text : Nat) (m_readStreet : Nat) (m_readBeds : Nat) (m_readLight : Nat) (m_readYes : Nat) (m_readWage : Nat) (m_readNoise : Nat) (m_readMatter : Nat) (m_busy : Nat) (m_taken : Nat) (m_canLow : Nat) (m_canHigh : Nat) (m_ends : Nat) (m_rowWho : Nat) (m_rowWhere : Nat) (m_gotLow : Nat) (m_gotHigh : Nat) (m_made : Nat) (m_oddsBy : Nat) (m_order : Nat) (m_bestOrder : Nat) (m_bestEnds : Nat) (m_stops : Nat) (m_bookDay : Nat) (m_bookWho : Nat) (m_bookWhere : Nat) (m_images : Nat) (m_isKept : Nat) (sa : Int32) (sb : Int32)  : Met l yX10_noiseAt wsX10_noiseAt r_X10_noiseAt (va_Pc [.ref y, .int sa, .int sb] (PS D k (c_X10_noiseAt k y m_street m_beds m_light m_yes m_wage m_noiseOf m_matter m_counted m_dreams m_state m_decided m_slept m_sleptIn m_laid m_laidIn m_sizes m_text m_readStreet m_readBeds m_readLight m_readYes m_readWage m_readNoise m_readMatter m_busy m_taken m_canLow m_canHigh m_ends m_rowWho m_rowWhere m_gotLow m_gotHigh m_made m_oddsBy m_order m_bestOrder m_bestEnds m_stops m_bookDay m_bookWho m_bookWhere m_images m_isKept sa sb))) (q_X10_noiseAt k y m_street m_beds m_light m_yes m_wage m_noiseOf m_matter m_counted m_dreams m_state m_decided m_slept m_sleptIn m_laid m_laidIn m_sizes m_text m_readStreet m_readBeds m_readLight m_readYes m_readWage m_readNoise m_readMatter m_busy m_taken m_canLow m_canHigh m_ends m_rowWho m_rowWhere m_gotLow m_gotHigh m_made m_oddsBy m_order m_bestOrder m_bestEnds m_stops m_bookDay m_bookWho m_bookWhere m_images m_isKept sa sb) 0 0 (fun _ => False) := by
  refine Met.ofW (cc := cX10_noiseAt) (maxL := 5) (ret := (some .int)) (by decide) rfl ?_
  intro p e s m args below meth c s₁ B hml hv
  obtain ⟨rfl, hP, hG⟩ := hv
  have hx := B.exec
  have hb := B.bytes
  have hr := B.returns
  have hts := atoms_spec (ws := wsX10_noiseAt) B.pre
  have hown : s.vm.findClass RX10 = some m.cls := findClass_of_methodNamed B.named
  have hlocks := B.notSynchronized
  have hi10 : ∀ w ∈ wsX100, w ∈ wsX10_noiseAt := fun _ h => List.mem_cons_of_mem _ (List.mem_append_right _ h)
  have hP : va_P D vwCl [(y, .inr (10, [.int 0, .ref m_street, .ref m_beds, .int 0, .ref m_light, .ref m_yes, .ref m_wage, .int 0, .ref m_noiseOf, .int 0, .ref m_matter, .int 0, .int 7, .int (-1), .int 1, .int 0, .int 0, .ref m_counted, .ref m_dreams, .ref m_state, .ref m_decided, .ref m_slept, .ref m_sleptIn, .ref m_laid, .ref m_laidIn, .int 0, .ref m_sizes, .ref m_text, .int 0, .int (-1), .int 0, .long 0, .int 0, .int 0, .int 0, .int 0, .ref m_readStreet, .ref m_readBeds, .int 0, .ref m_readLight, .ref m_readYes, .ref m_readWage, .int 0, .ref m_readNoise, .int 0, .ref m_readMatter, .int 0, .int 0, .int 0, .ref m_busy, .ref m_taken, .ref m_canLow, .ref m_canHigh, .ref m_ends, .ref m_rowWho, .ref m_rowWhere, .ref m_gotLow, .ref m_gotHigh, .ref m_made, .ref m_oddsBy, .int 0, .int 0, .int 0, .ref m_order, .ref m_bestOrder, .ref m_bestEnds, .ref m_stops, .int 0, .ref m_bookDay, .ref m_bookWho, .ref m_bookWhere, .ref m_images, .ref m_isKept]))] s.heap := hP
  have hl := lv_entry ([.ref y, .int sa, .int sb]) (n := 5) (Nat.le_of_ble_eq_true rfl)
  rw [lg_entry_eq]
  generalize (lg_sl ([.ref y, .int sa, .int sb]) ++ List.replicate (5 - (lg_sl ([.ref y, .int sa, .int sb])).length) Slot.unset).toArray = ls at hl ⊢
  have hl : lv_has ls 5 [(0, .ref y), (1, .int sa), (2, .int sb)] := hl
  refine lv_iconst (v := 0) hx hb dX10_noiseAt_0 (by decide) ?_
  refine lv_istore_n (lv' := [(3, .int 0), (0, .ref y), (1, .int sa), (2, .int sb)]) hx hb dX10_noiseAt_1 rfl hl (by decide) rfl (fun ls hl => ?_)
  refine lv_iconst (v := 0) hx hb dX10_noiseAt_2 (by decide) ?_
  refine lv_istore (lv' := [(4, .int 0), (3, .int 0), (0, .ref y), (1, .int sa), (2, .int sb)]) hx hb dX10_noiseAt_3 hl (by decide) rfl (fun ls hl => ?_)
  refine lv_iload hx hb dX10_noiseAt_5 (lv_at hl 0 rfl) ?_
  refine lv_aload_n hx hb dX10_noiseAt_7 rfl (lv_at hl 2 rfl) ?_
  refine va_get (D := D) (ci := 10) (v := .int 0) (C := RX10) (T := TX10) (N := 73) hx hb hts hi10 hown hG.1 hP 0 rfl rfl 7 (by decide) (hts (.fieldLink RX10 285 "SleptMattersModel" "noises" "I") (List.mem_cons_of_mem _ (List.mem_append_left _ (List.mem_of_getElem? (i := 0) rfl)))) (fun _ h9 => h9) rfl dX10_noiseAt_8 ?_
  refine lv_icmp_ge (x := 0) (y := 0) (tgt := 83) hx hb dX10_noiseAt_11 (by decide) (fun c1 => ?_) (fun c1 => absurd c1 (by decide))
  refine lv_iload_n hx hb dX10_noiseAt_83 rfl (lv_at hl 1 rfl) ?_
  exact W.iret (v := 0) hx hb hr (fun t9 ht _ => ⟨0, rfl, rfl, ht⟩) (fun q h => by cases h) dX10_noiseAt_84

abbrev c_X10_noise (k : Nat → ClassId) (y : Nat) (m_street : Nat) (m_beds : Nat) (m_light : Nat) (m_yes : Nat) (m_wage : Nat) (m_noiseOf : Nat) (m_matter : Nat) (m_counted : Nat) (m_dreams : Nat) (m_state : Nat) (m_decided : Nat) (m_slept : Nat) (m_sleptIn : Nat) (m_laid : Nat) (m_laidIn : Nat) (m_sizes : Nat) (m_text : Nat) (m_readStreet : Nat) (m_readBeds : Nat) (m_readLight : Nat) (m_readYes : Nat) (m_readWage : Nat) (m_readNoise : Nat) (m_readMatter : Nat) (m_busy : Nat) (m_taken : Nat) (m_canLow : Nat) (m_canHigh : Nat) (m_ends : Nat) (m_rowWho : Nat) (m_rowWhere : Nat) (m_gotLow : Nat) (m_gotHigh : Nat) (m_made : Nat) (m_oddsBy : Nat) (m_order : Nat) (m_bestOrder : Nat) (m_bestEnds : Nat) (m_stops : Nat) (m_bookDay : Nat) (m_bookWho : Nat) (m_bookWhere : Nat) (m_images : Nat) (m_isKept : Nat) (sa : Int32) (sb : Int32) : va_W := [(y, .inr (10, [.int 0, .ref m_street, .ref m_beds, .int 0, .ref m_light, .ref m_yes, .ref m_wage, .int 0, .ref m_noiseOf, .int 0, .ref m_matter, .int 0, .int 7, .int (-1), .int 1, .int 0, .int 0, .ref m_counted, .ref m_dreams, .ref m_state, .ref m_decided, .ref m_slept, .ref m_sleptIn, .ref m_laid, .ref m_laidIn, .int 0, .ref m_sizes, .ref m_text, .int 0, .int (-1), .int 0, .long 0, .int 0, .int 0, .int 0, .int 0, .ref m_readStreet, .ref m_readBeds, .int 0, .ref m_readLight, .ref m_readYes, .ref m_readWage, .int 0, .ref m_readNoise, .int 0, .ref m_readMatter, .int 0, .int 0, .int 0, .ref m_busy, .ref m_taken, .ref m_canLow, .ref m_canHigh, .ref m_ends, .ref m_rowWho, .ref m_rowWhere, .ref m_gotLow, .ref m_gotHigh, .ref m_made, .ref m_oddsBy, .int 0, .int 0, .int 0, .ref m_order, .ref m_bestOrder, .ref m_bestEnds, .ref m_stops, .int 0, .ref m_bookDay, .ref m_bookWho, .ref m_bookWhere, .ref m_images, .ref m_isKept]))]
abbrev r_X10_noise : Room := { frames := 1, cells := 0, slots := 0, locals := 25 }
abbrev q_X10_noise (k : Nat → ClassId) (y : Nat) (m_street : Nat) (m_beds : Nat) (m_light : Nat) (m_yes : Nat) (m_wage : Nat) (m_noiseOf : Nat) (m_matter : Nat) (m_counted : Nat) (m_dreams : Nat) (m_state : Nat) (m_decided : Nat) (m_slept : Nat) (m_sleptIn : Nat) (m_laid : Nat) (m_laidIn : Nat) (m_sizes : Nat) (m_text : Nat) (m_readStreet : Nat) (m_readBeds : Nat) (m_readLight : Nat) (m_readYes : Nat) (m_readWage : Nat) (m_readNoise : Nat) (m_readMatter : Nat) (m_busy : Nat) (m_taken : Nat) (m_canLow : Nat) (m_canHigh : Nat) (m_ends : Nat) (m_rowWho : Nat) (m_rowWhere : Nat) (m_gotLow : Nat) (m_gotHigh : Nat) (m_made : Nat) (m_oddsBy : Nat) (m_order : Nat) (m_bestOrder : Nat) (m_bestEnds : Nat) (m_stops : Nat) (m_bookDay : Nat) (m_bookWho : Nat) (m_bookWhere : Nat) (m_images : Nat) (m_isKept : Nat) (sa : Int32) (sb : Int32) : Array Value → State → Outcome → State → Prop := vp_Si (fun r => r = noA sa sb)
set_option maxHeartbeats 2000000 in
set_option maxRecDepth 100000 in
theorem X10_noise (l : Launch) (D : va_G) (k : Nat → ClassId) (y : Nat) (m_street : Nat) (m_beds : Nat) (m_light : Nat) (m_yes : Nat) (m_wage : Nat) (m_noiseOf : Nat) (m_matter : Nat) (m_counted : Nat) (m_dreams : Nat) (m_state : Nat) (m_decided : Nat) (m_slept : Nat) (m_sleptIn : Nat) (m_laid : Nat) (m_laidIn : Nat) (m_sizes : Nat) (m_text : Nat) (m_readStreet : Nat) (m_readBeds : Nat) (m_readLight : Nat) (m_readYes : Nat) (m_readWage : Nat) (m_readNoise : Nat) (m_readMatter : Nat) (m_busy : Nat) (m_taken : Nat) (m_canLow : Nat) (m_canHigh : Nat) (m_ends : Nat) (m_rowWho : Nat) (m_rowWhere : Nat) (m_gotLow : Nat) (m_gotHigh : Nat) (m_made : Nat) (m_oddsBy : Nat) (m_order : Nat) (m_bestOrder : Nat) (m_bestEnds : Nat) (m_stops : Nat) (m_bookDay : Nat) (m_bookWho : Nat) (m_bookWhere : Nat) (m_images : Nat) (m_isKept : Nat) (sa : Int32) (sb : Int32)  : Met l yX10_noise wsX10_noise r_X10_noise (va_Pc [.ref y, .int sa, .int sb] (PS D k (c_X10_noise k y m_street m_beds m_light m_yes m_wage m_noiseOf m_matter m_counted m_dreams m_state m_decided m_slept m_sleptIn m_laid m_laidIn m_sizes m_text m_readStreet m_readBeds m_readLight m_readYes m_readWage m_readNoise m_readMatter m_busy m_taken m_canLow m_canHigh m_ends m_rowWho m_rowWhere m_gotLow m_gotHigh m_made m_oddsBy m_order m_bestOrder m_bestEnds m_stops m_bookDay m_bookWho m_bookWhere m_images m_isKept sa sb))) (q_X10_noise k y m_street m_beds m_light m_yes m_wage m_noiseOf m_matter m_counted m_dreams m_state m_decided m_slept m_sleptIn m_laid m_laidIn m_sizes m_text m_readStreet m_readBeds m_readLight m_readYes m_readWage m_readNoise m_readMatter m_busy m_taken m_canLow m_canHigh m_ends m_rowWho m_rowWhere m_gotLow m_gotHigh m_made m_oddsBy m_order m_bestOrder m_bestEnds m_stops m_bookDay m_bookWho m_bookWhere m_images m_isKept sa sb) 0 0 (fun _ => False) := by
  refine Met.ofW (cc := cX10_noise) (maxL := 3) (ret := (some .int)) (by decide) rfl ?_
  intro p e s m args below meth c s₁ B hml hv
  obtain ⟨rfl, hP, hG⟩ := hv
  have hx := B.exec
  have hb := B.bytes
  have hr := B.returns
  have hts := atoms_spec (ws := wsX10_noise) B.pre
  have hown : s.vm.findClass RX10 = some m.cls := findClass_of_methodNamed B.named
  have hlocks := B.notSynchronized
  have hi10 : ∀ w ∈ wsX100, w ∈ wsX10_noise := fun _ h => List.mem_cons_of_mem _ (List.mem_append_right _ h)
  have hP : va_P D vwCl [(y, .inr (10, [.int 0, .ref m_street, .ref m_beds, .int 0, .ref m_light, .ref m_yes, .ref m_wage, .int 0, .ref m_noiseOf, .int 0, .ref m_matter, .int 0, .int 7, .int (-1), .int 1, .int 0, .int 0, .ref m_counted, .ref m_dreams, .ref m_state, .ref m_decided, .ref m_slept, .ref m_sleptIn, .ref m_laid, .ref m_laidIn, .int 0, .ref m_sizes, .ref m_text, .int 0, .int (-1), .int 0, .long 0, .int 0, .int 0, .int 0, .int 0, .ref m_readStreet, .ref m_readBeds, .int 0, .ref m_readLight, .ref m_readYes, .ref m_readWage, .int 0, .ref m_readNoise, .int 0, .ref m_readMatter, .int 0, .int 0, .int 0, .ref m_busy, .ref m_taken, .ref m_canLow, .ref m_canHigh, .ref m_ends, .ref m_rowWho, .ref m_rowWhere, .ref m_gotLow, .ref m_gotHigh, .ref m_made, .ref m_oddsBy, .int 0, .int 0, .int 0, .ref m_order, .ref m_bestOrder, .ref m_bestEnds, .ref m_stops, .int 0, .ref m_bookDay, .ref m_bookWho, .ref m_bookWhere, .ref m_images, .ref m_isKept]))] s.heap := hP
  have hl := lv_entry ([.ref y, .int sa, .int sb]) (n := 3) (Nat.le_of_ble_eq_true rfl)
  rw [lg_entry_eq]
  generalize (lg_sl ([.ref y, .int sa, .int sb]) ++ List.replicate (3 - (lg_sl ([.ref y, .int sa, .int sb])).length) Slot.unset).toArray = ls at hl ⊢
  have hl : lv_has ls 3 [(0, .ref y), (1, .int sa), (2, .int sb)] := hl
  refine lv_iload_n hx hb dX10_noise_0 rfl (lv_at hl 1 rfl) ?_
  refine lv_i2l (v := sa.toInt64) hx hb dX10_noise_1 rfl ?_
  refine lv_lconst (v := 0) hx hb dX10_noise_2 (by decide) ?_
  refine lv_ldc2 (v := (3)) hx hb hown (hts (.constantLong RX10 334 (3)) (List.mem_cons_of_mem _ (List.mem_append_left _ (List.mem_of_getElem? (i := 0) rfl)))) dX10_noise_3 ?_
  have hPc := hP.sub (ws' := (c_X10_in k sa.toInt64 0 (3))) [] rfl
  refine vp_callSi (va_Run.run (va_runS (As := [.long sa.toInt64, .long 0, .long (3)]) (rest := []) ⟨hx, hb, hml, hown, hts⟩ (X10_in l D k sa.toInt64 0 (3) ) (va_cwS 3 hts gX10_noise_X10_in rfl rfl rfl (by decide +kernel) ⟨Nat.le_of_ble_eq_true rfl, Nat.le_of_ble_eq_true rfl⟩) ⟨PS.blind _ _ _ _, PS.pre hPc hG [.long sa.toInt64, .long 0, .long (3)]⟩ rfl rfl hl.1 rfl (lv_room (Nat.le_of_ble_eq_true rfl)) dX10_noise_6 ⟨Nat.le_of_ble_eq_true rfl, Nat.le_of_ble_eq_true rfl⟩)) (fun r hq => ?_)
  generalize r = y1 at hq ⊢
  have hq : y1 = inA sa.toInt64 0 (3) := hq
  refine tp_i (y := inA sa.toInt64 0 (3)) (hq) ?_
  refine lv_if_eq (x := inA sa.toInt64 0 (3)) (tgt := 33) hx hb dX10_noise_9 (by decide) (fun c2 => ?_) (fun c2 => ?_)
  · skip
    have e1 := no_out1 (b := sb) (in_eq (a := 0) (b := 3) rfl rfl c2)
    refine lv_ldc (v := (-1000000002)) hx hb hown (hts (.constant RX10 186 (-1000000002)) (List.mem_cons_of_mem _ (List.mem_append_left _ (List.mem_of_getElem? (i := 2) rfl)))) dX10_noise_33 ?_
    exact W.iret (v := (-1000000002)) hx hb hr (fun t9 ht _ => ⟨(-1000000002), rfl, e1.symm, ht⟩) (fun q h => by cases h) dX10_noise_35
  · skip
    have h1 := in_ne (a := 0) (b := 3) rfl rfl c2
    refine lv_iload_n hx hb dX10_noise_12 rfl (lv_at hl 2 rfl) ?_
    refine lv_i2l (v := sb.toInt64) hx hb dX10_noise_13 rfl ?_
    refine lv_lconst (v := 0) hx hb dX10_noise_14 (by decide) ?_
    refine lv_ldc2 (v := (999)) hx hb hown (hts (.constantLong RX10 336 (999)) (List.mem_cons_of_mem _ (List.mem_append_left _ (List.mem_of_getElem? (i := 1) rfl)))) dX10_noise_15 ?_
    have hPc := hP.sub (ws' := (c_X10_in k sb.toInt64 0 (999))) [] rfl
    refine vp_callSi (va_Run.run (va_runS (As := [.long sb.toInt64, .long 0, .long (999)]) (rest := []) ⟨hx, hb, hml, hown, hts⟩ (X10_in l D k sb.toInt64 0 (999) ) (va_cwS 3 hts gX10_noise_X10_in rfl rfl rfl (by decide +kernel) ⟨Nat.le_of_ble_eq_true rfl, Nat.le_of_ble_eq_true rfl⟩) ⟨PS.blind _ _ _ _, PS.pre hPc hG [.long sb.toInt64, .long 0, .long (999)]⟩ rfl rfl hl.1 rfl (lv_room (Nat.le_of_ble_eq_true rfl)) dX10_noise_18 ⟨Nat.le_of_ble_eq_true rfl, Nat.le_of_ble_eq_true rfl⟩)) (fun r hq => ?_)
    generalize r = y3 at hq ⊢
    have hq : y3 = inA sb.toInt64 0 (999) := hq
    refine tp_i (y := inA sb.toInt64 0 (999)) (hq) ?_
    refine lv_if_eq (x := inA sb.toInt64 0 (999)) (tgt := 33) hx hb dX10_noise_21 (by decide) (fun c4 => ?_) (fun c4 => ?_)
    · skip
      have e1 := no_out2 (a := sa) (in_eq (a := 0) (b := 999) rfl rfl c4)
      refine lv_ldc (v := (-1000000002)) hx hb hown (hts (.constant RX10 186 (-1000000002)) (List.mem_cons_of_mem _ (List.mem_append_left _ (List.mem_of_getElem? (i := 2) rfl)))) dX10_noise_33 ?_
      exact W.iret (v := (-1000000002)) hx hb hr (fun t9 ht _ => ⟨(-1000000002), rfl, e1.symm, ht⟩) (fun q h => by cases h) dX10_noise_35
    · skip
      have e1 := no_in h1 (in_ne (a := 0) (b := 999) rfl rfl c4)
      refine lv_aload_n hx hb dX10_noise_24 rfl (lv_at hl 0 rfl) ?_
      refine lv_iload_n hx hb dX10_noise_25 rfl (lv_at hl 1 rfl) ?_
      refine lv_iload_n hx hb dX10_noise_26 rfl (lv_at hl 2 rfl) ?_
      have hPc := hP.sub (ws' := (c_X10_noiseAt k y m_street m_beds m_light m_yes m_wage m_noiseOf m_matter m_counted m_dreams m_state m_decided m_slept m_sleptIn m_laid m_laidIn m_sizes m_text m_readStreet m_readBeds m_readLight m_readYes m_readWage m_readNoise m_readMatter m_busy m_taken m_canLow m_canHigh m_ends m_rowWho m_rowWhere m_gotLow m_gotHigh m_made m_oddsBy m_order m_bestOrder m_bestEnds m_stops m_bookDay m_bookWho m_bookWhere m_images m_isKept sa sb)) [0] rfl
      refine vp_callSi (va_Run.run (va_runV (As := [.int sa, .int sb]) (rest := []) ⟨hx, hb, hml, hown, hts⟩ (X10_noiseAt l D k y m_street m_beds m_light m_yes m_wage m_noiseOf m_matter m_counted m_dreams m_state m_decided m_slept m_sleptIn m_laid m_laidIn m_sizes m_text m_readStreet m_readBeds m_readLight m_readYes m_readWage m_readNoise m_readMatter m_busy m_taken m_canLow m_canHigh m_ends m_rowWho m_rowWhere m_gotLow m_gotHigh m_made m_oddsBy m_order m_bestOrder m_bestEnds m_stops m_bookDay m_bookWho m_bookWhere m_images m_isKept sa sb ) (cwV 2 hts gX10_noise_X10_noiseAt rfl rfl rfl (by decide +kernel) ⟨Nat.le_of_ble_eq_true rfl, Nat.le_of_ble_eq_true rfl⟩) ⟨PS.blind _ _ _ _, va_recv hG.1 hP (ci := 10) (q0 := 0) rfl rfl, PS.pre hPc hG [.ref y, .int sa, .int sb]⟩ rfl rfl hl.1 rfl (lv_room (Nat.le_of_ble_eq_true rfl)) dX10_noise_27 ⟨Nat.le_of_ble_eq_true rfl, Nat.le_of_ble_eq_true rfl⟩)) (fun r hq => ?_)
      generalize r = y5 at hq ⊢
      have hq : y5 = 0 := hq
      refine tp_i (y := 0) (hq) ?_
      refine lv_goto (tgt := 35) hx hb dX10_noise_30 (by decide) ?_
      exact W.iret (v := 0) hx hb hr (fun t9 ht _ => ⟨0, rfl, e1.symm, ht⟩) (fun q h => by cases h) dX10_noise_35

abbrev c_X10_goBack (k : Nat → ClassId) (y : Nat) (m_street : Nat) (m_beds : Nat) (m_light : Nat) (m_yes : Nat) (m_wage : Nat) (m_noiseOf : Nat) (m_matter : Nat) (m_counted : Nat) (m_dreams : Nat) (m_state : Nat) (m_decided : Nat) (m_slept : Nat) (m_sleptIn : Nat) (m_laid : Nat) (m_laidIn : Nat) (m_sizes : Nat) (m_text : Nat) (m_readStreet : Nat) (m_readBeds : Nat) (m_readLight : Nat) (m_readYes : Nat) (m_readWage : Nat) (m_readNoise : Nat) (m_readMatter : Nat) (m_busy : Nat) (m_taken : Nat) (m_canLow : Nat) (m_canHigh : Nat) (m_ends : Nat) (m_rowWho : Nat) (m_rowWhere : Nat) (m_gotLow : Nat) (m_gotHigh : Nat) (m_made : Nat) (m_oddsBy : Nat) (m_order : Nat) (m_bestOrder : Nat) (m_bestEnds : Nat) (m_stops : Nat) (m_bookDay : Nat) (m_bookWho : Nat) (m_bookWhere : Nat) (m_images : Nat) (m_isKept : Nat) (ii : Int32) : va_W := [(y, .inr (10, [.int 0, .ref m_street, .ref m_beds, .int 0, .ref m_light, .ref m_yes, .ref m_wage, .int 0, .ref m_noiseOf, .int 0, .ref m_matter, .int 0, .int 7, .int (-1), .int 1, .int 0, .int 0, .ref m_counted, .ref m_dreams, .ref m_state, .ref m_decided, .ref m_slept, .ref m_sleptIn, .ref m_laid, .ref m_laidIn, .int 0, .ref m_sizes, .ref m_text, .int 0, .int (-1), .int 0, .long 0, .int 0, .int 0, .int 0, .int 0, .ref m_readStreet, .ref m_readBeds, .int 0, .ref m_readLight, .ref m_readYes, .ref m_readWage, .int 0, .ref m_readNoise, .int 0, .ref m_readMatter, .int 0, .int 0, .int 0, .ref m_busy, .ref m_taken, .ref m_canLow, .ref m_canHigh, .ref m_ends, .ref m_rowWho, .ref m_rowWhere, .ref m_gotLow, .ref m_gotHigh, .ref m_made, .ref m_oddsBy, .int 0, .int 0, .int 0, .ref m_order, .ref m_bestOrder, .ref m_bestEnds, .ref m_stops, .int 0, .ref m_bookDay, .ref m_bookWho, .ref m_bookWhere, .ref m_images, .ref m_isKept])), (m_isKept, .inl (k 2, 2, .inl (fun _ => 0)))]
abbrev r_X10_goBack : Room := { frames := 1, cells := 0, slots := 0, locals := 25 }
abbrev q_X10_goBack (k : Nat → ClassId) (y : Nat) (m_street : Nat) (m_beds : Nat) (m_light : Nat) (m_yes : Nat) (m_wage : Nat) (m_noiseOf : Nat) (m_matter : Nat) (m_counted : Nat) (m_dreams : Nat) (m_state : Nat) (m_decided : Nat) (m_slept : Nat) (m_sleptIn : Nat) (m_laid : Nat) (m_laidIn : Nat) (m_sizes : Nat) (m_text : Nat) (m_readStreet : Nat) (m_readBeds : Nat) (m_readLight : Nat) (m_readYes : Nat) (m_readWage : Nat) (m_readNoise : Nat) (m_readMatter : Nat) (m_busy : Nat) (m_taken : Nat) (m_canLow : Nat) (m_canHigh : Nat) (m_ends : Nat) (m_rowWho : Nat) (m_rowWhere : Nat) (m_gotLow : Nat) (m_gotHigh : Nat) (m_made : Nat) (m_oddsBy : Nat) (m_order : Nat) (m_bestOrder : Nat) (m_bestEnds : Nat) (m_stops : Nat) (m_bookDay : Nat) (m_bookWho : Nat) (m_bookWhere : Nat) (m_images : Nat) (m_isKept : Nat) (ii : Int32) : Array Value → State → Outcome → State → Prop := vp_Si (fun r => r = gbA ii)
set_option maxHeartbeats 2000000 in
set_option maxRecDepth 100000 in
theorem X10_goBack (l : Launch) (D : va_G) (k : Nat → ClassId) (y : Nat) (m_street : Nat) (m_beds : Nat) (m_light : Nat) (m_yes : Nat) (m_wage : Nat) (m_noiseOf : Nat) (m_matter : Nat) (m_counted : Nat) (m_dreams : Nat) (m_state : Nat) (m_decided : Nat) (m_slept : Nat) (m_sleptIn : Nat) (m_laid : Nat) (m_laidIn : Nat) (m_sizes : Nat) (m_text : Nat) (m_readStreet : Nat) (m_readBeds : Nat) (m_readLight : Nat) (m_readYes : Nat) (m_readWage : Nat) (m_readNoise : Nat) (m_readMatter : Nat) (m_busy : Nat) (m_taken : Nat) (m_canLow : Nat) (m_canHigh : Nat) (m_ends : Nat) (m_rowWho : Nat) (m_rowWhere : Nat) (m_gotLow : Nat) (m_gotHigh : Nat) (m_made : Nat) (m_oddsBy : Nat) (m_order : Nat) (m_bestOrder : Nat) (m_bestEnds : Nat) (m_stops : Nat) (m_bookDay : Nat) (m_bookWho : Nat) (m_bookWhere : Nat) (m_images : Nat) (m_isKept : Nat) (ii : Int32)  : Met l yX10_goBack wsX10_goBack r_X10_goBack (va_Pc [.ref y, .int ii] (PS D k (c_X10_goBack k y m_street m_beds m_light m_yes m_wage m_noiseOf m_matter m_counted m_dreams m_state m_decided m_slept m_sleptIn m_laid m_laidIn m_sizes m_text m_readStreet m_readBeds m_readLight m_readYes m_readWage m_readNoise m_readMatter m_busy m_taken m_canLow m_canHigh m_ends m_rowWho m_rowWhere m_gotLow m_gotHigh m_made m_oddsBy m_order m_bestOrder m_bestEnds m_stops m_bookDay m_bookWho m_bookWhere m_images m_isKept ii))) (q_X10_goBack k y m_street m_beds m_light m_yes m_wage m_noiseOf m_matter m_counted m_dreams m_state m_decided m_slept m_sleptIn m_laid m_laidIn m_sizes m_text m_readStreet m_readBeds m_readLight m_readYes m_readWage m_readNoise m_readMatter m_busy m_taken m_canLow m_canHigh m_ends m_rowWho m_rowWhere m_gotLow m_gotHigh m_made m_oddsBy m_order m_bestOrder m_bestEnds m_stops m_bookDay m_bookWho m_bookWhere m_images m_isKept ii) 0 0 (fun _ => False) := by
  refine Met.ofW (cc := cX10_goBack) (maxL := 4) (ret := (some .int)) (by decide) rfl ?_
  intro p e s m args below meth c s₁ B hml hv
  obtain ⟨rfl, hP, hG⟩ := hv
  have hx := B.exec
  have hb := B.bytes
  have hr := B.returns
  have hts := atoms_spec (ws := wsX10_goBack) B.pre
  have hown : s.vm.findClass RX10 = some m.cls := findClass_of_methodNamed B.named
  have hlocks := B.notSynchronized
  have hi10 : ∀ w ∈ wsX100, w ∈ wsX10_goBack := fun _ h => List.mem_cons_of_mem _ (List.mem_append_right _ h)
  have hP : va_P D vwCl [(y, .inr (10, [.int 0, .ref m_street, .ref m_beds, .int 0, .ref m_light, .ref m_yes, .ref m_wage, .int 0, .ref m_noiseOf, .int 0, .ref m_matter, .int 0, .int 7, .int (-1), .int 1, .int 0, .int 0, .ref m_counted, .ref m_dreams, .ref m_state, .ref m_decided, .ref m_slept, .ref m_sleptIn, .ref m_laid, .ref m_laidIn, .int 0, .ref m_sizes, .ref m_text, .int 0, .int (-1), .int 0, .long 0, .int 0, .int 0, .int 0, .int 0, .ref m_readStreet, .ref m_readBeds, .int 0, .ref m_readLight, .ref m_readYes, .ref m_readWage, .int 0, .ref m_readNoise, .int 0, .ref m_readMatter, .int 0, .int 0, .int 0, .ref m_busy, .ref m_taken, .ref m_canLow, .ref m_canHigh, .ref m_ends, .ref m_rowWho, .ref m_rowWhere, .ref m_gotLow, .ref m_gotHigh, .ref m_made, .ref m_oddsBy, .int 0, .int 0, .int 0, .ref m_order, .ref m_bestOrder, .ref m_bestEnds, .ref m_stops, .int 0, .ref m_bookDay, .ref m_bookWho, .ref m_bookWhere, .ref m_images, .ref m_isKept])), (m_isKept, .inl (k 2, 2, .inl (fun _ => 0)))] s.heap := hP
  have hl := lv_entry ([.ref y, .int ii]) (n := 4) (Nat.le_of_ble_eq_true rfl)
  rw [lg_entry_eq]
  generalize (lg_sl ([.ref y, .int ii]) ++ List.replicate (4 - (lg_sl ([.ref y, .int ii])).length) Slot.unset).toArray = ls at hl ⊢
  have hl : lv_has ls 4 [(0, .ref y), (1, .int ii)] := hl
  refine lv_iload_n hx hb dX10_goBack_0 rfl (lv_at hl 1 rfl) ?_
  refine lv_i2l (v := ii.toInt64) hx hb dX10_goBack_1 rfl ?_
  refine lv_lconst (v := 0) hx hb dX10_goBack_2 (by decide) ?_
  refine lv_lconst (v := 1) hx hb dX10_goBack_3 (by decide) ?_
  have hPc := hP.sub (ws' := (c_X10_in k ii.toInt64 0 1)) [] rfl
  refine vp_callSi (va_Run.run (va_runS (As := [.long ii.toInt64, .long 0, .long 1]) (rest := []) ⟨hx, hb, hml, hown, hts⟩ (X10_in l D k ii.toInt64 0 1 ) (va_cwS 3 hts gX10_goBack_X10_in rfl rfl rfl (by decide +kernel) ⟨Nat.le_of_ble_eq_true rfl, Nat.le_of_ble_eq_true rfl⟩) ⟨PS.blind _ _ _ _, PS.pre hPc hG [.long ii.toInt64, .long 0, .long 1]⟩ rfl rfl hl.1 rfl (lv_room (Nat.le_of_ble_eq_true rfl)) dX10_goBack_4 ⟨Nat.le_of_ble_eq_true rfl, Nat.le_of_ble_eq_true rfl⟩)) (fun r hq => ?_)
  generalize r = y1 at hq ⊢
  have hq : y1 = inA ii.toInt64 0 1 := hq
  refine tp_i (y := inA ii.toInt64 0 1) (hq) ?_
  refine lv_if_ne (x := inA ii.toInt64 0 1) (tgt := 14) hx hb dX10_goBack_7 (by decide) (fun c2 => ?_) (fun c2 => ?_)
  · skip
    have h1 := in_ne (a := 0) (b := 1) rfl rfl c2
    have e1 := gb_in h1
    refine lv_aload_n hx hb dX10_goBack_14 rfl (lv_at hl 0 rfl) ?_
    refine va_get (D := D) (ci := 10) (v := .ref m_isKept) (C := RX10) (T := TX10) (N := 73) hx hb hts hi10 hown hG.1 hP 0 rfl rfl 72 (by decide) (hts (.fieldLink RX10 155 "SleptMattersModel" "isKept" "[Z") (List.mem_cons_of_mem _ (List.mem_append_left _ (List.mem_of_getElem? (i := 1) rfl)))) (fun _ h9 => h9) rfl dX10_goBack_15 ?_
    refine lv_iload_n hx hb dX10_goBack_18 rfl (lv_at hl 1 rfl) ?_
    refine va_zald hx hb hG.1 hP 1 2 rfl rfl (in_cmp (N := 2) h1.1 (lt2_of h1.2) (by decide)) dX10_goBack_19 ?_
    refine tp_i (y := 0) (rfl) ?_
    refine lv_if_ne (x := 0) (tgt := 27) hx hb dX10_goBack_20 (by decide) (fun c3 => absurd c3 (by decide)) (fun c3 => ?_)
    refine lv_ldcw (v := (-1000000003)) hx hb hown (hts (.constant RX10 304 (-1000000003)) (List.mem_cons_of_mem _ (List.mem_append_left _ (List.mem_of_getElem? (i := 2) rfl)))) dX10_goBack_23 ?_
    exact W.iret (v := (-1000000003)) hx hb hr (fun t9 ht _ => ⟨(-1000000003), rfl, e1.symm, ht⟩) (fun q h => by cases h) dX10_goBack_26
  · skip
    have e1 := gb_out (in_eq (a := 0) (b := 1) rfl rfl c2)
    refine lv_ldcw (v := (-1000000001)) hx hb hown (hts (.constant RX10 321 (-1000000001)) (List.mem_cons_of_mem _ (List.mem_append_left _ (List.mem_of_getElem? (i := 0) rfl)))) dX10_goBack_10 ?_
    exact W.iret (v := (-1000000001)) hx hb hr (fun t9 ht _ => ⟨(-1000000001), rfl, e1.symm, ht⟩) (fun q h => by cases h) dX10_goBack_13
