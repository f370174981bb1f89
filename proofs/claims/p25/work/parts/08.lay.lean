set_option maxRecDepth 20000 in
theorem ggX2_firstCalmHouse_X8_count : GoodIn wsX2_firstCalmHouse wsX8_count := goodIn_r _ [6, 7, 51, 52, 53, 54, 55] rfl (by decide +kernel)
set_option maxRecDepth 20000 in
theorem gX2_firstCalmHouse_X8_count : GoodIn wsX2_firstCalmHouse (wsV RX2 79 RX8 yX8_count wsX8_count) := goodIn_app (goodIn_of _ (by decide +kernel)) ggX2_firstCalmHouse_X8_count
set_option maxRecDepth 20000 in
theorem ggX2_firstCalmHouse_X8_isWoken : GoodIn wsX2_firstCalmHouse wsX8_isWoken := goodIn_r _ [11, 12, 13, 14, 5, 15, 16, 17, 18, 19, 20, 7, 21, 22, 23, 24, 25, 51, 52, 53, 54, 55] rfl (by decide +kernel)
set_option maxRecDepth 20000 in
theorem gX2_firstCalmHouse_X8_isWoken : GoodIn wsX2_firstCalmHouse (wsV RX2 101 RX8 yX8_isWoken wsX8_isWoken) := goodIn_app (goodIn_of _ (by decide +kernel)) ggX2_firstCalmHouse_X8_isWoken
set_option maxRecDepth 20000 in
theorem ggX2_firstCalmHouse_X2_isHouseFree : GoodIn wsX2_firstCalmHouse wsX2_isHouseFree := goodIn_r _ [30, 31, 32, 33, 34, 35, 36, 37, 29, 38, 39, 40, 13, 14, 5, 15, 16, 17, 18, 19, 20, 7, 41, 42, 43, 44, 45, 46, 47, 48, 49, 50, 51, 52, 53, 54, 55] rfl (by decide +kernel)
set_option maxRecDepth 20000 in
theorem gX2_firstCalmHouse_X2_isHouseFree : GoodIn wsX2_firstCalmHouse (wsV RX2 105 RX2 yX2_isHouseFree wsX2_isHouseFree) := goodIn_app (goodIn_of _ (by decide +kernel)) ggX2_firstCalmHouse_X2_isHouseFree
theorem dX2_firstCalmHouse_0 : decode cX2_firstCalmHouse 0 = .ok (.iconst 0, 1) := dc_Bk (by decide +kernel)
theorem dX2_firstCalmHouse_1 : decode cX2_firstCalmHouse 1 = .ok (.istore 4, 2) := dc_Bk (by decide +kernel)
theorem dX2_firstCalmHouse_3 : decode cX2_firstCalmHouse 3 = .ok (.iload 4, 2) := dc_Bk (by decide +kernel)
theorem dX2_firstCalmHouse_5 : decode cX2_firstCalmHouse 5 = .ok (.aload_n 1, 1) := dc_Bk (by decide +kernel)
theorem dX2_firstCalmHouse_6 : decode cX2_firstCalmHouse 6 = .ok (.iconst 0, 1) := dc_Bk (by decide +kernel)
theorem dX2_firstCalmHouse_7 : decode cX2_firstCalmHouse 7 = .ok (.invokevirtual 79, 3) := dc_Bk (by decide +kernel)
theorem dX2_firstCalmHouse_10 : decode cX2_firstCalmHouse 10 = .ok (.if_icmp .ge 37, 3) := dc_Bk (by decide +kernel)
theorem dX2_firstCalmHouse_13 : decode cX2_firstCalmHouse 13 = .ok (.aload_n 1, 1) := dc_Bk (by decide +kernel)
theorem dX2_firstCalmHouse_14 : decode cX2_firstCalmHouse 14 = .ok (.iload_n 3, 1) := dc_Bk (by decide +kernel)
theorem dX2_firstCalmHouse_15 : decode cX2_firstCalmHouse 15 = .ok (.iload 4, 2) := dc_Bk (by decide +kernel)
theorem dX2_firstCalmHouse_17 : decode cX2_firstCalmHouse 17 = .ok (.aload_n 0, 1) := dc_Bk (by decide +kernel)
theorem dX2_firstCalmHouse_18 : decode cX2_firstCalmHouse 18 = .ok (.getfield 37, 3) := dc_Bk (by decide +kernel)
theorem dX2_firstCalmHouse_21 : decode cX2_firstCalmHouse 21 = .ok (.invokevirtual 101, 3) := dc_Bk (by decide +kernel)
theorem dX2_firstCalmHouse_24 : decode cX2_firstCalmHouse 24 = .ok (.ifCond .ne 17, 3) := dc_Bk (by decide +kernel)
theorem dX2_firstCalmHouse_27 : decode cX2_firstCalmHouse 27 = .ok (.aload_n 0, 1) := dc_Bk (by decide +kernel)
theorem dX2_firstCalmHouse_28 : decode cX2_firstCalmHouse 28 = .ok (.aload_n 1, 1) := dc_Bk (by decide +kernel)
theorem dX2_firstCalmHouse_29 : decode cX2_firstCalmHouse 29 = .ok (.iload_n 2, 1) := dc_Bk (by decide +kernel)
theorem dX2_firstCalmHouse_30 : decode cX2_firstCalmHouse 30 = .ok (.iload 4, 2) := dc_Bk (by decide +kernel)
theorem dX2_firstCalmHouse_32 : decode cX2_firstCalmHouse 32 = .ok (.invokevirtual 105, 3) := dc_Bk (by decide +kernel)
theorem dX2_firstCalmHouse_35 : decode cX2_firstCalmHouse 35 = .ok (.ifCond .eq 6, 3) := dc_Bk (by decide +kernel)
theorem dX2_firstCalmHouse_38 : decode cX2_firstCalmHouse 38 = .ok (.iload 4, 2) := dc_Bk (by decide +kernel)
theorem dX2_firstCalmHouse_40 : decode cX2_firstCalmHouse 40 = .ok (.ireturn, 1) := dc_Bk (by decide +kernel)
theorem dX2_firstCalmHouse_41 : decode cX2_firstCalmHouse 41 = .ok (.iinc 4 1, 3) := dc_Bk (by decide +kernel)
theorem dX2_firstCalmHouse_44 : decode cX2_firstCalmHouse 44 = .ok (.goto (-41), 3) := dc_Bk (by decide +kernel)
theorem dX2_firstCalmHouse_47 : decode cX2_firstCalmHouse 47 = .ok (.iconst (-1), 1) := dc_Bk (by decide +kernel)
theorem dX2_firstCalmHouse_48 : decode cX2_firstCalmHouse 48 = .ok (.ireturn, 1) := dc_Bk (by decide +kernel)
set_option maxRecDepth 20000 in
theorem ggX2_layFirst_X8_count : GoodIn wsX2_layFirst wsX8_count := goodIn_r _ [5, 6, 59, 60, 61, 62, 63] rfl (by decide +kernel)
set_option maxRecDepth 20000 in
theorem gX2_layFirst_X8_count : GoodIn wsX2_layFirst (wsV RX2 79 RX8 yX8_count wsX8_count) := goodIn_app (goodIn_of _ (by decide +kernel)) ggX2_layFirst_X8_count
set_option maxRecDepth 20000 in
theorem ggX2_layFirst_X2_isSleeperFree : GoodIn wsX2_layFirst wsX2_isSleeperFree := goodIn_r _ [11, 12, 13, 14, 15, 16, 17, 18, 10, 19, 20, 64, 65, 66, 67, 68, 69, 70, 71, 72, 73] rfl (by decide +kernel)
set_option maxRecDepth 20000 in
theorem gX2_layFirst_X2_isSleeperFree : GoodIn wsX2_layFirst (wsV RX2 90 RX2 yX2_isSleeperFree wsX2_isSleeperFree) := goodIn_app (goodIn_of _ (by decide +kernel)) ggX2_layFirst_X2_isSleeperFree
set_option maxRecDepth 20000 in
theorem ggX2_layFirst_X2_firstCalmHouse : GoodIn wsX2_layFirst wsX2_firstCalmHouse := goodIn_r _ [24, 25, 1, 2, 3, 4, 5, 6, 26, 27, 28, 29, 30, 31, 32, 33, 34, 35, 36, 37, 38, 39, 40, 41, 42, 43, 44, 45, 46, 10, 47, 48, 13, 14, 15, 49, 50, 51, 52, 53, 54, 64, 65, 66, 67, 68, 69, 70, 71, 72, 73, 59, 60, 61, 62, 63] rfl (by decide +kernel)
set_option maxRecDepth 20000 in
theorem gX2_layFirst_X2_firstCalmHouse : GoodIn wsX2_layFirst (wsV RX2 93 RX2 yX2_firstCalmHouse wsX2_firstCalmHouse) := goodIn_app (goodIn_of _ (by decide +kernel)) ggX2_layFirst_X2_firstCalmHouse
set_option maxRecDepth 20000 in
theorem ggX2_layFirst_X2_layDown : GoodIn wsX2_layFirst wsX2_layDown := goodIn_r _ [58, 20, 53, 64, 65, 66, 67, 68, 69, 70, 71, 72, 73] rfl (by decide +kernel)
set_option maxRecDepth 20000 in
theorem gX2_layFirst_X2_layDown : GoodIn wsX2_layFirst (wsV RX2 97 RX2 yX2_layDown wsX2_layDown) := goodIn_app (goodIn_of _ (by decide +kernel)) ggX2_layFirst_X2_layDown
theorem dX2_layFirst_0 : decode cX2_layFirst 0 = .ok (.iconst 0, 1) := dc_Bk (by decide +kernel)
theorem dX2_layFirst_1 : decode cX2_layFirst 1 = .ok (.istore_n 3, 1) := dc_Bk (by decide +kernel)
theorem dX2_layFirst_2 : decode cX2_layFirst 2 = .ok (.iload_n 3, 1) := dc_Bk (by decide +kernel)
theorem dX2_layFirst_3 : decode cX2_layFirst 3 = .ok (.aload_n 1, 1) := dc_Bk (by decide +kernel)
theorem dX2_layFirst_4 : decode cX2_layFirst 4 = .ok (.iconst 1, 1) := dc_Bk (by decide +kernel)
theorem dX2_layFirst_5 : decode cX2_layFirst 5 = .ok (.invokevirtual 79, 3) := dc_Bk (by decide +kernel)
theorem dX2_layFirst_8 : decode cX2_layFirst 8 = .ok (.if_icmp .ge 46, 3) := dc_Bk (by decide +kernel)
theorem dX2_layFirst_11 : decode cX2_layFirst 11 = .ok (.aload_n 0, 1) := dc_Bk (by decide +kernel)
theorem dX2_layFirst_12 : decode cX2_layFirst 12 = .ok (.iload_n 2, 1) := dc_Bk (by decide +kernel)
theorem dX2_layFirst_13 : decode cX2_layFirst 13 = .ok (.iload_n 3, 1) := dc_Bk (by decide +kernel)
theorem dX2_layFirst_14 : decode cX2_layFirst 14 = .ok (.invokevirtual 90, 3) := dc_Bk (by decide +kernel)
theorem dX2_layFirst_17 : decode cX2_layFirst 17 = .ok (.ifCond .eq 13, 3) := dc_Bk (by decide +kernel)
theorem dX2_layFirst_20 : decode cX2_layFirst 20 = .ok (.aload_n 0, 1) := dc_Bk (by decide +kernel)
theorem dX2_layFirst_21 : decode cX2_layFirst 21 = .ok (.aload_n 1, 1) := dc_Bk (by decide +kernel)
theorem dX2_layFirst_22 : decode cX2_layFirst 22 = .ok (.iload_n 2, 1) := dc_Bk (by decide +kernel)
theorem dX2_layFirst_23 : decode cX2_layFirst 23 = .ok (.iload_n 3, 1) := dc_Bk (by decide +kernel)
theorem dX2_layFirst_24 : decode cX2_layFirst 24 = .ok (.invokevirtual 93, 3) := dc_Bk (by decide +kernel)
theorem dX2_layFirst_27 : decode cX2_layFirst 27 = .ok (.goto 4, 3) := dc_Bk (by decide +kernel)
theorem dX2_layFirst_30 : decode cX2_layFirst 30 = .ok (.iconst (-1), 1) := dc_Bk (by decide +kernel)
theorem dX2_layFirst_31 : decode cX2_layFirst 31 = .ok (.istore 4, 2) := dc_Bk (by decide +kernel)
theorem dX2_layFirst_33 : decode cX2_layFirst 33 = .ok (.iload 4, 2) := dc_Bk (by decide +kernel)
theorem dX2_layFirst_35 : decode cX2_layFirst 35 = .ok (.iconst (-1), 1) := dc_Bk (by decide +kernel)
theorem dX2_layFirst_36 : decode cX2_layFirst 36 = .ok (.if_icmp .eq 12, 3) := dc_Bk (by decide +kernel)
theorem dX2_layFirst_39 : decode cX2_layFirst 39 = .ok (.aload_n 0, 1) := dc_Bk (by decide +kernel)
theorem dX2_layFirst_40 : decode cX2_layFirst 40 = .ok (.iload_n 2, 1) := dc_Bk (by decide +kernel)
theorem dX2_layFirst_41 : decode cX2_layFirst 41 = .ok (.iload_n 3, 1) := dc_Bk (by decide +kernel)
theorem dX2_layFirst_42 : decode cX2_layFirst 42 = .ok (.iload 4, 2) := dc_Bk (by decide +kernel)
theorem dX2_layFirst_44 : decode cX2_layFirst 44 = .ok (.invokevirtual 97, 3) := dc_Bk (by decide +kernel)
theorem dX2_layFirst_47 : decode cX2_layFirst 47 = .ok (.return_, 1) := dc_Bk (by decide +kernel)
theorem dX2_layFirst_48 : decode cX2_layFirst 48 = .ok (.iinc 3 1, 3) := dc_Bk (by decide +kernel)
theorem dX2_layFirst_51 : decode cX2_layFirst 51 = .ok (.goto (-49), 3) := dc_Bk (by decide +kernel)
theorem dX2_layFirst_54 : decode cX2_layFirst 54 = .ok (.return_, 1) := dc_Bk (by decide +kernel)
set_option maxRecDepth 20000 in
theorem ggX2_layByThemselves_X8_count : GoodIn wsX2_layByThemselves wsX8_count := goodIn_r _ [5, 6, 68, 69, 70, 71, 72] rfl (by decide +kernel)
set_option maxRecDepth 20000 in
theorem gX2_layByThemselves_X8_count : GoodIn wsX2_layByThemselves (wsV RX2 79 RX8 yX8_count wsX8_count) := goodIn_app (goodIn_of _ (by decide +kernel)) ggX2_layByThemselves_X8_count
set_option maxRecDepth 20000 in
theorem ggX2_layByThemselves_X2_isMatterFree : GoodIn wsX2_layByThemselves wsX2_isMatterFree := goodIn_r _ [11, 12, 13, 14, 15, 16, 17, 4, 18, 19, 20, 21, 22, 23, 6, 73, 74, 75, 76, 77, 78, 79, 80, 81, 82, 68, 69, 70, 71, 72] rfl (by decide +kernel)
set_option maxRecDepth 20000 in
theorem gX2_layByThemselves_X2_isMatterFree : GoodIn wsX2_layByThemselves (wsV RX2 82 RX2 yX2_isMatterFree wsX2_isMatterFree) := goodIn_app (goodIn_of _ (by decide +kernel)) ggX2_layByThemselves_X2_isMatterFree
set_option maxRecDepth 20000 in
theorem ggX2_layByThemselves_X2_layFirst : GoodIn wsX2_layByThemselves wsX2_layFirst := goodIn_r _ [27, 1, 2, 3, 4, 5, 6, 28, 29, 30, 10, 31, 32, 33, 34, 35, 36, 37, 38, 39, 13, 40, 41, 42, 43, 14, 44, 45, 46, 47, 48, 16, 17, 18, 19, 20, 21, 22, 23, 49, 50, 51, 52, 53, 54, 55, 56, 57, 58, 59, 60, 61, 62, 63, 15, 64, 65, 66, 67, 68, 69, 70, 71, 72, 73, 74, 75, 76, 77, 78, 79, 80, 81, 82] rfl (by decide +kernel)
set_option maxRecDepth 20000 in
theorem gX2_layByThemselves_X2_layFirst : GoodIn wsX2_layByThemselves (wsV RX2 86 RX2 yX2_layFirst wsX2_layFirst) := goodIn_app (goodIn_of _ (by decide +kernel)) ggX2_layByThemselves_X2_layFirst
theorem dX2_layByThemselves_0 : decode cX2_layByThemselves 0 = .ok (.iconst 0, 1) := dc_Bk (by decide +kernel)
theorem dX2_layByThemselves_1 : decode cX2_layByThemselves 1 = .ok (.istore_n 2, 1) := dc_Bk (by decide +kernel)
theorem dX2_layByThemselves_2 : decode cX2_layByThemselves 2 = .ok (.iload_n 2, 1) := dc_Bk (by decide +kernel)
theorem dX2_layByThemselves_3 : decode cX2_layByThemselves 3 = .ok (.aload_n 1, 1) := dc_Bk (by decide +kernel)
theorem dX2_layByThemselves_4 : decode cX2_layByThemselves 4 = .ok (.iconst 3, 1) := dc_Bk (by decide +kernel)
theorem dX2_layByThemselves_5 : decode cX2_layByThemselves 5 = .ok (.invokevirtual 79, 3) := dc_Bk (by decide +kernel)
theorem dX2_layByThemselves_8 : decode cX2_layByThemselves 8 = .ok (.if_icmp .ge 24, 3) := dc_Bk (by decide +kernel)
theorem dX2_layByThemselves_11 : decode cX2_layByThemselves 11 = .ok (.aload_n 0, 1) := dc_Bk (by decide +kernel)
theorem dX2_layByThemselves_12 : decode cX2_layByThemselves 12 = .ok (.aload_n 1, 1) := dc_Bk (by decide +kernel)
theorem dX2_layByThemselves_13 : decode cX2_layByThemselves 13 = .ok (.iload_n 2, 1) := dc_Bk (by decide +kernel)
theorem dX2_layByThemselves_14 : decode cX2_layByThemselves 14 = .ok (.invokevirtual 82, 3) := dc_Bk (by decide +kernel)
theorem dX2_layByThemselves_17 : decode cX2_layByThemselves 17 = .ok (.ifCond .eq 9, 3) := dc_Bk (by decide +kernel)
theorem dX2_layByThemselves_20 : decode cX2_layByThemselves 20 = .ok (.aload_n 0, 1) := dc_Bk (by decide +kernel)
theorem dX2_layByThemselves_21 : decode cX2_layByThemselves 21 = .ok (.aload_n 1, 1) := dc_Bk (by decide +kernel)
theorem dX2_layByThemselves_22 : decode cX2_layByThemselves 22 = .ok (.iload_n 2, 1) := dc_Bk (by decide +kernel)
theorem dX2_layByThemselves_23 : decode cX2_layByThemselves 23 = .ok (.invokevirtual 86, 3) := dc_Bk (by decide +kernel)
theorem dX2_layByThemselves_26 : decode cX2_layByThemselves 26 = .ok (.iinc 2 1, 3) := dc_Bk (by decide +kernel)
theorem dX2_layByThemselves_29 : decode cX2_layByThemselves 29 = .ok (.goto (-27), 3) := dc_Bk (by decide +kernel)
theorem dX2_layByThemselves_32 : decode cX2_layByThemselves 32 = .ok (.return_, 1) := dc_Bk (by decide +kernel)
def fcP (q : Nat → Nat) (G0 G1 lf f1 f6 : Nat → Int32) (dy sa : Int32) (j : Nat) : Nat → Bool := fun i => decide (wkA lf (pt (q 0) G0 (nI i) 0) dy (pt (q 1) G1 sa 0) = 0) && !decide (ihf (f1 j) (nI i) (bfr (pt (q 0) G0 (nI i) 1) f6 (nI i)) = 0)
def fcE (q : Nat → Nat) (G0 G1 lf f1 f6 : Nat → Int32) (dy sa : Int32) (j i : Nat) : Nat := rn (fun z => !fcP q G0 G1 lf f1 f6 dy sa j z) (q 0) i
def fcR (q : Nat → Nat) (G0 G1 lf f1 f6 : Nat → Int32) (dy sa : Int32) (j : Nat) : Int32 := if fcE q G0 G1 lf f1 f6 dy sa j 0 < q 0 then nI (fcE q G0 G1 lf f1 f6 dy sa j 0) else -1
def lfH (q : Nat → Nat) (G0 G1 lf f0 f1 f5 f6 : Nat → Int32) (dy : Int32) (j : Nat) (z : Nat) : Int32 := if isf (f0 j) (nI z) (mof f5 (nI z)) = 0 then -1 else fcR q G0 G1 lf f1 f6 dy (nI z) j
def lfE (q : Nat → Nat) (G0 G1 lf f0 f1 f5 f6 : Nat → Int32) (dy : Int32) (j i : Nat) : Nat := rn (fun z => decide (lfH q G0 G1 lf f0 f1 f5 f6 dy j z = -1)) (q 1) i
def lf5 (q : Nat → Nat) (G0 G1 lf f0 f1 f5 f6 : Nat → Int32) (dy : Int32) (j : Nat) : Nat → Int32 := if lfE q G0 G1 lf f0 f1 f5 f6 dy j 0 < q 1 then upd f5 j (nI (lfE q G0 G1 lf f0 f1 f5 f6 dy j 0)) else f5
def lf6 (q : Nat → Nat) (G0 G1 lf f0 f1 f5 f6 : Nat → Int32) (dy : Int32) (j : Nat) : Nat → Int32 := if lfE q G0 G1 lf f0 f1 f5 f6 dy j 0 < q 1 then upd f6 j (lfH q G0 G1 lf f0 f1 f5 f6 dy j (lfE q G0 G1 lf f0 f1 f5 f6 dy j 0)) else f6
def lbI (q : Nat → Nat) (G0 G1 G3 lf f0 f1 f3 f5 f6 : Nat → Int32) (dy : Int32) : Nat → (Nat → Int32) × (Nat → Int32)
  | 0 => (f5, f6)
  | j + 1 => if imf (f3 j) ((lbI q G0 G1 G3 lf f0 f1 f3 f5 f6 dy j).1 j) dy (pt (q 3) G3 (nI j) 0) = 0 then lbI q G0 G1 G3 lf f0 f1 f3 f5 f6 dy j else (lf5 q G0 G1 lf f0 f1 (lbI q G0 G1 G3 lf f0 f1 f3 f5 f6 dy j).1 (lbI q G0 G1 G3 lf f0 f1 f3 f5 f6 dy j).2 dy j, lf6 q G0 G1 lf f0 f1 (lbI q G0 G1 G3 lf f0 f1 f3 f5 f6 dy j).1 (lbI q G0 G1 G3 lf f0 f1 f3 f5 f6 dy j).2 dy j)
theorem lb_0 {q : Nat → Nat} {G0 G1 G3 lf f0 f1 f3 f5 f6 g5 g6 : Nat → Int32} {dy : Int32} {i : Nat} (he : (g5, g6) = lbI q G0 G1 G3 lf f0 f1 f3 f5 f6 dy i) (h : imf (f3 i) (g5 i) dy (pt (q 3) G3 (nI i) 0) = 0) : (g5, g6) = lbI q G0 G1 G3 lf f0 f1 f3 f5 f6 dy (i + 1) := by
  rw [lbI, ← he]
  exact (if_pos h).symm
theorem lb_1 {q : Nat → Nat} {G0 G1 G3 lf f0 f1 f3 f5 f6 g5 g6 k5 k6 : Nat → Int32} {dy : Int32} {i : Nat} (he : (g5, g6) = lbI q G0 G1 G3 lf f0 f1 f3 f5 f6 dy i) (h : ¬ imf (f3 i) (g5 i) dy (pt (q 3) G3 (nI i) 0) = 0) (e5 : k5 = lf5 q G0 G1 lf f0 f1 g5 g6 dy i) (e6 : k6 = lf6 q G0 G1 lf f0 f1 g5 g6 dy i) : (k5, k6) = lbI q G0 G1 G3 lf f0 f1 f3 f5 f6 dy (i + 1) := by
  rw [lbI, ← he, if_neg h, e5, e6]

abbrev c_X2_firstCalmHouse (k : Nat → ClassId) (h : Nat) (q0 : Nat) (q1 : Nat) (q2 : Nat) (q3 : Nat) (q4 : Nat) (q5 : Nat) (q6 : Nat) (wg : Int32) (dy : Int32) (sd : Int32) (f1 : Nat → Int32) (f6 : Nat → Int32) (t0 : Nat) (t : Nat) (tn : Nat) (tl : Nat) (tc : Nat) (ta : Nat) (rw : Nat → Nat) (q : Nat → Nat) (G0 : Nat → Int32) (G1 : Nat → Int32) (lf : Nat → Int32) (j : Nat) (sa : Int32) : va_W := [(h, .inr (2, [.ref q0, .ref q1, .ref q2, .ref q3, .ref q4, .ref q5, .ref q6, .int wg, .int dy, .int sd])), (q1, .inl (k 0, 3, .inl f1)), (q6, .inl (k 0, 3, .inl f6)), (t0, .inr (8, [.ref t, .ref tn, .ref tl, .ref tc, .ref ta])), (t, .inl (k 0, 4, .inl (cI q))), (tn, .inl (k 4, 4, .inr (.inr (.inr (.inr (gr4 rw)))))), ((rw 0), .inl (k 0, 80, .inl G0)), ((rw 1), .inl (k 0, 80, .inl G1)), (tl, .inl (k 0, 400, .inl lf))]
abbrev r_X2_firstCalmHouse : Room := { frames := 4, cells := 0, slots := 0, locals := 92 }
abbrev q_X2_firstCalmHouse (k : Nat → ClassId) (h : Nat) (q0 : Nat) (q1 : Nat) (q2 : Nat) (q3 : Nat) (q4 : Nat) (q5 : Nat) (q6 : Nat) (wg : Int32) (dy : Int32) (sd : Int32) (f1 : Nat → Int32) (f6 : Nat → Int32) (t0 : Nat) (t : Nat) (tn : Nat) (tl : Nat) (tc : Nat) (ta : Nat) (rw : Nat → Nat) (q : Nat → Nat) (G0 : Nat → Int32) (G1 : Nat → Int32) (lf : Nat → Int32) (j : Nat) (sa : Int32) : Array Value → State → Outcome → State → Prop := vp_Si (fun r => r = fcR q G0 G1 lf f1 f6 dy sa j)
set_option maxHeartbeats 2000000 in
set_option maxRecDepth 100000 in
theorem X2_firstCalmHouse (l : Launch) (D : va_G) (k : Nat → ClassId) (h : Nat) (q0 : Nat) (q1 : Nat) (q2 : Nat) (q3 : Nat) (q4 : Nat) (q5 : Nat) (q6 : Nat) (wg : Int32) (dy : Int32) (sd : Int32) (f1 : Nat → Int32) (f6 : Nat → Int32) (t0 : Nat) (t : Nat) (tn : Nat) (tl : Nat) (tc : Nat) (ta : Nat) (rw : Nat → Nat) (q : Nat → Nat) (G0 : Nat → Int32) (G1 : Nat → Int32) (lf : Nat → Int32) (j : Nat) (sa : Int32) (hq0 : q 0 ≤ 7) (hq1 : q 1 ≤ 7) (hj : j < 3) : Met l yX2_firstCalmHouse wsX2_firstCalmHouse r_X2_firstCalmHouse (va_Pc [.ref h, .ref t0, .int (nI j), .int sa] (PS D k (c_X2_firstCalmHouse k h q0 q1 q2 q3 q4 q5 q6 wg dy sd f1 f6 t0 t tn tl tc ta rw q G0 G1 lf j sa))) (q_X2_firstCalmHouse k h q0 q1 q2 q3 q4 q5 q6 wg dy sd f1 f6 t0 t tn tl tc ta rw q G0 G1 lf j sa) 0 0 (fun _ => False) := by
  refine Met.ofW (cc := cX2_firstCalmHouse) (maxL := 5) (ret := (some .int)) (by decide) rfl ?_
  intro p e s m args below meth c s₁ B hml hv
  obtain ⟨rfl, hP, hG⟩ := hv
  have hx := B.exec
  have hb := B.bytes
  have hr := B.returns
  have hts := atoms_spec (ws := wsX2_firstCalmHouse) B.pre
  have hown : s.vm.findClass RX2 = some m.cls := findClass_of_methodNamed B.named
  have hlocks := B.notSynchronized
  have hi2 : ∀ w ∈ wsX20, w ∈ wsX2_firstCalmHouse := fun _ h => List.mem_cons_of_mem _ (List.mem_append_left _ (List.mem_append_right _ h))
  have hi8 : ∀ w ∈ wsX80, w ∈ wsX2_firstCalmHouse := fun _ h => List.mem_cons_of_mem _ (List.mem_append_right _ h)
  have hP : va_P D vwCl [(h, .inr (2, [.ref q0, .ref q1, .ref q2, .ref q3, .ref q4, .ref q5, .ref q6, .int wg, .int dy, .int sd])), (q1, .inl (k 0, 3, .inl f1)), (q6, .inl (k 0, 3, .inl f6)), (t0, .inr (8, [.ref t, .ref tn, .ref tl, .ref tc, .ref ta])), (t, .inl (k 0, 4, .inl (cI q))), (tn, .inl (k 4, 4, .inr (.inr (.inr (.inr (gr4 rw)))))), ((rw 0), .inl (k 0, 80, .inl G0)), ((rw 1), .inl (k 0, 80, .inl G1)), (tl, .inl (k 0, 400, .inl lf))] s.heap := hP
  have hl := lv_entry ([.ref h, .ref t0, .int (nI j), .int sa]) (n := 5) (Nat.le_of_ble_eq_true rfl)
  rw [lg_entry_eq]
  generalize (lg_sl ([.ref h, .ref t0, .int (nI j), .int sa]) ++ List.replicate (5 - (lg_sl ([.ref h, .ref t0, .int (nI j), .int sa])).length) Slot.unset).toArray = ls at hl ⊢
  have hl : lv_has ls 5 [(0, .ref h), (1, .ref t0), (2, .int (nI j)), (3, .int sa)] := hl
  refine lv_iconst (v := 0) hx hb dX2_firstCalmHouse_0 (by decide) ?_
  refine lv_istore (lv' := [(4, .int 0), (0, .ref h), (1, .ref t0), (2, .int (nI j)), (3, .int sa)]) hx hb dX2_firstCalmHouse_1 hl (by decide) rfl (fun ls hl => ?_)
  have L1 : ∀ (fu9 : Nat) (i : Nat), (i ≤ q 0) → (fcE q G0 G1 lf f1 f6 dy sa j i = fcE q G0 G1 lf f1 f6 dy sa j 0) → q 0 - i < fu9 → ∀ (ls : Array Slot), lv_has ls 5 [(4, .int (nI i)), (0, .ref h), (1, .ref t0), (2, .int (nI j)), (3, .int sa)] → W p l e r_X2_firstCalmHouse s m ([.ref h, .ref t0, .int (nI j), .int sa] : List Value).toArray below meth c s.heap [] 0 0 (MQ below (q_X2_firstCalmHouse k h q0 q1 q2 q3 q4 q5 q6 wg dy sd f1 f6 t0 t tn tl tc ta rw q G0 G1 lf j sa) ([.ref h, .ref t0, .int (nI j), .int sa] : List Value).toArray s 0 0 (fun _ => False)) (F0 m 3 ls []) := by
    intro fu9
    induction fu9 with
    | zero => intro i hi he hmu; exact absurd hmu (Nat.not_lt_zero _)
    | succ fu9 ih =>
      intro i hi he hmu ls hl
      refine lv_iload hx hb dX2_firstCalmHouse_3 (lv_at hl 0 rfl) ?_
      refine lv_aload_n hx hb dX2_firstCalmHouse_5 rfl (lv_at hl 2 rfl) ?_
      refine lv_iconst (v := 0) hx hb dX2_firstCalmHouse_6 (by decide) ?_
      have hPc := hP.sub (ws' := (c_X8_count k t0 t tn tl tc ta q 0)) [3, 4] rfl
      refine vp_callSi (va_Run.run (va_runV (As := [.int 0]) (rest := [.int (nI i)]) ⟨hx, hb, hml, hown, hts⟩ (X8_count l D k t0 t tn tl tc ta q 0 (by decide)) (cwV 1 hts gX2_firstCalmHouse_X8_count rfl rfl rfl (by decide +kernel) ⟨Nat.le_of_ble_eq_true rfl, Nat.le_of_ble_eq_true rfl⟩) ⟨PS.blind _ _ _ _, va_recv hG.1 hP (ci := 8) (q0 := 3) rfl rfl, PS.pre hPc hG [.ref t0, .int 0]⟩ rfl rfl hl.1 rfl (lv_room (Nat.le_of_ble_eq_true rfl)) dX2_firstCalmHouse_7 ⟨Nat.le_of_ble_eq_true rfl, Nat.le_of_ble_eq_true rfl⟩)) (fun r hq => ?_)
      generalize r = y2 at hq ⊢
      have hq : y2 = nI (q 0) := hq
      refine tp_i (y := nI (q 0)) (hq) ?_
      refine bn_ge (i := i) (j := (q 0)) (tgt := 47) hx hb dX2_firstCalmHouse_10 (by decide) (by omega) (by omega) (fun c3 => ?_) (fun c3 => ?_)
      · skip
        have e8 : fcE q G0 G1 lf f1 f6 dy sa j i = i := rn_stop (fun hh => by have := hh.1; omega)
        have e7 : fcR q G0 G1 lf f1 f6 dy sa j = -1 := if_neg (by rw [← he, e8]; omega)
        refine lv_iconst (v := (-1)) hx hb dX2_firstCalmHouse_47 (by decide) ?_
        exact W.iret (v := (-1)) hx hb hr (fun t9 ht _ => ⟨(-1), rfl, e7.symm, ht⟩) (fun q h => by cases h) dX2_firstCalmHouse_48
      · skip
        refine lv_aload_n hx hb dX2_firstCalmHouse_13 rfl (lv_at hl 2 rfl) ?_
        refine lv_iload_n hx hb dX2_firstCalmHouse_14 rfl (lv_at hl 4 rfl) ?_
        refine lv_iload hx hb dX2_firstCalmHouse_15 (lv_at hl 0 rfl) ?_
        refine lv_aload_n hx hb dX2_firstCalmHouse_17 rfl (lv_at hl 1 rfl) ?_
        refine va_get (D := D) (ci := 2) (v := .int dy) (C := RX2) (T := TX2) (N := 10) hx hb hts hi2 hown hG.1 hP 0 rfl rfl 8 (by decide) (hts (.fieldLink RX2 37 "SleptMatters$Course" "day" "I") (List.mem_cons_of_mem _ (List.mem_append_left _ (List.mem_append_left _ (List.mem_append_left _ (List.mem_of_getElem? (i := 0) rfl)))))) (fun _ h9 => h9) rfl dX2_firstCalmHouse_18 ?_
        have hPc := hP.sub (ws' := (c_X8_isWoken k t0 t tn tl tc ta rw q G0 G1 lf sa (nI i) dy)) [3, 4, 5, 6, 7, 8] rfl
        refine vp_callSi (va_Run.run (va_runV (As := [.int sa, .int (nI i), .int dy]) (rest := []) ⟨hx, hb, hml, hown, hts⟩ (X8_isWoken l D k t0 t tn tl tc ta rw q G0 G1 lf sa (nI i) dy (hq0) (hq1)) (cwV 3 hts gX2_firstCalmHouse_X8_isWoken rfl rfl rfl (by decide +kernel) ⟨Nat.le_of_ble_eq_true rfl, Nat.le_of_ble_eq_true rfl⟩) ⟨PS.blind _ _ _ _, va_recv hG.1 hP (ci := 8) (q0 := 3) rfl rfl, PS.pre hPc hG [.ref t0, .int sa, .int (nI i), .int dy]⟩ rfl rfl hl.1 rfl (lv_room (Nat.le_of_ble_eq_true rfl)) dX2_firstCalmHouse_21 ⟨Nat.le_of_ble_eq_true rfl, Nat.le_of_ble_eq_true rfl⟩)) (fun r hq => ?_)
        generalize r = y4 at hq ⊢
        have hq : y4 = wkA lf (pt (q 0) G0 (nI i) 0) dy (pt (q 1) G1 sa 0) := hq
        refine tp_i (y := wkA lf (pt (q 0) G0 (nI i) 0) dy (pt (q 1) G1 sa 0)) (hq) ?_
        refine lv_if_ne (x := wkA lf (pt (q 0) G0 (nI i) 0) dy (pt (q 1) G1 sa 0)) (tgt := 41) hx hb dX2_firstCalmHouse_24 (by decide) (fun c5 => ?_) (fun c5 => ?_)
        · skip
          have e9 : (fun z => !fcP q G0 G1 lf f1 f6 dy sa j z) i = true := by show (!(decide _ && !decide _)) = true; simp [c5]
          refine lv_iinc (v := nI (i + 1)) (lv' := [(4, .int (nI (i + 1))), (0, .ref h), (1, .ref t0), (2, .int (nI j)), (3, .int sa)]) hx hb dX2_firstCalmHouse_41 hl (k := 0) rfl (nI_add i 1) (by decide) rfl (fun ls hl => ?_)
          refine lv_goto (tgt := 3) hx hb dX2_firstCalmHouse_44 (by decide) ?_
          exact ih (i + 1) (by omega) ((rn_step (by omega) e9).symm.trans he) (by omega) ls (lv_sub hl [0, 1, 2, 3, 4] rfl)
        · skip
          have k1 := c5
          refine lv_aload_n hx hb dX2_firstCalmHouse_27 rfl (lv_at hl 1 rfl) ?_
          refine lv_aload_n hx hb dX2_firstCalmHouse_28 rfl (lv_at hl 2 rfl) ?_
          refine lv_iload_n hx hb dX2_firstCalmHouse_29 rfl (lv_at hl 3 rfl) ?_
          refine lv_iload hx hb dX2_firstCalmHouse_30 (lv_at hl 0 rfl) ?_
          have hPc := hP.sub (ws' := (c_X2_isHouseFree k h q0 q1 q2 q3 q4 q5 q6 wg dy sd f1 f6 t0 t tn tl tc ta rw q G0 j (nI i))) [0, 1, 2, 3, 4, 5, 6] rfl
          refine vp_callSi (va_Run.run (va_runV (As := [.ref t0, .int (nI j), .int (nI i)]) (rest := []) ⟨hx, hb, hml, hown, hts⟩ (X2_isHouseFree l D k h q0 q1 q2 q3 q4 q5 q6 wg dy sd f1 f6 t0 t tn tl tc ta rw q G0 j (nI i) (hq0) (hj)) (cwV 3 hts gX2_firstCalmHouse_X2_isHouseFree rfl rfl rfl (by decide +kernel) ⟨Nat.le_of_ble_eq_true rfl, Nat.le_of_ble_eq_true rfl⟩) ⟨PS.blind _ _ _ _, va_recv hG.1 hP (ci := 2) (q0 := 0) rfl rfl, PS.pre hPc hG [.ref h, .ref t0, .int (nI j), .int (nI i)]⟩ rfl rfl hl.1 rfl (lv_room (Nat.le_of_ble_eq_true rfl)) dX2_firstCalmHouse_32 ⟨Nat.le_of_ble_eq_true rfl, Nat.le_of_ble_eq_true rfl⟩)) (fun r hq => ?_)
          generalize r = y6 at hq ⊢
          have hq : y6 = ihf (f1 j) (nI i) (bfr (pt (q 0) G0 (nI i) 1) f6 (nI i)) := hq
          refine tp_i (y := ihf (f1 j) (nI i) (bfr (pt (q 0) G0 (nI i) 1) f6 (nI i))) (hq) ?_
          refine lv_if_eq (x := ihf (f1 j) (nI i) (bfr (pt (q 0) G0 (nI i) 1) f6 (nI i))) (tgt := 41) hx hb dX2_firstCalmHouse_35 (by decide) (fun c7 => ?_) (fun c7 => ?_)
          · skip
            have e9 : (fun z => !fcP q G0 G1 lf f1 f6 dy sa j z) i = true := by show (!(decide _ && !decide _)) = true; simp [c7]
            refine lv_iinc (v := nI (i + 1)) (lv' := [(4, .int (nI (i + 1))), (0, .ref h), (1, .ref t0), (2, .int (nI j)), (3, .int sa)]) hx hb dX2_firstCalmHouse_41 hl (k := 0) rfl (nI_add i 1) (by decide) rfl (fun ls hl => ?_)
            refine lv_goto (tgt := 3) hx hb dX2_firstCalmHouse_44 (by decide) ?_
            exact ih (i + 1) (by omega) ((rn_step (by omega) e9).symm.trans he) (by omega) ls (lv_sub hl [0, 1, 2, 3, 4] rfl)
          · skip
            have e8 : fcE q G0 G1 lf f1 f6 dy sa j i = i := rn_stop (fun hh => by have h2 : (!(decide _ && !decide _)) = true := hh.2; simp [k1, c7] at h2)
            have e7 : fcR q G0 G1 lf f1 f6 dy sa j = nI i := by unfold fcR; rw [← he, e8]; exact if_pos (by omega)
            refine lv_iload hx hb dX2_firstCalmHouse_38 (lv_at hl 0 rfl) ?_
            exact W.iret (v := nI i) hx hb hr (fun t9 ht _ => ⟨nI i, rfl, e7.symm, ht⟩) (fun q h => by cases h) dX2_firstCalmHouse_40
  exact L1 _ 0 (Nat.zero_le _) (rfl) (Nat.lt_succ_self _) ls (lv_sub hl [0, 1, 2, 3, 4] rfl)

abbrev c_X2_layFirst (k : Nat → ClassId) (h : Nat) (q0 : Nat) (q1 : Nat) (q2 : Nat) (q3 : Nat) (q4 : Nat) (q5 : Nat) (q6 : Nat) (wg : Int32) (dy : Int32) (sd : Int32) (f0 : Nat → Int32) (f1 : Nat → Int32) (f5 : Nat → Int32) (f6 : Nat → Int32) (t0 : Nat) (t : Nat) (tn : Nat) (tl : Nat) (tc : Nat) (ta : Nat) (rw : Nat → Nat) (q : Nat → Nat) (G0 : Nat → Int32) (G1 : Nat → Int32) (lf : Nat → Int32) (j : Nat) : va_W := [(h, .inr (2, [.ref q0, .ref q1, .ref q2, .ref q3, .ref q4, .ref q5, .ref q6, .int wg, .int dy, .int sd])), (q0, .inl (k 0, 3, .inl f0)), (q1, .inl (k 0, 3, .inl f1)), (q5, .inl (k 0, 3, .inl f5)), (q6, .inl (k 0, 3, .inl f6)), (t0, .inr (8, [.ref t, .ref tn, .ref tl, .ref tc, .ref ta])), (t, .inl (k 0, 4, .inl (cI q))), (tn, .inl (k 4, 4, .inr (.inr (.inr (.inr (gr4 rw)))))), ((rw 0), .inl (k 0, 80, .inl G0)), ((rw 1), .inl (k 0, 80, .inl G1)), (tl, .inl (k 0, 400, .inl lf))]
abbrev r_X2_layFirst : Room := { frames := 5, cells := 0, slots := 0, locals := 116 }
def w_X2_layFirst (k : Nat → ClassId) (h : Nat) (q0 : Nat) (q1 : Nat) (q2 : Nat) (q3 : Nat) (q4 : Nat) (q5 : Nat) (q6 : Nat) (wg : Int32) (dy : Int32) (sd : Int32) (f0 : Nat → Int32) (f1 : Nat → Int32) (f5 : Nat → Int32) (f6 : Nat → Int32) (t0 : Nat) (t : Nat) (tn : Nat) (tl : Nat) (tc : Nat) (ta : Nat) (rw : Nat → Nat) (q : Nat → Nat) (G0 : Nat → Int32) (G1 : Nat → Int32) (lf : Nat → Int32) (j : Nat) : (Nat → Int32) × (Nat → Int32) → va_W := fun u => match u with | (g5, g6) => [(h, .inr (2, [.ref q0, .ref q1, .ref q2, .ref q3, .ref q4, .ref q5, .ref q6, .int wg, .int dy, .int sd])), (q0, .inl (k 0, 3, .inl f0)), (q1, .inl (k 0, 3, .inl f1)), (q5, .inl (k 0, 3, .inl g5)), (q6, .inl (k 0, 3, .inl g6)), (t0, .inr (8, [.ref t, .ref tn, .ref tl, .ref tc, .ref ta])), (t, .inl (k 0, 4, .inl (cI q))), (tn, .inl (k 4, 4, .inr (.inr (.inr (.inr (gr4 rw)))))), ((rw 0), .inl (k 0, 80, .inl G0)), ((rw 1), .inl (k 0, 80, .inl G1)), (tl, .inl (k 0, 400, .inl lf))]
def p_X2_layFirst (k : Nat → ClassId) (h : Nat) (q0 : Nat) (q1 : Nat) (q2 : Nat) (q3 : Nat) (q4 : Nat) (q5 : Nat) (q6 : Nat) (wg : Int32) (dy : Int32) (sd : Int32) (f0 : Nat → Int32) (f1 : Nat → Int32) (f5 : Nat → Int32) (f6 : Nat → Int32) (t0 : Nat) (t : Nat) (tn : Nat) (tl : Nat) (tc : Nat) (ta : Nat) (rw : Nat → Nat) (q : Nat → Nat) (G0 : Nat → Int32) (G1 : Nat → Int32) (lf : Nat → Int32) (j : Nat) : (Nat → Int32) × (Nat → Int32) → Prop := fun (u : (Nat → Int32) × (Nat → Int32)) => match u with | (g5, g6) => g5 = lf5 q G0 G1 lf f0 f1 f5 f6 dy j ∧ g6 = lf6 q G0 G1 lf f0 f1 f5 f6 dy j
abbrev q_X2_layFirst (D : va_G) (k : Nat → ClassId) (h : Nat) (q0 : Nat) (q1 : Nat) (q2 : Nat) (q3 : Nat) (q4 : Nat) (q5 : Nat) (q6 : Nat) (wg : Int32) (dy : Int32) (sd : Int32) (f0 : Nat → Int32) (f1 : Nat → Int32) (f5 : Nat → Int32) (f6 : Nat → Int32) (t0 : Nat) (t : Nat) (tn : Nat) (tl : Nat) (tc : Nat) (ta : Nat) (rw : Nat → Nat) (q : Nat → Nat) (G0 : Nat → Int32) (G1 : Nat → Int32) (lf : Nat → Int32) (j : Nat) (A : Nat → Prop) : Array Value → State → Outcome → State → Prop := va_Qv (p_X2_layFirst k h q0 q1 q2 q3 q4 q5 q6 wg dy sd f0 f1 f5 f6 t0 t tn tl tc ta rw q G0 G1 lf j) (fun u9 t9 => BO D (w_X2_layFirst k h q0 q1 q2 q3 q4 q5 q6 wg dy sd f0 f1 f5 f6 t0 t tn tl tc ta rw q G0 G1 lf j u9) A t9) A
set_option maxHeartbeats 2000000 in
set_option maxRecDepth 100000 in
theorem X2_layFirst (l : Launch) (D : va_G) (k : Nat → ClassId) (sz : Nat) (h : Nat) (q0 : Nat) (q1 : Nat) (q2 : Nat) (q3 : Nat) (q4 : Nat) (q5 : Nat) (q6 : Nat) (wg : Int32) (dy : Int32) (sd : Int32) (f0 : Nat → Int32) (f1 : Nat → Int32) (f5 : Nat → Int32) (f6 : Nat → Int32) (t0 : Nat) (t : Nat) (tn : Nat) (tl : Nat) (tc : Nat) (ta : Nat) (rw : Nat → Nat) (q : Nat → Nat) (G0 : Nat → Int32) (G1 : Nat → Int32) (lf : Nat → Int32) (j : Nat) (hq0 : q 0 ≤ 7) (hq1 : q 1 ≤ 7) (hj : j < 3) : Met l yX2_layFirst wsX2_layFirst r_X2_layFirst (va_Pc [.ref h, .ref t0, .int (nI j)] (PR D k (c_X2_layFirst k h q0 q1 q2 q3 q4 q5 q6 wg dy sd f0 f1 f5 f6 t0 t tn tl tc ta rw q G0 G1 lf j) sz)) (q_X2_layFirst D k h q0 q1 q2 q3 q4 q5 q6 wg dy sd f0 f1 f5 f6 t0 t tn tl tc ta rw q G0 G1 lf j (va_A (c_X2_layFirst k h q0 q1 q2 q3 q4 q5 q6 wg dy sd f0 f1 f5 f6 t0 t tn tl tc ta rw q G0 G1 lf j) sz)) 0 0 (va_A (c_X2_layFirst k h q0 q1 q2 q3 q4 q5 q6 wg dy sd f0 f1 f5 f6 t0 t tn tl tc ta rw q G0 G1 lf j) sz) := by
  refine Met.ofW (cc := cX2_layFirst) (maxL := 5) (ret := none) (by decide) rfl ?_
  intro p e s m args below meth c s₁ B hml hv
  obtain ⟨rfl, hsz, hP, hG, hD0⟩ := hv
  have hx := B.exec
  have hb := B.bytes
  have hr := B.returns
  have hts := atoms_spec (ws := wsX2_layFirst) B.pre
  have hown : s.vm.findClass RX2 = some m.cls := findClass_of_methodNamed B.named
  have hlocks := B.notSynchronized
  have hi8 : ∀ w ∈ wsX80, w ∈ wsX2_layFirst := fun _ h => List.mem_cons_of_mem _ (List.mem_append_left _ (List.mem_append_right _ h))
  have hi2 : ∀ w ∈ wsX20, w ∈ wsX2_layFirst := fun _ h => List.mem_cons_of_mem _ (List.mem_append_right _ h)
  subst hsz
  have hD := hD0.self (sz := s.heap.size)
  generalize hAe : va_A (c_X2_layFirst k h q0 q1 q2 q3 q4 q5 q6 wg dy sd f0 f1 f5 f6 t0 t tn tl tc ta rw q G0 G1 lf j) s.heap.size = A at hD ⊢
  have hA : ∀ q : Nat, s.heap.size ≤ q → A q := fun q h => by rw [← hAe]; exact Or.inr h
  have hS : va_S A s.heap s.heap [] := va_S.rf
  have hP : va_P D vwCl [(h, .inr (2, [.ref q0, .ref q1, .ref q2, .ref q3, .ref q4, .ref q5, .ref q6, .int wg, .int dy, .int sd])), (q0, .inl (k 0, 3, .inl f0)), (q1, .inl (k 0, 3, .inl f1)), (q5, .inl (k 0, 3, .inl f5)), (q6, .inl (k 0, 3, .inl f6)), (t0, .inr (8, [.ref t, .ref tn, .ref tl, .ref tc, .ref ta])), (t, .inl (k 0, 4, .inl (cI q))), (tn, .inl (k 4, 4, .inr (.inr (.inr (.inr (gr4 rw)))))), ((rw 0), .inl (k 0, 80, .inl G0)), ((rw 1), .inl (k 0, 80, .inl G1)), (tl, .inl (k 0, 400, .inl lf))] s.heap := hP
  have hD : va_D A [(h, .inr (2, [.ref q0, .ref q1, .ref q2, .ref q3, .ref q4, .ref q5, .ref q6, .int wg, .int dy, .int sd])), (q0, .inl (k 0, 3, .inl f0)), (q1, .inl (k 0, 3, .inl f1)), (q5, .inl (k 0, 3, .inl f5)), (q6, .inl (k 0, 3, .inl f6)), (t0, .inr (8, [.ref t, .ref tn, .ref tl, .ref tc, .ref ta])), (t, .inl (k 0, 4, .inl (cI q))), (tn, .inl (k 4, 4, .inr (.inr (.inr (.inr (gr4 rw)))))), ((rw 0), .inl (k 0, 80, .inl G0)), ((rw 1), .inl (k 0, 80, .inl G1)), (tl, .inl (k 0, 400, .inl lf))] := hD
  have hl := lv_entry ([.ref h, .ref t0, .int (nI j)]) (n := 5) (Nat.le_of_ble_eq_true rfl)
  rw [lg_entry_eq]
  generalize (lg_sl ([.ref h, .ref t0, .int (nI j)]) ++ List.replicate (5 - (lg_sl ([.ref h, .ref t0, .int (nI j)])).length) Slot.unset).toArray = ls at hl ⊢
  have hl : lv_has ls 5 [(0, .ref h), (1, .ref t0), (2, .int (nI j))] := hl
  refine lv_iconst (v := 0) hx hb dX2_layFirst_0 (by decide) ?_
  refine lv_istore_n (lv' := [(3, .int 0), (0, .ref h), (1, .ref t0), (2, .int (nI j))]) hx hb dX2_layFirst_1 rfl hl (by decide) rfl (fun ls hl => ?_)
  have L1 : ∀ (fu9 : Nat) (i : Nat), (i ≤ q 1) → (lfE q G0 G1 lf f0 f1 f5 f6 dy j i = lfE q G0 G1 lf f0 f1 f5 f6 dy j 0) → q 1 - i < fu9 → ∀ (H : Heap) (locs : List Loc), va_P D vwCl [(h, .inr (2, [.ref q0, .ref q1, .ref q2, .ref q3, .ref q4, .ref q5, .ref q6, .int wg, .int dy, .int sd])), (q0, .inl (k 0, 3, .inl f0)), (q1, .inl (k 0, 3, .inl f1)), (q5, .inl (k 0, 3, .inl f5)), (q6, .inl (k 0, 3, .inl f6)), (t0, .inr (8, [.ref t, .ref tn, .ref tl, .ref tc, .ref ta])), (t, .inl (k 0, 4, .inl (cI q))), (tn, .inl (k 4, 4, .inr (.inr (.inr (.inr (gr4 rw)))))), ((rw 0), .inl (k 0, 80, .inl G0)), ((rw 1), .inl (k 0, 80, .inl G1)), (tl, .inl (k 0, 400, .inl lf))] H → va_D A [(h, .inr (2, [.ref q0, .ref q1, .ref q2, .ref q3, .ref q4, .ref q5, .ref q6, .int wg, .int dy, .int sd])), (q0, .inl (k 0, 3, .inl f0)), (q1, .inl (k 0, 3, .inl f1)), (q5, .inl (k 0, 3, .inl f5)), (q6, .inl (k 0, 3, .inl f6)), (t0, .inr (8, [.ref t, .ref tn, .ref tl, .ref tc, .ref ta])), (t, .inl (k 0, 4, .inl (cI q))), (tn, .inl (k 4, 4, .inr (.inr (.inr (.inr (gr4 rw)))))), ((rw 0), .inl (k 0, 80, .inl G0)), ((rw 1), .inl (k 0, 80, .inl G1)), (tl, .inl (k 0, 400, .inl lf))] → va_S A s.heap H locs → ∀ (ls : Array Slot), lv_has ls 5 [(3, .int (nI i)), (0, .ref h), (1, .ref t0), (2, .int (nI j))] → W p l e r_X2_layFirst s m ([.ref h, .ref t0, .int (nI j)] : List Value).toArray below meth c H locs 0 0 (MQ below (q_X2_layFirst D k h q0 q1 q2 q3 q4 q5 q6 wg dy sd f0 f1 f5 f6 t0 t tn tl tc ta rw q G0 G1 lf j A) ([.ref h, .ref t0, .int (nI j)] : List Value).toArray s 0 0 A) (F0 m 2 ls []) := by
    intro fu9
    induction fu9 with
    | zero => intro i hi he hmu; exact absurd hmu (Nat.not_lt_zero _)
    | succ fu9 ih =>
      intro i hi he hmu H locs hP hD hS ls hl
      refine lv_iload_n hx hb dX2_layFirst_2 rfl (lv_at hl 0 rfl) ?_
      refine lv_aload_n hx hb dX2_layFirst_3 rfl (lv_at hl 2 rfl) ?_
      refine lv_iconst (v := 1) hx hb dX2_layFirst_4 (by decide) ?_
      have hPc := hP.sub (ws' := (c_X8_count k t0 t tn tl tc ta q 1)) [5, 6] rfl
      refine vp_callSi (va_Run.run (va_runV (As := [.int 1]) (rest := [.int (nI i)]) ⟨hx, hb, hml, hown, hts⟩ (X8_count l D k t0 t tn tl tc ta q 1 (by decide)) (cwV 1 hts gX2_layFirst_X8_count rfl rfl rfl (by decide +kernel) ⟨Nat.le_of_ble_eq_true rfl, Nat.le_of_ble_eq_true rfl⟩) ⟨PS.blind _ _ _ _, va_recv hG.1 hP (ci := 8) (q0 := 5) rfl rfl, PS.pre hPc hG [.ref t0, .int 1]⟩ rfl rfl hl.1 rfl (lv_room (Nat.le_of_ble_eq_true rfl)) dX2_layFirst_5 ⟨Nat.le_of_ble_eq_true rfl, Nat.le_of_ble_eq_true rfl⟩)) (fun r hq => ?_)
      generalize r = y2 at hq ⊢
      have hq : y2 = nI (q 1) := hq
      refine tp_i (y := nI (q 1)) (hq) ?_
      refine bn_ge (i := i) (j := (q 1)) (tgt := 54) hx hb dX2_layFirst_8 (by decide) (by omega) (by omega) (fun c3 => ?_) (fun c3 => ?_)
      · skip
        have e8 : lfE q G0 G1 lf f0 f1 f5 f6 dy j i = i := rn_stop (fun hh => by have := hh.1; omega)
        have e7 : ¬ lfE q G0 G1 lf f0 f1 f5 f6 dy j 0 < q 1 := by rw [← he, e8]; omega
        have hP9 := hP.sub (ws' := [(h, .inr (2, [.ref q0, .ref q1, .ref q2, .ref q3, .ref q4, .ref q5, .ref q6, .int wg, .int dy, .int sd])), (q0, .inl (k 0, 3, .inl f0)), (q1, .inl (k 0, 3, .inl f1)), (q5, .inl (k 0, 3, .inl f5)), (q6, .inl (k 0, 3, .inl f6)), (t0, .inr (8, [.ref t, .ref tn, .ref tl, .ref tc, .ref ta])), (t, .inl (k 0, 4, .inl (cI q))), (tn, .inl (k 4, 4, .inr (.inr (.inr (.inr (gr4 rw)))))), ((rw 0), .inl (k 0, 80, .inl G0)), ((rw 1), .inl (k 0, 80, .inl G1)), (tl, .inl (k 0, 400, .inl lf))]) [0, 1, 2, 3, 4, 5, 6, 7, 8, 9, 10] rfl
        have hD9 := hD.sub (ws' := [(h, .inr (2, [.ref q0, .ref q1, .ref q2, .ref q3, .ref q4, .ref q5, .ref q6, .int wg, .int dy, .int sd])), (q0, .inl (k 0, 3, .inl f0)), (q1, .inl (k 0, 3, .inl f1)), (q5, .inl (k 0, 3, .inl f5)), (q6, .inl (k 0, 3, .inl f6)), (t0, .inr (8, [.ref t, .ref tn, .ref tl, .ref tc, .ref ta])), (t, .inl (k 0, 4, .inl (cI q))), (tn, .inl (k 4, 4, .inr (.inr (.inr (.inr (gr4 rw)))))), ((rw 0), .inl (k 0, 80, .inl G0)), ((rw 1), .inl (k 0, 80, .inl G1)), (tl, .inl (k 0, 400, .inl lf))]) [0, 1, 2, 3, 4, 5, 6, 7, 8, 9, 10] (by decide +kernel) rfl
        exact W.vret hx hb hr (fun t9 ht _ => ⟨⟨(f5, f6), rfl, ⟨(if_neg e7).symm, (if_neg e7).symm⟩, by rw [ht]; exact hP9, hD9⟩, hS.F ht⟩) hS.2.2 dX2_layFirst_54
      · skip
        refine lv_aload_n hx hb dX2_layFirst_11 rfl (lv_at hl 1 rfl) ?_
        refine lv_iload_n hx hb dX2_layFirst_12 rfl (lv_at hl 3 rfl) ?_
        refine lv_iload_n hx hb dX2_layFirst_13 rfl (lv_at hl 0 rfl) ?_
        have hPc := hP.sub (ws' := (c_X2_isSleeperFree k h q0 q1 q2 q3 q4 q5 q6 wg dy sd f0 f5 j (nI i))) [0, 1, 3] rfl
        refine vp_callSi (va_Run.run (va_runV (As := [.int (nI j), .int (nI i)]) (rest := []) ⟨hx, hb, hml, hown, hts⟩ (X2_isSleeperFree l D k h q0 q1 q2 q3 q4 q5 q6 wg dy sd f0 f5 j (nI i) (hj)) (cwV 2 hts gX2_layFirst_X2_isSleeperFree rfl rfl rfl (by decide +kernel) ⟨Nat.le_of_ble_eq_true rfl, Nat.le_of_ble_eq_true rfl⟩) ⟨PS.blind _ _ _ _, va_recv hG.1 hP (ci := 2) (q0 := 0) rfl rfl, PS.pre hPc hG [.ref h, .int (nI j), .int (nI i)]⟩ rfl rfl hl.1 rfl (lv_room (Nat.le_of_ble_eq_true rfl)) dX2_layFirst_14 ⟨Nat.le_of_ble_eq_true rfl, Nat.le_of_ble_eq_true rfl⟩)) (fun r hq => ?_)
        generalize r = y4 at hq ⊢
        have hq : y4 = isf (f0 j) (nI i) (mof f5 (nI i)) := hq
        refine tp_i (y := isf (f0 j) (nI i) (mof f5 (nI i))) (hq) ?_
        refine lv_if_eq (x := isf (f0 j) (nI i) (mof f5 (nI i))) (tgt := 30) hx hb dX2_layFirst_17 (by decide) (fun c5 => ?_) (fun c5 => ?_)
        · skip
          have hH : lfH q G0 G1 lf f0 f1 f5 f6 dy j i = -1 := if_pos c5
          refine lv_iconst (v := (-1)) hx hb dX2_layFirst_30 (by decide) ?_
          refine lv_istore (lv' := [(4, .int (-1)), (3, .int (nI i)), (0, .ref h), (1, .ref t0), (2, .int (nI j))]) hx hb dX2_layFirst_31 hl (by decide) rfl (fun ls hl => ?_)
          refine lv_iload hx hb dX2_layFirst_33 (lv_at hl 0 rfl) ?_
          refine lv_iconst (v := (-1)) hx hb dX2_layFirst_35 (by decide) ?_
          refine lv_icmp_eq (x := (-1)) (y := (-1)) (tgt := 48) hx hb dX2_layFirst_36 (by decide) (fun c6 => ?_) (fun c6 => absurd c6 (by decide))
          have e9 : (fun z => decide (lfH q G0 G1 lf f0 f1 f5 f6 dy j z = -1)) i = true := decide_eq_true (by first | exact hH | exact hH.trans c6)
          refine lv_iinc (v := nI (i + 1)) (lv' := [(3, .int (nI (i + 1))), (4, .int (-1)), (0, .ref h), (1, .ref t0), (2, .int (nI j))]) hx hb dX2_layFirst_48 hl (k := 1) rfl (nI_add i 1) (by decide) rfl (fun ls hl => ?_)
          refine lv_goto (tgt := 2) hx hb dX2_layFirst_51 (by decide) ?_
          exact ih (i + 1) (by omega) ((rn_step (by omega) e9).symm.trans he) (by omega) _ _ (hP.sub [0, 1, 2, 3, 4, 5, 6, 7, 8, 9, 10] rfl) (hD.sub [0, 1, 2, 3, 4, 5, 6, 7, 8, 9, 10] (by decide +kernel) rfl) hS ls (lv_sub hl [0, 2, 3, 4] rfl)
        · skip
          have hH : lfH q G0 G1 lf f0 f1 f5 f6 dy j i = fcR q G0 G1 lf f1 f6 dy (nI i) j := if_neg c5
          refine lv_aload_n hx hb dX2_layFirst_20 rfl (lv_at hl 1 rfl) ?_
          refine lv_aload_n hx hb dX2_layFirst_21 rfl (lv_at hl 2 rfl) ?_
          refine lv_iload_n hx hb dX2_layFirst_22 rfl (lv_at hl 3 rfl) ?_
          refine lv_iload_n hx hb dX2_layFirst_23 rfl (lv_at hl 0 rfl) ?_
          have hPc := hP.sub (ws' := (c_X2_firstCalmHouse k h q0 q1 q2 q3 q4 q5 q6 wg dy sd f1 f6 t0 t tn tl tc ta rw q G0 G1 lf j (nI i))) [0, 2, 4, 5, 6, 7, 8, 9, 10] rfl
          refine vp_callSi (va_Run.run (va_runV (As := [.ref t0, .int (nI j), .int (nI i)]) (rest := []) ⟨hx, hb, hml, hown, hts⟩ (X2_firstCalmHouse l D k h q0 q1 q2 q3 q4 q5 q6 wg dy sd f1 f6 t0 t tn tl tc ta rw q G0 G1 lf j (nI i) (hq0) (hq1) (hj)) (cwV 3 hts gX2_layFirst_X2_firstCalmHouse rfl rfl rfl (by decide +kernel) ⟨Nat.le_of_ble_eq_true rfl, Nat.le_of_ble_eq_true rfl⟩) ⟨PS.blind _ _ _ _, va_recv hG.1 hP (ci := 2) (q0 := 0) rfl rfl, PS.pre hPc hG [.ref h, .ref t0, .int (nI j), .int (nI i)]⟩ rfl rfl hl.1 rfl (lv_room (Nat.le_of_ble_eq_true rfl)) dX2_layFirst_24 ⟨Nat.le_of_ble_eq_true rfl, Nat.le_of_ble_eq_true rfl⟩)) (fun r hq => ?_)
          generalize r = y7 at hq ⊢
          have hq : y7 = fcR q G0 G1 lf f1 f6 dy (nI i) j := hq
          refine tp_i (y := fcR q G0 G1 lf f1 f6 dy (nI i) j) (hq) ?_
          refine lv_goto (tgt := 31) hx hb dX2_layFirst_27 (by decide) ?_
          refine lv_istore (lv' := [(4, .int (fcR q G0 G1 lf f1 f6 dy (nI i) j)), (3, .int (nI i)), (0, .ref h), (1, .ref t0), (2, .int (nI j))]) hx hb dX2_layFirst_31 hl (by decide) rfl (fun ls hl => ?_)
          refine lv_iload hx hb dX2_layFirst_33 (lv_at hl 0 rfl) ?_
          refine lv_iconst (v := (-1)) hx hb dX2_layFirst_35 (by decide) ?_
          refine lv_icmp_eq (x := fcR q G0 G1 lf f1 f6 dy (nI i) j) (y := (-1)) (tgt := 48) hx hb dX2_layFirst_36 (by decide) (fun c8 => ?_) (fun c8 => ?_)
          · skip
            have e9 : (fun z => decide (lfH q G0 G1 lf f0 f1 f5 f6 dy j z = -1)) i = true := decide_eq_true (by first | exact hH | exact hH.trans c8)
            refine lv_iinc (v := nI (i + 1)) (lv' := [(3, .int (nI (i + 1))), (4, .int (fcR q G0 G1 lf f1 f6 dy (nI i) j)), (0, .ref h), (1, .ref t0), (2, .int (nI j))]) hx hb dX2_layFirst_48 hl (k := 1) rfl (nI_add i 1) (by decide) rfl (fun ls hl => ?_)
            refine lv_goto (tgt := 2) hx hb dX2_layFirst_51 (by decide) ?_
            exact ih (i + 1) (by omega) ((rn_step (by omega) e9).symm.trans he) (by omega) _ _ (hP.sub [0, 1, 2, 3, 4, 5, 6, 7, 8, 9, 10] rfl) (hD.sub [0, 1, 2, 3, 4, 5, 6, 7, 8, 9, 10] (by decide +kernel) rfl) hS ls (lv_sub hl [0, 2, 3, 4] rfl)
          · skip
            have e8 : lfE q G0 G1 lf f0 f1 f5 f6 dy j i = i := rn_stop (fun hh => absurd (hH.symm.trans (of_decide_eq_true hh.2)) c8)
            have e6 : lfE q G0 G1 lf f0 f1 f5 f6 dy j 0 = i := he.symm.trans e8
            have e75 : lf5 q G0 G1 lf f0 f1 f5 f6 dy j = upd f5 j (nI i) := by unfold lf5; rw [e6]; exact if_pos (by omega)
            have e76 : lf6 q G0 G1 lf f0 f1 f5 f6 dy j = upd f6 j (fcR q G0 G1 lf f1 f6 dy (nI i) j) := by unfold lf6; rw [e6, hH]; exact if_pos (by omega)
            refine lv_aload_n hx hb dX2_layFirst_39 rfl (lv_at hl 2 rfl) ?_
            refine lv_iload_n hx hb dX2_layFirst_40 rfl (lv_at hl 4 rfl) ?_
            refine lv_iload_n hx hb dX2_layFirst_41 rfl (lv_at hl 1 rfl) ?_
            refine lv_iload hx hb dX2_layFirst_42 (lv_at hl 0 rfl) ?_
            have hPc := hP.sub (ws' := (c_X2_layDown k h q0 q1 q2 q3 q4 q5 q6 wg dy sd f5 f6 j (nI i) (fcR q G0 G1 lf f1 f6 dy (nI i) j))) [0, 3, 4] rfl
            have hDc := hD.sub (ws' := (c_X2_layDown k h q0 q1 q2 q3 q4 q5 q6 wg dy sd f5 f6 j (nI i) (fcR q G0 G1 lf f1 f6 dy (nI i) j))) [0, 3, 4] (by decide +kernel) rfl
            refine cl_v (w1 := w_X2_layDown k h q0 q1 q2 q3 q4 q5 q6 wg dy sd f5 f6 j (nI i) (fcR q G0 G1 lf f1 f6 dy (nI i) j)) (wr := [(q0, .inl (k 0, 3, .inl f0)), (q1, .inl (k 0, 3, .inl f1)), (t0, .inr (8, [.ref t, .ref tn, .ref tl, .ref tc, .ref ta])), (t, .inl (k 0, 4, .inl (cI q))), (tn, .inl (k 4, 4, .inr (.inr (.inr (.inr (gr4 rw)))))), ((rw 0), .inl (k 0, 80, .inl G0)), ((rw 1), .inl (k 0, 80, .inl G1)), (tl, .inl (k 0, 400, .inl lf))]) (va_runV (As := [.int (nI j), .int (nI i), .int (fcR q G0 G1 lf f1 f6 dy (nI i) j)]) (rest := []) ⟨hx, hb, hml, hown, hts⟩ (X2_layDown l D k H.size h q0 q1 q2 q3 q4 q5 q6 wg dy sd f5 f6 j (nI i) (fcR q G0 G1 lf f1 f6 dy (nI i) j) (hj)) (cwV 3 hts gX2_layFirst_X2_layDown rfl rfl rfl (by decide +kernel) ⟨Nat.le_of_ble_eq_true rfl, Nat.le_of_ble_eq_true rfl⟩) ⟨PR.blind _ _ _ _ _, va_recv hG.1 hP (ci := 2) (q0 := 0) rfl rfl, PR.pre hPc hDc hG [.ref h, .int (nI j), .int (nI i), .int (fcR q G0 G1 lf f1 f6 dy (nI i) j)]⟩ rfl rfl hl.1 rfl (lv_room (Nat.le_of_ble_eq_true rfl)) dX2_layFirst_44 ⟨Nat.le_of_ble_eq_true rfl, Nat.le_of_ble_eq_true rfl⟩) hP hD hS hA [0, 3, 4] [1, 2, 5, 6, 7, 8, 9, 10] rfl rfl (by decide +kernel) (by decide +kernel) (fun u H locs hq hP hD hS => ?_)
            cases u
            have hP : va_P D vwCl [(q0, .inl (k 0, 3, .inl f0)), (q1, .inl (k 0, 3, .inl f1)), (t0, .inr (8, [.ref t, .ref tn, .ref tl, .ref tc, .ref ta])), (t, .inl (k 0, 4, .inl (cI q))), (tn, .inl (k 4, 4, .inr (.inr (.inr (.inr (gr4 rw)))))), ((rw 0), .inl (k 0, 80, .inl G0)), ((rw 1), .inl (k 0, 80, .inl G1)), (tl, .inl (k 0, 400, .inl lf)), (h, .inr (2, [.ref q0, .ref q1, .ref q2, .ref q3, .ref q4, .ref q5, .ref q6, .int wg, .int dy, .int sd])), (q5, .inl (k 0, 3, .inl (upd f5 j (nI i)))), (q6, .inl (k 0, 3, .inl (upd f6 j (fcR q G0 G1 lf f1 f6 dy (nI i) j))))] H := hP
            have hD : va_D A [(q0, .inl (k 0, 3, .inl f0)), (q1, .inl (k 0, 3, .inl f1)), (t0, .inr (8, [.ref t, .ref tn, .ref tl, .ref tc, .ref ta])), (t, .inl (k 0, 4, .inl (cI q))), (tn, .inl (k 4, 4, .inr (.inr (.inr (.inr (gr4 rw)))))), ((rw 0), .inl (k 0, 80, .inl G0)), ((rw 1), .inl (k 0, 80, .inl G1)), (tl, .inl (k 0, 400, .inl lf)), (h, .inr (2, [.ref q0, .ref q1, .ref q2, .ref q3, .ref q4, .ref q5, .ref q6, .int wg, .int dy, .int sd])), (q5, .inl (k 0, 3, .inl (upd f5 j (nI i)))), (q6, .inl (k 0, 3, .inl (upd f6 j (fcR q G0 G1 lf f1 f6 dy (nI i) j))))] := hD
            have hP9 := hP.sub (ws' := [(h, .inr (2, [.ref q0, .ref q1, .ref q2, .ref q3, .ref q4, .ref q5, .ref q6, .int wg, .int dy, .int sd])), (q0, .inl (k 0, 3, .inl f0)), (q1, .inl (k 0, 3, .inl f1)), (q5, .inl (k 0, 3, .inl (upd f5 j (nI i)))), (q6, .inl (k 0, 3, .inl (upd f6 j (fcR q G0 G1 lf f1 f6 dy (nI i) j)))), (t0, .inr (8, [.ref t, .ref tn, .ref tl, .ref tc, .ref ta])), (t, .inl (k 0, 4, .inl (cI q))), (tn, .inl (k 4, 4, .inr (.inr (.inr (.inr (gr4 rw)))))), ((rw 0), .inl (k 0, 80, .inl G0)), ((rw 1), .inl (k 0, 80, .inl G1)), (tl, .inl (k 0, 400, .inl lf))]) [8, 0, 1, 9, 10, 2, 3, 4, 5, 6, 7] rfl
            have hD9 := hD.sub (ws' := [(h, .inr (2, [.ref q0, .ref q1, .ref q2, .ref q3, .ref q4, .ref q5, .ref q6, .int wg, .int dy, .int sd])), (q0, .inl (k 0, 3, .inl f0)), (q1, .inl (k 0, 3, .inl f1)), (q5, .inl (k 0, 3, .inl (upd f5 j (nI i)))), (q6, .inl (k 0, 3, .inl (upd f6 j (fcR q G0 G1 lf f1 f6 dy (nI i) j)))), (t0, .inr (8, [.ref t, .ref tn, .ref tl, .ref tc, .ref ta])), (t, .inl (k 0, 4, .inl (cI q))), (tn, .inl (k 4, 4, .inr (.inr (.inr (.inr (gr4 rw)))))), ((rw 0), .inl (k 0, 80, .inl G0)), ((rw 1), .inl (k 0, 80, .inl G1)), (tl, .inl (k 0, 400, .inl lf))]) [8, 0, 1, 9, 10, 2, 3, 4, 5, 6, 7] (by decide +kernel) rfl
            exact W.vret hx hb hr (fun t9 ht _ => ⟨⟨(upd f5 j (nI i), upd f6 j (fcR q G0 G1 lf f1 f6 dy (nI i) j)), rfl, ⟨e75.symm, e76.symm⟩, by rw [ht]; exact hP9, hD9⟩, hS.F ht⟩) hS.2.2 dX2_layFirst_47
  exact L1 _ 0 (Nat.zero_le _) (rfl) (Nat.lt_succ_self _) _ _ hP hD hS ls (lv_sub hl [0, 1, 2, 3] rfl)

abbrev c_X2_layByThemselves (k : Nat → ClassId) (h : Nat) (q0 : Nat) (q1 : Nat) (q2 : Nat) (q3 : Nat) (q4 : Nat) (q5 : Nat) (q6 : Nat) (wg : Int32) (dy : Int32) (sd : Int32) (f0 : Nat → Int32) (f1 : Nat → Int32) (f3 : Nat → Int32) (f5 : Nat → Int32) (f6 : Nat → Int32) (t0 : Nat) (t : Nat) (tn : Nat) (tl : Nat) (tc : Nat) (ta : Nat) (rw : Nat → Nat) (q : Nat → Nat) (G0 : Nat → Int32) (G1 : Nat → Int32) (G3 : Nat → Int32) (lf : Nat → Int32) : va_W := [(h, .inr (2, [.ref q0, .ref q1, .ref q2, .ref q3, .ref q4, .ref q5, .ref q6, .int wg, .int dy, .int sd])), (q0, .inl (k 0, 3, .inl f0)), (q1, .inl (k 0, 3, .inl f1)), (q3, .inl (k 0, 3, .inl f3)), (q5, .inl (k 0, 3, .inl f5)), (q6, .inl (k 0, 3, .inl f6)), (t0, .inr (8, [.ref t, .ref tn, .ref tl, .ref tc, .ref ta])), (t, .inl (k 0, 4, .inl (cI q))), (tn, .inl (k 4, 4, .inr (.inr (.inr (.inr (gr4 rw)))))), ((rw 0), .inl (k 0, 80, .inl G0)), ((rw 1), .inl (k 0, 80, .inl G1)), ((rw 3), .inl (k 0, 80, .inl G3)), (tl, .inl (k 0, 400, .inl lf))]
abbrev r_X2_layByThemselves : Room := { frames := 6, cells := 0, slots := 0, locals := 140 }
def w_X2_layByThemselves (k : Nat → ClassId) (h : Nat) (q0 : Nat) (q1 : Nat) (q2 : Nat) (q3 : Nat) (q4 : Nat) (q5 : Nat) (q6 : Nat) (wg : Int32) (dy : Int32) (sd : Int32) (f0 : Nat → Int32) (f1 : Nat → Int32) (f3 : Nat → Int32) (f5 : Nat → Int32) (f6 : Nat → Int32) (t0 : Nat) (t : Nat) (tn : Nat) (tl : Nat) (tc : Nat) (ta : Nat) (rw : Nat → Nat) (q : Nat → Nat) (G0 : Nat → Int32) (G1 : Nat → Int32) (G3 : Nat → Int32) (lf : Nat → Int32) : (Nat → Int32) × (Nat → Int32) → va_W := fun u => match u with | (g5, g6) => [(h, .inr (2, [.ref q0, .ref q1, .ref q2, .ref q3, .ref q4, .ref q5, .ref q6, .int wg, .int dy, .int sd])), (q0, .inl (k 0, 3, .inl f0)), (q1, .inl (k 0, 3, .inl f1)), (q3, .inl (k 0, 3, .inl f3)), (q5, .inl (k 0, 3, .inl g5)), (q6, .inl (k 0, 3, .inl g6)), (t0, .inr (8, [.ref t, .ref tn, .ref tl, .ref tc, .ref ta])), (t, .inl (k 0, 4, .inl (cI q))), (tn, .inl (k 4, 4, .inr (.inr (.inr (.inr (gr4 rw)))))), ((rw 0), .inl (k 0, 80, .inl G0)), ((rw 1), .inl (k 0, 80, .inl G1)), ((rw 3), .inl (k 0, 80, .inl G3)), (tl, .inl (k 0, 400, .inl lf))]
def p_X2_layByThemselves (k : Nat → ClassId) (h : Nat) (q0 : Nat) (q1 : Nat) (q2 : Nat) (q3 : Nat) (q4 : Nat) (q5 : Nat) (q6 : Nat) (wg : Int32) (dy : Int32) (sd : Int32) (f0 : Nat → Int32) (f1 : Nat → Int32) (f3 : Nat → Int32) (f5 : Nat → Int32) (f6 : Nat → Int32) (t0 : Nat) (t : Nat) (tn : Nat) (tl : Nat) (tc : Nat) (ta : Nat) (rw : Nat → Nat) (q : Nat → Nat) (G0 : Nat → Int32) (G1 : Nat → Int32) (G3 : Nat → Int32) (lf : Nat → Int32) : (Nat → Int32) × (Nat → Int32) → Prop := fun (u : (Nat → Int32) × (Nat → Int32)) => match u with | (g5, g6) => (g5, g6) = lbI q G0 G1 G3 lf f0 f1 f3 f5 f6 dy (q 3)
abbrev q_X2_layByThemselves (D : va_G) (k : Nat → ClassId) (h : Nat) (q0 : Nat) (q1 : Nat) (q2 : Nat) (q3 : Nat) (q4 : Nat) (q5 : Nat) (q6 : Nat) (wg : Int32) (dy : Int32) (sd : Int32) (f0 : Nat → Int32) (f1 : Nat → Int32) (f3 : Nat → Int32) (f5 : Nat → Int32) (f6 : Nat → Int32) (t0 : Nat) (t : Nat) (tn : Nat) (tl : Nat) (tc : Nat) (ta : Nat) (rw : Nat → Nat) (q : Nat → Nat) (G0 : Nat → Int32) (G1 : Nat → Int32) (G3 : Nat → Int32) (lf : Nat → Int32) (A : Nat → Prop) : Array Value → State → Outcome → State → Prop := va_Qv (p_X2_layByThemselves k h q0 q1 q2 q3 q4 q5 q6 wg dy sd f0 f1 f3 f5 f6 t0 t tn tl tc ta rw q G0 G1 G3 lf) (fun u9 t9 => BO D (w_X2_layByThemselves k h q0 q1 q2 q3 q4 q5 q6 wg dy sd f0 f1 f3 f5 f6 t0 t tn tl tc ta rw q G0 G1 G3 lf u9) A t9) A
set_option maxHeartbeats 2000000 in
set_option maxRecDepth 100000 in
theorem X2_layByThemselves (l : Launch) (D : va_G) (k : Nat → ClassId) (sz : Nat) (h : Nat) (q0 : Nat) (q1 : Nat) (q2 : Nat) (q3 : Nat) (q4 : Nat) (q5 : Nat) (q6 : Nat) (wg : Int32) (dy : Int32) (sd : Int32) (f0 : Nat → Int32) (f1 : Nat → Int32) (f3 : Nat → Int32) (f5 : Nat → Int32) (f6 : Nat → Int32) (t0 : Nat) (t : Nat) (tn : Nat) (tl : Nat) (tc : Nat) (ta : Nat) (rw : Nat → Nat) (q : Nat → Nat) (G0 : Nat → Int32) (G1 : Nat → Int32) (G3 : Nat → Int32) (lf : Nat → Int32) (hq0 : q 0 ≤ 7) (hq1 : q 1 ≤ 7) (hq3 : q 3 ≤ 3) : Met l yX2_layByThemselves wsX2_layByThemselves r_X2_layByThemselves (va_Pc [.ref h, .ref t0] (PR D k (c_X2_layByThemselves k h q0 q1 q2 q3 q4 q5 q6 wg dy sd f0 f1 f3 f5 f6 t0 t tn tl tc ta rw q G0 G1 G3 lf) sz)) (q_X2_layByThemselves D k h q0 q1 q2 q3 q4 q5 q6 wg dy sd f0 f1 f3 f5 f6 t0 t tn tl tc ta rw q G0 G1 G3 lf (va_A (c_X2_layByThemselves k h q0 q1 q2 q3 q4 q5 q6 wg dy sd f0 f1 f3 f5 f6 t0 t tn tl tc ta rw q G0 G1 G3 lf) sz)) 0 0 (va_A (c_X2_layByThemselves k h q0 q1 q2 q3 q4 q5 q6 wg dy sd f0 f1 f3 f5 f6 t0 t tn tl tc ta rw q G0 G1 G3 lf) sz) := by
  refine Met.ofW (cc := cX2_layByThemselves) (maxL := 3) (ret := none) (by decide) rfl ?_
  intro p e s m args below meth c s₁ B hml hv
  obtain ⟨rfl, hsz, hP, hG, hD0⟩ := hv
  have hx := B.exec
  have hb := B.bytes
  have hr := B.returns
  have hts := atoms_spec (ws := wsX2_layByThemselves) B.pre
  have hown : s.vm.findClass RX2 = some m.cls := findClass_of_methodNamed B.named
  have hlocks := B.notSynchronized
  have hi8 : ∀ w ∈ wsX80, w ∈ wsX2_layByThemselves := fun _ h => List.mem_cons_of_mem _ (List.mem_append_left _ (List.mem_append_right _ h))
  have hi2 : ∀ w ∈ wsX20, w ∈ wsX2_layByThemselves := fun _ h => List.mem_cons_of_mem _ (List.mem_append_right _ h)
  subst hsz
  have hD := hD0.self (sz := s.heap.size)
  generalize hAe : va_A (c_X2_layByThemselves k h q0 q1 q2 q3 q4 q5 q6 wg dy sd f0 f1 f3 f5 f6 t0 t tn tl tc ta rw q G0 G1 G3 lf) s.heap.size = A at hD ⊢
  have hA : ∀ q : Nat, s.heap.size ≤ q → A q := fun q h => by rw [← hAe]; exact Or.inr h
  have hS : va_S A s.heap s.heap [] := va_S.rf
  have hP : va_P D vwCl [(h, .inr (2, [.ref q0, .ref q1, .ref q2, .ref q3, .ref q4, .ref q5, .ref q6, .int wg, .int dy, .int sd])), (q0, .inl (k 0, 3, .inl f0)), (q1, .inl (k 0, 3, .inl f1)), (q3, .inl (k 0, 3, .inl f3)), (q5, .inl (k 0, 3, .inl f5)), (q6, .inl (k 0, 3, .inl f6)), (t0, .inr (8, [.ref t, .ref tn, .ref tl, .ref tc, .ref ta])), (t, .inl (k 0, 4, .inl (cI q))), (tn, .inl (k 4, 4, .inr (.inr (.inr (.inr (gr4 rw)))))), ((rw 0), .inl (k 0, 80, .inl G0)), ((rw 1), .inl (k 0, 80, .inl G1)), ((rw 3), .inl (k 0, 80, .inl G3)), (tl, .inl (k 0, 400, .inl lf))] s.heap := hP
  have hD : va_D A [(h, .inr (2, [.ref q0, .ref q1, .ref q2, .ref q3, .ref q4, .ref q5, .ref q6, .int wg, .int dy, .int sd])), (q0, .inl (k 0, 3, .inl f0)), (q1, .inl (k 0, 3, .inl f1)), (q3, .inl (k 0, 3, .inl f3)), (q5, .inl (k 0, 3, .inl f5)), (q6, .inl (k 0, 3, .inl f6)), (t0, .inr (8, [.ref t, .ref tn, .ref tl, .ref tc, .ref ta])), (t, .inl (k 0, 4, .inl (cI q))), (tn, .inl (k 4, 4, .inr (.inr (.inr (.inr (gr4 rw)))))), ((rw 0), .inl (k 0, 80, .inl G0)), ((rw 1), .inl (k 0, 80, .inl G1)), ((rw 3), .inl (k 0, 80, .inl G3)), (tl, .inl (k 0, 400, .inl lf))] := hD
  have hl := lv_entry ([.ref h, .ref t0]) (n := 3) (Nat.le_of_ble_eq_true rfl)
  rw [lg_entry_eq]
  generalize (lg_sl ([.ref h, .ref t0]) ++ List.replicate (3 - (lg_sl ([.ref h, .ref t0])).length) Slot.unset).toArray = ls at hl ⊢
  have hl : lv_has ls 3 [(0, .ref h), (1, .ref t0)] := hl
  refine lv_iconst (v := 0) hx hb dX2_layByThemselves_0 (by decide) ?_
  refine lv_istore_n (lv' := [(2, .int 0), (0, .ref h), (1, .ref t0)]) hx hb dX2_layByThemselves_1 rfl hl (by decide) rfl (fun ls hl => ?_)
  have L1 : ∀ (fu9 : Nat) (i : Nat) (g5 : Nat → Int32) (g6 : Nat → Int32), (i ≤ q 3) → ((g5, g6) = lbI q G0 G1 G3 lf f0 f1 f3 f5 f6 dy i) → q 3 - i < fu9 → ∀ (H : Heap) (locs : List Loc), va_P D vwCl [(h, .inr (2, [.ref q0, .ref q1, .ref q2, .ref q3, .ref q4, .ref q5, .ref q6, .int wg, .int dy, .int sd])), (q0, .inl (k 0, 3, .inl f0)), (q1, .inl (k 0, 3, .inl f1)), (q3, .inl (k 0, 3, .inl f3)), (q5, .inl (k 0, 3, .inl g5)), (q6, .inl (k 0, 3, .inl g6)), (t0, .inr (8, [.ref t, .ref tn, .ref tl, .ref tc, .ref ta])), (t, .inl (k 0, 4, .inl (cI q))), (tn, .inl (k 4, 4, .inr (.inr (.inr (.inr (gr4 rw)))))), ((rw 0), .inl (k 0, 80, .inl G0)), ((rw 1), .inl (k 0, 80, .inl G1)), ((rw 3), .inl (k 0, 80, .inl G3)), (tl, .inl (k 0, 400, .inl lf))] H → va_D A [(h, .inr (2, [.ref q0, .ref q1, .ref q2, .ref q3, .ref q4, .ref q5, .ref q6, .int wg, .int dy, .int sd])), (q0, .inl (k 0, 3, .inl f0)), (q1, .inl (k 0, 3, .inl f1)), (q3, .inl (k 0, 3, .inl f3)), (q5, .inl (k 0, 3, .inl g5)), (q6, .inl (k 0, 3, .inl g6)), (t0, .inr (8, [.ref t, .ref tn, .ref tl, .ref tc, .ref ta])), (t, .inl (k 0, 4, .inl (cI q))), (tn, .inl (k 4, 4, .inr (.inr (.inr (.inr (gr4 rw)))))), ((rw 0), .inl (k 0, 80, .inl G0)), ((rw 1), .inl (k 0, 80, .inl G1)), ((rw 3), .inl (k 0, 80, .inl G3)), (tl, .inl (k 0, 400, .inl lf))] → va_S A s.heap H locs → ∀ (ls : Array Slot), lv_has ls 3 [(2, .int (nI i)), (0, .ref h), (1, .ref t0)] → W p l e r_X2_layByThemselves s m ([.ref h, .ref t0] : List Value).toArray below meth c H locs 0 0 (MQ below (q_X2_layByThemselves D k h q0 q1 q2 q3 q4 q5 q6 wg dy sd f0 f1 f3 f5 f6 t0 t tn tl tc ta rw q G0 G1 G3 lf A) ([.ref h, .ref t0] : List Value).toArray s 0 0 A) (F0 m 2 ls []) := by
    intro fu9
    induction fu9 with
    | zero => intro i g5 g6 hi he hmu; exact absurd hmu (Nat.not_lt_zero _)
    | succ fu9 ih =>
      intro i g5 g6 hi he hmu H locs hP hD hS ls hl
      refine lv_iload_n hx hb dX2_layByThemselves_2 rfl (lv_at hl 0 rfl) ?_
      refine lv_aload_n hx hb dX2_layByThemselves_3 rfl (lv_at hl 2 rfl) ?_
      refine lv_iconst (v := 3) hx hb dX2_layByThemselves_4 (by decide) ?_
      have hPc := hP.sub (ws' := (c_X8_count k t0 t tn tl tc ta q 3)) [6, 7] rfl
      refine vp_callSi (va_Run.run (va_runV (As := [.int 3]) (rest := [.int (nI i)]) ⟨hx, hb, hml, hown, hts⟩ (X8_count l D k t0 t tn tl tc ta q 3 (by decide)) (cwV 1 hts gX2_layByThemselves_X8_count rfl rfl rfl (by decide +kernel) ⟨Nat.le_of_ble_eq_true rfl, Nat.le_of_ble_eq_true rfl⟩) ⟨PS.blind _ _ _ _, va_recv hG.1 hP (ci := 8) (q0 := 6) rfl rfl, PS.pre hPc hG [.ref t0, .int 3]⟩ rfl rfl hl.1 rfl (lv_room (Nat.le_of_ble_eq_true rfl)) dX2_layByThemselves_5 ⟨Nat.le_of_ble_eq_true rfl, Nat.le_of_ble_eq_true rfl⟩)) (fun r hq => ?_)
      generalize r = y2 at hq ⊢
      have hq : y2 = nI (q 3) := hq
      refine tp_i (y := nI (q 3)) (hq) ?_
      refine bn_ge (i := i) (j := (q 3)) (tgt := 32) hx hb dX2_layByThemselves_8 (by decide) (by omega) (by omega) (fun c3 => ?_) (fun c3 => ?_)
      · skip
        have hiN : i = q 3 := by omega
        rw [hiN] at he
        have hP9 := hP.sub (ws' := [(h, .inr (2, [.ref q0, .ref q1, .ref q2, .ref q3, .ref q4, .ref q5, .ref q6, .int wg, .int dy, .int sd])), (q0, .inl (k 0, 3, .inl f0)), (q1, .inl (k 0, 3, .inl f1)), (q3, .inl (k 0, 3, .inl f3)), (q5, .inl (k 0, 3, .inl g5)), (q6, .inl (k 0, 3, .inl g6)), (t0, .inr (8, [.ref t, .ref tn, .ref tl, .ref tc, .ref ta])), (t, .inl (k 0, 4, .inl (cI q))), (tn, .inl (k 4, 4, .inr (.inr (.inr (.inr (gr4 rw)))))), ((rw 0), .inl (k 0, 80, .inl G0)), ((rw 1), .inl (k 0, 80, .inl G1)), ((rw 3), .inl (k 0, 80, .inl G3)), (tl, .inl (k 0, 400, .inl lf))]) [0, 1, 2, 3, 4, 5, 6, 7, 8, 9, 10, 11, 12] rfl
        have hD9 := hD.sub (ws' := [(h, .inr (2, [.ref q0, .ref q1, .ref q2, .ref q3, .ref q4, .ref q5, .ref q6, .int wg, .int dy, .int sd])), (q0, .inl (k 0, 3, .inl f0)), (q1, .inl (k 0, 3, .inl f1)), (q3, .inl (k 0, 3, .inl f3)), (q5, .inl (k 0, 3, .inl g5)), (q6, .inl (k 0, 3, .inl g6)), (t0, .inr (8, [.ref t, .ref tn, .ref tl, .ref tc, .ref ta])), (t, .inl (k 0, 4, .inl (cI q))), (tn, .inl (k 4, 4, .inr (.inr (.inr (.inr (gr4 rw)))))), ((rw 0), .inl (k 0, 80, .inl G0)), ((rw 1), .inl (k 0, 80, .inl G1)), ((rw 3), .inl (k 0, 80, .inl G3)), (tl, .inl (k 0, 400, .inl lf))]) [0, 1, 2, 3, 4, 5, 6, 7, 8, 9, 10, 11, 12] (by decide +kernel) rfl
        exact W.vret hx hb hr (fun t9 ht _ => ⟨⟨(g5, g6), rfl, he, by rw [ht]; exact hP9, hD9⟩, hS.F ht⟩) hS.2.2 dX2_layByThemselves_32
      · skip
        refine lv_aload_n hx hb dX2_layByThemselves_11 rfl (lv_at hl 1 rfl) ?_
        refine lv_aload_n hx hb dX2_layByThemselves_12 rfl (lv_at hl 2 rfl) ?_
        refine lv_iload_n hx hb dX2_layByThemselves_13 rfl (lv_at hl 0 rfl) ?_
        have hPc := hP.sub (ws' := (c_X2_isMatterFree k h q0 q1 q2 q3 q4 q5 q6 wg dy sd f3 g5 t0 t tn tl tc ta rw q G3 i)) [0, 3, 4, 6, 7, 8, 11] rfl
        refine vp_callSi (va_Run.run (va_runV (As := [.ref t0, .int (nI i)]) (rest := []) ⟨hx, hb, hml, hown, hts⟩ (X2_isMatterFree l D k h q0 q1 q2 q3 q4 q5 q6 wg dy sd f3 g5 t0 t tn tl tc ta rw q G3 i (hq3) (by omega)) (cwV 2 hts gX2_layByThemselves_X2_isMatterFree rfl rfl rfl (by decide +kernel) ⟨Nat.le_of_ble_eq_true rfl, Nat.le_of_ble_eq_true rfl⟩) ⟨PS.blind _ _ _ _, va_recv hG.1 hP (ci := 2) (q0 := 0) rfl rfl, PS.pre hPc hG [.ref h, .ref t0, .int (nI i)]⟩ rfl rfl hl.1 rfl (lv_room (Nat.le_of_ble_eq_true rfl)) dX2_layByThemselves_14 ⟨Nat.le_of_ble_eq_true rfl, Nat.le_of_ble_eq_true rfl⟩)) (fun r hq => ?_)
        generalize r = y4 at hq ⊢
        have hq : y4 = imf (f3 i) (g5 i) dy (pt (q 3) G3 (nI i) 0) := hq
        refine tp_i (y := imf (f3 i) (g5 i) dy (pt (q 3) G3 (nI i) 0)) (hq) ?_
        refine lv_if_eq (x := imf (f3 i) (g5 i) dy (pt (q 3) G3 (nI i) 0)) (tgt := 26) hx hb dX2_layByThemselves_17 (by decide) (fun c5 => ?_) (fun c5 => ?_)
        · skip
          have k1 := c5
          refine lv_iinc (v := nI (i + 1)) (lv' := [(2, .int (nI (i + 1))), (0, .ref h), (1, .ref t0)]) hx hb dX2_layByThemselves_26 hl (k := 0) rfl (nI_add i 1) (by decide) rfl (fun ls hl => ?_)
          refine lv_goto (tgt := 2) hx hb dX2_layByThemselves_29 (by decide) ?_
          exact ih (i + 1) g5 g6 (by omega) (lb_0 he k1) (by omega) _ _ (hP.sub [0, 1, 2, 3, 4, 5, 6, 7, 8, 9, 10, 11, 12] rfl) (hD.sub [0, 1, 2, 3, 4, 5, 6, 7, 8, 9, 10, 11, 12] (by decide +kernel) rfl) hS ls (lv_sub hl [0, 1, 2] rfl)
        · skip
          have k1 := c5
          refine lv_aload_n hx hb dX2_layByThemselves_20 rfl (lv_at hl 1 rfl) ?_
          refine lv_aload_n hx hb dX2_layByThemselves_21 rfl (lv_at hl 2 rfl) ?_
          refine lv_iload_n hx hb dX2_layByThemselves_22 rfl (lv_at hl 0 rfl) ?_
          have hPc := hP.sub (ws' := (c_X2_layFirst k h q0 q1 q2 q3 q4 q5 q6 wg dy sd f0 f1 g5 g6 t0 t tn tl tc ta rw q G0 G1 lf i)) [0, 1, 2, 4, 5, 6, 7, 8, 9, 10, 12] rfl
          have hDc := hD.sub (ws' := (c_X2_layFirst k h q0 q1 q2 q3 q4 q5 q6 wg dy sd f0 f1 g5 g6 t0 t tn tl tc ta rw q G0 G1 lf i)) [0, 1, 2, 4, 5, 6, 7, 8, 9, 10, 12] (by decide +kernel) rfl
          refine cl_v (w1 := w_X2_layFirst k h q0 q1 q2 q3 q4 q5 q6 wg dy sd f0 f1 g5 g6 t0 t tn tl tc ta rw q G0 G1 lf i) (wr := [(q3, .inl (k 0, 3, .inl f3)), ((rw 3), .inl (k 0, 80, .inl G3))]) (va_runV (As := [.ref t0, .int (nI i)]) (rest := []) ⟨hx, hb, hml, hown, hts⟩ (X2_layFirst l D k H.size h q0 q1 q2 q3 q4 q5 q6 wg dy sd f0 f1 g5 g6 t0 t tn tl tc ta rw q G0 G1 lf i (hq0) (hq1) (by omega)) (cwV 2 hts gX2_layByThemselves_X2_layFirst rfl rfl rfl (by decide +kernel) ⟨Nat.le_of_ble_eq_true rfl, Nat.le_of_ble_eq_true rfl⟩) ⟨PR.blind _ _ _ _ _, va_recv hG.1 hP (ci := 2) (q0 := 0) rfl rfl, PR.pre hPc hDc hG [.ref h, .ref t0, .int (nI i)]⟩ rfl rfl hl.1 rfl (lv_room (Nat.le_of_ble_eq_true rfl)) dX2_layByThemselves_23 ⟨Nat.le_of_ble_eq_true rfl, Nat.le_of_ble_eq_true rfl⟩) hP hD hS hA [0, 1, 2, 4, 5, 6, 7, 8, 9, 10, 12] [3, 11] rfl rfl (by decide +kernel) (by decide +kernel) (fun u H locs hq hP hD hS => ?_)
          obtain ⟨k5, k6⟩ := u
          have hq : k5 = lf5 q G0 G1 lf f0 f1 g5 g6 dy i ∧ k6 = lf6 q G0 G1 lf f0 f1 g5 g6 dy i := hq
          have hP : va_P D vwCl [(q3, .inl (k 0, 3, .inl f3)), ((rw 3), .inl (k 0, 80, .inl G3)), (h, .inr (2, [.ref q0, .ref q1, .ref q2, .ref q3, .ref q4, .ref q5, .ref q6, .int wg, .int dy, .int sd])), (q0, .inl (k 0, 3, .inl f0)), (q1, .inl (k 0, 3, .inl f1)), (q5, .inl (k 0, 3, .inl k5)), (q6, .inl (k 0, 3, .inl k6)), (t0, .inr (8, [.ref t, .ref tn, .ref tl, .ref tc, .ref ta])), (t, .inl (k 0, 4, .inl (cI q))), (tn, .inl (k 4, 4, .inr (.inr (.inr (.inr (gr4 rw)))))), ((rw 0), .inl (k 0, 80, .inl G0)), ((rw 1), .inl (k 0, 80, .inl G1)), (tl, .inl (k 0, 400, .inl lf))] H := hP
          have hD : va_D A [(q3, .inl (k 0, 3, .inl f3)), ((rw 3), .inl (k 0, 80, .inl G3)), (h, .inr (2, [.ref q0, .ref q1, .ref q2, .ref q3, .ref q4, .ref q5, .ref q6, .int wg, .int dy, .int sd])), (q0, .inl (k 0, 3, .inl f0)), (q1, .inl (k 0, 3, .inl f1)), (q5, .inl (k 0, 3, .inl k5)), (q6, .inl (k 0, 3, .inl k6)), (t0, .inr (8, [.ref t, .ref tn, .ref tl, .ref tc, .ref ta])), (t, .inl (k 0, 4, .inl (cI q))), (tn, .inl (k 4, 4, .inr (.inr (.inr (.inr (gr4 rw)))))), ((rw 0), .inl (k 0, 80, .inl G0)), ((rw 1), .inl (k 0, 80, .inl G1)), (tl, .inl (k 0, 400, .inl lf))] := hD
          refine lv_iinc (v := nI (i + 1)) (lv' := [(2, .int (nI (i + 1))), (0, .ref h), (1, .ref t0)]) hx hb dX2_layByThemselves_26 hl (k := 0) rfl (nI_add i 1) (by decide) rfl (fun ls hl => ?_)
          refine lv_goto (tgt := 2) hx hb dX2_layByThemselves_29 (by decide) ?_
          exact ih (i + 1) k5 k6 (by omega) (lb_1 he k1 hq.1 hq.2) (by omega) _ _ (hP.sub [2, 3, 4, 0, 5, 6, 7, 8, 9, 10, 11, 1, 12] rfl) (hD.sub [2, 3, 4, 0, 5, 6, 7, 8, 9, 10, 11, 1, 12] (by decide +kernel) rfl) hS ls (lv_sub hl [0, 1, 2] rfl)
  exact L1 _ 0 f5 f6 (Nat.zero_le _) (rfl) (Nat.lt_succ_self _) _ _ hP hD hS ls (lv_sub hl [0, 1, 2] rfl)
