set_option maxRecDepth 20000 in
theorem ggX2_pass_X8_count : GoodIn wsX2_pass wsX8_count := goodIn_r _ [10, 11, 89, 90, 91, 92, 93] rfl (by decide +kernel)
set_option maxRecDepth 20000 in
theorem gX2_pass_X8_count : GoodIn wsX2_pass (wsV RX2 79 RX8 yX8_count wsX8_count) := goodIn_app (goodIn_of _ (by decide +kernel)) ggX2_pass_X8_count
set_option maxRecDepth 20000 in
theorem ggX2_pass_X8_part : GoodIn wsX2_pass wsX8_part := goodIn_r _ [15, 16, 17, 18, 19, 9, 20, 11, 89, 90, 91, 92, 93] rfl (by decide +kernel)
set_option maxRecDepth 20000 in
theorem gX2_pass_X8_part : GoodIn wsX2_pass (wsV RX2 61 RX8 yX8_part wsX8_part) := goodIn_app (goodIn_of _ (by decide +kernel)) ggX2_pass_X8_part
set_option maxRecDepth 20000 in
theorem ggX2_pass_X8_isWoken : GoodIn wsX2_pass wsX8_isWoken := goodIn_r _ [24, 25, 13, 14, 9, 15, 16, 17, 18, 19, 20, 11, 26, 27, 28, 29, 30, 89, 90, 91, 92, 93] rfl (by decide +kernel)
set_option maxRecDepth 20000 in
theorem gX2_pass_X8_isWoken : GoodIn wsX2_pass (wsV RX2 101 RX8 yX8_isWoken wsX8_isWoken) := goodIn_app (goodIn_of _ (by decide +kernel)) ggX2_pass_X8_isWoken
set_option maxRecDepth 20000 in
theorem ggX2_pass_X2_countNight : GoodIn wsX2_pass wsX2_countNight := goodIn_r _ [35, 36, 1, 37, 3, 38, 39, 40, 41, 34, 42, 43, 44, 45, 46, 74, 75, 76, 77, 78, 79, 80, 81, 82, 83] rfl (by decide +kernel)
set_option maxRecDepth 20000 in
theorem gX2_pass_X2_countNight : GoodIn wsX2_pass (wsV RX2 109 RX2 yX2_countNight wsX2_countNight) := goodIn_app (goodIn_of _ (by decide +kernel)) ggX2_pass_X2_countNight
set_option maxRecDepth 20000 in
theorem ggX2_pass_X2_decide : GoodIn wsX2_pass wsX2_decide := goodIn_r _ [50, 36, 51, 52, 38, 53, 54, 4, 55, 56, 57, 58, 59, 60, 61, 74, 75, 76, 77, 78, 79, 80, 81, 82, 83, 84, 85, 86, 87, 88] rfl (by decide +kernel)
set_option maxRecDepth 20000 in
theorem gX2_pass_X2_decide : GoodIn wsX2_pass (wsV RX2 113 RX2 yX2_decide wsX2_decide) := goodIn_app (goodIn_of _ (by decide +kernel)) ggX2_pass_X2_decide
set_option maxRecDepth 20000 in
theorem ggX2_pass_X2_loseNights : GoodIn wsX2_pass wsX2_loseNights := goodIn_r _ [65, 36, 37, 38, 74, 75, 76, 77, 78, 79, 80, 81, 82, 83] rfl (by decide +kernel)
set_option maxRecDepth 20000 in
theorem gX2_pass_X2_loseNights : GoodIn wsX2_pass (wsV RX2 123 RX2 yX2_loseNights wsX2_loseNights) := goodIn_app (goodIn_of _ (by decide +kernel)) ggX2_pass_X2_loseNights
set_option maxRecDepth 20000 in
theorem ggX2_pass_X2_emptyBeds : GoodIn wsX2_pass wsX2_emptyBeds := goodIn_r _ [69, 1, 3, 70, 71, 72, 73, 74, 75, 76, 77, 78, 79, 80, 81, 82, 83] rfl (by decide +kernel)
set_option maxRecDepth 20000 in
theorem gX2_pass_X2_emptyBeds : GoodIn wsX2_pass (wsV RX2 52 RX2 yX2_emptyBeds wsX2_emptyBeds) := goodIn_app (goodIn_of _ (by decide +kernel)) ggX2_pass_X2_emptyBeds
theorem dX2_pass_0 : decode cX2_pass 0 = .ok (.iconst 0, 1) := dc_Bk (by decide +kernel)
theorem dX2_pass_1 : decode cX2_pass 1 = .ok (.istore_n 3, 1) := dc_Bk (by decide +kernel)
theorem dX2_pass_2 : decode cX2_pass 2 = .ok (.iconst 0, 1) := dc_Bk (by decide +kernel)
theorem dX2_pass_3 : decode cX2_pass 3 = .ok (.istore 4, 2) := dc_Bk (by decide +kernel)
theorem dX2_pass_5 : decode cX2_pass 5 = .ok (.iload 4, 2) := dc_Bk (by decide +kernel)
theorem dX2_pass_7 : decode cX2_pass 7 = .ok (.aload_n 1, 1) := dc_Bk (by decide +kernel)
theorem dX2_pass_8 : decode cX2_pass 8 = .ok (.iconst 3, 1) := dc_Bk (by decide +kernel)
theorem dX2_pass_9 : decode cX2_pass 9 = .ok (.invokevirtual 79, 3) := dc_Bk (by decide +kernel)
theorem dX2_pass_12 : decode cX2_pass 12 = .ok (.if_icmp .ge 114, 3) := dc_Bk (by decide +kernel)
theorem dX2_pass_15 : decode cX2_pass 15 = .ok (.aload_n 0, 1) := dc_Bk (by decide +kernel)
theorem dX2_pass_16 : decode cX2_pass 16 = .ok (.getfield 27, 3) := dc_Bk (by decide +kernel)
theorem dX2_pass_19 : decode cX2_pass 19 = .ok (.iload 4, 2) := dc_Bk (by decide +kernel)
theorem dX2_pass_21 : decode cX2_pass 21 = .ok (.iaload, 1) := dc_Bk (by decide +kernel)
theorem dX2_pass_22 : decode cX2_pass 22 = .ok (.istore 5, 2) := dc_Bk (by decide +kernel)
theorem dX2_pass_24 : decode cX2_pass 24 = .ok (.iload 5, 2) := dc_Bk (by decide +kernel)
theorem dX2_pass_26 : decode cX2_pass 26 = .ok (.iconst (-1), 1) := dc_Bk (by decide +kernel)
theorem dX2_pass_27 : decode cX2_pass 27 = .ok (.if_icmp .eq 20, 3) := dc_Bk (by decide +kernel)
theorem dX2_pass_30 : decode cX2_pass 30 = .ok (.aload_n 0, 1) := dc_Bk (by decide +kernel)
theorem dX2_pass_31 : decode cX2_pass 31 = .ok (.dup, 1) := dc_Bk (by decide +kernel)
theorem dX2_pass_32 : decode cX2_pass 32 = .ok (.getfield 33, 3) := dc_Bk (by decide +kernel)
theorem dX2_pass_35 : decode cX2_pass 35 = .ok (.aload_n 1, 1) := dc_Bk (by decide +kernel)
theorem dX2_pass_36 : decode cX2_pass 36 = .ok (.iconst 1, 1) := dc_Bk (by decide +kernel)
theorem dX2_pass_37 : decode cX2_pass 37 = .ok (.iload 5, 2) := dc_Bk (by decide +kernel)
theorem dX2_pass_39 : decode cX2_pass 39 = .ok (.iconst 2, 1) := dc_Bk (by decide +kernel)
theorem dX2_pass_40 : decode cX2_pass 40 = .ok (.invokevirtual 61, 3) := dc_Bk (by decide +kernel)
theorem dX2_pass_43 : decode cX2_pass 43 = .ok (.iadd, 1) := dc_Bk (by decide +kernel)
theorem dX2_pass_44 : decode cX2_pass 44 = .ok (.putfield 33, 3) := dc_Bk (by decide +kernel)
theorem dX2_pass_47 : decode cX2_pass 47 = .ok (.iload 5, 2) := dc_Bk (by decide +kernel)
theorem dX2_pass_49 : decode cX2_pass 49 = .ok (.iconst (-1), 1) := dc_Bk (by decide +kernel)
theorem dX2_pass_50 : decode cX2_pass 50 = .ok (.if_icmp .eq 57, 3) := dc_Bk (by decide +kernel)
theorem dX2_pass_53 : decode cX2_pass 53 = .ok (.aload_n 1, 1) := dc_Bk (by decide +kernel)
theorem dX2_pass_54 : decode cX2_pass 54 = .ok (.iload 5, 2) := dc_Bk (by decide +kernel)
theorem dX2_pass_56 : decode cX2_pass 56 = .ok (.aload_n 0, 1) := dc_Bk (by decide +kernel)
theorem dX2_pass_57 : decode cX2_pass 57 = .ok (.getfield 30, 3) := dc_Bk (by decide +kernel)
theorem dX2_pass_60 : decode cX2_pass 60 = .ok (.iload 4, 2) := dc_Bk (by decide +kernel)
theorem dX2_pass_62 : decode cX2_pass 62 = .ok (.iaload, 1) := dc_Bk (by decide +kernel)
theorem dX2_pass_63 : decode cX2_pass 63 = .ok (.aload_n 0, 1) := dc_Bk (by decide +kernel)
theorem dX2_pass_64 : decode cX2_pass 64 = .ok (.getfield 37, 3) := dc_Bk (by decide +kernel)
theorem dX2_pass_67 : decode cX2_pass 67 = .ok (.invokevirtual 101, 3) := dc_Bk (by decide +kernel)
theorem dX2_pass_70 : decode cX2_pass 70 = .ok (.ifCond .ne 37, 3) := dc_Bk (by decide +kernel)
theorem dX2_pass_73 : decode cX2_pass 73 = .ok (.aload_n 0, 1) := dc_Bk (by decide +kernel)
theorem dX2_pass_74 : decode cX2_pass 74 = .ok (.iload 4, 2) := dc_Bk (by decide +kernel)
theorem dX2_pass_76 : decode cX2_pass 76 = .ok (.aload_n 1, 1) := dc_Bk (by decide +kernel)
theorem dX2_pass_77 : decode cX2_pass 77 = .ok (.iconst 1, 1) := dc_Bk (by decide +kernel)
theorem dX2_pass_78 : decode cX2_pass 78 = .ok (.iload 5, 2) := dc_Bk (by decide +kernel)
theorem dX2_pass_80 : decode cX2_pass 80 = .ok (.iconst 1, 1) := dc_Bk (by decide +kernel)
theorem dX2_pass_81 : decode cX2_pass 81 = .ok (.invokevirtual 61, 3) := dc_Bk (by decide +kernel)
theorem dX2_pass_84 : decode cX2_pass 84 = .ok (.invokevirtual 109, 3) := dc_Bk (by decide +kernel)
theorem dX2_pass_87 : decode cX2_pass 87 = .ok (.aload_n 0, 1) := dc_Bk (by decide +kernel)
theorem dX2_pass_88 : decode cX2_pass 88 = .ok (.iload 4, 2) := dc_Bk (by decide +kernel)
theorem dX2_pass_90 : decode cX2_pass 90 = .ok (.aload_n 2, 1) := dc_Bk (by decide +kernel)
theorem dX2_pass_91 : decode cX2_pass 91 = .ok (.invokevirtual 113, 3) := dc_Bk (by decide +kernel)
theorem dX2_pass_94 : decode cX2_pass 94 = .ok (.ifCond .eq 26, 3) := dc_Bk (by decide +kernel)
theorem dX2_pass_97 : decode cX2_pass 97 = .ok (.iload_n 3, 1) := dc_Bk (by decide +kernel)
theorem dX2_pass_98 : decode cX2_pass 98 = .ok (.iconst 1, 1) := dc_Bk (by decide +kernel)
theorem dX2_pass_99 : decode cX2_pass 99 = .ok (.iload 4, 2) := dc_Bk (by decide +kernel)
theorem dX2_pass_101 : decode cX2_pass 101 = .ok (.ishl, 1) := dc_Bk (by decide +kernel)
theorem dX2_pass_102 : decode cX2_pass 102 = .ok (.ior, 1) := dc_Bk (by decide +kernel)
theorem dX2_pass_103 : decode cX2_pass 103 = .ok (.istore_n 3, 1) := dc_Bk (by decide +kernel)
theorem dX2_pass_104 : decode cX2_pass 104 = .ok (.goto 16, 3) := dc_Bk (by decide +kernel)
theorem dX2_pass_107 : decode cX2_pass 107 = .ok (.aload_n 2, 1) := dc_Bk (by decide +kernel)
theorem dX2_pass_108 : decode cX2_pass 108 = .ok (.getfield 117, 3) := dc_Bk (by decide +kernel)
theorem dX2_pass_111 : decode cX2_pass 111 = .ok (.ifCond .eq 9, 3) := dc_Bk (by decide +kernel)
theorem dX2_pass_114 : decode cX2_pass 114 = .ok (.aload_n 0, 1) := dc_Bk (by decide +kernel)
theorem dX2_pass_115 : decode cX2_pass 115 = .ok (.iload 4, 2) := dc_Bk (by decide +kernel)
theorem dX2_pass_117 : decode cX2_pass 117 = .ok (.invokevirtual 123, 3) := dc_Bk (by decide +kernel)
theorem dX2_pass_120 : decode cX2_pass 120 = .ok (.iinc 4 1, 3) := dc_Bk (by decide +kernel)
theorem dX2_pass_123 : decode cX2_pass 123 = .ok (.goto (-118), 3) := dc_Bk (by decide +kernel)
theorem dX2_pass_126 : decode cX2_pass 126 = .ok (.aload_n 0, 1) := dc_Bk (by decide +kernel)
theorem dX2_pass_127 : decode cX2_pass 127 = .ok (.invokevirtual 52, 3) := dc_Bk (by decide +kernel)
theorem dX2_pass_130 : decode cX2_pass 130 = .ok (.aload_n 0, 1) := dc_Bk (by decide +kernel)
theorem dX2_pass_131 : decode cX2_pass 131 = .ok (.dup, 1) := dc_Bk (by decide +kernel)
theorem dX2_pass_132 : decode cX2_pass 132 = .ok (.getfield 37, 3) := dc_Bk (by decide +kernel)
theorem dX2_pass_135 : decode cX2_pass 135 = .ok (.iconst 1, 1) := dc_Bk (by decide +kernel)
theorem dX2_pass_136 : decode cX2_pass 136 = .ok (.iadd, 1) := dc_Bk (by decide +kernel)
theorem dX2_pass_137 : decode cX2_pass 137 = .ok (.putfield 37, 3) := dc_Bk (by decide +kernel)
theorem dX2_pass_140 : decode cX2_pass 140 = .ok (.iload_n 3, 1) := dc_Bk (by decide +kernel)
theorem dX2_pass_141 : decode cX2_pass 141 = .ok (.ireturn, 1) := dc_Bk (by decide +kernel)
def ctN (f5 : Nat → Int32) (j : Nat) (g0 : Nat → Int32) : Nat → Int32 := upd g0 j ((g0 j) ||| ((1 : Int32) <<< ((f5 j) &&& 31)))
def ctY (yq sv : Int32) (j : Nat) (g2 : Nat → Int32) : Nat → Int32 := if yq ≤ drw sv then g2 else upd g2 j (g2 j + 1)
def psL (ag : Int32) (j : Nat) (x : (Nat → Int32) × (Nat → Int32) × (Nat → Int32) × (Nat → Int32) × (Nat → Int32) × Int32 × Int32 × Int32) : (Nat → Int32) × (Nat → Int32) × (Nat → Int32) × (Nat → Int32) × (Nat → Int32) × Int32 × Int32 × Int32 := if ag = 0 then x else (upd x.1 j 0, upd x.2.1 j 0, upd x.2.2.1 j 0, x.2.2.2)
def psD (ni ye dy : Int32) (j : Nat) (x : (Nat → Int32) × (Nat → Int32) × (Nat → Int32) × (Nat → Int32) × (Nat → Int32) × Int32 × Int32 × Int32) : (Nat → Int32) × (Nat → Int32) × (Nat → Int32) × (Nat → Int32) × (Nat → Int32) × Int32 × Int32 × Int32 := if bcA (x.1 j) < ni then x else (x.1, x.2.1, x.2.2.1, upd x.2.2.2.1 j (if x.2.2.1 j < ye then 2 else 1), upd x.2.2.2.2.1 j dy, x.2.2.2.2.2.1, x.2.2.2.2.2.2.1, x.2.2.2.2.2.2.2 ||| ((1 : Int32) <<< (nI j &&& 31)))
def psS (q : Nat → Nat) (G0 G1 lf f5 f6 : Nat → Int32) (dy ni ye ag : Int32) (j : Nat) (x : (Nat → Int32) × (Nat → Int32) × (Nat → Int32) × (Nat → Int32) × (Nat → Int32) × Int32 × Int32 × Int32) : (Nat → Int32) × (Nat → Int32) × (Nat → Int32) × (Nat → Int32) × (Nat → Int32) × Int32 × Int32 × Int32 :=
  if f5 j = -1 then psL ag j x
  else if wkA lf (pt (q 0) G0 (f6 j) 0) dy (pt (q 1) G1 (f5 j) 0) = 0 then psD ni ye dy j (ctN f5 j x.1, ctN f6 j x.2.1, ctY (pt (q 1) G1 (f5 j) 1) x.2.2.2.2.2.2.1 j x.2.2.1, x.2.2.2.1, x.2.2.2.2.1, x.2.2.2.2.2.1 + pt (q 1) G1 (f5 j) 2, dsd x.2.2.2.2.2.2.1, x.2.2.2.2.2.2.2)
  else psL ag j (x.1, x.2.1, x.2.2.1, x.2.2.2.1, x.2.2.2.2.1, x.2.2.2.2.2.1 + pt (q 1) G1 (f5 j) 2, x.2.2.2.2.2.2)
def psI (q : Nat → Nat) (G0 G1 lf f5 f6 : Nat → Int32) (dy ni ye ag : Int32) (f0 f1 f2 f3 f4 : Nat → Int32) (wg sd : Int32) : Nat → (Nat → Int32) × (Nat → Int32) × (Nat → Int32) × (Nat → Int32) × (Nat → Int32) × Int32 × Int32 × Int32
  | 0 => (f0, f1, f2, f3, f4, wg, sd, 0)
  | j + 1 => psS q G0 G1 lf f5 f6 dy ni ye ag j (psI q G0 G1 lf f5 f6 dy ni ye ag f0 f1 f2 f3 f4 wg sd j)
theorem ps_A0 {q : Nat → Nat} {G0 G1 lf f0 f1 f2 f3 f4 f5 f6 : Nat → Int32} {wg sd dy ni ye ag : Int32} {g0 g1 g2 g3 g4 : Nat → Int32} {wv sv de : Int32} {i : Nat} (he : (g0, g1, g2, g3, g4, wv, sv, de) = psI q G0 G1 lf f5 f6 dy ni ye ag f0 f1 f2 f3 f4 wg sd i) (h : f5 i = -1) (ha : ag = 0) : (g0, g1, g2, g3, g4, wv, sv, de) = psI q G0 G1 lf f5 f6 dy ni ye ag f0 f1 f2 f3 f4 wg sd (i + 1) := by
  rw [psI, ← he, psS, if_pos h, psL, if_pos ha]
theorem ps_A1 {q : Nat → Nat} {G0 G1 lf f0 f1 f2 f3 f4 f5 f6 : Nat → Int32} {wg sd dy ni ye ag : Int32} {g0 g1 g2 g3 g4 : Nat → Int32} {wv sv de : Int32} {i : Nat} (he : (g0, g1, g2, g3, g4, wv, sv, de) = psI q G0 G1 lf f5 f6 dy ni ye ag f0 f1 f2 f3 f4 wg sd i) (h : f5 i = -1) (ha : ¬ ag = 0) : (upd g0 i 0, upd g1 i 0, upd g2 i 0, g3, g4, wv, sv, de) = psI q G0 G1 lf f5 f6 dy ni ye ag f0 f1 f2 f3 f4 wg sd (i + 1) := by
  rw [psI, ← he, psS, if_pos h, psL, if_neg ha]
theorem ps_B0 {q : Nat → Nat} {G0 G1 lf f0 f1 f2 f3 f4 f5 f6 : Nat → Int32} {wg sd dy ni ye ag : Int32} {g0 g1 g2 g3 g4 : Nat → Int32} {wv sv de : Int32} {i : Nat} (he : (g0, g1, g2, g3, g4, wv, sv, de) = psI q G0 G1 lf f5 f6 dy ni ye ag f0 f1 f2 f3 f4 wg sd i) (h : ¬ f5 i = -1) (hw : ¬ wkA lf (pt (q 0) G0 (f6 i) 0) dy (pt (q 1) G1 (f5 i) 0) = 0) (ha : ag = 0) : (g0, g1, g2, g3, g4, wv + pt (q 1) G1 (f5 i) 2, sv, de) = psI q G0 G1 lf f5 f6 dy ni ye ag f0 f1 f2 f3 f4 wg sd (i + 1) := by
  rw [psI, ← he, psS, if_neg h, if_neg hw, psL, if_pos ha]
theorem ps_B1 {q : Nat → Nat} {G0 G1 lf f0 f1 f2 f3 f4 f5 f6 : Nat → Int32} {wg sd dy ni ye ag : Int32} {g0 g1 g2 g3 g4 : Nat → Int32} {wv sv de : Int32} {i : Nat} (he : (g0, g1, g2, g3, g4, wv, sv, de) = psI q G0 G1 lf f5 f6 dy ni ye ag f0 f1 f2 f3 f4 wg sd i) (h : ¬ f5 i = -1) (hw : ¬ wkA lf (pt (q 0) G0 (f6 i) 0) dy (pt (q 1) G1 (f5 i) 0) = 0) (ha : ¬ ag = 0) : (upd g0 i 0, upd g1 i 0, upd g2 i 0, g3, g4, wv + pt (q 1) G1 (f5 i) 2, sv, de) = psI q G0 G1 lf f5 f6 dy ni ye ag f0 f1 f2 f3 f4 wg sd (i + 1) := by
  rw [psI, ← he, psS, if_neg h, if_neg hw, psL, if_neg ha]
theorem ps_C0 {q : Nat → Nat} {G0 G1 lf f0 f1 f2 f3 f4 f5 f6 : Nat → Int32} {wg sd dy ni ye ag : Int32} {g0 g1 g2 g3 g4 : Nat → Int32} {wv sv de : Int32} {i : Nat} {k2 : Nat → Int32} (he : (g0, g1, g2, g3, g4, wv, sv, de) = psI q G0 G1 lf f5 f6 dy ni ye ag f0 f1 f2 f3 f4 wg sd i) (h : ¬ f5 i = -1) (hw : wkA lf (pt (q 0) G0 (f6 i) 0) dy (pt (q 1) G1 (f5 i) 0) = 0) (e2 : k2 = ctY (pt (q 1) G1 (f5 i) 1) sv i g2) (hb : bcA (ctN f5 i g0 i) < ni) : (ctN f5 i g0, ctN f6 i g1, k2, g3, g4, wv + pt (q 1) G1 (f5 i) 2, dsd sv, de) = psI q G0 G1 lf f5 f6 dy ni ye ag f0 f1 f2 f3 f4 wg sd (i + 1) := by
  rw [psI, ← he, psS, if_neg h, if_pos hw, psD, if_pos hb, e2]
theorem ps_C1 {q : Nat → Nat} {G0 G1 lf f0 f1 f2 f3 f4 f5 f6 : Nat → Int32} {wg sd dy ni ye ag : Int32} {g0 g1 g2 g3 g4 : Nat → Int32} {wv sv de : Int32} {i : Nat} {k2 : Nat → Int32} (he : (g0, g1, g2, g3, g4, wv, sv, de) = psI q G0 G1 lf f5 f6 dy ni ye ag f0 f1 f2 f3 f4 wg sd i) (h : ¬ f5 i = -1) (hw : wkA lf (pt (q 0) G0 (f6 i) 0) dy (pt (q 1) G1 (f5 i) 0) = 0) (e2 : k2 = ctY (pt (q 1) G1 (f5 i) 1) sv i g2) (hb : ni ≤ bcA (ctN f5 i g0 i)) : (ctN f5 i g0, ctN f6 i g1, k2, upd g3 i (if k2 i < ye then 2 else 1), upd g4 i dy, wv + pt (q 1) G1 (f5 i) 2, dsd sv, de ||| ((1 : Int32) <<< (nI i &&& 31))) = psI q G0 G1 lf f5 f6 dy ni ye ag f0 f1 f2 f3 f4 wg sd (i + 1) := by
  rw [psI, ← he, psS, if_neg h, if_pos hw, psD, if_neg (Int32.not_lt.mpr hb), e2]

abbrev c_X2_pass (k : Nat → ClassId) (h : Nat) (q0 : Nat) (q1 : Nat) (q2 : Nat) (q3 : Nat) (q4 : Nat) (q5 : Nat) (q6 : Nat) (f0 : Nat → Int32) (f1 : Nat → Int32) (f2 : Nat → Int32) (f3 : Nat → Int32) (f4 : Nat → Int32) (f5 : Nat → Int32) (f6 : Nat → Int32) (wg : Int32) (dy : Int32) (sd : Int32) (t0 : Nat) (t : Nat) (tn : Nat) (tl : Nat) (tc : Nat) (ta : Nat) (rw : Nat → Nat) (q : Nat → Nat) (G0 : Nat → Int32) (G1 : Nat → Int32) (lf : Nat → Int32) (lw : Nat) (ni : Int32) (ye : Int32) (ag : Int32) (l4 : Int32) (l5 : Int32) : va_W := [(h, .inr (2, [.ref q0, .ref q1, .ref q2, .ref q3, .ref q4, .ref q5, .ref q6, .int wg, .int dy, .int sd])), (q0, .inl (k 0, 3, .inl f0)), (q1, .inl (k 0, 3, .inl f1)), (q2, .inl (k 0, 3, .inl f2)), (q3, .inl (k 0, 3, .inl f3)), (q4, .inl (k 0, 3, .inl f4)), (q5, .inl (k 0, 3, .inl f5)), (q6, .inl (k 0, 3, .inl f6)), (t0, .inr (8, [.ref t, .ref tn, .ref tl, .ref tc, .ref ta])), (t, .inl (k 0, 4, .inl (cI q))), (tn, .inl (k 4, 4, .inr (.inr (.inr (.inr (gr4 rw)))))), ((rw 0), .inl (k 0, 80, .inl G0)), ((rw 1), .inl (k 0, 80, .inl G1)), (tl, .inl (k 0, 400, .inl lf)), (lw, .inr (3, [.int ni, .int ye, .int ag, .int l4, .int l5]))]
abbrev r_X2_pass : Room := { frames := 3, cells := 0, slots := 0, locals := 68 }
def w_X2_pass (k : Nat → ClassId) (h : Nat) (q0 : Nat) (q1 : Nat) (q2 : Nat) (q3 : Nat) (q4 : Nat) (q5 : Nat) (q6 : Nat) (f0 : Nat → Int32) (f1 : Nat → Int32) (f2 : Nat → Int32) (f3 : Nat → Int32) (f4 : Nat → Int32) (f5 : Nat → Int32) (f6 : Nat → Int32) (wg : Int32) (dy : Int32) (sd : Int32) (t0 : Nat) (t : Nat) (tn : Nat) (tl : Nat) (tc : Nat) (ta : Nat) (rw : Nat → Nat) (q : Nat → Nat) (G0 : Nat → Int32) (G1 : Nat → Int32) (lf : Nat → Int32) (lw : Nat) (ni : Int32) (ye : Int32) (ag : Int32) (l4 : Int32) (l5 : Int32) : (Nat → Int32) × (Nat → Int32) × (Nat → Int32) × (Nat → Int32) × (Nat → Int32) × Int32 × Int32 → va_W := fun u => match u with | (g0, g1, g2, g3, g4, wv, sv) => [(h, .inr (2, [.ref q0, .ref q1, .ref q2, .ref q3, .ref q4, .ref q5, .ref q6, .int wv, .int (dy + 1), .int sv])), (q0, .inl (k 0, 3, .inl g0)), (q1, .inl (k 0, 3, .inl g1)), (q2, .inl (k 0, 3, .inl g2)), (q3, .inl (k 0, 3, .inl g3)), (q4, .inl (k 0, 3, .inl g4)), (q5, .inl (k 0, 3, .inl (fl_i f5 (-1) 3))), (q6, .inl (k 0, 3, .inl (fl_i f6 (-1) 3))), (t0, .inr (8, [.ref t, .ref tn, .ref tl, .ref tc, .ref ta])), (t, .inl (k 0, 4, .inl (cI q))), (tn, .inl (k 4, 4, .inr (.inr (.inr (.inr (gr4 rw)))))), ((rw 0), .inl (k 0, 80, .inl G0)), ((rw 1), .inl (k 0, 80, .inl G1)), (tl, .inl (k 0, 400, .inl lf)), (lw, .inr (3, [.int ni, .int ye, .int ag, .int l4, .int l5]))]
def p_X2_pass (k : Nat → ClassId) (h : Nat) (q0 : Nat) (q1 : Nat) (q2 : Nat) (q3 : Nat) (q4 : Nat) (q5 : Nat) (q6 : Nat) (f0 : Nat → Int32) (f1 : Nat → Int32) (f2 : Nat → Int32) (f3 : Nat → Int32) (f4 : Nat → Int32) (f5 : Nat → Int32) (f6 : Nat → Int32) (wg : Int32) (dy : Int32) (sd : Int32) (t0 : Nat) (t : Nat) (tn : Nat) (tl : Nat) (tc : Nat) (ta : Nat) (rw : Nat → Nat) (q : Nat → Nat) (G0 : Nat → Int32) (G1 : Nat → Int32) (lf : Nat → Int32) (lw : Nat) (ni : Int32) (ye : Int32) (ag : Int32) (l4 : Int32) (l5 : Int32) : Int32 → (Nat → Int32) × (Nat → Int32) × (Nat → Int32) × (Nat → Int32) × (Nat → Int32) × Int32 × Int32 → Prop := fun (r : Int32) (u : (Nat → Int32) × (Nat → Int32) × (Nat → Int32) × (Nat → Int32) × (Nat → Int32) × Int32 × Int32) => match u with | (g0, g1, g2, g3, g4, wv, sv) => (g0, g1, g2, g3, g4, wv, sv, r) = psI q G0 G1 lf f5 f6 dy ni ye ag f0 f1 f2 f3 f4 wg sd (q 3)
abbrev q_X2_pass (D : va_G) (k : Nat → ClassId) (h : Nat) (q0 : Nat) (q1 : Nat) (q2 : Nat) (q3 : Nat) (q4 : Nat) (q5 : Nat) (q6 : Nat) (f0 : Nat → Int32) (f1 : Nat → Int32) (f2 : Nat → Int32) (f3 : Nat → Int32) (f4 : Nat → Int32) (f5 : Nat → Int32) (f6 : Nat → Int32) (wg : Int32) (dy : Int32) (sd : Int32) (t0 : Nat) (t : Nat) (tn : Nat) (tl : Nat) (tc : Nat) (ta : Nat) (rw : Nat → Nat) (q : Nat → Nat) (G0 : Nat → Int32) (G1 : Nat → Int32) (lf : Nat → Int32) (lw : Nat) (ni : Int32) (ye : Int32) (ag : Int32) (l4 : Int32) (l5 : Int32) (A : Nat → Prop) : Array Value → State → Outcome → State → Prop := va_Qi (p_X2_pass k h q0 q1 q2 q3 q4 q5 q6 f0 f1 f2 f3 f4 f5 f6 wg dy sd t0 t tn tl tc ta rw q G0 G1 lf lw ni ye ag l4 l5) (fun u9 t9 => BO D (w_X2_pass k h q0 q1 q2 q3 q4 q5 q6 f0 f1 f2 f3 f4 f5 f6 wg dy sd t0 t tn tl tc ta rw q G0 G1 lf lw ni ye ag l4 l5 u9) A t9) A
set_option maxHeartbeats 2000000 in
set_option maxRecDepth 100000 in
theorem X2_pass (l : Launch) (D : va_G) (k : Nat → ClassId) (sz : Nat) (h : Nat) (q0 : Nat) (q1 : Nat) (q2 : Nat) (q3 : Nat) (q4 : Nat) (q5 : Nat) (q6 : Nat) (f0 : Nat → Int32) (f1 : Nat → Int32) (f2 : Nat → Int32) (f3 : Nat → Int32) (f4 : Nat → Int32) (f5 : Nat → Int32) (f6 : Nat → Int32) (wg : Int32) (dy : Int32) (sd : Int32) (t0 : Nat) (t : Nat) (tn : Nat) (tl : Nat) (tc : Nat) (ta : Nat) (rw : Nat → Nat) (q : Nat → Nat) (G0 : Nat → Int32) (G1 : Nat → Int32) (lf : Nat → Int32) (lw : Nat) (ni : Int32) (ye : Int32) (ag : Int32) (l4 : Int32) (l5 : Int32) (hq0 : q 0 ≤ 7) (hq1 : q 1 ≤ 7) (hq3 : q 3 ≤ 3) : Met l yX2_pass wsX2_pass r_X2_pass (va_Pc [.ref h, .ref t0, .ref lw] (PR D k (c_X2_pass k h q0 q1 q2 q3 q4 q5 q6 f0 f1 f2 f3 f4 f5 f6 wg dy sd t0 t tn tl tc ta rw q G0 G1 lf lw ni ye ag l4 l5) sz)) (q_X2_pass D k h q0 q1 q2 q3 q4 q5 q6 f0 f1 f2 f3 f4 f5 f6 wg dy sd t0 t tn tl tc ta rw q G0 G1 lf lw ni ye ag l4 l5 (va_A (c_X2_pass k h q0 q1 q2 q3 q4 q5 q6 f0 f1 f2 f3 f4 f5 f6 wg dy sd t0 t tn tl tc ta rw q G0 G1 lf lw ni ye ag l4 l5) sz)) 0 0 (va_A (c_X2_pass k h q0 q1 q2 q3 q4 q5 q6 f0 f1 f2 f3 f4 f5 f6 wg dy sd t0 t tn tl tc ta rw q G0 G1 lf lw ni ye ag l4 l5) sz) := by
  refine Met.ofW (cc := cX2_pass) (maxL := 6) (ret := (some .int)) (by decide) rfl ?_
  intro p e s m args below meth c s₁ B hml hv
  obtain ⟨rfl, hsz, hP, hG, hD0⟩ := hv
  have hx := B.exec
  have hb := B.bytes
  have hr := B.returns
  have hts := atoms_spec (ws := wsX2_pass) B.pre
  have hown : s.vm.findClass RX2 = some m.cls := findClass_of_methodNamed B.named
  have hlocks := B.notSynchronized
  have hi2 : ∀ w ∈ wsX20, w ∈ wsX2_pass := fun _ h => List.mem_cons_of_mem _ (List.mem_append_left _ (List.mem_append_left _ (List.mem_append_right _ h)))
  have hi3 : ∀ w ∈ wsX30, w ∈ wsX2_pass := fun _ h => List.mem_cons_of_mem _ (List.mem_append_left _ (List.mem_append_right _ h))
  have hi8 : ∀ w ∈ wsX80, w ∈ wsX2_pass := fun _ h => List.mem_cons_of_mem _ (List.mem_append_right _ h)
  subst hsz
  have hD := hD0.self (sz := s.heap.size)
  generalize hAe : va_A (c_X2_pass k h q0 q1 q2 q3 q4 q5 q6 f0 f1 f2 f3 f4 f5 f6 wg dy sd t0 t tn tl tc ta rw q G0 G1 lf lw ni ye ag l4 l5) s.heap.size = A at hD ⊢
  have hA : ∀ q : Nat, s.heap.size ≤ q → A q := fun q h => by rw [← hAe]; exact Or.inr h
  have hS : va_S A s.heap s.heap [] := va_S.rf
  have hP : va_P D vwCl [(h, .inr (2, [.ref q0, .ref q1, .ref q2, .ref q3, .ref q4, .ref q5, .ref q6, .int wg, .int dy, .int sd])), (q0, .inl (k 0, 3, .inl f0)), (q1, .inl (k 0, 3, .inl f1)), (q2, .inl (k 0, 3, .inl f2)), (q3, .inl (k 0, 3, .inl f3)), (q4, .inl (k 0, 3, .inl f4)), (q5, .inl (k 0, 3, .inl f5)), (q6, .inl (k 0, 3, .inl f6)), (t0, .inr (8, [.ref t, .ref tn, .ref tl, .ref tc, .ref ta])), (t, .inl (k 0, 4, .inl (cI q))), (tn, .inl (k 4, 4, .inr (.inr (.inr (.inr (gr4 rw)))))), ((rw 0), .inl (k 0, 80, .inl G0)), ((rw 1), .inl (k 0, 80, .inl G1)), (tl, .inl (k 0, 400, .inl lf)), (lw, .inr (3, [.int ni, .int ye, .int ag, .int l4, .int l5]))] s.heap := hP
  have hD : va_D A [(h, .inr (2, [.ref q0, .ref q1, .ref q2, .ref q3, .ref q4, .ref q5, .ref q6, .int wg, .int dy, .int sd])), (q0, .inl (k 0, 3, .inl f0)), (q1, .inl (k 0, 3, .inl f1)), (q2, .inl (k 0, 3, .inl f2)), (q3, .inl (k 0, 3, .inl f3)), (q4, .inl (k 0, 3, .inl f4)), (q5, .inl (k 0, 3, .inl f5)), (q6, .inl (k 0, 3, .inl f6)), (t0, .inr (8, [.ref t, .ref tn, .ref tl, .ref tc, .ref ta])), (t, .inl (k 0, 4, .inl (cI q))), (tn, .inl (k 4, 4, .inr (.inr (.inr (.inr (gr4 rw)))))), ((rw 0), .inl (k 0, 80, .inl G0)), ((rw 1), .inl (k 0, 80, .inl G1)), (tl, .inl (k 0, 400, .inl lf)), (lw, .inr (3, [.int ni, .int ye, .int ag, .int l4, .int l5]))] := hD
  have hl := lv_entry ([.ref h, .ref t0, .ref lw]) (n := 6) (Nat.le_of_ble_eq_true rfl)
  rw [lg_entry_eq]
  generalize (lg_sl ([.ref h, .ref t0, .ref lw]) ++ List.replicate (6 - (lg_sl ([.ref h, .ref t0, .ref lw])).length) Slot.unset).toArray = ls at hl ⊢
  have hl : lv_has ls 6 [(0, .ref h), (1, .ref t0), (2, .ref lw)] := hl
  refine lv_iconst (v := 0) hx hb dX2_pass_0 (by decide) ?_
  refine lv_istore_n (lv' := [(3, .int 0), (0, .ref h), (1, .ref t0), (2, .ref lw)]) hx hb dX2_pass_1 rfl hl (by decide) rfl (fun ls hl => ?_)
  refine lv_iconst (v := 0) hx hb dX2_pass_2 (by decide) ?_
  refine lv_istore (lv' := [(4, .int 0), (3, .int 0), (0, .ref h), (1, .ref t0), (2, .ref lw)]) hx hb dX2_pass_3 hl (by decide) rfl (fun ls hl => ?_)
  have L1 : ∀ (fu9 : Nat) (i : Nat) (g0 : Nat → Int32) (g1 : Nat → Int32) (g2 : Nat → Int32) (g3 : Nat → Int32) (g4 : Nat → Int32) (wv : Int32) (sv : Int32) (de : Int32), (i ≤ q 3) → ((g0, g1, g2, g3, g4, wv, sv, de) = psI q G0 G1 lf f5 f6 dy ni ye ag f0 f1 f2 f3 f4 wg sd i) → q 3 - i < fu9 → ∀ (H : Heap) (locs : List Loc), va_P D vwCl [(h, .inr (2, [.ref q0, .ref q1, .ref q2, .ref q3, .ref q4, .ref q5, .ref q6, .int wv, .int dy, .int sv])), (q0, .inl (k 0, 3, .inl g0)), (q1, .inl (k 0, 3, .inl g1)), (q2, .inl (k 0, 3, .inl g2)), (q3, .inl (k 0, 3, .inl g3)), (q4, .inl (k 0, 3, .inl g4)), (q5, .inl (k 0, 3, .inl f5)), (q6, .inl (k 0, 3, .inl f6)), (t0, .inr (8, [.ref t, .ref tn, .ref tl, .ref tc, .ref ta])), (t, .inl (k 0, 4, .inl (cI q))), (tn, .inl (k 4, 4, .inr (.inr (.inr (.inr (gr4 rw)))))), ((rw 0), .inl (k 0, 80, .inl G0)), ((rw 1), .inl (k 0, 80, .inl G1)), (tl, .inl (k 0, 400, .inl lf)), (lw, .inr (3, [.int ni, .int ye, .int ag, .int l4, .int l5]))] H → va_D A [(h, .inr (2, [.ref q0, .ref q1, .ref q2, .ref q3, .ref q4, .ref q5, .ref q6, .int wv, .int dy, .int sv])), (q0, .inl (k 0, 3, .inl g0)), (q1, .inl (k 0, 3, .inl g1)), (q2, .inl (k 0, 3, .inl g2)), (q3, .inl (k 0, 3, .inl g3)), (q4, .inl (k 0, 3, .inl g4)), (q5, .inl (k 0, 3, .inl f5)), (q6, .inl (k 0, 3, .inl f6)), (t0, .inr (8, [.ref t, .ref tn, .ref tl, .ref tc, .ref ta])), (t, .inl (k 0, 4, .inl (cI q))), (tn, .inl (k 4, 4, .inr (.inr (.inr (.inr (gr4 rw)))))), ((rw 0), .inl (k 0, 80, .inl G0)), ((rw 1), .inl (k 0, 80, .inl G1)), (tl, .inl (k 0, 400, .inl lf)), (lw, .inr (3, [.int ni, .int ye, .int ag, .int l4, .int l5]))] → va_S A s.heap H locs → ∀ (ls : Array Slot), lv_has ls 6 [(4, .int (nI i)), (3, .int de), (0, .ref h), (1, .ref t0), (2, .ref lw)] → W p l e r_X2_pass s m ([.ref h, .ref t0, .ref lw] : List Value).toArray below meth c H locs 0 0 (MQ below (q_X2_pass D k h q0 q1 q2 q3 q4 q5 q6 f0 f1 f2 f3 f4 f5 f6 wg dy sd t0 t tn tl tc ta rw q G0 G1 lf lw ni ye ag l4 l5 A) ([.ref h, .ref t0, .ref lw] : List Value).toArray s 0 0 A) (F0 m 5 ls []) := by
    intro fu9
    induction fu9 with
    | zero => intro i g0 g1 g2 g3 g4 wv sv de hi he hmu; exact absurd hmu (Nat.not_lt_zero _)
    | succ fu9 ih =>
      intro i g0 g1 g2 g3 g4 wv sv de hi he hmu H locs hP hD hS ls hl
      refine lv_iload hx hb dX2_pass_5 (lv_at hl 0 rfl) ?_
      refine lv_aload_n hx hb dX2_pass_7 rfl (lv_at hl 3 rfl) ?_
      refine lv_iconst (v := 3) hx hb dX2_pass_8 (by decide) ?_
      have hPc := hP.sub (ws' := (c_X8_count k t0 t tn tl tc ta q 3)) [8, 9] rfl
      refine vp_callSi (va_Run.run (va_runV (As := [.int 3]) (rest := [.int (nI i)]) ⟨hx, hb, hml, hown, hts⟩ (X8_count l D k t0 t tn tl tc ta q 3 (by decide)) (cwV 1 hts gX2_pass_X8_count rfl rfl rfl (by decide +kernel) ⟨Nat.le_of_ble_eq_true rfl, Nat.le_of_ble_eq_true rfl⟩) ⟨PS.blind _ _ _ _, va_recv hG.1 hP (ci := 8) (q0 := 8) rfl rfl, PS.pre hPc hG [.ref t0, .int 3]⟩ rfl rfl hl.1 rfl (lv_room (Nat.le_of_ble_eq_true rfl)) dX2_pass_9 ⟨Nat.le_of_ble_eq_true rfl, Nat.le_of_ble_eq_true rfl⟩)) (fun r hq => ?_)
      generalize r = y2 at hq ⊢
      have hq : y2 = nI (q 3) := hq
      refine tp_i (y := nI (q 3)) (hq) ?_
      refine bn_ge (i := i) (j := (q 3)) (tgt := 126) hx hb dX2_pass_12 (by decide) (by omega) (by omega) (fun c3 => ?_) (fun c3 => ?_)
      · skip
        have hiN : i = q 3 := by omega
        rw [hiN] at he
        refine lv_aload_n hx hb dX2_pass_126 rfl (lv_at hl 2 rfl) ?_
        have hPc := hP.sub (ws' := (c_X2_emptyBeds k h q0 q1 q2 q3 q4 q5 q6 g0 g1 g2 g3 g4 f5 f6 wv dy sv)) [0, 1, 2, 3, 4, 5, 6, 7] rfl
        have hDc := hD.sub (ws' := (c_X2_emptyBeds k h q0 q1 q2 q3 q4 q5 q6 g0 g1 g2 g3 g4 f5 f6 wv dy sv)) [0, 1, 2, 3, 4, 5, 6, 7] (by decide +kernel) rfl
        refine cl_v (w1 := w_X2_emptyBeds k h q0 q1 q2 q3 q4 q5 q6 g0 g1 g2 g3 g4 f5 f6 wv dy sv) (wr := [(t0, .inr (8, [.ref t, .ref tn, .ref tl, .ref tc, .ref ta])), (t, .inl (k 0, 4, .inl (cI q))), (tn, .inl (k 4, 4, .inr (.inr (.inr (.inr (gr4 rw)))))), ((rw 0), .inl (k 0, 80, .inl G0)), ((rw 1), .inl (k 0, 80, .inl G1)), (tl, .inl (k 0, 400, .inl lf)), (lw, .inr (3, [.int ni, .int ye, .int ag, .int l4, .int l5]))]) (va_runV (As := []) (rest := []) ⟨hx, hb, hml, hown, hts⟩ (X2_emptyBeds l D k H.size h q0 q1 q2 q3 q4 q5 q6 g0 g1 g2 g3 g4 f5 f6 wv dy sv ) (cwV 0 hts gX2_pass_X2_emptyBeds rfl rfl rfl (by decide +kernel) ⟨Nat.le_of_ble_eq_true rfl, Nat.le_of_ble_eq_true rfl⟩) ⟨PR.blind _ _ _ _ _, va_recv hG.1 hP (ci := 2) (q0 := 0) rfl rfl, PR.pre hPc hDc hG [.ref h]⟩ rfl rfl hl.1 rfl (lv_room (Nat.le_of_ble_eq_true rfl)) dX2_pass_127 ⟨Nat.le_of_ble_eq_true rfl, Nat.le_of_ble_eq_true rfl⟩) hP hD hS hA [0, 1, 2, 3, 4, 5, 6, 7] [8, 9, 10, 11, 12, 13, 14] rfl rfl (by decide +kernel) (by decide +kernel) (fun u H locs hq hP hD hS => ?_)
        cases u
        have hP : va_P D vwCl [(t0, .inr (8, [.ref t, .ref tn, .ref tl, .ref tc, .ref ta])), (t, .inl (k 0, 4, .inl (cI q))), (tn, .inl (k 4, 4, .inr (.inr (.inr (.inr (gr4 rw)))))), ((rw 0), .inl (k 0, 80, .inl G0)), ((rw 1), .inl (k 0, 80, .inl G1)), (tl, .inl (k 0, 400, .inl lf)), (lw, .inr (3, [.int ni, .int ye, .int ag, .int l4, .int l5])), (h, .inr (2, [.ref q0, .ref q1, .ref q2, .ref q3, .ref q4, .ref q5, .ref q6, .int wv, .int dy, .int sv])), (q0, .inl (k 0, 3, .inl g0)), (q1, .inl (k 0, 3, .inl g1)), (q2, .inl (k 0, 3, .inl g2)), (q3, .inl (k 0, 3, .inl g3)), (q4, .inl (k 0, 3, .inl g4)), (q5, .inl (k 0, 3, .inl (fl_i f5 (-1) 3))), (q6, .inl (k 0, 3, .inl (fl_i f6 (-1) 3)))] H := hP
        have hD : va_D A [(t0, .inr (8, [.ref t, .ref tn, .ref tl, .ref tc, .ref ta])), (t, .inl (k 0, 4, .inl (cI q))), (tn, .inl (k 4, 4, .inr (.inr (.inr (.inr (gr4 rw)))))), ((rw 0), .inl (k 0, 80, .inl G0)), ((rw 1), .inl (k 0, 80, .inl G1)), (tl, .inl (k 0, 400, .inl lf)), (lw, .inr (3, [.int ni, .int ye, .int ag, .int l4, .int l5])), (h, .inr (2, [.ref q0, .ref q1, .ref q2, .ref q3, .ref q4, .ref q5, .ref q6, .int wv, .int dy, .int sv])), (q0, .inl (k 0, 3, .inl g0)), (q1, .inl (k 0, 3, .inl g1)), (q2, .inl (k 0, 3, .inl g2)), (q3, .inl (k 0, 3, .inl g3)), (q4, .inl (k 0, 3, .inl g4)), (q5, .inl (k 0, 3, .inl (fl_i f5 (-1) 3))), (q6, .inl (k 0, 3, .inl (fl_i f6 (-1) 3)))] := hD
        refine lv_aload_n hx hb dX2_pass_130 rfl (lv_at hl 2 rfl) ?_
        refine lv_dup hx hb dX2_pass_131 rfl ?_
        refine va_get (D := D) (ci := 2) (v := .int dy) (C := RX2) (T := TX2) (N := 10) hx hb hts hi2 hown hG.1 hP 7 rfl rfl 8 (by decide) (hts (.fieldLink RX2 37 "SleptMatters$Course" "day" "I") (List.mem_cons_of_mem _ (List.mem_append_left _ (List.mem_append_left _ (List.mem_append_left _ (List.mem_append_left _ (List.mem_of_getElem? (i := 3) rfl))))))) (fun _ h9 => h9) rfl dX2_pass_132 ?_
        refine lv_iconst (v := 1) hx hb dX2_pass_135 (by decide) ?_
        refine lv_iadd hx hb dX2_pass_136 ?_
        refine va_put (D := D) (ci := 2) (v := .int (dy + 1)) (ty := .int) (C := RX2) (T := TX2) (N := 10) hx hb hts hi2 tyX2 tyX2_ok nmX2 hown hG.1 hP hD hS 7 rfl rfl 8 (by decide) (hts (.fieldLink RX2 37 "SleptMatters$Course" "day" "I") (List.mem_cons_of_mem _ (List.mem_append_left _ (List.mem_append_left _ (List.mem_append_left _ (List.mem_append_left _ (List.mem_of_getElem? (i := 3) rfl))))))) (fun _ h9 => h9) rfl (by decide +kernel) rfl rfl (Nat.le_of_ble_eq_true rfl) dX2_pass_137 (fun H locs hP hD hS => ?_)
        have hP : va_P D vwCl [(t0, .inr (8, [.ref t, .ref tn, .ref tl, .ref tc, .ref ta])), (t, .inl (k 0, 4, .inl (cI q))), (tn, .inl (k 4, 4, .inr (.inr (.inr (.inr (gr4 rw)))))), ((rw 0), .inl (k 0, 80, .inl G0)), ((rw 1), .inl (k 0, 80, .inl G1)), (tl, .inl (k 0, 400, .inl lf)), (lw, .inr (3, [.int ni, .int ye, .int ag, .int l4, .int l5])), (h, .inr (2, [.ref q0, .ref q1, .ref q2, .ref q3, .ref q4, .ref q5, .ref q6, .int wv, .int (dy + 1), .int sv])), (q0, .inl (k 0, 3, .inl g0)), (q1, .inl (k 0, 3, .inl g1)), (q2, .inl (k 0, 3, .inl g2)), (q3, .inl (k 0, 3, .inl g3)), (q4, .inl (k 0, 3, .inl g4)), (q5, .inl (k 0, 3, .inl (fl_i f5 (-1) 3))), (q6, .inl (k 0, 3, .inl (fl_i f6 (-1) 3)))] H := hP
        have hD : va_D A [(t0, .inr (8, [.ref t, .ref tn, .ref tl, .ref tc, .ref ta])), (t, .inl (k 0, 4, .inl (cI q))), (tn, .inl (k 4, 4, .inr (.inr (.inr (.inr (gr4 rw)))))), ((rw 0), .inl (k 0, 80, .inl G0)), ((rw 1), .inl (k 0, 80, .inl G1)), (tl, .inl (k 0, 400, .inl lf)), (lw, .inr (3, [.int ni, .int ye, .int ag, .int l4, .int l5])), (h, .inr (2, [.ref q0, .ref q1, .ref q2, .ref q3, .ref q4, .ref q5, .ref q6, .int wv, .int (dy + 1), .int sv])), (q0, .inl (k 0, 3, .inl g0)), (q1, .inl (k 0, 3, .inl g1)), (q2, .inl (k 0, 3, .inl g2)), (q3, .inl (k 0, 3, .inl g3)), (q4, .inl (k 0, 3, .inl g4)), (q5, .inl (k 0, 3, .inl (fl_i f5 (-1) 3))), (q6, .inl (k 0, 3, .inl (fl_i f6 (-1) 3)))] := hD
        refine lv_iload_n hx hb dX2_pass_140 rfl (lv_at hl 1 rfl) ?_
        have hP9 := hP.sub (ws' := [(h, .inr (2, [.ref q0, .ref q1, .ref q2, .ref q3, .ref q4, .ref q5, .ref q6, .int wv, .int (dy + 1), .int sv])), (q0, .inl (k 0, 3, .inl g0)), (q1, .inl (k 0, 3, .inl g1)), (q2, .inl (k 0, 3, .inl g2)), (q3, .inl (k 0, 3, .inl g3)), (q4, .inl (k 0, 3, .inl g4)), (q5, .inl (k 0, 3, .inl (fl_i f5 (-1) 3))), (q6, .inl (k 0, 3, .inl (fl_i f6 (-1) 3))), (t0, .inr (8, [.ref t, .ref tn, .ref tl, .ref tc, .ref ta])), (t, .inl (k 0, 4, .inl (cI q))), (tn, .inl (k 4, 4, .inr (.inr (.inr (.inr (gr4 rw)))))), ((rw 0), .inl (k 0, 80, .inl G0)), ((rw 1), .inl (k 0, 80, .inl G1)), (tl, .inl (k 0, 400, .inl lf)), (lw, .inr (3, [.int ni, .int ye, .int ag, .int l4, .int l5]))]) [7, 8, 9, 10, 11, 12, 13, 14, 0, 1, 2, 3, 4, 5, 6] rfl
        have hD9 := hD.sub (ws' := [(h, .inr (2, [.ref q0, .ref q1, .ref q2, .ref q3, .ref q4, .ref q5, .ref q6, .int wv, .int (dy + 1), .int sv])), (q0, .inl (k 0, 3, .inl g0)), (q1, .inl (k 0, 3, .inl g1)), (q2, .inl (k 0, 3, .inl g2)), (q3, .inl (k 0, 3, .inl g3)), (q4, .inl (k 0, 3, .inl g4)), (q5, .inl (k 0, 3, .inl (fl_i f5 (-1) 3))), (q6, .inl (k 0, 3, .inl (fl_i f6 (-1) 3))), (t0, .inr (8, [.ref t, .ref tn, .ref tl, .ref tc, .ref ta])), (t, .inl (k 0, 4, .inl (cI q))), (tn, .inl (k 4, 4, .inr (.inr (.inr (.inr (gr4 rw)))))), ((rw 0), .inl (k 0, 80, .inl G0)), ((rw 1), .inl (k 0, 80, .inl G1)), (tl, .inl (k 0, 400, .inl lf)), (lw, .inr (3, [.int ni, .int ye, .int ag, .int l4, .int l5]))]) [7, 8, 9, 10, 11, 12, 13, 14, 0, 1, 2, 3, 4, 5, 6] (by decide +kernel) rfl
        exact W.iret (v := de) hx hb hr (fun t9 ht _ => ⟨⟨de, (g0, g1, g2, g3, g4, wv, sv), rfl, he, by rw [ht]; exact hP9, hD9⟩, hS.F ht⟩) hS.2.2 dX2_pass_141
      · skip
        refine lv_aload_n hx hb dX2_pass_15 rfl (lv_at hl 2 rfl) ?_
        refine va_get (D := D) (ci := 2) (v := .ref q5) (C := RX2) (T := TX2) (N := 10) hx hb hts hi2 hown hG.1 hP 0 rfl rfl 5 (by decide) (hts (.fieldLink RX2 27 "SleptMatters$Course" "laidSleeper" "[I") (List.mem_cons_of_mem _ (List.mem_append_left _ (List.mem_append_left _ (List.mem_append_left _ (List.mem_append_left _ (List.mem_of_getElem? (i := 0) rfl))))))) (fun _ h9 => h9) rfl dX2_pass_16 ?_
        refine lv_iload hx hb dX2_pass_19 (lv_at hl 0 rfl) ?_
        refine va_iald hx hb hG.1 hP 6 0 rfl rfl (vp_in_nI (by omega) (by omega)) dX2_pass_21 ?_
        refine tp_i (y := f5 i) (congrArg _ (nI_clamp (n := i) (by omega))) ?_
        refine lv_istore (lv' := [(5, .int (f5 i)), (4, .int (nI i)), (3, .int de), (0, .ref h), (1, .ref t0), (2, .ref lw)]) hx hb dX2_pass_22 hl (by decide) rfl (fun ls hl => ?_)
        refine lv_iload hx hb dX2_pass_24 (lv_at hl 0 rfl) ?_
        refine lv_iconst (v := (-1)) hx hb dX2_pass_26 (by decide) ?_
        refine lv_icmp_eq (x := f5 i) (y := (-1)) (tgt := 47) hx hb dX2_pass_27 (by decide) (fun c4 => ?_) (fun c4 => ?_)
        · skip
          have hs1 := c4
          refine lv_iload hx hb dX2_pass_47 (lv_at hl 0 rfl) ?_
          refine lv_iconst (v := (-1)) hx hb dX2_pass_49 (by decide) ?_
          refine lv_icmp_eq (x := f5 i) (y := (-1)) (tgt := 107) hx hb dX2_pass_50 (by decide) (fun c5 => ?_) (fun c5 => absurd hs1 c5)
          refine lv_aload_n hx hb dX2_pass_107 rfl (lv_at hl 5 rfl) ?_
          refine va_get (D := D) (ci := 3) (v := .int ag) (C := RX3) (T := TX3) (N := 5) hx hb hts hi3 hown hG.1 hP 14 rfl rfl 2 (by decide) (hts (.fieldLink RX2 117 "SleptMatters$Law" "again" "Z") (List.mem_cons_of_mem _ (List.mem_append_left _ (List.mem_append_left _ (List.mem_append_left _ (List.mem_append_left _ (List.mem_of_getElem? (i := 4) rfl))))))) (fun _ h9 => h9) rfl dX2_pass_108 ?_
          refine lv_if_eq (x := ag) (tgt := 120) hx hb dX2_pass_111 (by decide) (fun c6 => ?_) (fun c6 => ?_)
          · skip
            have hag := c6
            refine lv_iinc (v := nI (i + 1)) (lv' := [(4, .int (nI (i + 1))), (5, .int (f5 i)), (3, .int de), (0, .ref h), (1, .ref t0), (2, .ref lw)]) hx hb dX2_pass_120 hl (k := 1) rfl (nI_add i 1) (by decide) rfl (fun ls hl => ?_)
            refine lv_goto (tgt := 5) hx hb dX2_pass_123 (by decide) ?_
            exact ih (i + 1) g0 g1 g2 g3 g4 wv sv de (by omega) (ps_A0 he hs1 hag) (by omega) _ _ (hP.sub [0, 1, 2, 3, 4, 5, 6, 7, 8, 9, 10, 11, 12, 13, 14] rfl) (hD.sub [0, 1, 2, 3, 4, 5, 6, 7, 8, 9, 10, 11, 12, 13, 14] (by decide +kernel) rfl) hS ls (lv_sub hl [0, 2, 3, 4, 5] rfl)
          · skip
            have hag := c6
            refine lv_aload_n hx hb dX2_pass_114 rfl (lv_at hl 3 rfl) ?_
            refine lv_iload hx hb dX2_pass_115 (lv_at hl 1 rfl) ?_
            have hPc := hP.sub (ws' := (c_X2_loseNights k h q0 q1 q2 q3 q4 q5 q6 wv dy sv g0 g1 g2 i)) [0, 1, 2, 3] rfl
            have hDc := hD.sub (ws' := (c_X2_loseNights k h q0 q1 q2 q3 q4 q5 q6 wv dy sv g0 g1 g2 i)) [0, 1, 2, 3] (by decide +kernel) rfl
            refine cl_v (w1 := w_X2_loseNights k h q0 q1 q2 q3 q4 q5 q6 wv dy sv g0 g1 g2 i) (wr := [(q3, .inl (k 0, 3, .inl g3)), (q4, .inl (k 0, 3, .inl g4)), (q5, .inl (k 0, 3, .inl f5)), (q6, .inl (k 0, 3, .inl f6)), (t0, .inr (8, [.ref t, .ref tn, .ref tl, .ref tc, .ref ta])), (t, .inl (k 0, 4, .inl (cI q))), (tn, .inl (k 4, 4, .inr (.inr (.inr (.inr (gr4 rw)))))), ((rw 0), .inl (k 0, 80, .inl G0)), ((rw 1), .inl (k 0, 80, .inl G1)), (tl, .inl (k 0, 400, .inl lf)), (lw, .inr (3, [.int ni, .int ye, .int ag, .int l4, .int l5]))]) (va_runV (As := [.int (nI i)]) (rest := []) ⟨hx, hb, hml, hown, hts⟩ (X2_loseNights l D k H.size h q0 q1 q2 q3 q4 q5 q6 wv dy sv g0 g1 g2 i (by omega)) (cwV 1 hts gX2_pass_X2_loseNights rfl rfl rfl (by decide +kernel) ⟨Nat.le_of_ble_eq_true rfl, Nat.le_of_ble_eq_true rfl⟩) ⟨PR.blind _ _ _ _ _, va_recv hG.1 hP (ci := 2) (q0 := 0) rfl rfl, PR.pre hPc hDc hG [.ref h, .int (nI i)]⟩ rfl rfl hl.1 rfl (lv_room (Nat.le_of_ble_eq_true rfl)) dX2_pass_117 ⟨Nat.le_of_ble_eq_true rfl, Nat.le_of_ble_eq_true rfl⟩) hP hD hS hA [0, 1, 2, 3] [4, 5, 6, 7, 8, 9, 10, 11, 12, 13, 14] rfl rfl (by decide +kernel) (by decide +kernel) (fun u H locs hq hP hD hS => ?_)
            cases u
            have hP : va_P D vwCl [(q3, .inl (k 0, 3, .inl g3)), (q4, .inl (k 0, 3, .inl g4)), (q5, .inl (k 0, 3, .inl f5)), (q6, .inl (k 0, 3, .inl f6)), (t0, .inr (8, [.ref t, .ref tn, .ref tl, .ref tc, .ref ta])), (t, .inl (k 0, 4, .inl (cI q))), (tn, .inl (k 4, 4, .inr (.inr (.inr (.inr (gr4 rw)))))), ((rw 0), .inl (k 0, 80, .inl G0)), ((rw 1), .inl (k 0, 80, .inl G1)), (tl, .inl (k 0, 400, .inl lf)), (lw, .inr (3, [.int ni, .int ye, .int ag, .int l4, .int l5])), (h, .inr (2, [.ref q0, .ref q1, .ref q2, .ref q3, .ref q4, .ref q5, .ref q6, .int wv, .int dy, .int sv])), (q0, .inl (k 0, 3, .inl (upd g0 i 0))), (q1, .inl (k 0, 3, .inl (upd g1 i 0))), (q2, .inl (k 0, 3, .inl (upd g2 i 0)))] H := hP
            have hD : va_D A [(q3, .inl (k 0, 3, .inl g3)), (q4, .inl (k 0, 3, .inl g4)), (q5, .inl (k 0, 3, .inl f5)), (q6, .inl (k 0, 3, .inl f6)), (t0, .inr (8, [.ref t, .ref tn, .ref tl, .ref tc, .ref ta])), (t, .inl (k 0, 4, .inl (cI q))), (tn, .inl (k 4, 4, .inr (.inr (.inr (.inr (gr4 rw)))))), ((rw 0), .inl (k 0, 80, .inl G0)), ((rw 1), .inl (k 0, 80, .inl G1)), (tl, .inl (k 0, 400, .inl lf)), (lw, .inr (3, [.int ni, .int ye, .int ag, .int l4, .int l5])), (h, .inr (2, [.ref q0, .ref q1, .ref q2, .ref q3, .ref q4, .ref q5, .ref q6, .int wv, .int dy, .int sv])), (q0, .inl (k 0, 3, .inl (upd g0 i 0))), (q1, .inl (k 0, 3, .inl (upd g1 i 0))), (q2, .inl (k 0, 3, .inl (upd g2 i 0)))] := hD
            refine lv_iinc (v := nI (i + 1)) (lv' := [(4, .int (nI (i + 1))), (5, .int (f5 i)), (3, .int de), (0, .ref h), (1, .ref t0), (2, .ref lw)]) hx hb dX2_pass_120 hl (k := 1) rfl (nI_add i 1) (by decide) rfl (fun ls hl => ?_)
            refine lv_goto (tgt := 5) hx hb dX2_pass_123 (by decide) ?_
            exact ih (i + 1) (upd g0 i 0) (upd g1 i 0) (upd g2 i 0) g3 g4 wv sv de (by omega) (ps_A1 he hs1 hag) (by omega) _ _ (hP.sub [11, 12, 13, 14, 0, 1, 2, 3, 4, 5, 6, 7, 8, 9, 10] rfl) (hD.sub [11, 12, 13, 14, 0, 1, 2, 3, 4, 5, 6, 7, 8, 9, 10] (by decide +kernel) rfl) hS ls (lv_sub hl [0, 2, 3, 4, 5] rfl)
        · skip
          have hs1 := c4
          refine lv_aload_n hx hb dX2_pass_30 rfl (lv_at hl 3 rfl) ?_
          refine lv_dup hx hb dX2_pass_31 rfl ?_
          refine va_get (D := D) (ci := 2) (v := .int wv) (C := RX2) (T := TX2) (N := 10) hx hb hts hi2 hown hG.1 hP 0 rfl rfl 7 (by decide) (hts (.fieldLink RX2 33 "SleptMatters$Course" "wages" "I") (List.mem_cons_of_mem _ (List.mem_append_left _ (List.mem_append_left _ (List.mem_append_left _ (List.mem_append_left _ (List.mem_of_getElem? (i := 1) rfl))))))) (fun _ h9 => h9) rfl dX2_pass_32 ?_
          refine lv_aload_n hx hb dX2_pass_35 rfl (lv_at hl 4 rfl) ?_
          refine lv_iconst (v := 1) hx hb dX2_pass_36 (by decide) ?_
          refine lv_iload hx hb dX2_pass_37 (lv_at hl 0 rfl) ?_
          refine lv_iconst (v := 2) hx hb dX2_pass_39 (by decide) ?_
          have hPc := hP.sub (ws' := (c_X8_part1 k t0 t tn tl tc ta rw q G1 (f5 i) 2)) [8, 9, 10, 12] rfl
          refine vp_callSi (va_Run.run (va_runV (As := [.int 1, .int (f5 i), .int 2]) (rest := [.int wv, .ref h]) ⟨hx, hb, hml, hown, hts⟩ (X8_part1 l D k t0 t tn tl tc ta rw q G1 (f5 i) 2 (by omega) (by decide)) (cwV 3 hts gX2_pass_X8_part rfl rfl rfl (by decide +kernel) ⟨Nat.le_of_ble_eq_true rfl, Nat.le_of_ble_eq_true rfl⟩) ⟨PS.blind _ _ _ _, va_recv hG.1 hP (ci := 8) (q0 := 8) rfl rfl, PS.pre hPc hG [.ref t0, .int 1, .int (f5 i), .int 2]⟩ rfl rfl hl.1 rfl (lv_room (Nat.le_of_ble_eq_true rfl)) dX2_pass_40 ⟨Nat.le_of_ble_eq_true rfl, Nat.le_of_ble_eq_true rfl⟩)) (fun r hq => ?_)
          generalize r = y7 at hq ⊢
          have hq : y7 = pt (q 1) G1 (f5 i) 2 := hq
          refine tp_i (y := pt (q 1) G1 (f5 i) 2) (hq) ?_
          refine lv_iadd hx hb dX2_pass_43 ?_
          refine va_put (D := D) (ci := 2) (v := .int (wv + (pt (q 1) G1 (f5 i) 2))) (ty := .int) (C := RX2) (T := TX2) (N := 10) hx hb hts hi2 tyX2 tyX2_ok nmX2 hown hG.1 hP hD hS 0 rfl rfl 7 (by decide) (hts (.fieldLink RX2 33 "SleptMatters$Course" "wages" "I") (List.mem_cons_of_mem _ (List.mem_append_left _ (List.mem_append_left _ (List.mem_append_left _ (List.mem_append_left _ (List.mem_of_getElem? (i := 1) rfl))))))) (fun _ h9 => h9) rfl (by decide +kernel) rfl rfl (Nat.le_of_ble_eq_true rfl) dX2_pass_44 (fun H locs hP hD hS => ?_)
          have hP : va_P D vwCl [(h, .inr (2, [.ref q0, .ref q1, .ref q2, .ref q3, .ref q4, .ref q5, .ref q6, .int (wv + (pt (q 1) G1 (f5 i) 2)), .int dy, .int sv])), (q0, .inl (k 0, 3, .inl g0)), (q1, .inl (k 0, 3, .inl g1)), (q2, .inl (k 0, 3, .inl g2)), (q3, .inl (k 0, 3, .inl g3)), (q4, .inl (k 0, 3, .inl g4)), (q5, .inl (k 0, 3, .inl f5)), (q6, .inl (k 0, 3, .inl f6)), (t0, .inr (8, [.ref t, .ref tn, .ref tl, .ref tc, .ref ta])), (t, .inl (k 0, 4, .inl (cI q))), (tn, .inl (k 4, 4, .inr (.inr (.inr (.inr (gr4 rw)))))), ((rw 0), .inl (k 0, 80, .inl G0)), ((rw 1), .inl (k 0, 80, .inl G1)), (tl, .inl (k 0, 400, .inl lf)), (lw, .inr (3, [.int ni, .int ye, .int ag, .int l4, .int l5]))] H := hP
          have hD : va_D A [(h, .inr (2, [.ref q0, .ref q1, .ref q2, .ref q3, .ref q4, .ref q5, .ref q6, .int (wv + (pt (q 1) G1 (f5 i) 2)), .int dy, .int sv])), (q0, .inl (k 0, 3, .inl g0)), (q1, .inl (k 0, 3, .inl g1)), (q2, .inl (k 0, 3, .inl g2)), (q3, .inl (k 0, 3, .inl g3)), (q4, .inl (k 0, 3, .inl g4)), (q5, .inl (k 0, 3, .inl f5)), (q6, .inl (k 0, 3, .inl f6)), (t0, .inr (8, [.ref t, .ref tn, .ref tl, .ref tc, .ref ta])), (t, .inl (k 0, 4, .inl (cI q))), (tn, .inl (k 4, 4, .inr (.inr (.inr (.inr (gr4 rw)))))), ((rw 0), .inl (k 0, 80, .inl G0)), ((rw 1), .inl (k 0, 80, .inl G1)), (tl, .inl (k 0, 400, .inl lf)), (lw, .inr (3, [.int ni, .int ye, .int ag, .int l4, .int l5]))] := hD
          refine lv_iload hx hb dX2_pass_47 (lv_at hl 0 rfl) ?_
          refine lv_iconst (v := (-1)) hx hb dX2_pass_49 (by decide) ?_
          refine lv_icmp_eq (x := f5 i) (y := (-1)) (tgt := 107) hx hb dX2_pass_50 (by decide) (fun c8 => absurd c8 hs1) (fun c8 => ?_)
          refine lv_aload_n hx hb dX2_pass_53 rfl (lv_at hl 4 rfl) ?_
          refine lv_iload hx hb dX2_pass_54 (lv_at hl 0 rfl) ?_
          refine lv_aload_n hx hb dX2_pass_56 rfl (lv_at hl 3 rfl) ?_
          refine va_get (D := D) (ci := 2) (v := .ref q6) (C := RX2) (T := TX2) (N := 10) hx hb hts hi2 hown hG.1 hP 0 rfl rfl 6 (by decide) (hts (.fieldLink RX2 30 "SleptMatters$Course" "laidHouse" "[I") (List.mem_cons_of_mem _ (List.mem_append_left _ (List.mem_append_left _ (List.mem_append_left _ (List.mem_append_left _ (List.mem_of_getElem? (i := 2) rfl))))))) (fun _ h9 => h9) rfl dX2_pass_57 ?_
          refine lv_iload hx hb dX2_pass_60 (lv_at hl 1 rfl) ?_
          refine va_iald hx hb hG.1 hP 7 0 rfl rfl (vp_in_nI (by omega) (by omega)) dX2_pass_62 ?_
          refine tp_i (y := f6 i) (congrArg _ (nI_clamp (n := i) (by omega))) ?_
          refine lv_aload_n hx hb dX2_pass_63 rfl (lv_at hl 3 rfl) ?_
          refine va_get (D := D) (ci := 2) (v := .int dy) (C := RX2) (T := TX2) (N := 10) hx hb hts hi2 hown hG.1 hP 0 rfl rfl 8 (by decide) (hts (.fieldLink RX2 37 "SleptMatters$Course" "day" "I") (List.mem_cons_of_mem _ (List.mem_append_left _ (List.mem_append_left _ (List.mem_append_left _ (List.mem_append_left _ (List.mem_of_getElem? (i := 3) rfl))))))) (fun _ h9 => h9) rfl dX2_pass_64 ?_
          have hPc := hP.sub (ws' := (c_X8_isWoken k t0 t tn tl tc ta rw q G0 G1 lf (f5 i) (f6 i) dy)) [8, 9, 10, 11, 12, 13] rfl
          refine vp_callSi (va_Run.run (va_runV (As := [.int (f5 i), .int (f6 i), .int dy]) (rest := []) ⟨hx, hb, hml, hown, hts⟩ (X8_isWoken l D k t0 t tn tl tc ta rw q G0 G1 lf (f5 i) (f6 i) dy (hq0) (hq1)) (cwV 3 hts gX2_pass_X8_isWoken rfl rfl rfl (by decide +kernel) ⟨Nat.le_of_ble_eq_true rfl, Nat.le_of_ble_eq_true rfl⟩) ⟨PS.blind _ _ _ _, va_recv hG.1 hP (ci := 8) (q0 := 8) rfl rfl, PS.pre hPc hG [.ref t0, .int (f5 i), .int (f6 i), .int dy]⟩ rfl rfl hl.1 rfl (lv_room (Nat.le_of_ble_eq_true rfl)) dX2_pass_67 ⟨Nat.le_of_ble_eq_true rfl, Nat.le_of_ble_eq_true rfl⟩)) (fun r hq => ?_)
          generalize r = y9 at hq ⊢
          have hq : y9 = wkA lf (pt (q 0) G0 (f6 i) 0) dy (pt (q 1) G1 (f5 i) 0) := hq
          refine tp_i (y := wkA lf (pt (q 0) G0 (f6 i) 0) dy (pt (q 1) G1 (f5 i) 0)) (hq) ?_
          refine lv_if_ne (x := wkA lf (pt (q 0) G0 (f6 i) 0) dy (pt (q 1) G1 (f5 i) 0)) (tgt := 107) hx hb dX2_pass_70 (by decide) (fun c10 => ?_) (fun c10 => ?_)
          · skip
            have hwk := c10
            refine lv_aload_n hx hb dX2_pass_107 rfl (lv_at hl 5 rfl) ?_
            refine va_get (D := D) (ci := 3) (v := .int ag) (C := RX3) (T := TX3) (N := 5) hx hb hts hi3 hown hG.1 hP 14 rfl rfl 2 (by decide) (hts (.fieldLink RX2 117 "SleptMatters$Law" "again" "Z") (List.mem_cons_of_mem _ (List.mem_append_left _ (List.mem_append_left _ (List.mem_append_left _ (List.mem_append_left _ (List.mem_of_getElem? (i := 4) rfl))))))) (fun _ h9 => h9) rfl dX2_pass_108 ?_
            refine lv_if_eq (x := ag) (tgt := 120) hx hb dX2_pass_111 (by decide) (fun c11 => ?_) (fun c11 => ?_)
            · skip
              have hag := c11
              refine lv_iinc (v := nI (i + 1)) (lv' := [(4, .int (nI (i + 1))), (5, .int (f5 i)), (3, .int de), (0, .ref h), (1, .ref t0), (2, .ref lw)]) hx hb dX2_pass_120 hl (k := 1) rfl (nI_add i 1) (by decide) rfl (fun ls hl => ?_)
              refine lv_goto (tgt := 5) hx hb dX2_pass_123 (by decide) ?_
              exact ih (i + 1) g0 g1 g2 g3 g4 (wv + (pt (q 1) G1 (f5 i) 2)) sv de (by omega) (ps_B0 he hs1 hwk hag) (by omega) _ _ (hP.sub [0, 1, 2, 3, 4, 5, 6, 7, 8, 9, 10, 11, 12, 13, 14] rfl) (hD.sub [0, 1, 2, 3, 4, 5, 6, 7, 8, 9, 10, 11, 12, 13, 14] (by decide +kernel) rfl) hS ls (lv_sub hl [0, 2, 3, 4, 5] rfl)
            · skip
              have hag := c11
              refine lv_aload_n hx hb dX2_pass_114 rfl (lv_at hl 3 rfl) ?_
              refine lv_iload hx hb dX2_pass_115 (lv_at hl 1 rfl) ?_
              have hPc := hP.sub (ws' := (c_X2_loseNights k h q0 q1 q2 q3 q4 q5 q6 (wv + (pt (q 1) G1 (f5 i) 2)) dy sv g0 g1 g2 i)) [0, 1, 2, 3] rfl
              have hDc := hD.sub (ws' := (c_X2_loseNights k h q0 q1 q2 q3 q4 q5 q6 (wv + (pt (q 1) G1 (f5 i) 2)) dy sv g0 g1 g2 i)) [0, 1, 2, 3] (by decide +kernel) rfl
              refine cl_v (w1 := w_X2_loseNights k h q0 q1 q2 q3 q4 q5 q6 (wv + (pt (q 1) G1 (f5 i) 2)) dy sv g0 g1 g2 i) (wr := [(q3, .inl (k 0, 3, .inl g3)), (q4, .inl (k 0, 3, .inl g4)), (q5, .inl (k 0, 3, .inl f5)), (q6, .inl (k 0, 3, .inl f6)), (t0, .inr (8, [.ref t, .ref tn, .ref tl, .ref tc, .ref ta])), (t, .inl (k 0, 4, .inl (cI q))), (tn, .inl (k 4, 4, .inr (.inr (.inr (.inr (gr4 rw)))))), ((rw 0), .inl (k 0, 80, .inl G0)), ((rw 1), .inl (k 0, 80, .inl G1)), (tl, .inl (k 0, 400, .inl lf)), (lw, .inr (3, [.int ni, .int ye, .int ag, .int l4, .int l5]))]) (va_runV (As := [.int (nI i)]) (rest := []) ⟨hx, hb, hml, hown, hts⟩ (X2_loseNights l D k H.size h q0 q1 q2 q3 q4 q5 q6 (wv + (pt (q 1) G1 (f5 i) 2)) dy sv g0 g1 g2 i (by omega)) (cwV 1 hts gX2_pass_X2_loseNights rfl rfl rfl (by decide +kernel) ⟨Nat.le_of_ble_eq_true rfl, Nat.le_of_ble_eq_true rfl⟩) ⟨PR.blind _ _ _ _ _, va_recv hG.1 hP (ci := 2) (q0 := 0) rfl rfl, PR.pre hPc hDc hG [.ref h, .int (nI i)]⟩ rfl rfl hl.1 rfl (lv_room (Nat.le_of_ble_eq_true rfl)) dX2_pass_117 ⟨Nat.le_of_ble_eq_true rfl, Nat.le_of_ble_eq_true rfl⟩) hP hD hS hA [0, 1, 2, 3] [4, 5, 6, 7, 8, 9, 10, 11, 12, 13, 14] rfl rfl (by decide +kernel) (by decide +kernel) (fun u H locs hq hP hD hS => ?_)
              cases u
              have hP : va_P D vwCl [(q3, .inl (k 0, 3, .inl g3)), (q4, .inl (k 0, 3, .inl g4)), (q5, .inl (k 0, 3, .inl f5)), (q6, .inl (k 0, 3, .inl f6)), (t0, .inr (8, [.ref t, .ref tn, .ref tl, .ref tc, .ref ta])), (t, .inl (k 0, 4, .inl (cI q))), (tn, .inl (k 4, 4, .inr (.inr (.inr (.inr (gr4 rw)))))), ((rw 0), .inl (k 0, 80, .inl G0)), ((rw 1), .inl (k 0, 80, .inl G1)), (tl, .inl (k 0, 400, .inl lf)), (lw, .inr (3, [.int ni, .int ye, .int ag, .int l4, .int l5])), (h, .inr (2, [.ref q0, .ref q1, .ref q2, .ref q3, .ref q4, .ref q5, .ref q6, .int (wv + (pt (q 1) G1 (f5 i) 2)), .int dy, .int sv])), (q0, .inl (k 0, 3, .inl (upd g0 i 0))), (q1, .inl (k 0, 3, .inl (upd g1 i 0))), (q2, .inl (k 0, 3, .inl (upd g2 i 0)))] H := hP
              have hD : va_D A [(q3, .inl (k 0, 3, .inl g3)), (q4, .inl (k 0, 3, .inl g4)), (q5, .inl (k 0, 3, .inl f5)), (q6, .inl (k 0, 3, .inl f6)), (t0, .inr (8, [.ref t, .ref tn, .ref tl, .ref tc, .ref ta])), (t, .inl (k 0, 4, .inl (cI q))), (tn, .inl (k 4, 4, .inr (.inr (.inr (.inr (gr4 rw)))))), ((rw 0), .inl (k 0, 80, .inl G0)), ((rw 1), .inl (k 0, 80, .inl G1)), (tl, .inl (k 0, 400, .inl lf)), (lw, .inr (3, [.int ni, .int ye, .int ag, .int l4, .int l5])), (h, .inr (2, [.ref q0, .ref q1, .ref q2, .ref q3, .ref q4, .ref q5, .ref q6, .int (wv + (pt (q 1) G1 (f5 i) 2)), .int dy, .int sv])), (q0, .inl (k 0, 3, .inl (upd g0 i 0))), (q1, .inl (k 0, 3, .inl (upd g1 i 0))), (q2, .inl (k 0, 3, .inl (upd g2 i 0)))] := hD
              refine lv_iinc (v := nI (i + 1)) (lv' := [(4, .int (nI (i + 1))), (5, .int (f5 i)), (3, .int de), (0, .ref h), (1, .ref t0), (2, .ref lw)]) hx hb dX2_pass_120 hl (k := 1) rfl (nI_add i 1) (by decide) rfl (fun ls hl => ?_)
              refine lv_goto (tgt := 5) hx hb dX2_pass_123 (by decide) ?_
              exact ih (i + 1) (upd g0 i 0) (upd g1 i 0) (upd g2 i 0) g3 g4 (wv + (pt (q 1) G1 (f5 i) 2)) sv de (by omega) (ps_B1 he hs1 hwk hag) (by omega) _ _ (hP.sub [11, 12, 13, 14, 0, 1, 2, 3, 4, 5, 6, 7, 8, 9, 10] rfl) (hD.sub [11, 12, 13, 14, 0, 1, 2, 3, 4, 5, 6, 7, 8, 9, 10] (by decide +kernel) rfl) hS ls (lv_sub hl [0, 2, 3, 4, 5] rfl)
          · skip
            have hwk := c10
            refine lv_aload_n hx hb dX2_pass_73 rfl (lv_at hl 3 rfl) ?_
            refine lv_iload hx hb dX2_pass_74 (lv_at hl 1 rfl) ?_
            refine lv_aload_n hx hb dX2_pass_76 rfl (lv_at hl 4 rfl) ?_
            refine lv_iconst (v := 1) hx hb dX2_pass_77 (by decide) ?_
            refine lv_iload hx hb dX2_pass_78 (lv_at hl 0 rfl) ?_
            refine lv_iconst (v := 1) hx hb dX2_pass_80 (by decide) ?_
            have hPc := hP.sub (ws' := (c_X8_part1 k t0 t tn tl tc ta rw q G1 (f5 i) 1)) [8, 9, 10, 12] rfl
            refine vp_callSi (va_Run.run (va_runV (As := [.int 1, .int (f5 i), .int 1]) (rest := [.int (nI i), .ref h]) ⟨hx, hb, hml, hown, hts⟩ (X8_part1 l D k t0 t tn tl tc ta rw q G1 (f5 i) 1 (by omega) (by decide)) (cwV 3 hts gX2_pass_X8_part rfl rfl rfl (by decide +kernel) ⟨Nat.le_of_ble_eq_true rfl, Nat.le_of_ble_eq_true rfl⟩) ⟨PS.blind _ _ _ _, va_recv hG.1 hP (ci := 8) (q0 := 8) rfl rfl, PS.pre hPc hG [.ref t0, .int 1, .int (f5 i), .int 1]⟩ rfl rfl hl.1 rfl (lv_room (Nat.le_of_ble_eq_true rfl)) dX2_pass_81 ⟨Nat.le_of_ble_eq_true rfl, Nat.le_of_ble_eq_true rfl⟩)) (fun r hq => ?_)
            generalize r = y12 at hq ⊢
            have hq : y12 = pt (q 1) G1 (f5 i) 1 := hq
            refine tp_i (y := pt (q 1) G1 (f5 i) 1) (hq) ?_
            have hPc := hP.sub (ws' := (c_X2_countNight k h q0 q1 q2 q3 q4 q5 q6 (wv + (pt (q 1) G1 (f5 i) 2)) dy sv g0 g1 g2 f5 f6 i (pt (q 1) G1 (f5 i) 1))) [0, 1, 2, 3, 6, 7] rfl
            have hDc := hD.sub (ws' := (c_X2_countNight k h q0 q1 q2 q3 q4 q5 q6 (wv + (pt (q 1) G1 (f5 i) 2)) dy sv g0 g1 g2 f5 f6 i (pt (q 1) G1 (f5 i) 1))) [0, 1, 2, 3, 6, 7] (by decide +kernel) rfl
            refine cl_v (w1 := w_X2_countNight k h q0 q1 q2 q3 q4 q5 q6 (wv + (pt (q 1) G1 (f5 i) 2)) dy sv g0 g1 g2 f5 f6 i (pt (q 1) G1 (f5 i) 1)) (wr := [(q3, .inl (k 0, 3, .inl g3)), (q4, .inl (k 0, 3, .inl g4)), (t0, .inr (8, [.ref t, .ref tn, .ref tl, .ref tc, .ref ta])), (t, .inl (k 0, 4, .inl (cI q))), (tn, .inl (k 4, 4, .inr (.inr (.inr (.inr (gr4 rw)))))), ((rw 0), .inl (k 0, 80, .inl G0)), ((rw 1), .inl (k 0, 80, .inl G1)), (tl, .inl (k 0, 400, .inl lf)), (lw, .inr (3, [.int ni, .int ye, .int ag, .int l4, .int l5]))]) (va_runV (As := [.int (nI i), .int (pt (q 1) G1 (f5 i) 1)]) (rest := []) ⟨hx, hb, hml, hown, hts⟩ (X2_countNight l D k H.size h q0 q1 q2 q3 q4 q5 q6 (wv + (pt (q 1) G1 (f5 i) 2)) dy sv g0 g1 g2 f5 f6 i (pt (q 1) G1 (f5 i) 1) (by omega)) (cwV 2 hts gX2_pass_X2_countNight rfl rfl rfl (by decide +kernel) ⟨Nat.le_of_ble_eq_true rfl, Nat.le_of_ble_eq_true rfl⟩) ⟨PR.blind _ _ _ _ _, va_recv hG.1 hP (ci := 2) (q0 := 0) rfl rfl, PR.pre hPc hDc hG [.ref h, .int (nI i), .int (pt (q 1) G1 (f5 i) 1)]⟩ rfl rfl hl.1 rfl (lv_room (Nat.le_of_ble_eq_true rfl)) dX2_pass_84 ⟨Nat.le_of_ble_eq_true rfl, Nat.le_of_ble_eq_true rfl⟩) hP hD hS hA [0, 1, 2, 3, 6, 7] [4, 5, 8, 9, 10, 11, 12, 13, 14] rfl rfl (by decide +kernel) (by decide +kernel) (fun u H locs hq hP hD hS => ?_)
            obtain ⟨k2, rfl⟩ : ∃ z, z = u := ⟨_, rfl⟩
            have hq : k2 = (if (pt (q 1) G1 (f5 i) 1) ≤ drw sv then g2 else upd g2 i (g2 i + 1)) := hq
            have hP : va_P D vwCl [(q3, .inl (k 0, 3, .inl g3)), (q4, .inl (k 0, 3, .inl g4)), (t0, .inr (8, [.ref t, .ref tn, .ref tl, .ref tc, .ref ta])), (t, .inl (k 0, 4, .inl (cI q))), (tn, .inl (k 4, 4, .inr (.inr (.inr (.inr (gr4 rw)))))), ((rw 0), .inl (k 0, 80, .inl G0)), ((rw 1), .inl (k 0, 80, .inl G1)), (tl, .inl (k 0, 400, .inl lf)), (lw, .inr (3, [.int ni, .int ye, .int ag, .int l4, .int l5])), (h, .inr (2, [.ref q0, .ref q1, .ref q2, .ref q3, .ref q4, .ref q5, .ref q6, .int (wv + (pt (q 1) G1 (f5 i) 2)), .int dy, .int (dsd sv)])), (q0, .inl (k 0, 3, .inl (upd g0 i ((g0 i) ||| ((1 : Int32) <<< ((f5 i) &&& 31)))))), (q1, .inl (k 0, 3, .inl (upd g1 i ((g1 i) ||| ((1 : Int32) <<< ((f6 i) &&& 31)))))), (q2, .inl (k 0, 3, .inl k2)), (q5, .inl (k 0, 3, .inl f5)), (q6, .inl (k 0, 3, .inl f6))] H := hP
            have hD : va_D A [(q3, .inl (k 0, 3, .inl g3)), (q4, .inl (k 0, 3, .inl g4)), (t0, .inr (8, [.ref t, .ref tn, .ref tl, .ref tc, .ref ta])), (t, .inl (k 0, 4, .inl (cI q))), (tn, .inl (k 4, 4, .inr (.inr (.inr (.inr (gr4 rw)))))), ((rw 0), .inl (k 0, 80, .inl G0)), ((rw 1), .inl (k 0, 80, .inl G1)), (tl, .inl (k 0, 400, .inl lf)), (lw, .inr (3, [.int ni, .int ye, .int ag, .int l4, .int l5])), (h, .inr (2, [.ref q0, .ref q1, .ref q2, .ref q3, .ref q4, .ref q5, .ref q6, .int (wv + (pt (q 1) G1 (f5 i) 2)), .int dy, .int (dsd sv)])), (q0, .inl (k 0, 3, .inl (upd g0 i ((g0 i) ||| ((1 : Int32) <<< ((f5 i) &&& 31)))))), (q1, .inl (k 0, 3, .inl (upd g1 i ((g1 i) ||| ((1 : Int32) <<< ((f6 i) &&& 31)))))), (q2, .inl (k 0, 3, .inl k2)), (q5, .inl (k 0, 3, .inl f5)), (q6, .inl (k 0, 3, .inl f6))] := hD
            have hP : va_P D vwCl [(q3, .inl (k 0, 3, .inl g3)), (q4, .inl (k 0, 3, .inl g4)), (t0, .inr (8, [.ref t, .ref tn, .ref tl, .ref tc, .ref ta])), (t, .inl (k 0, 4, .inl (cI q))), (tn, .inl (k 4, 4, .inr (.inr (.inr (.inr (gr4 rw)))))), ((rw 0), .inl (k 0, 80, .inl G0)), ((rw 1), .inl (k 0, 80, .inl G1)), (tl, .inl (k 0, 400, .inl lf)), (lw, .inr (3, [.int ni, .int ye, .int ag, .int l4, .int l5])), (h, .inr (2, [.ref q0, .ref q1, .ref q2, .ref q3, .ref q4, .ref q5, .ref q6, .int (wv + (pt (q 1) G1 (f5 i) 2)), .int dy, .int (dsd sv)])), (q0, .inl (k 0, 3, .inl (ctN f5 i g0))), (q1, .inl (k 0, 3, .inl (ctN f6 i g1))), (q2, .inl (k 0, 3, .inl k2)), (q5, .inl (k 0, 3, .inl f5)), (q6, .inl (k 0, 3, .inl f6))] H := hP
            have hD : va_D A [(q3, .inl (k 0, 3, .inl g3)), (q4, .inl (k 0, 3, .inl g4)), (t0, .inr (8, [.ref t, .ref tn, .ref tl, .ref tc, .ref ta])), (t, .inl (k 0, 4, .inl (cI q))), (tn, .inl (k 4, 4, .inr (.inr (.inr (.inr (gr4 rw)))))), ((rw 0), .inl (k 0, 80, .inl G0)), ((rw 1), .inl (k 0, 80, .inl G1)), (tl, .inl (k 0, 400, .inl lf)), (lw, .inr (3, [.int ni, .int ye, .int ag, .int l4, .int l5])), (h, .inr (2, [.ref q0, .ref q1, .ref q2, .ref q3, .ref q4, .ref q5, .ref q6, .int (wv + (pt (q 1) G1 (f5 i) 2)), .int dy, .int (dsd sv)])), (q0, .inl (k 0, 3, .inl (ctN f5 i g0))), (q1, .inl (k 0, 3, .inl (ctN f6 i g1))), (q2, .inl (k 0, 3, .inl k2)), (q5, .inl (k 0, 3, .inl f5)), (q6, .inl (k 0, 3, .inl f6))] := hD
            have e2 : k2 = ctY (pt (q 1) G1 (f5 i) 1) sv i g2 := hq
            refine lv_aload_n hx hb dX2_pass_87 rfl (lv_at hl 3 rfl) ?_
            refine lv_iload hx hb dX2_pass_88 (lv_at hl 1 rfl) ?_
            refine lv_aload_n hx hb dX2_pass_90 rfl (lv_at hl 5 rfl) ?_
            have hPc := hP.sub (ws' := (c_X2_decide k h q0 q1 q2 q3 q4 q5 q6 (wv + (pt (q 1) G1 (f5 i) 2)) dy (dsd sv) (ctN f5 i g0) k2 g3 g4 lw ni ye ag l4 l5 i)) [9, 10, 12, 0, 1, 8] rfl
            have hDc := hD.sub (ws' := (c_X2_decide k h q0 q1 q2 q3 q4 q5 q6 (wv + (pt (q 1) G1 (f5 i) 2)) dy (dsd sv) (ctN f5 i g0) k2 g3 g4 lw ni ye ag l4 l5 i)) [9, 10, 12, 0, 1, 8] (by decide +kernel) rfl
            refine cl_i (w1 := w_X2_decide k h q0 q1 q2 q3 q4 q5 q6 (wv + (pt (q 1) G1 (f5 i) 2)) dy (dsd sv) (ctN f5 i g0) k2 g3 g4 lw ni ye ag l4 l5 i) (wr := [(t0, .inr (8, [.ref t, .ref tn, .ref tl, .ref tc, .ref ta])), (t, .inl (k 0, 4, .inl (cI q))), (tn, .inl (k 4, 4, .inr (.inr (.inr (.inr (gr4 rw)))))), ((rw 0), .inl (k 0, 80, .inl G0)), ((rw 1), .inl (k 0, 80, .inl G1)), (tl, .inl (k 0, 400, .inl lf)), (q1, .inl (k 0, 3, .inl (ctN f6 i g1))), (q5, .inl (k 0, 3, .inl f5)), (q6, .inl (k 0, 3, .inl f6))]) (va_runV (As := [.int (nI i), .ref lw]) (rest := []) ⟨hx, hb, hml, hown, hts⟩ (X2_decide l D k H.size h q0 q1 q2 q3 q4 q5 q6 (wv + (pt (q 1) G1 (f5 i) 2)) dy (dsd sv) (ctN f5 i g0) k2 g3 g4 lw ni ye ag l4 l5 i (by omega)) (cwV 2 hts gX2_pass_X2_decide rfl rfl rfl (by decide +kernel) ⟨Nat.le_of_ble_eq_true rfl, Nat.le_of_ble_eq_true rfl⟩) ⟨PR.blind _ _ _ _ _, va_recv hG.1 hP (ci := 2) (q0 := 9) rfl rfl, PR.pre hPc hDc hG [.ref h, .int (nI i), .ref lw]⟩ rfl rfl hl.1 rfl (lv_room (Nat.le_of_ble_eq_true rfl)) dX2_pass_91 ⟨Nat.le_of_ble_eq_true rfl, Nat.le_of_ble_eq_true rfl⟩) hP hD hS hA [9, 10, 12, 0, 1, 8] [2, 3, 4, 5, 6, 7, 11, 13, 14] rfl rfl (by decide +kernel) (by decide +kernel) (fun r u H locs hq hP hD hS => ?_)
            obtain ⟨k3, k4⟩ := u
            generalize r = y13 at hq ⊢
            have hq : (bcA ((ctN f5 i g0) i) < ni ∧ y13 = 0 ∧ k3 = g3 ∧ k4 = g4) ∨ (ni ≤ bcA ((ctN f5 i g0) i) ∧ y13 = 1 ∧ k3 = upd g3 i (if k2 i < ye then 2 else 1) ∧ k4 = upd g4 i dy) := hq
            have hP : va_P D vwCl [(t0, .inr (8, [.ref t, .ref tn, .ref tl, .ref tc, .ref ta])), (t, .inl (k 0, 4, .inl (cI q))), (tn, .inl (k 4, 4, .inr (.inr (.inr (.inr (gr4 rw)))))), ((rw 0), .inl (k 0, 80, .inl G0)), ((rw 1), .inl (k 0, 80, .inl G1)), (tl, .inl (k 0, 400, .inl lf)), (q1, .inl (k 0, 3, .inl (ctN f6 i g1))), (q5, .inl (k 0, 3, .inl f5)), (q6, .inl (k 0, 3, .inl f6)), (h, .inr (2, [.ref q0, .ref q1, .ref q2, .ref q3, .ref q4, .ref q5, .ref q6, .int (wv + (pt (q 1) G1 (f5 i) 2)), .int dy, .int (dsd sv)])), (q0, .inl (k 0, 3, .inl (ctN f5 i g0))), (q2, .inl (k 0, 3, .inl k2)), (q3, .inl (k 0, 3, .inl k3)), (q4, .inl (k 0, 3, .inl k4)), (lw, .inr (3, [.int ni, .int ye, .int ag, .int l4, .int l5]))] H := hP
            have hD : va_D A [(t0, .inr (8, [.ref t, .ref tn, .ref tl, .ref tc, .ref ta])), (t, .inl (k 0, 4, .inl (cI q))), (tn, .inl (k 4, 4, .inr (.inr (.inr (.inr (gr4 rw)))))), ((rw 0), .inl (k 0, 80, .inl G0)), ((rw 1), .inl (k 0, 80, .inl G1)), (tl, .inl (k 0, 400, .inl lf)), (q1, .inl (k 0, 3, .inl (ctN f6 i g1))), (q5, .inl (k 0, 3, .inl f5)), (q6, .inl (k 0, 3, .inl f6)), (h, .inr (2, [.ref q0, .ref q1, .ref q2, .ref q3, .ref q4, .ref q5, .ref q6, .int (wv + (pt (q 1) G1 (f5 i) 2)), .int dy, .int (dsd sv)])), (q0, .inl (k 0, 3, .inl (ctN f5 i g0))), (q2, .inl (k 0, 3, .inl k2)), (q3, .inl (k 0, 3, .inl k3)), (q4, .inl (k 0, 3, .inl k4)), (lw, .inr (3, [.int ni, .int ye, .int ag, .int l4, .int l5]))] := hD
            rcases hq with ⟨hb1, hr1, e3, e4⟩ | ⟨hb1, hr1, e3, e4⟩
            · skip
              rw [e3, e4] at hP hD
              have hP : va_P D vwCl [(t0, .inr (8, [.ref t, .ref tn, .ref tl, .ref tc, .ref ta])), (t, .inl (k 0, 4, .inl (cI q))), (tn, .inl (k 4, 4, .inr (.inr (.inr (.inr (gr4 rw)))))), ((rw 0), .inl (k 0, 80, .inl G0)), ((rw 1), .inl (k 0, 80, .inl G1)), (tl, .inl (k 0, 400, .inl lf)), (q1, .inl (k 0, 3, .inl (ctN f6 i g1))), (q5, .inl (k 0, 3, .inl f5)), (q6, .inl (k 0, 3, .inl f6)), (h, .inr (2, [.ref q0, .ref q1, .ref q2, .ref q3, .ref q4, .ref q5, .ref q6, .int (wv + (pt (q 1) G1 (f5 i) 2)), .int dy, .int (dsd sv)])), (q0, .inl (k 0, 3, .inl (ctN f5 i g0))), (q2, .inl (k 0, 3, .inl k2)), (q3, .inl (k 0, 3, .inl g3)), (q4, .inl (k 0, 3, .inl g4)), (lw, .inr (3, [.int ni, .int ye, .int ag, .int l4, .int l5]))] H := hP
              have hD : va_D A [(t0, .inr (8, [.ref t, .ref tn, .ref tl, .ref tc, .ref ta])), (t, .inl (k 0, 4, .inl (cI q))), (tn, .inl (k 4, 4, .inr (.inr (.inr (.inr (gr4 rw)))))), ((rw 0), .inl (k 0, 80, .inl G0)), ((rw 1), .inl (k 0, 80, .inl G1)), (tl, .inl (k 0, 400, .inl lf)), (q1, .inl (k 0, 3, .inl (ctN f6 i g1))), (q5, .inl (k 0, 3, .inl f5)), (q6, .inl (k 0, 3, .inl f6)), (h, .inr (2, [.ref q0, .ref q1, .ref q2, .ref q3, .ref q4, .ref q5, .ref q6, .int (wv + (pt (q 1) G1 (f5 i) 2)), .int dy, .int (dsd sv)])), (q0, .inl (k 0, 3, .inl (ctN f5 i g0))), (q2, .inl (k 0, 3, .inl k2)), (q3, .inl (k 0, 3, .inl g3)), (q4, .inl (k 0, 3, .inl g4)), (lw, .inr (3, [.int ni, .int ye, .int ag, .int l4, .int l5]))] := hD
              refine tp_i (y := 0) hr1 ?_
              refine lv_if_eq (x := 0) (tgt := 120) hx hb dX2_pass_94 (by decide) (fun c14 => ?_) (fun c14 => absurd c14 (by decide))
              refine lv_iinc (v := nI (i + 1)) (lv' := [(4, .int (nI (i + 1))), (5, .int (f5 i)), (3, .int de), (0, .ref h), (1, .ref t0), (2, .ref lw)]) hx hb dX2_pass_120 hl (k := 1) rfl (nI_add i 1) (by decide) rfl (fun ls hl => ?_)
              refine lv_goto (tgt := 5) hx hb dX2_pass_123 (by decide) ?_
              exact ih (i + 1) (ctN f5 i g0) (ctN f6 i g1) k2 g3 g4 (wv + (pt (q 1) G1 (f5 i) 2)) (dsd sv) de (by omega) (ps_C0 he hs1 hwk e2 hb1) (by omega) _ _ (hP.sub [9, 10, 6, 11, 12, 13, 7, 8, 0, 1, 2, 3, 4, 5, 14] rfl) (hD.sub [9, 10, 6, 11, 12, 13, 7, 8, 0, 1, 2, 3, 4, 5, 14] (by decide +kernel) rfl) hS ls (lv_sub hl [0, 2, 3, 4, 5] rfl)
            · skip
              rw [e3, e4] at hP hD
              have hP : va_P D vwCl [(t0, .inr (8, [.ref t, .ref tn, .ref tl, .ref tc, .ref ta])), (t, .inl (k 0, 4, .inl (cI q))), (tn, .inl (k 4, 4, .inr (.inr (.inr (.inr (gr4 rw)))))), ((rw 0), .inl (k 0, 80, .inl G0)), ((rw 1), .inl (k 0, 80, .inl G1)), (tl, .inl (k 0, 400, .inl lf)), (q1, .inl (k 0, 3, .inl (ctN f6 i g1))), (q5, .inl (k 0, 3, .inl f5)), (q6, .inl (k 0, 3, .inl f6)), (h, .inr (2, [.ref q0, .ref q1, .ref q2, .ref q3, .ref q4, .ref q5, .ref q6, .int (wv + (pt (q 1) G1 (f5 i) 2)), .int dy, .int (dsd sv)])), (q0, .inl (k 0, 3, .inl (ctN f5 i g0))), (q2, .inl (k 0, 3, .inl k2)), (q3, .inl (k 0, 3, .inl (upd g3 i (if k2 i < ye then 2 else 1)))), (q4, .inl (k 0, 3, .inl (upd g4 i dy))), (lw, .inr (3, [.int ni, .int ye, .int ag, .int l4, .int l5]))] H := hP
              have hD : va_D A [(t0, .inr (8, [.ref t, .ref tn, .ref tl, .ref tc, .ref ta])), (t, .inl (k 0, 4, .inl (cI q))), (tn, .inl (k 4, 4, .inr (.inr (.inr (.inr (gr4 rw)))))), ((rw 0), .inl (k 0, 80, .inl G0)), ((rw 1), .inl (k 0, 80, .inl G1)), (tl, .inl (k 0, 400, .inl lf)), (q1, .inl (k 0, 3, .inl (ctN f6 i g1))), (q5, .inl (k 0, 3, .inl f5)), (q6, .inl (k 0, 3, .inl f6)), (h, .inr (2, [.ref q0, .ref q1, .ref q2, .ref q3, .ref q4, .ref q5, .ref q6, .int (wv + (pt (q 1) G1 (f5 i) 2)), .int dy, .int (dsd sv)])), (q0, .inl (k 0, 3, .inl (ctN f5 i g0))), (q2, .inl (k 0, 3, .inl k2)), (q3, .inl (k 0, 3, .inl (upd g3 i (if k2 i < ye then 2 else 1)))), (q4, .inl (k 0, 3, .inl (upd g4 i dy))), (lw, .inr (3, [.int ni, .int ye, .int ag, .int l4, .int l5]))] := hD
              refine tp_i (y := 1) hr1 ?_
              refine lv_if_eq (x := 1) (tgt := 120) hx hb dX2_pass_94 (by decide) (fun c15 => absurd c15 (by decide)) (fun c15 => ?_)
              refine lv_iload_n hx hb dX2_pass_97 rfl (lv_at hl 2 rfl) ?_
              refine lv_iconst (v := 1) hx hb dX2_pass_98 (by decide) ?_
              refine lv_iload hx hb dX2_pass_99 (lv_at hl 1 rfl) ?_
              refine lv_ishl hx hb dX2_pass_101 ?_
              refine lv_ior hx hb dX2_pass_102 ?_
              refine lv_istore_n (lv' := [(3, .int (de ||| ((1 : Int32) <<< ((nI i) &&& 31)))), (5, .int (f5 i)), (4, .int (nI i)), (0, .ref h), (1, .ref t0), (2, .ref lw)]) hx hb dX2_pass_103 rfl hl (by decide) rfl (fun ls hl => ?_)
              refine lv_goto (tgt := 120) hx hb dX2_pass_104 (by decide) ?_
              refine lv_iinc (v := nI (i + 1)) (lv' := [(4, .int (nI (i + 1))), (3, .int (de ||| ((1 : Int32) <<< ((nI i) &&& 31)))), (5, .int (f5 i)), (0, .ref h), (1, .ref t0), (2, .ref lw)]) hx hb dX2_pass_120 hl (k := 2) rfl (nI_add i 1) (by decide) rfl (fun ls hl => ?_)
              refine lv_goto (tgt := 5) hx hb dX2_pass_123 (by decide) ?_
              exact ih (i + 1) (ctN f5 i g0) (ctN f6 i g1) k2 (upd g3 i (if k2 i < ye then 2 else 1)) (upd g4 i dy) (wv + (pt (q 1) G1 (f5 i) 2)) (dsd sv) (de ||| ((1 : Int32) <<< ((nI i) &&& 31))) (by omega) (ps_C1 he hs1 hwk e2 hb1) (by omega) _ _ (hP.sub [9, 10, 6, 11, 12, 13, 7, 8, 0, 1, 2, 3, 4, 5, 14] rfl) (hD.sub [9, 10, 6, 11, 12, 13, 7, 8, 0, 1, 2, 3, 4, 5, 14] (by decide +kernel) rfl) hS ls (lv_sub hl [0, 1, 3, 4, 5] rfl)
  exact L1 _ 0 f0 f1 f2 f3 f4 wg sd 0 (Nat.zero_le _) (rfl) (Nat.lt_succ_self _) _ _ hP hD hS ls (lv_sub hl [0, 1, 2, 3, 4] rfl)
