set_option maxRecDepth 20000 in
theorem ggX7_readNumber_X7_skipBlanks : GoodIn wsX7_readNumber wsX7_skipBlanks := goodIn_r _ [8, 1, 9, 3, 24, 25, 26, 27, 28, 29, 30, 31] rfl (by decide +kernel)
set_option maxRecDepth 20000 in
theorem gX7_readNumber_X7_skipBlanks : GoodIn wsX7_readNumber (wsV RX7 43 RX7 yX7_skipBlanks wsX7_skipBlanks) := goodIn_app (goodIn_of _ (by decide +kernel)) ggX7_readNumber_X7_skipBlanks
set_option maxRecDepth 20000 in
theorem ggX7_readNumber_X7_isBetween : GoodIn wsX7_readNumber wsX7_isBetween := goodIn_r _ [13, 1, 9, 3, 24, 25, 26, 27, 28, 29, 30, 31] rfl (by decide +kernel)
set_option maxRecDepth 20000 in
theorem gX7_readNumber_X7_isBetween : GoodIn wsX7_readNumber (wsV RX7 46 RX7 yX7_isBetween wsX7_isBetween) := goodIn_app (goodIn_of _ (by decide +kernel)) ggX7_readNumber_X7_isBetween
set_option maxRecDepth 20000 in
theorem ggX7_readNumber_X7_blame : GoodIn wsX7_readNumber wsX7_blame := goodIn_r _ [17, 18, 19, 20, 21, 22, 7, 23, 24, 25, 26, 27, 28, 29, 30, 31] rfl (by decide +kernel)
set_option maxRecDepth 20000 in
theorem gX7_readNumber_X7_blame : GoodIn wsX7_readNumber (wsV RX7 60 RX7 yX7_blame wsX7_blame) := goodIn_app (goodIn_of _ (by decide +kernel)) ggX7_readNumber_X7_blame
theorem dX7_readNumber_0 : decode cX7_readNumber 0 = .ok (.aload_n 0, 1) := dc_Bk (by decide +kernel)
theorem dX7_readNumber_1 : decode cX7_readNumber 1 = .ok (.invokevirtual 43, 3) := dc_Bk (by decide +kernel)
theorem dX7_readNumber_4 : decode cX7_readNumber 4 = .ok (.aload_n 0, 1) := dc_Bk (by decide +kernel)
theorem dX7_readNumber_5 : decode cX7_readNumber 5 = .ok (.aload_n 0, 1) := dc_Bk (by decide +kernel)
theorem dX7_readNumber_6 : decode cX7_readNumber 6 = .ok (.getfield 34, 3) := dc_Bk (by decide +kernel)
theorem dX7_readNumber_9 : decode cX7_readNumber 9 = .ok (.putfield 22, 3) := dc_Bk (by decide +kernel)
theorem dX7_readNumber_12 : decode cX7_readNumber 12 = .ok (.iconst 0, 1) := dc_Bk (by decide +kernel)
theorem dX7_readNumber_13 : decode cX7_readNumber 13 = .ok (.istore_n 3, 1) := dc_Bk (by decide +kernel)
theorem dX7_readNumber_14 : decode cX7_readNumber 14 = .ok (.aload_n 0, 1) := dc_Bk (by decide +kernel)
theorem dX7_readNumber_15 : decode cX7_readNumber 15 = .ok (.bipush 48, 2) := dc_Bk (by decide +kernel)
theorem dX7_readNumber_17 : decode cX7_readNumber 17 = .ok (.bipush 57, 2) := dc_Bk (by decide +kernel)
theorem dX7_readNumber_19 : decode cX7_readNumber 19 = .ok (.invokevirtual 46, 3) := dc_Bk (by decide +kernel)
theorem dX7_readNumber_22 : decode cX7_readNumber 22 = .ok (.ifCond .eq 47, 3) := dc_Bk (by decide +kernel)
theorem dX7_readNumber_25 : decode cX7_readNumber 25 = .ok (.aload_n 0, 1) := dc_Bk (by decide +kernel)
theorem dX7_readNumber_26 : decode cX7_readNumber 26 = .ok (.getfield 34, 3) := dc_Bk (by decide +kernel)
theorem dX7_readNumber_29 : decode cX7_readNumber 29 = .ok (.aload_n 0, 1) := dc_Bk (by decide +kernel)
theorem dX7_readNumber_30 : decode cX7_readNumber 30 = .ok (.getfield 22, 3) := dc_Bk (by decide +kernel)
theorem dX7_readNumber_33 : decode cX7_readNumber 33 = .ok (.isub, 1) := dc_Bk (by decide +kernel)
theorem dX7_readNumber_34 : decode cX7_readNumber 34 = .ok (.iconst 3, 1) := dc_Bk (by decide +kernel)
theorem dX7_readNumber_35 : decode cX7_readNumber 35 = .ok (.if_icmp .ge 21, 3) := dc_Bk (by decide +kernel)
theorem dX7_readNumber_38 : decode cX7_readNumber 38 = .ok (.iload_n 3, 1) := dc_Bk (by decide +kernel)
theorem dX7_readNumber_39 : decode cX7_readNumber 39 = .ok (.bipush 10, 2) := dc_Bk (by decide +kernel)
theorem dX7_readNumber_41 : decode cX7_readNumber 41 = .ok (.imul, 1) := dc_Bk (by decide +kernel)
theorem dX7_readNumber_42 : decode cX7_readNumber 42 = .ok (.aload_n 0, 1) := dc_Bk (by decide +kernel)
theorem dX7_readNumber_43 : decode cX7_readNumber 43 = .ok (.getfield 9, 3) := dc_Bk (by decide +kernel)
theorem dX7_readNumber_46 : decode cX7_readNumber 46 = .ok (.aload_n 0, 1) := dc_Bk (by decide +kernel)
theorem dX7_readNumber_47 : decode cX7_readNumber 47 = .ok (.getfield 34, 3) := dc_Bk (by decide +kernel)
theorem dX7_readNumber_50 : decode cX7_readNumber 50 = .ok (.iaload, 1) := dc_Bk (by decide +kernel)
theorem dX7_readNumber_51 : decode cX7_readNumber 51 = .ok (.iadd, 1) := dc_Bk (by decide +kernel)
theorem dX7_readNumber_52 : decode cX7_readNumber 52 = .ok (.bipush 48, 2) := dc_Bk (by decide +kernel)
theorem dX7_readNumber_54 : decode cX7_readNumber 54 = .ok (.isub, 1) := dc_Bk (by decide +kernel)
theorem dX7_readNumber_55 : decode cX7_readNumber 55 = .ok (.istore_n 3, 1) := dc_Bk (by decide +kernel)
theorem dX7_readNumber_56 : decode cX7_readNumber 56 = .ok (.aload_n 0, 1) := dc_Bk (by decide +kernel)
theorem dX7_readNumber_57 : decode cX7_readNumber 57 = .ok (.dup, 1) := dc_Bk (by decide +kernel)
theorem dX7_readNumber_58 : decode cX7_readNumber 58 = .ok (.getfield 34, 3) := dc_Bk (by decide +kernel)
theorem dX7_readNumber_61 : decode cX7_readNumber 61 = .ok (.iconst 1, 1) := dc_Bk (by decide +kernel)
theorem dX7_readNumber_62 : decode cX7_readNumber 62 = .ok (.iadd, 1) := dc_Bk (by decide +kernel)
theorem dX7_readNumber_63 : decode cX7_readNumber 63 = .ok (.putfield 34, 3) := dc_Bk (by decide +kernel)
theorem dX7_readNumber_66 : decode cX7_readNumber 66 = .ok (.goto (-52), 3) := dc_Bk (by decide +kernel)
theorem dX7_readNumber_69 : decode cX7_readNumber 69 = .ok (.aload_n 0, 1) := dc_Bk (by decide +kernel)
theorem dX7_readNumber_70 : decode cX7_readNumber 70 = .ok (.getfield 34, 3) := dc_Bk (by decide +kernel)
theorem dX7_readNumber_73 : decode cX7_readNumber 73 = .ok (.aload_n 0, 1) := dc_Bk (by decide +kernel)
theorem dX7_readNumber_74 : decode cX7_readNumber 74 = .ok (.getfield 22, 3) := dc_Bk (by decide +kernel)
theorem dX7_readNumber_77 : decode cX7_readNumber 77 = .ok (.isub, 1) := dc_Bk (by decide +kernel)
theorem dX7_readNumber_78 : decode cX7_readNumber 78 = .ok (.istore 4, 2) := dc_Bk (by decide +kernel)
theorem dX7_readNumber_80 : decode cX7_readNumber 80 = .ok (.iload 4, 2) := dc_Bk (by decide +kernel)
theorem dX7_readNumber_82 : decode cX7_readNumber 82 = .ok (.ifCond .ne 15, 3) := dc_Bk (by decide +kernel)
theorem dX7_readNumber_85 : decode cX7_readNumber 85 = .ok (.aload_n 0, 1) := dc_Bk (by decide +kernel)
theorem dX7_readNumber_86 : decode cX7_readNumber 86 = .ok (.iconst 1, 1) := dc_Bk (by decide +kernel)
theorem dX7_readNumber_87 : decode cX7_readNumber 87 = .ok (.aload_n 0, 1) := dc_Bk (by decide +kernel)
theorem dX7_readNumber_88 : decode cX7_readNumber 88 = .ok (.getfield 22, 3) := dc_Bk (by decide +kernel)
theorem dX7_readNumber_91 : decode cX7_readNumber 91 = .ok (.invokevirtual 60, 3) := dc_Bk (by decide +kernel)
theorem dX7_readNumber_94 : decode cX7_readNumber 94 = .ok (.goto 28, 3) := dc_Bk (by decide +kernel)
theorem dX7_readNumber_97 : decode cX7_readNumber 97 = .ok (.iload 4, 2) := dc_Bk (by decide +kernel)
theorem dX7_readNumber_99 : decode cX7_readNumber 99 = .ok (.iconst 3, 1) := dc_Bk (by decide +kernel)
theorem dX7_readNumber_100 : decode cX7_readNumber 100 = .ok (.if_icmp .gt 13, 3) := dc_Bk (by decide +kernel)
theorem dX7_readNumber_103 : decode cX7_readNumber 103 = .ok (.iload_n 3, 1) := dc_Bk (by decide +kernel)
theorem dX7_readNumber_104 : decode cX7_readNumber 104 = .ok (.iload_n 1, 1) := dc_Bk (by decide +kernel)
theorem dX7_readNumber_105 : decode cX7_readNumber 105 = .ok (.if_icmp .lt 8, 3) := dc_Bk (by decide +kernel)
theorem dX7_readNumber_108 : decode cX7_readNumber 108 = .ok (.iload_n 3, 1) := dc_Bk (by decide +kernel)
theorem dX7_readNumber_109 : decode cX7_readNumber 109 = .ok (.iload_n 2, 1) := dc_Bk (by decide +kernel)
theorem dX7_readNumber_110 : decode cX7_readNumber 110 = .ok (.if_icmp .le 12, 3) := dc_Bk (by decide +kernel)
theorem dX7_readNumber_113 : decode cX7_readNumber 113 = .ok (.aload_n 0, 1) := dc_Bk (by decide +kernel)
theorem dX7_readNumber_114 : decode cX7_readNumber 114 = .ok (.iconst 2, 1) := dc_Bk (by decide +kernel)
theorem dX7_readNumber_115 : decode cX7_readNumber 115 = .ok (.aload_n 0, 1) := dc_Bk (by decide +kernel)
theorem dX7_readNumber_116 : decode cX7_readNumber 116 = .ok (.getfield 22, 3) := dc_Bk (by decide +kernel)
theorem dX7_readNumber_119 : decode cX7_readNumber 119 = .ok (.invokevirtual 60, 3) := dc_Bk (by decide +kernel)
theorem dX7_readNumber_122 : decode cX7_readNumber 122 = .ok (.iload_n 3, 1) := dc_Bk (by decide +kernel)
theorem dX7_readNumber_123 : decode cX7_readNumber 123 = .ok (.ireturn, 1) := dc_Bk (by decide +kernel)
set_option maxRecDepth 20000 in
theorem ggX7_readEnd_X7_skipBlanks : GoodIn wsX7_readEnd wsX7_skipBlanks := goodIn_r _ [6, 1, 7, 8, 23, 24, 25, 26, 27, 28, 29, 30] rfl (by decide +kernel)
set_option maxRecDepth 20000 in
theorem gX7_readEnd_X7_skipBlanks : GoodIn wsX7_readEnd (wsV RX7 43 RX7 yX7_skipBlanks wsX7_skipBlanks) := goodIn_app (goodIn_of _ (by decide +kernel)) ggX7_readEnd_X7_skipBlanks
set_option maxRecDepth 20000 in
theorem ggX7_readEnd_X7_isBetween : GoodIn wsX7_readEnd wsX7_isBetween := goodIn_r _ [12, 1, 7, 8, 23, 24, 25, 26, 27, 28, 29, 30] rfl (by decide +kernel)
set_option maxRecDepth 20000 in
theorem gX7_readEnd_X7_isBetween : GoodIn wsX7_readEnd (wsV RX7 46 RX7 yX7_isBetween wsX7_isBetween) := goodIn_app (goodIn_of _ (by decide +kernel)) ggX7_readEnd_X7_isBetween
set_option maxRecDepth 20000 in
theorem ggX7_readEnd_X7_blame : GoodIn wsX7_readEnd wsX7_blame := goodIn_r _ [16, 17, 18, 19, 20, 21, 5, 22, 23, 24, 25, 26, 27, 28, 29, 30] rfl (by decide +kernel)
set_option maxRecDepth 20000 in
theorem gX7_readEnd_X7_blame : GoodIn wsX7_readEnd (wsV RX7 60 RX7 yX7_blame wsX7_blame) := goodIn_app (goodIn_of _ (by decide +kernel)) ggX7_readEnd_X7_blame
theorem dX7_readEnd_0 : decode cX7_readEnd 0 = .ok (.aload_n 0, 1) := dc_Bk (by decide +kernel)
theorem dX7_readEnd_1 : decode cX7_readEnd 1 = .ok (.invokevirtual 43, 3) := dc_Bk (by decide +kernel)
theorem dX7_readEnd_4 : decode cX7_readEnd 4 = .ok (.aload_n 0, 1) := dc_Bk (by decide +kernel)
theorem dX7_readEnd_5 : decode cX7_readEnd 5 = .ok (.bipush 59, 2) := dc_Bk (by decide +kernel)
theorem dX7_readEnd_7 : decode cX7_readEnd 7 = .ok (.bipush 59, 2) := dc_Bk (by decide +kernel)
theorem dX7_readEnd_9 : decode cX7_readEnd 9 = .ok (.invokevirtual 46, 3) := dc_Bk (by decide +kernel)
theorem dX7_readEnd_12 : decode cX7_readEnd 12 = .ok (.ifCond .eq 16, 3) := dc_Bk (by decide +kernel)
theorem dX7_readEnd_15 : decode cX7_readEnd 15 = .ok (.aload_n 0, 1) := dc_Bk (by decide +kernel)
theorem dX7_readEnd_16 : decode cX7_readEnd 16 = .ok (.dup, 1) := dc_Bk (by decide +kernel)
theorem dX7_readEnd_17 : decode cX7_readEnd 17 = .ok (.getfield 34, 3) := dc_Bk (by decide +kernel)
theorem dX7_readEnd_20 : decode cX7_readEnd 20 = .ok (.iconst 1, 1) := dc_Bk (by decide +kernel)
theorem dX7_readEnd_21 : decode cX7_readEnd 21 = .ok (.iadd, 1) := dc_Bk (by decide +kernel)
theorem dX7_readEnd_22 : decode cX7_readEnd 22 = .ok (.putfield 34, 3) := dc_Bk (by decide +kernel)
theorem dX7_readEnd_25 : decode cX7_readEnd 25 = .ok (.goto 12, 3) := dc_Bk (by decide +kernel)
theorem dX7_readEnd_28 : decode cX7_readEnd 28 = .ok (.aload_n 0, 1) := dc_Bk (by decide +kernel)
theorem dX7_readEnd_29 : decode cX7_readEnd 29 = .ok (.iconst 1, 1) := dc_Bk (by decide +kernel)
theorem dX7_readEnd_30 : decode cX7_readEnd 30 = .ok (.aload_n 0, 1) := dc_Bk (by decide +kernel)
theorem dX7_readEnd_31 : decode cX7_readEnd 31 = .ok (.getfield 34, 3) := dc_Bk (by decide +kernel)
theorem dX7_readEnd_34 : decode cX7_readEnd 34 = .ok (.invokevirtual 60, 3) := dc_Bk (by decide +kernel)
theorem dX7_readEnd_37 : decode cX7_readEnd 37 = .ok (.return_, 1) := dc_Bk (by decide +kernel)
theorem dX7_add_0 : decode cX7_add 0 = .ok (.iload_n 1, 1) := dc_Bk (by decide +kernel)
theorem dX7_add_1 : decode cX7_add 1 = .ok (.iconst 1, 1) := dc_Bk (by decide +kernel)
theorem dX7_add_2 : decode cX7_add 2 = .ok (.isub, 1) := dc_Bk (by decide +kernel)
theorem dX7_add_3 : decode cX7_add 3 = .ok (.istore 4, 2) := dc_Bk (by decide +kernel)
theorem dX7_add_5 : decode cX7_add 5 = .ok (.iload 4, 2) := dc_Bk (by decide +kernel)
theorem dX7_add_7 : decode cX7_add 7 = .ok (.ifCond .lt 50, 3) := dc_Bk (by decide +kernel)
theorem dX7_add_10 : decode cX7_add 10 = .ok (.aload_n 0, 1) := dc_Bk (by decide +kernel)
theorem dX7_add_11 : decode cX7_add 11 = .ok (.getfield 15, 3) := dc_Bk (by decide +kernel)
theorem dX7_add_14 : decode cX7_add 14 = .ok (.sipush 500, 3) := dc_Bk (by decide +kernel)
theorem dX7_add_17 : decode cX7_add 17 = .ok (.if_icmp .ge 40, 3) := dc_Bk (by decide +kernel)
theorem dX7_add_20 : decode cX7_add 20 = .ok (.aload_n 0, 1) := dc_Bk (by decide +kernel)
theorem dX7_add_21 : decode cX7_add 21 = .ok (.getfield 9, 3) := dc_Bk (by decide +kernel)
theorem dX7_add_24 : decode cX7_add 24 = .ok (.aload_n 0, 1) := dc_Bk (by decide +kernel)
theorem dX7_add_25 : decode cX7_add 25 = .ok (.getfield 15, 3) := dc_Bk (by decide +kernel)
theorem dX7_add_28 : decode cX7_add 28 = .ok (.lload_n 2, 1) := dc_Bk (by decide +kernel)
theorem dX7_add_29 : decode cX7_add 29 = .ok (.bipush 8, 2) := dc_Bk (by decide +kernel)
theorem dX7_add_31 : decode cX7_add 31 = .ok (.iload 4, 2) := dc_Bk (by decide +kernel)
theorem dX7_add_33 : decode cX7_add 33 = .ok (.imul, 1) := dc_Bk (by decide +kernel)
theorem dX7_add_34 : decode cX7_add 34 = .ok (.lushr, 1) := dc_Bk (by decide +kernel)
theorem dX7_add_35 : decode cX7_add 35 = .ok (.ldc2_w 37, 3) := dc_Bk (by decide +kernel)
theorem dX7_add_38 : decode cX7_add 38 = .ok (.land, 1) := dc_Bk (by decide +kernel)
theorem dX7_add_39 : decode cX7_add 39 = .ok (.l2i, 1) := dc_Bk (by decide +kernel)
theorem dX7_add_40 : decode cX7_add 40 = .ok (.iastore, 1) := dc_Bk (by decide +kernel)
theorem dX7_add_41 : decode cX7_add 41 = .ok (.aload_n 0, 1) := dc_Bk (by decide +kernel)
theorem dX7_add_42 : decode cX7_add 42 = .ok (.dup, 1) := dc_Bk (by decide +kernel)
theorem dX7_add_43 : decode cX7_add 43 = .ok (.getfield 15, 3) := dc_Bk (by decide +kernel)
theorem dX7_add_46 : decode cX7_add 46 = .ok (.iconst 1, 1) := dc_Bk (by decide +kernel)
theorem dX7_add_47 : decode cX7_add 47 = .ok (.iadd, 1) := dc_Bk (by decide +kernel)
theorem dX7_add_48 : decode cX7_add 48 = .ok (.putfield 15, 3) := dc_Bk (by decide +kernel)
theorem dX7_add_51 : decode cX7_add 51 = .ok (.iinc 4 (-1), 3) := dc_Bk (by decide +kernel)
theorem dX7_add_54 : decode cX7_add 54 = .ok (.goto (-49), 3) := dc_Bk (by decide +kernel)
theorem dX7_add_57 : decode cX7_add 57 = .ok (.return_, 1) := dc_Bk (by decide +kernel)
theorem nI0 {a : Nat} (h : a < 2 ^ 31) (e : nI a = 0) : a = 0 := (nI_eq h (by decide)).mp e
theorem adF_s {f : Nat → Int32} {pk : Int64} {z jj n d : Nat} (h : d = jj - 1 - z) : upd (adF f pk n jj z) (n + z) (byA pk d) = adF f pk n jj (z + 1) := by rw [h]; rfl
theorem dn_neg {c : Nat} (hc : c < 2 ^ 31) (h : nI c + (-1) < 0) : c = 0 := by
  rcases c with _ | c
  · rfl
  · rw [pk_m1] at h
    exact absurd h (nI_pos (by omega))
theorem dn_pos {c : Nat} (h : ¬ nI c + (-1) < 0) : ∃ d : Nat, c = d + 1 := by
  rcases c with _ | c
  · exact absurd (by decide) h
  · exact ⟨c, rfl⟩

abbrev c_X7_readNumber (k : Nat → ClassId) (h : Nat) (qb : Nat) (n : Nat) (a : Nat) (w2 : Int32) (w3 : Int32) (w4 : Int32) (w5 : Int32) (w6 : Int32) (f : Nat → Int32) (lw : Int32) (gq : Int32) : va_W := [(h, .inr (7, [.ref qb, .int (nI n), .int w2, .int w3, .int w4, .int w5, .int w6, .int (nI a)])), (qb, .inl (k 0, 500, .inl f))]
abbrev r_X7_readNumber : Room := { frames := 2, cells := 0, slots := 0, locals := 42 }
def w_X7_readNumber (k : Nat → ClassId) (h : Nat) (qb : Nat) (n : Nat) (a : Nat) (w2 : Int32) (w3 : Int32) (w4 : Int32) (w5 : Int32) (w6 : Int32) (f : Nat → Int32) (lw : Int32) (gq : Int32) : Nat × Nat × Int32 × Int32 → va_W := fun u => match u with | (sn, en, fw, fa) => [(h, .inr (7, [.ref qb, .int (nI n), .int w2, .int (nI sn), .int fw, .int fa, .int w6, .int (nI en)])), (qb, .inl (k 0, 500, .inl f))]
def p_X7_readNumber (k : Nat → ClassId) (h : Nat) (qb : Nat) (n : Nat) (a : Nat) (w2 : Int32) (w3 : Int32) (w4 : Int32) (w5 : Int32) (w6 : Int32) (f : Nat → Int32) (lw : Int32) (gq : Int32) : Int32 → Nat × Nat × Int32 × Int32 → Prop := fun (r : Int32) (u : Nat × Nat × Int32 × Int32) => match u with | (sn, en, fw, fa) => sn = rn (pB f) n a ∧ en = rn (pR f 48 57) n sn ∧ r = dg3 f sn (en - sn) ∧ fw = nbF w4 (en - sn) r lw gq ∧ fa = nbA w4 w5 (en - sn) r lw gq sn
abbrev q_X7_readNumber (D : va_G) (k : Nat → ClassId) (h : Nat) (qb : Nat) (n : Nat) (a : Nat) (w2 : Int32) (w3 : Int32) (w4 : Int32) (w5 : Int32) (w6 : Int32) (f : Nat → Int32) (lw : Int32) (gq : Int32) (A : Nat → Prop) : Array Value → State → Outcome → State → Prop := va_Qi (p_X7_readNumber k h qb n a w2 w3 w4 w5 w6 f lw gq) (fun u9 t9 => BO D (w_X7_readNumber k h qb n a w2 w3 w4 w5 w6 f lw gq u9) A t9) A
set_option maxHeartbeats 2000000 in
set_option maxRecDepth 100000 in
theorem X7_readNumber (l : Launch) (D : va_G) (k : Nat → ClassId) (sz : Nat) (h : Nat) (qb : Nat) (n : Nat) (a : Nat) (w2 : Int32) (w3 : Int32) (w4 : Int32) (w5 : Int32) (w6 : Int32) (f : Nat → Int32) (lw : Int32) (gq : Int32) (hn : n ≤ 500) (ha : a ≤ n) : Met l yX7_readNumber wsX7_readNumber r_X7_readNumber (va_Pc [.ref h, .int lw, .int gq] (PR D k (c_X7_readNumber k h qb n a w2 w3 w4 w5 w6 f lw gq) sz)) (q_X7_readNumber D k h qb n a w2 w3 w4 w5 w6 f lw gq (va_A (c_X7_readNumber k h qb n a w2 w3 w4 w5 w6 f lw gq) sz)) 0 0 (va_A (c_X7_readNumber k h qb n a w2 w3 w4 w5 w6 f lw gq) sz) := by
  refine Met.ofW (cc := cX7_readNumber) (maxL := 5) (ret := (some .int)) (by decide) rfl ?_
  intro p e s m args below meth c s₁ B hml hv
  obtain ⟨rfl, hsz, hP, hG, hD0⟩ := hv
  have hx := B.exec
  have hb := B.bytes
  have hr := B.returns
  have hts := atoms_spec (ws := wsX7_readNumber) B.pre
  have hown : s.vm.findClass RX7 = some m.cls := findClass_of_methodNamed B.named
  have hlocks := B.notSynchronized
  have hi7 : ∀ w ∈ wsX70, w ∈ wsX7_readNumber := fun _ h => List.mem_cons_of_mem _ (List.mem_append_right _ h)
  subst hsz
  have hD := hD0.self (sz := s.heap.size)
  generalize hAe : va_A (c_X7_readNumber k h qb n a w2 w3 w4 w5 w6 f lw gq) s.heap.size = A at hD ⊢
  have hA : ∀ q : Nat, s.heap.size ≤ q → A q := fun q h => by rw [← hAe]; exact Or.inr h
  have hS : va_S A s.heap s.heap [] := va_S.rf
  have hP : va_P D vwCl [(h, .inr (7, [.ref qb, .int (nI n), .int w2, .int w3, .int w4, .int w5, .int w6, .int (nI a)])), (qb, .inl (k 0, 500, .inl f))] s.heap := hP
  have hD : va_D A [(h, .inr (7, [.ref qb, .int (nI n), .int w2, .int w3, .int w4, .int w5, .int w6, .int (nI a)])), (qb, .inl (k 0, 500, .inl f))] := hD
  have hl := lv_entry ([.ref h, .int lw, .int gq]) (n := 5) (Nat.le_of_ble_eq_true rfl)
  rw [lg_entry_eq]
  generalize (lg_sl ([.ref h, .int lw, .int gq]) ++ List.replicate (5 - (lg_sl ([.ref h, .int lw, .int gq])).length) Slot.unset).toArray = ls at hl ⊢
  have hl : lv_has ls 5 [(0, .ref h), (1, .int lw), (2, .int gq)] := hl
  refine lv_aload_n hx hb dX7_readNumber_0 rfl (lv_at hl 0 rfl) ?_
  have hPc := hP.sub (ws' := (c_X7_skipBlanks k h qb n a w2 w3 w4 w5 w6 f)) [0, 1] rfl
  have hDc := hD.sub (ws' := (c_X7_skipBlanks k h qb n a w2 w3 w4 w5 w6 f)) [0, 1] (by decide +kernel) rfl
  refine cl_v (w1 := w_X7_skipBlanks k h qb n a w2 w3 w4 w5 w6 f) (wr := []) (va_runV (As := []) (rest := []) ⟨hx, hb, hml, hown, hts⟩ (X7_skipBlanks l D k s.heap.size h qb n a w2 w3 w4 w5 w6 f (hn) (ha)) (cwV 0 hts gX7_readNumber_X7_skipBlanks rfl rfl rfl (by decide +kernel) ⟨Nat.le_of_ble_eq_true rfl, Nat.le_of_ble_eq_true rfl⟩) ⟨PR.blind _ _ _ _ _, va_recv hG.1 hP (ci := 7) (q0 := 0) rfl rfl, PR.pre hPc hDc hG [.ref h]⟩ rfl rfl hl.1 rfl (lv_room (Nat.le_of_ble_eq_true rfl)) dX7_readNumber_1 ⟨Nat.le_of_ble_eq_true rfl, Nat.le_of_ble_eq_true rfl⟩) hP hD hS hA [0, 1] [] rfl rfl (by decide +kernel) (by decide +kernel) (fun u H locs hq hP hD hS => ?_)
  cases u
  have hP : va_P D vwCl [(h, .inr (7, [.ref qb, .int (nI n), .int w2, .int w3, .int w4, .int w5, .int w6, .int (nI (rn (pB f) n a))])), (qb, .inl (k 0, 500, .inl f))] H := hP
  have hD : va_D A [(h, .inr (7, [.ref qb, .int (nI n), .int w2, .int w3, .int w4, .int w5, .int w6, .int (nI (rn (pB f) n a))])), (qb, .inl (k 0, 500, .inl f))] := hD
  obtain ⟨sn, esn⟩ : ∃ z, z = rn (pB f) n a := ⟨_, rfl⟩
  have hsn : sn ≤ n := by rw [esn]; exact rn_le _ ha
  rw [← esn] at hP hD
  have hP : va_P D vwCl [(h, .inr (7, [.ref qb, .int (nI n), .int w2, .int w3, .int w4, .int w5, .int w6, .int (nI sn)])), (qb, .inl (k 0, 500, .inl f))] H := hP
  have hD : va_D A [(h, .inr (7, [.ref qb, .int (nI n), .int w2, .int w3, .int w4, .int w5, .int w6, .int (nI sn)])), (qb, .inl (k 0, 500, .inl f))] := hD
  refine lv_aload_n hx hb dX7_readNumber_4 rfl (lv_at hl 0 rfl) ?_
  refine lv_aload_n hx hb dX7_readNumber_5 rfl (lv_at hl 0 rfl) ?_
  refine va_get (D := D) (ci := 7) (v := .int (nI sn)) (C := RX7) (T := TX7) (N := 8) hx hb hts hi7 hown hG.1 hP 0 rfl rfl 7 (by decide) (hts (.fieldLink RX7 34 "SleptMatters$Text" "at" "I") (List.mem_cons_of_mem _ (List.mem_append_left _ (List.mem_of_getElem? (i := 0) rfl)))) (fun _ h9 => h9) rfl dX7_readNumber_6 ?_
  refine va_put (D := D) (ci := 7) (v := .int (nI sn)) (ty := .int) (C := RX7) (T := TX7) (N := 8) hx hb hts hi7 tyX7 tyX7_ok nmX7 hown hG.1 hP hD hS 0 rfl rfl 3 (by decide) (hts (.fieldLink RX7 22 "SleptMatters$Text" "numberAt" "I") (List.mem_cons_of_mem _ (List.mem_append_left _ (List.mem_of_getElem? (i := 1) rfl)))) (fun _ h9 => h9) rfl (by decide +kernel) rfl rfl (Nat.le_of_ble_eq_true rfl) dX7_readNumber_9 (fun H locs hP hD hS => ?_)
  have hP : va_P D vwCl [(h, .inr (7, [.ref qb, .int (nI n), .int w2, .int (nI sn), .int w4, .int w5, .int w6, .int (nI sn)])), (qb, .inl (k 0, 500, .inl f))] H := hP
  have hD : va_D A [(h, .inr (7, [.ref qb, .int (nI n), .int w2, .int (nI sn), .int w4, .int w5, .int w6, .int (nI sn)])), (qb, .inl (k 0, 500, .inl f))] := hD
  refine lv_iconst (v := 0) hx hb dX7_readNumber_12 (by decide) ?_
  refine lv_istore_n (lv' := [(3, .int 0), (0, .ref h), (1, .int lw), (2, .int gq)]) hx hb dX7_readNumber_13 rfl hl (by decide) rfl (fun ls hl => ?_)
  have L1 : ∀ (fu9 : Nat) (i : Nat), (sn ≤ i ∧ i ≤ n) → (rn (pR f 48 57) n i = rn (pR f 48 57) n sn) → n - i < fu9 → ∀ (H : Heap) (locs : List Loc), va_P D vwCl [(h, .inr (7, [.ref qb, .int (nI n), .int w2, .int (nI sn), .int w4, .int w5, .int w6, .int (nI i)])), (qb, .inl (k 0, 500, .inl f))] H → va_D A [(h, .inr (7, [.ref qb, .int (nI n), .int w2, .int (nI sn), .int w4, .int w5, .int w6, .int (nI i)])), (qb, .inl (k 0, 500, .inl f))] → va_S A s.heap H locs → ∀ (ls : Array Slot), lv_has ls 5 [(3, .int (dg3 f sn (i - sn))), (0, .ref h), (1, .int lw), (2, .int gq)] → W p l e r_X7_readNumber s m ([.ref h, .int lw, .int gq] : List Value).toArray below meth c H locs 0 0 (MQ below (q_X7_readNumber D k h qb n a w2 w3 w4 w5 w6 f lw gq A) ([.ref h, .int lw, .int gq] : List Value).toArray s 0 0 A) (F0 m 14 ls []) := by
    intro fu9
    induction fu9 with
    | zero => intro i hi he hmu; exact absurd hmu (Nat.not_lt_zero _)
    | succ fu9 ih =>
      intro i hi he hmu H locs hP hD hS ls hl
      refine lv_aload_n hx hb dX7_readNumber_14 rfl (lv_at hl 1 rfl) ?_
      refine lv_bipush (v := 48) hx hb dX7_readNumber_15 (by decide) ?_
      refine lv_bipush (v := 57) hx hb dX7_readNumber_17 (by decide) ?_
      have hPc := hP.sub (ws' := (c_X7_isBetween k h qb n i w2 (nI sn) w4 w5 w6 f 48 57)) [0, 1] rfl
      refine vp_callSi (va_Run.run (va_runV (As := [.int 48, .int 57]) (rest := []) ⟨hx, hb, hml, hown, hts⟩ (X7_isBetween l D k h qb n i w2 (nI sn) w4 w5 w6 f 48 57 (hn) (by omega)) (cwV 2 hts gX7_readNumber_X7_isBetween rfl rfl rfl (by decide +kernel) ⟨Nat.le_of_ble_eq_true rfl, Nat.le_of_ble_eq_true rfl⟩) ⟨PS.blind _ _ _ _, va_recv hG.1 hP (ci := 7) (q0 := 0) rfl rfl, PS.pre hPc hG [.ref h, .int 48, .int 57]⟩ rfl rfl hl.1 rfl (lv_room (Nat.le_of_ble_eq_true rfl)) dX7_readNumber_19 ⟨Nat.le_of_ble_eq_true rfl, Nat.le_of_ble_eq_true rfl⟩)) (fun r hq => ?_)
      generalize r = y2 at hq ⊢
      have hq : y2 = btw f n i 48 57 := hq
      refine tp_i (y := btw f n i 48 57) (hq) ?_
      refine lv_if_eq (x := btw f n i 48 57) (tgt := 69) hx hb dX7_readNumber_22 (by decide) (fun c3 => ?_) (fun c3 => ?_)
      · skip
        have e8 : rn (pR f 48 57) n i = i := rn_stop (btw_eq c3)
        refine lv_aload_n hx hb dX7_readNumber_69 rfl (lv_at hl 1 rfl) ?_
        refine va_get (D := D) (ci := 7) (v := .int (nI i)) (C := RX7) (T := TX7) (N := 8) hx hb hts hi7 hown hG.1 hP 0 rfl rfl 7 (by decide) (hts (.fieldLink RX7 34 "SleptMatters$Text" "at" "I") (List.mem_cons_of_mem _ (List.mem_append_left _ (List.mem_of_getElem? (i := 0) rfl)))) (fun _ h9 => h9) rfl dX7_readNumber_70 ?_
        refine lv_aload_n hx hb dX7_readNumber_73 rfl (lv_at hl 1 rfl) ?_
        refine va_get (D := D) (ci := 7) (v := .int (nI sn)) (C := RX7) (T := TX7) (N := 8) hx hb hts hi7 hown hG.1 hP 0 rfl rfl 3 (by decide) (hts (.fieldLink RX7 22 "SleptMatters$Text" "numberAt" "I") (List.mem_cons_of_mem _ (List.mem_append_left _ (List.mem_of_getElem? (i := 1) rfl)))) (fun _ h9 => h9) rfl dX7_readNumber_74 ?_
        refine lv_isub hx hb dX7_readNumber_77 ?_
        refine tp_i (y := nI (i - sn)) (pk_sub (by omega)) ?_
        refine lv_istore (lv' := [(4, .int (nI (i - sn))), (3, .int (dg3 f sn (i - sn))), (0, .ref h), (1, .int lw), (2, .int gq)]) hx hb dX7_readNumber_78 hl (by decide) rfl (fun ls hl => ?_)
        refine lv_iload hx hb dX7_readNumber_80 (lv_at hl 0 rfl) ?_
        refine lv_if_ne (x := nI (i - sn)) (tgt := 97) hx hb dX7_readNumber_82 (by decide) (fun c4 => ?_) (fun c4 => ?_)
        · skip
          have g1 : ¬ i - sn = 0 := fun q => c4 (by rw [q]; rfl)
          refine lv_iload hx hb dX7_readNumber_97 (lv_at hl 0 rfl) ?_
          refine lv_iconst (v := 3) hx hb dX7_readNumber_99 (by decide) ?_
          refine bn_gt (i := i - sn) (j := 3) (tgt := 113) hx hb dX7_readNumber_100 (by decide) (by omega) (by omega) (fun c5 => ?_) (fun c5 => ?_)
          · skip
            have hbad : 3 < i - sn ∨ dg3 f sn (i - sn) < lw ∨ gq < dg3 f sn (i - sn) := Or.inl c5
            have eF : nbF w4 (i - sn) (dg3 f sn (i - sn)) lw gq = bl w4 2 := (if_neg g1).trans (if_pos hbad)
            have eA : nbA w4 w5 (i - sn) (dg3 f sn (i - sn)) lw gq sn = bla w4 w5 (nI sn) := (if_neg g1).trans (if_pos hbad)
            refine lv_aload_n hx hb dX7_readNumber_113 rfl (lv_at hl 2 rfl) ?_
            refine lv_iconst (v := 2) hx hb dX7_readNumber_114 (by decide) ?_
            refine lv_aload_n hx hb dX7_readNumber_115 rfl (lv_at hl 2 rfl) ?_
            refine va_get (D := D) (ci := 7) (v := .int (nI sn)) (C := RX7) (T := TX7) (N := 8) hx hb hts hi7 hown hG.1 hP 0 rfl rfl 3 (by decide) (hts (.fieldLink RX7 22 "SleptMatters$Text" "numberAt" "I") (List.mem_cons_of_mem _ (List.mem_append_left _ (List.mem_of_getElem? (i := 1) rfl)))) (fun _ h9 => h9) rfl dX7_readNumber_116 ?_
            have hPc := hP.sub (ws' := (c_X7_blame k h qb (nI n) w2 (nI sn) w4 w5 w6 (nI i) 2 (nI sn))) [0] rfl
            have hDc := hD.sub (ws' := (c_X7_blame k h qb (nI n) w2 (nI sn) w4 w5 w6 (nI i) 2 (nI sn))) [0] (by decide +kernel) rfl
            refine cl_v (w1 := w_X7_blame k h qb (nI n) w2 (nI sn) w4 w5 w6 (nI i) 2 (nI sn)) (wr := [(qb, .inl (k 0, 500, .inl f))]) (va_runV (As := [.int 2, .int (nI sn)]) (rest := []) ⟨hx, hb, hml, hown, hts⟩ (X7_blame l D k H.size h qb (nI n) w2 (nI sn) w4 w5 w6 (nI i) 2 (nI sn) ) (cwV 2 hts gX7_readNumber_X7_blame rfl rfl rfl (by decide +kernel) ⟨Nat.le_of_ble_eq_true rfl, Nat.le_of_ble_eq_true rfl⟩) ⟨PR.blind _ _ _ _ _, va_recv hG.1 hP (ci := 7) (q0 := 0) rfl rfl, PR.pre hPc hDc hG [.ref h, .int 2, .int (nI sn)]⟩ rfl rfl hl.1 rfl (lv_room (Nat.le_of_ble_eq_true rfl)) dX7_readNumber_119 ⟨Nat.le_of_ble_eq_true rfl, Nat.le_of_ble_eq_true rfl⟩) hP hD hS hA [0] [1] rfl rfl (by decide +kernel) (by decide +kernel) (fun u H locs hq hP hD hS => ?_)
            obtain ⟨fw, fa⟩ := u
            have hq : fw = bl w4 2 ∧ fa = bla w4 w5 (nI sn) := hq
            have hP : va_P D vwCl [(qb, .inl (k 0, 500, .inl f)), (h, .inr (7, [.ref qb, .int (nI n), .int w2, .int (nI sn), .int fw, .int fa, .int w6, .int (nI i)]))] H := hP
            have hD : va_D A [(qb, .inl (k 0, 500, .inl f)), (h, .inr (7, [.ref qb, .int (nI n), .int w2, .int (nI sn), .int fw, .int fa, .int w6, .int (nI i)]))] := hD
            refine lv_iload_n hx hb dX7_readNumber_122 rfl (lv_at hl 1 rfl) ?_
            have hP9 := hP.sub (ws' := [(h, .inr (7, [.ref qb, .int (nI n), .int w2, .int (nI sn), .int fw, .int fa, .int w6, .int (nI i)])), (qb, .inl (k 0, 500, .inl f))]) [1, 0] rfl
            have hD9 := hD.sub (ws' := [(h, .inr (7, [.ref qb, .int (nI n), .int w2, .int (nI sn), .int fw, .int fa, .int w6, .int (nI i)])), (qb, .inl (k 0, 500, .inl f))]) [1, 0] (by decide +kernel) rfl
            exact W.iret (v := dg3 f sn (i - sn)) hx hb hr (fun t9 ht _ => ⟨⟨dg3 f sn (i - sn), (sn, i, fw, fa), rfl, ⟨esn, e8.symm.trans he, rfl, hq.1.trans eF.symm, hq.2.trans eA.symm⟩, by rw [ht]; exact hP9, hD9⟩, hS.F ht⟩) hS.2.2 dX7_readNumber_123
          · skip
            have k3 : ¬ 3 < i - sn := by omega
            refine lv_iload_n hx hb dX7_readNumber_103 rfl (lv_at hl 1 rfl) ?_
            refine lv_iload_n hx hb dX7_readNumber_104 rfl (lv_at hl 3 rfl) ?_
            refine lv_icmp_lt (x := dg3 f sn (i - sn)) (y := lw) (tgt := 113) hx hb dX7_readNumber_105 (by decide) (fun c6 => ?_) (fun c6 => ?_)
            · skip
              have hbad : 3 < i - sn ∨ dg3 f sn (i - sn) < lw ∨ gq < dg3 f sn (i - sn) := Or.inr (Or.inl c6)
              have eF : nbF w4 (i - sn) (dg3 f sn (i - sn)) lw gq = bl w4 2 := (if_neg g1).trans (if_pos hbad)
              have eA : nbA w4 w5 (i - sn) (dg3 f sn (i - sn)) lw gq sn = bla w4 w5 (nI sn) := (if_neg g1).trans (if_pos hbad)
              refine lv_aload_n hx hb dX7_readNumber_113 rfl (lv_at hl 2 rfl) ?_
              refine lv_iconst (v := 2) hx hb dX7_readNumber_114 (by decide) ?_
              refine lv_aload_n hx hb dX7_readNumber_115 rfl (lv_at hl 2 rfl) ?_
              refine va_get (D := D) (ci := 7) (v := .int (nI sn)) (C := RX7) (T := TX7) (N := 8) hx hb hts hi7 hown hG.1 hP 0 rfl rfl 3 (by decide) (hts (.fieldLink RX7 22 "SleptMatters$Text" "numberAt" "I") (List.mem_cons_of_mem _ (List.mem_append_left _ (List.mem_of_getElem? (i := 1) rfl)))) (fun _ h9 => h9) rfl dX7_readNumber_116 ?_
              have hPc := hP.sub (ws' := (c_X7_blame k h qb (nI n) w2 (nI sn) w4 w5 w6 (nI i) 2 (nI sn))) [0] rfl
              have hDc := hD.sub (ws' := (c_X7_blame k h qb (nI n) w2 (nI sn) w4 w5 w6 (nI i) 2 (nI sn))) [0] (by decide +kernel) rfl
              refine cl_v (w1 := w_X7_blame k h qb (nI n) w2 (nI sn) w4 w5 w6 (nI i) 2 (nI sn)) (wr := [(qb, .inl (k 0, 500, .inl f))]) (va_runV (As := [.int 2, .int (nI sn)]) (rest := []) ⟨hx, hb, hml, hown, hts⟩ (X7_blame l D k H.size h qb (nI n) w2 (nI sn) w4 w5 w6 (nI i) 2 (nI sn) ) (cwV 2 hts gX7_readNumber_X7_blame rfl rfl rfl (by decide +kernel) ⟨Nat.le_of_ble_eq_true rfl, Nat.le_of_ble_eq_true rfl⟩) ⟨PR.blind _ _ _ _ _, va_recv hG.1 hP (ci := 7) (q0 := 0) rfl rfl, PR.pre hPc hDc hG [.ref h, .int 2, .int (nI sn)]⟩ rfl rfl hl.1 rfl (lv_room (Nat.le_of_ble_eq_true rfl)) dX7_readNumber_119 ⟨Nat.le_of_ble_eq_true rfl, Nat.le_of_ble_eq_true rfl⟩) hP hD hS hA [0] [1] rfl rfl (by decide +kernel) (by decide +kernel) (fun u H locs hq hP hD hS => ?_)
              obtain ⟨fw, fa⟩ := u
              have hq : fw = bl w4 2 ∧ fa = bla w4 w5 (nI sn) := hq
              have hP : va_P D vwCl [(qb, .inl (k 0, 500, .inl f)), (h, .inr (7, [.ref qb, .int (nI n), .int w2, .int (nI sn), .int fw, .int fa, .int w6, .int (nI i)]))] H := hP
              have hD : va_D A [(qb, .inl (k 0, 500, .inl f)), (h, .inr (7, [.ref qb, .int (nI n), .int w2, .int (nI sn), .int fw, .int fa, .int w6, .int (nI i)]))] := hD
              refine lv_iload_n hx hb dX7_readNumber_122 rfl (lv_at hl 1 rfl) ?_
              have hP9 := hP.sub (ws' := [(h, .inr (7, [.ref qb, .int (nI n), .int w2, .int (nI sn), .int fw, .int fa, .int w6, .int (nI i)])), (qb, .inl (k 0, 500, .inl f))]) [1, 0] rfl
              have hD9 := hD.sub (ws' := [(h, .inr (7, [.ref qb, .int (nI n), .int w2, .int (nI sn), .int fw, .int fa, .int w6, .int (nI i)])), (qb, .inl (k 0, 500, .inl f))]) [1, 0] (by decide +kernel) rfl
              exact W.iret (v := dg3 f sn (i - sn)) hx hb hr (fun t9 ht _ => ⟨⟨dg3 f sn (i - sn), (sn, i, fw, fa), rfl, ⟨esn, e8.symm.trans he, rfl, hq.1.trans eF.symm, hq.2.trans eA.symm⟩, by rw [ht]; exact hP9, hD9⟩, hS.F ht⟩) hS.2.2 dX7_readNumber_123
            · skip
              have k4 := c6
              refine lv_iload_n hx hb dX7_readNumber_108 rfl (lv_at hl 1 rfl) ?_
              refine lv_iload_n hx hb dX7_readNumber_109 rfl (lv_at hl 4 rfl) ?_
              refine lv_icmp_le (x := dg3 f sn (i - sn)) (y := gq) (tgt := 122) hx hb dX7_readNumber_110 (by decide) (fun c7 => ?_) (fun c7 => ?_)
              · skip
                have hgood : ¬ (3 < i - sn ∨ dg3 f sn (i - sn) < lw ∨ gq < dg3 f sn (i - sn)) := fun q => q.elim k3 (fun q => q.elim k4 (fun q => absurd c7 (Int32.not_le.mpr q)))
                have eF : nbF w4 (i - sn) (dg3 f sn (i - sn)) lw gq = w4 := (if_neg g1).trans (if_neg hgood)
                have eA : nbA w4 w5 (i - sn) (dg3 f sn (i - sn)) lw gq sn = w5 := (if_neg g1).trans (if_neg hgood)
                refine lv_iload_n hx hb dX7_readNumber_122 rfl (lv_at hl 1 rfl) ?_
                have hP9 := hP.sub (ws' := [(h, .inr (7, [.ref qb, .int (nI n), .int w2, .int (nI sn), .int w4, .int w5, .int w6, .int (nI i)])), (qb, .inl (k 0, 500, .inl f))]) [0, 1] rfl
                have hD9 := hD.sub (ws' := [(h, .inr (7, [.ref qb, .int (nI n), .int w2, .int (nI sn), .int w4, .int w5, .int w6, .int (nI i)])), (qb, .inl (k 0, 500, .inl f))]) [0, 1] (by decide +kernel) rfl
                exact W.iret (v := dg3 f sn (i - sn)) hx hb hr (fun t9 ht _ => ⟨⟨dg3 f sn (i - sn), (sn, i, w4, w5), rfl, ⟨esn, e8.symm.trans he, rfl, eF.symm, eA.symm⟩, by rw [ht]; exact hP9, hD9⟩, hS.F ht⟩) hS.2.2 dX7_readNumber_123
              · skip
                have hbad : 3 < i - sn ∨ dg3 f sn (i - sn) < lw ∨ gq < dg3 f sn (i - sn) := Or.inr (Or.inr (Int32.not_le.mp c7))
                have eF : nbF w4 (i - sn) (dg3 f sn (i - sn)) lw gq = bl w4 2 := (if_neg g1).trans (if_pos hbad)
                have eA : nbA w4 w5 (i - sn) (dg3 f sn (i - sn)) lw gq sn = bla w4 w5 (nI sn) := (if_neg g1).trans (if_pos hbad)
                refine lv_aload_n hx hb dX7_readNumber_113 rfl (lv_at hl 2 rfl) ?_
                refine lv_iconst (v := 2) hx hb dX7_readNumber_114 (by decide) ?_
                refine lv_aload_n hx hb dX7_readNumber_115 rfl (lv_at hl 2 rfl) ?_
                refine va_get (D := D) (ci := 7) (v := .int (nI sn)) (C := RX7) (T := TX7) (N := 8) hx hb hts hi7 hown hG.1 hP 0 rfl rfl 3 (by decide) (hts (.fieldLink RX7 22 "SleptMatters$Text" "numberAt" "I") (List.mem_cons_of_mem _ (List.mem_append_left _ (List.mem_of_getElem? (i := 1) rfl)))) (fun _ h9 => h9) rfl dX7_readNumber_116 ?_
                have hPc := hP.sub (ws' := (c_X7_blame k h qb (nI n) w2 (nI sn) w4 w5 w6 (nI i) 2 (nI sn))) [0] rfl
                have hDc := hD.sub (ws' := (c_X7_blame k h qb (nI n) w2 (nI sn) w4 w5 w6 (nI i) 2 (nI sn))) [0] (by decide +kernel) rfl
                refine cl_v (w1 := w_X7_blame k h qb (nI n) w2 (nI sn) w4 w5 w6 (nI i) 2 (nI sn)) (wr := [(qb, .inl (k 0, 500, .inl f))]) (va_runV (As := [.int 2, .int (nI sn)]) (rest := []) ⟨hx, hb, hml, hown, hts⟩ (X7_blame l D k H.size h qb (nI n) w2 (nI sn) w4 w5 w6 (nI i) 2 (nI sn) ) (cwV 2 hts gX7_readNumber_X7_blame rfl rfl rfl (by decide +kernel) ⟨Nat.le_of_ble_eq_true rfl, Nat.le_of_ble_eq_true rfl⟩) ⟨PR.blind _ _ _ _ _, va_recv hG.1 hP (ci := 7) (q0 := 0) rfl rfl, PR.pre hPc hDc hG [.ref h, .int 2, .int (nI sn)]⟩ rfl rfl hl.1 rfl (lv_room (Nat.le_of_ble_eq_true rfl)) dX7_readNumber_119 ⟨Nat.le_of_ble_eq_true rfl, Nat.le_of_ble_eq_true rfl⟩) hP hD hS hA [0] [1] rfl rfl (by decide +kernel) (by decide +kernel) (fun u H locs hq hP hD hS => ?_)
                obtain ⟨fw, fa⟩ := u
                have hq : fw = bl w4 2 ∧ fa = bla w4 w5 (nI sn) := hq
                have hP : va_P D vwCl [(qb, .inl (k 0, 500, .inl f)), (h, .inr (7, [.ref qb, .int (nI n), .int w2, .int (nI sn), .int fw, .int fa, .int w6, .int (nI i)]))] H := hP
                have hD : va_D A [(qb, .inl (k 0, 500, .inl f)), (h, .inr (7, [.ref qb, .int (nI n), .int w2, .int (nI sn), .int fw, .int fa, .int w6, .int (nI i)]))] := hD
                refine lv_iload_n hx hb dX7_readNumber_122 rfl (lv_at hl 1 rfl) ?_
                have hP9 := hP.sub (ws' := [(h, .inr (7, [.ref qb, .int (nI n), .int w2, .int (nI sn), .int fw, .int fa, .int w6, .int (nI i)])), (qb, .inl (k 0, 500, .inl f))]) [1, 0] rfl
                have hD9 := hD.sub (ws' := [(h, .inr (7, [.ref qb, .int (nI n), .int w2, .int (nI sn), .int fw, .int fa, .int w6, .int (nI i)])), (qb, .inl (k 0, 500, .inl f))]) [1, 0] (by decide +kernel) rfl
                exact W.iret (v := dg3 f sn (i - sn)) hx hb hr (fun t9 ht _ => ⟨⟨dg3 f sn (i - sn), (sn, i, fw, fa), rfl, ⟨esn, e8.symm.trans he, rfl, hq.1.trans eF.symm, hq.2.trans eA.symm⟩, by rw [ht]; exact hP9, hD9⟩, hS.F ht⟩) hS.2.2 dX7_readNumber_123
        · skip
          have g1 : i - sn = 0 := nI0 (by omega) c4
          have eF : nbF w4 (i - sn) (dg3 f sn (i - sn)) lw gq = bl w4 1 := if_pos g1
          have eA : nbA w4 w5 (i - sn) (dg3 f sn (i - sn)) lw gq sn = bla w4 w5 (nI sn) := if_pos g1
          refine lv_aload_n hx hb dX7_readNumber_85 rfl (lv_at hl 2 rfl) ?_
          refine lv_iconst (v := 1) hx hb dX7_readNumber_86 (by decide) ?_
          refine lv_aload_n hx hb dX7_readNumber_87 rfl (lv_at hl 2 rfl) ?_
          refine va_get (D := D) (ci := 7) (v := .int (nI sn)) (C := RX7) (T := TX7) (N := 8) hx hb hts hi7 hown hG.1 hP 0 rfl rfl 3 (by decide) (hts (.fieldLink RX7 22 "SleptMatters$Text" "numberAt" "I") (List.mem_cons_of_mem _ (List.mem_append_left _ (List.mem_of_getElem? (i := 1) rfl)))) (fun _ h9 => h9) rfl dX7_readNumber_88 ?_
          have hPc := hP.sub (ws' := (c_X7_blame k h qb (nI n) w2 (nI sn) w4 w5 w6 (nI i) 1 (nI sn))) [0] rfl
          have hDc := hD.sub (ws' := (c_X7_blame k h qb (nI n) w2 (nI sn) w4 w5 w6 (nI i) 1 (nI sn))) [0] (by decide +kernel) rfl
          refine cl_v (w1 := w_X7_blame k h qb (nI n) w2 (nI sn) w4 w5 w6 (nI i) 1 (nI sn)) (wr := [(qb, .inl (k 0, 500, .inl f))]) (va_runV (As := [.int 1, .int (nI sn)]) (rest := []) ⟨hx, hb, hml, hown, hts⟩ (X7_blame l D k H.size h qb (nI n) w2 (nI sn) w4 w5 w6 (nI i) 1 (nI sn) ) (cwV 2 hts gX7_readNumber_X7_blame rfl rfl rfl (by decide +kernel) ⟨Nat.le_of_ble_eq_true rfl, Nat.le_of_ble_eq_true rfl⟩) ⟨PR.blind _ _ _ _ _, va_recv hG.1 hP (ci := 7) (q0 := 0) rfl rfl, PR.pre hPc hDc hG [.ref h, .int 1, .int (nI sn)]⟩ rfl rfl hl.1 rfl (lv_room (Nat.le_of_ble_eq_true rfl)) dX7_readNumber_91 ⟨Nat.le_of_ble_eq_true rfl, Nat.le_of_ble_eq_true rfl⟩) hP hD hS hA [0] [1] rfl rfl (by decide +kernel) (by decide +kernel) (fun u H locs hq hP hD hS => ?_)
          obtain ⟨fw, fa⟩ := u
          have hq : fw = bl w4 1 ∧ fa = bla w4 w5 (nI sn) := hq
          have hP : va_P D vwCl [(qb, .inl (k 0, 500, .inl f)), (h, .inr (7, [.ref qb, .int (nI n), .int w2, .int (nI sn), .int fw, .int fa, .int w6, .int (nI i)]))] H := hP
          have hD : va_D A [(qb, .inl (k 0, 500, .inl f)), (h, .inr (7, [.ref qb, .int (nI n), .int w2, .int (nI sn), .int fw, .int fa, .int w6, .int (nI i)]))] := hD
          refine lv_goto (tgt := 122) hx hb dX7_readNumber_94 (by decide) ?_
          refine lv_iload_n hx hb dX7_readNumber_122 rfl (lv_at hl 1 rfl) ?_
          have hP9 := hP.sub (ws' := [(h, .inr (7, [.ref qb, .int (nI n), .int w2, .int (nI sn), .int fw, .int fa, .int w6, .int (nI i)])), (qb, .inl (k 0, 500, .inl f))]) [1, 0] rfl
          have hD9 := hD.sub (ws' := [(h, .inr (7, [.ref qb, .int (nI n), .int w2, .int (nI sn), .int fw, .int fa, .int w6, .int (nI i)])), (qb, .inl (k 0, 500, .inl f))]) [1, 0] (by decide +kernel) rfl
          exact W.iret (v := dg3 f sn (i - sn)) hx hb hr (fun t9 ht _ => ⟨⟨dg3 f sn (i - sn), (sn, i, fw, fa), rfl, ⟨esn, e8.symm.trans he, rfl, hq.1.trans eF.symm, hq.2.trans eA.symm⟩, by rw [ht]; exact hP9, hD9⟩, hS.F ht⟩) hS.2.2 dX7_readNumber_123
      · skip
        have e9 := btw_ne c3
        refine lv_aload_n hx hb dX7_readNumber_25 rfl (lv_at hl 1 rfl) ?_
        refine va_get (D := D) (ci := 7) (v := .int (nI i)) (C := RX7) (T := TX7) (N := 8) hx hb hts hi7 hown hG.1 hP 0 rfl rfl 7 (by decide) (hts (.fieldLink RX7 34 "SleptMatters$Text" "at" "I") (List.mem_cons_of_mem _ (List.mem_append_left _ (List.mem_of_getElem? (i := 0) rfl)))) (fun _ h9 => h9) rfl dX7_readNumber_26 ?_
        refine lv_aload_n hx hb dX7_readNumber_29 rfl (lv_at hl 1 rfl) ?_
        refine va_get (D := D) (ci := 7) (v := .int (nI sn)) (C := RX7) (T := TX7) (N := 8) hx hb hts hi7 hown hG.1 hP 0 rfl rfl 3 (by decide) (hts (.fieldLink RX7 22 "SleptMatters$Text" "numberAt" "I") (List.mem_cons_of_mem _ (List.mem_append_left _ (List.mem_of_getElem? (i := 1) rfl)))) (fun _ h9 => h9) rfl dX7_readNumber_30 ?_
        refine lv_isub hx hb dX7_readNumber_33 ?_
        refine tp_i (y := nI (i - sn)) (pk_sub (by omega)) ?_
        refine lv_iconst (v := 3) hx hb dX7_readNumber_34 (by decide) ?_
        refine bn_ge (i := i - sn) (j := 3) (tgt := 56) hx hb dX7_readNumber_35 (by decide) (by omega) (by omega) (fun c8 => ?_) (fun c8 => ?_)
        · skip
          refine lv_aload_n hx hb dX7_readNumber_56 rfl (lv_at hl 1 rfl) ?_
          refine lv_dup hx hb dX7_readNumber_57 rfl ?_
          refine va_get (D := D) (ci := 7) (v := .int (nI i)) (C := RX7) (T := TX7) (N := 8) hx hb hts hi7 hown hG.1 hP 0 rfl rfl 7 (by decide) (hts (.fieldLink RX7 34 "SleptMatters$Text" "at" "I") (List.mem_cons_of_mem _ (List.mem_append_left _ (List.mem_of_getElem? (i := 0) rfl)))) (fun _ h9 => h9) rfl dX7_readNumber_58 ?_
          refine lv_iconst (v := 1) hx hb dX7_readNumber_61 (by decide) ?_
          refine lv_iadd hx hb dX7_readNumber_62 ?_
          refine tp_i (y := nI (i + 1)) (nI_add i 1) ?_
          refine va_put (D := D) (ci := 7) (v := .int (nI (i + 1))) (ty := .int) (C := RX7) (T := TX7) (N := 8) hx hb hts hi7 tyX7 tyX7_ok nmX7 hown hG.1 hP hD hS 0 rfl rfl 7 (by decide) (hts (.fieldLink RX7 34 "SleptMatters$Text" "at" "I") (List.mem_cons_of_mem _ (List.mem_append_left _ (List.mem_of_getElem? (i := 0) rfl)))) (fun _ h9 => h9) rfl (by decide +kernel) rfl rfl (Nat.le_of_ble_eq_true rfl) dX7_readNumber_63 (fun H locs hP hD hS => ?_)
          have hP : va_P D vwCl [(h, .inr (7, [.ref qb, .int (nI n), .int w2, .int (nI sn), .int w4, .int w5, .int w6, .int (nI (i + 1))])), (qb, .inl (k 0, 500, .inl f))] H := hP
          have hD : va_D A [(h, .inr (7, [.ref qb, .int (nI n), .int w2, .int (nI sn), .int w4, .int w5, .int w6, .int (nI (i + 1))])), (qb, .inl (k 0, 500, .inl f))] := hD
          refine lv_goto (tgt := 14) hx hb dX7_readNumber_66 (by decide) ?_
          rw [dg3_hi (f := f) (s9 := sn) (i := i) (by omega) (by omega)] at hl
          exact ih (i + 1) (by omega) ((rn_step e9.1 e9.2).symm.trans he) (by omega) _ _ (hP.sub [0, 1] rfl) (hD.sub [0, 1] (by decide +kernel) rfl) hS ls (lv_sub hl [0, 1, 2, 3] rfl)
        · skip
          refine lv_iload_n hx hb dX7_readNumber_38 rfl (lv_at hl 0 rfl) ?_
          refine lv_bipush (v := 10) hx hb dX7_readNumber_39 (by decide) ?_
          refine lv_imul hx hb dX7_readNumber_41 ?_
          refine lv_aload_n hx hb dX7_readNumber_42 rfl (lv_at hl 1 rfl) ?_
          refine va_get (D := D) (ci := 7) (v := .ref qb) (C := RX7) (T := TX7) (N := 8) hx hb hts hi7 hown hG.1 hP 0 rfl rfl 0 (by decide) (hts (.fieldLink RX7 9 "SleptMatters$Text" "bytes" "[I") (List.mem_cons_of_mem _ (List.mem_append_left _ (List.mem_of_getElem? (i := 2) rfl)))) (fun _ h9 => h9) rfl dX7_readNumber_43 ?_
          refine lv_aload_n hx hb dX7_readNumber_46 rfl (lv_at hl 1 rfl) ?_
          refine va_get (D := D) (ci := 7) (v := .int (nI i)) (C := RX7) (T := TX7) (N := 8) hx hb hts hi7 hown hG.1 hP 0 rfl rfl 7 (by decide) (hts (.fieldLink RX7 34 "SleptMatters$Text" "at" "I") (List.mem_cons_of_mem _ (List.mem_append_left _ (List.mem_of_getElem? (i := 0) rfl)))) (fun _ h9 => h9) rfl dX7_readNumber_47 ?_
          refine va_iald hx hb hG.1 hP 1 0 rfl rfl (vp_in_nI (by omega) (by omega)) dX7_readNumber_50 ?_
          refine tp_i (y := f i) (congrArg _ (nI_clamp (n := i) (by omega))) ?_
          refine lv_iadd hx hb dX7_readNumber_51 ?_
          refine lv_bipush (v := 48) hx hb dX7_readNumber_52 (by decide) ?_
          refine lv_isub hx hb dX7_readNumber_54 ?_
          refine tp_i (y := dg3 f sn (i + 1 - sn)) (dg3_lo (by omega) (by omega)) ?_
          refine lv_istore_n (lv' := [(3, .int (dg3 f sn (i + 1 - sn))), (0, .ref h), (1, .int lw), (2, .int gq)]) hx hb dX7_readNumber_55 rfl hl (by decide) rfl (fun ls hl => ?_)
          refine lv_aload_n hx hb dX7_readNumber_56 rfl (lv_at hl 1 rfl) ?_
          refine lv_dup hx hb dX7_readNumber_57 rfl ?_
          refine va_get (D := D) (ci := 7) (v := .int (nI i)) (C := RX7) (T := TX7) (N := 8) hx hb hts hi7 hown hG.1 hP 0 rfl rfl 7 (by decide) (hts (.fieldLink RX7 34 "SleptMatters$Text" "at" "I") (List.mem_cons_of_mem _ (List.mem_append_left _ (List.mem_of_getElem? (i := 0) rfl)))) (fun _ h9 => h9) rfl dX7_readNumber_58 ?_
          refine lv_iconst (v := 1) hx hb dX7_readNumber_61 (by decide) ?_
          refine lv_iadd hx hb dX7_readNumber_62 ?_
          refine tp_i (y := nI (i + 1)) (nI_add i 1) ?_
          refine va_put (D := D) (ci := 7) (v := .int (nI (i + 1))) (ty := .int) (C := RX7) (T := TX7) (N := 8) hx hb hts hi7 tyX7 tyX7_ok nmX7 hown hG.1 hP hD hS 0 rfl rfl 7 (by decide) (hts (.fieldLink RX7 34 "SleptMatters$Text" "at" "I") (List.mem_cons_of_mem _ (List.mem_append_left _ (List.mem_of_getElem? (i := 0) rfl)))) (fun _ h9 => h9) rfl (by decide +kernel) rfl rfl (Nat.le_of_ble_eq_true rfl) dX7_readNumber_63 (fun H locs hP hD hS => ?_)
          have hP : va_P D vwCl [(h, .inr (7, [.ref qb, .int (nI n), .int w2, .int (nI sn), .int w4, .int w5, .int w6, .int (nI (i + 1))])), (qb, .inl (k 0, 500, .inl f))] H := hP
          have hD : va_D A [(h, .inr (7, [.ref qb, .int (nI n), .int w2, .int (nI sn), .int w4, .int w5, .int w6, .int (nI (i + 1))])), (qb, .inl (k 0, 500, .inl f))] := hD
          refine lv_goto (tgt := 14) hx hb dX7_readNumber_66 (by decide) ?_
          exact ih (i + 1) (by omega) ((rn_step e9.1 e9.2).symm.trans he) (by omega) _ _ (hP.sub [0, 1] rfl) (hD.sub [0, 1] (by decide +kernel) rfl) hS ls (lv_sub hl [0, 1, 2, 3] rfl)
  rw [show (0 : Int32) = dg3 f sn (sn - sn) by rw [Nat.sub_self]; rfl] at hl
  exact L1 _ sn (⟨Nat.le_refl _, hsn⟩) (rfl) (Nat.lt_succ_self _) _ _ hP hD hS ls (lv_sub hl [0, 1, 2, 3] rfl)

abbrev c_X7_readEnd (k : Nat → ClassId) (h : Nat) (qb : Nat) (n : Nat) (a : Nat) (w2 : Int32) (w3 : Int32) (w4 : Int32) (w5 : Int32) (w6 : Int32) (f : Nat → Int32) : va_W := [(h, .inr (7, [.ref qb, .int (nI n), .int w2, .int w3, .int w4, .int w5, .int w6, .int (nI a)])), (qb, .inl (k 0, 500, .inl f))]
abbrev r_X7_readEnd : Room := { frames := 2, cells := 0, slots := 0, locals := 42 }
def w_X7_readEnd (k : Nat → ClassId) (h : Nat) (qb : Nat) (n : Nat) (a : Nat) (w2 : Int32) (w3 : Int32) (w4 : Int32) (w5 : Int32) (w6 : Int32) (f : Nat → Int32) : Nat × Nat × Int32 × Int32 → va_W := fun u => match u with | (sn, en, fw, fa) => [(h, .inr (7, [.ref qb, .int (nI n), .int w2, .int w3, .int fw, .int fa, .int w6, .int (nI en)])), (qb, .inl (k 0, 500, .inl f))]
def p_X7_readEnd (k : Nat → ClassId) (h : Nat) (qb : Nat) (n : Nat) (a : Nat) (w2 : Int32) (w3 : Int32) (w4 : Int32) (w5 : Int32) (w6 : Int32) (f : Nat → Int32) : Nat × Nat × Int32 × Int32 → Prop := fun (u : Nat × Nat × Int32 × Int32) => match u with | (sn, en, fw, fa) => sn = rn (pB f) n a ∧ ((btw f n sn 59 59 = 1 ∧ sn < n ∧ en = sn + 1 ∧ fw = w4 ∧ fa = w5) ∨ (btw f n sn 59 59 = 0 ∧ en = sn ∧ fw = bl w4 1 ∧ fa = bla w4 w5 (nI sn)))
abbrev q_X7_readEnd (D : va_G) (k : Nat → ClassId) (h : Nat) (qb : Nat) (n : Nat) (a : Nat) (w2 : Int32) (w3 : Int32) (w4 : Int32) (w5 : Int32) (w6 : Int32) (f : Nat → Int32) (A : Nat → Prop) : Array Value → State → Outcome → State → Prop := va_Qv (p_X7_readEnd k h qb n a w2 w3 w4 w5 w6 f) (fun u9 t9 => BO D (w_X7_readEnd k h qb n a w2 w3 w4 w5 w6 f u9) A t9) A
set_option maxHeartbeats 2000000 in
set_option maxRecDepth 100000 in
theorem X7_readEnd (l : Launch) (D : va_G) (k : Nat → ClassId) (sz : Nat) (h : Nat) (qb : Nat) (n : Nat) (a : Nat) (w2 : Int32) (w3 : Int32) (w4 : Int32) (w5 : Int32) (w6 : Int32) (f : Nat → Int32) (hn : n ≤ 500) (ha : a ≤ n) : Met l yX7_readEnd wsX7_readEnd r_X7_readEnd (va_Pc [.ref h] (PR D k (c_X7_readEnd k h qb n a w2 w3 w4 w5 w6 f) sz)) (q_X7_readEnd D k h qb n a w2 w3 w4 w5 w6 f (va_A (c_X7_readEnd k h qb n a w2 w3 w4 w5 w6 f) sz)) 0 0 (va_A (c_X7_readEnd k h qb n a w2 w3 w4 w5 w6 f) sz) := by
  refine Met.ofW (cc := cX7_readEnd) (maxL := 1) (ret := none) (by decide) rfl ?_
  intro p e s m args below meth c s₁ B hml hv
  obtain ⟨rfl, hsz, hP, hG, hD0⟩ := hv
  have hx := B.exec
  have hb := B.bytes
  have hr := B.returns
  have hts := atoms_spec (ws := wsX7_readEnd) B.pre
  have hown : s.vm.findClass RX7 = some m.cls := findClass_of_methodNamed B.named
  have hlocks := B.notSynchronized
  have hi7 : ∀ w ∈ wsX70, w ∈ wsX7_readEnd := fun _ h => List.mem_cons_of_mem _ (List.mem_append_right _ h)
  subst hsz
  have hD := hD0.self (sz := s.heap.size)
  generalize hAe : va_A (c_X7_readEnd k h qb n a w2 w3 w4 w5 w6 f) s.heap.size = A at hD ⊢
  have hA : ∀ q : Nat, s.heap.size ≤ q → A q := fun q h => by rw [← hAe]; exact Or.inr h
  have hS : va_S A s.heap s.heap [] := va_S.rf
  have hP : va_P D vwCl [(h, .inr (7, [.ref qb, .int (nI n), .int w2, .int w3, .int w4, .int w5, .int w6, .int (nI a)])), (qb, .inl (k 0, 500, .inl f))] s.heap := hP
  have hD : va_D A [(h, .inr (7, [.ref qb, .int (nI n), .int w2, .int w3, .int w4, .int w5, .int w6, .int (nI a)])), (qb, .inl (k 0, 500, .inl f))] := hD
  have hl := lv_entry ([.ref h]) (n := 1) (Nat.le_of_ble_eq_true rfl)
  rw [lg_entry_eq]
  generalize (lg_sl ([.ref h]) ++ List.replicate (1 - (lg_sl ([.ref h])).length) Slot.unset).toArray = ls at hl ⊢
  have hl : lv_has ls 1 [(0, .ref h)] := hl
  refine lv_aload_n hx hb dX7_readEnd_0 rfl (lv_at hl 0 rfl) ?_
  have hPc := hP.sub (ws' := (c_X7_skipBlanks k h qb n a w2 w3 w4 w5 w6 f)) [0, 1] rfl
  have hDc := hD.sub (ws' := (c_X7_skipBlanks k h qb n a w2 w3 w4 w5 w6 f)) [0, 1] (by decide +kernel) rfl
  refine cl_v (w1 := w_X7_skipBlanks k h qb n a w2 w3 w4 w5 w6 f) (wr := []) (va_runV (As := []) (rest := []) ⟨hx, hb, hml, hown, hts⟩ (X7_skipBlanks l D k s.heap.size h qb n a w2 w3 w4 w5 w6 f (hn) (ha)) (cwV 0 hts gX7_readEnd_X7_skipBlanks rfl rfl rfl (by decide +kernel) ⟨Nat.le_of_ble_eq_true rfl, Nat.le_of_ble_eq_true rfl⟩) ⟨PR.blind _ _ _ _ _, va_recv hG.1 hP (ci := 7) (q0 := 0) rfl rfl, PR.pre hPc hDc hG [.ref h]⟩ rfl rfl hl.1 rfl (lv_room (Nat.le_of_ble_eq_true rfl)) dX7_readEnd_1 ⟨Nat.le_of_ble_eq_true rfl, Nat.le_of_ble_eq_true rfl⟩) hP hD hS hA [0, 1] [] rfl rfl (by decide +kernel) (by decide +kernel) (fun u H locs hq hP hD hS => ?_)
  cases u
  have hP : va_P D vwCl [(h, .inr (7, [.ref qb, .int (nI n), .int w2, .int w3, .int w4, .int w5, .int w6, .int (nI (rn (pB f) n a))])), (qb, .inl (k 0, 500, .inl f))] H := hP
  have hD : va_D A [(h, .inr (7, [.ref qb, .int (nI n), .int w2, .int w3, .int w4, .int w5, .int w6, .int (nI (rn (pB f) n a))])), (qb, .inl (k 0, 500, .inl f))] := hD
  obtain ⟨sn, esn⟩ : ∃ z, z = rn (pB f) n a := ⟨_, rfl⟩
  have hsn : sn ≤ n := by rw [esn]; exact rn_le _ ha
  rw [← esn] at hP hD
  have hP : va_P D vwCl [(h, .inr (7, [.ref qb, .int (nI n), .int w2, .int w3, .int w4, .int w5, .int w6, .int (nI sn)])), (qb, .inl (k 0, 500, .inl f))] H := hP
  have hD : va_D A [(h, .inr (7, [.ref qb, .int (nI n), .int w2, .int w3, .int w4, .int w5, .int w6, .int (nI sn)])), (qb, .inl (k 0, 500, .inl f))] := hD
  refine lv_aload_n hx hb dX7_readEnd_4 rfl (lv_at hl 0 rfl) ?_
  refine lv_bipush (v := 59) hx hb dX7_readEnd_5 (by decide) ?_
  refine lv_bipush (v := 59) hx hb dX7_readEnd_7 (by decide) ?_
  have hPc := hP.sub (ws' := (c_X7_isBetween k h qb n sn w2 w3 w4 w5 w6 f 59 59)) [0, 1] rfl
  refine vp_callSi (va_Run.run (va_runV (As := [.int 59, .int 59]) (rest := []) ⟨hx, hb, hml, hown, hts⟩ (X7_isBetween l D k h qb n sn w2 w3 w4 w5 w6 f 59 59 (hn) (hsn)) (cwV 2 hts gX7_readEnd_X7_isBetween rfl rfl rfl (by decide +kernel) ⟨Nat.le_of_ble_eq_true rfl, Nat.le_of_ble_eq_true rfl⟩) ⟨PS.blind _ _ _ _, va_recv hG.1 hP (ci := 7) (q0 := 0) rfl rfl, PS.pre hPc hG [.ref h, .int 59, .int 59]⟩ rfl rfl hl.1 rfl (lv_room (Nat.le_of_ble_eq_true rfl)) dX7_readEnd_9 ⟨Nat.le_of_ble_eq_true rfl, Nat.le_of_ble_eq_true rfl⟩)) (fun r hq => ?_)
  generalize r = y1 at hq ⊢
  have hq : y1 = btw f n sn 59 59 := hq
  refine tp_i (y := btw f n sn 59 59) (hq) ?_
  refine lv_if_eq (x := btw f n sn 59 59) (tgt := 28) hx hb dX7_readEnd_12 (by decide) (fun c2 => ?_) (fun c2 => ?_)
  · skip
    have e9 := c2
    refine lv_aload_n hx hb dX7_readEnd_28 rfl (lv_at hl 0 rfl) ?_
    refine lv_iconst (v := 1) hx hb dX7_readEnd_29 (by decide) ?_
    refine lv_aload_n hx hb dX7_readEnd_30 rfl (lv_at hl 0 rfl) ?_
    refine va_get (D := D) (ci := 7) (v := .int (nI sn)) (C := RX7) (T := TX7) (N := 8) hx hb hts hi7 hown hG.1 hP 0 rfl rfl 7 (by decide) (hts (.fieldLink RX7 34 "SleptMatters$Text" "at" "I") (List.mem_cons_of_mem _ (List.mem_append_left _ (List.mem_of_getElem? (i := 0) rfl)))) (fun _ h9 => h9) rfl dX7_readEnd_31 ?_
    have hPc := hP.sub (ws' := (c_X7_blame k h qb (nI n) w2 w3 w4 w5 w6 (nI sn) 1 (nI sn))) [0] rfl
    have hDc := hD.sub (ws' := (c_X7_blame k h qb (nI n) w2 w3 w4 w5 w6 (nI sn) 1 (nI sn))) [0] (by decide +kernel) rfl
    refine cl_v (w1 := w_X7_blame k h qb (nI n) w2 w3 w4 w5 w6 (nI sn) 1 (nI sn)) (wr := [(qb, .inl (k 0, 500, .inl f))]) (va_runV (As := [.int 1, .int (nI sn)]) (rest := []) ⟨hx, hb, hml, hown, hts⟩ (X7_blame l D k H.size h qb (nI n) w2 w3 w4 w5 w6 (nI sn) 1 (nI sn) ) (cwV 2 hts gX7_readEnd_X7_blame rfl rfl rfl (by decide +kernel) ⟨Nat.le_of_ble_eq_true rfl, Nat.le_of_ble_eq_true rfl⟩) ⟨PR.blind _ _ _ _ _, va_recv hG.1 hP (ci := 7) (q0 := 0) rfl rfl, PR.pre hPc hDc hG [.ref h, .int 1, .int (nI sn)]⟩ rfl rfl hl.1 rfl (lv_room (Nat.le_of_ble_eq_true rfl)) dX7_readEnd_34 ⟨Nat.le_of_ble_eq_true rfl, Nat.le_of_ble_eq_true rfl⟩) hP hD hS hA [0] [1] rfl rfl (by decide +kernel) (by decide +kernel) (fun u H locs hq hP hD hS => ?_)
    obtain ⟨fw, fa⟩ := u
    have hq : fw = bl w4 1 ∧ fa = bla w4 w5 (nI sn) := hq
    have hP : va_P D vwCl [(qb, .inl (k 0, 500, .inl f)), (h, .inr (7, [.ref qb, .int (nI n), .int w2, .int w3, .int fw, .int fa, .int w6, .int (nI sn)]))] H := hP
    have hD : va_D A [(qb, .inl (k 0, 500, .inl f)), (h, .inr (7, [.ref qb, .int (nI n), .int w2, .int w3, .int fw, .int fa, .int w6, .int (nI sn)]))] := hD
    have hP9 := hP.sub (ws' := [(h, .inr (7, [.ref qb, .int (nI n), .int w2, .int w3, .int fw, .int fa, .int w6, .int (nI sn)])), (qb, .inl (k 0, 500, .inl f))]) [1, 0] rfl
    have hD9 := hD.sub (ws' := [(h, .inr (7, [.ref qb, .int (nI n), .int w2, .int w3, .int fw, .int fa, .int w6, .int (nI sn)])), (qb, .inl (k 0, 500, .inl f))]) [1, 0] (by decide +kernel) rfl
    exact W.vret hx hb hr (fun t9 ht _ => ⟨⟨(sn, sn, fw, fa), rfl, ⟨esn, Or.inr ⟨e9, rfl, hq.1, hq.2⟩⟩, by rw [ht]; exact hP9, hD9⟩, hS.F ht⟩) hS.2.2 dX7_readEnd_37
  · skip
    have e9 := btw_ne c2
    refine lv_aload_n hx hb dX7_readEnd_15 rfl (lv_at hl 0 rfl) ?_
    refine lv_dup hx hb dX7_readEnd_16 rfl ?_
    refine va_get (D := D) (ci := 7) (v := .int (nI sn)) (C := RX7) (T := TX7) (N := 8) hx hb hts hi7 hown hG.1 hP 0 rfl rfl 7 (by decide) (hts (.fieldLink RX7 34 "SleptMatters$Text" "at" "I") (List.mem_cons_of_mem _ (List.mem_append_left _ (List.mem_of_getElem? (i := 0) rfl)))) (fun _ h9 => h9) rfl dX7_readEnd_17 ?_
    refine lv_iconst (v := 1) hx hb dX7_readEnd_20 (by decide) ?_
    refine lv_iadd hx hb dX7_readEnd_21 ?_
    refine tp_i (y := nI (sn + 1)) (nI_add sn 1) ?_
    refine va_put (D := D) (ci := 7) (v := .int (nI (sn + 1))) (ty := .int) (C := RX7) (T := TX7) (N := 8) hx hb hts hi7 tyX7 tyX7_ok nmX7 hown hG.1 hP hD hS 0 rfl rfl 7 (by decide) (hts (.fieldLink RX7 34 "SleptMatters$Text" "at" "I") (List.mem_cons_of_mem _ (List.mem_append_left _ (List.mem_of_getElem? (i := 0) rfl)))) (fun _ h9 => h9) rfl (by decide +kernel) rfl rfl (Nat.le_of_ble_eq_true rfl) dX7_readEnd_22 (fun H locs hP hD hS => ?_)
    have hP : va_P D vwCl [(h, .inr (7, [.ref qb, .int (nI n), .int w2, .int w3, .int w4, .int w5, .int w6, .int (nI (sn + 1))])), (qb, .inl (k 0, 500, .inl f))] H := hP
    have hD : va_D A [(h, .inr (7, [.ref qb, .int (nI n), .int w2, .int w3, .int w4, .int w5, .int w6, .int (nI (sn + 1))])), (qb, .inl (k 0, 500, .inl f))] := hD
    refine lv_goto (tgt := 37) hx hb dX7_readEnd_25 (by decide) ?_
    have hP9 := hP.sub (ws' := [(h, .inr (7, [.ref qb, .int (nI n), .int w2, .int w3, .int w4, .int w5, .int w6, .int (nI (sn + 1))])), (qb, .inl (k 0, 500, .inl f))]) [0, 1] rfl
    have hD9 := hD.sub (ws' := [(h, .inr (7, [.ref qb, .int (nI n), .int w2, .int w3, .int w4, .int w5, .int w6, .int (nI (sn + 1))])), (qb, .inl (k 0, 500, .inl f))]) [0, 1] (by decide +kernel) rfl
    exact W.vret hx hb hr (fun t9 ht _ => ⟨⟨(sn, sn + 1, w4, w5), rfl, ⟨esn, Or.inl ⟨if_pos e9, e9.1, rfl, rfl, rfl⟩⟩, by rw [ht]; exact hP9, hD9⟩, hS.F ht⟩) hS.2.2 dX7_readEnd_37

abbrev c_X7_add (k : Nat → ClassId) (h : Nat) (qb : Nat) (n : Nat) (jj : Nat) (v2 : Int32) (v3 : Int32) (v4 : Int32) (v5 : Int32) (v6 : Int32) (v7 : Int32) (f : Nat → Int32) (pk : Int64) : va_W := [(h, .inr (7, [.ref qb, .int (nI n), .int v2, .int v3, .int v4, .int v5, .int v6, .int v7])), (qb, .inl (k 0, 500, .inl f))]
abbrev r_X7_add : Room := { frames := 0, cells := 0, slots := 0, locals := 0 }
def w_X7_add (k : Nat → ClassId) (h : Nat) (qb : Nat) (n : Nat) (jj : Nat) (v2 : Int32) (v3 : Int32) (v4 : Int32) (v5 : Int32) (v6 : Int32) (v7 : Int32) (f : Nat → Int32) (pk : Int64) : Unit → va_W := fun _ => [(h, .inr (7, [.ref qb, .int (nI (n + jj)), .int v2, .int v3, .int v4, .int v5, .int v6, .int v7])), (qb, .inl (k 0, 500, .inl (adF f pk n jj jj)))]
def p_X7_add (k : Nat → ClassId) (h : Nat) (qb : Nat) (n : Nat) (jj : Nat) (v2 : Int32) (v3 : Int32) (v4 : Int32) (v5 : Int32) (v6 : Int32) (v7 : Int32) (f : Nat → Int32) (pk : Int64) : Unit → Prop := fun (u : Unit) => True
abbrev q_X7_add (D : va_G) (k : Nat → ClassId) (h : Nat) (qb : Nat) (n : Nat) (jj : Nat) (v2 : Int32) (v3 : Int32) (v4 : Int32) (v5 : Int32) (v6 : Int32) (v7 : Int32) (f : Nat → Int32) (pk : Int64) (A : Nat → Prop) : Array Value → State → Outcome → State → Prop := va_Qv (p_X7_add k h qb n jj v2 v3 v4 v5 v6 v7 f pk) (fun u9 t9 => BO D (w_X7_add k h qb n jj v2 v3 v4 v5 v6 v7 f pk u9) A t9) A
set_option maxHeartbeats 2000000 in
set_option maxRecDepth 100000 in
theorem X7_add (l : Launch) (D : va_G) (k : Nat → ClassId) (sz : Nat) (h : Nat) (qb : Nat) (n : Nat) (jj : Nat) (v2 : Int32) (v3 : Int32) (v4 : Int32) (v5 : Int32) (v6 : Int32) (v7 : Int32) (f : Nat → Int32) (pk : Int64) (hj : 1 ≤ jj ∧ jj ≤ 8) (hn : n + jj ≤ 500) : Met l yX7_add wsX7_add r_X7_add (va_Pc [.ref h, .int (nI jj), .long pk] (PR D k (c_X7_add k h qb n jj v2 v3 v4 v5 v6 v7 f pk) sz)) (q_X7_add D k h qb n jj v2 v3 v4 v5 v6 v7 f pk (va_A (c_X7_add k h qb n jj v2 v3 v4 v5 v6 v7 f pk) sz)) 0 0 (va_A (c_X7_add k h qb n jj v2 v3 v4 v5 v6 v7 f pk) sz) := by
  refine Met.ofW (cc := cX7_add) (maxL := 5) (ret := none) (by decide) rfl ?_
  intro p e s m args below meth c s₁ B hml hv
  obtain ⟨rfl, hsz, hP, hG, hD0⟩ := hv
  have hx := B.exec
  have hb := B.bytes
  have hr := B.returns
  have hts := atoms_spec (ws := wsX7_add) B.pre
  have hown : s.vm.findClass RX7 = some m.cls := findClass_of_methodNamed B.named
  have hlocks := B.notSynchronized
  have hi7 : ∀ w ∈ wsX70, w ∈ wsX7_add := fun _ h => List.mem_cons_of_mem _ (List.mem_append_right _ h)
  subst hsz
  have hD := hD0.self (sz := s.heap.size)
  generalize hAe : va_A (c_X7_add k h qb n jj v2 v3 v4 v5 v6 v7 f pk) s.heap.size = A at hD ⊢
  have hA : ∀ q : Nat, s.heap.size ≤ q → A q := fun q h => by rw [← hAe]; exact Or.inr h
  have hS : va_S A s.heap s.heap [] := va_S.rf
  have hP : va_P D vwCl [(h, .inr (7, [.ref qb, .int (nI n), .int v2, .int v3, .int v4, .int v5, .int v6, .int v7])), (qb, .inl (k 0, 500, .inl f))] s.heap := hP
  have hD : va_D A [(h, .inr (7, [.ref qb, .int (nI n), .int v2, .int v3, .int v4, .int v5, .int v6, .int v7])), (qb, .inl (k 0, 500, .inl f))] := hD
  have hl := lv_entry ([.ref h, .int (nI jj), .long pk]) (n := 5) (Nat.le_of_ble_eq_true rfl)
  rw [lg_entry_eq]
  generalize (lg_sl ([.ref h, .int (nI jj), .long pk]) ++ List.replicate (5 - (lg_sl ([.ref h, .int (nI jj), .long pk])).length) Slot.unset).toArray = ls at hl ⊢
  have hl : lv_has ls 5 [(0, .ref h), (1, .int (nI jj)), (2, .long pk)] := hl
  refine lv_iload_n hx hb dX7_add_0 rfl (lv_at hl 1 rfl) ?_
  refine lv_iconst (v := 1) hx hb dX7_add_1 (by decide) ?_
  refine lv_isub hx hb dX7_add_2 ?_
  refine tp_i (y := nI jj + (-1)) (Int32.sub_eq_add_neg _ _) ?_
  refine lv_istore (lv' := [(4, .int (nI jj + (-1))), (0, .ref h), (1, .int (nI jj)), (2, .long pk)]) hx hb dX7_add_3 hl (by decide) rfl (fun ls hl => ?_)
  have L1 : ∀ (fu9 : Nat) (cc : Nat) (z : Nat), (z + cc = jj) → cc < fu9 → ∀ (H : Heap) (locs : List Loc), va_P D vwCl [(h, .inr (7, [.ref qb, .int (nI (n + z)), .int v2, .int v3, .int v4, .int v5, .int v6, .int v7])), (qb, .inl (k 0, 500, .inl (adF f pk n jj z)))] H → va_D A [(h, .inr (7, [.ref qb, .int (nI (n + z)), .int v2, .int v3, .int v4, .int v5, .int v6, .int v7])), (qb, .inl (k 0, 500, .inl (adF f pk n jj z)))] → va_S A s.heap H locs → ∀ (ls : Array Slot), lv_has ls 5 [(4, .int (nI cc + (-1))), (0, .ref h), (1, .int (nI jj)), (2, .long pk)] → W p l e r_X7_add s m ([.ref h, .int (nI jj), .long pk] : List Value).toArray below meth c H locs 0 0 (MQ below (q_X7_add D k h qb n jj v2 v3 v4 v5 v6 v7 f pk A) ([.ref h, .int (nI jj), .long pk] : List Value).toArray s 0 0 A) (F0 m 5 ls []) := by
    intro fu9
    induction fu9 with
    | zero => intro cc z hz hmu; exact absurd hmu (Nat.not_lt_zero _)
    | succ fu9 ih =>
      intro cc z hz hmu H locs hP hD hS ls hl
      refine lv_iload hx hb dX7_add_5 (lv_at hl 0 rfl) ?_
      refine lv_if_lt (x := nI cc + (-1)) (tgt := 57) hx hb dX7_add_7 (by decide) (fun c2 => ?_) (fun c2 => ?_)
      · skip
        have h9 : z = jj := by have := dn_neg (by omega) c2; omega
        rw [h9] at hP hD
        have hP9 := hP.sub (ws' := [(h, .inr (7, [.ref qb, .int (nI (n + jj)), .int v2, .int v3, .int v4, .int v5, .int v6, .int v7])), (qb, .inl (k 0, 500, .inl (adF f pk n jj jj)))]) [0, 1] rfl
        have hD9 := hD.sub (ws' := [(h, .inr (7, [.ref qb, .int (nI (n + jj)), .int v2, .int v3, .int v4, .int v5, .int v6, .int v7])), (qb, .inl (k 0, 500, .inl (adF f pk n jj jj)))]) [0, 1] (by decide +kernel) rfl
        exact W.vret hx hb hr (fun t9 ht _ => ⟨⟨(), rfl, trivial, by rw [ht]; exact hP9, hD9⟩, hS.F ht⟩) hS.2.2 dX7_add_57
      · skip
        obtain ⟨d, rfl⟩ := dn_pos c2
        rw [pk_m1] at hl
        refine lv_aload_n hx hb dX7_add_10 rfl (lv_at hl 1 rfl) ?_
        refine va_get (D := D) (ci := 7) (v := .int (nI (n + z))) (C := RX7) (T := TX7) (N := 8) hx hb hts hi7 hown hG.1 hP 0 rfl rfl 1 (by decide) (hts (.fieldLink RX7 15 "SleptMatters$Text" "size" "I") (List.mem_cons_of_mem _ (List.mem_append_left _ (List.mem_of_getElem? (i := 0) rfl)))) (fun _ h9 => h9) rfl dX7_add_11 ?_
        refine lv_sipush (v := 500) hx hb dX7_add_14 (by decide) ?_
        refine bn_ge (i := n + z) (j := 500) (tgt := 57) hx hb dX7_add_17 (by decide) (by omega) (by omega) (fun c3 => absurd c3 (by omega)) (fun c3 => ?_)
        refine lv_aload_n hx hb dX7_add_20 rfl (lv_at hl 1 rfl) ?_
        refine va_get (D := D) (ci := 7) (v := .ref qb) (C := RX7) (T := TX7) (N := 8) hx hb hts hi7 hown hG.1 hP 0 rfl rfl 0 (by decide) (hts (.fieldLink RX7 9 "SleptMatters$Text" "bytes" "[I") (List.mem_cons_of_mem _ (List.mem_append_left _ (List.mem_of_getElem? (i := 1) rfl)))) (fun _ h9 => h9) rfl dX7_add_21 ?_
        refine lv_aload_n hx hb dX7_add_24 rfl (lv_at hl 1 rfl) ?_
        refine va_get (D := D) (ci := 7) (v := .int (nI (n + z))) (C := RX7) (T := TX7) (N := 8) hx hb hts hi7 hown hG.1 hP 0 rfl rfl 1 (by decide) (hts (.fieldLink RX7 15 "SleptMatters$Text" "size" "I") (List.mem_cons_of_mem _ (List.mem_append_left _ (List.mem_of_getElem? (i := 0) rfl)))) (fun _ h9 => h9) rfl dX7_add_25 ?_
        refine lv_lload_n hx hb dX7_add_28 rfl (lv_at hl 3 rfl) ?_
        refine lv_bipush (v := 8) hx hb dX7_add_29 (by decide) ?_
        refine lv_iload hx hb dX7_add_31 (lv_at hl 0 rfl) ?_
        refine lv_imul hx hb dX7_add_33 ?_
        refine tp_i (y := nI (8 * d)) (pk_mul 8 d) ?_
        refine lv_lushr (v := (pk.toUInt64 >>> ((nI (8 * d)).toInt64.toUInt64 &&& Int64.toUInt64 63)).toInt64) hx hb dX7_add_34 rfl ?_
        refine lv_ldc2 (v := (255)) hx hb hown (hts (.constantLong RX7 37 (255)) (List.mem_cons_of_mem _ (List.mem_append_left _ (List.mem_of_getElem? (i := 2) rfl)))) dX7_add_35 ?_
        refine lv_land hx hb dX7_add_38 ?_
        refine lv_l2i (v := (((pk.toUInt64 >>> ((nI (8 * d)).toInt64.toUInt64 &&& Int64.toUInt64 63)).toInt64) &&& (255)).toInt32) hx hb dX7_add_39 rfl ?_
        refine tp_i (y := byA pk d) (rfl) ?_
        refine va_iast hx hb hG.1 hP hD hS 1 0 rfl rfl (vp_in_nI (by omega) (by omega)) dX7_add_40 (fun H locs hP hD hS => ?_)
        rw [nI_clamp (n := n + z) (by omega)] at hP hD
        have hP : va_P D vwCl [(h, .inr (7, [.ref qb, .int (nI (n + z)), .int v2, .int v3, .int v4, .int v5, .int v6, .int v7])), (qb, .inl (k 0, 500, .inl (upd (adF f pk n jj z) (n + z) (byA pk d))))] H := hP
        have hD : va_D A [(h, .inr (7, [.ref qb, .int (nI (n + z)), .int v2, .int v3, .int v4, .int v5, .int v6, .int v7])), (qb, .inl (k 0, 500, .inl (upd (adF f pk n jj z) (n + z) (byA pk d))))] := hD
        rw [adF_s (by omega)] at hP hD
        have hP : va_P D vwCl [(h, .inr (7, [.ref qb, .int (nI (n + z)), .int v2, .int v3, .int v4, .int v5, .int v6, .int v7])), (qb, .inl (k 0, 500, .inl (adF f pk n jj (z + 1))))] H := hP
        have hD : va_D A [(h, .inr (7, [.ref qb, .int (nI (n + z)), .int v2, .int v3, .int v4, .int v5, .int v6, .int v7])), (qb, .inl (k 0, 500, .inl (adF f pk n jj (z + 1))))] := hD
        refine lv_aload_n hx hb dX7_add_41 rfl (lv_at hl 1 rfl) ?_
        refine lv_dup hx hb dX7_add_42 rfl ?_
        refine va_get (D := D) (ci := 7) (v := .int (nI (n + z))) (C := RX7) (T := TX7) (N := 8) hx hb hts hi7 hown hG.1 hP 0 rfl rfl 1 (by decide) (hts (.fieldLink RX7 15 "SleptMatters$Text" "size" "I") (List.mem_cons_of_mem _ (List.mem_append_left _ (List.mem_of_getElem? (i := 0) rfl)))) (fun _ h9 => h9) rfl dX7_add_43 ?_
        refine lv_iconst (v := 1) hx hb dX7_add_46 (by decide) ?_
        refine lv_iadd hx hb dX7_add_47 ?_
        refine tp_i (y := nI (n + z + 1)) (nI_add (n + z) 1) ?_
        refine va_put (D := D) (ci := 7) (v := .int (nI (n + z + 1))) (ty := .int) (C := RX7) (T := TX7) (N := 8) hx hb hts hi7 tyX7 tyX7_ok nmX7 hown hG.1 hP hD hS 0 rfl rfl 1 (by decide) (hts (.fieldLink RX7 15 "SleptMatters$Text" "size" "I") (List.mem_cons_of_mem _ (List.mem_append_left _ (List.mem_of_getElem? (i := 0) rfl)))) (fun _ h9 => h9) rfl (by decide +kernel) rfl rfl (Nat.le_of_ble_eq_true rfl) dX7_add_48 (fun H locs hP hD hS => ?_)
        have hP : va_P D vwCl [(h, .inr (7, [.ref qb, .int (nI (n + z + 1)), .int v2, .int v3, .int v4, .int v5, .int v6, .int v7])), (qb, .inl (k 0, 500, .inl (adF f pk n jj (z + 1))))] H := hP
        have hD : va_D A [(h, .inr (7, [.ref qb, .int (nI (n + z + 1)), .int v2, .int v3, .int v4, .int v5, .int v6, .int v7])), (qb, .inl (k 0, 500, .inl (adF f pk n jj (z + 1))))] := hD
        refine lv_iinc (v := (nI d) + (-1)) (lv' := [(4, .int ((nI d) + (-1))), (0, .ref h), (1, .int (nI jj)), (2, .long pk)]) hx hb dX7_add_51 hl (k := 0) rfl (rfl) (by decide) rfl (fun ls hl => ?_)
        refine lv_goto (tgt := 5) hx hb dX7_add_54 (by decide) ?_
        exact ih d (z + 1) (by omega) (by omega) _ _ (hP.sub [0, 1] rfl) (hD.sub [0, 1] (by decide +kernel) rfl) hS ls (lv_sub hl [0, 1, 2, 3] rfl)
  exact L1 _ jj 0 (by omega) (Nat.lt_succ_self _) _ _ hP hD hS ls (lv_sub hl [0, 1, 2, 3] rfl)
