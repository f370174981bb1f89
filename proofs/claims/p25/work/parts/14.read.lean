set_option maxRecDepth 20000 in
theorem ggX8_kindOf_X7_isWord : GoodIn wsX8_kindOf wsX7_isWord := goodIn_r _ [5, 6, 7, 8, 9, 10, 11, 12, 13, 14, 15, 16, 17, 18, 19, 20, 21, 22, 23, 24, 25, 26, 27, 28, 29, 30, 31, 32, 33, 34, 35, 36, 37, 38, 39, 40, 41, 42, 43, 44, 45, 46, 47, 48, 49, 50, 51, 52, 53, 54, 55, 56, 57, 58, 59, 60, 61, 62, 63, 64, 65] rfl (by decide +kernel)
set_option maxRecDepth 20000 in
theorem gX8_kindOf_X7_isWord : GoodIn wsX8_kindOf (wsV RX8 91 RX7 yX7_isWord wsX7_isWord) := goodIn_app (goodIn_of _ (by decide +kernel)) ggX8_kindOf_X7_isWord
theorem dX8_kindOf_0 : decode cX8_kindOf 0 = .ok (.aload_n 0, 1) := dc_Bk (by decide +kernel)
theorem dX8_kindOf_1 : decode cX8_kindOf 1 = .ok (.ldc 89, 2) := dc_Bk (by decide +kernel)
theorem dX8_kindOf_3 : decode cX8_kindOf 3 = .ok (.invokevirtual 91, 3) := dc_Bk (by decide +kernel)
theorem dX8_kindOf_6 : decode cX8_kindOf 6 = .ok (.ifCond .eq 5, 3) := dc_Bk (by decide +kernel)
theorem dX8_kindOf_9 : decode cX8_kindOf 9 = .ok (.iconst 0, 1) := dc_Bk (by decide +kernel)
theorem dX8_kindOf_10 : decode cX8_kindOf 10 = .ok (.ireturn, 1) := dc_Bk (by decide +kernel)
theorem dX8_kindOf_11 : decode cX8_kindOf 11 = .ok (.aload_n 0, 1) := dc_Bk (by decide +kernel)
theorem dX8_kindOf_12 : decode cX8_kindOf 12 = .ok (.ldc 95, 2) := dc_Bk (by decide +kernel)
theorem dX8_kindOf_14 : decode cX8_kindOf 14 = .ok (.invokevirtual 91, 3) := dc_Bk (by decide +kernel)
theorem dX8_kindOf_17 : decode cX8_kindOf 17 = .ok (.ifCond .eq 5, 3) := dc_Bk (by decide +kernel)
theorem dX8_kindOf_20 : decode cX8_kindOf 20 = .ok (.iconst 1, 1) := dc_Bk (by decide +kernel)
theorem dX8_kindOf_21 : decode cX8_kindOf 21 = .ok (.ireturn, 1) := dc_Bk (by decide +kernel)
theorem dX8_kindOf_22 : decode cX8_kindOf 22 = .ok (.aload_n 0, 1) := dc_Bk (by decide +kernel)
theorem dX8_kindOf_23 : decode cX8_kindOf 23 = .ok (.ldc 97, 2) := dc_Bk (by decide +kernel)
theorem dX8_kindOf_25 : decode cX8_kindOf 25 = .ok (.invokevirtual 91, 3) := dc_Bk (by decide +kernel)
theorem dX8_kindOf_28 : decode cX8_kindOf 28 = .ok (.ifCond .eq 5, 3) := dc_Bk (by decide +kernel)
theorem dX8_kindOf_31 : decode cX8_kindOf 31 = .ok (.iconst 2, 1) := dc_Bk (by decide +kernel)
theorem dX8_kindOf_32 : decode cX8_kindOf 32 = .ok (.ireturn, 1) := dc_Bk (by decide +kernel)
theorem dX8_kindOf_33 : decode cX8_kindOf 33 = .ok (.aload_n 0, 1) := dc_Bk (by decide +kernel)
theorem dX8_kindOf_34 : decode cX8_kindOf 34 = .ok (.ldc 99, 2) := dc_Bk (by decide +kernel)
theorem dX8_kindOf_36 : decode cX8_kindOf 36 = .ok (.invokevirtual 91, 3) := dc_Bk (by decide +kernel)
theorem dX8_kindOf_39 : decode cX8_kindOf 39 = .ok (.ifCond .eq 7, 3) := dc_Bk (by decide +kernel)
theorem dX8_kindOf_42 : decode cX8_kindOf 42 = .ok (.iconst 3, 1) := dc_Bk (by decide +kernel)
theorem dX8_kindOf_43 : decode cX8_kindOf 43 = .ok (.goto 4, 3) := dc_Bk (by decide +kernel)
theorem dX8_kindOf_46 : decode cX8_kindOf 46 = .ok (.iconst (-1), 1) := dc_Bk (by decide +kernel)
theorem dX8_kindOf_47 : decode cX8_kindOf 47 = .ok (.ireturn, 1) := dc_Bk (by decide +kernel)
set_option maxRecDepth 20000 in
theorem ggX3_clauseOf_X7_isWord : GoodIn wsX3_clauseOf wsX7_isWord := goodIn_r _ [5, 6, 7, 8, 9, 10, 11, 12, 13, 14, 15, 16, 17, 18, 19, 20, 21, 22, 23, 24, 25, 26, 27, 28, 29, 30, 31, 32, 33, 34, 35, 36, 37, 38, 39, 40, 41, 42, 43, 44, 45, 46, 47, 48, 49, 50, 51, 52, 53, 54, 55, 56, 57, 58, 59, 60, 61, 62, 63, 64, 65] rfl (by decide +kernel)
set_option maxRecDepth 20000 in
theorem gX3_clauseOf_X7_isWord : GoodIn wsX3_clauseOf (wsV RX3 70 RX7 yX7_isWord wsX7_isWord) := goodIn_app (goodIn_of _ (by decide +kernel)) ggX3_clauseOf_X7_isWord
theorem dX3_clauseOf_0 : decode cX3_clauseOf 0 = .ok (.aload_n 0, 1) := dc_Bk (by decide +kernel)
theorem dX3_clauseOf_1 : decode cX3_clauseOf 1 = .ok (.ldc 69, 2) := dc_Bk (by decide +kernel)
theorem dX3_clauseOf_3 : decode cX3_clauseOf 3 = .ok (.invokevirtual 70, 3) := dc_Bk (by decide +kernel)
theorem dX3_clauseOf_6 : decode cX3_clauseOf 6 = .ok (.ifCond .eq 5, 3) := dc_Bk (by decide +kernel)
theorem dX3_clauseOf_9 : decode cX3_clauseOf 9 = .ok (.iconst 0, 1) := dc_Bk (by decide +kernel)
theorem dX3_clauseOf_10 : decode cX3_clauseOf 10 = .ok (.ireturn, 1) := dc_Bk (by decide +kernel)
theorem dX3_clauseOf_11 : decode cX3_clauseOf 11 = .ok (.aload_n 0, 1) := dc_Bk (by decide +kernel)
theorem dX3_clauseOf_12 : decode cX3_clauseOf 12 = .ok (.ldc 74, 2) := dc_Bk (by decide +kernel)
theorem dX3_clauseOf_14 : decode cX3_clauseOf 14 = .ok (.invokevirtual 70, 3) := dc_Bk (by decide +kernel)
theorem dX3_clauseOf_17 : decode cX3_clauseOf 17 = .ok (.ifCond .eq 5, 3) := dc_Bk (by decide +kernel)
theorem dX3_clauseOf_20 : decode cX3_clauseOf 20 = .ok (.iconst 1, 1) := dc_Bk (by decide +kernel)
theorem dX3_clauseOf_21 : decode cX3_clauseOf 21 = .ok (.ireturn, 1) := dc_Bk (by decide +kernel)
theorem dX3_clauseOf_22 : decode cX3_clauseOf 22 = .ok (.aload_n 0, 1) := dc_Bk (by decide +kernel)
theorem dX3_clauseOf_23 : decode cX3_clauseOf 23 = .ok (.ldc 75, 2) := dc_Bk (by decide +kernel)
theorem dX3_clauseOf_25 : decode cX3_clauseOf 25 = .ok (.invokevirtual 70, 3) := dc_Bk (by decide +kernel)
theorem dX3_clauseOf_28 : decode cX3_clauseOf 28 = .ok (.ifCond .eq 5, 3) := dc_Bk (by decide +kernel)
theorem dX3_clauseOf_31 : decode cX3_clauseOf 31 = .ok (.iconst 2, 1) := dc_Bk (by decide +kernel)
theorem dX3_clauseOf_32 : decode cX3_clauseOf 32 = .ok (.ireturn, 1) := dc_Bk (by decide +kernel)
theorem dX3_clauseOf_33 : decode cX3_clauseOf 33 = .ok (.aload_n 0, 1) := dc_Bk (by decide +kernel)
theorem dX3_clauseOf_34 : decode cX3_clauseOf 34 = .ok (.ldc 76, 2) := dc_Bk (by decide +kernel)
theorem dX3_clauseOf_36 : decode cX3_clauseOf 36 = .ok (.invokevirtual 70, 3) := dc_Bk (by decide +kernel)
theorem dX3_clauseOf_39 : decode cX3_clauseOf 39 = .ok (.ifCond .eq 7, 3) := dc_Bk (by decide +kernel)
theorem dX3_clauseOf_42 : decode cX3_clauseOf 42 = .ok (.iconst 3, 1) := dc_Bk (by decide +kernel)
theorem dX3_clauseOf_43 : decode cX3_clauseOf 43 = .ok (.goto 4, 3) := dc_Bk (by decide +kernel)
theorem dX3_clauseOf_46 : decode cX3_clauseOf 46 = .ok (.iconst (-1), 1) := dc_Bk (by decide +kernel)
theorem dX3_clauseOf_47 : decode cX3_clauseOf 47 = .ok (.ireturn, 1) := dc_Bk (by decide +kernel)
set_option maxRecDepth 20000 in
theorem ggX8_readNumbers_X7_readNumber : GoodIn wsX8_readNumbers wsX7_readNumber := goodIn_r _ [8, 9, 10, 11, 12, 13, 14, 7, 15, 16, 17, 18, 19, 20, 21, 22, 23, 24, 25, 26, 27, 28, 29, 30, 32, 33, 34, 35, 36, 37, 38, 39] rfl (by decide +kernel)
set_option maxRecDepth 20000 in
theorem gX8_readNumbers_X7_readNumber : GoodIn wsX8_readNumbers (wsV RX8 110 RX7 yX7_readNumber wsX7_readNumber) := goodIn_app (goodIn_of _ (by decide +kernel)) ggX8_readNumbers_X7_readNumber
set_option maxRecDepth 20000 in
theorem ggX8_readNumbers_X7_blame : GoodIn wsX8_readNumbers wsX7_blame := goodIn_r _ [24, 25, 26, 27, 28, 29, 7, 30, 32, 33, 34, 35, 36, 37, 38, 39] rfl (by decide +kernel)
set_option maxRecDepth 20000 in
theorem gX8_readNumbers_X7_blame : GoodIn wsX8_readNumbers (wsV RX8 75 RX7 yX7_blame wsX7_blame) := goodIn_app (goodIn_of _ (by decide +kernel)) ggX8_readNumbers_X7_blame
theorem dX8_readNumbers_0 : decode cX8_readNumbers 0 = .ok (.iconst 0, 1) := dc_Bk (by decide +kernel)
theorem dX8_readNumbers_1 : decode cX8_readNumbers 1 = .ok (.istore_n 3, 1) := dc_Bk (by decide +kernel)
theorem dX8_readNumbers_2 : decode cX8_readNumbers 2 = .ok (.iconst 0, 1) := dc_Bk (by decide +kernel)
theorem dX8_readNumbers_3 : decode cX8_readNumbers 3 = .ok (.istore 4, 2) := dc_Bk (by decide +kernel)
theorem dX8_readNumbers_5 : decode cX8_readNumbers 5 = .ok (.iload 4, 2) := dc_Bk (by decide +kernel)
theorem dX8_readNumbers_7 : decode cX8_readNumbers 7 = .ok (.getstatic 101, 3) := dc_Bk (by decide +kernel)
theorem dX8_readNumbers_10 : decode cX8_readNumbers 10 = .ok (.iload_n 2, 1) := dc_Bk (by decide +kernel)
theorem dX8_readNumbers_11 : decode cX8_readNumbers 11 = .ok (.iaload, 1) := dc_Bk (by decide +kernel)
theorem dX8_readNumbers_12 : decode cX8_readNumbers 12 = .ok (.if_icmp .ge 83, 3) := dc_Bk (by decide +kernel)
theorem dX8_readNumbers_15 : decode cX8_readNumbers 15 = .ok (.iload_n 2, 1) := dc_Bk (by decide +kernel)
theorem dX8_readNumbers_16 : decode cX8_readNumbers 16 = .ok (.iconst 4, 1) := dc_Bk (by decide +kernel)
theorem dX8_readNumbers_17 : decode cX8_readNumbers 17 = .ok (.imul, 1) := dc_Bk (by decide +kernel)
theorem dX8_readNumbers_18 : decode cX8_readNumbers 18 = .ok (.iload 4, 2) := dc_Bk (by decide +kernel)
theorem dX8_readNumbers_20 : decode cX8_readNumbers 20 = .ok (.iadd, 1) := dc_Bk (by decide +kernel)
theorem dX8_readNumbers_21 : decode cX8_readNumbers 21 = .ok (.istore 5, 2) := dc_Bk (by decide +kernel)
theorem dX8_readNumbers_23 : decode cX8_readNumbers 23 = .ok (.aload_n 1, 1) := dc_Bk (by decide +kernel)
theorem dX8_readNumbers_24 : decode cX8_readNumbers 24 = .ok (.getstatic 104, 3) := dc_Bk (by decide +kernel)
theorem dX8_readNumbers_27 : decode cX8_readNumbers 27 = .ok (.iload 5, 2) := dc_Bk (by decide +kernel)
theorem dX8_readNumbers_29 : decode cX8_readNumbers 29 = .ok (.iaload, 1) := dc_Bk (by decide +kernel)
theorem dX8_readNumbers_30 : decode cX8_readNumbers 30 = .ok (.getstatic 107, 3) := dc_Bk (by decide +kernel)
theorem dX8_readNumbers_33 : decode cX8_readNumbers 33 = .ok (.iload 5, 2) := dc_Bk (by decide +kernel)
theorem dX8_readNumbers_35 : decode cX8_readNumbers 35 = .ok (.iaload, 1) := dc_Bk (by decide +kernel)
theorem dX8_readNumbers_36 : decode cX8_readNumbers 36 = .ok (.invokevirtual 110, 3) := dc_Bk (by decide +kernel)
theorem dX8_readNumbers_39 : decode cX8_readNumbers 39 = .ok (.istore 6, 2) := dc_Bk (by decide +kernel)
theorem dX8_readNumbers_41 : decode cX8_readNumbers 41 = .ok (.iload 4, 2) := dc_Bk (by decide +kernel)
theorem dX8_readNumbers_43 : decode cX8_readNumbers 43 = .ok (.getstatic 114, 3) := dc_Bk (by decide +kernel)
theorem dX8_readNumbers_46 : decode cX8_readNumbers 46 = .ok (.iload_n 2, 1) := dc_Bk (by decide +kernel)
theorem dX8_readNumbers_47 : decode cX8_readNumbers 47 = .ok (.iaload, 1) := dc_Bk (by decide +kernel)
theorem dX8_readNumbers_48 : decode cX8_readNumbers 48 = .ok (.if_icmp .ne 18, 3) := dc_Bk (by decide +kernel)
theorem dX8_readNumbers_51 : decode cX8_readNumbers 51 = .ok (.iload 6, 2) := dc_Bk (by decide +kernel)
theorem dX8_readNumbers_53 : decode cX8_readNumbers 53 = .ok (.iload_n 3, 1) := dc_Bk (by decide +kernel)
theorem dX8_readNumbers_54 : decode cX8_readNumbers 54 = .ok (.if_icmp .ge 12, 3) := dc_Bk (by decide +kernel)
theorem dX8_readNumbers_57 : decode cX8_readNumbers 57 = .ok (.aload_n 1, 1) := dc_Bk (by decide +kernel)
theorem dX8_readNumbers_58 : decode cX8_readNumbers 58 = .ok (.iconst 4, 1) := dc_Bk (by decide +kernel)
theorem dX8_readNumbers_59 : decode cX8_readNumbers 59 = .ok (.aload_n 1, 1) := dc_Bk (by decide +kernel)
theorem dX8_readNumbers_60 : decode cX8_readNumbers 60 = .ok (.getfield 117, 3) := dc_Bk (by decide +kernel)
theorem dX8_readNumbers_63 : decode cX8_readNumbers 63 = .ok (.invokevirtual 75, 3) := dc_Bk (by decide +kernel)
theorem dX8_readNumbers_66 : decode cX8_readNumbers 66 = .ok (.aload_n 0, 1) := dc_Bk (by decide +kernel)
theorem dX8_readNumbers_67 : decode cX8_readNumbers 67 = .ok (.getfield 17, 3) := dc_Bk (by decide +kernel)
theorem dX8_readNumbers_70 : decode cX8_readNumbers 70 = .ok (.iload_n 2, 1) := dc_Bk (by decide +kernel)
theorem dX8_readNumbers_71 : decode cX8_readNumbers 71 = .ok (.aaload, 1) := dc_Bk (by decide +kernel)
theorem dX8_readNumbers_72 : decode cX8_readNumbers 72 = .ok (.aload_n 0, 1) := dc_Bk (by decide +kernel)
theorem dX8_readNumbers_73 : decode cX8_readNumbers 73 = .ok (.getfield 9, 3) := dc_Bk (by decide +kernel)
theorem dX8_readNumbers_76 : decode cX8_readNumbers 76 = .ok (.iload_n 2, 1) := dc_Bk (by decide +kernel)
theorem dX8_readNumbers_77 : decode cX8_readNumbers 77 = .ok (.iaload, 1) := dc_Bk (by decide +kernel)
theorem dX8_readNumbers_78 : decode cX8_readNumbers 78 = .ok (.iconst 4, 1) := dc_Bk (by decide +kernel)
theorem dX8_readNumbers_79 : decode cX8_readNumbers 79 = .ok (.imul, 1) := dc_Bk (by decide +kernel)
theorem dX8_readNumbers_80 : decode cX8_readNumbers 80 = .ok (.iload 4, 2) := dc_Bk (by decide +kernel)
theorem dX8_readNumbers_82 : decode cX8_readNumbers 82 = .ok (.iadd, 1) := dc_Bk (by decide +kernel)
theorem dX8_readNumbers_83 : decode cX8_readNumbers 83 = .ok (.iload 6, 2) := dc_Bk (by decide +kernel)
theorem dX8_readNumbers_85 : decode cX8_readNumbers 85 = .ok (.iastore, 1) := dc_Bk (by decide +kernel)
theorem dX8_readNumbers_86 : decode cX8_readNumbers 86 = .ok (.iload 6, 2) := dc_Bk (by decide +kernel)
theorem dX8_readNumbers_88 : decode cX8_readNumbers 88 = .ok (.istore_n 3, 1) := dc_Bk (by decide +kernel)
theorem dX8_readNumbers_89 : decode cX8_readNumbers 89 = .ok (.iinc 4 1, 3) := dc_Bk (by decide +kernel)
theorem dX8_readNumbers_92 : decode cX8_readNumbers 92 = .ok (.goto (-87), 3) := dc_Bk (by decide +kernel)
theorem dX8_readNumbers_95 : decode cX8_readNumbers 95 = .ok (.return_, 1) := dc_Bk (by decide +kernel)
def nS (f : Nat → Int32) (n a : Nat) : Nat := rn (pB f) n a
def nE (f : Nat → Int32) (n a : Nat) : Nat := rn (pR f 48 57) n (nS f n a)
def wE (f : Nat → Int32) (n a : Nat) : Nat := rn (pR f 97 122) n (nS f n a)
def nV (f : Nat → Int32) (n a : Nat) : Int32 := dg3 f (nS f n a) (nE f n a - nS f n a)
def nF (f : Nat → Int32) (n a : Nat) (w lo hi : Int32) : Int32 := nbF w (nE f n a - nS f n a) (nV f n a) lo hi
def nA (f : Nat → Int32) (n a : Nat) (w fa lo hi : Int32) : Int32 := nbA w fa (nE f n a - nS f n a) (nV f n a) lo hi (nS f n a)
def eE (f : Nat → Int32) (n a : Nat) : Nat := if btw f n (nS f n a) 59 59 = 0 then nS f n a else nS f n a + 1
def eF (f : Nat → Int32) (n a : Nat) (w : Int32) : Int32 := if btw f n (nS f n a) 59 59 = 0 then bl w 1 else w
def eA (f : Nat → Int32) (n a : Nat) (w fa : Int32) : Int32 := if btw f n (nS f n a) 59 59 = 0 then bla w fa (nI (nS f n a)) else fa
theorem nS_le {f : Nat → Int32} {n a : Nat} (h : a ≤ n) : nS f n a ≤ n := rn_le _ h
theorem nE_le {f : Nat → Int32} {n a : Nat} (h : a ≤ n) : nE f n a ≤ n := rn_le _ (nS_le h)
theorem wE_le {f : Nat → Int32} {n a : Nat} (h : a ≤ n) : wE f n a ≤ n := rn_le _ (nS_le h)
theorem wE_ge {f : Nat → Int32} {n a : Nat} : nS f n a ≤ wE f n a := rn_ge _ _ _
theorem eE_le {f : Nat → Int32} {n a : Nat} (h : a ≤ n) : eE f n a ≤ n := by
  unfold eE
  split
  · exact nS_le h
  · rename_i q
    exact (btw_ne q).1
theorem re_x {f : Nat → Int32} {n a sn en : Nat} {w4 w5 fw fa : Int32} (h : sn = rn (pB f) n a ∧ ((btw f n sn 59 59 = 1 ∧ sn < n ∧ en = sn + 1 ∧ fw = w4 ∧ fa = w5) ∨ (btw f n sn 59 59 = 0 ∧ en = sn ∧ fw = bl w4 1 ∧ fa = bla w4 w5 (nI sn)))) : en = eE f n a ∧ fw = eF f n a w4 ∧ fa = eA f n a w4 w5 := by
  obtain ⟨rfl, ⟨h1, -, rfl, rfl, rfl⟩ | ⟨h1, rfl, rfl, rfl⟩⟩ := h
  · have h2 : ¬ btw f n (nS f n a) 59 59 = 0 := fun q => by rw [show btw f n (nS f n a) 59 59 = 1 from h1] at q; exact absurd q (by decide)
    exact ⟨(if_neg h2).symm, (if_neg h2).symm, (if_neg h2).symm⟩
  · exact ⟨(if_pos h1).symm, (if_pos h1).symm, (if_pos h1).symm⟩
def kdA (f : Nat → Int32) (wa we b : Nat) : Int32 := if iwA f wa we b = 0 then (if iwA f wa we (b + 1) = 0 then (if iwA f wa we (b + 2) = 0 then (if iwA f wa we (b + 3) = 0 then -1 else 3) else 2) else 1) else 0
theorem kd_c (f : Nat → Int32) (wa we b : Nat) : kdA f wa we b = -1 ∨ kdA f wa we b = 0 ∨ kdA f wa we b = 1 ∨ kdA f wa we b = 2 ∨ kdA f wa we b = 3 := by
  unfold kdA
  split
  · split
    · split
      · split
        · exact Or.inl rfl
        · exact Or.inr (Or.inr (Or.inr (Or.inr rfl)))
      · exact Or.inr (Or.inr (Or.inr (Or.inl rfl)))
    · exact Or.inr (Or.inr (Or.inl rfl))
  · exact Or.inr (Or.inl rfl)
def npos (f : Nat → Int32) (n a : Nat) : Nat → Nat
  | 0 => a
  | k + 1 => nE f n (npos f n a k)
theorem npos_le {f : Nat → Int32} {n a : Nat} (h : a ≤ n) : ∀ k, npos f n a k ≤ n
  | 0 => h
  | k + 1 => nE_le (npos_le h k)
def nvl (f : Nat → Int32) (n a k : Nat) : Int32 := nV f n (npos f n a k)
def nGr (f : Nat → Int32) (n a c : Nat) (G : Nat → Int32) : Nat → Nat → Int32
  | 0 => G
  | k + 1 => upd (nGr f n a c G k) (c * 4 + k) (nvl f n a k)
def nfl (f : Nat → Int32) (n a K rp : Nat) (w : Int32) : Nat → Int32
  | 0 => w
  | k + 1 => if k = rp then (if nvl f n a (k - 1) ≤ nvl f n a k then nF f n (npos f n a k) (nfl f n a K rp w k) (stv2 (K * 4 + k)) (stv3 (K * 4 + k)) else bl (nF f n (npos f n a k) (nfl f n a K rp w k) (stv2 (K * 4 + k)) (stv3 (K * 4 + k))) 4) else nF f n (npos f n a k) (nfl f n a K rp w k) (stv2 (K * 4 + k)) (stv3 (K * 4 + k))
def nfa (f : Nat → Int32) (n a K rp : Nat) (w fa : Int32) : Nat → Int32
  | 0 => fa
  | k + 1 => if k = rp then (if nvl f n a (k - 1) ≤ nvl f n a k then nA f n (npos f n a k) (nfl f n a K rp w k) (nfa f n a K rp w fa k) (stv2 (K * 4 + k)) (stv3 (K * 4 + k)) else bla (nF f n (npos f n a k) (nfl f n a K rp w k) (stv2 (K * 4 + k)) (stv3 (K * 4 + k))) (nA f n (npos f n a k) (nfl f n a K rp w k) (nfa f n a K rp w fa k) (stv2 (K * 4 + k)) (stv3 (K * 4 + k))) (nI (nS f n (npos f n a k)))) else nA f n (npos f n a k) (nfl f n a K rp w k) (nfa f n a K rp w fa k) (stv2 (K * 4 + k)) (stv3 (K * 4 + k))
def updN (q : Nat → Nat) (i v : Nat) : Nat → Nat := fun j => if j = i then v else q j
theorem cI_upd {q : Nat → Nat} {i v : Nat} : upd (cI q) i (nI v) = cI (updN q i v) := by
  funext j
  unfold upd cI updN
  by_cases h : j = i
  · rw [if_pos h, if_pos h]
  · rw [if_neg h, if_neg h]
abbrev TSt : Type := Nat × Int32 × Int32 × Int32 × Int32 × Int32 × (Nat → Nat) × (Nat → Int32) × (Nat → Int32) × (Nat → Int32) × (Nat → Int32)
def tcE (f : Nat → Int32) (n b P : Nat) : Nat := eE f n (npos f n b P)
def tcF (f : Nat → Int32) (n b K rp P : Nat) (w4 : Int32) : Int32 := eF f n (npos f n b P) (nfl f n b K rp w4 P)
def tcA (f : Nat → Int32) (n b K rp P : Nat) (w4 w5 : Int32) : Int32 := eA f n (npos f n b P) (nfl f n b K rp w4 P) (nfa f n b K rp w4 w5 P)
def tcB (f : Nat → Int32) (n a : Nat) (nu w3 w4 w5 : Int32) (q : Nat → Nat) (G0 G1 G2 G3 : Nat → Int32) : TSt := (wE f n a, nI (nS f n a), w3, bl w4 nu, bla w4 w5 (nI (nS f n a)), nI (wE f n a), q, G0, G1, G2, G3)
def TCl (f : Nat → Int32) (n : Nat) : TSt → TSt := fun (a, _, w3, w4, w5, _, q, G0, G1, G2, G3) =>
  if kdA f (nS f n a) (wE f n a) 0 = 0 then (if q 0 < 7 then (tcE f n (wE f n a) 2, nI (nS f n a), nI (nS f n (npos f n (wE f n a) 1)), tcF f n (wE f n a) 0 9 2 w4, tcA f n (wE f n a) 0 9 2 w4 w5, nI (wE f n a), updN q 0 (q 0 + 1), nGr f n (wE f n a) (q 0) G0 2, G1, G2, G3) else tcB f n a 3 w3 w4 w5 q G0 G1 G2 G3)
  else if kdA f (nS f n a) (wE f n a) 0 = 1 then (if q 1 < 7 then (tcE f n (wE f n a) 3, nI (nS f n a), nI (nS f n (npos f n (wE f n a) 2)), tcF f n (wE f n a) 1 9 3 w4, tcA f n (wE f n a) 1 9 3 w4 w5, nI (wE f n a), updN q 1 (q 1 + 1), G0, nGr f n (wE f n a) (q 1) G1 3, G2, G3) else tcB f n a 3 w3 w4 w5 q G0 G1 G2 G3)
  else if kdA f (nS f n a) (wE f n a) 0 = 2 then (if q 2 < 20 then (tcE f n (wE f n a) 4, nI (nS f n a), nI (nS f n (npos f n (wE f n a) 3)), tcF f n (wE f n a) 2 2 4 w4, tcA f n (wE f n a) 2 2 4 w4 w5, nI (wE f n a), updN q 2 (q 2 + 1), G0, G1, nGr f n (wE f n a) (q 2) G2 4, G3) else tcB f n a 3 w3 w4 w5 q G0 G1 G2 G3)
  else if kdA f (nS f n a) (wE f n a) 0 = 3 then (if q 3 < 3 then (tcE f n (wE f n a) 4, nI (nS f n a), nI (nS f n (npos f n (wE f n a) 3)), tcF f n (wE f n a) 3 1 4 w4, tcA f n (wE f n a) 3 1 4 w4 w5, nI (wE f n a), updN q 3 (q 3 + 1), G0, G1, G2, nGr f n (wE f n a) (q 3) G3 4) else tcB f n a 3 w3 w4 w5 q G0 G1 G2 G3)
  else tcB f n a 1 w3 w4 w5 q G0 G1 G2 G3

abbrev c_X8_kindOf (k : Nat → ClassId) (z : Nat → Nat) (h : Nat) (qb : Nat) (n : Nat) (wa : Nat) (we : Nat) (ac : Nat) (w3 : Int32) (w4 : Int32) (w5 : Int32) (f : Nat → Int32) : va_W := [(h, .inr (7, [.ref qb, .int (nI n), .int (nI wa), .int w3, .int w4, .int w5, .int (nI we), .int (nI ac)])), (qb, .inl (k 0, 500, .inl f))]
abbrev r_X8_kindOf : Room := { frames := 5, cells := 0, slots := 0, locals := 107 }
abbrev q_X8_kindOf (k : Nat → ClassId) (z : Nat → Nat) (h : Nat) (qb : Nat) (n : Nat) (wa : Nat) (we : Nat) (ac : Nat) (w3 : Int32) (w4 : Int32) (w5 : Int32) (f : Nat → Int32) : Array Value → State → Outcome → State → Prop := vp_Si (fun r => r = kdA f wa we 0)
set_option maxHeartbeats 2000000 in
set_option maxRecDepth 100000 in
theorem X8_kindOf (l : Launch) (D : va_G) (k : Nat → ClassId) (z : Nat → Nat) (h : Nat) (qb : Nat) (n : Nat) (wa : Nat) (we : Nat) (ac : Nat) (w3 : Int32) (w4 : Int32) (w5 : Int32) (f : Nat → Int32) (hwa : wa ≤ we) (hwe : we ≤ 500) : Met l yX8_kindOf wsX8_kindOf r_X8_kindOf (va_Pc [.ref h] (PU D k (c_X8_kindOf k z h qb n wa we ac w3 w4 w5 f) z)) (q_X8_kindOf k z h qb n wa we ac w3 w4 w5 f) 0 0 (fun _ => False) := by
  refine Met.ofW (cc := cX8_kindOf) (maxL := 1) (ret := (some .int)) (by decide) rfl ?_
  intro p e s m args below meth c s₁ B hml hv
  obtain ⟨rfl, ⟨hP, hG⟩, hZ⟩ := hv
  have hS : va_S (fun _ => False) s.heap s.heap [] := va_S.rf
  have hx := B.exec
  have hb := B.bytes
  have hr := B.returns
  have hts := atoms_spec (ws := wsX8_kindOf) B.pre
  have hown : s.vm.findClass RX8 = some m.cls := findClass_of_methodNamed B.named
  have hlocks := B.notSynchronized
  have hi7 : ∀ w ∈ wsX70, w ∈ wsX8_kindOf := fun _ h => List.mem_cons_of_mem _ (List.mem_append_right _ h)
  have hP : va_P D vwCl [(h, .inr (7, [.ref qb, .int (nI n), .int (nI wa), .int w3, .int w4, .int w5, .int (nI we), .int (nI ac)])), (qb, .inl (k 0, 500, .inl f))] s.heap := hP
  have hl := lv_entry ([.ref h]) (n := 1) (Nat.le_of_ble_eq_true rfl)
  rw [lg_entry_eq]
  generalize (lg_sl ([.ref h]) ++ List.replicate (1 - (lg_sl ([.ref h])).length) Slot.unset).toArray = ls at hl ⊢
  have hl : lv_has ls 1 [(0, .ref h)] := hl
  refine lv_aload_n hx hb dX8_kindOf_0 rfl (lv_at hl 0 rfl) ?_
  refine va_ldcS hx hb hown (hZ.2.2.2.2.2.2.2.2.2.2.2.2.2.2.2.2.2.2.2.2.2.2.2.2.2.2.2.2.2.2.1) dX8_kindOf_1 ?_
  have hPc := hP.sub (ws' := (c_X7_isWord k z h qb n wa we ac w3 w4 w5 f 0)) [0, 1] rfl
  refine vp_callSi (va_Run.run (va_runV (As := [.ref (zK z 0)]) (rest := []) ⟨hx, hb, hml, hown, hts⟩ (X7_isWord l D k z h qb n wa we ac w3 w4 w5 f 0 (by decide) (hwa) (hwe)) (cwV 1 hts gX8_kindOf_X7_isWord rfl rfl rfl (by decide +kernel) ⟨Nat.le_of_ble_eq_true rfl, Nat.le_of_ble_eq_true rfl⟩) ⟨PU.blind _ _ _ _ _, va_recv hG.1 hP (ci := 7) (q0 := 0) rfl rfl, PU.pre hPc hG hZ hS [.ref h, .ref (zK z 0)]⟩ rfl rfl hl.1 rfl (lv_room (Nat.le_of_ble_eq_true rfl)) dX8_kindOf_3 ⟨Nat.le_of_ble_eq_true rfl, Nat.le_of_ble_eq_true rfl⟩)) (fun r hq => ?_)
  generalize r = y1 at hq ⊢
  have hq : y1 = iwA f wa we 0 := hq
  refine tp_i (y := iwA f wa we 0) (hq) ?_
  refine lv_if_eq (x := iwA f wa we 0) (tgt := 11) hx hb dX8_kindOf_6 (by decide) (fun c2 => ?_) (fun c2 => ?_)
  · skip
    refine lv_aload_n hx hb dX8_kindOf_11 rfl (lv_at hl 0 rfl) ?_
    refine va_ldcS hx hb hown (hZ.2.2.2.2.2.2.2.2.2.2.2.2.2.2.2.2.2.2.2.2.2.2.2.2.2.2.2.2.2.2.2.1) dX8_kindOf_12 ?_
    have hPc := hP.sub (ws' := (c_X7_isWord k z h qb n wa we ac w3 w4 w5 f 1)) [0, 1] rfl
    refine vp_callSi (va_Run.run (va_runV (As := [.ref (zK z 1)]) (rest := []) ⟨hx, hb, hml, hown, hts⟩ (X7_isWord l D k z h qb n wa we ac w3 w4 w5 f 1 (by decide) (hwa) (hwe)) (cwV 1 hts gX8_kindOf_X7_isWord rfl rfl rfl (by decide +kernel) ⟨Nat.le_of_ble_eq_true rfl, Nat.le_of_ble_eq_true rfl⟩) ⟨PU.blind _ _ _ _ _, va_recv hG.1 hP (ci := 7) (q0 := 0) rfl rfl, PU.pre hPc hG hZ hS [.ref h, .ref (zK z 1)]⟩ rfl rfl hl.1 rfl (lv_room (Nat.le_of_ble_eq_true rfl)) dX8_kindOf_14 ⟨Nat.le_of_ble_eq_true rfl, Nat.le_of_ble_eq_true rfl⟩)) (fun r hq => ?_)
    generalize r = y3 at hq ⊢
    have hq : y3 = iwA f wa we 1 := hq
    refine tp_i (y := iwA f wa we 1) (hq) ?_
    refine lv_if_eq (x := iwA f wa we 1) (tgt := 22) hx hb dX8_kindOf_17 (by decide) (fun c4 => ?_) (fun c4 => ?_)
    · skip
      refine lv_aload_n hx hb dX8_kindOf_22 rfl (lv_at hl 0 rfl) ?_
      refine va_ldcS hx hb hown (hZ.2.2.2.2.2.2.2.2.2.2.2.2.2.2.2.2.2.2.2.2.2.2.2.2.2.2.2.2.2.2.2.2.1) dX8_kindOf_23 ?_
      have hPc := hP.sub (ws' := (c_X7_isWord k z h qb n wa we ac w3 w4 w5 f 2)) [0, 1] rfl
      refine vp_callSi (va_Run.run (va_runV (As := [.ref (zK z 2)]) (rest := []) ⟨hx, hb, hml, hown, hts⟩ (X7_isWord l D k z h qb n wa we ac w3 w4 w5 f 2 (by decide) (hwa) (hwe)) (cwV 1 hts gX8_kindOf_X7_isWord rfl rfl rfl (by decide +kernel) ⟨Nat.le_of_ble_eq_true rfl, Nat.le_of_ble_eq_true rfl⟩) ⟨PU.blind _ _ _ _ _, va_recv hG.1 hP (ci := 7) (q0 := 0) rfl rfl, PU.pre hPc hG hZ hS [.ref h, .ref (zK z 2)]⟩ rfl rfl hl.1 rfl (lv_room (Nat.le_of_ble_eq_true rfl)) dX8_kindOf_25 ⟨Nat.le_of_ble_eq_true rfl, Nat.le_of_ble_eq_true rfl⟩)) (fun r hq => ?_)
      generalize r = y5 at hq ⊢
      have hq : y5 = iwA f wa we 2 := hq
      refine tp_i (y := iwA f wa we 2) (hq) ?_
      refine lv_if_eq (x := iwA f wa we 2) (tgt := 33) hx hb dX8_kindOf_28 (by decide) (fun c6 => ?_) (fun c6 => ?_)
      · skip
        refine lv_aload_n hx hb dX8_kindOf_33 rfl (lv_at hl 0 rfl) ?_
        refine va_ldcS hx hb hown (hZ.2.2.2.2.2.2.2.2.2.2.2.2.2.2.2.2.2.2.2.2.2.2.2.2.2.2.2.2.2.2.2.2.2.1) dX8_kindOf_34 ?_
        have hPc := hP.sub (ws' := (c_X7_isWord k z h qb n wa we ac w3 w4 w5 f 3)) [0, 1] rfl
        refine vp_callSi (va_Run.run (va_runV (As := [.ref (zK z 3)]) (rest := []) ⟨hx, hb, hml, hown, hts⟩ (X7_isWord l D k z h qb n wa we ac w3 w4 w5 f 3 (by decide) (hwa) (hwe)) (cwV 1 hts gX8_kindOf_X7_isWord rfl rfl rfl (by decide +kernel) ⟨Nat.le_of_ble_eq_true rfl, Nat.le_of_ble_eq_true rfl⟩) ⟨PU.blind _ _ _ _ _, va_recv hG.1 hP (ci := 7) (q0 := 0) rfl rfl, PU.pre hPc hG hZ hS [.ref h, .ref (zK z 3)]⟩ rfl rfl hl.1 rfl (lv_room (Nat.le_of_ble_eq_true rfl)) dX8_kindOf_36 ⟨Nat.le_of_ble_eq_true rfl, Nat.le_of_ble_eq_true rfl⟩)) (fun r hq => ?_)
        generalize r = y7 at hq ⊢
        have hq : y7 = iwA f wa we 3 := hq
        refine tp_i (y := iwA f wa we 3) (hq) ?_
        refine lv_if_eq (x := iwA f wa we 3) (tgt := 46) hx hb dX8_kindOf_39 (by decide) (fun c8 => ?_) (fun c8 => ?_)
        · skip
          refine lv_iconst (v := (-1)) hx hb dX8_kindOf_46 (by decide) ?_
          exact W.iret (v := (-1)) hx hb hr (fun t9 ht _ => ⟨(-1), rfl, by simp [kdA, c2, c4, c6, c8], ht⟩) (fun q h => by cases h) dX8_kindOf_47
        · skip
          refine lv_iconst (v := 3) hx hb dX8_kindOf_42 (by decide) ?_
          refine lv_goto (tgt := 47) hx hb dX8_kindOf_43 (by decide) ?_
          exact W.iret (v := 3) hx hb hr (fun t9 ht _ => ⟨3, rfl, by simp [kdA, c2, c4, c6, c8], ht⟩) (fun q h => by cases h) dX8_kindOf_47
      · skip
        refine lv_iconst (v := 2) hx hb dX8_kindOf_31 (by decide) ?_
        exact W.iret (v := 2) hx hb hr (fun t9 ht _ => ⟨2, rfl, by simp [kdA, c2, c4, c6], ht⟩) (fun q h => by cases h) dX8_kindOf_32
    · skip
      refine lv_iconst (v := 1) hx hb dX8_kindOf_20 (by decide) ?_
      exact W.iret (v := 1) hx hb hr (fun t9 ht _ => ⟨1, rfl, by simp [kdA, c2, c4], ht⟩) (fun q h => by cases h) dX8_kindOf_21
  · skip
    refine lv_iconst (v := 0) hx hb dX8_kindOf_9 (by decide) ?_
    exact W.iret (v := 0) hx hb hr (fun t9 ht _ => ⟨0, rfl, by simp [kdA, c2], ht⟩) (fun q h => by cases h) dX8_kindOf_10

abbrev c_X3_clauseOf (k : Nat → ClassId) (z : Nat → Nat) (h : Nat) (qb : Nat) (n : Nat) (wa : Nat) (we : Nat) (ac : Nat) (w3 : Int32) (w4 : Int32) (w5 : Int32) (f : Nat → Int32) : va_W := [(h, .inr (7, [.ref qb, .int (nI n), .int (nI wa), .int w3, .int w4, .int w5, .int (nI we), .int (nI ac)])), (qb, .inl (k 0, 500, .inl f))]
abbrev r_X3_clauseOf : Room := { frames := 5, cells := 0, slots := 0, locals := 107 }
abbrev q_X3_clauseOf (k : Nat → ClassId) (z : Nat → Nat) (h : Nat) (qb : Nat) (n : Nat) (wa : Nat) (we : Nat) (ac : Nat) (w3 : Int32) (w4 : Int32) (w5 : Int32) (f : Nat → Int32) : Array Value → State → Outcome → State → Prop := vp_Si (fun r => r = kdA f wa we 4)
set_option maxHeartbeats 2000000 in
set_option maxRecDepth 100000 in
theorem X3_clauseOf (l : Launch) (D : va_G) (k : Nat → ClassId) (z : Nat → Nat) (h : Nat) (qb : Nat) (n : Nat) (wa : Nat) (we : Nat) (ac : Nat) (w3 : Int32) (w4 : Int32) (w5 : Int32) (f : Nat → Int32) (hwa : wa ≤ we) (hwe : we ≤ 500) : Met l yX3_clauseOf wsX3_clauseOf r_X3_clauseOf (va_Pc [.ref h] (PU D k (c_X3_clauseOf k z h qb n wa we ac w3 w4 w5 f) z)) (q_X3_clauseOf k z h qb n wa we ac w3 w4 w5 f) 0 0 (fun _ => False) := by
  refine Met.ofW (cc := cX3_clauseOf) (maxL := 1) (ret := (some .int)) (by decide) rfl ?_
  intro p e s m args below meth c s₁ B hml hv
  obtain ⟨rfl, ⟨hP, hG⟩, hZ⟩ := hv
  have hS : va_S (fun _ => False) s.heap s.heap [] := va_S.rf
  have hx := B.exec
  have hb := B.bytes
  have hr := B.returns
  have hts := atoms_spec (ws := wsX3_clauseOf) B.pre
  have hown : s.vm.findClass RX3 = some m.cls := findClass_of_methodNamed B.named
  have hlocks := B.notSynchronized
  have hi7 : ∀ w ∈ wsX70, w ∈ wsX3_clauseOf := fun _ h => List.mem_cons_of_mem _ (List.mem_append_right _ h)
  have hP : va_P D vwCl [(h, .inr (7, [.ref qb, .int (nI n), .int (nI wa), .int w3, .int w4, .int w5, .int (nI we), .int (nI ac)])), (qb, .inl (k 0, 500, .inl f))] s.heap := hP
  have hl := lv_entry ([.ref h]) (n := 1) (Nat.le_of_ble_eq_true rfl)
  rw [lg_entry_eq]
  generalize (lg_sl ([.ref h]) ++ List.replicate (1 - (lg_sl ([.ref h])).length) Slot.unset).toArray = ls at hl ⊢
  have hl : lv_has ls 1 [(0, .ref h)] := hl
  refine lv_aload_n hx hb dX3_clauseOf_0 rfl (lv_at hl 0 rfl) ?_
  refine va_ldcS hx hb hown (hZ.2.2.2.2.2.2.2.2.2.2.2.2.2.2.2.2.2.2.2.2.2.2.2.2.2.2.2.2.2.2.2.2.2.2.1) dX3_clauseOf_1 ?_
  have hPc := hP.sub (ws' := (c_X7_isWord k z h qb n wa we ac w3 w4 w5 f 4)) [0, 1] rfl
  refine vp_callSi (va_Run.run (va_runV (As := [.ref (zK z 4)]) (rest := []) ⟨hx, hb, hml, hown, hts⟩ (X7_isWord l D k z h qb n wa we ac w3 w4 w5 f 4 (by decide) (hwa) (hwe)) (cwV 1 hts gX3_clauseOf_X7_isWord rfl rfl rfl (by decide +kernel) ⟨Nat.le_of_ble_eq_true rfl, Nat.le_of_ble_eq_true rfl⟩) ⟨PU.blind _ _ _ _ _, va_recv hG.1 hP (ci := 7) (q0 := 0) rfl rfl, PU.pre hPc hG hZ hS [.ref h, .ref (zK z 4)]⟩ rfl rfl hl.1 rfl (lv_room (Nat.le_of_ble_eq_true rfl)) dX3_clauseOf_3 ⟨Nat.le_of_ble_eq_true rfl, Nat.le_of_ble_eq_true rfl⟩)) (fun r hq => ?_)
  generalize r = y1 at hq ⊢
  have hq : y1 = iwA f wa we 4 := hq
  refine tp_i (y := iwA f wa we 4) (hq) ?_
  refine lv_if_eq (x := iwA f wa we 4) (tgt := 11) hx hb dX3_clauseOf_6 (by decide) (fun c2 => ?_) (fun c2 => ?_)
  · skip
    refine lv_aload_n hx hb dX3_clauseOf_11 rfl (lv_at hl 0 rfl) ?_
    refine va_ldcS hx hb hown (hZ.2.2.2.2.2.2.2.2.2.2.2.2.2.2.2.2.2.2.2.2.2.2.2.2.2.2.2.2.2.2.2.2.2.2.2.1) dX3_clauseOf_12 ?_
    have hPc := hP.sub (ws' := (c_X7_isWord k z h qb n wa we ac w3 w4 w5 f 5)) [0, 1] rfl
    refine vp_callSi (va_Run.run (va_runV (As := [.ref (zK z 5)]) (rest := []) ⟨hx, hb, hml, hown, hts⟩ (X7_isWord l D k z h qb n wa we ac w3 w4 w5 f 5 (by decide) (hwa) (hwe)) (cwV 1 hts gX3_clauseOf_X7_isWord rfl rfl rfl (by decide +kernel) ⟨Nat.le_of_ble_eq_true rfl, Nat.le_of_ble_eq_true rfl⟩) ⟨PU.blind _ _ _ _ _, va_recv hG.1 hP (ci := 7) (q0 := 0) rfl rfl, PU.pre hPc hG hZ hS [.ref h, .ref (zK z 5)]⟩ rfl rfl hl.1 rfl (lv_room (Nat.le_of_ble_eq_true rfl)) dX3_clauseOf_14 ⟨Nat.le_of_ble_eq_true rfl, Nat.le_of_ble_eq_true rfl⟩)) (fun r hq => ?_)
    generalize r = y3 at hq ⊢
    have hq : y3 = iwA f wa we 5 := hq
    refine tp_i (y := iwA f wa we 5) (hq) ?_
    refine lv_if_eq (x := iwA f wa we 5) (tgt := 22) hx hb dX3_clauseOf_17 (by decide) (fun c4 => ?_) (fun c4 => ?_)
    · skip
      refine lv_aload_n hx hb dX3_clauseOf_22 rfl (lv_at hl 0 rfl) ?_
      refine va_ldcS hx hb hown (hZ.2.2.2.2.2.2.2.2.2.2.2.2.2.2.2.2.2.2.2.2.2.2.2.2.2.2.2.2.2.2.2.2.2.2.2.2.1) dX3_clauseOf_23 ?_
      have hPc := hP.sub (ws' := (c_X7_isWord k z h qb n wa we ac w3 w4 w5 f 6)) [0, 1] rfl
      refine vp_callSi (va_Run.run (va_runV (As := [.ref (zK z 6)]) (rest := []) ⟨hx, hb, hml, hown, hts⟩ (X7_isWord l D k z h qb n wa we ac w3 w4 w5 f 6 (by decide) (hwa) (hwe)) (cwV 1 hts gX3_clauseOf_X7_isWord rfl rfl rfl (by decide +kernel) ⟨Nat.le_of_ble_eq_true rfl, Nat.le_of_ble_eq_true rfl⟩) ⟨PU.blind _ _ _ _ _, va_recv hG.1 hP (ci := 7) (q0 := 0) rfl rfl, PU.pre hPc hG hZ hS [.ref h, .ref (zK z 6)]⟩ rfl rfl hl.1 rfl (lv_room (Nat.le_of_ble_eq_true rfl)) dX3_clauseOf_25 ⟨Nat.le_of_ble_eq_true rfl, Nat.le_of_ble_eq_true rfl⟩)) (fun r hq => ?_)
      generalize r = y5 at hq ⊢
      have hq : y5 = iwA f wa we 6 := hq
      refine tp_i (y := iwA f wa we 6) (hq) ?_
      refine lv_if_eq (x := iwA f wa we 6) (tgt := 33) hx hb dX3_clauseOf_28 (by decide) (fun c6 => ?_) (fun c6 => ?_)
      · skip
        refine lv_aload_n hx hb dX3_clauseOf_33 rfl (lv_at hl 0 rfl) ?_
        refine va_ldcS hx hb hown (hZ.2.2.2.2.2.2.2.2.2.2.2.2.2.2.2.2.2.2.2.2.2.2.2.2.2.2.2.2.2.2.2.2.2.2.2.2.2) dX3_clauseOf_34 ?_
        have hPc := hP.sub (ws' := (c_X7_isWord k z h qb n wa we ac w3 w4 w5 f 7)) [0, 1] rfl
        refine vp_callSi (va_Run.run (va_runV (As := [.ref (zK z 7)]) (rest := []) ⟨hx, hb, hml, hown, hts⟩ (X7_isWord l D k z h qb n wa we ac w3 w4 w5 f 7 (by decide) (hwa) (hwe)) (cwV 1 hts gX3_clauseOf_X7_isWord rfl rfl rfl (by decide +kernel) ⟨Nat.le_of_ble_eq_true rfl, Nat.le_of_ble_eq_true rfl⟩) ⟨PU.blind _ _ _ _ _, va_recv hG.1 hP (ci := 7) (q0 := 0) rfl rfl, PU.pre hPc hG hZ hS [.ref h, .ref (zK z 7)]⟩ rfl rfl hl.1 rfl (lv_room (Nat.le_of_ble_eq_true rfl)) dX3_clauseOf_36 ⟨Nat.le_of_ble_eq_true rfl, Nat.le_of_ble_eq_true rfl⟩)) (fun r hq => ?_)
        generalize r = y7 at hq ⊢
        have hq : y7 = iwA f wa we 7 := hq
        refine tp_i (y := iwA f wa we 7) (hq) ?_
        refine lv_if_eq (x := iwA f wa we 7) (tgt := 46) hx hb dX3_clauseOf_39 (by decide) (fun c8 => ?_) (fun c8 => ?_)
        · skip
          refine lv_iconst (v := (-1)) hx hb dX3_clauseOf_46 (by decide) ?_
          exact W.iret (v := (-1)) hx hb hr (fun t9 ht _ => ⟨(-1), rfl, by simp [kdA, c2, c4, c6, c8], ht⟩) (fun q h => by cases h) dX3_clauseOf_47
        · skip
          refine lv_iconst (v := 3) hx hb dX3_clauseOf_42 (by decide) ?_
          refine lv_goto (tgt := 47) hx hb dX3_clauseOf_43 (by decide) ?_
          exact W.iret (v := 3) hx hb hr (fun t9 ht _ => ⟨3, rfl, by simp [kdA, c2, c4, c6, c8], ht⟩) (fun q h => by cases h) dX3_clauseOf_47
      · skip
        refine lv_iconst (v := 2) hx hb dX3_clauseOf_31 (by decide) ?_
        exact W.iret (v := 2) hx hb hr (fun t9 ht _ => ⟨2, rfl, by simp [kdA, c2, c4, c6], ht⟩) (fun q h => by cases h) dX3_clauseOf_32
    · skip
      refine lv_iconst (v := 1) hx hb dX3_clauseOf_20 (by decide) ?_
      exact W.iret (v := 1) hx hb hr (fun t9 ht _ => ⟨1, rfl, by simp [kdA, c2, c4], ht⟩) (fun q h => by cases h) dX3_clauseOf_21
  · skip
    refine lv_iconst (v := 0) hx hb dX3_clauseOf_9 (by decide) ?_
    exact W.iret (v := 0) hx hb hr (fun t9 ht _ => ⟨0, rfl, by simp [kdA, c2], ht⟩) (fun q h => by cases h) dX3_clauseOf_10

abbrev c_X8_rn0 (k : Nat → ClassId) (z : Nat → Nat) (h : Nat) (t : Nat) (tn : Nat) (tl : Nat) (tc : Nat) (ta : Nat) (rw : Nat → Nat) (q : Nat → Nat) (G : Nat → Int32) (tx : Nat) (qb : Nat) (n : Nat) (a : Nat) (w2 : Int32) (w3 : Int32) (w4 : Int32) (w5 : Int32) (w6 : Int32) (f : Nat → Int32) : va_W := [(h, .inr (8, [.ref t, .ref tn, .ref tl, .ref tc, .ref ta])), (t, .inl (k 0, 4, .inl (cI q))), (tn, .inl (k 4, 4, .inr (.inr (.inr (.inr (gr4 rw)))))), ((rw 0), .inl (k 0, 80, .inl G)), (tx, .inr (7, [.ref qb, .int (nI n), .int w2, .int w3, .int w4, .int w5, .int w6, .int (nI a)])), (qb, .inl (k 0, 500, .inl f))]
abbrev r_X8_rn0 : Room := { frames := 3, cells := 0, slots := 0, locals := 66 }
def w_X8_rn0 (k : Nat → ClassId) (z : Nat → Nat) (h : Nat) (t : Nat) (tn : Nat) (tl : Nat) (tc : Nat) (ta : Nat) (rw : Nat → Nat) (q : Nat → Nat) (G : Nat → Int32) (tx : Nat) (qb : Nat) (n : Nat) (a : Nat) (w2 : Int32) (w3 : Int32) (w4 : Int32) (w5 : Int32) (w6 : Int32) (f : Nat → Int32) : Unit → va_W := fun _ => [(h, .inr (8, [.ref t, .ref tn, .ref tl, .ref tc, .ref ta])), (t, .inl (k 0, 4, .inl (cI q))), (tn, .inl (k 4, 4, .inr (.inr (.inr (.inr (gr4 rw)))))), ((rw 0), .inl (k 0, 80, .inl (nGr f n a (q 0) G 2))), (tx, .inr (7, [.ref qb, .int (nI n), .int w2, .int (nI (nS f n (npos f n a 1))), .int (nfl f n a 0 9 w4 2), .int (nfa f n a 0 9 w4 w5 2), .int w6, .int (nI (npos f n a 2))])), (qb, .inl (k 0, 500, .inl f))]
def p_X8_rn0 (k : Nat → ClassId) (z : Nat → Nat) (h : Nat) (t : Nat) (tn : Nat) (tl : Nat) (tc : Nat) (ta : Nat) (rw : Nat → Nat) (q : Nat → Nat) (G : Nat → Int32) (tx : Nat) (qb : Nat) (n : Nat) (a : Nat) (w2 : Int32) (w3 : Int32) (w4 : Int32) (w5 : Int32) (w6 : Int32) (f : Nat → Int32) : Unit → Prop := fun (u : Unit) => True
abbrev q_X8_rn0 (D : va_G) (k : Nat → ClassId) (z : Nat → Nat) (h : Nat) (t : Nat) (tn : Nat) (tl : Nat) (tc : Nat) (ta : Nat) (rw : Nat → Nat) (q : Nat → Nat) (G : Nat → Int32) (tx : Nat) (qb : Nat) (n : Nat) (a : Nat) (w2 : Int32) (w3 : Int32) (w4 : Int32) (w5 : Int32) (w6 : Int32) (f : Nat → Int32) (A : Nat → Prop) : Array Value → State → Outcome → State → Prop := va_Qv (p_X8_rn0 k z h t tn tl tc ta rw q G tx qb n a w2 w3 w4 w5 w6 f) (fun u9 t9 => BO D (w_X8_rn0 k z h t tn tl tc ta rw q G tx qb n a w2 w3 w4 w5 w6 f u9) A t9) A
set_option maxHeartbeats 20000000 in
set_option maxRecDepth 100000 in
theorem X8_rn0 (l : Launch) (D : va_G) (k : Nat → ClassId) (sz : Nat) (z : Nat → Nat) (h : Nat) (t : Nat) (tn : Nat) (tl : Nat) (tc : Nat) (ta : Nat) (rw : Nat → Nat) (q : Nat → Nat) (G : Nat → Int32) (tx : Nat) (qb : Nat) (n : Nat) (a : Nat) (w2 : Int32) (w3 : Int32) (w4 : Int32) (w5 : Int32) (w6 : Int32) (f : Nat → Int32) (hn : n ≤ 500) (ha : a ≤ n) (hqK : q 0 < 7) : Met l yX8_readNumbers wsX8_readNumbers r_X8_rn0 (va_Pc [.ref h, .ref tx, .int 0] (PT D k (c_X8_rn0 k z h t tn tl tc ta rw q G tx qb n a w2 w3 w4 w5 w6 f) sz z)) (q_X8_rn0 D k z h t tn tl tc ta rw q G tx qb n a w2 w3 w4 w5 w6 f (va_A (c_X8_rn0 k z h t tn tl tc ta rw q G tx qb n a w2 w3 w4 w5 w6 f) sz)) 0 0 (va_A (c_X8_rn0 k z h t tn tl tc ta rw q G tx qb n a w2 w3 w4 w5 w6 f) sz) := by
  refine Met.ofW (cc := cX8_readNumbers) (maxL := 7) (ret := none) (by decide) rfl ?_
  intro p e s m args below meth c s₁ B hml hv
  obtain ⟨rfl, ⟨hsz, hP, hG, hD0⟩, hZ⟩ := hv
  have hx := B.exec
  have hb := B.bytes
  have hr := B.returns
  have hts := atoms_spec (ws := wsX8_readNumbers) B.pre
  have hown : s.vm.findClass RX8 = some m.cls := findClass_of_methodNamed B.named
  have hlocks := B.notSynchronized
  have hi7 : ∀ w ∈ wsX70, w ∈ wsX8_readNumbers := fun _ h => List.mem_cons_of_mem _ (List.mem_append_left _ (List.mem_append_right _ h))
  have hi8 : ∀ w ∈ wsX80, w ∈ wsX8_readNumbers := fun _ h => List.mem_cons_of_mem _ (List.mem_append_right _ h)
  subst hsz
  have hD := hD0.self (sz := s.heap.size)
  generalize hAe : va_A (c_X8_rn0 k z h t tn tl tc ta rw q G tx qb n a w2 w3 w4 w5 w6 f) s.heap.size = A at hD hZ ⊢
  have hA : ∀ q : Nat, s.heap.size ≤ q → A q := fun q h => by rw [← hAe]; exact Or.inr h
  have hS : va_S A s.heap s.heap [] := va_S.rf
  have hP : va_P D vwCl [(h, .inr (8, [.ref t, .ref tn, .ref tl, .ref tc, .ref ta])), (t, .inl (k 0, 4, .inl (cI q))), (tn, .inl (k 4, 4, .inr (.inr (.inr (.inr (gr4 rw)))))), ((rw 0), .inl (k 0, 80, .inl G)), (tx, .inr (7, [.ref qb, .int (nI n), .int w2, .int w3, .int w4, .int w5, .int w6, .int (nI a)])), (qb, .inl (k 0, 500, .inl f))] s.heap := hP
  have hD : va_D A [(h, .inr (8, [.ref t, .ref tn, .ref tl, .ref tc, .ref ta])), (t, .inl (k 0, 4, .inl (cI q))), (tn, .inl (k 4, 4, .inr (.inr (.inr (.inr (gr4 rw)))))), ((rw 0), .inl (k 0, 80, .inl G)), (tx, .inr (7, [.ref qb, .int (nI n), .int w2, .int w3, .int w4, .int w5, .int w6, .int (nI a)])), (qb, .inl (k 0, 500, .inl f))] := hD
  have hl := lv_entry ([.ref h, .ref tx, .int 0]) (n := 7) (Nat.le_of_ble_eq_true rfl)
  rw [lg_entry_eq]
  generalize (lg_sl ([.ref h, .ref tx, .int 0]) ++ List.replicate (7 - (lg_sl ([.ref h, .ref tx, .int 0])).length) Slot.unset).toArray = ls at hl ⊢
  have hl : lv_has ls 7 [(0, .ref h), (1, .ref tx), (2, .int 0)] := hl
  have hnp := fun k => npos_le (f := f) ha k
  have hP : va_P D vwCl [(h, .inr (8, [.ref t, .ref tn, .ref tl, .ref tc, .ref ta])), (t, .inl (k 0, 4, .inl (cI q))), (tn, .inl (k 4, 4, .inr (.inr (.inr (.inr (gr4 rw)))))), ((rw 0), .inl (k 0, 80, .inl (nGr f n a (q 0) G 0))), (tx, .inr (7, [.ref qb, .int (nI n), .int w2, .int w3, .int (nfl f n a 0 9 w4 0), .int (nfa f n a 0 9 w4 w5 0), .int w6, .int (nI (npos f n a 0))])), (qb, .inl (k 0, 500, .inl f))] s.heap := hP
  have hD : va_D A [(h, .inr (8, [.ref t, .ref tn, .ref tl, .ref tc, .ref ta])), (t, .inl (k 0, 4, .inl (cI q))), (tn, .inl (k 4, 4, .inr (.inr (.inr (.inr (gr4 rw)))))), ((rw 0), .inl (k 0, 80, .inl (nGr f n a (q 0) G 0))), (tx, .inr (7, [.ref qb, .int (nI n), .int w2, .int w3, .int (nfl f n a 0 9 w4 0), .int (nfa f n a 0 9 w4 w5 0), .int w6, .int (nI (npos f n a 0))])), (qb, .inl (k 0, 500, .inl f))] := hD
  refine lv_iconst (v := 0) hx hb dX8_readNumbers_0 (by decide) ?_
  refine lv_istore_n (lv' := [(3, .int 0), (0, .ref h), (1, .ref tx), (2, .int 0)]) hx hb dX8_readNumbers_1 rfl hl (by decide) rfl (fun ls hl => ?_)
  refine lv_iconst (v := 0) hx hb dX8_readNumbers_2 (by decide) ?_
  refine lv_istore (lv' := [(4, .int 0), (3, .int 0), (0, .ref h), (1, .ref tx), (2, .int 0)]) hx hb dX8_readNumbers_3 hl (by decide) rfl (fun ls hl => ?_)
  refine lv_iload hx hb dX8_readNumbers_5 (lv_at hl 0 rfl) ?_
  refine va_getsN (C := RX9) (ref := RX9) (host := RX9) hx hb (hZ.2.2.2.2.2.2.2.2.2.2.2.1) hS hown (va_Nw.use rfl hZ.2.1) (fun _ h9 => h9) dX8_readNumbers_7 ?_
  refine lv_iload_n hx hb dX8_readNumbers_10 rfl (lv_at hl 4 rfl) ?_
  refine va_ti (v := .int 2) hx hb (hZ.2.2.2.2.2.2.2.2.2.2.2.2.1) hS (vp_in_nI (n := 0) (by omega) (by omega)) (rfl) dX8_readNumbers_11 ?_
  refine lv_icmp_ge (x := 0) (y := 2) (tgt := 95) hx hb dX8_readNumbers_12 (by decide) (fun c1 => absurd c1 (by decide)) (fun c1 => ?_)
  refine lv_iload_n hx hb dX8_readNumbers_15 rfl (lv_at hl 4 rfl) ?_
  refine lv_iconst (v := 4) hx hb dX8_readNumbers_16 (by decide) ?_
  refine lv_imul hx hb dX8_readNumbers_17 ?_
  refine tp_i (y := 0) (by decide) ?_
  refine lv_iload hx hb dX8_readNumbers_18 (lv_at hl 0 rfl) ?_
  refine lv_iadd hx hb dX8_readNumbers_20 ?_
  refine tp_i (y := 0) (by decide) ?_
  refine lv_istore (lv' := [(5, .int 0), (4, .int 0), (3, .int 0), (0, .ref h), (1, .ref tx), (2, .int 0)]) hx hb dX8_readNumbers_21 hl (by decide) rfl (fun ls hl => ?_)
  refine lv_aload_n hx hb dX8_readNumbers_23 rfl (lv_at hl 4 rfl) ?_
  refine va_getsN (C := RX9) (ref := RX9) (host := RX9) hx hb (hZ.2.2.2.2.2.2.2.2.2.2.2.2.2.1) hS hown (va_Nw.use rfl hZ.2.2.1) (fun _ h9 => h9) dX8_readNumbers_24 ?_
  refine lv_iload hx hb dX8_readNumbers_27 (lv_at hl 0 rfl) ?_
  refine va_ti (v := .int 0) hx hb (hZ.2.2.2.2.2.2.2.2.2.2.2.2.2.2.1) hS (vp_in_nI (n := 0) (by omega) (by omega)) (rfl) dX8_readNumbers_29 ?_
  refine va_getsN (C := RX9) (ref := RX9) (host := RX9) hx hb (hZ.2.2.2.2.2.2.2.2.2.2.2.2.2.2.2.1) hS hown (va_Nw.use rfl hZ.2.2.2.1) (fun _ h9 => h9) dX8_readNumbers_30 ?_
  refine lv_iload hx hb dX8_readNumbers_33 (lv_at hl 0 rfl) ?_
  refine va_ti (v := .int 3) hx hb (hZ.2.2.2.2.2.2.2.2.2.2.2.2.2.2.2.2.1) hS (vp_in_nI (n := 0) (by omega) (by omega)) (rfl) dX8_readNumbers_35 ?_
  have hPc := hP.sub (ws' := (c_X7_readNumber k tx qb n (npos f n a 0) w2 w3 (nfl f n a 0 9 w4 0) (nfa f n a 0 9 w4 w5 0) w6 f 0 3)) [4, 5] rfl
  have hDc := hD.sub (ws' := (c_X7_readNumber k tx qb n (npos f n a 0) w2 w3 (nfl f n a 0 9 w4 0) (nfa f n a 0 9 w4 w5 0) w6 f 0 3)) [4, 5] (by decide +kernel) rfl
  refine cl_i (w1 := w_X7_readNumber k tx qb n (npos f n a 0) w2 w3 (nfl f n a 0 9 w4 0) (nfa f n a 0 9 w4 w5 0) w6 f 0 3) (wr := [(h, .inr (8, [.ref t, .ref tn, .ref tl, .ref tc, .ref ta])), (t, .inl (k 0, 4, .inl (cI q))), (tn, .inl (k 4, 4, .inr (.inr (.inr (.inr (gr4 rw)))))), ((rw 0), .inl (k 0, 80, .inl (nGr f n a (q 0) G 0)))]) (va_runV (As := [.int 0, .int 3]) (rest := []) ⟨hx, hb, hml, hown, hts⟩ (X7_readNumber l D k s.heap.size tx qb n (npos f n a 0) w2 w3 (nfl f n a 0 9 w4 0) (nfa f n a 0 9 w4 w5 0) w6 f 0 3 (hn) (hnp _)) (cwV 2 hts gX8_readNumbers_X7_readNumber rfl rfl rfl (by decide +kernel) ⟨Nat.le_of_ble_eq_true rfl, Nat.le_of_ble_eq_true rfl⟩) ⟨PR.blind _ _ _ _ _, va_recv hG.1 hP (ci := 7) (q0 := 4) rfl rfl, PR.pre hPc hDc hG [.ref tx, .int 0, .int 3]⟩ rfl rfl hl.1 rfl (lv_room (Nat.le_of_ble_eq_true rfl)) dX8_readNumbers_36 ⟨Nat.le_of_ble_eq_true rfl, Nat.le_of_ble_eq_true rfl⟩) hP hD hS hA [4, 5] [0, 1, 2, 3] rfl rfl (by decide +kernel) (by decide +kernel) (fun r u H locs hq hP hD hS => ?_)
  obtain ⟨zu2, zu3, zu4, zu5⟩ := u
  generalize r = y6 at hq ⊢
  have hq : zu2 = rn (pB f) n (npos f n a 0) ∧ zu3 = rn (pR f 48 57) n zu2 ∧ y6 = dg3 f zu2 (zu3 - zu2) ∧ zu4 = nbF (nfl f n a 0 9 w4 0) (zu3 - zu2) y6 0 3 ∧ zu5 = nbA (nfl f n a 0 9 w4 0) (nfa f n a 0 9 w4 w5 0) (zu3 - zu2) y6 0 3 zu2 := hq
  obtain ⟨rfl, rfl, rfl, rfl, rfl⟩ := hq
  have hP : va_P D vwCl [(h, .inr (8, [.ref t, .ref tn, .ref tl, .ref tc, .ref ta])), (t, .inl (k 0, 4, .inl (cI q))), (tn, .inl (k 4, 4, .inr (.inr (.inr (.inr (gr4 rw)))))), ((rw 0), .inl (k 0, 80, .inl (nGr f n a (q 0) G 0))), (tx, .inr (7, [.ref qb, .int (nI n), .int w2, .int (nI (nS f n (npos f n a 0))), .int (nF f n (npos f n a 0) (nfl f n a 0 9 w4 0) 0 3), .int (nA f n (npos f n a 0) (nfl f n a 0 9 w4 0) (nfa f n a 0 9 w4 w5 0) 0 3), .int w6, .int (nI (nE f n (npos f n a 0)))])), (qb, .inl (k 0, 500, .inl f))] H := hP
  have hD : va_D A [(h, .inr (8, [.ref t, .ref tn, .ref tl, .ref tc, .ref ta])), (t, .inl (k 0, 4, .inl (cI q))), (tn, .inl (k 4, 4, .inr (.inr (.inr (.inr (gr4 rw)))))), ((rw 0), .inl (k 0, 80, .inl (nGr f n a (q 0) G 0))), (tx, .inr (7, [.ref qb, .int (nI n), .int w2, .int (nI (nS f n (npos f n a 0))), .int (nF f n (npos f n a 0) (nfl f n a 0 9 w4 0) 0 3), .int (nA f n (npos f n a 0) (nfl f n a 0 9 w4 0) (nfa f n a 0 9 w4 w5 0) 0 3), .int w6, .int (nI (nE f n (npos f n a 0)))])), (qb, .inl (k 0, 500, .inl f))] := hD
  have hnE : nE f n (npos f n a 0) ≤ n := nE_le (by first | omega | exact hnp _)
  refine tp_i (y := nV f n (npos f n a 0)) rfl ?_
  refine tp_i (y := nvl f n a 0) rfl ?_
  have hP : va_P D vwCl [(h, .inr (8, [.ref t, .ref tn, .ref tl, .ref tc, .ref ta])), (t, .inl (k 0, 4, .inl (cI q))), (tn, .inl (k 4, 4, .inr (.inr (.inr (.inr (gr4 rw)))))), ((rw 0), .inl (k 0, 80, .inl (nGr f n a (q 0) G 0))), (tx, .inr (7, [.ref qb, .int (nI n), .int w2, .int (nI (nS f n (npos f n a 0))), .int (nfl f n a 0 9 w4 1), .int (nfa f n a 0 9 w4 w5 1), .int w6, .int (nI (npos f n a 1))])), (qb, .inl (k 0, 500, .inl f))] H := hP
  have hD : va_D A [(h, .inr (8, [.ref t, .ref tn, .ref tl, .ref tc, .ref ta])), (t, .inl (k 0, 4, .inl (cI q))), (tn, .inl (k 4, 4, .inr (.inr (.inr (.inr (gr4 rw)))))), ((rw 0), .inl (k 0, 80, .inl (nGr f n a (q 0) G 0))), (tx, .inr (7, [.ref qb, .int (nI n), .int w2, .int (nI (nS f n (npos f n a 0))), .int (nfl f n a 0 9 w4 1), .int (nfa f n a 0 9 w4 w5 1), .int w6, .int (nI (npos f n a 1))])), (qb, .inl (k 0, 500, .inl f))] := hD
  refine lv_istore (lv' := [(6, .int (nvl f n a 0)), (5, .int 0), (4, .int 0), (3, .int 0), (0, .ref h), (1, .ref tx), (2, .int 0)]) hx hb dX8_readNumbers_39 hl (by decide) rfl (fun ls hl => ?_)
  refine lv_iload hx hb dX8_readNumbers_41 (lv_at hl 2 rfl) ?_
  refine va_getsN (C := RX9) (ref := RX9) (host := RX9) hx hb (hZ.2.2.2.2.2.2.2.2.2.2.2.2.2.2.2.2.2.1) hS hown (va_Nw.use rfl hZ.2.2.2.2.1) (fun _ h9 => h9) dX8_readNumbers_43 ?_
  refine lv_iload_n hx hb dX8_readNumbers_46 rfl (lv_at hl 6 rfl) ?_
  refine va_ti (v := .int (-1)) hx hb (hZ.2.2.2.2.2.2.2.2.2.2.2.2.2.2.2.2.2.2.1) hS (vp_in_nI (n := 0) (by omega) (by omega)) (rfl) dX8_readNumbers_47 ?_
  refine lv_icmp_ne (x := 0) (y := (-1)) (tgt := 66) hx hb dX8_readNumbers_48 (by decide) (fun c7 => ?_) (fun c7 => absurd c7 (by decide))
  refine lv_aload_n hx hb dX8_readNumbers_66 rfl (lv_at hl 4 rfl) ?_
  refine va_get (D := D) (ci := 8) (v := .ref tn) (C := RX8) (T := TX8) (N := 5) hx hb hts hi8 hown hG.1 hP 0 rfl rfl 1 (by decide) (hts (.fieldLink RX8 17 "SleptMatters$Town" "numbers" "[[I") (List.mem_cons_of_mem _ (List.mem_append_left _ (List.mem_append_left _ (List.mem_append_left _ (List.mem_of_getElem? (i := 1) rfl)))))) (fun _ h9 => h9) rfl dX8_readNumbers_67 ?_
  refine lv_iload_n hx hb dX8_readNumbers_70 rfl (lv_at hl 6 rfl) ?_
  refine va_aldA (t := .int) hx hb hG.1 hP 2 4 rfl rfl (vp_in_nI (n := 0) (by omega) (by omega)) dX8_readNumbers_71 ?_
  refine W.eq (g2 := F0 m 72 ls [.ref (rw 0)]) rfl ?_
  refine lv_aload_n hx hb dX8_readNumbers_72 rfl (lv_at hl 4 rfl) ?_
  refine va_get (D := D) (ci := 8) (v := .ref t) (C := RX8) (T := TX8) (N := 5) hx hb hts hi8 hown hG.1 hP 0 rfl rfl 0 (by decide) (hts (.fieldLink RX8 9 "SleptMatters$Town" "counts" "[I") (List.mem_cons_of_mem _ (List.mem_append_left _ (List.mem_append_left _ (List.mem_append_left _ (List.mem_of_getElem? (i := 2) rfl)))))) (fun _ h9 => h9) rfl dX8_readNumbers_73 ?_
  refine lv_iload_n hx hb dX8_readNumbers_76 rfl (lv_at hl 6 rfl) ?_
  refine va_iald hx hb hG.1 hP 1 0 rfl rfl (vp_in_nI (n := 0) (by omega) (by omega)) dX8_readNumbers_77 ?_
  refine tp_i (y := nI (q 0)) (rfl) ?_
  refine lv_iconst (v := 4) hx hb dX8_readNumbers_78 (by decide) ?_
  refine lv_imul hx hb dX8_readNumbers_79 ?_
  refine tp_i (y := nI ((q 0) * 4)) (pk_mul (q 0) 4) ?_
  refine lv_iload hx hb dX8_readNumbers_80 (lv_at hl 2 rfl) ?_
  refine lv_iadd hx hb dX8_readNumbers_82 ?_
  refine tp_i (y := nI ((q 0) * 4 + 0)) (nI_add ((q 0) * 4) 0) ?_
  refine lv_iload hx hb dX8_readNumbers_83 (lv_at hl 0 rfl) ?_
  refine va_iast hx hb hG.1 hP hD hS 3 0 rfl rfl (vp_in_nI (by omega) (by omega)) dX8_readNumbers_85 (fun H locs hP hD hS => ?_)
  rw [nI_clamp (n := (q 0) * 4 + 0) (by omega)] at hP hD
  have hP : va_P D vwCl [(h, .inr (8, [.ref t, .ref tn, .ref tl, .ref tc, .ref ta])), (t, .inl (k 0, 4, .inl (cI q))), (tn, .inl (k 4, 4, .inr (.inr (.inr (.inr (gr4 rw)))))), ((rw 0), .inl (k 0, 80, .inl (upd (nGr f n a (q 0) G 0) ((q 0) * 4 + 0) (nvl f n a 0)))), (tx, .inr (7, [.ref qb, .int (nI n), .int w2, .int (nI (nS f n (npos f n a 0))), .int (nfl f n a 0 9 w4 1), .int (nfa f n a 0 9 w4 w5 1), .int w6, .int (nI (npos f n a 1))])), (qb, .inl (k 0, 500, .inl f))] H := hP
  have hD : va_D A [(h, .inr (8, [.ref t, .ref tn, .ref tl, .ref tc, .ref ta])), (t, .inl (k 0, 4, .inl (cI q))), (tn, .inl (k 4, 4, .inr (.inr (.inr (.inr (gr4 rw)))))), ((rw 0), .inl (k 0, 80, .inl (upd (nGr f n a (q 0) G 0) ((q 0) * 4 + 0) (nvl f n a 0)))), (tx, .inr (7, [.ref qb, .int (nI n), .int w2, .int (nI (nS f n (npos f n a 0))), .int (nfl f n a 0 9 w4 1), .int (nfa f n a 0 9 w4 w5 1), .int w6, .int (nI (npos f n a 1))])), (qb, .inl (k 0, 500, .inl f))] := hD
  have hP : va_P D vwCl [(h, .inr (8, [.ref t, .ref tn, .ref tl, .ref tc, .ref ta])), (t, .inl (k 0, 4, .inl (cI q))), (tn, .inl (k 4, 4, .inr (.inr (.inr (.inr (gr4 rw)))))), ((rw 0), .inl (k 0, 80, .inl (nGr f n a (q 0) G 1))), (tx, .inr (7, [.ref qb, .int (nI n), .int w2, .int (nI (nS f n (npos f n a 0))), .int (nfl f n a 0 9 w4 1), .int (nfa f n a 0 9 w4 w5 1), .int w6, .int (nI (npos f n a 1))])), (qb, .inl (k 0, 500, .inl f))] H := hP
  have hD : va_D A [(h, .inr (8, [.ref t, .ref tn, .ref tl, .ref tc, .ref ta])), (t, .inl (k 0, 4, .inl (cI q))), (tn, .inl (k 4, 4, .inr (.inr (.inr (.inr (gr4 rw)))))), ((rw 0), .inl (k 0, 80, .inl (nGr f n a (q 0) G 1))), (tx, .inr (7, [.ref qb, .int (nI n), .int w2, .int (nI (nS f n (npos f n a 0))), .int (nfl f n a 0 9 w4 1), .int (nfa f n a 0 9 w4 w5 1), .int w6, .int (nI (npos f n a 1))])), (qb, .inl (k 0, 500, .inl f))] := hD
  refine lv_iload hx hb dX8_readNumbers_86 (lv_at hl 0 rfl) ?_
  refine lv_istore_n (lv' := [(3, .int (nvl f n a 0)), (6, .int (nvl f n a 0)), (5, .int 0), (4, .int 0), (0, .ref h), (1, .ref tx), (2, .int 0)]) hx hb dX8_readNumbers_88 rfl hl (by decide) rfl (fun ls hl => ?_)
  refine lv_iinc (v := 1) (lv' := [(4, .int 1), (3, .int (nvl f n a 0)), (6, .int (nvl f n a 0)), (5, .int 0), (0, .ref h), (1, .ref tx), (2, .int 0)]) hx hb dX8_readNumbers_89 hl (k := 3) rfl (by decide) (by decide) rfl (fun ls hl => ?_)
  refine lv_goto (tgt := 5) hx hb dX8_readNumbers_92 (by decide) ?_
  refine lv_iload hx hb dX8_readNumbers_5 (lv_at hl 0 rfl) ?_
  refine va_getsN (C := RX9) (ref := RX9) (host := RX9) hx hb (hZ.2.2.2.2.2.2.2.2.2.2.2.1) hS hown (va_Nw.use rfl hZ.2.1) (fun _ h9 => h9) dX8_readNumbers_7 ?_
  refine lv_iload_n hx hb dX8_readNumbers_10 rfl (lv_at hl 6 rfl) ?_
  refine va_ti (v := .int 2) hx hb (hZ.2.2.2.2.2.2.2.2.2.2.2.2.1) hS (vp_in_nI (n := 0) (by omega) (by omega)) (rfl) dX8_readNumbers_11 ?_
  refine lv_icmp_ge (x := 1) (y := 2) (tgt := 95) hx hb dX8_readNumbers_12 (by decide) (fun c8 => absurd c8 (by decide)) (fun c8 => ?_)
  refine lv_iload_n hx hb dX8_readNumbers_15 rfl (lv_at hl 6 rfl) ?_
  refine lv_iconst (v := 4) hx hb dX8_readNumbers_16 (by decide) ?_
  refine lv_imul hx hb dX8_readNumbers_17 ?_
  refine tp_i (y := 0) (by decide) ?_
  refine lv_iload hx hb dX8_readNumbers_18 (lv_at hl 0 rfl) ?_
  refine lv_iadd hx hb dX8_readNumbers_20 ?_
  refine tp_i (y := 1) (by decide) ?_
  refine lv_istore (lv' := [(5, .int 1), (4, .int 1), (3, .int (nvl f n a 0)), (6, .int (nvl f n a 0)), (0, .ref h), (1, .ref tx), (2, .int 0)]) hx hb dX8_readNumbers_21 hl (by decide) rfl (fun ls hl => ?_)
  refine lv_aload_n hx hb dX8_readNumbers_23 rfl (lv_at hl 5 rfl) ?_
  refine va_getsN (C := RX9) (ref := RX9) (host := RX9) hx hb (hZ.2.2.2.2.2.2.2.2.2.2.2.2.2.1) hS hown (va_Nw.use rfl hZ.2.2.1) (fun _ h9 => h9) dX8_readNumbers_24 ?_
  refine lv_iload hx hb dX8_readNumbers_27 (lv_at hl 0 rfl) ?_
  refine va_ti (v := .int 1) hx hb (hZ.2.2.2.2.2.2.2.2.2.2.2.2.2.2.1) hS (vp_in_nI (n := 1) (by omega) (by omega)) (rfl) dX8_readNumbers_29 ?_
  refine va_getsN (C := RX9) (ref := RX9) (host := RX9) hx hb (hZ.2.2.2.2.2.2.2.2.2.2.2.2.2.2.2.1) hS hown (va_Nw.use rfl hZ.2.2.2.1) (fun _ h9 => h9) dX8_readNumbers_30 ?_
  refine lv_iload hx hb dX8_readNumbers_33 (lv_at hl 0 rfl) ?_
  refine va_ti (v := .int 4) hx hb (hZ.2.2.2.2.2.2.2.2.2.2.2.2.2.2.2.2.1) hS (vp_in_nI (n := 1) (by omega) (by omega)) (rfl) dX8_readNumbers_35 ?_
  have hPc := hP.sub (ws' := (c_X7_readNumber k tx qb n (npos f n a 1) w2 (nI (nS f n (npos f n a 0))) (nfl f n a 0 9 w4 1) (nfa f n a 0 9 w4 w5 1) w6 f 1 4)) [4, 5] rfl
  have hDc := hD.sub (ws' := (c_X7_readNumber k tx qb n (npos f n a 1) w2 (nI (nS f n (npos f n a 0))) (nfl f n a 0 9 w4 1) (nfa f n a 0 9 w4 w5 1) w6 f 1 4)) [4, 5] (by decide +kernel) rfl
  refine cl_i (w1 := w_X7_readNumber k tx qb n (npos f n a 1) w2 (nI (nS f n (npos f n a 0))) (nfl f n a 0 9 w4 1) (nfa f n a 0 9 w4 w5 1) w6 f 1 4) (wr := [(h, .inr (8, [.ref t, .ref tn, .ref tl, .ref tc, .ref ta])), (t, .inl (k 0, 4, .inl (cI q))), (tn, .inl (k 4, 4, .inr (.inr (.inr (.inr (gr4 rw)))))), ((rw 0), .inl (k 0, 80, .inl (nGr f n a (q 0) G 1)))]) (va_runV (As := [.int 1, .int 4]) (rest := []) ⟨hx, hb, hml, hown, hts⟩ (X7_readNumber l D k H.size tx qb n (npos f n a 1) w2 (nI (nS f n (npos f n a 0))) (nfl f n a 0 9 w4 1) (nfa f n a 0 9 w4 w5 1) w6 f 1 4 (hn) (hnp _)) (cwV 2 hts gX8_readNumbers_X7_readNumber rfl rfl rfl (by decide +kernel) ⟨Nat.le_of_ble_eq_true rfl, Nat.le_of_ble_eq_true rfl⟩) ⟨PR.blind _ _ _ _ _, va_recv hG.1 hP (ci := 7) (q0 := 4) rfl rfl, PR.pre hPc hDc hG [.ref tx, .int 1, .int 4]⟩ rfl rfl hl.1 rfl (lv_room (Nat.le_of_ble_eq_true rfl)) dX8_readNumbers_36 ⟨Nat.le_of_ble_eq_true rfl, Nat.le_of_ble_eq_true rfl⟩) hP hD hS hA [4, 5] [0, 1, 2, 3] rfl rfl (by decide +kernel) (by decide +kernel) (fun r u H locs hq hP hD hS => ?_)
  obtain ⟨zu9, zu10, zu11, zu12⟩ := u
  generalize r = y13 at hq ⊢
  have hq : zu9 = rn (pB f) n (npos f n a 1) ∧ zu10 = rn (pR f 48 57) n zu9 ∧ y13 = dg3 f zu9 (zu10 - zu9) ∧ zu11 = nbF (nfl f n a 0 9 w4 1) (zu10 - zu9) y13 1 4 ∧ zu12 = nbA (nfl f n a 0 9 w4 1) (nfa f n a 0 9 w4 w5 1) (zu10 - zu9) y13 1 4 zu9 := hq
  obtain ⟨rfl, rfl, rfl, rfl, rfl⟩ := hq
  have hP : va_P D vwCl [(h, .inr (8, [.ref t, .ref tn, .ref tl, .ref tc, .ref ta])), (t, .inl (k 0, 4, .inl (cI q))), (tn, .inl (k 4, 4, .inr (.inr (.inr (.inr (gr4 rw)))))), ((rw 0), .inl (k 0, 80, .inl (nGr f n a (q 0) G 1))), (tx, .inr (7, [.ref qb, .int (nI n), .int w2, .int (nI (nS f n (npos f n a 1))), .int (nF f n (npos f n a 1) (nfl f n a 0 9 w4 1) 1 4), .int (nA f n (npos f n a 1) (nfl f n a 0 9 w4 1) (nfa f n a 0 9 w4 w5 1) 1 4), .int w6, .int (nI (nE f n (npos f n a 1)))])), (qb, .inl (k 0, 500, .inl f))] H := hP
  have hD : va_D A [(h, .inr (8, [.ref t, .ref tn, .ref tl, .ref tc, .ref ta])), (t, .inl (k 0, 4, .inl (cI q))), (tn, .inl (k 4, 4, .inr (.inr (.inr (.inr (gr4 rw)))))), ((rw 0), .inl (k 0, 80, .inl (nGr f n a (q 0) G 1))), (tx, .inr (7, [.ref qb, .int (nI n), .int w2, .int (nI (nS f n (npos f n a 1))), .int (nF f n (npos f n a 1) (nfl f n a 0 9 w4 1) 1 4), .int (nA f n (npos f n a 1) (nfl f n a 0 9 w4 1) (nfa f n a 0 9 w4 w5 1) 1 4), .int w6, .int (nI (nE f n (npos f n a 1)))])), (qb, .inl (k 0, 500, .inl f))] := hD
  have hnE : nE f n (npos f n a 1) ≤ n := nE_le (by first | omega | exact hnp _)
  refine tp_i (y := nV f n (npos f n a 1)) rfl ?_
  refine tp_i (y := nvl f n a 1) rfl ?_
  have hP : va_P D vwCl [(h, .inr (8, [.ref t, .ref tn, .ref tl, .ref tc, .ref ta])), (t, .inl (k 0, 4, .inl (cI q))), (tn, .inl (k 4, 4, .inr (.inr (.inr (.inr (gr4 rw)))))), ((rw 0), .inl (k 0, 80, .inl (nGr f n a (q 0) G 1))), (tx, .inr (7, [.ref qb, .int (nI n), .int w2, .int (nI (nS f n (npos f n a 1))), .int (nfl f n a 0 9 w4 2), .int (nfa f n a 0 9 w4 w5 2), .int w6, .int (nI (npos f n a 2))])), (qb, .inl (k 0, 500, .inl f))] H := hP
  have hD : va_D A [(h, .inr (8, [.ref t, .ref tn, .ref tl, .ref tc, .ref ta])), (t, .inl (k 0, 4, .inl (cI q))), (tn, .inl (k 4, 4, .inr (.inr (.inr (.inr (gr4 rw)))))), ((rw 0), .inl (k 0, 80, .inl (nGr f n a (q 0) G 1))), (tx, .inr (7, [.ref qb, .int (nI n), .int w2, .int (nI (nS f n (npos f n a 1))), .int (nfl f n a 0 9 w4 2), .int (nfa f n a 0 9 w4 w5 2), .int w6, .int (nI (npos f n a 2))])), (qb, .inl (k 0, 500, .inl f))] := hD
  refine lv_istore (lv' := [(6, .int (nvl f n a 1)), (5, .int 1), (4, .int 1), (3, .int (nvl f n a 0)), (0, .ref h), (1, .ref tx), (2, .int 0)]) hx hb dX8_readNumbers_39 hl (by decide) rfl (fun ls hl => ?_)
  refine lv_iload hx hb dX8_readNumbers_41 (lv_at hl 2 rfl) ?_
  refine va_getsN (C := RX9) (ref := RX9) (host := RX9) hx hb (hZ.2.2.2.2.2.2.2.2.2.2.2.2.2.2.2.2.2.1) hS hown (va_Nw.use rfl hZ.2.2.2.2.1) (fun _ h9 => h9) dX8_readNumbers_43 ?_
  refine lv_iload_n hx hb dX8_readNumbers_46 rfl (lv_at hl 6 rfl) ?_
  refine va_ti (v := .int (-1)) hx hb (hZ.2.2.2.2.2.2.2.2.2.2.2.2.2.2.2.2.2.2.1) hS (vp_in_nI (n := 0) (by omega) (by omega)) (rfl) dX8_readNumbers_47 ?_
  refine lv_icmp_ne (x := 1) (y := (-1)) (tgt := 66) hx hb dX8_readNumbers_48 (by decide) (fun c14 => ?_) (fun c14 => absurd c14 (by decide))
  refine lv_aload_n hx hb dX8_readNumbers_66 rfl (lv_at hl 4 rfl) ?_
  refine va_get (D := D) (ci := 8) (v := .ref tn) (C := RX8) (T := TX8) (N := 5) hx hb hts hi8 hown hG.1 hP 0 rfl rfl 1 (by decide) (hts (.fieldLink RX8 17 "SleptMatters$Town" "numbers" "[[I") (List.mem_cons_of_mem _ (List.mem_append_left _ (List.mem_append_left _ (List.mem_append_left _ (List.mem_of_getElem? (i := 1) rfl)))))) (fun _ h9 => h9) rfl dX8_readNumbers_67 ?_
  refine lv_iload_n hx hb dX8_readNumbers_70 rfl (lv_at hl 6 rfl) ?_
  refine va_aldA (t := .int) hx hb hG.1 hP 2 4 rfl rfl (vp_in_nI (n := 0) (by omega) (by omega)) dX8_readNumbers_71 ?_
  refine W.eq (g2 := F0 m 72 ls [.ref (rw 0)]) rfl ?_
  refine lv_aload_n hx hb dX8_readNumbers_72 rfl (lv_at hl 4 rfl) ?_
  refine va_get (D := D) (ci := 8) (v := .ref t) (C := RX8) (T := TX8) (N := 5) hx hb hts hi8 hown hG.1 hP 0 rfl rfl 0 (by decide) (hts (.fieldLink RX8 9 "SleptMatters$Town" "counts" "[I") (List.mem_cons_of_mem _ (List.mem_append_left _ (List.mem_append_left _ (List.mem_append_left _ (List.mem_of_getElem? (i := 2) rfl)))))) (fun _ h9 => h9) rfl dX8_readNumbers_73 ?_
  refine lv_iload_n hx hb dX8_readNumbers_76 rfl (lv_at hl 6 rfl) ?_
  refine va_iald hx hb hG.1 hP 1 0 rfl rfl (vp_in_nI (n := 0) (by omega) (by omega)) dX8_readNumbers_77 ?_
  refine tp_i (y := nI (q 0)) (rfl) ?_
  refine lv_iconst (v := 4) hx hb dX8_readNumbers_78 (by decide) ?_
  refine lv_imul hx hb dX8_readNumbers_79 ?_
  refine tp_i (y := nI ((q 0) * 4)) (pk_mul (q 0) 4) ?_
  refine lv_iload hx hb dX8_readNumbers_80 (lv_at hl 2 rfl) ?_
  refine lv_iadd hx hb dX8_readNumbers_82 ?_
  refine tp_i (y := nI ((q 0) * 4 + 1)) (nI_add ((q 0) * 4) 1) ?_
  refine lv_iload hx hb dX8_readNumbers_83 (lv_at hl 0 rfl) ?_
  refine va_iast hx hb hG.1 hP hD hS 3 0 rfl rfl (vp_in_nI (by omega) (by omega)) dX8_readNumbers_85 (fun H locs hP hD hS => ?_)
  rw [nI_clamp (n := (q 0) * 4 + 1) (by omega)] at hP hD
  have hP : va_P D vwCl [(h, .inr (8, [.ref t, .ref tn, .ref tl, .ref tc, .ref ta])), (t, .inl (k 0, 4, .inl (cI q))), (tn, .inl (k 4, 4, .inr (.inr (.inr (.inr (gr4 rw)))))), ((rw 0), .inl (k 0, 80, .inl (upd (nGr f n a (q 0) G 1) ((q 0) * 4 + 1) (nvl f n a 1)))), (tx, .inr (7, [.ref qb, .int (nI n), .int w2, .int (nI (nS f n (npos f n a 1))), .int (nfl f n a 0 9 w4 2), .int (nfa f n a 0 9 w4 w5 2), .int w6, .int (nI (npos f n a 2))])), (qb, .inl (k 0, 500, .inl f))] H := hP
  have hD : va_D A [(h, .inr (8, [.ref t, .ref tn, .ref tl, .ref tc, .ref ta])), (t, .inl (k 0, 4, .inl (cI q))), (tn, .inl (k 4, 4, .inr (.inr (.inr (.inr (gr4 rw)))))), ((rw 0), .inl (k 0, 80, .inl (upd (nGr f n a (q 0) G 1) ((q 0) * 4 + 1) (nvl f n a 1)))), (tx, .inr (7, [.ref qb, .int (nI n), .int w2, .int (nI (nS f n (npos f n a 1))), .int (nfl f n a 0 9 w4 2), .int (nfa f n a 0 9 w4 w5 2), .int w6, .int (nI (npos f n a 2))])), (qb, .inl (k 0, 500, .inl f))] := hD
  have hP : va_P D vwCl [(h, .inr (8, [.ref t, .ref tn, .ref tl, .ref tc, .ref ta])), (t, .inl (k 0, 4, .inl (cI q))), (tn, .inl (k 4, 4, .inr (.inr (.inr (.inr (gr4 rw)))))), ((rw 0), .inl (k 0, 80, .inl (nGr f n a (q 0) G 2))), (tx, .inr (7, [.ref qb, .int (nI n), .int w2, .int (nI (nS f n (npos f n a 1))), .int (nfl f n a 0 9 w4 2), .int (nfa f n a 0 9 w4 w5 2), .int w6, .int (nI (npos f n a 2))])), (qb, .inl (k 0, 500, .inl f))] H := hP
  have hD : va_D A [(h, .inr (8, [.ref t, .ref tn, .ref tl, .ref tc, .ref ta])), (t, .inl (k 0, 4, .inl (cI q))), (tn, .inl (k 4, 4, .inr (.inr (.inr (.inr (gr4 rw)))))), ((rw 0), .inl (k 0, 80, .inl (nGr f n a (q 0) G 2))), (tx, .inr (7, [.ref qb, .int (nI n), .int w2, .int (nI (nS f n (npos f n a 1))), .int (nfl f n a 0 9 w4 2), .int (nfa f n a 0 9 w4 w5 2), .int w6, .int (nI (npos f n a 2))])), (qb, .inl (k 0, 500, .inl f))] := hD
  refine lv_iload hx hb dX8_readNumbers_86 (lv_at hl 0 rfl) ?_
  refine lv_istore_n (lv' := [(3, .int (nvl f n a 1)), (6, .int (nvl f n a 1)), (5, .int 1), (4, .int 1), (0, .ref h), (1, .ref tx), (2, .int 0)]) hx hb dX8_readNumbers_88 rfl hl (by decide) rfl (fun ls hl => ?_)
  refine lv_iinc (v := 2) (lv' := [(4, .int 2), (3, .int (nvl f n a 1)), (6, .int (nvl f n a 1)), (5, .int 1), (0, .ref h), (1, .ref tx), (2, .int 0)]) hx hb dX8_readNumbers_89 hl (k := 3) rfl (by decide) (by decide) rfl (fun ls hl => ?_)
  refine lv_goto (tgt := 5) hx hb dX8_readNumbers_92 (by decide) ?_
  refine lv_iload hx hb dX8_readNumbers_5 (lv_at hl 0 rfl) ?_
  refine va_getsN (C := RX9) (ref := RX9) (host := RX9) hx hb (hZ.2.2.2.2.2.2.2.2.2.2.2.1) hS hown (va_Nw.use rfl hZ.2.1) (fun _ h9 => h9) dX8_readNumbers_7 ?_
  refine lv_iload_n hx hb dX8_readNumbers_10 rfl (lv_at hl 6 rfl) ?_
  refine va_ti (v := .int 2) hx hb (hZ.2.2.2.2.2.2.2.2.2.2.2.2.1) hS (vp_in_nI (n := 0) (by omega) (by omega)) (rfl) dX8_readNumbers_11 ?_
  refine lv_icmp_ge (x := 2) (y := 2) (tgt := 95) hx hb dX8_readNumbers_12 (by decide) (fun c15 => ?_) (fun c15 => absurd c15 (by decide))
  have hP9 := hP.sub (ws' := [(h, .inr (8, [.ref t, .ref tn, .ref tl, .ref tc, .ref ta])), (t, .inl (k 0, 4, .inl (cI q))), (tn, .inl (k 4, 4, .inr (.inr (.inr (.inr (gr4 rw)))))), ((rw 0), .inl (k 0, 80, .inl (nGr f n a (q 0) G 2))), (tx, .inr (7, [.ref qb, .int (nI n), .int w2, .int (nI (nS f n (npos f n a 1))), .int (nfl f n a 0 9 w4 2), .int (nfa f n a 0 9 w4 w5 2), .int w6, .int (nI (npos f n a 2))])), (qb, .inl (k 0, 500, .inl f))]) [0, 1, 2, 3, 4, 5] rfl
  have hD9 := hD.sub (ws' := [(h, .inr (8, [.ref t, .ref tn, .ref tl, .ref tc, .ref ta])), (t, .inl (k 0, 4, .inl (cI q))), (tn, .inl (k 4, 4, .inr (.inr (.inr (.inr (gr4 rw)))))), ((rw 0), .inl (k 0, 80, .inl (nGr f n a (q 0) G 2))), (tx, .inr (7, [.ref qb, .int (nI n), .int w2, .int (nI (nS f n (npos f n a 1))), .int (nfl f n a 0 9 w4 2), .int (nfa f n a 0 9 w4 w5 2), .int w6, .int (nI (npos f n a 2))])), (qb, .inl (k 0, 500, .inl f))]) [0, 1, 2, 3, 4, 5] (by decide +kernel) rfl
  exact W.vret hx hb hr (fun t9 ht _ => ⟨⟨(), rfl, trivial, by rw [ht]; exact hP9, hD9⟩, hS.F ht⟩) hS.2.2 dX8_readNumbers_95

abbrev c_X8_rn1 (k : Nat → ClassId) (z : Nat → Nat) (h : Nat) (t : Nat) (tn : Nat) (tl : Nat) (tc : Nat) (ta : Nat) (rw : Nat → Nat) (q : Nat → Nat) (G : Nat → Int32) (tx : Nat) (qb : Nat) (n : Nat) (a : Nat) (w2 : Int32) (w3 : Int32) (w4 : Int32) (w5 : Int32) (w6 : Int32) (f : Nat → Int32) : va_W := [(h, .inr (8, [.ref t, .ref tn, .ref tl, .ref tc, .ref ta])), (t, .inl (k 0, 4, .inl (cI q))), (tn, .inl (k 4, 4, .inr (.inr (.inr (.inr (gr4 rw)))))), ((rw 1), .inl (k 0, 80, .inl G)), (tx, .inr (7, [.ref qb, .int (nI n), .int w2, .int w3, .int w4, .int w5, .int w6, .int (nI a)])), (qb, .inl (k 0, 500, .inl f))]
abbrev r_X8_rn1 : Room := { frames := 3, cells := 0, slots := 0, locals := 66 }
def w_X8_rn1 (k : Nat → ClassId) (z : Nat → Nat) (h : Nat) (t : Nat) (tn : Nat) (tl : Nat) (tc : Nat) (ta : Nat) (rw : Nat → Nat) (q : Nat → Nat) (G : Nat → Int32) (tx : Nat) (qb : Nat) (n : Nat) (a : Nat) (w2 : Int32) (w3 : Int32) (w4 : Int32) (w5 : Int32) (w6 : Int32) (f : Nat → Int32) : Unit → va_W := fun _ => [(h, .inr (8, [.ref t, .ref tn, .ref tl, .ref tc, .ref ta])), (t, .inl (k 0, 4, .inl (cI q))), (tn, .inl (k 4, 4, .inr (.inr (.inr (.inr (gr4 rw)))))), ((rw 1), .inl (k 0, 80, .inl (nGr f n a (q 1) G 3))), (tx, .inr (7, [.ref qb, .int (nI n), .int w2, .int (nI (nS f n (npos f n a 2))), .int (nfl f n a 1 9 w4 3), .int (nfa f n a 1 9 w4 w5 3), .int w6, .int (nI (npos f n a 3))])), (qb, .inl (k 0, 500, .inl f))]
def p_X8_rn1 (k : Nat → ClassId) (z : Nat → Nat) (h : Nat) (t : Nat) (tn : Nat) (tl : Nat) (tc : Nat) (ta : Nat) (rw : Nat → Nat) (q : Nat → Nat) (G : Nat → Int32) (tx : Nat) (qb : Nat) (n : Nat) (a : Nat) (w2 : Int32) (w3 : Int32) (w4 : Int32) (w5 : Int32) (w6 : Int32) (f : Nat → Int32) : Unit → Prop := fun (u : Unit) => True
abbrev q_X8_rn1 (D : va_G) (k : Nat → ClassId) (z : Nat → Nat) (h : Nat) (t : Nat) (tn : Nat) (tl : Nat) (tc : Nat) (ta : Nat) (rw : Nat → Nat) (q : Nat → Nat) (G : Nat → Int32) (tx : Nat) (qb : Nat) (n : Nat) (a : Nat) (w2 : Int32) (w3 : Int32) (w4 : Int32) (w5 : Int32) (w6 : Int32) (f : Nat → Int32) (A : Nat → Prop) : Array Value → State → Outcome → State → Prop := va_Qv (p_X8_rn1 k z h t tn tl tc ta rw q G tx qb n a w2 w3 w4 w5 w6 f) (fun u9 t9 => BO D (w_X8_rn1 k z h t tn tl tc ta rw q G tx qb n a w2 w3 w4 w5 w6 f u9) A t9) A
set_option maxHeartbeats 20000000 in
set_option maxRecDepth 100000 in
theorem X8_rn1 (l : Launch) (D : va_G) (k : Nat → ClassId) (sz : Nat) (z : Nat → Nat) (h : Nat) (t : Nat) (tn : Nat) (tl : Nat) (tc : Nat) (ta : Nat) (rw : Nat → Nat) (q : Nat → Nat) (G : Nat → Int32) (tx : Nat) (qb : Nat) (n : Nat) (a : Nat) (w2 : Int32) (w3 : Int32) (w4 : Int32) (w5 : Int32) (w6 : Int32) (f : Nat → Int32) (hn : n ≤ 500) (ha : a ≤ n) (hqK : q 1 < 7) : Met l yX8_readNumbers wsX8_readNumbers r_X8_rn1 (va_Pc [.ref h, .ref tx, .int 1] (PT D k (c_X8_rn1 k z h t tn tl tc ta rw q G tx qb n a w2 w3 w4 w5 w6 f) sz z)) (q_X8_rn1 D k z h t tn tl tc ta rw q G tx qb n a w2 w3 w4 w5 w6 f (va_A (c_X8_rn1 k z h t tn tl tc ta rw q G tx qb n a w2 w3 w4 w5 w6 f) sz)) 0 0 (va_A (c_X8_rn1 k z h t tn tl tc ta rw q G tx qb n a w2 w3 w4 w5 w6 f) sz) := by
  refine Met.ofW (cc := cX8_readNumbers) (maxL := 7) (ret := none) (by decide) rfl ?_
  intro p e s m args below meth c s₁ B hml hv
  obtain ⟨rfl, ⟨hsz, hP, hG, hD0⟩, hZ⟩ := hv
  have hx := B.exec
  have hb := B.bytes
  have hr := B.returns
  have hts := atoms_spec (ws := wsX8_readNumbers) B.pre
  have hown : s.vm.findClass RX8 = some m.cls := findClass_of_methodNamed B.named
  have hlocks := B.notSynchronized
  have hi7 : ∀ w ∈ wsX70, w ∈ wsX8_readNumbers := fun _ h => List.mem_cons_of_mem _ (List.mem_append_left _ (List.mem_append_right _ h))
  have hi8 : ∀ w ∈ wsX80, w ∈ wsX8_readNumbers := fun _ h => List.mem_cons_of_mem _ (List.mem_append_right _ h)
  subst hsz
  have hD := hD0.self (sz := s.heap.size)
  generalize hAe : va_A (c_X8_rn1 k z h t tn tl tc ta rw q G tx qb n a w2 w3 w4 w5 w6 f) s.heap.size = A at hD hZ ⊢
  have hA : ∀ q : Nat, s.heap.size ≤ q → A q := fun q h => by rw [← hAe]; exact Or.inr h
  have hS : va_S A s.heap s.heap [] := va_S.rf
  have hP : va_P D vwCl [(h, .inr (8, [.ref t, .ref tn, .ref tl, .ref tc, .ref ta])), (t, .inl (k 0, 4, .inl (cI q))), (tn, .inl (k 4, 4, .inr (.inr (.inr (.inr (gr4 rw)))))), ((rw 1), .inl (k 0, 80, .inl G)), (tx, .inr (7, [.ref qb, .int (nI n), .int w2, .int w3, .int w4, .int w5, .int w6, .int (nI a)])), (qb, .inl (k 0, 500, .inl f))] s.heap := hP
  have hD : va_D A [(h, .inr (8, [.ref t, .ref tn, .ref tl, .ref tc, .ref ta])), (t, .inl (k 0, 4, .inl (cI q))), (tn, .inl (k 4, 4, .inr (.inr (.inr (.inr (gr4 rw)))))), ((rw 1), .inl (k 0, 80, .inl G)), (tx, .inr (7, [.ref qb, .int (nI n), .int w2, .int w3, .int w4, .int w5, .int w6, .int (nI a)])), (qb, .inl (k 0, 500, .inl f))] := hD
  have hl := lv_entry ([.ref h, .ref tx, .int 1]) (n := 7) (Nat.le_of_ble_eq_true rfl)
  rw [lg_entry_eq]
  generalize (lg_sl ([.ref h, .ref tx, .int 1]) ++ List.replicate (7 - (lg_sl ([.ref h, .ref tx, .int 1])).length) Slot.unset).toArray = ls at hl ⊢
  have hl : lv_has ls 7 [(0, .ref h), (1, .ref tx), (2, .int 1)] := hl
  have hnp := fun k => npos_le (f := f) ha k
  have hP : va_P D vwCl [(h, .inr (8, [.ref t, .ref tn, .ref tl, .ref tc, .ref ta])), (t, .inl (k 0, 4, .inl (cI q))), (tn, .inl (k 4, 4, .inr (.inr (.inr (.inr (gr4 rw)))))), ((rw 1), .inl (k 0, 80, .inl (nGr f n a (q 1) G 0))), (tx, .inr (7, [.ref qb, .int (nI n), .int w2, .int w3, .int (nfl f n a 1 9 w4 0), .int (nfa f n a 1 9 w4 w5 0), .int w6, .int (nI (npos f n a 0))])), (qb, .inl (k 0, 500, .inl f))] s.heap := hP
  have hD : va_D A [(h, .inr (8, [.ref t, .ref tn, .ref tl, .ref tc, .ref ta])), (t, .inl (k 0, 4, .inl (cI q))), (tn, .inl (k 4, 4, .inr (.inr (.inr (.inr (gr4 rw)))))), ((rw 1), .inl (k 0, 80, .inl (nGr f n a (q 1) G 0))), (tx, .inr (7, [.ref qb, .int (nI n), .int w2, .int w3, .int (nfl f n a 1 9 w4 0), .int (nfa f n a 1 9 w4 w5 0), .int w6, .int (nI (npos f n a 0))])), (qb, .inl (k 0, 500, .inl f))] := hD
  refine lv_iconst (v := 0) hx hb dX8_readNumbers_0 (by decide) ?_
  refine lv_istore_n (lv' := [(3, .int 0), (0, .ref h), (1, .ref tx), (2, .int 1)]) hx hb dX8_readNumbers_1 rfl hl (by decide) rfl (fun ls hl => ?_)
  refine lv_iconst (v := 0) hx hb dX8_readNumbers_2 (by decide) ?_
  refine lv_istore (lv' := [(4, .int 0), (3, .int 0), (0, .ref h), (1, .ref tx), (2, .int 1)]) hx hb dX8_readNumbers_3 hl (by decide) rfl (fun ls hl => ?_)
  refine lv_iload hx hb dX8_readNumbers_5 (lv_at hl 0 rfl) ?_
  refine va_getsN (C := RX9) (ref := RX9) (host := RX9) hx hb (hZ.2.2.2.2.2.2.2.2.2.2.2.1) hS hown (va_Nw.use rfl hZ.2.1) (fun _ h9 => h9) dX8_readNumbers_7 ?_
  refine lv_iload_n hx hb dX8_readNumbers_10 rfl (lv_at hl 4 rfl) ?_
  refine va_ti (v := .int 3) hx hb (hZ.2.2.2.2.2.2.2.2.2.2.2.2.1) hS (vp_in_nI (n := 1) (by omega) (by omega)) (rfl) dX8_readNumbers_11 ?_
  refine lv_icmp_ge (x := 0) (y := 3) (tgt := 95) hx hb dX8_readNumbers_12 (by decide) (fun c1 => absurd c1 (by decide)) (fun c1 => ?_)
  refine lv_iload_n hx hb dX8_readNumbers_15 rfl (lv_at hl 4 rfl) ?_
  refine lv_iconst (v := 4) hx hb dX8_readNumbers_16 (by decide) ?_
  refine lv_imul hx hb dX8_readNumbers_17 ?_
  refine tp_i (y := 4) (by decide) ?_
  refine lv_iload hx hb dX8_readNumbers_18 (lv_at hl 0 rfl) ?_
  refine lv_iadd hx hb dX8_readNumbers_20 ?_
  refine tp_i (y := 4) (by decide) ?_
  refine lv_istore (lv' := [(5, .int 4), (4, .int 0), (3, .int 0), (0, .ref h), (1, .ref tx), (2, .int 1)]) hx hb dX8_readNumbers_21 hl (by decide) rfl (fun ls hl => ?_)
  refine lv_aload_n hx hb dX8_readNumbers_23 rfl (lv_at hl 4 rfl) ?_
  refine va_getsN (C := RX9) (ref := RX9) (host := RX9) hx hb (hZ.2.2.2.2.2.2.2.2.2.2.2.2.2.1) hS hown (va_Nw.use rfl hZ.2.2.1) (fun _ h9 => h9) dX8_readNumbers_24 ?_
  refine lv_iload hx hb dX8_readNumbers_27 (lv_at hl 0 rfl) ?_
  refine va_ti (v := .int 0) hx hb (hZ.2.2.2.2.2.2.2.2.2.2.2.2.2.2.1) hS (vp_in_nI (n := 4) (by omega) (by omega)) (rfl) dX8_readNumbers_29 ?_
  refine va_getsN (C := RX9) (ref := RX9) (host := RX9) hx hb (hZ.2.2.2.2.2.2.2.2.2.2.2.2.2.2.2.1) hS hown (va_Nw.use rfl hZ.2.2.2.1) (fun _ h9 => h9) dX8_readNumbers_30 ?_
  refine lv_iload hx hb dX8_readNumbers_33 (lv_at hl 0 rfl) ?_
  refine va_ti (v := .int 9) hx hb (hZ.2.2.2.2.2.2.2.2.2.2.2.2.2.2.2.2.1) hS (vp_in_nI (n := 4) (by omega) (by omega)) (rfl) dX8_readNumbers_35 ?_
  have hPc := hP.sub (ws' := (c_X7_readNumber k tx qb n (npos f n a 0) w2 w3 (nfl f n a 1 9 w4 0) (nfa f n a 1 9 w4 w5 0) w6 f 0 9)) [4, 5] rfl
  have hDc := hD.sub (ws' := (c_X7_readNumber k tx qb n (npos f n a 0) w2 w3 (nfl f n a 1 9 w4 0) (nfa f n a 1 9 w4 w5 0) w6 f 0 9)) [4, 5] (by decide +kernel) rfl
  refine cl_i (w1 := w_X7_readNumber k tx qb n (npos f n a 0) w2 w3 (nfl f n a 1 9 w4 0) (nfa f n a 1 9 w4 w5 0) w6 f 0 9) (wr := [(h, .inr (8, [.ref t, .ref tn, .ref tl, .ref tc, .ref ta])), (t, .inl (k 0, 4, .inl (cI q))), (tn, .inl (k 4, 4, .inr (.inr (.inr (.inr (gr4 rw)))))), ((rw 1), .inl (k 0, 80, .inl (nGr f n a (q 1) G 0)))]) (va_runV (As := [.int 0, .int 9]) (rest := []) ⟨hx, hb, hml, hown, hts⟩ (X7_readNumber l D k s.heap.size tx qb n (npos f n a 0) w2 w3 (nfl f n a 1 9 w4 0) (nfa f n a 1 9 w4 w5 0) w6 f 0 9 (hn) (hnp _)) (cwV 2 hts gX8_readNumbers_X7_readNumber rfl rfl rfl (by decide +kernel) ⟨Nat.le_of_ble_eq_true rfl, Nat.le_of_ble_eq_true rfl⟩) ⟨PR.blind _ _ _ _ _, va_recv hG.1 hP (ci := 7) (q0 := 4) rfl rfl, PR.pre hPc hDc hG [.ref tx, .int 0, .int 9]⟩ rfl rfl hl.1 rfl (lv_room (Nat.le_of_ble_eq_true rfl)) dX8_readNumbers_36 ⟨Nat.le_of_ble_eq_true rfl, Nat.le_of_ble_eq_true rfl⟩) hP hD hS hA [4, 5] [0, 1, 2, 3] rfl rfl (by decide +kernel) (by decide +kernel) (fun r u H locs hq hP hD hS => ?_)
  obtain ⟨zu2, zu3, zu4, zu5⟩ := u
  generalize r = y6 at hq ⊢
  have hq : zu2 = rn (pB f) n (npos f n a 0) ∧ zu3 = rn (pR f 48 57) n zu2 ∧ y6 = dg3 f zu2 (zu3 - zu2) ∧ zu4 = nbF (nfl f n a 1 9 w4 0) (zu3 - zu2) y6 0 9 ∧ zu5 = nbA (nfl f n a 1 9 w4 0) (nfa f n a 1 9 w4 w5 0) (zu3 - zu2) y6 0 9 zu2 := hq
  obtain ⟨rfl, rfl, rfl, rfl, rfl⟩ := hq
  have hP : va_P D vwCl [(h, .inr (8, [.ref t, .ref tn, .ref tl, .ref tc, .ref ta])), (t, .inl (k 0, 4, .inl (cI q))), (tn, .inl (k 4, 4, .inr (.inr (.inr (.inr (gr4 rw)))))), ((rw 1), .inl (k 0, 80, .inl (nGr f n a (q 1) G 0))), (tx, .inr (7, [.ref qb, .int (nI n), .int w2, .int (nI (nS f n (npos f n a 0))), .int (nF f n (npos f n a 0) (nfl f n a 1 9 w4 0) 0 9), .int (nA f n (npos f n a 0) (nfl f n a 1 9 w4 0) (nfa f n a 1 9 w4 w5 0) 0 9), .int w6, .int (nI (nE f n (npos f n a 0)))])), (qb, .inl (k 0, 500, .inl f))] H := hP
  have hD : va_D A [(h, .inr (8, [.ref t, .ref tn, .ref tl, .ref tc, .ref ta])), (t, .inl (k 0, 4, .inl (cI q))), (tn, .inl (k 4, 4, .inr (.inr (.inr (.inr (gr4 rw)))))), ((rw 1), .inl (k 0, 80, .inl (nGr f n a (q 1) G 0))), (tx, .inr (7, [.ref qb, .int (nI n), .int w2, .int (nI (nS f n (npos f n a 0))), .int (nF f n (npos f n a 0) (nfl f n a 1 9 w4 0) 0 9), .int (nA f n (npos f n a 0) (nfl f n a 1 9 w4 0) (nfa f n a 1 9 w4 w5 0) 0 9), .int w6, .int (nI (nE f n (npos f n a 0)))])), (qb, .inl (k 0, 500, .inl f))] := hD
  have hnE : nE f n (npos f n a 0) ≤ n := nE_le (by first | omega | exact hnp _)
  refine tp_i (y := nV f n (npos f n a 0)) rfl ?_
  refine tp_i (y := nvl f n a 0) rfl ?_
  have hP : va_P D vwCl [(h, .inr (8, [.ref t, .ref tn, .ref tl, .ref tc, .ref ta])), (t, .inl (k 0, 4, .inl (cI q))), (tn, .inl (k 4, 4, .inr (.inr (.inr (.inr (gr4 rw)))))), ((rw 1), .inl (k 0, 80, .inl (nGr f n a (q 1) G 0))), (tx, .inr (7, [.ref qb, .int (nI n), .int w2, .int (nI (nS f n (npos f n a 0))), .int (nfl f n a 1 9 w4 1), .int (nfa f n a 1 9 w4 w5 1), .int w6, .int (nI (npos f n a 1))])), (qb, .inl (k 0, 500, .inl f))] H := hP
  have hD : va_D A [(h, .inr (8, [.ref t, .ref tn, .ref tl, .ref tc, .ref ta])), (t, .inl (k 0, 4, .inl (cI q))), (tn, .inl (k 4, 4, .inr (.inr (.inr (.inr (gr4 rw)))))), ((rw 1), .inl (k 0, 80, .inl (nGr f n a (q 1) G 0))), (tx, .inr (7, [.ref qb, .int (nI n), .int w2, .int (nI (nS f n (npos f n a 0))), .int (nfl f n a 1 9 w4 1), .int (nfa f n a 1 9 w4 w5 1), .int w6, .int (nI (npos f n a 1))])), (qb, .inl (k 0, 500, .inl f))] := hD
  refine lv_istore (lv' := [(6, .int (nvl f n a 0)), (5, .int 4), (4, .int 0), (3, .int 0), (0, .ref h), (1, .ref tx), (2, .int 1)]) hx hb dX8_readNumbers_39 hl (by decide) rfl (fun ls hl => ?_)
  refine lv_iload hx hb dX8_readNumbers_41 (lv_at hl 2 rfl) ?_
  refine va_getsN (C := RX9) (ref := RX9) (host := RX9) hx hb (hZ.2.2.2.2.2.2.2.2.2.2.2.2.2.2.2.2.2.1) hS hown (va_Nw.use rfl hZ.2.2.2.2.1) (fun _ h9 => h9) dX8_readNumbers_43 ?_
  refine lv_iload_n hx hb dX8_readNumbers_46 rfl (lv_at hl 6 rfl) ?_
  refine va_ti (v := .int (-1)) hx hb (hZ.2.2.2.2.2.2.2.2.2.2.2.2.2.2.2.2.2.2.1) hS (vp_in_nI (n := 1) (by omega) (by omega)) (rfl) dX8_readNumbers_47 ?_
  refine lv_icmp_ne (x := 0) (y := (-1)) (tgt := 66) hx hb dX8_readNumbers_48 (by decide) (fun c7 => ?_) (fun c7 => absurd c7 (by decide))
  refine lv_aload_n hx hb dX8_readNumbers_66 rfl (lv_at hl 4 rfl) ?_
  refine va_get (D := D) (ci := 8) (v := .ref tn) (C := RX8) (T := TX8) (N := 5) hx hb hts hi8 hown hG.1 hP 0 rfl rfl 1 (by decide) (hts (.fieldLink RX8 17 "SleptMatters$Town" "numbers" "[[I") (List.mem_cons_of_mem _ (List.mem_append_left _ (List.mem_append_left _ (List.mem_append_left _ (List.mem_of_getElem? (i := 1) rfl)))))) (fun _ h9 => h9) rfl dX8_readNumbers_67 ?_
  refine lv_iload_n hx hb dX8_readNumbers_70 rfl (lv_at hl 6 rfl) ?_
  refine va_aldA (t := .int) hx hb hG.1 hP 2 4 rfl rfl (vp_in_nI (n := 1) (by omega) (by omega)) dX8_readNumbers_71 ?_
  refine W.eq (g2 := F0 m 72 ls [.ref (rw 1)]) rfl ?_
  refine lv_aload_n hx hb dX8_readNumbers_72 rfl (lv_at hl 4 rfl) ?_
  refine va_get (D := D) (ci := 8) (v := .ref t) (C := RX8) (T := TX8) (N := 5) hx hb hts hi8 hown hG.1 hP 0 rfl rfl 0 (by decide) (hts (.fieldLink RX8 9 "SleptMatters$Town" "counts" "[I") (List.mem_cons_of_mem _ (List.mem_append_left _ (List.mem_append_left _ (List.mem_append_left _ (List.mem_of_getElem? (i := 2) rfl)))))) (fun _ h9 => h9) rfl dX8_readNumbers_73 ?_
  refine lv_iload_n hx hb dX8_readNumbers_76 rfl (lv_at hl 6 rfl) ?_
  refine va_iald hx hb hG.1 hP 1 0 rfl rfl (vp_in_nI (n := 1) (by omega) (by omega)) dX8_readNumbers_77 ?_
  refine tp_i (y := nI (q 1)) (rfl) ?_
  refine lv_iconst (v := 4) hx hb dX8_readNumbers_78 (by decide) ?_
  refine lv_imul hx hb dX8_readNumbers_79 ?_
  refine tp_i (y := nI ((q 1) * 4)) (pk_mul (q 1) 4) ?_
  refine lv_iload hx hb dX8_readNumbers_80 (lv_at hl 2 rfl) ?_
  refine lv_iadd hx hb dX8_readNumbers_82 ?_
  refine tp_i (y := nI ((q 1) * 4 + 0)) (nI_add ((q 1) * 4) 0) ?_
  refine lv_iload hx hb dX8_readNumbers_83 (lv_at hl 0 rfl) ?_
  refine va_iast hx hb hG.1 hP hD hS 3 0 rfl rfl (vp_in_nI (by omega) (by omega)) dX8_readNumbers_85 (fun H locs hP hD hS => ?_)
  rw [nI_clamp (n := (q 1) * 4 + 0) (by omega)] at hP hD
  have hP : va_P D vwCl [(h, .inr (8, [.ref t, .ref tn, .ref tl, .ref tc, .ref ta])), (t, .inl (k 0, 4, .inl (cI q))), (tn, .inl (k 4, 4, .inr (.inr (.inr (.inr (gr4 rw)))))), ((rw 1), .inl (k 0, 80, .inl (upd (nGr f n a (q 1) G 0) ((q 1) * 4 + 0) (nvl f n a 0)))), (tx, .inr (7, [.ref qb, .int (nI n), .int w2, .int (nI (nS f n (npos f n a 0))), .int (nfl f n a 1 9 w4 1), .int (nfa f n a 1 9 w4 w5 1), .int w6, .int (nI (npos f n a 1))])), (qb, .inl (k 0, 500, .inl f))] H := hP
  have hD : va_D A [(h, .inr (8, [.ref t, .ref tn, .ref tl, .ref tc, .ref ta])), (t, .inl (k 0, 4, .inl (cI q))), (tn, .inl (k 4, 4, .inr (.inr (.inr (.inr (gr4 rw)))))), ((rw 1), .inl (k 0, 80, .inl (upd (nGr f n a (q 1) G 0) ((q 1) * 4 + 0) (nvl f n a 0)))), (tx, .inr (7, [.ref qb, .int (nI n), .int w2, .int (nI (nS f n (npos f n a 0))), .int (nfl f n a 1 9 w4 1), .int (nfa f n a 1 9 w4 w5 1), .int w6, .int (nI (npos f n a 1))])), (qb, .inl (k 0, 500, .inl f))] := hD
  have hP : va_P D vwCl [(h, .inr (8, [.ref t, .ref tn, .ref tl, .ref tc, .ref ta])), (t, .inl (k 0, 4, .inl (cI q))), (tn, .inl (k 4, 4, .inr (.inr (.inr (.inr (gr4 rw)))))), ((rw 1), .inl (k 0, 80, .inl (nGr f n a (q 1) G 1))), (tx, .inr (7, [.ref qb, .int (nI n), .int w2, .int (nI (nS f n (npos f n a 0))), .int (nfl f n a 1 9 w4 1), .int (nfa f n a 1 9 w4 w5 1), .int w6, .int (nI (npos f n a 1))])), (qb, .inl (k 0, 500, .inl f))] H := hP
  have hD : va_D A [(h, .inr (8, [.ref t, .ref tn, .ref tl, .ref tc, .ref ta])), (t, .inl (k 0, 4, .inl (cI q))), (tn, .inl (k 4, 4, .inr (.inr (.inr (.inr (gr4 rw)))))), ((rw 1), .inl (k 0, 80, .inl (nGr f n a (q 1) G 1))), (tx, .inr (7, [.ref qb, .int (nI n), .int w2, .int (nI (nS f n (npos f n a 0))), .int (nfl f n a 1 9 w4 1), .int (nfa f n a 1 9 w4 w5 1), .int w6, .int (nI (npos f n a 1))])), (qb, .inl (k 0, 500, .inl f))] := hD
  refine lv_iload hx hb dX8_readNumbers_86 (lv_at hl 0 rfl) ?_
  refine lv_istore_n (lv' := [(3, .int (nvl f n a 0)), (6, .int (nvl f n a 0)), (5, .int 4), (4, .int 0), (0, .ref h), (1, .ref tx), (2, .int 1)]) hx hb dX8_readNumbers_88 rfl hl (by decide) rfl (fun ls hl => ?_)
  refine lv_iinc (v := 1) (lv' := [(4, .int 1), (3, .int (nvl f n a 0)), (6, .int (nvl f n a 0)), (5, .int 4), (0, .ref h), (1, .ref tx), (2, .int 1)]) hx hb dX8_readNumbers_89 hl (k := 3) rfl (by decide) (by decide) rfl (fun ls hl => ?_)
  refine lv_goto (tgt := 5) hx hb dX8_readNumbers_92 (by decide) ?_
  refine lv_iload hx hb dX8_readNumbers_5 (lv_at hl 0 rfl) ?_
  refine va_getsN (C := RX9) (ref := RX9) (host := RX9) hx hb (hZ.2.2.2.2.2.2.2.2.2.2.2.1) hS hown (va_Nw.use rfl hZ.2.1) (fun _ h9 => h9) dX8_readNumbers_7 ?_
  refine lv_iload_n hx hb dX8_readNumbers_10 rfl (lv_at hl 6 rfl) ?_
  refine va_ti (v := .int 3) hx hb (hZ.2.2.2.2.2.2.2.2.2.2.2.2.1) hS (vp_in_nI (n := 1) (by omega) (by omega)) (rfl) dX8_readNumbers_11 ?_
  refine lv_icmp_ge (x := 1) (y := 3) (tgt := 95) hx hb dX8_readNumbers_12 (by decide) (fun c8 => absurd c8 (by decide)) (fun c8 => ?_)
  refine lv_iload_n hx hb dX8_readNumbers_15 rfl (lv_at hl 6 rfl) ?_
  refine lv_iconst (v := 4) hx hb dX8_readNumbers_16 (by decide) ?_
  refine lv_imul hx hb dX8_readNumbers_17 ?_
  refine tp_i (y := 4) (by decide) ?_
  refine lv_iload hx hb dX8_readNumbers_18 (lv_at hl 0 rfl) ?_
  refine lv_iadd hx hb dX8_readNumbers_20 ?_
  refine tp_i (y := 5) (by decide) ?_
  refine lv_istore (lv' := [(5, .int 5), (4, .int 1), (3, .int (nvl f n a 0)), (6, .int (nvl f n a 0)), (0, .ref h), (1, .ref tx), (2, .int 1)]) hx hb dX8_readNumbers_21 hl (by decide) rfl (fun ls hl => ?_)
  refine lv_aload_n hx hb dX8_readNumbers_23 rfl (lv_at hl 5 rfl) ?_
  refine va_getsN (C := RX9) (ref := RX9) (host := RX9) hx hb (hZ.2.2.2.2.2.2.2.2.2.2.2.2.2.1) hS hown (va_Nw.use rfl hZ.2.2.1) (fun _ h9 => h9) dX8_readNumbers_24 ?_
  refine lv_iload hx hb dX8_readNumbers_27 (lv_at hl 0 rfl) ?_
  refine va_ti (v := .int 0) hx hb (hZ.2.2.2.2.2.2.2.2.2.2.2.2.2.2.1) hS (vp_in_nI (n := 5) (by omega) (by omega)) (rfl) dX8_readNumbers_29 ?_
  refine va_getsN (C := RX9) (ref := RX9) (host := RX9) hx hb (hZ.2.2.2.2.2.2.2.2.2.2.2.2.2.2.2.1) hS hown (va_Nw.use rfl hZ.2.2.2.1) (fun _ h9 => h9) dX8_readNumbers_30 ?_
  refine lv_iload hx hb dX8_readNumbers_33 (lv_at hl 0 rfl) ?_
  refine va_ti (v := .int 100) hx hb (hZ.2.2.2.2.2.2.2.2.2.2.2.2.2.2.2.2.1) hS (vp_in_nI (n := 5) (by omega) (by omega)) (rfl) dX8_readNumbers_35 ?_
  have hPc := hP.sub (ws' := (c_X7_readNumber k tx qb n (npos f n a 1) w2 (nI (nS f n (npos f n a 0))) (nfl f n a 1 9 w4 1) (nfa f n a 1 9 w4 w5 1) w6 f 0 100)) [4, 5] rfl
  have hDc := hD.sub (ws' := (c_X7_readNumber k tx qb n (npos f n a 1) w2 (nI (nS f n (npos f n a 0))) (nfl f n a 1 9 w4 1) (nfa f n a 1 9 w4 w5 1) w6 f 0 100)) [4, 5] (by decide +kernel) rfl
  refine cl_i (w1 := w_X7_readNumber k tx qb n (npos f n a 1) w2 (nI (nS f n (npos f n a 0))) (nfl f n a 1 9 w4 1) (nfa f n a 1 9 w4 w5 1) w6 f 0 100) (wr := [(h, .inr (8, [.ref t, .ref tn, .ref tl, .ref tc, .ref ta])), (t, .inl (k 0, 4, .inl (cI q))), (tn, .inl (k 4, 4, .inr (.inr (.inr (.inr (gr4 rw)))))), ((rw 1), .inl (k 0, 80, .inl (nGr f n a (q 1) G 1)))]) (va_runV (As := [.int 0, .int 100]) (rest := []) ⟨hx, hb, hml, hown, hts⟩ (X7_readNumber l D k H.size tx qb n (npos f n a 1) w2 (nI (nS f n (npos f n a 0))) (nfl f n a 1 9 w4 1) (nfa f n a 1 9 w4 w5 1) w6 f 0 100 (hn) (hnp _)) (cwV 2 hts gX8_readNumbers_X7_readNumber rfl rfl rfl (by decide +kernel) ⟨Nat.le_of_ble_eq_true rfl, Nat.le_of_ble_eq_true rfl⟩) ⟨PR.blind _ _ _ _ _, va_recv hG.1 hP (ci := 7) (q0 := 4) rfl rfl, PR.pre hPc hDc hG [.ref tx, .int 0, .int 100]⟩ rfl rfl hl.1 rfl (lv_room (Nat.le_of_ble_eq_true rfl)) dX8_readNumbers_36 ⟨Nat.le_of_ble_eq_true rfl, Nat.le_of_ble_eq_true rfl⟩) hP hD hS hA [4, 5] [0, 1, 2, 3] rfl rfl (by decide +kernel) (by decide +kernel) (fun r u H locs hq hP hD hS => ?_)
  obtain ⟨zu9, zu10, zu11, zu12⟩ := u
  generalize r = y13 at hq ⊢
  have hq : zu9 = rn (pB f) n (npos f n a 1) ∧ zu10 = rn (pR f 48 57) n zu9 ∧ y13 = dg3 f zu9 (zu10 - zu9) ∧ zu11 = nbF (nfl f n a 1 9 w4 1) (zu10 - zu9) y13 0 100 ∧ zu12 = nbA (nfl f n a 1 9 w4 1) (nfa f n a 1 9 w4 w5 1) (zu10 - zu9) y13 0 100 zu9 := hq
  obtain ⟨rfl, rfl, rfl, rfl, rfl⟩ := hq
  have hP : va_P D vwCl [(h, .inr (8, [.ref t, .ref tn, .ref tl, .ref tc, .ref ta])), (t, .inl (k 0, 4, .inl (cI q))), (tn, .inl (k 4, 4, .inr (.inr (.inr (.inr (gr4 rw)))))), ((rw 1), .inl (k 0, 80, .inl (nGr f n a (q 1) G 1))), (tx, .inr (7, [.ref qb, .int (nI n), .int w2, .int (nI (nS f n (npos f n a 1))), .int (nF f n (npos f n a 1) (nfl f n a 1 9 w4 1) 0 100), .int (nA f n (npos f n a 1) (nfl f n a 1 9 w4 1) (nfa f n a 1 9 w4 w5 1) 0 100), .int w6, .int (nI (nE f n (npos f n a 1)))])), (qb, .inl (k 0, 500, .inl f))] H := hP
  have hD : va_D A [(h, .inr (8, [.ref t, .ref tn, .ref tl, .ref tc, .ref ta])), (t, .inl (k 0, 4, .inl (cI q))), (tn, .inl (k 4, 4, .inr (.inr (.inr (.inr (gr4 rw)))))), ((rw 1), .inl (k 0, 80, .inl (nGr f n a (q 1) G 1))), (tx, .inr (7, [.ref qb, .int (nI n), .int w2, .int (nI (nS f n (npos f n a 1))), .int (nF f n (npos f n a 1) (nfl f n a 1 9 w4 1) 0 100), .int (nA f n (npos f n a 1) (nfl f n a 1 9 w4 1) (nfa f n a 1 9 w4 w5 1) 0 100), .int w6, .int (nI (nE f n (npos f n a 1)))])), (qb, .inl (k 0, 500, .inl f))] := hD
  have hnE : nE f n (npos f n a 1) ≤ n := nE_le (by first | omega | exact hnp _)
  refine tp_i (y := nV f n (npos f n a 1)) rfl ?_
  refine tp_i (y := nvl f n a 1) rfl ?_
  have hP : va_P D vwCl [(h, .inr (8, [.ref t, .ref tn, .ref tl, .ref tc, .ref ta])), (t, .inl (k 0, 4, .inl (cI q))), (tn, .inl (k 4, 4, .inr (.inr (.inr (.inr (gr4 rw)))))), ((rw 1), .inl (k 0, 80, .inl (nGr f n a (q 1) G 1))), (tx, .inr (7, [.ref qb, .int (nI n), .int w2, .int (nI (nS f n (npos f n a 1))), .int (nfl f n a 1 9 w4 2), .int (nfa f n a 1 9 w4 w5 2), .int w6, .int (nI (npos f n a 2))])), (qb, .inl (k 0, 500, .inl f))] H := hP
  have hD : va_D A [(h, .inr (8, [.ref t, .ref tn, .ref tl, .ref tc, .ref ta])), (t, .inl (k 0, 4, .inl (cI q))), (tn, .inl (k 4, 4, .inr (.inr (.inr (.inr (gr4 rw)))))), ((rw 1), .inl (k 0, 80, .inl (nGr f n a (q 1) G 1))), (tx, .inr (7, [.ref qb, .int (nI n), .int w2, .int (nI (nS f n (npos f n a 1))), .int (nfl f n a 1 9 w4 2), .int (nfa f n a 1 9 w4 w5 2), .int w6, .int (nI (npos f n a 2))])), (qb, .inl (k 0, 500, .inl f))] := hD
  refine lv_istore (lv' := [(6, .int (nvl f n a 1)), (5, .int 5), (4, .int 1), (3, .int (nvl f n a 0)), (0, .ref h), (1, .ref tx), (2, .int 1)]) hx hb dX8_readNumbers_39 hl (by decide) rfl (fun ls hl => ?_)
  refine lv_iload hx hb dX8_readNumbers_41 (lv_at hl 2 rfl) ?_
  refine va_getsN (C := RX9) (ref := RX9) (host := RX9) hx hb (hZ.2.2.2.2.2.2.2.2.2.2.2.2.2.2.2.2.2.1) hS hown (va_Nw.use rfl hZ.2.2.2.2.1) (fun _ h9 => h9) dX8_readNumbers_43 ?_
  refine lv_iload_n hx hb dX8_readNumbers_46 rfl (lv_at hl 6 rfl) ?_
  refine va_ti (v := .int (-1)) hx hb (hZ.2.2.2.2.2.2.2.2.2.2.2.2.2.2.2.2.2.2.1) hS (vp_in_nI (n := 1) (by omega) (by omega)) (rfl) dX8_readNumbers_47 ?_
  refine lv_icmp_ne (x := 1) (y := (-1)) (tgt := 66) hx hb dX8_readNumbers_48 (by decide) (fun c14 => ?_) (fun c14 => absurd c14 (by decide))
  refine lv_aload_n hx hb dX8_readNumbers_66 rfl (lv_at hl 4 rfl) ?_
  refine va_get (D := D) (ci := 8) (v := .ref tn) (C := RX8) (T := TX8) (N := 5) hx hb hts hi8 hown hG.1 hP 0 rfl rfl 1 (by decide) (hts (.fieldLink RX8 17 "SleptMatters$Town" "numbers" "[[I") (List.mem_cons_of_mem _ (List.mem_append_left _ (List.mem_append_left _ (List.mem_append_left _ (List.mem_of_getElem? (i := 1) rfl)))))) (fun _ h9 => h9) rfl dX8_readNumbers_67 ?_
  refine lv_iload_n hx hb dX8_readNumbers_70 rfl (lv_at hl 6 rfl) ?_
  refine va_aldA (t := .int) hx hb hG.1 hP 2 4 rfl rfl (vp_in_nI (n := 1) (by omega) (by omega)) dX8_readNumbers_71 ?_
  refine W.eq (g2 := F0 m 72 ls [.ref (rw 1)]) rfl ?_
  refine lv_aload_n hx hb dX8_readNumbers_72 rfl (lv_at hl 4 rfl) ?_
  refine va_get (D := D) (ci := 8) (v := .ref t) (C := RX8) (T := TX8) (N := 5) hx hb hts hi8 hown hG.1 hP 0 rfl rfl 0 (by decide) (hts (.fieldLink RX8 9 "SleptMatters$Town" "counts" "[I") (List.mem_cons_of_mem _ (List.mem_append_left _ (List.mem_append_left _ (List.mem_append_left _ (List.mem_of_getElem? (i := 2) rfl)))))) (fun _ h9 => h9) rfl dX8_readNumbers_73 ?_
  refine lv_iload_n hx hb dX8_readNumbers_76 rfl (lv_at hl 6 rfl) ?_
  refine va_iald hx hb hG.1 hP 1 0 rfl rfl (vp_in_nI (n := 1) (by omega) (by omega)) dX8_readNumbers_77 ?_
  refine tp_i (y := nI (q 1)) (rfl) ?_
  refine lv_iconst (v := 4) hx hb dX8_readNumbers_78 (by decide) ?_
  refine lv_imul hx hb dX8_readNumbers_79 ?_
  refine tp_i (y := nI ((q 1) * 4)) (pk_mul (q 1) 4) ?_
  refine lv_iload hx hb dX8_readNumbers_80 (lv_at hl 2 rfl) ?_
  refine lv_iadd hx hb dX8_readNumbers_82 ?_
  refine tp_i (y := nI ((q 1) * 4 + 1)) (nI_add ((q 1) * 4) 1) ?_
  refine lv_iload hx hb dX8_readNumbers_83 (lv_at hl 0 rfl) ?_
  refine va_iast hx hb hG.1 hP hD hS 3 0 rfl rfl (vp_in_nI (by omega) (by omega)) dX8_readNumbers_85 (fun H locs hP hD hS => ?_)
  rw [nI_clamp (n := (q 1) * 4 + 1) (by omega)] at hP hD
  have hP : va_P D vwCl [(h, .inr (8, [.ref t, .ref tn, .ref tl, .ref tc, .ref ta])), (t, .inl (k 0, 4, .inl (cI q))), (tn, .inl (k 4, 4, .inr (.inr (.inr (.inr (gr4 rw)))))), ((rw 1), .inl (k 0, 80, .inl (upd (nGr f n a (q 1) G 1) ((q 1) * 4 + 1) (nvl f n a 1)))), (tx, .inr (7, [.ref qb, .int (nI n), .int w2, .int (nI (nS f n (npos f n a 1))), .int (nfl f n a 1 9 w4 2), .int (nfa f n a 1 9 w4 w5 2), .int w6, .int (nI (npos f n a 2))])), (qb, .inl (k 0, 500, .inl f))] H := hP
  have hD : va_D A [(h, .inr (8, [.ref t, .ref tn, .ref tl, .ref tc, .ref ta])), (t, .inl (k 0, 4, .inl (cI q))), (tn, .inl (k 4, 4, .inr (.inr (.inr (.inr (gr4 rw)))))), ((rw 1), .inl (k 0, 80, .inl (upd (nGr f n a (q 1) G 1) ((q 1) * 4 + 1) (nvl f n a 1)))), (tx, .inr (7, [.ref qb, .int (nI n), .int w2, .int (nI (nS f n (npos f n a 1))), .int (nfl f n a 1 9 w4 2), .int (nfa f n a 1 9 w4 w5 2), .int w6, .int (nI (npos f n a 2))])), (qb, .inl (k 0, 500, .inl f))] := hD
  have hP : va_P D vwCl [(h, .inr (8, [.ref t, .ref tn, .ref tl, .ref tc, .ref ta])), (t, .inl (k 0, 4, .inl (cI q))), (tn, .inl (k 4, 4, .inr (.inr (.inr (.inr (gr4 rw)))))), ((rw 1), .inl (k 0, 80, .inl (nGr f n a (q 1) G 2))), (tx, .inr (7, [.ref qb, .int (nI n), .int w2, .int (nI (nS f n (npos f n a 1))), .int (nfl f n a 1 9 w4 2), .int (nfa f n a 1 9 w4 w5 2), .int w6, .int (nI (npos f n a 2))])), (qb, .inl (k 0, 500, .inl f))] H := hP
  have hD : va_D A [(h, .inr (8, [.ref t, .ref tn, .ref tl, .ref tc, .ref ta])), (t, .inl (k 0, 4, .inl (cI q))), (tn, .inl (k 4, 4, .inr (.inr (.inr (.inr (gr4 rw)))))), ((rw 1), .inl (k 0, 80, .inl (nGr f n a (q 1) G 2))), (tx, .inr (7, [.ref qb, .int (nI n), .int w2, .int (nI (nS f n (npos f n a 1))), .int (nfl f n a 1 9 w4 2), .int (nfa f n a 1 9 w4 w5 2), .int w6, .int (nI (npos f n a 2))])), (qb, .inl (k 0, 500, .inl f))] := hD
  refine lv_iload hx hb dX8_readNumbers_86 (lv_at hl 0 rfl) ?_
  refine lv_istore_n (lv' := [(3, .int (nvl f n a 1)), (6, .int (nvl f n a 1)), (5, .int 5), (4, .int 1), (0, .ref h), (1, .ref tx), (2, .int 1)]) hx hb dX8_readNumbers_88 rfl hl (by decide) rfl (fun ls hl => ?_)
  refine lv_iinc (v := 2) (lv' := [(4, .int 2), (3, .int (nvl f n a 1)), (6, .int (nvl f n a 1)), (5, .int 5), (0, .ref h), (1, .ref tx), (2, .int 1)]) hx hb dX8_readNumbers_89 hl (k := 3) rfl (by decide) (by decide) rfl (fun ls hl => ?_)
  refine lv_goto (tgt := 5) hx hb dX8_readNumbers_92 (by decide) ?_
  refine lv_iload hx hb dX8_readNumbers_5 (lv_at hl 0 rfl) ?_
  refine va_getsN (C := RX9) (ref := RX9) (host := RX9) hx hb (hZ.2.2.2.2.2.2.2.2.2.2.2.1) hS hown (va_Nw.use rfl hZ.2.1) (fun _ h9 => h9) dX8_readNumbers_7 ?_
  refine lv_iload_n hx hb dX8_readNumbers_10 rfl (lv_at hl 6 rfl) ?_
  refine va_ti (v := .int 3) hx hb (hZ.2.2.2.2.2.2.2.2.2.2.2.2.1) hS (vp_in_nI (n := 1) (by omega) (by omega)) (rfl) dX8_readNumbers_11 ?_
  refine lv_icmp_ge (x := 2) (y := 3) (tgt := 95) hx hb dX8_readNumbers_12 (by decide) (fun c15 => absurd c15 (by decide)) (fun c15 => ?_)
  refine lv_iload_n hx hb dX8_readNumbers_15 rfl (lv_at hl 6 rfl) ?_
  refine lv_iconst (v := 4) hx hb dX8_readNumbers_16 (by decide) ?_
  refine lv_imul hx hb dX8_readNumbers_17 ?_
  refine tp_i (y := 4) (by decide) ?_
  refine lv_iload hx hb dX8_readNumbers_18 (lv_at hl 0 rfl) ?_
  refine lv_iadd hx hb dX8_readNumbers_20 ?_
  refine tp_i (y := 6) (by decide) ?_
  refine lv_istore (lv' := [(5, .int 6), (4, .int 2), (3, .int (nvl f n a 1)), (6, .int (nvl f n a 1)), (0, .ref h), (1, .ref tx), (2, .int 1)]) hx hb dX8_readNumbers_21 hl (by decide) rfl (fun ls hl => ?_)
  refine lv_aload_n hx hb dX8_readNumbers_23 rfl (lv_at hl 5 rfl) ?_
  refine va_getsN (C := RX9) (ref := RX9) (host := RX9) hx hb (hZ.2.2.2.2.2.2.2.2.2.2.2.2.2.1) hS hown (va_Nw.use rfl hZ.2.2.1) (fun _ h9 => h9) dX8_readNumbers_24 ?_
  refine lv_iload hx hb dX8_readNumbers_27 (lv_at hl 0 rfl) ?_
  refine va_ti (v := .int 0) hx hb (hZ.2.2.2.2.2.2.2.2.2.2.2.2.2.2.1) hS (vp_in_nI (n := 6) (by omega) (by omega)) (rfl) dX8_readNumbers_29 ?_
  refine va_getsN (C := RX9) (ref := RX9) (host := RX9) hx hb (hZ.2.2.2.2.2.2.2.2.2.2.2.2.2.2.2.1) hS hown (va_Nw.use rfl hZ.2.2.2.1) (fun _ h9 => h9) dX8_readNumbers_30 ?_
  refine lv_iload hx hb dX8_readNumbers_33 (lv_at hl 0 rfl) ?_
  refine va_ti (v := .int 99) hx hb (hZ.2.2.2.2.2.2.2.2.2.2.2.2.2.2.2.2.1) hS (vp_in_nI (n := 6) (by omega) (by omega)) (rfl) dX8_readNumbers_35 ?_
  have hPc := hP.sub (ws' := (c_X7_readNumber k tx qb n (npos f n a 2) w2 (nI (nS f n (npos f n a 1))) (nfl f n a 1 9 w4 2) (nfa f n a 1 9 w4 w5 2) w6 f 0 99)) [4, 5] rfl
  have hDc := hD.sub (ws' := (c_X7_readNumber k tx qb n (npos f n a 2) w2 (nI (nS f n (npos f n a 1))) (nfl f n a 1 9 w4 2) (nfa f n a 1 9 w4 w5 2) w6 f 0 99)) [4, 5] (by decide +kernel) rfl
  refine cl_i (w1 := w_X7_readNumber k tx qb n (npos f n a 2) w2 (nI (nS f n (npos f n a 1))) (nfl f n a 1 9 w4 2) (nfa f n a 1 9 w4 w5 2) w6 f 0 99) (wr := [(h, .inr (8, [.ref t, .ref tn, .ref tl, .ref tc, .ref ta])), (t, .inl (k 0, 4, .inl (cI q))), (tn, .inl (k 4, 4, .inr (.inr (.inr (.inr (gr4 rw)))))), ((rw 1), .inl (k 0, 80, .inl (nGr f n a (q 1) G 2)))]) (va_runV (As := [.int 0, .int 99]) (rest := []) ⟨hx, hb, hml, hown, hts⟩ (X7_readNumber l D k H.size tx qb n (npos f n a 2) w2 (nI (nS f n (npos f n a 1))) (nfl f n a 1 9 w4 2) (nfa f n a 1 9 w4 w5 2) w6 f 0 99 (hn) (hnp _)) (cwV 2 hts gX8_readNumbers_X7_readNumber rfl rfl rfl (by decide +kernel) ⟨Nat.le_of_ble_eq_true rfl, Nat.le_of_ble_eq_true rfl⟩) ⟨PR.blind _ _ _ _ _, va_recv hG.1 hP (ci := 7) (q0 := 4) rfl rfl, PR.pre hPc hDc hG [.ref tx, .int 0, .int 99]⟩ rfl rfl hl.1 rfl (lv_room (Nat.le_of_ble_eq_true rfl)) dX8_readNumbers_36 ⟨Nat.le_of_ble_eq_true rfl, Nat.le_of_ble_eq_true rfl⟩) hP hD hS hA [4, 5] [0, 1, 2, 3] rfl rfl (by decide +kernel) (by decide +kernel) (fun r u H locs hq hP hD hS => ?_)
  obtain ⟨zu16, zu17, zu18, zu19⟩ := u
  generalize r = y20 at hq ⊢
  have hq : zu16 = rn (pB f) n (npos f n a 2) ∧ zu17 = rn (pR f 48 57) n zu16 ∧ y20 = dg3 f zu16 (zu17 - zu16) ∧ zu18 = nbF (nfl f n a 1 9 w4 2) (zu17 - zu16) y20 0 99 ∧ zu19 = nbA (nfl f n a 1 9 w4 2) (nfa f n a 1 9 w4 w5 2) (zu17 - zu16) y20 0 99 zu16 := hq
  obtain ⟨rfl, rfl, rfl, rfl, rfl⟩ := hq
  have hP : va_P D vwCl [(h, .inr (8, [.ref t, .ref tn, .ref tl, .ref tc, .ref ta])), (t, .inl (k 0, 4, .inl (cI q))), (tn, .inl (k 4, 4, .inr (.inr (.inr (.inr (gr4 rw)))))), ((rw 1), .inl (k 0, 80, .inl (nGr f n a (q 1) G 2))), (tx, .inr (7, [.ref qb, .int (nI n), .int w2, .int (nI (nS f n (npos f n a 2))), .int (nF f n (npos f n a 2) (nfl f n a 1 9 w4 2) 0 99), .int (nA f n (npos f n a 2) (nfl f n a 1 9 w4 2) (nfa f n a 1 9 w4 w5 2) 0 99), .int w6, .int (nI (nE f n (npos f n a 2)))])), (qb, .inl (k 0, 500, .inl f))] H := hP
  have hD : va_D A [(h, .inr (8, [.ref t, .ref tn, .ref tl, .ref tc, .ref ta])), (t, .inl (k 0, 4, .inl (cI q))), (tn, .inl (k 4, 4, .inr (.inr (.inr (.inr (gr4 rw)))))), ((rw 1), .inl (k 0, 80, .inl (nGr f n a (q 1) G 2))), (tx, .inr (7, [.ref qb, .int (nI n), .int w2, .int (nI (nS f n (npos f n a 2))), .int (nF f n (npos f n a 2) (nfl f n a 1 9 w4 2) 0 99), .int (nA f n (npos f n a 2) (nfl f n a 1 9 w4 2) (nfa f n a 1 9 w4 w5 2) 0 99), .int w6, .int (nI (nE f n (npos f n a 2)))])), (qb, .inl (k 0, 500, .inl f))] := hD
  have hnE : nE f n (npos f n a 2) ≤ n := nE_le (by first | omega | exact hnp _)
  refine tp_i (y := nV f n (npos f n a 2)) rfl ?_
  refine tp_i (y := nvl f n a 2) rfl ?_
  have hP : va_P D vwCl [(h, .inr (8, [.ref t, .ref tn, .ref tl, .ref tc, .ref ta])), (t, .inl (k 0, 4, .inl (cI q))), (tn, .inl (k 4, 4, .inr (.inr (.inr (.inr (gr4 rw)))))), ((rw 1), .inl (k 0, 80, .inl (nGr f n a (q 1) G 2))), (tx, .inr (7, [.ref qb, .int (nI n), .int w2, .int (nI (nS f n (npos f n a 2))), .int (nfl f n a 1 9 w4 3), .int (nfa f n a 1 9 w4 w5 3), .int w6, .int (nI (npos f n a 3))])), (qb, .inl (k 0, 500, .inl f))] H := hP
  have hD : va_D A [(h, .inr (8, [.ref t, .ref tn, .ref tl, .ref tc, .ref ta])), (t, .inl (k 0, 4, .inl (cI q))), (tn, .inl (k 4, 4, .inr (.inr (.inr (.inr (gr4 rw)))))), ((rw 1), .inl (k 0, 80, .inl (nGr f n a (q 1) G 2))), (tx, .inr (7, [.ref qb, .int (nI n), .int w2, .int (nI (nS f n (npos f n a 2))), .int (nfl f n a 1 9 w4 3), .int (nfa f n a 1 9 w4 w5 3), .int w6, .int (nI (npos f n a 3))])), (qb, .inl (k 0, 500, .inl f))] := hD
  refine lv_istore (lv' := [(6, .int (nvl f n a 2)), (5, .int 6), (4, .int 2), (3, .int (nvl f n a 1)), (0, .ref h), (1, .ref tx), (2, .int 1)]) hx hb dX8_readNumbers_39 hl (by decide) rfl (fun ls hl => ?_)
  refine lv_iload hx hb dX8_readNumbers_41 (lv_at hl 2 rfl) ?_
  refine va_getsN (C := RX9) (ref := RX9) (host := RX9) hx hb (hZ.2.2.2.2.2.2.2.2.2.2.2.2.2.2.2.2.2.1) hS hown (va_Nw.use rfl hZ.2.2.2.2.1) (fun _ h9 => h9) dX8_readNumbers_43 ?_
  refine lv_iload_n hx hb dX8_readNumbers_46 rfl (lv_at hl 6 rfl) ?_
  refine va_ti (v := .int (-1)) hx hb (hZ.2.2.2.2.2.2.2.2.2.2.2.2.2.2.2.2.2.2.1) hS (vp_in_nI (n := 1) (by omega) (by omega)) (rfl) dX8_readNumbers_47 ?_
  refine lv_icmp_ne (x := 2) (y := (-1)) (tgt := 66) hx hb dX8_readNumbers_48 (by decide) (fun c21 => ?_) (fun c21 => absurd c21 (by decide))
  refine lv_aload_n hx hb dX8_readNumbers_66 rfl (lv_at hl 4 rfl) ?_
  refine va_get (D := D) (ci := 8) (v := .ref tn) (C := RX8) (T := TX8) (N := 5) hx hb hts hi8 hown hG.1 hP 0 rfl rfl 1 (by decide) (hts (.fieldLink RX8 17 "SleptMatters$Town" "numbers" "[[I") (List.mem_cons_of_mem _ (List.mem_append_left _ (List.mem_append_left _ (List.mem_append_left _ (List.mem_of_getElem? (i := 1) rfl)))))) (fun _ h9 => h9) rfl dX8_readNumbers_67 ?_
  refine lv_iload_n hx hb dX8_readNumbers_70 rfl (lv_at hl 6 rfl) ?_
  refine va_aldA (t := .int) hx hb hG.1 hP 2 4 rfl rfl (vp_in_nI (n := 1) (by omega) (by omega)) dX8_readNumbers_71 ?_
  refine W.eq (g2 := F0 m 72 ls [.ref (rw 1)]) rfl ?_
  refine lv_aload_n hx hb dX8_readNumbers_72 rfl (lv_at hl 4 rfl) ?_
  refine va_get (D := D) (ci := 8) (v := .ref t) (C := RX8) (T := TX8) (N := 5) hx hb hts hi8 hown hG.1 hP 0 rfl rfl 0 (by decide) (hts (.fieldLink RX8 9 "SleptMatters$Town" "counts" "[I") (List.mem_cons_of_mem _ (List.mem_append_left _ (List.mem_append_left _ (List.mem_append_left _ (List.mem_of_getElem? (i := 2) rfl)))))) (fun _ h9 => h9) rfl dX8_readNumbers_73 ?_
  refine lv_iload_n hx hb dX8_readNumbers_76 rfl (lv_at hl 6 rfl) ?_
  refine va_iald hx hb hG.1 hP 1 0 rfl rfl (vp_in_nI (n := 1) (by omega) (by omega)) dX8_readNumbers_77 ?_
  refine tp_i (y := nI (q 1)) (rfl) ?_
  refine lv_iconst (v := 4) hx hb dX8_readNumbers_78 (by decide) ?_
  refine lv_imul hx hb dX8_readNumbers_79 ?_
  refine tp_i (y := nI ((q 1) * 4)) (pk_mul (q 1) 4) ?_
  refine lv_iload hx hb dX8_readNumbers_80 (lv_at hl 2 rfl) ?_
  refine lv_iadd hx hb dX8_readNumbers_82 ?_
  refine tp_i (y := nI ((q 1) * 4 + 2)) (nI_add ((q 1) * 4) 2) ?_
  refine lv_iload hx hb dX8_readNumbers_83 (lv_at hl 0 rfl) ?_
  refine va_iast hx hb hG.1 hP hD hS 3 0 rfl rfl (vp_in_nI (by omega) (by omega)) dX8_readNumbers_85 (fun H locs hP hD hS => ?_)
  rw [nI_clamp (n := (q 1) * 4 + 2) (by omega)] at hP hD
  have hP : va_P D vwCl [(h, .inr (8, [.ref t, .ref tn, .ref tl, .ref tc, .ref ta])), (t, .inl (k 0, 4, .inl (cI q))), (tn, .inl (k 4, 4, .inr (.inr (.inr (.inr (gr4 rw)))))), ((rw 1), .inl (k 0, 80, .inl (upd (nGr f n a (q 1) G 2) ((q 1) * 4 + 2) (nvl f n a 2)))), (tx, .inr (7, [.ref qb, .int (nI n), .int w2, .int (nI (nS f n (npos f n a 2))), .int (nfl f n a 1 9 w4 3), .int (nfa f n a 1 9 w4 w5 3), .int w6, .int (nI (npos f n a 3))])), (qb, .inl (k 0, 500, .inl f))] H := hP
  have hD : va_D A [(h, .inr (8, [.ref t, .ref tn, .ref tl, .ref tc, .ref ta])), (t, .inl (k 0, 4, .inl (cI q))), (tn, .inl (k 4, 4, .inr (.inr (.inr (.inr (gr4 rw)))))), ((rw 1), .inl (k 0, 80, .inl (upd (nGr f n a (q 1) G 2) ((q 1) * 4 + 2) (nvl f n a 2)))), (tx, .inr (7, [.ref qb, .int (nI n), .int w2, .int (nI (nS f n (npos f n a 2))), .int (nfl f n a 1 9 w4 3), .int (nfa f n a 1 9 w4 w5 3), .int w6, .int (nI (npos f n a 3))])), (qb, .inl (k 0, 500, .inl f))] := hD
  have hP : va_P D vwCl [(h, .inr (8, [.ref t, .ref tn, .ref tl, .ref tc, .ref ta])), (t, .inl (k 0, 4, .inl (cI q))), (tn, .inl (k 4, 4, .inr (.inr (.inr (.inr (gr4 rw)))))), ((rw 1), .inl (k 0, 80, .inl (nGr f n a (q 1) G 3))), (tx, .inr (7, [.ref qb, .int (nI n), .int w2, .int (nI (nS f n (npos f n a 2))), .int (nfl f n a 1 9 w4 3), .int (nfa f n a 1 9 w4 w5 3), .int w6, .int (nI (npos f n a 3))])), (qb, .inl (k 0, 500, .inl f))] H := hP
  have hD : va_D A [(h, .inr (8, [.ref t, .ref tn, .ref tl, .ref tc, .ref ta])), (t, .inl (k 0, 4, .inl (cI q))), (tn, .inl (k 4, 4, .inr (.inr (.inr (.inr (gr4 rw)))))), ((rw 1), .inl (k 0, 80, .inl (nGr f n a (q 1) G 3))), (tx, .inr (7, [.ref qb, .int (nI n), .int w2, .int (nI (nS f n (npos f n a 2))), .int (nfl f n a 1 9 w4 3), .int (nfa f n a 1 9 w4 w5 3), .int w6, .int (nI (npos f n a 3))])), (qb, .inl (k 0, 500, .inl f))] := hD
  refine lv_iload hx hb dX8_readNumbers_86 (lv_at hl 0 rfl) ?_
  refine lv_istore_n (lv' := [(3, .int (nvl f n a 2)), (6, .int (nvl f n a 2)), (5, .int 6), (4, .int 2), (0, .ref h), (1, .ref tx), (2, .int 1)]) hx hb dX8_readNumbers_88 rfl hl (by decide) rfl (fun ls hl => ?_)
  refine lv_iinc (v := 3) (lv' := [(4, .int 3), (3, .int (nvl f n a 2)), (6, .int (nvl f n a 2)), (5, .int 6), (0, .ref h), (1, .ref tx), (2, .int 1)]) hx hb dX8_readNumbers_89 hl (k := 3) rfl (by decide) (by decide) rfl (fun ls hl => ?_)
  refine lv_goto (tgt := 5) hx hb dX8_readNumbers_92 (by decide) ?_
  refine lv_iload hx hb dX8_readNumbers_5 (lv_at hl 0 rfl) ?_
  refine va_getsN (C := RX9) (ref := RX9) (host := RX9) hx hb (hZ.2.2.2.2.2.2.2.2.2.2.2.1) hS hown (va_Nw.use rfl hZ.2.1) (fun _ h9 => h9) dX8_readNumbers_7 ?_
  refine lv_iload_n hx hb dX8_readNumbers_10 rfl (lv_at hl 6 rfl) ?_
  refine va_ti (v := .int 3) hx hb (hZ.2.2.2.2.2.2.2.2.2.2.2.2.1) hS (vp_in_nI (n := 1) (by omega) (by omega)) (rfl) dX8_readNumbers_11 ?_
  refine lv_icmp_ge (x := 3) (y := 3) (tgt := 95) hx hb dX8_readNumbers_12 (by decide) (fun c22 => ?_) (fun c22 => absurd c22 (by decide))
  have hP9 := hP.sub (ws' := [(h, .inr (8, [.ref t, .ref tn, .ref tl, .ref tc, .ref ta])), (t, .inl (k 0, 4, .inl (cI q))), (tn, .inl (k 4, 4, .inr (.inr (.inr (.inr (gr4 rw)))))), ((rw 1), .inl (k 0, 80, .inl (nGr f n a (q 1) G 3))), (tx, .inr (7, [.ref qb, .int (nI n), .int w2, .int (nI (nS f n (npos f n a 2))), .int (nfl f n a 1 9 w4 3), .int (nfa f n a 1 9 w4 w5 3), .int w6, .int (nI (npos f n a 3))])), (qb, .inl (k 0, 500, .inl f))]) [0, 1, 2, 3, 4, 5] rfl
  have hD9 := hD.sub (ws' := [(h, .inr (8, [.ref t, .ref tn, .ref tl, .ref tc, .ref ta])), (t, .inl (k 0, 4, .inl (cI q))), (tn, .inl (k 4, 4, .inr (.inr (.inr (.inr (gr4 rw)))))), ((rw 1), .inl (k 0, 80, .inl (nGr f n a (q 1) G 3))), (tx, .inr (7, [.ref qb, .int (nI n), .int w2, .int (nI (nS f n (npos f n a 2))), .int (nfl f n a 1 9 w4 3), .int (nfa f n a 1 9 w4 w5 3), .int w6, .int (nI (npos f n a 3))])), (qb, .inl (k 0, 500, .inl f))]) [0, 1, 2, 3, 4, 5] (by decide +kernel) rfl
  exact W.vret hx hb hr (fun t9 ht _ => ⟨⟨(), rfl, trivial, by rw [ht]; exact hP9, hD9⟩, hS.F ht⟩) hS.2.2 dX8_readNumbers_95
