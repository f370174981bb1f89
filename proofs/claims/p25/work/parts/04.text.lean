theorem dX7_startReading_0 : decode cX7_startReading 0 = .ok (.aload_n 0, 1) := dc_Bk (by decide +kernel)
theorem dX7_startReading_1 : decode cX7_startReading 1 = .ok (.iconst 0, 1) := dc_Bk (by decide +kernel)
theorem dX7_startReading_2 : decode cX7_startReading 2 = .ok (.putfield 34, 3) := dc_Bk (by decide +kernel)
theorem dX7_startReading_5 : decode cX7_startReading 5 = .ok (.aload_n 0, 1) := dc_Bk (by decide +kernel)
theorem dX7_startReading_6 : decode cX7_startReading 6 = .ok (.iconst 0, 1) := dc_Bk (by decide +kernel)
theorem dX7_startReading_7 : decode cX7_startReading 7 = .ok (.putfield 25, 3) := dc_Bk (by decide +kernel)
theorem dX7_startReading_10 : decode cX7_startReading 10 = .ok (.aload_n 0, 1) := dc_Bk (by decide +kernel)
theorem dX7_startReading_11 : decode cX7_startReading 11 = .ok (.iconst (-1), 1) := dc_Bk (by decide +kernel)
theorem dX7_startReading_12 : decode cX7_startReading 12 = .ok (.putfield 28, 3) := dc_Bk (by decide +kernel)
theorem dX7_startReading_15 : decode cX7_startReading 15 = .ok (.return_, 1) := dc_Bk (by decide +kernel)
theorem dX7_isFaulty_0 : decode cX7_isFaulty 0 = .ok (.aload_n 0, 1) := dc_Bk (by decide +kernel)
theorem dX7_isFaulty_1 : decode cX7_isFaulty 1 = .ok (.getfield 25, 3) := dc_Bk (by decide +kernel)
theorem dX7_isFaulty_4 : decode cX7_isFaulty 4 = .ok (.ifCond .eq 7, 3) := dc_Bk (by decide +kernel)
theorem dX7_isFaulty_7 : decode cX7_isFaulty 7 = .ok (.iconst 1, 1) := dc_Bk (by decide +kernel)
theorem dX7_isFaulty_8 : decode cX7_isFaulty 8 = .ok (.goto 4, 3) := dc_Bk (by decide +kernel)
theorem dX7_isFaulty_11 : decode cX7_isFaulty 11 = .ok (.iconst 0, 1) := dc_Bk (by decide +kernel)
theorem dX7_isFaulty_12 : decode cX7_isFaulty 12 = .ok (.ireturn, 1) := dc_Bk (by decide +kernel)
set_option maxRecDepth 20000 in
theorem ggX7_blame_X7_isFaulty : GoodIn wsX7_blame wsX7_isFaulty := goodIn_r _ [7, 1, 8, 9, 10, 11, 12, 13, 14, 15] rfl (by decide +kernel)
set_option maxRecDepth 20000 in
theorem gX7_blame_X7_isFaulty : GoodIn wsX7_blame (wsV RX7 39 RX7 yX7_isFaulty wsX7_isFaulty) := goodIn_app (goodIn_of _ (by decide +kernel)) ggX7_blame_X7_isFaulty
theorem dX7_blame_0 : decode cX7_blame 0 = .ok (.aload_n 0, 1) := dc_Bk (by decide +kernel)
theorem dX7_blame_1 : decode cX7_blame 1 = .ok (.invokevirtual 39, 3) := dc_Bk (by decide +kernel)
theorem dX7_blame_4 : decode cX7_blame 4 = .ok (.ifCond .eq 4, 3) := dc_Bk (by decide +kernel)
theorem dX7_blame_7 : decode cX7_blame 7 = .ok (.return_, 1) := dc_Bk (by decide +kernel)
theorem dX7_blame_8 : decode cX7_blame 8 = .ok (.aload_n 0, 1) := dc_Bk (by decide +kernel)
theorem dX7_blame_9 : decode cX7_blame 9 = .ok (.iload_n 1, 1) := dc_Bk (by decide +kernel)
theorem dX7_blame_10 : decode cX7_blame 10 = .ok (.putfield 25, 3) := dc_Bk (by decide +kernel)
theorem dX7_blame_13 : decode cX7_blame 13 = .ok (.aload_n 0, 1) := dc_Bk (by decide +kernel)
theorem dX7_blame_14 : decode cX7_blame 14 = .ok (.iload_n 2, 1) := dc_Bk (by decide +kernel)
theorem dX7_blame_15 : decode cX7_blame 15 = .ok (.putfield 28, 3) := dc_Bk (by decide +kernel)
theorem dX7_blame_18 : decode cX7_blame 18 = .ok (.return_, 1) := dc_Bk (by decide +kernel)
theorem dX7_skipBlanks_0 : decode cX7_skipBlanks 0 = .ok (.aload_n 0, 1) := dc_Bk (by decide +kernel)
theorem dX7_skipBlanks_1 : decode cX7_skipBlanks 1 = .ok (.getfield 34, 3) := dc_Bk (by decide +kernel)
theorem dX7_skipBlanks_4 : decode cX7_skipBlanks 4 = .ok (.aload_n 0, 1) := dc_Bk (by decide +kernel)
theorem dX7_skipBlanks_5 : decode cX7_skipBlanks 5 = .ok (.getfield 15, 3) := dc_Bk (by decide +kernel)
theorem dX7_skipBlanks_8 : decode cX7_skipBlanks 8 = .ok (.if_icmp .ge 30, 3) := dc_Bk (by decide +kernel)
theorem dX7_skipBlanks_11 : decode cX7_skipBlanks 11 = .ok (.aload_n 0, 1) := dc_Bk (by decide +kernel)
theorem dX7_skipBlanks_12 : decode cX7_skipBlanks 12 = .ok (.getfield 9, 3) := dc_Bk (by decide +kernel)
theorem dX7_skipBlanks_15 : decode cX7_skipBlanks 15 = .ok (.aload_n 0, 1) := dc_Bk (by decide +kernel)
theorem dX7_skipBlanks_16 : decode cX7_skipBlanks 16 = .ok (.getfield 34, 3) := dc_Bk (by decide +kernel)
theorem dX7_skipBlanks_19 : decode cX7_skipBlanks 19 = .ok (.iaload, 1) := dc_Bk (by decide +kernel)
theorem dX7_skipBlanks_20 : decode cX7_skipBlanks 20 = .ok (.bipush 32, 2) := dc_Bk (by decide +kernel)
theorem dX7_skipBlanks_22 : decode cX7_skipBlanks 22 = .ok (.if_icmp .ne 16, 3) := dc_Bk (by decide +kernel)
theorem dX7_skipBlanks_25 : decode cX7_skipBlanks 25 = .ok (.aload_n 0, 1) := dc_Bk (by decide +kernel)
theorem dX7_skipBlanks_26 : decode cX7_skipBlanks 26 = .ok (.dup, 1) := dc_Bk (by decide +kernel)
theorem dX7_skipBlanks_27 : decode cX7_skipBlanks 27 = .ok (.getfield 34, 3) := dc_Bk (by decide +kernel)
theorem dX7_skipBlanks_30 : decode cX7_skipBlanks 30 = .ok (.iconst 1, 1) := dc_Bk (by decide +kernel)
theorem dX7_skipBlanks_31 : decode cX7_skipBlanks 31 = .ok (.iadd, 1) := dc_Bk (by decide +kernel)
theorem dX7_skipBlanks_32 : decode cX7_skipBlanks 32 = .ok (.putfield 34, 3) := dc_Bk (by decide +kernel)
theorem dX7_skipBlanks_35 : decode cX7_skipBlanks 35 = .ok (.goto (-35), 3) := dc_Bk (by decide +kernel)
theorem dX7_skipBlanks_38 : decode cX7_skipBlanks 38 = .ok (.return_, 1) := dc_Bk (by decide +kernel)
set_option maxRecDepth 20000 in
theorem ggX7_hasMore_X7_skipBlanks : GoodIn wsX7_hasMore wsX7_skipBlanks := goodIn_r _ [7, 1, 2, 8, 9, 10, 11, 12, 13, 14, 15, 16] rfl (by decide +kernel)
set_option maxRecDepth 20000 in
theorem gX7_hasMore_X7_skipBlanks : GoodIn wsX7_hasMore (wsV RX7 43 RX7 yX7_skipBlanks wsX7_skipBlanks) := goodIn_app (goodIn_of _ (by decide +kernel)) ggX7_hasMore_X7_skipBlanks
theorem dX7_hasMore_0 : decode cX7_hasMore 0 = .ok (.aload_n 0, 1) := dc_Bk (by decide +kernel)
theorem dX7_hasMore_1 : decode cX7_hasMore 1 = .ok (.invokevirtual 43, 3) := dc_Bk (by decide +kernel)
theorem dX7_hasMore_4 : decode cX7_hasMore 4 = .ok (.aload_n 0, 1) := dc_Bk (by decide +kernel)
theorem dX7_hasMore_5 : decode cX7_hasMore 5 = .ok (.getfield 34, 3) := dc_Bk (by decide +kernel)
theorem dX7_hasMore_8 : decode cX7_hasMore 8 = .ok (.aload_n 0, 1) := dc_Bk (by decide +kernel)
theorem dX7_hasMore_9 : decode cX7_hasMore 9 = .ok (.getfield 15, 3) := dc_Bk (by decide +kernel)
theorem dX7_hasMore_12 : decode cX7_hasMore 12 = .ok (.if_icmp .ge 7, 3) := dc_Bk (by decide +kernel)
theorem dX7_hasMore_15 : decode cX7_hasMore 15 = .ok (.iconst 1, 1) := dc_Bk (by decide +kernel)
theorem dX7_hasMore_16 : decode cX7_hasMore 16 = .ok (.goto 4, 3) := dc_Bk (by decide +kernel)
theorem dX7_hasMore_19 : decode cX7_hasMore 19 = .ok (.iconst 0, 1) := dc_Bk (by decide +kernel)
theorem dX7_hasMore_20 : decode cX7_hasMore 20 = .ok (.ireturn, 1) := dc_Bk (by decide +kernel)
theorem dX7_isBetween_0 : decode cX7_isBetween 0 = .ok (.aload_n 0, 1) := dc_Bk (by decide +kernel)
theorem dX7_isBetween_1 : decode cX7_isBetween 1 = .ok (.getfield 34, 3) := dc_Bk (by decide +kernel)
theorem dX7_isBetween_4 : decode cX7_isBetween 4 = .ok (.aload_n 0, 1) := dc_Bk (by decide +kernel)
theorem dX7_isBetween_5 : decode cX7_isBetween 5 = .ok (.getfield 15, 3) := dc_Bk (by decide +kernel)
theorem dX7_isBetween_8 : decode cX7_isBetween 8 = .ok (.if_icmp .ge 33, 3) := dc_Bk (by decide +kernel)
theorem dX7_isBetween_11 : decode cX7_isBetween 11 = .ok (.aload_n 0, 1) := dc_Bk (by decide +kernel)
theorem dX7_isBetween_12 : decode cX7_isBetween 12 = .ok (.getfield 9, 3) := dc_Bk (by decide +kernel)
theorem dX7_isBetween_15 : decode cX7_isBetween 15 = .ok (.aload_n 0, 1) := dc_Bk (by decide +kernel)
theorem dX7_isBetween_16 : decode cX7_isBetween 16 = .ok (.getfield 34, 3) := dc_Bk (by decide +kernel)
theorem dX7_isBetween_19 : decode cX7_isBetween 19 = .ok (.iaload, 1) := dc_Bk (by decide +kernel)
theorem dX7_isBetween_20 : decode cX7_isBetween 20 = .ok (.iload_n 1, 1) := dc_Bk (by decide +kernel)
theorem dX7_isBetween_21 : decode cX7_isBetween 21 = .ok (.if_icmp .lt 20, 3) := dc_Bk (by decide +kernel)
theorem dX7_isBetween_24 : decode cX7_isBetween 24 = .ok (.aload_n 0, 1) := dc_Bk (by decide +kernel)
theorem dX7_isBetween_25 : decode cX7_isBetween 25 = .ok (.getfield 9, 3) := dc_Bk (by decide +kernel)
theorem dX7_isBetween_28 : decode cX7_isBetween 28 = .ok (.aload_n 0, 1) := dc_Bk (by decide +kernel)
theorem dX7_isBetween_29 : decode cX7_isBetween 29 = .ok (.getfield 34, 3) := dc_Bk (by decide +kernel)
theorem dX7_isBetween_32 : decode cX7_isBetween 32 = .ok (.iaload, 1) := dc_Bk (by decide +kernel)
theorem dX7_isBetween_33 : decode cX7_isBetween 33 = .ok (.iload_n 2, 1) := dc_Bk (by decide +kernel)
theorem dX7_isBetween_34 : decode cX7_isBetween 34 = .ok (.if_icmp .gt 7, 3) := dc_Bk (by decide +kernel)
theorem dX7_isBetween_37 : decode cX7_isBetween 37 = .ok (.iconst 1, 1) := dc_Bk (by decide +kernel)
theorem dX7_isBetween_38 : decode cX7_isBetween 38 = .ok (.goto 4, 3) := dc_Bk (by decide +kernel)
theorem dX7_isBetween_41 : decode cX7_isBetween 41 = .ok (.iconst 0, 1) := dc_Bk (by decide +kernel)
theorem dX7_isBetween_42 : decode cX7_isBetween 42 = .ok (.ireturn, 1) := dc_Bk (by decide +kernel)
set_option maxRecDepth 20000 in
theorem ggX7_readWord_X7_skipBlanks : GoodIn wsX7_readWord wsX7_skipBlanks := goodIn_r _ [8, 1, 9, 10, 15, 16, 17, 18, 19, 20, 21, 22] rfl (by decide +kernel)
set_option maxRecDepth 20000 in
theorem gX7_readWord_X7_skipBlanks : GoodIn wsX7_readWord (wsV RX7 43 RX7 yX7_skipBlanks wsX7_skipBlanks) := goodIn_app (goodIn_of _ (by decide +kernel)) ggX7_readWord_X7_skipBlanks
set_option maxRecDepth 20000 in
theorem ggX7_readWord_X7_isBetween : GoodIn wsX7_readWord wsX7_isBetween := goodIn_r _ [14, 1, 9, 10, 15, 16, 17, 18, 19, 20, 21, 22] rfl (by decide +kernel)
set_option maxRecDepth 20000 in
theorem gX7_readWord_X7_isBetween : GoodIn wsX7_readWord (wsV RX7 46 RX7 yX7_isBetween wsX7_isBetween) := goodIn_app (goodIn_of _ (by decide +kernel)) ggX7_readWord_X7_isBetween
theorem dX7_readWord_0 : decode cX7_readWord 0 = .ok (.aload_n 0, 1) := dc_Bk (by decide +kernel)
theorem dX7_readWord_1 : decode cX7_readWord 1 = .ok (.invokevirtual 43, 3) := dc_Bk (by decide +kernel)
theorem dX7_readWord_4 : decode cX7_readWord 4 = .ok (.aload_n 0, 1) := dc_Bk (by decide +kernel)
theorem dX7_readWord_5 : decode cX7_readWord 5 = .ok (.aload_n 0, 1) := dc_Bk (by decide +kernel)
theorem dX7_readWord_6 : decode cX7_readWord 6 = .ok (.getfield 34, 3) := dc_Bk (by decide +kernel)
theorem dX7_readWord_9 : decode cX7_readWord 9 = .ok (.putfield 19, 3) := dc_Bk (by decide +kernel)
theorem dX7_readWord_12 : decode cX7_readWord 12 = .ok (.aload_n 0, 1) := dc_Bk (by decide +kernel)
theorem dX7_readWord_13 : decode cX7_readWord 13 = .ok (.bipush 97, 2) := dc_Bk (by decide +kernel)
theorem dX7_readWord_15 : decode cX7_readWord 15 = .ok (.bipush 122, 2) := dc_Bk (by decide +kernel)
theorem dX7_readWord_17 : decode cX7_readWord 17 = .ok (.invokevirtual 46, 3) := dc_Bk (by decide +kernel)
theorem dX7_readWord_20 : decode cX7_readWord 20 = .ok (.ifCond .eq 16, 3) := dc_Bk (by decide +kernel)
theorem dX7_readWord_23 : decode cX7_readWord 23 = .ok (.aload_n 0, 1) := dc_Bk (by decide +kernel)
theorem dX7_readWord_24 : decode cX7_readWord 24 = .ok (.dup, 1) := dc_Bk (by decide +kernel)
theorem dX7_readWord_25 : decode cX7_readWord 25 = .ok (.getfield 34, 3) := dc_Bk (by decide +kernel)
theorem dX7_readWord_28 : decode cX7_readWord 28 = .ok (.iconst 1, 1) := dc_Bk (by decide +kernel)
theorem dX7_readWord_29 : decode cX7_readWord 29 = .ok (.iadd, 1) := dc_Bk (by decide +kernel)
theorem dX7_readWord_30 : decode cX7_readWord 30 = .ok (.putfield 34, 3) := dc_Bk (by decide +kernel)
theorem dX7_readWord_33 : decode cX7_readWord 33 = .ok (.goto (-21), 3) := dc_Bk (by decide +kernel)
theorem dX7_readWord_36 : decode cX7_readWord 36 = .ok (.aload_n 0, 1) := dc_Bk (by decide +kernel)
theorem dX7_readWord_37 : decode cX7_readWord 37 = .ok (.aload_n 0, 1) := dc_Bk (by decide +kernel)
theorem dX7_readWord_38 : decode cX7_readWord 38 = .ok (.getfield 34, 3) := dc_Bk (by decide +kernel)
theorem dX7_readWord_41 : decode cX7_readWord 41 = .ok (.putfield 31, 3) := dc_Bk (by decide +kernel)
theorem dX7_readWord_44 : decode cX7_readWord 44 = .ok (.return_, 1) := dc_Bk (by decide +kernel)
def rnp (p : Nat → Bool) (n : Nat) : Nat → Nat → Nat
  | 0, a => a
  | j + 1, a => if a < n ∧ p a = true then rnp p n j (a + 1) else a
def rn (p : Nat → Bool) (n a : Nat) : Nat := rnp p n (n - a) a
theorem rn_stop {p : Nat → Bool} {n a : Nat} (h : ¬ (a < n ∧ p a = true)) : rn p n a = a := by
  unfold rn
  cases n - a with
  | zero => rfl
  | succ j => exact if_neg h
theorem rn_step {p : Nat → Bool} {n a : Nat} (h : a < n) (h2 : p a = true) : rn p n a = rn p n (a + 1) := by
  unfold rn
  rw [show n - a = (n - (a + 1)) + 1 by omega]
  exact if_pos ⟨h, h2⟩
theorem rnp_ge (p : Nat → Bool) (n : Nat) : ∀ j a, a ≤ rnp p n j a
  | 0, a => Nat.le_refl a
  | j + 1, a => by
    unfold rnp
    split
    · have := rnp_ge p n j (a + 1); omega
    · exact Nat.le_refl a
theorem rnp_le (p : Nat → Bool) (n : Nat) : ∀ j a, a ≤ n → rnp p n j a ≤ n
  | 0, a, h => h
  | j + 1, a, h => by
    unfold rnp
    split
    · rename_i q
      exact rnp_le p n j (a + 1) q.1
    · exact h
theorem rn_ge (p : Nat → Bool) (n a : Nat) : a ≤ rn p n a := rnp_ge p n _ a
theorem rn_le (p : Nat → Bool) {n a : Nat} (h : a ≤ n) : rn p n a ≤ n := rnp_le p n _ a h
def pB (f : Nat → Int32) : Nat → Bool := fun i => decide (f i = 32)
def pR (f : Nat → Int32) (lo hi : Int32) : Nat → Bool := fun i => decide (lo ≤ f i) && decide (f i ≤ hi)
def btw (f : Nat → Int32) (n a : Nat) (lo hi : Int32) : Int32 := if a < n ∧ pR f lo hi a = true then 1 else 0
theorem btw_eq {f : Nat → Int32} {n a : Nat} {lo hi : Int32} (h : btw f n a lo hi = 0) : ¬ (a < n ∧ pR f lo hi a = true) := fun q => by
  unfold btw at h
  rw [if_pos q] at h
  exact absurd h (by decide)
theorem btw_ne {f : Nat → Int32} {n a : Nat} {lo hi : Int32} (h : ¬ btw f n a lo hi = 0) : a < n ∧ pR f lo hi a = true := by
  unfold btw at h
  by_cases q : a < n ∧ pR f lo hi a = true
  · exact q
  · rw [if_neg q] at h
    exact absurd rfl h
def nz (v : Int32) : Int32 := if v = 0 then 0 else 1
theorem nz_eq {v : Int32} (h : nz v = 0) : v = 0 := by
  unfold nz at h
  by_cases q : v = 0
  · exact q
  · rw [if_neg q] at h; exact absurd h (by decide)
theorem nz_ne {v : Int32} (h : ¬ nz v = 0) : ¬ v = 0 := fun q => h (if_pos q)
def bl (w nu : Int32) : Int32 := if w = 0 then nu else w
def bla (w fa ba : Int32) : Int32 := if w = 0 then ba else fa
def dg3 (f : Nat → Int32) (s9 : Nat) : Nat → Int32
  | 0 => 0
  | j + 1 => if j < 3 then dg3 f s9 j * 10 + f (s9 + j) - 48 else dg3 f s9 j
theorem dg3_lo {f : Nat → Int32} {s9 i : Nat} (h : i - s9 < 3) (hi : s9 ≤ i) : dg3 f s9 (i - s9) * 10 + f i - 48 = dg3 f s9 (i + 1 - s9) := by
  rw [show i + 1 - s9 = (i - s9) + 1 by omega]
  show _ = (if i - s9 < 3 then dg3 f s9 (i - s9) * 10 + f (s9 + (i - s9)) - 48 else dg3 f s9 (i - s9))
  rw [if_pos h, show s9 + (i - s9) = i by omega]
theorem dg3_hi {f : Nat → Int32} {s9 i : Nat} (h : 3 ≤ i - s9) (hi : s9 ≤ i) : dg3 f s9 (i - s9) = dg3 f s9 (i + 1 - s9) := by
  rw [show i + 1 - s9 = (i - s9) + 1 by omega]
  show _ = (if i - s9 < 3 then dg3 f s9 (i - s9) * 10 + f (s9 + (i - s9)) - 48 else dg3 f s9 (i - s9))
  rw [if_neg (by omega)]
def nbF (w : Int32) (fig : Nat) (v lo hi : Int32) : Int32 := if fig = 0 then bl w 1 else if 3 < fig ∨ v < lo ∨ hi < v then bl w 2 else w
def nbA (w fa : Int32) (fig : Nat) (v lo hi : Int32) (s9 : Nat) : Int32 := if fig = 0 then bla w fa (nI s9) else if 3 < fig ∨ v < lo ∨ hi < v then bla w fa (nI s9) else fa
def byA (pk : Int64) (m9 : Nat) : Int32 := ((pk.toUInt64 >>> ((nI (8 * m9)).toInt64.toUInt64 &&& Int64.toUInt64 63)).toInt64 &&& 255).toInt32
def adF (f : Nat → Int32) (pk : Int64) (z j : Nat) : Nat → Nat → Int32
  | 0 => f
  | i + 1 => upd (adF f pk z j i) (z + i) (byA pk (j - 1 - i))

abbrev c_X7_startReading (k : Nat → ClassId) (h : Nat) (qb : Nat) (v1 : Int32) (v2 : Int32) (v3 : Int32) (v4 : Int32) (v5 : Int32) (v6 : Int32) (v7 : Int32) : va_W := [(h, .inr (7, [.ref qb, .int v1, .int v2, .int v3, .int v4, .int v5, .int v6, .int v7]))]
abbrev r_X7_startReading : Room := { frames := 0, cells := 0, slots := 0, locals := 0 }
def w_X7_startReading (k : Nat → ClassId) (h : Nat) (qb : Nat) (v1 : Int32) (v2 : Int32) (v3 : Int32) (v4 : Int32) (v5 : Int32) (v6 : Int32) (v7 : Int32) : Unit → va_W := fun _ => [(h, .inr (7, [.ref qb, .int v1, .int v2, .int v3, .int 0, .int (-1), .int v6, .int 0]))]
def p_X7_startReading (k : Nat → ClassId) (h : Nat) (qb : Nat) (v1 : Int32) (v2 : Int32) (v3 : Int32) (v4 : Int32) (v5 : Int32) (v6 : Int32) (v7 : Int32) : Unit → Prop := fun (u : Unit) => True
abbrev q_X7_startReading (D : va_G) (k : Nat → ClassId) (h : Nat) (qb : Nat) (v1 : Int32) (v2 : Int32) (v3 : Int32) (v4 : Int32) (v5 : Int32) (v6 : Int32) (v7 : Int32) (A : Nat → Prop) : Array Value → State → Outcome → State → Prop := va_Qv (p_X7_startReading k h qb v1 v2 v3 v4 v5 v6 v7) (fun u9 t9 => BO D (w_X7_startReading k h qb v1 v2 v3 v4 v5 v6 v7 u9) A t9) A
set_option maxHeartbeats 2000000 in
set_option maxRecDepth 100000 in
theorem X7_startReading (l : Launch) (D : va_G) (k : Nat → ClassId) (sz : Nat) (h : Nat) (qb : Nat) (v1 : Int32) (v2 : Int32) (v3 : Int32) (v4 : Int32) (v5 : Int32) (v6 : Int32) (v7 : Int32)  : Met l yX7_startReading wsX7_startReading r_X7_startReading (va_Pc [.ref h] (PR D k (c_X7_startReading k h qb v1 v2 v3 v4 v5 v6 v7) sz)) (q_X7_startReading D k h qb v1 v2 v3 v4 v5 v6 v7 (va_A (c_X7_startReading k h qb v1 v2 v3 v4 v5 v6 v7) sz)) 0 0 (va_A (c_X7_startReading k h qb v1 v2 v3 v4 v5 v6 v7) sz) := by
  refine Met.ofW (cc := cX7_startReading) (maxL := 1) (ret := none) (by decide) rfl ?_
  intro p e s m args below meth c s₁ B hml hv
  obtain ⟨rfl, hsz, hP, hG, hD0⟩ := hv
  have hx := B.exec
  have hb := B.bytes
  have hr := B.returns
  have hts := atoms_spec (ws := wsX7_startReading) B.pre
  have hown : s.vm.findClass RX7 = some m.cls := findClass_of_methodNamed B.named
  have hlocks := B.notSynchronized
  have hi7 : ∀ w ∈ wsX70, w ∈ wsX7_startReading := fun _ h => List.mem_cons_of_mem _ (List.mem_append_right _ h)
  subst hsz
  have hD := hD0.self (sz := s.heap.size)
  generalize hAe : va_A (c_X7_startReading k h qb v1 v2 v3 v4 v5 v6 v7) s.heap.size = A at hD ⊢
  have hA : ∀ q : Nat, s.heap.size ≤ q → A q := fun q h => by rw [← hAe]; exact Or.inr h
  have hS : va_S A s.heap s.heap [] := va_S.rf
  have hP : va_P D vwCl [(h, .inr (7, [.ref qb, .int v1, .int v2, .int v3, .int v4, .int v5, .int v6, .int v7]))] s.heap := hP
  have hD : va_D A [(h, .inr (7, [.ref qb, .int v1, .int v2, .int v3, .int v4, .int v5, .int v6, .int v7]))] := hD
  have hl := lv_entry ([.ref h]) (n := 1) (Nat.le_of_ble_eq_true rfl)
  rw [lg_entry_eq]
  generalize (lg_sl ([.ref h]) ++ List.replicate (1 - (lg_sl ([.ref h])).length) Slot.unset).toArray = ls at hl ⊢
  have hl : lv_has ls 1 [(0, .ref h)] := hl
  refine lv_aload_n hx hb dX7_startReading_0 rfl (lv_at hl 0 rfl) ?_
  refine lv_iconst (v := 0) hx hb dX7_startReading_1 (by decide) ?_
  refine va_put (D := D) (ci := 7) (v := .int 0) (ty := .int) (C := RX7) (T := TX7) (N := 8) hx hb hts hi7 tyX7 tyX7_ok nmX7 hown hG.1 hP hD hS 0 rfl rfl 7 (by decide) (hts (.fieldLink RX7 34 "SleptMatters$Text" "at" "I") (List.mem_cons_of_mem _ (List.mem_append_left _ (List.mem_of_getElem? (i := 0) rfl)))) (fun _ h9 => h9) rfl (by decide +kernel) rfl rfl (Nat.le_of_ble_eq_true rfl) dX7_startReading_2 (fun H locs hP hD hS => ?_)
  have hP : va_P D vwCl [(h, .inr (7, [.ref qb, .int v1, .int v2, .int v3, .int v4, .int v5, .int v6, .int 0]))] H := hP
  have hD : va_D A [(h, .inr (7, [.ref qb, .int v1, .int v2, .int v3, .int v4, .int v5, .int v6, .int 0]))] := hD
  refine lv_aload_n hx hb dX7_startReading_5 rfl (lv_at hl 0 rfl) ?_
  refine lv_iconst (v := 0) hx hb dX7_startReading_6 (by decide) ?_
  refine va_put (D := D) (ci := 7) (v := .int 0) (ty := .int) (C := RX7) (T := TX7) (N := 8) hx hb hts hi7 tyX7 tyX7_ok nmX7 hown hG.1 hP hD hS 0 rfl rfl 4 (by decide) (hts (.fieldLink RX7 25 "SleptMatters$Text" "faultNumber" "I") (List.mem_cons_of_mem _ (List.mem_append_left _ (List.mem_of_getElem? (i := 1) rfl)))) (fun _ h9 => h9) rfl (by decide +kernel) rfl rfl (Nat.le_of_ble_eq_true rfl) dX7_startReading_7 (fun H locs hP hD hS => ?_)
  have hP : va_P D vwCl [(h, .inr (7, [.ref qb, .int v1, .int v2, .int v3, .int 0, .int v5, .int v6, .int 0]))] H := hP
  have hD : va_D A [(h, .inr (7, [.ref qb, .int v1, .int v2, .int v3, .int 0, .int v5, .int v6, .int 0]))] := hD
  refine lv_aload_n hx hb dX7_startReading_10 rfl (lv_at hl 0 rfl) ?_
  refine lv_iconst (v := (-1)) hx hb dX7_startReading_11 (by decide) ?_
  refine va_put (D := D) (ci := 7) (v := .int (-1)) (ty := .int) (C := RX7) (T := TX7) (N := 8) hx hb hts hi7 tyX7 tyX7_ok nmX7 hown hG.1 hP hD hS 0 rfl rfl 5 (by decide) (hts (.fieldLink RX7 28 "SleptMatters$Text" "faultAt" "I") (List.mem_cons_of_mem _ (List.mem_append_left _ (List.mem_of_getElem? (i := 2) rfl)))) (fun _ h9 => h9) rfl (by decide +kernel) rfl rfl (Nat.le_of_ble_eq_true rfl) dX7_startReading_12 (fun H locs hP hD hS => ?_)
  have hP : va_P D vwCl [(h, .inr (7, [.ref qb, .int v1, .int v2, .int v3, .int 0, .int (-1), .int v6, .int 0]))] H := hP
  have hD : va_D A [(h, .inr (7, [.ref qb, .int v1, .int v2, .int v3, .int 0, .int (-1), .int v6, .int 0]))] := hD
  have hP9 := hP.sub (ws' := [(h, .inr (7, [.ref qb, .int v1, .int v2, .int v3, .int 0, .int (-1), .int v6, .int 0]))]) [0] rfl
  have hD9 := hD.sub (ws' := [(h, .inr (7, [.ref qb, .int v1, .int v2, .int v3, .int 0, .int (-1), .int v6, .int 0]))]) [0] (by decide +kernel) rfl
  exact W.vret hx hb hr (fun t9 ht _ => ⟨⟨(), rfl, trivial, by rw [ht]; exact hP9, hD9⟩, hS.F ht⟩) hS.2.2 dX7_startReading_15

abbrev c_X7_isFaulty (k : Nat → ClassId) (h : Nat) (qb : Nat) (v1 : Int32) (v2 : Int32) (v3 : Int32) (v4 : Int32) (v5 : Int32) (v6 : Int32) (v7 : Int32) : va_W := [(h, .inr (7, [.ref qb, .int v1, .int v2, .int v3, .int v4, .int v5, .int v6, .int v7]))]
abbrev r_X7_isFaulty : Room := { frames := 0, cells := 0, slots := 0, locals := 0 }
abbrev q_X7_isFaulty (k : Nat → ClassId) (h : Nat) (qb : Nat) (v1 : Int32) (v2 : Int32) (v3 : Int32) (v4 : Int32) (v5 : Int32) (v6 : Int32) (v7 : Int32) : Array Value → State → Outcome → State → Prop := vp_Si (fun r => r = nz v4)
set_option maxHeartbeats 2000000 in
set_option maxRecDepth 100000 in
theorem X7_isFaulty (l : Launch) (D : va_G) (k : Nat → ClassId) (h : Nat) (qb : Nat) (v1 : Int32) (v2 : Int32) (v3 : Int32) (v4 : Int32) (v5 : Int32) (v6 : Int32) (v7 : Int32)  : Met l yX7_isFaulty wsX7_isFaulty r_X7_isFaulty (va_Pc [.ref h] (PS D k (c_X7_isFaulty k h qb v1 v2 v3 v4 v5 v6 v7))) (q_X7_isFaulty k h qb v1 v2 v3 v4 v5 v6 v7) 0 0 (fun _ => False) := by
  refine Met.ofW (cc := cX7_isFaulty) (maxL := 1) (ret := (some .boolean)) (by decide) rfl ?_
  intro p e s m args below meth c s₁ B hml hv
  obtain ⟨rfl, hP, hG⟩ := hv
  have hx := B.exec
  have hb := B.bytes
  have hr := B.returns
  have hts := atoms_spec (ws := wsX7_isFaulty) B.pre
  have hown : s.vm.findClass RX7 = some m.cls := findClass_of_methodNamed B.named
  have hlocks := B.notSynchronized
  have hi7 : ∀ w ∈ wsX70, w ∈ wsX7_isFaulty := fun _ h => List.mem_cons_of_mem _ (List.mem_append_right _ h)
  have hP : va_P D vwCl [(h, .inr (7, [.ref qb, .int v1, .int v2, .int v3, .int v4, .int v5, .int v6, .int v7]))] s.heap := hP
  have hl := lv_entry ([.ref h]) (n := 1) (Nat.le_of_ble_eq_true rfl)
  rw [lg_entry_eq]
  generalize (lg_sl ([.ref h]) ++ List.replicate (1 - (lg_sl ([.ref h])).length) Slot.unset).toArray = ls at hl ⊢
  have hl : lv_has ls 1 [(0, .ref h)] := hl
  refine lv_aload_n hx hb dX7_isFaulty_0 rfl (lv_at hl 0 rfl) ?_
  refine va_get (D := D) (ci := 7) (v := .int v4) (C := RX7) (T := TX7) (N := 8) hx hb hts hi7 hown hG.1 hP 0 rfl rfl 4 (by decide) (hts (.fieldLink RX7 25 "SleptMatters$Text" "faultNumber" "I") (List.mem_cons_of_mem _ (List.mem_append_left _ (List.mem_of_getElem? (i := 0) rfl)))) (fun _ h9 => h9) rfl dX7_isFaulty_1 ?_
  refine lv_if_eq (x := v4) (tgt := 11) hx hb dX7_isFaulty_4 (by decide) (fun c1 => ?_) (fun c1 => ?_)
  · skip
    refine lv_iconst (v := 0) hx hb dX7_isFaulty_11 (by decide) ?_
    exact W.zret (v := 0) hx hb hr (rfl) (fun t9 ht _ => ⟨0, rfl, by simp [nz, c1], ht⟩) (fun q h => by cases h) dX7_isFaulty_12
  · skip
    refine lv_iconst (v := 1) hx hb dX7_isFaulty_7 (by decide) ?_
    refine lv_goto (tgt := 12) hx hb dX7_isFaulty_8 (by decide) ?_
    exact W.zret (v := 1) hx hb hr (rfl) (fun t9 ht _ => ⟨1, rfl, by simp [nz, c1], ht⟩) (fun q h => by cases h) dX7_isFaulty_12

abbrev c_X7_blame (k : Nat → ClassId) (h : Nat) (qb : Nat) (v1 : Int32) (v2 : Int32) (v3 : Int32) (v4 : Int32) (v5 : Int32) (v6 : Int32) (v7 : Int32) (nu : Int32) (ba : Int32) : va_W := [(h, .inr (7, [.ref qb, .int v1, .int v2, .int v3, .int v4, .int v5, .int v6, .int v7]))]
abbrev r_X7_blame : Room := { frames := 1, cells := 0, slots := 0, locals := 20 }
def w_X7_blame (k : Nat → ClassId) (h : Nat) (qb : Nat) (v1 : Int32) (v2 : Int32) (v3 : Int32) (v4 : Int32) (v5 : Int32) (v6 : Int32) (v7 : Int32) (nu : Int32) (ba : Int32) : Int32 × Int32 → va_W := fun u => match u with | (fw, fa) => [(h, .inr (7, [.ref qb, .int v1, .int v2, .int v3, .int fw, .int fa, .int v6, .int v7]))]
def p_X7_blame (k : Nat → ClassId) (h : Nat) (qb : Nat) (v1 : Int32) (v2 : Int32) (v3 : Int32) (v4 : Int32) (v5 : Int32) (v6 : Int32) (v7 : Int32) (nu : Int32) (ba : Int32) : Int32 × Int32 → Prop := fun (u : Int32 × Int32) => match u with | (fw, fa) => fw = bl v4 nu ∧ fa = bla v4 v5 ba
abbrev q_X7_blame (D : va_G) (k : Nat → ClassId) (h : Nat) (qb : Nat) (v1 : Int32) (v2 : Int32) (v3 : Int32) (v4 : Int32) (v5 : Int32) (v6 : Int32) (v7 : Int32) (nu : Int32) (ba : Int32) (A : Nat → Prop) : Array Value → State → Outcome → State → Prop := va_Qv (p_X7_blame k h qb v1 v2 v3 v4 v5 v6 v7 nu ba) (fun u9 t9 => BO D (w_X7_blame k h qb v1 v2 v3 v4 v5 v6 v7 nu ba u9) A t9) A
set_option maxHeartbeats 2000000 in
set_option maxRecDepth 100000 in
theorem X7_blame (l : Launch) (D : va_G) (k : Nat → ClassId) (sz : Nat) (h : Nat) (qb : Nat) (v1 : Int32) (v2 : Int32) (v3 : Int32) (v4 : Int32) (v5 : Int32) (v6 : Int32) (v7 : Int32) (nu : Int32) (ba : Int32)  : Met l yX7_blame wsX7_blame r_X7_blame (va_Pc [.ref h, .int nu, .int ba] (PR D k (c_X7_blame k h qb v1 v2 v3 v4 v5 v6 v7 nu ba) sz)) (q_X7_blame D k h qb v1 v2 v3 v4 v5 v6 v7 nu ba (va_A (c_X7_blame k h qb v1 v2 v3 v4 v5 v6 v7 nu ba) sz)) 0 0 (va_A (c_X7_blame k h qb v1 v2 v3 v4 v5 v6 v7 nu ba) sz) := by
  refine Met.ofW (cc := cX7_blame) (maxL := 3) (ret := none) (by decide) rfl ?_
  intro p e s m args below meth c s₁ B hml hv
  obtain ⟨rfl, hsz, hP, hG, hD0⟩ := hv
  have hx := B.exec
  have hb := B.bytes
  have hr := B.returns
  have hts := atoms_spec (ws := wsX7_blame) B.pre
  have hown : s.vm.findClass RX7 = some m.cls := findClass_of_methodNamed B.named
  have hlocks := B.notSynchronized
  have hi7 : ∀ w ∈ wsX70, w ∈ wsX7_blame := fun _ h => List.mem_cons_of_mem _ (List.mem_append_right _ h)
  subst hsz
  have hD := hD0.self (sz := s.heap.size)
  generalize hAe : va_A (c_X7_blame k h qb v1 v2 v3 v4 v5 v6 v7 nu ba) s.heap.size = A at hD ⊢
  have hA : ∀ q : Nat, s.heap.size ≤ q → A q := fun q h => by rw [← hAe]; exact Or.inr h
  have hS : va_S A s.heap s.heap [] := va_S.rf
  have hP : va_P D vwCl [(h, .inr (7, [.ref qb, .int v1, .int v2, .int v3, .int v4, .int v5, .int v6, .int v7]))] s.heap := hP
  have hD : va_D A [(h, .inr (7, [.ref qb, .int v1, .int v2, .int v3, .int v4, .int v5, .int v6, .int v7]))] := hD
  have hl := lv_entry ([.ref h, .int nu, .int ba]) (n := 3) (Nat.le_of_ble_eq_true rfl)
  rw [lg_entry_eq]
  generalize (lg_sl ([.ref h, .int nu, .int ba]) ++ List.replicate (3 - (lg_sl ([.ref h, .int nu, .int ba])).length) Slot.unset).toArray = ls at hl ⊢
  have hl : lv_has ls 3 [(0, .ref h), (1, .int nu), (2, .int ba)] := hl
  refine lv_aload_n hx hb dX7_blame_0 rfl (lv_at hl 0 rfl) ?_
  have hPc := hP.sub (ws' := (c_X7_isFaulty k h qb v1 v2 v3 v4 v5 v6 v7)) [0] rfl
  refine vp_callSi (va_Run.run (va_runV (As := []) (rest := []) ⟨hx, hb, hml, hown, hts⟩ (X7_isFaulty l D k h qb v1 v2 v3 v4 v5 v6 v7 ) (cwV 0 hts gX7_blame_X7_isFaulty rfl rfl rfl (by decide +kernel) ⟨Nat.le_of_ble_eq_true rfl, Nat.le_of_ble_eq_true rfl⟩) ⟨PS.blind _ _ _ _, va_recv hG.1 hP (ci := 7) (q0 := 0) rfl rfl, PS.pre hPc hG [.ref h]⟩ rfl rfl hl.1 rfl (lv_room (Nat.le_of_ble_eq_true rfl)) dX7_blame_1 ⟨Nat.le_of_ble_eq_true rfl, Nat.le_of_ble_eq_true rfl⟩)) (fun r hq => ?_)
  generalize r = y1 at hq ⊢
  have hq : y1 = nz v4 := hq
  refine tp_i (y := nz v4) (hq) ?_
  refine lv_if_eq (x := nz v4) (tgt := 8) hx hb dX7_blame_4 (by decide) (fun c2 => ?_) (fun c2 => ?_)
  · skip
    have e9 := nz_eq c2
    refine lv_aload_n hx hb dX7_blame_8 rfl (lv_at hl 0 rfl) ?_
    refine lv_iload_n hx hb dX7_blame_9 rfl (lv_at hl 1 rfl) ?_
    refine va_put (D := D) (ci := 7) (v := .int nu) (ty := .int) (C := RX7) (T := TX7) (N := 8) hx hb hts hi7 tyX7 tyX7_ok nmX7 hown hG.1 hP hD hS 0 rfl rfl 4 (by decide) (hts (.fieldLink RX7 25 "SleptMatters$Text" "faultNumber" "I") (List.mem_cons_of_mem _ (List.mem_append_left _ (List.mem_of_getElem? (i := 0) rfl)))) (fun _ h9 => h9) rfl (by decide +kernel) rfl rfl (Nat.le_of_ble_eq_true rfl) dX7_blame_10 (fun H locs hP hD hS => ?_)
    have hP : va_P D vwCl [(h, .inr (7, [.ref qb, .int v1, .int v2, .int v3, .int nu, .int v5, .int v6, .int v7]))] H := hP
    have hD : va_D A [(h, .inr (7, [.ref qb, .int v1, .int v2, .int v3, .int nu, .int v5, .int v6, .int v7]))] := hD
    refine lv_aload_n hx hb dX7_blame_13 rfl (lv_at hl 0 rfl) ?_
    refine lv_iload_n hx hb dX7_blame_14 rfl (lv_at hl 2 rfl) ?_
    refine va_put (D := D) (ci := 7) (v := .int ba) (ty := .int) (C := RX7) (T := TX7) (N := 8) hx hb hts hi7 tyX7 tyX7_ok nmX7 hown hG.1 hP hD hS 0 rfl rfl 5 (by decide) (hts (.fieldLink RX7 28 "SleptMatters$Text" "faultAt" "I") (List.mem_cons_of_mem _ (List.mem_append_left _ (List.mem_of_getElem? (i := 1) rfl)))) (fun _ h9 => h9) rfl (by decide +kernel) rfl rfl (Nat.le_of_ble_eq_true rfl) dX7_blame_15 (fun H locs hP hD hS => ?_)
    have hP : va_P D vwCl [(h, .inr (7, [.ref qb, .int v1, .int v2, .int v3, .int nu, .int ba, .int v6, .int v7]))] H := hP
    have hD : va_D A [(h, .inr (7, [.ref qb, .int v1, .int v2, .int v3, .int nu, .int ba, .int v6, .int v7]))] := hD
    have hP9 := hP.sub (ws' := [(h, .inr (7, [.ref qb, .int v1, .int v2, .int v3, .int nu, .int ba, .int v6, .int v7]))]) [0] rfl
    have hD9 := hD.sub (ws' := [(h, .inr (7, [.ref qb, .int v1, .int v2, .int v3, .int nu, .int ba, .int v6, .int v7]))]) [0] (by decide +kernel) rfl
    exact W.vret hx hb hr (fun t9 ht _ => ⟨⟨(nu, ba), rfl, ⟨(if_pos e9).symm, (if_pos e9).symm⟩, by rw [ht]; exact hP9, hD9⟩, hS.F ht⟩) hS.2.2 dX7_blame_18
  · skip
    have e9 := nz_ne c2
    have hP9 := hP.sub (ws' := [(h, .inr (7, [.ref qb, .int v1, .int v2, .int v3, .int v4, .int v5, .int v6, .int v7]))]) [0] rfl
    have hD9 := hD.sub (ws' := [(h, .inr (7, [.ref qb, .int v1, .int v2, .int v3, .int v4, .int v5, .int v6, .int v7]))]) [0] (by decide +kernel) rfl
    exact W.vret hx hb hr (fun t9 ht _ => ⟨⟨(v4, v5), rfl, ⟨(if_neg e9).symm, (if_neg e9).symm⟩, by rw [ht]; exact hP9, hD9⟩, hS.F ht⟩) hS.2.2 dX7_blame_7

abbrev c_X7_skipBlanks (k : Nat → ClassId) (h : Nat) (qb : Nat) (n : Nat) (a : Nat) (w2 : Int32) (w3 : Int32) (w4 : Int32) (w5 : Int32) (w6 : Int32) (f : Nat → Int32) : va_W := [(h, .inr (7, [.ref qb, .int (nI n), .int w2, .int w3, .int w4, .int w5, .int w6, .int (nI a)])), (qb, .inl (k 0, 500, .inl f))]
abbrev r_X7_skipBlanks : Room := { frames := 0, cells := 0, slots := 0, locals := 0 }
def w_X7_skipBlanks (k : Nat → ClassId) (h : Nat) (qb : Nat) (n : Nat) (a : Nat) (w2 : Int32) (w3 : Int32) (w4 : Int32) (w5 : Int32) (w6 : Int32) (f : Nat → Int32) : Unit → va_W := fun _ => [(h, .inr (7, [.ref qb, .int (nI n), .int w2, .int w3, .int w4, .int w5, .int w6, .int (nI (rn (pB f) n a))])), (qb, .inl (k 0, 500, .inl f))]
def p_X7_skipBlanks (k : Nat → ClassId) (h : Nat) (qb : Nat) (n : Nat) (a : Nat) (w2 : Int32) (w3 : Int32) (w4 : Int32) (w5 : Int32) (w6 : Int32) (f : Nat → Int32) : Unit → Prop := fun (u : Unit) => True
abbrev q_X7_skipBlanks (D : va_G) (k : Nat → ClassId) (h : Nat) (qb : Nat) (n : Nat) (a : Nat) (w2 : Int32) (w3 : Int32) (w4 : Int32) (w5 : Int32) (w6 : Int32) (f : Nat → Int32) (A : Nat → Prop) : Array Value → State → Outcome → State → Prop := va_Qv (p_X7_skipBlanks k h qb n a w2 w3 w4 w5 w6 f) (fun u9 t9 => BO D (w_X7_skipBlanks k h qb n a w2 w3 w4 w5 w6 f u9) A t9) A
set_option maxHeartbeats 2000000 in
set_option maxRecDepth 100000 in
theorem X7_skipBlanks (l : Launch) (D : va_G) (k : Nat → ClassId) (sz : Nat) (h : Nat) (qb : Nat) (n : Nat) (a : Nat) (w2 : Int32) (w3 : Int32) (w4 : Int32) (w5 : Int32) (w6 : Int32) (f : Nat → Int32) (hn : n ≤ 500) (ha : a ≤ n) : Met l yX7_skipBlanks wsX7_skipBlanks r_X7_skipBlanks (va_Pc [.ref h] (PR D k (c_X7_skipBlanks k h qb n a w2 w3 w4 w5 w6 f) sz)) (q_X7_skipBlanks D k h qb n a w2 w3 w4 w5 w6 f (va_A (c_X7_skipBlanks k h qb n a w2 w3 w4 w5 w6 f) sz)) 0 0 (va_A (c_X7_skipBlanks k h qb n a w2 w3 w4 w5 w6 f) sz) := by
  refine Met.ofW (cc := cX7_skipBlanks) (maxL := 1) (ret := none) (by decide) rfl ?_
  intro p e s m args below meth c s₁ B hml hv
  obtain ⟨rfl, hsz, hP, hG, hD0⟩ := hv
  have hx := B.exec
  have hb := B.bytes
  have hr := B.returns
  have hts := atoms_spec (ws := wsX7_skipBlanks) B.pre
  have hown : s.vm.findClass RX7 = some m.cls := findClass_of_methodNamed B.named
  have hlocks := B.notSynchronized
  have hi7 : ∀ w ∈ wsX70, w ∈ wsX7_skipBlanks := fun _ h => List.mem_cons_of_mem _ (List.mem_append_right _ h)
  subst hsz
  have hD := hD0.self (sz := s.heap.size)
  generalize hAe : va_A (c_X7_skipBlanks k h qb n a w2 w3 w4 w5 w6 f) s.heap.size = A at hD ⊢
  have hA : ∀ q : Nat, s.heap.size ≤ q → A q := fun q h => by rw [← hAe]; exact Or.inr h
  have hS : va_S A s.heap s.heap [] := va_S.rf
  have hP : va_P D vwCl [(h, .inr (7, [.ref qb, .int (nI n), .int w2, .int w3, .int w4, .int w5, .int w6, .int (nI a)])), (qb, .inl (k 0, 500, .inl f))] s.heap := hP
  have hD : va_D A [(h, .inr (7, [.ref qb, .int (nI n), .int w2, .int w3, .int w4, .int w5, .int w6, .int (nI a)])), (qb, .inl (k 0, 500, .inl f))] := hD
  have hl := lv_entry ([.ref h]) (n := 1) (Nat.le_of_ble_eq_true rfl)
  rw [lg_entry_eq]
  generalize (lg_sl ([.ref h]) ++ List.replicate (1 - (lg_sl ([.ref h])).length) Slot.unset).toArray = ls at hl ⊢
  have hl : lv_has ls 1 [(0, .ref h)] := hl
  have L1 : ∀ (fu9 : Nat) (i : Nat), (a ≤ i ∧ i ≤ n) → (rn (pB f) n i = rn (pB f) n a) → n - i < fu9 → ∀ (H : Heap) (locs : List Loc), va_P D vwCl [(h, .inr (7, [.ref qb, .int (nI n), .int w2, .int w3, .int w4, .int w5, .int w6, .int (nI i)])), (qb, .inl (k 0, 500, .inl f))] H → va_D A [(h, .inr (7, [.ref qb, .int (nI n), .int w2, .int w3, .int w4, .int w5, .int w6, .int (nI i)])), (qb, .inl (k 0, 500, .inl f))] → va_S A s.heap H locs → ∀ (ls : Array Slot), lv_has ls 1 [(0, .ref h)] → W p l e r_X7_skipBlanks s m ([.ref h] : List Value).toArray below meth c H locs 0 0 (MQ below (q_X7_skipBlanks D k h qb n a w2 w3 w4 w5 w6 f A) ([.ref h] : List Value).toArray s 0 0 A) (F0 m 0 ls []) := by
    intro fu9
    induction fu9 with
    | zero => intro i hi he hmu; exact absurd hmu (Nat.not_lt_zero _)
    | succ fu9 ih =>
      intro i hi he hmu H locs hP hD hS ls hl
      refine lv_aload_n hx hb dX7_skipBlanks_0 rfl (lv_at hl 0 rfl) ?_
      refine va_get (D := D) (ci := 7) (v := .int (nI i)) (C := RX7) (T := TX7) (N := 8) hx hb hts hi7 hown hG.1 hP 0 rfl rfl 7 (by decide) (hts (.fieldLink RX7 34 "SleptMatters$Text" "at" "I") (List.mem_cons_of_mem _ (List.mem_append_left _ (List.mem_of_getElem? (i := 0) rfl)))) (fun _ h9 => h9) rfl dX7_skipBlanks_1 ?_
      refine lv_aload_n hx hb dX7_skipBlanks_4 rfl (lv_at hl 0 rfl) ?_
      refine va_get (D := D) (ci := 7) (v := .int (nI n)) (C := RX7) (T := TX7) (N := 8) hx hb hts hi7 hown hG.1 hP 0 rfl rfl 1 (by decide) (hts (.fieldLink RX7 15 "SleptMatters$Text" "size" "I") (List.mem_cons_of_mem _ (List.mem_append_left _ (List.mem_of_getElem? (i := 1) rfl)))) (fun _ h9 => h9) rfl dX7_skipBlanks_5 ?_
      refine bn_ge (i := i) (j := n) (tgt := 38) hx hb dX7_skipBlanks_8 (by decide) (by omega) (by omega) (fun c2 => ?_) (fun c2 => ?_)
      · skip
        have e9 : rn (pB f) n i = i := rn_stop (fun hh => by first | (have := hh.1; omega) | exact absurd (of_decide_eq_true hh.2) (by assumption))
        rw [show i = rn (pB f) n a from e9.symm.trans he] at hP hD
        have hP9 := hP.sub (ws' := [(h, .inr (7, [.ref qb, .int (nI n), .int w2, .int w3, .int w4, .int w5, .int w6, .int (nI (rn (pB f) n a))])), (qb, .inl (k 0, 500, .inl f))]) [0, 1] rfl
        have hD9 := hD.sub (ws' := [(h, .inr (7, [.ref qb, .int (nI n), .int w2, .int w3, .int w4, .int w5, .int w6, .int (nI (rn (pB f) n a))])), (qb, .inl (k 0, 500, .inl f))]) [0, 1] (by decide +kernel) rfl
        exact W.vret hx hb hr (fun t9 ht _ => ⟨⟨(), rfl, trivial, by rw [ht]; exact hP9, hD9⟩, hS.F ht⟩) hS.2.2 dX7_skipBlanks_38
      · skip
        refine lv_aload_n hx hb dX7_skipBlanks_11 rfl (lv_at hl 0 rfl) ?_
        refine va_get (D := D) (ci := 7) (v := .ref qb) (C := RX7) (T := TX7) (N := 8) hx hb hts hi7 hown hG.1 hP 0 rfl rfl 0 (by decide) (hts (.fieldLink RX7 9 "SleptMatters$Text" "bytes" "[I") (List.mem_cons_of_mem _ (List.mem_append_left _ (List.mem_of_getElem? (i := 2) rfl)))) (fun _ h9 => h9) rfl dX7_skipBlanks_12 ?_
        refine lv_aload_n hx hb dX7_skipBlanks_15 rfl (lv_at hl 0 rfl) ?_
        refine va_get (D := D) (ci := 7) (v := .int (nI i)) (C := RX7) (T := TX7) (N := 8) hx hb hts hi7 hown hG.1 hP 0 rfl rfl 7 (by decide) (hts (.fieldLink RX7 34 "SleptMatters$Text" "at" "I") (List.mem_cons_of_mem _ (List.mem_append_left _ (List.mem_of_getElem? (i := 0) rfl)))) (fun _ h9 => h9) rfl dX7_skipBlanks_16 ?_
        refine va_iald hx hb hG.1 hP 1 0 rfl rfl (vp_in_nI (by omega) (by omega)) dX7_skipBlanks_19 ?_
        refine tp_i (y := f i) (congrArg _ (nI_clamp (n := i) (by omega))) ?_
        refine lv_bipush (v := 32) hx hb dX7_skipBlanks_20 (by decide) ?_
        refine lv_icmp_ne (x := f i) (y := 32) (tgt := 38) hx hb dX7_skipBlanks_22 (by decide) (fun c3 => ?_) (fun c3 => ?_)
        · skip
          have e9 : rn (pB f) n i = i := rn_stop (fun hh => by first | (have := hh.1; omega) | exact absurd (of_decide_eq_true hh.2) (by assumption))
          rw [show i = rn (pB f) n a from e9.symm.trans he] at hP hD
          have hP9 := hP.sub (ws' := [(h, .inr (7, [.ref qb, .int (nI n), .int w2, .int w3, .int w4, .int w5, .int w6, .int (nI (rn (pB f) n a))])), (qb, .inl (k 0, 500, .inl f))]) [0, 1] rfl
          have hD9 := hD.sub (ws' := [(h, .inr (7, [.ref qb, .int (nI n), .int w2, .int w3, .int w4, .int w5, .int w6, .int (nI (rn (pB f) n a))])), (qb, .inl (k 0, 500, .inl f))]) [0, 1] (by decide +kernel) rfl
          exact W.vret hx hb hr (fun t9 ht _ => ⟨⟨(), rfl, trivial, by rw [ht]; exact hP9, hD9⟩, hS.F ht⟩) hS.2.2 dX7_skipBlanks_38
        · skip
          refine lv_aload_n hx hb dX7_skipBlanks_25 rfl (lv_at hl 0 rfl) ?_
          refine lv_dup hx hb dX7_skipBlanks_26 rfl ?_
          refine va_get (D := D) (ci := 7) (v := .int (nI i)) (C := RX7) (T := TX7) (N := 8) hx hb hts hi7 hown hG.1 hP 0 rfl rfl 7 (by decide) (hts (.fieldLink RX7 34 "SleptMatters$Text" "at" "I") (List.mem_cons_of_mem _ (List.mem_append_left _ (List.mem_of_getElem? (i := 0) rfl)))) (fun _ h9 => h9) rfl dX7_skipBlanks_27 ?_
          refine lv_iconst (v := 1) hx hb dX7_skipBlanks_30 (by decide) ?_
          refine lv_iadd hx hb dX7_skipBlanks_31 ?_
          refine tp_i (y := nI (i + 1)) (nI_add i 1) ?_
          refine va_put (D := D) (ci := 7) (v := .int (nI (i + 1))) (ty := .int) (C := RX7) (T := TX7) (N := 8) hx hb hts hi7 tyX7 tyX7_ok nmX7 hown hG.1 hP hD hS 0 rfl rfl 7 (by decide) (hts (.fieldLink RX7 34 "SleptMatters$Text" "at" "I") (List.mem_cons_of_mem _ (List.mem_append_left _ (List.mem_of_getElem? (i := 0) rfl)))) (fun _ h9 => h9) rfl (by decide +kernel) rfl rfl (Nat.le_of_ble_eq_true rfl) dX7_skipBlanks_32 (fun H locs hP hD hS => ?_)
          have hP : va_P D vwCl [(h, .inr (7, [.ref qb, .int (nI n), .int w2, .int w3, .int w4, .int w5, .int w6, .int (nI (i + 1))])), (qb, .inl (k 0, 500, .inl f))] H := hP
          have hD : va_D A [(h, .inr (7, [.ref qb, .int (nI n), .int w2, .int w3, .int w4, .int w5, .int w6, .int (nI (i + 1))])), (qb, .inl (k 0, 500, .inl f))] := hD
          refine lv_goto (tgt := 0) hx hb dX7_skipBlanks_35 (by decide) ?_
          exact ih (i + 1) (by omega) ((rn_step (by omega) (decide_eq_true (by assumption))).symm.trans he) (by omega) _ _ (hP.sub [0, 1] rfl) (hD.sub [0, 1] (by decide +kernel) rfl) hS ls (lv_sub hl [0] rfl)
  exact L1 _ a (⟨Nat.le_refl _, ha⟩) (rfl) (Nat.lt_succ_self _) _ _ hP hD hS ls (lv_sub hl [0] rfl)

abbrev c_X7_hasMore (k : Nat → ClassId) (h : Nat) (qb : Nat) (n : Nat) (a : Nat) (w2 : Int32) (w3 : Int32) (w4 : Int32) (w5 : Int32) (w6 : Int32) (f : Nat → Int32) : va_W := [(h, .inr (7, [.ref qb, .int (nI n), .int w2, .int w3, .int w4, .int w5, .int w6, .int (nI a)])), (qb, .inl (k 0, 500, .inl f))]
abbrev r_X7_hasMore : Room := { frames := 1, cells := 0, slots := 0, locals := 20 }
def w_X7_hasMore (k : Nat → ClassId) (h : Nat) (qb : Nat) (n : Nat) (a : Nat) (w2 : Int32) (w3 : Int32) (w4 : Int32) (w5 : Int32) (w6 : Int32) (f : Nat → Int32) : Unit → va_W := fun _ => [(h, .inr (7, [.ref qb, .int (nI n), .int w2, .int w3, .int w4, .int w5, .int w6, .int (nI (rn (pB f) n a))])), (qb, .inl (k 0, 500, .inl f))]
def p_X7_hasMore (k : Nat → ClassId) (h : Nat) (qb : Nat) (n : Nat) (a : Nat) (w2 : Int32) (w3 : Int32) (w4 : Int32) (w5 : Int32) (w6 : Int32) (f : Nat → Int32) : Int32 → Unit → Prop := fun (r : Int32) (u : Unit) => r = if rn (pB f) n a < n then 1 else 0
abbrev q_X7_hasMore (D : va_G) (k : Nat → ClassId) (h : Nat) (qb : Nat) (n : Nat) (a : Nat) (w2 : Int32) (w3 : Int32) (w4 : Int32) (w5 : Int32) (w6 : Int32) (f : Nat → Int32) (A : Nat → Prop) : Array Value → State → Outcome → State → Prop := va_Qi (p_X7_hasMore k h qb n a w2 w3 w4 w5 w6 f) (fun u9 t9 => BO D (w_X7_hasMore k h qb n a w2 w3 w4 w5 w6 f u9) A t9) A
set_option maxHeartbeats 2000000 in
set_option maxRecDepth 100000 in
theorem X7_hasMore (l : Launch) (D : va_G) (k : Nat → ClassId) (sz : Nat) (h : Nat) (qb : Nat) (n : Nat) (a : Nat) (w2 : Int32) (w3 : Int32) (w4 : Int32) (w5 : Int32) (w6 : Int32) (f : Nat → Int32) (hn : n ≤ 500) (ha : a ≤ n) : Met l yX7_hasMore wsX7_hasMore r_X7_hasMore (va_Pc [.ref h] (PR D k (c_X7_hasMore k h qb n a w2 w3 w4 w5 w6 f) sz)) (q_X7_hasMore D k h qb n a w2 w3 w4 w5 w6 f (va_A (c_X7_hasMore k h qb n a w2 w3 w4 w5 w6 f) sz)) 0 0 (va_A (c_X7_hasMore k h qb n a w2 w3 w4 w5 w6 f) sz) := by
  refine Met.ofW (cc := cX7_hasMore) (maxL := 1) (ret := (some .boolean)) (by decide) rfl ?_
  intro p e s m args below meth c s₁ B hml hv
  obtain ⟨rfl, hsz, hP, hG, hD0⟩ := hv
  have hx := B.exec
  have hb := B.bytes
  have hr := B.returns
  have hts := atoms_spec (ws := wsX7_hasMore) B.pre
  have hown : s.vm.findClass RX7 = some m.cls := findClass_of_methodNamed B.named
  have hlocks := B.notSynchronized
  have hi7 : ∀ w ∈ wsX70, w ∈ wsX7_hasMore := fun _ h => List.mem_cons_of_mem _ (List.mem_append_right _ h)
  subst hsz
  have hD := hD0.self (sz := s.heap.size)
  generalize hAe : va_A (c_X7_hasMore k h qb n a w2 w3 w4 w5 w6 f) s.heap.size = A at hD ⊢
  have hA : ∀ q : Nat, s.heap.size ≤ q → A q := fun q h => by rw [← hAe]; exact Or.inr h
  have hS : va_S A s.heap s.heap [] := va_S.rf
  have hP : va_P D vwCl [(h, .inr (7, [.ref qb, .int (nI n), .int w2, .int w3, .int w4, .int w5, .int w6, .int (nI a)])), (qb, .inl (k 0, 500, .inl f))] s.heap := hP
  have hD : va_D A [(h, .inr (7, [.ref qb, .int (nI n), .int w2, .int w3, .int w4, .int w5, .int w6, .int (nI a)])), (qb, .inl (k 0, 500, .inl f))] := hD
  have hl := lv_entry ([.ref h]) (n := 1) (Nat.le_of_ble_eq_true rfl)
  rw [lg_entry_eq]
  generalize (lg_sl ([.ref h]) ++ List.replicate (1 - (lg_sl ([.ref h])).length) Slot.unset).toArray = ls at hl ⊢
  have hl : lv_has ls 1 [(0, .ref h)] := hl
  refine lv_aload_n hx hb dX7_hasMore_0 rfl (lv_at hl 0 rfl) ?_
  have hPc := hP.sub (ws' := (c_X7_skipBlanks k h qb n a w2 w3 w4 w5 w6 f)) [0, 1] rfl
  have hDc := hD.sub (ws' := (c_X7_skipBlanks k h qb n a w2 w3 w4 w5 w6 f)) [0, 1] (by decide +kernel) rfl
  refine cl_v (w1 := w_X7_skipBlanks k h qb n a w2 w3 w4 w5 w6 f) (wr := []) (va_runV (As := []) (rest := []) ⟨hx, hb, hml, hown, hts⟩ (X7_skipBlanks l D k s.heap.size h qb n a w2 w3 w4 w5 w6 f (hn) (ha)) (cwV 0 hts gX7_hasMore_X7_skipBlanks rfl rfl rfl (by decide +kernel) ⟨Nat.le_of_ble_eq_true rfl, Nat.le_of_ble_eq_true rfl⟩) ⟨PR.blind _ _ _ _ _, va_recv hG.1 hP (ci := 7) (q0 := 0) rfl rfl, PR.pre hPc hDc hG [.ref h]⟩ rfl rfl hl.1 rfl (lv_room (Nat.le_of_ble_eq_true rfl)) dX7_hasMore_1 ⟨Nat.le_of_ble_eq_true rfl, Nat.le_of_ble_eq_true rfl⟩) hP hD hS hA [0, 1] [] rfl rfl (by decide +kernel) (by decide +kernel) (fun u H locs hq hP hD hS => ?_)
  cases u
  have hP : va_P D vwCl [(h, .inr (7, [.ref qb, .int (nI n), .int w2, .int w3, .int w4, .int w5, .int w6, .int (nI (rn (pB f) n a))])), (qb, .inl (k 0, 500, .inl f))] H := hP
  have hD : va_D A [(h, .inr (7, [.ref qb, .int (nI n), .int w2, .int w3, .int w4, .int w5, .int w6, .int (nI (rn (pB f) n a))])), (qb, .inl (k 0, 500, .inl f))] := hD
  have hle := rn_le (pB f) ha
  refine lv_aload_n hx hb dX7_hasMore_4 rfl (lv_at hl 0 rfl) ?_
  refine va_get (D := D) (ci := 7) (v := .int (nI (rn (pB f) n a))) (C := RX7) (T := TX7) (N := 8) hx hb hts hi7 hown hG.1 hP 0 rfl rfl 7 (by decide) (hts (.fieldLink RX7 34 "SleptMatters$Text" "at" "I") (List.mem_cons_of_mem _ (List.mem_append_left _ (List.mem_of_getElem? (i := 0) rfl)))) (fun _ h9 => h9) rfl dX7_hasMore_5 ?_
  refine lv_aload_n hx hb dX7_hasMore_8 rfl (lv_at hl 0 rfl) ?_
  refine va_get (D := D) (ci := 7) (v := .int (nI n)) (C := RX7) (T := TX7) (N := 8) hx hb hts hi7 hown hG.1 hP 0 rfl rfl 1 (by decide) (hts (.fieldLink RX7 15 "SleptMatters$Text" "size" "I") (List.mem_cons_of_mem _ (List.mem_append_left _ (List.mem_of_getElem? (i := 1) rfl)))) (fun _ h9 => h9) rfl dX7_hasMore_9 ?_
  refine bn_ge (i := rn (pB f) n a) (j := n) (tgt := 19) hx hb dX7_hasMore_12 (by decide) (by omega) (by omega) (fun c1 => ?_) (fun c1 => ?_)
  · skip
    have e9 : (if rn (pB f) n a < n then (1 : Int32) else 0) = 0 := if_neg (by omega)
    refine lv_iconst (v := 0) hx hb dX7_hasMore_19 (by decide) ?_
    have hP9 := hP.sub (ws' := [(h, .inr (7, [.ref qb, .int (nI n), .int w2, .int w3, .int w4, .int w5, .int w6, .int (nI (rn (pB f) n a))])), (qb, .inl (k 0, 500, .inl f))]) [0, 1] rfl
    have hD9 := hD.sub (ws' := [(h, .inr (7, [.ref qb, .int (nI n), .int w2, .int w3, .int w4, .int w5, .int w6, .int (nI (rn (pB f) n a))])), (qb, .inl (k 0, 500, .inl f))]) [0, 1] (by decide +kernel) rfl
    exact W.zret (v := 0) hx hb hr (rfl) (fun t9 ht _ => ⟨⟨0, (), rfl, e9.symm, by rw [ht]; exact hP9, hD9⟩, hS.F ht⟩) hS.2.2 dX7_hasMore_20
  · skip
    have e9 : (if rn (pB f) n a < n then (1 : Int32) else 0) = 1 := if_pos (by omega)
    refine lv_iconst (v := 1) hx hb dX7_hasMore_15 (by decide) ?_
    refine lv_goto (tgt := 20) hx hb dX7_hasMore_16 (by decide) ?_
    have hP9 := hP.sub (ws' := [(h, .inr (7, [.ref qb, .int (nI n), .int w2, .int w3, .int w4, .int w5, .int w6, .int (nI (rn (pB f) n a))])), (qb, .inl (k 0, 500, .inl f))]) [0, 1] rfl
    have hD9 := hD.sub (ws' := [(h, .inr (7, [.ref qb, .int (nI n), .int w2, .int w3, .int w4, .int w5, .int w6, .int (nI (rn (pB f) n a))])), (qb, .inl (k 0, 500, .inl f))]) [0, 1] (by decide +kernel) rfl
    exact W.zret (v := 1) hx hb hr (rfl) (fun t9 ht _ => ⟨⟨1, (), rfl, e9.symm, by rw [ht]; exact hP9, hD9⟩, hS.F ht⟩) hS.2.2 dX7_hasMore_20

abbrev c_X7_isBetween (k : Nat → ClassId) (h : Nat) (qb : Nat) (n : Nat) (a : Nat) (w2 : Int32) (w3 : Int32) (w4 : Int32) (w5 : Int32) (w6 : Int32) (f : Nat → Int32) (lo : Int32) (hi : Int32) : va_W := [(h, .inr (7, [.ref qb, .int (nI n), .int w2, .int w3, .int w4, .int w5, .int w6, .int (nI a)])), (qb, .inl (k 0, 500, .inl f))]
abbrev r_X7_isBetween : Room := { frames := 0, cells := 0, slots := 0, locals := 0 }
abbrev q_X7_isBetween (k : Nat → ClassId) (h : Nat) (qb : Nat) (n : Nat) (a : Nat) (w2 : Int32) (w3 : Int32) (w4 : Int32) (w5 : Int32) (w6 : Int32) (f : Nat → Int32) (lo : Int32) (hi : Int32) : Array Value → State → Outcome → State → Prop := vp_Si (fun r => r = btw f n a lo hi)
set_option maxHeartbeats 2000000 in
set_option maxRecDepth 100000 in
theorem X7_isBetween (l : Launch) (D : va_G) (k : Nat → ClassId) (h : Nat) (qb : Nat) (n : Nat) (a : Nat) (w2 : Int32) (w3 : Int32) (w4 : Int32) (w5 : Int32) (w6 : Int32) (f : Nat → Int32) (lo : Int32) (hi : Int32) (hn : n ≤ 500) (ha : a ≤ n) : Met l yX7_isBetween wsX7_isBetween r_X7_isBetween (va_Pc [.ref h, .int lo, .int hi] (PS D k (c_X7_isBetween k h qb n a w2 w3 w4 w5 w6 f lo hi))) (q_X7_isBetween k h qb n a w2 w3 w4 w5 w6 f lo hi) 0 0 (fun _ => False) := by
  refine Met.ofW (cc := cX7_isBetween) (maxL := 3) (ret := (some .boolean)) (by decide) rfl ?_
  intro p e s m args below meth c s₁ B hml hv
  obtain ⟨rfl, hP, hG⟩ := hv
  have hx := B.exec
  have hb := B.bytes
  have hr := B.returns
  have hts := atoms_spec (ws := wsX7_isBetween) B.pre
  have hown : s.vm.findClass RX7 = some m.cls := findClass_of_methodNamed B.named
  have hlocks := B.notSynchronized
  have hi7 : ∀ w ∈ wsX70, w ∈ wsX7_isBetween := fun _ h => List.mem_cons_of_mem _ (List.mem_append_right _ h)
  have hP : va_P D vwCl [(h, .inr (7, [.ref qb, .int (nI n), .int w2, .int w3, .int w4, .int w5, .int w6, .int (nI a)])), (qb, .inl (k 0, 500, .inl f))] s.heap := hP
  have hl := lv_entry ([.ref h, .int lo, .int hi]) (n := 3) (Nat.le_of_ble_eq_true rfl)
  rw [lg_entry_eq]
  generalize (lg_sl ([.ref h, .int lo, .int hi]) ++ List.replicate (3 - (lg_sl ([.ref h, .int lo, .int hi])).length) Slot.unset).toArray = ls at hl ⊢
  have hl : lv_has ls 3 [(0, .ref h), (1, .int lo), (2, .int hi)] := hl
  refine lv_aload_n hx hb dX7_isBetween_0 rfl (lv_at hl 0 rfl) ?_
  refine va_get (D := D) (ci := 7) (v := .int (nI a)) (C := RX7) (T := TX7) (N := 8) hx hb hts hi7 hown hG.1 hP 0 rfl rfl 7 (by decide) (hts (.fieldLink RX7 34 "SleptMatters$Text" "at" "I") (List.mem_cons_of_mem _ (List.mem_append_left _ (List.mem_of_getElem? (i := 0) rfl)))) (fun _ h9 => h9) rfl dX7_isBetween_1 ?_
  refine lv_aload_n hx hb dX7_isBetween_4 rfl (lv_at hl 0 rfl) ?_
  refine va_get (D := D) (ci := 7) (v := .int (nI n)) (C := RX7) (T := TX7) (N := 8) hx hb hts hi7 hown hG.1 hP 0 rfl rfl 1 (by decide) (hts (.fieldLink RX7 15 "SleptMatters$Text" "size" "I") (List.mem_cons_of_mem _ (List.mem_append_left _ (List.mem_of_getElem? (i := 1) rfl)))) (fun _ h9 => h9) rfl dX7_isBetween_5 ?_
  refine bn_ge (i := a) (j := n) (tgt := 41) hx hb dX7_isBetween_8 (by decide) (by omega) (by omega) (fun c1 => ?_) (fun c1 => ?_)
  · skip
    have e9 : btw f n a lo hi = 0 := if_neg (fun q => by have := q.1; omega)
    refine lv_iconst (v := 0) hx hb dX7_isBetween_41 (by decide) ?_
    exact W.zret (v := 0) hx hb hr (rfl) (fun t9 ht _ => ⟨0, rfl, e9.symm, ht⟩) (fun q h => by cases h) dX7_isBetween_42
  · skip
    refine lv_aload_n hx hb dX7_isBetween_11 rfl (lv_at hl 0 rfl) ?_
    refine va_get (D := D) (ci := 7) (v := .ref qb) (C := RX7) (T := TX7) (N := 8) hx hb hts hi7 hown hG.1 hP 0 rfl rfl 0 (by decide) (hts (.fieldLink RX7 9 "SleptMatters$Text" "bytes" "[I") (List.mem_cons_of_mem _ (List.mem_append_left _ (List.mem_of_getElem? (i := 2) rfl)))) (fun _ h9 => h9) rfl dX7_isBetween_12 ?_
    refine lv_aload_n hx hb dX7_isBetween_15 rfl (lv_at hl 0 rfl) ?_
    refine va_get (D := D) (ci := 7) (v := .int (nI a)) (C := RX7) (T := TX7) (N := 8) hx hb hts hi7 hown hG.1 hP 0 rfl rfl 7 (by decide) (hts (.fieldLink RX7 34 "SleptMatters$Text" "at" "I") (List.mem_cons_of_mem _ (List.mem_append_left _ (List.mem_of_getElem? (i := 0) rfl)))) (fun _ h9 => h9) rfl dX7_isBetween_16 ?_
    refine va_iald hx hb hG.1 hP 1 0 rfl rfl (vp_in_nI (by omega) (by omega)) dX7_isBetween_19 ?_
    refine tp_i (y := f a) (congrArg _ (nI_clamp (n := a) (by omega))) ?_
    refine lv_iload_n hx hb dX7_isBetween_20 rfl (lv_at hl 1 rfl) ?_
    refine lv_icmp_lt (x := f a) (y := lo) (tgt := 41) hx hb dX7_isBetween_21 (by decide) (fun c2 => ?_) (fun c2 => ?_)
    · skip
      have e9 : btw f n a lo hi = 0 := if_neg (fun q => by have q2 := q.2; unfold pR at q2; simp only [Bool.and_eq_true, decide_eq_true_eq] at q2; exact absurd q2.1 (Int32.not_le.mpr c2))
      refine lv_iconst (v := 0) hx hb dX7_isBetween_41 (by decide) ?_
      exact W.zret (v := 0) hx hb hr (rfl) (fun t9 ht _ => ⟨0, rfl, e9.symm, ht⟩) (fun q h => by cases h) dX7_isBetween_42
    · skip
      have k1 := Int32.not_lt.mp c2
      refine lv_aload_n hx hb dX7_isBetween_24 rfl (lv_at hl 0 rfl) ?_
      refine va_get (D := D) (ci := 7) (v := .ref qb) (C := RX7) (T := TX7) (N := 8) hx hb hts hi7 hown hG.1 hP 0 rfl rfl 0 (by decide) (hts (.fieldLink RX7 9 "SleptMatters$Text" "bytes" "[I") (List.mem_cons_of_mem _ (List.mem_append_left _ (List.mem_of_getElem? (i := 2) rfl)))) (fun _ h9 => h9) rfl dX7_isBetween_25 ?_
      refine lv_aload_n hx hb dX7_isBetween_28 rfl (lv_at hl 0 rfl) ?_
      refine va_get (D := D) (ci := 7) (v := .int (nI a)) (C := RX7) (T := TX7) (N := 8) hx hb hts hi7 hown hG.1 hP 0 rfl rfl 7 (by decide) (hts (.fieldLink RX7 34 "SleptMatters$Text" "at" "I") (List.mem_cons_of_mem _ (List.mem_append_left _ (List.mem_of_getElem? (i := 0) rfl)))) (fun _ h9 => h9) rfl dX7_isBetween_29 ?_
      refine va_iald hx hb hG.1 hP 1 0 rfl rfl (vp_in_nI (by omega) (by omega)) dX7_isBetween_32 ?_
      refine tp_i (y := f a) (congrArg _ (nI_clamp (n := a) (by omega))) ?_
      refine lv_iload_n hx hb dX7_isBetween_33 rfl (lv_at hl 2 rfl) ?_
      refine lv_icmp_gt (x := f a) (y := hi) (tgt := 41) hx hb dX7_isBetween_34 (by decide) (fun c3 => ?_) (fun c3 => ?_)
      · skip
        have e9 : btw f n a lo hi = 0 := if_neg (fun q => by have q2 := q.2; unfold pR at q2; simp only [Bool.and_eq_true, decide_eq_true_eq] at q2; exact absurd q2.2 (Int32.not_le.mpr c3))
        refine lv_iconst (v := 0) hx hb dX7_isBetween_41 (by decide) ?_
        exact W.zret (v := 0) hx hb hr (rfl) (fun t9 ht _ => ⟨0, rfl, e9.symm, ht⟩) (fun q h => by cases h) dX7_isBetween_42
      · skip
        have e9 : btw f n a lo hi = 1 := if_pos ⟨by omega, by unfold pR; simp only [Bool.and_eq_true, decide_eq_true_eq]; exact ⟨k1, Int32.not_lt.mp c3⟩⟩
        refine lv_iconst (v := 1) hx hb dX7_isBetween_37 (by decide) ?_
        refine lv_goto (tgt := 42) hx hb dX7_isBetween_38 (by decide) ?_
        exact W.zret (v := 1) hx hb hr (rfl) (fun t9 ht _ => ⟨1, rfl, e9.symm, ht⟩) (fun q h => by cases h) dX7_isBetween_42

abbrev c_X7_readWord (k : Nat → ClassId) (h : Nat) (qb : Nat) (n : Nat) (a : Nat) (w2 : Int32) (w3 : Int32) (w4 : Int32) (w5 : Int32) (w6 : Int32) (f : Nat → Int32) : va_W := [(h, .inr (7, [.ref qb, .int (nI n), .int w2, .int w3, .int w4, .int w5, .int w6, .int (nI a)])), (qb, .inl (k 0, 500, .inl f))]
abbrev r_X7_readWord : Room := { frames := 1, cells := 0, slots := 0, locals := 22 }
def w_X7_readWord (k : Nat → ClassId) (h : Nat) (qb : Nat) (n : Nat) (a : Nat) (w2 : Int32) (w3 : Int32) (w4 : Int32) (w5 : Int32) (w6 : Int32) (f : Nat → Int32) : Unit → va_W := fun _ => [(h, .inr (7, [.ref qb, .int (nI n), .int (nI (rn (pB f) n a)), .int w3, .int w4, .int w5, .int (nI (rn (pR f 97 122) n (rn (pB f) n a))), .int (nI (rn (pR f 97 122) n (rn (pB f) n a)))])), (qb, .inl (k 0, 500, .inl f))]
def p_X7_readWord (k : Nat → ClassId) (h : Nat) (qb : Nat) (n : Nat) (a : Nat) (w2 : Int32) (w3 : Int32) (w4 : Int32) (w5 : Int32) (w6 : Int32) (f : Nat → Int32) : Unit → Prop := fun (u : Unit) => True
abbrev q_X7_readWord (D : va_G) (k : Nat → ClassId) (h : Nat) (qb : Nat) (n : Nat) (a : Nat) (w2 : Int32) (w3 : Int32) (w4 : Int32) (w5 : Int32) (w6 : Int32) (f : Nat → Int32) (A : Nat → Prop) : Array Value → State → Outcome → State → Prop := va_Qv (p_X7_readWord k h qb n a w2 w3 w4 w5 w6 f) (fun u9 t9 => BO D (w_X7_readWord k h qb n a w2 w3 w4 w5 w6 f u9) A t9) A
set_option maxHeartbeats 2000000 in
set_option maxRecDepth 100000 in
theorem X7_readWord (l : Launch) (D : va_G) (k : Nat → ClassId) (sz : Nat) (h : Nat) (qb : Nat) (n : Nat) (a : Nat) (w2 : Int32) (w3 : Int32) (w4 : Int32) (w5 : Int32) (w6 : Int32) (f : Nat → Int32) (hn : n ≤ 500) (ha : a ≤ n) : Met l yX7_readWord wsX7_readWord r_X7_readWord (va_Pc [.ref h] (PR D k (c_X7_readWord k h qb n a w2 w3 w4 w5 w6 f) sz)) (q_X7_readWord D k h qb n a w2 w3 w4 w5 w6 f (va_A (c_X7_readWord k h qb n a w2 w3 w4 w5 w6 f) sz)) 0 0 (va_A (c_X7_readWord k h qb n a w2 w3 w4 w5 w6 f) sz) := by
  refine Met.ofW (cc := cX7_readWord) (maxL := 1) (ret := none) (by decide) rfl ?_
  intro p e s m args below meth c s₁ B hml hv
  obtain ⟨rfl, hsz, hP, hG, hD0⟩ := hv
  have hx := B.exec
  have hb := B.bytes
  have hr := B.returns
  have hts := atoms_spec (ws := wsX7_readWord) B.pre
  have hown : s.vm.findClass RX7 = some m.cls := findClass_of_methodNamed B.named
  have hlocks := B.notSynchronized
  have hi7 : ∀ w ∈ wsX70, w ∈ wsX7_readWord := fun _ h => List.mem_cons_of_mem _ (List.mem_append_right _ h)
  subst hsz
  have hD := hD0.self (sz := s.heap.size)
  generalize hAe : va_A (c_X7_readWord k h qb n a w2 w3 w4 w5 w6 f) s.heap.size = A at hD ⊢
  have hA : ∀ q : Nat, s.heap.size ≤ q → A q := fun q h => by rw [← hAe]; exact Or.inr h
  have hS : va_S A s.heap s.heap [] := va_S.rf
  have hP : va_P D vwCl [(h, .inr (7, [.ref qb, .int (nI n), .int w2, .int w3, .int w4, .int w5, .int w6, .int (nI a)])), (qb, .inl (k 0, 500, .inl f))] s.heap := hP
  have hD : va_D A [(h, .inr (7, [.ref qb, .int (nI n), .int w2, .int w3, .int w4, .int w5, .int w6, .int (nI a)])), (qb, .inl (k 0, 500, .inl f))] := hD
  have hl := lv_entry ([.ref h]) (n := 1) (Nat.le_of_ble_eq_true rfl)
  rw [lg_entry_eq]
  generalize (lg_sl ([.ref h]) ++ List.replicate (1 - (lg_sl ([.ref h])).length) Slot.unset).toArray = ls at hl ⊢
  have hl : lv_has ls 1 [(0, .ref h)] := hl
  refine lv_aload_n hx hb dX7_readWord_0 rfl (lv_at hl 0 rfl) ?_
  have hPc := hP.sub (ws' := (c_X7_skipBlanks k h qb n a w2 w3 w4 w5 w6 f)) [0, 1] rfl
  have hDc := hD.sub (ws' := (c_X7_skipBlanks k h qb n a w2 w3 w4 w5 w6 f)) [0, 1] (by decide +kernel) rfl
  refine cl_v (w1 := w_X7_skipBlanks k h qb n a w2 w3 w4 w5 w6 f) (wr := []) (va_runV (As := []) (rest := []) ⟨hx, hb, hml, hown, hts⟩ (X7_skipBlanks l D k s.heap.size h qb n a w2 w3 w4 w5 w6 f (hn) (ha)) (cwV 0 hts gX7_readWord_X7_skipBlanks rfl rfl rfl (by decide +kernel) ⟨Nat.le_of_ble_eq_true rfl, Nat.le_of_ble_eq_true rfl⟩) ⟨PR.blind _ _ _ _ _, va_recv hG.1 hP (ci := 7) (q0 := 0) rfl rfl, PR.pre hPc hDc hG [.ref h]⟩ rfl rfl hl.1 rfl (lv_room (Nat.le_of_ble_eq_true rfl)) dX7_readWord_1 ⟨Nat.le_of_ble_eq_true rfl, Nat.le_of_ble_eq_true rfl⟩) hP hD hS hA [0, 1] [] rfl rfl (by decide +kernel) (by decide +kernel) (fun u H locs hq hP hD hS => ?_)
  cases u
  have hP : va_P D vwCl [(h, .inr (7, [.ref qb, .int (nI n), .int w2, .int w3, .int w4, .int w5, .int w6, .int (nI (rn (pB f) n a))])), (qb, .inl (k 0, 500, .inl f))] H := hP
  have hD : va_D A [(h, .inr (7, [.ref qb, .int (nI n), .int w2, .int w3, .int w4, .int w5, .int w6, .int (nI (rn (pB f) n a))])), (qb, .inl (k 0, 500, .inl f))] := hD
  refine lv_aload_n hx hb dX7_readWord_4 rfl (lv_at hl 0 rfl) ?_
  refine lv_aload_n hx hb dX7_readWord_5 rfl (lv_at hl 0 rfl) ?_
  refine va_get (D := D) (ci := 7) (v := .int (nI (rn (pB f) n a))) (C := RX7) (T := TX7) (N := 8) hx hb hts hi7 hown hG.1 hP 0 rfl rfl 7 (by decide) (hts (.fieldLink RX7 34 "SleptMatters$Text" "at" "I") (List.mem_cons_of_mem _ (List.mem_append_left _ (List.mem_of_getElem? (i := 0) rfl)))) (fun _ h9 => h9) rfl dX7_readWord_6 ?_
  refine va_put (D := D) (ci := 7) (v := .int (nI (rn (pB f) n a))) (ty := .int) (C := RX7) (T := TX7) (N := 8) hx hb hts hi7 tyX7 tyX7_ok nmX7 hown hG.1 hP hD hS 0 rfl rfl 2 (by decide) (hts (.fieldLink RX7 19 "SleptMatters$Text" "wordAt" "I") (List.mem_cons_of_mem _ (List.mem_append_left _ (List.mem_of_getElem? (i := 1) rfl)))) (fun _ h9 => h9) rfl (by decide +kernel) rfl rfl (Nat.le_of_ble_eq_true rfl) dX7_readWord_9 (fun H locs hP hD hS => ?_)
  have hP : va_P D vwCl [(h, .inr (7, [.ref qb, .int (nI n), .int (nI (rn (pB f) n a)), .int w3, .int w4, .int w5, .int w6, .int (nI (rn (pB f) n a))])), (qb, .inl (k 0, 500, .inl f))] H := hP
  have hD : va_D A [(h, .inr (7, [.ref qb, .int (nI n), .int (nI (rn (pB f) n a)), .int w3, .int w4, .int w5, .int w6, .int (nI (rn (pB f) n a))])), (qb, .inl (k 0, 500, .inl f))] := hD
  have L1 : ∀ (fu9 : Nat) (i : Nat), (rn (pB f) n a ≤ i ∧ i ≤ n) → (rn (pR f 97 122) n i = rn (pR f 97 122) n (rn (pB f) n a)) → n - i < fu9 → ∀ (H : Heap) (locs : List Loc), va_P D vwCl [(h, .inr (7, [.ref qb, .int (nI n), .int (nI (rn (pB f) n a)), .int w3, .int w4, .int w5, .int w6, .int (nI i)])), (qb, .inl (k 0, 500, .inl f))] H → va_D A [(h, .inr (7, [.ref qb, .int (nI n), .int (nI (rn (pB f) n a)), .int w3, .int w4, .int w5, .int w6, .int (nI i)])), (qb, .inl (k 0, 500, .inl f))] → va_S A s.heap H locs → ∀ (ls : Array Slot), lv_has ls 1 [(0, .ref h)] → W p l e r_X7_readWord s m ([.ref h] : List Value).toArray below meth c H locs 0 0 (MQ below (q_X7_readWord D k h qb n a w2 w3 w4 w5 w6 f A) ([.ref h] : List Value).toArray s 0 0 A) (F0 m 12 ls []) := by
    intro fu9
    induction fu9 with
    | zero => intro i hi he hmu; exact absurd hmu (Nat.not_lt_zero _)
    | succ fu9 ih =>
      intro i hi he hmu H locs hP hD hS ls hl
      refine lv_aload_n hx hb dX7_readWord_12 rfl (lv_at hl 0 rfl) ?_
      refine lv_bipush (v := 97) hx hb dX7_readWord_13 (by decide) ?_
      refine lv_bipush (v := 122) hx hb dX7_readWord_15 (by decide) ?_
      have hPc := hP.sub (ws' := (c_X7_isBetween k h qb n i (nI (rn (pB f) n a)) w3 w4 w5 w6 f 97 122)) [0, 1] rfl
      refine vp_callSi (va_Run.run (va_runV (As := [.int 97, .int 122]) (rest := []) ⟨hx, hb, hml, hown, hts⟩ (X7_isBetween l D k h qb n i (nI (rn (pB f) n a)) w3 w4 w5 w6 f 97 122 (hn) (by omega)) (cwV 2 hts gX7_readWord_X7_isBetween rfl rfl rfl (by decide +kernel) ⟨Nat.le_of_ble_eq_true rfl, Nat.le_of_ble_eq_true rfl⟩) ⟨PS.blind _ _ _ _, va_recv hG.1 hP (ci := 7) (q0 := 0) rfl rfl, PS.pre hPc hG [.ref h, .int 97, .int 122]⟩ rfl rfl hl.1 rfl (lv_room (Nat.le_of_ble_eq_true rfl)) dX7_readWord_17 ⟨Nat.le_of_ble_eq_true rfl, Nat.le_of_ble_eq_true rfl⟩)) (fun r hq => ?_)
      generalize r = y2 at hq ⊢
      have hq : y2 = btw f n i 97 122 := hq
      refine tp_i (y := btw f n i 97 122) (hq) ?_
      refine lv_if_eq (x := btw f n i 97 122) (tgt := 36) hx hb dX7_readWord_20 (by decide) (fun c3 => ?_) (fun c3 => ?_)
      · skip
        have e8 : rn (pR f 97 122) n i = i := rn_stop (btw_eq c3)
        rw [show i = rn (pR f 97 122) n (rn (pB f) n a) from e8.symm.trans he] at hP hD
        have hP : va_P D vwCl [(h, .inr (7, [.ref qb, .int (nI n), .int (nI (rn (pB f) n a)), .int w3, .int w4, .int w5, .int w6, .int (nI (rn (pR f 97 122) n (rn (pB f) n a)))])), (qb, .inl (k 0, 500, .inl f))] H := hP
        have hD : va_D A [(h, .inr (7, [.ref qb, .int (nI n), .int (nI (rn (pB f) n a)), .int w3, .int w4, .int w5, .int w6, .int (nI (rn (pR f 97 122) n (rn (pB f) n a)))])), (qb, .inl (k 0, 500, .inl f))] := hD
        refine lv_aload_n hx hb dX7_readWord_36 rfl (lv_at hl 0 rfl) ?_
        refine lv_aload_n hx hb dX7_readWord_37 rfl (lv_at hl 0 rfl) ?_
        refine va_get (D := D) (ci := 7) (v := .int (nI (rn (pR f 97 122) n (rn (pB f) n a)))) (C := RX7) (T := TX7) (N := 8) hx hb hts hi7 hown hG.1 hP 0 rfl rfl 7 (by decide) (hts (.fieldLink RX7 34 "SleptMatters$Text" "at" "I") (List.mem_cons_of_mem _ (List.mem_append_left _ (List.mem_of_getElem? (i := 0) rfl)))) (fun _ h9 => h9) rfl dX7_readWord_38 ?_
        refine va_put (D := D) (ci := 7) (v := .int (nI (rn (pR f 97 122) n (rn (pB f) n a)))) (ty := .int) (C := RX7) (T := TX7) (N := 8) hx hb hts hi7 tyX7 tyX7_ok nmX7 hown hG.1 hP hD hS 0 rfl rfl 6 (by decide) (hts (.fieldLink RX7 31 "SleptMatters$Text" "wordEnd" "I") (List.mem_cons_of_mem _ (List.mem_append_left _ (List.mem_of_getElem? (i := 2) rfl)))) (fun _ h9 => h9) rfl (by decide +kernel) rfl rfl (Nat.le_of_ble_eq_true rfl) dX7_readWord_41 (fun H locs hP hD hS => ?_)
        have hP : va_P D vwCl [(h, .inr (7, [.ref qb, .int (nI n), .int (nI (rn (pB f) n a)), .int w3, .int w4, .int w5, .int (nI (rn (pR f 97 122) n (rn (pB f) n a))), .int (nI (rn (pR f 97 122) n (rn (pB f) n a)))])), (qb, .inl (k 0, 500, .inl f))] H := hP
        have hD : va_D A [(h, .inr (7, [.ref qb, .int (nI n), .int (nI (rn (pB f) n a)), .int w3, .int w4, .int w5, .int (nI (rn (pR f 97 122) n (rn (pB f) n a))), .int (nI (rn (pR f 97 122) n (rn (pB f) n a)))])), (qb, .inl (k 0, 500, .inl f))] := hD
        have hP9 := hP.sub (ws' := [(h, .inr (7, [.ref qb, .int (nI n), .int (nI (rn (pB f) n a)), .int w3, .int w4, .int w5, .int (nI (rn (pR f 97 122) n (rn (pB f) n a))), .int (nI (rn (pR f 97 122) n (rn (pB f) n a)))])), (qb, .inl (k 0, 500, .inl f))]) [0, 1] rfl
        have hD9 := hD.sub (ws' := [(h, .inr (7, [.ref qb, .int (nI n), .int (nI (rn (pB f) n a)), .int w3, .int w4, .int w5, .int (nI (rn (pR f 97 122) n (rn (pB f) n a))), .int (nI (rn (pR f 97 122) n (rn (pB f) n a)))])), (qb, .inl (k 0, 500, .inl f))]) [0, 1] (by decide +kernel) rfl
        exact W.vret hx hb hr (fun t9 ht _ => ⟨⟨(), rfl, trivial, by rw [ht]; exact hP9, hD9⟩, hS.F ht⟩) hS.2.2 dX7_readWord_44
      · skip
        have e9 := btw_ne c3
        refine lv_aload_n hx hb dX7_readWord_23 rfl (lv_at hl 0 rfl) ?_
        refine lv_dup hx hb dX7_readWord_24 rfl ?_
        refine va_get (D := D) (ci := 7) (v := .int (nI i)) (C := RX7) (T := TX7) (N := 8) hx hb hts hi7 hown hG.1 hP 0 rfl rfl 7 (by decide) (hts (.fieldLink RX7 34 "SleptMatters$Text" "at" "I") (List.mem_cons_of_mem _ (List.mem_append_left _ (List.mem_of_getElem? (i := 0) rfl)))) (fun _ h9 => h9) rfl dX7_readWord_25 ?_
        refine lv_iconst (v := 1) hx hb dX7_readWord_28 (by decide) ?_
        refine lv_iadd hx hb dX7_readWord_29 ?_
        refine tp_i (y := nI (i + 1)) (nI_add i 1) ?_
        refine va_put (D := D) (ci := 7) (v := .int (nI (i + 1))) (ty := .int) (C := RX7) (T := TX7) (N := 8) hx hb hts hi7 tyX7 tyX7_ok nmX7 hown hG.1 hP hD hS 0 rfl rfl 7 (by decide) (hts (.fieldLink RX7 34 "SleptMatters$Text" "at" "I") (List.mem_cons_of_mem _ (List.mem_append_left _ (List.mem_of_getElem? (i := 0) rfl)))) (fun _ h9 => h9) rfl (by decide +kernel) rfl rfl (Nat.le_of_ble_eq_true rfl) dX7_readWord_30 (fun H locs hP hD hS => ?_)
        have hP : va_P D vwCl [(h, .inr (7, [.ref qb, .int (nI n), .int (nI (rn (pB f) n a)), .int w3, .int w4, .int w5, .int w6, .int (nI (i + 1))])), (qb, .inl (k 0, 500, .inl f))] H := hP
        have hD : va_D A [(h, .inr (7, [.ref qb, .int (nI n), .int (nI (rn (pB f) n a)), .int w3, .int w4, .int w5, .int w6, .int (nI (i + 1))])), (qb, .inl (k 0, 500, .inl f))] := hD
        refine lv_goto (tgt := 12) hx hb dX7_readWord_33 (by decide) ?_
        exact ih (i + 1) (by omega) ((rn_step e9.1 e9.2).symm.trans he) (by omega) _ _ (hP.sub [0, 1] rfl) (hD.sub [0, 1] (by decide +kernel) rfl) hS ls (lv_sub hl [0] rfl)
  exact L1 _ (rn (pB f) n a) (⟨Nat.le_refl _, rn_le _ ha⟩) (rfl) (Nat.lt_succ_self _) _ _ hP hD hS ls (lv_sub hl [0] rfl)
