
abbrev PT8 : Type := (Nat → Int32) × (Nat → Int32) × (Nat → Int32) × (Nat → Int32) × (Nat → Int32) × Int32 × Int32 × Int32
/-- who is laid for a matter, on both sides -/
def LR (a5 a6 x6 x7 : Int32) : Prop := x6 = a5 ∧ ((a5 = -1 ∧ a6 = -1) ∨ (¬ a5 < 0 ∧ ¬ a5 = -1 ∧ x7 = a6))
theorem lr_d {a5 a6 : Int32} {z6 z7 : Nat → Int32} {i : Nat} (h : LR a5 a6 (z6 i) (z7 i)) {v hh : Int32} (hn : ¬ hh = -1) : d1 v a6 hh = v - laT z6 z7 hh i := by
  unfold d1 laT
  obtain ⟨e1, ⟨e2, e3⟩ | ⟨e2, -, e3⟩⟩ := h
  · rw [e1, e2, e3, if_neg (fun q => hn q.symm), if_pos (by decide), Int32.sub_zero]
  · rw [e1, e3, if_neg e2]
    by_cases q : a6 = hh
    · rw [if_pos q, if_pos q, Int32.sub_eq_add_neg]
    · rw [if_neg q, if_neg q, Int32.sub_zero]
theorem la_z {f5 f6 z6 z7 : Nat → Int32} {hh : Int32} {m : Nat} (h : LR (f5 m) (f6 m) (z6 m) (z7 m)) (e : f5 m = -1) : laT z6 z7 hh m = 0 := by
  unfold laT; rw [h.1, e, if_pos (by decide)]
theorem sub3 {v a b c : Int32} : v - a - b - c = v - (0 + a + b + c) := by
  rw [Int32.zero_add, ← Int32.sub_sub, ← Int32.sub_sub]
theorem la_3 {f5 f6 z6 z7 : Nat → Int32} {hh : Int32} {q : Nat} (hq : q ≤ 3) (h : ∀ m, m < 3 → LR (f5 m) (f6 m) (z6 m) (z7 m)) (hz : ∀ m, m < 3 → q ≤ m → f5 m = -1) : laM z6 z7 hh q = laM z6 z7 hh 3 := by
  have s : ∀ m, m < 3 → q ≤ m → laM z6 z7 hh (m + 1) = laM z6 z7 hh m := fun m h1 h2 => by
    show laM z6 z7 hh m + laT z6 z7 hh m = _
    rw [la_z (h m h1) (hz m h1 h2), Int32.add_zero]
  match q, hq, s with
  | 0, _, s => rw [s 2 (by decide) (by decide), s 1 (by decide) (by decide), s 0 (by decide) (by decide)]
  | 1, _, s => rw [s 2 (by decide) (by decide), s 1 (by decide) (by decide)]
  | 2, _, s => rw [s 2 (by decide) (by decide)]
  | 3, _, s => rfl
  | q + 4, hq, _ => omega
theorem bfr_la {f5 f6 z6 z7 : Nat → Int32} {v hh : Int32} {q : Nat} (hq : q ≤ 3) (h : ∀ m, m < 3 → LR (f5 m) (f6 m) (z6 m) (z7 m)) (hz : ∀ m, m < 3 → q ≤ m → f5 m = -1) (hn : ¬ hh = -1) : bfr v f6 hh = v - laM z6 z7 hh q := by
  rw [la_3 hq h hz]
  unfold bfr
  rw [lr_d (h 0 (by decide)) hn, lr_d (h 1 (by decide)) hn, lr_d (h 2 (by decide)) hn, sub3]; rfl
theorem lm_t {f5 f6 z6 z7 : Nat → Int32} {m : Nat} (h : LR (f5 m) (f6 m) (z6 m) (z7 m)) : (if z6 m < 0 then (0 : Int32) else 1) = ne1 (f5 m) (-1) := by
  unfold ne1
  obtain ⟨e1, ⟨e2, -⟩ | ⟨e2, e3, -⟩⟩ := h
  · rw [e1, e2, if_pos (by decide), if_pos rfl]
  · rw [e1, if_neg e2, if_neg e3]
theorem lm_3 {f5 f6 z6 z7 : Nat → Int32} {q : Nat} (hq : q ≤ 3) (h : ∀ m, m < 3 → LR (f5 m) (f6 m) (z6 m) (z7 m)) (hz : ∀ m, m < 3 → q ≤ m → f5 m = -1) : lmM z6 q = ltn f5 := by
  have t : lmM z6 3 = ltn f5 := by
    show 0 + (if z6 0 < 0 then (0 : Int32) else 1) + (if z6 1 < 0 then (0 : Int32) else 1) + (if z6 2 < 0 then (0 : Int32) else 1) = _
    rw [lm_t (h 0 (by decide)), lm_t (h 1 (by decide)), lm_t (h 2 (by decide)), Int32.zero_add]; rfl
  have s : ∀ m, m < 3 → q ≤ m → lmM z6 (m + 1) = lmM z6 m := fun m h1 h2 => by
    show lmM z6 m + (if z6 m < 0 then (0 : Int32) else 1) = _
    rw [lm_t (h m h1), hz m h1 h2]; exact Int32.add_zero _
  rw [← t]
  match q, hq, s with
  | 0, _, s => rw [s 2 (by decide) (by decide), s 1 (by decide) (by decide), s 0 (by decide) (by decide)]
  | 1, _, s => rw [s 2 (by decide) (by decide), s 1 (by decide) (by decide)]
  | 2, _, s => rw [s 2 (by decide) (by decide)]
  | 3, _, s => rfl
  | q + 4, hq, _ => omega
/-- no sleeper is laid twice -/
def LU (f5 : Nat → Int32) : Prop := ∀ i j, i < 3 → j < 3 → f5 i = f5 j → f5 i = -1 ∨ i = j
theorem lfm3 {f5 f6 z6 z7 : Nat → Int32} {sa : Int32} {q : Nat} (hq : q ≤ 3) (h : ∀ m, m < 3 → LR (f5 m) (f6 m) (z6 m) (z7 m)) (hz : ∀ m, m < 3 → q ≤ m → f5 m = -1) (hu : LU f5) (hn : ¬ sa = -1) : lfM z6 sa q = mof f5 sa := by
  have s : ∀ m, m < 3 → q ≤ m → lfM z6 sa (m + 1) = lfM z6 sa m := fun m h1 h2 => by
    show (if z6 m = sa then nI m else lfM z6 sa m) = _
    rw [(h m h1).1, hz m h1 h2, if_neg (fun q => hn q.symm)]
  have t : lfM z6 sa 3 = mof f5 sa := by
    show (if z6 2 = sa then nI 2 else if z6 1 = sa then nI 1 else if z6 0 = sa then nI 0 else -1) = _
    unfold mof
    rw [(h 0 (by decide)).1, (h 1 (by decide)).1, (h 2 (by decide)).1]
    by_cases a0 : f5 0 = sa
    · rw [if_neg (fun e => by rcases hu 0 2 (by decide) (by decide) (a0.trans e.symm) with k | k; exact hn (a0.symm.trans k); exact absurd k (by decide)), if_neg (fun e => by rcases hu 0 1 (by decide) (by decide) (a0.trans e.symm) with k | k; exact hn (a0.symm.trans k); exact absurd k (by decide)), if_pos a0, if_pos a0]; rfl
    · rw [if_neg a0, if_neg a0]
      by_cases a1 : f5 1 = sa
      · rw [if_neg (fun e => by rcases hu 1 2 (by decide) (by decide) (a1.trans e.symm) with k | k; exact hn (a1.symm.trans k); exact absurd k (by decide)), if_pos a1, if_pos a1]; rfl
      · rw [if_neg a1, if_neg a1]; rfl
  rw [← t]
  match q, hq, s with
  | 0, _, s => rw [s 2 (by decide) (by decide), s 1 (by decide) (by decide), s 0 (by decide) (by decide)]
  | 1, _, s => rw [s 2 (by decide) (by decide), s 1 (by decide) (by decide)]
  | 2, _, s => rw [s 2 (by decide) (by decide)]
  | 3, _, s => rfl
  | q + 4, hq, _ => omega
theorem mx_s {dy fr : Int32} : mx dy fr - fr = if dy ≤ fr then 0 else dy - fr := by
  unfold mx
  by_cases h : dy < fr
  · rw [if_pos h, if_pos (Int32.le_of_lt h), Int32.sub_self]
  · rw [if_neg h]
    by_cases e : dy ≤ fr
    · have : dy = fr := Int32.le_antisymm e (Int32.not_lt.mp h)
      rw [if_pos e, this, Int32.sub_self]
    · rw [if_neg e]
theorem i_asr {a b c : Int32} : a + b - c = a - c + b := by
  rw [Int32.sub_eq_add_neg, Int32.sub_eq_add_neg, Int32.add_assoc, Int32.add_comm b, ← Int32.add_assoc]
/-- the outcome's three values -/
def O3 (o : Int32) : Prop := o = 0 ∨ o = 1 ∨ o = 2
theorem wa_sc {mt z2 z3 : Nat → Int32} {dd m : Nat} {o d4 fr : Int32} (ho : O3 o) (e2 : z2 m = o) (e3 : z3 m = d4) (ef : mt (4 * m) = fr) : scT o d4 (nI dd) fr - fr = waM mt z2 z3 dd m := by
  unfold scT waM
  rw [e2, e3, ef]
  rcases ho with h | h | h <;> rw [h]
  · rw [if_pos rfl, if_pos (by decide), mx_s]
  · rw [if_neg (by decide), if_neg (by decide)]
  · rw [if_neg (by decide), if_neg (by decide)]
theorem scm_eq {n dd : Nat} {G3 f3 f4 mt z2 z3 : Nat → Int32} {wg : Int32} (hn : n ≤ 3) (hO : ∀ m, m < 3 → O3 (f3 m)) (h2 : ∀ m, m < 3 → z2 m = f3 m) (h3 : ∀ m, m < 3 → z3 m = f4 m) (hG : ∀ m, m < n → ∀ k, k < 4 → mt (4 * m + k) = G3 (m * 4 + k)) : ∀ j, j ≤ n → scI n G3 f3 f4 (nI dd) wg j = scM mt z2 z3 dd wg j
  | 0, _ => rfl
  | j + 1, hj => by
    have ih := scm_eq (wg := wg) (dd := dd) hn hO h2 h3 hG j (by omega)
    have p : ∀ k, k < 4 → pt n G3 (nI j) k = mt (4 * j + k) := fun k hk => (pt_in (by omega) (by omega)).trans (hG j (by omega) k hk).symm
    have p0 : pt n G3 (nI j) 0 = mt (4 * j) := p 0 (by decide)
    have w := wa_sc (mt := mt) (dd := dd) (hO j (by omega)) (h2 j (by omega)) (h3 j (by omega)) rfl
    rw [scI, scM, ih, scS, p0, p 1 (by decide), p 2 (by decide), p 3 (by decide), w, i_asr]
    unfold wnM
    rw [h2 j (by omega), h3 j (by omega)]
    by_cases o : f3 j = 1
    · rw [if_neg (fun q => q o), if_pos o]
      have : scT (f3 j) (f4 j) (nI dd) (mt (4 * j)) = f4 j := by unfold scT; rw [o]; exact if_neg (by decide)
      rw [this]
      by_cases l : mt (4 * j + 1) < f4 j
      · rw [if_pos l, if_pos l, Int32.add_zero]
      · rw [if_neg l, if_neg l]
    · rw [if_pos o, if_neg o, Int32.add_zero]
/-- a matter's nights on both sides: the same while it is not decided -/
def R1 (g0 g1 g2 g3 g4 w0 w1 w2 w3 w4 w5 : Int32) : Prop := w2 = g3 ∧ w3 = g4 ∧ (g3 = 0 → w4 = g0 ∧ w5 = g1 ∧ w1 = g2 ∧ w0 = bcA g0 ∧ ∃ o : Nat, o < 128 ∧ g0 = nI o)
def RN (x : PT8) (w0 w1 w2 w3 w4 w5 : Nat → Int32) : Prop := ∀ m, m < 3 → R1 (x.1 m) (x.2.1 m) (x.2.2.1 m) (x.2.2.2.1 m) (x.2.2.2.2.1 m) (w0 m) (w1 m) (w2 m) (w3 m) (w4 m) (w5 m)
theorem uq_s {f : Nat → Int32} {k : Nat} {v : Int32} : upd f k v k = v := if_pos rfl
theorem uq_n {f : Nat → Int32} {k m : Nat} {v : Int32} (h : ¬ m = k) : upd f k v m = f m := if_neg h
theorem bc_or : ∀ o : Fin 128, ∀ a : Fin 7, inS (nI o) (nI a) = 0 → bcA (nI o ||| ((1 : Int32) <<< (nI a &&& 31))) = bcA (nI o) + 1 ∧ nI o ||| ((1 : Int32) <<< (nI a &&& 31)) = nI (o.1 ||| (1 <<< a.1)) ∧ o.1 ||| (1 <<< a.1) < 128 := by decide +kernel
theorem bc_0 : bcA 0 = 0 := by decide +kernel
/-- the class's laid stay; the reference takes each away as it goes -/
def NR (j : Nat) (z6 : Nat → Int32) (x : PT8) (y : RT10) : Prop := RN x y.1 y.2.1 y.2.2.1 y.2.2.2.1 y.2.2.2.2.1 y.2.2.2.2.2.1 ∧ (∀ m, m < 3 → y.2.2.2.2.2.2.1 m = if m < j then -1 else z6 m) ∧ y.2.2.2.2.2.2.2.1 = x.2.2.2.2.2.1 ∧ y.2.2.2.2.2.2.2.2.1 = x.2.2.2.2.2.2.1 ∧ y.2.2.2.2.2.2.2.2.2 = x.2.2.2.2.2.2.2
theorem z6_s {j : Nat} {z6 w6 : Nat → Int32} (h : ∀ m, m < 3 → w6 m = if m < j then -1 else z6 m) : ∀ m, m < 3 → upd w6 j (-1) m = if m < j + 1 then -1 else z6 m := fun m hm => by
  by_cases e : m = j
  · rw [e, uq_s, if_pos (Nat.lt_succ_self _)]
  · rw [uq_n e, h m hm]
    by_cases l : m < j
    · rw [if_pos l, if_pos (by omega)]
    · rw [if_neg l, if_neg (by omega)]
theorem nr_L {j : Nat} {ag wv wv2 : Int32} {z6 g0 g1 g2 g3 g4 w0 w1 w2 w3 w4 w5 w6 : Nat → Int32} {wy sv sv2 de se : Int32} (hj : j < 3) (h : NR j z6 (g0, g1, g2, g3, g4, wv, sv, de) (w0, w1, w2, w3, w4, w5, w6, wv2, sv2, se)) : NR (j + 1) z6 (psL ag j (g0, g1, g2, g3, g4, wv, sv, de)) (nnF ag j wv2 (w0, w1, w2, w3, w4, w5, w6, wy, sv2, se)) := by
  obtain ⟨h1, h2, h3, h4, h5⟩ := h
  dsimp only at h1 h2 h3 h4 h5
  unfold psL nnF
  by_cases a : ag = 0
  · rw [if_pos a]; dsimp only; rw [if_pos a]
    exact ⟨h1, z6_s h2, h3, h4, by dsimp only; rw [h5, Int32.or_zero]⟩
  · rw [if_neg a]; dsimp only; rw [if_neg a]
    refine ⟨fun m hm => ?_, z6_s h2, h3, h4, by dsimp only; rw [h5, Int32.or_zero]⟩
    dsimp only
    by_cases e : m = j
    · rw [e, uq_s, uq_s, uq_s, uq_s, uq_s, uq_s, uq_s]
      exact ⟨(h1 j hj).1, (h1 j hj).2.1, fun _ => ⟨rfl, rfl, rfl, bc_0.symm, 0, by decide, rfl⟩⟩
    · rw [uq_n e, uq_n e, uq_n e, uq_n e, uq_n e, uq_n e, uq_n e]; exact h1 m hm
theorem nr_D {j : Nat} {ag wv wv2 : Int32} {z6 g0 g1 g2 g3 g4 w0 w1 w2 w3 w4 w5 w6 : Nat → Int32} {sv sv2 de se : Int32} (hd : ¬ g3 j = 0) (h : NR j z6 (g0, g1, g2, g3, g4, wv, sv, de) (w0, w1, w2, w3, w4, w5, w6, wv2, sv2, se)) : NR (j + 1) z6 (psL ag j (g0, g1, g2, g3, g4, wv, sv, de)) (w0, w1, w2, w3, w4, w5, upd w6 j (-1), wv2, sv2, se) := by
  obtain ⟨h1, h2, h3, h4, h5⟩ := h
  dsimp only at h1 h2 h3 h4 h5
  unfold psL
  by_cases a : ag = 0
  · rw [if_pos a]; exact ⟨h1, z6_s h2, h3, h4, h5⟩
  · rw [if_neg a]
    refine ⟨fun m hm => ?_, z6_s h2, h3, h4, h5⟩
    dsimp only
    by_cases e : m = j
    · rw [e]; exact ⟨(h1 j (e ▸ hm)).1, (h1 j (e ▸ hm)).2.1, fun q => absurd q hd⟩
    · rw [uq_n e, uq_n e, uq_n e]; exact h1 m hm
theorem ct_y {yq sv : Int32} {g2 : Nat → Int32} {j m : Nat} : ctY yq sv j g2 m = if m = j then g2 j + (if drw sv < yq then 1 else 0) else g2 m := by
  unfold ctY
  by_cases k : yq ≤ drw sv
  · rw [if_pos k, if_neg (Int32.not_lt.mpr k), Int32.add_zero]
    by_cases e : m = j
    · rw [if_pos e, e]
    · rw [if_neg e]
  · rw [if_neg k, if_pos (Int32.not_le.mp k)]; rfl
theorem psD_p {ni ye dy : Int32} {j : Nat} {x : PT8} (h : bcA (x.1 j) < ni) : psD ni ye dy j x = x := if_pos h
theorem psD_n {ni ye dy : Int32} {j : Nat} {x : PT8} (h : ¬ bcA (x.1 j) < ni) : psD ni ye dy j x = (x.1, x.2.1, x.2.2.1, upd x.2.2.2.1 j (if x.2.2.1 j < ye then 2 else 1), upd x.2.2.2.2.1 j dy, x.2.2.2.2.2.1, x.2.2.2.2.2.2.1, x.2.2.2.2.2.2.2 ||| ((1 : Int32) <<< (nI j &&& 31))) := if_neg h
theorem t12_l {P : Prop} [Decidable P] : ¬ (if P then (2 : Int32) else 1) ≤ 0 := by split <;> decide
theorem t12_n {P : Prop} [Decidable P] : ¬ (if P then (2 : Int32) else 1) = 0 := by split <;> decide
theorem cnM_n {t3 z6 z7 z0 z1 z2 z3 z4 z5 : Nat → Int32} {nt dd aa mm : Nat} {ye sd : Int32} (h : ¬ z0 mm + 1 < nI nt) : cnM t3 z6 z7 nt dd aa mm ye (z0, z1, z2, z3, z4, z5, sd) = (upd z0 mm (z0 mm + 1), upd z1 mm (z1 mm + (if drM 100 sd < t3 aa then 1 else 0)), upd z2 mm (if z1 mm + (if drM 100 sd < t3 aa then 1 else 0) < ye then 2 else 1), upd z3 mm (nI dd), upd z4 mm (z4 mm ||| ((1 : Int32) <<< (z6 mm &&& 31))), upd z5 mm (z5 mm ||| ((1 : Int32) <<< (z7 mm &&& 31))), dsM sd) := if_neg h
theorem nr_C {j a nt dd : Nat} {ye wv wv2 : Int32} {t3 z6 z7 f5 f6 g0 g1 g2 g3 g4 w0 w1 w2 w3 w4 w5 w6 : Nat → Int32} {sv sv2 de se : Int32} (hj : j < 3) (ha : a < 7) (e5 : f5 j = nI a) (e6 : z7 j = f6 j) (ew : w6 j = f5 j) (hd : g3 j = 0) (hin : inS (g0 j) (nI a) = 0) (hdr : dsM sv = dsd sv) (h : NR j z6 (g0, g1, g2, g3, g4, wv, sv, de) (w0, w1, w2, w3, w4, w5, w6, wv2, sv2, se)) : NR (j + 1) z6 (psD (nI nt) ye (nI dd) j (ctN f5 j g0, ctN f6 j g1, ctY (t3 a) sv j g2, g3, g4, wv, dsd sv, de)) (nnC j w6 wv2 se (cnM t3 w6 z7 nt dd a j ye (w0, w1, w2, w3, w4, w5, sv2))) := by
  obtain ⟨h1, h2, h3, h4, h5⟩ := h
  dsimp only at h1 h2 h3 h4 h5
  obtain ⟨k2, k3, kk⟩ := h1 j hj
  dsimp only at k2 k3 kk
  obtain ⟨k4, k5, k1, k0, o, ho, eo⟩ := kk hd
  have dr : drM 100 sv2 = drw sv := by unfold drM drw; rw [h4, hdr]
  rw [eo] at hin
  obtain ⟨b1, b2, b3⟩ := bc_or ⟨o, ho⟩ ⟨a, ha⟩ hin
  dsimp only at b1 b2 b3
  have c0 : ctN f5 j g0 j = nI o ||| ((1 : Int32) <<< (nI a &&& 31)) := by unfold ctN; rw [uq_s, eo, e5]
  have cb : bcA (ctN f5 j g0 j) = w0 j + 1 := by rw [c0, b1, k0, eo]
  have cy : ctY (t3 a) sv j g2 j = w1 j + (if drM 100 sv2 < t3 a then 1 else 0) := by rw [ct_y, if_pos rfl, dr, k1]
  have hs : dsM sv2 = dsd sv := by rw [h4, hdr]
  by_cases n : w0 j + 1 < nI nt
  · have n2 : bcA (ctN f5 j g0 j) < nI nt := Eq.mpr (congrArg (fun t => t < nI nt) cb) n
    rw [psD_p (x := (ctN f5 j g0, ctN f6 j g1, ctY (t3 a) sv j g2, g3, g4, wv, dsd sv, de)) n2]
    unfold nnC cnM
    dsimp only
    rw [if_pos n]
    have hse : (se ||| (if w2 j ≤ 0 then 0 else (1 : Int32) <<< (nI j &&& 31))) = de := by rw [if_pos (show w2 j ≤ 0 by rw [k2, hd]; decide), h5, Int32.or_zero]
    unfold NR RN
    dsimp only
    refine ⟨fun m hm => ?_, z6_s h2, h3, hs, hse⟩
    by_cases e : m = j
    · have p4 : (w4 j ||| ((1 : Int32) <<< (w6 j &&& 31))) = ctN f5 j g0 j := by rw [c0, k4, eo, ew, e5]
      have p5 : (w5 j ||| ((1 : Int32) <<< (z7 j &&& 31))) = ctN f6 j g1 j := by unfold ctN; rw [uq_s, k5, e6]
      rw [e, uq_s, uq_s, uq_s, uq_s]
      exact ⟨k2, k3, fun _ => ⟨p4, p5, cy.symm, cb.symm, _, b3, c0.trans b2⟩⟩
    · rw [uq_n e, uq_n e, uq_n e, uq_n e, ct_y, if_neg e]; unfold ctN; rw [uq_n e, uq_n e]; exact h1 m hm
  · have n2 : ¬ bcA (ctN f5 j g0 j) < nI nt := Eq.mpr (congrArg (fun t => ¬ t < nI nt) cb) n
    rw [psD_n (x := (ctN f5 j g0, ctN f6 j g1, ctY (t3 a) sv j g2, g3, g4, wv, dsd sv, de)) n2]
    rw [cnM_n n]
    unfold nnC
    dsimp only
    have hse : (se ||| (if upd w2 j (if w1 j + (if drM 100 sv2 < t3 a then 1 else 0) < ye then 2 else 1) j ≤ 0 then 0 else (1 : Int32) <<< (nI j &&& 31))) = de ||| ((1 : Int32) <<< (nI j &&& 31)) := by
      rw [uq_s, if_neg t12_l, h5]
    unfold NR RN
    dsimp only
    refine ⟨fun m hm => ?_, z6_s h2, h3, hs, hse⟩
    · by_cases e : m = j
      · subst e
        exact ⟨uq_s.trans (Eq.trans (congrArg (fun t => if t < ye then (2 : Int32) else 1) cy.symm) uq_s.symm), uq_s.trans uq_s.symm, fun q => absurd (uq_s.symm.trans q) t12_n⟩
      · rw [uq_n e, uq_n e, uq_n e, uq_n e, uq_n e, uq_n e, uq_n e, uq_n e, ct_y, if_neg e]; unfold ctN; rw [uq_n e, uq_n e]; exact h1 m hm

/-- the draws: the same, where the seed isn't negative -/
theorem ds_q {n : Nat} (h : n < 2 ^ 31) : dsM (nI n) = nI ((n * 1103515245 + 12345) % 2147483648) := by
  have e : (nI n).toInt64 * 1103515245 + 12345 = lN (n * 1103515245 + 12345) := by
    rw [nI_l h, ← lN_add, ← lN_mul]; rfl
  have d : lN (n * 1103515245 + 12345) / 2147483648 = lN ((n * 1103515245 + 12345) / 2147483648) := (Int64.ofNat_div (a := n * 1103515245 + 12345) (b := 2147483648) (by omega) (by decide)).symm
  have m : lN ((n * 1103515245 + 12345) / 2147483648) * 2147483648 = lN ((n * 1103515245 + 12345) / 2147483648 * 2147483648) := lN_mul _ 2147483648
  unfold dsM
  rw [e, d, m, lN_sub (Nat.div_mul_le_self _ _), lN_i]
  exact congrArg nI (by have := Nat.div_add_mod' (n * 1103515245 + 12345) 2147483648; omega)
theorem tn_m (K : Nat) : (nI K).toBitVec.toNat = K % 2 ^ 32 := rfl
theorem dd_q (n : Nat) : dsd (nI n) = nI ((n * 1103515245 + 12345) % 2147483648) := by
  have e : nI n * 1103515245 + 12345 = nI (n * 1103515245 + 12345) := (congrArg (· + (12345 : Int32)) (pk_mul n 1103515245)).trans (nI_add (n * 1103515245) 12345)
  unfold dsd
  rw [e]
  generalize n * 1103515245 + 12345 = K
  rw [pk_and _ 31 (by decide +kernel), tn_m]
  exact congrArg nI (by omega)
theorem dsM_eq {v : Int32} (h : ¬ v < 0) : dsM v = dsd v := by
  obtain ⟨n, hn, rfl⟩ := nI_of h
  rw [ds_q hn, dd_q]
theorem dsd_p (v : Int32) : ¬ dsd v < 0 := by
  unfold dsd
  rw [pk_and _ 31 (by decide +kernel)]
  exact nI_pos (Nat.mod_lt _ (by decide))
/-- a search in a row -/
theorem rn_at {p : Nat → Bool} {n k : Nat} (hk : k < n) (hp : p k = false) : ∀ d a, k - a = d → a ≤ k → (∀ i, a ≤ i → i < k → p i = true) → rn p n a = k
  | 0, a, hd, ha, h => by
    have e : a = k := by omega
    rw [e]
    exact rn_stop (fun q => by rw [hp] at q; exact absurd q.2 (by decide))
  | d + 1, a, hd, ha, h => by
    rw [rn_step (by omega) (h a (Nat.le_refl _) (by omega))]
    exact rn_at hk hp d (a + 1) (by omega) (by omega) (fun i h1 h2 => h i (by omega) h2)
theorem rn_all {p : Nat → Bool} {n : Nat} : ∀ d a, n - a = d → a ≤ n → (∀ i, a ≤ i → i < n → p i = true) → rn p n a = n
  | 0, a, hd, ha, h => by
    have e : a = n := by omega
    rw [e]
    exact rn_stop (fun q => Nat.lt_irrefl _ q.1)
  | d + 1, a, hd, ha, h => by
    rw [rn_step (by omega) (h a (Nat.le_refl _) (by omega))]
    exact rn_all d (a + 1) (by omega) (by omega) (fun i h1 h2 => h i (by omega) h2)
theorem rn_get {p : Nat → Bool} {n : Nat} : ∀ d a, n - a = d → a ≤ n → (∀ i, a ≤ i → i < rn p n a → p i = true) ∧ (rn p n a < n → p (rn p n a) = false)
  | 0, a, hd, ha => by
    have e : rn p n a = a := rn_stop (fun q => by have := q.1; omega)
    rw [e]
    exact ⟨fun i h1 h2 => absurd h2 (by omega), fun h => absurd h (by omega)⟩
  | d + 1, a, hd, ha => by
    by_cases hp : p a = true
    · rw [rn_step (by omega) hp]
      obtain ⟨h1, h2⟩ := rn_get (p := p) (n := n) d (a + 1) (by omega) (by omega)
      refine ⟨fun i k1 k2 => ?_, h2⟩
      by_cases e : i = a
      · rw [e]; exact hp
      · exact h1 i (by omega) k2
    · have e : rn p n a = a := rn_stop (fun q => hp q.2)
      rw [e]
      exact ⟨fun i h1 h2 => absurd h2 (by omega), fun _ => Bool.eq_false_iff.mpr hp⟩
/-- sleeper by sleeper and house by house, or both in one row -/
theorem two_l {P : Nat → Bool} {lh : Nat → Int32} {A B : Nat} (hq : ∀ z, z < A → (lh z = -1 ∧ ∀ b, b < B → P (z * B + b) = true) ∨ (¬ lh z = -1 ∧ ∃ b, b < B ∧ lh z = nI b ∧ P (z * B + b) = false ∧ ∀ c, c < b → P (z * B + c) = true)) : (rn (fun z => decide (lh z = -1)) A 0 < A ∧ ∃ b, b < B ∧ lh (rn (fun z => decide (lh z = -1)) A 0) = nI b ∧ rn P (A * B) 0 = rn (fun z => decide (lh z = -1)) A 0 * B + b) ∨ (¬ rn (fun z => decide (lh z = -1)) A 0 < A ∧ rn P (A * B) 0 = A * B) := by
  obtain ⟨g1, g2⟩ := rn_get (p := fun z => decide (lh z = -1)) (n := A) A 0 rfl (Nat.zero_le _)
  generalize rn (fun z => decide (lh z = -1)) A 0 = f at g1 g2 ⊢
  have all : ∀ z, z < f → z < A → ∀ b, b < B → P (z * B + b) = true := fun z hz hA => by
    rcases hq z hA with ⟨-, h⟩ | ⟨h, -⟩
    · exact h
    · exact absurd (of_decide_eq_true (g1 z (Nat.zero_le _) hz)) h
  by_cases hf : f < A
  · refine Or.inl ⟨hf, ?_⟩
    have g3 : ¬ lh f = -1 := of_decide_eq_false (g2 hf)
    rcases hq f hf with ⟨h, -⟩ | ⟨-, b, hb, eb, hP, hc⟩
    · exact absurd h g3
    · have hm : (f + 1) * B ≤ A * B := Nat.mul_le_mul_right B hf
      have hs : (f + 1) * B = f * B + B := Nat.succ_mul f B
      refine ⟨b, hb, eb, rn_at (by omega) hP _ 0 rfl (Nat.zero_le _) (fun i _ hi => ?_)⟩
      have hB : 0 < B := by omega
      have hd := Nat.div_add_mod' i B
      have hr := Nat.mod_lt i hB
      have hq2 : i / B < f + 1 := Nat.div_lt_of_lt_mul (by rw [Nat.mul_comm B]; omega)
      rw [← hd]
      by_cases e : i / B = f
      · rw [e] at hd ⊢
        exact hc _ (by omega)
      · exact all _ (by omega) (by omega) _ hr
  · refine Or.inr ⟨hf, rn_all _ 0 rfl (Nat.zero_le _) (fun i _ hi => ?_)⟩
    have hB : 0 < B := Nat.pos_of_ne_zero (fun q => by rw [q, Nat.mul_zero] at hi; exact absurd hi (Nat.not_lt_zero _))
    have hd := Nat.div_add_mod' i B
    have hr := Nat.mod_lt i hB
    have hq2 : i / B < A := Nat.div_lt_of_lt_mul (by rw [Nat.mul_comm B]; exact hi)
    rw [← hd]
    exact all _ (by omega) hq2 _ hr
/-- a bit that is asked for, on both sides -/
theorem bit01 (x y : Int32) : (x >>> (y &&& 31)) &&& 1 = 0 ∨ (x >>> (y &&& 31)) &&& 1 = 1 := by
  obtain ⟨j, hj, e⟩ := pk_andE (x >>> (y &&& 31)) 1 (m := 1) (by decide +kernel)
  rw [e]
  match j, hj with
  | 0, _ => exact Or.inl rfl
  | 1, _ => exact Or.inr rfl
  | j + 2, hj => exact absurd hj (by omega)
theorem hs_S (x y : Int32) : hsA x y = inS x y := by
  unfold hsA inS
  rcases bit01 x y with h | h
  · rw [h]; rfl
  · rw [h]; rfl
/-- who is laid in a town -/
def CRl (q : Nat → Nat) (f0 f3 f5 f6 z6 z7 : Nat → Int32) : Prop := (∀ m, m < 3 → LR (f5 m) (f6 m) (z6 m) (z7 m)) ∧ (∀ m, m < 3 → ¬ f5 m = -1 → m < q 3 ∧ f3 m = 0 ∧ ∃ a b : Nat, a < q 1 ∧ b < q 0 ∧ f5 m = nI a ∧ f6 m = nI b ∧ inS (f0 m) (nI a) = 0) ∧ LU f5
theorem CRl.hz {q : Nat → Nat} {f0 f3 f5 f6 z6 z7 : Nat → Int32} (h : CRl q f0 f3 f5 f6 z6 z7) : ∀ m, m < 3 → q 3 ≤ m → f5 m = -1 := fun m hm hq => by
  by_cases e : f5 m = -1
  · exact e
  · exact absurd (h.2.1 m hm e).1 (by omega)
theorem mof_v {f5 : Nat → Int32} {s : Int32} (h : mof f5 s = -1) : ∀ i, i < 3 → ¬ f5 i = s := fun i hi e => by
  unfold mof at h
  match i, hi, e with
  | 0, _, e => rw [if_pos e] at h; exact absurd h (by decide)
  | 1, _, e =>
    by_cases c : f5 0 = s
    · rw [if_pos c] at h; exact absurd h (by decide)
    · rw [if_neg c, if_pos e] at h; exact absurd h (by decide)
  | 2, _, e =>
    by_cases c : f5 0 = s
    · rw [if_pos c] at h; exact absurd h (by decide)
    · by_cases d : f5 1 = s
      · rw [if_neg c, if_pos d] at h; exact absurd h (by decide)
      · rw [if_neg c, if_neg d, if_pos e] at h; exact absurd h (by decide)
  | i + 3, hi, _ => exact absurd hi (by omega)
theorem mof_n {f5 : Nat → Int32} {s : Int32} : mof f5 s < 0 ↔ mof f5 s = -1 := by
  unfold mof
  by_cases c : f5 0 = s
  · rw [if_pos c]; decide
  · rw [if_neg c]
    by_cases d : f5 1 = s
    · rw [if_pos d]; decide
    · rw [if_neg d]
      by_cases e : f5 2 = s
      · rw [if_pos e]; decide
      · rw [if_neg e]; decide
theorem nI_m1 {a : Nat} (h : a < 7) : ¬ nI a = -1 := fun e => nI_pos (n := a) (by omega) (by rw [e]; decide)
theorem CRl_u {q : Nat → Nat} {f0 f3 f5 f6 z6 z7 : Nat → Int32} {j a b : Nat} (h : CRl q f0 f3 f5 f6 z6 z7) (hq0 : q 0 ≤ 7) (hq1 : q 1 ≤ 7) (hj : j < q 3) (h3 : f3 j = 0) (ha : a < q 1) (hb : b < q 0) (hi : inS (f0 j) (nI a) = 0) (hm : mof f5 (nI a) = -1) : CRl q f0 f3 (upd f5 j (nI a)) (upd f6 j (nI b)) (upd z6 j (nI a)) (upd z7 j (nI b)) := by
  refine ⟨fun m hm3 => ?_, fun m hm3 => ?_, fun i k hi3 hk3 => ?_⟩
  · by_cases e : m = j
    · rw [e, uq_s, uq_s, uq_s, uq_s]
      exact ⟨rfl, Or.inr ⟨nI_pos (by omega), nI_m1 (by omega), rfl⟩⟩
    · rw [uq_n e, uq_n e, uq_n e, uq_n e]; exact h.1 m hm3
  · by_cases e : m = j
    · rw [e, uq_s, uq_s]
      exact fun _ => ⟨hj, h3, a, b, ha, hb, rfl, rfl, hi⟩
    · rw [uq_n e, uq_n e]; exact h.2.1 m hm3
  · have hv := mof_v hm
    by_cases e : i = j
    · by_cases g : k = j
      · exact fun _ => Or.inr (e.trans g.symm)
      · rw [e, uq_s, uq_n g]
        exact fun q => absurd q.symm (hv k hk3)
    · by_cases g : k = j
      · rw [g, uq_s, uq_n e]
        exact fun q => absurd q (hv i hi3)
      · rw [uq_n e, uq_n g]; exact h.2.2 i k hi3 hk3
/-- somebody rises -/
theorem CRl_r {q : Nat → Nat} {f0 f3 f5 f6 z6 z7 : Nat → Int32} {j : Nat} (h : CRl q f0 f3 f5 f6 z6 z7) : CRl q f0 f3 (upd f5 j (-1)) (upd f6 j (-1)) (upd z6 j (-1)) z7 := by
  refine ⟨fun m hm3 => ?_, fun m hm3 => ?_, fun i k hi3 hk3 => ?_⟩
  · by_cases e : m = j
    · rw [e, uq_s, uq_s, uq_s]
      exact ⟨rfl, Or.inl ⟨rfl, rfl⟩⟩
    · rw [uq_n e, uq_n e, uq_n e]; exact h.1 m hm3
  · by_cases e : m = j
    · rw [e, uq_s, uq_s]
      exact fun q => absurd rfl q
    · rw [uq_n e, uq_n e]; exact h.2.1 m hm3
  · by_cases e : i = j
    · rw [e, uq_s]; exact fun _ => Or.inl rfl
    · by_cases g : k = j
      · rw [g, uq_s, uq_n e]; exact fun q => Or.inl q
      · rw [uq_n e, uq_n g]; exact h.2.2 i k hi3 hk3
/-- nobody is laid -/
theorem CRl_0 {q : Nat → Nat} {f0 f3 f5 f6 z6 z7 : Nat → Int32} (h5 : ∀ m, m < 3 → f5 m = -1) (h6 : ∀ m, m < 3 → f6 m = -1) (k6 : ∀ m, m < 3 → z6 m = -1) : CRl q f0 f3 f5 f6 z6 z7 := ⟨fun m hm => ⟨(k6 m hm).trans (h5 m hm).symm, Or.inl ⟨h5 m hm, h6 m hm⟩⟩, fun m hm e => absurd (h5 m hm) e, fun i j hi _ _ => Or.inl (h5 i hi)⟩
theorem la_k {z6 z7 : Nat → Int32} {hh : Int32} : ∀ q, ∃ k : Nat, k ≤ q ∧ laM z6 z7 hh q = nI k
  | 0 => ⟨0, Nat.le_refl _, rfl⟩
  | q + 1 => by
    obtain ⟨k, hk, e⟩ := la_k (z6 := z6) (z7 := z7) (hh := hh) q
    have t : laT z6 z7 hh q = 0 ∨ laT z6 z7 hh q = 1 := by
      unfold laT
      split
      · exact Or.inl rfl
      · split
        · exact Or.inr rfl
        · exact Or.inl rfl
    rw [laM, e]
    rcases t with t | t
    · rw [t, Int32.add_zero]; exact ⟨k, by omega, rfl⟩
    · rw [t, nI_1]; exact ⟨k + 1, by omega, rfl⟩
theorem sub_le0 {v k : Nat} (hv : v < 2 ^ 30) (hk : k < 2 ^ 30) : nI v - nI k ≤ 0 ↔ v ≤ k := by
  rw [Int32.le_iff_toInt_le, pk_sub_toInt hv hk]
  show (v : Int) - k ≤ 0 ↔ _
  omega
theorem op_im {z2 z6 mt f3 f5 f6 z7 : Nat → Int32} {dd j : Nat} {fr : Int32} (e2 : z2 j = f3 j) (hL : LR (f5 j) (f6 j) (z6 j) (z7 j)) (ef : mt (4 * j) = fr) : opM z2 z6 mt dd j = imf (f3 j) (f5 j) (nI dd) fr := by
  unfold opM imf
  rw [e2, ef]
  by_cases c : f3 j = 0
  · rw [if_neg (show ¬ ¬ f3 j = 0 from fun q => q c), if_neg (show ¬ ¬ f3 j = 0 from fun q => q c)]
    obtain ⟨e1, ⟨k1, k2⟩ | ⟨k1, k2, k3⟩⟩ := hL
    · rw [if_neg (show ¬ ¬ f5 j = -1 from fun q => q k1), e1, k1, if_pos (show (-1 : Int32) < 0 by decide)]
    · rw [if_pos k2, e1, if_neg k1]
      by_cases d : nI dd < fr
      · rw [if_pos d]
      · rw [if_neg d]
  · rw [if_pos c, if_pos c]
theorem fr_is {q : Nat → Nat} {G0 f0 f1 f3 f5 f6 z4 z5 z6 z7 t1 : Nat → Int32} {j a b : Nat} (h : CRl q f0 f3 f5 f6 z6 z7) (hq0 : q 0 ≤ 7) (hq1 : q 1 ≤ 7) (hq3 : q 3 ≤ 3) (hN : NBr 0 2 (q 0) G0) (ht : t1 b = G0 (b * 4 + 1)) (ha : a < q 1) (hb : b < q 0) (e4 : z4 j = f0 j) (e5 : z5 j = f1 j) : (if frM z6 z7 t1 (q 3) a b = 0 then (0 : Int32) else if hsA (z4 j) (nI a) = 0 then (if hsA (z5 j) (nI b) = 0 then 1 else 0) else 0) = 0 ↔ (isf (f0 j) (nI a) (mof f5 (nI a)) = 0 ∨ ihf (f1 j) (nI b) (bfr (pt (q 0) G0 (nI b) 1) f6 (nI b)) = 0) := by
  have l1 : lfM z6 (nI a) (q 3) = mof f5 (nI a) := lfm3 hq3 h.1 h.hz h.2.2 (nI_m1 (by omega))
  have p1 : pt (q 0) G0 (nI b) 1 = t1 b := (pt_in hb (by omega)).trans ht.symm
  have l2 : bfr (pt (q 0) G0 (nI b) 1) f6 (nI b) = t1 b - laM z6 z7 (nI b) (q 3) := by rw [p1]; exact bfr_la hq3 h.1 h.hz (nI_m1 (by omega))
  obtain ⟨v, -, hv, ev⟩ := hN b hb 1 (by decide)
  have hv2 : v ≤ 4 := hv
  obtain ⟨k, hk, ek⟩ := la_k (z6 := z6) (z7 := z7) (hh := nI b) (q 3)
  have s1 : (laM z6 z7 (nI b) (q 3) < t1 b) ↔ ¬ (t1 b - laM z6 z7 (nI b) (q 3) ≤ 0) := by
    rw [ht, ev, ek, nI_ltI (by omega) (by omega), sub_le0 (by omega) (by omega)]; omega
  unfold frM isf ihf
  rw [l1, l2, hs_S, hs_S, e4, e5]
  generalize laM z6 z7 (nI b) (q 3) = la at s1 ⊢
  have mn := mof_n (f5 := f5) (s := nI a)
  generalize mof f5 (nI a) = mo at mn ⊢
  by_cases c1 : mo < 0
  · rw [if_pos c1, if_neg (fun w => w (mn.mp c1) : ¬ ¬ mo = -1)]
    by_cases c2 : la < t1 b
    · rw [if_pos c2, if_neg (show ¬ (1 : Int32) = 0 by decide), if_neg (s1.mp c2)]
      by_cases c3 : inS (f0 j) (nI a) = 0
      · rw [if_pos c3, if_neg (fun w => w c3 : ¬ ¬ inS (f0 j) (nI a) = 0)]
        by_cases c4 : inS (f1 j) (nI b) = 0
        · rw [if_pos c4, if_neg (fun w => w c4 : ¬ ¬ inS (f1 j) (nI b) = 0)]; decide
        · rw [if_neg c4, if_pos c4]; decide
      · rw [if_neg c3, if_pos c3]
        exact ⟨fun _ => Or.inl rfl, fun _ => rfl⟩
    · rw [if_neg c2, if_pos rfl]
      have c5 : t1 b - la ≤ 0 := by
        by_cases w : t1 b - la ≤ 0
        · exact w
        · exact absurd (s1.mpr w) c2
      refine ⟨fun _ => Or.inr ?_, fun _ => rfl⟩
      by_cases c4 : inS (f1 j) (nI b) = 0
      · rw [if_neg (fun w => w c4 : ¬ ¬ inS (f1 j) (nI b) = 0), if_pos c5]
      · rw [if_pos c4]
  · rw [if_neg c1, if_pos rfl]
    refine ⟨fun _ => Or.inl ?_, fun _ => rfl⟩
    by_cases c3 : inS (f0 j) (nI a) = 0
    · rw [if_neg (fun w => w c3 : ¬ ¬ inS (f0 j) (nI a) = 0), if_pos (show ¬ mo = -1 from fun w => c1 (mn.mpr w))]
    · rw [if_pos c3]

/-- the course on both sides -/
def CR (q : Nat → Nat) (f0 f1 f2 f3 f4 f5 f6 z0 z1 z2 z3 z4 z5 z6 z7 : Nat → Int32) : Prop := (∀ m, m < 3 → R1 (f0 m) (f1 m) (f2 m) (f3 m) (f4 m) (z0 m) (z1 m) (z2 m) (z3 m) (z4 m) (z5 m)) ∧ (∀ m, m < 3 → O3 (f3 m)) ∧ (∀ m, m < 3 → q 3 ≤ m → f3 m = 0) ∧ CRl q f0 f3 f5 f6 z6 z7
section
variable {q : Nat → Nat} {G0 G1 G2 G3 lf f0 f1 f2 f3 f4 f5 f6 g0 g1 g2 g3 g4 g5 g6 z0 z1 z2 z3 z4 z5 z6 z7 w0 w1 w2 w3 w4 w5 w6 w7 t0 t1 t2 t3 t4 nz mt : Nat → Int32} {ho sp np mp nt dd j a b m : Nat} {ag ye wg sd wv sv wv2 sv2 de se ia sa sh r1 r2 : Int32}
theorem im_n {o l dy fr : Int32} (h : ¬ imf o l dy fr = 0) : o = 0 ∧ l = -1 := by
  unfold imf at h
  by_cases c : o = 0
  · rw [if_neg (fun w => w c : ¬ ¬ o = 0)] at h
    by_cases d : l = -1
    · exact ⟨c, d⟩
    · rw [if_pos d] at h; exact absurd rfl h
  · rw [if_pos c] at h; exact absurd rfl h
theorem isf_n {st mo : Int32} (h : ¬ isf st sa mo = 0) : inS st sa = 0 ∧ mo = -1 := by
  unfold isf at h
  by_cases c : inS st sa = 0
  · rw [if_neg (fun w => w c : ¬ ¬ inS st sa = 0)] at h
    by_cases d : mo = -1
    · exact ⟨c, d⟩
    · rw [if_pos d] at h; exact absurd rfl h
  · rw [if_pos c] at h; exact absurd rfl h
theorem ml_eq (h : CR q f0 f1 f2 f3 f4 f5 f6 z0 z1 z2 z3 z4 z5 z6 z7) (hR : RD q G0 G1 G2 G3 ho sp np mp t0 t1 t2 t3 t4 nz mt) (hN : NBr 0 2 (q 0) G0) (hq0 : q 0 ≤ 7) (hq1 : q 1 ≤ 7) (hq3 : q 3 ≤ 3) (hj : j < q 3) (ha : a < q 1) (hb : b < q 0) : mlA z2 z4 z5 z6 z7 mt t1 dd (q 3) j a b = 0 ↔ (imf (f3 j) (f5 j) (nI dd) (pt (q 3) G3 (nI j) 0) = 0 ∨ isf (f0 j) (nI a) (mof f5 (nI a)) = 0 ∨ ihf (f1 j) (nI b) (bfr (pt (q 0) G0 (nI b) 1) f6 (nI b)) = 0) := by
  have j3 : j < 3 := by omega
  obtain ⟨k2, k3, kk⟩ := h.1 j j3
  have ef : mt (4 * j) = pt (q 3) G3 (nI j) 0 := (hR.2.2.2.2 j hj 0 (by decide)).trans (pt_in hj (by omega)).symm
  have o := op_im (dd := dd) k2 (h.2.2.2.1 j j3) ef
  unfold mlA
  rw [o]
  by_cases c : imf (f3 j) (f5 j) (nI dd) (pt (q 3) G3 (nI j) 0) = 0
  · rw [if_pos c]; exact ⟨fun _ => Or.inl c, fun _ => rfl⟩
  · rw [if_neg c]
    obtain ⟨k4, k5, -⟩ := kk (im_n c).1
    exact Iff.trans (fr_is h.2.2.2 hq0 hq1 hq3 hN (hR.2.1 b hb).2 ha hb k4 k5) ⟨fun w => Or.inr w, fun w => w.resolve_left c⟩
theorem hs3_n {n1 n2 n3 : Nat} (h1 : n1 ≤ 20) (h2 : n2 ≤ 20) (h3 : n3 ≤ 20) (hj : j < n1) (ha : a < n2) (hb : b < n3) : ¬ (hs n1 (nI j) = 0 ∨ hs n2 (nI a) = 0 ∨ hs n3 (nI b) = 0) := by
  rw [hs_in hj (by omega), hs_in ha (by omega), hs_in hb (by omega)]; decide
theorem ly_eq (h : CR q f0 f1 f2 f3 f4 f5 f6 z0 z1 z2 z3 z4 z5 z6 z7) (hR : RD q G0 G1 G2 G3 ho sp np mp t0 t1 t2 t3 t4 nz mt) (hN : NBr 0 2 (q 0) G0) (hq0 : q 0 ≤ 7) (hq1 : q 1 ≤ 7) (hq3 : q 3 ≤ 3) (hx : lyS q G0 G3 f0 f1 f3 f5 f6 g5 g6 dd ia sa sh r1) (hm : lyM z2 z4 z5 z6 z7 mt t1 w6 w7 dd (q 0) (q 1) (q 3) ia sa sh r2) : r1 = r2 ∧ CRl q f0 f3 g5 g6 w6 w7 := by
  unfold lyM at hm
  rw [is_hs (n := q 3) (by omega), is_hs (n := q 1) (by omega), is_hs (n := q 0) (by omega)] at hm
  rcases hx with ⟨e5, e6, hx⟩ | ⟨j, hj, ej, hsa, hsh, i1, i2, i3, e5, e6, er⟩
  · rcases hm with ⟨k6, k7, hm⟩ | ⟨j, a, b, hj, ha, hb, ej, ea, eb, hl, k6, k7, kr⟩
    · refine ⟨?_, by rw [e5, e6, k6, k7]; exact h.2.2.2⟩
      rcases hx with ⟨x1, x2⟩ | ⟨j, hj, ej, hsa, hsh, x1, x2⟩
      · rcases hm with ⟨-, y2⟩ | ⟨j, a, b, hj, ha, hb, ej, ea, eb, -, y2⟩
        · rw [x2, y2]
        · rw [ej, ea, eb] at x1
          exact absurd x1 (hs3_n (by omega) (by omega) (by omega) hj ha hb)
      · rcases hm with ⟨y1, y2⟩ | ⟨-, -, -, -, -, -, -, -, -, -, y2⟩
        · exfalso
          rcases y1 with y | y | y
          · rw [ej, hs_in hj (by omega)] at y; exact absurd y (by decide)
          · exact hsa y
          · exact hsh y
        · rw [x2, y2]
    · exfalso
      rcases hx with ⟨x1, -⟩ | ⟨j2, hj2, ej2, -, -, x1, -⟩
      · rw [ej, ea, eb] at x1
        exact hs3_n (by omega) (by omega) (by omega) hj ha hb x1
      · have e : j2 = j := (nI_eq (by omega) (by omega)).mp (ej2.symm.trans ej)
        rw [e, ea, eb] at x1
        exact hl ((ml_eq h hR hN hq0 hq1 hq3 hj ha hb).mpr x1)
  · obtain ⟨a, ha, ea⟩ := hs_ne (by omega) hsa
    obtain ⟨b, hb, eb⟩ := hs_ne (by omega) hsh
    rw [ea] at i2
    rw [eb] at i3
    have nl : ¬ mlA z2 z4 z5 z6 z7 mt t1 dd (q 3) j a b = 0 := fun w => by
      rcases (ml_eq h hR hN hq0 hq1 hq3 hj ha hb).mp w with w | w | w
      · exact i1 w
      · exact i2 w
      · exact i3 w
    rcases hm with ⟨k6, k7, hm⟩ | ⟨j2, a2, b2, hj2, ha2, hb2, ej2, ea2, eb2, hl, k6, k7, kr⟩
    · exfalso
      rcases hm with ⟨y1, -⟩ | ⟨j2, a2, b2, hj2, ha2, hb2, ej2, ea2, eb2, hl, -⟩
      · rw [ej, ea, eb] at y1
        exact hs3_n (by omega) (by omega) (by omega) hj ha hb y1
      · have x1 : j2 = j := (nI_eq (by omega) (by omega)).mp (ej2.symm.trans ej)
        have x2 : a2 = a := (nI_eq (by omega) (by omega)).mp (ea2.symm.trans ea)
        have x3 : b2 = b := (nI_eq (by omega) (by omega)).mp (eb2.symm.trans eb)
        rw [x1, x2, x3] at hl
        exact nl hl
    · have x1 : j2 = j := (nI_eq (by omega) (by omega)).mp (ej2.symm.trans ej)
      rw [x1, ← ea2] at k6
      rw [x1, ← eb2] at k7
      have hc := CRl_u h.2.2.2 hq0 hq1 hj (im_n i1).1 ha hb (isf_n i2).1 (isf_n i2).2
      rw [← ea, ← eb] at hc
      refine ⟨?_, by rw [e5, e6, k6, k7]; exact hc⟩
      rw [er, kr, e5, k6]
      exact (lm_3 hq3 hc.1 hc.hz).symm
theorem lr_neg {a5 a6 x6 x7 : Int32} (h : LR a5 a6 x6 x7) : x6 < 0 ↔ a5 = -1 := by
  obtain ⟨e1, ⟨k1, -⟩ | ⟨k1, k2, -⟩⟩ := h
  · rw [e1, k1]; decide
  · rw [e1]; exact ⟨fun w => absurd w k1, fun w => absurd w k2⟩
theorem ri_eq (h : CRl q f0 f3 f5 f6 z6 z7) (hq3 : q 3 ≤ 3) (hx : riS q f5 f6 g5 g6 ia r1) (hm : riM z6 w6 (q 3) ia r2) : r1 = r2 ∧ CRl q f0 f3 g5 g6 w6 z7 := by
  unfold riM at hm
  rw [is_hs (n := q 3) (by omega)] at hm
  rcases hx with ⟨e5, e6, hx⟩ | ⟨j, hj, ej, i1, er, e5, e6⟩
  · rcases hm with ⟨k6, hm⟩ | ⟨j, hj, ej, i1, kr, k6⟩
    · refine ⟨?_, by rw [e5, e6, k6]; exact h⟩
      rcases hx with ⟨x1, x2⟩ | ⟨j, hj, ej, x1, x2⟩
      · rcases hm with ⟨-, y2⟩ | ⟨j, hj, ej, -, -⟩
        · rw [x2, y2]
        · rw [ej, hs_in hj (by omega)] at x1; exact absurd x1 (by decide)
      · rcases hm with ⟨y1, -⟩ | ⟨-, -, -, -, y2⟩
        · rw [ej, hs_in hj (by omega)] at y1; exact absurd y1 (by decide)
        · rw [x2, y2]
    · exfalso
      rcases hx with ⟨x1, -⟩ | ⟨j2, hj2, ej2, x1, -⟩
      · rw [ej, hs_in hj (by omega)] at x1; exact absurd x1 (by decide)
      · have e : j2 = j := (nI_eq (by omega) (by omega)).mp (ej2.symm.trans ej)
        rw [e] at x1
        exact i1 ((lr_neg (h.1 j (by omega))).mpr x1)
  · rcases hm with ⟨k6, hm⟩ | ⟨j2, hj2, ej2, i2, kr, k6⟩
    · exfalso
      rcases hm with ⟨y1, -⟩ | ⟨j2, hj2, ej2, y1, -⟩
      · rw [ej, hs_in hj (by omega)] at y1; exact absurd y1 (by decide)
      · have e : j2 = j := (nI_eq (by omega) (by omega)).mp (ej2.symm.trans ej)
        rw [e] at y1
        exact i1 ((lr_neg (h.1 j (by omega))).mp y1)
    · have e : j2 = j := (nI_eq (by omega) (by omega)).mp (ej2.symm.trans ej)
      rw [e] at kr k6
      exact ⟨by rw [er, kr, (h.1 j (by omega)).1], by rw [e5, e6, k6]; exact CRl_r h⟩
/-- who is laid by themselves -/
theorem lk_0 (h : CR q f0 f1 f2 f3 f4 f5 f6 z0 z1 z2 z3 z4 z5 z6 z7) (hR : RD q G0 G1 G2 G3 ho sp np mp t0 t1 t2 t3 t4 nz mt) (hq3 : q 3 ≤ 3) (hj : j < q 3) (c : imf (f3 j) (f5 j) (nI dd) (pt (q 3) G3 (nI j) 0) = 0) : lyF z2 z4 z5 mt t1 t0 t2 nz np dd (q 0) (q 1) (q 3) j z6 z7 = (z6, z7) := by
  have j3 : j < 3 := by omega
  have ef : mt (4 * j) = pt (q 3) G3 (nI j) 0 := (hR.2.2.2.2 j hj 0 (by decide)).trans (pt_in hj (by omega)).symm
  have o := (op_im (dd := dd) (h.1 j j3).1 (h.2.2.2.1 j j3) ef).trans c
  have e : lyE z2 z4 z5 z6 z7 mt t1 t0 t2 nz np dd (q 0) (q 1) (q 3) j 0 = q 1 * q 0 := rn_all _ 0 rfl (Nat.zero_le _) (fun i _ _ => by
    have m0 : mlA z2 z4 z5 z6 z7 mt t1 dd (q 3) j (i / q 0) (i % q 0) = 0 := if_pos o
    show (decide (mlA z2 z4 z5 z6 z7 mt t1 dd (q 3) j (i / q 0) (i % q 0) = 0) || _) = true
    rw [decide_eq_true m0, Bool.true_or])
  unfold lyF
  rw [e, if_neg (Nat.lt_irrefl _)]
  by_cases c : z6 j < 0
  · rw [if_pos c]
  · rw [if_neg c]
theorem dm_1 {B f b : Nat} (hb : b < B) : (f * B + b) / B = f := by
  rw [Nat.mul_comm, Nat.mul_add_div (by omega), Nat.div_eq_of_lt hb, Nat.add_zero]
theorem dm_2 {B f b : Nat} (hb : b < B) : (f * B + b) % B = b := by
  rw [Nat.mul_comm, Nat.mul_add_mod, Nat.mod_eq_of_lt hb]
theorem lk_q (h : CR q f0 f1 f2 f3 f4 f5 f6 z0 z1 z2 z3 z4 z5 z6 z7) (hR : RD q G0 G1 G2 G3 ho sp np mp t0 t1 t2 t3 t4 nz mt) (hN : NBr 0 2 (q 0) G0) (hq0 : q 0 ≤ 7) (hq1 : q 1 ≤ 7) (hq3 : q 3 ≤ 3) (hw : ∀ a b l, wkA lf a b l = wkM nz np a b l) (hj : j < q 3) (c : ¬ imf (f3 j) (f5 j) (nI dd) (pt (q 3) G3 (nI j) 0) = 0) : ∀ z, z < q 1 → (lfH q G0 G1 lf f0 f1 f5 f6 (nI dd) j z = -1 ∧ ∀ b, b < q 0 → lyP z2 z4 z5 z6 z7 mt t1 t0 t2 nz np dd (q 0) (q 3) j (z * q 0 + b) = true) ∨ (¬ lfH q G0 G1 lf f0 f1 f5 f6 (nI dd) j z = -1 ∧ ∃ b, b < q 0 ∧ lfH q G0 G1 lf f0 f1 f5 f6 (nI dd) j z = nI b ∧ lyP z2 z4 z5 z6 z7 mt t1 t0 t2 nz np dd (q 0) (q 3) j (z * q 0 + b) = false ∧ ∀ c, c < b → lyP z2 z4 z5 z6 z7 mt t1 t0 t2 nz np dd (q 0) (q 3) j (z * q 0 + c) = true) := by
  intro z hz
  have hP : ∀ b, b < q 0 → lyP z2 z4 z5 z6 z7 mt t1 t0 t2 nz np dd (q 0) (q 3) j (z * q 0 + b) = (decide (isf (f0 j) (nI z) (mof f5 (nI z)) = 0 ∨ ihf (f1 j) (nI b) (bfr (pt (q 0) G0 (nI b) 1) f6 (nI b)) = 0) || !decide (wkM nz np (t0 b) (nI dd) (t2 z) = 0)) := fun b hb => by
    unfold lyP
    rw [dm_1 hb, dm_2 hb]
    have e := (ml_eq (dd := dd) h hR hN hq0 hq1 hq3 hj hz hb).trans ⟨fun w => w.resolve_left c, fun w => Or.inr w⟩
    rw [decide_eq_decide.mpr e]
  by_cases s : isf (f0 j) (nI z) (mof f5 (nI z)) = 0
  · refine Or.inl ⟨if_pos s, fun b hb => ?_⟩
    rw [hP b hb, decide_eq_true (Or.inl s), Bool.true_or]
  · have eH : lfH q G0 G1 lf f0 f1 f5 f6 (nI dd) j z = fcR q G0 G1 lf f1 f6 (nI dd) (nI z) j := if_neg s
    have hF : ∀ b, b < q 0 → lyP z2 z4 z5 z6 z7 mt t1 t0 t2 nz np dd (q 0) (q 3) j (z * q 0 + b) = !fcP q G0 G1 lf f1 f6 (nI dd) (nI z) j b := fun b hb => by
      have w1 : pt (q 0) G0 (nI b) 0 = t0 b := (pt_in hb (by omega)).trans (hR.2.1 b hb).1.symm
      have w2 : pt (q 1) G1 (nI z) 0 = t2 z := (pt_in hz (by omega)).trans (hR.2.2.1 z hz).1.symm
      rw [hP b hb]
      unfold fcP
      rw [w1, w2, hw, decide_eq_decide.mpr (show (isf (f0 j) (nI z) (mof f5 (nI z)) = 0 ∨ ihf (f1 j) (nI b) (bfr (pt (q 0) G0 (nI b) 1) f6 (nI b)) = 0) ↔ ihf (f1 j) (nI b) (bfr (pt (q 0) G0 (nI b) 1) f6 (nI b)) = 0 from ⟨fun w => w.resolve_left s, fun w => Or.inr w⟩)]
      generalize decide (ihf (f1 j) (nI b) (bfr (pt (q 0) G0 (nI b) 1) f6 (nI b)) = 0) = d1
      generalize decide (wkM nz np (t0 b) (nI dd) (t2 z) = 0) = d2
      cases d1 <;> cases d2 <;> rfl
    obtain ⟨n1, n2⟩ := rn_get (p := fun i => !fcP q G0 G1 lf f1 f6 (nI dd) (nI z) j i) (n := q 0) _ 0 rfl (Nat.zero_le _)
    have n3 := rn_le (fun i => !fcP q G0 G1 lf f1 f6 (nI dd) (nI z) j i) (n := q 0) (Nat.zero_le _)
    have eR : fcR q G0 G1 lf f1 f6 (nI dd) (nI z) j = if rn (fun i => !fcP q G0 G1 lf f1 f6 (nI dd) (nI z) j i) (q 0) 0 < q 0 then nI (rn (fun i => !fcP q G0 G1 lf f1 f6 (nI dd) (nI z) j i) (q 0) 0) else -1 := rfl
    rw [eH, eR]
    generalize rn (fun i => !fcP q G0 G1 lf f1 f6 (nI dd) (nI z) j i) (q 0) 0 = e at n1 n2 n3 ⊢
    by_cases l : e < q 0
    · rw [if_pos l]
      exact Or.inr ⟨nI_m1 (by omega), e, l, rfl, (hF e l).trans (n2 l), fun c hc => (hF c (by omega)).trans (n1 c (Nat.zero_le _) hc)⟩
    · rw [if_neg l]
      exact Or.inl ⟨rfl, fun b hb => (hF b hb).trans (n1 b (Nat.zero_le _) (by omega))⟩
theorem lk_1 (h : CR q f0 f1 f2 f3 f4 f5 f6 z0 z1 z2 z3 z4 z5 z6 z7) (hR : RD q G0 G1 G2 G3 ho sp np mp t0 t1 t2 t3 t4 nz mt) (hN : NBr 0 2 (q 0) G0) (hq0 : q 0 ≤ 7) (hq1 : q 1 ≤ 7) (hq3 : q 3 ≤ 3) (hw : ∀ a b l, wkA lf a b l = wkM nz np a b l) (hj : j < q 3) (c : ¬ imf (f3 j) (f5 j) (nI dd) (pt (q 3) G3 (nI j) 0) = 0) : CRl q f0 f3 (lf5 q G0 G1 lf f0 f1 f5 f6 (nI dd) j) (lf6 q G0 G1 lf f0 f1 f5 f6 (nI dd) j) (lyF z2 z4 z5 mt t1 t0 t2 nz np dd (q 0) (q 1) (q 3) j z6 z7).1 (lyF z2 z4 z5 mt t1 t0 t2 nz np dd (q 0) (q 1) (q 3) j z6 z7).2 := by
  have hq := lk_q h hR hN hq0 hq1 hq3 hw hj c
  have tl := two_l hq
  have z6n : z6 j < 0 := (lr_neg (h.2.2.2.1 j (by omega))).mpr (im_n c).2
  have eE : lfE q G0 G1 lf f0 f1 f5 f6 (nI dd) j 0 = rn (fun z => decide (lfH q G0 G1 lf f0 f1 f5 f6 (nI dd) j z = -1)) (q 1) 0 := rfl
  have eL : lyE z2 z4 z5 z6 z7 mt t1 t0 t2 nz np dd (q 0) (q 1) (q 3) j 0 = rn (lyP z2 z4 z5 z6 z7 mt t1 t0 t2 nz np dd (q 0) (q 3) j) (q 1 * q 0) 0 := rfl
  rw [← eE, ← eL] at tl
  unfold lf5 lf6 lyF
  generalize lfE q G0 G1 lf f0 f1 f5 f6 (nI dd) j 0 = f at tl ⊢
  generalize lyE z2 z4 z5 z6 z7 mt t1 t0 t2 nz np dd (q 0) (q 1) (q 3) j 0 = e at tl ⊢
  rw [if_pos z6n]
  rcases tl with ⟨hf, b, hb, eb, ee⟩ | ⟨hf, ee⟩
  · have hm : (f + 1) * q 0 ≤ q 1 * q 0 := Nat.mul_le_mul_right _ hf
    have hs : (f + 1) * q 0 = f * q 0 + q 0 := Nat.succ_mul _ _
    have l : e < q 1 * q 0 := by omega
    have s : ¬ isf (f0 j) (nI f) (mof f5 (nI f)) = 0 := fun s => by
      have k : lfH q G0 G1 lf f0 f1 f5 f6 (nI dd) j f = -1 := if_pos s
      rw [eb] at k
      exact nI_m1 (by omega) k
    rw [if_pos hf, if_pos hf, if_pos l, eb, ee, dm_1 hb, dm_2 hb]
    exact CRl_u h.2.2.2 hq0 hq1 hj (im_n c).1 hf hb (isf_n s).1 (isf_n s).2
  · rw [if_neg hf, if_neg hf, ee, if_neg (Nat.lt_irrefl _)]
    exact h.2.2.2
theorem lk_I (h : CR q f0 f1 f2 f3 f4 f5 f6 z0 z1 z2 z3 z4 z5 z6 z7) (hR : RD q G0 G1 G2 G3 ho sp np mp t0 t1 t2 t3 t4 nz mt) (hN : NBr 0 2 (q 0) G0) (hq0 : q 0 ≤ 7) (hq1 : q 1 ≤ 7) (hq3 : q 3 ≤ 3) (hw : ∀ a b l, wkA lf a b l = wkM nz np a b l) : ∀ j, j ≤ q 3 → CRl q f0 f3 (lbI q G0 G1 G3 lf f0 f1 f3 f5 f6 (nI dd) j).1 (lbI q G0 G1 G3 lf f0 f1 f3 f5 f6 (nI dd) j).2 (lkI z2 z4 z5 mt t1 t0 t2 nz np dd (q 0) (q 1) (q 3) z6 z7 j).1 (lkI z2 z4 z5 mt t1 t0 t2 nz np dd (q 0) (q 1) (q 3) z6 z7 j).2
  | 0, _ => h.2.2.2
  | j + 1, hj => by
    have ih := lk_I h hR hN hq0 hq1 hq3 hw j (by omega)
    rw [lbI, lkI]
    generalize lbI q G0 G1 G3 lf f0 f1 f3 f5 f6 (nI dd) j = x at ih ⊢
    generalize lkI z2 z4 z5 mt t1 t0 t2 nz np dd (q 0) (q 1) (q 3) z6 z7 j = y at ih ⊢
    obtain ⟨x5, x6⟩ := x
    obtain ⟨y6, y7⟩ := y
    dsimp only at ih ⊢
    have hc : CR q f0 f1 f2 f3 f4 x5 x6 z0 z1 z2 z3 z4 z5 y6 y7 := ⟨h.1, h.2.1, h.2.2.1, ih⟩
    by_cases c : imf (f3 j) (x5 j) (nI dd) (pt (q 3) G3 (nI j) 0) = 0
    · rw [if_pos c, lk_0 hc hR hq3 (by omega) c]; exact ih
    · rw [if_neg c]; exact lk_1 hc hR hN hq0 hq1 hq3 hw (by omega) c
end

section
variable {q : Nat → Nat} {G0 G1 G2 G3 lf f0 f1 f2 f3 f4 f5 f6 g0 g1 g2 g3 g4 g5 g6 z0 z1 z2 z3 z4 z5 z6 z7 w0 w1 w2 w3 w4 w5 w6 w7 t0 t1 t2 t3 t4 nz mt : Nat → Int32} {ho sp np mp nt dd j a b m : Nat} {ag ye wg sd wv sv wv2 sv2 de se r1 r2 dy ni : Int32} {x : PT8}
theorem nr_w {d d2 : Int32} (e : d2 = d) (h : NR j z6 (g0, g1, g2, g3, g4, wv, sv, de) (w0, w1, w2, w3, w4, w5, w6, wv2, sv2, se)) : NR j z6 (g0, g1, g2, g3, g4, wv + d, sv, de) (w0, w1, w2, w3, w4, w5, w6, wv2 + d2, sv2, se) := by
  obtain ⟨h1, h2, h3, h4, h5⟩ := h
  dsimp only at h3
  exact ⟨h1, h2, by dsimp only; rw [h3, e], h4, h5⟩
theorem psS_1 (h : f5 j = -1) : psS q G0 G1 lf f5 f6 dy ni ye ag j x = psL ag j x := if_pos h
theorem psS_2 (h : ¬ f5 j = -1) (hk : wkA lf (pt (q 0) G0 (f6 j) 0) dy (pt (q 1) G1 (f5 j) 0) = 0) : psS q G0 G1 lf f5 f6 dy ni ye ag j (g0, g1, g2, g3, g4, wv, sv, de) = psD ni ye dy j (ctN f5 j g0, ctN f6 j g1, ctY (pt (q 1) G1 (f5 j) 1) sv j g2, g3, g4, wv + pt (q 1) G1 (f5 j) 2, dsd sv, de) := (if_neg h).trans (if_pos hk)
theorem psS_3 (h : ¬ f5 j = -1) (hk : ¬ wkA lf (pt (q 0) G0 (f6 j) 0) dy (pt (q 1) G1 (f5 j) 0) = 0) : psS q G0 G1 lf f5 f6 dy ni ye ag j (g0, g1, g2, g3, g4, wv, sv, de) = psL ag j (g0, g1, g2, g3, g4, wv + pt (q 1) G1 (f5 j) 2, sv, de) := (if_neg h).trans (if_neg hk)
theorem nnS_1 (h : ¬ w2 j = 0) : nnS t0 t2 t3 t4 nz z7 np nt dd ag ye j (w0, w1, w2, w3, w4, w5, w6, wv2, sv2, se) = (w0, w1, w2, w3, w4, w5, upd w6 j (-1), wv2, sv2, se) := if_pos h
theorem nnS_2 (h : w2 j = 0) (h6 : w6 j < 0) : nnS t0 t2 t3 t4 nz z7 np nt dd ag ye j (w0, w1, w2, w3, w4, w5, w6, wv2, sv2, se) = nnF ag j (wv2 + 0) (w0, w1, w2, w3, w4, w5, w6, wv2, sv2, se) := (if_neg (fun k => k h)).trans (if_pos h6)
theorem nnS_3 (h : w2 j = 0) (h6 : ¬ w6 j < 0) (hk : wkM nz np (t0 (cl9 (z7 j))) (nI dd) (t2 (cl9 (w6 j))) = 0) : nnS t0 t2 t3 t4 nz z7 np nt dd ag ye j (w0, w1, w2, w3, w4, w5, w6, wv2, sv2, se) = nnC j w6 (wv2 + t4 (cl9 (w6 j))) se (cnM t3 w6 z7 nt dd (cl9 (w6 j)) j ye (w0, w1, w2, w3, w4, w5, sv2)) := (if_neg (fun k => k h)).trans ((if_neg h6).trans (if_pos hk))
theorem nnS_4 (h : w2 j = 0) (h6 : ¬ w6 j < 0) (hk : ¬ wkM nz np (t0 (cl9 (z7 j))) (nI dd) (t2 (cl9 (w6 j))) = 0) : nnS t0 t2 t3 t4 nz z7 np nt dd ag ye j (w0, w1, w2, w3, w4, w5, w6, wv2, sv2, se) = nnF ag j (wv2 + t4 (cl9 (w6 j))) (w0, w1, w2, w3, w4, w5, w6, wv2, sv2, se) := (if_neg (fun k => k h)).trans ((if_neg h6).trans (if_neg hk))
/-- one matter's night -/
theorem nr_S (hj : j < 3) (hL : LR (f5 j) (f6 j) (z6 j) (z7 j)) (hB : ¬ f5 j = -1 → g3 j = 0 ∧ ∃ a b : Nat, a < q 1 ∧ b < q 0 ∧ f5 j = nI a ∧ f6 j = nI b ∧ inS (g0 j) (nI a) = 0) (hR : RD q G0 G1 G2 G3 ho sp np mp t0 t1 t2 t3 t4 nz mt) (hq0 : q 0 ≤ 7) (hq1 : q 1 ≤ 7) (hw : ∀ a b l, wkA lf a b l = wkM nz np a b l) (hs : ¬ sv < 0) (h : NR j z6 (g0, g1, g2, g3, g4, wv, sv, de) (w0, w1, w2, w3, w4, w5, w6, wv2, sv2, se)) : NR (j + 1) z6 (psS q G0 G1 lf f5 f6 (nI dd) (nI nt) ye ag j (g0, g1, g2, g3, g4, wv, sv, de)) (nnS t0 t2 t3 t4 nz z7 np nt dd ag ye j (w0, w1, w2, w3, w4, w5, w6, wv2, sv2, se)) := by
  have e6 : w6 j = f5 j := by
    have k := h.2.1 j hj
    dsimp only at k
    rw [k, if_neg (Nat.lt_irrefl _)]
    exact hL.1
  have e2 : w2 j = g3 j := (h.1 j hj).1
  by_cases c : f5 j = -1
  · rw [psS_1 c]
    by_cases d : g3 j = 0
    · rw [nnS_2 (e2.trans d) (by rw [e6, c]; decide), Int32.add_zero]
      exact nr_L hj h
    · rw [nnS_1 (fun k => d (e2.symm.trans k))]
      exact nr_D d h
  · obtain ⟨d, a, b, ha, hb, ea, eb, hi⟩ := hB c
    have e7 : z7 j = f6 j := by
      obtain ⟨-, ⟨k, -⟩ | ⟨-, -, k⟩⟩ := hL
      · exact absurd k c
      · exact k
    have c6 : cl9 (w6 j) = a := by rw [e6, ea]; exact cl_n (by omega)
    have c7 : cl9 (z7 j) = b := by rw [e7, eb]; exact cl_n (by omega)
    have n6 : ¬ w6 j < 0 := by rw [e6, ea]; exact nI_pos (by omega)
    have p0 : pt (q 0) G0 (f6 j) 0 = t0 b := by rw [eb]; exact (pt_in hb (by omega)).trans (hR.2.1 b hb).1.symm
    have p1 : pt (q 1) G1 (f5 j) 0 = t2 a := by rw [ea]; exact (pt_in ha (by omega)).trans (hR.2.2.1 a ha).1.symm
    have p2 : pt (q 1) G1 (f5 j) 1 = t3 a := by rw [ea]; exact (pt_in ha (by omega)).trans (hR.2.2.1 a ha).2.1.symm
    have p3 : pt (q 1) G1 (f5 j) 2 = t4 a := by rw [ea]; exact (pt_in ha (by omega)).trans (hR.2.2.1 a ha).2.2.symm
    have kw : wkA lf (pt (q 0) G0 (f6 j) 0) (nI dd) (pt (q 1) G1 (f5 j) 0) = wkM nz np (t0 (cl9 (z7 j))) (nI dd) (t2 (cl9 (w6 j))) := by rw [p0, p1, hw, c6, c7]
    by_cases k : wkA lf (pt (q 0) G0 (f6 j) 0) (nI dd) (pt (q 1) G1 (f5 j) 0) = 0
    · rw [psS_2 c k, nnS_3 (e2.trans d) n6 (kw.symm.trans k), c6, p2, p3]
      exact nr_C hj (by omega) ea e7 e6 d hi (dsM_eq hs) (nr_w rfl h)
    · rw [psS_3 c k, nnS_4 (e2.trans d) n6 (fun w => k (kw.trans w)), c6, p3]
      exact nr_L hj (nr_w rfl h)
/-- what a night leaves as it was -/
def UK (j : Nat) (x y : PT8) : Prop := (∀ m, ¬ m = j → y.1 m = x.1 m ∧ y.2.2.2.1 m = x.2.2.2.1 m) ∧ ((∀ m, m < 3 → O3 (x.2.2.2.1 m)) → ∀ m, m < 3 → O3 (y.2.2.2.1 m)) ∧ (¬ x.2.2.2.2.2.2.1 < 0 → ¬ y.2.2.2.2.2.2.1 < 0)
theorem UK_L : UK j x (psL ag j x) := by
  unfold psL
  by_cases c : ag = 0
  · rw [if_pos c]; exact ⟨fun m _ => ⟨rfl, rfl⟩, fun h => h, fun h => h⟩
  · rw [if_neg c]; exact ⟨fun m k => ⟨uq_n k, rfl⟩, fun h => h, fun h => h⟩
theorem UK_D : UK j x (psD ni ye dy j x) := by
  by_cases c : bcA (x.1 j) < ni
  · rw [psD_p c]; exact ⟨fun m _ => ⟨rfl, rfl⟩, fun h => h, fun h => h⟩
  · rw [psD_n c]
    refine ⟨fun m k => ⟨rfl, uq_n k⟩, fun h m hm => ?_, fun h => h⟩
    dsimp only
    by_cases e : m = j
    · rw [e, uq_s]
      unfold O3
      split
      · exact Or.inr (Or.inr rfl)
      · exact Or.inr (Or.inl rfl)
    · rw [uq_n e]; exact h m hm
theorem UK_t {y z : PT8} (h : UK j x y) (k : UK j y z) : UK j x z := ⟨fun m e => ⟨(k.1 m e).1.trans (h.1 m e).1, (k.1 m e).2.trans (h.1 m e).2⟩, fun o => k.2.1 (h.2.1 o), fun o => k.2.2 (h.2.2 o)⟩
theorem UK_S : UK j (g0, g1, g2, g3, g4, wv, sv, de) (psS q G0 G1 lf f5 f6 dy ni ye ag j (g0, g1, g2, g3, g4, wv, sv, de)) := by
  by_cases c : f5 j = -1
  · rw [psS_1 c]; exact UK_L
  · by_cases k : wkA lf (pt (q 0) G0 (f6 j) 0) dy (pt (q 1) G1 (f5 j) 0) = 0
    · rw [psS_2 c k]
      refine UK_t (y := (ctN f5 j g0, ctN f6 j g1, ctY (pt (q 1) G1 (f5 j) 1) sv j g2, g3, g4, wv + pt (q 1) G1 (f5 j) 2, dsd sv, de)) ?_ UK_D
      exact ⟨fun m e => ⟨by dsimp only; unfold ctN; exact uq_n e, rfl⟩, fun h => h, fun _ => dsd_p sv⟩
    · rw [psS_3 c k]
      exact UK_t (y := (g0, g1, g2, g3, g4, wv + pt (q 1) G1 (f5 j) 2, sv, de)) ⟨fun m _ => ⟨rfl, rfl⟩, fun h => h, fun h => h⟩ UK_L
/-- the night, matter by matter -/
theorem nt_I (h : CR q f0 f1 f2 f3 f4 f5 f6 z0 z1 z2 z3 z4 z5 z6 z7) (hR : RD q G0 G1 G2 G3 ho sp np mp t0 t1 t2 t3 t4 nz mt) (hq0 : q 0 ≤ 7) (hq1 : q 1 ≤ 7) (hq3 : q 3 ≤ 3) (hw : ∀ a b l, wkA lf a b l = wkM nz np a b l) (hs : ¬ sd < 0) : ∀ j, j ≤ q 3 → NR j z6 (psI q G0 G1 lf f5 f6 (nI dd) (nI nt) ye ag f0 f1 f2 f3 f4 wg sd j) (nnI t0 t2 t3 t4 nz z7 np nt dd ag ye z0 z1 z2 z3 z4 z5 z6 wg sd j) ∧ (∀ m, j ≤ m → (psI q G0 G1 lf f5 f6 (nI dd) (nI nt) ye ag f0 f1 f2 f3 f4 wg sd j).1 m = f0 m ∧ (psI q G0 G1 lf f5 f6 (nI dd) (nI nt) ye ag f0 f1 f2 f3 f4 wg sd j).2.2.2.1 m = f3 m) ∧ (∀ m, m < 3 → O3 ((psI q G0 G1 lf f5 f6 (nI dd) (nI nt) ye ag f0 f1 f2 f3 f4 wg sd j).2.2.2.1 m)) ∧ ¬ (psI q G0 G1 lf f5 f6 (nI dd) (nI nt) ye ag f0 f1 f2 f3 f4 wg sd j).2.2.2.2.2.2.1 < 0
  | 0, _ => ⟨⟨fun m hm => h.1 m hm, fun m _ => (if_neg (Nat.not_lt_zero m)).symm, rfl, rfl, rfl⟩, fun m _ => ⟨rfl, rfl⟩, h.2.1, hs⟩
  | j + 1, hj => by
    have ih := nt_I h hR hq0 hq1 hq3 hw hs j (by omega)
    rw [psI, nnI]
    generalize psI q G0 G1 lf f5 f6 (nI dd) (nI nt) ye ag f0 f1 f2 f3 f4 wg sd j = x at ih ⊢
    generalize nnI t0 t2 t3 t4 nz z7 np nt dd ag ye z0 z1 z2 z3 z4 z5 z6 wg sd j = y at ih ⊢
    obtain ⟨g0, g1, g2, g3, g4, wv, sv, de⟩ := x
    obtain ⟨w0, w1, w2, w3, w4, w5, w6, wv2, sv2, se⟩ := y
    obtain ⟨i1, i2, i3, i4⟩ := ih
    dsimp only at i2 i3 i4
    have u := UK_S (q := q) (G0 := G0) (G1 := G1) (lf := lf) (f5 := f5) (f6 := f6) (dy := nI dd) (ni := nI nt) (ye := ye) (ag := ag) (j := j) (g0 := g0) (g1 := g1) (g2 := g2) (g3 := g3) (g4 := g4) (wv := wv) (sv := sv) (de := de)
    refine ⟨nr_S (by omega) (h.2.2.2.1 j (by omega)) (fun c => ?_) hR hq0 hq1 hw i4 i1, fun m hm => ?_, u.2.1 i3, u.2.2 i4⟩
    · obtain ⟨-, k3, a, b, ha, hb, ea, eb, hi⟩ := h.2.2.2.2.1 j (by omega) c
      exact ⟨(i2 j (Nat.le_refl _)).2.trans k3, a, b, ha, hb, ea, eb, by rw [(i2 j (Nat.le_refl _)).1]; exact hi⟩
    · have k := u.1 m (by omega)
      exact ⟨k.1.trans (i2 m (by omega)).1, k.2.trans (i2 m (by omega)).2⟩
/-- the whole night -/
theorem nt_E (h : CR q f0 f1 f2 f3 f4 f5 f6 z0 z1 z2 z3 z4 z5 z6 z7) (hR : RD q G0 G1 G2 G3 ho sp np mp t0 t1 t2 t3 t4 nz mt) (hq0 : q 0 ≤ 7) (hq1 : q 1 ≤ 7) (hq3 : q 3 ≤ 3) (hw : ∀ a b l, wkA lf a b l = wkM nz np a b l) (hs : ¬ sd < 0) (hx : (g0, g1, g2, g3, g4, wv, sv, r1) = psI q G0 G1 lf f5 f6 (nI dd) (nI nt) ye ag f0 f1 f2 f3 f4 wg sd (q 3)) (hm : (w0, w1, w2, w3, w4, w5, w6, wv2, sv2, r2) = nnI t0 t2 t3 t4 nz z7 np nt dd ag ye z0 z1 z2 z3 z4 z5 z6 wg sd (q 3)) (h5 : ∀ m, m < 3 → g5 m = -1) (h6 : ∀ m, m < 3 → g6 m = -1) : r1 = r2 ∧ wv2 = wv ∧ sv2 = sv ∧ ¬ sv < 0 ∧ CR q g0 g1 g2 g3 g4 g5 g6 w0 w1 w2 w3 w4 w5 w6 z7 := by
  obtain ⟨i1, i2, i3, i4⟩ := nt_I (nt := nt) (dd := dd) (ag := ag) (ye := ye) (wg := wg) h hR hq0 hq1 hq3 hw hs (q 3) (Nat.le_refl _)
  rw [← hx, ← hm] at i1
  rw [← hx] at i2 i3 i4
  obtain ⟨k1, k2, k3, k4, k5⟩ := i1
  dsimp only at k2 k3 k4 k5 i2 i3 i4
  refine ⟨k5.symm, k3, k4, i4, k1, i3, fun m hm hq => (i2 m hq).2.trans (h.2.2.1 m hm hq), CRl_0 h5 h6 (fun m hm => ?_)⟩
  rw [k2 m hm]
  by_cases c : m < q 3
  · rw [if_pos c]
  · rw [if_neg c, (h.2.2.2.1 m hm).1]
    exact h.2.2.2.hz m hm (by omega)
theorem fl_3 {f : Nat → Int32} {v : Int32} : ∀ m, m < 3 → fl_i f v 3 m = v := fun m hm => if_pos hm
/-- towns that run by themselves -/
def CRt (q : Nat → Nat) : CSt → RT11 → Prop := fun (f0, f1, f2, f3, f4, f5, f6, wg, dy, sd) (z0, z1, z2, z3, z4, z5, z6, z7, wg2, dd, sd2) => CR q f0 f1 f2 f3 f4 f5 f6 z0 z1 z2 z3 z4 z5 z6 z7 ∧ wg2 = wg ∧ dd = dy ∧ sd2 = sd ∧ ¬ sd < 0
theorem CRt_i {dy : Nat} (h : CR q f0 f1 f2 f3 f4 f5 f6 z0 z1 z2 z3 z4 z5 z6 z7) (hs : ¬ sd < 0) : CRt q (f0, f1, f2, f3, f4, f5, f6, wg, dy, sd) (z0, z1, z2, z3, z4, z5, z6, z7, wg, dy, sd) := ⟨h, rfl, rfl, rfl, hs⟩
theorem rn_C {x : CSt} {y : RT11} (hR : RD q G0 G1 G2 G3 ho sp np mp t0 t1 t2 t3 t4 nz mt) (hN : NBr 0 2 (q 0) G0) (hq0 : q 0 ≤ 7) (hq1 : q 1 ≤ 7) (hq3 : q 3 ≤ 3) (hw : ∀ a b l, wkA lf a b l = wkM nz np a b l) (h : CRt q x y) : CRt q (nsC q G0 G1 G3 lf (nI nt) ye ag x) (rmC mt t0 t1 t2 t3 t4 nz np nt (q 0) (q 1) (q 3) ag ye y) := by
  obtain ⟨f0, f1, f2, f3, f4, f5, f6, wg, dd, sd⟩ := x
  obtain ⟨z0, z1, z2, z3, z4, z5, z6, z7, wg2, dd2, sd2⟩ := y
  obtain ⟨h1, rfl, rfl, rfl, h5⟩ := h
  have lk := lk_I (dd := dd2) h1 hR hN hq0 hq1 hq3 hw (q 3) (Nat.le_refl _)
  unfold nsC rmC
  dsimp only
  generalize lbI q G0 G1 G3 lf f0 f1 f3 f5 f6 (nI dd2) (q 3) = u at lk ⊢
  generalize lkI z2 z4 z5 mt t1 t0 t2 nz np dd2 (q 0) (q 1) (q 3) z6 z7 (q 3) = v at lk ⊢
  obtain ⟨u5, u6⟩ := u
  obtain ⟨v6, v7⟩ := v
  dsimp only at lk ⊢
  have hc : CR q f0 f1 f2 f3 f4 u5 u6 z0 z1 z2 z3 z4 z5 v6 v7 := ⟨h1.1, h1.2.1, h1.2.2.1, lk⟩
  have n := fun (g0 g1 g2 g3 g4 w0 w1 w2 w3 w4 w5 w6 : Nat → Int32) (wv sv r1 wv2 sv2 r2 : Int32) (hx : (g0, g1, g2, g3, g4, wv, sv, r1) = psI q G0 G1 lf u5 u6 (nI dd2) (nI nt) ye ag f0 f1 f2 f3 f4 wg2 sd2 (q 3)) (hm : (w0, w1, w2, w3, w4, w5, w6, wv2, sv2, r2) = nnI t0 t2 t3 t4 nz v7 np nt dd2 ag ye z0 z1 z2 z3 z4 z5 v6 wg2 sd2 (q 3)) => nt_E hc hR hq0 hq1 hq3 hw h5 hx hm (g5 := fl_i u5 (-1) 3) (g6 := fl_i u6 (-1) 3) fl_3 fl_3
  unfold nsP rmP
  dsimp only
  generalize psI q G0 G1 lf u5 u6 (nI dd2) (nI nt) ye ag f0 f1 f2 f3 f4 wg2 sd2 (q 3) = x at n ⊢
  generalize nnI t0 t2 t3 t4 nz v7 np nt dd2 ag ye z0 z1 z2 z3 z4 z5 v6 wg2 sd2 (q 3) = y at n ⊢
  obtain ⟨g0, g1, g2, g3, g4, wv, sv, de⟩ := x
  obtain ⟨w0, w1, w2, w3, w4, w5, w6, wv2, sv2, se⟩ := y
  obtain ⟨-, k1, k2, k3, k4⟩ := n g0 g1 g2 g3 g4 w0 w1 w2 w3 w4 w5 w6 wv sv de wv2 sv2 se rfl rfl
  exact ⟨k4, k1, rfl, k2, k3⟩
theorem rn_I {x : CSt} {y : RT11} (hR : RD q G0 G1 G2 G3 ho sp np mp t0 t1 t2 t3 t4 nz mt) (hN : NBr 0 2 (q 0) G0) (hq0 : q 0 ≤ 7) (hq1 : q 1 ≤ 7) (hq3 : q 3 ≤ 3) (hw : ∀ a b l, wkA lf a b l = wkM nz np a b l) (h : CRt q x y) : ∀ i, CRt q (csI q G0 G1 G3 lf (nI nt) ye ag x i) (rmI mt t0 t1 t2 t3 t4 nz np nt (q 0) (q 1) (q 3) ag ye y i)
  | 0 => h
  | i + 1 => by
    rw [csI, rmI]
    exact rn_C hR hN hq0 hq1 hq3 hw (rn_I hR hN hq0 hq1 hq3 hw h i)
theorem dn_t {o : Int32} (h : O3 o) : (if o ≤ 0 then (0 : Int32) else 1) = ne1 o 0 := by
  unfold ne1
  rcases h with h | h | h <;> rw [h] <;> decide
theorem dn_3 (hq3 : q 3 ≤ 3) (h2 : ∀ m, m < 3 → z2 m = f3 m) (hO : ∀ m, m < 3 → O3 (f3 m)) (hz : ∀ m, m < 3 → q 3 ≤ m → f3 m = 0) : dnM z2 (q 3) = dcm f3 := by
  have t : dnM z2 3 = dcm f3 := by
    show 0 + (if z2 0 ≤ 0 then (0 : Int32) else 1) + (if z2 1 ≤ 0 then (0 : Int32) else 1) + (if z2 2 ≤ 0 then (0 : Int32) else 1) = _
    rw [h2 0 (by decide), h2 1 (by decide), h2 2 (by decide), dn_t (hO 0 (by decide)), dn_t (hO 1 (by decide)), dn_t (hO 2 (by decide)), Int32.zero_add]; rfl
  have s : ∀ m, m < 3 → q 3 ≤ m → dnM z2 (m + 1) = dnM z2 m := fun m h1 hm => by
    show dnM z2 m + (if z2 m ≤ 0 then (0 : Int32) else 1) = _
    rw [h2 m h1, hz m h1 hm]; exact Int32.add_zero _
  rw [← t]
  generalize q 3 = n at hq3 s
  match n, hq3, s with
  | 0, _, s => rw [s 2 (by decide) (by decide), s 1 (by decide) (by decide), s 0 (by decide) (by decide)]
  | 1, _, s => rw [s 2 (by decide) (by decide), s 1 (by decide) (by decide)]
  | 2, _, s => rw [s 2 (by decide) (by decide)]
  | 3, _, s => rfl
  | n + 4, hq, _ => omega
end

theorem CR_c {q : Nat → Nat} {g0 g1 g2 g3 g4 g5 g6 f0 f1 f2 f3 f4 f5 f6 w0 w1 w2 w3 w4 w5 w6 w7 z0 z1 z2 z3 z4 z5 z6 z7 : Nat → Int32} (c0 : C3 g0 f0) (c1 : C3 g1 f1) (c2 : C3 g2 f2) (c3 : C3 g3 f3) (c4 : C3 g4 f4) (c5 : C3 g5 f5) (c6 : C3 g6 f6) (d0 : C3 w0 z0) (d1 : C3 w1 z1) (d2 : C3 w2 z2) (d3 : C3 w3 z3) (d4 : C3 w4 z4) (d5 : C3 w5 z5) (d6 : C3 w6 z6) (d7 : C3 w7 z7) (h : CR q f0 f1 f2 f3 f4 f5 f6 z0 z1 z2 z3 z4 z5 z6 z7) : CR q g0 g1 g2 g3 g4 g5 g6 w0 w1 w2 w3 w4 w5 w6 w7 := by
  refine ⟨fun m hm => ?_, fun m hm => ?_, fun m hm hq => ?_, fun m hm => ?_, fun m hm => ?_, fun i j hi hj => ?_⟩
  · rw [c0 m hm, c1 m hm, c2 m hm, c3 m hm, c4 m hm, d0 m hm, d1 m hm, d2 m hm, d3 m hm, d4 m hm, d5 m hm]; exact h.1 m hm
  · rw [c3 m hm]; exact h.2.1 m hm
  · rw [c3 m hm]; exact h.2.2.1 m hm hq
  · rw [c5 m hm, c6 m hm, d6 m hm, d7 m hm]; exact h.2.2.2.1 m hm
  · rw [c5 m hm, c3 m hm, c6 m hm, c0 m hm]; exact h.2.2.2.2.1 m hm
  · rw [c5 i hi, c5 j hj]; exact h.2.2.2.2.2 i j hi hj
/-- nothing has been slept -/
theorem CR_0 {q : Nat → Nat} {f0 f1 f2 f3 f4 f5 f6 z0 z1 z2 z3 z4 z5 z6 z7 : Nat → Int32} (k_f0 : ∀ m, m < 3 → f0 m = 0) (k_f1 : ∀ m, m < 3 → f1 m = 0) (k_f2 : ∀ m, m < 3 → f2 m = 0) (k_f3 : ∀ m, m < 3 → f3 m = 0) (k_f4 : ∀ m, m < 3 → f4 m = (-1)) (k_f5 : ∀ m, m < 3 → f5 m = (-1)) (k_f6 : ∀ m, m < 3 → f6 m = (-1)) (k_z0 : ∀ m, m < 3 → z0 m = 0) (k_z1 : ∀ m, m < 3 → z1 m = 0) (k_z2 : ∀ m, m < 3 → z2 m = 0) (k_z3 : ∀ m, m < 3 → z3 m = (-1)) (k_z4 : ∀ m, m < 3 → z4 m = 0) (k_z5 : ∀ m, m < 3 → z5 m = 0) (k_z6 : ∀ m, m < 3 → z6 m = (-1)) : CR q f0 f1 f2 f3 f4 f5 f6 z0 z1 z2 z3 z4 z5 z6 z7 := by
  refine ⟨fun m hm => ⟨(k_z2 m hm).trans (k_f3 m hm).symm, (k_z3 m hm).trans (k_f4 m hm).symm, fun _ => ⟨(k_z4 m hm).trans (k_f0 m hm).symm, (k_z5 m hm).trans (k_f1 m hm).symm, (k_z1 m hm).trans (k_f2 m hm).symm, ?_, 0, by decide, k_f0 m hm⟩⟩, fun m hm => Or.inl (k_f3 m hm), fun m hm _ => k_f3 m hm, CRl_0 k_f5 k_f6 k_z6⟩
  rw [k_z0 m hm, k_f0 m hm, bc_0]
/-- an image on both sides -/
def IR (q : Nat → Nat) (kb : Int32) (a0 a1 a2 a3 a4 a5 a6 y0 y1 y2 y3 y4 y5 y6 y7 : Nat → Int32) (w wa s sa : Int32) : Prop := ¬ kb = 0 → CR q a0 a1 a2 a3 a4 a5 a6 y0 y1 y2 y3 y4 y5 y6 y7 ∧ w = wa ∧ s = sa ∧ ¬ sa < 0
theorem cpC_0_0 {im z0 z1 z2 z3 z4 z5 z6 z7 : Nat → Int32} {dy wg sd : Int32} : C3 (fun j => cpA im 0 z0 z1 z2 z3 z4 z5 z6 z7 dy wg sd (0 + j)) z0 := fun m hm => by
  rcases m with _ | _ | _ | m
  · exact cpA_0_0
  · exact cpA_0_1
  · exact cpA_0_2
  · omega
theorem cpD_0_0 {im z0 z1 z2 z3 z4 z5 z6 z7 : Nat → Int32} {dy wg sd : Int32} : C3 (fun j => cpA im 0 z0 z1 z2 z3 z4 z5 z6 z7 dy wg sd (30 + j)) (fun j => im (30 + j)) := fun m hm => by
  rcases m with _ | _ | _ | m
  · exact cpO_0_30
  · exact cpO_0_31
  · exact cpO_0_32
  · omega
theorem cpC_0_1 {im z0 z1 z2 z3 z4 z5 z6 z7 : Nat → Int32} {dy wg sd : Int32} : C3 (fun j => cpA im 0 z0 z1 z2 z3 z4 z5 z6 z7 dy wg sd (3 + j)) z1 := fun m hm => by
  rcases m with _ | _ | _ | m
  · exact cpA_0_3
  · exact cpA_0_4
  · exact cpA_0_5
  · omega
theorem cpD_0_1 {im z0 z1 z2 z3 z4 z5 z6 z7 : Nat → Int32} {dy wg sd : Int32} : C3 (fun j => cpA im 0 z0 z1 z2 z3 z4 z5 z6 z7 dy wg sd (33 + j)) (fun j => im (33 + j)) := fun m hm => by
  rcases m with _ | _ | _ | m
  · exact cpO_0_33
  · exact cpO_0_34
  · exact cpO_0_35
  · omega
theorem cpC_0_2 {im z0 z1 z2 z3 z4 z5 z6 z7 : Nat → Int32} {dy wg sd : Int32} : C3 (fun j => cpA im 0 z0 z1 z2 z3 z4 z5 z6 z7 dy wg sd (6 + j)) z2 := fun m hm => by
  rcases m with _ | _ | _ | m
  · exact cpA_0_6
  · exact cpA_0_7
  · exact cpA_0_8
  · omega
theorem cpD_0_2 {im z0 z1 z2 z3 z4 z5 z6 z7 : Nat → Int32} {dy wg sd : Int32} : C3 (fun j => cpA im 0 z0 z1 z2 z3 z4 z5 z6 z7 dy wg sd (36 + j)) (fun j => im (36 + j)) := fun m hm => by
  rcases m with _ | _ | _ | m
  · exact cpO_0_36
  · exact cpO_0_37
  · exact cpO_0_38
  · omega
theorem cpC_0_3 {im z0 z1 z2 z3 z4 z5 z6 z7 : Nat → Int32} {dy wg sd : Int32} : C3 (fun j => cpA im 0 z0 z1 z2 z3 z4 z5 z6 z7 dy wg sd (9 + j)) z3 := fun m hm => by
  rcases m with _ | _ | _ | m
  · exact cpA_0_9
  · exact cpA_0_10
  · exact cpA_0_11
  · omega
theorem cpD_0_3 {im z0 z1 z2 z3 z4 z5 z6 z7 : Nat → Int32} {dy wg sd : Int32} : C3 (fun j => cpA im 0 z0 z1 z2 z3 z4 z5 z6 z7 dy wg sd (39 + j)) (fun j => im (39 + j)) := fun m hm => by
  rcases m with _ | _ | _ | m
  · exact cpO_0_39
  · exact cpO_0_40
  · exact cpO_0_41
  · omega
theorem cpC_0_4 {im z0 z1 z2 z3 z4 z5 z6 z7 : Nat → Int32} {dy wg sd : Int32} : C3 (fun j => cpA im 0 z0 z1 z2 z3 z4 z5 z6 z7 dy wg sd (12 + j)) z4 := fun m hm => by
  rcases m with _ | _ | _ | m
  · exact cpA_0_12
  · exact cpA_0_13
  · exact cpA_0_14
  · omega
theorem cpD_0_4 {im z0 z1 z2 z3 z4 z5 z6 z7 : Nat → Int32} {dy wg sd : Int32} : C3 (fun j => cpA im 0 z0 z1 z2 z3 z4 z5 z6 z7 dy wg sd (42 + j)) (fun j => im (42 + j)) := fun m hm => by
  rcases m with _ | _ | _ | m
  · exact cpO_0_42
  · exact cpO_0_43
  · exact cpO_0_44
  · omega
theorem cpC_0_5 {im z0 z1 z2 z3 z4 z5 z6 z7 : Nat → Int32} {dy wg sd : Int32} : C3 (fun j => cpA im 0 z0 z1 z2 z3 z4 z5 z6 z7 dy wg sd (15 + j)) z5 := fun m hm => by
  rcases m with _ | _ | _ | m
  · exact cpA_0_15
  · exact cpA_0_16
  · exact cpA_0_17
  · omega
theorem cpD_0_5 {im z0 z1 z2 z3 z4 z5 z6 z7 : Nat → Int32} {dy wg sd : Int32} : C3 (fun j => cpA im 0 z0 z1 z2 z3 z4 z5 z6 z7 dy wg sd (45 + j)) (fun j => im (45 + j)) := fun m hm => by
  rcases m with _ | _ | _ | m
  · exact cpO_0_45
  · exact cpO_0_46
  · exact cpO_0_47
  · omega
theorem cpC_0_6 {im z0 z1 z2 z3 z4 z5 z6 z7 : Nat → Int32} {dy wg sd : Int32} : C3 (fun j => cpA im 0 z0 z1 z2 z3 z4 z5 z6 z7 dy wg sd (18 + j)) z6 := fun m hm => by
  rcases m with _ | _ | _ | m
  · exact cpA_0_18
  · exact cpA_0_19
  · exact cpA_0_20
  · omega
theorem cpD_0_6 {im z0 z1 z2 z3 z4 z5 z6 z7 : Nat → Int32} {dy wg sd : Int32} : C3 (fun j => cpA im 0 z0 z1 z2 z3 z4 z5 z6 z7 dy wg sd (48 + j)) (fun j => im (48 + j)) := fun m hm => by
  rcases m with _ | _ | _ | m
  · exact cpO_0_48
  · exact cpO_0_49
  · exact cpO_0_50
  · omega
theorem cpC_0_7 {im z0 z1 z2 z3 z4 z5 z6 z7 : Nat → Int32} {dy wg sd : Int32} : C3 (fun j => cpA im 0 z0 z1 z2 z3 z4 z5 z6 z7 dy wg sd (21 + j)) z7 := fun m hm => by
  rcases m with _ | _ | _ | m
  · exact cpA_0_21
  · exact cpA_0_22
  · exact cpA_0_23
  · omega
theorem cpD_0_7 {im z0 z1 z2 z3 z4 z5 z6 z7 : Nat → Int32} {dy wg sd : Int32} : C3 (fun j => cpA im 0 z0 z1 z2 z3 z4 z5 z6 z7 dy wg sd (51 + j)) (fun j => im (51 + j)) := fun m hm => by
  rcases m with _ | _ | _ | m
  · exact cpO_0_51
  · exact cpO_0_52
  · exact cpO_0_53
  · omega
theorem cpC_30_0 {im z0 z1 z2 z3 z4 z5 z6 z7 : Nat → Int32} {dy wg sd : Int32} : C3 (fun j => cpA im 30 z0 z1 z2 z3 z4 z5 z6 z7 dy wg sd (30 + j)) z0 := fun m hm => by
  rcases m with _ | _ | _ | m
  · exact cpA_30_30
  · exact cpA_30_31
  · exact cpA_30_32
  · omega
theorem cpD_30_0 {im z0 z1 z2 z3 z4 z5 z6 z7 : Nat → Int32} {dy wg sd : Int32} : C3 (fun j => cpA im 30 z0 z1 z2 z3 z4 z5 z6 z7 dy wg sd (0 + j)) (fun j => im (0 + j)) := fun m hm => by
  rcases m with _ | _ | _ | m
  · exact cpO_30_0
  · exact cpO_30_1
  · exact cpO_30_2
  · omega
theorem cpC_30_1 {im z0 z1 z2 z3 z4 z5 z6 z7 : Nat → Int32} {dy wg sd : Int32} : C3 (fun j => cpA im 30 z0 z1 z2 z3 z4 z5 z6 z7 dy wg sd (33 + j)) z1 := fun m hm => by
  rcases m with _ | _ | _ | m
  · exact cpA_30_33
  · exact cpA_30_34
  · exact cpA_30_35
  · omega
theorem cpD_30_1 {im z0 z1 z2 z3 z4 z5 z6 z7 : Nat → Int32} {dy wg sd : Int32} : C3 (fun j => cpA im 30 z0 z1 z2 z3 z4 z5 z6 z7 dy wg sd (3 + j)) (fun j => im (3 + j)) := fun m hm => by
  rcases m with _ | _ | _ | m
  · exact cpO_30_3
  · exact cpO_30_4
  · exact cpO_30_5
  · omega
theorem cpC_30_2 {im z0 z1 z2 z3 z4 z5 z6 z7 : Nat → Int32} {dy wg sd : Int32} : C3 (fun j => cpA im 30 z0 z1 z2 z3 z4 z5 z6 z7 dy wg sd (36 + j)) z2 := fun m hm => by
  rcases m with _ | _ | _ | m
  · exact cpA_30_36
  · exact cpA_30_37
  · exact cpA_30_38
  · omega
theorem cpD_30_2 {im z0 z1 z2 z3 z4 z5 z6 z7 : Nat → Int32} {dy wg sd : Int32} : C3 (fun j => cpA im 30 z0 z1 z2 z3 z4 z5 z6 z7 dy wg sd (6 + j)) (fun j => im (6 + j)) := fun m hm => by
  rcases m with _ | _ | _ | m
  · exact cpO_30_6
  · exact cpO_30_7
  · exact cpO_30_8
  · omega
theorem cpC_30_3 {im z0 z1 z2 z3 z4 z5 z6 z7 : Nat → Int32} {dy wg sd : Int32} : C3 (fun j => cpA im 30 z0 z1 z2 z3 z4 z5 z6 z7 dy wg sd (39 + j)) z3 := fun m hm => by
  rcases m with _ | _ | _ | m
  · exact cpA_30_39
  · exact cpA_30_40
  · exact cpA_30_41
  · omega
theorem cpD_30_3 {im z0 z1 z2 z3 z4 z5 z6 z7 : Nat → Int32} {dy wg sd : Int32} : C3 (fun j => cpA im 30 z0 z1 z2 z3 z4 z5 z6 z7 dy wg sd (9 + j)) (fun j => im (9 + j)) := fun m hm => by
  rcases m with _ | _ | _ | m
  · exact cpO_30_9
  · exact cpO_30_10
  · exact cpO_30_11
  · omega
theorem cpC_30_4 {im z0 z1 z2 z3 z4 z5 z6 z7 : Nat → Int32} {dy wg sd : Int32} : C3 (fun j => cpA im 30 z0 z1 z2 z3 z4 z5 z6 z7 dy wg sd (42 + j)) z4 := fun m hm => by
  rcases m with _ | _ | _ | m
  · exact cpA_30_42
  · exact cpA_30_43
  · exact cpA_30_44
  · omega
theorem cpD_30_4 {im z0 z1 z2 z3 z4 z5 z6 z7 : Nat → Int32} {dy wg sd : Int32} : C3 (fun j => cpA im 30 z0 z1 z2 z3 z4 z5 z6 z7 dy wg sd (12 + j)) (fun j => im (12 + j)) := fun m hm => by
  rcases m with _ | _ | _ | m
  · exact cpO_30_12
  · exact cpO_30_13
  · exact cpO_30_14
  · omega
theorem cpC_30_5 {im z0 z1 z2 z3 z4 z5 z6 z7 : Nat → Int32} {dy wg sd : Int32} : C3 (fun j => cpA im 30 z0 z1 z2 z3 z4 z5 z6 z7 dy wg sd (45 + j)) z5 := fun m hm => by
  rcases m with _ | _ | _ | m
  · exact cpA_30_45
  · exact cpA_30_46
  · exact cpA_30_47
  · omega
theorem cpD_30_5 {im z0 z1 z2 z3 z4 z5 z6 z7 : Nat → Int32} {dy wg sd : Int32} : C3 (fun j => cpA im 30 z0 z1 z2 z3 z4 z5 z6 z7 dy wg sd (15 + j)) (fun j => im (15 + j)) := fun m hm => by
  rcases m with _ | _ | _ | m
  · exact cpO_30_15
  · exact cpO_30_16
  · exact cpO_30_17
  · omega
theorem cpC_30_6 {im z0 z1 z2 z3 z4 z5 z6 z7 : Nat → Int32} {dy wg sd : Int32} : C3 (fun j => cpA im 30 z0 z1 z2 z3 z4 z5 z6 z7 dy wg sd (48 + j)) z6 := fun m hm => by
  rcases m with _ | _ | _ | m
  · exact cpA_30_48
  · exact cpA_30_49
  · exact cpA_30_50
  · omega
theorem cpD_30_6 {im z0 z1 z2 z3 z4 z5 z6 z7 : Nat → Int32} {dy wg sd : Int32} : C3 (fun j => cpA im 30 z0 z1 z2 z3 z4 z5 z6 z7 dy wg sd (18 + j)) (fun j => im (18 + j)) := fun m hm => by
  rcases m with _ | _ | _ | m
  · exact cpO_30_18
  · exact cpO_30_19
  · exact cpO_30_20
  · omega
theorem cpC_30_7 {im z0 z1 z2 z3 z4 z5 z6 z7 : Nat → Int32} {dy wg sd : Int32} : C3 (fun j => cpA im 30 z0 z1 z2 z3 z4 z5 z6 z7 dy wg sd (51 + j)) z7 := fun m hm => by
  rcases m with _ | _ | _ | m
  · exact cpA_30_51
  · exact cpA_30_52
  · exact cpA_30_53
  · omega
theorem cpD_30_7 {im z0 z1 z2 z3 z4 z5 z6 z7 : Nat → Int32} {dy wg sd : Int32} : C3 (fun j => cpA im 30 z0 z1 z2 z3 z4 z5 z6 z7 dy wg sd (21 + j)) (fun j => im (21 + j)) := fun m hm => by
  rcases m with _ | _ | _ | m
  · exact cpO_30_21
  · exact cpO_30_22
  · exact cpO_30_23
  · omega
theorem kp_a {q : Nat → Nat} {g0 g1 g2 g3 g4 g5 g6 e0 e1 e2 e3 e4 e5 e6 f0 f1 f2 f3 f4 f5 f6 z0 z1 z2 z3 z4 z5 z6 z7 im im9 kz k2 : Nat → Int32} {ia dy wg sd w9 w s9 s : Int32} (hC : CR q f0 f1 f2 f3 f4 f5 f6 z0 z1 z2 z3 z4 z5 z6 z7) (hs : ¬ sd < 0) (hK : KI (ia = 0) g0 g1 g2 g3 g4 g5 g6 e0 e1 e2 e3 e4 e5 e6 f0 f1 f2 f3 f4 f5 f6 w9 w wg s9 s sd) (hm : ((ia < 0 ∨ 2 ≤ ia) ∧ k2 = kz ∧ im9 = im) ∨ (ia = 0 ∧ k2 = upd kz 0 (vp_nar .boolean 1) ∧ im9 = cpA im 0 z0 z1 z2 z3 z4 z5 z6 z7 dy wg sd) ∨ (ia = 1 ∧ k2 = upd kz 1 (vp_nar .boolean 1) ∧ im9 = cpA im 30 z0 z1 z2 z3 z4 z5 z6 z7 dy wg sd)) (hI : IR q (kz 0) e0 e1 e2 e3 e4 e5 e6 (fun j => im (0 + j)) (fun j => im (3 + j)) (fun j => im (6 + j)) (fun j => im (9 + j)) (fun j => im (12 + j)) (fun j => im (15 + j)) (fun j => im (18 + j)) (fun j => im (21 + j)) (im 25) w (im 26) s) : IR q (k2 0) g0 g1 g2 g3 g4 g5 g6 (fun j => im9 (0 + j)) (fun j => im9 (3 + j)) (fun j => im9 (6 + j)) (fun j => im9 (9 + j)) (fun j => im9 (12 + j)) (fun j => im9 (15 + j)) (fun j => im9 (18 + j)) (fun j => im9 (21 + j)) (im9 25) w9 (im9 26) s9 := by
  rcases hm with ⟨g1, f1, f2⟩ | ⟨g1, f1, f2⟩ | ⟨g1, f1, f2⟩
  · have hn : ¬ ia = 0 := (ia_o g1).1
    intro hk
    obtain ⟨⟨u0, u1, u2, u3, u4, u5, u6⟩, ew, es⟩ := hK.2 hn
    obtain ⟨i1, i2, i3, i4⟩ := hI (by rw [f1] at hk; exact hk)
    rw [f2, u0, u1, u2, u3, u4, u5, u6, ew, es]
    exact ⟨i1, i2, i3, i4⟩
  · intro _
    obtain ⟨⟨u0, u1, u2, u3, u4, u5, u6⟩, ew, es⟩ := hK.1 g1
    rw [f2, ew, es]
    exact ⟨CR_c u0 u1 u2 u3 u4 u5 u6 cpC_0_0 cpC_0_1 cpC_0_2 cpC_0_3 cpC_0_4 cpC_0_5 cpC_0_6 cpC_0_7 hC, cpA_0_25, cpA_0_26, hs⟩
  · have hn : ¬ ia = 0 := fun k => absurd (g1.symm.trans k) (by decide)
    intro hk
    obtain ⟨⟨u0, u1, u2, u3, u4, u5, u6⟩, ew, es⟩ := hK.2 hn
    obtain ⟨i1, i2, i3, i4⟩ := hI (by rw [f1, pk_un (by decide)] at hk; exact hk)
    rw [f2, u0, u1, u2, u3, u4, u5, u6, ew, es]
    exact ⟨CR_c C3_r C3_r C3_r C3_r C3_r C3_r C3_r cpD_30_0 cpD_30_1 cpD_30_2 cpD_30_3 cpD_30_4 cpD_30_5 cpD_30_6 cpD_30_7 i1, cpO_30_25.trans i2, cpO_30_26.trans i3, i4⟩
theorem kp_b {q : Nat → Nat} {g0 g1 g2 g3 g4 g5 g6 e0 e1 e2 e3 e4 e5 e6 f0 f1 f2 f3 f4 f5 f6 z0 z1 z2 z3 z4 z5 z6 z7 im im9 kz k2 : Nat → Int32} {ia dy wg sd w9 w s9 s : Int32} (hC : CR q f0 f1 f2 f3 f4 f5 f6 z0 z1 z2 z3 z4 z5 z6 z7) (hs : ¬ sd < 0) (hK : KI (ia = 1) g0 g1 g2 g3 g4 g5 g6 e0 e1 e2 e3 e4 e5 e6 f0 f1 f2 f3 f4 f5 f6 w9 w wg s9 s sd) (hm : ((ia < 0 ∨ 2 ≤ ia) ∧ k2 = kz ∧ im9 = im) ∨ (ia = 0 ∧ k2 = upd kz 0 (vp_nar .boolean 1) ∧ im9 = cpA im 0 z0 z1 z2 z3 z4 z5 z6 z7 dy wg sd) ∨ (ia = 1 ∧ k2 = upd kz 1 (vp_nar .boolean 1) ∧ im9 = cpA im 30 z0 z1 z2 z3 z4 z5 z6 z7 dy wg sd)) (hI : IR q (kz 1) e0 e1 e2 e3 e4 e5 e6 (fun j => im (30 + j)) (fun j => im (33 + j)) (fun j => im (36 + j)) (fun j => im (39 + j)) (fun j => im (42 + j)) (fun j => im (45 + j)) (fun j => im (48 + j)) (fun j => im (51 + j)) (im 55) w (im 56) s) : IR q (k2 1) g0 g1 g2 g3 g4 g5 g6 (fun j => im9 (30 + j)) (fun j => im9 (33 + j)) (fun j => im9 (36 + j)) (fun j => im9 (39 + j)) (fun j => im9 (42 + j)) (fun j => im9 (45 + j)) (fun j => im9 (48 + j)) (fun j => im9 (51 + j)) (im9 55) w9 (im9 56) s9 := by
  rcases hm with ⟨g1, f1, f2⟩ | ⟨g1, f1, f2⟩ | ⟨g1, f1, f2⟩
  · have hn : ¬ ia = 1 := (ia_o g1).2
    intro hk
    obtain ⟨⟨u0, u1, u2, u3, u4, u5, u6⟩, ew, es⟩ := hK.2 hn
    obtain ⟨i1, i2, i3, i4⟩ := hI (by rw [f1] at hk; exact hk)
    rw [f2, u0, u1, u2, u3, u4, u5, u6, ew, es]
    exact ⟨i1, i2, i3, i4⟩
  · have hn : ¬ ia = 1 := fun k => absurd (g1.symm.trans k) (by decide)
    intro hk
    obtain ⟨⟨u0, u1, u2, u3, u4, u5, u6⟩, ew, es⟩ := hK.2 hn
    obtain ⟨i1, i2, i3, i4⟩ := hI (by rw [f1, pk_un (by decide)] at hk; exact hk)
    rw [f2, u0, u1, u2, u3, u4, u5, u6, ew, es]
    exact ⟨CR_c C3_r C3_r C3_r C3_r C3_r C3_r C3_r cpD_0_0 cpD_0_1 cpD_0_2 cpD_0_3 cpD_0_4 cpD_0_5 cpD_0_6 cpD_0_7 i1, cpO_0_55.trans i2, cpO_0_56.trans i3, i4⟩
  · intro _
    obtain ⟨⟨u0, u1, u2, u3, u4, u5, u6⟩, ew, es⟩ := hK.1 g1
    rw [f2, ew, es]
    exact ⟨CR_c u0 u1 u2 u3 u4 u5 u6 cpC_30_0 cpC_30_1 cpC_30_2 cpC_30_3 cpC_30_4 cpC_30_5 cpC_30_6 cpC_30_7 hC, cpA_30_55, cpA_30_56, hs⟩
theorem gb_C {q : Nat → Nat} {P Q : Prop} {g0 g1 g2 g3 g4 g5 g6 f0 f1 f2 f3 f4 f5 f6 a0 a1 a2 a3 a4 a5 a6 b0 b1 b2 b3 b4 b5 b6 w0 w1 w2 w3 w4 w5 w6 w7 z0 z1 z2 z3 z4 z5 z6 z7 im : Nat → Int32} {wv wg wa wb sv sd sa sb w9 wg2 s9 sd2 k0 k1 : Int32} (hC : CR q f0 f1 f2 f3 f4 f5 f6 z0 z1 z2 z3 z4 z5 z6 z7) (ew : wg2 = wg) (es : sd2 = sd) (hs : ¬ sd < 0) (hP : P → ¬ k0 = 0) (hQ : Q → ¬ k1 = 0) (hx : GI P Q g0 g1 g2 g3 g4 g5 g6 f0 f1 f2 f3 f4 f5 f6 a0 a1 a2 a3 a4 a5 a6 b0 b1 b2 b3 b4 b5 b6 wv wg wa wb sv sd sa sb) (hm : GM P Q w0 w1 w2 w3 w4 w5 w6 w7 z0 z1 z2 z3 z4 z5 z6 z7 im w9 wg2 s9 sd2) (hA : IR q k0 a0 a1 a2 a3 a4 a5 a6 (fun j => im (0 + j)) (fun j => im (3 + j)) (fun j => im (6 + j)) (fun j => im (9 + j)) (fun j => im (12 + j)) (fun j => im (15 + j)) (fun j => im (18 + j)) (fun j => im (21 + j)) (im 25) wa (im 26) sa) (hB : IR q k1 b0 b1 b2 b3 b4 b5 b6 (fun j => im (30 + j)) (fun j => im (33 + j)) (fun j => im (36 + j)) (fun j => im (39 + j)) (fun j => im (42 + j)) (fun j => im (45 + j)) (fun j => im (48 + j)) (fun j => im (51 + j)) (im 55) wb (im 56) sb) : CR q g0 g1 g2 g3 g4 g5 g6 w0 w1 w2 w3 w4 w5 w6 w7 ∧ w9 = wv ∧ s9 = sv ∧ ¬ sv < 0 := by
  by_cases p : P
  · obtain ⟨⟨c0, c1, c2, c3, c4, c5, c6⟩, e1, e2⟩ := hx.1 p
    obtain ⟨⟨d0, d1, d2, d3, d4, d5, d6, d7⟩, e3, e4⟩ := hm.1 p
    obtain ⟨i1, i2, i3, i4⟩ := hA (hP p)
    exact ⟨CR_c c0 c1 c2 c3 c4 c5 c6 d0 d1 d2 d3 d4 d5 d6 d7 i1, by rw [e3, e1, i2], by rw [e4, e2, i3], by rw [e2]; exact i4⟩
  · by_cases r : Q
    · obtain ⟨⟨c0, c1, c2, c3, c4, c5, c6⟩, e1, e2⟩ := hx.2.1 r
      obtain ⟨⟨d0, d1, d2, d3, d4, d5, d6, d7⟩, e3, e4⟩ := hm.2.1 r
      obtain ⟨i1, i2, i3, i4⟩ := hB (hQ r)
      exact ⟨CR_c c0 c1 c2 c3 c4 c5 c6 d0 d1 d2 d3 d4 d5 d6 d7 i1, by rw [e3, e1, i2], by rw [e4, e2, i3], by rw [e2]; exact i4⟩
    · obtain ⟨⟨c0, c1, c2, c3, c4, c5, c6⟩, e1, e2⟩ := hx.2.2 p r
      obtain ⟨⟨d0, d1, d2, d3, d4, d5, d6, d7⟩, e3, e4⟩ := hm.2.2 p r
      exact ⟨CR_c c0 c1 c2 c3 c4 c5 c6 d0 d1 d2 d3 d4 d5 d6 d7 hC, by rw [e3, e1, ew], by rw [e4, e2, es], by rw [e2]; exact hs⟩
theorem sd_eq {ia sd a b r1 r2 : Int32} (hs : ¬ sd < 0) (hx : sdS ia sd a r1) (hm : sdS ia sd b r2) : r1 = r2 ∧ b = a ∧ ¬ a < 0 := by
  rcases hx with ⟨h1, h2, h3⟩ | ⟨h1, h2, h3⟩ <;> rcases hm with ⟨g1, g2, g3⟩ | ⟨g1, g2, g3⟩
  · exact ⟨by rw [h2, g2], by rw [h3, g3], by rw [h3]; exact hs⟩
  · exact absurd h1 g1
  · exact absurd g1 h1
  · exact ⟨by rw [h2, g2], by rw [h3, g3], by rw [h3]; exact h1⟩

theorem b3_3 {f : Nat → Int32} {v : Int32} : ∀ m, m < 3 → b3 f v m = v := fun m hm => by
  unfold b3
  rcases m with _ | _ | _ | m
  · exact (pk_un (by decide)).trans ((pk_un (by decide)).trans pk_us)
  · exact (pk_un (by decide)).trans pk_us
  · exact pk_us
  · omega
theorem td_3 {A B C wt : Int32} : tdL 2 [A, B, C] wt = if wt = 0 then A else if wt = 1 then B else if wt = 2 then C else -1000000002 := by
  unfold tdL
  by_cases ho : wt.toInt < 0 ∨ 2 < wt.toInt
  · rw [if_pos ho, if_neg (fun e => by rw [e] at ho; revert ho; decide), if_neg (fun e => by rw [e] at ho; revert ho; decide), if_neg (fun e => by rw [e] at ho; revert ho; decide)]
  · rw [if_neg ho]
    obtain ⟨o, h1, rfl⟩ : ∃ o : Nat, o < 3 ∧ wt = nI o := sw_nat (x := wt) (n := 3) (by omega) (by omega)
    match o, h1 with
    | 0, _ => rfl
    | 1, _ => rfl
    | 2, _ => rfl
    | o + 3, h => omega
theorem td_4 {A B C E wt : Int32} : tdL 3 [A, B, C, E] wt = if wt = 0 then A else if wt = 1 then B else if wt = 2 then C else if wt = 3 then E else -1000000002 := by
  unfold tdL
  by_cases ho : wt.toInt < 0 ∨ 3 < wt.toInt
  · rw [if_pos ho, if_neg (fun e => by rw [e] at ho; revert ho; decide), if_neg (fun e => by rw [e] at ho; revert ho; decide), if_neg (fun e => by rw [e] at ho; revert ho; decide), if_neg (fun e => by rw [e] at ho; revert ho; decide)]
  · rw [if_neg ho]
    obtain ⟨o, h1, rfl⟩ : ∃ o : Nat, o < 4 ∧ wt = nI o := sw_nat (x := wt) (n := 4) (by omega) (by omega)
    match o, h1 with
    | 0, _ => rfl
    | 1, _ => rfl
    | 2, _ => rfl
    | 3, _ => rfl
    | o + 4, h => omega
section
variable {q : Nat → Nat} {G0 G1 G2 G3 lf f0 f1 f2 f3 f4 f5 f6 g0 g1 g2 g3 g4 g5 g6 z0 z1 z2 z3 z4 z5 z6 z7 w0 w1 w2 w3 w4 w5 w6 w7 t0 t1 t2 t3 t4 nz mt : Nat → Int32} {ho sp np mp nt dd dy9 dd9 : Nat} {ag ye wg sd wv sv wv2 sv2 ia wt r1 r2 : Int32}
theorem ho_eq (h : CRl q f0 f3 f5 f6 z6 z7) (hR : RD q G0 G1 G2 G3 ho sp np mp t0 t1 t2 t3 t4 nz mt) (hq0 : q 0 ≤ 7) (hq3 : q 3 ≤ 3) : dnF (q 0) ia (tdL 2 [pt (q 0) G0 ia 0, pt (q 0) G0 ia 1, bfr (pt (q 0) G0 ia 1) f6 ia] wt) = hoM ho ia wt (t0 ia.toNatClampNeg) (t1 ia.toNatClampNeg) (t1 ia.toNatClampNeg - laM z6 z7 (nI ia.toNatClampNeg) mp) := by
  rw [hR.1.1, hR.1.2.2.2]
  unfold dnF hoM
  rw [is_hs (by omega)]
  by_cases c : hs (q 0) ia = 0
  · rw [if_pos c, if_pos c]
  · rw [if_neg c, if_neg c]
    obtain ⟨b, hb, rfl⟩ := hs_ne (by omega) c
    have p0 : pt (q 0) G0 (nI b) 0 = t0 b := (pt_in hb (by omega)).trans (hR.2.1 b hb).1.symm
    have p1 : pt (q 0) G0 (nI b) 1 = t1 b := (pt_in hb (by omega)).trans (hR.2.1 b hb).2.symm
    rw [nI_clamp (by omega), p0, p1, bfr_la hq3 h.1 h.hz (nI_m1 (by omega)), td_3]
theorem sl_eq (h : CRl q f0 f3 f5 f6 z6 z7) (hR : RD q G0 G1 G2 G3 ho sp np mp t0 t1 t2 t3 t4 nz mt) (hq1 : q 1 ≤ 7) (hq3 : q 3 ≤ 3) : dnF (q 1) ia (tdL 3 [pt (q 1) G1 ia 0, pt (q 1) G1 ia 1, pt (q 1) G1 ia 2, mof f5 ia] wt) = slM sp ia wt (t2 ia.toNatClampNeg) (t3 ia.toNatClampNeg) (t4 ia.toNatClampNeg) (lfM z6 (nI ia.toNatClampNeg) mp) := by
  rw [hR.1.2.1, hR.1.2.2.2]
  unfold dnF slM
  rw [is_hs (by omega)]
  by_cases c : hs (q 1) ia = 0
  · rw [if_pos c, if_pos c]
  · rw [if_neg c, if_neg c]
    obtain ⟨a, ha, rfl⟩ := hs_ne (by omega) c
    have p1 : pt (q 1) G1 (nI a) 0 = t2 a := (pt_in ha (by omega)).trans (hR.2.2.1 a ha).1.symm
    have p2 : pt (q 1) G1 (nI a) 1 = t3 a := (pt_in ha (by omega)).trans (hR.2.2.1 a ha).2.1.symm
    have p3 : pt (q 1) G1 (nI a) 2 = t4 a := (pt_in ha (by omega)).trans (hR.2.2.1 a ha).2.2.symm
    rw [nI_clamp (by omega), p1, p2, p3, lfm3 hq3 h.1 h.hz h.2.2 (nI_m1 (by omega)), td_4]
theorem ia_no {n : Nat} (e : ia = nI n) (h1 : 1 ≤ n) (h2 : n ≤ 100) : ¬ (ia < 1 ∨ 100 < ia) := by
  intro h
  rw [e] at h
  rcases h with h | h
  · exact absurd ((nI_ltI (b := 1) (by omega) (by decide)).mp h) (by omega)
  · exact absurd ((nI_ltI (a := 100) (by decide) (by omega)).mp h) (by omega)
theorem rn_E {x : CSt} {y : RT11} (hR : RD q G0 G1 G2 G3 ho sp np mp t0 t1 t2 t3 t4 nz mt) (hN : NBr 0 2 (q 0) G0) (hq0 : q 0 ≤ 7) (hq1 : q 1 ≤ 7) (hq3 : q 3 ≤ 3) (hw : ∀ a b l, wkA lf a b l = wkM nz np a b l) (h : CRt q x y)
    (hx : ((ia < 1 ∨ 100 < ia) ∧ r1 = -1000000002 ∧ (g0, g1, g2, g3, g4, g5, g6, wv, dy9, sv) = x) ∨ (∃ nq : Nat, ia = nI nq ∧ 1 ≤ nq ∧ nq ≤ 100 ∧ (g0, g1, g2, g3, g4, g5, g6, wv, dy9, sv) = csI q G0 G1 G3 lf (nI nt) ye ag x nq ∧ r1 = dcm g3))
    (hm : ((ia < 1 ∨ 100 < ia) ∧ r2 = -1000000002 ∧ (w0, w1, w2, w3, w4, w5, w6, w7, wv2, dd9, sv2) = y) ∨ (∃ nq : Nat, ia = nI nq ∧ 1 ≤ nq ∧ nq ≤ 100 ∧ (w0, w1, w2, w3, w4, w5, w6, w7, wv2, dd9, sv2) = rmI mt t0 t1 t2 t3 t4 nz np nt (q 0) (q 1) (q 3) ag ye y nq ∧ r2 = dnM w2 (q 3))) : r1 = r2 ∧ CR q g0 g1 g2 g3 g4 g5 g6 w0 w1 w2 w3 w4 w5 w6 w7 ∧ wv2 = wv ∧ dd9 = dy9 ∧ sv2 = sv ∧ ¬ sv < 0 := by
  rcases hx with ⟨h1, e1, e2⟩ | ⟨n, en, h1, h2, e1, e2⟩
  · rcases hm with ⟨-, k1, k2⟩ | ⟨n, en, k1, k2, -⟩
    · rw [← e2, ← k2] at h
      exact ⟨by rw [e1, k1], h⟩
    · exact absurd h1 (ia_no en k1 k2)
  · rcases hm with ⟨k1, -⟩ | ⟨n2, en2, k1, k2, k3, k4⟩
    · exact absurd k1 (ia_no en h1 h2)
    · have e : n2 = n := (nI_eq (by omega) (by omega)).mp (en2.symm.trans en)
      rw [e] at k3
      have t := rn_I (nt := nt) (ye := ye) (ag := ag) hR hN hq0 hq1 hq3 hw h n
      rw [← e1, ← k3] at t
      have t2 : CR q g0 g1 g2 g3 g4 g5 g6 w0 w1 w2 w3 w4 w5 w6 w7 := t.1
      exact ⟨by rw [e2, k4]; exact (dn_3 hq3 (fun m hm => (t2.1 m hm).1) t2.2.1 t2.2.2.1).symm, t⟩
end
