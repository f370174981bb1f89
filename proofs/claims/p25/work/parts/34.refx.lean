
theorem in_pR1 {f : Nat → Int32} {lo hi : Int32} {i : Nat} {a b : Int64} (ha : lo.toInt64 = a) (hb : hi.toInt64 = b) (h : ¬ inA (f i).toInt64 a b = 0) : pR f lo hi i = true := by
  obtain ⟨h1, h2⟩ := in_ne ha hb h
  unfold pR
  simp only [Bool.and_eq_true, decide_eq_true_eq]
  exact ⟨Int32.not_lt.mp h1, h2⟩
theorem in_pR0 {f : Nat → Int32} {lo hi : Int32} {i : Nat} {a b : Int64} (ha : lo.toInt64 = a) (hb : hi.toInt64 = b) (h : inA (f i).toInt64 a b = 0) : ¬ pR f lo hi i = true := by
  unfold pR
  simp only [Bool.and_eq_true, decide_eq_true_eq]
  intro q
  rcases in_eq ha hb h with h1 | h1
  · exact absurd q.1 (Int32.not_le.mpr h1)
  · exact absurd q.2 (Int32.not_le.mpr h1)
theorem he_d1 {f : Nat → Int32} {n a : Nat} (h : ¬ inA (heA f n a).toInt64 48 57 = 0) : a < n ∧ pR f 48 57 a = true := by
  unfold heA at h
  by_cases h0 : a < n
  · rw [if_pos h0] at h
    exact ⟨h0, in_pR1 i64_48 i64_57 h⟩
  · rw [if_neg h0] at h
    exact absurd (by decide) h
theorem he_d0 {f : Nat → Int32} {n a : Nat} (h : inA (heA f n a).toInt64 48 57 = 0) : ¬ (a < n ∧ pR f 48 57 a = true) := by
  intro q
  unfold heA at h
  rw [if_pos q.1] at h
  exact in_pR0 i64_48 i64_57 h q.2
def sdI (f : Nat → Int32) (s9 : Nat) : Nat → Int64
  | 0 => 0
  | j + 1 => if 1000000000000 < sdI f s9 j then 2000000000000 else 27 * sdI f s9 j + (f (s9 + j)).toInt64 - 96
theorem sd_hi {f : Nat → Int32} {s9 i : Nat} (hi : s9 ≤ i) (h : ¬ lg_cmp (sdI f s9 (i - s9)) 1000000000000 ≤ 0) : (2000000000000 : Int64) = sdI f s9 (i + 1 - s9) := by
  rw [show i + 1 - s9 = (i - s9) + 1 by omega]
  exact (if_pos ((lg_gt _ _).mp (Int32.not_le.mp h))).symm
theorem sd_lo {f : Nat → Int32} {s9 i : Nat} (hi : s9 ≤ i) (h : lg_cmp (sdI f s9 (i - s9)) 1000000000000 ≤ 0) : 27 * sdI f s9 (i - s9) + (f i).toInt64 - 96 = sdI f s9 (i + 1 - s9) := by
  rw [show i + 1 - s9 = (i - s9) + 1 by omega]
  refine Eq.trans ?_ (if_neg (fun q => absurd ((lg_gt _ _).mpr q) (Int32.not_lt.mpr h))).symm
  rw [show s9 + (i - s9) = i by omega]
def DG (f : Nat → Int32) (sn j : Nat) (nb : Int32) : Prop := 3 < j ∨ (nb = dg3 f sn j ∧ ∃ v : Nat, nb = nI v ∧ ((j = 0 ∧ v = 0) ∨ (j = 1 ∧ v ≤ 9) ∨ (j = 2 ∧ v ≤ 99) ∨ (j = 3 ∧ v ≤ 999)))
theorem DG_0 {f : Nat → Int32} {sn : Nat} : DG f sn (sn - sn) 0 := by
  rw [Nat.sub_self]
  exact Or.inr ⟨rfl, 0, rfl, Or.inl ⟨rfl, rfl⟩⟩
theorem DG_hi {f : Nat → Int32} {sn i : Nat} {nb : Int32} (hi : sn ≤ i) (h : DG f sn (i - sn) nb) (hb : ¬ nb ≤ 10000) : DG f sn (i + 1 - sn) nb := by
  rcases h with h | ⟨-, v, ev, hv⟩
  · exact Or.inl (by omega)
  · exfalso
    apply hb
    rw [ev]
    exact (nI_leI (b := 10000) (by omega) (by decide)).mpr (by omega)
theorem DG_lo {f : Nat → Int32} {sn i : Nat} {nb : Int32} (hi : sn ≤ i) (h : DG f sn (i - sn) nb) (hp : pR f 48 57 i = true) : DG f sn (i + 1 - sn) (10 * nb + f i - 48) := by
  rcases h with h | ⟨e0, v, ev, hv⟩
  · exact Or.inl (by omega)
  · by_cases h3 : 3 ≤ i - sn
    · exact Or.inl (by omega)
    · unfold pR at hp
      simp only [Bool.and_eq_true, decide_eq_true_eq] at hp
      obtain ⟨d, hd1, hd2, ed⟩ := rg_n (lo := 48) (hi := 57) (x := f i) (Int32.not_lt.mpr hp.1) hp.2 (by decide) (by decide)
      refine Or.inr ⟨?_, v * 10 + (d - 48), ?_, by omega⟩
      · rw [e0, Int32.mul_comm]
        exact dg3_lo (by omega) hi
      · rw [ev, ed, Int32.mul_comm]
        show nI v * nI 10 + nI d - nI 48 = _
        rw [pk_mul, nI_add, pk_sub (by omega)]
        congr 1
        omega
theorem tn_A {f : Nat → Int32} {n a i : Nat} {fp lo hi : Int32} (he : nE f n a = i) (hs : ¬ i - nS f n a = 0) (h3 : 3 < i - nS f n a ∨ nV f n a < lo ∨ hi < nV f n a) : nF f n a 0 lo hi = 2 ∧ nA f n a 0 fp lo hi = nI (nS f n a) := by
  unfold nF nA nbF nbA
  rw [he, if_neg hs, if_pos h3, if_neg hs, if_pos h3]
  exact ⟨rfl, rfl⟩
theorem tn_C {f : Nat → Int32} {n a i : Nat} {fp lo hi : Int32} (he : nE f n a = i) (hs : ¬ i - nS f n a = 0) (h3 : ¬ (3 < i - nS f n a ∨ nV f n a < lo ∨ hi < nV f n a)) : nF f n a 0 lo hi = 0 ∧ nA f n a 0 fp lo hi = fp := by
  unfold nF nA nbF nbA
  rw [he, if_neg hs, if_neg h3, if_neg hs, if_neg h3]
  exact ⟨rfl, rfl⟩
theorem tn_0 {f : Nat → Int32} {n a : Nat} {fp lo hi : Int32} (he : nE f n a = nS f n a) : nF f n a 0 lo hi = 1 ∧ nA f n a 0 fp lo hi = nI (nS f n a) := by
  unfold nF nA nbF nbA
  rw [he, Nat.sub_self, if_pos rfl, if_pos rfl]
  exact ⟨rfl, rfl⟩
theorem nF_v {f : Nat → Int32} {n a : Nat} {lo hi : Int32} : nF f n a 0 lo hi = 0 ∨ 0 < nF f n a 0 lo hi := by
  unfold nF nbF bl
  split
  · exact Or.inr (by decide)
  · split
    · exact Or.inr (by decide)
    · exact Or.inl rfl
theorem blx {w x : Int32} (h : ¬ w = 0) : bl w x = w := if_neg h
theorem bla_ne {w x y : Int32} (h : ¬ w = 0) : bla w x y = x := if_neg h
theorem nF_ne {f : Nat → Int32} {n a : Nat} {w lo hi : Int32} (h : ¬ w = 0) : nF f n a w lo hi = w := by
  unfold nF nbF
  rw [blx h, blx h]
  split
  · rfl
  · split <;> rfl
theorem nA_ne {f : Nat → Int32} {n a : Nat} {w fa lo hi : Int32} (h : ¬ w = 0) : nA f n a w fa lo hi = fa := by
  unfold nA nbA
  rw [bla_ne h]
  split
  · rfl
  · split <;> rfl
theorem nf_bad {f : Nat → Int32} {n a K rp k : Nat} {fp : Int32} (h : ¬ nfl f n a K rp 0 k = 0) : nfl f n a K rp 0 (k + 1) = nfl f n a K rp 0 k ∧ nfa f n a K rp 0 fp (k + 1) = nfa f n a K rp 0 fp k := by
  rw [nfl, nfa, nF_ne h, nA_ne h, blx h, bla_ne h]
  refine ⟨?_, ?_⟩
  · split
    · split <;> rfl
    · rfl
  · split
    · split <;> rfl
    · rfl
theorem nf_ok {f : Nat → Int32} {n a K rp k : Nat} {fp : Int32} (hk : ¬ k = rp) (h : nfl f n a K rp 0 k = 0) : nfl f n a K rp 0 (k + 1) = nF f n (npos f n a k) 0 (stv2 (K * 4 + k)) (stv3 (K * 4 + k)) ∧ nfa f n a K rp 0 fp (k + 1) = nA f n (npos f n a k) 0 (nfa f n a K rp 0 fp k) (stv2 (K * 4 + k)) (stv3 (K * 4 + k)) := by
  rw [nfl, nfa, if_neg hk, if_neg hk, h]
  exact ⟨rfl, rfl⟩
def dyF (f : Nat → Int32) (n a : Nat) : Int32 := if nF f n a 0 0 99 = 0 then (if nF f n (nE f n a) 0 0 99 = 0 then (if nV f n (nE f n a) < nV f n a then 4 else 0) else nF f n (nE f n a) 0 0 99) else nF f n a 0 0 99
def dyA (f : Nat → Int32) (n a : Nat) (fp : Int32) : Int32 := if nF f n a 0 0 99 = 0 then (if nF f n (nE f n a) 0 0 99 = 0 then (if nV f n (nE f n a) < nV f n a then nI (nS f n (nE f n a)) else nA f n (nE f n a) 0 (nA f n a 0 fp 0 99) 0 99) else nA f n (nE f n a) 0 (nA f n a 0 fp 0 99) 0 99) else nA f n a 0 fp 0 99
theorem dyF_v {f : Nat → Int32} {n a : Nat} : dyF f n a = 0 ∨ 0 < dyF f n a := by
  unfold dyF
  split
  · split
    · split
      · exact Or.inr (by decide)
      · exact Or.inl rfl
    · exact nF_v
  · exact nF_v
theorem nf_dy {f : Nat → Int32} {n a K k : Nat} {fp : Int32} (h : nfl f n a K (k + 1) 0 k = 0) (h1 : stv2 (K * 4 + k) = 0) (h2 : stv3 (K * 4 + k) = 99) (h3 : stv2 (K * 4 + (k + 1)) = 0) (h4 : stv3 (K * 4 + (k + 1)) = 99) : nfl f n a K (k + 1) 0 (k + 2) = dyF f n (npos f n a k) ∧ nfa f n a K (k + 1) 0 fp (k + 2) = dyA f n (npos f n a k) (nfa f n a K (k + 1) 0 fp k) := by
  obtain ⟨e1, e2⟩ := nf_ok (fp := fp) (show ¬ k = k + 1 by omega) h
  rw [h1, h2] at e1 e2
  rw [nfl, nfa, if_pos rfl, if_pos rfl, e1, e2, h3, h4, Nat.add_sub_cancel]
  unfold dyF dyA nvl
  show (if nV f n (npos f n a k) ≤ nV f n (nE f n (npos f n a k)) then nF f n (nE f n (npos f n a k)) (nF f n (npos f n a k) 0 0 99) 0 99 else bl (nF f n (nE f n (npos f n a k)) (nF f n (npos f n a k) 0 0 99) 0 99) 4) = _ ∧ (if nV f n (npos f n a k) ≤ nV f n (nE f n (npos f n a k)) then nA f n (nE f n (npos f n a k)) (nF f n (npos f n a k) 0 0 99) (nA f n (npos f n a k) 0 (nfa f n a K (k + 1) 0 fp k) 0 99) 0 99 else bla (nF f n (nE f n (npos f n a k)) (nF f n (npos f n a k) 0 0 99) 0 99) (nA f n (nE f n (npos f n a k)) (nF f n (npos f n a k) 0 0 99) (nA f n (npos f n a k) 0 (nfa f n a K (k + 1) 0 fp k) 0 99) 0 99) (nI (nS f n (nE f n (npos f n a k))))) = _
  generalize nfa f n a K (k + 1) 0 fp k = fp
  generalize npos f n a k = p
  by_cases c1 : nF f n p 0 0 99 = 0
  · rw [c1, if_pos rfl, if_pos rfl]
    by_cases c2 : nF f n (nE f n p) 0 0 99 = 0
    · rw [c2, if_pos rfl, if_pos rfl]
      by_cases c3 : nV f n p ≤ nV f n (nE f n p)
      · rw [if_pos c3, if_pos c3, if_neg (Int32.not_lt.mpr c3), if_neg (Int32.not_lt.mpr c3)]
        exact ⟨rfl, rfl⟩
      · rw [if_neg c3, if_neg c3, if_pos (Int32.not_le.mp c3), if_pos (Int32.not_le.mp c3)]
        exact ⟨rfl, rfl⟩
    · rw [if_neg c2, if_neg c2, blx c2, bla_ne c2]
      refine ⟨?_, ?_⟩ <;> split <;> rfl
  · rw [if_neg c1, if_neg c1, nF_ne c1, nA_ne c1, blx c1, bla_ne c1]
    refine ⟨?_, ?_⟩ <;> split <;> rfl
theorem nE_ge {f : Nat → Int32} {n a : Nat} : a ≤ nE f n a := Nat.le_trans (rn_ge _ _ _) (rn_ge _ _ _)
theorem npos_ge {f : Nat → Int32} {n a : Nat} : ∀ k, a ≤ npos f n a k
  | 0 => Nat.le_refl a
  | k + 1 => Nat.le_trans (npos_ge k) nE_ge
theorem wE_gea {f : Nat → Int32} {n a : Nat} : a ≤ wE f n a := Nat.le_trans (rn_ge _ _ _) (rn_ge _ _ _)
theorem nz_le {x : Int32} (h : x = 0 ∨ 0 < x) (h2 : x ≤ 0) : x = 0 := h.resolve_right (Int32.not_lt.mpr h2)
theorem nz_gt {x : Int32} (h2 : ¬ x ≤ 0) : ¬ x = 0 := fun q => h2 (by rw [q]; decide)
