
def lsn (j : Nat) : Nat := ([0,1,0,0,0,0,0,0,0,0,0,1,0,0,0,0] : List Nat).getD j 0
def grn (j : Nat) : Nat := ([3,4,0,0,9,100,99,0,3,99,99,9,99,99,999,99] : List Nat).getD j 0
theorem stv_n : ∀ j, j < 16 → stv2 j = nI (lsn j) ∧ stv3 j = nI (grn j) := by decide +kernel
theorem lsn_b : ∀ j, j < 16 → lsn j < 2 ^ 31 ∧ grn j < 2 ^ 31 := by decide +kernel
theorem bl_ne {w nu : Int32} (h : ¬ nu = 0) : ¬ bl w nu = 0 := fun q => by
  unfold bl at q
  by_cases h0 : w = 0
  · rw [if_pos h0] at q; exact h q
  · rw [if_neg h0] at q; exact h0 q
theorem nF_0 {f : Nat → Int32} {n a : Nat} {w lo hi : Int32} (h : nF f n a w lo hi = 0) : w = 0 ∧ lo ≤ nV f n a ∧ nV f n a ≤ hi := by
  unfold nF nbF at h
  by_cases h0 : nE f n a - nS f n a = 0
  · rw [if_pos h0] at h; exact absurd h (bl_ne (by decide))
  · rw [if_neg h0] at h
    by_cases h1 : 3 < nE f n a - nS f n a ∨ nV f n a < lo ∨ hi < nV f n a
    · rw [if_pos h1] at h; exact absurd h (bl_ne (by decide))
    · rw [if_neg h1] at h
      exact ⟨h, Int32.not_lt.mp (fun q => h1 (Or.inr (Or.inl q))), Int32.not_lt.mp (fun q => h1 (Or.inr (Or.inr q)))⟩
theorem eF_0 {f : Nat → Int32} {n a : Nat} {w : Int32} (h : eF f n a w = 0) : w = 0 := by
  unfold eF at h
  by_cases h0 : btw f n (nS f n a) 59 59 = 0
  · rw [if_pos h0] at h; exact absurd h (bl_ne (by decide))
  · rw [if_neg h0] at h; exact h
theorem nfl_s {f : Nat → Int32} {n a K rp : Nat} {w : Int32} {k : Nat} (h : nfl f n a K rp w (k + 1) = 0) : nF f n (npos f n a k) (nfl f n a K rp w k) (stv2 (K * 4 + k)) (stv3 (K * 4 + k)) = 0 := by
  rw [nfl] at h
  by_cases h0 : k = rp
  · rw [if_pos h0] at h
    by_cases h1 : nvl f n a (k - 1) ≤ nvl f n a k
    · rw [if_pos h1] at h; exact h
    · rw [if_neg h1] at h; exact absurd h (bl_ne (by decide))
  · rw [if_neg h0] at h; exact h
theorem nfl_0 {f : Nat → Int32} {n a K rp : Nat} {w : Int32} : ∀ k : Nat, nfl f n a K rp w k = 0 → w = 0 ∧ ∀ p, p < k → stv2 (K * 4 + p) ≤ nvl f n a p ∧ nvl f n a p ≤ stv3 (K * 4 + p)
  | 0, h => ⟨h, fun p hp => absurd hp (Nat.not_lt_zero p)⟩
  | k + 1, h => by
    obtain ⟨h1, h2, h3⟩ := nF_0 (nfl_s h)
    obtain ⟨h4, h5⟩ := nfl_0 k h1
    refine ⟨h4, fun p hp => ?_⟩
    by_cases hk : p = k
    · rw [hk]; exact ⟨h2, h3⟩
    · exact h5 p (by omega)
theorem nGr_out {f : Nat → Int32} {n a c : Nat} {G : Nat → Int32} {j : Nat} : ∀ k : Nat, (∀ p, p < k → ¬ j = c * 4 + p) → nGr f n a c G k j = G j
  | 0, _ => rfl
  | k + 1, h => by
    rw [nGr, pk_un (h k (Nat.lt_succ_self k))]
    exact nGr_out k (fun p hp => h p (Nat.lt_succ_of_lt hp))
theorem nGr_in {f : Nat → Int32} {n a c : Nat} {G : Nat → Int32} {p : Nat} : ∀ k : Nat, p < k → nGr f n a c G k (c * 4 + p) = nvl f n a p
  | 0, h => absurd h (Nat.not_lt_zero p)
  | k + 1, h => by
    by_cases hk : p = k
    · rw [hk, nGr, pk_us]
    · rw [nGr, pk_un (by omega)]
      exact nGr_in k (by omega)
def NBr (K P c : Nat) (G : Nat → Int32) : Prop := ∀ i, i < c → ∀ p, p < P → ∃ v : Nat, lsn (K * 4 + p) ≤ v ∧ v ≤ grn (K * 4 + p) ∧ G (i * 4 + p) = nI v
theorem NBr_0 {K P : Nat} {G : Nat → Int32} : NBr K P 0 G := fun i h => absurd h (Nat.not_lt_zero i)
theorem NBr_s {K P c rp : Nat} {G f : Nat → Int32} {n a : Nat} {w : Int32} (hK : K < 4) (hP : P ≤ 4) (h : NBr K P c G) (hf : nfl f n a K rp w P = 0) : NBr K P (c + 1) (nGr f n a c G P) := by
  intro i hi p hp
  by_cases hc : i = c
  · obtain ⟨h1, h2⟩ := (nfl_0 P hf).2 p hp
    have h3 := stv_n (K * 4 + p) (by omega)
    have h4 := lsn_b (K * 4 + p) (by omega)
    rw [h3.1] at h1
    rw [h3.2] at h2
    have h5 : ¬ nvl f n a p < 0 := fun q => absurd (Int32.lt_of_le_of_lt h1 q) (nI_pos h4.1)
    obtain ⟨v, hv, ev⟩ := nI_of h5
    rw [ev] at h1 h2
    refine ⟨v, (nI_leI h4.1 hv).mp h1, (nI_leI hv h4.2).mp h2, ?_⟩
    rw [hc, nGr_in P hp, ev]
  · obtain ⟨v, h1, h2, h3⟩ := h i (by omega) p hp
    exact ⟨v, h1, h2, by rw [nGr_out P (fun p' hp' => by omega)]; exact h3⟩
def TN (q : Nat → Nat) (G0 G1 G2 G3 : Nat → Int32) : Prop := NBr 0 2 (q 0) G0 ∧ NBr 1 3 (q 1) G1 ∧ NBr 2 4 (q 2) G2 ∧ NBr 3 4 (q 3) G3
def TI (n : Nat) : TSt → Prop := fun (a, _, _, w4, _, _, q, G0, G1, G2, G3) => a ≤ n ∧ (q 0 ≤ 7 ∧ q 1 ≤ 7 ∧ q 2 ≤ 20 ∧ q 3 ≤ 3) ∧ (w4 = 0 → TN q G0 G1 G2 G3)
theorem up_s {q : Nat → Nat} {i v : Nat} : updN q i v i = v := if_pos rfl
theorem up_n {q : Nat → Nat} {i j v : Nat} (h : ¬ j = i) : updN q i v j = q j := if_neg h

theorem tc_0 {f : Nat → Int32} {n a : Nat} {w2 w3 w4 w5 w6 : Int32} {q : Nat → Nat} {G0 G1 G2 G3 : Nat → Int32} (hk : kdA f (nS f n a) (wE f n a) 0 = 0) (hc : q 0 < 7) : TCl f n (a, w2, w3, w4, w5, w6, q, G0, G1, G2, G3) = (tcE f n (wE f n a) 2, nI (nS f n a), nI (nS f n (npos f n (wE f n a) 1)), tcF f n (wE f n a) 0 9 2 w4, tcA f n (wE f n a) 0 9 2 w4 w5, nI (wE f n a), updN q 0 (q 0 + 1), nGr f n (wE f n a) (q 0) G0 2, G1, G2, G3) := by
  unfold TCl
  exact (if_pos hk).trans (if_pos hc)
theorem tf_0 {f : Nat → Int32} {n a : Nat} {w2 w3 w4 w5 w6 : Int32} {q : Nat → Nat} {G0 G1 G2 G3 : Nat → Int32} (hk : kdA f (nS f n a) (wE f n a) 0 = 0) (hc : 7 ≤ q 0) : TCl f n (a, w2, w3, w4, w5, w6, q, G0, G1, G2, G3) = tcB f n a 3 w3 w4 w5 q G0 G1 G2 G3 := by
  unfold TCl
  exact (if_pos hk).trans (if_neg (by omega))
theorem ti_0 {f : Nat → Int32} {n a : Nat} {w2 w3 w4 w5 w6 : Int32} {q : Nat → Nat} {G0 G1 G2 G3 : Nat → Int32} (h : TI n (a, w2, w3, w4, w5, w6, q, G0, G1, G2, G3)) (hk : kdA f (nS f n a) (wE f n a) 0 = 0) (hc : q 0 < 7) : TI n (TCl f n (a, w2, w3, w4, w5, w6, q, G0, G1, G2, G3)) := by
  rw [tc_0 hk hc]
  obtain ⟨h1, h2, h3⟩ := h
  refine ⟨eE_le (npos_le (wE_le h1) _), ⟨by rw [up_s]; omega, by rw [up_n (by decide)]; omega, by rw [up_n (by decide)]; omega, by rw [up_n (by decide)]; omega⟩, fun h0 => ?_⟩
  have h1 := eF_0 h0
  have hN := h3 (nfl_0 _ h1).1
  exact ⟨by rw [up_s]; exact NBr_s (by decide) (by decide) (hN.1) h1, by rw [up_n (by decide)]; exact hN.2.1, by rw [up_n (by decide)]; exact hN.2.2.1, by rw [up_n (by decide)]; exact hN.2.2.2⟩
theorem tc_1 {f : Nat → Int32} {n a : Nat} {w2 w3 w4 w5 w6 : Int32} {q : Nat → Nat} {G0 G1 G2 G3 : Nat → Int32} (hk : kdA f (nS f n a) (wE f n a) 0 = 1) (hc : q 1 < 7) : TCl f n (a, w2, w3, w4, w5, w6, q, G0, G1, G2, G3) = (tcE f n (wE f n a) 3, nI (nS f n a), nI (nS f n (npos f n (wE f n a) 2)), tcF f n (wE f n a) 1 9 3 w4, tcA f n (wE f n a) 1 9 3 w4 w5, nI (wE f n a), updN q 1 (q 1 + 1), G0, nGr f n (wE f n a) (q 1) G1 3, G2, G3) := by
  unfold TCl
  exact (if_neg (by rw [hk]; decide)).trans <| (if_pos hk).trans (if_pos hc)
theorem tf_1 {f : Nat → Int32} {n a : Nat} {w2 w3 w4 w5 w6 : Int32} {q : Nat → Nat} {G0 G1 G2 G3 : Nat → Int32} (hk : kdA f (nS f n a) (wE f n a) 0 = 1) (hc : 7 ≤ q 1) : TCl f n (a, w2, w3, w4, w5, w6, q, G0, G1, G2, G3) = tcB f n a 3 w3 w4 w5 q G0 G1 G2 G3 := by
  unfold TCl
  exact (if_neg (by rw [hk]; decide)).trans <| (if_pos hk).trans (if_neg (by omega))
theorem ti_1 {f : Nat → Int32} {n a : Nat} {w2 w3 w4 w5 w6 : Int32} {q : Nat → Nat} {G0 G1 G2 G3 : Nat → Int32} (h : TI n (a, w2, w3, w4, w5, w6, q, G0, G1, G2, G3)) (hk : kdA f (nS f n a) (wE f n a) 0 = 1) (hc : q 1 < 7) : TI n (TCl f n (a, w2, w3, w4, w5, w6, q, G0, G1, G2, G3)) := by
  rw [tc_1 hk hc]
  obtain ⟨h1, h2, h3⟩ := h
  refine ⟨eE_le (npos_le (wE_le h1) _), ⟨by rw [up_n (by decide)]; omega, by rw [up_s]; omega, by rw [up_n (by decide)]; omega, by rw [up_n (by decide)]; omega⟩, fun h0 => ?_⟩
  have h1 := eF_0 h0
  have hN := h3 (nfl_0 _ h1).1
  exact ⟨by rw [up_n (by decide)]; exact hN.1, by rw [up_s]; exact NBr_s (by decide) (by decide) (hN.2.1) h1, by rw [up_n (by decide)]; exact hN.2.2.1, by rw [up_n (by decide)]; exact hN.2.2.2⟩
theorem tc_2 {f : Nat → Int32} {n a : Nat} {w2 w3 w4 w5 w6 : Int32} {q : Nat → Nat} {G0 G1 G2 G3 : Nat → Int32} (hk : kdA f (nS f n a) (wE f n a) 0 = 2) (hc : q 2 < 20) : TCl f n (a, w2, w3, w4, w5, w6, q, G0, G1, G2, G3) = (tcE f n (wE f n a) 4, nI (nS f n a), nI (nS f n (npos f n (wE f n a) 3)), tcF f n (wE f n a) 2 2 4 w4, tcA f n (wE f n a) 2 2 4 w4 w5, nI (wE f n a), updN q 2 (q 2 + 1), G0, G1, nGr f n (wE f n a) (q 2) G2 4, G3) := by
  unfold TCl
  exact (if_neg (by rw [hk]; decide)).trans <| (if_neg (by rw [hk]; decide)).trans <| (if_pos hk).trans (if_pos hc)
theorem tf_2 {f : Nat → Int32} {n a : Nat} {w2 w3 w4 w5 w6 : Int32} {q : Nat → Nat} {G0 G1 G2 G3 : Nat → Int32} (hk : kdA f (nS f n a) (wE f n a) 0 = 2) (hc : 20 ≤ q 2) : TCl f n (a, w2, w3, w4, w5, w6, q, G0, G1, G2, G3) = tcB f n a 3 w3 w4 w5 q G0 G1 G2 G3 := by
  unfold TCl
  exact (if_neg (by rw [hk]; decide)).trans <| (if_neg (by rw [hk]; decide)).trans <| (if_pos hk).trans (if_neg (by omega))
theorem ti_2 {f : Nat → Int32} {n a : Nat} {w2 w3 w4 w5 w6 : Int32} {q : Nat → Nat} {G0 G1 G2 G3 : Nat → Int32} (h : TI n (a, w2, w3, w4, w5, w6, q, G0, G1, G2, G3)) (hk : kdA f (nS f n a) (wE f n a) 0 = 2) (hc : q 2 < 20) : TI n (TCl f n (a, w2, w3, w4, w5, w6, q, G0, G1, G2, G3)) := by
  rw [tc_2 hk hc]
  obtain ⟨h1, h2, h3⟩ := h
  refine ⟨eE_le (npos_le (wE_le h1) _), ⟨by rw [up_n (by decide)]; omega, by rw [up_n (by decide)]; omega, by rw [up_s]; omega, by rw [up_n (by decide)]; omega⟩, fun h0 => ?_⟩
  have h1 := eF_0 h0
  have hN := h3 (nfl_0 _ h1).1
  exact ⟨by rw [up_n (by decide)]; exact hN.1, by rw [up_n (by decide)]; exact hN.2.1, by rw [up_s]; exact NBr_s (by decide) (by decide) (hN.2.2.1) h1, by rw [up_n (by decide)]; exact hN.2.2.2⟩
theorem tc_3 {f : Nat → Int32} {n a : Nat} {w2 w3 w4 w5 w6 : Int32} {q : Nat → Nat} {G0 G1 G2 G3 : Nat → Int32} (hk : kdA f (nS f n a) (wE f n a) 0 = 3) (hc : q 3 < 3) : TCl f n (a, w2, w3, w4, w5, w6, q, G0, G1, G2, G3) = (tcE f n (wE f n a) 4, nI (nS f n a), nI (nS f n (npos f n (wE f n a) 3)), tcF f n (wE f n a) 3 1 4 w4, tcA f n (wE f n a) 3 1 4 w4 w5, nI (wE f n a), updN q 3 (q 3 + 1), G0, G1, G2, nGr f n (wE f n a) (q 3) G3 4) := by
  unfold TCl
  exact (if_neg (by rw [hk]; decide)).trans <| (if_neg (by rw [hk]; decide)).trans <| (if_neg (by rw [hk]; decide)).trans <| (if_pos hk).trans (if_pos hc)
theorem tf_3 {f : Nat → Int32} {n a : Nat} {w2 w3 w4 w5 w6 : Int32} {q : Nat → Nat} {G0 G1 G2 G3 : Nat → Int32} (hk : kdA f (nS f n a) (wE f n a) 0 = 3) (hc : 3 ≤ q 3) : TCl f n (a, w2, w3, w4, w5, w6, q, G0, G1, G2, G3) = tcB f n a 3 w3 w4 w5 q G0 G1 G2 G3 := by
  unfold TCl
  exact (if_neg (by rw [hk]; decide)).trans <| (if_neg (by rw [hk]; decide)).trans <| (if_neg (by rw [hk]; decide)).trans <| (if_pos hk).trans (if_neg (by omega))
theorem ti_3 {f : Nat → Int32} {n a : Nat} {w2 w3 w4 w5 w6 : Int32} {q : Nat → Nat} {G0 G1 G2 G3 : Nat → Int32} (h : TI n (a, w2, w3, w4, w5, w6, q, G0, G1, G2, G3)) (hk : kdA f (nS f n a) (wE f n a) 0 = 3) (hc : q 3 < 3) : TI n (TCl f n (a, w2, w3, w4, w5, w6, q, G0, G1, G2, G3)) := by
  rw [tc_3 hk hc]
  obtain ⟨h1, h2, h3⟩ := h
  refine ⟨eE_le (npos_le (wE_le h1) _), ⟨by rw [up_n (by decide)]; omega, by rw [up_n (by decide)]; omega, by rw [up_n (by decide)]; omega, by rw [up_s]; omega⟩, fun h0 => ?_⟩
  have h1 := eF_0 h0
  have hN := h3 (nfl_0 _ h1).1
  exact ⟨by rw [up_n (by decide)]; exact hN.1, by rw [up_n (by decide)]; exact hN.2.1, by rw [up_n (by decide)]; exact hN.2.2.1, by rw [up_s]; exact NBr_s (by decide) (by decide) (hN.2.2.2) h1⟩
theorem tc_n {f : Nat → Int32} {n a : Nat} {w2 w3 w4 w5 w6 : Int32} {q : Nat → Nat} {G0 G1 G2 G3 : Nat → Int32} (hk : kdA f (nS f n a) (wE f n a) 0 = -1) : TCl f n (a, w2, w3, w4, w5, w6, q, G0, G1, G2, G3) = tcB f n a 1 w3 w4 w5 q G0 G1 G2 G3 := by
  unfold TCl
  exact (if_neg (by rw [hk]; decide)).trans <| (if_neg (by rw [hk]; decide)).trans <| (if_neg (by rw [hk]; decide)).trans <| if_neg (by rw [hk]; decide)
theorem ti_b {f : Nat → Int32} {n a : Nat} {w2 w3 w4 w5 w6 : Int32} {q : Nat → Nat} {G0 G1 G2 G3 : Nat → Int32} {nu : Int32} (h : TI n (a, w2, w3, w4, w5, w6, q, G0, G1, G2, G3)) (hn : ¬ nu = 0) : TI n (tcB f n a nu w3 w4 w5 q G0 G1 G2 G3) := by
  obtain ⟨h1, h2, h3⟩ := h
  exact ⟨wE_le h1, h2, fun h0 => absurd h0 (bl_ne hn)⟩
theorem ti_s {f : Nat → Int32} {n : Nat} : ∀ σ : TSt, TI n σ → TI n (TCl f n σ)
  | (a, w2, w3, w4, w5, w6, q, G0, G1, G2, G3), h => by
    rcases kd_c f (nS f n a) (wE f n a) 0 with hk | hk | hk | hk | hk
    · rw [tc_n hk]; exact ti_b h (by decide)
    · by_cases hc : q 0 < 7
      · exact ti_0 h hk hc
      · rw [tf_0 hk (by omega)]; exact ti_b h (by decide)
    · by_cases hc : q 1 < 7
      · exact ti_1 h hk hc
      · rw [tf_1 hk (by omega)]; exact ti_b h (by decide)
    · by_cases hc : q 2 < 20
      · exact ti_2 h hk hc
      · rw [tf_2 hk (by omega)]; exact ti_b h (by decide)
    · by_cases hc : q 3 < 3
      · exact ti_3 h hk hc
      · rw [tf_3 hk (by omega)]; exact ti_b h (by decide)
def tsk (f : Nat → Int32) (n : Nat) : TSt → TSt := fun (a, w2, w3, w4, w5, w6, q, G0, G1, G2, G3) => (nS f n a, w2, w3, w4, w5, w6, q, G0, G1, G2, G3)
def tmo (f : Nat → Int32) (n : Nat) : TSt → Bool := fun (a, _) => decide (nS f n a < n)
def tfl : TSt → Int32 := fun (_, _, _, w4, _) => w4
def rdS (f : Nat → Int32) (n : Nat) : Nat → TSt → TSt
  | 0, σ => σ
  | k + 1, σ => if tfl σ = 0 then (if tmo f n σ = true then rdS f n k (TCl f n (tsk f n σ)) else tsk f n σ) else σ
theorem ti_k {f : Nat → Int32} {n : Nat} : ∀ σ : TSt, TI n σ → TI n (tsk f n σ)
  | (a, w2, w3, w4, w5, w6, q, G0, G1, G2, G3), h => ⟨nS_le h.1, h.2⟩
theorem rd_flt {f : Nat → Int32} {n j : Nat} {σ : TSt} (h : ¬ tfl σ = 0) : rdS f n j σ = σ := by
  cases j with
  | zero => rfl
  | succ j => exact if_neg h
theorem rd_end {f : Nat → Int32} {n j : Nat} {σ : TSt} (hj : 0 < j) (h : tfl σ = 0) (h2 : ¬ tmo f n σ = true) : rdS f n j σ = tsk f n σ := by
  cases j with
  | zero => exact absurd hj (by decide)
  | succ j => exact (if_pos h).trans (if_neg h2)
theorem rd_more {f : Nat → Int32} {n j i : Nat} {σ : TSt} (hj : j = i + 1) (h : tfl σ = 0) (h2 : tmo f n σ = true) : rdS f n j σ = rdS f n i (TCl f n (tsk f n σ)) := by
  rw [hj]
  exact (if_pos h).trans (if_pos h2)
def zq (q : Nat → Nat) : Nat → Nat := fun j => if j < 4 then 0 else q j
theorem fl_cI {q : Nat → Nat} : fl_i (cI q) 0 4 = cI (zq q) := by
  funext j
  unfold fl_i cI zq
  by_cases h : j < 4
  · rw [if_pos h, if_pos h]; rfl
  · rw [if_neg h, if_neg h]
theorem ti_z {n : Nat} {w2 w3 w5 w6 : Int32} {q : Nat → Nat} {G0 G1 G2 G3 : Nat → Int32} : TI n (0, w2, w3, 0, w5, w6, zq q, G0, G1, G2, G3) := ⟨Nat.zero_le _, ⟨Nat.zero_le _, Nat.zero_le _, Nat.zero_le _, Nat.zero_le _⟩, fun _ => ⟨NBr_0, NBr_0, NBr_0, NBr_0⟩⟩
