
theorem k12 : (1000000000000 : Int64).toInt = 1000000000000 := by decide +kernel
theorem k12b : (2000000000000 : Int64).toInt = 2000000000000 := by decide +kernel
theorem k27 : (27 : Int64).toInt = 27 := by decide +kernel
theorem k96 : (96 : Int64).toInt = 96 := by decide +kernel
theorem k97 : (97 : Int32).toInt = 97 := by decide +kernel
theorem k122 : (122 : Int32).toInt = 122 := by decide +kernel
theorem i64s {x : Int} (h1 : -9000000000000000000 ≤ x) (h2 : x ≤ 9000000000000000000) : x.bmod (2 ^ 64) = x := by
  have e : ((2 ^ 64 : Nat) : Int) = 18446744073709551616 := by decide
  exact Int.bmod_eq_of_le_mul_two (by rw [e]; omega) (by rw [e]; omega)
theorem sd_int {f : Nat → Int32} {s9 j : Nat} (h : pR f 97 122 (s9 + j) = true) (hb : 0 ≤ (sdI f s9 j).toInt ∧ (sdI f s9 j).toInt ≤ 30000000000000) :
    (sdI f s9 (j + 1)).toInt = (if 1000000000000 < (sdI f s9 j).toInt then 2000000000000 else 27 * (sdI f s9 j).toInt + (f (s9 + j)).toInt - 96) ∧ 97 ≤ (f (s9 + j)).toInt ∧ (f (s9 + j)).toInt ≤ 122 := by
  have hl : 97 ≤ (f (s9 + j)).toInt ∧ (f (s9 + j)).toInt ≤ 122 := by
    unfold pR at h
    simp only [Bool.and_eq_true, decide_eq_true_eq] at h
    have h1 := Int32.le_iff_toInt_le.mp h.1
    have h2 := Int32.le_iff_toInt_le.mp h.2
    rw [k97] at h1
    rw [k122] at h2
    exact ⟨h1, h2⟩
  refine ⟨?_, hl⟩
  by_cases c : 1000000000000 < sdI f s9 j
  · have c2 := Int64.lt_iff_toInt_lt.mp c
    rw [k12] at c2
    rw [if_pos c2, sdI, if_pos c, k12b]
  · have c2 : ¬ 1000000000000 < (sdI f s9 j).toInt := fun q => c (Int64.lt_iff_toInt_lt.mpr (by rw [k12]; exact q))
    rw [if_neg c2, sdI, if_neg c, Int64.toInt_sub, Int64.toInt_add, Int64.toInt_mul, k27, k96, Int32.toInt_toInt64]
    rw [i64s (x := 27 * (sdI f s9 j).toInt) (by omega) (by omega), i64s (x := 27 * (sdI f s9 j).toInt + (f (s9 + j)).toInt) (by omega) (by omega), i64s (by omega) (by omega)]
theorem sd_bd {f : Nat → Int32} {s9 : Nat} : ∀ j, (∀ i, i < j → pR f 97 122 (s9 + i) = true) → 0 ≤ (sdI f s9 j).toInt ∧ (sdI f s9 j).toInt ≤ 30000000000000
  | 0, _ => by
    show 0 ≤ (0 : Int64).toInt ∧ (0 : Int64).toInt ≤ 30000000000000
    decide +kernel
  | j + 1, h => by
    have hb := sd_bd j (fun i hi => h i (by omega))
    obtain ⟨e, h1, h2⟩ := sd_int (h j (by omega)) hb
    rw [e]
    split <;> omega
def wpc (w : Nat) : Nat → Int
  | 0 => 0
  | m + 1 => 27 * wpc w m + ((BT w m).toInt - 96)
theorem bt_l : ∀ w, w < 8 → ∀ m, m < 8 → m < LN w → 97 ≤ (BT w m).toInt ∧ (BT w m).toInt ≤ 122 := by decide +kernel
theorem wpc_b : ∀ w, w < 8 → ∀ m, m < 8 → m ≤ LN w → 0 ≤ wpc w m ∧ wpc w m ≤ 1000000000000 := by decide +kernel
theorem ln8 : ∀ w, w < 8 → LN w < 8 := by decide
theorem wd_ind {f : Nat → Int32} {s9 w : Nat} (hw : w < 8) : ∀ j m, m ≤ LN w → (∀ i, i < j → pR f 97 122 (s9 + i) = true) → ((sdI f s9 j).toInt = wpc w m ↔ (j = m ∧ ∀ i, i < m → f (s9 + i) = BT w i))
  | 0, 0, _, _ => ⟨fun _ => ⟨rfl, fun i hi => absurd hi (Nat.not_lt_zero i)⟩, fun _ => by show (0 : Int64).toInt = 0; decide +kernel⟩
  | 0, m + 1, hm, _ => by
    have h8 := ln8 w hw
    have hl := bt_l w hw m (by omega) (by omega)
    have hb := wpc_b w hw m (by omega) (by omega)
    refine ⟨fun h => ?_, fun h => absurd h.1 (by omega)⟩
    exfalso
    have e : (0 : Int64).toInt = 27 * wpc w m + ((BT w m).toInt - 96) := h
    rw [show (0 : Int64).toInt = 0 by decide +kernel] at e
    omega
  | j + 1, m, hm, h => by
    have h8 := ln8 w hw
    have hb := sd_bd j (fun i hi => h i (by omega))
    obtain ⟨e, h1, h2⟩ := sd_int (h j (by omega)) hb
    rw [e]
    cases m with
    | zero =>
      refine ⟨fun q => ?_, fun q => absurd q.1 (by omega)⟩
      exfalso
      have q2 : (if 1000000000000 < (sdI f s9 j).toInt then 2000000000000 else 27 * (sdI f s9 j).toInt + (f (s9 + j)).toInt - 96) = (0 : Int) := q
      split at q2 <;> omega
    | succ m =>
      have ih := wd_ind hw j m (by omega) (fun i hi => h i (by omega))
      have hl := bt_l w hw m (by omega) (by omega)
      have hc := wpc_b w hw m (by omega) (by omega)
      have hd := wpc_b w hw (m + 1) (by omega) hm
      have hs : wpc w (m + 1) = 27 * wpc w m + ((BT w m).toInt - 96) := rfl
      rw [hs] at hd ⊢
      refine ⟨fun q => ?_, fun q => ?_⟩
      · split at q
        · omega
        · have e1 : (sdI f s9 j).toInt = wpc w m := by omega
          have e2 : (f (s9 + j)).toInt = (BT w m).toInt := by omega
          obtain ⟨a1, a2⟩ := ih.mp e1
          refine ⟨by omega, fun i hi => ?_⟩
          by_cases hi2 : i = m
          · rw [hi2, ← a1]
            rw [← a1] at e2
            exact Int32.toInt_inj.mp e2
          · exact a2 i (by omega)
      · have e1 := ih.mpr ⟨by omega, fun i hi => q.2 i (by omega)⟩
        have e2 := q.2 m (by omega)
        rw [if_neg (by omega), e1, show j = m by omega, e2]
        omega
theorem rn_full {p : Nat → Bool} {n : Nat} : ∀ (d a : Nat), n - a = d → a ≤ n → (rn p n a = n ↔ ∀ j, a ≤ j → j < n → p j = true)
  | 0, a, hd, ha => by
    have e : a = n := by omega
    rw [rn_stop (fun h => by have := h.1; omega)]
    exact ⟨fun _ j h1 h2 => absurd h2 (by omega), fun _ => e⟩
  | d + 1, a, hd, ha => by
    by_cases hp : p a = true
    · rw [rn_step (by omega) hp, rn_full d (a + 1) (by omega) (by omega)]
      refine ⟨fun h j h1 h2 => ?_, fun h j h1 h2 => h j (by omega) h2⟩
      by_cases e : j = a
      · rw [e]; exact hp
      · exact h j (by omega) h2
    · rw [rn_stop (fun h => hp h.2)]
      exact ⟨fun e => absurd e (by omega), fun h => absurd (h a (Nat.le_refl _) (by omega)) hp⟩
theorem rn_in {p : Nat → Bool} {n : Nat} : ∀ (d a : Nat), n - a = d → ∀ j, a ≤ j → j < rn p n a → p j = true
  | 0, a, hd => fun j h1 h2 => by
    rw [rn_stop (fun h => by have := h.1; omega)] at h2
    omega
  | d + 1, a, hd => fun j h1 h2 => by
    by_cases hp : p a = true
    · by_cases e : j = a
      · rw [e]; exact hp
      · rw [rn_step (by omega) hp] at h2
        exact rn_in d (a + 1) (by omega) j (by omega) h2
    · rw [rn_stop (fun h => hp h.2)] at h2
      omega
def WCl : List Int64 := [4562600, 7535943612, 7742498, 187475625, 205811839, 18379, 670208, 419]
def WC (w : Nat) : Int64 := WCl.getD w 0
theorem WC_n : ∀ w, w < 8 → (WC w).toInt = wpc w (LN w) := by decide +kernel
theorem wd_iff {f : Nat → Int32} {n a w : Nat} (hw : w < 8) : sdI f (nS f n a) (wE f n a - nS f n a) = WC w ↔ ¬ iwA f (nS f n a) (wE f n a) w = 0 := by
  have hr : ∀ i, i < wE f n a - nS f n a → pR f 97 122 (nS f n a + i) = true := fun i hi => rn_in _ (nS f n a) rfl _ (by omega) (show nS f n a + i < wE f n a by omega)
  rw [← Int64.toInt_inj, WC_n w hw, wd_ind hw _ _ (Nat.le_refl _) hr]
  have hf := rn_full (p := pW f (nS f n a) w) (n := LN w) _ 0 rfl (Nat.zero_le _)
  unfold iwA
  refine ⟨fun h => ?_, fun h => ?_⟩
  · rw [if_pos ⟨h.1, hf.mpr (fun j _ hj => decide_eq_true (h.2 j hj))⟩]
    decide
  · by_cases c : wE f n a - nS f n a = LN w ∧ rn (pW f (nS f n a) w) (LN w) 0 = LN w
    · exact ⟨c.1, fun i hi => of_decide_eq_true (hf.mp c.2 i (Nat.zero_le _) hi)⟩
    · rw [if_neg c] at h
      exact absurd rfl h
theorem wd_1 {f : Nat → Int32} {n a w : Nat} (hw : w < 8) {v : Int64} (hv : v = WC w) (h : lg_cmp (sdI f (nS f n a) (wE f n a - nS f n a)) v = 0) : ¬ iwA f (nS f n a) (wE f n a) w = 0 := (wd_iff hw).mp (((lg_z _ _).mp h).trans hv)
theorem wdz0 {f : Nat → Int32} {n a w : Nat} (hw : w < 8) {v : Int64} (hv : v = WC w) (h : ¬ lg_cmp (sdI f (nS f n a) (wE f n a - nS f n a)) v = 0) : iwA f (nS f n a) (wE f n a) w = 0 := by
  by_cases c : iwA f (nS f n a) (wE f n a) w = 0
  · exact c
  · exact absurd ((lg_z _ _).mpr (((wd_iff hw).mpr c).trans hv.symm)) h
def cdA (a b c : Int32) : Int64 := 27 * (27 * (a.toInt64 - 96) + b.toInt64 - 96) + c.toInt64 - 96
def lgA (v : Int64) (a b : Int32) : Int64 := if b = 0 then 27 * v + a.toInt64 - 96 else 27 * (27 * v + a.toInt64 - 96) + b.toInt64 - 96
theorem nfl_v {f : Nat → Int32} {n a K rp : Nat} : ∀ k, nfl f n a K rp 0 k = 0 ∨ 0 < nfl f n a K rp 0 k
  | 0 => Or.inl rfl
  | k + 1 => by
    by_cases h : nfl f n a K rp 0 k = 0
    · rw [nfl, h]
      have hv := nF_v (f := f) (n := n) (a := npos f n a k) (lo := stv2 (K * 4 + k)) (hi := stv3 (K * 4 + k))
      split
      · split
        · exact hv
        · rcases hv with hv | hv
          · rw [hv]; exact Or.inr (by decide)
          · rw [blx (fun q => by rw [q] at hv; exact absurd hv (by decide))]; exact Or.inr hv
      · exact hv
    · rw [(nf_bad (fp := 0) h).1]
      exact nfl_v k
theorem eF_ne {f : Nat → Int32} {n a : Nat} {w : Int32} (h : ¬ w = 0) : eF f n a w = w := by
  unfold eF
  rw [blx h]
  split <;> rfl
theorem eA_ne {f : Nat → Int32} {n a : Nat} {w fa : Int32} (h : ¬ w = 0) : eA f n a w fa = fa := by
  unfold eA
  rw [bla_ne h]
  split <;> rfl
theorem eF_v {f : Nat → Int32} {n a : Nat} : eF f n a 0 = 0 ∨ 0 < eF f n a 0 := by
  unfold eF
  split
  · exact Or.inr (by decide)
  · exact Or.inl rfl
theorem eE_gt {f : Nat → Int32} {n a : Nat} (h : eF f n a 0 = 0) : a < eE f n a := by
  have hge : a ≤ nS f n a := rn_ge _ _ _
  unfold eF at h
  unfold eE
  by_cases c : btw f n (nS f n a) 59 59 = 0
  · rw [if_pos c] at h; exact absurd h (by decide)
  · rw [if_neg c]; omega
def tfp : TSt → Int32 := fun (_, _, _, _, w5, _) => w5
def tpo : TSt → Nat := fun (a, _) => a
def RD (q : Nat → Nat) (G0 G1 G2 G3 : Nat → Int32) (rh rs rz rm : Nat) (c0 c1 c2 c3 c4 c5 c6 : Nat → Int32) : Prop := (rh = q 0 ∧ rs = q 1 ∧ rz = q 2 ∧ rm = q 3) ∧ (∀ i, i < q 0 → c0 i = G0 (i * 4) ∧ c1 i = G0 (i * 4 + 1)) ∧ (∀ i, i < q 1 → c2 i = G1 (i * 4) ∧ c3 i = G1 (i * 4 + 1) ∧ c4 i = G1 (i * 4 + 2)) ∧ (∀ i, i < q 2 → ∀ p, p < 4 → c5 (4 * i + p) = G2 (i * 4 + p)) ∧ (∀ i, i < q 3 → ∀ p, p < 4 → c6 (4 * i + p) = G3 (i * 4 + p))
def RDt (rh rs rz rm : Nat) (c0 c1 c2 c3 c4 c5 c6 : Nat → Int32) : TSt → Prop := fun (_, _, _, _, _, _, q, G0, G1, G2, G3) => RD q G0 G1 G2 G3 rh rs rz rm c0 c1 c2 c3 c4 c5 c6
theorem up_if {f : Nat → Int32} {a j : Nat} {v : Int32} : upd f a v j = if j = a then v else f j := rfl
theorem uN_s {q : Nat → Nat} {i v : Nat} : updN q i v i = v := if_pos rfl
theorem uN_n {q : Nat → Nat} {i j v : Nat} (h : ¬ j = i) : updN q i v j = q j := if_neg h
theorem rd_row {c G : Nat → Int32} {n : Nat} {v0 v1 v2 v3 : Int32} (h : ∀ i, i < n → ∀ p, p < 4 → c (4 * i + p) = G (i * 4 + p)) : ∀ i, i < n + 1 → ∀ p, p < 4 → upd (upd (upd (upd c (4 * n) v0) (4 * n + 1) v1) (4 * n + 2) v2) (4 * n + 3) v3 (4 * i + p) = upd (upd (upd (upd G (n * 4 + 0) v0) (n * 4 + 1) v1) (n * 4 + 2) v2) (n * 4 + 3) v3 (i * 4 + p) := by
  intro i hi p hp
  simp only [up_if]
  by_cases c3 : i * 4 + p = n * 4 + 3
  · rw [if_pos (show 4 * i + p = 4 * n + 3 by omega), if_pos c3]
  · rw [if_neg (show ¬ 4 * i + p = 4 * n + 3 by omega), if_neg c3]
    by_cases c2 : i * 4 + p = n * 4 + 2
    · rw [if_pos (show 4 * i + p = 4 * n + 2 by omega), if_pos c2]
    · rw [if_neg (show ¬ 4 * i + p = 4 * n + 2 by omega), if_neg c2]
      by_cases c1 : i * 4 + p = n * 4 + 1
      · rw [if_pos (show 4 * i + p = 4 * n + 1 by omega), if_pos c1]
      · rw [if_neg (show ¬ 4 * i + p = 4 * n + 1 by omega), if_neg c1]
        by_cases c0 : i * 4 + p = n * 4 + 0
        · rw [if_pos (show 4 * i + p = 4 * n by omega), if_pos c0]
        · rw [if_neg (show ¬ 4 * i + p = 4 * n by omega), if_neg c0]
          exact h i (by omega) p hp
theorem rd_col {c G : Nat → Int32} {n o : Nat} {v : Int32} {K : Nat → Int32} (h : ∀ i, i < n → c i = G (i * 4 + o)) (hk : ∀ i, i < n → K (i * 4 + o) = G (i * 4 + o)) (hn : K (n * 4 + o) = v) : ∀ i, i < n + 1 → upd c n v i = K (i * 4 + o) := by
  intro i hi
  by_cases e : i = n
  · rw [e, pk_us, hn]
  · rw [pk_un e, hk i (by omega)]
    exact h i (by omega)

theorem tk_0 {f : Nat → Int32} {n a : Nat} {w2 w3 w5 w6 : Int32} {q : Nat → Nat} {G0 G1 G2 G3 : Nat → Int32} (hk : kdA f (nS f n a) (wE f n a) 0 = 0) (hc : q 0 < 7) (hz : nfl f n (wE f n a) 0 9 0 2 = 0) : tfl (TCl f n (a, w2, w3, 0, w5, w6, q, G0, G1, G2, G3)) = eF f n (npos f n (wE f n a) 2) 0 ∧ tfp (TCl f n (a, w2, w3, 0, w5, w6, q, G0, G1, G2, G3)) = eA f n (npos f n (wE f n a) 2) 0 (nfa f n (wE f n a) 0 9 0 w5 2) ∧ tpo (TCl f n (a, w2, w3, 0, w5, w6, q, G0, G1, G2, G3)) = eE f n (npos f n (wE f n a) 2) := by
  rw [tc_0 hk hc]
  refine ⟨?_, ?_, rfl⟩
  · show tcF f n (wE f n a) 0 9 2 0 = _
    unfold tcF
    rw [hz]
  · show tcA f n (wE f n a) 0 9 2 0 w5 = _
    unfold tcA
    rw [hz]
theorem tg_0 {f : Nat → Int32} {n a : Nat} {w2 w3 w5 w6 : Int32} {q : Nat → Nat} {G0 G1 G2 G3 : Nat → Int32} (hk : kdA f (nS f n a) (wE f n a) 0 = 0) (hc : q 0 < 7) (hz : ¬ nfl f n (wE f n a) 0 9 0 2 = 0) : tfl (TCl f n (a, w2, w3, 0, w5, w6, q, G0, G1, G2, G3)) = nfl f n (wE f n a) 0 9 0 2 ∧ tfp (TCl f n (a, w2, w3, 0, w5, w6, q, G0, G1, G2, G3)) = nfa f n (wE f n a) 0 9 0 w5 2 := by
  rw [tc_0 hk hc]
  refine ⟨?_, ?_⟩
  · show tcF f n (wE f n a) 0 9 2 0 = _
    unfold tcF
    exact eF_ne hz
  · show tcA f n (wE f n a) 0 9 2 0 w5 = _
    unfold tcA
    exact eA_ne hz
theorem tk_1 {f : Nat → Int32} {n a : Nat} {w2 w3 w5 w6 : Int32} {q : Nat → Nat} {G0 G1 G2 G3 : Nat → Int32} (hk : kdA f (nS f n a) (wE f n a) 0 = 1) (hc : q 1 < 7) (hz : nfl f n (wE f n a) 1 9 0 3 = 0) : tfl (TCl f n (a, w2, w3, 0, w5, w6, q, G0, G1, G2, G3)) = eF f n (npos f n (wE f n a) 3) 0 ∧ tfp (TCl f n (a, w2, w3, 0, w5, w6, q, G0, G1, G2, G3)) = eA f n (npos f n (wE f n a) 3) 0 (nfa f n (wE f n a) 1 9 0 w5 3) ∧ tpo (TCl f n (a, w2, w3, 0, w5, w6, q, G0, G1, G2, G3)) = eE f n (npos f n (wE f n a) 3) := by
  rw [tc_1 hk hc]
  refine ⟨?_, ?_, rfl⟩
  · show tcF f n (wE f n a) 1 9 3 0 = _
    unfold tcF
    rw [hz]
  · show tcA f n (wE f n a) 1 9 3 0 w5 = _
    unfold tcA
    rw [hz]
theorem tg_1 {f : Nat → Int32} {n a : Nat} {w2 w3 w5 w6 : Int32} {q : Nat → Nat} {G0 G1 G2 G3 : Nat → Int32} (hk : kdA f (nS f n a) (wE f n a) 0 = 1) (hc : q 1 < 7) (hz : ¬ nfl f n (wE f n a) 1 9 0 3 = 0) : tfl (TCl f n (a, w2, w3, 0, w5, w6, q, G0, G1, G2, G3)) = nfl f n (wE f n a) 1 9 0 3 ∧ tfp (TCl f n (a, w2, w3, 0, w5, w6, q, G0, G1, G2, G3)) = nfa f n (wE f n a) 1 9 0 w5 3 := by
  rw [tc_1 hk hc]
  refine ⟨?_, ?_⟩
  · show tcF f n (wE f n a) 1 9 3 0 = _
    unfold tcF
    exact eF_ne hz
  · show tcA f n (wE f n a) 1 9 3 0 w5 = _
    unfold tcA
    exact eA_ne hz
theorem tk_2 {f : Nat → Int32} {n a : Nat} {w2 w3 w5 w6 : Int32} {q : Nat → Nat} {G0 G1 G2 G3 : Nat → Int32} (hk : kdA f (nS f n a) (wE f n a) 0 = 2) (hc : q 2 < 20) (hz : nfl f n (wE f n a) 2 2 0 4 = 0) : tfl (TCl f n (a, w2, w3, 0, w5, w6, q, G0, G1, G2, G3)) = eF f n (npos f n (wE f n a) 4) 0 ∧ tfp (TCl f n (a, w2, w3, 0, w5, w6, q, G0, G1, G2, G3)) = eA f n (npos f n (wE f n a) 4) 0 (nfa f n (wE f n a) 2 2 0 w5 4) ∧ tpo (TCl f n (a, w2, w3, 0, w5, w6, q, G0, G1, G2, G3)) = eE f n (npos f n (wE f n a) 4) := by
  rw [tc_2 hk hc]
  refine ⟨?_, ?_, rfl⟩
  · show tcF f n (wE f n a) 2 2 4 0 = _
    unfold tcF
    rw [hz]
  · show tcA f n (wE f n a) 2 2 4 0 w5 = _
    unfold tcA
    rw [hz]
theorem tg_2 {f : Nat → Int32} {n a : Nat} {w2 w3 w5 w6 : Int32} {q : Nat → Nat} {G0 G1 G2 G3 : Nat → Int32} (hk : kdA f (nS f n a) (wE f n a) 0 = 2) (hc : q 2 < 20) (hz : ¬ nfl f n (wE f n a) 2 2 0 4 = 0) : tfl (TCl f n (a, w2, w3, 0, w5, w6, q, G0, G1, G2, G3)) = nfl f n (wE f n a) 2 2 0 4 ∧ tfp (TCl f n (a, w2, w3, 0, w5, w6, q, G0, G1, G2, G3)) = nfa f n (wE f n a) 2 2 0 w5 4 := by
  rw [tc_2 hk hc]
  refine ⟨?_, ?_⟩
  · show tcF f n (wE f n a) 2 2 4 0 = _
    unfold tcF
    exact eF_ne hz
  · show tcA f n (wE f n a) 2 2 4 0 w5 = _
    unfold tcA
    exact eA_ne hz
theorem tk_3 {f : Nat → Int32} {n a : Nat} {w2 w3 w5 w6 : Int32} {q : Nat → Nat} {G0 G1 G2 G3 : Nat → Int32} (hk : kdA f (nS f n a) (wE f n a) 0 = 3) (hc : q 3 < 3) (hz : nfl f n (wE f n a) 3 1 0 4 = 0) : tfl (TCl f n (a, w2, w3, 0, w5, w6, q, G0, G1, G2, G3)) = eF f n (npos f n (wE f n a) 4) 0 ∧ tfp (TCl f n (a, w2, w3, 0, w5, w6, q, G0, G1, G2, G3)) = eA f n (npos f n (wE f n a) 4) 0 (nfa f n (wE f n a) 3 1 0 w5 4) ∧ tpo (TCl f n (a, w2, w3, 0, w5, w6, q, G0, G1, G2, G3)) = eE f n (npos f n (wE f n a) 4) := by
  rw [tc_3 hk hc]
  refine ⟨?_, ?_, rfl⟩
  · show tcF f n (wE f n a) 3 1 4 0 = _
    unfold tcF
    rw [hz]
  · show tcA f n (wE f n a) 3 1 4 0 w5 = _
    unfold tcA
    rw [hz]
theorem tg_3 {f : Nat → Int32} {n a : Nat} {w2 w3 w5 w6 : Int32} {q : Nat → Nat} {G0 G1 G2 G3 : Nat → Int32} (hk : kdA f (nS f n a) (wE f n a) 0 = 3) (hc : q 3 < 3) (hz : ¬ nfl f n (wE f n a) 3 1 0 4 = 0) : tfl (TCl f n (a, w2, w3, 0, w5, w6, q, G0, G1, G2, G3)) = nfl f n (wE f n a) 3 1 0 4 ∧ tfp (TCl f n (a, w2, w3, 0, w5, w6, q, G0, G1, G2, G3)) = nfa f n (wE f n a) 3 1 0 w5 4 := by
  rw [tc_3 hk hc]
  refine ⟨?_, ?_⟩
  · show tcF f n (wE f n a) 3 1 4 0 = _
    unfold tcF
    exact eF_ne hz
  · show tcA f n (wE f n a) 3 1 4 0 w5 = _
    unfold tcA
    exact eA_ne hz
theorem rs_0 {f : Nat → Int32} {n a : Nat} {w2 w3 w5 w6 : Int32} {q : Nat → Nat} {G0 G1 G2 G3 : Nat → Int32} {rh rs rz rm : Nat} {c0 c1 c2 c3 c4 c5 c6 : Nat → Int32} (h : RD q G0 G1 G2 G3 rh rs rz rm c0 c1 c2 c3 c4 c5 c6) (hk : kdA f (nS f n a) (wE f n a) 0 = 0) (hc : q 0 < 7) : RDt (rh + 1) rs rz rm (upd c0 rh (nvl f n (wE f n a) 0)) (upd c1 rh (nvl f n (wE f n a) 1)) c2 c3 c4 c5 c6 (TCl f n (a, w2, w3, 0, w5, w6, q, G0, G1, G2, G3)) := by
  rw [tc_0 hk hc]
  obtain ⟨⟨e0, e1, e2, e3⟩, h0, h1, h2, h3⟩ := h
  refine ⟨⟨by rw [uN_s]; omega, by rw [uN_n (by decide)]; exact e1, by rw [uN_n (by decide)]; exact e2, by rw [uN_n (by decide)]; exact e3⟩, ?_, by rw [uN_n (by decide)]; exact h1, by rw [uN_n (by decide)]; exact h2, by rw [uN_n (by decide)]; exact h3⟩
  rw [uN_s, e0]
  have k0 := rd_col (v := (nvl f n (wE f n a) 0)) (K := nGr f n (wE f n a) (q 0) G0 2) (fun i hi => (h0 i hi).1) (fun i hi => show upd (upd G0 (q 0 * 4 + 0) _) (q 0 * 4 + 1) _ (i * 4 + 0) = _ by rw [pk_un (by omega), pk_un (by omega)]) (show upd (upd G0 (q 0 * 4 + 0) _) (q 0 * 4 + 1) _ (q 0 * 4 + 0) = _ by rw [pk_un (by omega), pk_us])
  have k1 := rd_col (v := (nvl f n (wE f n a) 1)) (K := nGr f n (wE f n a) (q 0) G0 2) (fun i hi => (h0 i hi).2) (fun i hi => show upd (upd G0 (q 0 * 4 + 0) _) (q 0 * 4 + 1) _ (i * 4 + 1) = _ by rw [pk_un (by omega), pk_un (by omega)]) (show upd (upd G0 (q 0 * 4 + 0) _) (q 0 * 4 + 1) _ (q 0 * 4 + 1) = _ by rw [pk_us])
  exact fun i hi => ⟨k0 i hi, k1 i hi⟩
theorem rs_1 {f : Nat → Int32} {n a : Nat} {w2 w3 w5 w6 : Int32} {q : Nat → Nat} {G0 G1 G2 G3 : Nat → Int32} {rh rs rz rm : Nat} {c0 c1 c2 c3 c4 c5 c6 : Nat → Int32} (h : RD q G0 G1 G2 G3 rh rs rz rm c0 c1 c2 c3 c4 c5 c6) (hk : kdA f (nS f n a) (wE f n a) 0 = 1) (hc : q 1 < 7) : RDt rh (rs + 1) rz rm c0 c1 (upd c2 rs (nvl f n (wE f n a) 0)) (upd c3 rs (nvl f n (wE f n a) 1)) (upd c4 rs (nvl f n (wE f n a) 2)) c5 c6 (TCl f n (a, w2, w3, 0, w5, w6, q, G0, G1, G2, G3)) := by
  rw [tc_1 hk hc]
  obtain ⟨⟨e0, e1, e2, e3⟩, h0, h1, h2, h3⟩ := h
  refine ⟨⟨by rw [uN_n (by decide)]; exact e0, by rw [uN_s]; omega, by rw [uN_n (by decide)]; exact e2, by rw [uN_n (by decide)]; exact e3⟩, by rw [uN_n (by decide)]; exact h0, ?_, by rw [uN_n (by decide)]; exact h2, by rw [uN_n (by decide)]; exact h3⟩
  rw [uN_s, e1]
  have k0 := rd_col (v := (nvl f n (wE f n a) 0)) (K := nGr f n (wE f n a) (q 1) G1 3) (fun i hi => (h1 i hi).1) (fun i hi => show upd (upd (upd G1 (q 1 * 4 + 0) _) (q 1 * 4 + 1) _) (q 1 * 4 + 2) _ (i * 4 + 0) = _ by rw [pk_un (by omega), pk_un (by omega), pk_un (by omega)]) (show upd (upd (upd G1 (q 1 * 4 + 0) _) (q 1 * 4 + 1) _) (q 1 * 4 + 2) _ (q 1 * 4 + 0) = _ by rw [pk_un (by omega), pk_un (by omega), pk_us])
  have k1 := rd_col (v := (nvl f n (wE f n a) 1)) (K := nGr f n (wE f n a) (q 1) G1 3) (fun i hi => (h1 i hi).2.1) (fun i hi => show upd (upd (upd G1 (q 1 * 4 + 0) _) (q 1 * 4 + 1) _) (q 1 * 4 + 2) _ (i * 4 + 1) = _ by rw [pk_un (by omega), pk_un (by omega), pk_un (by omega)]) (show upd (upd (upd G1 (q 1 * 4 + 0) _) (q 1 * 4 + 1) _) (q 1 * 4 + 2) _ (q 1 * 4 + 1) = _ by rw [pk_un (by omega), pk_us])
  have k2 := rd_col (v := (nvl f n (wE f n a) 2)) (K := nGr f n (wE f n a) (q 1) G1 3) (fun i hi => (h1 i hi).2.2) (fun i hi => show upd (upd (upd G1 (q 1 * 4 + 0) _) (q 1 * 4 + 1) _) (q 1 * 4 + 2) _ (i * 4 + 2) = _ by rw [pk_un (by omega), pk_un (by omega), pk_un (by omega)]) (show upd (upd (upd G1 (q 1 * 4 + 0) _) (q 1 * 4 + 1) _) (q 1 * 4 + 2) _ (q 1 * 4 + 2) = _ by rw [pk_us])
  exact fun i hi => ⟨k0 i hi, k1 i hi, k2 i hi⟩
theorem rs_2 {f : Nat → Int32} {n a : Nat} {w2 w3 w5 w6 : Int32} {q : Nat → Nat} {G0 G1 G2 G3 : Nat → Int32} {rh rs rz rm : Nat} {c0 c1 c2 c3 c4 c5 c6 : Nat → Int32} (h : RD q G0 G1 G2 G3 rh rs rz rm c0 c1 c2 c3 c4 c5 c6) (hk : kdA f (nS f n a) (wE f n a) 0 = 2) (hc : q 2 < 20) : RDt rh rs (rz + 1) rm c0 c1 c2 c3 c4 (upd (upd (upd (upd c5 (4 * rz) (nvl f n (wE f n a) 0)) (4 * rz + 1) (nvl f n (wE f n a) 1)) (4 * rz + 1 + 1) (nvl f n (wE f n a) 2)) (4 * rz + 3) (nvl f n (wE f n a) 3)) c6 (TCl f n (a, w2, w3, 0, w5, w6, q, G0, G1, G2, G3)) := by
  rw [tc_2 hk hc]
  obtain ⟨⟨e0, e1, e2, e3⟩, h0, h1, h2, h3⟩ := h
  refine ⟨⟨by rw [uN_n (by decide)]; exact e0, by rw [uN_n (by decide)]; exact e1, by rw [uN_s]; omega, by rw [uN_n (by decide)]; exact e3⟩, by rw [uN_n (by decide)]; exact h0, by rw [uN_n (by decide)]; exact h1, ?_, by rw [uN_n (by decide)]; exact h3⟩
  rw [uN_s, e2]
  exact rd_row h2
theorem rs_3 {f : Nat → Int32} {n a : Nat} {w2 w3 w5 w6 : Int32} {q : Nat → Nat} {G0 G1 G2 G3 : Nat → Int32} {rh rs rz rm : Nat} {c0 c1 c2 c3 c4 c5 c6 : Nat → Int32} (h : RD q G0 G1 G2 G3 rh rs rz rm c0 c1 c2 c3 c4 c5 c6) (hk : kdA f (nS f n a) (wE f n a) 0 = 3) (hc : q 3 < 3) : RDt rh rs rz (rm + 1) c0 c1 c2 c3 c4 c5 (upd (upd (upd (upd c6 (4 * rm) (nvl f n (wE f n a) 0)) (4 * rm + 1) (nvl f n (wE f n a) 1)) (4 * rm + 2) (nvl f n (wE f n a) 2)) (4 * rm + 3) (nvl f n (wE f n a) 3)) (TCl f n (a, w2, w3, 0, w5, w6, q, G0, G1, G2, G3)) := by
  rw [tc_3 hk hc]
  obtain ⟨⟨e0, e1, e2, e3⟩, h0, h1, h2, h3⟩ := h
  refine ⟨⟨by rw [uN_n (by decide)]; exact e0, by rw [uN_n (by decide)]; exact e1, by rw [uN_n (by decide)]; exact e2, by rw [uN_s]; omega⟩, by rw [uN_n (by decide)]; exact h0, by rw [uN_n (by decide)]; exact h1, by rw [uN_n (by decide)]; exact h2, ?_⟩
  rw [uN_s, e3]
  exact rd_row h3