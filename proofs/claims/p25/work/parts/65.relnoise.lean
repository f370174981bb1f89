
theorem adI_v {lf : Nat → Int32} {s9 : Nat} {v : Int32} : ∀ j x, adI lf s9 v j x = if s9 ≤ x ∧ x < s9 + j then lf x + v else lf x
  | 0, x => by rw [if_neg (by omega)]; rfl
  | j + 1, x => by
    show upd (adI lf s9 v j) (s9 + j) (adI lf s9 v j (s9 + j) + v) x = _
    by_cases h : x = s9 + j
    · rw [h, pk_us, adI_v j (s9 + j), if_neg (by omega), if_pos (by omega)]
    · rw [pk_un h, adI_v j x]
      by_cases h2 : s9 ≤ x ∧ x < s9 + j
      · rw [if_pos h2, if_pos (by omega)]
      · rw [if_neg h2, if_neg (by omega)]
theorem in_z {x lo hi : Nat} (hx : x < 2 ^ 31) (hl : lo < 2 ^ 31) (hh : hi < 2 ^ 31) : inA (nI x).toInt64 (nI lo).toInt64 (nI hi).toInt64 = 0 ↔ ¬ (lo ≤ x ∧ x ≤ hi) := by
  refine ⟨fun h q => ?_, fun h => ?_⟩
  · rcases in_eq rfl rfl h with h1 | h1
    · exact absurd ((nI_ltI hx hl).mp h1) (by omega)
    · exact absurd ((nI_ltI hh hx).mp h1) (by omega)
  · by_cases c : inA (nI x).toInt64 (nI lo).toInt64 (nI hi).toInt64 = 0
    · exact c
    · obtain ⟨h1, h2⟩ := in_ne rfl rfl c
      have h3 : ¬ x < lo := fun q => h1 ((nI_ltI hx hl).mpr q)
      have h4 : x ≤ hi := (nI_leI hx hh).mp h2
      exact absurd ⟨by omega, h4⟩ h
theorem sn_nz {lE G2 nz : Nat → Int32} {c : Nat} (hn : NBr 2 4 c G2) (hz : ∀ i, i < c → ∀ p, p < 4 → nz (4 * i + p) = G2 (i * 4 + p)) {a b : Nat} (ha : a < 4) (hb : b < 100) : ∀ i, i ≤ c → snI lE G2 i (a * 100 + b) = nzS nz (nI a) (nI b) i
  | 0, _ => by
    show fl_i lE 0 400 (a * 100 + b) = 0
    exact if_pos (by omega)
  | i + 1, h => by
    obtain ⟨s9, hs0, hs1, es⟩ := hn i (by omega) 0 (by decide)
    obtain ⟨u, hu0, hu1, eu⟩ := hn i (by omega) 1 (by decide)
    obtain ⟨w, hw0, hw1, ew⟩ := hn i (by omega) 2 (by decide)
    have hs1 : s9 ≤ 3 := hs1
    have hu1 : u ≤ 99 := hu1
    have hw1 : w ≤ 99 := hw1
    rw [← sn_s (j := w + 1 - u) hs1 hu1 hw1 rfl es eu ew, adI_v, nzS, sn_nz hn hz ha hb i (by omega)]
    have e0 : nz (4 * i) = nI s9 := (hz i (by omega) 0 (by decide)).trans es
    have e1 : nz (4 * i + 1) = nI u := (hz i (by omega) 1 (by decide)).trans eu
    have e2 : nz (4 * i + 2) = nI w := (hz i (by omega) 2 (by decide)).trans ew
    have e3 : nz (4 * i + 3) = G2 (i * 4 + 3) := hz i (by omega) 3 (by decide)
    unfold nzT
    rw [e0, e1, e2, e3]
    by_cases c1 : s9 = a
    · rw [if_pos (show nI s9 = nI a by rw [c1])]
      by_cases c2 : u ≤ b ∧ b ≤ w
      · rw [if_pos (by omega), if_neg (fun q => ((in_z (by omega) (by omega) (by omega)).mp q) c2)]
      · rw [if_neg (by omega), if_pos ((in_z (by omega) (by omega) (by omega)).mpr c2), Int32.add_zero]
    · rw [if_neg (show ¬ nI s9 = nI a from fun q => c1 ((nI_eq (by omega) (by omega)).mp q)), if_neg (by omega), Int32.add_zero]
theorem nz_0 {nz : Nat → Int32} {sw wh : Int32} : ∀ i, (∀ k, k < i → nzT nz sw wh k = 0) → nzS nz sw wh i = 0
  | 0, _ => rfl
  | i + 1, h => by rw [nzS, nz_0 i (fun k hk => h k (by omega)), h i (by omega)]; rfl
theorem noZ_eq {lE G2 nz lf : Nat → Int32} {c : Nat} (hl : lf = snI lE G2 c) (hn : NBr 2 4 c G2) (hz : ∀ i, i < c → ∀ p, p < 4 → nz (4 * i + p) = G2 (i * 4 + p)) (sw wh : Int32) : noZ lf sw wh = nzS nz sw wh c := by
  have out : (sw < 0 ∨ 4 ≤ sw ∨ wh < 0 ∨ 100 ≤ wh) → nzS nz sw wh c = 0 := by
    intro h
    refine nz_0 c (fun k hk => ?_)
    obtain ⟨s9, hs0, hs1, es⟩ := hn k hk 0 (by decide)
    obtain ⟨u, hu0, hu1, eu⟩ := hn k hk 1 (by decide)
    obtain ⟨w, hw0, hw1, ew⟩ := hn k hk 2 (by decide)
    have hs1 : s9 ≤ 3 := hs1
    have hu1 : u ≤ 99 := hu1
    have hw1 : w ≤ 99 := hw1
    unfold nzT
    have e0 : nz (4 * k) = nI s9 := (hz k hk 0 (by decide)).trans es
    have e1 : nz (4 * k + 1) = nI u := (hz k hk 1 (by decide)).trans eu
    have e2 : nz (4 * k + 2) = nI w := (hz k hk 2 (by decide)).trans ew
    rw [e0, e1, e2]
    by_cases c1 : nI s9 = sw
    · rw [if_pos c1]
      refine if_pos ?_
      by_cases c2 : inA wh.toInt64 (nI u).toInt64 (nI w).toInt64 = 0
      · exact c2
      · exfalso
        obtain ⟨h1, h2⟩ := in_ne rfl rfl c2
        have h0 : ¬ wh < 0 := fun q => h1 (Int32.lt_of_lt_of_le q (nI_pos' (by omega)))
        obtain ⟨x, hx, rfl⟩ := nI_of h0
        have h3 := (nI_leI hx (by omega)).mp h2
        rw [← c1] at h
        rcases h with h | h | h | h
        · exact absurd h (nI_pos (by omega))
        · exact absurd ((nI_leI (a := 4) (by decide) (by omega)).mp h) (by omega)
        · exact h0 h
        · exact absurd ((nI_leI (a := 100) (by decide) hx).mp h) (by omega)
    · exact if_neg c1
  unfold noZ
  by_cases c1 : sw < 0
  · rw [if_pos c1]; exact (out (Or.inl c1)).symm
  · rw [if_neg c1]
    by_cases c2 : 4 ≤ sw
    · rw [if_pos c2]; exact (out (Or.inr (Or.inl c2))).symm
    · rw [if_neg c2]
      by_cases c3 : wh < 0
      · rw [if_pos c3]; exact (out (Or.inr (Or.inr (Or.inl c3)))).symm
      · rw [if_neg c3]
        by_cases c4 : 100 ≤ wh
        · rw [if_pos c4]; exact (out (Or.inr (Or.inr (Or.inr c4)))).symm
        · rw [if_neg c4]
          obtain ⟨a, ha, rfl⟩ := nI_of c1
          obtain ⟨b, hb, rfl⟩ := nI_of c3
          have ha4 : a < 4 := Nat.not_le.mp (fun q => c2 (nI_le (a := 4) q ha))
          have hb4 : b < 100 := Nat.not_le.mp (fun q => c4 (nI_le (a := 100) q hb))
          have e : nI a * 100 + nI b = nI (a * 100 + b) := by rw [← nI_add, ← pk_mul]; rfl
          rw [e, nI_clamp (n := a * 100 + b) (by omega), hl]
          exact sn_nz hn hz ha4 hb4 c (Nat.le_refl _)
theorem wk_eq {lf nz : Nat → Int32} {c : Nat} (h : ∀ sw wh, noZ lf sw wh = nzS nz sw wh c) (a b l : Int32) : wkA lf a b l = wkM nz c a b l := by
  unfold wkA wkM
  rw [h]
theorem i34 {a : Int32} : inA a.toInt64 0 3 = 0 ↔ (a < 0 ∨ 4 ≤ a) := by
  refine ⟨fun h => ?_, fun h => ?_⟩
  · by_cases c : a < 0
    · exact Or.inl c
    · have h1 := (in_eq (a := 0) (b := 3) rfl rfl h).resolve_left c
      obtain ⟨x, hx, rfl⟩ := nI_of c
      exact Or.inr (nI_le (a := 4) ((nI_ltI (a := 3) (by decide) hx).mp h1) hx)
  · by_cases c : inA a.toInt64 0 3 = 0
    · exact c
    · obtain ⟨h1, h2⟩ := in_ne (a := 0) (b := 3) rfl rfl c
      obtain ⟨x, hx, rfl⟩ := nI_of h1
      have h3 := (nI_leI (b := 3) hx (by decide)).mp h2
      exact absurd ((nI_leI (a := 4) (by decide) hx).mp (h.resolve_left h1)) (by omega)
theorem i999 {a : Int32} {hi : Nat} {H : Int64} (hH : (nI hi).toInt64 = H) (hh : hi < 2 ^ 31) : inA a.toInt64 0 H = 0 ↔ (a < 0 ∨ nI hi < a) := by
  refine ⟨fun h => in_eq (a := 0) (b := nI hi) rfl hH h, fun h => ?_⟩
  by_cases c : inA a.toInt64 0 H = 0
  · exact c
  · obtain ⟨h1, h2⟩ := in_ne (a := 0) (b := nI hi) rfl hH c
    exact h.elim (fun q => absurd q h1) (fun q => absurd h2 (Int32.not_le.mpr q))
theorem ns_eq {lf nz : Nat → Int32} {c : Nat} (h : ∀ sw wh, noZ lf sw wh = nzS nz sw wh c) (a b : Int32) : nsA lf a b = nsM nz c a b := by
  unfold nsA nsM
  by_cases c1 : inA a.toInt64 0 3 = 0
  · rw [if_pos c1, if_pos]
    rcases i34.mp c1 with q | q
    · exact Or.inl q
    · exact Or.inr (Or.inl q)
  · rw [if_neg c1]
    by_cases c2 : inA b.toInt64 0 999 = 0
    · rw [if_pos c2, if_pos]
      exact Or.inr (Or.inr ((i999 (hi := 999) rfl (by decide)).mp c2))
    · rw [if_neg c2, if_neg]
      · exact h a b
      · intro q
        rcases q with q | q | q
        · exact c1 (i34.mpr (Or.inl q))
        · exact c1 (i34.mpr (Or.inr q))
        · exact c2 ((i999 (hi := 999) rfl (by decide)).mpr q)
theorem sl_b : ∀ x, x < 128 → ∀ j, j < 7 → ∀ a, a < 7 → ((inS (nI (x ||| 2 ^ j)) (nI a) = 0) ↔ (inS (nI x) (nI a) = 0 ∧ ¬ j = a)) := by decide +kernel
theorem in0 : ∀ a, a < 7 → inS (nI 0) (nI a) = 0 := by decide +kernel
theorem or_S {g : Nat → Int32} {v : Nat → Nat} : ∀ k, (∀ i, i < k → v i < 7 ∧ g i = nI (v i)) → ∃ o : Nat, o < 128 ∧ orS g k = nI o ∧ ∀ a, a < 7 → (inS (nI o) (nI a) = 0 ↔ ∀ i, i < k → ¬ v i = a)
  | 0, _ => ⟨0, by decide, rfl, fun a ha => ⟨fun _ i hi => absurd hi (Nat.not_lt_zero i), fun _ => in0 a ha⟩⟩
  | k + 1, h => by
    obtain ⟨o, ho, eo, hq⟩ := or_S k (fun i hi => h i (by omega))
    obtain ⟨hv, ev⟩ := h k (by omega)
    have en := or_n o ho (v k) (by omega)
    refine ⟨o ||| 2 ^ v k, en.2, ?_, fun a ha => ?_⟩
    · rw [orS, eo, ev]
      exact en.1
    · rw [sl_b o ho (v k) hv a ha, hq a ha]
      refine ⟨fun q i hi => ?_, fun q => ⟨fun i hi => q i (by omega), q k (by omega)⟩⟩
      by_cases e : i = k
      · rw [e]; exact q.2
      · exact q.1 i (by omega)
theorem rg_iff {b : Int32} {kw kh : Nat → Int32} {kq : Nat} : ∀ i, (¬ rgI b kw kh kq i = 0) ↔ (¬ b = 0 ∧ ∀ j, j < i → ¬ kw j = kw kq ∧ ¬ kh j = kh kq)
  | 0 => ⟨fun h => ⟨h, fun j hj => absurd hj (Nat.not_lt_zero j)⟩, fun h => h.1⟩
  | i + 1 => by
    have ih := rg_iff (b := b) (kw := kw) (kh := kh) (kq := kq) i
    rw [rgI]
    by_cases c0 : rgI b kw kh kq i = 0
    · rw [if_pos c0]
      refine ⟨fun h => absurd rfl h, fun h => ?_⟩
      exact absurd c0 (ih.mpr ⟨h.1, fun j hj => h.2 j (by omega)⟩)
    · rw [if_neg c0]
      have hi := ih.mp c0
      by_cases c1 : kw i = kw kq
      · rw [if_pos c1]
        exact ⟨fun h => absurd rfl h, fun h => absurd c1 (h.2 i (by omega)).1⟩
      · rw [if_neg c1]
        by_cases c2 : kh i = kh kq
        · rw [if_pos c2]
          exact ⟨fun h => absurd rfl h, fun h => absurd c2 (h.2 i (by omega)).2⟩
        · rw [if_neg c2]
          refine ⟨fun _ => ⟨hi.1, fun j hj => ?_⟩, fun _ => by decide⟩
          by_cases e : j = i
          · rw [e]; exact ⟨c1, c2⟩
          · exact hi.2 j (by omega)
theorem rn_cg {p r : Nat → Bool} {n : Nat} : ∀ (d a : Nat), n - a = d → (∀ j, j < n → p j = r j) → rn p n a = rn r n a
  | 0, a, hd, _ => by rw [rn_stop (p := p) (a := a) (fun h => by have := h.1; omega), rn_stop (p := r) (a := a) (fun h => by have := h.1; omega)]
  | d + 1, a, hd, h => by
    by_cases hp : p a = true
    · rw [rn_step (p := p) (a := a) (by omega) hp, rn_step (p := r) (a := a) (by omega) (by rw [← h a (by omega)]; exact hp)]
      exact rn_cg d (a + 1) (by omega) h
    · rw [rn_stop (p := p) (a := a) (fun q => hp q.2), rn_stop (p := r) (a := a) (fun q => hp (by rw [h a (by omega)]; exact q.2))]
theorem fw_ir {q : Nat → Nat} {G0 G1 G2 G3 lf nz mt bd bs bh t0 t1 t2 t3 t4 : Nat → Int32} {ho sp np mp b mm : Nat} (hR : RD q G0 G1 G2 G3 ho sp np mp t0 t1 t2 t3 t4 nz mt) (hq0 : q 0 ≤ 7) (hq1 : q 1 ≤ 7) (hq3 : q 3 ≤ 3) (hw : ∀ a b l, wkA lf a b l = wkM nz np a b l) (hB : ∀ j, j < b → ∃ a c : Nat, a < q 1 ∧ c < q 0 ∧ bs j = nI a ∧ bh j = nI c) (hmm : mm < q 3) {k : Nat} (hk : k < b) : fwB q G0 G1 lf bd bs bh (pt (q 3) G3 (nI mm) 0) k = jdP bd bs bh mt nz np t0 t2 mm k := by
  have hv : ∀ i, i < b → cl9 (bs i) < q 1 ∧ bs i = nI (cl9 (bs i)) := fun i hi => by
    obtain ⟨a, c, h1, h2, e1, e2⟩ := hB i hi
    rw [e1, cl_n (by omega)]
    exact ⟨h1, rfl⟩
  have hu : ∀ i, i < b → cl9 (bh i) < q 0 ∧ bh i = nI (cl9 (bh i)) := fun i hi => by
    obtain ⟨a, c, h1, h2, e1, e2⟩ := hB i hi
    rw [e2, cl_n (by omega)]
    exact ⟨h2, rfl⟩
  have ef : pt (q 3) G3 (nI mm) 0 = mt (4 * mm) := by
    rw [pt_in hmm (by omega)]
    exact (hR.2.2.2.2 mm hmm 0 (by decide)).symm
  have A1 : itB (pt (q 3) G3 (nI mm) 0) bd k = true ↔ ¬ rgB bd mt mm k = 0 := by
    rw [ef]
    unfold itB rgB
    by_cases c : k = 0
    · rw [if_pos c, if_pos c, decide_eq_true_eq]
      by_cases c2 : bd 0 < mt (4 * mm)
      · rw [if_pos c2]
        exact ⟨fun h => absurd h (Int32.not_le.mpr c2), fun h => absurd rfl h⟩
      · rw [if_neg c2]
        exact ⟨fun _ => by decide, fun _ => Int32.not_lt.mp c2⟩
    · rw [if_neg c, if_neg c, decide_eq_true_eq]
      by_cases c2 : bd k = bd (k - 1) + 1
      · rw [if_pos c2]
        exact ⟨fun _ => by decide, fun _ => c2⟩
      · rw [if_neg c2]
        exact ⟨fun h => absurd h c2, fun h => absurd rfl h⟩
  have A2 : nwB bs bh k = true ↔ ∀ j, j < k → ¬ bs j = bs k ∧ ¬ bh j = bh k := by
    obtain ⟨o, ho9, eo, hqo⟩ := or_S (g := bs) (v := fun i => cl9 (bs i)) k (fun i hi => ⟨by have := (hv i (by omega)).1; show cl9 (bs i) < 7; omega, (hv i (by omega)).2⟩)
    obtain ⟨o2, ho2, eo2, hq2⟩ := or_S (g := bh) (v := fun i => cl9 (bh i)) k (fun i hi => ⟨by have := (hu i (by omega)).1; show cl9 (bh i) < 7; omega, (hu i (by omega)).2⟩)
    unfold nwB
    rw [Bool.and_eq_true, decide_eq_true_eq, decide_eq_true_eq, eo, eo2]
    have g1 := hqo (cl9 (bs k)) (by have := (hv k hk).1; omega)
    have g2 := hq2 (cl9 (bh k)) (by have := (hu k hk).1; omega)
    rw [← (hv k hk).2] at g1
    rw [← (hu k hk).2] at g2
    rw [g1, g2]
    refine ⟨fun h j hj => ⟨fun e => h.1 j hj (by show cl9 (bs j) = cl9 (bs k); rw [e]), fun e => h.2 j hj (by show cl9 (bh j) = cl9 (bh k); rw [e])⟩, fun h => ⟨fun j hj e => (h j hj).1 ?_, fun j hj e => (h j hj).2 ?_⟩⟩
    · rw [(hv j (by omega)).2, (hv k hk).2]
      exact congrArg nI e
    · rw [(hu j (by omega)).2, (hu k hk).2]
      exact congrArg nI e
  have A3 : wkA lf (pt (q 0) G0 (bh k) 0) (bd k) (pt (q 1) G1 (bs k) 0) = wkM nz np (t0 (cl9 (bh k))) (bd k) (t2 (cl9 (bs k))) := by
    have e1 : pt (q 0) G0 (bh k) 0 = t0 (cl9 (bh k)) := by
      obtain ⟨h1, h2⟩ := hu k hk
      rw [h2, pt_in h1 (by omega), cl_n (by omega)]
      exact (hR.2.1 _ h1).1.symm
    have e2 : pt (q 1) G1 (bs k) 0 = t2 (cl9 (bs k)) := by
      obtain ⟨h1, h2⟩ := hv k hk
      rw [h2, pt_in h1 (by omega), cl_n (by omega)]
      exact (hR.2.2.1 _ h1).1.symm
    rw [e1, e2]
    exact hw _ _ _
  have A4 : (¬ irA bd bs bh mt nz np t0 t2 mm k = 0) ↔ (¬ rgI (rgB bd mt mm k) bs bh k k = 0) ∧ wkM nz np (t0 (cl9 (bh k))) (bd k) (t2 (cl9 (bs k))) = 0 := by
    unfold irA
    by_cases c1 : rgI (rgB bd mt mm k) bs bh k k = 0
    · rw [if_pos c1]
      exact ⟨fun h => absurd rfl h, fun h => absurd c1 h.1⟩
    · rw [if_neg c1]
      by_cases c2 : wkM nz np (t0 (cl9 (bh k))) (bd k) (t2 (cl9 (bs k))) = 0
      · rw [if_pos c2]
        exact ⟨fun _ => ⟨c1, c2⟩, fun _ => by decide⟩
      · rw [if_neg c2]
        exact ⟨fun h => absurd rfl h, fun h => absurd h.2 c2⟩
  rw [Bool.eq_iff_iff]
  unfold fwB jdP
  rw [Bool.and_eq_true, Bool.and_eq_true, decide_eq_true_eq, Bool.not_eq_true', decide_eq_false_iff_not, A4, rg_iff, A1, A2, A3]
theorem jd_eq {q : Nat → Nat} {G0 G1 G2 G3 lf nz mt bd bs bh t0 t1 t2 t3 t4 : Nat → Int32} {ho sp np mp b : Nat} {ia : Int32} (hR : RD q G0 G1 G2 G3 ho sp np mp t0 t1 t2 t3 t4 nz mt) (hq0 : q 0 ≤ 7) (hq1 : q 1 ≤ 7) (hq3 : q 3 ≤ 3) (hw : ∀ a b l, wkA lf a b l = wkM nz np a b l) (hB : ∀ j, j < b → ∃ a c : Nat, a < q 1 ∧ c < q 0 ∧ bs j = nI a ∧ bh j = nI c) : jdA (q 3) (fwR q G0 G1 lf bd bs bh (pt (q 3) G3 ia 0) b) ia = jdM mp b (jdP bd bs bh mt nz np t0 t2 ia.toNatClampNeg) ia := by
  unfold jdA jdM
  rw [hR.1.2.2.2, is_hs (by omega)]
  by_cases c : hs (q 3) ia = 0
  · rw [if_pos c, if_pos c]
  · rw [if_neg c, if_neg c]
    obtain ⟨m, hm, rfl⟩ := hs_ne (by omega) c
    rw [nI_clamp (n := m) (by omega)]
    have e : ∀ i, fwE q G0 G1 lf bd bs bh (pt (q 3) G3 (nI m) 0) b i = rn (jdP bd bs bh mt nz np t0 t2 m) b i := fun i => rn_cg _ i rfl (fun j hj => fw_ir hR hq0 hq1 hq3 hw hB hm hj)
    unfold fwR
    rw [e 0]
theorem fcI_v {q : Nat → Nat} {G0 G1 lf cf : Nat → Int32} {d : Nat} : ∀ j x, fcI q G0 G1 lf cf d j x = if d * 7 ≤ x ∧ x < d * 7 + j then clS q G0 G1 lf d (x - d * 7) (q 0) else cf x
  | 0, x => by rw [if_neg (by omega)]; rfl
  | j + 1, x => by
    show upd (fcI q G0 G1 lf cf d j) (d * 7 + j) (clS q G0 G1 lf d j (q 0)) x = _
    by_cases h : x = d * 7 + j
    · rw [h, pk_us, if_pos (by omega), Nat.add_sub_cancel_left]
    · rw [pk_un h, fcI_v j x]
      by_cases h2 : d * 7 ≤ x ∧ x < d * 7 + j
      · rw [if_pos h2, if_pos (by omega)]
      · rw [if_neg h2, if_neg (by omega)]
theorem fcO_v {q : Nat → Nat} {G0 G1 lf cf : Nat → Int32} (h1 : q 1 ≤ 7) {d s9 : Nat} (hs9 : s9 < q 1) : ∀ D, d < D → fcO q G0 G1 lf cf D (d * 7 + s9) = clS q G0 G1 lf d s9 (q 0)
  | 0, h => absurd h (Nat.not_lt_zero _)
  | D + 1, h => by
    show fcI q G0 G1 lf (fcO q G0 G1 lf cf D) D (q 1) (d * 7 + s9) = _
    rw [fcI_v]
    by_cases e : d = D
    · rw [if_pos (by omega), e, Nat.add_sub_cancel_left]
    · rw [if_neg (by omega)]
      exact fcO_v h1 hs9 D (by omega)
theorem cl_S {q : Nat → Nat} {G0 G1 lf : Nat → Int32} {d s9 : Nat} : ∀ j, j ≤ 7 → ∃ o : Nat, o < 128 ∧ clS q G0 G1 lf d s9 j = nI o ∧ ∀ a, a < 7 → (inS (nI o) (nI a) = 0 ↔ ¬ (a < j ∧ wkA lf (pt (q 0) G0 (nI a) 0) (nI d) (pt (q 1) G1 (nI s9) 0) = 0))
  | 0, _ => ⟨0, by decide, rfl, fun a ha => ⟨fun _ h => absurd h.1 (Nat.not_lt_zero a), fun _ => in0 a ha⟩⟩
  | j + 1, hj => by
    obtain ⟨o, ho, eo, hq⟩ := cl_S (q := q) (G0 := G0) (G1 := G1) (lf := lf) (d := d) (s9 := s9) j (by omega)
    by_cases c : wkA lf (pt (q 0) G0 (nI j) 0) (nI d) (pt (q 1) G1 (nI s9) 0) = 0
    · have en := or_n o ho j (by omega)
      refine ⟨o ||| 2 ^ j, en.2, ?_, fun a ha => ?_⟩
      · rw [clS, if_pos c, eo]
        exact en.1
      · rw [sl_b o ho j (by omega) a ha, hq a ha]
        refine ⟨fun h q9 => ?_, fun h => ⟨fun q9 => h ⟨by omega, q9.2⟩, fun e => h ⟨by omega, by rw [← e]; exact c⟩⟩⟩
        exact h.1 ⟨by have := h.2; omega, q9.2⟩
    · refine ⟨o, ho, by rw [clS, if_neg c]; exact eo, fun a ha => ?_⟩
      rw [hq a ha]
      refine ⟨fun h q9 => ?_, fun h q9 => h ⟨by omega, q9.2⟩⟩
      by_cases e : a = j
      · rw [e] at q9; exact c q9.2
      · exact h ⟨by omega, q9.2⟩
theorem bd_ls {G0 t1 wk : Nat → Int32} {st : Int32} {n : Nat} (hb : ∀ a, a < n → (inS st (nI a) = 0 ↔ ¬ wk a = 0)) (ht : ∀ a, a < n → t1 a = G0 (a * 4 + 1)) : ∀ j, j ≤ n → bdS G0 st j = lsS wk t1 j
  | 0, _ => rfl
  | j + 1, h => by
    rw [bdS, lsS, bd_ls hb ht j (by omega), ht j (by omega)]
    by_cases c : wk j = 0
    · rw [if_neg (fun q => ((hb j (by omega)).mp q) c), if_pos c]
    · rw [if_pos ((hb j (by omega)).mpr c), if_neg c]
theorem rm_ls {G0 t1 wk : Nat → Int32} {st : Int32} {n : Nat} (hn : n ≤ 7) (hb : ∀ a, a < n → (inS st (nI a) = 0 ↔ ¬ wk a = 0)) (ht : ∀ a, a < n → t1 a = G0 (a * 4 + 1)) (hp : ∀ a, a < n → ¬ G0 (a * 4 + 1) ≤ 0) : ∀ j, j ≤ n → rmS n G0 st j = lsB wk t1 j
  | 0, _ => rfl
  | j + 1, h => by
    have ih := rm_ls hn hb ht hp j (by omega)
    rw [rmS, lsB, ih]
    by_cases c : wk j = 0
    · rw [if_neg (fun q => ((hb j (by omega)).mp q) c), if_pos c]
      rcases lsB_b wk t1 j with e | ⟨a, ha, e⟩
      · rw [e, if_pos (show (-1 : Int32) < 0 by decide), if_neg]
        exact hp j (by omega)
      · rw [e, if_neg (nI_pos (by omega)), pt_in (by omega) (by omega), nI_clamp (n := a) (by omega), ht j (by omega), ht a (by omega)]
    · rw [if_pos ((hb j (by omega)).mpr c), if_neg c]
theorem lt_eq {q : Nat → Nat} {G0 G1 G2 G3 lf cf cE nz mt t0 t1 t2 t3 t4 : Nat → Int32} {ho sp np mp : Nat} {ia ib ic : Int32} (hR : RD q G0 G1 G2 G3 ho sp np mp t0 t1 t2 t3 t4 nz mt) (hN : NBr 0 2 (q 0) G0) (hq0 : q 0 ≤ 7) (hq1 : q 1 ≤ 7) (hw : ∀ a b l, wkA lf a b l = wkM nz np a b l) (hc : cf = fcO q G0 G1 lf cE 100) : ltA (q 1) (q 0) G0 (chA (q 1) cf ia ib) ia ib ic = ltM sp ho (fun h9 => wkM nz np (t0 h9) ib (t2 ia.toNatClampNeg)) t1 ia ib ic := by
  unfold ltA ltM
  rw [hR.1.2.1, hR.1.1, is_hs (by omega)]
  by_cases c : hs (q 1) ia = 0
  · rw [if_pos c, if_pos c]
  · rw [if_neg c, if_neg c]
    by_cases c1 : inA ib.toInt64 0 99 = 0
    · rw [if_pos c1, if_pos]
      rcases (i999 (hi := 99) rfl (by decide)).mp c1 with h | h
      · exact Or.inl h
      · exact Or.inr (Or.inl h)
    · rw [if_neg c1]
      by_cases c2 : inA ic.toInt64 0 1 = 0
      · rw [if_pos c2, if_pos]
        rcases (i999 (hi := 1) rfl (by decide)).mp c2 with h | h
        · exact Or.inr (Or.inr (Or.inl h))
        · exact Or.inr (Or.inr (Or.inr h))
      · rw [if_neg c2, if_neg]
        · obtain ⟨s9, hs9, rfl⟩ := hs_ne (by omega) c
          obtain ⟨h1, h2⟩ := in_ne (a := 0) (b := 99) rfl rfl c1
          obtain ⟨d, hd, rfl⟩ := nI_of h1
          have hd9 : d ≤ 99 := (nI_leI (b := 99) hd (by decide)).mp h2
          have ech : chA (q 1) cf (nI s9) (nI d) = clS q G0 G1 lf d s9 (q 0) := by
            unfold chA
            rw [if_neg c, if_neg h1, if_neg (show ¬ (100 : Int32) ≤ nI d from fun q9 => absurd ((nI_leI (a := 100) (by decide) hd).mp q9) (by omega))]
            have e : nI d * 7 + nI s9 = nI (d * 7 + s9) := by rw [← nI_add, ← pk_mul]; rfl
            rw [e, nI_clamp (n := d * 7 + s9) (by omega), hc]
            exact fcO_v hq1 hs9 100 (by omega)
          obtain ⟨o, ho9, eo, hb⟩ := cl_S (q := q) (G0 := G0) (G1 := G1) (lf := lf) (d := d) (s9 := s9) (q 0) hq0
          have hbits : ∀ a, a < q 0 → (inS (clS q G0 G1 lf d s9 (q 0)) (nI a) = 0 ↔ ¬ (fun h9 => wkM nz np (t0 h9) (nI d) (t2 s9)) a = 0) := by
            intro a ha
            show _ ↔ ¬ wkM nz np (t0 a) (nI d) (t2 s9) = 0
            rw [eo, hb a (by omega), pt_in ha (by omega), pt_in hs9 (by omega), hw, (hR.2.1 a ha).1, (hR.2.2.1 s9 hs9).1]
            exact ⟨fun h q9 => h ⟨ha, q9⟩, fun h q9 => h q9.2⟩
          have ht : ∀ a, a < q 0 → t1 a = G0 (a * 4 + 1) := fun a ha => (hR.2.1 a ha).2
          have hp : ∀ a, a < q 0 → ¬ G0 (a * 4 + 1) ≤ 0 := by
            intro a ha
            obtain ⟨v, hv1, hv2, ev⟩ := hN a ha 1 (by decide)
            have hv1 : 1 ≤ v := hv1
            have hv2 : v ≤ 4 := hv2
            rw [ev]
            intro q9
            exact absurd ((nI_leI (b := 0) (by omega) (by decide)).mp q9) (by omega)
          rw [ech, nI_clamp (n := s9) (by omega)]
          by_cases c3 : ic = 0
          · rw [if_pos c3, if_pos c3]
            exact bd_ls hbits ht (q 0) (Nat.le_refl _)
          · rw [if_neg c3, if_neg c3]
            exact rm_ls hq0 hbits ht hp (q 0) (Nat.le_refl _)
        · intro q9
          rcases q9 with q9 | q9 | q9 | q9
          · exact c1 ((i999 (hi := 99) rfl (by decide)).mpr (Or.inl q9))
          · exact c1 ((i999 (hi := 99) rfl (by decide)).mpr (Or.inr q9))
          · exact c2 ((i999 (hi := 1) rfl (by decide)).mpr (Or.inl q9))
          · exact c2 ((i999 (hi := 1) rfl (by decide)).mpr (Or.inr q9))
