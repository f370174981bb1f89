
theorem tb_S : ∀ o, o < 128 → ∀ h, h < 7 → (o.testBit h = true ↔ ¬ inS (nI o) (nI h) = 0) := by decide +kernel
theorem hsA_0 : ∀ s, s < 7 → hsA 0 (nI s) = 0 := by decide +kernel
section
variable {q : Nat → Nat} {G0 G1 G2 G3 lf cf cE t0 t1 t2 t3 t4 nz mt bu tk : Nat → Int32} {ho sp np mp dy : Nat} {ia ib r1 r2 : Int32}
theorem CFB_f (hq0 : q 0 ≤ 7) (hq1 : q 1 ≤ 7) (e : cf = fcO q G0 G1 lf cE 100) : CFB (q 1) cf := fun d s hd hs => by
  rw [e, fcO_v hq1 hs 100 hd]
  obtain ⟨o, ho, eo, -⟩ := cl_S (q := q) (G0 := G0) (G1 := G1) (lf := lf) (d := d) (s9 := s) (q 0) hq0
  exact ⟨o, ho, eo⟩
theorem ok_ms (hR : RD q G0 G1 G2 G3 ho sp np mp t0 t1 t2 t3 t4 nz mt) (hN : NBr 0 2 (q 0) G0) (hq0 : q 0 ≤ 7) (hq1 : q 1 ≤ 7) (hw : ∀ a b l, wkA lf a b l = wkM nz np a b l) (e : cf = fcO q G0 G1 lf cE 100) (hZ : ZB bu tk 100 0) {d k s h : Nat} (hd : d < 100) (hs : s < 7) (hh : h < 7) : okE (q 1) cf d k s h = true ↔ s < q 1 ∧ h < q 0 ∧ msB bu tk t1 (wkF nz np t0 t2) (d - k) s h = true := by
  unfold okE chE
  by_cases c : s < q 1
  · rw [if_pos c, e, fcO_v hq1 c 100 (by omega)]
    obtain ⟨o, ho, eo, hq⟩ := cl_S (q := q) (G0 := G0) (G1 := G1) (lf := lf) (d := d - k) (s9 := s) (q 0) hq0
    rw [eo, nI_clamp (by omega), tb_S o ho h hh, hq h hh]
    have nn : ∀ p : Prop, ¬ ¬ p ↔ p := fun p => ⟨fun w => Classical.byContradiction w, fun w k => k w⟩
    rw [nn]
    refine ⟨fun w => ⟨c, w.1, ?_⟩, fun w => ⟨w.2.1, ?_⟩⟩
    · have p0 : pt (q 0) G0 (nI h) 0 = t0 h := (pt_in w.1 (by omega)).trans (hR.2.1 h w.1).1.symm
      have p1 : pt (q 1) G1 (nI s) 0 = t2 s := (pt_in c (by omega)).trans (hR.2.2.1 s c).1.symm
      have w2 := w.2
      rw [p0, p1, hw] at w2
      obtain ⟨v, hv1, hv, ev⟩ := hN h w.1 1 (by decide)
      have hv1 : 1 ≤ v := hv1
      have hv : v ≤ 4 := hv
      refine decide_eq_true ?_
      unfold msA
      rw [hZ.1 (d - k) (by omega), if_neg (show ¬ ¬ hsA 0 (nI s) = 0 from fun w => w (hsA_0 s hs)), hZ.2 (d - k) h hh (Or.inl (by omega)), (hR.2.1 h w.1).2, ev, if_neg (nI_nle (by omega) (by omega))]
      exact if_pos w2
    · have p0 : pt (q 0) G0 (nI h) 0 = t0 h := (pt_in w.2.1 (by omega)).trans (hR.2.1 h w.2.1).1.symm
      have p1 : pt (q 1) G1 (nI s) 0 = t2 s := (pt_in c (by omega)).trans (hR.2.2.1 s c).1.symm
      rw [p0, p1, hw]
      have m := of_decide_eq_true w.2.2
      unfold msA at m
      by_cases g1 : ¬ hsA (bu (d - k)) (nI s) = 0
      · rw [if_pos g1] at m; exact absurd m (by decide)
      · rw [if_neg g1] at m
        by_cases g2 : t1 h ≤ tk (7 * (d - k) + h)
        · rw [if_pos g2] at m; exact absurd m (by decide)
        · rw [if_neg g2] at m
          by_cases g3 : wkF nz np t0 t2 (d - k) s h = 0
          · exact g3
          · rw [if_neg g3] at m; exact absurd m (by decide)
  · rw [if_neg c]
    exact ⟨fun w => by rw [show (0 : Int32).toNatClampNeg = 0 from rfl, Nat.zero_testBit] at w; exact absurd w (by decide), fun w => absurd w.1 c⟩
/-- a row that ends is a row that begins -/
theorem LE_FS (hR : RD q G0 G1 G2 G3 ho sp np mp t0 t1 t2 t3 t4 nz mt) (hN : NBr 0 2 (q 0) G0) (hq0 : q 0 ≤ 7) (hq1 : q 1 ≤ 7) (hw : ∀ a b l, wkA lf a b l = wkM nz np a b l) (e : cf = fcO q G0 G1 lf cE 100) (hZ : ZB bu tk 100 0) {d n g : Nat} (hd : d < 100) (hg : g + n = d + 1) : LE (q 1) cf d n ↔ FS (msB bu tk t1 (wkF nz np t0 t2)) (q 1) (q 0) n g 0 0 := by
  rw [FB hq1 hq0 n g 0 0 hg (fun k s h _ hs hh => ok_ms hR hN hq0 hq1 hw e hZ hd hs hh)]
  unfold LE
  exact ⟨fun ⟨w, x, b⟩ => ⟨w, x, b, fun i k => by rw [Nat.zero_testBit] at k; exact absurd k.2 (by decide), fun i k => by rw [Nat.zero_testBit] at k; exact absurd k.2 (by decide)⟩, fun ⟨w, x, b, _⟩ => ⟨w, x, b⟩⟩
theorem BS_lt {ok : Nat → Nat → Nat → Bool} {A B : Nat} (hk : ∀ k s h, s < 7 → h < 7 → ok k s h = true → s < A ∧ h < B) : ∀ {n w x}, BS ok n w x → w < 2 ^ A ∧ x < 2 ^ B ∧ bcn x = n
  | 0, w, x, h => by rw [h.1, h.2]; exact ⟨Nat.two_pow_pos A, Nat.two_pow_pos B, bcn0z⟩
  | n + 1, w, x, ⟨w0, x0, s, t, a1, a2, a3, a4, a5, a6, a7, a8, a9, b1⟩ => by
    obtain ⟨i1, i2, i3⟩ := BS_lt hk b1
    obtain ⟨k1, k2⟩ := hk n s t a3 a4 a9
    rw [a7, a8, (or_b x0 a2 t a4 a6).1, i3]
    exact ⟨Nat.or_lt_two_pow i1 (Nat.pow_lt_pow_right (by decide) k1), Nat.or_lt_two_pow i2 (Nat.pow_lt_pow_right (by decide) k2), rfl⟩
theorem bcn_lt : ∀ A, A ≤ 7 → ∀ w, w < 2 ^ A → bcn w ≤ A := by decide +kernel
theorem LE_en (hq0 : q 0 ≤ 7) (hq1 : q 1 ≤ 7) (hk : ∀ k s h, s < 7 → h < 7 → okE (q 1) cf dy k s h = true → s < q 1 ∧ h < q 0) {n : Nat} (h : LE (q 1) cf dy n) : n ≤ q 1 ∧ n ≤ q 0 := by
  obtain ⟨w, x, b⟩ := h
  obtain ⟨i1, i2, i3⟩ := BS_lt hk b
  have j1 := bcn_lt (q 1) hq1 w i1
  have j2 := bcn_lt (q 0) hq0 x i2
  rw [(BS_b b).1] at j1
  rw [i3] at j2
  exact ⟨j1, j2⟩
theorem tr_eq (hR : RD q G0 G1 G2 G3 ho sp np mp t0 t1 t2 t3 t4 nz mt) (hN : NBr 0 2 (q 0) G0) (hq0 : q 0 ≤ 7) (hq1 : q 1 ≤ 7) (hq3 : q 3 ≤ 3) (hw : ∀ a b l, wkA lf a b l = wkM nz np a b l) (e : cf = fcO q G0 G1 lf cE 100) (hx : TRs q G3 cf dy ia ib r1) (hm : TRm (q 3) (q 1) (q 0) dy mt t1 bu tk (wkF nz np t0 t2) ia ib r2) : r1 = r2 := by
  unfold TRm at hm
  rw [is_hs (by omega)] at hm
  have no : ∀ n : Nat, ib = nI n → 1 ≤ n → n ≤ 7 → ¬ (ib < 1 ∨ 7 < ib) := by
    intro n e h1 h2 h
    rw [e] at h
    rcases h with h | h
    · exact absurd ((nI_ltI (b := 1) (by omega) (by decide)).mp h) (by omega)
    · exact absurd ((nI_ltI (a := 7) (by decide) (by omega)).mp h) (by omega)
  rcases hx with ⟨x1, x2⟩ | ⟨x1, x2, x3⟩ | ⟨x1, n, f9, en, n1, n7, hf, ef, hS⟩
  · rcases hm with ⟨-, y2⟩ | ⟨y1, -⟩ | ⟨-, a, n, ha, ea, -⟩
    · rw [x2, y2]
    · exact absurd x1 y1
    · rw [ea, hs_in ha (by omega)] at x1; exact absurd x1 (by decide)
  · rcases hm with ⟨y1, -⟩ | ⟨-, -, y3⟩ | ⟨-, a, n, ha, ea, en, n1, n7, -⟩
    · exact absurd y1 x1
    · rw [x3, y3]
    · exact absurd x2 (no n en n1 n7)
  · rcases hm with ⟨y1, -⟩ | ⟨-, y2, -⟩ | ⟨hZ, a, n2, ha, ea, en2, m1, m7, r9, ⟨f8, hf8, ef8, hB⟩, hr⟩
    · exact absurd y1 x1
    · exact absurd y2 (no n en n1 n7)
    · have e1 : n2 = n := (nI_eq (by omega) (by omega)).mp (en2.symm.trans en)
      subst e1
      have e2 : f8 = f9 := by
        have k : pt (q 3) G3 ia 0 = mt (4 * a) := by rw [ea]; exact (pt_in ha (by omega)).trans (hR.2.2.2.2 a ha 0 (by decide)).symm
        exact (nI_eq (by omega) (by omega)).mp (ef8.symm.trans (k.symm.trans ef))
      subst e2
      have L : ∀ d g, d < 100 → g + n2 = d + 1 → (LE (q 1) cf d n2 ↔ FS (msB bu tk t1 (wkF nz np t0 t2)) (q 1) (q 0) n2 g 0 0) := fun d g hd hg => LE_FS hR hN hq0 hq1 hw e hZ hd hg
      rcases hS with ⟨s1, s2⟩ | ⟨d, s1, s2, s3, s4, s5⟩
      · rcases hB with ⟨b1, -⟩ | ⟨g, b1, b2, b3, b4, -⟩
        · rcases hr with ⟨-, hr⟩ | ⟨g, hg, hr⟩
          · rw [s1, hr]
          · rw [b1] at hr
            exact absurd (show nI g < 0 by rw [← hr.1]; decide) (nI_pos (by omega))
        · exact absurd ((L (g + n2 - 1) g (by omega) (by omega)).mpr b4) (s2 _ (by omega) (by omega))
      · have en := LE_en hq0 hq1 (fun k s h hs hh ho => by have w := (ok_ms hR hN hq0 hq1 hw e hZ (by omega) hs hh).mp ho; exact ⟨w.1, w.2.1⟩) s4
        have f := (L d (d + 1 - n2) (by omega) (by omega)).mp s4
        rcases hB with ⟨-, b2⟩ | ⟨g, b1, b2, b3, b4, b5⟩
        · exfalso
          rcases b2 with b2 | b2
          · exact b2 en
          · exact b2 (d + 1 - n2) (by omega) (by omega) f
        · have g1 : g = d + 1 - n2 := by
            by_cases c1 : g < d + 1 - n2
            · exact absurd ((L (g + n2 - 1) g (by omega) (by omega)).mpr b4) (s5 _ (by omega) (by omega))
            · by_cases c2 : d + 1 - n2 < g
              · exact absurd f (b5 _ (by omega) c2)
              · omega
          rcases hr with ⟨hr, -⟩ | ⟨g2, hg2, hr, hr2⟩
          · rw [b1] at hr
            exact absurd (show nI g < 0 by rw [hr]; decide) (nI_pos (by omega))
          · have g3 : g2 = g := (nI_eq (by omega) (by omega)).mp (hr.symm.trans b1)
            rw [s1, hr2, g3, g1]
            exact congrArg nI (by omega)
end
theorem AK_D {q : Nat → Nat} {cf : Nat → Int32} {av : Nat → Nat} : ∀ D d, d < D → ∀ j, j < caI q cf av D d → ∀ s, s < q 1 → cf ((d - j) * 7 + s) = cf (d * 7 + s)
  | 0, d, h, _, _, _, _ => absurd h (Nat.not_lt_zero d)
  | D + 1, d, h, j, hj, s, hs => by
    rw [caI] at hj
    by_cases e : d = D
    · rw [e, up_s] at hj
      unfold caV at hj
      by_cases c0 : D = 0
      · rw [if_pos c0] at hj; rw [show j = 0 by omega]; rfl
      · rw [if_neg c0] at hj
        by_cases c1 : ilA q cf D = 0
        · rw [if_pos c1] at hj; rw [show j = 0 by omega]; rfl
        · rw [if_neg c1] at hj
          have r : rn (ilP cf D) (q 1) 0 = q 1 := by
            by_cases g : rn (ilP cf D) (q 1) 0 = q 1
            · exact g
            · exact absurd (if_neg g) c1
          have al := (rn_get (p := ilP cf D) (n := q 1) _ 0 rfl (Nat.zero_le _)).1 s (Nat.zero_le _) (by rw [r]; exact hs)
          have e1 : cf (D * 7 + s) = cf (D * 7 - 7 + s) := of_decide_eq_true al
          rcases j with _ | j
          · rfl
          · have ih := AK_D (q := q) (cf := cf) (av := av) D (D - 1) (by omega) j (by omega) s hs
            rw [e, e1, show D * 7 - 7 + s = (D - 1) * 7 + s by omega, ← ih, show D - (j + 1) = D - 1 - j by omega]
    · rw [up_n e] at hj
      exact AK_D D d (by omega) j hj s hs
theorem AK_c {q : Nat → Nat} {cf : Nat → Int32} {av : Nat → Nat} : AK (q 1) cf (caI q cf av 100) := fun d hd => ⟨ca_le 100 d hd, AK_D 100 d hd⟩
theorem MEM_0 {q1 : Nat} {cf lg : Nat → Int32} {ab : Nat → Int64} : MEM q1 cf (fl_i lg (-1) 100) (fl_l ab 0 200) := fun d hd => Or.inl ⟨if_pos hd, if_pos (by omega), if_pos (by omega)⟩

section
variable {q : Nat → Nat} {G0 G1 G2 G3 lf cf cE t0 t1 t2 t3 t4 nz mt bu tk sq : Nat → Int32} {ho sp np mp dy nn : Nat} {ia ib r1 r2 : Int32}
theorem st_eq (hR : RD q G0 G1 G2 G3 ho sp np mp t0 t1 t2 t3 t4 nz mt) (hN : NBr 0 2 (q 0) G0) (hq0 : q 0 ≤ 7) (hq1 : q 1 ≤ 7) (hq3 : q 3 ≤ 3) (hw : ∀ a b l, wkA lf a b l = wkM nz np a b l) (e : cf = fcO q G0 G1 lf cE 100) (hn : 1 ≤ nn ∧ nn ≤ 7) (hx : SPs q G3 cf nn dy ia ib r1) (hm : SPm (q 3) (q 1) (q 0) dy nn mt t1 bu tk (wkF nz np t0 t2) sq ia ib r2) : r1 = r2 := by
  unfold SPm at hm
  rw [is_hs (by omega)] at hm
  rcases hx with ⟨x1, x2⟩ | ⟨x1, f9, u9, hf, hu, ef, eu, hL⟩
  · rcases hm with ⟨-, y2⟩ | ⟨-, a, v, ha, ea, -⟩
    · rw [x2, y2]
    · rw [ea, hs_in ha (by omega)] at x1; exact absurd x1 (by decide)
  · rcases hm with ⟨y1, -⟩ | ⟨hZ, a, v, ha, ea, ⟨f8, u8, hf8, hu8, ef8, eu8, hS⟩, hr⟩
    · exact absurd y1 x1
    · have e2 : f8 = f9 := by
        have k : pt (q 3) G3 ia 0 = mt (4 * a) := by rw [ea]; exact (pt_in ha (by omega)).trans (hR.2.2.2.2 a ha 0 (by decide)).symm
        exact (nI_eq (by omega) (by omega)).mp (ef8.symm.trans (k.symm.trans ef))
      have e3 : u8 = u9 := by
        have k : pt (q 3) G3 ia 1 = mt (4 * a + 1) := by rw [ea]; exact (pt_in ha (by omega)).trans (hR.2.2.2.2 a ha 1 (by decide)).symm
        exact (nI_eq (by omega) (by omega)).mp (eu8.symm.trans (k.symm.trans eu))
      subst e2
      subst e3
      have L : ∀ d g, d < 100 → g + nn = d + 1 → (LE (q 1) cf d nn ↔ FS (msB bu tk t1 (wkF nz np t0 t2)) (q 1) (q 0) nn g 0 0) := fun d g hd hg => LE_FS hR hN hq0 hq1 hw e hZ hd hg
      have hp : ∀ d, max dy f8 + nn ≤ d + 1 → d ≤ u8 → leB (q 1) cf nn d = fsB (msB bu tk t1 (wkF nz np t0 t2)) (q 1) (q 0) nn d := fun d h1 h2 => by
        rw [Bool.eq_iff_iff, leB_t, fsB_t]
        exact L d (d + 1 - nn) (by omega) (by omega)
      rcases hS with ⟨s1, s2⟩ | ⟨s1, s2⟩
      · have no : ∀ d, d ≤ u8 → leB (q 1) cf nn d = false := fun d hd => leB_f (fun k => by
          have w := LE_en hq0 hq1 (fun k s h hs hh ho => by have w := (ok_ms hR hN hq0 hq1 hw e hZ (by omega) hs hh).mp ho; exact ⟨w.1, w.2.1⟩) k
          exact s1 w)
        rw [hr, s2]
        have z : spR 0 ib sq = -1 := if_pos rfl
        rw [z]
        rcases hL with ⟨k, k1, k2, -⟩ | ⟨-, h2⟩
        · exact absurd (Or.inr (no _ k1)) k2
        · rw [ld_0 _ (fun i hi => no _ (by omega))] at h2
          rcases h2 with ⟨-, h3, -⟩ | ⟨-, h3⟩
          · exact absurd h3 (Nat.lt_irrefl _)
          · exact h3
      · rw [hr]
        exact sp_eq hu8 hL hp hn.1 s1 s2
end

/-- soonest: the same end, the same row -/
theorem SN_u {P Q : Nat → (Nat → Int32) → (Nat → Int32) → Prop} {nn d : Nat} {ib e9 r1 r2 : Int32} (hd : d ≤ 99) (hn : nn ≤ 7) (e : e9 = nI d) (h : SNa P nn ib e9 r1) (k : SNa Q nn ib (nI d) r2) (u : ∀ u0 u1 v0 v1, P d u0 u1 → Q d v0 v1 → ∀ j, j < nn → u0 j = v0 j ∧ u1 j = v1 j) : r1 = r2 := by
  have no : ∀ a : Nat, a < 2 ^ 31 → nI a = -1 → False := fun a ha q => nI_pos (n := a) ha (by rw [q]; decide)
  rw [e] at h
  rcases h with ⟨h, -⟩ | ⟨a, ha, ea, h⟩
  · exact (no d (by omega) h).elim
  rcases k with ⟨k, -⟩ | ⟨b, hb, eb, k⟩
  · exact (no d (by omega) k).elim
  have e1 : d = a := (nI_eq (by omega) (by omega)).mp ea
  have e2 : d = b := (nI_eq (by omega) (by omega)).mp eb
  rw [← e1] at h
  rw [← e2] at k
  rcases h with ⟨h1, h2⟩ | ⟨h1, h2, h3⟩ | ⟨j, h1, h2, u0, u1, h3, h4⟩
  · rcases k with ⟨k1, k2⟩ | ⟨k1, k2, k3⟩ | ⟨i, k1, k2, v0, v1, k3, k4⟩
    · rw [h2, k2]
    · exact absurd h1 k1
    · exact (no i (by omega) (k2.symm.trans h1)).elim
  · rcases k with ⟨k1, k2⟩ | ⟨k1, k2, k3⟩ | ⟨i, k1, k2, v0, v1, k3, k4⟩
    · exact absurd k1 h1
    · rw [h3, k3]
    · exact absurd ⟨i, k1, k2⟩ h2
  · rcases k with ⟨k1, k2⟩ | ⟨k1, k2, k3⟩ | ⟨i, k1, k2, v0, v1, k3, k4⟩
    · exact (no j (by omega) (h2.symm.trans k1)).elim
    · exact absurd ⟨j, h1, h2⟩ k2
    · have e3 : j = i := (nI_eq (by omega) (by omega)).mp (h2.symm.trans k2)
      rw [← e3] at k4
      obtain ⟨w1, w2⟩ := u u0 u1 v0 v1 h3 k3 (j / 2) (by omega)
      rw [h4, k4, w1, w2]
theorem PP_f {mz ok : Nat → Nat → Nat → Bool} {sp ho g nn e k w x s t : Nat} (hsp : sp ≤ 7) (hho : ho ≤ 7) (he : g + nn = e + 1) (hk : k < nn) (hO : ∀ j s t, j < nn → s < 7 → t < 7 → (ok j s t = true ↔ s < sp ∧ t < ho ∧ mz (e - j) s t = true)) (hs : s < 7) (ht : t < 7) : PPb ok (nn - 1 - k) w x s t ↔ PPf mz sp ho g nn k w x s t := by
  have f := FB (e := e) (ms := mz) (ok := ok) hsp hho (nn - 1 - k) (g + k + 1) (w ||| 2 ^ s) (x ||| 2 ^ t) (by omega) (fun j a b hj ha hb => hO j a b (by omega) ha hb)
  unfold PPb PPf
  rw [hO (nn - 1 - k) s t (by omega) hs ht, show e - (nn - 1 - k) = g + k by omega, f]
  exact ⟨fun ⟨a1, a2, ⟨a3, a4, a5⟩, a6⟩ => ⟨a3, a4, a1, a2, a5, a6⟩, fun ⟨a3, a4, a1, a2, a5, a6⟩ => ⟨a1, a2, ⟨a3, a4, a5⟩, a6⟩⟩
theorem RW_u {mz ok : Nat → Nat → Nat → Bool} {sp ho g nn e w x w2 x2 : Nat} {u0 u1 v0 v1 : Nat → Int32} (hsp : sp ≤ 7) (hho : ho ≤ 7) (he : g + nn = e + 1) (hO : ∀ j s t, j < nn → s < 7 → t < 7 → (ok j s t = true ↔ s < sp ∧ t < ho ∧ mz (e - j) s t = true)) (h : RX (PK ok nn) u0 u1 nn w x) (k : RX (PF9 mz sp ho g nn) v0 v1 nn w2 x2) : w = w2 ∧ x = x2 ∧ ∀ j, j < nn → u0 j = v0 j ∧ u1 j = v1 j :=
  RX_u nn (fun j w x s t a b hj hs ht ha hb hp hq => LEX_u (fun s t hs ht => PP_f hsp hho he hj hO hs ht) hs ht ha hb hp hq) h k
section
variable {q : Nat → Nat} {G0 G1 G2 G3 lf cf cE t0 t1 t2 t3 t4 nz mt bu tk : Nat → Int32} {ho sp np mp dy nn : Nat} {ia ib r1 r2 : Int32}
theorem sn_eq (hR : RD q G0 G1 G2 G3 ho sp np mp t0 t1 t2 t3 t4 nz mt) (hN : NBr 0 2 (q 0) G0) (hq0 : q 0 ≤ 7) (hq1 : q 1 ≤ 7) (hq3 : q 3 ≤ 3) (hw : ∀ a b l, wkA lf a b l = wkM nz np a b l) (e : cf = fcO q G0 G1 lf cE 100) (hn : 1 ≤ nn ∧ nn ≤ 7) (hx : SNs q G3 cf nn dy ia ib r1) (hm : SNm (q 3) (q 1) (q 0) dy nn mt t1 bu tk (wkF nz np t0 t2) ia ib r2) : r1 = r2 := by
  have no : ∀ a : Nat, a < 2 ^ 31 → nI a = -1 → False := fun a ha q => nI_pos (n := a) ha (by rw [q]; decide)
  unfold SNm at hm
  rw [is_hs (by omega)] at hm
  rcases hx with ⟨x1, x2⟩ | ⟨x1, f9, hf, ef, e9, hS, hA⟩
  · rcases hm with ⟨-, y2⟩ | ⟨-, a, ha, ea, -⟩
    · rw [x2, y2]
    · rw [ea, hs_in ha (by omega)] at x1; exact absurd x1 (by decide)
  · rcases hm with ⟨y1, -⟩ | ⟨hZ, a, ha, ea, r9, ⟨f8, hf8, ef8, hB⟩, hr⟩
    · exact absurd y1 x1
    · have e2 : f8 = f9 := by
        have k : pt (q 3) G3 ia 0 = mt (4 * a) := by rw [ea]; exact (pt_in ha (by omega)).trans (hR.2.2.2.2 a ha 0 (by decide)).symm
        exact (nI_eq (by omega) (by omega)).mp (ef8.symm.trans (k.symm.trans ef))
      subst e2
      have L : ∀ d g, d < 100 → g + nn = d + 1 → (LE (q 1) cf d nn ↔ FS (msB bu tk t1 (wkF nz np t0 t2)) (q 1) (q 0) nn g 0 0) := fun d g hd hg => LE_FS hR hN hq0 hq1 hw e hZ hd hg
      rcases hS with ⟨s1, s2⟩ | ⟨d, s1, s2, s3, s4, s5⟩
      · have z1 : r1 = -1 := by
          rcases hA with ⟨-, z⟩ | ⟨b, hb, eb, -⟩
          · exact z
          · exact (no b (by omega) (eb.symm.trans s1)).elim
        rcases hB with ⟨b1, -⟩ | ⟨g, b1, b2, b3, b4, -⟩
        · rcases hr with ⟨-, hr⟩ | ⟨g, hg, hr, -⟩
          · rcases hr with ⟨-, z⟩ | ⟨b, hb, eb, -⟩
            · rw [z1, z]
            · exact (no b (by omega) eb.symm).elim
          · exact (no g (by omega) (hr.symm.trans b1)).elim
        · exact absurd ((L (g + nn - 1) g (by omega) (by omega)).mpr b4) (s2 _ (by omega) (by omega))
      · have en := LE_en hq0 hq1 (fun k s h hs hh ho => by have w := (ok_ms hR hN hq0 hq1 hw e hZ (by omega) hs hh).mp ho; exact ⟨w.1, w.2.1⟩) s4
        have f := (L d (d + 1 - nn) (by omega) (by omega)).mp s4
        rcases hB with ⟨-, b2⟩ | ⟨g, b1, b2, b3, b4, b5⟩
        · exfalso
          rcases b2 with b2 | b2
          · exact b2 en
          · exact b2 (d + 1 - nn) (by omega) (by omega) f
        · have g1 : g = d + 1 - nn := by
            by_cases c1 : g < d + 1 - nn
            · exact absurd ((L (g + nn - 1) g (by omega) (by omega)).mpr b4) (s5 _ (by omega) (by omega))
            · by_cases c2 : d + 1 - nn < g
              · exact absurd f (b5 _ (by omega) c2)
              · omega
          rcases hr with ⟨hr, -⟩ | ⟨g2, hg2, hr, hr2⟩
          · exact (no g (by omega) (b1.symm.trans hr)).elim
          · have g3 : g2 = g := (nI_eq (by omega) (by omega)).mp (hr.symm.trans b1)
            rw [show g2 + nn - 1 = d by omega] at hr2
            refine SN_u s3 hn.2 s1 hA hr2 (fun u0 u1 v0 v1 hp hk => ?_)
            obtain ⟨o9, ho9, w, x, hX⟩ := hp
            obtain ⟨w2, x2, hK⟩ := hk
            exact (RW_u hq1 hq0 (show g2 + nn = d + 1 by omega) (fun j s t hj hs ht => by rw [ho9 j s t hj hs ht]; exact ok_ms hR hN hq0 hq1 hw e hZ (by omega) hs ht) hX hK).2.2
end

/-- a row in order, and the same one from its end -/
def SQ (ok : Nat → Nat → Nat → Bool) (n w x : Nat) (f g : Nat → Nat) : Prop := w < 128 ∧ x < 128 ∧ (∀ k, k < n → f k < 7 ∧ g k < 7 ∧ ok k (f k) (g k) = true) ∧ (∀ i j, i < n → j < n → f i = f j → i = j) ∧ (∀ i j, i < n → j < n → g i = g j → i = j) ∧ (∀ t, w.testBit t = true ↔ ∃ k, k < n ∧ f k = t) ∧ (∀ t, x.testBit t = true ↔ ∃ k, k < n ∧ g k = t)
theorem SQ_b {n w s : Nat} {f : Nat → Nat} (h : ∀ t, w.testBit t = true ↔ ∃ k, k < n ∧ f k = t) : ∀ t, (w ||| 2 ^ s).testBit t = true ↔ ∃ k, k < n + 1 ∧ (if k = n then s else f k) = t := fun t => by
  rw [tb_p, h t]
  constructor
  · rintro (⟨k, hk, e⟩ | e)
    · exact ⟨k, by omega, by rw [if_neg (by omega)]; exact e⟩
    · exact ⟨n, by omega, by rw [if_pos rfl]; exact e⟩
  · rintro ⟨k, hk, e⟩
    by_cases q : k = n
    · rw [if_pos q] at e; exact Or.inr e
    · rw [if_neg q] at e; exact Or.inl ⟨k, by omega, e⟩
theorem SQ_j {n w s : Nat} {f : Nat → Nat} (h : ∀ t, w.testBit t = true ↔ ∃ k, k < n ∧ f k = t) (hl : lk w s = true) (hi : ∀ i j, i < n → j < n → f i = f j → i = j) : ∀ i j, i < n + 1 → j < n + 1 → (if i = n then s else f i) = (if j = n then s else f j) → i = j := fun i j a b e => by
  have no : ∀ k, k < n → ¬ s = f k := fun k hk q => lk_i.mp hl ((h s).mpr ⟨k, hk, q.symm⟩)
  by_cases c : i = n
  · by_cases d : j = n
    · omega
    · rw [if_pos c, if_neg d] at e; exact absurd e (no j (by omega))
  · by_cases d : j = n
    · rw [if_neg c, if_pos d] at e; exact absurd e.symm (no i (by omega))
    · rw [if_neg c, if_neg d] at e; exact hi i j (by omega) (by omega) e
theorem SQ_m {n w : Nat} {f : Nat → Nat} (hw : w < 128) (hs : f n < 7) (hi : ∀ i j, i < n + 1 → j < n + 1 → f i = f j → i = j) (h : ∀ t, w.testBit t = true ↔ ∃ k, k < n + 1 ∧ f k = t) : lk (w - 2 ^ f n) (f n) = true ∧ (w - 2 ^ f n) ||| 2 ^ f n = w ∧ ∀ t, (w - 2 ^ f n).testBit t = true ↔ ∃ k, k < n ∧ f k = t := by
  obtain ⟨a1, a2⟩ := tb_or w hw (f n) hs ((h (f n)).mpr ⟨n, by omega, rfl⟩)
  refine ⟨a1, a2, fun t => ?_⟩
  have b : w.testBit t = true ↔ (w - 2 ^ f n).testBit t = true ∨ f n = t := by
    have e := tb_p (a := w - 2 ^ f n) (s := f n) (i := t)
    rw [a2] at e
    exact e
  constructor
  · intro k
    obtain ⟨j, hj, ej⟩ := (h t).mp (b.mpr (Or.inl k))
    by_cases q : j = n
    · rw [q] at ej
      rw [← ej] at k
      exact absurd k (lk_i.mp a1)
    · exact ⟨j, by omega, ej⟩
  · rintro ⟨j, hj, ej⟩
    rcases b.mp ((h t).mpr ⟨j, by omega, ej⟩) with k | k
    · exact k
    · have := hi j n (by omega) (by omega) (ej.trans k.symm)
      omega
theorem BS_q {ok : Nat → Nat → Nat → Bool} : ∀ {n w x}, BS ok n w x → ∃ f g, SQ ok n w x f g
  | 0, w, x, h => by
    rw [h.1, h.2]
    exact ⟨fun _ => 0, fun _ => 0, by decide, by decide, fun k q => absurd q (Nat.not_lt_zero k), fun i _ q => absurd q (Nat.not_lt_zero i), fun i _ q => absurd q (Nat.not_lt_zero i), fun t => ⟨fun q => by rw [Nat.zero_testBit] at q; exact absurd q (by decide), fun ⟨k, q, _⟩ => absurd q (Nat.not_lt_zero k)⟩, fun t => ⟨fun q => by rw [Nat.zero_testBit] at q; exact absurd q (by decide), fun ⟨k, q, _⟩ => absurd q (Nat.not_lt_zero k)⟩⟩
  | n + 1, w, x, ⟨w0, x0, s, t, a1, a2, a3, a4, a5, a6, a7, a8, a9, b1⟩ => by
    obtain ⟨f, g, -, -, c3, c4, c5, c6, c7⟩ := BS_q b1
    rw [a7, a8]
    refine ⟨fun k => if k = n then s else f k, fun k => if k = n then t else g k, (tb_un w0 a1 s a3 a5).2.2.1, (tb_un x0 a2 t a4 a6).2.2.1, fun k hk => ?_, SQ_j c6 a5 c4, SQ_j c7 a6 c5, SQ_b c6, SQ_b c7⟩
    show (if k = n then s else f k) < 7 ∧ (if k = n then t else g k) < 7 ∧ ok k (if k = n then s else f k) (if k = n then t else g k) = true
    by_cases q : k = n
    · rw [if_pos q, if_pos q, q]; exact ⟨a3, a4, a9⟩
    · rw [if_neg q, if_neg q]; exact c3 k (by omega)
theorem SQ_B {ok : Nat → Nat → Nat → Bool} {f g : Nat → Nat} : ∀ {n w x}, SQ ok n w x f g → BS ok n w x
  | 0, w, x, ⟨_, _, _, _, _, c6, c7⟩ => by
    have z : ∀ {v : Nat} {h : Nat → Nat}, (∀ t, v.testBit t = true ↔ ∃ k, k < 0 ∧ h k = t) → v = 0 := fun {v h} q => by
      apply Nat.eq_of_testBit_eq
      intro i
      rw [Nat.zero_testBit]
      exact Bool.eq_false_iff.mpr (fun k => by obtain ⟨j, hj, -⟩ := (q i).mp k; exact absurd hj (Nat.not_lt_zero j))
    exact ⟨z c6, z c7⟩
  | n + 1, w, x, ⟨c1, c2, c3, c4, c5, c6, c7⟩ => by
    obtain ⟨d1, d2, d3⟩ := c3 n (by omega)
    obtain ⟨e1, e2, e3⟩ := SQ_m c1 d1 c4 c6
    obtain ⟨f1, f2, f3⟩ := SQ_m c2 d2 c5 c7
    exact ⟨w - 2 ^ f n, x - 2 ^ g n, f n, g n, Nat.lt_of_le_of_lt (Nat.sub_le _ _) c1, Nat.lt_of_le_of_lt (Nat.sub_le _ _) c2, d1, d2, e1, f1, e2.symm, f2.symm, d3, SQ_B ⟨Nat.lt_of_le_of_lt (Nat.sub_le _ _) c1, Nat.lt_of_le_of_lt (Nat.sub_le _ _) c2, fun k hk => c3 k (by omega), fun i j a b => c4 i j (by omega) (by omega), fun i j a b => c5 i j (by omega) (by omega), e3, f3⟩⟩
theorem SQ_v {ok ok2 : Nat → Nat → Nat → Bool} {n w x : Nat} {f g : Nat → Nat} (h : SQ ok n w x f g) (e : ∀ k s t, k < n → s < 7 → t < 7 → ok2 k s t = ok (n - 1 - k) s t) : SQ ok2 n w x (fun k => f (n - 1 - k)) (fun k => g (n - 1 - k)) := by
  obtain ⟨c1, c2, c3, c4, c5, c6, c7⟩ := h
  have r : ∀ {v : Nat} {h : Nat → Nat}, (∀ t, v.testBit t = true ↔ ∃ k, k < n ∧ h k = t) → ∀ t, v.testBit t = true ↔ ∃ k, k < n ∧ h (n - 1 - k) = t := fun {v h} q t => by
    rw [q t]
    constructor
    · rintro ⟨k, hk, ek⟩
      exact ⟨n - 1 - k, by omega, by rw [show n - 1 - (n - 1 - k) = k by omega]; exact ek⟩
    · rintro ⟨k, hk, ek⟩
      exact ⟨n - 1 - k, by omega, ek⟩
  refine ⟨c1, c2, fun k hk => ?_, fun i j a b q => ?_, fun i j a b q => ?_, r c6, r c7⟩
  · obtain ⟨d1, d2, d3⟩ := c3 (n - 1 - k) (by omega)
    exact ⟨d1, d2, by rw [e k _ _ hk d1 d2]; exact d3⟩
  · have := c4 (n - 1 - i) (n - 1 - j) (by omega) (by omega) q
    omega
  · have := c5 (n - 1 - i) (n - 1 - j) (by omega) (by omega) q
    omega
theorem BS_v {ok ok2 : Nat → Nat → Nat → Bool} {n w x : Nat} (h : BS ok n w x) (e : ∀ k s t, k < n → s < 7 → t < 7 → ok2 k s t = ok (n - 1 - k) s t) : BS ok2 n w x := by
  obtain ⟨f, g, q⟩ := BS_q h
  exact SQ_B (SQ_v q e)
theorem EB_m {q1 nn e w sp ho g : Nat} {cf : Nat → Int32} {mz : Nat → Nat → Nat → Bool} (hb : bcn w = nn) (hg : g + nn = e + 1) (hO : ∀ k s t, k < nn → s < 7 → t < 7 → (okE q1 cf e k s t = true ↔ s < sp ∧ t < ho ∧ mz (e - k) s t = true)) : EBx q1 cf e w ↔ ∃ x, BS (okF mz sp ho g) nn w x := by
  have c1 : ∀ k s t, k < nn → s < 7 → t < 7 → okF mz sp ho g k s t = okE q1 cf e (nn - 1 - k) s t := fun k s t hk hs ht => by
    rw [Bool.eq_iff_iff, okF_t, hO (nn - 1 - k) s t (by omega) hs ht, show e - (nn - 1 - k) = g + k by omega]
  have c2 : ∀ k s t, k < nn → s < 7 → t < 7 → okE q1 cf e k s t = okF mz sp ho g (nn - 1 - k) s t := fun k s t hk hs ht => by
    rw [c1 (nn - 1 - k) s t (by omega) hs ht, show nn - 1 - (nn - 1 - k) = k by omega]
  unfold EBx
  rw [hb]
  exact ⟨fun ⟨x, b⟩ => ⟨x, BS_v b c1⟩, fun ⟨x, b⟩ => ⟨x, BS_v b c2⟩⟩
/-- the wages of a SET are the same -/
theorem pt_out {n a w : Nat} {G : Nat → Int32} (h : n ≤ a) (ha : a < 2 ^ 31) : pt n G (nI a) w = 0 := pt_0 (by
  unfold hs
  rw [if_neg (nI_pos ha), if_pos (nI_le h ha)])
theorem wg_e {q1 w : Nat} {G1 t4 : Nat → Int32} (h : ∀ s, s < q1 → pt q1 G1 (nI s) 2 = t4 s) : ∀ n, n ≤ 7 → wgS q1 G1 w n = wgM t4 w (min n q1)
  | 0, _ => by rw [Nat.zero_min]; rfl
  | n + 1, hn => by
    rw [wgS, wg_e h n (by omega)]
    by_cases c : n < q1
    · rw [show min (n + 1) q1 = n + 1 by omega, show min n q1 = n by omega, wgM, h n c]
      by_cases b : w.testBit n = true
      · rw [if_pos b, if_pos b]
      · rw [if_neg b, if_neg b, Int32.add_zero]
    · rw [show min (n + 1) q1 = q1 by omega, show min n q1 = q1 by omega, pt_out (by omega) (by omega), Int32.add_zero, ite_self]
theorem wg_b {q1 w : Nat} {G1 : Nat → Int32} (h : NBr 1 3 q1 G1) (hq : q1 ≤ 7) : ∀ n, n ≤ 7 → ∃ v : Nat, v ≤ 99 * n ∧ wgS q1 G1 w n = nI v
  | 0, _ => ⟨0, by decide, rfl⟩
  | n + 1, hn => by
    obtain ⟨v, hv, e⟩ := wg_b h hq n (by omega)
    obtain ⟨u, hu, e2⟩ := pt_b (i := nI n) (w := 2) h (by decide) (by omega)
    have hu : u ≤ 99 := hu
    rw [wgS, e, e2]
    by_cases b : w.testBit n = true
    · rw [if_pos b, nI_add]; exact ⟨v + u, by omega, rfl⟩
    · rw [if_neg b]; exact ⟨v, by omega, rfl⟩
theorem ng_lt {a b : Nat} (ha : a < 2 ^ 30) (hb : b < 2 ^ 30) : -nI a < -nI b ↔ nI b < nI a := by
  rw [← Int32.zero_sub, ← Int32.zero_sub, show (0 : Int32) = nI 0 from rfl, Int32.lt_iff_toInt_lt, pk_sub_toInt (by decide) ha, pk_sub_toInt (by decide) hb, nI_ltI (by omega) (by omega)]
  omega
/-- the odds of a SET are the same -/
theorem od0_v (n k : Nat) : od0 n k = if k = 0 then 1000000 else 0 := by
  unfold od0
  by_cases e : k = 0
  · rw [e, pk_us, if_pos rfl]
  · rw [pk_un e, if_neg e]
    unfold fl_i
    split <;> rfl
theorem drS_a {y : Int32} {f : Nat → Int32} {n : Nat} : drS y f n n = f n - f n * y / 100 := by
  unfold drS
  rw [pk_us, pk_un (by omega)]
theorem drS_b {y : Int32} {f : Nat → Int32} {n : Nat} : drS y f n (n + 1) = f (n + 1) + f n * y / 100 := by
  unfold drS
  rw [pk_un (by omega), pk_us]
theorem drS_o {y : Int32} {f : Nat → Int32} {n j : Nat} (h : ¬ j = n) (h2 : ¬ j = n + 1) : drS y f n j = f j := by
  unfold drS
  rw [pk_un h, pk_un h2]
theorem drD_v {y : Int32} : ∀ (n : Nat) (f : Nat → Int32) (k : Nat), drD y n f k = if k < n then (f k - f k * y / 100) + (if k = 0 then 0 else f (k - 1) * y / 100) else if k = n ∧ 0 < n then f k + f (n - 1) * y / 100 else f k
  | 0, f, k => by rw [if_neg (Nat.not_lt_zero k), if_neg (fun q => absurd q.2 (Nat.lt_irrefl 0))]; rfl
  | n + 1, f, k => by
    have ih := drD_v (y := y) n (drS y f n) k
    show drD y n (drS y f n) k = _
    rw [ih]
    by_cases c : k < n
    · rw [if_pos c, if_pos (show k < n + 1 by omega), drS_o (by omega) (by omega)]
      by_cases z : k = 0
      · rw [if_pos z, if_pos z]
      · rw [if_neg z, if_neg z, drS_o (j := k - 1) (by omega) (by omega)]
    · rw [if_neg c]
      by_cases d : k = n
      · rw [if_pos (show k < n + 1 by omega), d, drS_a]
        by_cases z : n = 0
        · rw [if_neg (fun q => by omega), if_pos z, Int32.add_zero]
        · rw [if_pos ⟨rfl, by omega⟩, if_neg z, drS_o (j := n - 1) (by omega) (by omega)]
      · rw [if_neg (fun q => d q.1), if_neg (show ¬ k < n + 1 by omega)]
        by_cases g : k = n + 1
        · rw [if_pos ⟨g, by omega⟩, g, drS_b]
          rfl
        · rw [if_neg (fun q => g q.1), drS_o d g]
def OR9 (n : Nat) (f g : Nat → Int32) : Prop := (∀ k, k < 8 → f k = g k) ∧ ∀ k, n < k → k ≤ 8 → g k = 0
theorem z_up (y : Int32) : (0 : Int32) * y / 100 = 0 := by rw [Int32.zero_mul]; decide
theorem OR_s {y : Int32} {n : Nat} {f g : Nat → Int32} (h : OR9 n f g) (hn : n ≤ 6) : OR9 (n + 1) (drD y 7 f) (drD y 8 g) := by
  refine ⟨fun k hk => ?_, fun k h1 h2 => ?_⟩
  · rw [drD_v, drD_v, if_pos (show k < 8 from hk)]
    by_cases c : k < 7
    · rw [if_pos c, h.1 k (by omega)]
      by_cases z : k = 0
      · rw [if_pos z, if_pos z]
      · rw [if_neg z, if_neg z, h.1 (k - 1) (by omega)]
    · have e : k = 7 := by omega
      rw [if_neg c, if_pos ⟨e, by decide⟩, e, if_neg (show ¬ (7 : Nat) = 0 by decide), h.1 7 (by decide), h.2 7 (by omega) (by decide), h.1 (7 - 1) (by decide), z_up, show (0 : Int32) - 0 = 0 from rfl]
  · rw [drD_v]
    by_cases c : k < 8
    · rw [if_pos c, if_neg (show ¬ k = 0 by omega), h.2 k (by omega) (by omega), h.2 (k - 1) (by omega) (by omega), z_up]; rfl
    · have e : k = 8 := by omega
      rw [if_neg c, if_pos ⟨e, by decide⟩, e, h.2 8 (by omega) (by decide), h.2 (8 - 1) (by omega) (by decide), z_up]; rfl
theorem OR_n {n : Nat} {f g : Nat → Int32} (h : OR9 n f g) : OR9 (n + 1) f g := ⟨h.1, fun k h1 h2 => h.2 k (by omega) h2⟩
theorem od_e {q1 w : Nat} {G1 t3 : Nat → Int32} (h : ∀ s, s < q1 → pt q1 G1 (nI s) 1 = t3 s) (hw : ∀ s, q1 ≤ s → s < 7 → ¬ w.testBit s = true) : ∀ n, n ≤ 7 → OR9 n (odC q1 G1 w (od0 8) n) (odM t3 w (od0 9) (min n q1))
  | 0, _ => by
    rw [Nat.zero_min]
    exact ⟨fun k _ => by show od0 8 k = od0 9 k; rw [od0_v, od0_v], fun k h1 _ => by show od0 9 k = 0; rw [od0_v, if_neg (by omega)]⟩
  | n + 1, hn => by
    have ih := od_e h hw n (by omega)
    rw [odC]
    by_cases c : n < q1
    · rw [show min n q1 = n by omega] at ih
      rw [show min (n + 1) q1 = n + 1 by omega, odM, h n c]
      by_cases b : w.testBit n = true
      · rw [if_pos b, if_pos b]; exact OR_s ih (by omega)
      · rw [if_neg b, if_neg b]; exact OR_n ih
    · rw [show min n q1 = q1 by omega] at ih
      rw [show min (n + 1) q1 = q1 by omega, if_neg (hw n (by omega) (by omega))]
      exact OR_n ih
theorem od_w {q1 w yy : Nat} {G1 t3 : Nat → Int32} (hq : q1 ≤ 7) (hy : yy ≤ 7) (h : ∀ s, s < q1 → pt q1 G1 (nI s) 1 = t3 s) (hw : ∀ s, q1 ≤ s → s < 7 → ¬ w.testBit s = true) : odV q1 G1 yy w = odW t3 q1 yy w := by
  have k := od_e h hw 7 (by decide)
  rw [show min 7 q1 = q1 by omega] at k
  unfold odV odW
  rw [show 9 - yy = 8 - yy + 1 by omega, smU, k.2 (yy + (8 - yy)) (by omega) (by omega), Int32.add_zero]
  exact smU_c _ (fun j _ hj => k.1 j (by omega))
theorem ch_u {q : Nat → Nat} {G0 G1 G2 G3 lf cf cE t0 t1 t2 t3 t4 nz mt bu tk : Nat → Int32} {ho sp np mp dy nn : Nat} {ia ib r1 r2 : Int32} {lt lt2 : Int32 → Int32 → Prop} {V V2 : Nat → Int32} {ng : Int32 → Int32} (hL : STO lt) (hR : RD q G0 G1 G2 G3 ho sp np mp t0 t1 t2 t3 t4 nz mt) (hN : NBr 0 2 (q 0) G0) (hq0 : q 0 ≤ 7) (hq1 : q 1 ≤ 7) (hq3 : q 3 ≤ 3) (hw : ∀ a b l, wkA lf a b l = wkM nz np a b l) (e : cf = fcO q G0 G1 lf cE 100) (hn : 1 ≤ nn ∧ nn ≤ 7)
    (hV : ∀ a w, a < 2 ^ q 1 → w < 2 ^ q 1 → (lt (V a) (V w) ↔ lt2 (V2 a) (V2 w)) ∧ (V a = V w ↔ V2 a = V2 w)) (hG : ∀ w, w < 2 ^ q 1 → V w = ng (V2 w)) (hx : CHs lt V q G3 cf nn dy ia ib r1) (hm : BOm lt2 V2 ng (q 3) (q 1) (q 0) dy nn mt t1 bu tk (wkF nz np t0 t2) ia ib r2) : r1 = r2 := by
  have no : ∀ a : Nat, a < 2 ^ 31 → nI a = -1 → False := fun a ha q => nI_pos (n := a) ha (by rw [q]; decide)
  have nb : ∀ n : Nat, ib = nI n → n ≤ 2 → ¬ (ib < 0 ∨ 2 < ib) := by
    intro n e h2 h
    rw [e] at h
    rcases h with h | h
    · exact nI_pos (by omega) h
    · exact absurd ((nI_ltI (a := 2) (by decide) (by omega)).mp h) (by omega)
  unfold BOm at hm
  rw [is_hs (by omega)] at hm
  rcases hx with ⟨x1, x2⟩ | ⟨x1, x2, x3⟩ | ⟨x1, nq, f9, u9, enq, hnq, hf, hu, ef, eu, va, en, sv, hvn, hB, hr⟩
  · rcases hm with ⟨-, y2⟩ | ⟨y1, -⟩ | ⟨-, a, -, -, -, ha, ea, -⟩
    · rw [x2, y2]
    · exact absurd x1 y1
    · rw [ea, hs_in ha (by omega)] at x1; exact absurd x1 (by decide)
  · rcases hm with ⟨y1, -⟩ | ⟨-, -, y3⟩ | ⟨-, a, n2, -, -, -, -, en2, hn2, -⟩
    · exact absurd y1 x1
    · rw [x3, y3]
    · exact absurd x2 (nb n2 en2 hn2)
  · rcases hm with ⟨y1, -⟩ | ⟨-, y2, -⟩ | ⟨hZ, a, n2, f8, u8, ha, ea, en2, hn2, hf8, hu8, ef8, eu8, bw, be, bh, hB2, hr2⟩
    · exact absurd y1 x1
    · exact absurd y2 (nb nq enq hnq)
    · have e1 : n2 = nq := (nI_eq (by omega) (by omega)).mp (en2.symm.trans enq)
      have e2 : f8 = f9 := by
        have k : pt (q 3) G3 ia 0 = mt (4 * a) := by rw [ea]; exact (pt_in ha (by omega)).trans (hR.2.2.2.2 a ha 0 (by decide)).symm
        exact (nI_eq (by omega) (by omega)).mp (ef8.symm.trans (k.symm.trans ef))
      have e3 : u8 = u9 := by
        have k : pt (q 3) G3 ia 1 = mt (4 * a + 1) := by rw [ea]; exact (pt_in ha (by omega)).trans (hR.2.2.2.2 a ha 1 (by decide)).symm
        exact (nI_eq (by omega) (by omega)).mp (eu8.symm.trans (k.symm.trans eu))
      subst e1
      subst e2
      subst e3
      have hk : ∀ g, g ≤ 99 → ∀ k s t, s < 7 → t < 7 → (okE (q 1) cf g k s t = true ↔ s < q 1 ∧ t < q 0 ∧ msB bu tk t1 (wkF nz np t0 t2) (g - k) s t = true) := fun g hg k s t hs ht => ok_ms hR hN hq0 hq1 hw e hZ (by omega) hs ht
      have hE : ∀ w g, SSx (q 1) cf nn (max dy f8) u8 w g → g ≤ 99 := fun w g s => by have := s.2.2.2.1; omega
      have hS : ∀ w g, SSx (q 1) cf nn (max dy f8) u8 w g ↔ SSm (msB bu tk t1 (wkF nz np t0 t2)) (q 1) (q 0) nn (max dy f8) u8 w g := fun w g => by
        constructor
        · rintro ⟨s1, s2, s3, s4, s5⟩
          exact ⟨s1, s3, s4, s2, (EB_m (g := g + 1 - nn) s2 (by omega) (fun k s t _ hs ht => hk g (by omega) k s t hs ht)).mp s5⟩
        · rintro ⟨s1, s3, s4, s2, s5⟩
          exact ⟨s1, s2, s3, s4, (EB_m (g := g + 1 - nn) s2 (by omega) (fun k s t _ hs ht => hk g (by omega) k s t hs ht)).mpr s5⟩
      have hb : ∀ w g, SSx (q 1) cf nn (max dy f8) u8 w g → w < 2 ^ q 1 := fun w g s => by
        obtain ⟨x, b⟩ := s.2.2.2.2
        exact (BS_lt (A := q 1) (B := q 0) (fun k s9 t hs ht ho9 => by have w9 := (hk g (hE w g s) k s9 t hs ht).mp ho9; exact ⟨w9.1, w9.2.1⟩) b).1
      rcases BSF_u hL hE hS (fun w g s => s.1) (fun w g s => trivial) (fun a g w k s s2 => hV a w (hb a g s) (hb w k s2)) hB hB2 with ⟨n1, n3⟩ | ⟨w, g, s, hg, v1, v2, v3, v4, v5, v6⟩
      · obtain ⟨n4, n5⟩ := hvn n1
        have z : r1 = -1 := by
          rw [hr, n1, n4, n5]
          split
          · rfl
          · split <;> rfl
        rcases hr2 with ⟨-, hr2⟩ | ⟨hr2, -⟩
        · rw [z, hr2]
        · exact absurd n3 hr2
      · rcases hr2 with ⟨hr2, -⟩ | ⟨-, hr2⟩
        · exact (no g (by omega) (v4.symm.trans hr2)).elim
        · rw [hr, hr2, v1, v2, v3, v4, v5, v6, hG w (hb w g s)]
theorem bit_out {w A : Nat} (h : w < 2 ^ A) : ∀ s, A ≤ s → s < 7 → ¬ w.testBit s = true := fun s hs _ k => by
  have z : w.testBit s = false := Nat.testBit_lt_two_pow (Nat.lt_of_lt_of_le h (Nat.pow_le_pow_right (n := 2) (by decide) hs))
  rw [z] at k
  exact absurd k (by decide)
section
variable {q : Nat → Nat} {G0 G1 G2 G3 lf cf cE t0 t1 t2 t3 t4 nz mt bu tk : Nat → Int32} {ho sp np mp dy nn yy : Nat} {ia ib r1 r2 : Int32}
theorem cp_eq (hR : RD q G0 G1 G2 G3 ho sp np mp t0 t1 t2 t3 t4 nz mt) (hN : NBr 0 2 (q 0) G0) (hN1 : NBr 1 3 (q 1) G1) (hq0 : q 0 ≤ 7) (hq1 : q 1 ≤ 7) (hq3 : q 3 ≤ 3) (hw : ∀ a b l, wkA lf a b l = wkM nz np a b l) (e : cf = fcO q G0 G1 lf cE 100) (hn : 1 ≤ nn ∧ nn ≤ 7) (hx : CHs (fun x y : Int32 => x < y) (fun w9 : Nat => wgS (q 1) G1 w9 7) q G3 cf nn dy ia ib r1) (hm : BOm (fun x y : Int32 => y < x) (fun w9 : Nat => -wgM t4 w9 (q 1)) (fun z9 => -z9) (q 3) (q 1) (q 0) dy nn mt t1 bu tk (wkF nz np t0 t2) ia ib r2) : r1 = r2 := by
  have hp : ∀ s, s < q 1 → pt (q 1) G1 (nI s) 2 = t4 s := fun s hs => (pt_in hs (by omega)).trans (hR.2.2.1 s hs).2.2.symm
  have ev : ∀ w, wgS (q 1) G1 w 7 = wgM t4 w (q 1) := fun w => by
    have k := wg_e (w := w) hp 7 (by decide)
    rw [show min 7 (q 1) = q 1 by omega] at k
    exact k
  refine ch_u (ng := fun z9 => -z9) STO_l hR hN hq0 hq1 hq3 hw e hn (fun a w _ _ => ?_) (fun w _ => ?_) hx hm
  · obtain ⟨u, hu, eu⟩ := wg_b (w := a) hN1 hq1 7 (by decide)
    obtain ⟨v, hv, ew⟩ := wg_b (w := w) hN1 hq1 7 (by decide)
    show (wgS (q 1) G1 a 7 < wgS (q 1) G1 w 7 ↔ -wgM t4 w (q 1) < -wgM t4 a (q 1)) ∧ (wgS (q 1) G1 a 7 = wgS (q 1) G1 w 7 ↔ -wgM t4 a (q 1) = -wgM t4 w (q 1))
    rw [← ev a, ← ev w, eu, ew, ng_lt (by omega) (by omega)]
    exact ⟨Iff.rfl, ⟨fun k => by rw [k], fun k => Int32.neg_inj.mp k⟩⟩
  · show wgS (q 1) G1 w 7 = - -wgM t4 w (q 1)
    rw [Int32.neg_neg, ev w]
theorem lk_eq (hR : RD q G0 G1 G2 G3 ho sp np mp t0 t1 t2 t3 t4 nz mt) (hN : NBr 0 2 (q 0) G0) (hq0 : q 0 ≤ 7) (hq1 : q 1 ≤ 7) (hq3 : q 3 ≤ 3) (hw : ∀ a b l, wkA lf a b l = wkM nz np a b l) (e : cf = fcO q G0 G1 lf cE 100) (hn : 1 ≤ nn ∧ nn ≤ 7) (hy : yy ≤ 7) (hx : CHs (fun x y : Int32 => y < x) (odV (q 1) G1 yy) q G3 cf nn dy ia ib r1) (hm : BOm (fun x y : Int32 => y < x) (odW t3 (q 1) yy) (fun z9 => z9) (q 3) (q 1) (q 0) dy nn mt t1 bu tk (wkF nz np t0 t2) ia ib r2) : r1 = r2 := by
  have hp : ∀ s, s < q 1 → pt (q 1) G1 (nI s) 1 = t3 s := fun s hs => (pt_in hs (by omega)).trans (hR.2.2.1 s hs).2.1.symm
  have ev : ∀ w, w < 2 ^ q 1 → odV (q 1) G1 yy w = odW t3 (q 1) yy w := fun w hw => od_w hq1 hy hp (bit_out hw)
  refine ch_u (ng := fun z9 => z9) STO_g hR hN hq0 hq1 hq3 hw e hn (fun a w ha hw => ?_) (fun w hw => ev w hw) hx hm
  show (odV (q 1) G1 yy w < odV (q 1) G1 yy a ↔ odW t3 (q 1) yy w < odW t3 (q 1) yy a) ∧ (odV (q 1) G1 yy a = odV (q 1) G1 yy w ↔ odW t3 (q 1) yy a = odW t3 (q 1) yy w)
  rw [ev a ha, ev w hw]
  exact ⟨Iff.rfl, Iff.rfl⟩
end

/-- rows taken ahead: the same sleepers, the same beds -/
theorem b1_32 (y : Int32) : y &&& 1 = 0 ∨ y &&& 1 = 1 := by
  have e : y.toBitVec &&& 1#32 = 0#32 ∨ y.toBitVec &&& 1#32 = 1#32 := by
    rw [BitVec.and_one_eq_setWidth_ofBool_getLsbD]
    cases y.toBitVec.getLsbD 0
    · exact Or.inl (by decide)
    · exact Or.inr (by decide)
  exact e.imp (fun q => Int32.toBitVec_inj.mp q) (fun q => Int32.toBitVec_inj.mp q)
theorem in_hs (x k : Int32) : inS x k = hsA x k := by
  unfold inS hsA
  rcases b1_32 (x >>> (k &&& 31)) with h | h
  · rw [h, if_pos rfl, if_neg (by decide)]
  · rw [h, if_neg (by decide), if_pos rfl]
theorem plO_v {st : Nat → Int32} {tw r : Nat} {dy : Int32} (ht : tw ≤ 7) (hr : r < 3) : plO st tw r dy = -1 ∨ ∃ j : Nat, j < tw ∧ plO st tw r dy = nI (r * 7 + j) := by
  unfold plO
  by_cases h0 : dy - st r < 0
  · rw [if_pos h0]; exact Or.inl rfl
  · by_cases h1 : nI tw ≤ dy - st r
    · rw [if_neg h0, if_pos h1]; exact Or.inl rfl
    · rw [if_neg h0, if_neg h1]
      obtain ⟨j, hj, e⟩ := nI_of h0
      have hj7 : j < tw := Nat.not_le.mp (fun q => h1 (by rw [e]; exact nI_le q hj))
      refine Or.inr ⟨j, hj7, ?_⟩
      rw [e, ← nI_add, ← pk_mul]
      rfl
theorem cp_l {f g : Nat → Int32} {a n k : Nat} (h : k < a) : va_cpy f g 0 a n k = g k := by
  unfold va_cpy
  rw [if_neg (by omega)]
theorem cp_i {f g : Nat → Int32} {a n k : Nat} (h : k < n) : va_cpy f g 0 a n (a + k) = f k := by
  unfold va_cpy
  rw [if_pos (by omega), show 0 + (a + k - a) = k by omega]
section
variable {st ts th be w0 w1 x0 x1 bu tk bu9 tk9 : Nat → Int32} {nn ck e g d : Nat} {z : Int32}
theorem pl_c {r : Nat} (hr : r < ck) : plO (upd st ck z) nn r (nI d) = plO st nn r (nI d) := by
  unfold plO
  rw [pk_un (by omega)]
theorem bs_c (hn : nn ≤ 7) (hc : ck ≤ 3) : ∀ r, r ≤ ck → bsS (upd st ck z) (va_cpy w0 ts 0 (ck * 7) 7) nn (nI d) r = bsS st ts nn (nI d) r
  | 0, _ => rfl
  | r + 1, hr => by
    rw [bsS, bsS, pl_c (by omega), bs_c hn hc r (by omega)]
    rcases plO_v (st := st) (dy := nI d) hn (show r < 3 by omega) with h | ⟨j, hj, h⟩
    · rw [if_pos h, if_pos h]
    · rw [h, nI_clamp (by omega), cp_l (by omega)]
theorem fh_c (hn : nn ≤ 7) (hc : ck ≤ 3) {hv v : Int32} : ∀ r, r ≤ ck → fhF (upd st ck z) (va_cpy w1 th 0 (ck * 7) 7) nn (nI d) hv v r = fhF st th nn (nI d) hv v r
  | 0, _ => rfl
  | r + 1, hr => by
    rw [fhF, fhF, pl_c (by omega), fh_c hn hc r (by omega)]
    rcases plO_v (st := st) (dy := nI d) hn (show r < 3 by omega) with h | ⟨j, hj, h⟩
    · rw [if_pos h, if_pos h]
    · rw [h, nI_clamp (by omega), cp_l (by omega)]
theorem st_n (h1 : g + nn = e + 1) (hn : 1 ≤ nn) : nI e - nI nn + 1 = nI g := by
  by_cases c : nn ≤ e
  · rw [pk_sub c, show (1 : Int32) = nI 1 from rfl, nI_add]
    exact congrArg nI (by omega)
  · have e1 : nn = e + 1 := by omega
    have e2 : g = 0 := by omega
    rw [e1, e2, ← nI_add]
    show nI e - (nI e + 1) + 1 = 0
    rw [← Int32.sub_sub, Int32.sub_self, Int32.sub_add_cancel]
theorem pl_n (hz : z = nI g) (hd : d < 100) (hg : g < 100) (hn : nn ≤ 7) : plO (upd st ck z) nn ck (nI d) = if g ≤ d ∧ d < g + nn then nI (ck * 7 + (d - g)) else -1 := by
  unfold plO
  rw [pk_us, hz]
  by_cases c : d < g
  · rw [if_pos (pk_sneg (by omega) c), if_neg (by omega)]
  · rw [pk_sub (by omega), if_neg (nI_pos (by omega))]
    by_cases c2 : nn ≤ d - g
    · rw [if_pos (nI_le c2 (by omega)), if_neg (by omega)]
    · rw [if_neg (fun q => absurd ((nI_leI (by omega) (by omega)).mp q) (by omega)), if_pos (by omega), ← nI_add, ← pk_mul]
      rfl
def TKR (nn ck : Nat) (st ts th bu tk : Nat → Int32) : Prop := ∀ d, d < 100 → bsS st ts nn (nI d) ck = bu d ∧ ∀ h, h < 7 → (∃ c, c ≤ ck ∧ tk (7 * d + h) = nI c) ∧ ∀ v, fhF st th nn (nI d) (nI h) v ck = v - tk (7 * d + h)
theorem TKR_0 (h : ZB bu tk 100 0) : TKR nn 0 st ts th bu tk := fun d hd => by
  have b := h.1 d hd
  refine ⟨b.symm, fun t ht => ?_⟩
  have c := h.2 d t ht (Or.inl hd)
  rw [c]
  exact ⟨⟨0, Nat.le_refl _, rfl⟩, fun v => (Int32.sub_zero v).symm⟩
theorem TKR_s (h : TKR nn ck st ts th bu tk) (hn1 : 1 ≤ nn) (hn : nn ≤ 7) (hc : ck < 3) (he : g + nn = e + 1) (h100 : e < 100) (hw : ∀ j, j < nn → w0 j = x0 j ∧ w1 j = x1 j) (hT : TKI bu tk x0 x1 g nn bu9 tk9) : TKR nn (ck + 1) (upd st ck (nI e - nI nn + 1)) (va_cpy w0 ts 0 (ck * 7) 7) (va_cpy w1 th 0 (ck * 7) 7) bu9 tk9 := fun d hd => by
  obtain ⟨a1, a2⟩ := h d hd
  have ez := st_n he hn1
  have ep := pl_n (st := st) (ck := ck) ez hd (show g < 100 by omega) hn
  have n1 : ∀ k : Nat, k < 100 → ¬ nI k = -1 := fun k hk q => nI_pos (n := k) (by omega) (by rw [q]; decide)
  refine ⟨?_, fun t ht => ?_⟩
  · rw [bsS, ep, bs_c hn (by omega) ck (Nat.le_refl _), a1, hT.1 d]
    by_cases c : g ≤ d ∧ d < g + nn
    · rw [if_pos c, if_pos c, if_neg (n1 _ (by omega)), nI_clamp (by omega), cp_i (by omega), (hw (d - g) (by omega)).1]
    · rw [if_neg c, if_neg c, if_pos rfl]
  · obtain ⟨⟨c9, hc9, ec9⟩, a3⟩ := a2 t ht
    rw [hT.2 d t ht]
    by_cases c : g ≤ d ∧ d < g + nn
    · have ei : va_cpy w1 th 0 (ck * 7) 7 (nI (ck * 7 + (d - g))).toNatClampNeg = x1 (d - g) := by rw [nI_clamp (by omega), cp_i (by omega), (hw (d - g) (by omega)).2]
      by_cases q : x1 (d - g) = nI t
      · rw [if_pos ⟨c, q⟩, ec9]
        refine ⟨⟨c9 + 1, by omega, nI_add c9 1⟩, fun v => ?_⟩
        rw [fhF, ep, if_pos c, if_neg (n1 _ (by omega)), ei, if_neg (fun k => k q), fh_c hn (by omega) ck (Nat.le_refl _), a3 v, ec9]
        exact (Int32.sub_eq_add_neg (v - nI c9) 1).symm.trans (Int32.sub_sub v (nI c9) 1)
      · rw [if_neg (fun k => q k.2)]
        refine ⟨⟨c9, by omega, ec9⟩, fun v => ?_⟩
        rw [fhF, ep, if_pos c, if_neg (n1 _ (by omega)), ei, if_pos q, fh_c hn (by omega) ck (Nat.le_refl _), a3 v]
    · rw [if_neg (fun k => c k.1)]
      refine ⟨⟨c9, by omega, ec9⟩, fun v => ?_⟩
      rw [fhF, ep, if_neg c, if_pos rfl, fh_c hn (by omega) ck (Nat.le_refl _), a3 v]
theorem fhS_v : ∀ n, n ≤ 7 → ∃ z9 : Nat, z9 < 128 ∧ fhS st th be nn ck (nI d) n = nI z9 ∧ ∀ t, t < 7 → (z9.testBit t = true ↔ t < n ∧ ¬ 0 < fhF st th nn (nI d) (nI t) (be t) ck)
  | 0, _ => ⟨0, by decide, rfl, fun t _ => ⟨fun q => by rw [Nat.zero_testBit] at q; exact absurd q (by decide), fun q => absurd q.1 (Nat.not_lt_zero t)⟩⟩
  | n + 1, hn => by
    obtain ⟨z9, h1, h2, h3⟩ := fhS_v n (by omega)
    rw [fhS, h2]
    by_cases c : 0 < fhF st th nn (nI d) (nI n) (be n) ck
    · rw [if_pos c]
      refine ⟨z9, h1, rfl, fun t ht => (h3 t ht).trans ⟨fun q => ⟨by omega, q.2⟩, fun q => ⟨?_, q.2⟩⟩⟩
      by_cases e : t = n
      · have q2 := q.2
        rw [e] at q2
        exact absurd c q2
      · omega
    · rw [if_neg c, (or_n z9 h1 n (by omega)).1]
      refine ⟨z9 ||| 2 ^ n, (or_n z9 h1 n (by omega)).2, rfl, fun t ht => ?_⟩
      rw [tb_p, h3 t ht]
      constructor
      · rintro (q | q)
        · exact ⟨by omega, q.2⟩
        · rw [← q]; exact ⟨by omega, c⟩
      · rintro ⟨q1, q2⟩
        by_cases e : t = n
        · exact Or.inr e.symm
        · exact Or.inl ⟨by omega, q2⟩
end
theorem sb_pos {b c : Nat} (hb : b < 2 ^ 30) (hc : c < 2 ^ 30) : 0 < nI b - nI c ↔ ¬ nI b ≤ nI c := by
  rw [nI_leI (by omega) (by omega), Int32.lt_iff_toInt_lt, pk_sub_toInt hb hc, show (0 : Int32).toInt = 0 from rfl]
  omega
section
variable {q : Nat → Nat} {G0 G1 G2 G3 lf cf cE t0 t1 t2 t3 t4 nz mt bu tk be st ts th bu9 tk9 st9 ts9 th9 : Nat → Int32} {ho sp np mp dy nn ck ck9 : Nat} {ia ib r1 r2 : Int32}
theorem op_ms (hR : RD q G0 G1 G2 G3 ho sp np mp t0 t1 t2 t3 t4 nz mt) (hN : NBr 0 2 (q 0) G0) (hq0 : q 0 ≤ 7) (hq1 : q 1 ≤ 7) (hw : ∀ a b l, wkA lf a b l = wkM nz np a b l) (e : cf = fcO q G0 G1 lf cE 100) (hB : BEx (q 0) G0 be) (hT : TKR nn ck st ts th bu tk) (hck : ck ≤ 3) {g k s h : Nat} (hg : g < 100) (hk : k ≤ g) (hs : s < 7) (hh : h < 7) : opb (q 1) cf st ts th be nn ck g k s h = true ↔ s < q 1 ∧ h < q 0 ∧ msB bu tk t1 (wkF nz np t0 t2) (g - k) s h = true := by
  have Z := ok_ms (bu := fun _ => 0) (tk := fun _ => 0) (k := k) hR hN hq0 hq1 hw e ⟨fun _ _ => rfl, fun _ _ _ _ => rfl⟩ hg hs hh
  obtain ⟨T1, T2⟩ := hT (g - k) (by omega)
  obtain ⟨⟨c9, hc9, ec9⟩, T3⟩ := T2 h hh
  have hC : CFB (q 1) cf := CFB_f hq0 hq1 e
  unfold opb opn
  rw [pk_sub hk, T1, in_hs]
  by_cases c : hsA (bu (g - k)) (nI s) = 0
  · rw [if_neg (show ¬ ¬ hsA (bu (g - k)) (nI s) = 0 from fun w => w c)]
    obtain ⟨v, hv, ev⟩ := ch_v hC (nI s) (nI (g - k)) hq1
    obtain ⟨z, hz, ez, bz⟩ : ∃ z : Nat, z < 128 ∧ fhR st th be nn ck (nI (g - k)) = nI z ∧ ∀ t, t < 7 → (lk z t = true ↔ ck = 0 ∨ 0 < fhF st th nn (nI (g - k)) (nI t) (be t) ck) := by
      unfold fhR
      by_cases c0 : ck = 0
      · rw [if_pos c0]
        exact ⟨0, by decide, rfl, fun t _ => ⟨fun _ => Or.inl c0, fun _ => by unfold lk; rw [Nat.zero_testBit]; rfl⟩⟩
      · rw [if_neg c0]
        obtain ⟨z, h1, h2, h3⟩ := fhS_v (st := st) (th := th) (be := be) (nn := nn) (ck := ck) (d := g - k) 7 (by decide)
        refine ⟨z, h1, h2, fun t ht => ?_⟩
        rw [lk_i, h3 t ht]
        constructor
        · intro w
          by_cases p : 0 < fhF st th nn (nI (g - k)) (nI t) (be t) ck
          · exact Or.inr p
          · exact absurd ⟨ht, p⟩ w
        · rintro (w | w) q2
          · exact c0 w
          · exact q2.2 w
    obtain ⟨u, hu, eu, bu9⟩ := an_nt hv hz
    rw [ev, ez, eu, nI_clamp (by omega), bu9 h hh, bz h hh]
    have ek : okE (q 1) cf g k s h = v.testBit h := by
      unfold okE
      rw [← ch_n (cf := cf) (d := g - k) hq1 hs (by omega), ev, nI_clamp (by omega)]
    rw [← ek, Z]
    have fr : h < q 0 → ((ck = 0 ∨ 0 < fhF st th nn (nI (g - k)) (nI h) (be h) ck) ↔ ¬ t1 h ≤ tk (7 * (g - k) + h)) := fun hq => by
      obtain ⟨b, hb1, hb2, eb⟩ := hN h hq 1 (by decide)
      have hb1 : 1 ≤ b := hb1
      have hb2 : b ≤ 4 := hb2
      rw [T3 (be h), hB h hq, (hR.2.1 h hq).2, eb, ec9, sb_pos (by omega) (by omega)]
      constructor
      · rintro (w | w)
        · rw [show c9 = 0 by omega]; exact nI_nle (n := b) (by omega) (by omega)
        · exact w
      · exact Or.inr
    have ms : h < q 0 → (msB bu tk t1 (wkF nz np t0 t2) (g - k) s h = true ↔ ¬ t1 h ≤ tk (7 * (g - k) + h) ∧ msB (fun _ => 0) (fun _ => 0) t1 (wkF nz np t0 t2) (g - k) s h = true) := fun hq => by
      obtain ⟨b, hb1, hb2, eb⟩ := hN h hq 1 (by decide)
      have hb1 : 1 ≤ b := hb1
      have hb2 : b ≤ 4 := hb2
      have t9 : ¬ t1 h ≤ 0 := by rw [(hR.2.1 h hq).2, eb]; exact nI_nle (n := b) (by omega) (by omega)
      have z9 : ¬ ¬ hsA ((fun _ => 0 : Nat → Int32) (g - k)) (nI s) = 0 := fun w => w (hsA_0 s hs)
      unfold msB
      rw [decide_eq_true_eq, decide_eq_true_eq]
      unfold msA
      rw [if_neg (show ¬ ¬ hsA (bu (g - k)) (nI s) = 0 from fun w => w c), if_neg z9, if_neg t9]
      by_cases p : t1 h ≤ tk (7 * (g - k) + h)
      · rw [if_pos p]; exact ⟨fun w => absurd w (by decide), fun w => absurd p w.1⟩
      · rw [if_neg p]; exact ⟨fun w => ⟨p, w⟩, fun w => w.2⟩
    constructor
    · rintro ⟨⟨a1, a2, a3⟩, a4⟩
      exact ⟨a1, a2, (ms a2).mpr ⟨(fr a2).mp a4, a3⟩⟩
    · rintro ⟨a1, a2, a3⟩
      obtain ⟨a4, a5⟩ := (ms a2).mp a3
      exact ⟨⟨a1, a2, a5⟩, (fr a2).mpr a4⟩
  · rw [if_pos c, show (0 : Int32).toNatClampNeg = 0 from rfl, Nat.zero_testBit]
    refine ⟨fun w => absurd w (by decide), fun w => ?_⟩
    have m := of_decide_eq_true w.2.2
    unfold msA at m
    rw [if_pos c] at m
    exact absurd m (by decide)
theorem ts_eq (hR : RD q G0 G1 G2 G3 ho sp np mp t0 t1 t2 t3 t4 nz mt) (hN : NBr 0 2 (q 0) G0) (hq0 : q 0 ≤ 7) (hq1 : q 1 ≤ 7) (hq3 : q 3 ≤ 3) (hw : ∀ a b l, wkA lf a b l = wkM nz np a b l) (e : cf = fcO q G0 G1 lf cE 100) (hn : 1 ≤ nn ∧ nn ≤ 7) (hB : BEx (q 0) G0 be) (hT : TKR nn ck st ts th bu tk) (hck : ck < 3) {m : Nat} (hm3 : m < q 3) (hx : TSc q G3 cf be dy nn m ck st ts th r1 ck9 st9 ts9 th9) (hm : TSm (fun b9 k9 => msB b9 k9 t1 (wkF nz np t0 t2)) (q 1) (q 0) dy nn mt m bu tk r2 bu9 tk9) : r1 = r2 ∧ ck9 ≤ ck + 1 ∧ TKR nn ck9 st9 ts9 th9 bu9 tk9 := by
  have no : ∀ a : Nat, a < 2 ^ 31 → nI a = -1 → False := fun a ha q => nI_pos (n := a) ha (by rw [q]; decide)
  obtain ⟨f9, u9, hf, hu, ef, eu, hx⟩ := hx
  obtain ⟨u8, r9, hu8, eu8, ⟨f8, hf8, ef8, hS⟩, hm⟩ := hm
  have e2 : f8 = f9 := by
    have k : pt (q 3) G3 (nI m) 0 = mt (4 * m) := (pt_in hm3 (by omega)).trans (hR.2.2.2.2 m hm3 0 (by decide)).symm
    exact (nI_eq (by omega) (by omega)).mp (ef8.symm.trans (k.symm.trans ef))
  have e3 : u8 = u9 := by
    have k : pt (q 3) G3 (nI m) 1 = mt (4 * m + 1) := (pt_in hm3 (by omega)).trans (hR.2.2.2.2 m hm3 1 (by decide)).symm
    exact (nI_eq (by omega) (by omega)).mp (eu8.symm.trans (k.symm.trans eu))
  subst e2
  subst e3
  have hO : ∀ g, g < 100 → nn ≤ g + 1 → ∀ k s h, k < nn → s < 7 → h < 7 → (opb (q 1) cf st ts th be nn ck g k s h = true ↔ s < q 1 ∧ h < q 0 ∧ msB bu tk t1 (wkF nz np t0 t2) (g - k) s h = true) := fun g hg hn9 k s h hk hs hh => op_ms hR hN hq0 hq1 hw e hB hT (by omega) hg (by omega) hs hh
  have L : ∀ d g, d < 100 → g + nn = d + 1 → (NXr (q 1) cf st ts th be nn ck d ↔ FS (msB bu tk t1 (wkF nz np t0 t2)) (q 1) (q 0) nn g 0 0) := fun d g hd hg => by
    rw [FB (e := d) (ok := opb (q 1) cf st ts th be nn ck d) hq1 hq0 nn g 0 0 hg (fun k s h hk hs hh => hO d hd (by omega) k s h hk hs hh)]
    unfold NXr
    exact ⟨fun ⟨w, x, b⟩ => ⟨w, x, b, fun i k => by rw [Nat.zero_testBit] at k; exact absurd k.2 (by decide), fun i k => by rw [Nat.zero_testBit] at k; exact absurd k.2 (by decide)⟩, fun ⟨w, x, b, _⟩ => ⟨w, x, b⟩⟩
  rcases hx with ⟨x1, rfl, rfl, rfl, rfl, x6⟩ | ⟨d, w0, w1, x1, x2, x3, x4, x5, ⟨W, X, x6⟩, rfl, rfl, rfl, rfl⟩
  · rcases hm with ⟨m1, rfl, rfl, -⟩ | ⟨g, v0, v1, m1, m2, m3, m4, m5, m6⟩
    · exact ⟨by rw [x1, m1], by omega, hT⟩
    · exfalso
      rcases hS with ⟨s1, -⟩ | ⟨g2, s1, s2, s3, s4, s5⟩
      · exact no g (by omega) (m1.symm.trans s1)
      · have e4 : g2 = g := (nI_eq (by omega) (by omega)).mp (s1.symm.trans m1)
        subst e4
        exact x6 (g2 + nn - 1) (by omega) (by omega) ((L (g2 + nn - 1) g2 (by omega) (by omega)).mpr s4)
  · have en : nn ≤ q 1 ∧ nn ≤ q 0 := by
      obtain ⟨w, x, b⟩ := x4
      obtain ⟨i1, i2, i3⟩ := BS_lt (A := q 1) (B := q 0) (ok := fun k s h => opb (q 1) cf st ts th be nn ck d k s h && decide (k < nn)) (fun k s h hs hh ho => by
        rw [Bool.and_eq_true, decide_eq_true_eq] at ho
        have w9 := (hO d (by omega) (by omega) k s h ho.2 hs hh).mp ho.1
        exact ⟨w9.1, w9.2.1⟩) (BS_c (fun k s h hk _ _ => by rw [decide_eq_true hk, Bool.and_true]) b)
      have j1 := bcn_lt (q 1) hq1 w i1
      have j2 := bcn_lt (q 0) hq0 x i2
      rw [(BS_b b).1] at j1
      rw [i3] at j2
      exact ⟨j1, j2⟩
    have f := (L d (d + 1 - nn) (by omega) (by omega)).mp x4
    rcases hS with ⟨s1, s2⟩ | ⟨g, s1, s2, s3, s4, s5⟩
    · exfalso
      rcases s2 with s2 | s2
      · exact s2 en
      · exact s2 (d + 1 - nn) (by omega) (by omega) f
    · have g1 : g = d + 1 - nn := by
        by_cases c1 : g < d + 1 - nn
        · exact absurd ((L (g + nn - 1) g (by omega) (by omega)).mpr s4) (x5 _ (by omega) (by omega))
        · by_cases c2 : d + 1 - nn < g
          · exact absurd f (s5 _ (by omega) c2)
          · omega
      rcases hm with ⟨m1, -, -, m4⟩ | ⟨g2, v0, v1, m1, m2, m3, m4, ⟨W2, X2, m5⟩, m6⟩
      · exfalso
        rcases m4 with m4 | ⟨g3, h3, m4, m5⟩
        · exact no g (by omega) (s1.symm.trans m4)
        · have := (nI_eq (by omega) (by omega)).mp (m4.symm.trans s1)
          omega
      · have e4 : g2 = g := (nI_eq (by omega) (by omega)).mp (m1.symm.trans s1)
        have hr := (RW_u hq1 hq0 (show g2 + nn = d + 1 by omega) (hO d (by omega) (by omega)) x6 m5).2.2
        refine ⟨by rw [x1, m3]; exact congrArg nI (by omega), Nat.le_refl _, ?_⟩
        exact TKR_s hT hn.1 hn.2 hck (show g2 + nn = d + 1 by omega) (by omega) hr m6
theorem gm_eq (hR : RD q G0 G1 G2 G3 ho sp np mp t0 t1 t2 t3 t4 nz mt) (hN : NBr 0 2 (q 0) G0) (hq0 : q 0 ≤ 7) (hq1 : q 1 ≤ 7) (hq3 : q 3 ≤ 3) (hw : ∀ a b l, wkA lf a b l = wkM nz np a b l) (e : cf = fcO q G0 G1 lf cE 100) (hn : 1 ≤ nn ∧ nn ≤ 7) (hB : BEx (q 0) G0 be) {o : Nat → Nat} : ∀ k {ck : Nat} {st ts th te bu tk eq : Nat → Int32} {sm s2 : Int32}, k ≤ 3 → (∀ i, i < k → o i < q 3) → GC q G3 cf be dy nn o k ck st ts th te sm → GMr (fun b9 k9 => msB b9 k9 t1 (wkF nz np t0 t2)) (q 1) (q 0) dy nn mt o k bu tk eq s2 → ck ≤ k ∧ TKR nn ck st ts th bu tk ∧ sm = s2 ∧ ∀ i, i < k → te (o i) = eq (o i)
  | 0, ck, st, ts, th, te, bu, tk, eq, sm, s2, _, _, h, k => by
    rw [h.1, h.2, k.2]
    exact ⟨Nat.le_refl _, TKR_0 k.1, rfl, fun i hi => absurd hi (Nat.not_lt_zero i)⟩
  | k + 1, ck, st, ts, th, te, bu, tk, eq, sm, s2, hk, ho, ⟨ck1, st1, ts1, th1, te1, sm1, r, c1, c2, c3, c4⟩, ⟨bu1, tk1, eq1, sm2, r2, d1, d2, d3, d4⟩ => by
    obtain ⟨i1, i2, i3, i4⟩ := gm_eq hR hN hq0 hq1 hq3 hw e hn hB k (by omega) (fun i hi => ho i (by omega)) c1 d1
    have om := ho k (by omega)
    obtain ⟨j1, j2, j3⟩ := ts_eq hR hN hq0 hq1 hq3 hw e hn hB i2 (by omega) om c2 d2
    refine ⟨by omega, j3, ?_, fun i hi => ?_⟩
    · rw [c4, d4, i3, j1]
      unfold WSc WSm
      have p : ∀ w, w < 4 → pt (q 3) G3 (nI (o k)) w = mt (4 * o k + w) := fun w hw => (pt_in om (by omega)).trans (hR.2.2.2.2 (o k) om w hw).symm
      rw [p 0 (by decide), p 2 (by decide), p 3 (by decide), Int32.add_zero]
      rfl
    · rw [c3, d3, j1]
      by_cases q9 : o i = o k
      · rw [q9, pk_us, pk_us]
      · rw [pk_un q9, pk_un q9]
        refine i4 i ?_
        by_cases z : i = k
        · rw [z] at q9; exact absurd rfl q9
        · omega
end
theorem sub_n {x : Int32} {d j : Nat} (h : ¬ x < nI d) (e : x - nI d = nI j) (hd : d < 2 ^ 30) (hj : j < 2 ^ 30) : x = nI (j + d) := by
  have h3 : nI d ≤ x := Int32.not_lt.mp h
  have h2 : ¬ x < 0 := fun q => absurd (Int32.lt_of_le_of_lt h3 q) (nI_pos (by omega))
  obtain ⟨i, hi, rfl⟩ := nI_of h2
  have h4 : d ≤ i := (nI_leI (by omega) hi).mp h3
  rw [pk_sub h4] at e
  have := (nI_eq (by omega) (by omega)).mp e
  exact congrArg nI (by omega)
theorem tg_eq {q : Nat → Nat} {G0 G1 G2 G3 lf cf cE t0 t1 t2 t3 t4 nz mt be od en : Nat → Int32} {ho sp np mp dy nn : Nat} {ia r1 r2 ga : Int32} (hR : RD q G0 G1 G2 G3 ho sp np mp t0 t1 t2 t3 t4 nz mt) (hN : NBr 0 2 (q 0) G0) (hq0 : q 0 ≤ 7) (hq1 : q 1 ≤ 7) (hq3 : q 3 ≤ 3) (hw : ∀ a b l, wkA lf a b l = wkM nz np a b l) (e : cf = fcO q G0 G1 lf cE 100) (hn : 1 ≤ nn ∧ nn ≤ 7) (hB : BEx (q 0) G0 be) (hx : TGs q G3 cf be nn dy ga od en ia r1) (hm : TGm (fun b9 k9 => msB b9 k9 t1 (wkF nz np t0 t2)) (q 3) (q 1) (q 0) dy nn mt ia r2) : r1 = r2 := by
  have ne : ∀ {a b : Nat}, a < 1000 → b < 1000 → ia = nI a → ia = nI b → a = b := fun ha hb h k => (nI_eq (by omega) (by omega)).mp (h.symm.trans k)
  have z0 : ia = 0 → ia = nI 0 := fun h => h
  have X : ∀ i v w te t9, i < oc6 (q 3) → GJ q G3 cf be dy nn i v te → GRr (fun b9 k9 => msB b9 k9 t1 (wkF nz np t0 t2)) (q 1) (q 0) dy nn mt (q 3) i w t9 → v = w ∧ ∀ k, k < q 3 → te k = t9 k := fun i v w te t9 hi ⟨ck, st, ts, th, h1⟩ ⟨bu, tk, k1⟩ => by
    obtain ⟨-, -, a3, a4⟩ := gm_eq hR hN hq0 hq1 hq3 hw e hn hB (q 3) hq3 (fun j hj => ord_b2 (q 3) (by omega) i hi j hj) h1 k1
    refine ⟨a3, fun k hk => ?_⟩
    obtain ⟨j, hj, ej⟩ := ord_s (q 3) (by omega) i hi k hk
    have := a4 j hj
    rw [ej] at this
    exact this
  rcases hx with ⟨x1, x2, x3, x4⟩ | ⟨hP, hx⟩
  · rcases hm with ⟨m1, -⟩ | ⟨bs, bo, bz, -, hm⟩
    · rw [x1, m1]
    · exfalso
      rcases hm with ⟨m1, -⟩ | ⟨jw, j1, j2, j3, -⟩ | ⟨jw, j1, j2, j3, -⟩
      · exact x2 m1
      · rw [j3] at x3
        rcases x3 with x3 | x3
        · exact absurd ((nI_ltI (b := 1) (by omega) (by decide)).mp x3) (by omega)
        · rw [show nI jw - 1 = nI jw - nI 1 from rfl, pk_sub j1] at x3
          exact absurd ((nI_leI (by omega) (by omega)).mp x3) (by omega)
      · rw [j3] at x4
        rcases x4 with x4 | x4
        · exact absurd ((nI_ltI (b := 11) (by omega) (by decide)).mp x4) (by omega)
        · rw [show nI jw - 11 = nI jw - nI 11 from rfl, pk_sub j1] at x4
          exact absurd ((nI_leI (by omega) (by omega)).mp x4) (by omega)
  · rcases hm with ⟨-, m2, m3, m4⟩ | ⟨bs, bo, bz, hM, hm⟩
    · exfalso
      rcases hx with ⟨jo, o1, o2, o3, -⟩ | ⟨je, o1, o2, o3, -⟩ | ⟨o1, -⟩
      · have ei := sub_n (d := 1) o2 o3 (by decide) (by omega)
        rw [ei] at m3
        rcases in_eq (a := 1) (b := nI (q 3)) rfl rfl m3 with w | w
        · exact absurd ((nI_ltI (b := 1) (by omega) (by decide)).mp w) (by omega)
        · exact absurd ((nI_ltI (by omega) (by omega)).mp w) (by omega)
      · have ei := sub_n (d := 11) o2 o3 (by decide) (by omega)
        rw [ei] at m4
        rcases in_eq (a := 11) (b := nI (10 + q 3)) rfl rfl m4 with w | w
        · exact absurd ((nI_ltI (b := 11) (by omega) (by decide)).mp w) (by omega)
        · exact absurd ((nI_ltI (by omega) (by omega)).mp w) (by omega)
      · exact m2 o1
    · obtain ⟨e1, e2⟩ := PB_u hP hM X
      rcases hx with ⟨jo, o1, o2, o3, o4⟩ | ⟨je, o1, o2, o3, o4⟩ | ⟨o1, o4⟩
      · have ei := sub_n (d := 1) o2 o3 (by decide) (by omega)
        rcases hm with ⟨m1, -⟩ | ⟨jw, j1, j2, j3, j4⟩ | ⟨jw, j1, j2, j3, -⟩
        · have := ne (by omega) (by decide) ei (z0 m1); omega
        · have := ne (by omega) (by omega) ei j3
          rw [o4, j4, (e2 jo o1).1, show jw - 1 = jo by omega]
        · have := ne (by omega) (by omega) ei j3; omega
      · have ei := sub_n (d := 11) o2 o3 (by decide) (by omega)
        rcases hm with ⟨m1, -⟩ | ⟨jw, j1, j2, j3, -⟩ | ⟨jw, j1, j2, j3, j4⟩
        · have := ne (by omega) (by decide) ei (z0 m1); omega
        · have := ne (by omega) (by omega) ei j3; omega
        · have := ne (by omega) (by omega) ei j3
          rw [o4, j4, (e2 je o1).2, show jw - 11 = je by omega]
      · rcases hm with ⟨-, m2⟩ | ⟨jw, j1, j2, j3, -⟩ | ⟨jw, j1, j2, j3, -⟩
        · rw [o4, m2, e1]
        · have := ne (by decide) (by omega) (z0 o1) j3; omega
        · have := ne (by decide) (by omega) (z0 o1) j3; omega

def JN (k : Nat → ClassId) (x y i : Nat) (wx wm : va_W) : Prop := ∃ (xpn : Nat → Nat) (xpi : Nat → Int32) (xpr : Nat → Nat → Nat) (xpf : Nat → Nat → Int32) (xpl : Nat → Nat → Int64) (ypn : Nat → Nat) (ypi : Nat → Int32) (ypf : Nat → Nat → Int32), XI k x (xpn 0) (xpf 0) (xpr 0) (xpf 1) (xpf 2) (xpf 3) (xpf 4) (xpf 5) (xpf 6) (xpr 1) (xpn 1) (xpn 2) (xpi 0) (xpi 1) (xpf 7) (xpf 8) (xpf 9) (xpf 10) (xpf 11) (xpf 12) (xpf 13) (xpi 2) (xpn 3) (xpi 3) (xpf 14) (xpf 15) (xpf 16) (xpf 17) (xpf 18) (xpf 19) (xpf 20) (xpi 4) (xpn 4) (xpi 5) (xpf 21) (xpf 22) (xpf 23) (xpf 24) (xpf 25) (xpf 26) (xpf 27) (xpi 6) (xpn 5) (xpi 7) (xpf 28) (xpn 6) (xpf 29) (xpf 30) (xpf 31) (xpi 8) (xpf 32) (xpf 33) (xpl 0) (xpi 9) (xpi 10) (xpi 11) (xpi 12) (xpf 34) (xpf 35) (xpf 36) wx ∧ MI k y (ypn 0) (ypn 1) (ypn 2) (ypn 3) (ypn 4) (ypn 5) (ypn 6) (ypn 7) (ypi 0) (ypi 1) (ypi 2) (ypi 3) (ypi 4) (ypi 5) (ypf 0) (ypf 1) (ypf 2) (ypf 3) (ypf 4) (ypf 5) (ypf 6) (ypf 7) (ypf 8) (ypf 9) (ypf 10) (ypf 11) (ypf 12) (ypf 13) (ypf 14) (ypf 15) (ypf 16) (ypf 17) (ypf 18) (ypf 19) (ypf 20) wm ∧ BX i (xpn 0) (xpr 0) (xpr 1) (xpf 4) (xpn 1) (xpn 2) (xpn 3) (xpn 4) (xpn 5) (xpn 6) (xpf 36) (xpf 6) (xpf 33) (xpl 0) (xpf 1) (xpf 32) (xpi 9) (xpi 11) (xpi 10) (xpf 34) (xpf 35) ∧ BM i (ypn 5) (ypn 0) (ypn 1) (ypn 2) (ypn 3) (ypn 4) (ypi 1) (ypf 13) (ypf 14) (ypf 6) (ypn 7) (ypn 6) (ypf 19) (ypf 20) (ypf 16) ∧ (ypn 5) = (xpn 0) ∧ (ypf 15) = (xpf 0) ∧ (∀ j, ¬ (xpf 0) j < 0) ∧ (ypi 5) = (xpi 8) ∧ RD (xpr 0) (xpf 1) (xpf 2) (xpf 3) (xpf 4) (ypn 0) (ypn 1) (ypn 2) (ypn 3) (ypf 0) (ypf 1) (ypf 2) (ypf 3) (ypf 4) (ypf 5) (ypf 6) ∧ (ypn 7) = (xpn 3) ∧ (ypn 6) = (xpn 6) ∧ (ypf 17) = (xpf 28) ∧ ((ypf 16) 24 = nI (xpn 4) ∧ (ypf 16) 54 = nI (xpn 5)) ∧ TN (xpr 0) (xpf 1) (xpf 2) (xpf 3) (xpf 4) ∧ (∃ zE : Nat → Int32, (xpf 5) = snI zE (xpf 3) ((xpr 0) 2)) ∧ (∃ zE : Nat → Int32, (xpf 6) = fcO (xpr 0) (xpf 1) (xpf 2) (xpf 5) zE 100) ∧ ((ypf 18) = (xpf 29) ∧ (ypf 19) = (xpf 30) ∧ (ypf 20) = (xpf 31)) ∧ BWr (xpr 0) (xpn 6) (xpf 30) (xpf 31) ∧ CR (xpr 0) (xpf 7) (xpf 8) (xpf 9) (xpf 10) (xpf 11) (xpf 12) (xpf 13) (ypf 7) (ypf 8) (ypf 9) (ypf 10) (ypf 11) (ypf 12) (ypf 13) (ypf 14) ∧ (ypi 3) = (xpi 2) ∧ ((ypi 4) = (xpi 3) ∧ ¬ (xpi 3) < 0) ∧ ((ypn 4) = (xpn 1) ∧ yeF (nI (ypn 4)) (ypi 1) = nI (xpn 2) ∧ (ypi 2) = (xpi 0)) ∧ IR (xpr 0) ((xpf 28) 0) (xpf 14) (xpf 15) (xpf 16) (xpf 17) (xpf 18) (xpf 19) (xpf 20) (fun j => (ypf 16) (0 + j)) (fun j => (ypf 16) (3 + j)) (fun j => (ypf 16) (6 + j)) (fun j => (ypf 16) (9 + j)) (fun j => (ypf 16) (12 + j)) (fun j => (ypf 16) (15 + j)) (fun j => (ypf 16) (18 + j)) (fun j => (ypf 16) (21 + j)) ((ypf 16) 25) (xpi 4) ((ypf 16) 26) (xpi 5) ∧ IR (xpr 0) ((xpf 28) 1) (xpf 21) (xpf 22) (xpf 23) (xpf 24) (xpf 25) (xpf 26) (xpf 27) (fun j => (ypf 16) (30 + j)) (fun j => (ypf 16) (33 + j)) (fun j => (ypf 16) (36 + j)) (fun j => (ypf 16) (39 + j)) (fun j => (ypf 16) (42 + j)) (fun j => (ypf 16) (45 + j)) (fun j => (ypf 16) (48 + j)) (fun j => (ypf 16) (51 + j)) ((ypf 16) 55) (xpi 6) ((ypf 16) 56) (xpi 7)