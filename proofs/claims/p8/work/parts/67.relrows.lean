
theorem tb_S : ∀ o, o < 128 → ∀ h, h < 7 → (o.testBit h = true ↔ ¬ inS (nI o) (nI h) = 0) := by decide +kernel
theorem hsA_0 : ∀ s, s < 7 → hsA 0 (nI s) = 0 := by decide +kernel
section
variable {q : Nat → Nat} {G0 G1 G2 G3 lf cf cE t0 t1 t2 t3 t4 nz mt bu tk : Nat → Int32} {ho sp np mp dy : Nat} {ia ib r1 r2 : Int32}
theorem CFB_f (hq0 : q 0 ≤ 7) (hq1 : q 1 ≤ 7) (e : cf = fcO q G0 G1 lf cE 100) : CFB (q 1) cf := fun d s hd hs => by
  rw [e, fcO_v hq1 hs 100 hd]
  obtain ⟨o, ho, eo, -⟩ := cl_S (q := q) (G0 := G0) (G1 := G1) (lf := lf) (d := d) (s9 := s) (q 0) hq0
  exact ⟨o, ho, eo⟩
theorem ok_ms (hR : RD q G0 G1 G2 G3 ho sp np mp t0 t1 t2 t3 t4 nz mt) (hN : NBr 0 2 (q 0) G0) (hq0 : q 0 ≤ 7) (hq1 : q 1 ≤ 7) (hw : ∀ a b l, wkA lf a b l = wkM nz np a b l) (e : cf = fcO q G0 G1 lf cE 100) (hZ : ZB bu tk 100 0) {d k s h : Nat} (hd : d < 100) (hs : s < 7) (hh : h < 7) : okE (q 1) cf d k s h = true ↔ s < q 1 ∧ h < q 0 ∧ msB bu tk t1 (wkF nz np t0 t2) (d - k) s h = true := by
  unfold okE chE
  by_cases c : s < q 1
  · rw [if_pos c, e, fcO_v hq1 c 100 (by omega)]
    obtain ⟨o, ho, eo, hq⟩ := cl_S (q := q) (G0 := G0) (G1 := G1) (lf := lf) (d := d - k) (s9 := s) (q 0) hq0
    rw [eo, nI_clamp (by omega), tb_S o ho h hh, hq h hh]
    have nn : ∀ p : Prop, ¬ ¬ p ↔ p := fun p => ⟨fun w => Classical.byContradiction w, fun w k => k w⟩
    rw [nn]
    refine ⟨fun w => ⟨c, w.1, ?_⟩, fun w => ⟨w.2.1, ?_⟩⟩
    · have p0 : pt (q 0) G0 (nI h) 0 = t0 h := (pt_in w.1 (by omega)).trans (hR.2.1 h w.1).1.symm
      have p1 : pt (q 1) G1 (nI s) 0 = t2 s := (pt_in c (by omega)).trans (hR.2.2.1 s c).1.symm
      have w2 := w.2
      rw [p0, p1, hw] at w2
      obtain ⟨v, hv1, hv, ev⟩ := hN h w.1 1 (by decide)
      have hv1 : 1 ≤ v := hv1
      have hv : v ≤ 4 := hv
      refine decide_eq_true ?_
      unfold msA
      rw [hZ.1 (d - k) (by omega), if_neg (show ¬ ¬ hsA 0 (nI s) = 0 from fun w => w (hsA_0 s hs)), hZ.2 (d - k) h hh (Or.inl (by omega)), (hR.2.1 h w.1).2, ev, if_neg (nI_nle (by omega) (by omega))]
      exact if_pos w2
    · have p0 : pt (q 0) G0 (nI h) 0 = t0 h := (pt_in w.2.1 (by omega)).trans (hR.2.1 h w.2.1).1.symm
      have p1 : pt (q 1) G1 (nI s) 0 = t2 s := (pt_in c (by omega)).trans (hR.2.2.1 s c).1.symm
      rw [p0, p1, hw]
      have m := of_decide_eq_true w.2.2
      unfold msA at m
      by_cases g1 : ¬ hsA (bu (d - k)) (nI s) = 0
      · rw [if_pos g1] at m; exact absurd m (by decide)
      · rw [if_neg g1] at m
        by_cases g2 : t1 h ≤ tk (7 * (d - k) + h)
        · rw [if_pos g2] at m; exact absurd m (by decide)
        · rw [if_neg g2] at m
          by_cases g3 : wkF nz np t0 t2 (d - k) s h = 0
          · exact g3
          · rw [if_neg g3] at m; exact absurd m (by decide)
  · rw [if_neg c]
    exact ⟨fun w => by rw [show (0 : Int32).toNatClampNeg = 0 from rfl, Nat.zero_testBit] at w; exact absurd w (by decide), fun w => absurd w.1 c⟩
/-- a row that ends is a row that begins -/
theorem LE_FS (hR : RD q G0 G1 G2 G3 ho sp np mp t0 t1 t2 t3 t4 nz mt) (hN : NBr 0 2 (q 0) G0) (hq0 : q 0 ≤ 7) (hq1 : q 1 ≤ 7) (hw : ∀ a b l, wkA lf a b l = wkM nz np a b l) (e : cf = fcO q G0 G1 lf cE 100) (hZ : ZB bu tk 100 0) {d n g : Nat} (hd : d < 100) (hg : g + n = d + 1) : LE (q 1) cf d n ↔ FS (msB bu tk t1 (wkF nz np t0 t2)) (q 1) (q 0) n g 0 0 := by
  rw [FB hq1 hq0 n g 0 0 hg (fun k s h _ hs hh => ok_ms hR hN hq0 hq1 hw e hZ hd hs hh)]
  unfold LE
  exact ⟨fun ⟨w, x, b⟩ => ⟨w, x, b, fun i k => by rw [Nat.zero_testBit] at k; exact absurd k.2 (by decide), fun i k => by rw [Nat.zero_testBit] at k; exact absurd k.2 (by decide)⟩, fun ⟨w, x, b, _⟩ => ⟨w, x, b⟩⟩
theorem BS_lt {ok : Nat → Nat → Nat → Bool} {A B : Nat} (hk : ∀ k s h, s < 7 → h < 7 → ok k s h = true → s < A ∧ h < B) : ∀ {n w x}, BS ok n w x → w < 2 ^ A ∧ x < 2 ^ B ∧ bcn x = n
  | 0, w, x, h => by rw [h.1, h.2]; exact ⟨Nat.two_pow_pos A, Nat.two_pow_pos B, bcn0z⟩
  | n + 1, w, x, ⟨w0, x0, s, t, a1, a2, a3, a4, a5, a6, a7, a8, a9, b1⟩ => by
    obtain ⟨i1, i2, i3⟩ := BS_lt hk b1
    obtain ⟨k1, k2⟩ := hk n s t a3 a4 a9
    rw [a7, a8, (or_b x0 a2 t a4 a6).1, i3]
    exact ⟨Nat.or_lt_two_pow i1 (Nat.pow_lt_pow_right (by decide) k1), Nat.or_lt_two_pow i2 (Nat.pow_lt_pow_right (by decide) k2), rfl⟩
theorem bcn_lt : ∀ A, A ≤ 7 → ∀ w, w < 2 ^ A → bcn w ≤ A := by decide +kernel
theorem LE_en (hq0 : q 0 ≤ 7) (hq1 : q 1 ≤ 7) (hk : ∀ k s h, s < 7 → h < 7 → okE (q 1) cf dy k s h = true → s < q 1 ∧ h < q 0) {n : Nat} (h : LE (q 1) cf dy n) : n ≤ q 1 ∧ n ≤ q 0 := by
  obtain ⟨w, x, b⟩ := h
  obtain ⟨i1, i2, i3⟩ := BS_lt hk b
  have j1 := bcn_lt (q 1) hq1 w i1
  have j2 := bcn_lt (q 0) hq0 x i2
  rw [(BS_b b).1] at j1
  rw [i3] at j2
  exact ⟨j1, j2⟩
theorem tr_eq (hR : RD q G0 G1 G2 G3 ho sp np mp t0 t1 t2 t3 t4 nz mt) (hN : NBr 0 2 (q 0) G0) (hq0 : q 0 ≤ 7) (hq1 : q 1 ≤ 7) (hq3 : q 3 ≤ 3) (hw : ∀ a b l, wkA lf a b l = wkM nz np a b l) (e : cf = fcO q G0 G1 lf cE 100) (hx : TRs q G3 cf dy ia ib r1) (hm : TRm (q 3) (q 1) (q 0) dy mt t1 bu tk (wkF nz np t0 t2) ia ib r2) : r1 = r2 := by
  unfold TRm at hm
  rw [is_hs (by omega)] at hm
  have no : ∀ n : Nat, ib = nI n → 1 ≤ n → n ≤ 7 → ¬ (ib < 1 ∨ 7 < ib) := by
    intro n e h1 h2 h
    rw [e] at h
    rcases h with h | h
    · exact absurd ((nI_ltI (b := 1) (by omega) (by decide)).mp h) (by omega)
    · exact absurd ((nI_ltI (a := 7) (by decide) (by omega)).mp h) (by omega)
  rcases hx with ⟨x1, x2⟩ | ⟨x1, x2, x3⟩ | ⟨x1, n, f9, en, n1, n7, hf, ef, hS⟩
  · rcases hm with ⟨-, y2⟩ | ⟨y1, -⟩ | ⟨-, a, n, ha, ea, -⟩
    · rw [x2, y2]
    · exact absurd x1 y1
    · rw [ea, hs_in ha (by omega)] at x1; exact absurd x1 (by decide)
  · rcases hm with ⟨y1, -⟩ | ⟨-, -, y3⟩ | ⟨-, a, n, ha, ea, en, n1, n7, -⟩
    · exact absurd y1 x1
    · rw [x3, y3]
    · exact absurd x2 (no n en n1 n7)
  · rcases hm with ⟨y1, -⟩ | ⟨-, y2, -⟩ | ⟨hZ, a, n2, ha, ea, en2, m1, m7, r9, ⟨f8, hf8, ef8, hB⟩, hr⟩
    · exact absurd y1 x1
    · exact absurd y2 (no n en n1 n7)
    · have e1 : n2 = n := (nI_eq (by omega) (by omega)).mp (en2.symm.trans en)
      subst e1
      have e2 : f8 = f9 := by
        have k : pt (q 3) G3 ia 0 = mt (4 * a) := by rw [ea]; exact (pt_in ha (by omega)).trans (hR.2.2.2.2 a ha 0 (by decide)).symm
        exact (nI_eq (by omega) (by omega)).mp (ef8.symm.trans (k.symm.trans ef))
      subst e2
      have L : ∀ d g, d < 100 → g + n2 = d + 1 → (LE (q 1) cf d n2 ↔ FS (msB bu tk t1 (wkF nz np t0 t2)) (q 1) (q 0) n2 g 0 0) := fun d g hd hg => LE_FS hR hN hq0 hq1 hw e hZ hd hg
      rcases hS with ⟨s1, s2⟩ | ⟨d, s1, s2, s3, s4, s5⟩
      · rcases hB with ⟨b1, -⟩ | ⟨g, b1, b2, b3, b4, -⟩
        · rcases hr with ⟨-, hr⟩ | ⟨g, hg, hr⟩
          · rw [s1, hr]
          · rw [b1] at hr
            exact absurd (show nI g < 0 by rw [← hr.1]; decide) (nI_pos (by omega))
        · exact absurd ((L (g + n2 - 1) g (by omega) (by omega)).mpr b4) (s2 _ (by omega) (by omega))
      · have en := LE_en hq0 hq1 (fun k s h hs hh ho => by have w := (ok_ms hR hN hq0 hq1 hw e hZ (by omega) hs hh).mp ho; exact ⟨w.1, w.2.1⟩) s4
        have f := (L d (d + 1 - n2) (by omega) (by omega)).mp s4
        rcases hB with ⟨-, b2⟩ | ⟨g, b1, b2, b3, b4, b5⟩
        · exfalso
          rcases b2 with b2 | b2
          · exact b2 en
          · exact b2 (d + 1 - n2) (by omega) (by omega) f
        · have g1 : g = d + 1 - n2 := by
            by_cases c1 : g < d + 1 - n2
            · exact absurd ((L (g + n2 - 1) g (by omega) (by omega)).mpr b4) (s5 _ (by omega) (by omega))
            · by_cases c2 : d + 1 - n2 < g
              · exact absurd f (b5 _ (by omega) c2)
              · omega
          rcases hr with ⟨hr, -⟩ | ⟨g2, hg2, hr, hr2⟩
          · rw [b1] at hr
            exact absurd (show nI g < 0 by rw [hr]; decide) (nI_pos (by omega))
          · have g3 : g2 = g := (nI_eq (by omega) (by omega)).mp (hr.symm.trans b1)
            rw [s1, hr2, g3, g1]
            exact congrArg nI (by omega)
end
theorem AK_D {q : Nat → Nat} {cf : Nat → Int32} {av : Nat → Nat} : ∀ D d, d < D → ∀ j, j < caI q cf av D d → ∀ s, s < q 1 → cf ((d - j) * 7 + s) = cf (d * 7 + s)
  | 0, d, h, _, _, _, _ => absurd h (Nat.not_lt_zero d)
  | D + 1, d, h, j, hj, s, hs => by
    rw [caI] at hj
    by_cases e : d = D
    · rw [e, up_s] at hj
      unfold caV at hj
      by_cases c0 : D = 0
      · rw [if_pos c0] at hj; rw [show j = 0 by omega]; rfl
      · rw [if_neg c0] at hj
        by_cases c1 : ilA q cf D = 0
        · rw [if_pos c1] at hj; rw [show j = 0 by omega]; rfl
        · rw [if_neg c1] at hj
          have r : rn (ilP cf D) (q 1) 0 = q 1 := by
            by_cases g : rn (ilP cf D) (q 1) 0 = q 1
            · exact g
            · exact absurd (if_neg g) c1
          have al := (rn_get (p := ilP cf D) (n := q 1) _ 0 rfl (Nat.zero_le _)).1 s (Nat.zero_le _) (by rw [r]; exact hs)
          have e1 : cf (D * 7 + s) = cf (D * 7 - 7 + s) := of_decide_eq_true al
          rcases j with _ | j
          · rfl
          · have ih := AK_D (q := q) (cf := cf) (av := av) D (D - 1) (by omega) j (by omega) s hs
            rw [e, e1, show D * 7 - 7 + s = (D - 1) * 7 + s by omega, ← ih, show D - (j + 1) = D - 1 - j by omega]
    · rw [up_n e] at hj
      exact AK_D D d (by omega) j hj s hs
theorem AK_c {q : Nat → Nat} {cf : Nat → Int32} {av : Nat → Nat} : AK (q 1) cf (caI q cf av 100) := fun d hd => ⟨ca_le 100 d hd, AK_D 100 d hd⟩
theorem MEM_0 {q1 : Nat} {cf lg : Nat → Int32} : MEM q1 cf (fl_i lg (-1) 100) := fun d hd => Or.inl (if_pos hd)

section
variable {q : Nat → Nat} {G0 G1 G2 G3 lf cf cE t0 t1 t2 t3 t4 nz mt bu tk sq : Nat → Int32} {ho sp np mp dy nn : Nat} {ia ib r1 r2 : Int32}
theorem st_eq (hR : RD q G0 G1 G2 G3 ho sp np mp t0 t1 t2 t3 t4 nz mt) (hN : NBr 0 2 (q 0) G0) (hq0 : q 0 ≤ 7) (hq1 : q 1 ≤ 7) (hq3 : q 3 ≤ 3) (hw : ∀ a b l, wkA lf a b l = wkM nz np a b l) (e : cf = fcO q G0 G1 lf cE 100) (hn : 1 ≤ nn ∧ nn ≤ 7) (hx : SPs q G3 cf nn dy ia ib r1) (hm : SPm (q 3) (q 1) (q 0) dy nn mt t1 bu tk (wkF nz np t0 t2) sq ia ib r2) : r1 = r2 := by
  unfold SPm at hm
  rw [is_hs (by omega)] at hm
  rcases hx with ⟨x1, x2⟩ | ⟨x1, f9, u9, hf, hu, ef, eu, hL⟩
  · rcases hm with ⟨-, y2⟩ | ⟨-, a, v, ha, ea, -⟩
    · rw [x2, y2]
    · rw [ea, hs_in ha (by omega)] at x1; exact absurd x1 (by decide)
  · rcases hm with ⟨y1, -⟩ | ⟨hZ, a, v, ha, ea, ⟨f8, u8, hf8, hu8, ef8, eu8, hS⟩, hr⟩
    · exact absurd y1 x1
    · have e2 : f8 = f9 := by
        have k : pt (q 3) G3 ia 0 = mt (4 * a) := by rw [ea]; exact (pt_in ha (by omega)).trans (hR.2.2.2.2 a ha 0 (by decide)).symm
        exact (nI_eq (by omega) (by omega)).mp (ef8.symm.trans (k.symm.trans ef))
      have e3 : u8 = u9 := by
        have k : pt (q 3) G3 ia 1 = mt (4 * a + 1) := by rw [ea]; exact (pt_in ha (by omega)).trans (hR.2.2.2.2 a ha 1 (by decide)).symm
        exact (nI_eq (by omega) (by omega)).mp (eu8.symm.trans (k.symm.trans eu))
      subst e2
      subst e3
      have L : ∀ d g, d < 100 → g + nn = d + 1 → (LE (q 1) cf d nn ↔ FS (msB bu tk t1 (wkF nz np t0 t2)) (q 1) (q 0) nn g 0 0) := fun d g hd hg => LE_FS hR hN hq0 hq1 hw e hZ hd hg
      have hp : ∀ d, max dy f8 + nn ≤ d + 1 → d ≤ u8 → leB (q 1) cf nn d = fsB (msB bu tk t1 (wkF nz np t0 t2)) (q 1) (q 0) nn d := fun d h1 h2 => by
        rw [Bool.eq_iff_iff, leB_t, fsB_t]
        exact L d (d + 1 - nn) (by omega) (by omega)
      rcases hS with ⟨s1, s2⟩ | ⟨s1, s2⟩
      · have no : ∀ d, d ≤ u8 → leB (q 1) cf nn d = false := fun d hd => leB_f (fun k => by
          have w := LE_en hq0 hq1 (fun k s h hs hh ho => by have w := (ok_ms hR hN hq0 hq1 hw e hZ (by omega) hs hh).mp ho; exact ⟨w.1, w.2.1⟩) k
          exact s1 w)
        rw [hr, s2]
        have z : spR 0 ib sq = -1 := if_pos rfl
        rw [z]
        rcases hL with ⟨k, k1, k2, -⟩ | ⟨-, h2⟩
        · exact absurd (Or.inr (no _ k1)) k2
        · rw [ld_0 _ (fun i hi => no _ (by omega))] at h2
          rcases h2 with ⟨-, h3, -⟩ | ⟨-, h3⟩
          · exact absurd h3 (Nat.lt_irrefl _)
          · exact h3
      · rw [hr]
        exact sp_eq hu8 hL hp hn.1 s1 s2
end

def JN (k : Nat → ClassId) (x y i : Nat) (wx wm : va_W) : Prop := ∃ (xpn : Nat → Nat) (xpi : Nat → Int32) (xpr : Nat → Nat → Nat) (xpf : Nat → Nat → Int32) (xpl : Nat → Nat → Int64) (ypn : Nat → Nat) (ypi : Nat → Int32) (ypf : Nat → Nat → Int32), XI k x (xpn 0) (xpf 0) (xpr 0) (xpf 1) (xpf 2) (xpf 3) (xpf 4) (xpf 5) (xpf 6) (xpr 1) (xpn 1) (xpn 2) (xpi 0) (xpi 1) (xpf 7) (xpf 8) (xpf 9) (xpf 10) (xpf 11) (xpf 12) (xpf 13) (xpi 2) (xpn 3) (xpi 3) (xpf 14) (xpf 15) (xpf 16) (xpf 17) (xpf 18) (xpf 19) (xpf 20) (xpi 4) (xpn 4) (xpi 5) (xpf 21) (xpf 22) (xpf 23) (xpf 24) (xpf 25) (xpf 26) (xpf 27) (xpi 6) (xpn 5) (xpi 7) (xpf 28) (xpn 6) (xpf 29) (xpf 30) (xpf 31) (xpi 8) (xpf 32) (xpf 33) (xpl 0) (xpi 9) (xpi 10) (xpi 11) (xpi 12) (xpf 34) (xpf 35) (xpf 36) wx ∧ MI k y (ypn 0) (ypn 1) (ypn 2) (ypn 3) (ypn 4) (ypn 5) (ypn 6) (ypn 7) (ypi 0) (ypi 1) (ypi 2) (ypi 3) (ypi 4) (ypi 5) (ypf 0) (ypf 1) (ypf 2) (ypf 3) (ypf 4) (ypf 5) (ypf 6) (ypf 7) (ypf 8) (ypf 9) (ypf 10) (ypf 11) (ypf 12) (ypf 13) (ypf 14) (ypf 15) (ypf 16) (ypf 17) (ypf 18) (ypf 19) (ypf 20) wm ∧ BX i (xpn 0) (xpr 0) (xpr 1) (xpf 4) (xpn 1) (xpn 2) (xpn 3) (xpn 4) (xpn 5) (xpn 6) (xpf 36) (xpf 6) (xpf 33) ∧ BM i (ypn 5) (ypn 0) (ypn 1) (ypn 2) (ypn 3) (ypn 4) (ypi 1) (ypf 13) (ypf 14) (ypf 6) (ypn 7) (ypn 6) (ypf 19) (ypf 20) (ypf 16) ∧ (ypn 5) = (xpn 0) ∧ (ypf 15) = (xpf 0) ∧ (∀ j, ¬ (xpf 0) j < 0) ∧ (ypi 5) = (xpi 8) ∧ RD (xpr 0) (xpf 1) (xpf 2) (xpf 3) (xpf 4) (ypn 0) (ypn 1) (ypn 2) (ypn 3) (ypf 0) (ypf 1) (ypf 2) (ypf 3) (ypf 4) (ypf 5) (ypf 6) ∧ (ypn 7) = (xpn 3) ∧ (ypn 6) = (xpn 6) ∧ (ypf 17) = (xpf 28) ∧ ((ypf 16) 24 = nI (xpn 4) ∧ (ypf 16) 54 = nI (xpn 5)) ∧ TN (xpr 0) (xpf 1) (xpf 2) (xpf 3) (xpf 4) ∧ (∃ zE : Nat → Int32, (xpf 5) = snI zE (xpf 3) ((xpr 0) 2)) ∧ (∃ zE : Nat → Int32, (xpf 6) = fcO (xpr 0) (xpf 1) (xpf 2) (xpf 5) zE 100) ∧ ((ypf 18) = (xpf 29) ∧ (ypf 19) = (xpf 30) ∧ (ypf 20) = (xpf 31)) ∧ BWr (xpr 0) (xpn 6) (xpf 30) (xpf 31) ∧ CR (xpr 0) (xpf 7) (xpf 8) (xpf 9) (xpf 10) (xpf 11) (xpf 12) (xpf 13) (ypf 7) (ypf 8) (ypf 9) (ypf 10) (ypf 11) (ypf 12) (ypf 13) (ypf 14) ∧ (ypi 3) = (xpi 2) ∧ ((ypi 4) = (xpi 3) ∧ ¬ (xpi 3) < 0) ∧ ((ypn 4) = (xpn 1) ∧ yeF (nI (ypn 4)) (ypi 1) = nI (xpn 2) ∧ (ypi 2) = (xpi 0)) ∧ IR (xpr 0) ((xpf 28) 0) (xpf 14) (xpf 15) (xpf 16) (xpf 17) (xpf 18) (xpf 19) (xpf 20) (fun j => (ypf 16) (0 + j)) (fun j => (ypf 16) (3 + j)) (fun j => (ypf 16) (6 + j)) (fun j => (ypf 16) (9 + j)) (fun j => (ypf 16) (12 + j)) (fun j => (ypf 16) (15 + j)) (fun j => (ypf 16) (18 + j)) (fun j => (ypf 16) (21 + j)) ((ypf 16) 25) (xpi 4) ((ypf 16) 26) (xpi 5) ∧ IR (xpr 0) ((xpf 28) 1) (xpf 21) (xpf 22) (xpf 23) (xpf 24) (xpf 25) (xpf 26) (xpf 27) (fun j => (ypf 16) (30 + j)) (fun j => (ypf 16) (33 + j)) (fun j => (ypf 16) (36 + j)) (fun j => (ypf 16) (39 + j)) (fun j => (ypf 16) (42 + j)) (fun j => (ypf 16) (45 + j)) (fun j => (ypf 16) (48 + j)) (fun j => (ypf 16) (51 + j)) ((ypf 16) 55) (xpi 6) ((ypf 16) 56) (xpi 7)