
def BX (i : Nat) (n : Nat) (q : Nat → Nat) (al : Nat → Nat) (G3 : Nat → Int32) (nn : Nat) (yy : Nat) (dy : Nat) (da : Nat) (db : Nat) (b : Nat) (o9 : Nat → Int32) (cf : Nat → Int32) (lg : Nat → Int32) (ab : Nat → Int64) (G0 : Nat → Int32) (be : Nat → Int32) (kn : Int32) (dy0 : Int32) (ga : Int32) (od : Nat → Int32) (en : Nat → Int32) : Prop := n ≤ 500 ∧ (q 0 ≤ 7 ∧ q 1 ≤ 7 ∧ q 2 ≤ 20 ∧ q 3 ≤ 3) ∧ (∀ d, d < 100 → al d ≤ d + 1) ∧ NBr 3 4 (q 3) G3 ∧ (1 ≤ nn ∧ nn ≤ 7) ∧ yy ≤ 7 ∧ dy ≤ 100 * i ∧ da ≤ 100 * i ∧ db ≤ 100 * i ∧ b ≤ 20 ∧ OB o9 ∧ CFB (q 1) cf ∧ AK (q 1) cf al ∧ MEM (q 1) cf lg ab ∧ BEx (q 0) G0 be ∧ PLI kn dy0 q G3 cf be nn ga od en
def BM (i : Nat) (tx : Nat) (ho : Nat) (sp : Nat) (np : Nat) (mp : Nat) (nt : Nat) (i_yesTold : Int32) (z6 : Nat → Int32) (z7 : Nat → Int32) (mt : Nat → Int32) (dd : Nat) (bk : Nat) (kw : Nat → Int32) (kh : Nat → Int32) (im : Nat → Int32) : Prop := tx ≤ 500 ∧ (ho ≤ 7 ∧ sp ≤ 7 ∧ np ≤ 20 ∧ mp ≤ 3) ∧ (1 ≤ nt ∧ nt ≤ 7) ∧ (i_yesTold = -1 ∨ ∃ v : Nat, v ≤ 7 ∧ i_yesTold = nI v) ∧ LDI z6 z7 ∧ mB mp mt ∧ dd ≤ 100 * i ∧ bk ≤ 20 ∧ RW kw kh bk ∧ IMI im (100 * i)
def BWr (q : Nat → Nat) (b : Nat) (bs bh : Nat → Int32) : Prop := ∀ j, j < b → ∃ a c : Nat, a < q 1 ∧ c < q 0 ∧ bs j = nI a ∧ bh j = nI c
def lC (p : Program) (s : State) (m : MethodId) (meth : Method) (c : Code) (b L : Nat) (xs : Nat → Int32) (D : va_G) (k : Nat → ClassId) (z : Nat → Nat) (A : Nat → Prop) : Prop := p.tables.exec = Jvm.exec ∧ c.code = code ∧ c.maxLocals = 4 ∧ s.vm.findClass RL = some m.cls ∧ (∀ w ∈ lw_tbl, w.before #[Value.ref b] s = true) ∧ va_X b L xs s s.heap ∧ b < s.heap.size ∧ ¬ A b ∧ GE D k s ∧ SX z A s s.heap ∧ (∀ q : Nat, s.heap.size ≤ q → A q) ∧ L ≤ 256
theorem le4 {i L : Nat} (hi : i < 1000) (hL : L < 1000) (h : ¬ nI L - 4 < nI i) : i + 4 ≤ L := by
  by_cases h4 : 4 ≤ L
  · have e : nI L - 4 = nI (L - 4) := pk_sub (b := 4) h4
    rw [e] at h
    have h2 : ¬ L - 4 < i := fun q => h ((nI_ltI (by omega) (by omega)).mpr q)
    omega
  · exfalso
    apply h
    have h5 : L < 4 := by omega
    have h6 := pk_sneg (a := L) (b := 4) (by decide) h5
    exact Int32.lt_of_lt_of_le h6 (nI_pos' (by omega))
theorem fd_jj {fn : Int32} {jj : Nat} (e : fn = nI jj) (h1 : 1 ≤ jj) (h8 : jj ≤ 8) : ¬ (fn < 1 ∨ 8 < fn) := by
  rw [e]
  intro h
  rcases h with h | h
  · exact absurd ((nI_ltI (b := 1) (by omega) (by decide)).mp h) (by omega)
  · exact absurd ((nI_ltI (a := 8) (by decide) (by omega)).mp h) (by omega)
theorem and255 (x : Int32) : ¬ x &&& 255 < 0 := by
  intro h
  have h1 : (x &&& 255).toInt < 0 := by simpa using Int32.lt_iff_toInt_lt.mp h
  have h2 : (x.toBitVec &&& 255#32).msb = true := by rw [BitVec.msb_eq_toInt]; exact decide_eq_true h1
  rw [BitVec.msb_and, show (255#32).msb = false by decide, Bool.and_false] at h2
  exact absurd h2 (by decide)
theorem byA_p {pk : Int64} {m : Nat} : ¬ byA pk m < 0 := by
  unfold byA
  rw [Int64.toInt32_and]
  exact and255 _
theorem adF_p {f : Nat → Int32} {pk : Int64} {z jj : Nat} (hf : ∀ j, ¬ f j < 0) : ∀ {i : Nat} (j : Nat), ¬ adF f pk z jj i j < 0
  | 0, j => hf j
  | i + 1, j => by
    show ¬ upd (adF f pk z jj i) (z + i) (byA pk (jj - 1 - i)) j < 0
    by_cases h : j = z + i
    · rw [h, pk_us]; exact byA_p
    · rw [pk_un h]; exact adF_p hf j
theorem fd_eq {fn r1 r2 : Int32} {n a b : Nat} {f g g2 : Nat → Int32} {pk : Int64}
    (hx : ((fn < 1 ∨ 8 < fn) ∧ r1 = -1000000002 ∧ a = n ∧ g = f) ∨ (∃ jj : Nat, fn = nI jj ∧ 1 ≤ jj ∧ jj ≤ 8 ∧ ((500 < n + jj ∧ r1 = -1000000004 ∧ a = n ∧ g = f) ∨ (n + jj ≤ 500 ∧ r1 = nI (n + jj) ∧ a = n + jj ∧ g = adF f pk n jj jj))))
    (hm : ((fn < 1 ∨ 8 < fn) ∧ r2 = -1000000002 ∧ b = n ∧ g2 = f) ∨ (∃ jj : Nat, fn = nI jj ∧ 1 ≤ jj ∧ jj ≤ 8 ∧ ((500 < n + jj ∧ r2 = -1000000004 ∧ b = n ∧ g2 = f) ∨ (n + jj ≤ 500 ∧ r2 = nI (n + jj) ∧ b = n + jj ∧ g2 = adF f pk n jj jj)))) (hn : n ≤ 500) (hf : ∀ j, ¬ f j < 0) : r1 = r2 ∧ b = a ∧ a ≤ 500 ∧ g2 = g ∧ ∀ j, ¬ g j < 0 := by
  rcases hx with ⟨h1, e1, ea, eg⟩ | ⟨jj, ej, h1, h8, hx⟩
  · rcases hm with ⟨-, e2, eb, eh⟩ | ⟨jj, ej, g1, g8, -⟩
    · exact ⟨by rw [e1, e2], by rw [ea, eb], by omega, by rw [eg, eh], by rw [eg]; exact hf⟩
    · exact absurd h1 (fd_jj ej g1 g8)
  · rcases hm with ⟨g1, -, -, -⟩ | ⟨kk, ek, g1, g8, hm⟩
    · exact absurd g1 (fd_jj ej h1 h8)
    · have e0 : jj = kk := (nI_eq (by omega) (by omega)).mp (ej.symm.trans ek)
      subst e0
      rcases hx with ⟨a1, a2, a3, a4⟩ | ⟨a1, a2, a3, a4⟩
      · rcases hm with ⟨b1, b2, b3, b4⟩ | ⟨b1, b2, b3, b4⟩
        · exact ⟨by rw [a2, b2], by rw [a3, b3], by omega, by rw [a4, b4], by rw [a4]; exact hf⟩
        · omega
      · rcases hm with ⟨b1, b2, b3, b4⟩ | ⟨b1, b2, b3, b4⟩
        · omega
        · exact ⟨by rw [a2, b2], by rw [a3, b3], by omega, by rw [a4, b4], by rw [a4]; exact adF_p hf⟩
theorem rn_eq {ia : Int32} {d a b : Nat} (hx : rnS ia d a) (hm : rnS ia d b) : b = a := by
  have no : ∀ n : Nat, ia = nI n → 1 ≤ n → n ≤ 100 → ¬ (ia < 1 ∨ 100 < ia) := by
    intro n e h1 h2 h
    rw [e] at h
    rcases h with h | h
    · exact absurd ((nI_ltI (b := 1) (by omega) (by decide)).mp h) (by omega)
    · exact absurd ((nI_ltI (a := 100) (by decide) (by omega)).mp h) (by omega)
  rcases hx with ⟨h, e⟩ | ⟨n, en, h1, h2, e⟩
  · rcases hm with ⟨-, e2⟩ | ⟨n, en, h1, h2, -⟩
    · omega
    · exact absurd h (no n en h1 h2)
  · rcases hm with ⟨h, -⟩ | ⟨n2, en2, g1, g2, e2⟩
    · exact absurd h (no n en h1 h2)
    · have := (nI_eq (by omega) (by omega)).mp (en.symm.trans en2)
      omega
theorem wr_eq {s9 h9 : Nat} {dy sa sh r1 r2 : Int32} {b a1 a2 : Nat} {bd bs bh bd9 bs9 bh9 kd9 kw9 kh9 : Nat → Int32} (hx : wrS s9 h9 dy sa sh b a1 r1 bd bs bh bd9 bs9 bh9) (hm : wrS s9 h9 dy sa sh b a2 r2 bd bs bh kd9 kw9 kh9) : r1 = r2 ∧ a2 = a1 ∧ kd9 = bd9 ∧ kw9 = bs9 ∧ kh9 = bh9 := by
  rcases hx with ⟨e1, x1, x2, x3, hx⟩ | ⟨hx1, hx2, hx3, hx4, hx5, x1, x2, x3⟩
  · rcases hm with ⟨e2, y1, y2, y3, hm⟩ | ⟨hm1, hm2, hm3, hm4, hm5, -⟩
    · refine ⟨?_, by omega, by rw [x1, y1], by rw [x2, y2], by rw [x3, y3]⟩
      rcases hx with ⟨h1, h2⟩ | ⟨h1, h2⟩
      · rcases hm with ⟨g1, g2⟩ | ⟨g1, g2⟩
        · rw [h2, g2]
        · exact absurd h1 (fun q => q.elim g1.1 g1.2)
      · rcases hm with ⟨g1, g2⟩ | ⟨g1, g2⟩
        · exact absurd g1 (fun q => q.elim h1.1 h1.2)
        · rcases h2 with ⟨h2, h3⟩ | ⟨h2, h3, h4⟩
          · rcases g2 with ⟨g2, g3⟩ | ⟨g2, g3, g4⟩
            · rw [h3, g3]
            · exact absurd h2 (fun q => q.elim g2.1 (Int32.not_lt.mpr g2.2))
          · rcases g2 with ⟨g2, g3⟩ | ⟨g2, g3, g4⟩
            · exact absurd g2 (fun q => q.elim h2.1 (Int32.not_lt.mpr h2.2))
            · rw [h4, g4]
    · exfalso
      rcases hx with ⟨h1, -⟩ | ⟨-, h2⟩
      · exact h1.elim hm1.1 hm1.2
      · rcases h2 with ⟨h2, -⟩ | ⟨-, h3, -⟩
        · exact h2.elim hm2.1 (Int32.not_lt.mpr hm2.2)
        · omega
  · rcases hm with ⟨e2, -, -, -, hm⟩ | ⟨hm1, hm2, hm3, hm4, hm5, y1, y2, y3⟩
    · exfalso
      rcases hm with ⟨h1, -⟩ | ⟨-, h2⟩
      · exact h1.elim hx1.1 hx1.2
      · rcases h2 with ⟨h2, -⟩ | ⟨-, h3, -⟩
        · exact h2.elim hx2.1 (Int32.not_lt.mpr hx2.2)
        · omega
    · exact ⟨by rw [hx4, hm4], by omega, by rw [x1, y1], by rw [x2, y2], by rw [x3, y3]⟩
theorem wr_bw {q : Nat → Nat} {dy sa sh r : Int32} {b b9 : Nat} {bd bs bh bd9 bs9 bh9 : Nat → Int32} (h0 : q 0 ≤ 7) (h1 : q 1 ≤ 7) (hB : BWr q b bs bh) (hx : wrS (q 1) (q 0) dy sa sh b b9 r bd bs bh bd9 bs9 bh9) : BWr q b9 bs9 bh9 := by
  rcases hx with ⟨e1, x1, x2, x3, -⟩ | ⟨hx1, hx2, hx3, hx4, hx5, x1, x2, x3⟩
  · rw [e1, x2, x3]; exact hB
  · intro j hj
    rw [x2, x3]
    by_cases e : j = b
    · obtain ⟨a, ha, ea⟩ := hs_ne (by omega) hx1.1
      obtain ⟨c, hc, ec⟩ := hs_ne (by omega) hx1.2
      rw [e, pk_us, pk_us]
      exact ⟨a, c, ha, hc, ea, ec⟩
    · rw [pk_un e, pk_un e]
      exact hB j (by omega)
theorem BW_0 {q : Nat → Nat} {bs bh : Nat → Int32} : BWr q 0 bs bh := fun j h => absurd h (Nat.not_lt_zero j)
theorem fcO_0 {q : Nat → Nat} {G0 G1 lf cf : Nat → Int32} (h : q 1 = 0) : ∀ D, fcO q G0 G1 lf cf D = cf
  | 0 => rfl
  | D + 1 => by
    show fcI q G0 G1 lf (fcO q G0 G1 lf cf D) D (q 1) = cf
    rw [h, fcO_0 h D]
    rfl
theorem TN_0 {G0 G1 G2 G3 : Nat → Int32} : TN (fun _ => 0) G0 G1 G2 G3 := ⟨NBr_0, NBr_0, NBr_0, NBr_0⟩
theorem ia_in {ia : Int32} (h : ia < 0 ∨ 2 ≤ ia) : ¬ ia = 0 ∧ ¬ ia = 1 := by
  refine ⟨fun q => ?_, fun q => ?_⟩ <;> rw [q] at h <;> revert h <;> decide
theorem kp_eq {ia : Int32} {kz k1 k2 im im9 z0 z1 z2 z3 z4 z5 z6 z7 : Nat → Int32} {wg sd : Int32} {da da9 db db9 dy : Nat} (hx : kpS ia kz k1 da da9 db db9 dy) (hm : ((ia < 0 ∨ 2 ≤ ia) ∧ k2 = kz ∧ im9 = im) ∨ (ia = 0 ∧ k2 = upd kz 0 (vp_nar .boolean 1) ∧ im9 = cpA im 0 z0 z1 z2 z3 z4 z5 z6 z7 (nI dy) wg sd) ∨ (ia = 1 ∧ k2 = upd kz 1 (vp_nar .boolean 1) ∧ im9 = cpA im 30 z0 z1 z2 z3 z4 z5 z6 z7 (nI dy) wg sd)) (hi : im 24 = nI da ∧ im 54 = nI db) : k2 = k1 ∧ (im9 24 = nI da9 ∧ im9 54 = nI db9) := by
  rcases hx with ⟨h1, e1, e2, e3⟩ | ⟨h1, e1, e2, e3⟩ | ⟨h1, e1, e2, e3⟩ <;> rcases hm with ⟨g1, f1, f2⟩ | ⟨g1, f1, f2⟩ | ⟨g1, f1, f2⟩
  · exact ⟨by rw [e1, f1], by rw [f2, e2, e3]; exact hi⟩
  · exact absurd g1 (ia_in h1).1
  · exact absurd g1 (ia_in h1).2
  · exact absurd h1 (ia_in g1).1
  · exact ⟨by rw [e1, f1], by rw [f2, e2, e3]; exact ⟨cpA_0_24, cpO_0_54.trans hi.2⟩⟩
  · exact absurd (h1.symm.trans g1) (by decide)
  · exact absurd h1 (ia_in g1).2
  · exact absurd (g1.symm.trans h1) (by decide)
  · exact ⟨by rw [e1, f1], by rw [f2, e2, e3]; exact ⟨cpO_30_24.trans hi.1, cpA_30_54⟩⟩
theorem gb_eq {ia r1 r2 : Int32} {kz im : Nat → Int32} {dy d1 d2 da db : Nat} (hx : gbS ia kz r1 dy d1 da db) (hm : ((ia < 0 ∨ 2 ≤ ia) ∧ r2 = -1000000001 ∧ d2 = dy) ∨ (ia = 0 ∧ ((kz 0 = 0 ∧ r2 = -1000000003 ∧ d2 = dy) ∨ (¬ kz 0 = 0 ∧ r2 = 1 ∧ im 24 = nI d2))) ∨ (ia = 1 ∧ ((kz 1 = 0 ∧ r2 = -1000000003 ∧ d2 = dy) ∨ (¬ kz 1 = 0 ∧ r2 = 1 ∧ im 54 = nI d2)))) (hi : im 24 = nI da ∧ im 54 = nI db) (b1 : da < 2 ^ 31) (b2 : db < 2 ^ 31) (b3 : d2 < 2 ^ 31) : r1 = r2 ∧ d2 = d1 := by
  rcases hx with ⟨h1, e1, e2⟩ | ⟨h1, hx⟩ | ⟨h1, hx⟩ <;> rcases hm with ⟨g1, f1, f2⟩ | ⟨g1, hm⟩ | ⟨g1, hm⟩
  · exact ⟨by rw [e1, f1], by omega⟩
  · exact absurd g1 (ia_in h1).1
  · exact absurd g1 (ia_in h1).2
  · exact absurd h1 (ia_in g1).1
  · rcases hx with ⟨a1, a2, a3⟩ | ⟨a1, a2, a3⟩ <;> rcases hm with ⟨c1, c2, c3⟩ | ⟨c1, c2, c3⟩
    · exact ⟨by rw [a2, c2], by omega⟩
    · exact absurd a1 c1
    · exact absurd c1 a1
    · have := (nI_eq b1 b3).mp (hi.1.symm.trans c3)
      exact ⟨by rw [a2, c2], by omega⟩
  · exact absurd (h1.symm.trans g1) (by decide)
  · exact absurd h1 (ia_in g1).2
  · exact absurd (g1.symm.trans h1) (by decide)
  · rcases hx with ⟨a1, a2, a3⟩ | ⟨a1, a2, a3⟩ <;> rcases hm with ⟨c1, c2, c3⟩ | ⟨c1, c2, c3⟩
    · exact ⟨by rw [a2, c2], by omega⟩
    · exact absurd a1 c1
    · exact absurd c1 a1
    · have := (nI_eq b2 b3).mp (hi.2.symm.trans c3)
      exact ⟨by rw [a2, c2], by omega⟩
theorem RW_0 {a b : Nat → Int32} : RW a b 0 := fun j h => absurd h (Nat.not_lt_zero j)
theorem IMI_z : IMI (fun _ => 0) 0 := fun i _ => ⟨⟨0, Nat.le_refl _, rfl⟩, fun j _ => Or.inr ⟨0, 0, by decide, by decide, rfl, rfl⟩⟩
