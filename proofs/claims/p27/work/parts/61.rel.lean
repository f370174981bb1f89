
def BX (i : Nat) (n : Nat) (q : Nat → Nat) (al : Nat → Nat) (G3 : Nat → Int32) (nn : Nat) (yy : Nat) (dy : Nat) (da : Nat) (db : Nat) (b : Nat) : Prop := n ≤ 500 ∧ (q 0 ≤ 7 ∧ q 1 ≤ 7 ∧ q 2 ≤ 20 ∧ q 3 ≤ 3) ∧ (∀ d, d < 100 → al d ≤ d + 1) ∧ NBr 3 4 (q 3) G3 ∧ (1 ≤ nn ∧ nn ≤ 7) ∧ yy ≤ 7 ∧ dy ≤ 100 * i ∧ da ≤ 100 * i ∧ db ≤ 100 * i ∧ b ≤ 20
def BM (i : Nat) (tx : Nat) (ho : Nat) (sp : Nat) (np : Nat) (mp : Nat) (nt : Nat) (i_yesTold : Int32) (z6 : Nat → Int32) (z7 : Nat → Int32) (mt : Nat → Int32) (dd : Nat) (bk : Nat) (kw : Nat → Int32) (kh : Nat → Int32) (im : Nat → Int32) : Prop := tx ≤ 500 ∧ (ho ≤ 7 ∧ sp ≤ 7 ∧ np ≤ 20 ∧ mp ≤ 3) ∧ (1 ≤ nt ∧ nt ≤ 7) ∧ (i_yesTold = -1 ∨ ∃ v : Nat, v ≤ 7 ∧ i_yesTold = nI v) ∧ LDI z6 z7 ∧ mB mp mt ∧ dd ≤ 100 * i ∧ bk ≤ 20 ∧ RW kw kh bk ∧ IMI im (100 * i)
def JN (k : Nat → ClassId) (x y i : Nat) (wx wm : va_W) : Prop := ∃ (n_x : Nat) (f_x : Nat → Int32) (q_x : Nat → Nat) (G0_x : Nat → Int32) (G1_x : Nat → Int32) (G2_x : Nat → Int32) (G3_x : Nat → Int32) (lf_x : Nat → Int32) (cf_x : Nat → Int32) (al_x : Nat → Nat) (nn_x : Nat) (yy_x : Nat) (ag_x : Int32) (l4_x : Int32) (f0_x : Nat → Int32) (f1_x : Nat → Int32) (f2_x : Nat → Int32) (f3_x : Nat → Int32) (f4_x : Nat → Int32) (f5_x : Nat → Int32) (f6_x : Nat → Int32) (wg_x : Int32) (dy_x : Nat) (sd_x : Int32) (fa0_x : Nat → Int32) (fa1_x : Nat → Int32) (fa2_x : Nat → Int32) (fa3_x : Nat → Int32) (fa4_x : Nat → Int32) (fa5_x : Nat → Int32) (fa6_x : Nat → Int32) (wa1_x : Int32) (da_x : Nat) (sa1_x : Int32) (fb0_x : Nat → Int32) (fb1_x : Nat → Int32) (fb2_x : Nat → Int32) (fb3_x : Nat → Int32) (fb4_x : Nat → Int32) (fb5_x : Nat → Int32) (fb6_x : Nat → Int32) (wb1_x : Int32) (db_x : Nat) (sb1_x : Int32) (kz_x : Nat → Int32) (b_x : Nat) (bd_x : Nat → Int32) (bs_x : Nat → Int32) (bh_x : Nat → Int32) (fb_x : Int32) (be_x : Nat → Int32) (lg_x : Nat → Int32) (ab_x : Nat → Int64) (kn_x : Int32) (ga_x : Int32) (dy0_x : Int32) (ni0_x : Int32) (od_x : Nat → Int32) (en_x : Nat → Int32) (ho_m : Nat) (sp_m : Nat) (np_m : Nat) (mp_m : Nat) (nt_m : Nat) (tx_m : Nat) (bk_m : Nat) (dd_m : Nat) (i_lawClauses_m : Int32) (i_yesTold_m : Int32) (i_isAgain_m : Int32) (i_wages_m : Int32) (i_seed_m : Int32) (i_faultPlace_m : Int32) (t0_m : Nat → Int32) (t1_m : Nat → Int32) (t2_m : Nat → Int32) (t3_m : Nat → Int32) (t4_m : Nat → Int32) (nz_m : Nat → Int32) (mt_m : Nat → Int32) (z0_m : Nat → Int32) (z1_m : Nat → Int32) (z2_m : Nat → Int32) (z3_m : Nat → Int32) (z4_m : Nat → Int32) (z5_m : Nat → Int32) (z6_m : Nat → Int32) (z7_m : Nat → Int32) (f_m : Nat → Int32) (im_m : Nat → Int32) (ik_m : Nat → Int32) (kd_m : Nat → Int32) (kw_m : Nat → Int32) (kh_m : Nat → Int32), XI k x n_x f_x q_x G0_x G1_x G2_x G3_x lf_x cf_x al_x nn_x yy_x ag_x l4_x f0_x f1_x f2_x f3_x f4_x f5_x f6_x wg_x dy_x sd_x fa0_x fa1_x fa2_x fa3_x fa4_x fa5_x fa6_x wa1_x da_x sa1_x fb0_x fb1_x fb2_x fb3_x fb4_x fb5_x fb6_x wb1_x db_x sb1_x kz_x b_x bd_x bs_x bh_x fb_x be_x lg_x ab_x kn_x ga_x dy0_x ni0_x od_x en_x wx ∧ MI k y ho_m sp_m np_m mp_m nt_m tx_m bk_m dd_m i_lawClauses_m i_yesTold_m i_isAgain_m i_wages_m i_seed_m i_faultPlace_m t0_m t1_m t2_m t3_m t4_m nz_m mt_m z0_m z1_m z2_m z3_m z4_m z5_m z6_m z7_m f_m im_m ik_m kd_m kw_m kh_m wm ∧ BX i n_x q_x al_x G3_x nn_x yy_x dy_x da_x db_x b_x ∧ BM i tx_m ho_m sp_m np_m mp_m nt_m i_yesTold_m z6_m z7_m mt_m dd_m bk_m kw_m kh_m im_m ∧ tx_m = n_x
def lC (p : Program) (s : State) (m : MethodId) (meth : Method) (c : Code) (b L : Nat) (xs : Nat → Int32) (D : va_G) (k : Nat → ClassId) (z : Nat → Nat) (A : Nat → Prop) : Prop := p.tables.exec = Jvm.exec ∧ c.code = code ∧ c.maxLocals = 4 ∧ s.vm.findClass RL = some m.cls ∧ (∀ w ∈ lw_tbl, w.before #[Value.ref b] s = true) ∧ va_X b L xs s s.heap ∧ b < s.heap.size ∧ ¬ A b ∧ GE D k s ∧ SX z A s s.heap ∧ (∀ q : Nat, s.heap.size ≤ q → A q) ∧ L ≤ 256
theorem le4 {i L : Nat} (hi : i < 1000) (hL : L < 1000) (h : ¬ nI L - 4 < nI i) : i + 4 ≤ L := by
  by_cases h4 : 4 ≤ L
  · have e : nI L - 4 = nI (L - 4) := pk_sub (b := 4) h4
    rw [e] at h
    have h2 : ¬ L - 4 < i := fun q => h ((nI_ltI (by omega) (by omega)).mpr q)
    omega
  · exfalso
    apply h
    have h5 : L < 4 := by omega
    have h6 := pk_sneg (a := L) (b := 4) (by decide) h5
    exact Int32.lt_of_lt_of_le h6 (nI_pos' (by omega))
theorem fd_jj {fn : Int32} {jj : Nat} (e : fn = nI jj) (h1 : 1 ≤ jj) (h8 : jj ≤ 8) : ¬ (fn < 1 ∨ 8 < fn) := by
  rw [e]
  intro h
  rcases h with h | h
  · exact absurd ((nI_ltI (b := 1) (by omega) (by decide)).mp h) (by omega)
  · exact absurd ((nI_ltI (a := 8) (by decide) (by omega)).mp h) (by omega)
theorem fd_eq {fn r1 r2 : Int32} {n a b : Nat} {f g : Nat → Int32} {pk : Int64}
    (hx : ((fn < 1 ∨ 8 < fn) ∧ r1 = -1000000002 ∧ a = n ∧ g = f) ∨ (∃ jj : Nat, fn = nI jj ∧ 1 ≤ jj ∧ jj ≤ 8 ∧ ((500 < n + jj ∧ r1 = -1000000004 ∧ a = n ∧ g = f) ∨ (n + jj ≤ 500 ∧ r1 = nI (n + jj) ∧ a = n + jj ∧ g = adF f pk n jj jj))))
    (hm : ((fn < 1 ∨ 8 < fn) ∧ r2 = -1000000002 ∧ b = n) ∨ (∃ jj : Nat, fn = nI jj ∧ 1 ≤ jj ∧ jj ≤ 8 ∧ ((500 < n + jj ∧ r2 = -1000000004 ∧ b = n) ∨ (n + jj ≤ 500 ∧ r2 = nI (n + jj) ∧ b = n + jj)))) (hn : n ≤ 500) : r1 = r2 ∧ b = a ∧ a ≤ 500 := by
  rcases hx with ⟨h1, e1, ea, -⟩ | ⟨jj, ej, h1, h8, hx⟩
  · rcases hm with ⟨-, e2, eb⟩ | ⟨jj, ej, g1, g8, -⟩
    · exact ⟨by rw [e1, e2], by rw [ea, eb], by omega⟩
    · exact absurd h1 (fd_jj ej g1 g8)
  · rcases hm with ⟨g1, -, -⟩ | ⟨kk, ek, g1, g8, hm⟩
    · exact absurd g1 (fd_jj ej h1 h8)
    · have e0 : jj = kk := (nI_eq (by omega) (by omega)).mp (ej.symm.trans ek)
      subst e0
      rcases hx with ⟨a1, a2, a3, -⟩ | ⟨a1, a2, a3, -⟩
      · rcases hm with ⟨b1, b2, b3⟩ | ⟨b1, b2, b3⟩
        · exact ⟨by rw [a2, b2], by rw [a3, b3], by omega⟩
        · omega
      · rcases hm with ⟨b1, b2, b3⟩ | ⟨b1, b2, b3⟩
        · omega
        · exact ⟨by rw [a2, b2], by rw [a3, b3], by omega⟩
theorem RW_0 {a b : Nat → Int32} : RW a b 0 := fun j h => absurd h (Nat.not_lt_zero j)
theorem IMI_z : IMI (fun _ => 0) 0 := fun i _ => ⟨⟨0, Nat.le_refl _, rfl⟩, fun j _ => Or.inr ⟨0, 0, by decide, by decide, rfl, rfl⟩⟩
