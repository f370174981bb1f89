
def BX (i : Nat) (n : Nat) (q : Nat → Nat) (al : Nat → Nat) (G3 : Nat → Int32) (nn : Nat) (yy : Nat) (dy : Nat) (da : Nat) (db : Nat) (b : Nat) : Prop := n ≤ 500 ∧ (q 0 ≤ 7 ∧ q 1 ≤ 7 ∧ q 2 ≤ 20 ∧ q 3 ≤ 3) ∧ (∀ d, d < 100 → al d ≤ d + 1) ∧ NBr 3 4 (q 3) G3 ∧ (1 ≤ nn ∧ nn ≤ 7) ∧ yy ≤ 7 ∧ dy ≤ 100 * i ∧ da ≤ 100 * i ∧ db ≤ 100 * i ∧ b ≤ 20
def BM (i : Nat) (tx : Nat) (ho : Nat) (sp : Nat) (np : Nat) (mp : Nat) (nt : Nat) (i_yesTold : Int32) (z6 : Nat → Int32) (z7 : Nat → Int32) (mt : Nat → Int32) (dd : Nat) (bk : Nat) (kw : Nat → Int32) (kh : Nat → Int32) (im : Nat → Int32) : Prop := tx ≤ 500 ∧ (ho ≤ 7 ∧ sp ≤ 7 ∧ np ≤ 20 ∧ mp ≤ 3) ∧ (1 ≤ nt ∧ nt ≤ 7) ∧ (i_yesTold = -1 ∨ ∃ v : Nat, v ≤ 7 ∧ i_yesTold = nI v) ∧ LDI z6 z7 ∧ mB mp mt ∧ dd ≤ 100 * i ∧ bk ≤ 20 ∧ RW kw kh bk ∧ IMI im (100 * i)
def JN (k : Nat → ClassId) (x y i : Nat) (wx wm : va_W) : Prop := ∃ (xpn : Nat → Nat) (xpi : Nat → Int32) (xpr : Nat → Nat → Nat) (xpf : Nat → Nat → Int32) (xpl : Nat → Nat → Int64) (ypn : Nat → Nat) (ypi : Nat → Int32) (ypf : Nat → Nat → Int32), XI k x (xpn 0) (xpf 0) (xpr 0) (xpf 1) (xpf 2) (xpf 3) (xpf 4) (xpf 5) (xpf 6) (xpr 1) (xpn 1) (xpn 2) (xpi 0) (xpi 1) (xpf 7) (xpf 8) (xpf 9) (xpf 10) (xpf 11) (xpf 12) (xpf 13) (xpi 2) (xpn 3) (xpi 3) (xpf 14) (xpf 15) (xpf 16) (xpf 17) (xpf 18) (xpf 19) (xpf 20) (xpi 4) (xpn 4) (xpi 5) (xpf 21) (xpf 22) (xpf 23) (xpf 24) (xpf 25) (xpf 26) (xpf 27) (xpi 6) (xpn 5) (xpi 7) (xpf 28) (xpn 6) (xpf 29) (xpf 30) (xpf 31) (xpi 8) (xpf 32) (xpf 33) (xpl 0) (xpi 9) (xpi 10) (xpi 11) (xpi 12) (xpf 34) (xpf 35) wx ∧ MI k y (ypn 0) (ypn 1) (ypn 2) (ypn 3) (ypn 4) (ypn 5) (ypn 6) (ypn 7) (ypi 0) (ypi 1) (ypi 2) (ypi 3) (ypi 4) (ypi 5) (ypf 0) (ypf 1) (ypf 2) (ypf 3) (ypf 4) (ypf 5) (ypf 6) (ypf 7) (ypf 8) (ypf 9) (ypf 10) (ypf 11) (ypf 12) (ypf 13) (ypf 14) (ypf 15) (ypf 16) (ypf 17) (ypf 18) (ypf 19) (ypf 20) wm ∧ BX i (xpn 0) (xpr 0) (xpr 1) (xpf 4) (xpn 1) (xpn 2) (xpn 3) (xpn 4) (xpn 5) (xpn 6) ∧ BM i (ypn 5) (ypn 0) (ypn 1) (ypn 2) (ypn 3) (ypn 4) (ypi 1) (ypf 13) (ypf 14) (ypf 6) (ypn 7) (ypn 6) (ypf 19) (ypf 20) (ypf 16) ∧ (ypn 5) = (xpn 0)
def lC (p : Program) (s : State) (m : MethodId) (meth : Method) (c : Code) (b L : Nat) (xs : Nat → Int32) (D : va_G) (k : Nat → ClassId) (z : Nat → Nat) (A : Nat → Prop) : Prop := p.tables.exec = Jvm.exec ∧ c.code = code ∧ c.maxLocals = 4 ∧ s.vm.findClass RL = some m.cls ∧ (∀ w ∈ lw_tbl, w.before #[Value.ref b] s = true) ∧ va_X b L xs s s.heap ∧ b < s.heap.size ∧ ¬ A b ∧ GE D k s ∧ SX z A s s.heap ∧ (∀ q : Nat, s.heap.size ≤ q → A q) ∧ L ≤ 256
theorem le4 {i L : Nat} (hi : i < 1000) (hL : L < 1000) (h : ¬ nI L - 4 < nI i) : i + 4 ≤ L := by
  by_cases h4 : 4 ≤ L
  · have e : nI L - 4 = nI (L - 4) := pk_sub (b := 4) h4
    rw [e] at h
    have h2 : ¬ L - 4 < i := fun q => h ((nI_ltI (by omega) (by omega)).mpr q)
    omega
  · exfalso
    apply h
    have h5 : L < 4 := by omega
    have h6 := pk_sneg (a := L) (b := 4) (by decide) h5
    exact Int32.lt_of_lt_of_le h6 (nI_pos' (by omega))
theorem fd_jj {fn : Int32} {jj : Nat} (e : fn = nI jj) (h1 : 1 ≤ jj) (h8 : jj ≤ 8) : ¬ (fn < 1 ∨ 8 < fn) := by
  rw [e]
  intro h
  rcases h with h | h
  · exact absurd ((nI_ltI (b := 1) (by omega) (by decide)).mp h) (by omega)
  · exact absurd ((nI_ltI (a := 8) (by decide) (by omega)).mp h) (by omega)
theorem fd_eq {fn r1 r2 : Int32} {n a b : Nat} {f g : Nat → Int32} {pk : Int64}
    (hx : ((fn < 1 ∨ 8 < fn) ∧ r1 = -1000000002 ∧ a = n ∧ g = f) ∨ (∃ jj : Nat, fn = nI jj ∧ 1 ≤ jj ∧ jj ≤ 8 ∧ ((500 < n + jj ∧ r1 = -1000000004 ∧ a = n ∧ g = f) ∨ (n + jj ≤ 500 ∧ r1 = nI (n + jj) ∧ a = n + jj ∧ g = adF f pk n jj jj))))
    (hm : ((fn < 1 ∨ 8 < fn) ∧ r2 = -1000000002 ∧ b = n) ∨ (∃ jj : Nat, fn = nI jj ∧ 1 ≤ jj ∧ jj ≤ 8 ∧ ((500 < n + jj ∧ r2 = -1000000004 ∧ b = n) ∨ (n + jj ≤ 500 ∧ r2 = nI (n + jj) ∧ b = n + jj)))) (hn : n ≤ 500) : r1 = r2 ∧ b = a ∧ a ≤ 500 := by
  rcases hx with ⟨h1, e1, ea, -⟩ | ⟨jj, ej, h1, h8, hx⟩
  · rcases hm with ⟨-, e2, eb⟩ | ⟨jj, ej, g1, g8, -⟩
    · exact ⟨by rw [e1, e2], by rw [ea, eb], by omega⟩
    · exact absurd h1 (fd_jj ej g1 g8)
  · rcases hm with ⟨g1, -, -⟩ | ⟨kk, ek, g1, g8, hm⟩
    · exact absurd g1 (fd_jj ej h1 h8)
    · have e0 : jj = kk := (nI_eq (by omega) (by omega)).mp (ej.symm.trans ek)
      subst e0
      rcases hx with ⟨a1, a2, a3, -⟩ | ⟨a1, a2, a3, -⟩
      · rcases hm with ⟨b1, b2, b3⟩ | ⟨b1, b2, b3⟩
        · exact ⟨by rw [a2, b2], by rw [a3, b3], by omega⟩
        · omega
      · rcases hm with ⟨b1, b2, b3⟩ | ⟨b1, b2, b3⟩
        · omega
        · exact ⟨by rw [a2, b2], by rw [a3, b3], by omega⟩
theorem RW_0 {a b : Nat → Int32} : RW a b 0 := fun j h => absurd h (Nat.not_lt_zero j)
theorem IMI_z : IMI (fun _ => 0) 0 := fun i _ => ⟨⟨0, Nat.le_refl _, rfl⟩, fun j _ => Or.inr ⟨0, 0, by decide, by decide, rfl, rfl⟩⟩
