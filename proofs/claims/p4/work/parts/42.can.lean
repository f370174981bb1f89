
def bt (x : Int64) (b : Nat) : Bool := x.toBitVec.getLsbD b
theorem bt_or (x y : Int64) (b : Nat) : bt (x ||| y) b = (bt x b || bt y b) := by
  show (x.toBitVec ||| y.toBitVec).getLsbD b = _
  simp [bt]
theorem bt_and (x y : Int64) (b : Nat) : bt (x &&& y) b = (bt x b && bt y b) := by
  show (x.toBitVec &&& y.toBitVec).getLsbD b = _
  simp [bt]
theorem bt_zero (b : Nat) : bt 0 b = false := by
  show (0#64).getLsbD b = false
  simp
theorem and1 (y : BitVec 64) : y &&& 1#64 = 1#64 ↔ y.getLsbD 0 = true := by
  rw [BitVec.and_one_eq_setWidth_ofBool_getLsbD]
  cases y.getLsbD 0 <;> decide
theorem and1L (y : Int64) : y &&& 1 = 1 ↔ bt y 0 = true := Int64.toBitVec_inj.symm.trans (and1 y.toBitVec)
theorem sh_n : ∀ b, b < 64 → (((nI b).toInt64 &&& 63).toBitVec.smod 64).toNat = b := by decide +kernel
theorem bt_shr {x : Int64} {b : Nat} (hb : b < 64) : (x >>> ((nI b).toInt64 &&& 63)) &&& 1 = 1 ↔ bt x b = true := by
  rw [and1L]
  have e : bt (x >>> ((nI b).toInt64 &&& 63)) 0 = bt x b := by
    show (x.toBitVec.sshiftRight' (((nI b).toInt64 &&& 63).toBitVec.smod 64)).getLsbD 0 = x.toBitVec.getLsbD b
    rw [BitVec.getLsbD_sshiftRight', sh_n b hb]
    simp [hb]
  rw [e]
theorem us_n : ∀ h, h < 6 → ((((1 : Int32) <<< (nI h &&& 31)).toInt64.toUInt64 &&& Int64.toUInt64 63).toBitVec % 64).toNat = 2 ^ h := by decide +kernel
theorem bt_ushr {x : Int64} {h b : Nat} (hh : h < 6) : bt ((x.toUInt64 >>> (((1 : Int32) <<< (nI h &&& 31)).toInt64.toUInt64 &&& Int64.toUInt64 63)).toInt64) b = bt x (2 ^ h + b) := by
  show (x.toBitVec >>> ((((1 : Int32) <<< (nI h &&& 31)).toInt64.toUInt64 &&& Int64.toUInt64 63).toBitVec % 64)).getLsbD b = x.toBitVec.getLsbD (2 ^ h + b)
  rw [BitVec.ushiftRight_eq', BitVec.getLsbD_ushiftRight, us_n h hh]
def wHl : List Int64 := [6148914691236517205, 3689348814741910323, 1085102592571150095, 71777214294589695, 281470681808895, 4294967295]
def wH (h : Nat) : Int64 := wHl.getD h (-1)
theorem wH_n : ∀ h, h < 6 → ∀ b, b < 64 → bt (wH h) b = !b.testBit h := by decide +kernel
def lk (a j : Nat) : Bool := !a.testBit j
theorem hs_lk : ∀ a, a < 128 → ∀ j, j < 7 → (hsA (nI a) (nI j) = if lk a j = true then 0 else 1) := by decide +kernel
theorem or_b : ∀ a, a < 128 → ∀ j, j < 7 → lk a j = true → bcn (a ||| 2 ^ j) = bcn a + 1 ∧ ¬ a ||| 2 ^ j = a := by decide +kernel
theorem or_lo : ∀ a, a < 64 → ∀ j, j < 6 → lk a j = true → a ||| 2 ^ j = 2 ^ j + a ∧ a ||| 2 ^ j < 64 := by decide +kernel
theorem or_hi : ∀ a, a < 64 → ∀ j, j < 6 → lk a j = true → (64 + a) ||| 2 ^ j = 64 + (2 ^ j + a) ∧ lk (64 + a) j = true := by decide +kernel
theorem or_6 : ∀ a, a < 64 → a ||| 2 ^ 6 = 64 + a ∧ lk a 6 = true := by decide +kernel
def cb (lo hi : Nat → Int64) (w x : Nat) : Bool := if x < 64 then bt (lo w) x else bt (hi w) (x - 64)
theorem cb_lo {lo hi : Nat → Int64} {w x : Nat} (h : x < 64) : cb lo hi w x = bt (lo w) x := if_pos h
theorem cb_hi {lo hi : Nat → Int64} {w x : Nat} : cb lo hi w (64 + x) = bt (hi w) x := by
  unfold cb
  rw [if_neg (by omega), show 64 + x - 64 = x by omega]
theorem cb_eq {lo hi l9 h9 : Nat → Int64} {w x : Nat} (h : l9 w = lo w ∧ h9 w = hi w) : cb l9 h9 w x = cb lo hi w x := by
  unfold cb
  rw [h.1, h.2]
def WT (ms : Nat → Nat → Bool) (sp ho : Nat) (lo hi : Nat → Int64) (w x : Nat) : Prop := ∃ s9 h9 : Nat, s9 < sp ∧ h9 < ho ∧ lk w s9 = true ∧ lk x h9 = true ∧ cb lo hi (w ||| 2 ^ s9) (x ||| 2 ^ h9) = true ∧ ms s9 h9 = true
def FC (ms : Nat → Nat → Bool) (sp ho : Nat) (lo hi l9 h9 : Nat → Int64) (w : Nat) : Prop := (∀ j, ¬ j = w → l9 j = lo j ∧ h9 j = hi j) ∧ ∀ x, x < 128 → cb l9 h9 w x = true → WT ms sp ho lo hi w x
theorem FC_0 {ms : Nat → Nat → Bool} {sp ho : Nat} {lo hi : Nat → Int64} {w : Nat} (h1 : lo w = 0) (h2 : hi w = 0) : FC ms sp ho lo hi lo hi w := by
  refine ⟨fun _ _ => ⟨rfl, rfl⟩, fun x _ hc => ?_⟩
  unfold cb at hc
  rw [h1, h2, bt_zero, bt_zero] at hc
  simp at hc
theorem FC_6 {ms : Nat → Nat → Bool} {sp ho : Nat} {lo hi l9 h9 : Nat → Int64} {w s9 : Nat} (h : FC ms sp ho lo hi l9 h9 w) (hw : w < 128) (hs : s9 < sp) (hsp : sp ≤ 7) (hh : 6 < ho) (hl : lk w s9 = true) (hm : ms s9 6 = true) : FC ms sp ho lo hi (vp_updL l9 w (l9 w ||| h9 (w ||| 2 ^ s9))) h9 w := by
  have hne := (or_b w hw s9 (by omega) hl).2
  refine ⟨fun j hj => ⟨by rw [pk_uLn hj]; exact (h.1 j hj).1, (h.1 j hj).2⟩, fun x hx hc => ?_⟩
  by_cases hx6 : x < 64
  · rw [cb_lo hx6, pk_uLs, bt_or, Bool.or_eq_true] at hc
    rcases hc with hc | hc
    · exact h.2 x hx (by rw [cb_lo hx6]; exact hc)
    · refine ⟨s9, 6, hs, hh, hl, (or_6 x hx6).2, ?_, hm⟩
      rw [(or_6 x hx6).1, cb_hi, ← (h.1 _ hne).2]
      exact hc
  · refine h.2 x hx ?_
    rw [show x = 64 + (x - 64) by omega, cb_hi] at hc ⊢
    exact hc
theorem FC_h {ms : Nat → Nat → Bool} {sp ho : Nat} {lo hi l9 h9 : Nat → Int64} {w s9 j9 : Nat} (h : FC ms sp ho lo hi l9 h9 w) (hw : w < 128) (hs : s9 < sp) (hsp : sp ≤ 7) (hj : j9 < ho) (hj6 : j9 < 6) (hl : lk w s9 = true) (hm : ms s9 j9 = true) {u v : Int64} (hu : ∀ b, b < 64 → bt u b = (bt (l9 (w ||| 2 ^ s9)) (2 ^ j9 + b) && bt (wH j9) b)) (hv : ∀ b, b < 64 → bt v b = (bt (h9 (w ||| 2 ^ s9)) (2 ^ j9 + b) && bt (wH j9) b)) :
    FC ms sp ho lo hi (vp_updL l9 w (l9 w ||| u)) (vp_updL h9 w (h9 w ||| v)) w := by
  have hne := (or_b w hw s9 (by omega) hl).2
  refine ⟨fun j hj => ⟨by rw [pk_uLn hj]; exact (h.1 j hj).1, by rw [pk_uLn hj]; exact (h.1 j hj).2⟩, fun x hx hc => ?_⟩
  by_cases hx6 : x < 64
  · rw [cb_lo hx6, pk_uLs, bt_or, Bool.or_eq_true] at hc
    rcases hc with hc | hc
    · exact h.2 x hx (by rw [cb_lo hx6]; exact hc)
    · rw [hu x hx6, Bool.and_eq_true, wH_n j9 hj6 x hx6] at hc
      have ho := or_lo x hx6 j9 hj6 hc.2
      refine ⟨s9, j9, hs, hj, hl, hc.2, ?_, hm⟩
      rw [cb_lo ho.2, ho.1, ← (h.1 _ hne).1]
      exact hc.1
  · have hx7 : x - 64 < 64 := by omega
    have ex : x = 64 + (x - 64) := by omega
    rw [ex, cb_hi, pk_uLs, bt_or, Bool.or_eq_true] at hc
    rcases hc with hc | hc
    · exact h.2 x hx (by rw [ex, cb_hi]; exact hc)
    · rw [hv _ hx7, Bool.and_eq_true, wH_n j9 hj6 _ hx7] at hc
      have ho := or_hi _ hx7 j9 hj6 hc.2
      refine ⟨s9, j9, hs, hj, hl, by rw [ex]; exact ho.2, ?_, hm⟩
      rw [ex, ho.1, cb_hi, ← (h.1 _ hne).2]
      exact hc.1
def GD (ms : Nat → Nat → Nat → Bool) (sp ho fr : Nat) (lo hi : Nat → Int64) (w : Nat) : Prop := ∀ x, x < 128 → cb lo hi w x = true → WT (ms (fr + bcn w)) sp ho lo hi w x
theorem GD_k {ms : Nat → Nat → Nat → Bool} {sp ho fr : Nat} {lo hi l9 h9 : Nat → Int64} {w i : Nat} (hw : w < 128) (hsp : sp ≤ 7) (h : GD ms sp ho fr lo hi w) (hk : ∀ j, ¬ j = i → l9 j = lo j ∧ h9 j = hi j) (hne : ¬ w = i) (hb : bcn i ≤ bcn w) : GD ms sp ho fr l9 h9 w := by
  intro x hx hc
  rw [cb_eq (hk w hne)] at hc
  obtain ⟨s9, j9, a1, a2, a3, a4, a5, a6⟩ := h x hx hc
  refine ⟨s9, j9, a1, a2, a3, a4, ?_, a6⟩
  have hn : ¬ w ||| 2 ^ s9 = i := fun q => by have := (or_b w hw s9 (by omega) a3).1; rw [q] at this; omega
  rw [cb_eq (hk _ hn)]
  exact a5
theorem GD_n {ms : Nat → Nat → Nat → Bool} {sp ho fr : Nat} {lo hi l9 h9 : Nat → Int64} {w : Nat} (hw : w < 128) (hsp : sp ≤ 7) (h : FC (ms (fr + bcn w)) sp ho lo hi l9 h9 w) : GD ms sp ho fr l9 h9 w := by
  intro x hx hc
  obtain ⟨s9, j9, a1, a2, a3, a4, a5, a6⟩ := h.2 x hx hc
  refine ⟨s9, j9, a1, a2, a3, a4, ?_, a6⟩
  rw [cb_eq (h.1 _ (or_b w hw s9 (by omega) a3).2)]
  exact a5
def CI (ms : Nat → Nat → Nat → Bool) (sp ho fr nn k i : Nat) (lo hi : Nat → Int64) : Prop := ∀ w, w < 128 → bcn w < nn → (k < bcn w ∨ (bcn w = k ∧ w < i)) → GD ms sp ho fr lo hi w
def CB (ms : Nat → Nat → Nat → Bool) (sp ho fr nn : Nat) (lo hi : Nat → Int64) : Prop := cb lo hi 0 0 = true ∧ ∀ w, w < 128 → bcn w < nn → GD ms sp ho fr lo hi w
theorem CI_k {ms : Nat → Nat → Nat → Bool} {sp ho fr nn k i : Nat} {lo hi l9 h9 : Nat → Int64} (h : CI ms sp ho fr nn k i lo hi) (hsp : sp ≤ 7) (hi9 : bcn i = k) (hk : ∀ j, ¬ j = i → l9 j = lo j ∧ h9 j = hi j) (hg : bcn i < nn → GD ms sp ho fr l9 h9 i) : CI ms sp ho fr nn k (i + 1) l9 h9 := by
  intro w hw hn hc
  by_cases he : w = i
  · rw [he] at hn ⊢; exact hg hn
  · refine GD_k hw hsp (h w hw hn ?_) hk he (by omega)
    rcases hc with hc | hc
    · exact Or.inl hc
    · exact Or.inr ⟨hc.1, by omega⟩
theorem CI_s {ms : Nat → Nat → Nat → Bool} {sp ho fr nn k i : Nat} {lo hi : Nat → Int64} (h : CI ms sp ho fr nn k i lo hi) (hne : ¬ bcn i = k) : CI ms sp ho fr nn k (i + 1) lo hi := by
  intro w hw hn hc
  refine h w hw hn ?_
  rcases hc with hc | hc
  · exact Or.inl hc
  · refine Or.inr ⟨hc.1, ?_⟩
    have : ¬ w = i := fun q => hne (by rw [← q]; exact hc.1)
    omega
theorem CI_d {ms : Nat → Nat → Nat → Bool} {sp ho fr nn k : Nat} {lo hi : Nat → Int64} (h : CI ms sp ho fr nn (k + 1) 128 lo hi) : CI ms sp ho fr nn k 0 lo hi := by
  intro w hw hn hc
  refine h w hw hn ?_
  rcases hc with hc | hc
  · by_cases he : bcn w = k + 1
    · exact Or.inr ⟨he, hw⟩
    · exact Or.inl (by omega)
  · omega
theorem CI_0 {ms : Nat → Nat → Nat → Bool} {sp ho fr nn : Nat} {lo hi : Nat → Int64} : CI ms sp ho fr nn nn 0 lo hi := by
  intro w _ hn hc
  omega
def msA (bu tk be : Nat → Int32) (wk : Nat → Nat → Nat → Int32) (d s9 h9 : Nat) : Int32 := if ¬ hsA (bu d) (nI s9) = 0 then 0 else if be h9 ≤ tk (7 * d + h9) then 0 else if wk d s9 h9 = 0 then 1 else 0
def msB (bu tk be : Nat → Int32) (wk : Nat → Nat → Nat → Int32) (d s9 h9 : Nat) : Bool := decide (msA bu tk be wk d s9 h9 = 1)
def wkF (nz : Nat → Int32) (np : Nat) (t0 t2 : Nat → Int32) (d s9 h9 : Nat) : Int32 := wkM nz np (t0 h9) (nI d) (t2 s9)
theorem ms_01 (bu tk be : Nat → Int32) (wk : Nat → Nat → Nat → Int32) (d s9 h9 : Nat) : msA bu tk be wk d s9 h9 = 0 ∨ msA bu tk be wk d s9 h9 = 1 := by
  unfold msA
  split
  · exact Or.inl rfl
  · split
    · exact Or.inl rfl
    · split
      · exact Or.inr rfl
      · exact Or.inl rfl
theorem ms_B {bu tk be : Nat → Int32} {wk : Nat → Nat → Nat → Int32} {d s9 h9 : Nat} (h : ¬ msA bu tk be wk d s9 h9 = 0) : msB bu tk be wk d s9 h9 = true := decide_eq_true ((ms_01 bu tk be wk d s9 h9).resolve_left h)
theorem lk_of {a j : Nat} (ha : a < 128) (hj : j < 7) (h : hsA (nI a) (nI j) = 0) : lk a j = true := by
  have e := hs_lk a ha j hj
  rw [h] at e
  by_cases q : lk a j = true
  · exact q
  · rw [if_neg q] at e; exact absurd e (by decide)
theorem of_lk {a j : Nat} (ha : a < 128) (hj : j < 7) (h : lk a j = true) : hsA (nI a) (nI j) = 0 := by
  rw [hs_lk a ha j hj, if_pos h]
