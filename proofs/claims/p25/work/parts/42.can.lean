
theorem hs_lk : ∀ a, a < 128 → ∀ j, j < 7 → (hsA (nI a) (nI j) = if lk a j = true then 0 else 1) := by decide +kernel
def WT (ms : Nat → Nat → Bool) (sp ho : Nat) (lo hi : Nat → Int64) (w x : Nat) : Prop := ∃ s9 h9 : Nat, s9 < sp ∧ h9 < ho ∧ lk w s9 = true ∧ lk x h9 = true ∧ cb lo hi (w ||| 2 ^ s9) (x ||| 2 ^ h9) = true ∧ ms s9 h9 = true
def FC (ms : Nat → Nat → Bool) (sp ho : Nat) (lo hi l9 h9 : Nat → Int64) (w : Nat) : Prop := (∀ j, ¬ j = w → l9 j = lo j ∧ h9 j = hi j) ∧ ∀ x, x < 128 → cb l9 h9 w x = true → WT ms sp ho lo hi w x
theorem FC_0 {ms : Nat → Nat → Bool} {sp ho : Nat} {lo hi : Nat → Int64} {w : Nat} (h1 : lo w = 0) (h2 : hi w = 0) : FC ms sp ho lo hi lo hi w := by
  refine ⟨fun _ _ => ⟨rfl, rfl⟩, fun x _ hc => ?_⟩
  unfold cb at hc
  rw [h1, h2, bt_zero, bt_zero] at hc
  simp at hc
theorem FC_6 {ms : Nat → Nat → Bool} {sp ho : Nat} {lo hi l9 h9 : Nat → Int64} {w s9 : Nat} (h : FC ms sp ho lo hi l9 h9 w) (hw : w < 128) (hs : s9 < sp) (hsp : sp ≤ 7) (hh : 6 < ho) (hl : lk w s9 = true) (hm : ms s9 6 = true) : FC ms sp ho lo hi (vp_updL l9 w (l9 w ||| h9 (w ||| 2 ^ s9))) h9 w := by
  have hne := (or_b w hw s9 (by omega) hl).2
  refine ⟨fun j hj => ⟨by rw [pk_uLn hj]; exact (h.1 j hj).1, (h.1 j hj).2⟩, fun x hx hc => ?_⟩
  by_cases hx6 : x < 64
  · rw [cb_lo hx6, pk_uLs, bt_or, Bool.or_eq_true] at hc
    rcases hc with hc | hc
    · exact h.2 x hx (by rw [cb_lo hx6]; exact hc)
    · refine ⟨s9, 6, hs, hh, hl, (or_6 x hx6).2, ?_, hm⟩
      rw [(or_6 x hx6).1, cb_hi, ← (h.1 _ hne).2]
      exact hc
  · refine h.2 x hx ?_
    rw [show x = 64 + (x - 64) by omega, cb_hi] at hc ⊢
    exact hc
theorem FC_h {ms : Nat → Nat → Bool} {sp ho : Nat} {lo hi l9 h9 : Nat → Int64} {w s9 j9 : Nat} (h : FC ms sp ho lo hi l9 h9 w) (hw : w < 128) (hs : s9 < sp) (hsp : sp ≤ 7) (hj : j9 < ho) (hj6 : j9 < 6) (hl : lk w s9 = true) (hm : ms s9 j9 = true) {u v : Int64} (hu : ∀ b, b < 64 → bt u b = (bt (l9 (w ||| 2 ^ s9)) (2 ^ j9 + b) && bt (wH j9) b)) (hv : ∀ b, b < 64 → bt v b = (bt (h9 (w ||| 2 ^ s9)) (2 ^ j9 + b) && bt (wH j9) b)) :
    FC ms sp ho lo hi (vp_updL l9 w (l9 w ||| u)) (vp_updL h9 w (h9 w ||| v)) w := by
  have hne := (or_b w hw s9 (by omega) hl).2
  refine ⟨fun j hj => ⟨by rw [pk_uLn hj]; exact (h.1 j hj).1, by rw [pk_uLn hj]; exact (h.1 j hj).2⟩, fun x hx hc => ?_⟩
  by_cases hx6 : x < 64
  · rw [cb_lo hx6, pk_uLs, bt_or, Bool.or_eq_true] at hc
    rcases hc with hc | hc
    · exact h.2 x hx (by rw [cb_lo hx6]; exact hc)
    · rw [hu x hx6, Bool.and_eq_true, wH_n j9 hj6 x hx6] at hc
      have ho := or_lo x hx6 j9 hj6 hc.2
      refine ⟨s9, j9, hs, hj, hl, hc.2, ?_, hm⟩
      rw [cb_lo ho.2, ho.1, ← (h.1 _ hne).1]
      exact hc.1
  · have hx7 : x - 64 < 64 := by omega
    have ex : x = 64 + (x - 64) := by omega
    rw [ex, cb_hi, pk_uLs, bt_or, Bool.or_eq_true] at hc
    rcases hc with hc | hc
    · exact h.2 x hx (by rw [ex, cb_hi]; exact hc)
    · rw [hv _ hx7, Bool.and_eq_true, wH_n j9 hj6 _ hx7] at hc
      have ho := or_hi _ hx7 j9 hj6 hc.2
      refine ⟨s9, j9, hs, hj, hl, by rw [ex]; exact ho.2, ?_, hm⟩
      rw [ex, ho.1, cb_hi, ← (h.1 _ hne).2]
      exact hc.1
def GD (ms : Nat → Nat → Nat → Bool) (sp ho fr : Nat) (lo hi : Nat → Int64) (w : Nat) : Prop := ∀ x, x < 128 → cb lo hi w x = true → WT (ms (fr + bcn w)) sp ho lo hi w x
theorem GD_k {ms : Nat → Nat → Nat → Bool} {sp ho fr : Nat} {lo hi l9 h9 : Nat → Int64} {w i : Nat} (hw : w < 128) (hsp : sp ≤ 7) (h : GD ms sp ho fr lo hi w) (hk : ∀ j, ¬ j = i → l9 j = lo j ∧ h9 j = hi j) (hne : ¬ w = i) (hb : bcn i ≤ bcn w) : GD ms sp ho fr l9 h9 w := by
  intro x hx hc
  rw [cb_eq (hk w hne)] at hc
  obtain ⟨s9, j9, a1, a2, a3, a4, a5, a6⟩ := h x hx hc
  refine ⟨s9, j9, a1, a2, a3, a4, ?_, a6⟩
  have hn : ¬ w ||| 2 ^ s9 = i := fun q => by have := (or_b w hw s9 (by omega) a3).1; rw [q] at this; omega
  rw [cb_eq (hk _ hn)]
  exact a5
theorem GD_n {ms : Nat → Nat → Nat → Bool} {sp ho fr : Nat} {lo hi l9 h9 : Nat → Int64} {w : Nat} (hw : w < 128) (hsp : sp ≤ 7) (h : FC (ms (fr + bcn w)) sp ho lo hi l9 h9 w) : GD ms sp ho fr l9 h9 w := by
  intro x hx hc
  obtain ⟨s9, j9, a1, a2, a3, a4, a5, a6⟩ := h.2 x hx hc
  refine ⟨s9, j9, a1, a2, a3, a4, ?_, a6⟩
  rw [cb_eq (h.1 _ (or_b w hw s9 (by omega) a3).2)]
  exact a5
def CI (ms : Nat → Nat → Nat → Bool) (sp ho fr nn k i : Nat) (lo hi : Nat → Int64) : Prop := ∀ w, w < 128 → bcn w < nn → (k < bcn w ∨ (bcn w = k ∧ w < i)) → GD ms sp ho fr lo hi w
def CB (ms : Nat → Nat → Nat → Bool) (sp ho fr nn : Nat) (lo hi : Nat → Int64) : Prop := cb lo hi 0 0 = true ∧ ∀ w, w < 128 → bcn w < nn → GD ms sp ho fr lo hi w
theorem CI_k {ms : Nat → Nat → Nat → Bool} {sp ho fr nn k i : Nat} {lo hi l9 h9 : Nat → Int64} (h : CI ms sp ho fr nn k i lo hi) (hsp : sp ≤ 7) (hi9 : bcn i = k) (hk : ∀ j, ¬ j = i → l9 j = lo j ∧ h9 j = hi j) (hg : bcn i < nn → GD ms sp ho fr l9 h9 i) : CI ms sp ho fr nn k (i + 1) l9 h9 := by
  intro w hw hn hc
  by_cases he : w = i
  · rw [he] at hn ⊢; exact hg hn
  · refine GD_k hw hsp (h w hw hn ?_) hk he (by omega)
    rcases hc with hc | hc
    · exact Or.inl hc
    · exact Or.inr ⟨hc.1, by omega⟩
theorem CI_s {ms : Nat → Nat → Nat → Bool} {sp ho fr nn k i : Nat} {lo hi : Nat → Int64} (h : CI ms sp ho fr nn k i lo hi) (hne : ¬ bcn i = k) : CI ms sp ho fr nn k (i + 1) lo hi := by
  intro w hw hn hc
  refine h w hw hn ?_
  rcases hc with hc | hc
  · exact Or.inl hc
  · refine Or.inr ⟨hc.1, ?_⟩
    have : ¬ w = i := fun q => hne (by rw [← q]; exact hc.1)
    omega
theorem CI_d {ms : Nat → Nat → Nat → Bool} {sp ho fr nn k : Nat} {lo hi : Nat → Int64} (h : CI ms sp ho fr nn (k + 1) 128 lo hi) : CI ms sp ho fr nn k 0 lo hi := by
  intro w hw hn hc
  refine h w hw hn ?_
  rcases hc with hc | hc
  · by_cases he : bcn w = k + 1
    · exact Or.inr ⟨he, hw⟩
    · exact Or.inl (by omega)
  · omega
theorem CI_0 {ms : Nat → Nat → Nat → Bool} {sp ho fr nn : Nat} {lo hi : Nat → Int64} : CI ms sp ho fr nn nn 0 lo hi := by
  intro w _ hn hc
  omega
def msA (bu tk be : Nat → Int32) (wk : Nat → Nat → Nat → Int32) (d s9 h9 : Nat) : Int32 := if ¬ hsA (bu d) (nI s9) = 0 then 0 else if be h9 ≤ tk (7 * d + h9) then 0 else if wk d s9 h9 = 0 then 1 else 0
def msB (bu tk be : Nat → Int32) (wk : Nat → Nat → Nat → Int32) (d s9 h9 : Nat) : Bool := decide (msA bu tk be wk d s9 h9 = 1)
def wkF (nz : Nat → Int32) (np : Nat) (t0 t2 : Nat → Int32) (d s9 h9 : Nat) : Int32 := wkM nz np (t0 h9) (nI d) (t2 s9)
theorem ms_01 (bu tk be : Nat → Int32) (wk : Nat → Nat → Nat → Int32) (d s9 h9 : Nat) : msA bu tk be wk d s9 h9 = 0 ∨ msA bu tk be wk d s9 h9 = 1 := by
  unfold msA
  split
  · exact Or.inl rfl
  · split
    · exact Or.inl rfl
    · split
      · exact Or.inr rfl
      · exact Or.inl rfl
theorem ms_B {bu tk be : Nat → Int32} {wk : Nat → Nat → Nat → Int32} {d s9 h9 : Nat} (h : ¬ msA bu tk be wk d s9 h9 = 0) : msB bu tk be wk d s9 h9 = true := decide_eq_true ((ms_01 bu tk be wk d s9 h9).resolve_left h)
theorem lk_of {a j : Nat} (ha : a < 128) (hj : j < 7) (h : hsA (nI a) (nI j) = 0) : lk a j = true := by
  have e := hs_lk a ha j hj
  rw [h] at e
  by_cases q : lk a j = true
  · exact q
  · rw [if_neg q] at e; exact absurd e (by decide)
theorem of_lk {a j : Nat} (ha : a < 128) (hj : j < 7) (h : lk a j = true) : hsA (nI a) (nI j) = 0 := by
  rw [hs_lk a ha j hj, if_pos h]

/-- what can still be begun: bit by bit, to and fro -/
def WP (ms : Nat → Nat → Bool) (sp ho : Nat) (lo hi : Nat → Int64) (w x : Nat) (P : Nat → Nat → Prop) : Prop := ∃ s9 h9 : Nat, s9 < sp ∧ h9 < ho ∧ P s9 h9 ∧ lk w s9 = true ∧ lk x h9 = true ∧ cb lo hi (w ||| 2 ^ s9) (x ||| 2 ^ h9) = true ∧ ms s9 h9 = true
def FX (ms : Nat → Nat → Bool) (sp ho : Nat) (lo hi l9 h9 : Nat → Int64) (w : Nat) (P : Nat → Nat → Prop) : Prop := (∀ j, ¬ j = w → l9 j = lo j ∧ h9 j = hi j) ∧ ∀ x, x < 128 → (cb l9 h9 w x = true ↔ WP ms sp ho lo hi w x P)
section
variable {ms : Nat → Nat → Bool} {mz : Nat → Nat → Nat → Bool} {sp ho w i j fr nn k : Nat} {lo hi l9 h9 u9 v9 : Nat → Int64} {P Q : Nat → Nat → Prop}
theorem FX_0 (h1 : lo w = 0) (h2 : hi w = 0) (h : ∀ s t, ¬ P s t) : FX ms sp ho lo hi lo hi w P := ⟨fun _ _ => ⟨rfl, rfl⟩, fun x _ => ⟨fun k => by
  unfold cb at k
  rw [h1, h2, bt_zero, bt_zero, ite_self] at k
  exact absurd k (by decide), fun ⟨s, t, _, _, p, _⟩ => absurd p (h s t)⟩⟩
theorem FX_cg (h : FX ms sp ho lo hi l9 h9 w P) (e : ∀ s t, s < sp → t < ho → lk w s = true → ms s t = true → (P s t ↔ Q s t)) : FX ms sp ho lo hi l9 h9 w Q := by
  refine ⟨h.1, fun x hx => (h.2 x hx).trans ⟨?_, ?_⟩⟩
  · rintro ⟨s, t, a1, a2, a3, a4, a5, a6, a7⟩
    exact ⟨s, t, a1, a2, (e s t a1 a2 a4 a7).mp a3, a4, a5, a6, a7⟩
  · rintro ⟨s, t, a1, a2, a3, a4, a5, a6, a7⟩
    exact ⟨s, t, a1, a2, (e s t a1 a2 a4 a7).mpr a3, a4, a5, a6, a7⟩
theorem FX_u (h : FX ms sp ho lo hi l9 h9 w P) (hi9 : i < sp) (hj : j < ho) (hl : lk w i = true) (hm : ms i j = true) (hk : ∀ z, ¬ z = w → u9 z = l9 z ∧ v9 z = h9 z) (hc : ∀ x, x < 128 → cb u9 v9 w x = (cb l9 h9 w x || (lk x j && cb lo hi (w ||| 2 ^ i) (x ||| 2 ^ j)))) : FX ms sp ho lo hi u9 v9 w (fun s t => P s t ∨ (s = i ∧ t = j)) := by
  refine ⟨fun z hz => ⟨(hk z hz).1.trans (h.1 z hz).1, (hk z hz).2.trans (h.1 z hz).2⟩, fun x hx => ?_⟩
  rw [hc x hx, Bool.or_eq_true, h.2 x hx, Bool.and_eq_true]
  constructor
  · rintro (⟨s, t, a1, a2, a3, a4⟩ | ⟨k1, k2⟩)
    · exact ⟨s, t, a1, a2, Or.inl a3, a4⟩
    · exact ⟨i, j, hi9, hj, Or.inr ⟨rfl, rfl⟩, hl, k1, k2, hm⟩
  · rintro ⟨s, t, a1, a2, a3, a4, a5, a6, a7⟩
    rcases a3 with a3 | ⟨a3, b3⟩
    · exact Or.inl ⟨s, t, a1, a2, a3, a4, a5, a6, a7⟩
    · rw [a3, b3] at a6; rw [b3] at a5
      exact Or.inr ⟨a5, a6⟩
theorem lk_6 : ∀ x, x < 128 → lk x 6 = decide (x < 64) := by decide +kernel
theorem FX_6 (h : FX ms sp ho lo hi l9 h9 w P) (hw : w < 128) (hi9 : i < sp) (hsp : sp ≤ 7) (hj : 6 < ho) (hl : lk w i = true) (hm : ms i 6 = true) : FX ms sp ho lo hi (vp_updL l9 w (l9 w ||| h9 (w ||| 2 ^ i))) h9 w (fun s t => P s t ∨ (s = i ∧ t = 6)) := by
  have hne := (or_b w hw i (by omega) hl).2
  refine FX_u h hi9 hj hl hm (fun z hz => ⟨pk_uLn hz, rfl⟩) (fun x hx => ?_)
  rw [lk_6 x hx]
  by_cases c : x < 64
  · rw [cb_lo c, cb_lo c, pk_uLs, bt_or, decide_eq_true c, Bool.true_and, (or_6 x c).1, cb_hi, (h.1 _ hne).2]
  · obtain ⟨y, rfl⟩ : ∃ y, x = 64 + y := ⟨x - 64, by omega⟩
    rw [cb_hi, cb_hi, decide_eq_false c, Bool.false_and, Bool.or_false]
theorem FX_h (h : FX ms sp ho lo hi l9 h9 w P) (hw : w < 128) (hi9 : i < sp) (hsp : sp ≤ 7) (hj : j < ho) (hj6 : j < 6) (hl : lk w i = true) (hm : ms i j = true) {u v : Int64} (hu : ∀ b, b < 64 → bt u b = (bt (l9 (w ||| 2 ^ i)) (2 ^ j + b) && bt (wH j) b)) (hv : ∀ b, b < 64 → bt v b = (bt (h9 (w ||| 2 ^ i)) (2 ^ j + b) && bt (wH j) b)) : FX ms sp ho lo hi (vp_updL l9 w (l9 w ||| u)) (vp_updL h9 w (h9 w ||| v)) w (fun s t => P s t ∨ (s = i ∧ t = j)) := by
  have hne := (or_b w hw i (by omega) hl).2
  refine FX_u h hi9 hj hl hm (fun z hz => ⟨pk_uLn hz, pk_uLn hz⟩) (fun x hx => ?_)
  rw [cb_up hx]
  congr 1
  by_cases c : x < 64
  · rw [if_pos c, hu x c, wH_n j hj6 x c, (h.1 _ hne).1]
    by_cases e : lk x j = true
    · have o := or_lo x c j hj6 e
      rw [e, Bool.true_and, cb_lo o.2, o.1]
      have e2 : (!x.testBit j) = true := e
      rw [e2, Bool.and_true]
    · have e2 : (!x.testBit j) = false := Bool.eq_false_iff.mpr e
      rw [e2, Bool.and_false, Bool.eq_false_iff.mpr e, Bool.false_and]
  · obtain ⟨y, rfl⟩ : ∃ y, x = 64 + y := ⟨x - 64, by omega⟩
    have hy : y < 64 := by omega
    rw [if_neg c, show 64 + y - 64 = y by omega, hv y hy, wH_n j hj6 y hy, (h.1 _ hne).2]
    by_cases e : y.testBit j = true
    · have e2 : lk (64 + y) j = false := by unfold lk; rw [(tb_hi y hy j hj6).1, e]; rfl
      rw [e, e2, Bool.false_and]; exact Bool.and_false _
    · have e1 : lk y j = true := by unfold lk; rw [Bool.eq_false_iff.mpr e]; rfl
      have o := or_hi y hy j hj6 e1
      rw [o.2, Bool.true_and, o.1, cb_hi, Bool.eq_false_iff.mpr e]; exact Bool.and_true _
theorem FX_i (h : FX ms sp ho lo hi l9 h9 w (fun s t => s < i ∨ (s = i ∧ t < j))) (hno : ¬ ms i j = true) : FX ms sp ho lo hi l9 h9 w (fun s t => s < i ∨ (s = i ∧ t < j + 1)) := FX_cg h (fun s t _ _ _ hm => ⟨fun q => q.imp id (fun r => ⟨r.1, by omega⟩), fun q => q.imp id (fun r => ⟨r.1, by
  by_cases e : t = j
  · exact absurd (by rw [← r.1, ← e]; exact hm) hno
  · omega⟩)⟩)
theorem FX_j (h : FX ms sp ho lo hi l9 h9 w (fun s t => (s < i ∨ (s = i ∧ t < j)) ∨ (s = i ∧ t = j))) : FX ms sp ho lo hi l9 h9 w (fun s t => s < i ∨ (s = i ∧ t < j + 1)) := FX_cg h (fun s t _ _ _ _ => ⟨fun q => by rcases q with (q | q) | q <;> omega, fun q => by
  by_cases e : t = j
  · rcases q with q | q
    · exact Or.inl (Or.inl q)
    · exact Or.inr ⟨q.1, e⟩
  · exact Or.inl (q.imp id (fun r => ⟨r.1, by omega⟩))⟩)
theorem FX_b (h : FX ms sp ho lo hi l9 h9 w (fun s _ => s < i)) : FX ms sp ho lo hi l9 h9 w (fun s t => s < i ∨ (s = i ∧ t < 0)) := FX_cg h (fun s t _ _ _ _ => ⟨Or.inl, fun q => by rcases q with q | q <;> omega⟩)
theorem FX_o (h : FX ms sp ho lo hi l9 h9 w (fun s t => s < i ∨ (s = i ∧ t < j))) (hd : ho ≤ j ∨ ¬ lk w i = true) : FX ms sp ho lo hi l9 h9 w (fun s _ => s < i + 1) := FX_cg h (fun s t _ ht hl _ => ⟨fun q => by rcases q with q | q <;> omega, fun q => by
  by_cases e : s = i
  · rcases hd with hd | hd
    · exact Or.inr ⟨e, by omega⟩
    · rw [e] at hl; exact absurd hl hd
  · exact Or.inl (by omega)⟩)
theorem FX_e (h : FX ms sp ho lo hi l9 h9 w (fun s _ => s < i)) (hi9 : sp ≤ i) : FX ms sp ho lo hi l9 h9 w (fun _ _ => True) := FX_cg h (fun s t hs _ _ _ => ⟨fun _ => trivial, fun _ => by omega⟩)
/-- all SETs, from the last night down -/
def GX (mz : Nat → Nat → Nat → Bool) (sp ho fr nn : Nat) (lo hi : Nat → Int64) (w : Nat) : Prop := (bcn w < nn → ∀ x, x < 128 → (cb lo hi w x = true ↔ WT (mz (fr + bcn w)) sp ho lo hi w x)) ∧ (bcn w = nn → ∀ x, x < 128 → cb lo hi w x = true)
theorem GX_k (hw : w < 128) (hsp : sp ≤ 7) (h : GX mz sp ho fr nn lo hi w) (hk : ∀ j, ¬ j = i → l9 j = lo j ∧ h9 j = hi j) (hne : ¬ w = i) (hb : bcn i ≤ bcn w) : GX mz sp ho fr nn l9 h9 w := by
  refine ⟨fun hn x hx => ?_, fun hn x hx => ?_⟩
  · rw [cb_eq (hk w hne), h.1 hn x hx]
    have e : ∀ s9, s9 < sp → lk w s9 = true → ∀ y, cb l9 h9 (w ||| 2 ^ s9) y = cb lo hi (w ||| 2 ^ s9) y := fun s9 a b y => cb_eq (hk _ (fun q => by have := (or_b w hw s9 (by omega) b).1; rw [q] at this; omega))
    constructor
    · rintro ⟨s9, j9, a1, a2, a3, a4, a5, a6⟩
      exact ⟨s9, j9, a1, a2, a3, a4, by rw [e s9 a1 a3]; exact a5, a6⟩
    · rintro ⟨s9, j9, a1, a2, a3, a4, a5, a6⟩
      exact ⟨s9, j9, a1, a2, a3, a4, by rw [← e s9 a1 a3]; exact a5, a6⟩
  · rw [cb_eq (hk w hne)]; exact h.2 hn x hx
theorem GX_n (hw : w < 128) (hsp : sp ≤ 7) (hn : bcn w < nn) (h : FX (mz (fr + bcn w)) sp ho lo hi l9 h9 w (fun _ _ => True)) : GX mz sp ho fr nn l9 h9 w := by
  refine ⟨fun _ x hx => ?_, fun k => absurd k (by omega)⟩
  rw [h.2 x hx]
  have e : ∀ s9, s9 < sp → lk w s9 = true → ∀ y, cb l9 h9 (w ||| 2 ^ s9) y = cb lo hi (w ||| 2 ^ s9) y := fun s9 a b y => cb_eq (h.1 _ (or_b w hw s9 (by omega) b).2)
  constructor
  · rintro ⟨s9, j9, a1, a2, -, a3, a4, a5, a6⟩
    exact ⟨s9, j9, a1, a2, a3, a4, by rw [e s9 a1 a3]; exact a5, a6⟩
  · rintro ⟨s9, j9, a1, a2, a3, a4, a5, a6⟩
    exact ⟨s9, j9, a1, a2, trivial, a3, a4, by rw [← e s9 a1 a3]; exact a5, a6⟩
theorem bt_m1 : ∀ b, b < 64 → bt (-1) b = true := by decide +kernel
theorem GX_t (hn : bcn w = nn) (h1 : lo w = -1) (h2 : hi w = -1) : GX mz sp ho fr nn lo hi w := ⟨fun k => absurd k (by omega), fun _ x hx => by
  unfold cb
  rw [h1, h2]
  by_cases c : x < 64
  · rw [if_pos c]; exact bt_m1 x c
  · rw [if_neg c]; exact bt_m1 (x - 64) (by omega)⟩
def CX (mz : Nat → Nat → Nat → Bool) (sp ho fr nn k i : Nat) (lo hi : Nat → Int64) : Prop := ∀ w, w < 128 → bcn w ≤ nn → (k < bcn w ∨ (bcn w = k ∧ w < i)) → GX mz sp ho fr nn lo hi w
theorem CX_k (h : CX mz sp ho fr nn k i lo hi) (hsp : sp ≤ 7) (hi9 : bcn i = k) (hk : ∀ j, ¬ j = i → l9 j = lo j ∧ h9 j = hi j) (hg : GX mz sp ho fr nn l9 h9 i) : CX mz sp ho fr nn k (i + 1) l9 h9 := by
  intro w hw hn hc
  by_cases he : w = i
  · rw [he]; exact hg
  · refine GX_k hw hsp (h w hw hn ?_) hk he (by omega)
    rcases hc with hc | hc
    · exact Or.inl hc
    · exact Or.inr ⟨hc.1, by omega⟩
theorem CX_s (h : CX mz sp ho fr nn k i lo hi) (hne : ¬ bcn i = k) : CX mz sp ho fr nn k (i + 1) lo hi := by
  intro w hw hn hc
  refine h w hw hn ?_
  rcases hc with hc | hc
  · exact Or.inl hc
  · have : ¬ w = i := fun q => hne (by rw [← q]; exact hc.1)
    exact Or.inr ⟨hc.1, by omega⟩
def CXj (mz : Nat → Nat → Nat → Bool) (sp ho fr nn kk : Nat) (lo hi : Nat → Int64) : Prop := ∀ w, w < 128 → bcn w ≤ nn → kk ≤ bcn w → GX mz sp ho fr nn lo hi w
theorem CXj_i (h : CXj mz sp ho fr nn (k + 1) lo hi) : CX mz sp ho fr nn k 0 lo hi := fun w hw hn hc => h w hw hn (by omega)
theorem CX_j (h : CX mz sp ho fr nn k i lo hi) (hi8 : 128 ≤ i) : CXj mz sp ho fr nn k lo hi := fun w hw hn hc => h w hw hn (by
  by_cases he : bcn w = k
  · exact Or.inr ⟨he, by omega⟩
  · exact Or.inl (by omega))
theorem CXj_0 : CXj mz sp ho fr nn (nn + 1) lo hi := fun w _ hn hc => by omega
theorem CX_F (hsp : sp ≤ 7) (hho : ho ≤ 7) (h : CXj mz sp ho fr nn 0 lo hi) : ∀ r w x, w < 128 → x < 128 → bcn w + r = nn → (cb lo hi w x = true ↔ FS mz sp ho r (fr + bcn w) w x)
  | 0, w, x, hw, hx, e => ⟨fun _ => trivial, fun _ => (h w hw (by omega) (Nat.zero_le _)).2 (by omega) x hx⟩
  | r + 1, w, x, hw, hx, e => by
    rw [(h w hw (by omega) (Nat.zero_le _)).1 (by omega) x hx]
    constructor
    · rintro ⟨s9, j9, a1, a2, a3, a4, a5, a6⟩
      have o1 := or_b w hw s9 (by omega) a3
      refine ⟨s9, j9, a1, a2, a3, a4, a6, ?_⟩
      have q := (CX_F hsp hho h r (w ||| 2 ^ s9) (x ||| 2 ^ j9) (tb_un w hw s9 (by omega) a3).2.2.1 (tb_un x hx j9 (by omega) a4).2.2.1 (by rw [o1.1]; omega)).mp a5
      rw [o1.1] at q
      exact q
    · rintro ⟨s9, j9, a1, a2, a3, a4, a6, a5⟩
      have o1 := or_b w hw s9 (by omega) a3
      refine ⟨s9, j9, a1, a2, a3, a4, ?_, a6⟩
      refine (CX_F hsp hho h r (w ||| 2 ^ s9) (x ||| 2 ^ j9) (tb_un w hw s9 (by omega) a3).2.2.1 (tb_un x hx j9 (by omega) a4).2.2.1 (by rw [o1.1]; omega)).mpr ?_
      rw [o1.1]
      exact a5
end
