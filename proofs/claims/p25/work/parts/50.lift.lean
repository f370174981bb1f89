
theorem SX.narrow {z : Nat → Nat} {A B : Nat → Prop} {U : State} {H : Heap} (h : SX z A U H) (hB : ∀ q, B q → A q) : SX z B U H := by
  obtain ⟨h0, h1, h2, h3, h4, h5, h6, h7, h8, h9, h10, h11, h12, h13, h14, h15, h16, h17, h18, h19, h20, h21, h22, h23, h24, h25, h26, h27, h28, h29, h30, h31, h32, h33, h34, h35, h36, h37⟩ := h
  exact ⟨h0, h1, h2, h3, h4, h5, h6, h7, h8, h9.narrow hB, h10.narrow hB, h11.narrow hB, h12.narrow hB, h13.narrow hB, h14.narrow hB, h15.narrow hB, h16.narrow hB, h17.narrow hB, h18.narrow hB, h19.narrow hB, h20.narrow hB, h21.narrow hB, h22.narrow hB, h23.narrow hB, h24.narrow hB, h25.narrow hB, h26.narrow hB, h27.narrow hB, h28.narrow hB, h29.narrow hB, h30, h31, h32, h33, h34, h35, h36, h37⟩
theorem va_P.subm {D : va_G} {cl : List vw_C} {ws ws' : va_W} {H : Heap} (h : va_P D cl ws H) (is : List Nat) (hs : is.map (fun i => ws[i]?) = ws'.map some) : va_P D cl ws' H := by
  intro k q hq
  have h1 : (is.map (fun i => ws[i]?))[k]? = some (some q) := by rw [hs, List.getElem?_map, hq]; rfl
  rw [List.getElem?_map] at h1
  cases hi : is[k]? with
  | none => rw [hi] at h1; cases h1
  | some i => rw [hi] at h1; exact h i q (Option.some.inj h1)
theorem A_sub {ws wc : va_W} {sz : Nat} (isC : List Nat) (hC : isC.map (fun i => ws[i]?) = wc.map some) : ∀ q, va_A wc sz q → va_A ws sz q := by
  intro q h
  rcases h with ⟨k, e, h⟩ | h
  · have h1 : (isC.map (fun i => ws[i]?))[k]? = some (some (q, e)) := by rw [hC, List.getElem?_map, h]; rfl
    rw [List.getElem?_map] at h1
    cases hi : isC[k]? with
    | none => rw [hi] at h1; cases h1
    | some i => rw [hi] at h1; exact Or.inl ⟨i, e, Option.some.inj h1⟩
  · exact Or.inr h
theorem PT.toPT {av : List Value} {D : va_G} {k : Nat → ClassId} {w wc : va_W} {sz : Nat} {z : Nat → Nat} (isC : List Nat) (hC : isC.map (fun i => w[i]?) = wc.map some) (hn : va_nd isC = true) (a : Array Value) (U : State) (h : va_Pc av (PT D k w sz z) a U) : va_Pc av (PT D k wc sz z) a U :=
  ⟨h.1, ⟨h.2.1.1, h.2.1.2.1.subm isC hC, h.2.1.2.2.1, h.2.1.2.2.2.sub isC hn hC⟩, h.2.2.narrow (A_sub isC hC)⟩
theorem PT.toPR {av : List Value} {D : va_G} {k : Nat → ClassId} {w wc : va_W} {sz : Nat} {z : Nat → Nat} (isC : List Nat) (hC : isC.map (fun i => w[i]?) = wc.map some) (hn : va_nd isC = true) (a : Array Value) (U : State) (h : va_Pc av (PT D k w sz z) a U) : va_Pc av (PR D k wc sz) a U :=
  ⟨h.1, h.2.1.1, h.2.1.2.1.subm isC hC, h.2.1.2.2.1, h.2.1.2.2.2.sub isC hn hC⟩
theorem PT.toPS {av : List Value} {D : va_G} {k : Nat → ClassId} {w wc : va_W} {sz : Nat} {z : Nat → Nat} (isC : List Nat) (hC : isC.map (fun i => w[i]?) = wc.map some) (a : Array Value) (U : State) (h : va_Pc av (PT D k w sz z) a U) : va_Pc av (PS D k wc) a U :=
  ⟨h.1, h.2.1.2.1.subm isC hC, h.2.1.2.2.1⟩
theorem PT.toPU {av : List Value} {D : va_G} {k : Nat → ClassId} {w wc : va_W} {sz : Nat} {z : Nat → Nat} (isC : List Nat) (hC : isC.map (fun i => w[i]?) = wc.map some) (a : Array Value) (U : State) (h : va_Pc av (PT D k w sz z) a U) : va_Pc av (PU D k wc z) a U :=
  ⟨h.1, ⟨h.2.1.2.1.subm isC hC, h.2.1.2.2.1⟩, h.2.2.narrow (fun _ q => q.elim)⟩
theorem Met.lift {l : Launch} {y : MethodName} {ws : List Cond} {rm : Room} {mc ms : Nat} {av : List Value} {D : va_G} {k : Nat → ClassId} {sz : Nat} {z : Nat → Nat} {w wc wr : va_W} {S : Type} {post : Int32 → S → Prop} {w1 : S → va_W} {Pc : Array Value → State → Prop} {P2 : Int32 → va_W → Prop}
    (hM : Met l y ws rm Pc (va_Qi post (fun u t => BO D (w1 u) (va_A wc sz) t) (va_A wc sz)) mc ms (va_A wc sz))
    (isC isR : List Nat) (hC : isC.map (fun i => w[i]?) = wc.map some) (hpc : ∀ a U, va_Pc av (PT D k w sz z) a U → Pc a U) (hR : isR.map (fun i => w[i]?) = wr.map some) (hn : va_nd isR = true) (hdis : ∀ i ∈ isR, i ∉ isC)
    (hp : ∀ r u, post r u → ∃ (w2 : va_W) (is : List Nat), is.map (fun i => (wr ++ w1 u)[i]?) = w2.map some ∧ va_nd is = true ∧ P2 r w2) :
    Met l y ws rm (va_Pc av (PT D k w sz z)) (va_Qi P2 (fun u t => BO D u (va_A w sz) t) (va_A w sz)) mc ms (va_A w sz) := by
  have hF := A_sub (sz := sz) isC hC
  refine MetFree.mono hM hpc (fun _ _ _ _ _ h => h) ?_
  intro a st o t hpre hpost
  obtain ⟨-, ⟨hsz, hP, -, hD⟩, -⟩ := hpre
  obtain ⟨⟨⟨r, u, ho, hu, hP1, hD1⟩, hf1, hf2⟩, L, hFE, hL⟩ := hpost
  subst hsz
  obtain ⟨w2, is, e2, n2, hq⟩ := hp r u hu
  obtain ⟨hP2, hD2⟩ := va_join hP (hD.self (sz := st.heap.size)) isC isR hC hR hn hdis hf2 hF hP1 hD1
  exact ⟨⟨⟨r, w2, ho, hq, hP2.subm is e2, hD2.sub is n2 e2⟩, hf1, fun q h1 h2 => hf2 q h1 (fun hh => h2 (hF q hh))⟩, L, hFE, fun q hq => hF _ (hL q hq)⟩
theorem Met.liftS {l : Launch} {y : MethodName} {ws : List Cond} {rm : Room} {av : List Value} {D : va_G} {k : Nat → ClassId} {sz : Nat} {z : Nat → Nat} {w : va_W} {post : Int32 → Prop} {Pc : Array Value → State → Prop} {P2 : Int32 → va_W → Prop}
    (hM : Met l y ws rm Pc (vp_Si post) 0 0 (fun _ => False)) (hpc : ∀ a U, va_Pc av (PT D k w sz z) a U → Pc a U) (hp : ∀ r, post r → P2 r w) :
    Met l y ws rm (va_Pc av (PT D k w sz z)) (va_Qi P2 (fun u t => BO D u (va_A w sz) t) (va_A w sz)) 0 0 (va_A w sz) := by
  refine MetFree.mono hM hpc (fun _ _ _ _ _ h => h) ?_
  intro a st o t hpre hpost
  obtain ⟨-, ⟨hsz, hP, -, hD⟩, -⟩ := hpre
  obtain ⟨⟨r, ho, hu, hh⟩, L, hFE, hL⟩ := hpost
  subst hsz
  exact ⟨⟨⟨r, w, ho, hp r hu, by rw [hh]; exact hP, hD.self⟩, by rw [hh]; exact Nat.le_refl _, fun q _ _ => by rw [hh]⟩, L, hFE, fun q hq => (hL q hq).elim⟩
theorem va_join2 {A0 : Nat → Prop} {D : va_G} {cl : List vw_C} {wc wr w1 : va_W} {H H1 : Heap} (hP : va_P D cl (wc ++ wr) H) (hD : va_D A0 (wc ++ wr)) (hk : ∀ q : Nat, q < H.size → ¬ va_A wc H.size q → H1[q]? = H[q]?) (hF : ∀ q, va_A wc H.size q → A0 q) (hP1 : va_P D cl w1 H1) (hD1 : va_D (va_A wc H.size) w1) : va_P D cl (wr ++ w1) H1 ∧ va_D A0 (wr ++ w1) := by
  have at2 : ∀ (k : Nat) (q : Nat × va_E), wr[k]? = some q → (wc ++ wr)[wc.length + k]? = some q := fun k q hq => by rw [List.getElem?_append_right (by omega)]; rw [Nat.add_sub_cancel_left]; exact hq
  have at1 : ∀ (k : Nat) (q : Nat × va_E), wc[k]? = some q → k < wc.length ∧ (wc ++ wr)[k]? = some q := fun k q hq => by
    have hl := (List.getElem?_eq_some_iff.mp hq).1
    exact ⟨hl, by rw [List.getElem?_append_left hl]; exact hq⟩
  have apart : ∀ (k : Nat) (q : Nat × va_E), wr[k]? = some q → q.1 < H.size ∧ ¬ va_A wc H.size q.1 := by
    intro k q hq
    have h2 := at2 k q hq
    have hl := (hP _ q h2).lt
    refine ⟨hl, fun h => ?_⟩
    rcases h with ⟨k2, e, h⟩ | h
    · obtain ⟨h3, h4⟩ := at1 k2 (q.1, e) h
      have hij := hD.1 _ _ q (q.1, e) h2 h4 rfl
      omega
    · omega
  refine ⟨va_P.app (fun k q hq => ?_) hP1, va_D.app ⟨fun i j p q hi hj e => ?_, fun k q hk => hD.2 _ q (at2 k q hk)⟩ (hD1.weaken (fun k q _ h => hF q.1 h)) (fun i j x y hx hy hxy => ?_)⟩
  · obtain ⟨g1, g2⟩ := apart k q hq
    exact (hP _ q (at2 k q hq)).kept (hk q.1 g1 g2)
  · have := hD.1 _ _ p q (at2 i p hi) (at2 j q hj) e
    omega
  · exact (apart i x hx).2 (by rw [hxy]; exact hD1.2 j y hy)
theorem A_left {A0 : Nat → Prop} {wc wr : va_W} {H0 H : Heap} {locs : List Loc} (hD : va_D A0 (wc ++ wr)) (hS : va_S A0 H0 H locs) (hA : ∀ q, H0.size ≤ q → A0 q) : ∀ q, va_A wc H.size q → A0 q := by
  intro q h
  rcases h with ⟨k, e, h⟩ | h
  · exact hD.2 k (q, e) (by rw [List.getElem?_append_left (List.getElem?_eq_some_iff.mp h).1]; exact h)
  · exact hA q (Nat.le_trans hS.1 h)
theorem va_P_swap {D : va_G} {cl : List vw_C} {w1 w2 : va_W} {H : Heap} (h : va_P D cl (w1 ++ w2) H) : va_P D cl (w2 ++ w1) H := by
  refine va_P.app (fun k q hk => h (w1.length + k) q ?_) (fun k q hk => h k q ?_)
  · rw [List.getElem?_append_right (by omega), Nat.add_sub_cancel_left]; exact hk
  · rw [List.getElem?_append_left (List.getElem?_eq_some_iff.mp hk).1]; exact hk
theorem va_D_swap {A : Nat → Prop} {w1 w2 : va_W} (h : va_D A (w1 ++ w2)) : va_D A (w2 ++ w1) := by
  have at2 : ∀ (k : Nat) (q : Nat × va_E), w2[k]? = some q → (w1 ++ w2)[w1.length + k]? = some q := fun k q hq => by rw [List.getElem?_append_right (by omega), Nat.add_sub_cancel_left]; exact hq
  have at1 : ∀ (k : Nat) (q : Nat × va_E), w1[k]? = some q → k < w1.length ∧ (w1 ++ w2)[k]? = some q := fun k q hq => by
    have hl := (List.getElem?_eq_some_iff.mp hq).1
    exact ⟨hl, by rw [List.getElem?_append_left hl]; exact hq⟩
  refine va_D.app ⟨fun i j p q hi hj e => ?_, fun k q hk => h.2 _ q (at2 k q hk)⟩ ⟨fun i j p q hi hj e => h.1 i j p q (at1 i p hi).2 (at1 j q hj).2 e, fun k q hk => h.2 _ q (at1 k q hk).2⟩ (fun i j p q hi hj e => ?_)
  · have := h.1 _ _ p q (at2 i p hi) (at2 j q hj) e
    omega
  · have h3 := at1 j q hj
    have := h.1 _ _ p q (at2 i p hi) h3.2 e
    omega
section CLW2
variable {p : Program} {l : Launch} {e : Env} {R : Room} {s : State} {m : MethodId} {args : Array Value} {below : List Frame} {meth : Method} {c : Code} {H : Heap} {locs : List Loc} {cells slots : Nat} {Q : State → Prop}
variable {pc : Nat} {ls : Array Slot} {rest st0 : List Value} {a : Array Value} {A0 : Nat → Prop} {H0 : Heap} {mc ms : Nat} {D : va_G} {wc wr : va_W}
theorem cl_i2 {P2 : Int32 → va_W → Prop}
    (hr : va_Run p l e R s m args below meth c H locs cells slots mc ms (F0 m pc ls st0) rest (va_Qi P2 (fun u t => BO D u (va_A wc H.size) t) (va_A wc H.size) a) (va_A wc H.size))
    (hP : va_P D vwCl (wc ++ wr) H) (hD : va_D A0 (wc ++ wr)) (hS : va_S A0 H0 H locs) (hA : ∀ q, H0.size ≤ q → A0 q)
    (kk : ∀ (r : Int32) (u : va_W) (H1 : Heap) (locs1 : List Loc), P2 r u → va_P D vwCl (wr ++ u) H1 → va_D A0 (wr ++ u) → va_S A0 H0 H1 locs1 → W p l e R s m args below meth c H1 locs1 (cells + mc) (slots + ms) Q (F0 m (pc + 3) ls (.int r :: rest))) : W p l e R s m args below meth c H locs cells slots Q (F0 m pc ls st0) := by
  have hF := A_left hD hS hA
  refine va_calli hr hS (fun q _ h => hF q h) hF (fun r u t H1 locs1 ht hvm hw hB hz1 hk1 hS1 => ?_)
  obtain ⟨hP1, hD1⟩ := hB
  rw [ht] at hP1
  obtain ⟨hP2, hD2⟩ := va_join2 hP hD hk1 hF hP1 hD1
  exact kk r u H1 locs1 hw hP2 hD2 hS1
theorem cl_v2 {S : Type} {post : S → Prop} {w1 : S → va_W}
    (hr : va_Run p l e R s m args below meth c H locs cells slots mc ms (F0 m pc ls st0) rest (va_Qv post (fun u t => BO D (w1 u) (va_A wc H.size) t) (va_A wc H.size) a) (va_A wc H.size))
    (hP : va_P D vwCl (wc ++ wr) H) (hD : va_D A0 (wc ++ wr)) (hS : va_S A0 H0 H locs) (hA : ∀ q, H0.size ≤ q → A0 q)
    (kk : ∀ (u : S) (H1 : Heap) (locs1 : List Loc), post u → va_P D vwCl (wr ++ w1 u) H1 → va_D A0 (wr ++ w1 u) → va_S A0 H0 H1 locs1 → W p l e R s m args below meth c H1 locs1 (cells + mc) (slots + ms) Q (F0 m (pc + 3) ls rest)) : W p l e R s m args below meth c H locs cells slots Q (F0 m pc ls st0) := by
  have hF := A_left hD hS hA
  refine va_callv hr hS (fun q _ h => hF q h) hF (fun u t H1 locs1 ht hvm hw hB hz1 hk1 hS1 => ?_)
  obtain ⟨hP1, hD1⟩ := hB
  rw [ht] at hP1
  obtain ⟨hP2, hD2⟩ := va_join2 hP hD hk1 hF hP1 hD1
  exact kk u H1 locs1 hw hP2 hD2 hS1
end CLW2

def XI (k : Nat → ClassId) (h : Nat) (n : Nat) (f : Nat → Int32) (q : Nat → Nat) (G0 : Nat → Int32) (G1 : Nat → Int32) (G2 : Nat → Int32) (G3 : Nat → Int32) (lf : Nat → Int32) (cf : Nat → Int32) (al : Nat → Nat) (nn : Nat) (yy : Nat) (ag : Int32) (l4 : Int32) (f0 : Nat → Int32) (f1 : Nat → Int32) (f2 : Nat → Int32) (f3 : Nat → Int32) (f4 : Nat → Int32) (f5 : Nat → Int32) (f6 : Nat → Int32) (wg : Int32) (dy : Nat) (sd : Int32) (fa0 : Nat → Int32) (fa1 : Nat → Int32) (fa2 : Nat → Int32) (fa3 : Nat → Int32) (fa4 : Nat → Int32) (fa5 : Nat → Int32) (fa6 : Nat → Int32) (wa1 : Int32) (da : Nat) (sa1 : Int32) (fb0 : Nat → Int32) (fb1 : Nat → Int32) (fb2 : Nat → Int32) (fb3 : Nat → Int32) (fb4 : Nat → Int32) (fb5 : Nat → Int32) (fb6 : Nat → Int32) (wb1 : Int32) (db : Nat) (sb1 : Int32) (kz : Nat → Int32) (b : Nat) (bd : Nat → Int32) (bs : Nat → Int32) (bh : Nat → Int32) (fb : Int32) (be : Nat → Int32) (lg : Nat → Int32) (ab : Nat → Int64) (kn : Int32) (ga : Int32) (dy0 : Int32) (ni0 : Int32) (od : Nat → Int32) (en : Nat → Int32) (o9 : Nat → Int32) (w : va_W) : Prop := ∃ (pn : Nat → Nat) (pi : Nat → Int32) (pr : Nat → Nat → Nat) (pf : Nat → Nat → Int32) (pl : Nat → Nat → Int64), w = [(h, .inr (9, [.ref (pn 0), .ref (pn 1), .ref (pn 2), .ref (pn 3), .ref (pn 4), .ref (pn 5), .ref (pn 6), .ref (pn 7), .ref (pn 8), .ref (pn 9), .ref (pn 10), .ref (pn 11), .int fb])), ((pn 0), .inr (7, [.ref (pn 12), .int (nI n), .int (pi 0), .int (pi 1), .int (pi 2), .int (pi 3), .int (pi 4), .int (pi 5)])), ((pn 12), .inl (k 0, 500, .inl f)), ((pn 1), .inr (2, [.ref (pn 13), .ref (pn 14), .ref (pn 15), .ref (pn 16), .ref (pn 17), .ref (pn 18), .ref (pn 19), .int wg, .int (nI dy), .int sd])), ((pn 13), .inl (k 0, 3, .inl f0)), ((pn 14), .inl (k 0, 3, .inl f1)), ((pn 15), .inl (k 0, 3, .inl f2)), ((pn 16), .inl (k 0, 3, .inl f3)), ((pn 17), .inl (k 0, 3, .inl f4)), ((pn 18), .inl (k 0, 3, .inl f5)), ((pn 19), .inl (k 0, 3, .inl f6)), ((pn 2), .inl (k 3, 2, .inr (.inr (.inr (.inr (img2 (pn 20) (pn 21))))))), ((pn 3), .inl (k 2, 2, .inl kz)), ((pn 20), .inr (2, [.ref (pn 22), .ref (pn 23), .ref (pn 24), .ref (pn 25), .ref (pn 26), .ref (pn 27), .ref (pn 28), .int wa1, .int (nI da), .int sa1])), ((pn 22), .inl (k 0, 3, .inl fa0)), ((pn 23), .inl (k 0, 3, .inl fa1)), ((pn 24), .inl (k 0, 3, .inl fa2)), ((pn 25), .inl (k 0, 3, .inl fa3)), ((pn 26), .inl (k 0, 3, .inl fa4)), ((pn 27), .inl (k 0, 3, .inl fa5)), ((pn 28), .inl (k 0, 3, .inl fa6)), ((pn 21), .inr (2, [.ref (pn 29), .ref (pn 30), .ref (pn 31), .ref (pn 32), .ref (pn 33), .ref (pn 34), .ref (pn 35), .int wb1, .int (nI db), .int sb1])), ((pn 29), .inl (k 0, 3, .inl fb0)), ((pn 30), .inl (k 0, 3, .inl fb1)), ((pn 31), .inl (k 0, 3, .inl fb2)), ((pn 32), .inl (k 0, 3, .inl fb3)), ((pn 33), .inl (k 0, 3, .inl fb4)), ((pn 34), .inl (k 0, 3, .inl fb5)), ((pn 35), .inl (k 0, 3, .inl fb6)), ((pn 4), .inr (0, [.int (nI b), .ref (pn 36), .ref (pn 37), .ref (pn 38)])), ((pn 36), .inl (k 0, 20, .inl bd)), ((pn 37), .inl (k 0, 20, .inl bs)), ((pn 38), .inl (k 0, 20, .inl bh)), ((pn 8), .inr (8, [.ref (pn 39), .ref (pn 40), .ref (pn 41), .ref (pn 42), .ref (pn 43)])), ((pn 39), .inl (k 0, 4, .inl (cI q))), ((pn 40), .inl (k 4, 4, .inr (.inr (.inr (.inr (gr4 (pr 0))))))), (((pr 0) 0), .inl (k 0, 80, .inl G0)), (((pr 0) 1), .inl (k 0, 80, .inl G1)), (((pr 0) 2), .inl (k 0, 80, .inl G2)), (((pr 0) 3), .inl (k 0, 80, .inl G3)), ((pn 41), .inl (k 0, 400, .inl lf)), ((pn 42), .inl (k 0, 700, .inl cf)), ((pn 43), .inl (k 0, 100, .inl (cI al))), ((pn 9), .inr (8, [.ref (pn 44), .ref (pn 45), .ref (pn 46), .ref (pn 47), .ref (pn 48)])), ((pn 44), .inl (k 0, 4, .inl (cI (pr 2)))), ((pn 45), .inl (k 4, 4, .inr (.inr (.inr (.inr (gr4 (pr 1))))))), (((pr 1) 0), .inl (k 0, 80, .inl (pf 0))), (((pr 1) 1), .inl (k 0, 80, .inl (pf 1))), (((pr 1) 2), .inl (k 0, 80, .inl (pf 2))), (((pr 1) 3), .inl (k 0, 80, .inl (pf 3))), ((pn 46), .inl (k 0, 400, .inl (pf 4))), ((pn 47), .inl (k 0, 700, .inl (pf 5))), ((pn 48), .inl (k 0, 100, .inl (cI (pr 3)))), ((pn 10), .inr (3, [.int (nI nn), .int (nI yy), .int ag, .int l4, .int (pi 11)])), ((pn 11), .inr (3, [.int (pi 6), .int (pi 7), .int (pi 8), .int (pi 9), .int (pi 10)])), ((pn 5), .inr (5, [.ref (pn 49), .ref (pn 50), .ref (pn 8), .ref (pn 51), .ref (pn 52), .ref (pn 53), .ref (pn 54), .ref (pn 55), .ref (pn 56), .ref (pn 57)])), ((pn 49), .inl (k 0, 7, .inl (pf 6))), ((pn 50), .inl (k 0, 7, .inl (pf 7))), ((pn 51), .inr (6, [.int 0, .int 0, .ref (pn 58), .ref (pn 59), .ref (pn 60)])), ((pn 58), .inl (k 0, 3, .inl (pf 8))), ((pn 59), .inl (k 0, 21, .inl (pf 9))), ((pn 60), .inl (k 0, 21, .inl (pf 10))), ((pn 52), .inl (k 0, 7, .inl be)), ((pn 53), .inl (k 0, 100, .inl lg)), ((pn 54), .inl (k 1, 200, .inr (.inl ab))), ((pn 55), .inl (k 1, 128, .inr (.inl (pl 0)))), ((pn 56), .inl (k 1, 128, .inr (.inl (pl 1)))), ((pn 57), .inl (k 0, 49, .inl o9)), ((pn 6), .inr (4, [.int kn, .int ga, .ref (pn 61), .ref (pn 62), .ref (pn 63), .ref (pn 64), .ref (pn 5), .int dy0, .int ni0])), ((pn 61), .inl (k 0, 3, .inl od)), ((pn 62), .inl (k 0, 3, .inl en)), ((pn 63), .inl (k 0, 3, .inl (pf 11))), ((pn 64), .inr (6, [.int (pi 12), .int (pi 13), .ref (pn 65), .ref (pn 66), .ref (pn 67)])), ((pn 65), .inl (k 0, 3, .inl (pf 12))), ((pn 66), .inl (k 0, 21, .inl (pf 13))), ((pn 67), .inl (k 0, 21, .inl (pf 14))), ((pn 7), .inr (1, [.int (pi 14), .int (pi 15), .int (pi 16), .ref (pn 68), .ref (pn 5)])), ((pn 68), .inl (k 0, 8, .inl (pf 15)))]
theorem XI.recv {k : Nat → ClassId} {h : Nat} {n : Nat} {f : Nat → Int32} {q : Nat → Nat} {G0 : Nat → Int32} {G1 : Nat → Int32} {G2 : Nat → Int32} {G3 : Nat → Int32} {lf : Nat → Int32} {cf : Nat → Int32} {al : Nat → Nat} {nn : Nat} {yy : Nat} {ag : Int32} {l4 : Int32} {f0 : Nat → Int32} {f1 : Nat → Int32} {f2 : Nat → Int32} {f3 : Nat → Int32} {f4 : Nat → Int32} {f5 : Nat → Int32} {f6 : Nat → Int32} {wg : Int32} {dy : Nat} {sd : Int32} {fa0 : Nat → Int32} {fa1 : Nat → Int32} {fa2 : Nat → Int32} {fa3 : Nat → Int32} {fa4 : Nat → Int32} {fa5 : Nat → Int32} {fa6 : Nat → Int32} {wa1 : Int32} {da : Nat} {sa1 : Int32} {fb0 : Nat → Int32} {fb1 : Nat → Int32} {fb2 : Nat → Int32} {fb3 : Nat → Int32} {fb4 : Nat → Int32} {fb5 : Nat → Int32} {fb6 : Nat → Int32} {wb1 : Int32} {db : Nat} {sb1 : Int32} {kz : Nat → Int32} {b : Nat} {bd : Nat → Int32} {bs : Nat → Int32} {bh : Nat → Int32} {fb : Int32} {be : Nat → Int32} {lg : Nat → Int32} {ab : Nat → Int64} {kn : Int32} {ga : Int32} {dy0 : Int32} {ni0 : Int32} {od : Nat → Int32} {en : Nat → Int32} {o9 : Nat → Int32} {w : va_W} (hI : XI k h n f q G0 G1 G2 G3 lf cf al nn yy ag l4 f0 f1 f2 f3 f4 f5 f6 wg dy sd fa0 fa1 fa2 fa3 fa4 fa5 fa6 wa1 da sa1 fb0 fb1 fb2 fb3 fb4 fb5 fb6 wb1 db sb1 kz b bd bs bh fb be lg ab kn ga dy0 ni0 od en o9 w) : ∃ fs, w[0]? = some (h, .inr (9, fs)) := by
  obtain ⟨pn, pi, pr, pf, pl, rfl⟩ := hI
  exact ⟨_, rfl⟩
theorem ye_n {n9 y0 : Int32} {nv : Nat} (h1 : 1 ≤ nv) (h7 : nv ≤ 7) (e : n9 = nI nv) (h : y0 = -1 ∨ ∃ v : Nat, v ≤ 7 ∧ y0 = nI v) : ∃ yv : Nat, yv ≤ 7 ∧ yeF n9 y0 = nI yv := by
  unfold yeF
  rcases h with h | ⟨v, hv, h⟩
  · refine ⟨nv / 2 + 1, by omega, ?_⟩
    rw [if_pos h, e, ← nI_add]
    exact congrArg (· + 1) (pk_div (d := 2) (by omega) (by decide) (by decide))
  · refine ⟨v, hv, ?_⟩
    rw [if_neg (fun q => ?_)]
    · exact h
    · rw [h] at q
      have h0 : ¬ nI v < 0 := nI_pos (by omega)
      rw [q] at h0
      exact h0 (by decide)
