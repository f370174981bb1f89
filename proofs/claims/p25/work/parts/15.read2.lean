
theorem nfl_n {f : Nat → Int32} {n a K rp k : Nat} {w : Int32} (h : ¬ k = rp) : nfl f n a K rp w (k + 1) = nF f n (npos f n a k) (nfl f n a K rp w k) (stv2 (K * 4 + k)) (stv3 (K * 4 + k)) := if_neg h
theorem nfa_n {f : Nat → Int32} {n a K rp k : Nat} {w fa : Int32} (h : ¬ k = rp) : nfa f n a K rp w fa (k + 1) = nA f n (npos f n a k) (nfl f n a K rp w k) (nfa f n a K rp w fa k) (stv2 (K * 4 + k)) (stv3 (K * 4 + k)) := if_neg h
theorem nfl_p {f : Nat → Int32} {n a K rp k : Nat} {w : Int32} (h : k = rp) (hc : nvl f n a (k - 1) ≤ nvl f n a k) : nfl f n a K rp w (k + 1) = nF f n (npos f n a k) (nfl f n a K rp w k) (stv2 (K * 4 + k)) (stv3 (K * 4 + k)) := (if_pos h).trans (if_pos hc)
theorem nfa_p {f : Nat → Int32} {n a K rp k : Nat} {w fa : Int32} (h : k = rp) (hc : nvl f n a (k - 1) ≤ nvl f n a k) : nfa f n a K rp w fa (k + 1) = nA f n (npos f n a k) (nfl f n a K rp w k) (nfa f n a K rp w fa k) (stv2 (K * 4 + k)) (stv3 (K * 4 + k)) := (if_pos h).trans (if_pos hc)
theorem nfl_m {f : Nat → Int32} {n a K rp k : Nat} {w : Int32} (h : k = rp) (hc : ¬ nvl f n a (k - 1) ≤ nvl f n a k) : nfl f n a K rp w (k + 1) = bl (nF f n (npos f n a k) (nfl f n a K rp w k) (stv2 (K * 4 + k)) (stv3 (K * 4 + k))) 4 := (if_pos h).trans (if_neg hc)
theorem nfa_m {f : Nat → Int32} {n a K rp k : Nat} {w fa : Int32} (h : k = rp) (hc : ¬ nvl f n a (k - 1) ≤ nvl f n a k) : nfa f n a K rp w fa (k + 1) = bla (nF f n (npos f n a k) (nfl f n a K rp w k) (stv2 (K * 4 + k)) (stv3 (K * 4 + k))) (nA f n (npos f n a k) (nfl f n a K rp w k) (nfa f n a K rp w fa k) (stv2 (K * 4 + k)) (stv3 (K * 4 + k))) (nI (nS f n (npos f n a k))) := (if_pos h).trans (if_neg hc)

abbrev c_X8_rn2 (k : Nat → ClassId) (z : Nat → Nat) (h : Nat) (t : Nat) (tn : Nat) (tl : Nat) (tc : Nat) (ta : Nat) (rw : Nat → Nat) (q : Nat → Nat) (G : Nat → Int32) (tx : Nat) (qb : Nat) (n : Nat) (a : Nat) (w2 : Int32) (w3 : Int32) (w4 : Int32) (w5 : Int32) (w6 : Int32) (f : Nat → Int32) : va_W := [(h, .inr (8, [.ref t, .ref tn, .ref tl, .ref tc, .ref ta])), (t, .inl (k 0, 4, .inl (cI q))), (tn, .inl (k 4, 4, .inr (.inr (.inr (.inr (gr4 rw)))))), ((rw 2), .inl (k 0, 80, .inl G)), (tx, .inr (7, [.ref qb, .int (nI n), .int w2, .int w3, .int w4, .int w5, .int w6, .int (nI a)])), (qb, .inl (k 0, 500, .inl f))]
abbrev r_X8_rn2 : Room := { frames := 3, cells := 0, slots := 0, locals := 66 }
def w_X8_rn2 (k : Nat → ClassId) (z : Nat → Nat) (h : Nat) (t : Nat) (tn : Nat) (tl : Nat) (tc : Nat) (ta : Nat) (rw : Nat → Nat) (q : Nat → Nat) (G : Nat → Int32) (tx : Nat) (qb : Nat) (n : Nat) (a : Nat) (w2 : Int32) (w3 : Int32) (w4 : Int32) (w5 : Int32) (w6 : Int32) (f : Nat → Int32) : Unit → va_W := fun _ => [(h, .inr (8, [.ref t, .ref tn, .ref tl, .ref tc, .ref ta])), (t, .inl (k 0, 4, .inl (cI q))), (tn, .inl (k 4, 4, .inr (.inr (.inr (.inr (gr4 rw)))))), ((rw 2), .inl (k 0, 80, .inl (nGr f n a (q 2) G 4))), (tx, .inr (7, [.ref qb, .int (nI n), .int w2, .int (nI (nS f n (npos f n a 3))), .int (nfl f n a 2 2 w4 4), .int (nfa f n a 2 2 w4 w5 4), .int w6, .int (nI (npos f n a 4))])), (qb, .inl (k 0, 500, .inl f))]
def p_X8_rn2 (k : Nat → ClassId) (z : Nat → Nat) (h : Nat) (t : Nat) (tn : Nat) (tl : Nat) (tc : Nat) (ta : Nat) (rw : Nat → Nat) (q : Nat → Nat) (G : Nat → Int32) (tx : Nat) (qb : Nat) (n : Nat) (a : Nat) (w2 : Int32) (w3 : Int32) (w4 : Int32) (w5 : Int32) (w6 : Int32) (f : Nat → Int32) : Unit → Prop := fun (u : Unit) => True
abbrev q_X8_rn2 (D : va_G) (k : Nat → ClassId) (z : Nat → Nat) (h : Nat) (t : Nat) (tn : Nat) (tl : Nat) (tc : Nat) (ta : Nat) (rw : Nat → Nat) (q : Nat → Nat) (G : Nat → Int32) (tx : Nat) (qb : Nat) (n : Nat) (a : Nat) (w2 : Int32) (w3 : Int32) (w4 : Int32) (w5 : Int32) (w6 : Int32) (f : Nat → Int32) (A : Nat → Prop) : Array Value → State → Outcome → State → Prop := va_Qv (p_X8_rn2 k z h t tn tl tc ta rw q G tx qb n a w2 w3 w4 w5 w6 f) (fun u9 t9 => BO D (w_X8_rn2 k z h t tn tl tc ta rw q G tx qb n a w2 w3 w4 w5 w6 f u9) A t9) A
set_option maxHeartbeats 20000000 in
set_option maxRecDepth 100000 in
theorem X8_rn2 (l : Launch) (D : va_G) (k : Nat → ClassId) (sz : Nat) (z : Nat → Nat) (h : Nat) (t : Nat) (tn : Nat) (tl : Nat) (tc : Nat) (ta : Nat) (rw : Nat → Nat) (q : Nat → Nat) (G : Nat → Int32) (tx : Nat) (qb : Nat) (n : Nat) (a : Nat) (w2 : Int32) (w3 : Int32) (w4 : Int32) (w5 : Int32) (w6 : Int32) (f : Nat → Int32) (hn : n ≤ 500) (ha : a ≤ n) (hqK : q 2 < 20) : Met l yX8_readNumbers wsX8_readNumbers r_X8_rn2 (va_Pc [.ref h, .ref tx, .int 2] (PT D k (c_X8_rn2 k z h t tn tl tc ta rw q G tx qb n a w2 w3 w4 w5 w6 f) sz z)) (q_X8_rn2 D k z h t tn tl tc ta rw q G tx qb n a w2 w3 w4 w5 w6 f (va_A (c_X8_rn2 k z h t tn tl tc ta rw q G tx qb n a w2 w3 w4 w5 w6 f) sz)) 0 0 (va_A (c_X8_rn2 k z h t tn tl tc ta rw q G tx qb n a w2 w3 w4 w5 w6 f) sz) := by
  refine Met.ofW (cc := cX8_readNumbers) (maxL := 7) (ret := none) (by decide) rfl ?_
  intro p e s m args below meth c s₁ B hml hv
  obtain ⟨rfl, ⟨hsz, hP, hG, hD0⟩, hZ⟩ := hv
  have hx := B.exec
  have hb := B.bytes
  have hr := B.returns
  have hts := atoms_spec (ws := wsX8_readNumbers) B.pre
  have hown : s.vm.findClass RX8 = some m.cls := findClass_of_methodNamed B.named
  have hlocks := B.notSynchronized
  have hi7 : ∀ w ∈ wsX70, w ∈ wsX8_readNumbers := fun _ h => List.mem_cons_of_mem _ (List.mem_append_left _ (List.mem_append_right _ h))
  have hi8 : ∀ w ∈ wsX80, w ∈ wsX8_readNumbers := fun _ h => List.mem_cons_of_mem _ (List.mem_append_right _ h)
  subst hsz
  have hD := hD0.self (sz := s.heap.size)
  generalize hAe : va_A (c_X8_rn2 k z h t tn tl tc ta rw q G tx qb n a w2 w3 w4 w5 w6 f) s.heap.size = A at hD hZ ⊢
  have hA : ∀ q : Nat, s.heap.size ≤ q → A q := fun q h => by rw [← hAe]; exact Or.inr h
  have hS : va_S A s.heap s.heap [] := va_S.rf
  have hP : va_P D vwCl [(h, .inr (8, [.ref t, .ref tn, .ref tl, .ref tc, .ref ta])), (t, .inl (k 0, 4, .inl (cI q))), (tn, .inl (k 4, 4, .inr (.inr (.inr (.inr (gr4 rw)))))), ((rw 2), .inl (k 0, 80, .inl G)), (tx, .inr (7, [.ref qb, .int (nI n), .int w2, .int w3, .int w4, .int w5, .int w6, .int (nI a)])), (qb, .inl (k 0, 500, .inl f))] s.heap := hP
  have hD : va_D A [(h, .inr (8, [.ref t, .ref tn, .ref tl, .ref tc, .ref ta])), (t, .inl (k 0, 4, .inl (cI q))), (tn, .inl (k 4, 4, .inr (.inr (.inr (.inr (gr4 rw)))))), ((rw 2), .inl (k 0, 80, .inl G)), (tx, .inr (7, [.ref qb, .int (nI n), .int w2, .int w3, .int w4, .int w5, .int w6, .int (nI a)])), (qb, .inl (k 0, 500, .inl f))] := hD
  have hl := lv_entry ([.ref h, .ref tx, .int 2]) (n := 7) (Nat.le_of_ble_eq_true rfl)
  rw [lg_entry_eq]
  generalize (lg_sl ([.ref h, .ref tx, .int 2]) ++ List.replicate (7 - (lg_sl ([.ref h, .ref tx, .int 2])).length) Slot.unset).toArray = ls at hl ⊢
  have hl : lv_has ls 7 [(0, .ref h), (1, .ref tx), (2, .int 2)] := hl
  have hnp := fun k => npos_le (f := f) ha k
  have hP : va_P D vwCl [(h, .inr (8, [.ref t, .ref tn, .ref tl, .ref tc, .ref ta])), (t, .inl (k 0, 4, .inl (cI q))), (tn, .inl (k 4, 4, .inr (.inr (.inr (.inr (gr4 rw)))))), ((rw 2), .inl (k 0, 80, .inl (nGr f n a (q 2) G 0))), (tx, .inr (7, [.ref qb, .int (nI n), .int w2, .int w3, .int (nfl f n a 2 2 w4 0), .int (nfa f n a 2 2 w4 w5 0), .int w6, .int (nI (npos f n a 0))])), (qb, .inl (k 0, 500, .inl f))] s.heap := hP
  have hD : va_D A [(h, .inr (8, [.ref t, .ref tn, .ref tl, .ref tc, .ref ta])), (t, .inl (k 0, 4, .inl (cI q))), (tn, .inl (k 4, 4, .inr (.inr (.inr (.inr (gr4 rw)))))), ((rw 2), .inl (k 0, 80, .inl (nGr f n a (q 2) G 0))), (tx, .inr (7, [.ref qb, .int (nI n), .int w2, .int w3, .int (nfl f n a 2 2 w4 0), .int (nfa f n a 2 2 w4 w5 0), .int w6, .int (nI (npos f n a 0))])), (qb, .inl (k 0, 500, .inl f))] := hD
  refine lv_iconst (v := 0) hx hb dX8_readNumbers_0 (by decide) ?_
  refine lv_istore_n (lv' := [(3, .int 0), (0, .ref h), (1, .ref tx), (2, .int 2)]) hx hb dX8_readNumbers_1 rfl hl (by decide) rfl (fun ls hl => ?_)
  refine lv_iconst (v := 0) hx hb dX8_readNumbers_2 (by decide) ?_
  refine lv_istore (lv' := [(4, .int 0), (3, .int 0), (0, .ref h), (1, .ref tx), (2, .int 2)]) hx hb dX8_readNumbers_3 hl (by decide) rfl (fun ls hl => ?_)
  refine lv_iload hx hb dX8_readNumbers_5 (lv_at hl 0 rfl) ?_
  refine va_getsN (C := RX9) (ref := RX9) (host := RX9) hx hb (hZ.2.2.2.2.2.2.2.2.2.2.2.1) hS hown (va_Nw.use rfl hZ.2.1) (fun _ h9 => h9) dX8_readNumbers_7 ?_
  refine lv_iload_n hx hb dX8_readNumbers_10 rfl (lv_at hl 4 rfl) ?_
  refine va_ti (v := .int 4) hx hb (hZ.2.2.2.2.2.2.2.2.2.2.2.2.1) hS (vp_in_nI (n := 2) (by omega) (by omega)) (rfl) dX8_readNumbers_11 ?_
  refine lv_icmp_ge (x := 0) (y := 4) (tgt := 95) hx hb dX8_readNumbers_12 (by decide) (fun c1 => absurd c1 (by decide)) (fun c1 => ?_)
  refine lv_iload_n hx hb dX8_readNumbers_15 rfl (lv_at hl 4 rfl) ?_
  refine lv_iconst (v := 4) hx hb dX8_readNumbers_16 (by decide) ?_
  refine lv_imul hx hb dX8_readNumbers_17 ?_
  refine tp_i (y := 8) (by decide) ?_
  refine lv_iload hx hb dX8_readNumbers_18 (lv_at hl 0 rfl) ?_
  refine lv_iadd hx hb dX8_readNumbers_20 ?_
  refine tp_i (y := 8) (by decide) ?_
  refine lv_istore (lv' := [(5, .int 8), (4, .int 0), (3, .int 0), (0, .ref h), (1, .ref tx), (2, .int 2)]) hx hb dX8_readNumbers_21 hl (by decide) rfl (fun ls hl => ?_)
  refine lv_aload_n hx hb dX8_readNumbers_23 rfl (lv_at hl 4 rfl) ?_
  refine va_getsN (C := RX9) (ref := RX9) (host := RX9) hx hb (hZ.2.2.2.2.2.2.2.2.2.2.2.2.2.1) hS hown (va_Nw.use rfl hZ.2.2.1) (fun _ h9 => h9) dX8_readNumbers_24 ?_
  refine lv_iload hx hb dX8_readNumbers_27 (lv_at hl 0 rfl) ?_
  refine va_ti (v := .int 0) hx hb (hZ.2.2.2.2.2.2.2.2.2.2.2.2.2.2.1) hS (vp_in_nI (n := 8) (by omega) (by omega)) (rfl) dX8_readNumbers_29 ?_
  refine va_getsN (C := RX9) (ref := RX9) (host := RX9) hx hb (hZ.2.2.2.2.2.2.2.2.2.2.2.2.2.2.2.1) hS hown (va_Nw.use rfl hZ.2.2.2.1) (fun _ h9 => h9) dX8_readNumbers_30 ?_
  refine lv_iload hx hb dX8_readNumbers_33 (lv_at hl 0 rfl) ?_
  refine va_ti (v := .int 3) hx hb (hZ.2.2.2.2.2.2.2.2.2.2.2.2.2.2.2.2.1) hS (vp_in_nI (n := 8) (by omega) (by omega)) (rfl) dX8_readNumbers_35 ?_
  have hPc := hP.sub (ws' := (c_X7_readNumber k tx qb n (npos f n a 0) w2 w3 (nfl f n a 2 2 w4 0) (nfa f n a 2 2 w4 w5 0) w6 f 0 3)) [4, 5] rfl
  have hDc := hD.sub (ws' := (c_X7_readNumber k tx qb n (npos f n a 0) w2 w3 (nfl f n a 2 2 w4 0) (nfa f n a 2 2 w4 w5 0) w6 f 0 3)) [4, 5] (by decide +kernel) rfl
  refine cl_i (w1 := w_X7_readNumber k tx qb n (npos f n a 0) w2 w3 (nfl f n a 2 2 w4 0) (nfa f n a 2 2 w4 w5 0) w6 f 0 3) (wr := [(h, .inr (8, [.ref t, .ref tn, .ref tl, .ref tc, .ref ta])), (t, .inl (k 0, 4, .inl (cI q))), (tn, .inl (k 4, 4, .inr (.inr (.inr (.inr (gr4 rw)))))), ((rw 2), .inl (k 0, 80, .inl (nGr f n a (q 2) G 0)))]) (va_runV (As := [.int 0, .int 3]) (rest := []) ⟨hx, hb, hml, hown, hts⟩ (X7_readNumber l D k s.heap.size tx qb n (npos f n a 0) w2 w3 (nfl f n a 2 2 w4 0) (nfa f n a 2 2 w4 w5 0) w6 f 0 3 (hn) (hnp _)) (cwV 2 hts gX8_readNumbers_X7_readNumber rfl rfl rfl (by decide +kernel) ⟨Nat.le_of_ble_eq_true rfl, Nat.le_of_ble_eq_true rfl⟩) ⟨PR.blind _ _ _ _ _, va_recv hG.1 hP (ci := 7) (q0 := 4) rfl rfl, PR.pre hPc hDc hG [.ref tx, .int 0, .int 3]⟩ rfl rfl hl.1 rfl (lv_room (Nat.le_of_ble_eq_true rfl)) dX8_readNumbers_36 ⟨Nat.le_of_ble_eq_true rfl, Nat.le_of_ble_eq_true rfl⟩) hP hD hS hA [4, 5] [0, 1, 2, 3] rfl rfl (by decide +kernel) (by decide +kernel) (fun r u H locs hq hP hD hS => ?_)
  obtain ⟨zu2, zu3, zu4, zu5⟩ := u
  generalize r = y6 at hq ⊢
  have hq : zu2 = rn (pB f) n (npos f n a 0) ∧ zu3 = rn (pR f 48 57) n zu2 ∧ y6 = dg3 f zu2 (zu3 - zu2) ∧ zu4 = nbF (nfl f n a 2 2 w4 0) (zu3 - zu2) y6 0 3 ∧ zu5 = nbA (nfl f n a 2 2 w4 0) (nfa f n a 2 2 w4 w5 0) (zu3 - zu2) y6 0 3 zu2 := hq
  obtain ⟨rfl, rfl, rfl, rfl, rfl⟩ := hq
  have hP : va_P D vwCl [(h, .inr (8, [.ref t, .ref tn, .ref tl, .ref tc, .ref ta])), (t, .inl (k 0, 4, .inl (cI q))), (tn, .inl (k 4, 4, .inr (.inr (.inr (.inr (gr4 rw)))))), ((rw 2), .inl (k 0, 80, .inl (nGr f n a (q 2) G 0))), (tx, .inr (7, [.ref qb, .int (nI n), .int w2, .int (nI (nS f n (npos f n a 0))), .int (nF f n (npos f n a 0) (nfl f n a 2 2 w4 0) 0 3), .int (nA f n (npos f n a 0) (nfl f n a 2 2 w4 0) (nfa f n a 2 2 w4 w5 0) 0 3), .int w6, .int (nI (nE f n (npos f n a 0)))])), (qb, .inl (k 0, 500, .inl f))] H := hP
  have hD : va_D A [(h, .inr (8, [.ref t, .ref tn, .ref tl, .ref tc, .ref ta])), (t, .inl (k 0, 4, .inl (cI q))), (tn, .inl (k 4, 4, .inr (.inr (.inr (.inr (gr4 rw)))))), ((rw 2), .inl (k 0, 80, .inl (nGr f n a (q 2) G 0))), (tx, .inr (7, [.ref qb, .int (nI n), .int w2, .int (nI (nS f n (npos f n a 0))), .int (nF f n (npos f n a 0) (nfl f n a 2 2 w4 0) 0 3), .int (nA f n (npos f n a 0) (nfl f n a 2 2 w4 0) (nfa f n a 2 2 w4 w5 0) 0 3), .int w6, .int (nI (nE f n (npos f n a 0)))])), (qb, .inl (k 0, 500, .inl f))] := hD
  have hnE : nE f n (npos f n a 0) ≤ n := nE_le (by first | omega | exact hnp _)
  refine tp_i (y := nV f n (npos f n a 0)) rfl ?_
  refine tp_i (y := nvl f n a 0) rfl ?_
  have e4 : nfl f n a 2 2 w4 1 = nF f n (npos f n a 0) (nfl f n a 2 2 w4 0) 0 3 := nfl_n (by decide)
  have e5 : nfa f n a 2 2 w4 w5 1 = nA f n (npos f n a 0) (nfl f n a 2 2 w4 0) (nfa f n a 2 2 w4 w5 0) 0 3 := nfa_n (by decide)
  have hP : va_P D vwCl [(h, .inr (8, [.ref t, .ref tn, .ref tl, .ref tc, .ref ta])), (t, .inl (k 0, 4, .inl (cI q))), (tn, .inl (k 4, 4, .inr (.inr (.inr (.inr (gr4 rw)))))), ((rw 2), .inl (k 0, 80, .inl (nGr f n a (q 2) G 0))), (tx, .inr (7, [.ref qb, .int (nI n), .int w2, .int (nI (nS f n (npos f n a 0))), .int (nfl f n a 2 2 w4 1), .int (nfa f n a 2 2 w4 w5 1), .int w6, .int (nI (npos f n a 1))])), (qb, .inl (k 0, 500, .inl f))] H := by rw [e4, e5]; exact hP
  have hD : va_D A [(h, .inr (8, [.ref t, .ref tn, .ref tl, .ref tc, .ref ta])), (t, .inl (k 0, 4, .inl (cI q))), (tn, .inl (k 4, 4, .inr (.inr (.inr (.inr (gr4 rw)))))), ((rw 2), .inl (k 0, 80, .inl (nGr f n a (q 2) G 0))), (tx, .inr (7, [.ref qb, .int (nI n), .int w2, .int (nI (nS f n (npos f n a 0))), .int (nfl f n a 2 2 w4 1), .int (nfa f n a 2 2 w4 w5 1), .int w6, .int (nI (npos f n a 1))])), (qb, .inl (k 0, 500, .inl f))] := by rw [e4, e5]; exact hD
  refine lv_istore (lv' := [(6, .int (nvl f n a 0)), (5, .int 8), (4, .int 0), (3, .int 0), (0, .ref h), (1, .ref tx), (2, .int 2)]) hx hb dX8_readNumbers_39 hl (by decide) rfl (fun ls hl => ?_)
  refine lv_iload hx hb dX8_readNumbers_41 (lv_at hl 2 rfl) ?_
  refine va_getsN (C := RX9) (ref := RX9) (host := RX9) hx hb (hZ.2.2.2.2.2.2.2.2.2.2.2.2.2.2.2.2.2.1) hS hown (va_Nw.use rfl hZ.2.2.2.2.1) (fun _ h9 => h9) dX8_readNumbers_43 ?_
  refine lv_iload_n hx hb dX8_readNumbers_46 rfl (lv_at hl 6 rfl) ?_
  refine va_ti (v := .int 2) hx hb (hZ.2.2.2.2.2.2.2.2.2.2.2.2.2.2.2.2.2.2.1) hS (vp_in_nI (n := 2) (by omega) (by omega)) (rfl) dX8_readNumbers_47 ?_
  refine lv_icmp_ne (x := 0) (y := 2) (tgt := 66) hx hb dX8_readNumbers_48 (by decide) (fun c7 => ?_) (fun c7 => absurd c7 (by decide))
  refine lv_aload_n hx hb dX8_readNumbers_66 rfl (lv_at hl 4 rfl) ?_
  refine va_get (D := D) (ci := 8) (v := .ref tn) (C := RX8) (T := TX8) (N := 5) hx hb hts hi8 hown hG.1 hP 0 rfl rfl 1 (by decide) (hts (.fieldLink RX8 17 "SleptMatters$Town" "numbers" "[[I") (List.mem_cons_of_mem _ (List.mem_append_left _ (List.mem_append_left _ (List.mem_append_left _ (List.mem_of_getElem? (i := 1) rfl)))))) (fun _ h9 => h9) rfl dX8_readNumbers_67 ?_
  refine lv_iload_n hx hb dX8_readNumbers_70 rfl (lv_at hl 6 rfl) ?_
  refine va_aldA (t := .int) hx hb hG.1 hP 2 4 rfl rfl (vp_in_nI (n := 2) (by omega) (by omega)) dX8_readNumbers_71 ?_
  refine W.eq (g2 := F0 m 72 ls [.ref (rw 2)]) rfl ?_
  refine lv_aload_n hx hb dX8_readNumbers_72 rfl (lv_at hl 4 rfl) ?_
  refine va_get (D := D) (ci := 8) (v := .ref t) (C := RX8) (T := TX8) (N := 5) hx hb hts hi8 hown hG.1 hP 0 rfl rfl 0 (by decide) (hts (.fieldLink RX8 9 "SleptMatters$Town" "counts" "[I") (List.mem_cons_of_mem _ (List.mem_append_left _ (List.mem_append_left _ (List.mem_append_left _ (List.mem_of_getElem? (i := 2) rfl)))))) (fun _ h9 => h9) rfl dX8_readNumbers_73 ?_
  refine lv_iload_n hx hb dX8_readNumbers_76 rfl (lv_at hl 6 rfl) ?_
  refine va_iald hx hb hG.1 hP 1 0 rfl rfl (vp_in_nI (n := 2) (by omega) (by omega)) dX8_readNumbers_77 ?_
  refine tp_i (y := nI (q 2)) (rfl) ?_
  refine lv_iconst (v := 4) hx hb dX8_readNumbers_78 (by decide) ?_
  refine lv_imul hx hb dX8_readNumbers_79 ?_
  refine tp_i (y := nI ((q 2) * 4)) (pk_mul (q 2) 4) ?_
  refine lv_iload hx hb dX8_readNumbers_80 (lv_at hl 2 rfl) ?_
  refine lv_iadd hx hb dX8_readNumbers_82 ?_
  refine tp_i (y := nI ((q 2) * 4 + 0)) (nI_add ((q 2) * 4) 0) ?_
  refine lv_iload hx hb dX8_readNumbers_83 (lv_at hl 0 rfl) ?_
  refine va_iast hx hb hG.1 hP hD hS 3 0 rfl rfl (vp_in_nI (by omega) (by omega)) dX8_readNumbers_85 (fun H locs hP hD hS => ?_)
  rw [nI_clamp (n := (q 2) * 4 + 0) (by omega)] at hP hD
  have hP : va_P D vwCl [(h, .inr (8, [.ref t, .ref tn, .ref tl, .ref tc, .ref ta])), (t, .inl (k 0, 4, .inl (cI q))), (tn, .inl (k 4, 4, .inr (.inr (.inr (.inr (gr4 rw)))))), ((rw 2), .inl (k 0, 80, .inl (upd (nGr f n a (q 2) G 0) ((q 2) * 4 + 0) (nvl f n a 0)))), (tx, .inr (7, [.ref qb, .int (nI n), .int w2, .int (nI (nS f n (npos f n a 0))), .int (nfl f n a 2 2 w4 1), .int (nfa f n a 2 2 w4 w5 1), .int w6, .int (nI (npos f n a 1))])), (qb, .inl (k 0, 500, .inl f))] H := hP
  have hD : va_D A [(h, .inr (8, [.ref t, .ref tn, .ref tl, .ref tc, .ref ta])), (t, .inl (k 0, 4, .inl (cI q))), (tn, .inl (k 4, 4, .inr (.inr (.inr (.inr (gr4 rw)))))), ((rw 2), .inl (k 0, 80, .inl (upd (nGr f n a (q 2) G 0) ((q 2) * 4 + 0) (nvl f n a 0)))), (tx, .inr (7, [.ref qb, .int (nI n), .int w2, .int (nI (nS f n (npos f n a 0))), .int (nfl f n a 2 2 w4 1), .int (nfa f n a 2 2 w4 w5 1), .int w6, .int (nI (npos f n a 1))])), (qb, .inl (k 0, 500, .inl f))] := hD
  have hP : va_P D vwCl [(h, .inr (8, [.ref t, .ref tn, .ref tl, .ref tc, .ref ta])), (t, .inl (k 0, 4, .inl (cI q))), (tn, .inl (k 4, 4, .inr (.inr (.inr (.inr (gr4 rw)))))), ((rw 2), .inl (k 0, 80, .inl (nGr f n a (q 2) G 1))), (tx, .inr (7, [.ref qb, .int (nI n), .int w2, .int (nI (nS f n (npos f n a 0))), .int (nfl f n a 2 2 w4 1), .int (nfa f n a 2 2 w4 w5 1), .int w6, .int (nI (npos f n a 1))])), (qb, .inl (k 0, 500, .inl f))] H := hP
  have hD : va_D A [(h, .inr (8, [.ref t, .ref tn, .ref tl, .ref tc, .ref ta])), (t, .inl (k 0, 4, .inl (cI q))), (tn, .inl (k 4, 4, .inr (.inr (.inr (.inr (gr4 rw)))))), ((rw 2), .inl (k 0, 80, .inl (nGr f n a (q 2) G 1))), (tx, .inr (7, [.ref qb, .int (nI n), .int w2, .int (nI (nS f n (npos f n a 0))), .int (nfl f n a 2 2 w4 1), .int (nfa f n a 2 2 w4 w5 1), .int w6, .int (nI (npos f n a 1))])), (qb, .inl (k 0, 500, .inl f))] := hD
  refine lv_iload hx hb dX8_readNumbers_86 (lv_at hl 0 rfl) ?_
  refine lv_istore_n (lv' := [(3, .int (nvl f n a 0)), (6, .int (nvl f n a 0)), (5, .int 8), (4, .int 0), (0, .ref h), (1, .ref tx), (2, .int 2)]) hx hb dX8_readNumbers_88 rfl hl (by decide) rfl (fun ls hl => ?_)
  refine lv_iinc (v := 1) (lv' := [(4, .int 1), (3, .int (nvl f n a 0)), (6, .int (nvl f n a 0)), (5, .int 8), (0, .ref h), (1, .ref tx), (2, .int 2)]) hx hb dX8_readNumbers_89 hl (k := 3) rfl (by decide) (by decide) rfl (fun ls hl => ?_)
  refine lv_goto (tgt := 5) hx hb dX8_readNumbers_92 (by decide) ?_
  refine lv_iload hx hb dX8_readNumbers_5 (lv_at hl 0 rfl) ?_
  refine va_getsN (C := RX9) (ref := RX9) (host := RX9) hx hb (hZ.2.2.2.2.2.2.2.2.2.2.2.1) hS hown (va_Nw.use rfl hZ.2.1) (fun _ h9 => h9) dX8_readNumbers_7 ?_
  refine lv_iload_n hx hb dX8_readNumbers_10 rfl (lv_at hl 6 rfl) ?_
  refine va_ti (v := .int 4) hx hb (hZ.2.2.2.2.2.2.2.2.2.2.2.2.1) hS (vp_in_nI (n := 2) (by omega) (by omega)) (rfl) dX8_readNumbers_11 ?_
  refine lv_icmp_ge (x := 1) (y := 4) (tgt := 95) hx hb dX8_readNumbers_12 (by decide) (fun c8 => absurd c8 (by decide)) (fun c8 => ?_)
  refine lv_iload_n hx hb dX8_readNumbers_15 rfl (lv_at hl 6 rfl) ?_
  refine lv_iconst (v := 4) hx hb dX8_readNumbers_16 (by decide) ?_
  refine lv_imul hx hb dX8_readNumbers_17 ?_
  refine tp_i (y := 8) (by decide) ?_
  refine lv_iload hx hb dX8_readNumbers_18 (lv_at hl 0 rfl) ?_
  refine lv_iadd hx hb dX8_readNumbers_20 ?_
  refine tp_i (y := 9) (by decide) ?_
  refine lv_istore (lv' := [(5, .int 9), (4, .int 1), (3, .int (nvl f n a 0)), (6, .int (nvl f n a 0)), (0, .ref h), (1, .ref tx), (2, .int 2)]) hx hb dX8_readNumbers_21 hl (by decide) rfl (fun ls hl => ?_)
  refine lv_aload_n hx hb dX8_readNumbers_23 rfl (lv_at hl 5 rfl) ?_
  refine va_getsN (C := RX9) (ref := RX9) (host := RX9) hx hb (hZ.2.2.2.2.2.2.2.2.2.2.2.2.2.1) hS hown (va_Nw.use rfl hZ.2.2.1) (fun _ h9 => h9) dX8_readNumbers_24 ?_
  refine lv_iload hx hb dX8_readNumbers_27 (lv_at hl 0 rfl) ?_
  refine va_ti (v := .int 0) hx hb (hZ.2.2.2.2.2.2.2.2.2.2.2.2.2.2.1) hS (vp_in_nI (n := 9) (by omega) (by omega)) (rfl) dX8_readNumbers_29 ?_
  refine va_getsN (C := RX9) (ref := RX9) (host := RX9) hx hb (hZ.2.2.2.2.2.2.2.2.2.2.2.2.2.2.2.1) hS hown (va_Nw.use rfl hZ.2.2.2.1) (fun _ h9 => h9) dX8_readNumbers_30 ?_
  refine lv_iload hx hb dX8_readNumbers_33 (lv_at hl 0 rfl) ?_
  refine va_ti (v := .int 99) hx hb (hZ.2.2.2.2.2.2.2.2.2.2.2.2.2.2.2.2.1) hS (vp_in_nI (n := 9) (by omega) (by omega)) (rfl) dX8_readNumbers_35 ?_
  have hPc := hP.sub (ws' := (c_X7_readNumber k tx qb n (npos f n a 1) w2 (nI (nS f n (npos f n a 0))) (nfl f n a 2 2 w4 1) (nfa f n a 2 2 w4 w5 1) w6 f 0 99)) [4, 5] rfl
  have hDc := hD.sub (ws' := (c_X7_readNumber k tx qb n (npos f n a 1) w2 (nI (nS f n (npos f n a 0))) (nfl f n a 2 2 w4 1) (nfa f n a 2 2 w4 w5 1) w6 f 0 99)) [4, 5] (by decide +kernel) rfl
  refine cl_i (w1 := w_X7_readNumber k tx qb n (npos f n a 1) w2 (nI (nS f n (npos f n a 0))) (nfl f n a 2 2 w4 1) (nfa f n a 2 2 w4 w5 1) w6 f 0 99) (wr := [(h, .inr (8, [.ref t, .ref tn, .ref tl, .ref tc, .ref ta])), (t, .inl (k 0, 4, .inl (cI q))), (tn, .inl (k 4, 4, .inr (.inr (.inr (.inr (gr4 rw)))))), ((rw 2), .inl (k 0, 80, .inl (nGr f n a (q 2) G 1)))]) (va_runV (As := [.int 0, .int 99]) (rest := []) ⟨hx, hb, hml, hown, hts⟩ (X7_readNumber l D k H.size tx qb n (npos f n a 1) w2 (nI (nS f n (npos f n a 0))) (nfl f n a 2 2 w4 1) (nfa f n a 2 2 w4 w5 1) w6 f 0 99 (hn) (hnp _)) (cwV 2 hts gX8_readNumbers_X7_readNumber rfl rfl rfl (by decide +kernel) ⟨Nat.le_of_ble_eq_true rfl, Nat.le_of_ble_eq_true rfl⟩) ⟨PR.blind _ _ _ _ _, va_recv hG.1 hP (ci := 7) (q0 := 4) rfl rfl, PR.pre hPc hDc hG [.ref tx, .int 0, .int 99]⟩ rfl rfl hl.1 rfl (lv_room (Nat.le_of_ble_eq_true rfl)) dX8_readNumbers_36 ⟨Nat.le_of_ble_eq_true rfl, Nat.le_of_ble_eq_true rfl⟩) hP hD hS hA [4, 5] [0, 1, 2, 3] rfl rfl (by decide +kernel) (by decide +kernel) (fun r u H locs hq hP hD hS => ?_)
  obtain ⟨zu9, zu10, zu11, zu12⟩ := u
  generalize r = y13 at hq ⊢
  have hq : zu9 = rn (pB f) n (npos f n a 1) ∧ zu10 = rn (pR f 48 57) n zu9 ∧ y13 = dg3 f zu9 (zu10 - zu9) ∧ zu11 = nbF (nfl f n a 2 2 w4 1) (zu10 - zu9) y13 0 99 ∧ zu12 = nbA (nfl f n a 2 2 w4 1) (nfa f n a 2 2 w4 w5 1) (zu10 - zu9) y13 0 99 zu9 := hq
  obtain ⟨rfl, rfl, rfl, rfl, rfl⟩ := hq
  have hP : va_P D vwCl [(h, .inr (8, [.ref t, .ref tn, .ref tl, .ref tc, .ref ta])), (t, .inl (k 0, 4, .inl (cI q))), (tn, .inl (k 4, 4, .inr (.inr (.inr (.inr (gr4 rw)))))), ((rw 2), .inl (k 0, 80, .inl (nGr f n a (q 2) G 1))), (tx, .inr (7, [.ref qb, .int (nI n), .int w2, .int (nI (nS f n (npos f n a 1))), .int (nF f n (npos f n a 1) (nfl f n a 2 2 w4 1) 0 99), .int (nA f n (npos f n a 1) (nfl f n a 2 2 w4 1) (nfa f n a 2 2 w4 w5 1) 0 99), .int w6, .int (nI (nE f n (npos f n a 1)))])), (qb, .inl (k 0, 500, .inl f))] H := hP
  have hD : va_D A [(h, .inr (8, [.ref t, .ref tn, .ref tl, .ref tc, .ref ta])), (t, .inl (k 0, 4, .inl (cI q))), (tn, .inl (k 4, 4, .inr (.inr (.inr (.inr (gr4 rw)))))), ((rw 2), .inl (k 0, 80, .inl (nGr f n a (q 2) G 1))), (tx, .inr (7, [.ref qb, .int (nI n), .int w2, .int (nI (nS f n (npos f n a 1))), .int (nF f n (npos f n a 1) (nfl f n a 2 2 w4 1) 0 99), .int (nA f n (npos f n a 1) (nfl f n a 2 2 w4 1) (nfa f n a 2 2 w4 w5 1) 0 99), .int w6, .int (nI (nE f n (npos f n a 1)))])), (qb, .inl (k 0, 500, .inl f))] := hD
  have hnE : nE f n (npos f n a 1) ≤ n := nE_le (by first | omega | exact hnp _)
  refine tp_i (y := nV f n (npos f n a 1)) rfl ?_
  refine tp_i (y := nvl f n a 1) rfl ?_
  have e4 : nfl f n a 2 2 w4 2 = nF f n (npos f n a 1) (nfl f n a 2 2 w4 1) 0 99 := nfl_n (by decide)
  have e5 : nfa f n a 2 2 w4 w5 2 = nA f n (npos f n a 1) (nfl f n a 2 2 w4 1) (nfa f n a 2 2 w4 w5 1) 0 99 := nfa_n (by decide)
  have hP : va_P D vwCl [(h, .inr (8, [.ref t, .ref tn, .ref tl, .ref tc, .ref ta])), (t, .inl (k 0, 4, .inl (cI q))), (tn, .inl (k 4, 4, .inr (.inr (.inr (.inr (gr4 rw)))))), ((rw 2), .inl (k 0, 80, .inl (nGr f n a (q 2) G 1))), (tx, .inr (7, [.ref qb, .int (nI n), .int w2, .int (nI (nS f n (npos f n a 1))), .int (nfl f n a 2 2 w4 2), .int (nfa f n a 2 2 w4 w5 2), .int w6, .int (nI (npos f n a 2))])), (qb, .inl (k 0, 500, .inl f))] H := by rw [e4, e5]; exact hP
  have hD : va_D A [(h, .inr (8, [.ref t, .ref tn, .ref tl, .ref tc, .ref ta])), (t, .inl (k 0, 4, .inl (cI q))), (tn, .inl (k 4, 4, .inr (.inr (.inr (.inr (gr4 rw)))))), ((rw 2), .inl (k 0, 80, .inl (nGr f n a (q 2) G 1))), (tx, .inr (7, [.ref qb, .int (nI n), .int w2, .int (nI (nS f n (npos f n a 1))), .int (nfl f n a 2 2 w4 2), .int (nfa f n a 2 2 w4 w5 2), .int w6, .int (nI (npos f n a 2))])), (qb, .inl (k 0, 500, .inl f))] := by rw [e4, e5]; exact hD
  refine lv_istore (lv' := [(6, .int (nvl f n a 1)), (5, .int 9), (4, .int 1), (3, .int (nvl f n a 0)), (0, .ref h), (1, .ref tx), (2, .int 2)]) hx hb dX8_readNumbers_39 hl (by decide) rfl (fun ls hl => ?_)
  refine lv_iload hx hb dX8_readNumbers_41 (lv_at hl 2 rfl) ?_
  refine va_getsN (C := RX9) (ref := RX9) (host := RX9) hx hb (hZ.2.2.2.2.2.2.2.2.2.2.2.2.2.2.2.2.2.1) hS hown (va_Nw.use rfl hZ.2.2.2.2.1) (fun _ h9 => h9) dX8_readNumbers_43 ?_
  refine lv_iload_n hx hb dX8_readNumbers_46 rfl (lv_at hl 6 rfl) ?_
  refine va_ti (v := .int 2) hx hb (hZ.2.2.2.2.2.2.2.2.2.2.2.2.2.2.2.2.2.2.1) hS (vp_in_nI (n := 2) (by omega) (by omega)) (rfl) dX8_readNumbers_47 ?_
  refine lv_icmp_ne (x := 1) (y := 2) (tgt := 66) hx hb dX8_readNumbers_48 (by decide) (fun c14 => ?_) (fun c14 => absurd c14 (by decide))
  refine lv_aload_n hx hb dX8_readNumbers_66 rfl (lv_at hl 4 rfl) ?_
  refine va_get (D := D) (ci := 8) (v := .ref tn) (C := RX8) (T := TX8) (N := 5) hx hb hts hi8 hown hG.1 hP 0 rfl rfl 1 (by decide) (hts (.fieldLink RX8 17 "SleptMatters$Town" "numbers" "[[I") (List.mem_cons_of_mem _ (List.mem_append_left _ (List.mem_append_left _ (List.mem_append_left _ (List.mem_of_getElem? (i := 1) rfl)))))) (fun _ h9 => h9) rfl dX8_readNumbers_67 ?_
  refine lv_iload_n hx hb dX8_readNumbers_70 rfl (lv_at hl 6 rfl) ?_
  refine va_aldA (t := .int) hx hb hG.1 hP 2 4 rfl rfl (vp_in_nI (n := 2) (by omega) (by omega)) dX8_readNumbers_71 ?_
  refine W.eq (g2 := F0 m 72 ls [.ref (rw 2)]) rfl ?_
  refine lv_aload_n hx hb dX8_readNumbers_72 rfl (lv_at hl 4 rfl) ?_
  refine va_get (D := D) (ci := 8) (v := .ref t) (C := RX8) (T := TX8) (N := 5) hx hb hts hi8 hown hG.1 hP 0 rfl rfl 0 (by decide) (hts (.fieldLink RX8 9 "SleptMatters$Town" "counts" "[I") (List.mem_cons_of_mem _ (List.mem_append_left _ (List.mem_append_left _ (List.mem_append_left _ (List.mem_of_getElem? (i := 2) rfl)))))) (fun _ h9 => h9) rfl dX8_readNumbers_73 ?_
  refine lv_iload_n hx hb dX8_readNumbers_76 rfl (lv_at hl 6 rfl) ?_
  refine va_iald hx hb hG.1 hP 1 0 rfl rfl (vp_in_nI (n := 2) (by omega) (by omega)) dX8_readNumbers_77 ?_
  refine tp_i (y := nI (q 2)) (rfl) ?_
  refine lv_iconst (v := 4) hx hb dX8_readNumbers_78 (by decide) ?_
  refine lv_imul hx hb dX8_readNumbers_79 ?_
  refine tp_i (y := nI ((q 2) * 4)) (pk_mul (q 2) 4) ?_
  refine lv_iload hx hb dX8_readNumbers_80 (lv_at hl 2 rfl) ?_
  refine lv_iadd hx hb dX8_readNumbers_82 ?_
  refine tp_i (y := nI ((q 2) * 4 + 1)) (nI_add ((q 2) * 4) 1) ?_
  refine lv_iload hx hb dX8_readNumbers_83 (lv_at hl 0 rfl) ?_
  refine va_iast hx hb hG.1 hP hD hS 3 0 rfl rfl (vp_in_nI (by omega) (by omega)) dX8_readNumbers_85 (fun H locs hP hD hS => ?_)
  rw [nI_clamp (n := (q 2) * 4 + 1) (by omega)] at hP hD
  have hP : va_P D vwCl [(h, .inr (8, [.ref t, .ref tn, .ref tl, .ref tc, .ref ta])), (t, .inl (k 0, 4, .inl (cI q))), (tn, .inl (k 4, 4, .inr (.inr (.inr (.inr (gr4 rw)))))), ((rw 2), .inl (k 0, 80, .inl (upd (nGr f n a (q 2) G 1) ((q 2) * 4 + 1) (nvl f n a 1)))), (tx, .inr (7, [.ref qb, .int (nI n), .int w2, .int (nI (nS f n (npos f n a 1))), .int (nfl f n a 2 2 w4 2), .int (nfa f n a 2 2 w4 w5 2), .int w6, .int (nI (npos f n a 2))])), (qb, .inl (k 0, 500, .inl f))] H := hP
  have hD : va_D A [(h, .inr (8, [.ref t, .ref tn, .ref tl, .ref tc, .ref ta])), (t, .inl (k 0, 4, .inl (cI q))), (tn, .inl (k 4, 4, .inr (.inr (.inr (.inr (gr4 rw)))))), ((rw 2), .inl (k 0, 80, .inl (upd (nGr f n a (q 2) G 1) ((q 2) * 4 + 1) (nvl f n a 1)))), (tx, .inr (7, [.ref qb, .int (nI n), .int w2, .int (nI (nS f n (npos f n a 1))), .int (nfl f n a 2 2 w4 2), .int (nfa f n a 2 2 w4 w5 2), .int w6, .int (nI (npos f n a 2))])), (qb, .inl (k 0, 500, .inl f))] := hD
  have hP : va_P D vwCl [(h, .inr (8, [.ref t, .ref tn, .ref tl, .ref tc, .ref ta])), (t, .inl (k 0, 4, .inl (cI q))), (tn, .inl (k 4, 4, .inr (.inr (.inr (.inr (gr4 rw)))))), ((rw 2), .inl (k 0, 80, .inl (nGr f n a (q 2) G 2))), (tx, .inr (7, [.ref qb, .int (nI n), .int w2, .int (nI (nS f n (npos f n a 1))), .int (nfl f n a 2 2 w4 2), .int (nfa f n a 2 2 w4 w5 2), .int w6, .int (nI (npos f n a 2))])), (qb, .inl (k 0, 500, .inl f))] H := hP
  have hD : va_D A [(h, .inr (8, [.ref t, .ref tn, .ref tl, .ref tc, .ref ta])), (t, .inl (k 0, 4, .inl (cI q))), (tn, .inl (k 4, 4, .inr (.inr (.inr (.inr (gr4 rw)))))), ((rw 2), .inl (k 0, 80, .inl (nGr f n a (q 2) G 2))), (tx, .inr (7, [.ref qb, .int (nI n), .int w2, .int (nI (nS f n (npos f n a 1))), .int (nfl f n a 2 2 w4 2), .int (nfa f n a 2 2 w4 w5 2), .int w6, .int (nI (npos f n a 2))])), (qb, .inl (k 0, 500, .inl f))] := hD
  refine lv_iload hx hb dX8_readNumbers_86 (lv_at hl 0 rfl) ?_
  refine lv_istore_n (lv' := [(3, .int (nvl f n a 1)), (6, .int (nvl f n a 1)), (5, .int 9), (4, .int 1), (0, .ref h), (1, .ref tx), (2, .int 2)]) hx hb dX8_readNumbers_88 rfl hl (by decide) rfl (fun ls hl => ?_)
  refine lv_iinc (v := 2) (lv' := [(4, .int 2), (3, .int (nvl f n a 1)), (6, .int (nvl f n a 1)), (5, .int 9), (0, .ref h), (1, .ref tx), (2, .int 2)]) hx hb dX8_readNumbers_89 hl (k := 3) rfl (by decide) (by decide) rfl (fun ls hl => ?_)
  refine lv_goto (tgt := 5) hx hb dX8_readNumbers_92 (by decide) ?_
  refine lv_iload hx hb dX8_readNumbers_5 (lv_at hl 0 rfl) ?_
  refine va_getsN (C := RX9) (ref := RX9) (host := RX9) hx hb (hZ.2.2.2.2.2.2.2.2.2.2.2.1) hS hown (va_Nw.use rfl hZ.2.1) (fun _ h9 => h9) dX8_readNumbers_7 ?_
  refine lv_iload_n hx hb dX8_readNumbers_10 rfl (lv_at hl 6 rfl) ?_
  refine va_ti (v := .int 4) hx hb (hZ.2.2.2.2.2.2.2.2.2.2.2.2.1) hS (vp_in_nI (n := 2) (by omega) (by omega)) (rfl) dX8_readNumbers_11 ?_
  refine lv_icmp_ge (x := 2) (y := 4) (tgt := 95) hx hb dX8_readNumbers_12 (by decide) (fun c15 => absurd c15 (by decide)) (fun c15 => ?_)
  refine lv_iload_n hx hb dX8_readNumbers_15 rfl (lv_at hl 6 rfl) ?_
  refine lv_iconst (v := 4) hx hb dX8_readNumbers_16 (by decide) ?_
  refine lv_imul hx hb dX8_readNumbers_17 ?_
  refine tp_i (y := 8) (by decide) ?_
  refine lv_iload hx hb dX8_readNumbers_18 (lv_at hl 0 rfl) ?_
  refine lv_iadd hx hb dX8_readNumbers_20 ?_
  refine tp_i (y := 10) (by decide) ?_
  refine lv_istore (lv' := [(5, .int 10), (4, .int 2), (3, .int (nvl f n a 1)), (6, .int (nvl f n a 1)), (0, .ref h), (1, .ref tx), (2, .int 2)]) hx hb dX8_readNumbers_21 hl (by decide) rfl (fun ls hl => ?_)
  refine lv_aload_n hx hb dX8_readNumbers_23 rfl (lv_at hl 5 rfl) ?_
  refine va_getsN (C := RX9) (ref := RX9) (host := RX9) hx hb (hZ.2.2.2.2.2.2.2.2.2.2.2.2.2.1) hS hown (va_Nw.use rfl hZ.2.2.1) (fun _ h9 => h9) dX8_readNumbers_24 ?_
  refine lv_iload hx hb dX8_readNumbers_27 (lv_at hl 0 rfl) ?_
  refine va_ti (v := .int 0) hx hb (hZ.2.2.2.2.2.2.2.2.2.2.2.2.2.2.1) hS (vp_in_nI (n := 10) (by omega) (by omega)) (rfl) dX8_readNumbers_29 ?_
  refine va_getsN (C := RX9) (ref := RX9) (host := RX9) hx hb (hZ.2.2.2.2.2.2.2.2.2.2.2.2.2.2.2.1) hS hown (va_Nw.use rfl hZ.2.2.2.1) (fun _ h9 => h9) dX8_readNumbers_30 ?_
  refine lv_iload hx hb dX8_readNumbers_33 (lv_at hl 0 rfl) ?_
  refine va_ti (v := .int 99) hx hb (hZ.2.2.2.2.2.2.2.2.2.2.2.2.2.2.2.2.1) hS (vp_in_nI (n := 10) (by omega) (by omega)) (rfl) dX8_readNumbers_35 ?_
  have hPc := hP.sub (ws' := (c_X7_readNumber k tx qb n (npos f n a 2) w2 (nI (nS f n (npos f n a 1))) (nfl f n a 2 2 w4 2) (nfa f n a 2 2 w4 w5 2) w6 f 0 99)) [4, 5] rfl
  have hDc := hD.sub (ws' := (c_X7_readNumber k tx qb n (npos f n a 2) w2 (nI (nS f n (npos f n a 1))) (nfl f n a 2 2 w4 2) (nfa f n a 2 2 w4 w5 2) w6 f 0 99)) [4, 5] (by decide +kernel) rfl
  refine cl_i (w1 := w_X7_readNumber k tx qb n (npos f n a 2) w2 (nI (nS f n (npos f n a 1))) (nfl f n a 2 2 w4 2) (nfa f n a 2 2 w4 w5 2) w6 f 0 99) (wr := [(h, .inr (8, [.ref t, .ref tn, .ref tl, .ref tc, .ref ta])), (t, .inl (k 0, 4, .inl (cI q))), (tn, .inl (k 4, 4, .inr (.inr (.inr (.inr (gr4 rw)))))), ((rw 2), .inl (k 0, 80, .inl (nGr f n a (q 2) G 2)))]) (va_runV (As := [.int 0, .int 99]) (rest := []) ⟨hx, hb, hml, hown, hts⟩ (X7_readNumber l D k H.size tx qb n (npos f n a 2) w2 (nI (nS f n (npos f n a 1))) (nfl f n a 2 2 w4 2) (nfa f n a 2 2 w4 w5 2) w6 f 0 99 (hn) (hnp _)) (cwV 2 hts gX8_readNumbers_X7_readNumber rfl rfl rfl (by decide +kernel) ⟨Nat.le_of_ble_eq_true rfl, Nat.le_of_ble_eq_true rfl⟩) ⟨PR.blind _ _ _ _ _, va_recv hG.1 hP (ci := 7) (q0 := 4) rfl rfl, PR.pre hPc hDc hG [.ref tx, .int 0, .int 99]⟩ rfl rfl hl.1 rfl (lv_room (Nat.le_of_ble_eq_true rfl)) dX8_readNumbers_36 ⟨Nat.le_of_ble_eq_true rfl, Nat.le_of_ble_eq_true rfl⟩) hP hD hS hA [4, 5] [0, 1, 2, 3] rfl rfl (by decide +kernel) (by decide +kernel) (fun r u H locs hq hP hD hS => ?_)
  obtain ⟨zu16, zu17, zu18, zu19⟩ := u
  generalize r = y20 at hq ⊢
  have hq : zu16 = rn (pB f) n (npos f n a 2) ∧ zu17 = rn (pR f 48 57) n zu16 ∧ y20 = dg3 f zu16 (zu17 - zu16) ∧ zu18 = nbF (nfl f n a 2 2 w4 2) (zu17 - zu16) y20 0 99 ∧ zu19 = nbA (nfl f n a 2 2 w4 2) (nfa f n a 2 2 w4 w5 2) (zu17 - zu16) y20 0 99 zu16 := hq
  obtain ⟨rfl, rfl, rfl, rfl, rfl⟩ := hq
  have hP : va_P D vwCl [(h, .inr (8, [.ref t, .ref tn, .ref tl, .ref tc, .ref ta])), (t, .inl (k 0, 4, .inl (cI q))), (tn, .inl (k 4, 4, .inr (.inr (.inr (.inr (gr4 rw)))))), ((rw 2), .inl (k 0, 80, .inl (nGr f n a (q 2) G 2))), (tx, .inr (7, [.ref qb, .int (nI n), .int w2, .int (nI (nS f n (npos f n a 2))), .int (nF f n (npos f n a 2) (nfl f n a 2 2 w4 2) 0 99), .int (nA f n (npos f n a 2) (nfl f n a 2 2 w4 2) (nfa f n a 2 2 w4 w5 2) 0 99), .int w6, .int (nI (nE f n (npos f n a 2)))])), (qb, .inl (k 0, 500, .inl f))] H := hP
  have hD : va_D A [(h, .inr (8, [.ref t, .ref tn, .ref tl, .ref tc, .ref ta])), (t, .inl (k 0, 4, .inl (cI q))), (tn, .inl (k 4, 4, .inr (.inr (.inr (.inr (gr4 rw)))))), ((rw 2), .inl (k 0, 80, .inl (nGr f n a (q 2) G 2))), (tx, .inr (7, [.ref qb, .int (nI n), .int w2, .int (nI (nS f n (npos f n a 2))), .int (nF f n (npos f n a 2) (nfl f n a 2 2 w4 2) 0 99), .int (nA f n (npos f n a 2) (nfl f n a 2 2 w4 2) (nfa f n a 2 2 w4 w5 2) 0 99), .int w6, .int (nI (nE f n (npos f n a 2)))])), (qb, .inl (k 0, 500, .inl f))] := hD
  have hnE : nE f n (npos f n a 2) ≤ n := nE_le (by first | omega | exact hnp _)
  refine tp_i (y := nV f n (npos f n a 2)) rfl ?_
  refine tp_i (y := nvl f n a 2) rfl ?_
  have hP : va_P D vwCl [(h, .inr (8, [.ref t, .ref tn, .ref tl, .ref tc, .ref ta])), (t, .inl (k 0, 4, .inl (cI q))), (tn, .inl (k 4, 4, .inr (.inr (.inr (.inr (gr4 rw)))))), ((rw 2), .inl (k 0, 80, .inl (nGr f n a (q 2) G 2))), (tx, .inr (7, [.ref qb, .int (nI n), .int w2, .int (nI (nS f n (npos f n a 2))), .int (nF f n (npos f n a 2) (nfl f n a 2 2 w4 2) 0 99), .int (nA f n (npos f n a 2) (nfl f n a 2 2 w4 2) (nfa f n a 2 2 w4 w5 2) 0 99), .int w6, .int (nI (npos f n a 3))])), (qb, .inl (k 0, 500, .inl f))] H := hP
  have hD : va_D A [(h, .inr (8, [.ref t, .ref tn, .ref tl, .ref tc, .ref ta])), (t, .inl (k 0, 4, .inl (cI q))), (tn, .inl (k 4, 4, .inr (.inr (.inr (.inr (gr4 rw)))))), ((rw 2), .inl (k 0, 80, .inl (nGr f n a (q 2) G 2))), (tx, .inr (7, [.ref qb, .int (nI n), .int w2, .int (nI (nS f n (npos f n a 2))), .int (nF f n (npos f n a 2) (nfl f n a 2 2 w4 2) 0 99), .int (nA f n (npos f n a 2) (nfl f n a 2 2 w4 2) (nfa f n a 2 2 w4 w5 2) 0 99), .int w6, .int (nI (npos f n a 3))])), (qb, .inl (k 0, 500, .inl f))] := hD
  refine lv_istore (lv' := [(6, .int (nvl f n a 2)), (5, .int 10), (4, .int 2), (3, .int (nvl f n a 1)), (0, .ref h), (1, .ref tx), (2, .int 2)]) hx hb dX8_readNumbers_39 hl (by decide) rfl (fun ls hl => ?_)
  refine lv_iload hx hb dX8_readNumbers_41 (lv_at hl 2 rfl) ?_
  refine va_getsN (C := RX9) (ref := RX9) (host := RX9) hx hb (hZ.2.2.2.2.2.2.2.2.2.2.2.2.2.2.2.2.2.1) hS hown (va_Nw.use rfl hZ.2.2.2.2.1) (fun _ h9 => h9) dX8_readNumbers_43 ?_
  refine lv_iload_n hx hb dX8_readNumbers_46 rfl (lv_at hl 6 rfl) ?_
  refine va_ti (v := .int 2) hx hb (hZ.2.2.2.2.2.2.2.2.2.2.2.2.2.2.2.2.2.2.1) hS (vp_in_nI (n := 2) (by omega) (by omega)) (rfl) dX8_readNumbers_47 ?_
  refine lv_icmp_ne (x := 2) (y := 2) (tgt := 66) hx hb dX8_readNumbers_48 (by decide) (fun c21 => absurd c21 (by decide)) (fun c21 => ?_)
  refine lv_iload hx hb dX8_readNumbers_51 (lv_at hl 0 rfl) ?_
  refine lv_iload_n hx hb dX8_readNumbers_53 rfl (lv_at hl 3 rfl) ?_
  refine lv_icmp_ge (x := nvl f n a 2) (y := nvl f n a 1) (tgt := 66) hx hb dX8_readNumbers_54 (by decide) (fun c22 => ?_) (fun c22 => ?_)
  · skip
    have e4 : nfl f n a 2 2 w4 3 = nF f n (npos f n a 2) (nfl f n a 2 2 w4 2) 0 99 := nfl_p rfl c22
    have e5 : nfa f n a 2 2 w4 w5 3 = nA f n (npos f n a 2) (nfl f n a 2 2 w4 2) (nfa f n a 2 2 w4 w5 2) 0 99 := nfa_p rfl c22
    have hP : va_P D vwCl [(h, .inr (8, [.ref t, .ref tn, .ref tl, .ref tc, .ref ta])), (t, .inl (k 0, 4, .inl (cI q))), (tn, .inl (k 4, 4, .inr (.inr (.inr (.inr (gr4 rw)))))), ((rw 2), .inl (k 0, 80, .inl (nGr f n a (q 2) G 2))), (tx, .inr (7, [.ref qb, .int (nI n), .int w2, .int (nI (nS f n (npos f n a 2))), .int (nfl f n a 2 2 w4 3), .int (nfa f n a 2 2 w4 w5 3), .int w6, .int (nI (npos f n a 3))])), (qb, .inl (k 0, 500, .inl f))] H := by rw [e4, e5]; exact hP
    have hD : va_D A [(h, .inr (8, [.ref t, .ref tn, .ref tl, .ref tc, .ref ta])), (t, .inl (k 0, 4, .inl (cI q))), (tn, .inl (k 4, 4, .inr (.inr (.inr (.inr (gr4 rw)))))), ((rw 2), .inl (k 0, 80, .inl (nGr f n a (q 2) G 2))), (tx, .inr (7, [.ref qb, .int (nI n), .int w2, .int (nI (nS f n (npos f n a 2))), .int (nfl f n a 2 2 w4 3), .int (nfa f n a 2 2 w4 w5 3), .int w6, .int (nI (npos f n a 3))])), (qb, .inl (k 0, 500, .inl f))] := by rw [e4, e5]; exact hD
    refine lv_aload_n hx hb dX8_readNumbers_66 rfl (lv_at hl 4 rfl) ?_
    refine va_get (D := D) (ci := 8) (v := .ref tn) (C := RX8) (T := TX8) (N := 5) hx hb hts hi8 hown hG.1 hP 0 rfl rfl 1 (by decide) (hts (.fieldLink RX8 17 "SleptMatters$Town" "numbers" "[[I") (List.mem_cons_of_mem _ (List.mem_append_left _ (List.mem_append_left _ (List.mem_append_left _ (List.mem_of_getElem? (i := 1) rfl)))))) (fun _ h9 => h9) rfl dX8_readNumbers_67 ?_
    refine lv_iload_n hx hb dX8_readNumbers_70 rfl (lv_at hl 6 rfl) ?_
    refine va_aldA (t := .int) hx hb hG.1 hP 2 4 rfl rfl (vp_in_nI (n := 2) (by omega) (by omega)) dX8_readNumbers_71 ?_
    refine W.eq (g2 := F0 m 72 ls [.ref (rw 2)]) rfl ?_
    refine lv_aload_n hx hb dX8_readNumbers_72 rfl (lv_at hl 4 rfl) ?_
    refine va_get (D := D) (ci := 8) (v := .ref t) (C := RX8) (T := TX8) (N := 5) hx hb hts hi8 hown hG.1 hP 0 rfl rfl 0 (by decide) (hts (.fieldLink RX8 9 "SleptMatters$Town" "counts" "[I") (List.mem_cons_of_mem _ (List.mem_append_left _ (List.mem_append_left _ (List.mem_append_left _ (List.mem_of_getElem? (i := 2) rfl)))))) (fun _ h9 => h9) rfl dX8_readNumbers_73 ?_
    refine lv_iload_n hx hb dX8_readNumbers_76 rfl (lv_at hl 6 rfl) ?_
    refine va_iald hx hb hG.1 hP 1 0 rfl rfl (vp_in_nI (n := 2) (by omega) (by omega)) dX8_readNumbers_77 ?_
    refine tp_i (y := nI (q 2)) (rfl) ?_
    refine lv_iconst (v := 4) hx hb dX8_readNumbers_78 (by decide) ?_
    refine lv_imul hx hb dX8_readNumbers_79 ?_
    refine tp_i (y := nI ((q 2) * 4)) (pk_mul (q 2) 4) ?_
    refine lv_iload hx hb dX8_readNumbers_80 (lv_at hl 2 rfl) ?_
    refine lv_iadd hx hb dX8_readNumbers_82 ?_
    refine tp_i (y := nI ((q 2) * 4 + 2)) (nI_add ((q 2) * 4) 2) ?_
    refine lv_iload hx hb dX8_readNumbers_83 (lv_at hl 0 rfl) ?_
    refine va_iast hx hb hG.1 hP hD hS 3 0 rfl rfl (vp_in_nI (by omega) (by omega)) dX8_readNumbers_85 (fun H locs hP hD hS => ?_)
    rw [nI_clamp (n := (q 2) * 4 + 2) (by omega)] at hP hD
    have hP : va_P D vwCl [(h, .inr (8, [.ref t, .ref tn, .ref tl, .ref tc, .ref ta])), (t, .inl (k 0, 4, .inl (cI q))), (tn, .inl (k 4, 4, .inr (.inr (.inr (.inr (gr4 rw)))))), ((rw 2), .inl (k 0, 80, .inl (upd (nGr f n a (q 2) G 2) ((q 2) * 4 + 2) (nvl f n a 2)))), (tx, .inr (7, [.ref qb, .int (nI n), .int w2, .int (nI (nS f n (npos f n a 2))), .int (nfl f n a 2 2 w4 3), .int (nfa f n a 2 2 w4 w5 3), .int w6, .int (nI (npos f n a 3))])), (qb, .inl (k 0, 500, .inl f))] H := hP
    have hD : va_D A [(h, .inr (8, [.ref t, .ref tn, .ref tl, .ref tc, .ref ta])), (t, .inl (k 0, 4, .inl (cI q))), (tn, .inl (k 4, 4, .inr (.inr (.inr (.inr (gr4 rw)))))), ((rw 2), .inl (k 0, 80, .inl (upd (nGr f n a (q 2) G 2) ((q 2) * 4 + 2) (nvl f n a 2)))), (tx, .inr (7, [.ref qb, .int (nI n), .int w2, .int (nI (nS f n (npos f n a 2))), .int (nfl f n a 2 2 w4 3), .int (nfa f n a 2 2 w4 w5 3), .int w6, .int (nI (npos f n a 3))])), (qb, .inl (k 0, 500, .inl f))] := hD
    have hP : va_P D vwCl [(h, .inr (8, [.ref t, .ref tn, .ref tl, .ref tc, .ref ta])), (t, .inl (k 0, 4, .inl (cI q))), (tn, .inl (k 4, 4, .inr (.inr (.inr (.inr (gr4 rw)))))), ((rw 2), .inl (k 0, 80, .inl (nGr f n a (q 2) G 3))), (tx, .inr (7, [.ref qb, .int (nI n), .int w2, .int (nI (nS f n (npos f n a 2))), .int (nfl f n a 2 2 w4 3), .int (nfa f n a 2 2 w4 w5 3), .int w6, .int (nI (npos f n a 3))])), (qb, .inl (k 0, 500, .inl f))] H := hP
    have hD : va_D A [(h, .inr (8, [.ref t, .ref tn, .ref tl, .ref tc, .ref ta])), (t, .inl (k 0, 4, .inl (cI q))), (tn, .inl (k 4, 4, .inr (.inr (.inr (.inr (gr4 rw)))))), ((rw 2), .inl (k 0, 80, .inl (nGr f n a (q 2) G 3))), (tx, .inr (7, [.ref qb, .int (nI n), .int w2, .int (nI (nS f n (npos f n a 2))), .int (nfl f n a 2 2 w4 3), .int (nfa f n a 2 2 w4 w5 3), .int w6, .int (nI (npos f n a 3))])), (qb, .inl (k 0, 500, .inl f))] := hD
    refine lv_iload hx hb dX8_readNumbers_86 (lv_at hl 0 rfl) ?_
    refine lv_istore_n (lv' := [(3, .int (nvl f n a 2)), (6, .int (nvl f n a 2)), (5, .int 10), (4, .int 2), (0, .ref h), (1, .ref tx), (2, .int 2)]) hx hb dX8_readNumbers_88 rfl hl (by decide) rfl (fun ls hl => ?_)
    refine lv_iinc (v := 3) (lv' := [(4, .int 3), (3, .int (nvl f n a 2)), (6, .int (nvl f n a 2)), (5, .int 10), (0, .ref h), (1, .ref tx), (2, .int 2)]) hx hb dX8_readNumbers_89 hl (k := 3) rfl (by decide) (by decide) rfl (fun ls hl => ?_)
    refine lv_goto (tgt := 5) hx hb dX8_readNumbers_92 (by decide) ?_
    refine lv_iload hx hb dX8_readNumbers_5 (lv_at hl 0 rfl) ?_
    refine va_getsN (C := RX9) (ref := RX9) (host := RX9) hx hb (hZ.2.2.2.2.2.2.2.2.2.2.2.1) hS hown (va_Nw.use rfl hZ.2.1) (fun _ h9 => h9) dX8_readNumbers_7 ?_
    refine lv_iload_n hx hb dX8_readNumbers_10 rfl (lv_at hl 6 rfl) ?_
    refine va_ti (v := .int 4) hx hb (hZ.2.2.2.2.2.2.2.2.2.2.2.2.1) hS (vp_in_nI (n := 2) (by omega) (by omega)) (rfl) dX8_readNumbers_11 ?_
    refine lv_icmp_ge (x := 3) (y := 4) (tgt := 95) hx hb dX8_readNumbers_12 (by decide) (fun c23 => absurd c23 (by decide)) (fun c23 => ?_)
    refine lv_iload_n hx hb dX8_readNumbers_15 rfl (lv_at hl 6 rfl) ?_
    refine lv_iconst (v := 4) hx hb dX8_readNumbers_16 (by decide) ?_
    refine lv_imul hx hb dX8_readNumbers_17 ?_
    refine tp_i (y := 8) (by decide) ?_
    refine lv_iload hx hb dX8_readNumbers_18 (lv_at hl 0 rfl) ?_
    refine lv_iadd hx hb dX8_readNumbers_20 ?_
    refine tp_i (y := 11) (by decide) ?_
    refine lv_istore (lv' := [(5, .int 11), (4, .int 3), (3, .int (nvl f n a 2)), (6, .int (nvl f n a 2)), (0, .ref h), (1, .ref tx), (2, .int 2)]) hx hb dX8_readNumbers_21 hl (by decide) rfl (fun ls hl => ?_)
    refine lv_aload_n hx hb dX8_readNumbers_23 rfl (lv_at hl 5 rfl) ?_
    refine va_getsN (C := RX9) (ref := RX9) (host := RX9) hx hb (hZ.2.2.2.2.2.2.2.2.2.2.2.2.2.1) hS hown (va_Nw.use rfl hZ.2.2.1) (fun _ h9 => h9) dX8_readNumbers_24 ?_
    refine lv_iload hx hb dX8_readNumbers_27 (lv_at hl 0 rfl) ?_
    refine va_ti (v := .int 1) hx hb (hZ.2.2.2.2.2.2.2.2.2.2.2.2.2.2.1) hS (vp_in_nI (n := 11) (by omega) (by omega)) (rfl) dX8_readNumbers_29 ?_
    refine va_getsN (C := RX9) (ref := RX9) (host := RX9) hx hb (hZ.2.2.2.2.2.2.2.2.2.2.2.2.2.2.2.1) hS hown (va_Nw.use rfl hZ.2.2.2.1) (fun _ h9 => h9) dX8_readNumbers_30 ?_
    refine lv_iload hx hb dX8_readNumbers_33 (lv_at hl 0 rfl) ?_
    refine va_ti (v := .int 9) hx hb (hZ.2.2.2.2.2.2.2.2.2.2.2.2.2.2.2.2.1) hS (vp_in_nI (n := 11) (by omega) (by omega)) (rfl) dX8_readNumbers_35 ?_
    have hPc := hP.sub (ws' := (c_X7_readNumber k tx qb n (npos f n a 3) w2 (nI (nS f n (npos f n a 2))) (nfl f n a 2 2 w4 3) (nfa f n a 2 2 w4 w5 3) w6 f 1 9)) [4, 5] rfl
    have hDc := hD.sub (ws' := (c_X7_readNumber k tx qb n (npos f n a 3) w2 (nI (nS f n (npos f n a 2))) (nfl f n a 2 2 w4 3) (nfa f n a 2 2 w4 w5 3) w6 f 1 9)) [4, 5] (by decide +kernel) rfl
    refine cl_i (w1 := w_X7_readNumber k tx qb n (npos f n a 3) w2 (nI (nS f n (npos f n a 2))) (nfl f n a 2 2 w4 3) (nfa f n a 2 2 w4 w5 3) w6 f 1 9) (wr := [(h, .inr (8, [.ref t, .ref tn, .ref tl, .ref tc, .ref ta])), (t, .inl (k 0, 4, .inl (cI q))), (tn, .inl (k 4, 4, .inr (.inr (.inr (.inr (gr4 rw)))))), ((rw 2), .inl (k 0, 80, .inl (nGr f n a (q 2) G 3)))]) (va_runV (As := [.int 1, .int 9]) (rest := []) ⟨hx, hb, hml, hown, hts⟩ (X7_readNumber l D k H.size tx qb n (npos f n a 3) w2 (nI (nS f n (npos f n a 2))) (nfl f n a 2 2 w4 3) (nfa f n a 2 2 w4 w5 3) w6 f 1 9 (hn) (hnp _)) (cwV 2 hts gX8_readNumbers_X7_readNumber rfl rfl rfl (by decide +kernel) ⟨Nat.le_of_ble_eq_true rfl, Nat.le_of_ble_eq_true rfl⟩) ⟨PR.blind _ _ _ _ _, va_recv hG.1 hP (ci := 7) (q0 := 4) rfl rfl, PR.pre hPc hDc hG [.ref tx, .int 1, .int 9]⟩ rfl rfl hl.1 rfl (lv_room (Nat.le_of_ble_eq_true rfl)) dX8_readNumbers_36 ⟨Nat.le_of_ble_eq_true rfl, Nat.le_of_ble_eq_true rfl⟩) hP hD hS hA [4, 5] [0, 1, 2, 3] rfl rfl (by decide +kernel) (by decide +kernel) (fun r u H locs hq hP hD hS => ?_)
    obtain ⟨zu24, zu25, zu26, zu27⟩ := u
    generalize r = y28 at hq ⊢
    have hq : zu24 = rn (pB f) n (npos f n a 3) ∧ zu25 = rn (pR f 48 57) n zu24 ∧ y28 = dg3 f zu24 (zu25 - zu24) ∧ zu26 = nbF (nfl f n a 2 2 w4 3) (zu25 - zu24) y28 1 9 ∧ zu27 = nbA (nfl f n a 2 2 w4 3) (nfa f n a 2 2 w4 w5 3) (zu25 - zu24) y28 1 9 zu24 := hq
    obtain ⟨rfl, rfl, rfl, rfl, rfl⟩ := hq
    have hP : va_P D vwCl [(h, .inr (8, [.ref t, .ref tn, .ref tl, .ref tc, .ref ta])), (t, .inl (k 0, 4, .inl (cI q))), (tn, .inl (k 4, 4, .inr (.inr (.inr (.inr (gr4 rw)))))), ((rw 2), .inl (k 0, 80, .inl (nGr f n a (q 2) G 3))), (tx, .inr (7, [.ref qb, .int (nI n), .int w2, .int (nI (nS f n (npos f n a 3))), .int (nF f n (npos f n a 3) (nfl f n a 2 2 w4 3) 1 9), .int (nA f n (npos f n a 3) (nfl f n a 2 2 w4 3) (nfa f n a 2 2 w4 w5 3) 1 9), .int w6, .int (nI (nE f n (npos f n a 3)))])), (qb, .inl (k 0, 500, .inl f))] H := hP
    have hD : va_D A [(h, .inr (8, [.ref t, .ref tn, .ref tl, .ref tc, .ref ta])), (t, .inl (k 0, 4, .inl (cI q))), (tn, .inl (k 4, 4, .inr (.inr (.inr (.inr (gr4 rw)))))), ((rw 2), .inl (k 0, 80, .inl (nGr f n a (q 2) G 3))), (tx, .inr (7, [.ref qb, .int (nI n), .int w2, .int (nI (nS f n (npos f n a 3))), .int (nF f n (npos f n a 3) (nfl f n a 2 2 w4 3) 1 9), .int (nA f n (npos f n a 3) (nfl f n a 2 2 w4 3) (nfa f n a 2 2 w4 w5 3) 1 9), .int w6, .int (nI (nE f n (npos f n a 3)))])), (qb, .inl (k 0, 500, .inl f))] := hD
    have hnE : nE f n (npos f n a 3) ≤ n := nE_le (by first | omega | exact hnp _)
    refine tp_i (y := nV f n (npos f n a 3)) rfl ?_
    refine tp_i (y := nvl f n a 3) rfl ?_
    have e4 : nfl f n a 2 2 w4 4 = nF f n (npos f n a 3) (nfl f n a 2 2 w4 3) 1 9 := nfl_n (by decide)
    have e5 : nfa f n a 2 2 w4 w5 4 = nA f n (npos f n a 3) (nfl f n a 2 2 w4 3) (nfa f n a 2 2 w4 w5 3) 1 9 := nfa_n (by decide)
    have hP : va_P D vwCl [(h, .inr (8, [.ref t, .ref tn, .ref tl, .ref tc, .ref ta])), (t, .inl (k 0, 4, .inl (cI q))), (tn, .inl (k 4, 4, .inr (.inr (.inr (.inr (gr4 rw)))))), ((rw 2), .inl (k 0, 80, .inl (nGr f n a (q 2) G 3))), (tx, .inr (7, [.ref qb, .int (nI n), .int w2, .int (nI (nS f n (npos f n a 3))), .int (nfl f n a 2 2 w4 4), .int (nfa f n a 2 2 w4 w5 4), .int w6, .int (nI (npos f n a 4))])), (qb, .inl (k 0, 500, .inl f))] H := by rw [e4, e5]; exact hP
    have hD : va_D A [(h, .inr (8, [.ref t, .ref tn, .ref tl, .ref tc, .ref ta])), (t, .inl (k 0, 4, .inl (cI q))), (tn, .inl (k 4, 4, .inr (.inr (.inr (.inr (gr4 rw)))))), ((rw 2), .inl (k 0, 80, .inl (nGr f n a (q 2) G 3))), (tx, .inr (7, [.ref qb, .int (nI n), .int w2, .int (nI (nS f n (npos f n a 3))), .int (nfl f n a 2 2 w4 4), .int (nfa f n a 2 2 w4 w5 4), .int w6, .int (nI (npos f n a 4))])), (qb, .inl (k 0, 500, .inl f))] := by rw [e4, e5]; exact hD
    refine lv_istore (lv' := [(6, .int (nvl f n a 3)), (5, .int 11), (4, .int 3), (3, .int (nvl f n a 2)), (0, .ref h), (1, .ref tx), (2, .int 2)]) hx hb dX8_readNumbers_39 hl (by decide) rfl (fun ls hl => ?_)
    refine lv_iload hx hb dX8_readNumbers_41 (lv_at hl 2 rfl) ?_
    refine va_getsN (C := RX9) (ref := RX9) (host := RX9) hx hb (hZ.2.2.2.2.2.2.2.2.2.2.2.2.2.2.2.2.2.1) hS hown (va_Nw.use rfl hZ.2.2.2.2.1) (fun _ h9 => h9) dX8_readNumbers_43 ?_
    refine lv_iload_n hx hb dX8_readNumbers_46 rfl (lv_at hl 6 rfl) ?_
    refine va_ti (v := .int 2) hx hb (hZ.2.2.2.2.2.2.2.2.2.2.2.2.2.2.2.2.2.2.1) hS (vp_in_nI (n := 2) (by omega) (by omega)) (rfl) dX8_readNumbers_47 ?_
    refine lv_icmp_ne (x := 3) (y := 2) (tgt := 66) hx hb dX8_readNumbers_48 (by decide) (fun c29 => ?_) (fun c29 => absurd c29 (by decide))
    refine lv_aload_n hx hb dX8_readNumbers_66 rfl (lv_at hl 4 rfl) ?_
    refine va_get (D := D) (ci := 8) (v := .ref tn) (C := RX8) (T := TX8) (N := 5) hx hb hts hi8 hown hG.1 hP 0 rfl rfl 1 (by decide) (hts (.fieldLink RX8 17 "SleptMatters$Town" "numbers" "[[I") (List.mem_cons_of_mem _ (List.mem_append_left _ (List.mem_append_left _ (List.mem_append_left _ (List.mem_of_getElem? (i := 1) rfl)))))) (fun _ h9 => h9) rfl dX8_readNumbers_67 ?_
    refine lv_iload_n hx hb dX8_readNumbers_70 rfl (lv_at hl 6 rfl) ?_
    refine va_aldA (t := .int) hx hb hG.1 hP 2 4 rfl rfl (vp_in_nI (n := 2) (by omega) (by omega)) dX8_readNumbers_71 ?_
    refine W.eq (g2 := F0 m 72 ls [.ref (rw 2)]) rfl ?_
    refine lv_aload_n hx hb dX8_readNumbers_72 rfl (lv_at hl 4 rfl) ?_
    refine va_get (D := D) (ci := 8) (v := .ref t) (C := RX8) (T := TX8) (N := 5) hx hb hts hi8 hown hG.1 hP 0 rfl rfl 0 (by decide) (hts (.fieldLink RX8 9 "SleptMatters$Town" "counts" "[I") (List.mem_cons_of_mem _ (List.mem_append_left _ (List.mem_append_left _ (List.mem_append_left _ (List.mem_of_getElem? (i := 2) rfl)))))) (fun _ h9 => h9) rfl dX8_readNumbers_73 ?_
    refine lv_iload_n hx hb dX8_readNumbers_76 rfl (lv_at hl 6 rfl) ?_
    refine va_iald hx hb hG.1 hP 1 0 rfl rfl (vp_in_nI (n := 2) (by omega) (by omega)) dX8_readNumbers_77 ?_
    refine tp_i (y := nI (q 2)) (rfl) ?_
    refine lv_iconst (v := 4) hx hb dX8_readNumbers_78 (by decide) ?_
    refine lv_imul hx hb dX8_readNumbers_79 ?_
    refine tp_i (y := nI ((q 2) * 4)) (pk_mul (q 2) 4) ?_
    refine lv_iload hx hb dX8_readNumbers_80 (lv_at hl 2 rfl) ?_
    refine lv_iadd hx hb dX8_readNumbers_82 ?_
    refine tp_i (y := nI ((q 2) * 4 + 3)) (nI_add ((q 2) * 4) 3) ?_
    refine lv_iload hx hb dX8_readNumbers_83 (lv_at hl 0 rfl) ?_
    refine va_iast hx hb hG.1 hP hD hS 3 0 rfl rfl (vp_in_nI (by omega) (by omega)) dX8_readNumbers_85 (fun H locs hP hD hS => ?_)
    rw [nI_clamp (n := (q 2) * 4 + 3) (by omega)] at hP hD
    have hP : va_P D vwCl [(h, .inr (8, [.ref t, .ref tn, .ref tl, .ref tc, .ref ta])), (t, .inl (k 0, 4, .inl (cI q))), (tn, .inl (k 4, 4, .inr (.inr (.inr (.inr (gr4 rw)))))), ((rw 2), .inl (k 0, 80, .inl (upd (nGr f n a (q 2) G 3) ((q 2) * 4 + 3) (nvl f n a 3)))), (tx, .inr (7, [.ref qb, .int (nI n), .int w2, .int (nI (nS f n (npos f n a 3))), .int (nfl f n a 2 2 w4 4), .int (nfa f n a 2 2 w4 w5 4), .int w6, .int (nI (npos f n a 4))])), (qb, .inl (k 0, 500, .inl f))] H := hP
    have hD : va_D A [(h, .inr (8, [.ref t, .ref tn, .ref tl, .ref tc, .ref ta])), (t, .inl (k 0, 4, .inl (cI q))), (tn, .inl (k 4, 4, .inr (.inr (.inr (.inr (gr4 rw)))))), ((rw 2), .inl (k 0, 80, .inl (upd (nGr f n a (q 2) G 3) ((q 2) * 4 + 3) (nvl f n a 3)))), (tx, .inr (7, [.ref qb, .int (nI n), .int w2, .int (nI (nS f n (npos f n a 3))), .int (nfl f n a 2 2 w4 4), .int (nfa f n a 2 2 w4 w5 4), .int w6, .int (nI (npos f n a 4))])), (qb, .inl (k 0, 500, .inl f))] := hD
    have hP : va_P D vwCl [(h, .inr (8, [.ref t, .ref tn, .ref tl, .ref tc, .ref ta])), (t, .inl (k 0, 4, .inl (cI q))), (tn, .inl (k 4, 4, .inr (.inr (.inr (.inr (gr4 rw)))))), ((rw 2), .inl (k 0, 80, .inl (nGr f n a (q 2) G 4))), (tx, .inr (7, [.ref qb, .int (nI n), .int w2, .int (nI (nS f n (npos f n a 3))), .int (nfl f n a 2 2 w4 4), .int (nfa f n a 2 2 w4 w5 4), .int w6, .int (nI (npos f n a 4))])), (qb, .inl (k 0, 500, .inl f))] H := hP
    have hD : va_D A [(h, .inr (8, [.ref t, .ref tn, .ref tl, .ref tc, .ref ta])), (t, .inl (k 0, 4, .inl (cI q))), (tn, .inl (k 4, 4, .inr (.inr (.inr (.inr (gr4 rw)))))), ((rw 2), .inl (k 0, 80, .inl (nGr f n a (q 2) G 4))), (tx, .inr (7, [.ref qb, .int (nI n), .int w2, .int (nI (nS f n (npos f n a 3))), .int (nfl f n a 2 2 w4 4), .int (nfa f n a 2 2 w4 w5 4), .int w6, .int (nI (npos f n a 4))])), (qb, .inl (k 0, 500, .inl f))] := hD
    refine lv_iload hx hb dX8_readNumbers_86 (lv_at hl 0 rfl) ?_
    refine lv_istore_n (lv' := [(3, .int (nvl f n a 3)), (6, .int (nvl f n a 3)), (5, .int 11), (4, .int 3), (0, .ref h), (1, .ref tx), (2, .int 2)]) hx hb dX8_readNumbers_88 rfl hl (by decide) rfl (fun ls hl => ?_)
    refine lv_iinc (v := 4) (lv' := [(4, .int 4), (3, .int (nvl f n a 3)), (6, .int (nvl f n a 3)), (5, .int 11), (0, .ref h), (1, .ref tx), (2, .int 2)]) hx hb dX8_readNumbers_89 hl (k := 3) rfl (by decide) (by decide) rfl (fun ls hl => ?_)
    refine lv_goto (tgt := 5) hx hb dX8_readNumbers_92 (by decide) ?_
    refine lv_iload hx hb dX8_readNumbers_5 (lv_at hl 0 rfl) ?_
    refine va_getsN (C := RX9) (ref := RX9) (host := RX9) hx hb (hZ.2.2.2.2.2.2.2.2.2.2.2.1) hS hown (va_Nw.use rfl hZ.2.1) (fun _ h9 => h9) dX8_readNumbers_7 ?_
    refine lv_iload_n hx hb dX8_readNumbers_10 rfl (lv_at hl 6 rfl) ?_
    refine va_ti (v := .int 4) hx hb (hZ.2.2.2.2.2.2.2.2.2.2.2.2.1) hS (vp_in_nI (n := 2) (by omega) (by omega)) (rfl) dX8_readNumbers_11 ?_
    refine lv_icmp_ge (x := 4) (y := 4) (tgt := 95) hx hb dX8_readNumbers_12 (by decide) (fun c30 => ?_) (fun c30 => absurd c30 (by decide))
    have hP9 := hP.sub (ws' := [(h, .inr (8, [.ref t, .ref tn, .ref tl, .ref tc, .ref ta])), (t, .inl (k 0, 4, .inl (cI q))), (tn, .inl (k 4, 4, .inr (.inr (.inr (.inr (gr4 rw)))))), ((rw 2), .inl (k 0, 80, .inl (nGr f n a (q 2) G 4))), (tx, .inr (7, [.ref qb, .int (nI n), .int w2, .int (nI (nS f n (npos f n a 3))), .int (nfl f n a 2 2 w4 4), .int (nfa f n a 2 2 w4 w5 4), .int w6, .int (nI (npos f n a 4))])), (qb, .inl (k 0, 500, .inl f))]) [0, 1, 2, 3, 4, 5] rfl
    have hD9 := hD.sub (ws' := [(h, .inr (8, [.ref t, .ref tn, .ref tl, .ref tc, .ref ta])), (t, .inl (k 0, 4, .inl (cI q))), (tn, .inl (k 4, 4, .inr (.inr (.inr (.inr (gr4 rw)))))), ((rw 2), .inl (k 0, 80, .inl (nGr f n a (q 2) G 4))), (tx, .inr (7, [.ref qb, .int (nI n), .int w2, .int (nI (nS f n (npos f n a 3))), .int (nfl f n a 2 2 w4 4), .int (nfa f n a 2 2 w4 w5 4), .int w6, .int (nI (npos f n a 4))])), (qb, .inl (k 0, 500, .inl f))]) [0, 1, 2, 3, 4, 5] (by decide +kernel) rfl
    exact W.vret hx hb hr (fun t9 ht _ => ⟨⟨(), rfl, trivial, by rw [ht]; exact hP9, hD9⟩, hS.F ht⟩) hS.2.2 dX8_readNumbers_95
  · skip
    refine lv_aload_n hx hb dX8_readNumbers_57 rfl (lv_at hl 5 rfl) ?_
    refine lv_iconst (v := 4) hx hb dX8_readNumbers_58 (by decide) ?_
    refine lv_aload_n hx hb dX8_readNumbers_59 rfl (lv_at hl 5 rfl) ?_
    refine va_get (D := D) (ci := 7) (v := .int (nI (nS f n (npos f n a 2)))) (C := RX7) (T := TX7) (N := 8) hx hb hts hi7 hown hG.1 hP 4 rfl rfl 3 (by decide) (hts (.fieldLink RX8 117 "SleptMatters$Text" "numberAt" "I") (List.mem_cons_of_mem _ (List.mem_append_left _ (List.mem_append_left _ (List.mem_append_left _ (List.mem_of_getElem? (i := 0) rfl)))))) (fun _ h9 => h9) rfl dX8_readNumbers_60 ?_
    have hPc := hP.sub (ws' := (c_X7_blame k tx qb (nI n) w2 (nI (nS f n (npos f n a 2))) (nF f n (npos f n a 2) (nfl f n a 2 2 w4 2) 0 99) (nA f n (npos f n a 2) (nfl f n a 2 2 w4 2) (nfa f n a 2 2 w4 w5 2) 0 99) w6 (nI (npos f n a 3)) 4 (nI (nS f n (npos f n a 2))))) [4] rfl
    have hDc := hD.sub (ws' := (c_X7_blame k tx qb (nI n) w2 (nI (nS f n (npos f n a 2))) (nF f n (npos f n a 2) (nfl f n a 2 2 w4 2) 0 99) (nA f n (npos f n a 2) (nfl f n a 2 2 w4 2) (nfa f n a 2 2 w4 w5 2) 0 99) w6 (nI (npos f n a 3)) 4 (nI (nS f n (npos f n a 2))))) [4] (by decide +kernel) rfl
    refine cl_v (w1 := w_X7_blame k tx qb (nI n) w2 (nI (nS f n (npos f n a 2))) (nF f n (npos f n a 2) (nfl f n a 2 2 w4 2) 0 99) (nA f n (npos f n a 2) (nfl f n a 2 2 w4 2) (nfa f n a 2 2 w4 w5 2) 0 99) w6 (nI (npos f n a 3)) 4 (nI (nS f n (npos f n a 2)))) (wr := [(h, .inr (8, [.ref t, .ref tn, .ref tl, .ref tc, .ref ta])), (t, .inl (k 0, 4, .inl (cI q))), (tn, .inl (k 4, 4, .inr (.inr (.inr (.inr (gr4 rw)))))), ((rw 2), .inl (k 0, 80, .inl (nGr f n a (q 2) G 2))), (qb, .inl (k 0, 500, .inl f))]) (va_runV (As := [.int 4, .int (nI (nS f n (npos f n a 2)))]) (rest := []) ⟨hx, hb, hml, hown, hts⟩ (X7_blame l D k H.size tx qb (nI n) w2 (nI (nS f n (npos f n a 2))) (nF f n (npos f n a 2) (nfl f n a 2 2 w4 2) 0 99) (nA f n (npos f n a 2) (nfl f n a 2 2 w4 2) (nfa f n a 2 2 w4 w5 2) 0 99) w6 (nI (npos f n a 3)) 4 (nI (nS f n (npos f n a 2))) ) (cwV 2 hts gX8_readNumbers_X7_blame rfl rfl rfl (by decide +kernel) ⟨Nat.le_of_ble_eq_true rfl, Nat.le_of_ble_eq_true rfl⟩) ⟨PR.blind _ _ _ _ _, va_recv hG.1 hP (ci := 7) (q0 := 4) rfl rfl, PR.pre hPc hDc hG [.ref tx, .int 4, .int (nI (nS f n (npos f n a 2)))]⟩ rfl rfl hl.1 rfl (lv_room (Nat.le_of_ble_eq_true rfl)) dX8_readNumbers_63 ⟨Nat.le_of_ble_eq_true rfl, Nat.le_of_ble_eq_true rfl⟩) hP hD hS hA [4] [0, 1, 2, 3, 5] rfl rfl (by decide +kernel) (by decide +kernel) (fun u H locs hq hP hD hS => ?_)
    obtain ⟨zu31, zu32⟩ := u
    have hq : zu31 = bl (nF f n (npos f n a 2) (nfl f n a 2 2 w4 2) 0 99) 4 ∧ zu32 = bla (nF f n (npos f n a 2) (nfl f n a 2 2 w4 2) 0 99) (nA f n (npos f n a 2) (nfl f n a 2 2 w4 2) (nfa f n a 2 2 w4 w5 2) 0 99) (nI (nS f n (npos f n a 2))) := hq
    obtain ⟨rfl, rfl⟩ := hq
    have hP : va_P D vwCl [(h, .inr (8, [.ref t, .ref tn, .ref tl, .ref tc, .ref ta])), (t, .inl (k 0, 4, .inl (cI q))), (tn, .inl (k 4, 4, .inr (.inr (.inr (.inr (gr4 rw)))))), ((rw 2), .inl (k 0, 80, .inl (nGr f n a (q 2) G 2))), (qb, .inl (k 0, 500, .inl f)), (tx, .inr (7, [.ref qb, .int (nI n), .int w2, .int (nI (nS f n (npos f n a 2))), .int (bl (nF f n (npos f n a 2) (nfl f n a 2 2 w4 2) 0 99) 4), .int (bla (nF f n (npos f n a 2) (nfl f n a 2 2 w4 2) 0 99) (nA f n (npos f n a 2) (nfl f n a 2 2 w4 2) (nfa f n a 2 2 w4 w5 2) 0 99) (nI (nS f n (npos f n a 2)))), .int w6, .int (nI (npos f n a 3))]))] H := hP
    have hD : va_D A [(h, .inr (8, [.ref t, .ref tn, .ref tl, .ref tc, .ref ta])), (t, .inl (k 0, 4, .inl (cI q))), (tn, .inl (k 4, 4, .inr (.inr (.inr (.inr (gr4 rw)))))), ((rw 2), .inl (k 0, 80, .inl (nGr f n a (q 2) G 2))), (qb, .inl (k 0, 500, .inl f)), (tx, .inr (7, [.ref qb, .int (nI n), .int w2, .int (nI (nS f n (npos f n a 2))), .int (bl (nF f n (npos f n a 2) (nfl f n a 2 2 w4 2) 0 99) 4), .int (bla (nF f n (npos f n a 2) (nfl f n a 2 2 w4 2) 0 99) (nA f n (npos f n a 2) (nfl f n a 2 2 w4 2) (nfa f n a 2 2 w4 w5 2) 0 99) (nI (nS f n (npos f n a 2)))), .int w6, .int (nI (npos f n a 3))]))] := hD
    have e4 : nfl f n a 2 2 w4 3 = bl (nF f n (npos f n a 2) (nfl f n a 2 2 w4 2) 0 99) 4 := nfl_m rfl c22
    have e5 : nfa f n a 2 2 w4 w5 3 = bla (nF f n (npos f n a 2) (nfl f n a 2 2 w4 2) 0 99) (nA f n (npos f n a 2) (nfl f n a 2 2 w4 2) (nfa f n a 2 2 w4 w5 2) 0 99) (nI (nS f n (npos f n a 2))) := nfa_m rfl c22
    have hP : va_P D vwCl [(h, .inr (8, [.ref t, .ref tn, .ref tl, .ref tc, .ref ta])), (t, .inl (k 0, 4, .inl (cI q))), (tn, .inl (k 4, 4, .inr (.inr (.inr (.inr (gr4 rw)))))), ((rw 2), .inl (k 0, 80, .inl (nGr f n a (q 2) G 2))), (qb, .inl (k 0, 500, .inl f)), (tx, .inr (7, [.ref qb, .int (nI n), .int w2, .int (nI (nS f n (npos f n a 2))), .int (nfl f n a 2 2 w4 3), .int (nfa f n a 2 2 w4 w5 3), .int w6, .int (nI (npos f n a 3))]))] H := by rw [e4, e5]; exact hP
    have hD : va_D A [(h, .inr (8, [.ref t, .ref tn, .ref tl, .ref tc, .ref ta])), (t, .inl (k 0, 4, .inl (cI q))), (tn, .inl (k 4, 4, .inr (.inr (.inr (.inr (gr4 rw)))))), ((rw 2), .inl (k 0, 80, .inl (nGr f n a (q 2) G 2))), (qb, .inl (k 0, 500, .inl f)), (tx, .inr (7, [.ref qb, .int (nI n), .int w2, .int (nI (nS f n (npos f n a 2))), .int (nfl f n a 2 2 w4 3), .int (nfa f n a 2 2 w4 w5 3), .int w6, .int (nI (npos f n a 3))]))] := by rw [e4, e5]; exact hD
    refine lv_aload_n hx hb dX8_readNumbers_66 rfl (lv_at hl 4 rfl) ?_
    refine va_get (D := D) (ci := 8) (v := .ref tn) (C := RX8) (T := TX8) (N := 5) hx hb hts hi8 hown hG.1 hP 0 rfl rfl 1 (by decide) (hts (.fieldLink RX8 17 "SleptMatters$Town" "numbers" "[[I") (List.mem_cons_of_mem _ (List.mem_append_left _ (List.mem_append_left _ (List.mem_append_left _ (List.mem_of_getElem? (i := 1) rfl)))))) (fun _ h9 => h9) rfl dX8_readNumbers_67 ?_
    refine lv_iload_n hx hb dX8_readNumbers_70 rfl (lv_at hl 6 rfl) ?_
    refine va_aldA (t := .int) hx hb hG.1 hP 2 4 rfl rfl (vp_in_nI (n := 2) (by omega) (by omega)) dX8_readNumbers_71 ?_
    refine W.eq (g2 := F0 m 72 ls [.ref (rw 2)]) rfl ?_
    refine lv_aload_n hx hb dX8_readNumbers_72 rfl (lv_at hl 4 rfl) ?_
    refine va_get (D := D) (ci := 8) (v := .ref t) (C := RX8) (T := TX8) (N := 5) hx hb hts hi8 hown hG.1 hP 0 rfl rfl 0 (by decide) (hts (.fieldLink RX8 9 "SleptMatters$Town" "counts" "[I") (List.mem_cons_of_mem _ (List.mem_append_left _ (List.mem_append_left _ (List.mem_append_left _ (List.mem_of_getElem? (i := 2) rfl)))))) (fun _ h9 => h9) rfl dX8_readNumbers_73 ?_
    refine lv_iload_n hx hb dX8_readNumbers_76 rfl (lv_at hl 6 rfl) ?_
    refine va_iald hx hb hG.1 hP 1 0 rfl rfl (vp_in_nI (n := 2) (by omega) (by omega)) dX8_readNumbers_77 ?_
    refine tp_i (y := nI (q 2)) (rfl) ?_
    refine lv_iconst (v := 4) hx hb dX8_readNumbers_78 (by decide) ?_
    refine lv_imul hx hb dX8_readNumbers_79 ?_
    refine tp_i (y := nI ((q 2) * 4)) (pk_mul (q 2) 4) ?_
    refine lv_iload hx hb dX8_readNumbers_80 (lv_at hl 2 rfl) ?_
    refine lv_iadd hx hb dX8_readNumbers_82 ?_
    refine tp_i (y := nI ((q 2) * 4 + 2)) (nI_add ((q 2) * 4) 2) ?_
    refine lv_iload hx hb dX8_readNumbers_83 (lv_at hl 0 rfl) ?_
    refine va_iast hx hb hG.1 hP hD hS 3 0 rfl rfl (vp_in_nI (by omega) (by omega)) dX8_readNumbers_85 (fun H locs hP hD hS => ?_)
    rw [nI_clamp (n := (q 2) * 4 + 2) (by omega)] at hP hD
    have hP : va_P D vwCl [(h, .inr (8, [.ref t, .ref tn, .ref tl, .ref tc, .ref ta])), (t, .inl (k 0, 4, .inl (cI q))), (tn, .inl (k 4, 4, .inr (.inr (.inr (.inr (gr4 rw)))))), ((rw 2), .inl (k 0, 80, .inl (upd (nGr f n a (q 2) G 2) ((q 2) * 4 + 2) (nvl f n a 2)))), (qb, .inl (k 0, 500, .inl f)), (tx, .inr (7, [.ref qb, .int (nI n), .int w2, .int (nI (nS f n (npos f n a 2))), .int (nfl f n a 2 2 w4 3), .int (nfa f n a 2 2 w4 w5 3), .int w6, .int (nI (npos f n a 3))]))] H := hP
    have hD : va_D A [(h, .inr (8, [.ref t, .ref tn, .ref tl, .ref tc, .ref ta])), (t, .inl (k 0, 4, .inl (cI q))), (tn, .inl (k 4, 4, .inr (.inr (.inr (.inr (gr4 rw)))))), ((rw 2), .inl (k 0, 80, .inl (upd (nGr f n a (q 2) G 2) ((q 2) * 4 + 2) (nvl f n a 2)))), (qb, .inl (k 0, 500, .inl f)), (tx, .inr (7, [.ref qb, .int (nI n), .int w2, .int (nI (nS f n (npos f n a 2))), .int (nfl f n a 2 2 w4 3), .int (nfa f n a 2 2 w4 w5 3), .int w6, .int (nI (npos f n a 3))]))] := hD
    have hP : va_P D vwCl [(h, .inr (8, [.ref t, .ref tn, .ref tl, .ref tc, .ref ta])), (t, .inl (k 0, 4, .inl (cI q))), (tn, .inl (k 4, 4, .inr (.inr (.inr (.inr (gr4 rw)))))), ((rw 2), .inl (k 0, 80, .inl (nGr f n a (q 2) G 3))), (qb, .inl (k 0, 500, .inl f)), (tx, .inr (7, [.ref qb, .int (nI n), .int w2, .int (nI (nS f n (npos f n a 2))), .int (nfl f n a 2 2 w4 3), .int (nfa f n a 2 2 w4 w5 3), .int w6, .int (nI (npos f n a 3))]))] H := hP
    have hD : va_D A [(h, .inr (8, [.ref t, .ref tn, .ref tl, .ref tc, .ref ta])), (t, .inl (k 0, 4, .inl (cI q))), (tn, .inl (k 4, 4, .inr (.inr (.inr (.inr (gr4 rw)))))), ((rw 2), .inl (k 0, 80, .inl (nGr f n a (q 2) G 3))), (qb, .inl (k 0, 500, .inl f)), (tx, .inr (7, [.ref qb, .int (nI n), .int w2, .int (nI (nS f n (npos f n a 2))), .int (nfl f n a 2 2 w4 3), .int (nfa f n a 2 2 w4 w5 3), .int w6, .int (nI (npos f n a 3))]))] := hD
    refine lv_iload hx hb dX8_readNumbers_86 (lv_at hl 0 rfl) ?_
    refine lv_istore_n (lv' := [(3, .int (nvl f n a 2)), (6, .int (nvl f n a 2)), (5, .int 10), (4, .int 2), (0, .ref h), (1, .ref tx), (2, .int 2)]) hx hb dX8_readNumbers_88 rfl hl (by decide) rfl (fun ls hl => ?_)
    refine lv_iinc (v := 3) (lv' := [(4, .int 3), (3, .int (nvl f n a 2)), (6, .int (nvl f n a 2)), (5, .int 10), (0, .ref h), (1, .ref tx), (2, .int 2)]) hx hb dX8_readNumbers_89 hl (k := 3) rfl (by decide) (by decide) rfl (fun ls hl => ?_)
    refine lv_goto (tgt := 5) hx hb dX8_readNumbers_92 (by decide) ?_
    refine lv_iload hx hb dX8_readNumbers_5 (lv_at hl 0 rfl) ?_
    refine va_getsN (C := RX9) (ref := RX9) (host := RX9) hx hb (hZ.2.2.2.2.2.2.2.2.2.2.2.1) hS hown (va_Nw.use rfl hZ.2.1) (fun _ h9 => h9) dX8_readNumbers_7 ?_
    refine lv_iload_n hx hb dX8_readNumbers_10 rfl (lv_at hl 6 rfl) ?_
    refine va_ti (v := .int 4) hx hb (hZ.2.2.2.2.2.2.2.2.2.2.2.2.1) hS (vp_in_nI (n := 2) (by omega) (by omega)) (rfl) dX8_readNumbers_11 ?_
    refine lv_icmp_ge (x := 3) (y := 4) (tgt := 95) hx hb dX8_readNumbers_12 (by decide) (fun c33 => absurd c33 (by decide)) (fun c33 => ?_)
    refine lv_iload_n hx hb dX8_readNumbers_15 rfl (lv_at hl 6 rfl) ?_
    refine lv_iconst (v := 4) hx hb dX8_readNumbers_16 (by decide) ?_
    refine lv_imul hx hb dX8_readNumbers_17 ?_
    refine tp_i (y := 8) (by decide) ?_
    refine lv_iload hx hb dX8_readNumbers_18 (lv_at hl 0 rfl) ?_
    refine lv_iadd hx hb dX8_readNumbers_20 ?_
    refine tp_i (y := 11) (by decide) ?_
    refine lv_istore (lv' := [(5, .int 11), (4, .int 3), (3, .int (nvl f n a 2)), (6, .int (nvl f n a 2)), (0, .ref h), (1, .ref tx), (2, .int 2)]) hx hb dX8_readNumbers_21 hl (by decide) rfl (fun ls hl => ?_)
    refine lv_aload_n hx hb dX8_readNumbers_23 rfl (lv_at hl 5 rfl) ?_
    refine va_getsN (C := RX9) (ref := RX9) (host := RX9) hx hb (hZ.2.2.2.2.2.2.2.2.2.2.2.2.2.1) hS hown (va_Nw.use rfl hZ.2.2.1) (fun _ h9 => h9) dX8_readNumbers_24 ?_
    refine lv_iload hx hb dX8_readNumbers_27 (lv_at hl 0 rfl) ?_
    refine va_ti (v := .int 1) hx hb (hZ.2.2.2.2.2.2.2.2.2.2.2.2.2.2.1) hS (vp_in_nI (n := 11) (by omega) (by omega)) (rfl) dX8_readNumbers_29 ?_
    refine va_getsN (C := RX9) (ref := RX9) (host := RX9) hx hb (hZ.2.2.2.2.2.2.2.2.2.2.2.2.2.2.2.1) hS hown (va_Nw.use rfl hZ.2.2.2.1) (fun _ h9 => h9) dX8_readNumbers_30 ?_
    refine lv_iload hx hb dX8_readNumbers_33 (lv_at hl 0 rfl) ?_
    refine va_ti (v := .int 9) hx hb (hZ.2.2.2.2.2.2.2.2.2.2.2.2.2.2.2.2.1) hS (vp_in_nI (n := 11) (by omega) (by omega)) (rfl) dX8_readNumbers_35 ?_
    have hPc := hP.sub (ws' := (c_X7_readNumber k tx qb n (npos f n a 3) w2 (nI (nS f n (npos f n a 2))) (nfl f n a 2 2 w4 3) (nfa f n a 2 2 w4 w5 3) w6 f 1 9)) [5, 4] rfl
    have hDc := hD.sub (ws' := (c_X7_readNumber k tx qb n (npos f n a 3) w2 (nI (nS f n (npos f n a 2))) (nfl f n a 2 2 w4 3) (nfa f n a 2 2 w4 w5 3) w6 f 1 9)) [5, 4] (by decide +kernel) rfl
    refine cl_i (w1 := w_X7_readNumber k tx qb n (npos f n a 3) w2 (nI (nS f n (npos f n a 2))) (nfl f n a 2 2 w4 3) (nfa f n a 2 2 w4 w5 3) w6 f 1 9) (wr := [(h, .inr (8, [.ref t, .ref tn, .ref tl, .ref tc, .ref ta])), (t, .inl (k 0, 4, .inl (cI q))), (tn, .inl (k 4, 4, .inr (.inr (.inr (.inr (gr4 rw)))))), ((rw 2), .inl (k 0, 80, .inl (nGr f n a (q 2) G 3)))]) (va_runV (As := [.int 1, .int 9]) (rest := []) ⟨hx, hb, hml, hown, hts⟩ (X7_readNumber l D k H.size tx qb n (npos f n a 3) w2 (nI (nS f n (npos f n a 2))) (nfl f n a 2 2 w4 3) (nfa f n a 2 2 w4 w5 3) w6 f 1 9 (hn) (hnp _)) (cwV 2 hts gX8_readNumbers_X7_readNumber rfl rfl rfl (by decide +kernel) ⟨Nat.le_of_ble_eq_true rfl, Nat.le_of_ble_eq_true rfl⟩) ⟨PR.blind _ _ _ _ _, va_recv hG.1 hP (ci := 7) (q0 := 5) rfl rfl, PR.pre hPc hDc hG [.ref tx, .int 1, .int 9]⟩ rfl rfl hl.1 rfl (lv_room (Nat.le_of_ble_eq_true rfl)) dX8_readNumbers_36 ⟨Nat.le_of_ble_eq_true rfl, Nat.le_of_ble_eq_true rfl⟩) hP hD hS hA [5, 4] [0, 1, 2, 3] rfl rfl (by decide +kernel) (by decide +kernel) (fun r u H locs hq hP hD hS => ?_)
    obtain ⟨zu34, zu35, zu36, zu37⟩ := u
    generalize r = y38 at hq ⊢
    have hq : zu34 = rn (pB f) n (npos f n a 3) ∧ zu35 = rn (pR f 48 57) n zu34 ∧ y38 = dg3 f zu34 (zu35 - zu34) ∧ zu36 = nbF (nfl f n a 2 2 w4 3) (zu35 - zu34) y38 1 9 ∧ zu37 = nbA (nfl f n a 2 2 w4 3) (nfa f n a 2 2 w4 w5 3) (zu35 - zu34) y38 1 9 zu34 := hq
    obtain ⟨rfl, rfl, rfl, rfl, rfl⟩ := hq
    have hP : va_P D vwCl [(h, .inr (8, [.ref t, .ref tn, .ref tl, .ref tc, .ref ta])), (t, .inl (k 0, 4, .inl (cI q))), (tn, .inl (k 4, 4, .inr (.inr (.inr (.inr (gr4 rw)))))), ((rw 2), .inl (k 0, 80, .inl (nGr f n a (q 2) G 3))), (tx, .inr (7, [.ref qb, .int (nI n), .int w2, .int (nI (nS f n (npos f n a 3))), .int (nF f n (npos f n a 3) (nfl f n a 2 2 w4 3) 1 9), .int (nA f n (npos f n a 3) (nfl f n a 2 2 w4 3) (nfa f n a 2 2 w4 w5 3) 1 9), .int w6, .int (nI (nE f n (npos f n a 3)))])), (qb, .inl (k 0, 500, .inl f))] H := hP
    have hD : va_D A [(h, .inr (8, [.ref t, .ref tn, .ref tl, .ref tc, .ref ta])), (t, .inl (k 0, 4, .inl (cI q))), (tn, .inl (k 4, 4, .inr (.inr (.inr (.inr (gr4 rw)))))), ((rw 2), .inl (k 0, 80, .inl (nGr f n a (q 2) G 3))), (tx, .inr (7, [.ref qb, .int (nI n), .int w2, .int (nI (nS f n (npos f n a 3))), .int (nF f n (npos f n a 3) (nfl f n a 2 2 w4 3) 1 9), .int (nA f n (npos f n a 3) (nfl f n a 2 2 w4 3) (nfa f n a 2 2 w4 w5 3) 1 9), .int w6, .int (nI (nE f n (npos f n a 3)))])), (qb, .inl (k 0, 500, .inl f))] := hD
    have hnE : nE f n (npos f n a 3) ≤ n := nE_le (by first | omega | exact hnp _)
    refine tp_i (y := nV f n (npos f n a 3)) rfl ?_
    refine tp_i (y := nvl f n a 3) rfl ?_
    have e4 : nfl f n a 2 2 w4 4 = nF f n (npos f n a 3) (nfl f n a 2 2 w4 3) 1 9 := nfl_n (by decide)
    have e5 : nfa f n a 2 2 w4 w5 4 = nA f n (npos f n a 3) (nfl f n a 2 2 w4 3) (nfa f n a 2 2 w4 w5 3) 1 9 := nfa_n (by decide)
    have hP : va_P D vwCl [(h, .inr (8, [.ref t, .ref tn, .ref tl, .ref tc, .ref ta])), (t, .inl (k 0, 4, .inl (cI q))), (tn, .inl (k 4, 4, .inr (.inr (.inr (.inr (gr4 rw)))))), ((rw 2), .inl (k 0, 80, .inl (nGr f n a (q 2) G 3))), (tx, .inr (7, [.ref qb, .int (nI n), .int w2, .int (nI (nS f n (npos f n a 3))), .int (nfl f n a 2 2 w4 4), .int (nfa f n a 2 2 w4 w5 4), .int w6, .int (nI (npos f n a 4))])), (qb, .inl (k 0, 500, .inl f))] H := by rw [e4, e5]; exact hP
    have hD : va_D A [(h, .inr (8, [.ref t, .ref tn, .ref tl, .ref tc, .ref ta])), (t, .inl (k 0, 4, .inl (cI q))), (tn, .inl (k 4, 4, .inr (.inr (.inr (.inr (gr4 rw)))))), ((rw 2), .inl (k 0, 80, .inl (nGr f n a (q 2) G 3))), (tx, .inr (7, [.ref qb, .int (nI n), .int w2, .int (nI (nS f n (npos f n a 3))), .int (nfl f n a 2 2 w4 4), .int (nfa f n a 2 2 w4 w5 4), .int w6, .int (nI (npos f n a 4))])), (qb, .inl (k 0, 500, .inl f))] := by rw [e4, e5]; exact hD
    refine lv_istore (lv' := [(6, .int (nvl f n a 3)), (5, .int 11), (4, .int 3), (3, .int (nvl f n a 2)), (0, .ref h), (1, .ref tx), (2, .int 2)]) hx hb dX8_readNumbers_39 hl (by decide) rfl (fun ls hl => ?_)
    refine lv_iload hx hb dX8_readNumbers_41 (lv_at hl 2 rfl) ?_
    refine va_getsN (C := RX9) (ref := RX9) (host := RX9) hx hb (hZ.2.2.2.2.2.2.2.2.2.2.2.2.2.2.2.2.2.1) hS hown (va_Nw.use rfl hZ.2.2.2.2.1) (fun _ h9 => h9) dX8_readNumbers_43 ?_
    refine lv_iload_n hx hb dX8_readNumbers_46 rfl (lv_at hl 6 rfl) ?_
    refine va_ti (v := .int 2) hx hb (hZ.2.2.2.2.2.2.2.2.2.2.2.2.2.2.2.2.2.2.1) hS (vp_in_nI (n := 2) (by omega) (by omega)) (rfl) dX8_readNumbers_47 ?_
    refine lv_icmp_ne (x := 3) (y := 2) (tgt := 66) hx hb dX8_readNumbers_48 (by decide) (fun c39 => ?_) (fun c39 => absurd c39 (by decide))
    refine lv_aload_n hx hb dX8_readNumbers_66 rfl (lv_at hl 4 rfl) ?_
    refine va_get (D := D) (ci := 8) (v := .ref tn) (C := RX8) (T := TX8) (N := 5) hx hb hts hi8 hown hG.1 hP 0 rfl rfl 1 (by decide) (hts (.fieldLink RX8 17 "SleptMatters$Town" "numbers" "[[I") (List.mem_cons_of_mem _ (List.mem_append_left _ (List.mem_append_left _ (List.mem_append_left _ (List.mem_of_getElem? (i := 1) rfl)))))) (fun _ h9 => h9) rfl dX8_readNumbers_67 ?_
    refine lv_iload_n hx hb dX8_readNumbers_70 rfl (lv_at hl 6 rfl) ?_
    refine va_aldA (t := .int) hx hb hG.1 hP 2 4 rfl rfl (vp_in_nI (n := 2) (by omega) (by omega)) dX8_readNumbers_71 ?_
    refine W.eq (g2 := F0 m 72 ls [.ref (rw 2)]) rfl ?_
    refine lv_aload_n hx hb dX8_readNumbers_72 rfl (lv_at hl 4 rfl) ?_
    refine va_get (D := D) (ci := 8) (v := .ref t) (C := RX8) (T := TX8) (N := 5) hx hb hts hi8 hown hG.1 hP 0 rfl rfl 0 (by decide) (hts (.fieldLink RX8 9 "SleptMatters$Town" "counts" "[I") (List.mem_cons_of_mem _ (List.mem_append_left _ (List.mem_append_left _ (List.mem_append_left _ (List.mem_of_getElem? (i := 2) rfl)))))) (fun _ h9 => h9) rfl dX8_readNumbers_73 ?_
    refine lv_iload_n hx hb dX8_readNumbers_76 rfl (lv_at hl 6 rfl) ?_
    refine va_iald hx hb hG.1 hP 1 0 rfl rfl (vp_in_nI (n := 2) (by omega) (by omega)) dX8_readNumbers_77 ?_
    refine tp_i (y := nI (q 2)) (rfl) ?_
    refine lv_iconst (v := 4) hx hb dX8_readNumbers_78 (by decide) ?_
    refine lv_imul hx hb dX8_readNumbers_79 ?_
    refine tp_i (y := nI ((q 2) * 4)) (pk_mul (q 2) 4) ?_
    refine lv_iload hx hb dX8_readNumbers_80 (lv_at hl 2 rfl) ?_
    refine lv_iadd hx hb dX8_readNumbers_82 ?_
    refine tp_i (y := nI ((q 2) * 4 + 3)) (nI_add ((q 2) * 4) 3) ?_
    refine lv_iload hx hb dX8_readNumbers_83 (lv_at hl 0 rfl) ?_
    refine va_iast hx hb hG.1 hP hD hS 3 0 rfl rfl (vp_in_nI (by omega) (by omega)) dX8_readNumbers_85 (fun H locs hP hD hS => ?_)
    rw [nI_clamp (n := (q 2) * 4 + 3) (by omega)] at hP hD
    have hP : va_P D vwCl [(h, .inr (8, [.ref t, .ref tn, .ref tl, .ref tc, .ref ta])), (t, .inl (k 0, 4, .inl (cI q))), (tn, .inl (k 4, 4, .inr (.inr (.inr (.inr (gr4 rw)))))), ((rw 2), .inl (k 0, 80, .inl (upd (nGr f n a (q 2) G 3) ((q 2) * 4 + 3) (nvl f n a 3)))), (tx, .inr (7, [.ref qb, .int (nI n), .int w2, .int (nI (nS f n (npos f n a 3))), .int (nfl f n a 2 2 w4 4), .int (nfa f n a 2 2 w4 w5 4), .int w6, .int (nI (npos f n a 4))])), (qb, .inl (k 0, 500, .inl f))] H := hP
    have hD : va_D A [(h, .inr (8, [.ref t, .ref tn, .ref tl, .ref tc, .ref ta])), (t, .inl (k 0, 4, .inl (cI q))), (tn, .inl (k 4, 4, .inr (.inr (.inr (.inr (gr4 rw)))))), ((rw 2), .inl (k 0, 80, .inl (upd (nGr f n a (q 2) G 3) ((q 2) * 4 + 3) (nvl f n a 3)))), (tx, .inr (7, [.ref qb, .int (nI n), .int w2, .int (nI (nS f n (npos f n a 3))), .int (nfl f n a 2 2 w4 4), .int (nfa f n a 2 2 w4 w5 4), .int w6, .int (nI (npos f n a 4))])), (qb, .inl (k 0, 500, .inl f))] := hD
    have hP : va_P D vwCl [(h, .inr (8, [.ref t, .ref tn, .ref tl, .ref tc, .ref ta])), (t, .inl (k 0, 4, .inl (cI q))), (tn, .inl (k 4, 4, .inr (.inr (.inr (.inr (gr4 rw)))))), ((rw 2), .inl (k 0, 80, .inl (nGr f n a (q 2) G 4))), (tx, .inr (7, [.ref qb, .int (nI n), .int w2, .int (nI (nS f n (npos f n a 3))), .int (nfl f n a 2 2 w4 4), .int (nfa f n a 2 2 w4 w5 4), .int w6, .int (nI (npos f n a 4))])), (qb, .inl (k 0, 500, .inl f))] H := hP
    have hD : va_D A [(h, .inr (8, [.ref t, .ref tn, .ref tl, .ref tc, .ref ta])), (t, .inl (k 0, 4, .inl (cI q))), (tn, .inl (k 4, 4, .inr (.inr (.inr (.inr (gr4 rw)))))), ((rw 2), .inl (k 0, 80, .inl (nGr f n a (q 2) G 4))), (tx, .inr (7, [.ref qb, .int (nI n), .int w2, .int (nI (nS f n (npos f n a 3))), .int (nfl f n a 2 2 w4 4), .int (nfa f n a 2 2 w4 w5 4), .int w6, .int (nI (npos f n a 4))])), (qb, .inl (k 0, 500, .inl f))] := hD
    refine lv_iload hx hb dX8_readNumbers_86 (lv_at hl 0 rfl) ?_
    refine lv_istore_n (lv' := [(3, .int (nvl f n a 3)), (6, .int (nvl f n a 3)), (5, .int 11), (4, .int 3), (0, .ref h), (1, .ref tx), (2, .int 2)]) hx hb dX8_readNumbers_88 rfl hl (by decide) rfl (fun ls hl => ?_)
    refine lv_iinc (v := 4) (lv' := [(4, .int 4), (3, .int (nvl f n a 3)), (6, .int (nvl f n a 3)), (5, .int 11), (0, .ref h), (1, .ref tx), (2, .int 2)]) hx hb dX8_readNumbers_89 hl (k := 3) rfl (by decide) (by decide) rfl (fun ls hl => ?_)
    refine lv_goto (tgt := 5) hx hb dX8_readNumbers_92 (by decide) ?_
    refine lv_iload hx hb dX8_readNumbers_5 (lv_at hl 0 rfl) ?_
    refine va_getsN (C := RX9) (ref := RX9) (host := RX9) hx hb (hZ.2.2.2.2.2.2.2.2.2.2.2.1) hS hown (va_Nw.use rfl hZ.2.1) (fun _ h9 => h9) dX8_readNumbers_7 ?_
    refine lv_iload_n hx hb dX8_readNumbers_10 rfl (lv_at hl 6 rfl) ?_
    refine va_ti (v := .int 4) hx hb (hZ.2.2.2.2.2.2.2.2.2.2.2.2.1) hS (vp_in_nI (n := 2) (by omega) (by omega)) (rfl) dX8_readNumbers_11 ?_
    refine lv_icmp_ge (x := 4) (y := 4) (tgt := 95) hx hb dX8_readNumbers_12 (by decide) (fun c40 => ?_) (fun c40 => absurd c40 (by decide))
    have hP9 := hP.sub (ws' := [(h, .inr (8, [.ref t, .ref tn, .ref tl, .ref tc, .ref ta])), (t, .inl (k 0, 4, .inl (cI q))), (tn, .inl (k 4, 4, .inr (.inr (.inr (.inr (gr4 rw)))))), ((rw 2), .inl (k 0, 80, .inl (nGr f n a (q 2) G 4))), (tx, .inr (7, [.ref qb, .int (nI n), .int w2, .int (nI (nS f n (npos f n a 3))), .int (nfl f n a 2 2 w4 4), .int (nfa f n a 2 2 w4 w5 4), .int w6, .int (nI (npos f n a 4))])), (qb, .inl (k 0, 500, .inl f))]) [0, 1, 2, 3, 4, 5] rfl
    have hD9 := hD.sub (ws' := [(h, .inr (8, [.ref t, .ref tn, .ref tl, .ref tc, .ref ta])), (t, .inl (k 0, 4, .inl (cI q))), (tn, .inl (k 4, 4, .inr (.inr (.inr (.inr (gr4 rw)))))), ((rw 2), .inl (k 0, 80, .inl (nGr f n a (q 2) G 4))), (tx, .inr (7, [.ref qb, .int (nI n), .int w2, .int (nI (nS f n (npos f n a 3))), .int (nfl f n a 2 2 w4 4), .int (nfa f n a 2 2 w4 w5 4), .int w6, .int (nI (npos f n a 4))])), (qb, .inl (k 0, 500, .inl f))]) [0, 1, 2, 3, 4, 5] (by decide +kernel) rfl
    exact W.vret hx hb hr (fun t9 ht _ => ⟨⟨(), rfl, trivial, by rw [ht]; exact hP9, hD9⟩, hS.F ht⟩) hS.2.2 dX8_readNumbers_95
