theorem dJ7_fill_53178_0 : decode cJ7_fill_53178 0 = .ok (.iconst 0, 1) := by decide +kernel
theorem dJ7_fill_53178_1 : decode cJ7_fill_53178 1 = .ok (.istore_n 2, 1) := by decide +kernel
theorem dJ7_fill_53178_2 : decode cJ7_fill_53178 2 = .ok (.aload_n 0, 1) := by decide +kernel
theorem dJ7_fill_53178_3 : decode cJ7_fill_53178 3 = .ok (.arraylength, 1) := by decide +kernel
theorem dJ7_fill_53178_4 : decode cJ7_fill_53178 4 = .ok (.istore_n 3, 1) := by decide +kernel
theorem dJ7_fill_53178_5 : decode cJ7_fill_53178 5 = .ok (.iload_n 2, 1) := by decide +kernel
theorem dJ7_fill_53178_6 : decode cJ7_fill_53178 6 = .ok (.iload_n 3, 1) := by decide +kernel
theorem dJ7_fill_53178_7 : decode cJ7_fill_53178 7 = .ok (.if_icmp .ge 13, 3) := by decide +kernel
theorem dJ7_fill_53178_10 : decode cJ7_fill_53178 10 = .ok (.aload_n 0, 1) := by decide +kernel
theorem dJ7_fill_53178_11 : decode cJ7_fill_53178 11 = .ok (.iload_n 2, 1) := by decide +kernel
theorem dJ7_fill_53178_12 : decode cJ7_fill_53178 12 = .ok (.iload_n 1, 1) := by decide +kernel
theorem dJ7_fill_53178_13 : decode cJ7_fill_53178 13 = .ok (.iastore, 1) := by decide +kernel
theorem dJ7_fill_53178_14 : decode cJ7_fill_53178 14 = .ok (.iinc 2 1, 3) := by decide +kernel
theorem dJ7_fill_53178_17 : decode cJ7_fill_53178 17 = .ok (.goto (-12), 3) := by decide +kernel
theorem dJ7_fill_53178_20 : decode cJ7_fill_53178 20 = .ok (.return_, 1) := by decide +kernel
theorem dJ7_fill_d0a16_0 : decode cJ7_fill_d0a16 0 = .ok (.iconst 0, 1) := by decide +kernel
theorem dJ7_fill_d0a16_1 : decode cJ7_fill_d0a16 1 = .ok (.istore_n 3, 1) := by decide +kernel
theorem dJ7_fill_d0a16_2 : decode cJ7_fill_d0a16 2 = .ok (.aload_n 0, 1) := by decide +kernel
theorem dJ7_fill_d0a16_3 : decode cJ7_fill_d0a16 3 = .ok (.arraylength, 1) := by decide +kernel
theorem dJ7_fill_d0a16_4 : decode cJ7_fill_d0a16 4 = .ok (.istore 4, 2) := by decide +kernel
theorem dJ7_fill_d0a16_6 : decode cJ7_fill_d0a16 6 = .ok (.iload_n 3, 1) := by decide +kernel
theorem dJ7_fill_d0a16_7 : decode cJ7_fill_d0a16 7 = .ok (.iload 4, 2) := by decide +kernel
theorem dJ7_fill_d0a16_9 : decode cJ7_fill_d0a16 9 = .ok (.if_icmp .ge 13, 3) := by decide +kernel
theorem dJ7_fill_d0a16_12 : decode cJ7_fill_d0a16 12 = .ok (.aload_n 0, 1) := by decide +kernel
theorem dJ7_fill_d0a16_13 : decode cJ7_fill_d0a16 13 = .ok (.iload_n 3, 1) := by decide +kernel
theorem dJ7_fill_d0a16_14 : decode cJ7_fill_d0a16 14 = .ok (.lload_n 1, 1) := by decide +kernel
theorem dJ7_fill_d0a16_15 : decode cJ7_fill_d0a16 15 = .ok (.lastore, 1) := by decide +kernel
theorem dJ7_fill_d0a16_16 : decode cJ7_fill_d0a16 16 = .ok (.iinc 3 1, 3) := by decide +kernel
theorem dJ7_fill_d0a16_19 : decode cJ7_fill_d0a16 19 = .ok (.goto (-13), 3) := by decide +kernel
theorem dJ7_fill_d0a16_22 : decode cJ7_fill_d0a16 22 = .ok (.return_, 1) := by decide +kernel
theorem dX8_count_0 : decode cX8_count 0 = .ok (.aload_n 0, 1) := by decide +kernel
theorem dX8_count_1 : decode cX8_count 1 = .ok (.getfield 9, 3) := by decide +kernel
theorem dX8_count_4 : decode cX8_count 4 = .ok (.iload_n 1, 1) := by decide +kernel
theorem dX8_count_5 : decode cX8_count 5 = .ok (.iaload, 1) := by decide +kernel
theorem dX8_count_6 : decode cX8_count 6 = .ok (.ireturn, 1) := by decide +kernel
theorem dX8_has_0 : decode cX8_has 0 = .ok (.iload_n 2, 1) := by decide +kernel
theorem dX8_has_1 : decode cX8_has 1 = .ok (.ifCond .lt 17, 3) := by decide +kernel
theorem dX8_has_4 : decode cX8_has 4 = .ok (.iload_n 2, 1) := by decide +kernel
theorem dX8_has_5 : decode cX8_has 5 = .ok (.aload_n 0, 1) := by decide +kernel
theorem dX8_has_6 : decode cX8_has 6 = .ok (.getfield 9, 3) := by decide +kernel
theorem dX8_has_9 : decode cX8_has 9 = .ok (.iload_n 1, 1) := by decide +kernel
theorem dX8_has_10 : decode cX8_has 10 = .ok (.iaload, 1) := by decide +kernel
theorem dX8_has_11 : decode cX8_has 11 = .ok (.if_icmp .ge 7, 3) := by decide +kernel
theorem dX8_has_14 : decode cX8_has 14 = .ok (.iconst 1, 1) := by decide +kernel
theorem dX8_has_15 : decode cX8_has 15 = .ok (.goto 4, 3) := by decide +kernel
theorem dX8_has_18 : decode cX8_has 18 = .ok (.iconst 0, 1) := by decide +kernel
theorem dX8_has_19 : decode cX8_has 19 = .ok (.ireturn, 1) := by decide +kernel
set_option maxRecDepth 20000 in
theorem ggX8_part_X8_has : GoodIn wsX8_part wsX8_has := goodIn_r _ [6, 7, 8, 9, 10, 11, 12] rfl (by decide +kernel)
set_option maxRecDepth 20000 in
theorem gX8_part_X8_has : GoodIn wsX8_part (wsV RX8 29 RX8 yX8_has wsX8_has) := goodIn_app (goodIn_of _ (by decide +kernel)) ggX8_part_X8_has
theorem dX8_part_0 : decode cX8_part 0 = .ok (.aload_n 0, 1) := by decide +kernel
theorem dX8_part_1 : decode cX8_part 1 = .ok (.iload_n 1, 1) := by decide +kernel
theorem dX8_part_2 : decode cX8_part 2 = .ok (.iload_n 2, 1) := by decide +kernel
theorem dX8_part_3 : decode cX8_part 3 = .ok (.invokevirtual 29, 3) := by decide +kernel
theorem dX8_part_6 : decode cX8_part 6 = .ok (.ifCond .eq 18, 3) := by decide +kernel
theorem dX8_part_9 : decode cX8_part 9 = .ok (.aload_n 0, 1) := by decide +kernel
theorem dX8_part_10 : decode cX8_part 10 = .ok (.getfield 17, 3) := by decide +kernel
theorem dX8_part_13 : decode cX8_part 13 = .ok (.iload_n 1, 1) := by decide +kernel
theorem dX8_part_14 : decode cX8_part 14 = .ok (.aaload, 1) := by decide +kernel
theorem dX8_part_15 : decode cX8_part 15 = .ok (.iload_n 2, 1) := by decide +kernel
theorem dX8_part_16 : decode cX8_part 16 = .ok (.iconst 4, 1) := by decide +kernel
theorem dX8_part_17 : decode cX8_part 17 = .ok (.imul, 1) := by decide +kernel
theorem dX8_part_18 : decode cX8_part 18 = .ok (.iload_n 3, 1) := by decide +kernel
theorem dX8_part_19 : decode cX8_part 19 = .ok (.iadd, 1) := by decide +kernel
theorem dX8_part_20 : decode cX8_part 20 = .ok (.iaload, 1) := by decide +kernel
theorem dX8_part_21 : decode cX8_part 21 = .ok (.goto 4, 3) := by decide +kernel
theorem dX8_part_24 : decode cX8_part 24 = .ok (.iconst 0, 1) := by decide +kernel
theorem dX8_part_25 : decode cX8_part 25 = .ok (.ireturn, 1) := by decide +kernel
abbrev c_fillI (k : Nat → ClassId) (a : Nat) (N : Nat) (f : Nat → Int32) (v : Int32) : va_W := [(a, .inl (k 0, N, .inl f))]
abbrev r_fillI : Room := { frames := 0, cells := 0, slots := 0, locals := 0 }
def w_fillI (k : Nat → ClassId) (a : Nat) (N : Nat) (f : Nat → Int32) (v : Int32) : Unit → va_W := fun _ => [(a, .inl (k 0, N, .inl (fl_i f v N)))]
def p_fillI (k : Nat → ClassId) (a : Nat) (N : Nat) (f : Nat → Int32) (v : Int32) : Unit → Prop := fun (u : Unit) => True
abbrev q_fillI (D : va_G) (k : Nat → ClassId) (a : Nat) (N : Nat) (f : Nat → Int32) (v : Int32) (A : Nat → Prop) : Array Value → State → Outcome → State → Prop := va_Qv (p_fillI k a N f v) (fun u9 t9 => BO D (w_fillI k a N f v u9) A t9) A
set_option maxHeartbeats 2000000 in
set_option maxRecDepth 100000 in
theorem fillI (l : Launch) (D : va_G) (k : Nat → ClassId) (sz : Nat) (a : Nat) (N : Nat) (f : Nat → Int32) (v : Int32) (hN : N < 2 ^ 31) : Met l yJ7_fill_53178 wsJ7_fill_53178 r_fillI (va_Pc [.ref a, .int v] (PR D k (c_fillI k a N f v) sz)) (q_fillI D k a N f v (va_A (c_fillI k a N f v) sz)) 0 0 (va_A (c_fillI k a N f v) sz) := by
  refine Met.ofW (cc := cJ7_fill_53178) (maxL := 4) (ret := none) (by decide) rfl ?_
  intro p e s m args below meth c s₁ B hml hv
  obtain ⟨rfl, hsz, hP, hG, hD0⟩ := hv
  have hx := B.exec
  have hb := B.bytes
  have hr := B.returns
  have hts := atoms_spec (ws := wsJ7_fill_53178) B.pre
  have hown : s.vm.findClass RJ7 = some m.cls := findClass_of_methodNamed B.named
  have hlocks := B.notSynchronized
  subst hsz
  have hD := hD0.self (sz := s.heap.size)
  generalize hAe : va_A (c_fillI k a N f v) s.heap.size = A at hD ⊢
  have hA : ∀ q : Nat, s.heap.size ≤ q → A q := fun q h => by rw [← hAe]; exact Or.inr h
  have hS : va_S A s.heap s.heap [] := va_S.rf
  have hP : va_P D vwCl [(a, .inl (k 0, N, .inl f))] s.heap := hP
  have hD : va_D A [(a, .inl (k 0, N, .inl f))] := hD
  have hl := lv_entry ([.ref a, .int v]) (n := 4) (Nat.le_of_ble_eq_true rfl)
  rw [lg_entry_eq]
  generalize (lg_sl ([.ref a, .int v]) ++ List.replicate (4 - (lg_sl ([.ref a, .int v])).length) Slot.unset).toArray = ls at hl ⊢
  have hl : lv_has ls 4 [(0, .ref a), (1, .int v)] := hl
  refine lv_iconst (v := 0) hx hb dJ7_fill_53178_0 (by decide) ?_
  refine lv_istore_n (lv' := [(2, .int 0), (0, .ref a), (1, .int v)]) hx hb dJ7_fill_53178_1 rfl hl (by decide) rfl (fun ls hl => ?_)
  refine lv_aload_n hx hb dJ7_fill_53178_2 rfl (lv_at hl 1 rfl) ?_
  refine va_alen (v := nI N) hx hb hG.1 hP 0 0 rfl rfl rfl dJ7_fill_53178_3 ?_
  refine lv_istore_n (lv' := [(3, .int (nI N)), (2, .int 0), (0, .ref a), (1, .int v)]) hx hb dJ7_fill_53178_4 rfl hl (by decide) rfl (fun ls hl => ?_)
  have L1 : ∀ (n : Nat) (i : Nat), (i ≤ N) → N - i < n → ∀ (H : Heap) (locs : List Loc), va_P D vwCl [(a, .inl (k 0, N, .inl (fl_i f v i)))] H → va_D A [(a, .inl (k 0, N, .inl (fl_i f v i)))] → va_S A s.heap H locs → ∀ (ls : Array Slot), lv_has ls 4 [(3, .int (nI N)), (2, .int (nI i)), (0, .ref a), (1, .int v)] → W p l e r_fillI s m ([.ref a, .int v] : List Value).toArray below meth c H locs 0 0 (MQ below (q_fillI D k a N f v A) ([.ref a, .int v] : List Value).toArray s 0 0 A) (F0 m 5 ls []) := by
    intro n
    induction n with
    | zero => intro i hi hmu; exact absurd hmu (Nat.not_lt_zero _)
    | succ n ih =>
      intro i hi hmu H locs hP hD hS ls hl
      refine lv_iload_n hx hb dJ7_fill_53178_5 rfl (lv_at hl 1 rfl) ?_
      refine lv_iload_n hx hb dJ7_fill_53178_6 rfl (lv_at hl 0 rfl) ?_
      refine bn_ge (i := i) (j := N) (tgt := 20) hx hb dJ7_fill_53178_7 (by decide) (by omega) (by omega) (fun c2 => ?_) (fun c2 => ?_)
      · skip
        have hiN : i = N := by omega
        rw [hiN] at hP hD
        have hP9 := hP.sub (ws' := [(a, .inl (k 0, N, .inl (fl_i f v N)))]) [0] rfl
        have hD9 := hD.sub (ws' := [(a, .inl (k 0, N, .inl (fl_i f v N)))]) [0] (by decide +kernel) rfl
        exact W.vret hx hb hr (fun t9 ht _ => ⟨⟨(), rfl, trivial, by rw [ht]; exact hP9, hD9⟩, hS.F ht⟩) hS.2.2 dJ7_fill_53178_20
      · skip
        refine lv_aload_n hx hb dJ7_fill_53178_10 rfl (lv_at hl 2 rfl) ?_
        refine lv_iload_n hx hb dJ7_fill_53178_11 rfl (lv_at hl 1 rfl) ?_
        refine lv_iload_n hx hb dJ7_fill_53178_12 rfl (lv_at hl 3 rfl) ?_
        refine va_iast hx hb hG.1 hP hD hS 0 0 rfl rfl (vp_in_nI (by omega) (by omega)) dJ7_fill_53178_13 (fun H locs hP hD hS => ?_)
        rw [nI_clamp (n := i) (by omega)] at hP hD
        have hP : va_P D vwCl [(a, .inl (k 0, N, .inl (upd (fl_i f v i) i v)))] H := hP
        have hD : va_D A [(a, .inl (k 0, N, .inl (upd (fl_i f v i) i v)))] := hD
        rw [fl_iu] at hP hD
        have hP : va_P D vwCl [(a, .inl (k 0, N, .inl (fl_i f v (i + 1))))] H := hP
        have hD : va_D A [(a, .inl (k 0, N, .inl (fl_i f v (i + 1))))] := hD
        refine lv_iinc (v := nI (i + 1)) (lv' := [(2, .int (nI (i + 1))), (3, .int (nI N)), (0, .ref a), (1, .int v)]) hx hb dJ7_fill_53178_14 hl (k := 1) rfl (nI_add i 1) (by decide) rfl (fun ls hl => ?_)
        refine lv_goto (tgt := 5) hx hb dJ7_fill_53178_17 (by decide) ?_
        exact ih (i + 1) (by omega) (by omega) _ _ (hP.sub [0] rfl) (hD.sub [0] (by decide +kernel) rfl) hS ls (lv_sub hl [1, 0, 2, 3] rfl)
  rw [← fl_i0 f v] at hP hD
  exact L1 _ 0 (Nat.zero_le _) (Nat.lt_succ_self _) _ _ hP hD hS ls (lv_sub hl [0, 1, 2, 3] rfl)

abbrev c_fillL (k : Nat → ClassId) (a : Nat) (N : Nat) (f : Nat → Int64) (v : Int64) : va_W := [(a, .inl (k 1, N, .inr (.inl f)))]
abbrev r_fillL : Room := { frames := 0, cells := 0, slots := 0, locals := 0 }
def w_fillL (k : Nat → ClassId) (a : Nat) (N : Nat) (f : Nat → Int64) (v : Int64) : Unit → va_W := fun _ => [(a, .inl (k 1, N, .inr (.inl (fl_l f v N))))]
def p_fillL (k : Nat → ClassId) (a : Nat) (N : Nat) (f : Nat → Int64) (v : Int64) : Unit → Prop := fun (u : Unit) => True
abbrev q_fillL (D : va_G) (k : Nat → ClassId) (a : Nat) (N : Nat) (f : Nat → Int64) (v : Int64) (A : Nat → Prop) : Array Value → State → Outcome → State → Prop := va_Qv (p_fillL k a N f v) (fun u9 t9 => BO D (w_fillL k a N f v u9) A t9) A
set_option maxHeartbeats 2000000 in
set_option maxRecDepth 100000 in
theorem fillL (l : Launch) (D : va_G) (k : Nat → ClassId) (sz : Nat) (a : Nat) (N : Nat) (f : Nat → Int64) (v : Int64) (hN : N < 2 ^ 31) : Met l yJ7_fill_d0a16 wsJ7_fill_d0a16 r_fillL (va_Pc [.ref a, .long v] (PR D k (c_fillL k a N f v) sz)) (q_fillL D k a N f v (va_A (c_fillL k a N f v) sz)) 0 0 (va_A (c_fillL k a N f v) sz) := by
  refine Met.ofW (cc := cJ7_fill_d0a16) (maxL := 5) (ret := none) (by decide) rfl ?_
  intro p e s m args below meth c s₁ B hml hv
  obtain ⟨rfl, hsz, hP, hG, hD0⟩ := hv
  have hx := B.exec
  have hb := B.bytes
  have hr := B.returns
  have hts := atoms_spec (ws := wsJ7_fill_d0a16) B.pre
  have hown : s.vm.findClass RJ7 = some m.cls := findClass_of_methodNamed B.named
  have hlocks := B.notSynchronized
  subst hsz
  have hD := hD0.self (sz := s.heap.size)
  generalize hAe : va_A (c_fillL k a N f v) s.heap.size = A at hD ⊢
  have hA : ∀ q : Nat, s.heap.size ≤ q → A q := fun q h => by rw [← hAe]; exact Or.inr h
  have hS : va_S A s.heap s.heap [] := va_S.rf
  have hP : va_P D vwCl [(a, .inl (k 1, N, .inr (.inl f)))] s.heap := hP
  have hD : va_D A [(a, .inl (k 1, N, .inr (.inl f)))] := hD
  have hl := lv_entry ([.ref a, .long v]) (n := 5) (Nat.le_of_ble_eq_true rfl)
  rw [lg_entry_eq]
  generalize (lg_sl ([.ref a, .long v]) ++ List.replicate (5 - (lg_sl ([.ref a, .long v])).length) Slot.unset).toArray = ls at hl ⊢
  have hl : lv_has ls 5 [(0, .ref a), (1, .long v)] := hl
  refine lv_iconst (v := 0) hx hb dJ7_fill_d0a16_0 (by decide) ?_
  refine lv_istore_n (lv' := [(3, .int 0), (0, .ref a), (1, .long v)]) hx hb dJ7_fill_d0a16_1 rfl hl (by decide) rfl (fun ls hl => ?_)
  refine lv_aload_n hx hb dJ7_fill_d0a16_2 rfl (lv_at hl 1 rfl) ?_
  refine va_alen (v := nI N) hx hb hG.1 hP 0 1 rfl rfl rfl dJ7_fill_d0a16_3 ?_
  refine lv_istore (lv' := [(4, .int (nI N)), (3, .int 0), (0, .ref a), (1, .long v)]) hx hb dJ7_fill_d0a16_4 hl (by decide) rfl (fun ls hl => ?_)
  have L1 : ∀ (n : Nat) (i : Nat), (i ≤ N) → N - i < n → ∀ (H : Heap) (locs : List Loc), va_P D vwCl [(a, .inl (k 1, N, .inr (.inl (fl_l f v i))))] H → va_D A [(a, .inl (k 1, N, .inr (.inl (fl_l f v i))))] → va_S A s.heap H locs → ∀ (ls : Array Slot), lv_has ls 5 [(4, .int (nI N)), (3, .int (nI i)), (0, .ref a), (1, .long v)] → W p l e r_fillL s m ([.ref a, .long v] : List Value).toArray below meth c H locs 0 0 (MQ below (q_fillL D k a N f v A) ([.ref a, .long v] : List Value).toArray s 0 0 A) (F0 m 6 ls []) := by
    intro n
    induction n with
    | zero => intro i hi hmu; exact absurd hmu (Nat.not_lt_zero _)
    | succ n ih =>
      intro i hi hmu H locs hP hD hS ls hl
      refine lv_iload_n hx hb dJ7_fill_d0a16_6 rfl (lv_at hl 1 rfl) ?_
      refine lv_iload hx hb dJ7_fill_d0a16_7 (lv_at hl 0 rfl) ?_
      refine bn_ge (i := i) (j := N) (tgt := 22) hx hb dJ7_fill_d0a16_9 (by decide) (by omega) (by omega) (fun c2 => ?_) (fun c2 => ?_)
      · skip
        have hiN : i = N := by omega
        rw [hiN] at hP hD
        have hP9 := hP.sub (ws' := [(a, .inl (k 1, N, .inr (.inl (fl_l f v N))))]) [0] rfl
        have hD9 := hD.sub (ws' := [(a, .inl (k 1, N, .inr (.inl (fl_l f v N))))]) [0] (by decide +kernel) rfl
        exact W.vret hx hb hr (fun t9 ht _ => ⟨⟨(), rfl, trivial, by rw [ht]; exact hP9, hD9⟩, hS.F ht⟩) hS.2.2 dJ7_fill_d0a16_22
      · skip
        refine lv_aload_n hx hb dJ7_fill_d0a16_12 rfl (lv_at hl 2 rfl) ?_
        refine lv_iload_n hx hb dJ7_fill_d0a16_13 rfl (lv_at hl 1 rfl) ?_
        refine lv_lload_n hx hb dJ7_fill_d0a16_14 rfl (lv_at hl 3 rfl) ?_
        refine va_last hx hb hG.1 hP hD hS 0 1 rfl rfl (vp_in_nI (by omega) (by omega)) dJ7_fill_d0a16_15 (fun H locs hP hD hS => ?_)
        rw [nI_clamp (n := i) (by omega)] at hP hD
        have hP : va_P D vwCl [(a, .inl (k 1, N, .inr (.inl (vp_updL (fl_l f v i) i v))))] H := hP
        have hD : va_D A [(a, .inl (k 1, N, .inr (.inl (vp_updL (fl_l f v i) i v))))] := hD
        rw [fl_lu] at hP hD
        have hP : va_P D vwCl [(a, .inl (k 1, N, .inr (.inl (fl_l f v (i + 1)))))] H := hP
        have hD : va_D A [(a, .inl (k 1, N, .inr (.inl (fl_l f v (i + 1)))))] := hD
        refine lv_iinc (v := nI (i + 1)) (lv' := [(3, .int (nI (i + 1))), (4, .int (nI N)), (0, .ref a), (1, .long v)]) hx hb dJ7_fill_d0a16_16 hl (k := 1) rfl (nI_add i 1) (by decide) rfl (fun ls hl => ?_)
        refine lv_goto (tgt := 6) hx hb dJ7_fill_d0a16_19 (by decide) ?_
        exact ih (i + 1) (by omega) (by omega) _ _ (hP.sub [0] rfl) (hD.sub [0] (by decide +kernel) rfl) hS ls (lv_sub hl [1, 0, 2, 3] rfl)
  rw [← fl_l0 f v] at hP hD
  exact L1 _ 0 (Nat.zero_le _) (Nat.lt_succ_self _) _ _ hP hD hS ls (lv_sub hl [0, 1, 2, 3] rfl)

abbrev c_X8_count (k : Nat → ClassId) (h : Nat) (t : Nat) (tn : Nat) (tl : Nat) (tc : Nat) (ta : Nat) (f : Nat → Int32) (j : Nat) : va_W := [(h, .inr (8, [.ref t, .ref tn, .ref tl, .ref tc, .ref ta])), (t, .inl (k 0, 4, .inl f))]
abbrev r_X8_count : Room := { frames := 0, cells := 0, slots := 0, locals := 0 }
abbrev q_X8_count (k : Nat → ClassId) (h : Nat) (t : Nat) (tn : Nat) (tl : Nat) (tc : Nat) (ta : Nat) (f : Nat → Int32) (j : Nat) : Array Value → State → Outcome → State → Prop := vp_Si (fun r => r = f j)
set_option maxHeartbeats 2000000 in
set_option maxRecDepth 100000 in
theorem X8_count (l : Launch) (D : va_G) (k : Nat → ClassId) (h : Nat) (t : Nat) (tn : Nat) (tl : Nat) (tc : Nat) (ta : Nat) (f : Nat → Int32) (j : Nat) (hj : j < 4) : Met l yX8_count wsX8_count r_X8_count (va_Pc [.ref h, .int (nI j)] (PS D k (c_X8_count k h t tn tl tc ta f j))) (q_X8_count k h t tn tl tc ta f j) 0 0 (fun _ => False) := by
  refine Met.ofW (cc := cX8_count) (maxL := 2) (ret := (some .int)) (by decide) rfl ?_
  intro p e s m args below meth c s₁ B hml hv
  obtain ⟨rfl, hP, hG⟩ := hv
  have hx := B.exec
  have hb := B.bytes
  have hr := B.returns
  have hts := atoms_spec (ws := wsX8_count) B.pre
  have hown : s.vm.findClass RX8 = some m.cls := findClass_of_methodNamed B.named
  have hlocks := B.notSynchronized
  have hi8 : ∀ w ∈ wsX80, w ∈ wsX8_count := fun _ h => List.mem_cons_of_mem _ (List.mem_append_right _ h)
  have hP : va_P D vwCl [(h, .inr (8, [.ref t, .ref tn, .ref tl, .ref tc, .ref ta])), (t, .inl (k 0, 4, .inl f))] s.heap := hP
  have hl := lv_entry ([.ref h, .int (nI j)]) (n := 2) (Nat.le_of_ble_eq_true rfl)
  rw [lg_entry_eq]
  generalize (lg_sl ([.ref h, .int (nI j)]) ++ List.replicate (2 - (lg_sl ([.ref h, .int (nI j)])).length) Slot.unset).toArray = ls at hl ⊢
  have hl : lv_has ls 2 [(0, .ref h), (1, .int (nI j))] := hl
  refine lv_aload_n hx hb dX8_count_0 rfl (lv_at hl 0 rfl) ?_
  refine va_get (D := D) (ci := 8) (v := .ref t) (C := RX8) (T := TX8) (N := 5) hx hb hts hi8 hown hG.1 hP 0 rfl rfl 0 (by decide) (hts (.fieldLink RX8 9 "SleptMatters$Town" "counts" "[I") (List.mem_cons_of_mem _ (List.mem_append_left _ (List.mem_of_getElem? (i := 0) rfl)))) (fun _ h9 => h9) rfl dX8_count_1 ?_
  refine lv_iload_n hx hb dX8_count_4 rfl (lv_at hl 1 rfl) ?_
  refine va_iald hx hb hG.1 hP 1 0 rfl rfl (vp_in_nI (by omega) (by omega)) dX8_count_5 ?_
  refine tp_i (y := f j) (congrArg _ (nI_clamp (n := j) (by omega))) ?_
  exact W.iret (v := f j) hx hb hr (fun t9 ht _ => ⟨f j, rfl, rfl, ht⟩) (fun q h => by cases h) dX8_count_6

abbrev c_X8_has (k : Nat → ClassId) (h : Nat) (t : Nat) (tn : Nat) (tl : Nat) (tc : Nat) (ta : Nat) (f : Nat → Int32) (j : Nat) (i : Int32) : va_W := [(h, .inr (8, [.ref t, .ref tn, .ref tl, .ref tc, .ref ta])), (t, .inl (k 0, 4, .inl f))]
abbrev r_X8_has : Room := { frames := 0, cells := 0, slots := 0, locals := 0 }
abbrev q_X8_has (k : Nat → ClassId) (h : Nat) (t : Nat) (tn : Nat) (tl : Nat) (tc : Nat) (ta : Nat) (f : Nat → Int32) (j : Nat) (i : Int32) : Array Value → State → Outcome → State → Prop := vp_Si (fun r => r = 0)
set_option maxHeartbeats 2000000 in
set_option maxRecDepth 100000 in
theorem X8_has (l : Launch) (D : va_G) (k : Nat → ClassId) (h : Nat) (t : Nat) (tn : Nat) (tl : Nat) (tc : Nat) (ta : Nat) (f : Nat → Int32) (j : Nat) (i : Int32) (hj : j < 4) (h0 : f j = 0) : Met l yX8_has wsX8_has r_X8_has (va_Pc [.ref h, .int (nI j), .int i] (PS D k (c_X8_has k h t tn tl tc ta f j i))) (q_X8_has k h t tn tl tc ta f j i) 0 0 (fun _ => False) := by
  refine Met.ofW (cc := cX8_has) (maxL := 3) (ret := (some .boolean)) (by decide) rfl ?_
  intro p e s m args below meth c s₁ B hml hv
  obtain ⟨rfl, hP, hG⟩ := hv
  have hx := B.exec
  have hb := B.bytes
  have hr := B.returns
  have hts := atoms_spec (ws := wsX8_has) B.pre
  have hown : s.vm.findClass RX8 = some m.cls := findClass_of_methodNamed B.named
  have hlocks := B.notSynchronized
  have hi8 : ∀ w ∈ wsX80, w ∈ wsX8_has := fun _ h => List.mem_cons_of_mem _ (List.mem_append_right _ h)
  have hP : va_P D vwCl [(h, .inr (8, [.ref t, .ref tn, .ref tl, .ref tc, .ref ta])), (t, .inl (k 0, 4, .inl f))] s.heap := hP
  have hl := lv_entry ([.ref h, .int (nI j), .int i]) (n := 3) (Nat.le_of_ble_eq_true rfl)
  rw [lg_entry_eq]
  generalize (lg_sl ([.ref h, .int (nI j), .int i]) ++ List.replicate (3 - (lg_sl ([.ref h, .int (nI j), .int i])).length) Slot.unset).toArray = ls at hl ⊢
  have hl : lv_has ls 3 [(0, .ref h), (1, .int (nI j)), (2, .int i)] := hl
  refine lv_iload_n hx hb dX8_has_0 rfl (lv_at hl 2 rfl) ?_
  refine lv_if_lt (x := i) (tgt := 18) hx hb dX8_has_1 (by decide) (fun c1 => ?_) (fun c1 => ?_)
  · skip
    refine lv_iconst (v := 0) hx hb dX8_has_18 (by decide) ?_
    exact W.zret (v := 0) hx hb hr (rfl) (fun t9 ht _ => ⟨0, rfl, rfl, ht⟩) (fun q h => by cases h) dX8_has_19
  · skip
    refine lv_iload_n hx hb dX8_has_4 rfl (lv_at hl 2 rfl) ?_
    refine lv_aload_n hx hb dX8_has_5 rfl (lv_at hl 0 rfl) ?_
    refine va_get (D := D) (ci := 8) (v := .ref t) (C := RX8) (T := TX8) (N := 5) hx hb hts hi8 hown hG.1 hP 0 rfl rfl 0 (by decide) (hts (.fieldLink RX8 9 "SleptMatters$Town" "counts" "[I") (List.mem_cons_of_mem _ (List.mem_append_left _ (List.mem_of_getElem? (i := 0) rfl)))) (fun _ h9 => h9) rfl dX8_has_6 ?_
    refine lv_iload_n hx hb dX8_has_9 rfl (lv_at hl 1 rfl) ?_
    refine va_iald hx hb hG.1 hP 1 0 rfl rfl (vp_in_nI (by omega) (by omega)) dX8_has_10 ?_
    refine tp_i (y := 0) ((congrArg _ (nI_clamp (n := j) (by omega))).trans h0) ?_
    refine lv_icmp_ge (x := i) (y := 0) (tgt := 18) hx hb dX8_has_11 (by decide) (fun c2 => ?_) (fun c2 => absurd (i_nlt c1) c2)
    refine lv_iconst (v := 0) hx hb dX8_has_18 (by decide) ?_
    exact W.zret (v := 0) hx hb hr (rfl) (fun t9 ht _ => ⟨0, rfl, rfl, ht⟩) (fun q h => by cases h) dX8_has_19

abbrev c_X8_part (k : Nat → ClassId) (h : Nat) (t : Nat) (tn : Nat) (tl : Nat) (tc : Nat) (ta : Nat) (f : Nat → Int32) (j : Nat) (i : Int32) (w : Int32) : va_W := [(h, .inr (8, [.ref t, .ref tn, .ref tl, .ref tc, .ref ta])), (t, .inl (k 0, 4, .inl f))]
abbrev r_X8_part : Room := { frames := 1, cells := 0, slots := 0, locals := 22 }
abbrev q_X8_part (k : Nat → ClassId) (h : Nat) (t : Nat) (tn : Nat) (tl : Nat) (tc : Nat) (ta : Nat) (f : Nat → Int32) (j : Nat) (i : Int32) (w : Int32) : Array Value → State → Outcome → State → Prop := vp_Si (fun r => r = 0)
set_option maxHeartbeats 2000000 in
set_option maxRecDepth 100000 in
theorem X8_part (l : Launch) (D : va_G) (k : Nat → ClassId) (h : Nat) (t : Nat) (tn : Nat) (tl : Nat) (tc : Nat) (ta : Nat) (f : Nat → Int32) (j : Nat) (i : Int32) (w : Int32) (hj : j < 4) (h0 : f j = 0) : Met l yX8_part wsX8_part r_X8_part (va_Pc [.ref h, .int (nI j), .int i, .int w] (PS D k (c_X8_part k h t tn tl tc ta f j i w))) (q_X8_part k h t tn tl tc ta f j i w) 0 0 (fun _ => False) := by
  refine Met.ofW (cc := cX8_part) (maxL := 4) (ret := (some .int)) (by decide) rfl ?_
  intro p e s m args below meth c s₁ B hml hv
  obtain ⟨rfl, hP, hG⟩ := hv
  have hx := B.exec
  have hb := B.bytes
  have hr := B.returns
  have hts := atoms_spec (ws := wsX8_part) B.pre
  have hown : s.vm.findClass RX8 = some m.cls := findClass_of_methodNamed B.named
  have hlocks := B.notSynchronized
  have hi8 : ∀ w ∈ wsX80, w ∈ wsX8_part := fun _ h => List.mem_cons_of_mem _ (List.mem_append_right _ h)
  have hP : va_P D vwCl [(h, .inr (8, [.ref t, .ref tn, .ref tl, .ref tc, .ref ta])), (t, .inl (k 0, 4, .inl f))] s.heap := hP
  have hl := lv_entry ([.ref h, .int (nI j), .int i, .int w]) (n := 4) (Nat.le_of_ble_eq_true rfl)
  rw [lg_entry_eq]
  generalize (lg_sl ([.ref h, .int (nI j), .int i, .int w]) ++ List.replicate (4 - (lg_sl ([.ref h, .int (nI j), .int i, .int w])).length) Slot.unset).toArray = ls at hl ⊢
  have hl : lv_has ls 4 [(0, .ref h), (1, .int (nI j)), (2, .int i), (3, .int w)] := hl
  refine lv_aload_n hx hb dX8_part_0 rfl (lv_at hl 0 rfl) ?_
  refine lv_iload_n hx hb dX8_part_1 rfl (lv_at hl 1 rfl) ?_
  refine lv_iload_n hx hb dX8_part_2 rfl (lv_at hl 2 rfl) ?_
  have hPc := hP.sub (ws' := (c_X8_has k h t tn tl tc ta f j i)) [0, 1] rfl
  refine vp_callSi (va_Run.run (va_runV (As := [.int (nI j), .int i]) (rest := []) ⟨hx, hb, hml, hown, hts⟩ (X8_has l D k h t tn tl tc ta f j i (hj) (h0)) (cwV 2 hts gX8_part_X8_has rfl rfl rfl (by decide +kernel) ⟨Nat.le_of_ble_eq_true rfl, Nat.le_of_ble_eq_true rfl⟩) ⟨PS.blind _ _ _ _, va_recv hG.1 hP (ci := 8) (q0 := 0) rfl rfl, PS.pre hPc hG [.ref h, .int (nI j), .int i]⟩ rfl rfl hl.1 rfl (lv_room (Nat.le_of_ble_eq_true rfl)) dX8_part_3 ⟨Nat.le_of_ble_eq_true rfl, Nat.le_of_ble_eq_true rfl⟩)) (fun r hq => ?_)
  generalize r = y1 at hq ⊢
  have hq : y1 = 0 := hq
  refine tp_i (y := 0) (hq) ?_
  refine lv_if_eq (x := 0) (tgt := 24) hx hb dX8_part_6 (by decide) (fun c2 => ?_) (fun c2 => absurd c2 (by decide))
  refine lv_iconst (v := 0) hx hb dX8_part_24 (by decide) ?_
  exact W.iret (v := 0) hx hb hr (fun t9 ht _ => ⟨0, rfl, rfl, ht⟩) (fun q h => by cases h) dX8_part_25
