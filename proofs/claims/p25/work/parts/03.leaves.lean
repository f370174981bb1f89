theorem dJ7_fill_53178_0 : decode cJ7_fill_53178 0 = .ok (.iconst 0, 1) := dc_Bk (by decide +kernel)
theorem dJ7_fill_53178_1 : decode cJ7_fill_53178 1 = .ok (.istore_n 2, 1) := dc_Bk (by decide +kernel)
theorem dJ7_fill_53178_2 : decode cJ7_fill_53178 2 = .ok (.aload_n 0, 1) := dc_Bk (by decide +kernel)
theorem dJ7_fill_53178_3 : decode cJ7_fill_53178 3 = .ok (.arraylength, 1) := dc_Bk (by decide +kernel)
theorem dJ7_fill_53178_4 : decode cJ7_fill_53178 4 = .ok (.istore_n 3, 1) := dc_Bk (by decide +kernel)
theorem dJ7_fill_53178_5 : decode cJ7_fill_53178 5 = .ok (.iload_n 2, 1) := dc_Bk (by decide +kernel)
theorem dJ7_fill_53178_6 : decode cJ7_fill_53178 6 = .ok (.iload_n 3, 1) := dc_Bk (by decide +kernel)
theorem dJ7_fill_53178_7 : decode cJ7_fill_53178 7 = .ok (.if_icmp .ge 13, 3) := dc_Bk (by decide +kernel)
theorem dJ7_fill_53178_10 : decode cJ7_fill_53178 10 = .ok (.aload_n 0, 1) := dc_Bk (by decide +kernel)
theorem dJ7_fill_53178_11 : decode cJ7_fill_53178 11 = .ok (.iload_n 2, 1) := dc_Bk (by decide +kernel)
theorem dJ7_fill_53178_12 : decode cJ7_fill_53178 12 = .ok (.iload_n 1, 1) := dc_Bk (by decide +kernel)
theorem dJ7_fill_53178_13 : decode cJ7_fill_53178 13 = .ok (.iastore, 1) := dc_Bk (by decide +kernel)
theorem dJ7_fill_53178_14 : decode cJ7_fill_53178 14 = .ok (.iinc 2 1, 3) := dc_Bk (by decide +kernel)
theorem dJ7_fill_53178_17 : decode cJ7_fill_53178 17 = .ok (.goto (-12), 3) := dc_Bk (by decide +kernel)
theorem dJ7_fill_53178_20 : decode cJ7_fill_53178 20 = .ok (.return_, 1) := dc_Bk (by decide +kernel)
theorem dJ7_fill_d0a16_0 : decode cJ7_fill_d0a16 0 = .ok (.iconst 0, 1) := dc_Bk (by decide +kernel)
theorem dJ7_fill_d0a16_1 : decode cJ7_fill_d0a16 1 = .ok (.istore_n 3, 1) := dc_Bk (by decide +kernel)
theorem dJ7_fill_d0a16_2 : decode cJ7_fill_d0a16 2 = .ok (.aload_n 0, 1) := dc_Bk (by decide +kernel)
theorem dJ7_fill_d0a16_3 : decode cJ7_fill_d0a16 3 = .ok (.arraylength, 1) := dc_Bk (by decide +kernel)
theorem dJ7_fill_d0a16_4 : decode cJ7_fill_d0a16 4 = .ok (.istore 4, 2) := dc_Bk (by decide +kernel)
theorem dJ7_fill_d0a16_6 : decode cJ7_fill_d0a16 6 = .ok (.iload_n 3, 1) := dc_Bk (by decide +kernel)
theorem dJ7_fill_d0a16_7 : decode cJ7_fill_d0a16 7 = .ok (.iload 4, 2) := dc_Bk (by decide +kernel)
theorem dJ7_fill_d0a16_9 : decode cJ7_fill_d0a16 9 = .ok (.if_icmp .ge 13, 3) := dc_Bk (by decide +kernel)
theorem dJ7_fill_d0a16_12 : decode cJ7_fill_d0a16 12 = .ok (.aload_n 0, 1) := dc_Bk (by decide +kernel)
theorem dJ7_fill_d0a16_13 : decode cJ7_fill_d0a16 13 = .ok (.iload_n 3, 1) := dc_Bk (by decide +kernel)
theorem dJ7_fill_d0a16_14 : decode cJ7_fill_d0a16 14 = .ok (.lload_n 1, 1) := dc_Bk (by decide +kernel)
theorem dJ7_fill_d0a16_15 : decode cJ7_fill_d0a16 15 = .ok (.lastore, 1) := dc_Bk (by decide +kernel)
theorem dJ7_fill_d0a16_16 : decode cJ7_fill_d0a16 16 = .ok (.iinc 3 1, 3) := dc_Bk (by decide +kernel)
theorem dJ7_fill_d0a16_19 : decode cJ7_fill_d0a16 19 = .ok (.goto (-13), 3) := dc_Bk (by decide +kernel)
theorem dJ7_fill_d0a16_22 : decode cJ7_fill_d0a16 22 = .ok (.return_, 1) := dc_Bk (by decide +kernel)
theorem dX8_count_0 : decode cX8_count 0 = .ok (.aload_n 0, 1) := dc_Bk (by decide +kernel)
theorem dX8_count_1 : decode cX8_count 1 = .ok (.getfield 9, 3) := dc_Bk (by decide +kernel)
theorem dX8_count_4 : decode cX8_count 4 = .ok (.iload_n 1, 1) := dc_Bk (by decide +kernel)
theorem dX8_count_5 : decode cX8_count 5 = .ok (.iaload, 1) := dc_Bk (by decide +kernel)
theorem dX8_count_6 : decode cX8_count 6 = .ok (.ireturn, 1) := dc_Bk (by decide +kernel)
theorem dX8_has_0 : decode cX8_has 0 = .ok (.iload_n 2, 1) := dc_Bk (by decide +kernel)
theorem dX8_has_1 : decode cX8_has 1 = .ok (.ifCond .lt 17, 3) := dc_Bk (by decide +kernel)
theorem dX8_has_4 : decode cX8_has 4 = .ok (.iload_n 2, 1) := dc_Bk (by decide +kernel)
theorem dX8_has_5 : decode cX8_has 5 = .ok (.aload_n 0, 1) := dc_Bk (by decide +kernel)
theorem dX8_has_6 : decode cX8_has 6 = .ok (.getfield 9, 3) := dc_Bk (by decide +kernel)
theorem dX8_has_9 : decode cX8_has 9 = .ok (.iload_n 1, 1) := dc_Bk (by decide +kernel)
theorem dX8_has_10 : decode cX8_has 10 = .ok (.iaload, 1) := dc_Bk (by decide +kernel)
theorem dX8_has_11 : decode cX8_has 11 = .ok (.if_icmp .ge 7, 3) := dc_Bk (by decide +kernel)
theorem dX8_has_14 : decode cX8_has 14 = .ok (.iconst 1, 1) := dc_Bk (by decide +kernel)
theorem dX8_has_15 : decode cX8_has 15 = .ok (.goto 4, 3) := dc_Bk (by decide +kernel)
theorem dX8_has_18 : decode cX8_has 18 = .ok (.iconst 0, 1) := dc_Bk (by decide +kernel)
theorem dX8_has_19 : decode cX8_has 19 = .ok (.ireturn, 1) := dc_Bk (by decide +kernel)
set_option maxRecDepth 20000 in
theorem ggX8_part_X8_has : GoodIn wsX8_part wsX8_has := goodIn_r _ [6, 7, 8, 9, 10, 11, 12] rfl (by decide +kernel)
set_option maxRecDepth 20000 in
theorem gX8_part_X8_has : GoodIn wsX8_part (wsV RX8 29 RX8 yX8_has wsX8_has) := goodIn_app (goodIn_of _ (by decide +kernel)) ggX8_part_X8_has
theorem dX8_part_0 : decode cX8_part 0 = .ok (.aload_n 0, 1) := dc_Bk (by decide +kernel)
theorem dX8_part_1 : decode cX8_part 1 = .ok (.iload_n 1, 1) := dc_Bk (by decide +kernel)
theorem dX8_part_2 : decode cX8_part 2 = .ok (.iload_n 2, 1) := dc_Bk (by decide +kernel)
theorem dX8_part_3 : decode cX8_part 3 = .ok (.invokevirtual 29, 3) := dc_Bk (by decide +kernel)
theorem dX8_part_6 : decode cX8_part 6 = .ok (.ifCond .eq 18, 3) := dc_Bk (by decide +kernel)
theorem dX8_part_9 : decode cX8_part 9 = .ok (.aload_n 0, 1) := dc_Bk (by decide +kernel)
theorem dX8_part_10 : decode cX8_part 10 = .ok (.getfield 17, 3) := dc_Bk (by decide +kernel)
theorem dX8_part_13 : decode cX8_part 13 = .ok (.iload_n 1, 1) := dc_Bk (by decide +kernel)
theorem dX8_part_14 : decode cX8_part 14 = .ok (.aaload, 1) := dc_Bk (by decide +kernel)
theorem dX8_part_15 : decode cX8_part 15 = .ok (.iload_n 2, 1) := dc_Bk (by decide +kernel)
theorem dX8_part_16 : decode cX8_part 16 = .ok (.iconst 4, 1) := dc_Bk (by decide +kernel)
theorem dX8_part_17 : decode cX8_part 17 = .ok (.imul, 1) := dc_Bk (by decide +kernel)
theorem dX8_part_18 : decode cX8_part 18 = .ok (.iload_n 3, 1) := dc_Bk (by decide +kernel)
theorem dX8_part_19 : decode cX8_part 19 = .ok (.iadd, 1) := dc_Bk (by decide +kernel)
theorem dX8_part_20 : decode cX8_part 20 = .ok (.iaload, 1) := dc_Bk (by decide +kernel)
theorem dX8_part_21 : decode cX8_part 21 = .ok (.goto 4, 3) := dc_Bk (by decide +kernel)
theorem dX8_part_24 : decode cX8_part 24 = .ok (.iconst 0, 1) := dc_Bk (by decide +kernel)
theorem dX8_part_25 : decode cX8_part 25 = .ok (.ireturn, 1) := dc_Bk (by decide +kernel)
theorem dX9_isIn_0 : decode cX9_isIn 0 = .ok (.iload_n 0, 1) := dc_Bk (by decide +kernel)
theorem dX9_isIn_1 : decode cX9_isIn 1 = .ok (.iload_n 1, 1) := dc_Bk (by decide +kernel)
theorem dX9_isIn_2 : decode cX9_isIn 2 = .ok (.ishr, 1) := dc_Bk (by decide +kernel)
theorem dX9_isIn_3 : decode cX9_isIn 3 = .ok (.iconst 1, 1) := dc_Bk (by decide +kernel)
theorem dX9_isIn_4 : decode cX9_isIn 4 = .ok (.iand, 1) := dc_Bk (by decide +kernel)
theorem dX9_isIn_5 : decode cX9_isIn 5 = .ok (.ifCond .eq 7, 3) := dc_Bk (by decide +kernel)
theorem dX9_isIn_8 : decode cX9_isIn 8 = .ok (.iconst 1, 1) := dc_Bk (by decide +kernel)
theorem dX9_isIn_9 : decode cX9_isIn 9 = .ok (.goto 4, 3) := dc_Bk (by decide +kernel)
theorem dX9_isIn_12 : decode cX9_isIn 12 = .ok (.iconst 0, 1) := dc_Bk (by decide +kernel)
theorem dX9_isIn_13 : decode cX9_isIn 13 = .ok (.ireturn, 1) := dc_Bk (by decide +kernel)
theorem dX8_noiseOf_0 : decode cX8_noiseOf 0 = .ok (.iload_n 1, 1) := dc_Bk (by decide +kernel)
theorem dX8_noiseOf_1 : decode cX8_noiseOf 1 = .ok (.ifCond .lt 22, 3) := dc_Bk (by decide +kernel)
theorem dX8_noiseOf_4 : decode cX8_noiseOf 4 = .ok (.iload_n 1, 1) := dc_Bk (by decide +kernel)
theorem dX8_noiseOf_5 : decode cX8_noiseOf 5 = .ok (.iconst 4, 1) := dc_Bk (by decide +kernel)
theorem dX8_noiseOf_6 : decode cX8_noiseOf 6 = .ok (.if_icmp .ge 17, 3) := dc_Bk (by decide +kernel)
theorem dX8_noiseOf_9 : decode cX8_noiseOf 9 = .ok (.iload_n 2, 1) := dc_Bk (by decide +kernel)
theorem dX8_noiseOf_10 : decode cX8_noiseOf 10 = .ok (.ifCond .lt 13, 3) := dc_Bk (by decide +kernel)
theorem dX8_noiseOf_13 : decode cX8_noiseOf 13 = .ok (.iload_n 2, 1) := dc_Bk (by decide +kernel)
theorem dX8_noiseOf_14 : decode cX8_noiseOf 14 = .ok (.bipush 100, 2) := dc_Bk (by decide +kernel)
theorem dX8_noiseOf_16 : decode cX8_noiseOf 16 = .ok (.if_icmp .ge 7, 3) := dc_Bk (by decide +kernel)
theorem dX8_noiseOf_19 : decode cX8_noiseOf 19 = .ok (.iconst 1, 1) := dc_Bk (by decide +kernel)
theorem dX8_noiseOf_20 : decode cX8_noiseOf 20 = .ok (.goto 4, 3) := dc_Bk (by decide +kernel)
theorem dX8_noiseOf_23 : decode cX8_noiseOf 23 = .ok (.iconst 0, 1) := dc_Bk (by decide +kernel)
theorem dX8_noiseOf_24 : decode cX8_noiseOf 24 = .ok (.istore_n 3, 1) := dc_Bk (by decide +kernel)
theorem dX8_noiseOf_25 : decode cX8_noiseOf 25 = .ok (.iload_n 3, 1) := dc_Bk (by decide +kernel)
theorem dX8_noiseOf_26 : decode cX8_noiseOf 26 = .ok (.ifCond .eq 17, 3) := dc_Bk (by decide +kernel)
theorem dX8_noiseOf_29 : decode cX8_noiseOf 29 = .ok (.aload_n 0, 1) := dc_Bk (by decide +kernel)
theorem dX8_noiseOf_30 : decode cX8_noiseOf 30 = .ok (.getfield 20, 3) := dc_Bk (by decide +kernel)
theorem dX8_noiseOf_33 : decode cX8_noiseOf 33 = .ok (.iload_n 1, 1) := dc_Bk (by decide +kernel)
theorem dX8_noiseOf_34 : decode cX8_noiseOf 34 = .ok (.bipush 100, 2) := dc_Bk (by decide +kernel)
theorem dX8_noiseOf_36 : decode cX8_noiseOf 36 = .ok (.imul, 1) := dc_Bk (by decide +kernel)
theorem dX8_noiseOf_37 : decode cX8_noiseOf 37 = .ok (.iload_n 2, 1) := dc_Bk (by decide +kernel)
theorem dX8_noiseOf_38 : decode cX8_noiseOf 38 = .ok (.iadd, 1) := dc_Bk (by decide +kernel)
theorem dX8_noiseOf_39 : decode cX8_noiseOf 39 = .ok (.iaload, 1) := dc_Bk (by decide +kernel)
theorem dX8_noiseOf_40 : decode cX8_noiseOf 40 = .ok (.goto 4, 3) := dc_Bk (by decide +kernel)
theorem dX8_noiseOf_43 : decode cX8_noiseOf 43 = .ok (.iconst 0, 1) := dc_Bk (by decide +kernel)
theorem dX8_noiseOf_44 : decode cX8_noiseOf 44 = .ok (.ireturn, 1) := dc_Bk (by decide +kernel)
set_option maxRecDepth 20000 in
theorem ggX8_isWoken_X8_part : GoodIn wsX8_isWoken wsX8_part := goodIn_r _ [5, 6, 7, 8, 9, 4, 10, 11, 17, 18, 19, 20, 21] rfl (by decide +kernel)
set_option maxRecDepth 20000 in
theorem gX8_isWoken_X8_part : GoodIn wsX8_isWoken (wsV RX8 120 RX8 yX8_part wsX8_part) := goodIn_app (goodIn_of _ (by decide +kernel)) ggX8_isWoken_X8_part
set_option maxRecDepth 20000 in
theorem ggX8_isWoken_X8_noiseOf : GoodIn wsX8_isWoken wsX8_noiseOf := goodIn_r _ [15, 16, 17, 18, 19, 20, 21] rfl (by decide +kernel)
set_option maxRecDepth 20000 in
theorem gX8_isWoken_X8_noiseOf : GoodIn wsX8_isWoken (wsV RX8 132 RX8 yX8_noiseOf wsX8_noiseOf) := goodIn_app (goodIn_of _ (by decide +kernel)) ggX8_isWoken_X8_noiseOf
theorem dX8_isWoken_0 : decode cX8_isWoken 0 = .ok (.aload_n 0, 1) := dc_Bk (by decide +kernel)
theorem dX8_isWoken_1 : decode cX8_isWoken 1 = .ok (.aload_n 0, 1) := dc_Bk (by decide +kernel)
theorem dX8_isWoken_2 : decode cX8_isWoken 2 = .ok (.iconst 0, 1) := dc_Bk (by decide +kernel)
theorem dX8_isWoken_3 : decode cX8_isWoken 3 = .ok (.iload_n 2, 1) := dc_Bk (by decide +kernel)
theorem dX8_isWoken_4 : decode cX8_isWoken 4 = .ok (.iconst 0, 1) := dc_Bk (by decide +kernel)
theorem dX8_isWoken_5 : decode cX8_isWoken 5 = .ok (.invokevirtual 120, 3) := dc_Bk (by decide +kernel)
theorem dX8_isWoken_8 : decode cX8_isWoken 8 = .ok (.iload_n 3, 1) := dc_Bk (by decide +kernel)
theorem dX8_isWoken_9 : decode cX8_isWoken 9 = .ok (.invokevirtual 132, 3) := dc_Bk (by decide +kernel)
theorem dX8_isWoken_12 : decode cX8_isWoken 12 = .ok (.aload_n 0, 1) := dc_Bk (by decide +kernel)
theorem dX8_isWoken_13 : decode cX8_isWoken 13 = .ok (.iconst 1, 1) := dc_Bk (by decide +kernel)
theorem dX8_isWoken_14 : decode cX8_isWoken 14 = .ok (.iload_n 1, 1) := dc_Bk (by decide +kernel)
theorem dX8_isWoken_15 : decode cX8_isWoken 15 = .ok (.iconst 0, 1) := dc_Bk (by decide +kernel)
theorem dX8_isWoken_16 : decode cX8_isWoken 16 = .ok (.invokevirtual 120, 3) := dc_Bk (by decide +kernel)
theorem dX8_isWoken_19 : decode cX8_isWoken 19 = .ok (.if_icmp .le 7, 3) := dc_Bk (by decide +kernel)
theorem dX8_isWoken_22 : decode cX8_isWoken 22 = .ok (.iconst 1, 1) := dc_Bk (by decide +kernel)
theorem dX8_isWoken_23 : decode cX8_isWoken 23 = .ok (.goto 4, 3) := dc_Bk (by decide +kernel)
theorem dX8_isWoken_26 : decode cX8_isWoken 26 = .ok (.iconst 0, 1) := dc_Bk (by decide +kernel)
theorem dX8_isWoken_27 : decode cX8_isWoken 27 = .ok (.ireturn, 1) := dc_Bk (by decide +kernel)
abbrev c_fillI (k : Nat → ClassId) (a : Nat) (N : Nat) (f : Nat → Int32) (v : Int32) : va_W := [(a, .inl (k 0, N, .inl f))]
abbrev r_fillI : Room := { frames := 0, cells := 0, slots := 0, locals := 0 }
def w_fillI (k : Nat → ClassId) (a : Nat) (N : Nat) (f : Nat → Int32) (v : Int32) : Unit → va_W := fun _ => [(a, .inl (k 0, N, .inl (fl_i f v N)))]
def p_fillI (k : Nat → ClassId) (a : Nat) (N : Nat) (f : Nat → Int32) (v : Int32) : Unit → Prop := fun (u : Unit) => True
abbrev q_fillI (D : va_G) (k : Nat → ClassId) (a : Nat) (N : Nat) (f : Nat → Int32) (v : Int32) (A : Nat → Prop) : Array Value → State → Outcome → State → Prop := va_Qv (p_fillI k a N f v) (fun u9 t9 => BO D (w_fillI k a N f v u9) A t9) A
set_option maxHeartbeats 2000000 in
set_option maxRecDepth 100000 in
theorem fillI (l : Launch) (D : va_G) (k : Nat → ClassId) (sz : Nat) (a : Nat) (N : Nat) (f : Nat → Int32) (v : Int32) (hN : N < 2 ^ 31) : Met l yJ7_fill_53178 wsJ7_fill_53178 r_fillI (va_Pc [.ref a, .int v] (PR D k (c_fillI k a N f v) sz)) (q_fillI D k a N f v (va_A (c_fillI k a N f v) sz)) 0 0 (va_A (c_fillI k a N f v) sz) := by
  refine Met.ofW (cc := cJ7_fill_53178) (maxL := 4) (ret := none) (by decide) rfl ?_
  intro p e s m args below meth c s₁ B hml hv
  obtain ⟨rfl, hsz, hP, hG, hD0⟩ := hv
  have hx := B.exec
  have hb := B.bytes
  have hr := B.returns
  have hts := atoms_spec (ws := wsJ7_fill_53178) B.pre
  have hown : s.vm.findClass RJ7 = some m.cls := findClass_of_methodNamed B.named
  have hlocks := B.notSynchronized
  subst hsz
  have hD := hD0.self (sz := s.heap.size)
  generalize hAe : va_A (c_fillI k a N f v) s.heap.size = A at hD ⊢
  have hA : ∀ q : Nat, s.heap.size ≤ q → A q := fun q h => by rw [← hAe]; exact Or.inr h
  have hS : va_S A s.heap s.heap [] := va_S.rf
  have hP : va_P D vwCl [(a, .inl (k 0, N, .inl f))] s.heap := hP
  have hD : va_D A [(a, .inl (k 0, N, .inl f))] := hD
  have hl := lv_entry ([.ref a, .int v]) (n := 4) (Nat.le_of_ble_eq_true rfl)
  rw [lg_entry_eq]
  generalize (lg_sl ([.ref a, .int v]) ++ List.replicate (4 - (lg_sl ([.ref a, .int v])).length) Slot.unset).toArray = ls at hl ⊢
  have hl : lv_has ls 4 [(0, .ref a), (1, .int v)] := hl
  refine lv_iconst (v := 0) hx hb dJ7_fill_53178_0 (by decide) ?_
  refine lv_istore_n (lv' := [(2, .int 0), (0, .ref a), (1, .int v)]) hx hb dJ7_fill_53178_1 rfl hl (by decide) rfl (fun ls hl => ?_)
  refine lv_aload_n hx hb dJ7_fill_53178_2 rfl (lv_at hl 1 rfl) ?_
  refine va_alen (v := nI N) hx hb hG.1 hP 0 0 rfl rfl rfl dJ7_fill_53178_3 ?_
  refine lv_istore_n (lv' := [(3, .int (nI N)), (2, .int 0), (0, .ref a), (1, .int v)]) hx hb dJ7_fill_53178_4 rfl hl (by decide) rfl (fun ls hl => ?_)
  have L1 : ∀ (fu9 : Nat) (i : Nat), (i ≤ N) → N - i < fu9 → ∀ (H : Heap) (locs : List Loc), va_P D vwCl [(a, .inl (k 0, N, .inl (fl_i f v i)))] H → va_D A [(a, .inl (k 0, N, .inl (fl_i f v i)))] → va_S A s.heap H locs → ∀ (ls : Array Slot), lv_has ls 4 [(3, .int (nI N)), (2, .int (nI i)), (0, .ref a), (1, .int v)] → W p l e r_fillI s m ([.ref a, .int v] : List Value).toArray below meth c H locs 0 0 (MQ below (q_fillI D k a N f v A) ([.ref a, .int v] : List Value).toArray s 0 0 A) (F0 m 5 ls []) := by
    intro fu9
    induction fu9 with
    | zero => intro i hi hmu; exact absurd hmu (Nat.not_lt_zero _)
    | succ fu9 ih =>
      intro i hi hmu H locs hP hD hS ls hl
      refine lv_iload_n hx hb dJ7_fill_53178_5 rfl (lv_at hl 1 rfl) ?_
      refine lv_iload_n hx hb dJ7_fill_53178_6 rfl (lv_at hl 0 rfl) ?_
      refine bn_ge (i := i) (j := N) (tgt := 20) hx hb dJ7_fill_53178_7 (by decide) (by omega) (by omega) (fun c2 => ?_) (fun c2 => ?_)
      · skip
        have hiN : i = N := by omega
        rw [hiN] at hP hD
        have hP9 := hP.sub (ws' := [(a, .inl (k 0, N, .inl (fl_i f v N)))]) [0] rfl
        have hD9 := hD.sub (ws' := [(a, .inl (k 0, N, .inl (fl_i f v N)))]) [0] (by decide +kernel) rfl
        exact W.vret hx hb hr (fun t9 ht _ => ⟨⟨(), rfl, trivial, by rw [ht]; exact hP9, hD9⟩, hS.F ht⟩) hS.2.2 dJ7_fill_53178_20
      · skip
        refine lv_aload_n hx hb dJ7_fill_53178_10 rfl (lv_at hl 2 rfl) ?_
        refine lv_iload_n hx hb dJ7_fill_53178_11 rfl (lv_at hl 1 rfl) ?_
        refine lv_iload_n hx hb dJ7_fill_53178_12 rfl (lv_at hl 3 rfl) ?_
        refine va_iast hx hb hG.1 hP hD hS 0 0 rfl rfl (vp_in_nI (by omega) (by omega)) dJ7_fill_53178_13 (fun H locs hP hD hS => ?_)
        rw [nI_clamp (n := i) (by omega)] at hP hD
        have hP : va_P D vwCl [(a, .inl (k 0, N, .inl (upd (fl_i f v i) i v)))] H := hP
        have hD : va_D A [(a, .inl (k 0, N, .inl (upd (fl_i f v i) i v)))] := hD
        rw [fl_iu] at hP hD
        have hP : va_P D vwCl [(a, .inl (k 0, N, .inl (fl_i f v (i + 1))))] H := hP
        have hD : va_D A [(a, .inl (k 0, N, .inl (fl_i f v (i + 1))))] := hD
        refine lv_iinc (v := nI (i + 1)) (lv' := [(2, .int (nI (i + 1))), (3, .int (nI N)), (0, .ref a), (1, .int v)]) hx hb dJ7_fill_53178_14 hl (k := 1) rfl (nI_add i 1) (by decide) rfl (fun ls hl => ?_)
        refine lv_goto (tgt := 5) hx hb dJ7_fill_53178_17 (by decide) ?_
        exact ih (i + 1) (by omega) (by omega) _ _ (hP.sub [0] rfl) (hD.sub [0] (by decide +kernel) rfl) hS ls (lv_sub hl [1, 0, 2, 3] rfl)
  rw [← fl_i0 f v] at hP hD
  exact L1 _ 0 (Nat.zero_le _) (Nat.lt_succ_self _) _ _ hP hD hS ls (lv_sub hl [0, 1, 2, 3] rfl)

abbrev c_fillL (k : Nat → ClassId) (a : Nat) (N : Nat) (f : Nat → Int64) (v : Int64) : va_W := [(a, .inl (k 1, N, .inr (.inl f)))]
abbrev r_fillL : Room := { frames := 0, cells := 0, slots := 0, locals := 0 }
def w_fillL (k : Nat → ClassId) (a : Nat) (N : Nat) (f : Nat → Int64) (v : Int64) : Unit → va_W := fun _ => [(a, .inl (k 1, N, .inr (.inl (fl_l f v N))))]
def p_fillL (k : Nat → ClassId) (a : Nat) (N : Nat) (f : Nat → Int64) (v : Int64) : Unit → Prop := fun (u : Unit) => True
abbrev q_fillL (D : va_G) (k : Nat → ClassId) (a : Nat) (N : Nat) (f : Nat → Int64) (v : Int64) (A : Nat → Prop) : Array Value → State → Outcome → State → Prop := va_Qv (p_fillL k a N f v) (fun u9 t9 => BO D (w_fillL k a N f v u9) A t9) A
set_option maxHeartbeats 2000000 in
set_option maxRecDepth 100000 in
theorem fillL (l : Launch) (D : va_G) (k : Nat → ClassId) (sz : Nat) (a : Nat) (N : Nat) (f : Nat → Int64) (v : Int64) (hN : N < 2 ^ 31) : Met l yJ7_fill_d0a16 wsJ7_fill_d0a16 r_fillL (va_Pc [.ref a, .long v] (PR D k (c_fillL k a N f v) sz)) (q_fillL D k a N f v (va_A (c_fillL k a N f v) sz)) 0 0 (va_A (c_fillL k a N f v) sz) := by
  refine Met.ofW (cc := cJ7_fill_d0a16) (maxL := 5) (ret := none) (by decide) rfl ?_
  intro p e s m args below meth c s₁ B hml hv
  obtain ⟨rfl, hsz, hP, hG, hD0⟩ := hv
  have hx := B.exec
  have hb := B.bytes
  have hr := B.returns
  have hts := atoms_spec (ws := wsJ7_fill_d0a16) B.pre
  have hown : s.vm.findClass RJ7 = some m.cls := findClass_of_methodNamed B.named
  have hlocks := B.notSynchronized
  subst hsz
  have hD := hD0.self (sz := s.heap.size)
  generalize hAe : va_A (c_fillL k a N f v) s.heap.size = A at hD ⊢
  have hA : ∀ q : Nat, s.heap.size ≤ q → A q := fun q h => by rw [← hAe]; exact Or.inr h
  have hS : va_S A s.heap s.heap [] := va_S.rf
  have hP : va_P D vwCl [(a, .inl (k 1, N, .inr (.inl f)))] s.heap := hP
  have hD : va_D A [(a, .inl (k 1, N, .inr (.inl f)))] := hD
  have hl := lv_entry ([.ref a, .long v]) (n := 5) (Nat.le_of_ble_eq_true rfl)
  rw [lg_entry_eq]
  generalize (lg_sl ([.ref a, .long v]) ++ List.replicate (5 - (lg_sl ([.ref a, .long v])).length) Slot.unset).toArray = ls at hl ⊢
  have hl : lv_has ls 5 [(0, .ref a), (1, .long v)] := hl
  refine lv_iconst (v := 0) hx hb dJ7_fill_d0a16_0 (by decide) ?_
  refine lv_istore_n (lv' := [(3, .int 0), (0, .ref a), (1, .long v)]) hx hb dJ7_fill_d0a16_1 rfl hl (by decide) rfl (fun ls hl => ?_)
  refine lv_aload_n hx hb dJ7_fill_d0a16_2 rfl (lv_at hl 1 rfl) ?_
  refine va_alen (v := nI N) hx hb hG.1 hP 0 1 rfl rfl rfl dJ7_fill_d0a16_3 ?_
  refine lv_istore (lv' := [(4, .int (nI N)), (3, .int 0), (0, .ref a), (1, .long v)]) hx hb dJ7_fill_d0a16_4 hl (by decide) rfl (fun ls hl => ?_)
  have L1 : ∀ (fu9 : Nat) (i : Nat), (i ≤ N) → N - i < fu9 → ∀ (H : Heap) (locs : List Loc), va_P D vwCl [(a, .inl (k 1, N, .inr (.inl (fl_l f v i))))] H → va_D A [(a, .inl (k 1, N, .inr (.inl (fl_l f v i))))] → va_S A s.heap H locs → ∀ (ls : Array Slot), lv_has ls 5 [(4, .int (nI N)), (3, .int (nI i)), (0, .ref a), (1, .long v)] → W p l e r_fillL s m ([.ref a, .long v] : List Value).toArray below meth c H locs 0 0 (MQ below (q_fillL D k a N f v A) ([.ref a, .long v] : List Value).toArray s 0 0 A) (F0 m 6 ls []) := by
    intro fu9
    induction fu9 with
    | zero => intro i hi hmu; exact absurd hmu (Nat.not_lt_zero _)
    | succ fu9 ih =>
      intro i hi hmu H locs hP hD hS ls hl
      refine lv_iload_n hx hb dJ7_fill_d0a16_6 rfl (lv_at hl 1 rfl) ?_
      refine lv_iload hx hb dJ7_fill_d0a16_7 (lv_at hl 0 rfl) ?_
      refine bn_ge (i := i) (j := N) (tgt := 22) hx hb dJ7_fill_d0a16_9 (by decide) (by omega) (by omega) (fun c2 => ?_) (fun c2 => ?_)
      · skip
        have hiN : i = N := by omega
        rw [hiN] at hP hD
        have hP9 := hP.sub (ws' := [(a, .inl (k 1, N, .inr (.inl (fl_l f v N))))]) [0] rfl
        have hD9 := hD.sub (ws' := [(a, .inl (k 1, N, .inr (.inl (fl_l f v N))))]) [0] (by decide +kernel) rfl
        exact W.vret hx hb hr (fun t9 ht _ => ⟨⟨(), rfl, trivial, by rw [ht]; exact hP9, hD9⟩, hS.F ht⟩) hS.2.2 dJ7_fill_d0a16_22
      · skip
        refine lv_aload_n hx hb dJ7_fill_d0a16_12 rfl (lv_at hl 2 rfl) ?_
        refine lv_iload_n hx hb dJ7_fill_d0a16_13 rfl (lv_at hl 1 rfl) ?_
        refine lv_lload_n hx hb dJ7_fill_d0a16_14 rfl (lv_at hl 3 rfl) ?_
        refine va_last hx hb hG.1 hP hD hS 0 1 rfl rfl (vp_in_nI (by omega) (by omega)) dJ7_fill_d0a16_15 (fun H locs hP hD hS => ?_)
        rw [nI_clamp (n := i) (by omega)] at hP hD
        have hP : va_P D vwCl [(a, .inl (k 1, N, .inr (.inl (vp_updL (fl_l f v i) i v))))] H := hP
        have hD : va_D A [(a, .inl (k 1, N, .inr (.inl (vp_updL (fl_l f v i) i v))))] := hD
        rw [fl_lu] at hP hD
        have hP : va_P D vwCl [(a, .inl (k 1, N, .inr (.inl (fl_l f v (i + 1)))))] H := hP
        have hD : va_D A [(a, .inl (k 1, N, .inr (.inl (fl_l f v (i + 1)))))] := hD
        refine lv_iinc (v := nI (i + 1)) (lv' := [(3, .int (nI (i + 1))), (4, .int (nI N)), (0, .ref a), (1, .long v)]) hx hb dJ7_fill_d0a16_16 hl (k := 1) rfl (nI_add i 1) (by decide) rfl (fun ls hl => ?_)
        refine lv_goto (tgt := 6) hx hb dJ7_fill_d0a16_19 (by decide) ?_
        exact ih (i + 1) (by omega) (by omega) _ _ (hP.sub [0] rfl) (hD.sub [0] (by decide +kernel) rfl) hS ls (lv_sub hl [1, 0, 2, 3] rfl)
  rw [← fl_l0 f v] at hP hD
  exact L1 _ 0 (Nat.zero_le _) (Nat.lt_succ_self _) _ _ hP hD hS ls (lv_sub hl [0, 1, 2, 3] rfl)

def cI (q : Nat → Nat) : Nat → Int32 := fun j => nI (q j)
def hs (n : Nat) (i : Int32) : Int32 := if i < 0 then 0 else if nI n ≤ i then 0 else 1
def pt (n : Nat) (G : Nat → Int32) (i : Int32) (w : Nat) : Int32 := if i < 0 then 0 else if nI n ≤ i then 0 else G (i.toNatClampNeg * 4 + w)
theorem hs_ne {n : Nat} {i : Int32} (hn : n < 2 ^ 31) (h : ¬ hs n i = 0) : ∃ a : Nat, a < n ∧ i = nI a := by
  unfold hs at h
  by_cases h0 : i < 0
  · rw [if_pos h0] at h; exact absurd rfl h
  · by_cases h1 : nI n ≤ i
    · rw [if_neg h0, if_pos h1] at h; exact absurd rfl h
    · obtain ⟨j, hj, rfl⟩ := nI_of h0
      exact ⟨j, Nat.not_le.mp (fun q => h1 (nI_le q hj)), rfl⟩
theorem hs_01 (n : Nat) (i : Int32) : hs n i = 0 ∨ hs n i = 1 := by
  unfold hs
  split
  · exact Or.inl rfl
  · split
    · exact Or.inl rfl
    · exact Or.inr rfl
theorem hs_in {n a : Nat} (h : a < n) (hn : n < 2 ^ 31) : hs n (nI a) = 1 := by
  unfold hs
  rw [if_neg (nI_pos (by omega)), if_neg (nI_ge h hn)]
theorem pt_0 {n : Nat} {G : Nat → Int32} {i : Int32} {w : Nat} (h : hs n i = 0) : pt n G i w = 0 := by
  unfold hs at h
  unfold pt
  by_cases h0 : i < 0
  · rw [if_pos h0]
  · by_cases h1 : nI n ≤ i
    · rw [if_neg h0, if_pos h1]
    · rw [if_neg h0, if_neg h1] at h; exact absurd h (by decide)
theorem pt_in {n a : Nat} {G : Nat → Int32} {w : Nat} (h : a < n) (hn : n < 2 ^ 31) : pt n G (nI a) w = G (a * 4 + w) := by
  unfold pt
  rw [if_neg (nI_pos (by omega)), if_neg (nI_ge h hn), nI_clamp (by omega)]

abbrev c_X8_count (k : Nat → ClassId) (h : Nat) (t : Nat) (tn : Nat) (tl : Nat) (tc : Nat) (ta : Nat) (q : Nat → Nat) (j : Nat) : va_W := [(h, .inr (8, [.ref t, .ref tn, .ref tl, .ref tc, .ref ta])), (t, .inl (k 0, 4, .inl (cI q)))]
abbrev r_X8_count : Room := { frames := 0, cells := 0, slots := 0, locals := 0 }
abbrev q_X8_count (k : Nat → ClassId) (h : Nat) (t : Nat) (tn : Nat) (tl : Nat) (tc : Nat) (ta : Nat) (q : Nat → Nat) (j : Nat) : Array Value → State → Outcome → State → Prop := vp_Si (fun r => r = nI (q j))
set_option maxHeartbeats 2000000 in
set_option maxRecDepth 100000 in
theorem X8_count (l : Launch) (D : va_G) (k : Nat → ClassId) (h : Nat) (t : Nat) (tn : Nat) (tl : Nat) (tc : Nat) (ta : Nat) (q : Nat → Nat) (j : Nat) (hj : j < 4) : Met l yX8_count wsX8_count r_X8_count (va_Pc [.ref h, .int (nI j)] (PS D k (c_X8_count k h t tn tl tc ta q j))) (q_X8_count k h t tn tl tc ta q j) 0 0 (fun _ => False) := by
  refine Met.ofW (cc := cX8_count) (maxL := 2) (ret := (some .int)) (by decide) rfl ?_
  intro p e s m args below meth c s₁ B hml hv
  obtain ⟨rfl, hP, hG⟩ := hv
  have hx := B.exec
  have hb := B.bytes
  have hr := B.returns
  have hts := atoms_spec (ws := wsX8_count) B.pre
  have hown : s.vm.findClass RX8 = some m.cls := findClass_of_methodNamed B.named
  have hlocks := B.notSynchronized
  have hi8 : ∀ w ∈ wsX80, w ∈ wsX8_count := fun _ h => List.mem_cons_of_mem _ (List.mem_append_right _ h)
  have hP : va_P D vwCl [(h, .inr (8, [.ref t, .ref tn, .ref tl, .ref tc, .ref ta])), (t, .inl (k 0, 4, .inl (cI q)))] s.heap := hP
  have hl := lv_entry ([.ref h, .int (nI j)]) (n := 2) (Nat.le_of_ble_eq_true rfl)
  rw [lg_entry_eq]
  generalize (lg_sl ([.ref h, .int (nI j)]) ++ List.replicate (2 - (lg_sl ([.ref h, .int (nI j)])).length) Slot.unset).toArray = ls at hl ⊢
  have hl : lv_has ls 2 [(0, .ref h), (1, .int (nI j))] := hl
  refine lv_aload_n hx hb dX8_count_0 rfl (lv_at hl 0 rfl) ?_
  refine va_get (D := D) (ci := 8) (v := .ref t) (C := RX8) (T := TX8) (N := 5) hx hb hts hi8 hown hG.1 hP 0 rfl rfl 0 (by decide) (hts (.fieldLink RX8 9 "SleptMatters$Town" "counts" "[I") (List.mem_cons_of_mem _ (List.mem_append_left _ (List.mem_of_getElem? (i := 0) rfl)))) (fun _ h9 => h9) rfl dX8_count_1 ?_
  refine lv_iload_n hx hb dX8_count_4 rfl (lv_at hl 1 rfl) ?_
  refine va_iald hx hb hG.1 hP 1 0 rfl rfl (vp_in_nI (by omega) (by omega)) dX8_count_5 ?_
  refine tp_i (y := nI (q j)) (congrArg (cI q) (nI_clamp (n := j) (by omega))) ?_
  exact W.iret (v := nI (q j)) hx hb hr (fun t9 ht _ => ⟨nI (q j), rfl, rfl, ht⟩) (fun q h => by cases h) dX8_count_6

abbrev c_X8_has (k : Nat → ClassId) (h : Nat) (t : Nat) (tn : Nat) (tl : Nat) (tc : Nat) (ta : Nat) (q : Nat → Nat) (j : Nat) (i : Int32) : va_W := [(h, .inr (8, [.ref t, .ref tn, .ref tl, .ref tc, .ref ta])), (t, .inl (k 0, 4, .inl (cI q)))]
abbrev r_X8_has : Room := { frames := 0, cells := 0, slots := 0, locals := 0 }
abbrev q_X8_has (k : Nat → ClassId) (h : Nat) (t : Nat) (tn : Nat) (tl : Nat) (tc : Nat) (ta : Nat) (q : Nat → Nat) (j : Nat) (i : Int32) : Array Value → State → Outcome → State → Prop := vp_Si (fun r => r = hs (q j) i)
set_option maxHeartbeats 2000000 in
set_option maxRecDepth 100000 in
theorem X8_has (l : Launch) (D : va_G) (k : Nat → ClassId) (h : Nat) (t : Nat) (tn : Nat) (tl : Nat) (tc : Nat) (ta : Nat) (q : Nat → Nat) (j : Nat) (i : Int32) (hj : j < 4) : Met l yX8_has wsX8_has r_X8_has (va_Pc [.ref h, .int (nI j), .int i] (PS D k (c_X8_has k h t tn tl tc ta q j i))) (q_X8_has k h t tn tl tc ta q j i) 0 0 (fun _ => False) := by
  refine Met.ofW (cc := cX8_has) (maxL := 3) (ret := (some .boolean)) (by decide) rfl ?_
  intro p e s m args below meth c s₁ B hml hv
  obtain ⟨rfl, hP, hG⟩ := hv
  have hx := B.exec
  have hb := B.bytes
  have hr := B.returns
  have hts := atoms_spec (ws := wsX8_has) B.pre
  have hown : s.vm.findClass RX8 = some m.cls := findClass_of_methodNamed B.named
  have hlocks := B.notSynchronized
  have hi8 : ∀ w ∈ wsX80, w ∈ wsX8_has := fun _ h => List.mem_cons_of_mem _ (List.mem_append_right _ h)
  have hP : va_P D vwCl [(h, .inr (8, [.ref t, .ref tn, .ref tl, .ref tc, .ref ta])), (t, .inl (k 0, 4, .inl (cI q)))] s.heap := hP
  have hl := lv_entry ([.ref h, .int (nI j), .int i]) (n := 3) (Nat.le_of_ble_eq_true rfl)
  rw [lg_entry_eq]
  generalize (lg_sl ([.ref h, .int (nI j), .int i]) ++ List.replicate (3 - (lg_sl ([.ref h, .int (nI j), .int i])).length) Slot.unset).toArray = ls at hl ⊢
  have hl : lv_has ls 3 [(0, .ref h), (1, .int (nI j)), (2, .int i)] := hl
  refine lv_iload_n hx hb dX8_has_0 rfl (lv_at hl 2 rfl) ?_
  refine lv_if_lt (x := i) (tgt := 18) hx hb dX8_has_1 (by decide) (fun c1 => ?_) (fun c1 => ?_)
  · skip
    refine lv_iconst (v := 0) hx hb dX8_has_18 (by decide) ?_
    exact W.zret (v := 0) hx hb hr (rfl) (fun t9 ht _ => ⟨0, rfl, by simp [hs, c1], ht⟩) (fun q h => by cases h) dX8_has_19
  · skip
    refine lv_iload_n hx hb dX8_has_4 rfl (lv_at hl 2 rfl) ?_
    refine lv_aload_n hx hb dX8_has_5 rfl (lv_at hl 0 rfl) ?_
    refine va_get (D := D) (ci := 8) (v := .ref t) (C := RX8) (T := TX8) (N := 5) hx hb hts hi8 hown hG.1 hP 0 rfl rfl 0 (by decide) (hts (.fieldLink RX8 9 "SleptMatters$Town" "counts" "[I") (List.mem_cons_of_mem _ (List.mem_append_left _ (List.mem_of_getElem? (i := 0) rfl)))) (fun _ h9 => h9) rfl dX8_has_6 ?_
    refine lv_iload_n hx hb dX8_has_9 rfl (lv_at hl 1 rfl) ?_
    refine va_iald hx hb hG.1 hP 1 0 rfl rfl (vp_in_nI (by omega) (by omega)) dX8_has_10 ?_
    refine tp_i (y := nI (q j)) (congrArg (cI q) (nI_clamp (n := j) (by omega))) ?_
    refine lv_icmp_ge (x := i) (y := nI (q j)) (tgt := 18) hx hb dX8_has_11 (by decide) (fun c2 => ?_) (fun c2 => ?_)
    · skip
      refine lv_iconst (v := 0) hx hb dX8_has_18 (by decide) ?_
      exact W.zret (v := 0) hx hb hr (rfl) (fun t9 ht _ => ⟨0, rfl, by simp [hs, c1, c2], ht⟩) (fun q h => by cases h) dX8_has_19
    · skip
      refine lv_iconst (v := 1) hx hb dX8_has_14 (by decide) ?_
      refine lv_goto (tgt := 19) hx hb dX8_has_15 (by decide) ?_
      exact W.zret (v := 1) hx hb hr (rfl) (fun t9 ht _ => ⟨1, rfl, by simp [hs, c1, c2], ht⟩) (fun q h => by cases h) dX8_has_19

abbrev c_X8_part0 (k : Nat → ClassId) (h : Nat) (t : Nat) (tn : Nat) (tl : Nat) (tc : Nat) (ta : Nat) (rw : Nat → Nat) (q : Nat → Nat) (G : Nat → Int32) (i : Int32) (w : Nat) : va_W := [(h, .inr (8, [.ref t, .ref tn, .ref tl, .ref tc, .ref ta])), (t, .inl (k 0, 4, .inl (cI q))), (tn, .inl (k 4, 4, .inr (.inr (.inr (.inr (gr4 rw)))))), ((rw 0), .inl (k 0, 80, .inl G))]
abbrev r_X8_part0 : Room := { frames := 1, cells := 0, slots := 0, locals := 22 }
abbrev q_X8_part0 (k : Nat → ClassId) (h : Nat) (t : Nat) (tn : Nat) (tl : Nat) (tc : Nat) (ta : Nat) (rw : Nat → Nat) (q : Nat → Nat) (G : Nat → Int32) (i : Int32) (w : Nat) : Array Value → State → Outcome → State → Prop := vp_Si (fun r => r = pt (q 0) G i w)
set_option maxHeartbeats 2000000 in
set_option maxRecDepth 100000 in
theorem X8_part0 (l : Launch) (D : va_G) (k : Nat → ClassId) (h : Nat) (t : Nat) (tn : Nat) (tl : Nat) (tc : Nat) (ta : Nat) (rw : Nat → Nat) (q : Nat → Nat) (G : Nat → Int32) (i : Int32) (w : Nat) (hq : q 0 ≤ 20) (hw : w < 4) : Met l yX8_part wsX8_part r_X8_part0 (va_Pc [.ref h, .int 0, .int i, .int (nI w)] (PS D k (c_X8_part0 k h t tn tl tc ta rw q G i w))) (q_X8_part0 k h t tn tl tc ta rw q G i w) 0 0 (fun _ => False) := by
  refine Met.ofW (cc := cX8_part) (maxL := 4) (ret := (some .int)) (by decide) rfl ?_
  intro p e s m args below meth c s₁ B hml hv
  obtain ⟨rfl, hP, hG⟩ := hv
  have hx := B.exec
  have hb := B.bytes
  have hr := B.returns
  have hts := atoms_spec (ws := wsX8_part) B.pre
  have hown : s.vm.findClass RX8 = some m.cls := findClass_of_methodNamed B.named
  have hlocks := B.notSynchronized
  have hi8 : ∀ w ∈ wsX80, w ∈ wsX8_part := fun _ h => List.mem_cons_of_mem _ (List.mem_append_right _ h)
  have hP : va_P D vwCl [(h, .inr (8, [.ref t, .ref tn, .ref tl, .ref tc, .ref ta])), (t, .inl (k 0, 4, .inl (cI q))), (tn, .inl (k 4, 4, .inr (.inr (.inr (.inr (gr4 rw)))))), ((rw 0), .inl (k 0, 80, .inl G))] s.heap := hP
  have hl := lv_entry ([.ref h, .int 0, .int i, .int (nI w)]) (n := 4) (Nat.le_of_ble_eq_true rfl)
  rw [lg_entry_eq]
  generalize (lg_sl ([.ref h, .int 0, .int i, .int (nI w)]) ++ List.replicate (4 - (lg_sl ([.ref h, .int 0, .int i, .int (nI w)])).length) Slot.unset).toArray = ls at hl ⊢
  have hl : lv_has ls 4 [(0, .ref h), (1, .int 0), (2, .int i), (3, .int (nI w))] := hl
  refine lv_aload_n hx hb dX8_part_0 rfl (lv_at hl 0 rfl) ?_
  refine lv_iload_n hx hb dX8_part_1 rfl (lv_at hl 1 rfl) ?_
  refine lv_iload_n hx hb dX8_part_2 rfl (lv_at hl 2 rfl) ?_
  have hPc := hP.sub (ws' := (c_X8_has k h t tn tl tc ta q 0 i)) [0, 1] rfl
  refine vp_callSi (va_Run.run (va_runV (As := [.int 0, .int i]) (rest := []) ⟨hx, hb, hml, hown, hts⟩ (X8_has l D k h t tn tl tc ta q 0 i (by decide)) (cwV 2 hts gX8_part_X8_has rfl rfl rfl (by decide +kernel) ⟨Nat.le_of_ble_eq_true rfl, Nat.le_of_ble_eq_true rfl⟩) ⟨PS.blind _ _ _ _, va_recv hG.1 hP (ci := 8) (q0 := 0) rfl rfl, PS.pre hPc hG [.ref h, .int 0, .int i]⟩ rfl rfl hl.1 rfl (lv_room (Nat.le_of_ble_eq_true rfl)) dX8_part_3 ⟨Nat.le_of_ble_eq_true rfl, Nat.le_of_ble_eq_true rfl⟩)) (fun r hq => ?_)
  generalize r = y1 at hq ⊢
  have hq : y1 = hs (q 0) i := hq
  refine tp_i (y := hs (q 0) i) (hq) ?_
  refine lv_if_eq (x := hs (q 0) i) (tgt := 24) hx hb dX8_part_6 (by decide) (fun c2 => ?_) (fun c2 => ?_)
  · skip
    have e9 := pt_0 (G := G) (w := w) c2
    refine lv_iconst (v := 0) hx hb dX8_part_24 (by decide) ?_
    exact W.iret (v := 0) hx hb hr (fun t9 ht _ => ⟨0, rfl, e9.symm, ht⟩) (fun q h => by cases h) dX8_part_25
  · skip
    obtain ⟨a9, ha9, ei9⟩ := hs_ne (by omega) c2
    have e9 := pt_in (G := G) (w := w) ha9 (by omega)
    refine lv_aload_n hx hb dX8_part_9 rfl (lv_at hl 0 rfl) ?_
    refine va_get (D := D) (ci := 8) (v := .ref tn) (C := RX8) (T := TX8) (N := 5) hx hb hts hi8 hown hG.1 hP 0 rfl rfl 1 (by decide) (hts (.fieldLink RX8 17 "SleptMatters$Town" "numbers" "[[I") (List.mem_cons_of_mem _ (List.mem_append_left _ (List.mem_of_getElem? (i := 0) rfl)))) (fun _ h9 => h9) rfl dX8_part_10 ?_
    refine lv_iload_n hx hb dX8_part_13 rfl (lv_at hl 1 rfl) ?_
    refine va_aldA (t := .int) hx hb hG.1 hP 2 4 rfl rfl (vp_in_nI (n := 0) (by omega) (by omega)) dX8_part_14 ?_
    refine W.eq (g2 := F0 m 15 ls [.ref (rw 0)]) rfl ?_
    refine lv_iload_n hx hb dX8_part_15 rfl (lv_at hl 2 rfl) ?_
    refine tp_i (y := nI a9) (ei9) ?_
    refine lv_iconst (v := 4) hx hb dX8_part_16 (by decide) ?_
    refine lv_imul hx hb dX8_part_17 ?_
    refine tp_i (y := nI (a9 * 4)) (pk_mul a9 4) ?_
    refine lv_iload_n hx hb dX8_part_18 rfl (lv_at hl 3 rfl) ?_
    refine lv_iadd hx hb dX8_part_19 ?_
    refine tp_i (y := nI (a9 * 4 + w)) (nI_add (a9 * 4) w) ?_
    refine va_iald hx hb hG.1 hP 3 0 rfl rfl (vp_in_nI (by omega) (by omega)) dX8_part_20 ?_
    refine tp_i (y := G (a9 * 4 + w)) (congrArg _ (nI_clamp (n := a9 * 4 + w) (by omega))) ?_
    refine lv_goto (tgt := 25) hx hb dX8_part_21 (by decide) ?_
    exact W.iret (v := G (a9 * 4 + w)) hx hb hr (fun t9 ht _ => ⟨G (a9 * 4 + w), rfl, (by rw [ei9]; exact e9.symm), ht⟩) (fun q h => by cases h) dX8_part_25

abbrev c_X8_part1 (k : Nat → ClassId) (h : Nat) (t : Nat) (tn : Nat) (tl : Nat) (tc : Nat) (ta : Nat) (rw : Nat → Nat) (q : Nat → Nat) (G : Nat → Int32) (i : Int32) (w : Nat) : va_W := [(h, .inr (8, [.ref t, .ref tn, .ref tl, .ref tc, .ref ta])), (t, .inl (k 0, 4, .inl (cI q))), (tn, .inl (k 4, 4, .inr (.inr (.inr (.inr (gr4 rw)))))), ((rw 1), .inl (k 0, 80, .inl G))]
abbrev r_X8_part1 : Room := { frames := 1, cells := 0, slots := 0, locals := 22 }
abbrev q_X8_part1 (k : Nat → ClassId) (h : Nat) (t : Nat) (tn : Nat) (tl : Nat) (tc : Nat) (ta : Nat) (rw : Nat → Nat) (q : Nat → Nat) (G : Nat → Int32) (i : Int32) (w : Nat) : Array Value → State → Outcome → State → Prop := vp_Si (fun r => r = pt (q 1) G i w)
set_option maxHeartbeats 2000000 in
set_option maxRecDepth 100000 in
theorem X8_part1 (l : Launch) (D : va_G) (k : Nat → ClassId) (h : Nat) (t : Nat) (tn : Nat) (tl : Nat) (tc : Nat) (ta : Nat) (rw : Nat → Nat) (q : Nat → Nat) (G : Nat → Int32) (i : Int32) (w : Nat) (hq : q 1 ≤ 20) (hw : w < 4) : Met l yX8_part wsX8_part r_X8_part1 (va_Pc [.ref h, .int 1, .int i, .int (nI w)] (PS D k (c_X8_part1 k h t tn tl tc ta rw q G i w))) (q_X8_part1 k h t tn tl tc ta rw q G i w) 0 0 (fun _ => False) := by
  refine Met.ofW (cc := cX8_part) (maxL := 4) (ret := (some .int)) (by decide) rfl ?_
  intro p e s m args below meth c s₁ B hml hv
  obtain ⟨rfl, hP, hG⟩ := hv
  have hx := B.exec
  have hb := B.bytes
  have hr := B.returns
  have hts := atoms_spec (ws := wsX8_part) B.pre
  have hown : s.vm.findClass RX8 = some m.cls := findClass_of_methodNamed B.named
  have hlocks := B.notSynchronized
  have hi8 : ∀ w ∈ wsX80, w ∈ wsX8_part := fun _ h => List.mem_cons_of_mem _ (List.mem_append_right _ h)
  have hP : va_P D vwCl [(h, .inr (8, [.ref t, .ref tn, .ref tl, .ref tc, .ref ta])), (t, .inl (k 0, 4, .inl (cI q))), (tn, .inl (k 4, 4, .inr (.inr (.inr (.inr (gr4 rw)))))), ((rw 1), .inl (k 0, 80, .inl G))] s.heap := hP
  have hl := lv_entry ([.ref h, .int 1, .int i, .int (nI w)]) (n := 4) (Nat.le_of_ble_eq_true rfl)
  rw [lg_entry_eq]
  generalize (lg_sl ([.ref h, .int 1, .int i, .int (nI w)]) ++ List.replicate (4 - (lg_sl ([.ref h, .int 1, .int i, .int (nI w)])).length) Slot.unset).toArray = ls at hl ⊢
  have hl : lv_has ls 4 [(0, .ref h), (1, .int 1), (2, .int i), (3, .int (nI w))] := hl
  refine lv_aload_n hx hb dX8_part_0 rfl (lv_at hl 0 rfl) ?_
  refine lv_iload_n hx hb dX8_part_1 rfl (lv_at hl 1 rfl) ?_
  refine lv_iload_n hx hb dX8_part_2 rfl (lv_at hl 2 rfl) ?_
  have hPc := hP.sub (ws' := (c_X8_has k h t tn tl tc ta q 1 i)) [0, 1] rfl
  refine vp_callSi (va_Run.run (va_runV (As := [.int 1, .int i]) (rest := []) ⟨hx, hb, hml, hown, hts⟩ (X8_has l D k h t tn tl tc ta q 1 i (by decide)) (cwV 2 hts gX8_part_X8_has rfl rfl rfl (by decide +kernel) ⟨Nat.le_of_ble_eq_true rfl, Nat.le_of_ble_eq_true rfl⟩) ⟨PS.blind _ _ _ _, va_recv hG.1 hP (ci := 8) (q0 := 0) rfl rfl, PS.pre hPc hG [.ref h, .int 1, .int i]⟩ rfl rfl hl.1 rfl (lv_room (Nat.le_of_ble_eq_true rfl)) dX8_part_3 ⟨Nat.le_of_ble_eq_true rfl, Nat.le_of_ble_eq_true rfl⟩)) (fun r hq => ?_)
  generalize r = y1 at hq ⊢
  have hq : y1 = hs (q 1) i := hq
  refine tp_i (y := hs (q 1) i) (hq) ?_
  refine lv_if_eq (x := hs (q 1) i) (tgt := 24) hx hb dX8_part_6 (by decide) (fun c2 => ?_) (fun c2 => ?_)
  · skip
    have e9 := pt_0 (G := G) (w := w) c2
    refine lv_iconst (v := 0) hx hb dX8_part_24 (by decide) ?_
    exact W.iret (v := 0) hx hb hr (fun t9 ht _ => ⟨0, rfl, e9.symm, ht⟩) (fun q h => by cases h) dX8_part_25
  · skip
    obtain ⟨a9, ha9, ei9⟩ := hs_ne (by omega) c2
    have e9 := pt_in (G := G) (w := w) ha9 (by omega)
    refine lv_aload_n hx hb dX8_part_9 rfl (lv_at hl 0 rfl) ?_
    refine va_get (D := D) (ci := 8) (v := .ref tn) (C := RX8) (T := TX8) (N := 5) hx hb hts hi8 hown hG.1 hP 0 rfl rfl 1 (by decide) (hts (.fieldLink RX8 17 "SleptMatters$Town" "numbers" "[[I") (List.mem_cons_of_mem _ (List.mem_append_left _ (List.mem_of_getElem? (i := 0) rfl)))) (fun _ h9 => h9) rfl dX8_part_10 ?_
    refine lv_iload_n hx hb dX8_part_13 rfl (lv_at hl 1 rfl) ?_
    refine va_aldA (t := .int) hx hb hG.1 hP 2 4 rfl rfl (vp_in_nI (n := 1) (by omega) (by omega)) dX8_part_14 ?_
    refine W.eq (g2 := F0 m 15 ls [.ref (rw 1)]) rfl ?_
    refine lv_iload_n hx hb dX8_part_15 rfl (lv_at hl 2 rfl) ?_
    refine tp_i (y := nI a9) (ei9) ?_
    refine lv_iconst (v := 4) hx hb dX8_part_16 (by decide) ?_
    refine lv_imul hx hb dX8_part_17 ?_
    refine tp_i (y := nI (a9 * 4)) (pk_mul a9 4) ?_
    refine lv_iload_n hx hb dX8_part_18 rfl (lv_at hl 3 rfl) ?_
    refine lv_iadd hx hb dX8_part_19 ?_
    refine tp_i (y := nI (a9 * 4 + w)) (nI_add (a9 * 4) w) ?_
    refine va_iald hx hb hG.1 hP 3 0 rfl rfl (vp_in_nI (by omega) (by omega)) dX8_part_20 ?_
    refine tp_i (y := G (a9 * 4 + w)) (congrArg _ (nI_clamp (n := a9 * 4 + w) (by omega))) ?_
    refine lv_goto (tgt := 25) hx hb dX8_part_21 (by decide) ?_
    exact W.iret (v := G (a9 * 4 + w)) hx hb hr (fun t9 ht _ => ⟨G (a9 * 4 + w), rfl, (by rw [ei9]; exact e9.symm), ht⟩) (fun q h => by cases h) dX8_part_25

abbrev c_X8_part2 (k : Nat → ClassId) (h : Nat) (t : Nat) (tn : Nat) (tl : Nat) (tc : Nat) (ta : Nat) (rw : Nat → Nat) (q : Nat → Nat) (G : Nat → Int32) (i : Int32) (w : Nat) : va_W := [(h, .inr (8, [.ref t, .ref tn, .ref tl, .ref tc, .ref ta])), (t, .inl (k 0, 4, .inl (cI q))), (tn, .inl (k 4, 4, .inr (.inr (.inr (.inr (gr4 rw)))))), ((rw 2), .inl (k 0, 80, .inl G))]
abbrev r_X8_part2 : Room := { frames := 1, cells := 0, slots := 0, locals := 22 }
abbrev q_X8_part2 (k : Nat → ClassId) (h : Nat) (t : Nat) (tn : Nat) (tl : Nat) (tc : Nat) (ta : Nat) (rw : Nat → Nat) (q : Nat → Nat) (G : Nat → Int32) (i : Int32) (w : Nat) : Array Value → State → Outcome → State → Prop := vp_Si (fun r => r = pt (q 2) G i w)
set_option maxHeartbeats 2000000 in
set_option maxRecDepth 100000 in
theorem X8_part2 (l : Launch) (D : va_G) (k : Nat → ClassId) (h : Nat) (t : Nat) (tn : Nat) (tl : Nat) (tc : Nat) (ta : Nat) (rw : Nat → Nat) (q : Nat → Nat) (G : Nat → Int32) (i : Int32) (w : Nat) (hq : q 2 ≤ 20) (hw : w < 4) : Met l yX8_part wsX8_part r_X8_part2 (va_Pc [.ref h, .int 2, .int i, .int (nI w)] (PS D k (c_X8_part2 k h t tn tl tc ta rw q G i w))) (q_X8_part2 k h t tn tl tc ta rw q G i w) 0 0 (fun _ => False) := by
  refine Met.ofW (cc := cX8_part) (maxL := 4) (ret := (some .int)) (by decide) rfl ?_
  intro p e s m args below meth c s₁ B hml hv
  obtain ⟨rfl, hP, hG⟩ := hv
  have hx := B.exec
  have hb := B.bytes
  have hr := B.returns
  have hts := atoms_spec (ws := wsX8_part) B.pre
  have hown : s.vm.findClass RX8 = some m.cls := findClass_of_methodNamed B.named
  have hlocks := B.notSynchronized
  have hi8 : ∀ w ∈ wsX80, w ∈ wsX8_part := fun _ h => List.mem_cons_of_mem _ (List.mem_append_right _ h)
  have hP : va_P D vwCl [(h, .inr (8, [.ref t, .ref tn, .ref tl, .ref tc, .ref ta])), (t, .inl (k 0, 4, .inl (cI q))), (tn, .inl (k 4, 4, .inr (.inr (.inr (.inr (gr4 rw)))))), ((rw 2), .inl (k 0, 80, .inl G))] s.heap := hP
  have hl := lv_entry ([.ref h, .int 2, .int i, .int (nI w)]) (n := 4) (Nat.le_of_ble_eq_true rfl)
  rw [lg_entry_eq]
  generalize (lg_sl ([.ref h, .int 2, .int i, .int (nI w)]) ++ List.replicate (4 - (lg_sl ([.ref h, .int 2, .int i, .int (nI w)])).length) Slot.unset).toArray = ls at hl ⊢
  have hl : lv_has ls 4 [(0, .ref h), (1, .int 2), (2, .int i), (3, .int (nI w))] := hl
  refine lv_aload_n hx hb dX8_part_0 rfl (lv_at hl 0 rfl) ?_
  refine lv_iload_n hx hb dX8_part_1 rfl (lv_at hl 1 rfl) ?_
  refine lv_iload_n hx hb dX8_part_2 rfl (lv_at hl 2 rfl) ?_
  have hPc := hP.sub (ws' := (c_X8_has k h t tn tl tc ta q 2 i)) [0, 1] rfl
  refine vp_callSi (va_Run.run (va_runV (As := [.int 2, .int i]) (rest := []) ⟨hx, hb, hml, hown, hts⟩ (X8_has l D k h t tn tl tc ta q 2 i (by decide)) (cwV 2 hts gX8_part_X8_has rfl rfl rfl (by decide +kernel) ⟨Nat.le_of_ble_eq_true rfl, Nat.le_of_ble_eq_true rfl⟩) ⟨PS.blind _ _ _ _, va_recv hG.1 hP (ci := 8) (q0 := 0) rfl rfl, PS.pre hPc hG [.ref h, .int 2, .int i]⟩ rfl rfl hl.1 rfl (lv_room (Nat.le_of_ble_eq_true rfl)) dX8_part_3 ⟨Nat.le_of_ble_eq_true rfl, Nat.le_of_ble_eq_true rfl⟩)) (fun r hq => ?_)
  generalize r = y1 at hq ⊢
  have hq : y1 = hs (q 2) i := hq
  refine tp_i (y := hs (q 2) i) (hq) ?_
  refine lv_if_eq (x := hs (q 2) i) (tgt := 24) hx hb dX8_part_6 (by decide) (fun c2 => ?_) (fun c2 => ?_)
  · skip
    have e9 := pt_0 (G := G) (w := w) c2
    refine lv_iconst (v := 0) hx hb dX8_part_24 (by decide) ?_
    exact W.iret (v := 0) hx hb hr (fun t9 ht _ => ⟨0, rfl, e9.symm, ht⟩) (fun q h => by cases h) dX8_part_25
  · skip
    obtain ⟨a9, ha9, ei9⟩ := hs_ne (by omega) c2
    have e9 := pt_in (G := G) (w := w) ha9 (by omega)
    refine lv_aload_n hx hb dX8_part_9 rfl (lv_at hl 0 rfl) ?_
    refine va_get (D := D) (ci := 8) (v := .ref tn) (C := RX8) (T := TX8) (N := 5) hx hb hts hi8 hown hG.1 hP 0 rfl rfl 1 (by decide) (hts (.fieldLink RX8 17 "SleptMatters$Town" "numbers" "[[I") (List.mem_cons_of_mem _ (List.mem_append_left _ (List.mem_of_getElem? (i := 0) rfl)))) (fun _ h9 => h9) rfl dX8_part_10 ?_
    refine lv_iload_n hx hb dX8_part_13 rfl (lv_at hl 1 rfl) ?_
    refine va_aldA (t := .int) hx hb hG.1 hP 2 4 rfl rfl (vp_in_nI (n := 2) (by omega) (by omega)) dX8_part_14 ?_
    refine W.eq (g2 := F0 m 15 ls [.ref (rw 2)]) rfl ?_
    refine lv_iload_n hx hb dX8_part_15 rfl (lv_at hl 2 rfl) ?_
    refine tp_i (y := nI a9) (ei9) ?_
    refine lv_iconst (v := 4) hx hb dX8_part_16 (by decide) ?_
    refine lv_imul hx hb dX8_part_17 ?_
    refine tp_i (y := nI (a9 * 4)) (pk_mul a9 4) ?_
    refine lv_iload_n hx hb dX8_part_18 rfl (lv_at hl 3 rfl) ?_
    refine lv_iadd hx hb dX8_part_19 ?_
    refine tp_i (y := nI (a9 * 4 + w)) (nI_add (a9 * 4) w) ?_
    refine va_iald hx hb hG.1 hP 3 0 rfl rfl (vp_in_nI (by omega) (by omega)) dX8_part_20 ?_
    refine tp_i (y := G (a9 * 4 + w)) (congrArg _ (nI_clamp (n := a9 * 4 + w) (by omega))) ?_
    refine lv_goto (tgt := 25) hx hb dX8_part_21 (by decide) ?_
    exact W.iret (v := G (a9 * 4 + w)) hx hb hr (fun t9 ht _ => ⟨G (a9 * 4 + w), rfl, (by rw [ei9]; exact e9.symm), ht⟩) (fun q h => by cases h) dX8_part_25

abbrev c_X8_part3 (k : Nat → ClassId) (h : Nat) (t : Nat) (tn : Nat) (tl : Nat) (tc : Nat) (ta : Nat) (rw : Nat → Nat) (q : Nat → Nat) (G : Nat → Int32) (i : Int32) (w : Nat) : va_W := [(h, .inr (8, [.ref t, .ref tn, .ref tl, .ref tc, .ref ta])), (t, .inl (k 0, 4, .inl (cI q))), (tn, .inl (k 4, 4, .inr (.inr (.inr (.inr (gr4 rw)))))), ((rw 3), .inl (k 0, 80, .inl G))]
abbrev r_X8_part3 : Room := { frames := 1, cells := 0, slots := 0, locals := 22 }
abbrev q_X8_part3 (k : Nat → ClassId) (h : Nat) (t : Nat) (tn : Nat) (tl : Nat) (tc : Nat) (ta : Nat) (rw : Nat → Nat) (q : Nat → Nat) (G : Nat → Int32) (i : Int32) (w : Nat) : Array Value → State → Outcome → State → Prop := vp_Si (fun r => r = pt (q 3) G i w)
set_option maxHeartbeats 2000000 in
set_option maxRecDepth 100000 in
theorem X8_part3 (l : Launch) (D : va_G) (k : Nat → ClassId) (h : Nat) (t : Nat) (tn : Nat) (tl : Nat) (tc : Nat) (ta : Nat) (rw : Nat → Nat) (q : Nat → Nat) (G : Nat → Int32) (i : Int32) (w : Nat) (hq : q 3 ≤ 20) (hw : w < 4) : Met l yX8_part wsX8_part r_X8_part3 (va_Pc [.ref h, .int 3, .int i, .int (nI w)] (PS D k (c_X8_part3 k h t tn tl tc ta rw q G i w))) (q_X8_part3 k h t tn tl tc ta rw q G i w) 0 0 (fun _ => False) := by
  refine Met.ofW (cc := cX8_part) (maxL := 4) (ret := (some .int)) (by decide) rfl ?_
  intro p e s m args below meth c s₁ B hml hv
  obtain ⟨rfl, hP, hG⟩ := hv
  have hx := B.exec
  have hb := B.bytes
  have hr := B.returns
  have hts := atoms_spec (ws := wsX8_part) B.pre
  have hown : s.vm.findClass RX8 = some m.cls := findClass_of_methodNamed B.named
  have hlocks := B.notSynchronized
  have hi8 : ∀ w ∈ wsX80, w ∈ wsX8_part := fun _ h => List.mem_cons_of_mem _ (List.mem_append_right _ h)
  have hP : va_P D vwCl [(h, .inr (8, [.ref t, .ref tn, .ref tl, .ref tc, .ref ta])), (t, .inl (k 0, 4, .inl (cI q))), (tn, .inl (k 4, 4, .inr (.inr (.inr (.inr (gr4 rw)))))), ((rw 3), .inl (k 0, 80, .inl G))] s.heap := hP
  have hl := lv_entry ([.ref h, .int 3, .int i, .int (nI w)]) (n := 4) (Nat.le_of_ble_eq_true rfl)
  rw [lg_entry_eq]
  generalize (lg_sl ([.ref h, .int 3, .int i, .int (nI w)]) ++ List.replicate (4 - (lg_sl ([.ref h, .int 3, .int i, .int (nI w)])).length) Slot.unset).toArray = ls at hl ⊢
  have hl : lv_has ls 4 [(0, .ref h), (1, .int 3), (2, .int i), (3, .int (nI w))] := hl
  refine lv_aload_n hx hb dX8_part_0 rfl (lv_at hl 0 rfl) ?_
  refine lv_iload_n hx hb dX8_part_1 rfl (lv_at hl 1 rfl) ?_
  refine lv_iload_n hx hb dX8_part_2 rfl (lv_at hl 2 rfl) ?_
  have hPc := hP.sub (ws' := (c_X8_has k h t tn tl tc ta q 3 i)) [0, 1] rfl
  refine vp_callSi (va_Run.run (va_runV (As := [.int 3, .int i]) (rest := []) ⟨hx, hb, hml, hown, hts⟩ (X8_has l D k h t tn tl tc ta q 3 i (by decide)) (cwV 2 hts gX8_part_X8_has rfl rfl rfl (by decide +kernel) ⟨Nat.le_of_ble_eq_true rfl, Nat.le_of_ble_eq_true rfl⟩) ⟨PS.blind _ _ _ _, va_recv hG.1 hP (ci := 8) (q0 := 0) rfl rfl, PS.pre hPc hG [.ref h, .int 3, .int i]⟩ rfl rfl hl.1 rfl (lv_room (Nat.le_of_ble_eq_true rfl)) dX8_part_3 ⟨Nat.le_of_ble_eq_true rfl, Nat.le_of_ble_eq_true rfl⟩)) (fun r hq => ?_)
  generalize r = y1 at hq ⊢
  have hq : y1 = hs (q 3) i := hq
  refine tp_i (y := hs (q 3) i) (hq) ?_
  refine lv_if_eq (x := hs (q 3) i) (tgt := 24) hx hb dX8_part_6 (by decide) (fun c2 => ?_) (fun c2 => ?_)
  · skip
    have e9 := pt_0 (G := G) (w := w) c2
    refine lv_iconst (v := 0) hx hb dX8_part_24 (by decide) ?_
    exact W.iret (v := 0) hx hb hr (fun t9 ht _ => ⟨0, rfl, e9.symm, ht⟩) (fun q h => by cases h) dX8_part_25
  · skip
    obtain ⟨a9, ha9, ei9⟩ := hs_ne (by omega) c2
    have e9 := pt_in (G := G) (w := w) ha9 (by omega)
    refine lv_aload_n hx hb dX8_part_9 rfl (lv_at hl 0 rfl) ?_
    refine va_get (D := D) (ci := 8) (v := .ref tn) (C := RX8) (T := TX8) (N := 5) hx hb hts hi8 hown hG.1 hP 0 rfl rfl 1 (by decide) (hts (.fieldLink RX8 17 "SleptMatters$Town" "numbers" "[[I") (List.mem_cons_of_mem _ (List.mem_append_left _ (List.mem_of_getElem? (i := 0) rfl)))) (fun _ h9 => h9) rfl dX8_part_10 ?_
    refine lv_iload_n hx hb dX8_part_13 rfl (lv_at hl 1 rfl) ?_
    refine va_aldA (t := .int) hx hb hG.1 hP 2 4 rfl rfl (vp_in_nI (n := 3) (by omega) (by omega)) dX8_part_14 ?_
    refine W.eq (g2 := F0 m 15 ls [.ref (rw 3)]) rfl ?_
    refine lv_iload_n hx hb dX8_part_15 rfl (lv_at hl 2 rfl) ?_
    refine tp_i (y := nI a9) (ei9) ?_
    refine lv_iconst (v := 4) hx hb dX8_part_16 (by decide) ?_
    refine lv_imul hx hb dX8_part_17 ?_
    refine tp_i (y := nI (a9 * 4)) (pk_mul a9 4) ?_
    refine lv_iload_n hx hb dX8_part_18 rfl (lv_at hl 3 rfl) ?_
    refine lv_iadd hx hb dX8_part_19 ?_
    refine tp_i (y := nI (a9 * 4 + w)) (nI_add (a9 * 4) w) ?_
    refine va_iald hx hb hG.1 hP 3 0 rfl rfl (vp_in_nI (by omega) (by omega)) dX8_part_20 ?_
    refine tp_i (y := G (a9 * 4 + w)) (congrArg _ (nI_clamp (n := a9 * 4 + w) (by omega))) ?_
    refine lv_goto (tgt := 25) hx hb dX8_part_21 (by decide) ?_
    exact W.iret (v := G (a9 * 4 + w)) hx hb hr (fun t9 ht _ => ⟨G (a9 * 4 + w), rfl, (by rw [ei9]; exact e9.symm), ht⟩) (fun q h => by cases h) dX8_part_25

def inS (st kk : Int32) : Int32 := if (st >>> (kk &&& 31)) &&& 1 = 0 then 0 else 1
theorem inS_01 (a b : Int32) : inS a b = 0 ∨ inS a b = 1 := by
  unfold inS
  split
  · exact Or.inl rfl
  · exact Or.inr rfl
def noZ (lf : Nat → Int32) (a b : Int32) : Int32 := if a < 0 then 0 else if 4 ≤ a then 0 else if b < 0 then 0 else if 100 ≤ b then 0 else lf (a * 100 + b).toNatClampNeg
theorem in_noise {a b : Int32} (h1 : ¬ a < 0) (h2 : ¬ 4 ≤ a) (h3 : ¬ b < 0) (h4 : ¬ 100 ≤ b) : vp_in (a * 100 + b) 400 := by
  obtain ⟨x, hx, rfl⟩ := nI_of h1
  obtain ⟨y, hy, rfl⟩ := nI_of h3
  have hx4 : x < 4 := Nat.not_le.mp (fun q => h2 (nI_le (a := 4) q hx))
  have hy4 : y < 100 := Nat.not_le.mp (fun q => h4 (nI_le (a := 100) q hy))
  have e : nI x * 100 + nI y = nI (x * 100 + y) := by
    rw [← nI_add, ← pk_mul]; rfl
  rw [e]
  exact vp_in_nI (by omega) (by omega)
def wkA (lf : Nat → Int32) (st dy lt : Int32) : Int32 := if noZ lf st dy ≤ lt then 0 else 1

abbrev c_X9_isIn (k : Nat → ClassId) (sa : Int32) (sb : Int32) : va_W := []
abbrev r_X9_isIn : Room := { frames := 0, cells := 0, slots := 0, locals := 0 }
abbrev q_X9_isIn (k : Nat → ClassId) (sa : Int32) (sb : Int32) : Array Value → State → Outcome → State → Prop := vp_Si (fun r => r = inS sa sb)
set_option maxHeartbeats 2000000 in
set_option maxRecDepth 100000 in
theorem X9_isIn (l : Launch) (D : va_G) (k : Nat → ClassId) (sa : Int32) (sb : Int32)  : Met l yX9_isIn wsX9_isIn r_X9_isIn (va_Pc [.int sa, .int sb] (PS D k (c_X9_isIn k sa sb))) (q_X9_isIn k sa sb) 0 0 (fun _ => False) := by
  refine Met.ofW (cc := cX9_isIn) (maxL := 2) (ret := (some .boolean)) (by decide) rfl ?_
  intro p e s m args below meth c s₁ B hml hv
  obtain ⟨rfl, hP, hG⟩ := hv
  have hx := B.exec
  have hb := B.bytes
  have hr := B.returns
  have hts := atoms_spec (ws := wsX9_isIn) B.pre
  have hown : s.vm.findClass RX9 = some m.cls := findClass_of_methodNamed B.named
  have hlocks := B.notSynchronized
  have hP : va_P D vwCl [] s.heap := hP
  have hl := lv_entry ([.int sa, .int sb]) (n := 2) (Nat.le_of_ble_eq_true rfl)
  rw [lg_entry_eq]
  generalize (lg_sl ([.int sa, .int sb]) ++ List.replicate (2 - (lg_sl ([.int sa, .int sb])).length) Slot.unset).toArray = ls at hl ⊢
  have hl : lv_has ls 2 [(0, .int sa), (1, .int sb)] := hl
  refine lv_iload_n hx hb dX9_isIn_0 rfl (lv_at hl 0 rfl) ?_
  refine lv_iload_n hx hb dX9_isIn_1 rfl (lv_at hl 1 rfl) ?_
  refine lv_ishr hx hb dX9_isIn_2 ?_
  refine lv_iconst (v := 1) hx hb dX9_isIn_3 (by decide) ?_
  refine lv_iand hx hb dX9_isIn_4 ?_
  refine lv_if_eq (x := (sa >>> (sb &&& 31)) &&& 1) (tgt := 12) hx hb dX9_isIn_5 (by decide) (fun c1 => ?_) (fun c1 => ?_)
  · skip
    refine lv_iconst (v := 0) hx hb dX9_isIn_12 (by decide) ?_
    exact W.zret (v := 0) hx hb hr (rfl) (fun t9 ht _ => ⟨0, rfl, by simp [inS, c1], ht⟩) (fun q h => by cases h) dX9_isIn_13
  · skip
    refine lv_iconst (v := 1) hx hb dX9_isIn_8 (by decide) ?_
    refine lv_goto (tgt := 13) hx hb dX9_isIn_9 (by decide) ?_
    exact W.zret (v := 1) hx hb hr (rfl) (fun t9 ht _ => ⟨1, rfl, by simp [inS, c1], ht⟩) (fun q h => by cases h) dX9_isIn_13

abbrev c_X8_noiseOf (k : Nat → ClassId) (h : Nat) (t : Nat) (tn : Nat) (tl : Nat) (tc : Nat) (ta : Nat) (lf : Nat → Int32) (sa : Int32) (sb : Int32) : va_W := [(h, .inr (8, [.ref t, .ref tn, .ref tl, .ref tc, .ref ta])), (tl, .inl (k 0, 400, .inl lf))]
abbrev r_X8_noiseOf : Room := { frames := 0, cells := 0, slots := 0, locals := 0 }
abbrev q_X8_noiseOf (k : Nat → ClassId) (h : Nat) (t : Nat) (tn : Nat) (tl : Nat) (tc : Nat) (ta : Nat) (lf : Nat → Int32) (sa : Int32) (sb : Int32) : Array Value → State → Outcome → State → Prop := vp_Si (fun r => r = noZ lf sa sb)
set_option maxHeartbeats 2000000 in
set_option maxRecDepth 100000 in
theorem X8_noiseOf (l : Launch) (D : va_G) (k : Nat → ClassId) (h : Nat) (t : Nat) (tn : Nat) (tl : Nat) (tc : Nat) (ta : Nat) (lf : Nat → Int32) (sa : Int32) (sb : Int32)  : Met l yX8_noiseOf wsX8_noiseOf r_X8_noiseOf (va_Pc [.ref h, .int sa, .int sb] (PS D k (c_X8_noiseOf k h t tn tl tc ta lf sa sb))) (q_X8_noiseOf k h t tn tl tc ta lf sa sb) 0 0 (fun _ => False) := by
  refine Met.ofW (cc := cX8_noiseOf) (maxL := 4) (ret := (some .int)) (by decide) rfl ?_
  intro p e s m args below meth c s₁ B hml hv
  obtain ⟨rfl, hP, hG⟩ := hv
  have hx := B.exec
  have hb := B.bytes
  have hr := B.returns
  have hts := atoms_spec (ws := wsX8_noiseOf) B.pre
  have hown : s.vm.findClass RX8 = some m.cls := findClass_of_methodNamed B.named
  have hlocks := B.notSynchronized
  have hi8 : ∀ w ∈ wsX80, w ∈ wsX8_noiseOf := fun _ h => List.mem_cons_of_mem _ (List.mem_append_right _ h)
  have hP : va_P D vwCl [(h, .inr (8, [.ref t, .ref tn, .ref tl, .ref tc, .ref ta])), (tl, .inl (k 0, 400, .inl lf))] s.heap := hP
  have hl := lv_entry ([.ref h, .int sa, .int sb]) (n := 4) (Nat.le_of_ble_eq_true rfl)
  rw [lg_entry_eq]
  generalize (lg_sl ([.ref h, .int sa, .int sb]) ++ List.replicate (4 - (lg_sl ([.ref h, .int sa, .int sb])).length) Slot.unset).toArray = ls at hl ⊢
  have hl : lv_has ls 4 [(0, .ref h), (1, .int sa), (2, .int sb)] := hl
  refine lv_iload_n hx hb dX8_noiseOf_0 rfl (lv_at hl 1 rfl) ?_
  refine lv_if_lt (x := sa) (tgt := 23) hx hb dX8_noiseOf_1 (by decide) (fun c1 => ?_) (fun c1 => ?_)
  · skip
    refine lv_iconst (v := 0) hx hb dX8_noiseOf_23 (by decide) ?_
    refine lv_istore_n (lv' := [(3, .int 0), (0, .ref h), (1, .int sa), (2, .int sb)]) hx hb dX8_noiseOf_24 rfl hl (by decide) rfl (fun ls hl => ?_)
    refine lv_iload_n hx hb dX8_noiseOf_25 rfl (lv_at hl 0 rfl) ?_
    refine lv_if_eq (x := 0) (tgt := 43) hx hb dX8_noiseOf_26 (by decide) (fun c2 => ?_) (fun c2 => absurd c2 (by decide))
    refine lv_iconst (v := 0) hx hb dX8_noiseOf_43 (by decide) ?_
    exact W.iret (v := 0) hx hb hr (fun t9 ht _ => ⟨0, rfl, by simp [noZ, c1], ht⟩) (fun q h => by cases h) dX8_noiseOf_44
  · skip
    refine lv_iload_n hx hb dX8_noiseOf_4 rfl (lv_at hl 1 rfl) ?_
    refine lv_iconst (v := 4) hx hb dX8_noiseOf_5 (by decide) ?_
    refine lv_icmp_ge (x := sa) (y := 4) (tgt := 23) hx hb dX8_noiseOf_6 (by decide) (fun c3 => ?_) (fun c3 => ?_)
    · skip
      refine lv_iconst (v := 0) hx hb dX8_noiseOf_23 (by decide) ?_
      refine lv_istore_n (lv' := [(3, .int 0), (0, .ref h), (1, .int sa), (2, .int sb)]) hx hb dX8_noiseOf_24 rfl hl (by decide) rfl (fun ls hl => ?_)
      refine lv_iload_n hx hb dX8_noiseOf_25 rfl (lv_at hl 0 rfl) ?_
      refine lv_if_eq (x := 0) (tgt := 43) hx hb dX8_noiseOf_26 (by decide) (fun c4 => ?_) (fun c4 => absurd c4 (by decide))
      refine lv_iconst (v := 0) hx hb dX8_noiseOf_43 (by decide) ?_
      exact W.iret (v := 0) hx hb hr (fun t9 ht _ => ⟨0, rfl, by simp [noZ, c1, c3], ht⟩) (fun q h => by cases h) dX8_noiseOf_44
    · skip
      refine lv_iload_n hx hb dX8_noiseOf_9 rfl (lv_at hl 2 rfl) ?_
      refine lv_if_lt (x := sb) (tgt := 23) hx hb dX8_noiseOf_10 (by decide) (fun c5 => ?_) (fun c5 => ?_)
      · skip
        refine lv_iconst (v := 0) hx hb dX8_noiseOf_23 (by decide) ?_
        refine lv_istore_n (lv' := [(3, .int 0), (0, .ref h), (1, .int sa), (2, .int sb)]) hx hb dX8_noiseOf_24 rfl hl (by decide) rfl (fun ls hl => ?_)
        refine lv_iload_n hx hb dX8_noiseOf_25 rfl (lv_at hl 0 rfl) ?_
        refine lv_if_eq (x := 0) (tgt := 43) hx hb dX8_noiseOf_26 (by decide) (fun c6 => ?_) (fun c6 => absurd c6 (by decide))
        refine lv_iconst (v := 0) hx hb dX8_noiseOf_43 (by decide) ?_
        exact W.iret (v := 0) hx hb hr (fun t9 ht _ => ⟨0, rfl, by simp [noZ, c1, c3, c5], ht⟩) (fun q h => by cases h) dX8_noiseOf_44
      · skip
        refine lv_iload_n hx hb dX8_noiseOf_13 rfl (lv_at hl 2 rfl) ?_
        refine lv_bipush (v := 100) hx hb dX8_noiseOf_14 (by decide) ?_
        refine lv_icmp_ge (x := sb) (y := 100) (tgt := 23) hx hb dX8_noiseOf_16 (by decide) (fun c7 => ?_) (fun c7 => ?_)
        · skip
          refine lv_iconst (v := 0) hx hb dX8_noiseOf_23 (by decide) ?_
          refine lv_istore_n (lv' := [(3, .int 0), (0, .ref h), (1, .int sa), (2, .int sb)]) hx hb dX8_noiseOf_24 rfl hl (by decide) rfl (fun ls hl => ?_)
          refine lv_iload_n hx hb dX8_noiseOf_25 rfl (lv_at hl 0 rfl) ?_
          refine lv_if_eq (x := 0) (tgt := 43) hx hb dX8_noiseOf_26 (by decide) (fun c8 => ?_) (fun c8 => absurd c8 (by decide))
          refine lv_iconst (v := 0) hx hb dX8_noiseOf_43 (by decide) ?_
          exact W.iret (v := 0) hx hb hr (fun t9 ht _ => ⟨0, rfl, by simp [noZ, c1, c3, c5, c7], ht⟩) (fun q h => by cases h) dX8_noiseOf_44
        · skip
          refine lv_iconst (v := 1) hx hb dX8_noiseOf_19 (by decide) ?_
          refine lv_goto (tgt := 24) hx hb dX8_noiseOf_20 (by decide) ?_
          refine lv_istore_n (lv' := [(3, .int 1), (0, .ref h), (1, .int sa), (2, .int sb)]) hx hb dX8_noiseOf_24 rfl hl (by decide) rfl (fun ls hl => ?_)
          refine lv_iload_n hx hb dX8_noiseOf_25 rfl (lv_at hl 0 rfl) ?_
          refine lv_if_eq (x := 1) (tgt := 43) hx hb dX8_noiseOf_26 (by decide) (fun c9 => absurd c9 (by decide)) (fun c9 => ?_)
          refine lv_aload_n hx hb dX8_noiseOf_29 rfl (lv_at hl 1 rfl) ?_
          refine va_get (D := D) (ci := 8) (v := .ref tl) (C := RX8) (T := TX8) (N := 5) hx hb hts hi8 hown hG.1 hP 0 rfl rfl 2 (by decide) (hts (.fieldLink RX8 20 "SleptMatters$Town" "loudness" "[I") (List.mem_cons_of_mem _ (List.mem_append_left _ (List.mem_of_getElem? (i := 0) rfl)))) (fun _ h9 => h9) rfl dX8_noiseOf_30 ?_
          refine lv_iload_n hx hb dX8_noiseOf_33 rfl (lv_at hl 2 rfl) ?_
          refine lv_bipush (v := 100) hx hb dX8_noiseOf_34 (by decide) ?_
          refine lv_imul hx hb dX8_noiseOf_36 ?_
          refine lv_iload_n hx hb dX8_noiseOf_37 rfl (lv_at hl 3 rfl) ?_
          refine lv_iadd hx hb dX8_noiseOf_38 ?_
          refine va_iald hx hb hG.1 hP 1 0 rfl rfl (in_noise c1 c3 c5 c7) dX8_noiseOf_39 ?_
          refine lv_goto (tgt := 44) hx hb dX8_noiseOf_40 (by decide) ?_
          exact W.iret (v := lf (((sa * 100) + sb).toNatClampNeg)) hx hb hr (fun t9 ht _ => ⟨lf (((sa * 100) + sb).toNatClampNeg), rfl, by simp [noZ, c1, c3, c5, c7], ht⟩) (fun q h => by cases h) dX8_noiseOf_44

abbrev c_X8_isWoken (k : Nat → ClassId) (h : Nat) (t : Nat) (tn : Nat) (tl : Nat) (tc : Nat) (ta : Nat) (rw : Nat → Nat) (q : Nat → Nat) (G0 : Nat → Int32) (G1 : Nat → Int32) (lf : Nat → Int32) (sa : Int32) (sh : Int32) (dy : Int32) : va_W := [(h, .inr (8, [.ref t, .ref tn, .ref tl, .ref tc, .ref ta])), (t, .inl (k 0, 4, .inl (cI q))), (tn, .inl (k 4, 4, .inr (.inr (.inr (.inr (gr4 rw)))))), ((rw 0), .inl (k 0, 80, .inl G0)), ((rw 1), .inl (k 0, 80, .inl G1)), (tl, .inl (k 0, 400, .inl lf))]
abbrev r_X8_isWoken : Room := { frames := 2, cells := 0, slots := 0, locals := 45 }
abbrev q_X8_isWoken (k : Nat → ClassId) (h : Nat) (t : Nat) (tn : Nat) (tl : Nat) (tc : Nat) (ta : Nat) (rw : Nat → Nat) (q : Nat → Nat) (G0 : Nat → Int32) (G1 : Nat → Int32) (lf : Nat → Int32) (sa : Int32) (sh : Int32) (dy : Int32) : Array Value → State → Outcome → State → Prop := vp_Si (fun r => r = wkA lf (pt (q 0) G0 sh 0) dy (pt (q 1) G1 sa 0))
set_option maxHeartbeats 2000000 in
set_option maxRecDepth 100000 in
theorem X8_isWoken (l : Launch) (D : va_G) (k : Nat → ClassId) (h : Nat) (t : Nat) (tn : Nat) (tl : Nat) (tc : Nat) (ta : Nat) (rw : Nat → Nat) (q : Nat → Nat) (G0 : Nat → Int32) (G1 : Nat → Int32) (lf : Nat → Int32) (sa : Int32) (sh : Int32) (dy : Int32) (hq0 : q 0 ≤ 7) (hq1 : q 1 ≤ 7) : Met l yX8_isWoken wsX8_isWoken r_X8_isWoken (va_Pc [.ref h, .int sa, .int sh, .int dy] (PS D k (c_X8_isWoken k h t tn tl tc ta rw q G0 G1 lf sa sh dy))) (q_X8_isWoken k h t tn tl tc ta rw q G0 G1 lf sa sh dy) 0 0 (fun _ => False) := by
  refine Met.ofW (cc := cX8_isWoken) (maxL := 4) (ret := (some .boolean)) (by decide) rfl ?_
  intro p e s m args below meth c s₁ B hml hv
  obtain ⟨rfl, hP, hG⟩ := hv
  have hx := B.exec
  have hb := B.bytes
  have hr := B.returns
  have hts := atoms_spec (ws := wsX8_isWoken) B.pre
  have hown : s.vm.findClass RX8 = some m.cls := findClass_of_methodNamed B.named
  have hlocks := B.notSynchronized
  have hi8 : ∀ w ∈ wsX80, w ∈ wsX8_isWoken := fun _ h => List.mem_cons_of_mem _ (List.mem_append_right _ h)
  have hP : va_P D vwCl [(h, .inr (8, [.ref t, .ref tn, .ref tl, .ref tc, .ref ta])), (t, .inl (k 0, 4, .inl (cI q))), (tn, .inl (k 4, 4, .inr (.inr (.inr (.inr (gr4 rw)))))), ((rw 0), .inl (k 0, 80, .inl G0)), ((rw 1), .inl (k 0, 80, .inl G1)), (tl, .inl (k 0, 400, .inl lf))] s.heap := hP
  have hl := lv_entry ([.ref h, .int sa, .int sh, .int dy]) (n := 4) (Nat.le_of_ble_eq_true rfl)
  rw [lg_entry_eq]
  generalize (lg_sl ([.ref h, .int sa, .int sh, .int dy]) ++ List.replicate (4 - (lg_sl ([.ref h, .int sa, .int sh, .int dy])).length) Slot.unset).toArray = ls at hl ⊢
  have hl : lv_has ls 4 [(0, .ref h), (1, .int sa), (2, .int sh), (3, .int dy)] := hl
  refine lv_aload_n hx hb dX8_isWoken_0 rfl (lv_at hl 0 rfl) ?_
  refine lv_aload_n hx hb dX8_isWoken_1 rfl (lv_at hl 0 rfl) ?_
  refine lv_iconst (v := 0) hx hb dX8_isWoken_2 (by decide) ?_
  refine lv_iload_n hx hb dX8_isWoken_3 rfl (lv_at hl 2 rfl) ?_
  refine lv_iconst (v := 0) hx hb dX8_isWoken_4 (by decide) ?_
  have hPc := hP.sub (ws' := (c_X8_part0 k h t tn tl tc ta rw q G0 sh 0)) [0, 1, 2, 3] rfl
  refine vp_callSi (va_Run.run (va_runV (As := [.int 0, .int sh, .int 0]) (rest := [.ref h]) ⟨hx, hb, hml, hown, hts⟩ (X8_part0 l D k h t tn tl tc ta rw q G0 sh 0 (by omega) (by decide)) (cwV 3 hts gX8_isWoken_X8_part rfl rfl rfl (by decide +kernel) ⟨Nat.le_of_ble_eq_true rfl, Nat.le_of_ble_eq_true rfl⟩) ⟨PS.blind _ _ _ _, va_recv hG.1 hP (ci := 8) (q0 := 0) rfl rfl, PS.pre hPc hG [.ref h, .int 0, .int sh, .int 0]⟩ rfl rfl hl.1 rfl (lv_room (Nat.le_of_ble_eq_true rfl)) dX8_isWoken_5 ⟨Nat.le_of_ble_eq_true rfl, Nat.le_of_ble_eq_true rfl⟩)) (fun r hq => ?_)
  generalize r = y1 at hq ⊢
  have hq : y1 = pt (q 0) G0 sh 0 := hq
  refine tp_i (y := pt (q 0) G0 sh 0) (hq) ?_
  refine lv_iload_n hx hb dX8_isWoken_8 rfl (lv_at hl 3 rfl) ?_
  have hPc := hP.sub (ws' := (c_X8_noiseOf k h t tn tl tc ta lf (pt (q 0) G0 sh 0) dy)) [0, 5] rfl
  refine vp_callSi (va_Run.run (va_runV (As := [.int (pt (q 0) G0 sh 0), .int dy]) (rest := []) ⟨hx, hb, hml, hown, hts⟩ (X8_noiseOf l D k h t tn tl tc ta lf (pt (q 0) G0 sh 0) dy ) (cwV 2 hts gX8_isWoken_X8_noiseOf rfl rfl rfl (by decide +kernel) ⟨Nat.le_of_ble_eq_true rfl, Nat.le_of_ble_eq_true rfl⟩) ⟨PS.blind _ _ _ _, va_recv hG.1 hP (ci := 8) (q0 := 0) rfl rfl, PS.pre hPc hG [.ref h, .int (pt (q 0) G0 sh 0), .int dy]⟩ rfl rfl hl.1 rfl (lv_room (Nat.le_of_ble_eq_true rfl)) dX8_isWoken_9 ⟨Nat.le_of_ble_eq_true rfl, Nat.le_of_ble_eq_true rfl⟩)) (fun r hq => ?_)
  generalize r = y2 at hq ⊢
  have hq : y2 = noZ lf (pt (q 0) G0 sh 0) dy := hq
  refine tp_i (y := noZ lf (pt (q 0) G0 sh 0) dy) (hq) ?_
  refine lv_aload_n hx hb dX8_isWoken_12 rfl (lv_at hl 0 rfl) ?_
  refine lv_iconst (v := 1) hx hb dX8_isWoken_13 (by decide) ?_
  refine lv_iload_n hx hb dX8_isWoken_14 rfl (lv_at hl 1 rfl) ?_
  refine lv_iconst (v := 0) hx hb dX8_isWoken_15 (by decide) ?_
  have hPc := hP.sub (ws' := (c_X8_part1 k h t tn tl tc ta rw q G1 sa 0)) [0, 1, 2, 4] rfl
  refine vp_callSi (va_Run.run (va_runV (As := [.int 1, .int sa, .int 0]) (rest := [.int (noZ lf (pt (q 0) G0 sh 0) dy)]) ⟨hx, hb, hml, hown, hts⟩ (X8_part1 l D k h t tn tl tc ta rw q G1 sa 0 (by omega) (by decide)) (cwV 3 hts gX8_isWoken_X8_part rfl rfl rfl (by decide +kernel) ⟨Nat.le_of_ble_eq_true rfl, Nat.le_of_ble_eq_true rfl⟩) ⟨PS.blind _ _ _ _, va_recv hG.1 hP (ci := 8) (q0 := 0) rfl rfl, PS.pre hPc hG [.ref h, .int 1, .int sa, .int 0]⟩ rfl rfl hl.1 rfl (lv_room (Nat.le_of_ble_eq_true rfl)) dX8_isWoken_16 ⟨Nat.le_of_ble_eq_true rfl, Nat.le_of_ble_eq_true rfl⟩)) (fun r hq => ?_)
  generalize r = y3 at hq ⊢
  have hq : y3 = pt (q 1) G1 sa 0 := hq
  refine tp_i (y := pt (q 1) G1 sa 0) (hq) ?_
  refine lv_icmp_le (x := noZ lf (pt (q 0) G0 sh 0) dy) (y := pt (q 1) G1 sa 0) (tgt := 26) hx hb dX8_isWoken_19 (by decide) (fun c4 => ?_) (fun c4 => ?_)
  · skip
    refine lv_iconst (v := 0) hx hb dX8_isWoken_26 (by decide) ?_
    exact W.zret (v := 0) hx hb hr (rfl) (fun t9 ht _ => ⟨0, rfl, by simp [wkA, c4], ht⟩) (fun q h => by cases h) dX8_isWoken_27
  · skip
    refine lv_iconst (v := 1) hx hb dX8_isWoken_22 (by decide) ?_
    refine lv_goto (tgt := 27) hx hb dX8_isWoken_23 (by decide) ?_
    exact W.zret (v := 1) hx hb hr (rfl) (fun t9 ht _ => ⟨1, rfl, by simp [wkA, c4], ht⟩) (fun q h => by cases h) dX8_isWoken_27
