set_option maxRecDepth 20000 in
theorem ggX8_calmHouses_X8_has : GoodIn wsX8_calmHouses wsX8_has := goodIn_r _ [6, 7, 8, 9, 10, 11, 12] rfl (by decide +kernel)
set_option maxRecDepth 20000 in
theorem gX8_calmHouses_X8_has : GoodIn wsX8_calmHouses (wsV RX8 29 RX8 yX8_has wsX8_has) := goodIn_app (goodIn_of _ (by decide +kernel)) ggX8_calmHouses_X8_has
theorem dX8_calmHouses_0 : decode cX8_calmHouses 0 = .ok (.aload_n 0, 1) := dc_Bk (by decide +kernel)
theorem dX8_calmHouses_1 : decode cX8_calmHouses 1 = .ok (.iconst 1, 1) := dc_Bk (by decide +kernel)
theorem dX8_calmHouses_2 : decode cX8_calmHouses 2 = .ok (.iload_n 1, 1) := dc_Bk (by decide +kernel)
theorem dX8_calmHouses_3 : decode cX8_calmHouses 3 = .ok (.invokevirtual 29, 3) := dc_Bk (by decide +kernel)
theorem dX8_calmHouses_6 : decode cX8_calmHouses 6 = .ok (.ifCond .eq 17, 3) := dc_Bk (by decide +kernel)
theorem dX8_calmHouses_9 : decode cX8_calmHouses 9 = .ok (.iload_n 2, 1) := dc_Bk (by decide +kernel)
theorem dX8_calmHouses_10 : decode cX8_calmHouses 10 = .ok (.ifCond .lt 13, 3) := dc_Bk (by decide +kernel)
theorem dX8_calmHouses_13 : decode cX8_calmHouses 13 = .ok (.iload_n 2, 1) := dc_Bk (by decide +kernel)
theorem dX8_calmHouses_14 : decode cX8_calmHouses 14 = .ok (.bipush 100, 2) := dc_Bk (by decide +kernel)
theorem dX8_calmHouses_16 : decode cX8_calmHouses 16 = .ok (.if_icmp .ge 7, 3) := dc_Bk (by decide +kernel)
theorem dX8_calmHouses_19 : decode cX8_calmHouses 19 = .ok (.iconst 1, 1) := dc_Bk (by decide +kernel)
theorem dX8_calmHouses_20 : decode cX8_calmHouses 20 = .ok (.goto 4, 3) := dc_Bk (by decide +kernel)
theorem dX8_calmHouses_23 : decode cX8_calmHouses 23 = .ok (.iconst 0, 1) := dc_Bk (by decide +kernel)
theorem dX8_calmHouses_24 : decode cX8_calmHouses 24 = .ok (.istore_n 3, 1) := dc_Bk (by decide +kernel)
theorem dX8_calmHouses_25 : decode cX8_calmHouses 25 = .ok (.iload_n 3, 1) := dc_Bk (by decide +kernel)
theorem dX8_calmHouses_26 : decode cX8_calmHouses 26 = .ok (.ifCond .eq 17, 3) := dc_Bk (by decide +kernel)
theorem dX8_calmHouses_29 : decode cX8_calmHouses 29 = .ok (.aload_n 0, 1) := dc_Bk (by decide +kernel)
theorem dX8_calmHouses_30 : decode cX8_calmHouses 30 = .ok (.getfield 23, 3) := dc_Bk (by decide +kernel)
theorem dX8_calmHouses_33 : decode cX8_calmHouses 33 = .ok (.iload_n 2, 1) := dc_Bk (by decide +kernel)
theorem dX8_calmHouses_34 : decode cX8_calmHouses 34 = .ok (.bipush 7, 2) := dc_Bk (by decide +kernel)
theorem dX8_calmHouses_36 : decode cX8_calmHouses 36 = .ok (.imul, 1) := dc_Bk (by decide +kernel)
theorem dX8_calmHouses_37 : decode cX8_calmHouses 37 = .ok (.iload_n 1, 1) := dc_Bk (by decide +kernel)
theorem dX8_calmHouses_38 : decode cX8_calmHouses 38 = .ok (.iadd, 1) := dc_Bk (by decide +kernel)
theorem dX8_calmHouses_39 : decode cX8_calmHouses 39 = .ok (.iaload, 1) := dc_Bk (by decide +kernel)
theorem dX8_calmHouses_40 : decode cX8_calmHouses 40 = .ok (.goto 4, 3) := dc_Bk (by decide +kernel)
theorem dX8_calmHouses_43 : decode cX8_calmHouses 43 = .ok (.iconst 0, 1) := dc_Bk (by decide +kernel)
theorem dX8_calmHouses_44 : decode cX8_calmHouses 44 = .ok (.ireturn, 1) := dc_Bk (by decide +kernel)
theorem dX8_soonestLike_0 : decode cX8_soonestLike 0 = .ok (.aload_n 0, 1) := dc_Bk (by decide +kernel)
theorem dX8_soonestLike_1 : decode cX8_soonestLike 1 = .ok (.getfield 26, 3) := dc_Bk (by decide +kernel)
theorem dX8_soonestLike_4 : decode cX8_soonestLike 4 = .ok (.iload_n 1, 1) := dc_Bk (by decide +kernel)
theorem dX8_soonestLike_5 : decode cX8_soonestLike 5 = .ok (.iaload, 1) := dc_Bk (by decide +kernel)
theorem dX8_soonestLike_6 : decode cX8_soonestLike 6 = .ok (.bipush 7, 2) := dc_Bk (by decide +kernel)
theorem dX8_soonestLike_8 : decode cX8_soonestLike 8 = .ok (.if_icmp .le 17, 3) := dc_Bk (by decide +kernel)
theorem dX8_soonestLike_11 : decode cX8_soonestLike 11 = .ok (.iload_n 1, 1) := dc_Bk (by decide +kernel)
theorem dX8_soonestLike_12 : decode cX8_soonestLike 12 = .ok (.aload_n 0, 1) := dc_Bk (by decide +kernel)
theorem dX8_soonestLike_13 : decode cX8_soonestLike 13 = .ok (.getfield 26, 3) := dc_Bk (by decide +kernel)
theorem dX8_soonestLike_16 : decode cX8_soonestLike 16 = .ok (.iload_n 1, 1) := dc_Bk (by decide +kernel)
theorem dX8_soonestLike_17 : decode cX8_soonestLike 17 = .ok (.iaload, 1) := dc_Bk (by decide +kernel)
theorem dX8_soonestLike_18 : decode cX8_soonestLike 18 = .ok (.isub, 1) := dc_Bk (by decide +kernel)
theorem dX8_soonestLike_19 : decode cX8_soonestLike 19 = .ok (.bipush 7, 2) := dc_Bk (by decide +kernel)
theorem dX8_soonestLike_21 : decode cX8_soonestLike 21 = .ok (.iadd, 1) := dc_Bk (by decide +kernel)
theorem dX8_soonestLike_22 : decode cX8_soonestLike 22 = .ok (.goto 4, 3) := dc_Bk (by decide +kernel)
theorem dX8_soonestLike_25 : decode cX8_soonestLike 25 = .ok (.iload_n 1, 1) := dc_Bk (by decide +kernel)
theorem dX8_soonestLike_26 : decode cX8_soonestLike 26 = .ok (.ireturn, 1) := dc_Bk (by decide +kernel)
set_option maxRecDepth 20000 in
theorem ggX8_bedsOf_X9_isIn : GoodIn wsX8_bedsOf wsX9_isIn := goodIn_r _ [4] rfl (by decide +kernel)
set_option maxRecDepth 20000 in
theorem gX8_bedsOf_X9_isIn_n135 : GoodIn wsX8_bedsOf (wsX9_isIn) := ggX8_bedsOf_X9_isIn
set_option maxRecDepth 20000 in
theorem ggX8_bedsOf_X8_part : GoodIn wsX8_bedsOf wsX8_part := goodIn_r _ [9, 10, 11, 12, 13, 8, 14, 1, 15, 16, 17, 18, 19] rfl (by decide +kernel)
set_option maxRecDepth 20000 in
theorem gX8_bedsOf_X8_part : GoodIn wsX8_bedsOf (wsV RX8 120 RX8 yX8_part wsX8_part) := goodIn_app (goodIn_of _ (by decide +kernel)) ggX8_bedsOf_X8_part
theorem dX8_bedsOf_0 : decode cX8_bedsOf 0 = .ok (.iconst 0, 1) := dc_Bk (by decide +kernel)
theorem dX8_bedsOf_1 : decode cX8_bedsOf 1 = .ok (.istore_n 2, 1) := dc_Bk (by decide +kernel)
theorem dX8_bedsOf_2 : decode cX8_bedsOf 2 = .ok (.iconst 0, 1) := dc_Bk (by decide +kernel)
theorem dX8_bedsOf_3 : decode cX8_bedsOf 3 = .ok (.istore_n 3, 1) := dc_Bk (by decide +kernel)
theorem dX8_bedsOf_4 : decode cX8_bedsOf 4 = .ok (.iload_n 3, 1) := dc_Bk (by decide +kernel)
theorem dX8_bedsOf_5 : decode cX8_bedsOf 5 = .ok (.aload_n 0, 1) := dc_Bk (by decide +kernel)
theorem dX8_bedsOf_6 : decode cX8_bedsOf 6 = .ok (.getfield 9, 3) := dc_Bk (by decide +kernel)
theorem dX8_bedsOf_9 : decode cX8_bedsOf 9 = .ok (.iconst 0, 1) := dc_Bk (by decide +kernel)
theorem dX8_bedsOf_10 : decode cX8_bedsOf 10 = .ok (.iaload, 1) := dc_Bk (by decide +kernel)
theorem dX8_bedsOf_11 : decode cX8_bedsOf 11 = .ok (.if_icmp .ge 27, 3) := dc_Bk (by decide +kernel)
theorem dX8_bedsOf_14 : decode cX8_bedsOf 14 = .ok (.iload_n 1, 1) := dc_Bk (by decide +kernel)
theorem dX8_bedsOf_15 : decode cX8_bedsOf 15 = .ok (.iload_n 3, 1) := dc_Bk (by decide +kernel)
theorem dX8_bedsOf_16 : decode cX8_bedsOf 16 = .ok (.invokestatic 135, 3) := dc_Bk (by decide +kernel)
theorem dX8_bedsOf_19 : decode cX8_bedsOf 19 = .ok (.ifCond .eq 13, 3) := dc_Bk (by decide +kernel)
theorem dX8_bedsOf_22 : decode cX8_bedsOf 22 = .ok (.iload_n 2, 1) := dc_Bk (by decide +kernel)
theorem dX8_bedsOf_23 : decode cX8_bedsOf 23 = .ok (.aload_n 0, 1) := dc_Bk (by decide +kernel)
theorem dX8_bedsOf_24 : decode cX8_bedsOf 24 = .ok (.iconst 0, 1) := dc_Bk (by decide +kernel)
theorem dX8_bedsOf_25 : decode cX8_bedsOf 25 = .ok (.iload_n 3, 1) := dc_Bk (by decide +kernel)
theorem dX8_bedsOf_26 : decode cX8_bedsOf 26 = .ok (.iconst 1, 1) := dc_Bk (by decide +kernel)
theorem dX8_bedsOf_27 : decode cX8_bedsOf 27 = .ok (.invokevirtual 120, 3) := dc_Bk (by decide +kernel)
theorem dX8_bedsOf_30 : decode cX8_bedsOf 30 = .ok (.iadd, 1) := dc_Bk (by decide +kernel)
theorem dX8_bedsOf_31 : decode cX8_bedsOf 31 = .ok (.istore_n 2, 1) := dc_Bk (by decide +kernel)
theorem dX8_bedsOf_32 : decode cX8_bedsOf 32 = .ok (.iinc 3 1, 3) := dc_Bk (by decide +kernel)
theorem dX8_bedsOf_35 : decode cX8_bedsOf 35 = .ok (.goto (-31), 3) := dc_Bk (by decide +kernel)
theorem dX8_bedsOf_38 : decode cX8_bedsOf 38 = .ok (.iload_n 2, 1) := dc_Bk (by decide +kernel)
theorem dX8_bedsOf_39 : decode cX8_bedsOf 39 = .ok (.ireturn, 1) := dc_Bk (by decide +kernel)
set_option maxRecDepth 20000 in
theorem ggX8_roomiestOf_X9_isIn : GoodIn wsX8_roomiestOf wsX9_isIn := goodIn_r _ [4] rfl (by decide +kernel)
set_option maxRecDepth 20000 in
theorem gX8_roomiestOf_X9_isIn_n135 : GoodIn wsX8_roomiestOf (wsX9_isIn) := ggX8_roomiestOf_X9_isIn
set_option maxRecDepth 20000 in
theorem ggX8_roomiestOf_X8_part : GoodIn wsX8_roomiestOf wsX8_part := goodIn_r _ [9, 10, 11, 12, 13, 8, 14, 1, 15, 16, 17, 18, 19] rfl (by decide +kernel)
set_option maxRecDepth 20000 in
theorem gX8_roomiestOf_X8_part : GoodIn wsX8_roomiestOf (wsV RX8 120 RX8 yX8_part wsX8_part) := goodIn_app (goodIn_of _ (by decide +kernel)) ggX8_roomiestOf_X8_part
theorem dX8_roomiestOf_0 : decode cX8_roomiestOf 0 = .ok (.iconst (-1), 1) := dc_Bk (by decide +kernel)
theorem dX8_roomiestOf_1 : decode cX8_roomiestOf 1 = .ok (.istore_n 2, 1) := dc_Bk (by decide +kernel)
theorem dX8_roomiestOf_2 : decode cX8_roomiestOf 2 = .ok (.iconst 0, 1) := dc_Bk (by decide +kernel)
theorem dX8_roomiestOf_3 : decode cX8_roomiestOf 3 = .ok (.istore_n 3, 1) := dc_Bk (by decide +kernel)
theorem dX8_roomiestOf_4 : decode cX8_roomiestOf 4 = .ok (.iload_n 3, 1) := dc_Bk (by decide +kernel)
theorem dX8_roomiestOf_5 : decode cX8_roomiestOf 5 = .ok (.aload_n 0, 1) := dc_Bk (by decide +kernel)
theorem dX8_roomiestOf_6 : decode cX8_roomiestOf 6 = .ok (.getfield 9, 3) := dc_Bk (by decide +kernel)
theorem dX8_roomiestOf_9 : decode cX8_roomiestOf 9 = .ok (.iconst 0, 1) := dc_Bk (by decide +kernel)
theorem dX8_roomiestOf_10 : decode cX8_roomiestOf 10 = .ok (.iaload, 1) := dc_Bk (by decide +kernel)
theorem dX8_roomiestOf_11 : decode cX8_roomiestOf 11 = .ok (.if_icmp .ge 36, 3) := dc_Bk (by decide +kernel)
theorem dX8_roomiestOf_14 : decode cX8_roomiestOf 14 = .ok (.iload_n 1, 1) := dc_Bk (by decide +kernel)
theorem dX8_roomiestOf_15 : decode cX8_roomiestOf 15 = .ok (.iload_n 3, 1) := dc_Bk (by decide +kernel)
theorem dX8_roomiestOf_16 : decode cX8_roomiestOf 16 = .ok (.invokestatic 135, 3) := dc_Bk (by decide +kernel)
theorem dX8_roomiestOf_19 : decode cX8_roomiestOf 19 = .ok (.ifCond .eq 22, 3) := dc_Bk (by decide +kernel)
theorem dX8_roomiestOf_22 : decode cX8_roomiestOf 22 = .ok (.aload_n 0, 1) := dc_Bk (by decide +kernel)
theorem dX8_roomiestOf_23 : decode cX8_roomiestOf 23 = .ok (.iconst 0, 1) := dc_Bk (by decide +kernel)
theorem dX8_roomiestOf_24 : decode cX8_roomiestOf 24 = .ok (.iload_n 3, 1) := dc_Bk (by decide +kernel)
theorem dX8_roomiestOf_25 : decode cX8_roomiestOf 25 = .ok (.iconst 1, 1) := dc_Bk (by decide +kernel)
theorem dX8_roomiestOf_26 : decode cX8_roomiestOf 26 = .ok (.invokevirtual 120, 3) := dc_Bk (by decide +kernel)
theorem dX8_roomiestOf_29 : decode cX8_roomiestOf 29 = .ok (.aload_n 0, 1) := dc_Bk (by decide +kernel)
theorem dX8_roomiestOf_30 : decode cX8_roomiestOf 30 = .ok (.iconst 0, 1) := dc_Bk (by decide +kernel)
theorem dX8_roomiestOf_31 : decode cX8_roomiestOf 31 = .ok (.iload_n 2, 1) := dc_Bk (by decide +kernel)
theorem dX8_roomiestOf_32 : decode cX8_roomiestOf 32 = .ok (.iconst 1, 1) := dc_Bk (by decide +kernel)
theorem dX8_roomiestOf_33 : decode cX8_roomiestOf 33 = .ok (.invokevirtual 120, 3) := dc_Bk (by decide +kernel)
theorem dX8_roomiestOf_36 : decode cX8_roomiestOf 36 = .ok (.if_icmp .le 5, 3) := dc_Bk (by decide +kernel)
theorem dX8_roomiestOf_39 : decode cX8_roomiestOf 39 = .ok (.iload_n 3, 1) := dc_Bk (by decide +kernel)
theorem dX8_roomiestOf_40 : decode cX8_roomiestOf 40 = .ok (.istore_n 2, 1) := dc_Bk (by decide +kernel)
theorem dX8_roomiestOf_41 : decode cX8_roomiestOf 41 = .ok (.iinc 3 1, 3) := dc_Bk (by decide +kernel)
theorem dX8_roomiestOf_44 : decode cX8_roomiestOf 44 = .ok (.goto (-40), 3) := dc_Bk (by decide +kernel)
theorem dX8_roomiestOf_47 : decode cX8_roomiestOf 47 = .ok (.iload_n 2, 1) := dc_Bk (by decide +kernel)
theorem dX8_roomiestOf_48 : decode cX8_roomiestOf 48 = .ok (.ireturn, 1) := dc_Bk (by decide +kernel)
def chA (n : Nat) (cf : Nat → Int32) (sa dy : Int32) : Int32 := if hs n sa = 0 then 0 else if dy < 0 then 0 else if 100 ≤ dy then 0 else cf (dy * 7 + sa).toNatClampNeg
theorem in_calm {n : Nat} {sa dy : Int32} (hn : n ≤ 7) (h : ¬ hs n sa = 0) (h3 : ¬ dy < 0) (h4 : ¬ 100 ≤ dy) : vp_in (dy * 7 + sa) 700 := by
  obtain ⟨x, hx, rfl⟩ := hs_ne (by omega) h
  obtain ⟨y, hy, rfl⟩ := nI_of h3
  have hy4 : y < 100 := Nat.not_le.mp (fun q => h4 (nI_le (a := 100) q hy))
  have e : nI y * 7 + nI x = nI (y * 7 + x) := by
    rw [← nI_add, ← pk_mul]; rfl
  rw [e]
  exact vp_in_nI (by omega) (by omega)
def slk (al : Nat → Nat) (d : Nat) : Nat := if al d ≤ 7 then d else d + 7 - al d
theorem sub_add7 {d a : Nat} (h : a ≤ d + 7) : nI d - nI a + 7 = nI (d + 7 - a) := by
  rw [← pk_sub h, ← nI_add, Int32.sub_eq_add_neg, Int32.sub_eq_add_neg, Int32.add_assoc, Int32.add_comm (-nI a), ← Int32.add_assoc]
  rfl
def bdS (G : Nat → Int32) (st : Int32) : Nat → Int32
  | 0 => 0
  | j + 1 => if inS st (nI j) = 0 then bdS G st j else bdS G st j + G (j * 4 + 1)
def rmS (n : Nat) (G : Nat → Int32) (st : Int32) : Nat → Int32
  | 0 => -1
  | j + 1 => if inS st (nI j) = 0 then rmS n G st j else if G (j * 4 + 1) ≤ pt n G (rmS n G st j) 1 then rmS n G st j else nI j

abbrev c_X8_calmHouses (k : Nat → ClassId) (h : Nat) (t : Nat) (tn : Nat) (tl : Nat) (tc : Nat) (ta : Nat) (q : Nat → Nat) (cf : Nat → Int32) (sa : Int32) (dy : Int32) : va_W := [(h, .inr (8, [.ref t, .ref tn, .ref tl, .ref tc, .ref ta])), (t, .inl (k 0, 4, .inl (cI q))), (tc, .inl (k 0, 700, .inl cf))]
abbrev r_X8_calmHouses : Room := { frames := 1, cells := 0, slots := 0, locals := 22 }
abbrev q_X8_calmHouses (k : Nat → ClassId) (h : Nat) (t : Nat) (tn : Nat) (tl : Nat) (tc : Nat) (ta : Nat) (q : Nat → Nat) (cf : Nat → Int32) (sa : Int32) (dy : Int32) : Array Value → State → Outcome → State → Prop := vp_Si (fun r => r = chA (q 1) cf sa dy)
set_option maxHeartbeats 2000000 in
set_option maxRecDepth 100000 in
theorem X8_calmHouses (l : Launch) (D : va_G) (k : Nat → ClassId) (h : Nat) (t : Nat) (tn : Nat) (tl : Nat) (tc : Nat) (ta : Nat) (q : Nat → Nat) (cf : Nat → Int32) (sa : Int32) (dy : Int32) (hq1 : q 1 ≤ 7) : Met l yX8_calmHouses wsX8_calmHouses r_X8_calmHouses (va_Pc [.ref h, .int sa, .int dy] (PS D k (c_X8_calmHouses k h t tn tl tc ta q cf sa dy))) (q_X8_calmHouses k h t tn tl tc ta q cf sa dy) 0 0 (fun _ => False) := by
  refine Met.ofW (cc := cX8_calmHouses) (maxL := 4) (ret := (some .int)) (by decide) rfl ?_
  intro p e s m args below meth c s₁ B hml hv
  obtain ⟨rfl, hP, hG⟩ := hv
  have hx := B.exec
  have hb := B.bytes
  have hr := B.returns
  have hts := atoms_spec (ws := wsX8_calmHouses) B.pre
  have hown : s.vm.findClass RX8 = some m.cls := findClass_of_methodNamed B.named
  have hlocks := B.notSynchronized
  have hi8 : ∀ w ∈ wsX80, w ∈ wsX8_calmHouses := fun _ h => List.mem_cons_of_mem _ (List.mem_append_right _ h)
  have hP : va_P D vwCl [(h, .inr (8, [.ref t, .ref tn, .ref tl, .ref tc, .ref ta])), (t, .inl (k 0, 4, .inl (cI q))), (tc, .inl (k 0, 700, .inl cf))] s.heap := hP
  have hl := lv_entry ([.ref h, .int sa, .int dy]) (n := 4) (Nat.le_of_ble_eq_true rfl)
  rw [lg_entry_eq]
  generalize (lg_sl ([.ref h, .int sa, .int dy]) ++ List.replicate (4 - (lg_sl ([.ref h, .int sa, .int dy])).length) Slot.unset).toArray = ls at hl ⊢
  have hl : lv_has ls 4 [(0, .ref h), (1, .int sa), (2, .int dy)] := hl
  refine lv_aload_n hx hb dX8_calmHouses_0 rfl (lv_at hl 0 rfl) ?_
  refine lv_iconst (v := 1) hx hb dX8_calmHouses_1 (by decide) ?_
  refine lv_iload_n hx hb dX8_calmHouses_2 rfl (lv_at hl 1 rfl) ?_
  have hPc := hP.sub (ws' := (c_X8_has k h t tn tl tc ta q 1 sa)) [0, 1] rfl
  refine vp_callSi (va_Run.run (va_runV (As := [.int 1, .int sa]) (rest := []) ⟨hx, hb, hml, hown, hts⟩ (X8_has l D k h t tn tl tc ta q 1 sa (by decide)) (cwV 2 hts gX8_calmHouses_X8_has rfl rfl rfl (by decide +kernel) ⟨Nat.le_of_ble_eq_true rfl, Nat.le_of_ble_eq_true rfl⟩) ⟨PS.blind _ _ _ _, va_recv hG.1 hP (ci := 8) (q0 := 0) rfl rfl, PS.pre hPc hG [.ref h, .int 1, .int sa]⟩ rfl rfl hl.1 rfl (lv_room (Nat.le_of_ble_eq_true rfl)) dX8_calmHouses_3 ⟨Nat.le_of_ble_eq_true rfl, Nat.le_of_ble_eq_true rfl⟩)) (fun r hq => ?_)
  generalize r = y1 at hq ⊢
  have hq : y1 = hs (q 1) sa := hq
  refine tp_i (y := hs (q 1) sa) (hq) ?_
  refine lv_if_eq (x := hs (q 1) sa) (tgt := 23) hx hb dX8_calmHouses_6 (by decide) (fun c2 => ?_) (fun c2 => ?_)
  · skip
    refine lv_iconst (v := 0) hx hb dX8_calmHouses_23 (by decide) ?_
    refine lv_istore_n (lv' := [(3, .int 0), (0, .ref h), (1, .int sa), (2, .int dy)]) hx hb dX8_calmHouses_24 rfl hl (by decide) rfl (fun ls hl => ?_)
    refine lv_iload_n hx hb dX8_calmHouses_25 rfl (lv_at hl 0 rfl) ?_
    refine lv_if_eq (x := 0) (tgt := 43) hx hb dX8_calmHouses_26 (by decide) (fun c3 => ?_) (fun c3 => absurd c3 (by decide))
    refine lv_iconst (v := 0) hx hb dX8_calmHouses_43 (by decide) ?_
    exact W.iret (v := 0) hx hb hr (fun t9 ht _ => ⟨0, rfl, by simp [chA, c2], ht⟩) (fun q h => by cases h) dX8_calmHouses_44
  · skip
    refine lv_iload_n hx hb dX8_calmHouses_9 rfl (lv_at hl 2 rfl) ?_
    refine lv_if_lt (x := dy) (tgt := 23) hx hb dX8_calmHouses_10 (by decide) (fun c4 => ?_) (fun c4 => ?_)
    · skip
      refine lv_iconst (v := 0) hx hb dX8_calmHouses_23 (by decide) ?_
      refine lv_istore_n (lv' := [(3, .int 0), (0, .ref h), (1, .int sa), (2, .int dy)]) hx hb dX8_calmHouses_24 rfl hl (by decide) rfl (fun ls hl => ?_)
      refine lv_iload_n hx hb dX8_calmHouses_25 rfl (lv_at hl 0 rfl) ?_
      refine lv_if_eq (x := 0) (tgt := 43) hx hb dX8_calmHouses_26 (by decide) (fun c5 => ?_) (fun c5 => absurd c5 (by decide))
      refine lv_iconst (v := 0) hx hb dX8_calmHouses_43 (by decide) ?_
      exact W.iret (v := 0) hx hb hr (fun t9 ht _ => ⟨0, rfl, by simp [chA, c2, c4], ht⟩) (fun q h => by cases h) dX8_calmHouses_44
    · skip
      refine lv_iload_n hx hb dX8_calmHouses_13 rfl (lv_at hl 2 rfl) ?_
      refine lv_bipush (v := 100) hx hb dX8_calmHouses_14 (by decide) ?_
      refine lv_icmp_ge (x := dy) (y := 100) (tgt := 23) hx hb dX8_calmHouses_16 (by decide) (fun c6 => ?_) (fun c6 => ?_)
      · skip
        refine lv_iconst (v := 0) hx hb dX8_calmHouses_23 (by decide) ?_
        refine lv_istore_n (lv' := [(3, .int 0), (0, .ref h), (1, .int sa), (2, .int dy)]) hx hb dX8_calmHouses_24 rfl hl (by decide) rfl (fun ls hl => ?_)
        refine lv_iload_n hx hb dX8_calmHouses_25 rfl (lv_at hl 0 rfl) ?_
        refine lv_if_eq (x := 0) (tgt := 43) hx hb dX8_calmHouses_26 (by decide) (fun c7 => ?_) (fun c7 => absurd c7 (by decide))
        refine lv_iconst (v := 0) hx hb dX8_calmHouses_43 (by decide) ?_
        exact W.iret (v := 0) hx hb hr (fun t9 ht _ => ⟨0, rfl, by simp [chA, c2, c4, c6], ht⟩) (fun q h => by cases h) dX8_calmHouses_44
      · skip
        refine lv_iconst (v := 1) hx hb dX8_calmHouses_19 (by decide) ?_
        refine lv_goto (tgt := 24) hx hb dX8_calmHouses_20 (by decide) ?_
        refine lv_istore_n (lv' := [(3, .int 1), (0, .ref h), (1, .int sa), (2, .int dy)]) hx hb dX8_calmHouses_24 rfl hl (by decide) rfl (fun ls hl => ?_)
        refine lv_iload_n hx hb dX8_calmHouses_25 rfl (lv_at hl 0 rfl) ?_
        refine lv_if_eq (x := 1) (tgt := 43) hx hb dX8_calmHouses_26 (by decide) (fun c8 => absurd c8 (by decide)) (fun c8 => ?_)
        refine lv_aload_n hx hb dX8_calmHouses_29 rfl (lv_at hl 1 rfl) ?_
        refine va_get (D := D) (ci := 8) (v := .ref tc) (C := RX8) (T := TX8) (N := 5) hx hb hts hi8 hown hG.1 hP 0 rfl rfl 3 (by decide) (hts (.fieldLink RX8 23 "SleptMatters$Town" "calm" "[I") (List.mem_cons_of_mem _ (List.mem_append_left _ (List.mem_of_getElem? (i := 0) rfl)))) (fun _ h9 => h9) rfl dX8_calmHouses_30 ?_
        refine lv_iload_n hx hb dX8_calmHouses_33 rfl (lv_at hl 3 rfl) ?_
        refine lv_bipush (v := 7) hx hb dX8_calmHouses_34 (by decide) ?_
        refine lv_imul hx hb dX8_calmHouses_36 ?_
        refine lv_iload_n hx hb dX8_calmHouses_37 rfl (lv_at hl 2 rfl) ?_
        refine lv_iadd hx hb dX8_calmHouses_38 ?_
        refine va_iald hx hb hG.1 hP 2 0 rfl rfl (in_calm hq1 c2 c4 c6) dX8_calmHouses_39 ?_
        refine lv_goto (tgt := 44) hx hb dX8_calmHouses_40 (by decide) ?_
        exact W.iret (v := cf (((dy * 7) + sa).toNatClampNeg)) hx hb hr (fun t9 ht _ => ⟨cf (((dy * 7) + sa).toNatClampNeg), rfl, by simp [chA, c2, c4, c6], ht⟩) (fun q h => by cases h) dX8_calmHouses_44

abbrev c_X8_soonestLike (k : Nat → ClassId) (h : Nat) (t : Nat) (tn : Nat) (tl : Nat) (tc : Nat) (ta : Nat) (al : Nat → Nat) (d : Nat) : va_W := [(h, .inr (8, [.ref t, .ref tn, .ref tl, .ref tc, .ref ta])), (ta, .inl (k 0, 100, .inl (cI al)))]
abbrev r_X8_soonestLike : Room := { frames := 0, cells := 0, slots := 0, locals := 0 }
abbrev q_X8_soonestLike (k : Nat → ClassId) (h : Nat) (t : Nat) (tn : Nat) (tl : Nat) (tc : Nat) (ta : Nat) (al : Nat → Nat) (d : Nat) : Array Value → State → Outcome → State → Prop := vp_Si (fun r => r = nI (slk al d))
set_option maxHeartbeats 2000000 in
set_option maxRecDepth 100000 in
theorem X8_soonestLike (l : Launch) (D : va_G) (k : Nat → ClassId) (h : Nat) (t : Nat) (tn : Nat) (tl : Nat) (tc : Nat) (ta : Nat) (al : Nat → Nat) (d : Nat) (hd : d < 100) (hal : al d ≤ d + 1) : Met l yX8_soonestLike wsX8_soonestLike r_X8_soonestLike (va_Pc [.ref h, .int (nI d)] (PS D k (c_X8_soonestLike k h t tn tl tc ta al d))) (q_X8_soonestLike k h t tn tl tc ta al d) 0 0 (fun _ => False) := by
  refine Met.ofW (cc := cX8_soonestLike) (maxL := 2) (ret := (some .int)) (by decide) rfl ?_
  intro p e s m args below meth c s₁ B hml hv
  obtain ⟨rfl, hP, hG⟩ := hv
  have hx := B.exec
  have hb := B.bytes
  have hr := B.returns
  have hts := atoms_spec (ws := wsX8_soonestLike) B.pre
  have hown : s.vm.findClass RX8 = some m.cls := findClass_of_methodNamed B.named
  have hlocks := B.notSynchronized
  have hi8 : ∀ w ∈ wsX80, w ∈ wsX8_soonestLike := fun _ h => List.mem_cons_of_mem _ (List.mem_append_right _ h)
  have hP : va_P D vwCl [(h, .inr (8, [.ref t, .ref tn, .ref tl, .ref tc, .ref ta])), (ta, .inl (k 0, 100, .inl (cI al)))] s.heap := hP
  have hl := lv_entry ([.ref h, .int (nI d)]) (n := 2) (Nat.le_of_ble_eq_true rfl)
  rw [lg_entry_eq]
  generalize (lg_sl ([.ref h, .int (nI d)]) ++ List.replicate (2 - (lg_sl ([.ref h, .int (nI d)])).length) Slot.unset).toArray = ls at hl ⊢
  have hl : lv_has ls 2 [(0, .ref h), (1, .int (nI d))] := hl
  refine lv_aload_n hx hb dX8_soonestLike_0 rfl (lv_at hl 0 rfl) ?_
  refine va_get (D := D) (ci := 8) (v := .ref ta) (C := RX8) (T := TX8) (N := 5) hx hb hts hi8 hown hG.1 hP 0 rfl rfl 4 (by decide) (hts (.fieldLink RX8 26 "SleptMatters$Town" "alike" "[I") (List.mem_cons_of_mem _ (List.mem_append_left _ (List.mem_of_getElem? (i := 0) rfl)))) (fun _ h9 => h9) rfl dX8_soonestLike_1 ?_
  refine lv_iload_n hx hb dX8_soonestLike_4 rfl (lv_at hl 1 rfl) ?_
  refine va_iald hx hb hG.1 hP 1 0 rfl rfl (vp_in_nI (by omega) (by omega)) dX8_soonestLike_5 ?_
  refine tp_i (y := nI (al d)) (congrArg (cI al) (nI_clamp (n := d) (by omega))) ?_
  refine lv_bipush (v := 7) hx hb dX8_soonestLike_6 (by decide) ?_
  refine bn_le (i := al d) (j := 7) (tgt := 25) hx hb dX8_soonestLike_8 (by decide) (by omega) (by omega) (fun c1 => ?_) (fun c1 => ?_)
  · skip
    have e9 : slk al d = d := if_pos c1
    refine lv_iload_n hx hb dX8_soonestLike_25 rfl (lv_at hl 1 rfl) ?_
    exact W.iret (v := nI d) hx hb hr (fun t9 ht _ => ⟨nI d, rfl, congrArg nI e9.symm, ht⟩) (fun q h => by cases h) dX8_soonestLike_26
  · skip
    have e9 : slk al d = d + 7 - al d := if_neg (by omega)
    refine lv_iload_n hx hb dX8_soonestLike_11 rfl (lv_at hl 1 rfl) ?_
    refine lv_aload_n hx hb dX8_soonestLike_12 rfl (lv_at hl 0 rfl) ?_
    refine va_get (D := D) (ci := 8) (v := .ref ta) (C := RX8) (T := TX8) (N := 5) hx hb hts hi8 hown hG.1 hP 0 rfl rfl 4 (by decide) (hts (.fieldLink RX8 26 "SleptMatters$Town" "alike" "[I") (List.mem_cons_of_mem _ (List.mem_append_left _ (List.mem_of_getElem? (i := 0) rfl)))) (fun _ h9 => h9) rfl dX8_soonestLike_13 ?_
    refine lv_iload_n hx hb dX8_soonestLike_16 rfl (lv_at hl 1 rfl) ?_
    refine va_iald hx hb hG.1 hP 1 0 rfl rfl (vp_in_nI (by omega) (by omega)) dX8_soonestLike_17 ?_
    refine tp_i (y := nI (al d)) (congrArg (cI al) (nI_clamp (n := d) (by omega))) ?_
    refine lv_isub hx hb dX8_soonestLike_18 ?_
    refine lv_bipush (v := 7) hx hb dX8_soonestLike_19 (by decide) ?_
    refine lv_iadd hx hb dX8_soonestLike_21 ?_
    refine tp_i (y := nI (d + 7 - al d)) (sub_add7 (by omega)) ?_
    refine lv_goto (tgt := 26) hx hb dX8_soonestLike_22 (by decide) ?_
    exact W.iret (v := nI (d + 7 - al d)) hx hb hr (fun t9 ht _ => ⟨nI (d + 7 - al d), rfl, congrArg nI e9.symm, ht⟩) (fun q h => by cases h) dX8_soonestLike_26

abbrev c_X8_bedsOf (k : Nat → ClassId) (h : Nat) (t : Nat) (tn : Nat) (tl : Nat) (tc : Nat) (ta : Nat) (rw : Nat → Nat) (q : Nat → Nat) (G0 : Nat → Int32) (sset : Int32) : va_W := [(h, .inr (8, [.ref t, .ref tn, .ref tl, .ref tc, .ref ta])), (t, .inl (k 0, 4, .inl (cI q))), (tn, .inl (k 4, 4, .inr (.inr (.inr (.inr (gr4 rw)))))), ((rw 0), .inl (k 0, 80, .inl G0))]
abbrev r_X8_bedsOf : Room := { frames := 2, cells := 0, slots := 0, locals := 45 }
abbrev q_X8_bedsOf (k : Nat → ClassId) (h : Nat) (t : Nat) (tn : Nat) (tl : Nat) (tc : Nat) (ta : Nat) (rw : Nat → Nat) (q : Nat → Nat) (G0 : Nat → Int32) (sset : Int32) : Array Value → State → Outcome → State → Prop := vp_Si (fun r => r = bdS G0 sset (q 0))
set_option maxHeartbeats 2000000 in
set_option maxRecDepth 100000 in
theorem X8_bedsOf (l : Launch) (D : va_G) (k : Nat → ClassId) (h : Nat) (t : Nat) (tn : Nat) (tl : Nat) (tc : Nat) (ta : Nat) (rw : Nat → Nat) (q : Nat → Nat) (G0 : Nat → Int32) (sset : Int32) (hq0 : q 0 ≤ 7) : Met l yX8_bedsOf wsX8_bedsOf r_X8_bedsOf (va_Pc [.ref h, .int sset] (PS D k (c_X8_bedsOf k h t tn tl tc ta rw q G0 sset))) (q_X8_bedsOf k h t tn tl tc ta rw q G0 sset) 0 0 (fun _ => False) := by
  refine Met.ofW (cc := cX8_bedsOf) (maxL := 4) (ret := (some .int)) (by decide) rfl ?_
  intro p e s m args below meth c s₁ B hml hv
  obtain ⟨rfl, hP, hG⟩ := hv
  have hx := B.exec
  have hb := B.bytes
  have hr := B.returns
  have hts := atoms_spec (ws := wsX8_bedsOf) B.pre
  have hown : s.vm.findClass RX8 = some m.cls := findClass_of_methodNamed B.named
  have hlocks := B.notSynchronized
  have hi8 : ∀ w ∈ wsX80, w ∈ wsX8_bedsOf := fun _ h => List.mem_cons_of_mem _ (List.mem_append_right _ h)
  have hP : va_P D vwCl [(h, .inr (8, [.ref t, .ref tn, .ref tl, .ref tc, .ref ta])), (t, .inl (k 0, 4, .inl (cI q))), (tn, .inl (k 4, 4, .inr (.inr (.inr (.inr (gr4 rw)))))), ((rw 0), .inl (k 0, 80, .inl G0))] s.heap := hP
  have hl := lv_entry ([.ref h, .int sset]) (n := 4) (Nat.le_of_ble_eq_true rfl)
  rw [lg_entry_eq]
  generalize (lg_sl ([.ref h, .int sset]) ++ List.replicate (4 - (lg_sl ([.ref h, .int sset])).length) Slot.unset).toArray = ls at hl ⊢
  have hl : lv_has ls 4 [(0, .ref h), (1, .int sset)] := hl
  refine lv_iconst (v := 0) hx hb dX8_bedsOf_0 (by decide) ?_
  refine lv_istore_n (lv' := [(2, .int 0), (0, .ref h), (1, .int sset)]) hx hb dX8_bedsOf_1 rfl hl (by decide) rfl (fun ls hl => ?_)
  refine lv_iconst (v := 0) hx hb dX8_bedsOf_2 (by decide) ?_
  refine lv_istore_n (lv' := [(3, .int 0), (2, .int 0), (0, .ref h), (1, .int sset)]) hx hb dX8_bedsOf_3 rfl hl (by decide) rfl (fun ls hl => ?_)
  have L1 : ∀ (fu9 : Nat) (i : Nat), (i ≤ q 0) → q 0 - i < fu9 → ∀ (ls : Array Slot), lv_has ls 4 [(3, .int (nI i)), (2, .int (bdS G0 sset i)), (0, .ref h), (1, .int sset)] → W p l e r_X8_bedsOf s m ([.ref h, .int sset] : List Value).toArray below meth c s.heap [] 0 0 (MQ below (q_X8_bedsOf k h t tn tl tc ta rw q G0 sset) ([.ref h, .int sset] : List Value).toArray s 0 0 (fun _ => False)) (F0 m 4 ls []) := by
    intro fu9
    induction fu9 with
    | zero => intro i hi hmu; exact absurd hmu (Nat.not_lt_zero _)
    | succ fu9 ih =>
      intro i hi hmu ls hl
      refine lv_iload_n hx hb dX8_bedsOf_4 rfl (lv_at hl 0 rfl) ?_
      refine lv_aload_n hx hb dX8_bedsOf_5 rfl (lv_at hl 2 rfl) ?_
      refine va_get (D := D) (ci := 8) (v := .ref t) (C := RX8) (T := TX8) (N := 5) hx hb hts hi8 hown hG.1 hP 0 rfl rfl 0 (by decide) (hts (.fieldLink RX8 9 "SleptMatters$Town" "counts" "[I") (List.mem_cons_of_mem _ (List.mem_append_left _ (List.mem_of_getElem? (i := 0) rfl)))) (fun _ h9 => h9) rfl dX8_bedsOf_6 ?_
      refine lv_iconst (v := 0) hx hb dX8_bedsOf_9 (by decide) ?_
      refine va_iald hx hb hG.1 hP 1 0 rfl rfl (vp_in_nI (n := 0) (by omega) (by omega)) dX8_bedsOf_10 ?_
      refine tp_i (y := nI (q 0)) (congrArg (cI q) (show ((0 : Int32)).toNatClampNeg = 0 from rfl)) ?_
      refine bn_ge (i := i) (j := q 0) (tgt := 38) hx hb dX8_bedsOf_11 (by decide) (by omega) (by omega) (fun c2 => ?_) (fun c2 => ?_)
      · skip
        have hiN : i = q 0 := by omega
        refine lv_iload_n hx hb dX8_bedsOf_38 rfl (lv_at hl 1 rfl) ?_
        exact W.iret (v := bdS G0 sset i) hx hb hr (fun t9 ht _ => ⟨bdS G0 sset i, rfl, congrArg (bdS G0 sset) hiN, ht⟩) (fun q h => by cases h) dX8_bedsOf_39
      · skip
        refine lv_iload_n hx hb dX8_bedsOf_14 rfl (lv_at hl 3 rfl) ?_
        refine lv_iload_n hx hb dX8_bedsOf_15 rfl (lv_at hl 0 rfl) ?_
        have hPc := hP.sub (ws' := (c_X9_isIn k sset (nI i))) [] rfl
        refine vp_callSi (va_Run.run (va_runSN (As := [.int sset, .int (nI i)]) (rest := []) ⟨hx, hb, hml, hown, hts⟩ (X9_isIn l D k sset (nI i) ) ⟨(va_cnB (own := RX8) (index := 135) (y := yX9_isIn) (host := RX9) 2 hts ggX8_bedsOf_X9_isIn rfl rfl rfl (hG.2.1 _ (List.mem_of_getElem? (i := 10) rfl)) (hts (.initialized RX9) (List.mem_cons_of_mem _ (List.mem_append_left _ (List.mem_of_getElem? (i := 2) rfl)))) (by decide +kernel) ⟨Nat.le_of_ble_eq_true rfl, Nat.le_of_ble_eq_true rfl⟩), hts (.static yX9_isIn) (List.mem_cons_of_mem _ (List.mem_append_left _ (List.mem_of_getElem? (i := 1) rfl))), trivial⟩ ⟨PS.blind _ _ _ _, PS.pre hPc hG [.int sset, .int (nI i)]⟩ rfl rfl hl.1 rfl (lv_room (Nat.le_of_ble_eq_true rfl)) dX8_bedsOf_16 ⟨Nat.le_of_ble_eq_true rfl, Nat.le_of_ble_eq_true rfl⟩)) (fun r hq => ?_)
        generalize r = y3 at hq ⊢
        have hq : y3 = inS sset (nI i) := hq
        refine tp_i (y := inS sset (nI i)) (hq) ?_
        refine lv_if_eq (x := inS sset (nI i)) (tgt := 32) hx hb dX8_bedsOf_19 (by decide) (fun c4 => ?_) (fun c4 => ?_)
        · skip
          have e9 : bdS G0 sset (i + 1) = bdS G0 sset i := if_pos c4
          refine lv_iinc (v := nI (i + 1)) (lv' := [(3, .int (nI (i + 1))), (2, .int (bdS G0 sset i)), (0, .ref h), (1, .int sset)]) hx hb dX8_bedsOf_32 hl (k := 0) rfl (nI_add i 1) (by decide) rfl (fun ls hl => ?_)
          refine lv_goto (tgt := 4) hx hb dX8_bedsOf_35 (by decide) ?_
          rw [← e9] at hl
          exact ih (i + 1) (by omega) (by omega) ls (lv_sub hl [0, 1, 2, 3] rfl)
        · skip
          have e9 : bdS G0 sset (i + 1) = bdS G0 sset i + G0 (i * 4 + 1) := if_neg c4
          refine lv_iload_n hx hb dX8_bedsOf_22 rfl (lv_at hl 1 rfl) ?_
          refine lv_aload_n hx hb dX8_bedsOf_23 rfl (lv_at hl 2 rfl) ?_
          refine lv_iconst (v := 0) hx hb dX8_bedsOf_24 (by decide) ?_
          refine lv_iload_n hx hb dX8_bedsOf_25 rfl (lv_at hl 0 rfl) ?_
          refine lv_iconst (v := 1) hx hb dX8_bedsOf_26 (by decide) ?_
          have hPc := hP.sub (ws' := (c_X8_part0 k h t tn tl tc ta rw q G0 (nI i) 1)) [0, 1, 2, 3] rfl
          refine vp_callSi (va_Run.run (va_runV (As := [.int 0, .int (nI i), .int 1]) (rest := [.int (bdS G0 sset i)]) ⟨hx, hb, hml, hown, hts⟩ (X8_part0 l D k h t tn tl tc ta rw q G0 (nI i) 1 (by omega) (by decide)) (cwV 3 hts gX8_bedsOf_X8_part rfl rfl rfl (by decide +kernel) ⟨Nat.le_of_ble_eq_true rfl, Nat.le_of_ble_eq_true rfl⟩) ⟨PS.blind _ _ _ _, va_recv hG.1 hP (ci := 8) (q0 := 0) rfl rfl, PS.pre hPc hG [.ref h, .int 0, .int (nI i), .int 1]⟩ rfl rfl hl.1 rfl (lv_room (Nat.le_of_ble_eq_true rfl)) dX8_bedsOf_27 ⟨Nat.le_of_ble_eq_true rfl, Nat.le_of_ble_eq_true rfl⟩)) (fun r hq => ?_)
          generalize r = y5 at hq ⊢
          have hq : y5 = pt (q 0) G0 (nI i) 1 := hq
          refine tp_i (y := G0 (i * 4 + 1)) (hq.trans (pt_in (by omega) (by omega))) ?_
          refine lv_iadd hx hb dX8_bedsOf_30 ?_
          refine tp_i (y := bdS G0 sset (i + 1)) (e9.symm) ?_
          refine lv_istore_n (lv' := [(2, .int (bdS G0 sset (i + 1))), (3, .int (nI i)), (0, .ref h), (1, .int sset)]) hx hb dX8_bedsOf_31 rfl hl (by decide) rfl (fun ls hl => ?_)
          refine lv_iinc (v := nI (i + 1)) (lv' := [(3, .int (nI (i + 1))), (2, .int (bdS G0 sset (i + 1))), (0, .ref h), (1, .int sset)]) hx hb dX8_bedsOf_32 hl (k := 1) rfl (nI_add i 1) (by decide) rfl (fun ls hl => ?_)
          refine lv_goto (tgt := 4) hx hb dX8_bedsOf_35 (by decide) ?_
          exact ih (i + 1) (by omega) (by omega) ls (lv_sub hl [0, 1, 2, 3] rfl)
  exact L1 _ 0 (Nat.zero_le _) (Nat.lt_succ_self _) ls (lv_sub hl [0, 1, 2, 3] rfl)

abbrev c_X8_roomiestOf (k : Nat → ClassId) (h : Nat) (t : Nat) (tn : Nat) (tl : Nat) (tc : Nat) (ta : Nat) (rw : Nat → Nat) (q : Nat → Nat) (G0 : Nat → Int32) (sset : Int32) : va_W := [(h, .inr (8, [.ref t, .ref tn, .ref tl, .ref tc, .ref ta])), (t, .inl (k 0, 4, .inl (cI q))), (tn, .inl (k 4, 4, .inr (.inr (.inr (.inr (gr4 rw)))))), ((rw 0), .inl (k 0, 80, .inl G0))]
abbrev r_X8_roomiestOf : Room := { frames := 2, cells := 0, slots := 0, locals := 45 }
abbrev q_X8_roomiestOf (k : Nat → ClassId) (h : Nat) (t : Nat) (tn : Nat) (tl : Nat) (tc : Nat) (ta : Nat) (rw : Nat → Nat) (q : Nat → Nat) (G0 : Nat → Int32) (sset : Int32) : Array Value → State → Outcome → State → Prop := vp_Si (fun r => r = rmS (q 0) G0 sset (q 0))
set_option maxHeartbeats 2000000 in
set_option maxRecDepth 100000 in
theorem X8_roomiestOf (l : Launch) (D : va_G) (k : Nat → ClassId) (h : Nat) (t : Nat) (tn : Nat) (tl : Nat) (tc : Nat) (ta : Nat) (rw : Nat → Nat) (q : Nat → Nat) (G0 : Nat → Int32) (sset : Int32) (hq0 : q 0 ≤ 7) : Met l yX8_roomiestOf wsX8_roomiestOf r_X8_roomiestOf (va_Pc [.ref h, .int sset] (PS D k (c_X8_roomiestOf k h t tn tl tc ta rw q G0 sset))) (q_X8_roomiestOf k h t tn tl tc ta rw q G0 sset) 0 0 (fun _ => False) := by
  refine Met.ofW (cc := cX8_roomiestOf) (maxL := 4) (ret := (some .int)) (by decide) rfl ?_
  intro p e s m args below meth c s₁ B hml hv
  obtain ⟨rfl, hP, hG⟩ := hv
  have hx := B.exec
  have hb := B.bytes
  have hr := B.returns
  have hts := atoms_spec (ws := wsX8_roomiestOf) B.pre
  have hown : s.vm.findClass RX8 = some m.cls := findClass_of_methodNamed B.named
  have hlocks := B.notSynchronized
  have hi8 : ∀ w ∈ wsX80, w ∈ wsX8_roomiestOf := fun _ h => List.mem_cons_of_mem _ (List.mem_append_right _ h)
  have hP : va_P D vwCl [(h, .inr (8, [.ref t, .ref tn, .ref tl, .ref tc, .ref ta])), (t, .inl (k 0, 4, .inl (cI q))), (tn, .inl (k 4, 4, .inr (.inr (.inr (.inr (gr4 rw)))))), ((rw 0), .inl (k 0, 80, .inl G0))] s.heap := hP
  have hl := lv_entry ([.ref h, .int sset]) (n := 4) (Nat.le_of_ble_eq_true rfl)
  rw [lg_entry_eq]
  generalize (lg_sl ([.ref h, .int sset]) ++ List.replicate (4 - (lg_sl ([.ref h, .int sset])).length) Slot.unset).toArray = ls at hl ⊢
  have hl : lv_has ls 4 [(0, .ref h), (1, .int sset)] := hl
  refine lv_iconst (v := (-1)) hx hb dX8_roomiestOf_0 (by decide) ?_
  refine lv_istore_n (lv' := [(2, .int (-1)), (0, .ref h), (1, .int sset)]) hx hb dX8_roomiestOf_1 rfl hl (by decide) rfl (fun ls hl => ?_)
  refine lv_iconst (v := 0) hx hb dX8_roomiestOf_2 (by decide) ?_
  refine lv_istore_n (lv' := [(3, .int 0), (2, .int (-1)), (0, .ref h), (1, .int sset)]) hx hb dX8_roomiestOf_3 rfl hl (by decide) rfl (fun ls hl => ?_)
  have L1 : ∀ (fu9 : Nat) (i : Nat), (i ≤ q 0) → q 0 - i < fu9 → ∀ (ls : Array Slot), lv_has ls 4 [(3, .int (nI i)), (2, .int (rmS (q 0) G0 sset i)), (0, .ref h), (1, .int sset)] → W p l e r_X8_roomiestOf s m ([.ref h, .int sset] : List Value).toArray below meth c s.heap [] 0 0 (MQ below (q_X8_roomiestOf k h t tn tl tc ta rw q G0 sset) ([.ref h, .int sset] : List Value).toArray s 0 0 (fun _ => False)) (F0 m 4 ls []) := by
    intro fu9
    induction fu9 with
    | zero => intro i hi hmu; exact absurd hmu (Nat.not_lt_zero _)
    | succ fu9 ih =>
      intro i hi hmu ls hl
      refine lv_iload_n hx hb dX8_roomiestOf_4 rfl (lv_at hl 0 rfl) ?_
      refine lv_aload_n hx hb dX8_roomiestOf_5 rfl (lv_at hl 2 rfl) ?_
      refine va_get (D := D) (ci := 8) (v := .ref t) (C := RX8) (T := TX8) (N := 5) hx hb hts hi8 hown hG.1 hP 0 rfl rfl 0 (by decide) (hts (.fieldLink RX8 9 "SleptMatters$Town" "counts" "[I") (List.mem_cons_of_mem _ (List.mem_append_left _ (List.mem_of_getElem? (i := 0) rfl)))) (fun _ h9 => h9) rfl dX8_roomiestOf_6 ?_
      refine lv_iconst (v := 0) hx hb dX8_roomiestOf_9 (by decide) ?_
      refine va_iald hx hb hG.1 hP 1 0 rfl rfl (vp_in_nI (n := 0) (by omega) (by omega)) dX8_roomiestOf_10 ?_
      refine tp_i (y := nI (q 0)) (congrArg (cI q) (show ((0 : Int32)).toNatClampNeg = 0 from rfl)) ?_
      refine bn_ge (i := i) (j := q 0) (tgt := 47) hx hb dX8_roomiestOf_11 (by decide) (by omega) (by omega) (fun c2 => ?_) (fun c2 => ?_)
      · skip
        have hiN : i = q 0 := by omega
        refine lv_iload_n hx hb dX8_roomiestOf_47 rfl (lv_at hl 1 rfl) ?_
        exact W.iret (v := rmS (q 0) G0 sset i) hx hb hr (fun t9 ht _ => ⟨rmS (q 0) G0 sset i, rfl, congrArg (rmS (q 0) G0 sset) hiN, ht⟩) (fun q h => by cases h) dX8_roomiestOf_48
      · skip
        refine lv_iload_n hx hb dX8_roomiestOf_14 rfl (lv_at hl 3 rfl) ?_
        refine lv_iload_n hx hb dX8_roomiestOf_15 rfl (lv_at hl 0 rfl) ?_
        have hPc := hP.sub (ws' := (c_X9_isIn k sset (nI i))) [] rfl
        refine vp_callSi (va_Run.run (va_runSN (As := [.int sset, .int (nI i)]) (rest := []) ⟨hx, hb, hml, hown, hts⟩ (X9_isIn l D k sset (nI i) ) ⟨(va_cnB (own := RX8) (index := 135) (y := yX9_isIn) (host := RX9) 2 hts ggX8_roomiestOf_X9_isIn rfl rfl rfl (hG.2.1 _ (List.mem_of_getElem? (i := 10) rfl)) (hts (.initialized RX9) (List.mem_cons_of_mem _ (List.mem_append_left _ (List.mem_of_getElem? (i := 2) rfl)))) (by decide +kernel) ⟨Nat.le_of_ble_eq_true rfl, Nat.le_of_ble_eq_true rfl⟩), hts (.static yX9_isIn) (List.mem_cons_of_mem _ (List.mem_append_left _ (List.mem_of_getElem? (i := 1) rfl))), trivial⟩ ⟨PS.blind _ _ _ _, PS.pre hPc hG [.int sset, .int (nI i)]⟩ rfl rfl hl.1 rfl (lv_room (Nat.le_of_ble_eq_true rfl)) dX8_roomiestOf_16 ⟨Nat.le_of_ble_eq_true rfl, Nat.le_of_ble_eq_true rfl⟩)) (fun r hq => ?_)
        generalize r = y3 at hq ⊢
        have hq : y3 = inS sset (nI i) := hq
        refine tp_i (y := inS sset (nI i)) (hq) ?_
        refine lv_if_eq (x := inS sset (nI i)) (tgt := 41) hx hb dX8_roomiestOf_19 (by decide) (fun c4 => ?_) (fun c4 => ?_)
        · skip
          have e9 : rmS (q 0) G0 sset (i + 1) = rmS (q 0) G0 sset i := if_pos c4
          refine lv_iinc (v := nI (i + 1)) (lv' := [(3, .int (nI (i + 1))), (2, .int (rmS (q 0) G0 sset i)), (0, .ref h), (1, .int sset)]) hx hb dX8_roomiestOf_41 hl (k := 0) rfl (nI_add i 1) (by decide) rfl (fun ls hl => ?_)
          refine lv_goto (tgt := 4) hx hb dX8_roomiestOf_44 (by decide) ?_
          rw [← e9] at hl
          exact ih (i + 1) (by omega) (by omega) ls (lv_sub hl [0, 1, 2, 3] rfl)
        · skip
          have k1 := c4
          refine lv_aload_n hx hb dX8_roomiestOf_22 rfl (lv_at hl 2 rfl) ?_
          refine lv_iconst (v := 0) hx hb dX8_roomiestOf_23 (by decide) ?_
          refine lv_iload_n hx hb dX8_roomiestOf_24 rfl (lv_at hl 0 rfl) ?_
          refine lv_iconst (v := 1) hx hb dX8_roomiestOf_25 (by decide) ?_
          have hPc := hP.sub (ws' := (c_X8_part0 k h t tn tl tc ta rw q G0 (nI i) 1)) [0, 1, 2, 3] rfl
          refine vp_callSi (va_Run.run (va_runV (As := [.int 0, .int (nI i), .int 1]) (rest := []) ⟨hx, hb, hml, hown, hts⟩ (X8_part0 l D k h t tn tl tc ta rw q G0 (nI i) 1 (by omega) (by decide)) (cwV 3 hts gX8_roomiestOf_X8_part rfl rfl rfl (by decide +kernel) ⟨Nat.le_of_ble_eq_true rfl, Nat.le_of_ble_eq_true rfl⟩) ⟨PS.blind _ _ _ _, va_recv hG.1 hP (ci := 8) (q0 := 0) rfl rfl, PS.pre hPc hG [.ref h, .int 0, .int (nI i), .int 1]⟩ rfl rfl hl.1 rfl (lv_room (Nat.le_of_ble_eq_true rfl)) dX8_roomiestOf_26 ⟨Nat.le_of_ble_eq_true rfl, Nat.le_of_ble_eq_true rfl⟩)) (fun r hq => ?_)
          generalize r = y5 at hq ⊢
          have hq : y5 = pt (q 0) G0 (nI i) 1 := hq
          refine tp_i (y := G0 (i * 4 + 1)) (hq.trans (pt_in (by omega) (by omega))) ?_
          refine lv_aload_n hx hb dX8_roomiestOf_29 rfl (lv_at hl 2 rfl) ?_
          refine lv_iconst (v := 0) hx hb dX8_roomiestOf_30 (by decide) ?_
          refine lv_iload_n hx hb dX8_roomiestOf_31 rfl (lv_at hl 1 rfl) ?_
          refine lv_iconst (v := 1) hx hb dX8_roomiestOf_32 (by decide) ?_
          have hPc := hP.sub (ws' := (c_X8_part0 k h t tn tl tc ta rw q G0 (rmS (q 0) G0 sset i) 1)) [0, 1, 2, 3] rfl
          refine vp_callSi (va_Run.run (va_runV (As := [.int 0, .int (rmS (q 0) G0 sset i), .int 1]) (rest := [.int (G0 (i * 4 + 1))]) ⟨hx, hb, hml, hown, hts⟩ (X8_part0 l D k h t tn tl tc ta rw q G0 (rmS (q 0) G0 sset i) 1 (by omega) (by decide)) (cwV 3 hts gX8_roomiestOf_X8_part rfl rfl rfl (by decide +kernel) ⟨Nat.le_of_ble_eq_true rfl, Nat.le_of_ble_eq_true rfl⟩) ⟨PS.blind _ _ _ _, va_recv hG.1 hP (ci := 8) (q0 := 0) rfl rfl, PS.pre hPc hG [.ref h, .int 0, .int (rmS (q 0) G0 sset i), .int 1]⟩ rfl rfl hl.1 rfl (lv_room (Nat.le_of_ble_eq_true rfl)) dX8_roomiestOf_33 ⟨Nat.le_of_ble_eq_true rfl, Nat.le_of_ble_eq_true rfl⟩)) (fun r hq => ?_)
          generalize r = y6 at hq ⊢
          have hq : y6 = pt (q 0) G0 (rmS (q 0) G0 sset i) 1 := hq
          refine tp_i (y := pt (q 0) G0 (rmS (q 0) G0 sset i) 1) (hq) ?_
          refine lv_icmp_le (x := G0 (i * 4 + 1)) (y := pt (q 0) G0 (rmS (q 0) G0 sset i) 1) (tgt := 41) hx hb dX8_roomiestOf_36 (by decide) (fun c7 => ?_) (fun c7 => ?_)
          · skip
            have e9 : rmS (q 0) G0 sset (i + 1) = rmS (q 0) G0 sset i := (if_neg k1).trans (if_pos c7)
            refine lv_iinc (v := nI (i + 1)) (lv' := [(3, .int (nI (i + 1))), (2, .int (rmS (q 0) G0 sset i)), (0, .ref h), (1, .int sset)]) hx hb dX8_roomiestOf_41 hl (k := 0) rfl (nI_add i 1) (by decide) rfl (fun ls hl => ?_)
            refine lv_goto (tgt := 4) hx hb dX8_roomiestOf_44 (by decide) ?_
            rw [← e9] at hl
            exact ih (i + 1) (by omega) (by omega) ls (lv_sub hl [0, 1, 2, 3] rfl)
          · skip
            have e9 : rmS (q 0) G0 sset (i + 1) = nI i := (if_neg k1).trans (if_neg c7)
            refine lv_iload_n hx hb dX8_roomiestOf_39 rfl (lv_at hl 0 rfl) ?_
            refine tp_i (y := rmS (q 0) G0 sset (i + 1)) (e9.symm) ?_
            refine lv_istore_n (lv' := [(2, .int (rmS (q 0) G0 sset (i + 1))), (3, .int (nI i)), (0, .ref h), (1, .int sset)]) hx hb dX8_roomiestOf_40 rfl hl (by decide) rfl (fun ls hl => ?_)
            refine lv_iinc (v := nI (i + 1)) (lv' := [(3, .int (nI (i + 1))), (2, .int (rmS (q 0) G0 sset (i + 1))), (0, .ref h), (1, .int sset)]) hx hb dX8_roomiestOf_41 hl (k := 1) rfl (nI_add i 1) (by decide) rfl (fun ls hl => ?_)
            refine lv_goto (tgt := 4) hx hb dX8_roomiestOf_44 (by decide) ?_
            exact ih (i + 1) (by omega) (by omega) ls (lv_sub hl [0, 1, 2, 3] rfl)
  exact L1 _ 0 (Nat.zero_le _) (Nat.lt_succ_self _) ls (lv_sub hl [0, 1, 2, 3] rfl)
