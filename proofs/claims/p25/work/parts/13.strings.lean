theorem dJ0_coder_7d493_0 : decode cJ0_coder_7d493 0 = .ok (.getstatic 38, 3) := dc_Bk (by decide +kernel)
theorem dJ0_coder_7d493_3 : decode cJ0_coder_7d493 3 = .ok (.ifCond .eq 10, 3) := dc_Bk (by decide +kernel)
theorem dJ0_coder_7d493_6 : decode cJ0_coder_7d493 6 = .ok (.aload_n 0, 1) := dc_Bk (by decide +kernel)
theorem dJ0_coder_7d493_7 : decode cJ0_coder_7d493 7 = .ok (.getfield 15, 3) := dc_Bk (by decide +kernel)
theorem dJ0_coder_7d493_10 : decode cJ0_coder_7d493 10 = .ok (.goto 4, 3) := dc_Bk (by decide +kernel)
theorem dJ0_coder_7d493_13 : decode cJ0_coder_7d493 13 = .ok (.iconst 1, 1) := dc_Bk (by decide +kernel)
theorem dJ0_coder_7d493_14 : decode cJ0_coder_7d493 14 = .ok (.ireturn, 1) := dc_Bk (by decide +kernel)
set_option maxRecDepth 20000 in
theorem ggJ0_length_8abf5_J0_coder_7d493 : GoodIn wsJ0_length_8abf5 wsJ0_coder_7d493 := goodIn_r _ [6, 7, 8] rfl (by decide +kernel)
set_option maxRecDepth 20000 in
theorem gJ0_length_8abf5_J0_coder_7d493 : GoodIn wsJ0_length_8abf5 (wsV RJ0 335 RJ0 yJ0_coder_7d493 wsJ0_coder_7d493) := goodIn_app (goodIn_of _ (by decide +kernel)) ggJ0_length_8abf5_J0_coder_7d493
theorem dJ0_length_8abf5_0 : decode cJ0_length_8abf5 0 = .ok (.aload_n 0, 1) := dc_Bk (by decide +kernel)
theorem dJ0_length_8abf5_1 : decode cJ0_length_8abf5 1 = .ok (.getfield 9, 3) := dc_Bk (by decide +kernel)
theorem dJ0_length_8abf5_4 : decode cJ0_length_8abf5 4 = .ok (.arraylength, 1) := dc_Bk (by decide +kernel)
theorem dJ0_length_8abf5_5 : decode cJ0_length_8abf5 5 = .ok (.aload_n 0, 1) := dc_Bk (by decide +kernel)
theorem dJ0_length_8abf5_6 : decode cJ0_length_8abf5 6 = .ok (.invokevirtual 335, 3) := dc_Bk (by decide +kernel)
theorem dJ0_length_8abf5_9 : decode cJ0_length_8abf5 9 = .ok (.ishr, 1) := dc_Bk (by decide +kernel)
theorem dJ0_length_8abf5_10 : decode cJ0_length_8abf5 10 = .ok (.ireturn, 1) := dc_Bk (by decide +kernel)
theorem dJ0_isLatin1_aae02_0 : decode cJ0_isLatin1_aae02 0 = .ok (.getstatic 38, 3) := dc_Bk (by decide +kernel)
theorem dJ0_isLatin1_aae02_3 : decode cJ0_isLatin1_aae02 3 = .ok (.ifCond .eq 14, 3) := dc_Bk (by decide +kernel)
theorem dJ0_isLatin1_aae02_6 : decode cJ0_isLatin1_aae02 6 = .ok (.aload_n 0, 1) := dc_Bk (by decide +kernel)
theorem dJ0_isLatin1_aae02_7 : decode cJ0_isLatin1_aae02 7 = .ok (.getfield 15, 3) := dc_Bk (by decide +kernel)
theorem dJ0_isLatin1_aae02_10 : decode cJ0_isLatin1_aae02 10 = .ok (.ifCond .ne 7, 3) := dc_Bk (by decide +kernel)
theorem dJ0_isLatin1_aae02_13 : decode cJ0_isLatin1_aae02 13 = .ok (.iconst 1, 1) := dc_Bk (by decide +kernel)
theorem dJ0_isLatin1_aae02_14 : decode cJ0_isLatin1_aae02 14 = .ok (.goto 4, 3) := dc_Bk (by decide +kernel)
theorem dJ0_isLatin1_aae02_17 : decode cJ0_isLatin1_aae02 17 = .ok (.iconst 0, 1) := dc_Bk (by decide +kernel)
theorem dJ0_isLatin1_aae02_18 : decode cJ0_isLatin1_aae02 18 = .ok (.ireturn, 1) := dc_Bk (by decide +kernel)
theorem dJ3_checkIndex_8e157_0 : decode cJ3_checkIndex_8e157 0 = .ok (.iload_n 0, 1) := dc_Bk (by decide +kernel)
theorem dJ3_checkIndex_8e157_1 : decode cJ3_checkIndex_8e157 1 = .ok (.ifCond .lt 8, 3) := dc_Bk (by decide +kernel)
theorem dJ3_checkIndex_8e157_4 : decode cJ3_checkIndex_8e157 4 = .ok (.iload_n 0, 1) := dc_Bk (by decide +kernel)
theorem dJ3_checkIndex_8e157_5 : decode cJ3_checkIndex_8e157 5 = .ok (.iload_n 1, 1) := dc_Bk (by decide +kernel)
theorem dJ3_checkIndex_8e157_6 : decode cJ3_checkIndex_8e157 6 = .ok (.if_icmp .lt 10, 3) := dc_Bk (by decide +kernel)
theorem dJ3_checkIndex_8e157_9 : decode cJ3_checkIndex_8e157 9 = .ok (.aload_n 2, 1) := dc_Bk (by decide +kernel)
theorem dJ3_checkIndex_8e157_10 : decode cJ3_checkIndex_8e157 10 = .ok (.iload_n 0, 1) := dc_Bk (by decide +kernel)
theorem dJ3_checkIndex_8e157_11 : decode cJ3_checkIndex_8e157 11 = .ok (.iload_n 1, 1) := dc_Bk (by decide +kernel)
theorem dJ3_checkIndex_8e157_12 : decode cJ3_checkIndex_8e157 12 = .ok (.invokestatic 95, 3) := dc_Bk (by decide +kernel)
theorem dJ3_checkIndex_8e157_15 : decode cJ3_checkIndex_8e157 15 = .ok (.athrow, 1) := dc_Bk (by decide +kernel)
theorem dJ3_checkIndex_8e157_16 : decode cJ3_checkIndex_8e157 16 = .ok (.iload_n 0, 1) := dc_Bk (by decide +kernel)
theorem dJ3_checkIndex_8e157_17 : decode cJ3_checkIndex_8e157 17 = .ok (.ireturn, 1) := dc_Bk (by decide +kernel)
set_option maxRecDepth 20000 in
theorem ggJ0_checkIndex_df160_J3_checkIndex_8e157 : GoodIn wsJ0_checkIndex_df160 wsJ3_checkIndex_8e157 := goodIn_r _ [5] rfl (by decide +kernel)
set_option maxRecDepth 20000 in
theorem gJ0_checkIndex_df160_J3_checkIndex_8e157 : GoodIn wsJ0_checkIndex_df160 (va_wsS RJ0 1059 yJ3_checkIndex_8e157 wsJ3_checkIndex_8e157) := goodIn_app (goodIn_of _ (by decide +kernel)) ggJ0_checkIndex_df160_J3_checkIndex_8e157
theorem dJ0_checkIndex_df160_0 : decode cJ0_checkIndex_df160 0 = .ok (.iload_n 0, 1) := dc_Bk (by decide +kernel)
theorem dJ0_checkIndex_df160_1 : decode cJ0_checkIndex_df160 1 = .ok (.iload_n 1, 1) := dc_Bk (by decide +kernel)
theorem dJ0_checkIndex_df160_2 : decode cJ0_checkIndex_df160 2 = .ok (.getstatic 1053, 3) := dc_Bk (by decide +kernel)
theorem dJ0_checkIndex_df160_5 : decode cJ0_checkIndex_df160 5 = .ok (.invokestatic 1059, 3) := dc_Bk (by decide +kernel)
theorem dJ0_checkIndex_df160_8 : decode cJ0_checkIndex_df160 8 = .ok (.pop, 1) := dc_Bk (by decide +kernel)
theorem dJ0_checkIndex_df160_9 : decode cJ0_checkIndex_df160 9 = .ok (.return_, 1) := dc_Bk (by decide +kernel)
set_option maxRecDepth 20000 in
theorem ggJ1_charAt_3b067_J0_checkIndex_df160 : GoodIn wsJ1_charAt_3b067 wsJ0_checkIndex_df160 := goodIn_r _ [4, 5, 6, 7, 8, 9] rfl (by decide +kernel)
set_option maxRecDepth 20000 in
theorem gJ1_charAt_3b067_J0_checkIndex_df160 : GoodIn wsJ1_charAt_3b067 (va_wsS RJ1 9 yJ0_checkIndex_df160 wsJ0_checkIndex_df160) := goodIn_app (goodIn_of _ (by decide +kernel)) ggJ1_charAt_3b067_J0_checkIndex_df160
theorem dJ1_charAt_3b067_0 : decode cJ1_charAt_3b067 0 = .ok (.iload_n 1, 1) := dc_Bk (by decide +kernel)
theorem dJ1_charAt_3b067_1 : decode cJ1_charAt_3b067 1 = .ok (.aload_n 0, 1) := dc_Bk (by decide +kernel)
theorem dJ1_charAt_3b067_2 : decode cJ1_charAt_3b067 2 = .ok (.arraylength, 1) := dc_Bk (by decide +kernel)
theorem dJ1_charAt_3b067_3 : decode cJ1_charAt_3b067 3 = .ok (.invokestatic 9, 3) := dc_Bk (by decide +kernel)
theorem dJ1_charAt_3b067_6 : decode cJ1_charAt_3b067 6 = .ok (.aload_n 0, 1) := dc_Bk (by decide +kernel)
theorem dJ1_charAt_3b067_7 : decode cJ1_charAt_3b067 7 = .ok (.iload_n 1, 1) := dc_Bk (by decide +kernel)
theorem dJ1_charAt_3b067_8 : decode cJ1_charAt_3b067 8 = .ok (.baload, 1) := dc_Bk (by decide +kernel)
theorem dJ1_charAt_3b067_9 : decode cJ1_charAt_3b067 9 = .ok (.sipush 255, 3) := dc_Bk (by decide +kernel)
theorem dJ1_charAt_3b067_12 : decode cJ1_charAt_3b067 12 = .ok (.iand, 1) := dc_Bk (by decide +kernel)
theorem dJ1_charAt_3b067_13 : decode cJ1_charAt_3b067 13 = .ok (.i2c, 1) := dc_Bk (by decide +kernel)
theorem dJ1_charAt_3b067_14 : decode cJ1_charAt_3b067 14 = .ok (.ireturn, 1) := dc_Bk (by decide +kernel)
set_option maxRecDepth 20000 in
theorem ggJ0_charAt_5068e_J0_isLatin1_aae02 : GoodIn wsJ0_charAt_5068e wsJ0_isLatin1_aae02 := goodIn_r _ [6, 7, 8] rfl (by decide +kernel)
set_option maxRecDepth 20000 in
theorem gJ0_charAt_5068e_J0_isLatin1_aae02 : GoodIn wsJ0_charAt_5068e (wsV RJ0 492 RJ0 yJ0_isLatin1_aae02 wsJ0_isLatin1_aae02) := goodIn_app (goodIn_of _ (by decide +kernel)) ggJ0_charAt_5068e_J0_isLatin1_aae02
set_option maxRecDepth 20000 in
theorem ggJ0_charAt_5068e_J1_charAt_3b067 : GoodIn wsJ0_charAt_5068e wsJ1_charAt_3b067 := goodIn_r _ [12, 13, 14, 5, 15, 16, 17, 18, 19, 20] rfl (by decide +kernel)
set_option maxRecDepth 20000 in
theorem gJ0_charAt_5068e_J1_charAt_3b067 : GoodIn wsJ0_charAt_5068e (va_wsS RJ0 495 yJ1_charAt_3b067 wsJ1_charAt_3b067) := goodIn_app (goodIn_of _ (by decide +kernel)) ggJ0_charAt_5068e_J1_charAt_3b067
set_option maxRecDepth 20000 in
theorem ggJ0_charAt_5068e_J2_charAt_3b067 : GoodIn wsJ0_charAt_5068e wsJ2_charAt_3b067 := goodIn_r _ [24, 25, 26, 23, 27, 28, 29, 30, 31, 14, 5, 15, 16, 17, 18, 19, 20, 32, 33, 34, 35, 36, 37] rfl (by decide +kernel)
set_option maxRecDepth 20000 in
theorem gJ0_charAt_5068e_J2_charAt_3b067 : GoodIn wsJ0_charAt_5068e (va_wsS RJ0 498 yJ2_charAt_3b067 wsJ2_charAt_3b067) := goodIn_app (goodIn_of _ (by decide +kernel)) ggJ0_charAt_5068e_J2_charAt_3b067
theorem dJ0_charAt_5068e_0 : decode cJ0_charAt_5068e 0 = .ok (.aload_n 0, 1) := dc_Bk (by decide +kernel)
theorem dJ0_charAt_5068e_1 : decode cJ0_charAt_5068e 1 = .ok (.invokevirtual 492, 3) := dc_Bk (by decide +kernel)
theorem dJ0_charAt_5068e_4 : decode cJ0_charAt_5068e 4 = .ok (.ifCond .eq 12, 3) := dc_Bk (by decide +kernel)
theorem dJ0_charAt_5068e_7 : decode cJ0_charAt_5068e 7 = .ok (.aload_n 0, 1) := dc_Bk (by decide +kernel)
theorem dJ0_charAt_5068e_8 : decode cJ0_charAt_5068e 8 = .ok (.getfield 9, 3) := dc_Bk (by decide +kernel)
theorem dJ0_charAt_5068e_11 : decode cJ0_charAt_5068e 11 = .ok (.iload_n 1, 1) := dc_Bk (by decide +kernel)
theorem dJ0_charAt_5068e_12 : decode cJ0_charAt_5068e 12 = .ok (.invokestatic 495, 3) := dc_Bk (by decide +kernel)
theorem dJ0_charAt_5068e_15 : decode cJ0_charAt_5068e 15 = .ok (.ireturn, 1) := dc_Bk (by decide +kernel)
theorem dJ0_charAt_5068e_16 : decode cJ0_charAt_5068e 16 = .ok (.aload_n 0, 1) := dc_Bk (by decide +kernel)
theorem dJ0_charAt_5068e_17 : decode cJ0_charAt_5068e 17 = .ok (.getfield 9, 3) := dc_Bk (by decide +kernel)
theorem dJ0_charAt_5068e_20 : decode cJ0_charAt_5068e 20 = .ok (.iload_n 1, 1) := dc_Bk (by decide +kernel)
theorem dJ0_charAt_5068e_21 : decode cJ0_charAt_5068e 21 = .ok (.invokestatic 498, 3) := dc_Bk (by decide +kernel)
theorem dJ0_charAt_5068e_24 : decode cJ0_charAt_5068e 24 = .ok (.ireturn, 1) := dc_Bk (by decide +kernel)
set_option maxRecDepth 20000 in
theorem ggX7_isWord_J0_length_8abf5 : GoodIn wsX7_isWord wsJ0_length_8abf5 := goodIn_r _ [8, 9, 10, 11, 12, 7, 13, 14, 15] rfl (by decide +kernel)
set_option maxRecDepth 20000 in
theorem gX7_isWord_J0_length_8abf5 : GoodIn wsX7_isWord (wsV RX7 50 RJ0 yJ0_length_8abf5 wsJ0_length_8abf5) := goodIn_app (goodIn_of _ (by decide +kernel)) ggX7_isWord_J0_length_8abf5
set_option maxRecDepth 20000 in
theorem ggX7_isWord_J0_charAt_5068e : GoodIn wsX7_isWord wsJ0_charAt_5068e := goodIn_r _ [19, 9, 20, 21, 22, 7, 23, 14, 15, 24, 25, 26, 27, 28, 29, 30, 31, 32, 33, 34, 35, 36, 37, 38, 39, 40, 41, 42, 43, 44, 45, 46, 47, 48, 49, 50, 51, 52] rfl (by decide +kernel)
set_option maxRecDepth 20000 in
theorem gX7_isWord_J0_charAt_5068e : GoodIn wsX7_isWord (wsV RX7 56 RJ0 yJ0_charAt_5068e wsJ0_charAt_5068e) := goodIn_app (goodIn_of _ (by decide +kernel)) ggX7_isWord_J0_charAt_5068e
theorem dX7_isWord_0 : decode cX7_isWord 0 = .ok (.aload_n 0, 1) := dc_Bk (by decide +kernel)
theorem dX7_isWord_1 : decode cX7_isWord 1 = .ok (.getfield 31, 3) := dc_Bk (by decide +kernel)
theorem dX7_isWord_4 : decode cX7_isWord 4 = .ok (.aload_n 0, 1) := dc_Bk (by decide +kernel)
theorem dX7_isWord_5 : decode cX7_isWord 5 = .ok (.getfield 19, 3) := dc_Bk (by decide +kernel)
theorem dX7_isWord_8 : decode cX7_isWord 8 = .ok (.isub, 1) := dc_Bk (by decide +kernel)
theorem dX7_isWord_9 : decode cX7_isWord 9 = .ok (.aload_n 1, 1) := dc_Bk (by decide +kernel)
theorem dX7_isWord_10 : decode cX7_isWord 10 = .ok (.invokevirtual 50, 3) := dc_Bk (by decide +kernel)
theorem dX7_isWord_13 : decode cX7_isWord 13 = .ok (.if_icmp .eq 5, 3) := dc_Bk (by decide +kernel)
theorem dX7_isWord_16 : decode cX7_isWord 16 = .ok (.iconst 0, 1) := dc_Bk (by decide +kernel)
theorem dX7_isWord_17 : decode cX7_isWord 17 = .ok (.ireturn, 1) := dc_Bk (by decide +kernel)
theorem dX7_isWord_18 : decode cX7_isWord 18 = .ok (.iconst 0, 1) := dc_Bk (by decide +kernel)
theorem dX7_isWord_19 : decode cX7_isWord 19 = .ok (.istore_n 2, 1) := dc_Bk (by decide +kernel)
theorem dX7_isWord_20 : decode cX7_isWord 20 = .ok (.iload_n 2, 1) := dc_Bk (by decide +kernel)
theorem dX7_isWord_21 : decode cX7_isWord 21 = .ok (.aload_n 1, 1) := dc_Bk (by decide +kernel)
theorem dX7_isWord_22 : decode cX7_isWord 22 = .ok (.invokevirtual 50, 3) := dc_Bk (by decide +kernel)
theorem dX7_isWord_25 : decode cX7_isWord 25 = .ok (.if_icmp .ge 30, 3) := dc_Bk (by decide +kernel)
theorem dX7_isWord_28 : decode cX7_isWord 28 = .ok (.aload_n 0, 1) := dc_Bk (by decide +kernel)
theorem dX7_isWord_29 : decode cX7_isWord 29 = .ok (.getfield 9, 3) := dc_Bk (by decide +kernel)
theorem dX7_isWord_32 : decode cX7_isWord 32 = .ok (.aload_n 0, 1) := dc_Bk (by decide +kernel)
theorem dX7_isWord_33 : decode cX7_isWord 33 = .ok (.getfield 19, 3) := dc_Bk (by decide +kernel)
theorem dX7_isWord_36 : decode cX7_isWord 36 = .ok (.iload_n 2, 1) := dc_Bk (by decide +kernel)
theorem dX7_isWord_37 : decode cX7_isWord 37 = .ok (.iadd, 1) := dc_Bk (by decide +kernel)
theorem dX7_isWord_38 : decode cX7_isWord 38 = .ok (.iaload, 1) := dc_Bk (by decide +kernel)
theorem dX7_isWord_39 : decode cX7_isWord 39 = .ok (.aload_n 1, 1) := dc_Bk (by decide +kernel)
theorem dX7_isWord_40 : decode cX7_isWord 40 = .ok (.iload_n 2, 1) := dc_Bk (by decide +kernel)
theorem dX7_isWord_41 : decode cX7_isWord 41 = .ok (.invokevirtual 56, 3) := dc_Bk (by decide +kernel)
theorem dX7_isWord_44 : decode cX7_isWord 44 = .ok (.if_icmp .eq 5, 3) := dc_Bk (by decide +kernel)
theorem dX7_isWord_47 : decode cX7_isWord 47 = .ok (.iconst 0, 1) := dc_Bk (by decide +kernel)
theorem dX7_isWord_48 : decode cX7_isWord 48 = .ok (.ireturn, 1) := dc_Bk (by decide +kernel)
theorem dX7_isWord_49 : decode cX7_isWord 49 = .ok (.iinc 2 1, 3) := dc_Bk (by decide +kernel)
theorem dX7_isWord_52 : decode cX7_isWord 52 = .ok (.goto (-32), 3) := dc_Bk (by decide +kernel)
theorem dX7_isWord_55 : decode cX7_isWord 55 = .ok (.iconst 1, 1) := dc_Bk (by decide +kernel)
theorem dX7_isWord_56 : decode cX7_isWord 56 = .ok (.ireturn, 1) := dc_Bk (by decide +kernel)
abbrev c_J0_coder (k : Nat → ClassId) (z : Nat → Nat) (si : Nat) : va_W := []
abbrev r_J0_coder : Room := { frames := 0, cells := 0, slots := 0, locals := 0 }
abbrev q_J0_coder (k : Nat → ClassId) (z : Nat → Nat) (si : Nat) : Array Value → State → Outcome → State → Prop := vp_Si (fun r => r = 0)
set_option maxHeartbeats 2000000 in
set_option maxRecDepth 100000 in
theorem J0_coder (l : Launch) (D : va_G) (k : Nat → ClassId) (z : Nat → Nat) (si : Nat) (hsi : si < 8) : Met l yJ0_coder_7d493 wsJ0_coder_7d493 r_J0_coder (va_Pc [.ref (zK z si)] (PU D k (c_J0_coder k z si) z)) (q_J0_coder k z si) 0 0 (fun _ => False) := by
  refine Met.ofW (cc := cJ0_coder_7d493) (maxL := 1) (ret := (some .byte)) (by decide) rfl ?_
  intro p e s m args below meth c s₁ B hml hv
  obtain ⟨rfl, ⟨hP, hG⟩, hZ⟩ := hv
  have hS : va_S (fun _ => False) s.heap s.heap [] := va_S.rf
  have hx := B.exec
  have hb := B.bytes
  have hr := B.returns
  have hts := atoms_spec (ws := wsJ0_coder_7d493) B.pre
  have hown : s.vm.findClass RJ0 = some m.cls := findClass_of_methodNamed B.named
  have hlocks := B.notSynchronized
  have hP : va_P D vwCl [] s.heap := hP
  have hl := lv_entry ([.ref (zK z si)]) (n := 1) (Nat.le_of_ble_eq_true rfl)
  rw [lg_entry_eq]
  generalize (lg_sl ([.ref (zK z si)]) ++ List.replicate (1 - (lg_sl ([.ref (zK z si)])).length) Slot.unset).toArray = ls at hl ⊢
  have hl : lv_has ls 1 [(0, .ref (zK z si))] := hl
  refine va_gets (C := "java/lang/String") hx hb (hZ.2.2.2.2.2.2.2.2.2.2.2.2.2.2.2.2.2.2.2.2.2.2.2.2.2.2.2.1) hS hown (hts (.fieldLink RJ0 38 "java/lang/String" "COMPACT_STRINGS" "Z") (List.mem_cons_of_mem _ (List.mem_of_getElem? (i := 0) rfl))) (fun _ h9 => h9) dJ0_coder_7d493_0 ?_
  refine lv_if_eq (x := 1) (tgt := 13) hx hb dJ0_coder_7d493_3 (by decide) (fun c1 => absurd c1 (by decide)) (fun c1 => ?_)
  refine lv_aload_n hx hb dJ0_coder_7d493_6 rfl (lv_at hl 0 rfl) ?_
  refine vk_getf (v := .int 0) hx hb (hZ.2.2.2.2.2.2.2.2.2.2.2.2.2.2.2.2.2.2.2.2.2.2.2.2.2.2.2.2.2.1.1 si (by omega)).2.1 hS hown (hts (.fieldLink RJ0 15 "java/lang/String" "coder" "B") (List.mem_cons_of_mem _ (List.mem_of_getElem? (i := 1) rfl))) (fun _ h9 => h9) dJ0_coder_7d493_7 ?_
  refine lv_goto (tgt := 14) hx hb dJ0_coder_7d493_10 (by decide) ?_
  exact W.zret (v := 0) hx hb hr (rfl) (fun t9 ht _ => ⟨0, rfl, rfl, ht⟩) (fun q h => by cases h) dJ0_coder_7d493_14

abbrev c_J0_length (k : Nat → ClassId) (z : Nat → Nat) (si : Nat) : va_W := []
abbrev r_J0_length : Room := { frames := 1, cells := 0, slots := 0, locals := 20 }
abbrev q_J0_length (k : Nat → ClassId) (z : Nat → Nat) (si : Nat) : Array Value → State → Outcome → State → Prop := vp_Si (fun r => r = nI (LN si))
set_option maxHeartbeats 2000000 in
set_option maxRecDepth 100000 in
theorem J0_length (l : Launch) (D : va_G) (k : Nat → ClassId) (z : Nat → Nat) (si : Nat) (hsi : si < 8) : Met l yJ0_length_8abf5 wsJ0_length_8abf5 r_J0_length (va_Pc [.ref (zK z si)] (PU D k (c_J0_length k z si) z)) (q_J0_length k z si) 0 0 (fun _ => False) := by
  refine Met.ofW (cc := cJ0_length_8abf5) (maxL := 1) (ret := (some .int)) (by decide) rfl ?_
  intro p e s m args below meth c s₁ B hml hv
  obtain ⟨rfl, ⟨hP, hG⟩, hZ⟩ := hv
  have hS : va_S (fun _ => False) s.heap s.heap [] := va_S.rf
  have hx := B.exec
  have hb := B.bytes
  have hr := B.returns
  have hts := atoms_spec (ws := wsJ0_length_8abf5) B.pre
  have hown : s.vm.findClass RJ0 = some m.cls := findClass_of_methodNamed B.named
  have hlocks := B.notSynchronized
  have hP : va_P D vwCl [] s.heap := hP
  have hl := lv_entry ([.ref (zK z si)]) (n := 1) (Nat.le_of_ble_eq_true rfl)
  rw [lg_entry_eq]
  generalize (lg_sl ([.ref (zK z si)]) ++ List.replicate (1 - (lg_sl ([.ref (zK z si)])).length) Slot.unset).toArray = ls at hl ⊢
  have hl : lv_has ls 1 [(0, .ref (zK z si))] := hl
  refine lv_aload_n hx hb dJ0_length_8abf5_0 rfl (lv_at hl 0 rfl) ?_
  refine vk_getf (v := .ref (zV z si)) hx hb (hZ.2.2.2.2.2.2.2.2.2.2.2.2.2.2.2.2.2.2.2.2.2.2.2.2.2.2.2.2.2.1.1 si (by omega)).2.2.1 hS hown (hts (.fieldLink RJ0 9 "java/lang/String" "value" "[B") (List.mem_cons_of_mem _ (List.mem_of_getElem? (i := 0) rfl))) (fun _ h9 => h9) dJ0_length_8abf5_1 ?_
  refine va_tlen (v := nI (LN si)) hx hb (hZ.2.2.2.2.2.2.2.2.2.2.2.2.2.2.2.2.2.2.2.2.2.2.2.2.2.2.2.2.2.1.1 si (by omega)).2.2.2 hS rfl dJ0_length_8abf5_4 ?_
  refine lv_aload_n hx hb dJ0_length_8abf5_5 rfl (lv_at hl 0 rfl) ?_
  have hPc := hP.sub (ws' := (c_J0_coder k z si)) [] rfl
  refine vp_callSi (va_Run.run (va_runV (As := []) (rest := [.int (nI (LN si))]) ⟨hx, hb, hml, hown, hts⟩ (J0_coder l D k z si (by omega)) (cwV 0 hts gJ0_length_8abf5_J0_coder_7d493 rfl rfl rfl (by decide +kernel) ⟨Nat.le_of_ble_eq_true rfl, Nat.le_of_ble_eq_true rfl⟩) ⟨PU.blind _ _ _ _ _, vk_recv (hZ.2.2.2.2.2.2.2.2.2.2.2.2.2.2.2.2.2.2.2.2.2.2.2.2.2.2.2.2.2.1) (i := si) (by omega) hS, PU.pre hPc hG hZ hS [.ref (zK z si)]⟩ rfl rfl hl.1 rfl (lv_room (Nat.le_of_ble_eq_true rfl)) dJ0_length_8abf5_6 ⟨Nat.le_of_ble_eq_true rfl, Nat.le_of_ble_eq_true rfl⟩)) (fun r hq => ?_)
  generalize r = y1 at hq ⊢
  have hq : y1 = 0 := hq
  refine tp_i (y := 0) (hq) ?_
  refine lv_ishr hx hb dJ0_length_8abf5_9 ?_
  refine tp_i (y := nI (LN si)) (shr0 _) ?_
  exact W.iret (v := nI (LN si)) hx hb hr (fun t9 ht _ => ⟨nI (LN si), rfl, rfl, ht⟩) (fun q h => by cases h) dJ0_length_8abf5_10

abbrev c_J0_isLatin1 (k : Nat → ClassId) (z : Nat → Nat) (si : Nat) : va_W := []
abbrev r_J0_isLatin1 : Room := { frames := 0, cells := 0, slots := 0, locals := 0 }
abbrev q_J0_isLatin1 (k : Nat → ClassId) (z : Nat → Nat) (si : Nat) : Array Value → State → Outcome → State → Prop := vp_Si (fun r => r = 1)
set_option maxHeartbeats 2000000 in
set_option maxRecDepth 100000 in
theorem J0_isLatin1 (l : Launch) (D : va_G) (k : Nat → ClassId) (z : Nat → Nat) (si : Nat) (hsi : si < 8) : Met l yJ0_isLatin1_aae02 wsJ0_isLatin1_aae02 r_J0_isLatin1 (va_Pc [.ref (zK z si)] (PU D k (c_J0_isLatin1 k z si) z)) (q_J0_isLatin1 k z si) 0 0 (fun _ => False) := by
  refine Met.ofW (cc := cJ0_isLatin1_aae02) (maxL := 1) (ret := (some .boolean)) (by decide) rfl ?_
  intro p e s m args below meth c s₁ B hml hv
  obtain ⟨rfl, ⟨hP, hG⟩, hZ⟩ := hv
  have hS : va_S (fun _ => False) s.heap s.heap [] := va_S.rf
  have hx := B.exec
  have hb := B.bytes
  have hr := B.returns
  have hts := atoms_spec (ws := wsJ0_isLatin1_aae02) B.pre
  have hown : s.vm.findClass RJ0 = some m.cls := findClass_of_methodNamed B.named
  have hlocks := B.notSynchronized
  have hP : va_P D vwCl [] s.heap := hP
  have hl := lv_entry ([.ref (zK z si)]) (n := 1) (Nat.le_of_ble_eq_true rfl)
  rw [lg_entry_eq]
  generalize (lg_sl ([.ref (zK z si)]) ++ List.replicate (1 - (lg_sl ([.ref (zK z si)])).length) Slot.unset).toArray = ls at hl ⊢
  have hl : lv_has ls 1 [(0, .ref (zK z si))] := hl
  refine va_gets (C := "java/lang/String") hx hb (hZ.2.2.2.2.2.2.2.2.2.2.2.2.2.2.2.2.2.2.2.2.2.2.2.2.2.2.2.1) hS hown (hts (.fieldLink RJ0 38 "java/lang/String" "COMPACT_STRINGS" "Z") (List.mem_cons_of_mem _ (List.mem_of_getElem? (i := 0) rfl))) (fun _ h9 => h9) dJ0_isLatin1_aae02_0 ?_
  refine lv_if_eq (x := 1) (tgt := 17) hx hb dJ0_isLatin1_aae02_3 (by decide) (fun c1 => absurd c1 (by decide)) (fun c1 => ?_)
  refine lv_aload_n hx hb dJ0_isLatin1_aae02_6 rfl (lv_at hl 0 rfl) ?_
  refine vk_getf (v := .int 0) hx hb (hZ.2.2.2.2.2.2.2.2.2.2.2.2.2.2.2.2.2.2.2.2.2.2.2.2.2.2.2.2.2.1.1 si (by omega)).2.1 hS hown (hts (.fieldLink RJ0 15 "java/lang/String" "coder" "B") (List.mem_cons_of_mem _ (List.mem_of_getElem? (i := 1) rfl))) (fun _ h9 => h9) dJ0_isLatin1_aae02_7 ?_
  refine lv_if_ne (x := 0) (tgt := 17) hx hb dJ0_isLatin1_aae02_10 (by decide) (fun c2 => absurd c2 (by decide)) (fun c2 => ?_)
  refine lv_iconst (v := 1) hx hb dJ0_isLatin1_aae02_13 (by decide) ?_
  refine lv_goto (tgt := 18) hx hb dJ0_isLatin1_aae02_14 (by decide) ?_
  exact W.zret (v := 1) hx hb hr (rfl) (fun t9 ht _ => ⟨1, rfl, rfl, ht⟩) (fun q h => by cases h) dJ0_isLatin1_aae02_18

abbrev c_ckN (k : Nat → ClassId) (j : Nat) (n : Nat) : va_W := []
abbrev r_ckN : Room := { frames := 0, cells := 0, slots := 0, locals := 0 }
abbrev q_ckN (k : Nat → ClassId) (j : Nat) (n : Nat) : Array Value → State → Outcome → State → Prop := vp_Si (fun r => r = nI j)
set_option maxHeartbeats 2000000 in
set_option maxRecDepth 100000 in
theorem ckN (l : Launch) (D : va_G) (k : Nat → ClassId) (j : Nat) (n : Nat) (hj : j < n) (hn : n < 2 ^ 31) : Met l yJ3_checkIndex_8e157 wsJ3_checkIndex_8e157 r_ckN (va_Pc [.int (nI j), .int (nI n), .null] (PS D k (c_ckN k j n))) (q_ckN k j n) 0 0 (fun _ => False) := by
  refine Met.ofW (cc := cJ3_checkIndex_8e157) (maxL := 3) (ret := (some .int)) (by decide) rfl ?_
  intro p e s m args below meth c s₁ B hml hv
  obtain ⟨rfl, hP, hG⟩ := hv
  have hx := B.exec
  have hb := B.bytes
  have hr := B.returns
  have hts := atoms_spec (ws := wsJ3_checkIndex_8e157) B.pre
  have hown : s.vm.findClass RJ3 = some m.cls := findClass_of_methodNamed B.named
  have hlocks := B.notSynchronized
  have hP : va_P D vwCl [] s.heap := hP
  have hl := lv_entry ([.int (nI j), .int (nI n), .null]) (n := 3) (Nat.le_of_ble_eq_true rfl)
  rw [lg_entry_eq]
  generalize (lg_sl ([.int (nI j), .int (nI n), .null]) ++ List.replicate (3 - (lg_sl ([.int (nI j), .int (nI n), .null])).length) Slot.unset).toArray = ls at hl ⊢
  have hl : lv_has ls 3 [(0, .int (nI j)), (1, .int (nI n)), (2, .null)] := hl
  refine lv_iload_n hx hb dJ3_checkIndex_8e157_0 rfl (lv_at hl 0 rfl) ?_
  refine lv_if_lt (x := nI j) (tgt := 9) hx hb dJ3_checkIndex_8e157_1 (by decide) (fun c1 => absurd c1 (nI_pos (by omega))) (fun c1 => ?_)
  refine lv_iload_n hx hb dJ3_checkIndex_8e157_4 rfl (lv_at hl 0 rfl) ?_
  refine lv_iload_n hx hb dJ3_checkIndex_8e157_5 rfl (lv_at hl 1 rfl) ?_
  refine bn_lt (i := j) (j := n) (tgt := 16) hx hb dJ3_checkIndex_8e157_6 (by decide) (by omega) (by omega) (fun c2 => ?_) (fun c2 => absurd c2 (by omega))
  refine lv_iload_n hx hb dJ3_checkIndex_8e157_16 rfl (lv_at hl 0 rfl) ?_
  exact W.iret (v := nI j) hx hb hr (fun t9 ht _ => ⟨nI j, rfl, rfl, ht⟩) (fun q h => by cases h) dJ3_checkIndex_8e157_17

abbrev c_ckR (k : Nat → ClassId) (j : Nat) (n : Nat) (tq : Nat) : va_W := []
abbrev r_ckR : Room := { frames := 0, cells := 0, slots := 0, locals := 0 }
abbrev q_ckR (k : Nat → ClassId) (j : Nat) (n : Nat) (tq : Nat) : Array Value → State → Outcome → State → Prop := vp_Si (fun r => r = nI j)
set_option maxHeartbeats 2000000 in
set_option maxRecDepth 100000 in
theorem ckR (l : Launch) (D : va_G) (k : Nat → ClassId) (j : Nat) (n : Nat) (tq : Nat) (hj : j < n) (hn : n < 2 ^ 31) : Met l yJ3_checkIndex_8e157 wsJ3_checkIndex_8e157 r_ckR (va_Pc [.int (nI j), .int (nI n), .ref tq] (PS D k (c_ckR k j n tq))) (q_ckR k j n tq) 0 0 (fun _ => False) := by
  refine Met.ofW (cc := cJ3_checkIndex_8e157) (maxL := 3) (ret := (some .int)) (by decide) rfl ?_
  intro p e s m args below meth c s₁ B hml hv
  obtain ⟨rfl, hP, hG⟩ := hv
  have hx := B.exec
  have hb := B.bytes
  have hr := B.returns
  have hts := atoms_spec (ws := wsJ3_checkIndex_8e157) B.pre
  have hown : s.vm.findClass RJ3 = some m.cls := findClass_of_methodNamed B.named
  have hlocks := B.notSynchronized
  have hP : va_P D vwCl [] s.heap := hP
  have hl := lv_entry ([.int (nI j), .int (nI n), .ref tq]) (n := 3) (Nat.le_of_ble_eq_true rfl)
  rw [lg_entry_eq]
  generalize (lg_sl ([.int (nI j), .int (nI n), .ref tq]) ++ List.replicate (3 - (lg_sl ([.int (nI j), .int (nI n), .ref tq])).length) Slot.unset).toArray = ls at hl ⊢
  have hl : lv_has ls 3 [(0, .int (nI j)), (1, .int (nI n)), (2, .ref tq)] := hl
  refine lv_iload_n hx hb dJ3_checkIndex_8e157_0 rfl (lv_at hl 0 rfl) ?_
  refine lv_if_lt (x := nI j) (tgt := 9) hx hb dJ3_checkIndex_8e157_1 (by decide) (fun c1 => absurd c1 (nI_pos (by omega))) (fun c1 => ?_)
  refine lv_iload_n hx hb dJ3_checkIndex_8e157_4 rfl (lv_at hl 0 rfl) ?_
  refine lv_iload_n hx hb dJ3_checkIndex_8e157_5 rfl (lv_at hl 1 rfl) ?_
  refine bn_lt (i := j) (j := n) (tgt := 16) hx hb dJ3_checkIndex_8e157_6 (by decide) (by omega) (by omega) (fun c2 => ?_) (fun c2 => absurd c2 (by omega))
  refine lv_iload_n hx hb dJ3_checkIndex_8e157_16 rfl (lv_at hl 0 rfl) ?_
  exact W.iret (v := nI j) hx hb hr (fun t9 ht _ => ⟨nI j, rfl, rfl, ht⟩) (fun q h => by cases h) dJ3_checkIndex_8e157_17

abbrev c_J0_checkIndex (k : Nat → ClassId) (z : Nat → Nat) (j : Nat) (n : Nat) : va_W := []
abbrev r_J0_checkIndex : Room := { frames := 1, cells := 0, slots := 0, locals := 22 }
abbrev q_J0_checkIndex (k : Nat → ClassId) (z : Nat → Nat) (j : Nat) (n : Nat) : Array Value → State → Outcome → State → Prop := sv_Q
set_option maxHeartbeats 2000000 in
set_option maxRecDepth 100000 in
theorem J0_checkIndex (l : Launch) (D : va_G) (k : Nat → ClassId) (z : Nat → Nat) (j : Nat) (n : Nat) (hj : j < n) (hn : n < 2 ^ 31) : Met l yJ0_checkIndex_df160 wsJ0_checkIndex_df160 r_J0_checkIndex (va_Pc [.int (nI j), .int (nI n)] (PU D k (c_J0_checkIndex k z j n) z)) (q_J0_checkIndex k z j n) 0 0 (fun _ => False) := by
  refine Met.ofW (cc := cJ0_checkIndex_df160) (maxL := 2) (ret := none) (by decide) rfl ?_
  intro p e s m args below meth c s₁ B hml hv
  obtain ⟨rfl, ⟨hP, hG⟩, hZ⟩ := hv
  have hS : va_S (fun _ => False) s.heap s.heap [] := va_S.rf
  have hx := B.exec
  have hb := B.bytes
  have hr := B.returns
  have hts := atoms_spec (ws := wsJ0_checkIndex_df160) B.pre
  have hown : s.vm.findClass RJ0 = some m.cls := findClass_of_methodNamed B.named
  have hlocks := B.notSynchronized
  have hP : va_P D vwCl [] s.heap := hP
  have hl := lv_entry ([.int (nI j), .int (nI n)]) (n := 2) (Nat.le_of_ble_eq_true rfl)
  rw [lg_entry_eq]
  generalize (lg_sl ([.int (nI j), .int (nI n)]) ++ List.replicate (2 - (lg_sl ([.int (nI j), .int (nI n)])).length) Slot.unset).toArray = ls at hl ⊢
  have hl : lv_has ls 2 [(0, .int (nI j)), (1, .int (nI n))] := hl
  refine lv_iload_n hx hb dJ0_checkIndex_df160_0 rfl (lv_at hl 0 rfl) ?_
  refine lv_iload_n hx hb dJ0_checkIndex_df160_1 rfl (lv_at hl 1 rfl) ?_
  rcases hZ.2.2.2.2.2.2.2.2.2.2.2.2.2.2.2.2.2.2.2.2.2.2.2.2.2.2.2.2.1 with h7 | ⟨t7, h7⟩
  · skip
    refine va_gets (C := "jdk/internal/util/Preconditions") hx hb h7 hS hown (hts (.fieldLink RJ0 1053 "jdk/internal/util/Preconditions" "SIOOBE_FORMATTER" "Ljava/util/function/BiFunction;") (List.mem_cons_of_mem _ (List.mem_of_getElem? (i := 0) rfl))) (fun _ h9 => h9) dJ0_checkIndex_df160_2 ?_
    have hPc := hP.sub (ws' := (c_ckN k j n)) [] rfl
    refine vp_callSi (va_Run.run (va_runS (As := [.int (nI j), .int (nI n), .null]) (rest := []) ⟨hx, hb, hml, hown, hts⟩ (ckN l D k j n (by omega) (by omega)) (va_cwS 3 hts gJ0_checkIndex_df160_J3_checkIndex_8e157 rfl rfl rfl (by decide +kernel) ⟨Nat.le_of_ble_eq_true rfl, Nat.le_of_ble_eq_true rfl⟩) ⟨PS.blind _ _ _ _, PS.pre hPc hG [.int (nI j), .int (nI n), .null]⟩ rfl rfl hl.1 rfl (lv_room (Nat.le_of_ble_eq_true rfl)) dJ0_checkIndex_df160_5 ⟨Nat.le_of_ble_eq_true rfl, Nat.le_of_ble_eq_true rfl⟩)) (fun r hq => ?_)
    generalize r = y1 at hq ⊢
    have hq : y1 = nI j := hq
    refine tp_i (y := nI j) (hq) ?_
    refine lv_pop hx hb dJ0_checkIndex_df160_8 rfl ?_
    exact W.vret hx hb hr (fun t9 ht _ => ⟨rfl, ht⟩) (fun q h => by cases h) dJ0_checkIndex_df160_9
  · skip
    refine va_gets (C := "jdk/internal/util/Preconditions") hx hb h7 hS hown (hts (.fieldLink RJ0 1053 "jdk/internal/util/Preconditions" "SIOOBE_FORMATTER" "Ljava/util/function/BiFunction;") (List.mem_cons_of_mem _ (List.mem_of_getElem? (i := 0) rfl))) (fun _ h9 => h9) dJ0_checkIndex_df160_2 ?_
    have hPc := hP.sub (ws' := (c_ckR k j n t7)) [] rfl
    refine vp_callSi (va_Run.run (va_runS (As := [.int (nI j), .int (nI n), .ref t7]) (rest := []) ⟨hx, hb, hml, hown, hts⟩ (ckR l D k j n t7 (by omega) (by omega)) (va_cwS 3 hts gJ0_checkIndex_df160_J3_checkIndex_8e157 rfl rfl rfl (by decide +kernel) ⟨Nat.le_of_ble_eq_true rfl, Nat.le_of_ble_eq_true rfl⟩) ⟨PS.blind _ _ _ _, PS.pre hPc hG [.int (nI j), .int (nI n), .ref t7]⟩ rfl rfl hl.1 rfl (lv_room (Nat.le_of_ble_eq_true rfl)) dJ0_checkIndex_df160_5 ⟨Nat.le_of_ble_eq_true rfl, Nat.le_of_ble_eq_true rfl⟩)) (fun r hq => ?_)
    generalize r = y2 at hq ⊢
    have hq : y2 = nI j := hq
    refine tp_i (y := nI j) (hq) ?_
    refine lv_pop hx hb dJ0_checkIndex_df160_8 rfl ?_
    exact W.vret hx hb hr (fun t9 ht _ => ⟨rfl, ht⟩) (fun q h => by cases h) dJ0_checkIndex_df160_9

abbrev c_J1_charAt (k : Nat → ClassId) (z : Nat → Nat) (si : Nat) (j : Nat) : va_W := []
abbrev r_J1_charAt : Room := { frames := 2, cells := 0, slots := 0, locals := 43 }
abbrev q_J1_charAt (k : Nat → ClassId) (z : Nat → Nat) (si : Nat) (j : Nat) : Array Value → State → Outcome → State → Prop := vp_Si (fun r => r = BT si j)
set_option maxHeartbeats 2000000 in
set_option maxRecDepth 100000 in
theorem J1_charAt (l : Launch) (D : va_G) (k : Nat → ClassId) (z : Nat → Nat) (si : Nat) (j : Nat) (hsi : si < 8) (hj : j < LN si) : Met l yJ1_charAt_3b067 wsJ1_charAt_3b067 r_J1_charAt (va_Pc [.ref (zV z si), .int (nI j)] (PU D k (c_J1_charAt k z si j) z)) (q_J1_charAt k z si j) 0 0 (fun _ => False) := by
  refine Met.ofW (cc := cJ1_charAt_3b067) (maxL := 2) (ret := (some .char)) (by decide) rfl ?_
  intro p e s m args below meth c s₁ B hml hv
  obtain ⟨rfl, ⟨hP, hG⟩, hZ⟩ := hv
  have hS : va_S (fun _ => False) s.heap s.heap [] := va_S.rf
  have hx := B.exec
  have hb := B.bytes
  have hr := B.returns
  have hts := atoms_spec (ws := wsJ1_charAt_3b067) B.pre
  have hown : s.vm.findClass RJ1 = some m.cls := findClass_of_methodNamed B.named
  have hlocks := B.notSynchronized
  have hP : va_P D vwCl [] s.heap := hP
  have hl := lv_entry ([.ref (zV z si), .int (nI j)]) (n := 2) (Nat.le_of_ble_eq_true rfl)
  rw [lg_entry_eq]
  generalize (lg_sl ([.ref (zV z si), .int (nI j)]) ++ List.replicate (2 - (lg_sl ([.ref (zV z si), .int (nI j)])).length) Slot.unset).toArray = ls at hl ⊢
  have hl : lv_has ls 2 [(0, .ref (zV z si)), (1, .int (nI j))] := hl
  have h77 := LN_7 si hsi
  refine lv_iload_n hx hb dJ1_charAt_3b067_0 rfl (lv_at hl 1 rfl) ?_
  refine lv_aload_n hx hb dJ1_charAt_3b067_1 rfl (lv_at hl 0 rfl) ?_
  refine va_tlen (v := nI (LN si)) hx hb (hZ.2.2.2.2.2.2.2.2.2.2.2.2.2.2.2.2.2.2.2.2.2.2.2.2.2.2.2.2.2.1.1 si (by omega)).2.2.2 hS rfl dJ1_charAt_3b067_2 ?_
  have hPc := hP.sub (ws' := (c_J0_checkIndex k z j (LN si))) [] rfl
  refine sv_call (va_Run.run (va_runS (As := [.int (nI j), .int (nI (LN si))]) (rest := []) ⟨hx, hb, hml, hown, hts⟩ (J0_checkIndex l D k z j (LN si) (by omega) (by omega)) (va_cwS 2 hts gJ1_charAt_3b067_J0_checkIndex_df160 rfl rfl rfl (by decide +kernel) ⟨Nat.le_of_ble_eq_true rfl, Nat.le_of_ble_eq_true rfl⟩) ⟨PU.blind _ _ _ _ _, PU.pre hPc hG hZ hS [.int (nI j), .int (nI (LN si))]⟩ rfl rfl hl.1 rfl (lv_room (Nat.le_of_ble_eq_true rfl)) dJ1_charAt_3b067_3 ⟨Nat.le_of_ble_eq_true rfl, Nat.le_of_ble_eq_true rfl⟩)) ?_
  refine lv_aload_n hx hb dJ1_charAt_3b067_6 rfl (lv_at hl 0 rfl) ?_
  refine lv_iload_n hx hb dJ1_charAt_3b067_7 rfl (lv_at hl 1 rfl) ?_
  refine va_tb (v := .int (BT si j)) hx hb (hZ.2.2.2.2.2.2.2.2.2.2.2.2.2.2.2.2.2.2.2.2.2.2.2.2.2.2.2.2.2.1.1 si (by omega)).2.2.2 hS (show vp_in (nI j) (LN si) from vp_in_nI (by omega) (by omega)) (congrArg (fun j => Value.int (BT si j)) (nI_clamp (by omega))) dJ1_charAt_3b067_8 ?_
  refine lv_sipush (v := 255) hx hb dJ1_charAt_3b067_9 (by decide) ?_
  refine lv_iand hx hb dJ1_charAt_3b067_12 ?_
  refine lv_i2c (v := BT si j) hx hb dJ1_charAt_3b067_13 (BT_c si hsi j (by omega)) ?_
  exact W.zret (v := BT si j) hx hb hr (BT_n si hsi j (by omega)) (fun t9 ht _ => ⟨BT si j, rfl, rfl, ht⟩) (fun q h => by cases h) dJ1_charAt_3b067_14

abbrev c_J0_charAt (k : Nat → ClassId) (z : Nat → Nat) (si : Nat) (j : Nat) : va_W := []
abbrev r_J0_charAt : Room := { frames := 3, cells := 0, slots := 0, locals := 64 }
abbrev q_J0_charAt (k : Nat → ClassId) (z : Nat → Nat) (si : Nat) (j : Nat) : Array Value → State → Outcome → State → Prop := vp_Si (fun r => r = BT si j)
set_option maxHeartbeats 2000000 in
set_option maxRecDepth 100000 in
theorem J0_charAt (l : Launch) (D : va_G) (k : Nat → ClassId) (z : Nat → Nat) (si : Nat) (j : Nat) (hsi : si < 8) (hj : j < LN si) : Met l yJ0_charAt_5068e wsJ0_charAt_5068e r_J0_charAt (va_Pc [.ref (zK z si), .int (nI j)] (PU D k (c_J0_charAt k z si j) z)) (q_J0_charAt k z si j) 0 0 (fun _ => False) := by
  refine Met.ofW (cc := cJ0_charAt_5068e) (maxL := 2) (ret := (some .char)) (by decide) rfl ?_
  intro p e s m args below meth c s₁ B hml hv
  obtain ⟨rfl, ⟨hP, hG⟩, hZ⟩ := hv
  have hS : va_S (fun _ => False) s.heap s.heap [] := va_S.rf
  have hx := B.exec
  have hb := B.bytes
  have hr := B.returns
  have hts := atoms_spec (ws := wsJ0_charAt_5068e) B.pre
  have hown : s.vm.findClass RJ0 = some m.cls := findClass_of_methodNamed B.named
  have hlocks := B.notSynchronized
  have hP : va_P D vwCl [] s.heap := hP
  have hl := lv_entry ([.ref (zK z si), .int (nI j)]) (n := 2) (Nat.le_of_ble_eq_true rfl)
  rw [lg_entry_eq]
  generalize (lg_sl ([.ref (zK z si), .int (nI j)]) ++ List.replicate (2 - (lg_sl ([.ref (zK z si), .int (nI j)])).length) Slot.unset).toArray = ls at hl ⊢
  have hl : lv_has ls 2 [(0, .ref (zK z si)), (1, .int (nI j))] := hl
  have h77 := LN_7 si hsi
  refine lv_aload_n hx hb dJ0_charAt_5068e_0 rfl (lv_at hl 0 rfl) ?_
  have hPc := hP.sub (ws' := (c_J0_isLatin1 k z si)) [] rfl
  refine vp_callSi (va_Run.run (va_runV (As := []) (rest := []) ⟨hx, hb, hml, hown, hts⟩ (J0_isLatin1 l D k z si (by omega)) (cwV 0 hts gJ0_charAt_5068e_J0_isLatin1_aae02 rfl rfl rfl (by decide +kernel) ⟨Nat.le_of_ble_eq_true rfl, Nat.le_of_ble_eq_true rfl⟩) ⟨PU.blind _ _ _ _ _, vk_recv (hZ.2.2.2.2.2.2.2.2.2.2.2.2.2.2.2.2.2.2.2.2.2.2.2.2.2.2.2.2.2.1) (i := si) (by omega) hS, PU.pre hPc hG hZ hS [.ref (zK z si)]⟩ rfl rfl hl.1 rfl (lv_room (Nat.le_of_ble_eq_true rfl)) dJ0_charAt_5068e_1 ⟨Nat.le_of_ble_eq_true rfl, Nat.le_of_ble_eq_true rfl⟩)) (fun r hq => ?_)
  generalize r = y1 at hq ⊢
  have hq : y1 = 1 := hq
  refine tp_i (y := 1) (hq) ?_
  refine lv_if_eq (x := 1) (tgt := 16) hx hb dJ0_charAt_5068e_4 (by decide) (fun c2 => absurd c2 (by decide)) (fun c2 => ?_)
  refine lv_aload_n hx hb dJ0_charAt_5068e_7 rfl (lv_at hl 0 rfl) ?_
  refine vk_getf (v := .ref (zV z si)) hx hb (hZ.2.2.2.2.2.2.2.2.2.2.2.2.2.2.2.2.2.2.2.2.2.2.2.2.2.2.2.2.2.1.1 si (by omega)).2.2.1 hS hown (hts (.fieldLink RJ0 9 "java/lang/String" "value" "[B") (List.mem_cons_of_mem _ (List.mem_append_left _ (List.mem_of_getElem? (i := 0) rfl)))) (fun _ h9 => h9) dJ0_charAt_5068e_8 ?_
  refine lv_iload_n hx hb dJ0_charAt_5068e_11 rfl (lv_at hl 1 rfl) ?_
  have hPc := hP.sub (ws' := (c_J1_charAt k z si j)) [] rfl
  refine vp_callSi (va_Run.run (va_runS (As := [.ref (zV z si), .int (nI j)]) (rest := []) ⟨hx, hb, hml, hown, hts⟩ (J1_charAt l D k z si j (by omega) (by omega)) (va_cwS 2 hts gJ0_charAt_5068e_J1_charAt_3b067 rfl rfl rfl (by decide +kernel) ⟨Nat.le_of_ble_eq_true rfl, Nat.le_of_ble_eq_true rfl⟩) ⟨PU.blind _ _ _ _ _, PU.pre hPc hG hZ hS [.ref (zV z si), .int (nI j)]⟩ rfl rfl hl.1 rfl (lv_room (Nat.le_of_ble_eq_true rfl)) dJ0_charAt_5068e_12 ⟨Nat.le_of_ble_eq_true rfl, Nat.le_of_ble_eq_true rfl⟩)) (fun r hq => ?_)
  generalize r = y3 at hq ⊢
  have hq : y3 = BT si j := hq
  refine tp_i (y := BT si j) (hq) ?_
  exact W.zret (v := BT si j) hx hb hr (BT_n si hsi j (by omega)) (fun t9 ht _ => ⟨BT si j, rfl, rfl, ht⟩) (fun q h => by cases h) dJ0_charAt_5068e_15

abbrev c_X7_isWord (k : Nat → ClassId) (z : Nat → Nat) (h : Nat) (qb : Nat) (n : Nat) (wa : Nat) (we : Nat) (ac : Nat) (w3 : Int32) (w4 : Int32) (w5 : Int32) (f : Nat → Int32) (si : Nat) : va_W := [(h, .inr (7, [.ref qb, .int (nI n), .int (nI wa), .int w3, .int w4, .int w5, .int (nI we), .int (nI ac)])), (qb, .inl (k 0, 500, .inl f))]
abbrev r_X7_isWord : Room := { frames := 4, cells := 0, slots := 0, locals := 85 }
abbrev q_X7_isWord (k : Nat → ClassId) (z : Nat → Nat) (h : Nat) (qb : Nat) (n : Nat) (wa : Nat) (we : Nat) (ac : Nat) (w3 : Int32) (w4 : Int32) (w5 : Int32) (f : Nat → Int32) (si : Nat) : Array Value → State → Outcome → State → Prop := vp_Si (fun r => r = iwA f wa we si)
set_option maxHeartbeats 2000000 in
set_option maxRecDepth 100000 in
theorem X7_isWord (l : Launch) (D : va_G) (k : Nat → ClassId) (z : Nat → Nat) (h : Nat) (qb : Nat) (n : Nat) (wa : Nat) (we : Nat) (ac : Nat) (w3 : Int32) (w4 : Int32) (w5 : Int32) (f : Nat → Int32) (si : Nat) (hsi : si < 8) (hwa : wa ≤ we) (hwe : we ≤ 500) : Met l yX7_isWord wsX7_isWord r_X7_isWord (va_Pc [.ref h, .ref (zK z si)] (PU D k (c_X7_isWord k z h qb n wa we ac w3 w4 w5 f si) z)) (q_X7_isWord k z h qb n wa we ac w3 w4 w5 f si) 0 0 (fun _ => False) := by
  refine Met.ofW (cc := cX7_isWord) (maxL := 3) (ret := (some .boolean)) (by decide) rfl ?_
  intro p e s m args below meth c s₁ B hml hv
  obtain ⟨rfl, ⟨hP, hG⟩, hZ⟩ := hv
  have hS : va_S (fun _ => False) s.heap s.heap [] := va_S.rf
  have hx := B.exec
  have hb := B.bytes
  have hr := B.returns
  have hts := atoms_spec (ws := wsX7_isWord) B.pre
  have hown : s.vm.findClass RX7 = some m.cls := findClass_of_methodNamed B.named
  have hlocks := B.notSynchronized
  have hi7 : ∀ w ∈ wsX70, w ∈ wsX7_isWord := fun _ h => List.mem_cons_of_mem _ (List.mem_append_right _ h)
  have hP : va_P D vwCl [(h, .inr (7, [.ref qb, .int (nI n), .int (nI wa), .int w3, .int w4, .int w5, .int (nI we), .int (nI ac)])), (qb, .inl (k 0, 500, .inl f))] s.heap := hP
  have hl := lv_entry ([.ref h, .ref (zK z si)]) (n := 3) (Nat.le_of_ble_eq_true rfl)
  rw [lg_entry_eq]
  generalize (lg_sl ([.ref h, .ref (zK z si)]) ++ List.replicate (3 - (lg_sl ([.ref h, .ref (zK z si)])).length) Slot.unset).toArray = ls at hl ⊢
  have hl : lv_has ls 3 [(0, .ref h), (1, .ref (zK z si))] := hl
  have h77 := LN_7 si hsi
  refine lv_aload_n hx hb dX7_isWord_0 rfl (lv_at hl 0 rfl) ?_
  refine va_get (D := D) (ci := 7) (v := .int (nI we)) (C := RX7) (T := TX7) (N := 8) hx hb hts hi7 hown hG.1 hP 0 rfl rfl 6 (by decide) (hts (.fieldLink RX7 31 "SleptMatters$Text" "wordEnd" "I") (List.mem_cons_of_mem _ (List.mem_append_left _ (List.mem_append_left _ (List.mem_of_getElem? (i := 0) rfl))))) (fun _ h9 => h9) rfl dX7_isWord_1 ?_
  refine lv_aload_n hx hb dX7_isWord_4 rfl (lv_at hl 0 rfl) ?_
  refine va_get (D := D) (ci := 7) (v := .int (nI wa)) (C := RX7) (T := TX7) (N := 8) hx hb hts hi7 hown hG.1 hP 0 rfl rfl 2 (by decide) (hts (.fieldLink RX7 19 "SleptMatters$Text" "wordAt" "I") (List.mem_cons_of_mem _ (List.mem_append_left _ (List.mem_append_left _ (List.mem_of_getElem? (i := 1) rfl))))) (fun _ h9 => h9) rfl dX7_isWord_5 ?_
  refine lv_isub hx hb dX7_isWord_8 ?_
  refine tp_i (y := nI (we - wa)) (pk_sub (by omega)) ?_
  refine lv_aload_n hx hb dX7_isWord_9 rfl (lv_at hl 1 rfl) ?_
  have hPc := hP.sub (ws' := (c_J0_length k z si)) [] rfl
  refine vp_callSi (va_Run.run (va_runV (As := []) (rest := [.int (nI (we - wa))]) ⟨hx, hb, hml, hown, hts⟩ (J0_length l D k z si (by omega)) (cwV 0 hts gX7_isWord_J0_length_8abf5 rfl rfl rfl (by decide +kernel) ⟨Nat.le_of_ble_eq_true rfl, Nat.le_of_ble_eq_true rfl⟩) ⟨PU.blind _ _ _ _ _, vk_recv (hZ.2.2.2.2.2.2.2.2.2.2.2.2.2.2.2.2.2.2.2.2.2.2.2.2.2.2.2.2.2.1) (i := si) (by omega) hS, PU.pre hPc hG hZ hS [.ref (zK z si)]⟩ rfl rfl hl.1 rfl (lv_room (Nat.le_of_ble_eq_true rfl)) dX7_isWord_10 ⟨Nat.le_of_ble_eq_true rfl, Nat.le_of_ble_eq_true rfl⟩)) (fun r hq => ?_)
  generalize r = y1 at hq ⊢
  have hq : y1 = nI (LN si) := hq
  refine tp_i (y := nI (LN si)) (hq) ?_
  refine lv_icmp_eq (x := nI (we - wa)) (y := nI (LN si)) (tgt := 18) hx hb dX7_isWord_13 (by decide) (fun c2 => ?_) (fun c2 => ?_)
  · skip
    have hln : we - wa = LN si := (nI_eq (by omega) (by omega)).mp c2
    refine lv_iconst (v := 0) hx hb dX7_isWord_18 (by decide) ?_
    refine lv_istore_n (lv' := [(2, .int 0), (0, .ref h), (1, .ref (zK z si))]) hx hb dX7_isWord_19 rfl hl (by decide) rfl (fun ls hl => ?_)
    have L3 : ∀ (fu9 : Nat) (i : Nat), (i ≤ LN si) → (rn (pW f wa si) (LN si) i = rn (pW f wa si) (LN si) 0) → LN si - i < fu9 → ∀ (ls : Array Slot), lv_has ls 3 [(2, .int (nI i)), (0, .ref h), (1, .ref (zK z si))] → W p l e r_X7_isWord s m ([.ref h, .ref (zK z si)] : List Value).toArray below meth c s.heap [] 0 0 (MQ below (q_X7_isWord k z h qb n wa we ac w3 w4 w5 f si) ([.ref h, .ref (zK z si)] : List Value).toArray s 0 0 (fun _ => False)) (F0 m 20 ls []) := by
      intro fu9
      induction fu9 with
      | zero => intro i hi he hmu; exact absurd hmu (Nat.not_lt_zero _)
      | succ fu9 ih =>
        intro i hi he hmu ls hl
        refine lv_iload_n hx hb dX7_isWord_20 rfl (lv_at hl 0 rfl) ?_
        refine lv_aload_n hx hb dX7_isWord_21 rfl (lv_at hl 2 rfl) ?_
        have hPc := hP.sub (ws' := (c_J0_length k z si)) [] rfl
        refine vp_callSi (va_Run.run (va_runV (As := []) (rest := [.int (nI i)]) ⟨hx, hb, hml, hown, hts⟩ (J0_length l D k z si (by omega)) (cwV 0 hts gX7_isWord_J0_length_8abf5 rfl rfl rfl (by decide +kernel) ⟨Nat.le_of_ble_eq_true rfl, Nat.le_of_ble_eq_true rfl⟩) ⟨PU.blind _ _ _ _ _, vk_recv (hZ.2.2.2.2.2.2.2.2.2.2.2.2.2.2.2.2.2.2.2.2.2.2.2.2.2.2.2.2.2.1) (i := si) (by omega) hS, PU.pre hPc hG hZ hS [.ref (zK z si)]⟩ rfl rfl hl.1 rfl (lv_room (Nat.le_of_ble_eq_true rfl)) dX7_isWord_22 ⟨Nat.le_of_ble_eq_true rfl, Nat.le_of_ble_eq_true rfl⟩)) (fun r hq => ?_)
        generalize r = y4 at hq ⊢
        have hq : y4 = nI (LN si) := hq
        refine tp_i (y := nI (LN si)) (hq) ?_
        refine bn_ge (i := i) (j := (LN si)) (tgt := 55) hx hb dX7_isWord_25 (by decide) (by omega) (by omega) (fun c5 => ?_) (fun c5 => ?_)
        · skip
          have e8 : rn (pW f wa si) (LN si) i = i := rn_stop (fun q => by have := q.1; omega)
          have e9 : iwA f wa we si = 1 := if_pos ⟨hln, by rw [← he, e8]; omega⟩
          refine lv_iconst (v := 1) hx hb dX7_isWord_55 (by decide) ?_
          exact W.zret (v := 1) hx hb hr (rfl) (fun t9 ht _ => ⟨1, rfl, e9.symm, ht⟩) (fun q h => by cases h) dX7_isWord_56
        · skip
          refine lv_aload_n hx hb dX7_isWord_28 rfl (lv_at hl 1 rfl) ?_
          refine va_get (D := D) (ci := 7) (v := .ref qb) (C := RX7) (T := TX7) (N := 8) hx hb hts hi7 hown hG.1 hP 0 rfl rfl 0 (by decide) (hts (.fieldLink RX7 9 "SleptMatters$Text" "bytes" "[I") (List.mem_cons_of_mem _ (List.mem_append_left _ (List.mem_append_left _ (List.mem_of_getElem? (i := 2) rfl))))) (fun _ h9 => h9) rfl dX7_isWord_29 ?_
          refine lv_aload_n hx hb dX7_isWord_32 rfl (lv_at hl 1 rfl) ?_
          refine va_get (D := D) (ci := 7) (v := .int (nI wa)) (C := RX7) (T := TX7) (N := 8) hx hb hts hi7 hown hG.1 hP 0 rfl rfl 2 (by decide) (hts (.fieldLink RX7 19 "SleptMatters$Text" "wordAt" "I") (List.mem_cons_of_mem _ (List.mem_append_left _ (List.mem_append_left _ (List.mem_of_getElem? (i := 1) rfl))))) (fun _ h9 => h9) rfl dX7_isWord_33 ?_
          refine lv_iload_n hx hb dX7_isWord_36 rfl (lv_at hl 0 rfl) ?_
          refine lv_iadd hx hb dX7_isWord_37 ?_
          refine tp_i (y := nI (wa + i)) (nI_add wa i) ?_
          refine va_iald hx hb hG.1 hP 1 0 rfl rfl (vp_in_nI (by omega) (by omega)) dX7_isWord_38 ?_
          refine tp_i (y := f (wa + i)) (congrArg _ (nI_clamp (n := wa + i) (by omega))) ?_
          refine lv_aload_n hx hb dX7_isWord_39 rfl (lv_at hl 2 rfl) ?_
          refine lv_iload_n hx hb dX7_isWord_40 rfl (lv_at hl 0 rfl) ?_
          have hPc := hP.sub (ws' := (c_J0_charAt k z si i)) [] rfl
          refine vp_callSi (va_Run.run (va_runV (As := [.int (nI i)]) (rest := [.int (f (wa + i))]) ⟨hx, hb, hml, hown, hts⟩ (J0_charAt l D k z si i (by omega) (by omega)) (cwV 1 hts gX7_isWord_J0_charAt_5068e rfl rfl rfl (by decide +kernel) ⟨Nat.le_of_ble_eq_true rfl, Nat.le_of_ble_eq_true rfl⟩) ⟨PU.blind _ _ _ _ _, vk_recv (hZ.2.2.2.2.2.2.2.2.2.2.2.2.2.2.2.2.2.2.2.2.2.2.2.2.2.2.2.2.2.1) (i := si) (by omega) hS, PU.pre hPc hG hZ hS [.ref (zK z si), .int (nI i)]⟩ rfl rfl hl.1 rfl (lv_room (Nat.le_of_ble_eq_true rfl)) dX7_isWord_41 ⟨Nat.le_of_ble_eq_true rfl, Nat.le_of_ble_eq_true rfl⟩)) (fun r hq => ?_)
          generalize r = y6 at hq ⊢
          have hq : y6 = BT si i := hq
          refine tp_i (y := BT si i) (hq) ?_
          refine lv_icmp_eq (x := f (wa + i)) (y := BT si i) (tgt := 49) hx hb dX7_isWord_44 (by decide) (fun c7 => ?_) (fun c7 => ?_)
          · skip
            have k1 : pW f wa si i = true := decide_eq_true c7
            refine lv_iinc (v := nI (i + 1)) (lv' := [(2, .int (nI (i + 1))), (0, .ref h), (1, .ref (zK z si))]) hx hb dX7_isWord_49 hl (k := 0) rfl (nI_add i 1) (by decide) rfl (fun ls hl => ?_)
            refine lv_goto (tgt := 20) hx hb dX7_isWord_52 (by decide) ?_
            exact ih (i + 1) (by omega) ((rn_step (by omega) k1).symm.trans he) (by omega) ls (lv_sub hl [0, 1, 2] rfl)
          · skip
            have e8 : rn (pW f wa si) (LN si) i = i := rn_stop (fun q => c7 (of_decide_eq_true q.2))
            have e9 : iwA f wa we si = 0 := if_neg (fun q => by have q2 := q.2; rw [← he, e8] at q2; omega)
            refine lv_iconst (v := 0) hx hb dX7_isWord_47 (by decide) ?_
            exact W.zret (v := 0) hx hb hr (rfl) (fun t9 ht _ => ⟨0, rfl, e9.symm, ht⟩) (fun q h => by cases h) dX7_isWord_48
    exact L3 _ 0 (Nat.zero_le _) (rfl) (Nat.lt_succ_self _) ls (lv_sub hl [0, 1, 2] rfl)
  · skip
    have e9 : iwA f wa we si = 0 := if_neg (fun q => c2 (by rw [q.1]))
    refine lv_iconst (v := 0) hx hb dX7_isWord_16 (by decide) ?_
    exact W.zret (v := 0) hx hb hr (rfl) (fun t9 ht _ => ⟨0, rfl, e9.symm, ht⟩) (fun q h => by cases h) dX7_isWord_17
