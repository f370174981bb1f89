theorem dX6_clearFor_0 : decode cX6_clearFor 0 = .ok (.aload_n 0, 1) := dc_Bk (by decide +kernel)
theorem dX6_clearFor_1 : decode cX6_clearFor 1 = .ok (.iconst 0, 1) := dc_Bk (by decide +kernel)
theorem dX6_clearFor_2 : decode cX6_clearFor 2 = .ok (.putfield 9, 3) := dc_Bk (by decide +kernel)
theorem dX6_clearFor_5 : decode cX6_clearFor 5 = .ok (.aload_n 0, 1) := dc_Bk (by decide +kernel)
theorem dX6_clearFor_6 : decode cX6_clearFor 6 = .ok (.iload_n 1, 1) := dc_Bk (by decide +kernel)
theorem dX6_clearFor_7 : decode cX6_clearFor 7 = .ok (.putfield 15, 3) := dc_Bk (by decide +kernel)
theorem dX6_clearFor_10 : decode cX6_clearFor 10 = .ok (.return_, 1) := dc_Bk (by decide +kernel)
theorem dX6_placeOf_0 : decode cX6_placeOf 0 = .ok (.iload_n 2, 1) := dc_Bk (by decide +kernel)
theorem dX6_placeOf_1 : decode cX6_placeOf 1 = .ok (.aload_n 0, 1) := dc_Bk (by decide +kernel)
theorem dX6_placeOf_2 : decode cX6_placeOf 2 = .ok (.getfield 18, 3) := dc_Bk (by decide +kernel)
theorem dX6_placeOf_5 : decode cX6_placeOf 5 = .ok (.iload_n 1, 1) := dc_Bk (by decide +kernel)
theorem dX6_placeOf_6 : decode cX6_placeOf 6 = .ok (.iaload, 1) := dc_Bk (by decide +kernel)
theorem dX6_placeOf_7 : decode cX6_placeOf 7 = .ok (.isub, 1) := dc_Bk (by decide +kernel)
theorem dX6_placeOf_8 : decode cX6_placeOf 8 = .ok (.istore_n 3, 1) := dc_Bk (by decide +kernel)
theorem dX6_placeOf_9 : decode cX6_placeOf 9 = .ok (.iload_n 3, 1) := dc_Bk (by decide +kernel)
theorem dX6_placeOf_10 : decode cX6_placeOf 10 = .ok (.ifCond .lt 20, 3) := dc_Bk (by decide +kernel)
theorem dX6_placeOf_13 : decode cX6_placeOf 13 = .ok (.iload_n 3, 1) := dc_Bk (by decide +kernel)
theorem dX6_placeOf_14 : decode cX6_placeOf 14 = .ok (.aload_n 0, 1) := dc_Bk (by decide +kernel)
theorem dX6_placeOf_15 : decode cX6_placeOf 15 = .ok (.getfield 15, 3) := dc_Bk (by decide +kernel)
theorem dX6_placeOf_18 : decode cX6_placeOf 18 = .ok (.if_icmp .ge 12, 3) := dc_Bk (by decide +kernel)
theorem dX6_placeOf_21 : decode cX6_placeOf 21 = .ok (.iload_n 1, 1) := dc_Bk (by decide +kernel)
theorem dX6_placeOf_22 : decode cX6_placeOf 22 = .ok (.bipush 7, 2) := dc_Bk (by decide +kernel)
theorem dX6_placeOf_24 : decode cX6_placeOf 24 = .ok (.imul, 1) := dc_Bk (by decide +kernel)
theorem dX6_placeOf_25 : decode cX6_placeOf 25 = .ok (.iload_n 3, 1) := dc_Bk (by decide +kernel)
theorem dX6_placeOf_26 : decode cX6_placeOf 26 = .ok (.iadd, 1) := dc_Bk (by decide +kernel)
theorem dX6_placeOf_27 : decode cX6_placeOf 27 = .ok (.goto 4, 3) := dc_Bk (by decide +kernel)
theorem dX6_placeOf_30 : decode cX6_placeOf 30 = .ok (.iconst (-1), 1) := dc_Bk (by decide +kernel)
theorem dX6_placeOf_31 : decode cX6_placeOf 31 = .ok (.ireturn, 1) := dc_Bk (by decide +kernel)
set_option maxRecDepth 20000 in
theorem ggX6_busySleepers_X6_placeOf : GoodIn wsX6_busySleepers wsX6_placeOf := goodIn_r _ [7, 8, 9, 10, 11, 12, 13, 14] rfl (by decide +kernel)
set_option maxRecDepth 20000 in
theorem gX6_busySleepers_X6_placeOf : GoodIn wsX6_busySleepers (wsV RX6 34 RX6 yX6_placeOf wsX6_placeOf) := goodIn_app (goodIn_of _ (by decide +kernel)) ggX6_busySleepers_X6_placeOf
theorem dX6_busySleepers_0 : decode cX6_busySleepers 0 = .ok (.iconst 0, 1) := dc_Bk (by decide +kernel)
theorem dX6_busySleepers_1 : decode cX6_busySleepers 1 = .ok (.istore_n 2, 1) := dc_Bk (by decide +kernel)
theorem dX6_busySleepers_2 : decode cX6_busySleepers 2 = .ok (.iconst 0, 1) := dc_Bk (by decide +kernel)
theorem dX6_busySleepers_3 : decode cX6_busySleepers 3 = .ok (.istore_n 3, 1) := dc_Bk (by decide +kernel)
theorem dX6_busySleepers_4 : decode cX6_busySleepers 4 = .ok (.iload_n 3, 1) := dc_Bk (by decide +kernel)
theorem dX6_busySleepers_5 : decode cX6_busySleepers 5 = .ok (.aload_n 0, 1) := dc_Bk (by decide +kernel)
theorem dX6_busySleepers_6 : decode cX6_busySleepers 6 = .ok (.getfield 9, 3) := dc_Bk (by decide +kernel)
theorem dX6_busySleepers_9 : decode cX6_busySleepers 9 = .ok (.if_icmp .ge 35, 3) := dc_Bk (by decide +kernel)
theorem dX6_busySleepers_12 : decode cX6_busySleepers 12 = .ok (.aload_n 0, 1) := dc_Bk (by decide +kernel)
theorem dX6_busySleepers_13 : decode cX6_busySleepers 13 = .ok (.iload_n 3, 1) := dc_Bk (by decide +kernel)
theorem dX6_busySleepers_14 : decode cX6_busySleepers 14 = .ok (.iload_n 1, 1) := dc_Bk (by decide +kernel)
theorem dX6_busySleepers_15 : decode cX6_busySleepers 15 = .ok (.invokevirtual 34, 3) := dc_Bk (by decide +kernel)
theorem dX6_busySleepers_18 : decode cX6_busySleepers 18 = .ok (.istore 4, 2) := dc_Bk (by decide +kernel)
theorem dX6_busySleepers_20 : decode cX6_busySleepers 20 = .ok (.iload 4, 2) := dc_Bk (by decide +kernel)
theorem dX6_busySleepers_22 : decode cX6_busySleepers 22 = .ok (.iconst (-1), 1) := dc_Bk (by decide +kernel)
theorem dX6_busySleepers_23 : decode cX6_busySleepers 23 = .ok (.if_icmp .eq 15, 3) := dc_Bk (by decide +kernel)
theorem dX6_busySleepers_26 : decode cX6_busySleepers 26 = .ok (.iload_n 2, 1) := dc_Bk (by decide +kernel)
theorem dX6_busySleepers_27 : decode cX6_busySleepers 27 = .ok (.iconst 1, 1) := dc_Bk (by decide +kernel)
theorem dX6_busySleepers_28 : decode cX6_busySleepers 28 = .ok (.aload_n 0, 1) := dc_Bk (by decide +kernel)
theorem dX6_busySleepers_29 : decode cX6_busySleepers 29 = .ok (.getfield 22, 3) := dc_Bk (by decide +kernel)
theorem dX6_busySleepers_32 : decode cX6_busySleepers 32 = .ok (.iload 4, 2) := dc_Bk (by decide +kernel)
theorem dX6_busySleepers_34 : decode cX6_busySleepers 34 = .ok (.iaload, 1) := dc_Bk (by decide +kernel)
theorem dX6_busySleepers_35 : decode cX6_busySleepers 35 = .ok (.ishl, 1) := dc_Bk (by decide +kernel)
theorem dX6_busySleepers_36 : decode cX6_busySleepers 36 = .ok (.ior, 1) := dc_Bk (by decide +kernel)
theorem dX6_busySleepers_37 : decode cX6_busySleepers 37 = .ok (.istore_n 2, 1) := dc_Bk (by decide +kernel)
theorem dX6_busySleepers_38 : decode cX6_busySleepers 38 = .ok (.iinc 3 1, 3) := dc_Bk (by decide +kernel)
theorem dX6_busySleepers_41 : decode cX6_busySleepers 41 = .ok (.goto (-37), 3) := dc_Bk (by decide +kernel)
theorem dX6_busySleepers_44 : decode cX6_busySleepers 44 = .ok (.iload_n 2, 1) := dc_Bk (by decide +kernel)
theorem dX6_busySleepers_45 : decode cX6_busySleepers 45 = .ok (.ireturn, 1) := dc_Bk (by decide +kernel)
set_option maxRecDepth 20000 in
theorem ggX6_fullHouses_X6_placeOf : GoodIn wsX6_fullHouses wsX6_placeOf := goodIn_r _ [7, 8, 9, 10, 11, 12, 13, 14] rfl (by decide +kernel)
set_option maxRecDepth 20000 in
theorem gX6_fullHouses_X6_placeOf : GoodIn wsX6_fullHouses (wsV RX6 34 RX6 yX6_placeOf wsX6_placeOf) := goodIn_app (goodIn_of _ (by decide +kernel)) ggX6_fullHouses_X6_placeOf
theorem dX6_fullHouses_0 : decode cX6_fullHouses 0 = .ok (.iconst 0, 1) := dc_Bk (by decide +kernel)
theorem dX6_fullHouses_1 : decode cX6_fullHouses 1 = .ok (.istore_n 3, 1) := dc_Bk (by decide +kernel)
theorem dX6_fullHouses_2 : decode cX6_fullHouses 2 = .ok (.iconst 0, 1) := dc_Bk (by decide +kernel)
theorem dX6_fullHouses_3 : decode cX6_fullHouses 3 = .ok (.istore 4, 2) := dc_Bk (by decide +kernel)
theorem dX6_fullHouses_5 : decode cX6_fullHouses 5 = .ok (.aload_n 0, 1) := dc_Bk (by decide +kernel)
theorem dX6_fullHouses_6 : decode cX6_fullHouses 6 = .ok (.getfield 9, 3) := dc_Bk (by decide +kernel)
theorem dX6_fullHouses_9 : decode cX6_fullHouses 9 = .ok (.ifCond .le 82, 3) := dc_Bk (by decide +kernel)
theorem dX6_fullHouses_12 : decode cX6_fullHouses 12 = .ok (.iload 4, 2) := dc_Bk (by decide +kernel)
theorem dX6_fullHouses_14 : decode cX6_fullHouses 14 = .ok (.bipush 7, 2) := dc_Bk (by decide +kernel)
theorem dX6_fullHouses_16 : decode cX6_fullHouses 16 = .ok (.if_icmp .ge 75, 3) := dc_Bk (by decide +kernel)
theorem dX6_fullHouses_19 : decode cX6_fullHouses 19 = .ok (.aload_n 2, 1) := dc_Bk (by decide +kernel)
theorem dX6_fullHouses_20 : decode cX6_fullHouses 20 = .ok (.iload 4, 2) := dc_Bk (by decide +kernel)
theorem dX6_fullHouses_22 : decode cX6_fullHouses 22 = .ok (.iaload, 1) := dc_Bk (by decide +kernel)
theorem dX6_fullHouses_23 : decode cX6_fullHouses 23 = .ok (.istore 5, 2) := dc_Bk (by decide +kernel)
theorem dX6_fullHouses_25 : decode cX6_fullHouses 25 = .ok (.iconst 0, 1) := dc_Bk (by decide +kernel)
theorem dX6_fullHouses_26 : decode cX6_fullHouses 26 = .ok (.istore 6, 2) := dc_Bk (by decide +kernel)
theorem dX6_fullHouses_28 : decode cX6_fullHouses 28 = .ok (.iload 6, 2) := dc_Bk (by decide +kernel)
theorem dX6_fullHouses_30 : decode cX6_fullHouses 30 = .ok (.aload_n 0, 1) := dc_Bk (by decide +kernel)
theorem dX6_fullHouses_31 : decode cX6_fullHouses 31 = .ok (.getfield 9, 3) := dc_Bk (by decide +kernel)
theorem dX6_fullHouses_34 : decode cX6_fullHouses 34 = .ok (.if_icmp .ge 39, 3) := dc_Bk (by decide +kernel)
theorem dX6_fullHouses_37 : decode cX6_fullHouses 37 = .ok (.aload_n 0, 1) := dc_Bk (by decide +kernel)
theorem dX6_fullHouses_38 : decode cX6_fullHouses 38 = .ok (.iload 6, 2) := dc_Bk (by decide +kernel)
theorem dX6_fullHouses_40 : decode cX6_fullHouses 40 = .ok (.iload_n 1, 1) := dc_Bk (by decide +kernel)
theorem dX6_fullHouses_41 : decode cX6_fullHouses 41 = .ok (.invokevirtual 34, 3) := dc_Bk (by decide +kernel)
theorem dX6_fullHouses_44 : decode cX6_fullHouses 44 = .ok (.istore 7, 2) := dc_Bk (by decide +kernel)
theorem dX6_fullHouses_46 : decode cX6_fullHouses 46 = .ok (.iload 7, 2) := dc_Bk (by decide +kernel)
theorem dX6_fullHouses_48 : decode cX6_fullHouses 48 = .ok (.iconst (-1), 1) := dc_Bk (by decide +kernel)
theorem dX6_fullHouses_49 : decode cX6_fullHouses 49 = .ok (.if_icmp .eq 18, 3) := dc_Bk (by decide +kernel)
theorem dX6_fullHouses_52 : decode cX6_fullHouses 52 = .ok (.aload_n 0, 1) := dc_Bk (by decide +kernel)
theorem dX6_fullHouses_53 : decode cX6_fullHouses 53 = .ok (.getfield 25, 3) := dc_Bk (by decide +kernel)
theorem dX6_fullHouses_56 : decode cX6_fullHouses 56 = .ok (.iload 7, 2) := dc_Bk (by decide +kernel)
theorem dX6_fullHouses_58 : decode cX6_fullHouses 58 = .ok (.iaload, 1) := dc_Bk (by decide +kernel)
theorem dX6_fullHouses_59 : decode cX6_fullHouses 59 = .ok (.iload 4, 2) := dc_Bk (by decide +kernel)
theorem dX6_fullHouses_61 : decode cX6_fullHouses 61 = .ok (.if_icmp .ne 6, 3) := dc_Bk (by decide +kernel)
theorem dX6_fullHouses_64 : decode cX6_fullHouses 64 = .ok (.iinc 5 (-1), 3) := dc_Bk (by decide +kernel)
theorem dX6_fullHouses_67 : decode cX6_fullHouses 67 = .ok (.iinc 6 1, 3) := dc_Bk (by decide +kernel)
theorem dX6_fullHouses_70 : decode cX6_fullHouses 70 = .ok (.goto (-42), 3) := dc_Bk (by decide +kernel)
theorem dX6_fullHouses_73 : decode cX6_fullHouses 73 = .ok (.iload 5, 2) := dc_Bk (by decide +kernel)
theorem dX6_fullHouses_75 : decode cX6_fullHouses 75 = .ok (.ifCond .gt 10, 3) := dc_Bk (by decide +kernel)
theorem dX6_fullHouses_78 : decode cX6_fullHouses 78 = .ok (.iload_n 3, 1) := dc_Bk (by decide +kernel)
theorem dX6_fullHouses_79 : decode cX6_fullHouses 79 = .ok (.iconst 1, 1) := dc_Bk (by decide +kernel)
theorem dX6_fullHouses_80 : decode cX6_fullHouses 80 = .ok (.iload 4, 2) := dc_Bk (by decide +kernel)
theorem dX6_fullHouses_82 : decode cX6_fullHouses 82 = .ok (.ishl, 1) := dc_Bk (by decide +kernel)
theorem dX6_fullHouses_83 : decode cX6_fullHouses 83 = .ok (.ior, 1) := dc_Bk (by decide +kernel)
theorem dX6_fullHouses_84 : decode cX6_fullHouses 84 = .ok (.istore_n 3, 1) := dc_Bk (by decide +kernel)
theorem dX6_fullHouses_85 : decode cX6_fullHouses 85 = .ok (.iinc 4 1, 3) := dc_Bk (by decide +kernel)
theorem dX6_fullHouses_88 : decode cX6_fullHouses 88 = .ok (.goto (-83), 3) := dc_Bk (by decide +kernel)
theorem dX6_fullHouses_91 : decode cX6_fullHouses 91 = .ok (.iload_n 3, 1) := dc_Bk (by decide +kernel)
theorem dX6_fullHouses_92 : decode cX6_fullHouses 92 = .ok (.ireturn, 1) := dc_Bk (by decide +kernel)
theorem dX6_add_0 : decode cX6_add 0 = .ok (.aload_n 0, 1) := dc_Bk (by decide +kernel)
theorem dX6_add_1 : decode cX6_add 1 = .ok (.getfield 9, 3) := dc_Bk (by decide +kernel)
theorem dX6_add_4 : decode cX6_add 4 = .ok (.iconst 3, 1) := dc_Bk (by decide +kernel)
theorem dX6_add_5 : decode cX6_add 5 = .ok (.if_icmp .lt 4, 3) := dc_Bk (by decide +kernel)
theorem dX6_add_8 : decode cX6_add 8 = .ok (.return_, 1) := dc_Bk (by decide +kernel)
theorem dX6_add_9 : decode cX6_add 9 = .ok (.aload_n 0, 1) := dc_Bk (by decide +kernel)
theorem dX6_add_10 : decode cX6_add 10 = .ok (.getfield 18, 3) := dc_Bk (by decide +kernel)
theorem dX6_add_13 : decode cX6_add 13 = .ok (.aload_n 0, 1) := dc_Bk (by decide +kernel)
theorem dX6_add_14 : decode cX6_add 14 = .ok (.getfield 9, 3) := dc_Bk (by decide +kernel)
theorem dX6_add_17 : decode cX6_add 17 = .ok (.iload_n 1, 1) := dc_Bk (by decide +kernel)
theorem dX6_add_18 : decode cX6_add 18 = .ok (.aload_n 0, 1) := dc_Bk (by decide +kernel)
theorem dX6_add_19 : decode cX6_add 19 = .ok (.getfield 15, 3) := dc_Bk (by decide +kernel)
theorem dX6_add_22 : decode cX6_add 22 = .ok (.isub, 1) := dc_Bk (by decide +kernel)
theorem dX6_add_23 : decode cX6_add 23 = .ok (.iconst 1, 1) := dc_Bk (by decide +kernel)
theorem dX6_add_24 : decode cX6_add 24 = .ok (.iadd, 1) := dc_Bk (by decide +kernel)
theorem dX6_add_25 : decode cX6_add 25 = .ok (.iastore, 1) := dc_Bk (by decide +kernel)
theorem dX6_add_26 : decode cX6_add 26 = .ok (.aload_n 2, 1) := dc_Bk (by decide +kernel)
theorem dX6_add_27 : decode cX6_add 27 = .ok (.iconst 0, 1) := dc_Bk (by decide +kernel)
theorem dX6_add_28 : decode cX6_add 28 = .ok (.aload_n 0, 1) := dc_Bk (by decide +kernel)
theorem dX6_add_29 : decode cX6_add 29 = .ok (.getfield 22, 3) := dc_Bk (by decide +kernel)
theorem dX6_add_32 : decode cX6_add 32 = .ok (.aload_n 0, 1) := dc_Bk (by decide +kernel)
theorem dX6_add_33 : decode cX6_add 33 = .ok (.getfield 9, 3) := dc_Bk (by decide +kernel)
theorem dX6_add_36 : decode cX6_add 36 = .ok (.bipush 7, 2) := dc_Bk (by decide +kernel)
theorem dX6_add_38 : decode cX6_add 38 = .ok (.imul, 1) := dc_Bk (by decide +kernel)
theorem dX6_add_39 : decode cX6_add 39 = .ok (.bipush 7, 2) := dc_Bk (by decide +kernel)
theorem dX6_add_41 : decode cX6_add 41 = .ok (.invokestatic 28, 3) := dc_Bk (by decide +kernel)
theorem dX6_add_44 : decode cX6_add 44 = .ok (.aload_n 3, 1) := dc_Bk (by decide +kernel)
theorem dX6_add_45 : decode cX6_add 45 = .ok (.iconst 0, 1) := dc_Bk (by decide +kernel)
theorem dX6_add_46 : decode cX6_add 46 = .ok (.aload_n 0, 1) := dc_Bk (by decide +kernel)
theorem dX6_add_47 : decode cX6_add 47 = .ok (.getfield 25, 3) := dc_Bk (by decide +kernel)
theorem dX6_add_50 : decode cX6_add 50 = .ok (.aload_n 0, 1) := dc_Bk (by decide +kernel)
theorem dX6_add_51 : decode cX6_add 51 = .ok (.getfield 9, 3) := dc_Bk (by decide +kernel)
theorem dX6_add_54 : decode cX6_add 54 = .ok (.bipush 7, 2) := dc_Bk (by decide +kernel)
theorem dX6_add_56 : decode cX6_add 56 = .ok (.imul, 1) := dc_Bk (by decide +kernel)
theorem dX6_add_57 : decode cX6_add 57 = .ok (.bipush 7, 2) := dc_Bk (by decide +kernel)
theorem dX6_add_59 : decode cX6_add 59 = .ok (.invokestatic 28, 3) := dc_Bk (by decide +kernel)
theorem dX6_add_62 : decode cX6_add 62 = .ok (.aload_n 0, 1) := dc_Bk (by decide +kernel)
theorem dX6_add_63 : decode cX6_add 63 = .ok (.dup, 1) := dc_Bk (by decide +kernel)
theorem dX6_add_64 : decode cX6_add 64 = .ok (.getfield 9, 3) := dc_Bk (by decide +kernel)
theorem dX6_add_67 : decode cX6_add 67 = .ok (.iconst 1, 1) := dc_Bk (by decide +kernel)
theorem dX6_add_68 : decode cX6_add 68 = .ok (.iadd, 1) := dc_Bk (by decide +kernel)
theorem dX6_add_69 : decode cX6_add 69 = .ok (.putfield 9, 3) := dc_Bk (by decide +kernel)
theorem dX6_add_72 : decode cX6_add 72 = .ok (.return_, 1) := dc_Bk (by decide +kernel)
def plO (st : Nat → Int32) (tw rr : Nat) (dy : Int32) : Int32 := if dy - st rr < 0 then -1 else if nI tw ≤ dy - st rr then -1 else nI rr * 7 + (dy - st rr)
theorem plO_in {st : Nat → Int32} {tw rr : Nat} {dy : Int32} (ht : tw ≤ 7) (hr : rr < 3) (h : ¬ plO st tw rr dy = -1) : ∃ a : Nat, a < 21 ∧ plO st tw rr dy = nI a := by
  unfold plO at h ⊢
  by_cases h0 : dy - st rr < 0
  · rw [if_pos h0] at h; exact absurd rfl h
  · by_cases h1 : nI tw ≤ dy - st rr
    · rw [if_neg h0, if_pos h1] at h; exact absurd rfl h
    · rw [if_neg h0, if_neg h1]
      obtain ⟨j, hj, e⟩ := nI_of h0
      have hj7 : j < tw := Nat.not_le.mp (fun q => h1 (by rw [e]; exact nI_le q hj))
      refine ⟨rr * 7 + j, by omega, ?_⟩
      rw [e, ← nI_add, ← pk_mul]
      rfl
def bsS (st ts : Nat → Int32) (tw : Nat) (dy : Int32) : Nat → Int32
  | 0 => 0
  | r + 1 => if plO st tw r dy = -1 then bsS st ts tw dy r else bsS st ts tw dy r ||| ((1 : Int32) <<< ((ts (plO st tw r dy).toNatClampNeg) &&& 31))
def fhF (st th : Nat → Int32) (tw : Nat) (dy hv v : Int32) : Nat → Int32
  | 0 => v
  | r + 1 => if plO st tw r dy = -1 then fhF st th tw dy hv v r else if ¬ th (plO st tw r dy).toNatClampNeg = hv then fhF st th tw dy hv v r else fhF st th tw dy hv v r + (-1)
def fhS (st th be : Nat → Int32) (tw ck : Nat) (dy : Int32) : Nat → Int32
  | 0 => 0
  | z + 1 => if 0 < fhF st th tw dy (nI z) (be z) ck then fhS st th be tw ck dy z else fhS st th be tw ck dy z ||| ((1 : Int32) <<< (nI z &&& 31))
def fhR (st th be : Nat → Int32) (tw ck : Nat) (dy : Int32) : Int32 := if ck = 0 then 0 else fhS st th be tw ck dy 7

abbrev c_X6_clearFor (k : Nat → ClassId) (h : Nat) (tk1 : Nat) (tk2 : Nat) (tk3 : Nat) (ca : Int32) (cb : Int32) (w : Int32) : va_W := [(h, .inr (6, [.int ca, .int cb, .ref tk1, .ref tk2, .ref tk3]))]
abbrev r_X6_clearFor : Room := { frames := 0, cells := 0, slots := 0, locals := 0 }
def w_X6_clearFor (k : Nat → ClassId) (h : Nat) (tk1 : Nat) (tk2 : Nat) (tk3 : Nat) (ca : Int32) (cb : Int32) (w : Int32) : Unit → va_W := fun _ => [(h, .inr (6, [.int 0, .int w, .ref tk1, .ref tk2, .ref tk3]))]
def p_X6_clearFor (k : Nat → ClassId) (h : Nat) (tk1 : Nat) (tk2 : Nat) (tk3 : Nat) (ca : Int32) (cb : Int32) (w : Int32) : Unit → Prop := fun (u : Unit) => True
abbrev q_X6_clearFor (D : va_G) (k : Nat → ClassId) (h : Nat) (tk1 : Nat) (tk2 : Nat) (tk3 : Nat) (ca : Int32) (cb : Int32) (w : Int32) (A : Nat → Prop) : Array Value → State → Outcome → State → Prop := va_Qv (p_X6_clearFor k h tk1 tk2 tk3 ca cb w) (fun u9 t9 => BO D (w_X6_clearFor k h tk1 tk2 tk3 ca cb w u9) A t9) A
set_option maxHeartbeats 2000000 in
set_option maxRecDepth 100000 in
theorem X6_clearFor (l : Launch) (D : va_G) (k : Nat → ClassId) (sz : Nat) (h : Nat) (tk1 : Nat) (tk2 : Nat) (tk3 : Nat) (ca : Int32) (cb : Int32) (w : Int32)  : Met l yX6_clearFor wsX6_clearFor r_X6_clearFor (va_Pc [.ref h, .int w] (PR D k (c_X6_clearFor k h tk1 tk2 tk3 ca cb w) sz)) (q_X6_clearFor D k h tk1 tk2 tk3 ca cb w (va_A (c_X6_clearFor k h tk1 tk2 tk3 ca cb w) sz)) 0 0 (va_A (c_X6_clearFor k h tk1 tk2 tk3 ca cb w) sz) := by
  refine Met.ofW (cc := cX6_clearFor) (maxL := 2) (ret := none) (by decide) rfl ?_
  intro p e s m args below meth c s₁ B hml hv
  obtain ⟨rfl, hsz, hP, hG, hD0⟩ := hv
  have hx := B.exec
  have hb := B.bytes
  have hr := B.returns
  have hts := atoms_spec (ws := wsX6_clearFor) B.pre
  have hown : s.vm.findClass RX6 = some m.cls := findClass_of_methodNamed B.named
  have hlocks := B.notSynchronized
  have hi6 : ∀ w ∈ wsX60, w ∈ wsX6_clearFor := fun _ h => List.mem_cons_of_mem _ (List.mem_append_right _ h)
  subst hsz
  have hD := hD0.self (sz := s.heap.size)
  generalize hAe : va_A (c_X6_clearFor k h tk1 tk2 tk3 ca cb w) s.heap.size = A at hD ⊢
  have hA : ∀ q : Nat, s.heap.size ≤ q → A q := fun q h => by rw [← hAe]; exact Or.inr h
  have hS : va_S A s.heap s.heap [] := va_S.rf
  have hP : va_P D vwCl [(h, .inr (6, [.int ca, .int cb, .ref tk1, .ref tk2, .ref tk3]))] s.heap := hP
  have hD : va_D A [(h, .inr (6, [.int ca, .int cb, .ref tk1, .ref tk2, .ref tk3]))] := hD
  have hl := lv_entry ([.ref h, .int w]) (n := 2) (Nat.le_of_ble_eq_true rfl)
  rw [lg_entry_eq]
  generalize (lg_sl ([.ref h, .int w]) ++ List.replicate (2 - (lg_sl ([.ref h, .int w])).length) Slot.unset).toArray = ls at hl ⊢
  have hl : lv_has ls 2 [(0, .ref h), (1, .int w)] := hl
  refine lv_aload_n hx hb dX6_clearFor_0 rfl (lv_at hl 0 rfl) ?_
  refine lv_iconst (v := 0) hx hb dX6_clearFor_1 (by decide) ?_
  refine va_put (D := D) (ci := 6) (v := .int 0) (ty := .int) (C := RX6) (T := TX6) (N := 5) hx hb hts hi6 tyX6 tyX6_ok nmX6 hown hG.1 hP hD hS 0 rfl rfl 0 (by decide) (hts (.fieldLink RX6 9 "SleptMatters$Taken" "count" "I") (List.mem_cons_of_mem _ (List.mem_append_left _ (List.mem_of_getElem? (i := 0) rfl)))) (fun _ h9 => h9) rfl (by decide +kernel) rfl rfl (Nat.le_of_ble_eq_true rfl) dX6_clearFor_2 (fun H locs hP hD hS => ?_)
  have hP : va_P D vwCl [(h, .inr (6, [.int 0, .int cb, .ref tk1, .ref tk2, .ref tk3]))] H := hP
  have hD : va_D A [(h, .inr (6, [.int 0, .int cb, .ref tk1, .ref tk2, .ref tk3]))] := hD
  refine lv_aload_n hx hb dX6_clearFor_5 rfl (lv_at hl 0 rfl) ?_
  refine lv_iload_n hx hb dX6_clearFor_6 rfl (lv_at hl 1 rfl) ?_
  refine va_put (D := D) (ci := 6) (v := .int w) (ty := .int) (C := RX6) (T := TX6) (N := 5) hx hb hts hi6 tyX6 tyX6_ok nmX6 hown hG.1 hP hD hS 0 rfl rfl 1 (by decide) (hts (.fieldLink RX6 15 "SleptMatters$Taken" "nights" "I") (List.mem_cons_of_mem _ (List.mem_append_left _ (List.mem_of_getElem? (i := 1) rfl)))) (fun _ h9 => h9) rfl (by decide +kernel) rfl rfl (Nat.le_of_ble_eq_true rfl) dX6_clearFor_7 (fun H locs hP hD hS => ?_)
  have hP : va_P D vwCl [(h, .inr (6, [.int 0, .int w, .ref tk1, .ref tk2, .ref tk3]))] H := hP
  have hD : va_D A [(h, .inr (6, [.int 0, .int w, .ref tk1, .ref tk2, .ref tk3]))] := hD
  have hP9 := hP.sub (ws' := [(h, .inr (6, [.int 0, .int w, .ref tk1, .ref tk2, .ref tk3]))]) [0] rfl
  have hD9 := hD.sub (ws' := [(h, .inr (6, [.int 0, .int w, .ref tk1, .ref tk2, .ref tk3]))]) [0] (by decide +kernel) rfl
  exact W.vret hx hb hr (fun t9 ht _ => ⟨⟨(), rfl, trivial, by rw [ht]; exact hP9, hD9⟩, hS.F ht⟩) hS.2.2 dX6_clearFor_10

abbrev c_X6_placeOf (k : Nat → ClassId) (h : Nat) (tk1 : Nat) (tk2 : Nat) (tk3 : Nat) (ck : Nat) (tw : Nat) (st : Nat → Int32) (rr : Nat) (dy : Int32) : va_W := [(h, .inr (6, [.int (nI ck), .int (nI tw), .ref tk1, .ref tk2, .ref tk3])), (tk1, .inl (k 0, 3, .inl st))]
abbrev r_X6_placeOf : Room := { frames := 0, cells := 0, slots := 0, locals := 0 }
abbrev q_X6_placeOf (k : Nat → ClassId) (h : Nat) (tk1 : Nat) (tk2 : Nat) (tk3 : Nat) (ck : Nat) (tw : Nat) (st : Nat → Int32) (rr : Nat) (dy : Int32) : Array Value → State → Outcome → State → Prop := vp_Si (fun r => r = plO st tw rr dy)
set_option maxHeartbeats 2000000 in
set_option maxRecDepth 100000 in
theorem X6_placeOf (l : Launch) (D : va_G) (k : Nat → ClassId) (h : Nat) (tk1 : Nat) (tk2 : Nat) (tk3 : Nat) (ck : Nat) (tw : Nat) (st : Nat → Int32) (rr : Nat) (dy : Int32) (hr3 : rr < 3) : Met l yX6_placeOf wsX6_placeOf r_X6_placeOf (va_Pc [.ref h, .int (nI rr), .int dy] (PS D k (c_X6_placeOf k h tk1 tk2 tk3 ck tw st rr dy))) (q_X6_placeOf k h tk1 tk2 tk3 ck tw st rr dy) 0 0 (fun _ => False) := by
  refine Met.ofW (cc := cX6_placeOf) (maxL := 4) (ret := (some .int)) (by decide) rfl ?_
  intro p e s m args below meth c s₁ B hml hv
  obtain ⟨rfl, hP, hG⟩ := hv
  have hx := B.exec
  have hb := B.bytes
  have hr := B.returns
  have hts := atoms_spec (ws := wsX6_placeOf) B.pre
  have hown : s.vm.findClass RX6 = some m.cls := findClass_of_methodNamed B.named
  have hlocks := B.notSynchronized
  have hi6 : ∀ w ∈ wsX60, w ∈ wsX6_placeOf := fun _ h => List.mem_cons_of_mem _ (List.mem_append_right _ h)
  have hP : va_P D vwCl [(h, .inr (6, [.int (nI ck), .int (nI tw), .ref tk1, .ref tk2, .ref tk3])), (tk1, .inl (k 0, 3, .inl st))] s.heap := hP
  have hl := lv_entry ([.ref h, .int (nI rr), .int dy]) (n := 4) (Nat.le_of_ble_eq_true rfl)
  rw [lg_entry_eq]
  generalize (lg_sl ([.ref h, .int (nI rr), .int dy]) ++ List.replicate (4 - (lg_sl ([.ref h, .int (nI rr), .int dy])).length) Slot.unset).toArray = ls at hl ⊢
  have hl : lv_has ls 4 [(0, .ref h), (1, .int (nI rr)), (2, .int dy)] := hl
  refine lv_iload_n hx hb dX6_placeOf_0 rfl (lv_at hl 2 rfl) ?_
  refine lv_aload_n hx hb dX6_placeOf_1 rfl (lv_at hl 0 rfl) ?_
  refine va_get (D := D) (ci := 6) (v := .ref tk1) (C := RX6) (T := TX6) (N := 5) hx hb hts hi6 hown hG.1 hP 0 rfl rfl 2 (by decide) (hts (.fieldLink RX6 18 "SleptMatters$Taken" "starts" "[I") (List.mem_cons_of_mem _ (List.mem_append_left _ (List.mem_of_getElem? (i := 0) rfl)))) (fun _ h9 => h9) rfl dX6_placeOf_2 ?_
  refine lv_iload_n hx hb dX6_placeOf_5 rfl (lv_at hl 1 rfl) ?_
  refine va_iald hx hb hG.1 hP 1 0 rfl rfl (vp_in_nI (by omega) (by omega)) dX6_placeOf_6 ?_
  refine tp_i (y := st rr) (congrArg _ (nI_clamp (n := rr) (by omega))) ?_
  refine lv_isub hx hb dX6_placeOf_7 ?_
  refine lv_istore_n (lv' := [(3, .int (dy - (st rr))), (0, .ref h), (1, .int (nI rr)), (2, .int dy)]) hx hb dX6_placeOf_8 rfl hl (by decide) rfl (fun ls hl => ?_)
  refine lv_iload_n hx hb dX6_placeOf_9 rfl (lv_at hl 0 rfl) ?_
  refine lv_if_lt (x := dy - (st rr)) (tgt := 30) hx hb dX6_placeOf_10 (by decide) (fun c1 => ?_) (fun c1 => ?_)
  · skip
    refine lv_iconst (v := (-1)) hx hb dX6_placeOf_30 (by decide) ?_
    exact W.iret (v := (-1)) hx hb hr (fun t9 ht _ => ⟨(-1), rfl, by simp [plO, c1], ht⟩) (fun q h => by cases h) dX6_placeOf_31
  · skip
    refine lv_iload_n hx hb dX6_placeOf_13 rfl (lv_at hl 0 rfl) ?_
    refine lv_aload_n hx hb dX6_placeOf_14 rfl (lv_at hl 1 rfl) ?_
    refine va_get (D := D) (ci := 6) (v := .int (nI tw)) (C := RX6) (T := TX6) (N := 5) hx hb hts hi6 hown hG.1 hP 0 rfl rfl 1 (by decide) (hts (.fieldLink RX6 15 "SleptMatters$Taken" "nights" "I") (List.mem_cons_of_mem _ (List.mem_append_left _ (List.mem_of_getElem? (i := 1) rfl)))) (fun _ h9 => h9) rfl dX6_placeOf_15 ?_
    refine lv_icmp_ge (x := dy - (st rr)) (y := nI tw) (tgt := 30) hx hb dX6_placeOf_18 (by decide) (fun c2 => ?_) (fun c2 => ?_)
    · skip
      refine lv_iconst (v := (-1)) hx hb dX6_placeOf_30 (by decide) ?_
      exact W.iret (v := (-1)) hx hb hr (fun t9 ht _ => ⟨(-1), rfl, by simp [plO, c1, c2], ht⟩) (fun q h => by cases h) dX6_placeOf_31
    · skip
      refine lv_iload_n hx hb dX6_placeOf_21 rfl (lv_at hl 2 rfl) ?_
      refine lv_bipush (v := 7) hx hb dX6_placeOf_22 (by decide) ?_
      refine lv_imul hx hb dX6_placeOf_24 ?_
      refine lv_iload_n hx hb dX6_placeOf_25 rfl (lv_at hl 0 rfl) ?_
      refine lv_iadd hx hb dX6_placeOf_26 ?_
      refine lv_goto (tgt := 31) hx hb dX6_placeOf_27 (by decide) ?_
      exact W.iret (v := ((nI rr) * 7) + (dy - (st rr))) hx hb hr (fun t9 ht _ => ⟨((nI rr) * 7) + (dy - (st rr)), rfl, by simp [plO, c1, c2], ht⟩) (fun q h => by cases h) dX6_placeOf_31

abbrev c_X6_busySleepers (k : Nat → ClassId) (h : Nat) (tk1 : Nat) (tk2 : Nat) (tk3 : Nat) (ck : Nat) (tw : Nat) (st : Nat → Int32) (ts : Nat → Int32) (dy : Int32) : va_W := [(h, .inr (6, [.int (nI ck), .int (nI tw), .ref tk1, .ref tk2, .ref tk3])), (tk1, .inl (k 0, 3, .inl st)), (tk2, .inl (k 0, 21, .inl ts))]
abbrev r_X6_busySleepers : Room := { frames := 1, cells := 0, slots := 0, locals := 23 }
abbrev q_X6_busySleepers (k : Nat → ClassId) (h : Nat) (tk1 : Nat) (tk2 : Nat) (tk3 : Nat) (ck : Nat) (tw : Nat) (st : Nat → Int32) (ts : Nat → Int32) (dy : Int32) : Array Value → State → Outcome → State → Prop := vp_Si (fun r => r = bsS st ts tw dy ck)
set_option maxHeartbeats 2000000 in
set_option maxRecDepth 100000 in
theorem X6_busySleepers (l : Launch) (D : va_G) (k : Nat → ClassId) (h : Nat) (tk1 : Nat) (tk2 : Nat) (tk3 : Nat) (ck : Nat) (tw : Nat) (st : Nat → Int32) (ts : Nat → Int32) (dy : Int32) (hc3 : ck ≤ 3) (ht7 : tw ≤ 7) : Met l yX6_busySleepers wsX6_busySleepers r_X6_busySleepers (va_Pc [.ref h, .int dy] (PS D k (c_X6_busySleepers k h tk1 tk2 tk3 ck tw st ts dy))) (q_X6_busySleepers k h tk1 tk2 tk3 ck tw st ts dy) 0 0 (fun _ => False) := by
  refine Met.ofW (cc := cX6_busySleepers) (maxL := 5) (ret := (some .int)) (by decide) rfl ?_
  intro p e s m args below meth c s₁ B hml hv
  obtain ⟨rfl, hP, hG⟩ := hv
  have hx := B.exec
  have hb := B.bytes
  have hr := B.returns
  have hts := atoms_spec (ws := wsX6_busySleepers) B.pre
  have hown : s.vm.findClass RX6 = some m.cls := findClass_of_methodNamed B.named
  have hlocks := B.notSynchronized
  have hi6 : ∀ w ∈ wsX60, w ∈ wsX6_busySleepers := fun _ h => List.mem_cons_of_mem _ (List.mem_append_right _ h)
  have hP : va_P D vwCl [(h, .inr (6, [.int (nI ck), .int (nI tw), .ref tk1, .ref tk2, .ref tk3])), (tk1, .inl (k 0, 3, .inl st)), (tk2, .inl (k 0, 21, .inl ts))] s.heap := hP
  have hl := lv_entry ([.ref h, .int dy]) (n := 5) (Nat.le_of_ble_eq_true rfl)
  rw [lg_entry_eq]
  generalize (lg_sl ([.ref h, .int dy]) ++ List.replicate (5 - (lg_sl ([.ref h, .int dy])).length) Slot.unset).toArray = ls at hl ⊢
  have hl : lv_has ls 5 [(0, .ref h), (1, .int dy)] := hl
  refine lv_iconst (v := 0) hx hb dX6_busySleepers_0 (by decide) ?_
  refine lv_istore_n (lv' := [(2, .int 0), (0, .ref h), (1, .int dy)]) hx hb dX6_busySleepers_1 rfl hl (by decide) rfl (fun ls hl => ?_)
  refine lv_iconst (v := 0) hx hb dX6_busySleepers_2 (by decide) ?_
  refine lv_istore_n (lv' := [(3, .int 0), (2, .int 0), (0, .ref h), (1, .int dy)]) hx hb dX6_busySleepers_3 rfl hl (by decide) rfl (fun ls hl => ?_)
  have L1 : ∀ (fu9 : Nat) (i : Nat), (i ≤ ck) → ck - i < fu9 → ∀ (ls : Array Slot), lv_has ls 5 [(3, .int (nI i)), (2, .int (bsS st ts tw dy i)), (0, .ref h), (1, .int dy)] → W p l e r_X6_busySleepers s m ([.ref h, .int dy] : List Value).toArray below meth c s.heap [] 0 0 (MQ below (q_X6_busySleepers k h tk1 tk2 tk3 ck tw st ts dy) ([.ref h, .int dy] : List Value).toArray s 0 0 (fun _ => False)) (F0 m 4 ls []) := by
    intro fu9
    induction fu9 with
    | zero => intro i hi hmu; exact absurd hmu (Nat.not_lt_zero _)
    | succ fu9 ih =>
      intro i hi hmu ls hl
      refine lv_iload_n hx hb dX6_busySleepers_4 rfl (lv_at hl 0 rfl) ?_
      refine lv_aload_n hx hb dX6_busySleepers_5 rfl (lv_at hl 2 rfl) ?_
      refine va_get (D := D) (ci := 6) (v := .int (nI ck)) (C := RX6) (T := TX6) (N := 5) hx hb hts hi6 hown hG.1 hP 0 rfl rfl 0 (by decide) (hts (.fieldLink RX6 9 "SleptMatters$Taken" "count" "I") (List.mem_cons_of_mem _ (List.mem_append_left _ (List.mem_of_getElem? (i := 0) rfl)))) (fun _ h9 => h9) rfl dX6_busySleepers_6 ?_
      refine bn_ge (i := i) (j := ck) (tgt := 44) hx hb dX6_busySleepers_9 (by decide) (by omega) (by omega) (fun c2 => ?_) (fun c2 => ?_)
      · skip
        have hiN : i = ck := by omega
        refine lv_iload_n hx hb dX6_busySleepers_44 rfl (lv_at hl 1 rfl) ?_
        exact W.iret (v := bsS st ts tw dy i) hx hb hr (fun t9 ht _ => ⟨bsS st ts tw dy i, rfl, congrArg (bsS st ts tw dy) hiN, ht⟩) (fun q h => by cases h) dX6_busySleepers_45
      · skip
        refine lv_aload_n hx hb dX6_busySleepers_12 rfl (lv_at hl 2 rfl) ?_
        refine lv_iload_n hx hb dX6_busySleepers_13 rfl (lv_at hl 0 rfl) ?_
        refine lv_iload_n hx hb dX6_busySleepers_14 rfl (lv_at hl 3 rfl) ?_
        have hPc := hP.sub (ws' := (c_X6_placeOf k h tk1 tk2 tk3 ck tw st i dy)) [0, 1] rfl
        refine vp_callSi (va_Run.run (va_runV (As := [.int (nI i), .int dy]) (rest := []) ⟨hx, hb, hml, hown, hts⟩ (X6_placeOf l D k h tk1 tk2 tk3 ck tw st i dy (by omega)) (cwV 2 hts gX6_busySleepers_X6_placeOf rfl rfl rfl (by decide +kernel) ⟨Nat.le_of_ble_eq_true rfl, Nat.le_of_ble_eq_true rfl⟩) ⟨PS.blind _ _ _ _, va_recv hG.1 hP (ci := 6) (q0 := 0) rfl rfl, PS.pre hPc hG [.ref h, .int (nI i), .int dy]⟩ rfl rfl hl.1 rfl (lv_room (Nat.le_of_ble_eq_true rfl)) dX6_busySleepers_15 ⟨Nat.le_of_ble_eq_true rfl, Nat.le_of_ble_eq_true rfl⟩)) (fun r hq => ?_)
        generalize r = y3 at hq ⊢
        have hq : y3 = plO st tw i dy := hq
        refine tp_i (y := plO st tw i dy) (hq) ?_
        refine lv_istore (lv' := [(4, .int (plO st tw i dy)), (3, .int (nI i)), (2, .int (bsS st ts tw dy i)), (0, .ref h), (1, .int dy)]) hx hb dX6_busySleepers_18 hl (by decide) rfl (fun ls hl => ?_)
        refine lv_iload hx hb dX6_busySleepers_20 (lv_at hl 0 rfl) ?_
        refine lv_iconst (v := (-1)) hx hb dX6_busySleepers_22 (by decide) ?_
        refine lv_icmp_eq (x := plO st tw i dy) (y := (-1)) (tgt := 38) hx hb dX6_busySleepers_23 (by decide) (fun c4 => ?_) (fun c4 => ?_)
        · skip
          have e9 : bsS st ts tw dy (i + 1) = bsS st ts tw dy i := if_pos c4
          refine lv_iinc (v := nI (i + 1)) (lv' := [(3, .int (nI (i + 1))), (4, .int (plO st tw i dy)), (2, .int (bsS st ts tw dy i)), (0, .ref h), (1, .int dy)]) hx hb dX6_busySleepers_38 hl (k := 1) rfl (nI_add i 1) (by decide) rfl (fun ls hl => ?_)
          refine lv_goto (tgt := 4) hx hb dX6_busySleepers_41 (by decide) ?_
          rw [← e9] at hl
          exact ih (i + 1) (by omega) (by omega) ls (lv_sub hl [0, 2, 3, 4] rfl)
        · skip
          obtain ⟨a9, ha9, ea9⟩ := plO_in ht7 (by omega) c4
          have e9 : bsS st ts tw dy (i + 1) = bsS st ts tw dy i ||| ((1 : Int32) <<< ((ts (plO st tw i dy).toNatClampNeg) &&& 31)) := if_neg c4
          refine lv_iload_n hx hb dX6_busySleepers_26 rfl (lv_at hl 2 rfl) ?_
          refine lv_iconst (v := 1) hx hb dX6_busySleepers_27 (by decide) ?_
          refine lv_aload_n hx hb dX6_busySleepers_28 rfl (lv_at hl 3 rfl) ?_
          refine va_get (D := D) (ci := 6) (v := .ref tk2) (C := RX6) (T := TX6) (N := 5) hx hb hts hi6 hown hG.1 hP 0 rfl rfl 3 (by decide) (hts (.fieldLink RX6 22 "SleptMatters$Taken" "sleepers" "[I") (List.mem_cons_of_mem _ (List.mem_append_left _ (List.mem_of_getElem? (i := 1) rfl)))) (fun _ h9 => h9) rfl dX6_busySleepers_29 ?_
          refine lv_iload hx hb dX6_busySleepers_32 (lv_at hl 0 rfl) ?_
          refine va_iald hx hb hG.1 hP 2 0 rfl rfl (by rw [ea9]; exact vp_in_nI ha9 (by decide)) dX6_busySleepers_34 ?_
          refine lv_ishl hx hb dX6_busySleepers_35 ?_
          refine lv_ior hx hb dX6_busySleepers_36 ?_
          refine tp_i (y := bsS st ts tw dy (i + 1)) (e9.symm) ?_
          refine lv_istore_n (lv' := [(2, .int (bsS st ts tw dy (i + 1))), (4, .int (plO st tw i dy)), (3, .int (nI i)), (0, .ref h), (1, .int dy)]) hx hb dX6_busySleepers_37 rfl hl (by decide) rfl (fun ls hl => ?_)
          refine lv_iinc (v := nI (i + 1)) (lv' := [(3, .int (nI (i + 1))), (2, .int (bsS st ts tw dy (i + 1))), (4, .int (plO st tw i dy)), (0, .ref h), (1, .int dy)]) hx hb dX6_busySleepers_38 hl (k := 2) rfl (nI_add i 1) (by decide) rfl (fun ls hl => ?_)
          refine lv_goto (tgt := 4) hx hb dX6_busySleepers_41 (by decide) ?_
          exact ih (i + 1) (by omega) (by omega) ls (lv_sub hl [0, 1, 3, 4] rfl)
  exact L1 _ 0 (Nat.zero_le _) (Nat.lt_succ_self _) ls (lv_sub hl [0, 1, 2, 3] rfl)

abbrev c_X6_fullHouses (k : Nat → ClassId) (h : Nat) (tk1 : Nat) (tk2 : Nat) (tk3 : Nat) (ck : Nat) (tw : Nat) (st : Nat → Int32) (th : Nat → Int32) (qb : Nat) (be : Nat → Int32) (dy : Int32) : va_W := [(h, .inr (6, [.int (nI ck), .int (nI tw), .ref tk1, .ref tk2, .ref tk3])), (tk1, .inl (k 0, 3, .inl st)), (tk3, .inl (k 0, 21, .inl th)), (qb, .inl (k 0, 7, .inl be))]
abbrev r_X6_fullHouses : Room := { frames := 1, cells := 0, slots := 0, locals := 23 }
abbrev q_X6_fullHouses (k : Nat → ClassId) (h : Nat) (tk1 : Nat) (tk2 : Nat) (tk3 : Nat) (ck : Nat) (tw : Nat) (st : Nat → Int32) (th : Nat → Int32) (qb : Nat) (be : Nat → Int32) (dy : Int32) : Array Value → State → Outcome → State → Prop := vp_Si (fun r => r = fhR st th be tw ck dy)
set_option maxHeartbeats 2000000 in
set_option maxRecDepth 100000 in
theorem X6_fullHouses (l : Launch) (D : va_G) (k : Nat → ClassId) (h : Nat) (tk1 : Nat) (tk2 : Nat) (tk3 : Nat) (ck : Nat) (tw : Nat) (st : Nat → Int32) (th : Nat → Int32) (qb : Nat) (be : Nat → Int32) (dy : Int32) (hc3 : ck ≤ 3) (ht7 : tw ≤ 7) : Met l yX6_fullHouses wsX6_fullHouses r_X6_fullHouses (va_Pc [.ref h, .int dy, .ref qb] (PS D k (c_X6_fullHouses k h tk1 tk2 tk3 ck tw st th qb be dy))) (q_X6_fullHouses k h tk1 tk2 tk3 ck tw st th qb be dy) 0 0 (fun _ => False) := by
  refine Met.ofW (cc := cX6_fullHouses) (maxL := 8) (ret := (some .int)) (by decide) rfl ?_
  intro p e s m args below meth c s₁ B hml hv
  obtain ⟨rfl, hP, hG⟩ := hv
  have hx := B.exec
  have hb := B.bytes
  have hr := B.returns
  have hts := atoms_spec (ws := wsX6_fullHouses) B.pre
  have hown : s.vm.findClass RX6 = some m.cls := findClass_of_methodNamed B.named
  have hlocks := B.notSynchronized
  have hi6 : ∀ w ∈ wsX60, w ∈ wsX6_fullHouses := fun _ h => List.mem_cons_of_mem _ (List.mem_append_right _ h)
  have hP : va_P D vwCl [(h, .inr (6, [.int (nI ck), .int (nI tw), .ref tk1, .ref tk2, .ref tk3])), (tk1, .inl (k 0, 3, .inl st)), (tk3, .inl (k 0, 21, .inl th)), (qb, .inl (k 0, 7, .inl be))] s.heap := hP
  have hl := lv_entry ([.ref h, .int dy, .ref qb]) (n := 8) (Nat.le_of_ble_eq_true rfl)
  rw [lg_entry_eq]
  generalize (lg_sl ([.ref h, .int dy, .ref qb]) ++ List.replicate (8 - (lg_sl ([.ref h, .int dy, .ref qb])).length) Slot.unset).toArray = ls at hl ⊢
  have hl : lv_has ls 8 [(0, .ref h), (1, .int dy), (2, .ref qb)] := hl
  refine lv_iconst (v := 0) hx hb dX6_fullHouses_0 (by decide) ?_
  refine lv_istore_n (lv' := [(3, .int 0), (0, .ref h), (1, .int dy), (2, .ref qb)]) hx hb dX6_fullHouses_1 rfl hl (by decide) rfl (fun ls hl => ?_)
  refine lv_iconst (v := 0) hx hb dX6_fullHouses_2 (by decide) ?_
  refine lv_istore (lv' := [(4, .int 0), (3, .int 0), (0, .ref h), (1, .int dy), (2, .ref qb)]) hx hb dX6_fullHouses_3 hl (by decide) rfl (fun ls hl => ?_)
  have L1 : ∀ (fu9 : Nat) (z : Nat), (z ≤ 7) → (z = 0 ∨ ¬ ck = 0) → 7 - z < fu9 → ∀ (ls : Array Slot), lv_has ls 8 [(4, .int (nI z)), (3, .int (fhS st th be tw ck dy z)), (0, .ref h), (1, .int dy), (2, .ref qb)] → W p l e r_X6_fullHouses s m ([.ref h, .int dy, .ref qb] : List Value).toArray below meth c s.heap [] 0 0 (MQ below (q_X6_fullHouses k h tk1 tk2 tk3 ck tw st th qb be dy) ([.ref h, .int dy, .ref qb] : List Value).toArray s 0 0 (fun _ => False)) (F0 m 5 ls []) := by
    intro fu9
    induction fu9 with
    | zero => intro z hz hcz hmu; exact absurd hmu (Nat.not_lt_zero _)
    | succ fu9 ih =>
      intro z hz hcz hmu ls hl
      refine lv_aload_n hx hb dX6_fullHouses_5 rfl (lv_at hl 2 rfl) ?_
      refine va_get (D := D) (ci := 6) (v := .int (nI ck)) (C := RX6) (T := TX6) (N := 5) hx hb hts hi6 hown hG.1 hP 0 rfl rfl 0 (by decide) (hts (.fieldLink RX6 9 "SleptMatters$Taken" "count" "I") (List.mem_cons_of_mem _ (List.mem_append_left _ (List.mem_of_getElem? (i := 0) rfl)))) (fun _ h9 => h9) rfl dX6_fullHouses_6 ?_
      refine lv_if_le (x := nI ck) (tgt := 91) hx hb dX6_fullHouses_9 (by decide) (fun c2 => ?_) (fun c2 => ?_)
      · skip
        have hc0 : ck = 0 := Nat.eq_zero_of_not_pos (fun q => absurd c2 (nI_nle q (by omega)))
        have e7 : fhR st th be tw ck dy = 0 := if_pos hc0
        refine lv_iload_n hx hb dX6_fullHouses_91 rfl (lv_at hl 1 rfl) ?_
        exact W.iret (v := fhS st th be tw ck dy z) hx hb hr (fun t9 ht _ => ⟨fhS st th be tw ck dy z, rfl, (by first | exact e7.symm | exact (hcz.elim (fun q => by rw [q]; exact e7.symm) (fun q => absurd hc0 q))), ht⟩) (fun q h => by cases h) dX6_fullHouses_92
      · skip
        have hc0 : ¬ ck = 0 := fun q => c2 (by rw [q]; decide)
        refine lv_iload hx hb dX6_fullHouses_12 (lv_at hl 0 rfl) ?_
        refine lv_bipush (v := 7) hx hb dX6_fullHouses_14 (by decide) ?_
        refine bn_ge (i := z) (j := 7) (tgt := 91) hx hb dX6_fullHouses_16 (by decide) (by omega) (by omega) (fun c3 => ?_) (fun c3 => ?_)
        · skip
          have hz7 : z = 7 := by omega
          have e7 : fhR st th be tw ck dy = fhS st th be tw ck dy z := by rw [hz7]; exact if_neg hc0
          refine lv_iload_n hx hb dX6_fullHouses_91 rfl (lv_at hl 1 rfl) ?_
          exact W.iret (v := fhS st th be tw ck dy z) hx hb hr (fun t9 ht _ => ⟨fhS st th be tw ck dy z, rfl, (by first | exact e7.symm | exact (hcz.elim (fun q => by rw [q]; exact e7.symm) (fun q => absurd hc0 q))), ht⟩) (fun q h => by cases h) dX6_fullHouses_92
        · skip
          refine lv_aload_n hx hb dX6_fullHouses_19 rfl (lv_at hl 4 rfl) ?_
          refine lv_iload hx hb dX6_fullHouses_20 (lv_at hl 0 rfl) ?_
          refine va_iald hx hb hG.1 hP 3 0 rfl rfl (vp_in_nI (by omega) (by omega)) dX6_fullHouses_22 ?_
          refine tp_i (y := be z) (congrArg _ (nI_clamp (n := z) (by omega))) ?_
          refine lv_istore (lv' := [(5, .int (be z)), (4, .int (nI z)), (3, .int (fhS st th be tw ck dy z)), (0, .ref h), (1, .int dy), (2, .ref qb)]) hx hb dX6_fullHouses_23 hl (by decide) rfl (fun ls hl => ?_)
          refine lv_iconst (v := 0) hx hb dX6_fullHouses_25 (by decide) ?_
          refine lv_istore (lv' := [(6, .int 0), (5, .int (be z)), (4, .int (nI z)), (3, .int (fhS st th be tw ck dy z)), (0, .ref h), (1, .int dy), (2, .ref qb)]) hx hb dX6_fullHouses_26 hl (by decide) rfl (fun ls hl => ?_)
          have L4 : ∀ (fu9 : Nat) (i : Nat), (i ≤ ck) → ck - i < fu9 → ∀ (ls : Array Slot), lv_has ls 8 [(6, .int (nI i)), (5, .int (fhF st th tw dy (nI z) (be z) i)), (4, .int (nI z)), (3, .int (fhS st th be tw ck dy z)), (0, .ref h), (1, .int dy), (2, .ref qb)] → W p l e r_X6_fullHouses s m ([.ref h, .int dy, .ref qb] : List Value).toArray below meth c s.heap [] 0 0 (MQ below (q_X6_fullHouses k h tk1 tk2 tk3 ck tw st th qb be dy) ([.ref h, .int dy, .ref qb] : List Value).toArray s 0 0 (fun _ => False)) (F0 m 28 ls []) := by
            intro fu9L4
            induction fu9L4 with
            | zero => intro i hi hmuL4; exact absurd hmuL4 (Nat.not_lt_zero _)
            | succ fu9L4 ihL4 =>
              intro i hi hmuL4 ls hl
              refine lv_iload hx hb dX6_fullHouses_28 (lv_at hl 0 rfl) ?_
              refine lv_aload_n hx hb dX6_fullHouses_30 rfl (lv_at hl 4 rfl) ?_
              refine va_get (D := D) (ci := 6) (v := .int (nI ck)) (C := RX6) (T := TX6) (N := 5) hx hb hts hi6 hown hG.1 hP 0 rfl rfl 0 (by decide) (hts (.fieldLink RX6 9 "SleptMatters$Taken" "count" "I") (List.mem_cons_of_mem _ (List.mem_append_left _ (List.mem_of_getElem? (i := 0) rfl)))) (fun _ h9 => h9) rfl dX6_fullHouses_31 ?_
              refine bn_ge (i := i) (j := ck) (tgt := 73) hx hb dX6_fullHouses_34 (by decide) (by omega) (by omega) (fun c5 => ?_) (fun c5 => ?_)
              · skip
                have hiN : i = ck := by omega
                rw [hiN] at hl
                refine lv_iload hx hb dX6_fullHouses_73 (lv_at hl 1 rfl) ?_
                refine lv_if_gt (x := fhF st th tw dy (nI z) (be z) ck) (tgt := 85) hx hb dX6_fullHouses_75 (by decide) (fun c6 => ?_) (fun c6 => ?_)
                · skip
                  have e6 : fhS st th be tw ck dy (z + 1) = fhS st th be tw ck dy z := if_pos c6
                  refine lv_iinc (v := nI (z + 1)) (lv' := [(4, .int (nI (z + 1))), (6, .int (nI ck)), (5, .int (fhF st th tw dy (nI z) (be z) ck)), (3, .int (fhS st th be tw ck dy z)), (0, .ref h), (1, .int dy), (2, .ref qb)]) hx hb dX6_fullHouses_85 hl (k := 2) rfl (nI_add z 1) (by decide) rfl (fun ls hl => ?_)
                  refine lv_goto (tgt := 5) hx hb dX6_fullHouses_88 (by decide) ?_
                  rw [← e6] at hl
                  exact ih (z + 1) (by omega) (Or.inr hc0) (by omega) ls (lv_sub hl [0, 3, 4, 5, 6] rfl)
                · skip
                  have e6 : fhS st th be tw ck dy (z + 1) = fhS st th be tw ck dy z ||| ((1 : Int32) <<< (nI z &&& 31)) := if_neg c6
                  refine lv_iload_n hx hb dX6_fullHouses_78 rfl (lv_at hl 3 rfl) ?_
                  refine lv_iconst (v := 1) hx hb dX6_fullHouses_79 (by decide) ?_
                  refine lv_iload hx hb dX6_fullHouses_80 (lv_at hl 2 rfl) ?_
                  refine lv_ishl hx hb dX6_fullHouses_82 ?_
                  refine lv_ior hx hb dX6_fullHouses_83 ?_
                  refine tp_i (y := fhS st th be tw ck dy (z + 1)) (e6.symm) ?_
                  refine lv_istore_n (lv' := [(3, .int (fhS st th be tw ck dy (z + 1))), (6, .int (nI ck)), (5, .int (fhF st th tw dy (nI z) (be z) ck)), (4, .int (nI z)), (0, .ref h), (1, .int dy), (2, .ref qb)]) hx hb dX6_fullHouses_84 rfl hl (by decide) rfl (fun ls hl => ?_)
                  refine lv_iinc (v := nI (z + 1)) (lv' := [(4, .int (nI (z + 1))), (3, .int (fhS st th be tw ck dy (z + 1))), (6, .int (nI ck)), (5, .int (fhF st th tw dy (nI z) (be z) ck)), (0, .ref h), (1, .int dy), (2, .ref qb)]) hx hb dX6_fullHouses_85 hl (k := 3) rfl (nI_add z 1) (by decide) rfl (fun ls hl => ?_)
                  refine lv_goto (tgt := 5) hx hb dX6_fullHouses_88 (by decide) ?_
                  exact ih (z + 1) (by omega) (Or.inr hc0) (by omega) ls (lv_sub hl [0, 1, 4, 5, 6] rfl)
              · skip
                refine lv_aload_n hx hb dX6_fullHouses_37 rfl (lv_at hl 4 rfl) ?_
                refine lv_iload hx hb dX6_fullHouses_38 (lv_at hl 0 rfl) ?_
                refine lv_iload_n hx hb dX6_fullHouses_40 rfl (lv_at hl 5 rfl) ?_
                have hPc := hP.sub (ws' := (c_X6_placeOf k h tk1 tk2 tk3 ck tw st i dy)) [0, 1] rfl
                refine vp_callSi (va_Run.run (va_runV (As := [.int (nI i), .int dy]) (rest := []) ⟨hx, hb, hml, hown, hts⟩ (X6_placeOf l D k h tk1 tk2 tk3 ck tw st i dy (by omega)) (cwV 2 hts gX6_fullHouses_X6_placeOf rfl rfl rfl (by decide +kernel) ⟨Nat.le_of_ble_eq_true rfl, Nat.le_of_ble_eq_true rfl⟩) ⟨PS.blind _ _ _ _, va_recv hG.1 hP (ci := 6) (q0 := 0) rfl rfl, PS.pre hPc hG [.ref h, .int (nI i), .int dy]⟩ rfl rfl hl.1 rfl (lv_room (Nat.le_of_ble_eq_true rfl)) dX6_fullHouses_41 ⟨Nat.le_of_ble_eq_true rfl, Nat.le_of_ble_eq_true rfl⟩)) (fun r hq => ?_)
                generalize r = y7 at hq ⊢
                have hq : y7 = plO st tw i dy := hq
                refine tp_i (y := plO st tw i dy) (hq) ?_
                refine lv_istore (lv' := [(7, .int (plO st tw i dy)), (6, .int (nI i)), (5, .int (fhF st th tw dy (nI z) (be z) i)), (4, .int (nI z)), (3, .int (fhS st th be tw ck dy z)), (0, .ref h), (1, .int dy), (2, .ref qb)]) hx hb dX6_fullHouses_44 hl (by decide) rfl (fun ls hl => ?_)
                refine lv_iload hx hb dX6_fullHouses_46 (lv_at hl 0 rfl) ?_
                refine lv_iconst (v := (-1)) hx hb dX6_fullHouses_48 (by decide) ?_
                refine lv_icmp_eq (x := plO st tw i dy) (y := (-1)) (tgt := 67) hx hb dX6_fullHouses_49 (by decide) (fun c8 => ?_) (fun c8 => ?_)
                · skip
                  have e9 : fhF st th tw dy (nI z) (be z) (i + 1) = fhF st th tw dy (nI z) (be z) i := if_pos c8
                  refine lv_iinc (v := nI (i + 1)) (lv' := [(6, .int (nI (i + 1))), (7, .int (plO st tw i dy)), (5, .int (fhF st th tw dy (nI z) (be z) i)), (4, .int (nI z)), (3, .int (fhS st th be tw ck dy z)), (0, .ref h), (1, .int dy), (2, .ref qb)]) hx hb dX6_fullHouses_67 hl (k := 1) rfl (nI_add i 1) (by decide) rfl (fun ls hl => ?_)
                  refine lv_goto (tgt := 28) hx hb dX6_fullHouses_70 (by decide) ?_
                  rw [← e9] at hl
                  exact ihL4 (i + 1) (by omega) (by omega) ls (lv_sub hl [0, 2, 3, 4, 5, 6, 7] rfl)
                · skip
                  have k1 := c8
                  obtain ⟨a9, ha9, ea9⟩ := plO_in ht7 (by omega) c8
                  refine lv_aload_n hx hb dX6_fullHouses_52 rfl (lv_at hl 5 rfl) ?_
                  refine va_get (D := D) (ci := 6) (v := .ref tk3) (C := RX6) (T := TX6) (N := 5) hx hb hts hi6 hown hG.1 hP 0 rfl rfl 4 (by decide) (hts (.fieldLink RX6 25 "SleptMatters$Taken" "houses" "[I") (List.mem_cons_of_mem _ (List.mem_append_left _ (List.mem_of_getElem? (i := 1) rfl)))) (fun _ h9 => h9) rfl dX6_fullHouses_53 ?_
                  refine lv_iload hx hb dX6_fullHouses_56 (lv_at hl 0 rfl) ?_
                  refine va_iald hx hb hG.1 hP 2 0 rfl rfl (by rw [ea9]; exact vp_in_nI ha9 (by decide)) dX6_fullHouses_58 ?_
                  refine lv_iload hx hb dX6_fullHouses_59 (lv_at hl 3 rfl) ?_
                  refine lv_icmp_ne (x := th ((plO st tw i dy).toNatClampNeg)) (y := nI z) (tgt := 67) hx hb dX6_fullHouses_61 (by decide) (fun c9 => ?_) (fun c9 => ?_)
                  · skip
                    have e9 : fhF st th tw dy (nI z) (be z) (i + 1) = fhF st th tw dy (nI z) (be z) i := (if_neg k1).trans (if_pos c9)
                    refine lv_iinc (v := nI (i + 1)) (lv' := [(6, .int (nI (i + 1))), (7, .int (plO st tw i dy)), (5, .int (fhF st th tw dy (nI z) (be z) i)), (4, .int (nI z)), (3, .int (fhS st th be tw ck dy z)), (0, .ref h), (1, .int dy), (2, .ref qb)]) hx hb dX6_fullHouses_67 hl (k := 1) rfl (nI_add i 1) (by decide) rfl (fun ls hl => ?_)
                    refine lv_goto (tgt := 28) hx hb dX6_fullHouses_70 (by decide) ?_
                    rw [← e9] at hl
                    exact ihL4 (i + 1) (by omega) (by omega) ls (lv_sub hl [0, 2, 3, 4, 5, 6, 7] rfl)
                  · skip
                    have e9 : fhF st th tw dy (nI z) (be z) (i + 1) = fhF st th tw dy (nI z) (be z) i + (-1) := (if_neg k1).trans (if_neg (fun q => q c9))
                    refine lv_iinc (v := (fhF st th tw dy (nI z) (be z) i) + (-1)) (lv' := [(5, .int ((fhF st th tw dy (nI z) (be z) i) + (-1))), (7, .int (plO st tw i dy)), (6, .int (nI i)), (4, .int (nI z)), (3, .int (fhS st th be tw ck dy z)), (0, .ref h), (1, .int dy), (2, .ref qb)]) hx hb dX6_fullHouses_64 hl (k := 2) rfl (rfl) (by decide) rfl (fun ls hl => ?_)
                    refine lv_iinc (v := nI (i + 1)) (lv' := [(6, .int (nI (i + 1))), (5, .int ((fhF st th tw dy (nI z) (be z) i) + (-1))), (7, .int (plO st tw i dy)), (4, .int (nI z)), (3, .int (fhS st th be tw ck dy z)), (0, .ref h), (1, .int dy), (2, .ref qb)]) hx hb dX6_fullHouses_67 hl (k := 2) rfl (nI_add i 1) (by decide) rfl (fun ls hl => ?_)
                    refine lv_goto (tgt := 28) hx hb dX6_fullHouses_70 (by decide) ?_
                    rw [← e9] at hl
                    exact ihL4 (i + 1) (by omega) (by omega) ls (lv_sub hl [0, 1, 3, 4, 5, 6, 7] rfl)
          exact L4 _ 0 (Nat.zero_le _) (Nat.lt_succ_self _) ls (lv_sub hl [0, 1, 2, 3, 4, 5, 6] rfl)
  exact L1 _ 0 (Nat.zero_le _) (Or.inl rfl) (Nat.lt_succ_self _) ls (lv_sub hl [0, 1, 2, 3, 4] rfl)

abbrev c_X6_add (k : Nat → ClassId) (h : Nat) (tk1 : Nat) (tk2 : Nat) (tk3 : Nat) (ck : Nat) (tw : Nat) (st : Nat → Int32) (ts : Nat → Int32) (th : Nat → Int32) (ra : Nat) (rb : Nat) (rs : Nat → Int32) (rh : Nat → Int32) (ed : Int32) : va_W := [(h, .inr (6, [.int (nI ck), .int (nI tw), .ref tk1, .ref tk2, .ref tk3])), (tk1, .inl (k 0, 3, .inl st)), (tk2, .inl (k 0, 21, .inl ts)), (tk3, .inl (k 0, 21, .inl th)), (ra, .inl (k 0, 7, .inl rs)), (rb, .inl (k 0, 7, .inl rh))]
abbrev r_X6_add : Room := { frames := 1, cells := 0, slots := 0, locals := 40 }
def w_X6_add (k : Nat → ClassId) (h : Nat) (tk1 : Nat) (tk2 : Nat) (tk3 : Nat) (ck : Nat) (tw : Nat) (st : Nat → Int32) (ts : Nat → Int32) (th : Nat → Int32) (ra : Nat) (rb : Nat) (rs : Nat → Int32) (rh : Nat → Int32) (ed : Int32) : Unit → va_W := fun _ => [(h, .inr (6, [.int (nI (ck + 1)), .int (nI tw), .ref tk1, .ref tk2, .ref tk3])), (tk1, .inl (k 0, 3, .inl (upd st ck (ed - nI tw + 1)))), (tk2, .inl (k 0, 21, .inl (va_cpy rs ts 0 (ck * 7) 7))), (tk3, .inl (k 0, 21, .inl (va_cpy rh th 0 (ck * 7) 7))), (ra, .inl (k 0, 7, .inl rs)), (rb, .inl (k 0, 7, .inl rh))]
def p_X6_add (k : Nat → ClassId) (h : Nat) (tk1 : Nat) (tk2 : Nat) (tk3 : Nat) (ck : Nat) (tw : Nat) (st : Nat → Int32) (ts : Nat → Int32) (th : Nat → Int32) (ra : Nat) (rb : Nat) (rs : Nat → Int32) (rh : Nat → Int32) (ed : Int32) : Unit → Prop := fun (u : Unit) => True
abbrev q_X6_add (D : va_G) (k : Nat → ClassId) (h : Nat) (tk1 : Nat) (tk2 : Nat) (tk3 : Nat) (ck : Nat) (tw : Nat) (st : Nat → Int32) (ts : Nat → Int32) (th : Nat → Int32) (ra : Nat) (rb : Nat) (rs : Nat → Int32) (rh : Nat → Int32) (ed : Int32) (A : Nat → Prop) : Array Value → State → Outcome → State → Prop := va_Qv (p_X6_add k h tk1 tk2 tk3 ck tw st ts th ra rb rs rh ed) (fun u9 t9 => BO D (w_X6_add k h tk1 tk2 tk3 ck tw st ts th ra rb rs rh ed u9) A t9) A
set_option maxHeartbeats 2000000 in
set_option maxRecDepth 100000 in
theorem X6_add (l : Launch) (D : va_G) (k : Nat → ClassId) (sz : Nat) (h : Nat) (tk1 : Nat) (tk2 : Nat) (tk3 : Nat) (ck : Nat) (tw : Nat) (st : Nat → Int32) (ts : Nat → Int32) (th : Nat → Int32) (ra : Nat) (rb : Nat) (rs : Nat → Int32) (rh : Nat → Int32) (ed : Int32) (hc3 : ck < 3) : Met l yX6_add wsX6_add r_X6_add (va_Pc [.ref h, .int ed, .ref ra, .ref rb] (PR D k (c_X6_add k h tk1 tk2 tk3 ck tw st ts th ra rb rs rh ed) sz)) (q_X6_add D k h tk1 tk2 tk3 ck tw st ts th ra rb rs rh ed (va_A (c_X6_add k h tk1 tk2 tk3 ck tw st ts th ra rb rs rh ed) sz)) 0 0 (va_A (c_X6_add k h tk1 tk2 tk3 ck tw st ts th ra rb rs rh ed) sz) := by
  refine Met.ofW (cc := cX6_add) (maxL := 4) (ret := none) (by decide) rfl ?_
  intro p e s m args below meth c s₁ B hml hv
  obtain ⟨rfl, hsz, hP, hG, hD0⟩ := hv
  have hx := B.exec
  have hb := B.bytes
  have hr := B.returns
  have hts := atoms_spec (ws := wsX6_add) B.pre
  have hown : s.vm.findClass RX6 = some m.cls := findClass_of_methodNamed B.named
  have hlocks := B.notSynchronized
  have hi6 : ∀ w ∈ wsX60, w ∈ wsX6_add := fun _ h => List.mem_cons_of_mem _ (List.mem_append_right _ h)
  subst hsz
  have hD := hD0.self (sz := s.heap.size)
  generalize hAe : va_A (c_X6_add k h tk1 tk2 tk3 ck tw st ts th ra rb rs rh ed) s.heap.size = A at hD ⊢
  have hA : ∀ q : Nat, s.heap.size ≤ q → A q := fun q h => by rw [← hAe]; exact Or.inr h
  have hS : va_S A s.heap s.heap [] := va_S.rf
  have hP : va_P D vwCl [(h, .inr (6, [.int (nI ck), .int (nI tw), .ref tk1, .ref tk2, .ref tk3])), (tk1, .inl (k 0, 3, .inl st)), (tk2, .inl (k 0, 21, .inl ts)), (tk3, .inl (k 0, 21, .inl th)), (ra, .inl (k 0, 7, .inl rs)), (rb, .inl (k 0, 7, .inl rh))] s.heap := hP
  have hD : va_D A [(h, .inr (6, [.int (nI ck), .int (nI tw), .ref tk1, .ref tk2, .ref tk3])), (tk1, .inl (k 0, 3, .inl st)), (tk2, .inl (k 0, 21, .inl ts)), (tk3, .inl (k 0, 21, .inl th)), (ra, .inl (k 0, 7, .inl rs)), (rb, .inl (k 0, 7, .inl rh))] := hD
  have hl := lv_entry ([.ref h, .int ed, .ref ra, .ref rb]) (n := 4) (Nat.le_of_ble_eq_true rfl)
  rw [lg_entry_eq]
  generalize (lg_sl ([.ref h, .int ed, .ref ra, .ref rb]) ++ List.replicate (4 - (lg_sl ([.ref h, .int ed, .ref ra, .ref rb])).length) Slot.unset).toArray = ls at hl ⊢
  have hl : lv_has ls 4 [(0, .ref h), (1, .int ed), (2, .ref ra), (3, .ref rb)] := hl
  refine lv_aload_n hx hb dX6_add_0 rfl (lv_at hl 0 rfl) ?_
  refine va_get (D := D) (ci := 6) (v := .int (nI ck)) (C := RX6) (T := TX6) (N := 5) hx hb hts hi6 hown hG.1 hP 0 rfl rfl 0 (by decide) (hts (.fieldLink RX6 9 "SleptMatters$Taken" "count" "I") (List.mem_cons_of_mem _ (List.mem_append_left _ (List.mem_of_getElem? (i := 0) rfl)))) (fun _ h9 => h9) rfl dX6_add_1 ?_
  refine lv_iconst (v := 3) hx hb dX6_add_4 (by decide) ?_
  refine bn_lt (i := ck) (j := 3) (tgt := 9) hx hb dX6_add_5 (by decide) (by omega) (by omega) (fun c1 => ?_) (fun c1 => absurd c1 (by omega))
  refine lv_aload_n hx hb dX6_add_9 rfl (lv_at hl 0 rfl) ?_
  refine va_get (D := D) (ci := 6) (v := .ref tk1) (C := RX6) (T := TX6) (N := 5) hx hb hts hi6 hown hG.1 hP 0 rfl rfl 2 (by decide) (hts (.fieldLink RX6 18 "SleptMatters$Taken" "starts" "[I") (List.mem_cons_of_mem _ (List.mem_append_left _ (List.mem_of_getElem? (i := 1) rfl)))) (fun _ h9 => h9) rfl dX6_add_10 ?_
  refine lv_aload_n hx hb dX6_add_13 rfl (lv_at hl 0 rfl) ?_
  refine va_get (D := D) (ci := 6) (v := .int (nI ck)) (C := RX6) (T := TX6) (N := 5) hx hb hts hi6 hown hG.1 hP 0 rfl rfl 0 (by decide) (hts (.fieldLink RX6 9 "SleptMatters$Taken" "count" "I") (List.mem_cons_of_mem _ (List.mem_append_left _ (List.mem_of_getElem? (i := 0) rfl)))) (fun _ h9 => h9) rfl dX6_add_14 ?_
  refine lv_iload_n hx hb dX6_add_17 rfl (lv_at hl 1 rfl) ?_
  refine lv_aload_n hx hb dX6_add_18 rfl (lv_at hl 0 rfl) ?_
  refine va_get (D := D) (ci := 6) (v := .int (nI tw)) (C := RX6) (T := TX6) (N := 5) hx hb hts hi6 hown hG.1 hP 0 rfl rfl 1 (by decide) (hts (.fieldLink RX6 15 "SleptMatters$Taken" "nights" "I") (List.mem_cons_of_mem _ (List.mem_append_left _ (List.mem_of_getElem? (i := 2) rfl)))) (fun _ h9 => h9) rfl dX6_add_19 ?_
  refine lv_isub hx hb dX6_add_22 ?_
  refine lv_iconst (v := 1) hx hb dX6_add_23 (by decide) ?_
  refine lv_iadd hx hb dX6_add_24 ?_
  refine va_iast hx hb hG.1 hP hD hS 1 0 rfl rfl (vp_in_nI (by omega) (by omega)) dX6_add_25 (fun H locs hP hD hS => ?_)
  rw [nI_clamp (n := ck) (by omega)] at hP hD
  have hP : va_P D vwCl [(h, .inr (6, [.int (nI ck), .int (nI tw), .ref tk1, .ref tk2, .ref tk3])), (tk1, .inl (k 0, 3, .inl (upd st ck ((ed - (nI tw)) + 1)))), (tk2, .inl (k 0, 21, .inl ts)), (tk3, .inl (k 0, 21, .inl th)), (ra, .inl (k 0, 7, .inl rs)), (rb, .inl (k 0, 7, .inl rh))] H := hP
  have hD : va_D A [(h, .inr (6, [.int (nI ck), .int (nI tw), .ref tk1, .ref tk2, .ref tk3])), (tk1, .inl (k 0, 3, .inl (upd st ck ((ed - (nI tw)) + 1)))), (tk2, .inl (k 0, 21, .inl ts)), (tk3, .inl (k 0, 21, .inl th)), (ra, .inl (k 0, 7, .inl rs)), (rb, .inl (k 0, 7, .inl rh))] := hD
  refine lv_aload_n hx hb dX6_add_26 rfl (lv_at hl 2 rfl) ?_
  refine lv_iconst (v := 0) hx hb dX6_add_27 (by decide) ?_
  refine lv_aload_n hx hb dX6_add_28 rfl (lv_at hl 0 rfl) ?_
  refine va_get (D := D) (ci := 6) (v := .ref tk2) (C := RX6) (T := TX6) (N := 5) hx hb hts hi6 hown hG.1 hP 0 rfl rfl 3 (by decide) (hts (.fieldLink RX6 22 "SleptMatters$Taken" "sleepers" "[I") (List.mem_cons_of_mem _ (List.mem_append_left _ (List.mem_of_getElem? (i := 3) rfl)))) (fun _ h9 => h9) rfl dX6_add_29 ?_
  refine lv_aload_n hx hb dX6_add_32 rfl (lv_at hl 0 rfl) ?_
  refine va_get (D := D) (ci := 6) (v := .int (nI ck)) (C := RX6) (T := TX6) (N := 5) hx hb hts hi6 hown hG.1 hP 0 rfl rfl 0 (by decide) (hts (.fieldLink RX6 9 "SleptMatters$Taken" "count" "I") (List.mem_cons_of_mem _ (List.mem_append_left _ (List.mem_of_getElem? (i := 0) rfl)))) (fun _ h9 => h9) rfl dX6_add_33 ?_
  refine lv_bipush (v := 7) hx hb dX6_add_36 (by decide) ?_
  refine lv_imul hx hb dX6_add_38 ?_
  refine tp_i (y := nI (ck * 7)) (pk_mul ck 7) ?_
  refine lv_bipush (v := 7) hx hb dX6_add_39 (by decide) ?_
  refine va_copyi (ty := .int) hx hb (hml.trans hl.1.symm) hown (hts (.methodLink RX6 28 arraycopyName) (List.mem_cons_of_mem _ (List.mem_append_left _ (List.mem_of_getElem? (i := 4) rfl)))) (hts (.native arraycopyName) (List.mem_cons_of_mem _ (List.mem_append_left _ (List.mem_of_getElem? (i := 5) rfl)))) (hts (.static arraycopyName) (List.mem_cons_of_mem _ (List.mem_append_left _ (List.mem_of_getElem? (i := 6) rfl)))) (hts (.initialized "java/lang/System") (List.mem_cons_of_mem _ (List.mem_append_left _ (List.mem_of_getElem? (i := 7) rfl)))) hG.1 hP hD hS 4 2 0 0 rfl rfl rfl rfl rfl (by decide) (nI_pos (by omega)) (by decide) (by rw [show (0 : Int32).toNatClampNeg = 0 from rfl, show (7 : Int32).toNatClampNeg = 7 from rfl]; omega) (by rw [show (nI (ck * 7)).toNatClampNeg = ck * 7 from nI_clamp (by omega), show (7 : Int32).toNatClampNeg = 7 from rfl]; omega) (fun _ _ => rfl) (Nat.le_of_ble_eq_true rfl) (by decide +kernel) dX6_add_41 (fun H locs hP hD hS => ?_)
  rw [show (nI (ck * 7)).toNatClampNeg = ck * 7 from nI_clamp (by omega)] at hP hD
  have hP : va_P D vwCl [(h, .inr (6, [.int (nI ck), .int (nI tw), .ref tk1, .ref tk2, .ref tk3])), (tk1, .inl (k 0, 3, .inl (upd st ck ((ed - (nI tw)) + 1)))), (tk2, .inl (k 0, 21, .inl (va_cpy rs ts 0 (ck * 7) 7))), (tk3, .inl (k 0, 21, .inl th)), (ra, .inl (k 0, 7, .inl rs)), (rb, .inl (k 0, 7, .inl rh))] H := hP
  have hD : va_D A [(h, .inr (6, [.int (nI ck), .int (nI tw), .ref tk1, .ref tk2, .ref tk3])), (tk1, .inl (k 0, 3, .inl (upd st ck ((ed - (nI tw)) + 1)))), (tk2, .inl (k 0, 21, .inl (va_cpy rs ts 0 (ck * 7) 7))), (tk3, .inl (k 0, 21, .inl th)), (ra, .inl (k 0, 7, .inl rs)), (rb, .inl (k 0, 7, .inl rh))] := hD
  refine lv_aload_n hx hb dX6_add_44 rfl (lv_at hl 3 rfl) ?_
  refine lv_iconst (v := 0) hx hb dX6_add_45 (by decide) ?_
  refine lv_aload_n hx hb dX6_add_46 rfl (lv_at hl 0 rfl) ?_
  refine va_get (D := D) (ci := 6) (v := .ref tk3) (C := RX6) (T := TX6) (N := 5) hx hb hts hi6 hown hG.1 hP 0 rfl rfl 4 (by decide) (hts (.fieldLink RX6 25 "SleptMatters$Taken" "houses" "[I") (List.mem_cons_of_mem _ (List.mem_append_left _ (List.mem_of_getElem? (i := 8) rfl)))) (fun _ h9 => h9) rfl dX6_add_47 ?_
  refine lv_aload_n hx hb dX6_add_50 rfl (lv_at hl 0 rfl) ?_
  refine va_get (D := D) (ci := 6) (v := .int (nI ck)) (C := RX6) (T := TX6) (N := 5) hx hb hts hi6 hown hG.1 hP 0 rfl rfl 0 (by decide) (hts (.fieldLink RX6 9 "SleptMatters$Taken" "count" "I") (List.mem_cons_of_mem _ (List.mem_append_left _ (List.mem_of_getElem? (i := 0) rfl)))) (fun _ h9 => h9) rfl dX6_add_51 ?_
  refine lv_bipush (v := 7) hx hb dX6_add_54 (by decide) ?_
  refine lv_imul hx hb dX6_add_56 ?_
  refine tp_i (y := nI (ck * 7)) (pk_mul ck 7) ?_
  refine lv_bipush (v := 7) hx hb dX6_add_57 (by decide) ?_
  refine va_copyi (ty := .int) hx hb (hml.trans hl.1.symm) hown (hts (.methodLink RX6 28 arraycopyName) (List.mem_cons_of_mem _ (List.mem_append_left _ (List.mem_of_getElem? (i := 4) rfl)))) (hts (.native arraycopyName) (List.mem_cons_of_mem _ (List.mem_append_left _ (List.mem_of_getElem? (i := 5) rfl)))) (hts (.static arraycopyName) (List.mem_cons_of_mem _ (List.mem_append_left _ (List.mem_of_getElem? (i := 6) rfl)))) (hts (.initialized "java/lang/System") (List.mem_cons_of_mem _ (List.mem_append_left _ (List.mem_of_getElem? (i := 7) rfl)))) hG.1 hP hD hS 5 3 0 0 rfl rfl rfl rfl rfl (by decide) (nI_pos (by omega)) (by decide) (by rw [show (0 : Int32).toNatClampNeg = 0 from rfl, show (7 : Int32).toNatClampNeg = 7 from rfl]; omega) (by rw [show (nI (ck * 7)).toNatClampNeg = ck * 7 from nI_clamp (by omega), show (7 : Int32).toNatClampNeg = 7 from rfl]; omega) (fun _ _ => rfl) (Nat.le_of_ble_eq_true rfl) (by decide +kernel) dX6_add_59 (fun H locs hP hD hS => ?_)
  rw [show (nI (ck * 7)).toNatClampNeg = ck * 7 from nI_clamp (by omega)] at hP hD
  have hP : va_P D vwCl [(h, .inr (6, [.int (nI ck), .int (nI tw), .ref tk1, .ref tk2, .ref tk3])), (tk1, .inl (k 0, 3, .inl (upd st ck ((ed - (nI tw)) + 1)))), (tk2, .inl (k 0, 21, .inl (va_cpy rs ts 0 (ck * 7) 7))), (tk3, .inl (k 0, 21, .inl (va_cpy rh th 0 (ck * 7) 7))), (ra, .inl (k 0, 7, .inl rs)), (rb, .inl (k 0, 7, .inl rh))] H := hP
  have hD : va_D A [(h, .inr (6, [.int (nI ck), .int (nI tw), .ref tk1, .ref tk2, .ref tk3])), (tk1, .inl (k 0, 3, .inl (upd st ck ((ed - (nI tw)) + 1)))), (tk2, .inl (k 0, 21, .inl (va_cpy rs ts 0 (ck * 7) 7))), (tk3, .inl (k 0, 21, .inl (va_cpy rh th 0 (ck * 7) 7))), (ra, .inl (k 0, 7, .inl rs)), (rb, .inl (k 0, 7, .inl rh))] := hD
  refine lv_aload_n hx hb dX6_add_62 rfl (lv_at hl 0 rfl) ?_
  refine lv_dup hx hb dX6_add_63 rfl ?_
  refine va_get (D := D) (ci := 6) (v := .int (nI ck)) (C := RX6) (T := TX6) (N := 5) hx hb hts hi6 hown hG.1 hP 0 rfl rfl 0 (by decide) (hts (.fieldLink RX6 9 "SleptMatters$Taken" "count" "I") (List.mem_cons_of_mem _ (List.mem_append_left _ (List.mem_of_getElem? (i := 0) rfl)))) (fun _ h9 => h9) rfl dX6_add_64 ?_
  refine lv_iconst (v := 1) hx hb dX6_add_67 (by decide) ?_
  refine lv_iadd hx hb dX6_add_68 ?_
  refine tp_i (y := nI (ck + 1)) (nI_add ck 1) ?_
  refine va_put (D := D) (ci := 6) (v := .int (nI (ck + 1))) (ty := .int) (C := RX6) (T := TX6) (N := 5) hx hb hts hi6 tyX6 tyX6_ok nmX6 hown hG.1 hP hD hS 0 rfl rfl 0 (by decide) (hts (.fieldLink RX6 9 "SleptMatters$Taken" "count" "I") (List.mem_cons_of_mem _ (List.mem_append_left _ (List.mem_of_getElem? (i := 0) rfl)))) (fun _ h9 => h9) rfl (by decide +kernel) rfl rfl (Nat.le_of_ble_eq_true rfl) dX6_add_69 (fun H locs hP hD hS => ?_)
  have hP : va_P D vwCl [(h, .inr (6, [.int (nI (ck + 1)), .int (nI tw), .ref tk1, .ref tk2, .ref tk3])), (tk1, .inl (k 0, 3, .inl (upd st ck ((ed - (nI tw)) + 1)))), (tk2, .inl (k 0, 21, .inl (va_cpy rs ts 0 (ck * 7) 7))), (tk3, .inl (k 0, 21, .inl (va_cpy rh th 0 (ck * 7) 7))), (ra, .inl (k 0, 7, .inl rs)), (rb, .inl (k 0, 7, .inl rh))] H := hP
  have hD : va_D A [(h, .inr (6, [.int (nI (ck + 1)), .int (nI tw), .ref tk1, .ref tk2, .ref tk3])), (tk1, .inl (k 0, 3, .inl (upd st ck ((ed - (nI tw)) + 1)))), (tk2, .inl (k 0, 21, .inl (va_cpy rs ts 0 (ck * 7) 7))), (tk3, .inl (k 0, 21, .inl (va_cpy rh th 0 (ck * 7) 7))), (ra, .inl (k 0, 7, .inl rs)), (rb, .inl (k 0, 7, .inl rh))] := hD
  have hP9 := hP.sub (ws' := [(h, .inr (6, [.int (nI (ck + 1)), .int (nI tw), .ref tk1, .ref tk2, .ref tk3])), (tk1, .inl (k 0, 3, .inl (upd st ck (ed - nI tw + 1)))), (tk2, .inl (k 0, 21, .inl (va_cpy rs ts 0 (ck * 7) 7))), (tk3, .inl (k 0, 21, .inl (va_cpy rh th 0 (ck * 7) 7))), (ra, .inl (k 0, 7, .inl rs)), (rb, .inl (k 0, 7, .inl rh))]) [0, 1, 2, 3, 4, 5] rfl
  have hD9 := hD.sub (ws' := [(h, .inr (6, [.int (nI (ck + 1)), .int (nI tw), .ref tk1, .ref tk2, .ref tk3])), (tk1, .inl (k 0, 3, .inl (upd st ck (ed - nI tw + 1)))), (tk2, .inl (k 0, 21, .inl (va_cpy rs ts 0 (ck * 7) 7))), (tk3, .inl (k 0, 21, .inl (va_cpy rh th 0 (ck * 7) 7))), (ra, .inl (k 0, 7, .inl rs)), (rb, .inl (k 0, 7, .inl rh))]) [0, 1, 2, 3, 4, 5] (by decide +kernel) rfl
  exact W.vret hx hb hr (fun t9 ht _ => ⟨⟨(), rfl, trivial, by rw [ht]; exact hP9, hD9⟩, hS.F ht⟩) hS.2.2 dX6_add_72
