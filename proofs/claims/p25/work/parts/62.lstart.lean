
theorem start_GE {s : State} {b : Nat} (hts : ∀ w ∈ lw_tbl, w.before #[Value.ref b] s = true) : ∃ (D : va_G) (k : Nat → ClassId), GE D k s := by
  obtain ⟨c0, iS0, hKn0⟩ := u_known (C := RX0) (T := TX0) (N := 4) (n := 4) hts (fun w h => (gw_X0 w h).1) (hts (.instantiable RX0 4) tw_15.1)
  obtain ⟨c1, iS1, hKn1⟩ := u_known (C := RX1) (T := TX1) (N := 5) (n := 5) hts (fun w h => (gw_X1 w h).1) (hts (.instantiable RX1 5) tw_38.1)
  obtain ⟨c2, iS2, hKn2⟩ := u_known (C := RX2) (T := TX2) (N := 10) (n := 10) hts (fun w h => (gw_X2 w h).1) (hts (.instantiable RX2 10) tw_8.1)
  obtain ⟨c3, iS3, hKn3⟩ := u_known (C := RX3) (T := TX3) (N := 5) (n := 5) hts (fun w h => (gw_X3 w h).1) (hts (.instantiable RX3 5) tw_24.1)
  obtain ⟨c4, iS4, hKn4⟩ := u_known (C := RX4) (T := TX4) (N := 9) (n := 9) hts (fun w h => (gw_X4 w h).1) (hts (.instantiable RX4 9) tw_34.1)
  obtain ⟨c5, iS5, hKn5⟩ := u_known (C := RX5) (T := TX5) (N := 10) (n := 10) hts (fun w h => (gw_X5 w h).1) (hts (.instantiable RX5 10) tw_30.1)
  obtain ⟨c6, iS6, hKn6⟩ := u_known (C := RX6) (T := TX6) (N := 5) (n := 5) hts (fun w h => (gw_X6 w h).1) (hts (.instantiable RX6 5) tw_110.1)
  obtain ⟨c7, iS7, hKn7⟩ := u_known (C := RX7) (T := TX7) (N := 8) (n := 8) hts (fun w h => (gw_X7 w h).1) (hts (.instantiable RX7 8) tw_4.1)
  obtain ⟨c8, iS8, hKn8⟩ := u_known (C := RX8) (T := TX8) (N := 5) (n := 5) hts (fun w h => (gw_X8 w h).1) (hts (.instantiable RX8 5) tw_19.1)
  obtain ⟨c9, iS9, hKn9⟩ := u_known (C := RX9) (T := TX9) (N := 13) (n := 13) hts (fun w h => (gw_X9 w h).1) (hts (.instantiable RX9 13) tw_1330.1)
  obtain ⟨c10, iS10, hKn10⟩ := u_known (C := RX10) (T := TX10) (N := 73) (n := 73) hts (fun w h => (gw_X10 w h).1) (hts (.instantiable RX10 73) tw_1332.1)
  obtain ⟨cI, kI, mI, aI, bI, dI⟩ := Cond.arrayClass_spec (hts (.arrayClass .int) tm_1338)
  obtain ⟨cJ, kJ, mJ, aJ, bJ, dJ⟩ := Cond.arrayClass_spec (hts (.arrayClass .long) tm_1339)
  obtain ⟨cZ, kZ, mZ, aZ, bZ, dZ⟩ := Cond.arrayClass_spec (hts (.arrayClass .boolean) tm_1340)
  obtain ⟨comp, cC, kC, h1, h2, h3, h4, h5⟩ := Cond.arrayOver_spec (hts (.arrayOver (.object "SleptMatters$Course")) tm_1341)
  obtain ⟨cmp2, cG, kG, g1, g2, g3, g4, g5⟩ := arrayOverA_spec (hts (.arrayOver (.array .int)) tm_1342)
  refine ⟨(fun i => if i = 0 then c0 else if i = 1 then c1 else if i = 2 then c2 else if i = 3 then c3 else if i = 4 then c4 else if i = 5 then c5 else if i = 6 then c6 else if i = 7 then c7 else if i = 8 then c8 else if i = 9 then c9 else c10, fun i => if i = 0 then iS0 else if i = 1 then iS1 else if i = 2 then iS2 else if i = 3 then iS3 else if i = 4 then iS4 else if i = 5 then iS5 else if i = 6 then iS6 else if i = 7 then iS7 else if i = 8 then iS8 else if i = 9 then iS9 else iS10), fun i => if i = 0 then cI else if i = 1 then cJ else if i = 2 then cZ else if i = 3 then cC else cG, ⟨?_, ?_⟩, ?_, va_AO.of (hts (.arrayOver (.object "SleptMatters$Course")) tm_1341), hts (.arrayOver (.array .int)) tm_1342⟩
  · intro i q hq
    match i, hq with
    | 0, hq => cases hq; exact hKn0
    | 1, hq => cases hq; exact hKn1
    | 2, hq => cases hq; exact hKn2
    | 3, hq => cases hq; exact hKn3
    | 4, hq => cases hq; exact hKn4
    | 5, hq => cases hq; exact hKn5
    | 6, hq => cases hq; exact hKn6
    | 7, hq => cases hq; exact hKn7
    | 8, hq => cases hq; exact hKn8
    | 9, hq => cases hq; exact hKn9
    | 10, hq => cases hq; exact hKn10
    | i + 11, hq => simp [vwCl] at hq
  · intro i q hq
    match i, hq with
    | 0, hq => cases hq; exact ⟨fun N z => ⟨(fun q hq => by cases hq), kI, bI, mI, dI⟩, aI⟩
    | 1, hq => cases hq; exact ⟨fun N z => ⟨(fun q hq => by cases hq), kJ, bJ, mJ, dJ⟩, aJ⟩
    | 2, hq => cases hq; exact ⟨fun N z => ⟨(fun q hq => by cases hq), kZ, bZ, mZ, dZ⟩, aZ⟩
    | 3, hq => cases hq; exact ⟨fun N z => ⟨(fun q hq => by cases hq), kC, h3, comp, h4⟩, kC, comp, h3, h4, h1, h5⟩
    | 4, hq => cases hq; exact ⟨fun N z => ⟨(fun q hq => by cases hq), kG, g3, cmp2, g4⟩, g5⟩
    | i + 5, hq => simp [GT] at hq
  · intro w hw
    simp only [NWL, List.mem_cons, List.not_mem_nil, or_false] at hw
    rcases hw with rfl | rfl | rfl | rfl | rfl | rfl | rfl | rfl | rfl | rfl | rfl | rfl
    · exact va_Nw.of rfl (hts (.methodLinkNest RX9 9 yX7_init RX9) tm_1343)
    · exact va_Nw.of rfl (hts (.methodLinkNest RX9 33 yX0_init RX9) tm_1344)
    · exact va_Nw.of rfl (hts (.methodLinkNest RX9 40 yX8_init RX9) tm_1345)
    · exact va_Nw.of rfl (hts (.methodLinkNest RX9 50 yX3_init RX9) tm_1346)
    · exact va_Nw.of rfl (hts (.methodLinkNest RX5 20 yX6_init RX9) tm_1347)
    · exact va_Nw.of rfl (hts (.methodLinkNest RX4 31 yX6_init RX9) tm_1348)
    · exact va_Nw.of rfl (hts (.methodLinkNest RX3 58 yX9_isIn RX9) tm_1349)
    · exact va_Nw.of rfl (hts (.methodLinkNest RX2 67 yX9_isIn RX9) tm_1350)
    · exact va_Nw.of rfl (hts (.methodLinkNest RX5 99 yX9_isIn RX9) tm_1351)
    · exact va_Nw.of rfl (hts (.methodLinkNest RX1 56 yX9_isIn RX9) tm_1352)
    · exact va_Nw.of rfl (hts (.methodLinkNest RX8 135 yX9_isIn RX9) tm_1353)
    · exact va_Nw.of rfl (hts (.methodLinkNest RX0 25 yX9_isIn RX9) tm_1354)
theorem start_T0 {s : State} {b : Nat} (hs : ∀ w ∈ flatC (Jvm.Cond.and given_1 narrow_1), w.before #[Value.ref b] s = true) : ∃ t : Nat, (Term.static "SleptMatters" "MOST" "[I").eval #[Value.ref b] s none [] s = some (.ref t) ∧ va_T .int t 4 (fun j => .int (stv0 j)) (fun q => s.heap.size ≤ q) s s.heap := by
  have hA : ∀ a : Nat, a < s.heap.size → ¬ (fun q : Nat => s.heap.size ≤ q) a := fun a ha => Nat.not_le.mpr ha
  refine va_Tof (tm := (Term.static "SleptMatters" "MOST" "[I")) (ty := .int) (N := 4) (f := fun j => .int (stv0 j)) (A := fun q => s.heap.size ≤ q) (by decide) (hs (.arrayOf (Term.static "SleptMatters" "MOST" "[I") .int) (by decide +kernel)) (va_eqt (hs (.eq (.length (Term.static "SleptMatters" "MOST" "[I")) (.int 4)) (by decide +kernel))) (fun j hj => ?_) hA
  match j, hj with
  | 0, _ => exact va_eqt (hs (.eq (.elem (Term.static "SleptMatters" "MOST" "[I") (.int 0)) (.int 7)) (by decide +kernel))
  | 1, _ => exact va_eqt (hs (.eq (.elem (Term.static "SleptMatters" "MOST" "[I") (.int 1)) (.int 7)) (by decide +kernel))
  | 2, _ => exact va_eqt (hs (.eq (.elem (Term.static "SleptMatters" "MOST" "[I") (.int 2)) (.int 20)) (by decide +kernel))
  | 3, _ => exact va_eqt (hs (.eq (.elem (Term.static "SleptMatters" "MOST" "[I") (.int 3)) (.int 3)) (by decide +kernel))
  | j + 4, hj => exact absurd hj (by omega)
theorem start_T1 {s : State} {b : Nat} (hs : ∀ w ∈ flatC (Jvm.Cond.and given_1 narrow_1), w.before #[Value.ref b] s = true) : ∃ t : Nat, (Term.static "SleptMatters" "PARTS_OF" "[I").eval #[Value.ref b] s none [] s = some (.ref t) ∧ va_T .int t 4 (fun j => .int (stv1 j)) (fun q => s.heap.size ≤ q) s s.heap := by
  have hA : ∀ a : Nat, a < s.heap.size → ¬ (fun q : Nat => s.heap.size ≤ q) a := fun a ha => Nat.not_le.mpr ha
  refine va_Tof (tm := (Term.static "SleptMatters" "PARTS_OF" "[I")) (ty := .int) (N := 4) (f := fun j => .int (stv1 j)) (A := fun q => s.heap.size ≤ q) (by decide) (hs (.arrayOf (Term.static "SleptMatters" "PARTS_OF" "[I") .int) (by decide +kernel)) (va_eqt (hs (.eq (.length (Term.static "SleptMatters" "PARTS_OF" "[I")) (.int 4)) (by decide +kernel))) (fun j hj => ?_) hA
  match j, hj with
  | 0, _ => exact va_eqt (hs (.eq (.elem (Term.static "SleptMatters" "PARTS_OF" "[I") (.int 0)) (.int 2)) (by decide +kernel))
  | 1, _ => exact va_eqt (hs (.eq (.elem (Term.static "SleptMatters" "PARTS_OF" "[I") (.int 1)) (.int 3)) (by decide +kernel))
  | 2, _ => exact va_eqt (hs (.eq (.elem (Term.static "SleptMatters" "PARTS_OF" "[I") (.int 2)) (.int 4)) (by decide +kernel))
  | 3, _ => exact va_eqt (hs (.eq (.elem (Term.static "SleptMatters" "PARTS_OF" "[I") (.int 3)) (.int 4)) (by decide +kernel))
  | j + 4, hj => exact absurd hj (by omega)
theorem start_T2 {s : State} {b : Nat} (hs : ∀ w ∈ flatC (Jvm.Cond.and given_1 narrow_1), w.before #[Value.ref b] s = true) : ∃ t : Nat, (Term.static "SleptMatters" "LEAST" "[I").eval #[Value.ref b] s none [] s = some (.ref t) ∧ va_T .int t 16 (fun j => .int (stv2 j)) (fun q => s.heap.size ≤ q) s s.heap := by
  have hA : ∀ a : Nat, a < s.heap.size → ¬ (fun q : Nat => s.heap.size ≤ q) a := fun a ha => Nat.not_le.mpr ha
  refine va_Tof (tm := (Term.static "SleptMatters" "LEAST" "[I")) (ty := .int) (N := 16) (f := fun j => .int (stv2 j)) (A := fun q => s.heap.size ≤ q) (by decide) (hs (.arrayOf (Term.static "SleptMatters" "LEAST" "[I") .int) (by decide +kernel)) (va_eqt (hs (.eq (.length (Term.static "SleptMatters" "LEAST" "[I")) (.int 16)) (by decide +kernel))) (fun j hj => ?_) hA
  match j, hj with
  | 0, _ => exact va_eqt (hs (.eq (.elem (Term.static "SleptMatters" "LEAST" "[I") (.int 0)) (.int 0)) (by decide +kernel))
  | 1, _ => exact va_eqt (hs (.eq (.elem (Term.static "SleptMatters" "LEAST" "[I") (.int 1)) (.int 1)) (by decide +kernel))
  | 2, _ => exact va_eqt (hs (.eq (.elem (Term.static "SleptMatters" "LEAST" "[I") (.int 2)) (.int 0)) (by decide +kernel))
  | 3, _ => exact va_eqt (hs (.eq (.elem (Term.static "SleptMatters" "LEAST" "[I") (.int 3)) (.int 0)) (by decide +kernel))
  | 4, _ => exact va_eqt (hs (.eq (.elem (Term.static "SleptMatters" "LEAST" "[I") (.int 4)) (.int 0)) (by decide +kernel))
  | 5, _ => exact va_eqt (hs (.eq (.elem (Term.static "SleptMatters" "LEAST" "[I") (.int 5)) (.int 0)) (by decide +kernel))
  | 6, _ => exact va_eqt (hs (.eq (.elem (Term.static "SleptMatters" "LEAST" "[I") (.int 6)) (.int 0)) (by decide +kernel))
  | 7, _ => exact va_eqt (hs (.eq (.elem (Term.static "SleptMatters" "LEAST" "[I") (.int 7)) (.int 0)) (by decide +kernel))
  | 8, _ => exact va_eqt (hs (.eq (.elem (Term.static "SleptMatters" "LEAST" "[I") (.int 8)) (.int 0)) (by decide +kernel))
  | 9, _ => exact va_eqt (hs (.eq (.elem (Term.static "SleptMatters" "LEAST" "[I") (.int 9)) (.int 0)) (by decide +kernel))
  | 10, _ => exact va_eqt (hs (.eq (.elem (Term.static "SleptMatters" "LEAST" "[I") (.int 10)) (.int 0)) (by decide +kernel))
  | 11, _ => exact va_eqt (hs (.eq (.elem (Term.static "SleptMatters" "LEAST" "[I") (.int 11)) (.int 1)) (by decide +kernel))
  | 12, _ => exact va_eqt (hs (.eq (.elem (Term.static "SleptMatters" "LEAST" "[I") (.int 12)) (.int 0)) (by decide +kernel))
  | 13, _ => exact va_eqt (hs (.eq (.elem (Term.static "SleptMatters" "LEAST" "[I") (.int 13)) (.int 0)) (by decide +kernel))
  | 14, _ => exact va_eqt (hs (.eq (.elem (Term.static "SleptMatters" "LEAST" "[I") (.int 14)) (.int 0)) (by decide +kernel))
  | 15, _ => exact va_eqt (hs (.eq (.elem (Term.static "SleptMatters" "LEAST" "[I") (.int 15)) (.int 0)) (by decide +kernel))
  | j + 16, hj => exact absurd hj (by omega)
theorem start_T3 {s : State} {b : Nat} (hs : ∀ w ∈ flatC (Jvm.Cond.and given_1 narrow_1), w.before #[Value.ref b] s = true) : ∃ t : Nat, (Term.static "SleptMatters" "GREATEST" "[I").eval #[Value.ref b] s none [] s = some (.ref t) ∧ va_T .int t 16 (fun j => .int (stv3 j)) (fun q => s.heap.size ≤ q) s s.heap := by
  have hA : ∀ a : Nat, a < s.heap.size → ¬ (fun q : Nat => s.heap.size ≤ q) a := fun a ha => Nat.not_le.mpr ha
  refine va_Tof (tm := (Term.static "SleptMatters" "GREATEST" "[I")) (ty := .int) (N := 16) (f := fun j => .int (stv3 j)) (A := fun q => s.heap.size ≤ q) (by decide) (hs (.arrayOf (Term.static "SleptMatters" "GREATEST" "[I") .int) (by decide +kernel)) (va_eqt (hs (.eq (.length (Term.static "SleptMatters" "GREATEST" "[I")) (.int 16)) (by decide +kernel))) (fun j hj => ?_) hA
  match j, hj with
  | 0, _ => exact va_eqt (hs (.eq (.elem (Term.static "SleptMatters" "GREATEST" "[I") (.int 0)) (.int 3)) (by decide +kernel))
  | 1, _ => exact va_eqt (hs (.eq (.elem (Term.static "SleptMatters" "GREATEST" "[I") (.int 1)) (.int 4)) (by decide +kernel))
  | 2, _ => exact va_eqt (hs (.eq (.elem (Term.static "SleptMatters" "GREATEST" "[I") (.int 2)) (.int 0)) (by decide +kernel))
  | 3, _ => exact va_eqt (hs (.eq (.elem (Term.static "SleptMatters" "GREATEST" "[I") (.int 3)) (.int 0)) (by decide +kernel))
  | 4, _ => exact va_eqt (hs (.eq (.elem (Term.static "SleptMatters" "GREATEST" "[I") (.int 4)) (.int 9)) (by decide +kernel))
  | 5, _ => exact va_eqt (hs (.eq (.elem (Term.static "SleptMatters" "GREATEST" "[I") (.int 5)) (.int 100)) (by decide +kernel))
  | 6, _ => exact va_eqt (hs (.eq (.elem (Term.static "SleptMatters" "GREATEST" "[I") (.int 6)) (.int 99)) (by decide +kernel))
  | 7, _ => exact va_eqt (hs (.eq (.elem (Term.static "SleptMatters" "GREATEST" "[I") (.int 7)) (.int 0)) (by decide +kernel))
  | 8, _ => exact va_eqt (hs (.eq (.elem (Term.static "SleptMatters" "GREATEST" "[I") (.int 8)) (.int 3)) (by decide +kernel))
  | 9, _ => exact va_eqt (hs (.eq (.elem (Term.static "SleptMatters" "GREATEST" "[I") (.int 9)) (.int 99)) (by decide +kernel))
  | 10, _ => exact va_eqt (hs (.eq (.elem (Term.static "SleptMatters" "GREATEST" "[I") (.int 10)) (.int 99)) (by decide +kernel))
  | 11, _ => exact va_eqt (hs (.eq (.elem (Term.static "SleptMatters" "GREATEST" "[I") (.int 11)) (.int 9)) (by decide +kernel))
  | 12, _ => exact va_eqt (hs (.eq (.elem (Term.static "SleptMatters" "GREATEST" "[I") (.int 12)) (.int 99)) (by decide +kernel))
  | 13, _ => exact va_eqt (hs (.eq (.elem (Term.static "SleptMatters" "GREATEST" "[I") (.int 13)) (.int 99)) (by decide +kernel))
  | 14, _ => exact va_eqt (hs (.eq (.elem (Term.static "SleptMatters" "GREATEST" "[I") (.int 14)) (.int 999)) (by decide +kernel))
  | 15, _ => exact va_eqt (hs (.eq (.elem (Term.static "SleptMatters" "GREATEST" "[I") (.int 15)) (.int 99)) (by decide +kernel))
  | j + 16, hj => exact absurd hj (by omega)
theorem start_T4 {s : State} {b : Nat} (hs : ∀ w ∈ flatC (Jvm.Cond.and given_1 narrow_1), w.before #[Value.ref b] s = true) : ∃ t : Nat, (Term.static "SleptMatters" "RISING_PART" "[I").eval #[Value.ref b] s none [] s = some (.ref t) ∧ va_T .int t 4 (fun j => .int (stv4 j)) (fun q => s.heap.size ≤ q) s s.heap := by
  have hA : ∀ a : Nat, a < s.heap.size → ¬ (fun q : Nat => s.heap.size ≤ q) a := fun a ha => Nat.not_le.mpr ha
  refine va_Tof (tm := (Term.static "SleptMatters" "RISING_PART" "[I")) (ty := .int) (N := 4) (f := fun j => .int (stv4 j)) (A := fun q => s.heap.size ≤ q) (by decide) (hs (.arrayOf (Term.static "SleptMatters" "RISING_PART" "[I") .int) (by decide +kernel)) (va_eqt (hs (.eq (.length (Term.static "SleptMatters" "RISING_PART" "[I")) (.int 4)) (by decide +kernel))) (fun j hj => ?_) hA
  match j, hj with
  | 0, _ => exact va_eqt (hs (.eq (.elem (Term.static "SleptMatters" "RISING_PART" "[I") (.int 0)) (.int (-1))) (by decide +kernel))
  | 1, _ => exact va_eqt (hs (.eq (.elem (Term.static "SleptMatters" "RISING_PART" "[I") (.int 1)) (.int (-1))) (by decide +kernel))
  | 2, _ => exact va_eqt (hs (.eq (.elem (Term.static "SleptMatters" "RISING_PART" "[I") (.int 2)) (.int 2)) (by decide +kernel))
  | 3, _ => exact va_eqt (hs (.eq (.elem (Term.static "SleptMatters" "RISING_PART" "[I") (.int 3)) (.int 1)) (by decide +kernel))
  | j + 4, hj => exact absurd hj (by omega)
theorem start_T5 {s : State} {b : Nat} (hs : ∀ w ∈ flatC (Jvm.Cond.and given_1 narrow_1), w.before #[Value.ref b] s = true) : ∃ t : Nat, (Term.static "SleptMatters" "LACKS" "[J").eval #[Value.ref b] s none [] s = some (.ref t) ∧ va_T .long t 6 (fun j => .long (stv5 j)) (fun q => s.heap.size ≤ q) s s.heap := by
  have hA : ∀ a : Nat, a < s.heap.size → ¬ (fun q : Nat => s.heap.size ≤ q) a := fun a ha => Nat.not_le.mpr ha
  refine va_Tof (tm := (Term.static "SleptMatters" "LACKS" "[J")) (ty := .long) (N := 6) (f := fun j => .long (stv5 j)) (A := fun q => s.heap.size ≤ q) (by decide) (hs (.arrayOf (Term.static "SleptMatters" "LACKS" "[J") .long) (by decide +kernel)) (va_eqt (hs (.eq (.length (Term.static "SleptMatters" "LACKS" "[J")) (.int 6)) (by decide +kernel))) (fun j hj => ?_) hA
  match j, hj with
  | 0, _ => exact va_eqtl (hs (.eq (.elem (Term.static "SleptMatters" "LACKS" "[J") (.int 0)) (.long 6148914691236517205)) (by decide +kernel))
  | 1, _ => exact va_eqtl (hs (.eq (.elem (Term.static "SleptMatters" "LACKS" "[J") (.int 1)) (.long 3689348814741910323)) (by decide +kernel))
  | 2, _ => exact va_eqtl (hs (.eq (.elem (Term.static "SleptMatters" "LACKS" "[J") (.int 2)) (.long 1085102592571150095)) (by decide +kernel))
  | 3, _ => exact va_eqtl (hs (.eq (.elem (Term.static "SleptMatters" "LACKS" "[J") (.int 3)) (.long 71777214294589695)) (by decide +kernel))
  | 4, _ => exact va_eqtl (hs (.eq (.elem (Term.static "SleptMatters" "LACKS" "[J") (.int 4)) (.long 281470681808895)) (by decide +kernel))
  | 5, _ => exact va_eqtl (hs (.eq (.elem (Term.static "SleptMatters" "LACKS" "[J") (.int 5)) (.long 4294967295)) (by decide +kernel))
  | j + 6, hj => exact absurd hj (by omega)
theorem start_T6 {s : State} {b : Nat} (hs : ∀ w ∈ flatC (Jvm.Cond.and given_1 narrow_1), w.before #[Value.ref b] s = true) : ∃ t : Nat, (Term.static "SleptMatters" "ORDERS_COUNT" "[I").eval #[Value.ref b] s none [] s = some (.ref t) ∧ va_T .int t 4 (fun j => .int (stv6 j)) (fun q => s.heap.size ≤ q) s s.heap := by
  have hA : ∀ a : Nat, a < s.heap.size → ¬ (fun q : Nat => s.heap.size ≤ q) a := fun a ha => Nat.not_le.mpr ha
  refine va_Tof (tm := (Term.static "SleptMatters" "ORDERS_COUNT" "[I")) (ty := .int) (N := 4) (f := fun j => .int (stv6 j)) (A := fun q => s.heap.size ≤ q) (by decide) (hs (.arrayOf (Term.static "SleptMatters" "ORDERS_COUNT" "[I") .int) (by decide +kernel)) (va_eqt (hs (.eq (.length (Term.static "SleptMatters" "ORDERS_COUNT" "[I")) (.int 4)) (by decide +kernel))) (fun j hj => ?_) hA
  match j, hj with
  | 0, _ => exact va_eqt (hs (.eq (.elem (Term.static "SleptMatters" "ORDERS_COUNT" "[I") (.int 0)) (.int 1)) (by decide +kernel))
  | 1, _ => exact va_eqt (hs (.eq (.elem (Term.static "SleptMatters" "ORDERS_COUNT" "[I") (.int 1)) (.int 1)) (by decide +kernel))
  | 2, _ => exact va_eqt (hs (.eq (.elem (Term.static "SleptMatters" "ORDERS_COUNT" "[I") (.int 2)) (.int 2)) (by decide +kernel))
  | 3, _ => exact va_eqt (hs (.eq (.elem (Term.static "SleptMatters" "ORDERS_COUNT" "[I") (.int 3)) (.int 6)) (by decide +kernel))
  | j + 4, hj => exact absurd hj (by omega)
theorem start_T7 {s : State} {b : Nat} (hs : ∀ w ∈ flatC (Jvm.Cond.and given_1 narrow_1), w.before #[Value.ref b] s = true) : ∃ t : Nat, (Term.static "SleptMatters" "ORDERS_AT" "[I").eval #[Value.ref b] s none [] s = some (.ref t) ∧ va_T .int t 4 (fun j => .int (stv7 j)) (fun q => s.heap.size ≤ q) s s.heap := by
  have hA : ∀ a : Nat, a < s.heap.size → ¬ (fun q : Nat => s.heap.size ≤ q) a := fun a ha => Nat.not_le.mpr ha
  refine va_Tof (tm := (Term.static "SleptMatters" "ORDERS_AT" "[I")) (ty := .int) (N := 4) (f := fun j => .int (stv7 j)) (A := fun q => s.heap.size ≤ q) (by decide) (hs (.arrayOf (Term.static "SleptMatters" "ORDERS_AT" "[I") .int) (by decide +kernel)) (va_eqt (hs (.eq (.length (Term.static "SleptMatters" "ORDERS_AT" "[I")) (.int 4)) (by decide +kernel))) (fun j hj => ?_) hA
  match j, hj with
  | 0, _ => exact va_eqt (hs (.eq (.elem (Term.static "SleptMatters" "ORDERS_AT" "[I") (.int 0)) (.int 0)) (by decide +kernel))
  | 1, _ => exact va_eqt (hs (.eq (.elem (Term.static "SleptMatters" "ORDERS_AT" "[I") (.int 1)) (.int 0)) (by decide +kernel))
  | 2, _ => exact va_eqt (hs (.eq (.elem (Term.static "SleptMatters" "ORDERS_AT" "[I") (.int 2)) (.int 1)) (by decide +kernel))
  | 3, _ => exact va_eqt (hs (.eq (.elem (Term.static "SleptMatters" "ORDERS_AT" "[I") (.int 3)) (.int 5)) (by decide +kernel))
  | j + 4, hj => exact absurd hj (by omega)
theorem start_T8 {s : State} {b : Nat} (hs : ∀ w ∈ flatC (Jvm.Cond.and given_1 narrow_1), w.before #[Value.ref b] s = true) : ∃ t : Nat, (Term.static "SleptMatters" "ORDERS" "[I").eval #[Value.ref b] s none [] s = some (.ref t) ∧ va_T .int t 23 (fun j => .int (stv8 j)) (fun q => s.heap.size ≤ q) s s.heap := by
  have hA : ∀ a : Nat, a < s.heap.size → ¬ (fun q : Nat => s.heap.size ≤ q) a := fun a ha => Nat.not_le.mpr ha
  refine va_Tof (tm := (Term.static "SleptMatters" "ORDERS" "[I")) (ty := .int) (N := 23) (f := fun j => .int (stv8 j)) (A := fun q => s.heap.size ≤ q) (by decide) (hs (.arrayOf (Term.static "SleptMatters" "ORDERS" "[I") .int) (by decide +kernel)) (va_eqt (hs (.eq (.length (Term.static "SleptMatters" "ORDERS" "[I")) (.int 23)) (by decide +kernel))) (fun j hj => ?_) hA
  match j, hj with
  | 0, _ => exact va_eqt (hs (.eq (.elem (Term.static "SleptMatters" "ORDERS" "[I") (.int 0)) (.int 0)) (by decide +kernel))
  | 1, _ => exact va_eqt (hs (.eq (.elem (Term.static "SleptMatters" "ORDERS" "[I") (.int 1)) (.int 0)) (by decide +kernel))
  | 2, _ => exact va_eqt (hs (.eq (.elem (Term.static "SleptMatters" "ORDERS" "[I") (.int 2)) (.int 1)) (by decide +kernel))
  | 3, _ => exact va_eqt (hs (.eq (.elem (Term.static "SleptMatters" "ORDERS" "[I") (.int 3)) (.int 1)) (by decide +kernel))
  | 4, _ => exact va_eqt (hs (.eq (.elem (Term.static "SleptMatters" "ORDERS" "[I") (.int 4)) (.int 0)) (by decide +kernel))
  | 5, _ => exact va_eqt (hs (.eq (.elem (Term.static "SleptMatters" "ORDERS" "[I") (.int 5)) (.int 0)) (by decide +kernel))
  | 6, _ => exact va_eqt (hs (.eq (.elem (Term.static "SleptMatters" "ORDERS" "[I") (.int 6)) (.int 1)) (by decide +kernel))
  | 7, _ => exact va_eqt (hs (.eq (.elem (Term.static "SleptMatters" "ORDERS" "[I") (.int 7)) (.int 2)) (by decide +kernel))
  | 8, _ => exact va_eqt (hs (.eq (.elem (Term.static "SleptMatters" "ORDERS" "[I") (.int 8)) (.int 0)) (by decide +kernel))
  | 9, _ => exact va_eqt (hs (.eq (.elem (Term.static "SleptMatters" "ORDERS" "[I") (.int 9)) (.int 2)) (by decide +kernel))
  | 10, _ => exact va_eqt (hs (.eq (.elem (Term.static "SleptMatters" "ORDERS" "[I") (.int 10)) (.int 1)) (by decide +kernel))
  | 11, _ => exact va_eqt (hs (.eq (.elem (Term.static "SleptMatters" "ORDERS" "[I") (.int 11)) (.int 1)) (by decide +kernel))
  | 12, _ => exact va_eqt (hs (.eq (.elem (Term.static "SleptMatters" "ORDERS" "[I") (.int 12)) (.int 0)) (by decide +kernel))
  | 13, _ => exact va_eqt (hs (.eq (.elem (Term.static "SleptMatters" "ORDERS" "[I") (.int 13)) (.int 2)) (by decide +kernel))
  | 14, _ => exact va_eqt (hs (.eq (.elem (Term.static "SleptMatters" "ORDERS" "[I") (.int 14)) (.int 1)) (by decide +kernel))
  | 15, _ => exact va_eqt (hs (.eq (.elem (Term.static "SleptMatters" "ORDERS" "[I") (.int 15)) (.int 2)) (by decide +kernel))
  | 16, _ => exact va_eqt (hs (.eq (.elem (Term.static "SleptMatters" "ORDERS" "[I") (.int 16)) (.int 0)) (by decide +kernel))
  | 17, _ => exact va_eqt (hs (.eq (.elem (Term.static "SleptMatters" "ORDERS" "[I") (.int 17)) (.int 2)) (by decide +kernel))
  | 18, _ => exact va_eqt (hs (.eq (.elem (Term.static "SleptMatters" "ORDERS" "[I") (.int 18)) (.int 0)) (by decide +kernel))
  | 19, _ => exact va_eqt (hs (.eq (.elem (Term.static "SleptMatters" "ORDERS" "[I") (.int 19)) (.int 1)) (by decide +kernel))
  | 20, _ => exact va_eqt (hs (.eq (.elem (Term.static "SleptMatters" "ORDERS" "[I") (.int 20)) (.int 2)) (by decide +kernel))
  | 21, _ => exact va_eqt (hs (.eq (.elem (Term.static "SleptMatters" "ORDERS" "[I") (.int 21)) (.int 1)) (by decide +kernel))
  | 22, _ => exact va_eqt (hs (.eq (.elem (Term.static "SleptMatters" "ORDERS" "[I") (.int 22)) (.int 0)) (by decide +kernel))
  | j + 23, hj => exact absurd hj (by omega)
def tmS (i : Nat) : Term := ([.string "SleptMatters$Town" 89, .string "SleptMatters$Town" 95, .string "SleptMatters$Town" 97, .string "SleptMatters$Town" 99, .string "SleptMatters$Law" 69, .string "SleptMatters$Law" 74, .string "SleptMatters$Law" 75, .string "SleptMatters$Law" 76] : List Term).getD i (.int 0)
theorem start_S {s : State} {b : Nat} (hs : ∀ w ∈ flatC (Jvm.Cond.and given_1 narrow_1), w.before #[Value.ref b] s = true) : ∃ adK adV : Nat → Nat, vk_S 8 LNl BTl adK adV (fun q => s.heap.size ≤ q) s s.heap ∧ ∀ i : Nat, i < 8 → (tmS i).eval #[Value.ref b] s none [] s = some (.ref (adK i)) := by
  have hA : ∀ a : Nat, a < s.heap.size → ¬ (fun q : Nat => s.heap.size ≤ q) a := fun a ha => Nat.not_le.mpr ha
  refine vk_Sof (tm := tmS) (by decide) (fun i hi => ?_) (fun i hi => ?_) (fun i hi => ?_) (fun i hi => ?_) (fun i hi j hj => ?_) (fun i j hi hj hne => ?_) hA
  · skip
    match i, hi with
    | 0, _ => exact hs (.exactly (Term.string "SleptMatters$Town" 89) "java/lang/String") (by decide +kernel)
    | 1, _ => exact hs (.exactly (Term.string "SleptMatters$Town" 95) "java/lang/String") (by decide +kernel)
    | 2, _ => exact hs (.exactly (Term.string "SleptMatters$Town" 97) "java/lang/String") (by decide +kernel)
    | 3, _ => exact hs (.exactly (Term.string "SleptMatters$Town" 99) "java/lang/String") (by decide +kernel)
    | 4, _ => exact hs (.exactly (Term.string "SleptMatters$Law" 69) "java/lang/String") (by decide +kernel)
    | 5, _ => exact hs (.exactly (Term.string "SleptMatters$Law" 74) "java/lang/String") (by decide +kernel)
    | 6, _ => exact hs (.exactly (Term.string "SleptMatters$Law" 75) "java/lang/String") (by decide +kernel)
    | 7, _ => exact hs (.exactly (Term.string "SleptMatters$Law" 76) "java/lang/String") (by decide +kernel)
    | i + 8, hi => exact absurd hi (by omega)
  · skip
    match i, hi with
    | 0, _ => exact hs (.eq (.field (Term.string "SleptMatters$Town" 89) "java/lang/String" "coder" "B") (.int 0)) (by decide +kernel)
    | 1, _ => exact hs (.eq (.field (Term.string "SleptMatters$Town" 95) "java/lang/String" "coder" "B") (.int 0)) (by decide +kernel)
    | 2, _ => exact hs (.eq (.field (Term.string "SleptMatters$Town" 97) "java/lang/String" "coder" "B") (.int 0)) (by decide +kernel)
    | 3, _ => exact hs (.eq (.field (Term.string "SleptMatters$Town" 99) "java/lang/String" "coder" "B") (.int 0)) (by decide +kernel)
    | 4, _ => exact hs (.eq (.field (Term.string "SleptMatters$Law" 69) "java/lang/String" "coder" "B") (.int 0)) (by decide +kernel)
    | 5, _ => exact hs (.eq (.field (Term.string "SleptMatters$Law" 74) "java/lang/String" "coder" "B") (.int 0)) (by decide +kernel)
    | 6, _ => exact hs (.eq (.field (Term.string "SleptMatters$Law" 75) "java/lang/String" "coder" "B") (.int 0)) (by decide +kernel)
    | 7, _ => exact hs (.eq (.field (Term.string "SleptMatters$Law" 76) "java/lang/String" "coder" "B") (.int 0)) (by decide +kernel)
    | i + 8, hi => exact absurd hi (by omega)
  · skip
    match i, hi with
    | 0, _ => exact hs (.arrayOf (.field (Term.string "SleptMatters$Town" 89) "java/lang/String" "value" "[B") .byte) (by decide +kernel)
    | 1, _ => exact hs (.arrayOf (.field (Term.string "SleptMatters$Town" 95) "java/lang/String" "value" "[B") .byte) (by decide +kernel)
    | 2, _ => exact hs (.arrayOf (.field (Term.string "SleptMatters$Town" 97) "java/lang/String" "value" "[B") .byte) (by decide +kernel)
    | 3, _ => exact hs (.arrayOf (.field (Term.string "SleptMatters$Town" 99) "java/lang/String" "value" "[B") .byte) (by decide +kernel)
    | 4, _ => exact hs (.arrayOf (.field (Term.string "SleptMatters$Law" 69) "java/lang/String" "value" "[B") .byte) (by decide +kernel)
    | 5, _ => exact hs (.arrayOf (.field (Term.string "SleptMatters$Law" 74) "java/lang/String" "value" "[B") .byte) (by decide +kernel)
    | 6, _ => exact hs (.arrayOf (.field (Term.string "SleptMatters$Law" 75) "java/lang/String" "value" "[B") .byte) (by decide +kernel)
    | 7, _ => exact hs (.arrayOf (.field (Term.string "SleptMatters$Law" 76) "java/lang/String" "value" "[B") .byte) (by decide +kernel)
    | i + 8, hi => exact absurd hi (by omega)
  · skip
    match i, hi with
    | 0, _ => exact hs (.eq (.length (.field (Term.string "SleptMatters$Town" 89) "java/lang/String" "value" "[B")) (.int 5)) (by decide +kernel)
    | 1, _ => exact hs (.eq (.length (.field (Term.string "SleptMatters$Town" 95) "java/lang/String" "value" "[B")) (.int 7)) (by decide +kernel)
    | 2, _ => exact hs (.eq (.length (.field (Term.string "SleptMatters$Town" 97) "java/lang/String" "value" "[B")) (.int 5)) (by decide +kernel)
    | 3, _ => exact hs (.eq (.length (.field (Term.string "SleptMatters$Town" 99) "java/lang/String" "value" "[B")) (.int 6)) (by decide +kernel)
    | 4, _ => exact hs (.eq (.length (.field (Term.string "SleptMatters$Law" 69) "java/lang/String" "value" "[B")) (.int 6)) (by decide +kernel)
    | 5, _ => exact hs (.eq (.length (.field (Term.string "SleptMatters$Law" 74) "java/lang/String" "value" "[B")) (.int 3)) (by decide +kernel)
    | 6, _ => exact hs (.eq (.length (.field (Term.string "SleptMatters$Law" 75) "java/lang/String" "value" "[B")) (.int 5)) (by decide +kernel)
    | 7, _ => exact hs (.eq (.length (.field (Term.string "SleptMatters$Law" 76) "java/lang/String" "value" "[B")) (.int 2)) (by decide +kernel)
    | i + 8, hi => exact absurd hi (by omega)
  · match i, hi with
    | 0, _ =>
      match j, hj with
      | 0, _ => exact hs (.eq (.elem (.field (Term.string "SleptMatters$Town" 89) "java/lang/String" "value" "[B") (.int 0)) (.int 104)) (by decide +kernel)
      | 1, _ => exact hs (.eq (.elem (.field (Term.string "SleptMatters$Town" 89) "java/lang/String" "value" "[B") (.int 1)) (.int 111)) (by decide +kernel)
      | 2, _ => exact hs (.eq (.elem (.field (Term.string "SleptMatters$Town" 89) "java/lang/String" "value" "[B") (.int 2)) (.int 117)) (by decide +kernel)
      | 3, _ => exact hs (.eq (.elem (.field (Term.string "SleptMatters$Town" 89) "java/lang/String" "value" "[B") (.int 3)) (.int 115)) (by decide +kernel)
      | 4, _ => exact hs (.eq (.elem (.field (Term.string "SleptMatters$Town" 89) "java/lang/String" "value" "[B") (.int 4)) (.int 101)) (by decide +kernel)
      | j + 5, hj => exact absurd (show j + 5 < 5 from hj) (by omega)
    | 1, _ =>
      match j, hj with
      | 0, _ => exact hs (.eq (.elem (.field (Term.string "SleptMatters$Town" 95) "java/lang/String" "value" "[B") (.int 0)) (.int 115)) (by decide +kernel)
      | 1, _ => exact hs (.eq (.elem (.field (Term.string "SleptMatters$Town" 95) "java/lang/String" "value" "[B") (.int 1)) (.int 108)) (by decide +kernel)
      | 2, _ => exact hs (.eq (.elem (.field (Term.string "SleptMatters$Town" 95) "java/lang/String" "value" "[B") (.int 2)) (.int 101)) (by decide +kernel)
      | 3, _ => exact hs (.eq (.elem (.field (Term.string "SleptMatters$Town" 95) "java/lang/String" "value" "[B") (.int 3)) (.int 101)) (by decide +kernel)
      | 4, _ => exact hs (.eq (.elem (.field (Term.string "SleptMatters$Town" 95) "java/lang/String" "value" "[B") (.int 4)) (.int 112)) (by decide +kernel)
      | 5, _ => exact hs (.eq (.elem (.field (Term.string "SleptMatters$Town" 95) "java/lang/String" "value" "[B") (.int 5)) (.int 101)) (by decide +kernel)
      | 6, _ => exact hs (.eq (.elem (.field (Term.string "SleptMatters$Town" 95) "java/lang/String" "value" "[B") (.int 6)) (.int 114)) (by decide +kernel)
      | j + 7, hj => exact absurd (show j + 7 < 7 from hj) (by omega)
    | 2, _ =>
      match j, hj with
      | 0, _ => exact hs (.eq (.elem (.field (Term.string "SleptMatters$Town" 97) "java/lang/String" "value" "[B") (.int 0)) (.int 110)) (by decide +kernel)
      | 1, _ => exact hs (.eq (.elem (.field (Term.string "SleptMatters$Town" 97) "java/lang/String" "value" "[B") (.int 1)) (.int 111)) (by decide +kernel)
      | 2, _ => exact hs (.eq (.elem (.field (Term.string "SleptMatters$Town" 97) "java/lang/String" "value" "[B") (.int 2)) (.int 105)) (by decide +kernel)
      | 3, _ => exact hs (.eq (.elem (.field (Term.string "SleptMatters$Town" 97) "java/lang/String" "value" "[B") (.int 3)) (.int 115)) (by decide +kernel)
      | 4, _ => exact hs (.eq (.elem (.field (Term.string "SleptMatters$Town" 97) "java/lang/String" "value" "[B") (.int 4)) (.int 101)) (by decide +kernel)
      | j + 5, hj => exact absurd (show j + 5 < 5 from hj) (by omega)
    | 3, _ =>
      match j, hj with
      | 0, _ => exact hs (.eq (.elem (.field (Term.string "SleptMatters$Town" 99) "java/lang/String" "value" "[B") (.int 0)) (.int 109)) (by decide +kernel)
      | 1, _ => exact hs (.eq (.elem (.field (Term.string "SleptMatters$Town" 99) "java/lang/String" "value" "[B") (.int 1)) (.int 97)) (by decide +kernel)
      | 2, _ => exact hs (.eq (.elem (.field (Term.string "SleptMatters$Town" 99) "java/lang/String" "value" "[B") (.int 2)) (.int 116)) (by decide +kernel)
      | 3, _ => exact hs (.eq (.elem (.field (Term.string "SleptMatters$Town" 99) "java/lang/String" "value" "[B") (.int 3)) (.int 116)) (by decide +kernel)
      | 4, _ => exact hs (.eq (.elem (.field (Term.string "SleptMatters$Town" 99) "java/lang/String" "value" "[B") (.int 4)) (.int 101)) (by decide +kernel)
      | 5, _ => exact hs (.eq (.elem (.field (Term.string "SleptMatters$Town" 99) "java/lang/String" "value" "[B") (.int 5)) (.int 114)) (by decide +kernel)
      | j + 6, hj => exact absurd (show j + 6 < 6 from hj) (by omega)
    | 4, _ =>
      match j, hj with
      | 0, _ => exact hs (.eq (.elem (.field (Term.string "SleptMatters$Law" 69) "java/lang/String" "value" "[B") (.int 0)) (.int 110)) (by decide +kernel)
      | 1, _ => exact hs (.eq (.elem (.field (Term.string "SleptMatters$Law" 69) "java/lang/String" "value" "[B") (.int 1)) (.int 105)) (by decide +kernel)
      | 2, _ => exact hs (.eq (.elem (.field (Term.string "SleptMatters$Law" 69) "java/lang/String" "value" "[B") (.int 2)) (.int 103)) (by decide +kernel)
      | 3, _ => exact hs (.eq (.elem (.field (Term.string "SleptMatters$Law" 69) "java/lang/String" "value" "[B") (.int 3)) (.int 104)) (by decide +kernel)
      | 4, _ => exact hs (.eq (.elem (.field (Term.string "SleptMatters$Law" 69) "java/lang/String" "value" "[B") (.int 4)) (.int 116)) (by decide +kernel)
      | 5, _ => exact hs (.eq (.elem (.field (Term.string "SleptMatters$Law" 69) "java/lang/String" "value" "[B") (.int 5)) (.int 115)) (by decide +kernel)
      | j + 6, hj => exact absurd (show j + 6 < 6 from hj) (by omega)
    | 5, _ =>
      match j, hj with
      | 0, _ => exact hs (.eq (.elem (.field (Term.string "SleptMatters$Law" 74) "java/lang/String" "value" "[B") (.int 0)) (.int 121)) (by decide +kernel)
      | 1, _ => exact hs (.eq (.elem (.field (Term.string "SleptMatters$Law" 74) "java/lang/String" "value" "[B") (.int 1)) (.int 101)) (by decide +kernel)
      | 2, _ => exact hs (.eq (.elem (.field (Term.string "SleptMatters$Law" 74) "java/lang/String" "value" "[B") (.int 2)) (.int 115)) (by decide +kernel)
      | j + 3, hj => exact absurd (show j + 3 < 3 from hj) (by omega)
    | 6, _ =>
      match j, hj with
      | 0, _ => exact hs (.eq (.elem (.field (Term.string "SleptMatters$Law" 75) "java/lang/String" "value" "[B") (.int 0)) (.int 97)) (by decide +kernel)
      | 1, _ => exact hs (.eq (.elem (.field (Term.string "SleptMatters$Law" 75) "java/lang/String" "value" "[B") (.int 1)) (.int 103)) (by decide +kernel)
      | 2, _ => exact hs (.eq (.elem (.field (Term.string "SleptMatters$Law" 75) "java/lang/String" "value" "[B") (.int 2)) (.int 97)) (by decide +kernel)
      | 3, _ => exact hs (.eq (.elem (.field (Term.string "SleptMatters$Law" 75) "java/lang/String" "value" "[B") (.int 3)) (.int 105)) (by decide +kernel)
      | 4, _ => exact hs (.eq (.elem (.field (Term.string "SleptMatters$Law" 75) "java/lang/String" "value" "[B") (.int 4)) (.int 110)) (by decide +kernel)
      | j + 5, hj => exact absurd (show j + 5 < 5 from hj) (by omega)
    | 7, _ =>
      match j, hj with
      | 0, _ => exact hs (.eq (.elem (.field (Term.string "SleptMatters$Law" 76) "java/lang/String" "value" "[B") (.int 0)) (.int 111)) (by decide +kernel)
      | 1, _ => exact hs (.eq (.elem (.field (Term.string "SleptMatters$Law" 76) "java/lang/String" "value" "[B") (.int 1)) (.int 110)) (by decide +kernel)
      | j + 2, hj => exact absurd (show j + 2 < 2 from hj) (by omega)
    | i + 8, hi => exact absurd hi (by omega)
  · match i, j, hi, hj, hne with
    | 0, 0, _, _, hne => exact absurd rfl hne
    | 0, 1, _, _, _ => exact Or.inl (hs (.not (.eq (Term.string "SleptMatters$Town" 89) (Term.string "SleptMatters$Town" 95))) (by decide +kernel))
    | 0, 2, _, _, _ => exact Or.inl (hs (.not (.eq (Term.string "SleptMatters$Town" 89) (Term.string "SleptMatters$Town" 97))) (by decide +kernel))
    | 0, 3, _, _, _ => exact Or.inl (hs (.not (.eq (Term.string "SleptMatters$Town" 89) (Term.string "SleptMatters$Town" 99))) (by decide +kernel))
    | 0, 4, _, _, _ => exact Or.inl (hs (.not (.eq (Term.string "SleptMatters$Town" 89) (Term.string "SleptMatters$Law" 69))) (by decide +kernel))
    | 0, 5, _, _, _ => exact Or.inl (hs (.not (.eq (Term.string "SleptMatters$Town" 89) (Term.string "SleptMatters$Law" 74))) (by decide +kernel))
    | 0, 6, _, _, _ => exact Or.inl (hs (.not (.eq (Term.string "SleptMatters$Town" 89) (Term.string "SleptMatters$Law" 75))) (by decide +kernel))
    | 0, 7, _, _, _ => exact Or.inl (hs (.not (.eq (Term.string "SleptMatters$Town" 89) (Term.string "SleptMatters$Law" 76))) (by decide +kernel))
    | 1, 0, _, _, _ => exact Or.inr (hs (.not (.eq (Term.string "SleptMatters$Town" 89) (Term.string "SleptMatters$Town" 95))) (by decide +kernel))
    | 1, 1, _, _, hne => exact absurd rfl hne
    | 1, 2, _, _, _ => exact Or.inl (hs (.not (.eq (Term.string "SleptMatters$Town" 95) (Term.string "SleptMatters$Town" 97))) (by decide +kernel))
    | 1, 3, _, _, _ => exact Or.inl (hs (.not (.eq (Term.string "SleptMatters$Town" 95) (Term.string "SleptMatters$Town" 99))) (by decide +kernel))
    | 1, 4, _, _, _ => exact Or.inl (hs (.not (.eq (Term.string "SleptMatters$Town" 95) (Term.string "SleptMatters$Law" 69))) (by decide +kernel))
    | 1, 5, _, _, _ => exact Or.inl (hs (.not (.eq (Term.string "SleptMatters$Town" 95) (Term.string "SleptMatters$Law" 74))) (by decide +kernel))
    | 1, 6, _, _, _ => exact Or.inl (hs (.not (.eq (Term.string "SleptMatters$Town" 95) (Term.string "SleptMatters$Law" 75))) (by decide +kernel))
    | 1, 7, _, _, _ => exact Or.inl (hs (.not (.eq (Term.string "SleptMatters$Town" 95) (Term.string "SleptMatters$Law" 76))) (by decide +kernel))
    | 2, 0, _, _, _ => exact Or.inr (hs (.not (.eq (Term.string "SleptMatters$Town" 89) (Term.string "SleptMatters$Town" 97))) (by decide +kernel))
    | 2, 1, _, _, _ => exact Or.inr (hs (.not (.eq (Term.string "SleptMatters$Town" 95) (Term.string "SleptMatters$Town" 97))) (by decide +kernel))
    | 2, 2, _, _, hne => exact absurd rfl hne
    | 2, 3, _, _, _ => exact Or.inl (hs (.not (.eq (Term.string "SleptMatters$Town" 97) (Term.string "SleptMatters$Town" 99))) (by decide +kernel))
    | 2, 4, _, _, _ => exact Or.inl (hs (.not (.eq (Term.string "SleptMatters$Town" 97) (Term.string "SleptMatters$Law" 69))) (by decide +kernel))
    | 2, 5, _, _, _ => exact Or.inl (hs (.not (.eq (Term.string "SleptMatters$Town" 97) (Term.string "SleptMatters$Law" 74))) (by decide +kernel))
    | 2, 6, _, _, _ => exact Or.inl (hs (.not (.eq (Term.string "SleptMatters$Town" 97) (Term.string "SleptMatters$Law" 75))) (by decide +kernel))
    | 2, 7, _, _, _ => exact Or.inl (hs (.not (.eq (Term.string "SleptMatters$Town" 97) (Term.string "SleptMatters$Law" 76))) (by decide +kernel))
    | 3, 0, _, _, _ => exact Or.inr (hs (.not (.eq (Term.string "SleptMatters$Town" 89) (Term.string "SleptMatters$Town" 99))) (by decide +kernel))
    | 3, 1, _, _, _ => exact Or.inr (hs (.not (.eq (Term.string "SleptMatters$Town" 95) (Term.string "SleptMatters$Town" 99))) (by decide +kernel))
    | 3, 2, _, _, _ => exact Or.inr (hs (.not (.eq (Term.string "SleptMatters$Town" 97) (Term.string "SleptMatters$Town" 99))) (by decide +kernel))
    | 3, 3, _, _, hne => exact absurd rfl hne
    | 3, 4, _, _, _ => exact Or.inl (hs (.not (.eq (Term.string "SleptMatters$Town" 99) (Term.string "SleptMatters$Law" 69))) (by decide +kernel))
    | 3, 5, _, _, _ => exact Or.inl (hs (.not (.eq (Term.string "SleptMatters$Town" 99) (Term.string "SleptMatters$Law" 74))) (by decide +kernel))
    | 3, 6, _, _, _ => exact Or.inl (hs (.not (.eq (Term.string "SleptMatters$Town" 99) (Term.string "SleptMatters$Law" 75))) (by decide +kernel))
    | 3, 7, _, _, _ => exact Or.inl (hs (.not (.eq (Term.string "SleptMatters$Town" 99) (Term.string "SleptMatters$Law" 76))) (by decide +kernel))
    | 4, 0, _, _, _ => exact Or.inr (hs (.not (.eq (Term.string "SleptMatters$Town" 89) (Term.string "SleptMatters$Law" 69))) (by decide +kernel))
    | 4, 1, _, _, _ => exact Or.inr (hs (.not (.eq (Term.string "SleptMatters$Town" 95) (Term.string "SleptMatters$Law" 69))) (by decide +kernel))
    | 4, 2, _, _, _ => exact Or.inr (hs (.not (.eq (Term.string "SleptMatters$Town" 97) (Term.string "SleptMatters$Law" 69))) (by decide +kernel))
    | 4, 3, _, _, _ => exact Or.inr (hs (.not (.eq (Term.string "SleptMatters$Town" 99) (Term.string "SleptMatters$Law" 69))) (by decide +kernel))
    | 4, 4, _, _, hne => exact absurd rfl hne
    | 4, 5, _, _, _ => exact Or.inl (hs (.not (.eq (Term.string "SleptMatters$Law" 69) (Term.string "SleptMatters$Law" 74))) (by decide +kernel))
    | 4, 6, _, _, _ => exact Or.inl (hs (.not (.eq (Term.string "SleptMatters$Law" 69) (Term.string "SleptMatters$Law" 75))) (by decide +kernel))
    | 4, 7, _, _, _ => exact Or.inl (hs (.not (.eq (Term.string "SleptMatters$Law" 69) (Term.string "SleptMatters$Law" 76))) (by decide +kernel))
    | 5, 0, _, _, _ => exact Or.inr (hs (.not (.eq (Term.string "SleptMatters$Town" 89) (Term.string "SleptMatters$Law" 74))) (by decide +kernel))
    | 5, 1, _, _, _ => exact Or.inr (hs (.not (.eq (Term.string "SleptMatters$Town" 95) (Term.string "SleptMatters$Law" 74))) (by decide +kernel))
    | 5, 2, _, _, _ => exact Or.inr (hs (.not (.eq (Term.string "SleptMatters$Town" 97) (Term.string "SleptMatters$Law" 74))) (by decide +kernel))
    | 5, 3, _, _, _ => exact Or.inr (hs (.not (.eq (Term.string "SleptMatters$Town" 99) (Term.string "SleptMatters$Law" 74))) (by decide +kernel))
    | 5, 4, _, _, _ => exact Or.inr (hs (.not (.eq (Term.string "SleptMatters$Law" 69) (Term.string "SleptMatters$Law" 74))) (by decide +kernel))
    | 5, 5, _, _, hne => exact absurd rfl hne
    | 5, 6, _, _, _ => exact Or.inl (hs (.not (.eq (Term.string "SleptMatters$Law" 74) (Term.string "SleptMatters$Law" 75))) (by decide +kernel))
    | 5, 7, _, _, _ => exact Or.inl (hs (.not (.eq (Term.string "SleptMatters$Law" 74) (Term.string "SleptMatters$Law" 76))) (by decide +kernel))
    | 6, 0, _, _, _ => exact Or.inr (hs (.not (.eq (Term.string "SleptMatters$Town" 89) (Term.string "SleptMatters$Law" 75))) (by decide +kernel))
    | 6, 1, _, _, _ => exact Or.inr (hs (.not (.eq (Term.string "SleptMatters$Town" 95) (Term.string "SleptMatters$Law" 75))) (by decide +kernel))
    | 6, 2, _, _, _ => exact Or.inr (hs (.not (.eq (Term.string "SleptMatters$Town" 97) (Term.string "SleptMatters$Law" 75))) (by decide +kernel))
    | 6, 3, _, _, _ => exact Or.inr (hs (.not (.eq (Term.string "SleptMatters$Town" 99) (Term.string "SleptMatters$Law" 75))) (by decide +kernel))
    | 6, 4, _, _, _ => exact Or.inr (hs (.not (.eq (Term.string "SleptMatters$Law" 69) (Term.string "SleptMatters$Law" 75))) (by decide +kernel))
    | 6, 5, _, _, _ => exact Or.inr (hs (.not (.eq (Term.string "SleptMatters$Law" 74) (Term.string "SleptMatters$Law" 75))) (by decide +kernel))
    | 6, 6, _, _, hne => exact absurd rfl hne
    | 6, 7, _, _, _ => exact Or.inl (hs (.not (.eq (Term.string "SleptMatters$Law" 75) (Term.string "SleptMatters$Law" 76))) (by decide +kernel))
    | 7, 0, _, _, _ => exact Or.inr (hs (.not (.eq (Term.string "SleptMatters$Town" 89) (Term.string "SleptMatters$Law" 76))) (by decide +kernel))
    | 7, 1, _, _, _ => exact Or.inr (hs (.not (.eq (Term.string "SleptMatters$Town" 95) (Term.string "SleptMatters$Law" 76))) (by decide +kernel))
    | 7, 2, _, _, _ => exact Or.inr (hs (.not (.eq (Term.string "SleptMatters$Town" 97) (Term.string "SleptMatters$Law" 76))) (by decide +kernel))
    | 7, 3, _, _, _ => exact Or.inr (hs (.not (.eq (Term.string "SleptMatters$Town" 99) (Term.string "SleptMatters$Law" 76))) (by decide +kernel))
    | 7, 4, _, _, _ => exact Or.inr (hs (.not (.eq (Term.string "SleptMatters$Law" 69) (Term.string "SleptMatters$Law" 76))) (by decide +kernel))
    | 7, 5, _, _, _ => exact Or.inr (hs (.not (.eq (Term.string "SleptMatters$Law" 74) (Term.string "SleptMatters$Law" 76))) (by decide +kernel))
    | 7, 6, _, _, _ => exact Or.inr (hs (.not (.eq (Term.string "SleptMatters$Law" 75) (Term.string "SleptMatters$Law" 76))) (by decide +kernel))
    | 7, 7, _, _, hne => exact absurd rfl hne
    | i + 8, _, hi, _, _ => exact absurd hi (by omega)
    | 0, j + 8, _, hj, _ => exact absurd hj (by omega)
    | 1, j + 8, _, hj, _ => exact absurd hj (by omega)
    | 2, j + 8, _, hj, _ => exact absurd hj (by omega)
    | 3, j + 8, _, hj, _ => exact absurd hj (by omega)
    | 4, j + 8, _, hj, _ => exact absurd hj (by omega)
    | 5, j + 8, _, hj, _ => exact absurd hj (by omega)
    | 6, j + 8, _, hj, _ => exact absurd hj (by omega)
    | 7, j + 8, _, hj, _ => exact absurd hj (by omega)
theorem start_SX {s : State} {b : Nat} (hts : ∀ w ∈ lw_tbl, w.before #[Value.ref b] s = true) (hgv : (Jvm.Cond.and given_1 narrow_1).before #[Value.ref b] s = true) : ∃ z : Nat → Nat, SX z (fun q => s.heap.size ≤ q) s s.heap := by
  have hs := flat_of_before _ hgv
  have hA : ∀ a : Nat, a < s.heap.size → ¬ (fun q : Nat => s.heap.size ≤ q) a := fun a ha => Nat.not_le.mpr ha
  obtain ⟨t0, e0, hT0⟩ := start_T0 hs
  obtain ⟨t1, e1, hT1⟩ := start_T1 hs
  obtain ⟨t2, e2, hT2⟩ := start_T2 hs
  obtain ⟨t3, e3, hT3⟩ := start_T3 hs
  obtain ⟨t4, e4, hT4⟩ := start_T4 hs
  obtain ⟨t5, e5, hT5⟩ := start_T5 hs
  obtain ⟨t6, e6, hT6⟩ := start_T6 hs
  obtain ⟨t7, e7, hT7⟩ := start_T7 hs
  obtain ⟨t8, e8, hT8⟩ := start_T8 hs
  obtain ⟨adK, adV, hSS, hSe⟩ := start_S hs
  obtain ⟨z, hz⟩ : ∃ z : Nat → Nat, z = fun i => if i = 0 then t0 else if i = 1 then t1 else if i = 2 then t2 else if i = 3 then t3 else if i = 4 then t4 else if i = 5 then t5 else if i = 6 then t6 else if i = 7 then t7 else if i = 8 then t8 else if i < 40 then adK (i - 20) else adV (i - 40) := ⟨_, rfl⟩
  have ez0 : z 0 = t0 := by rw [hz]; rfl
  have ez1 : z 1 = t1 := by rw [hz]; rfl
  have ez2 : z 2 = t2 := by rw [hz]; rfl
  have ez3 : z 3 = t3 := by rw [hz]; rfl
  have ez4 : z 4 = t4 := by rw [hz]; rfl
  have ez5 : z 5 = t5 := by rw [hz]; rfl
  have ez6 : z 6 = t6 := by rw [hz]; rfl
  have ez7 : z 7 = t7 := by rw [hz]; rfl
  have ez8 : z 8 = t8 := by rw [hz]; rfl
  have eK : ∀ i, i < 8 → zK z i = adK i := fun i hi => by
    show z (20 + i) = _
    rw [hz]
    match i, hi with
    | 0, _ => rfl
    | 1, _ => rfl
    | 2, _ => rfl
    | 3, _ => rfl
    | 4, _ => rfl
    | 5, _ => rfl
    | 6, _ => rfl
    | 7, _ => rfl
    | i + 8, hi => exact absurd hi (by omega)
  have eV : ∀ i, i < 8 → zV z i = adV i := fun i hi => by
    show z (40 + i) = _
    rw [hz]
    match i, hi with
    | 0, _ => rfl
    | 1, _ => rfl
    | 2, _ => rfl
    | 3, _ => rfl
    | 4, _ => rfl
    | 5, _ => rfl
    | 6, _ => rfl
    | 7, _ => rfl
    | i + 8, hi => exact absurd hi (by omega)
  exact ⟨z, va_Nw.of rfl (hts (.fieldLinkNest RX8 79 RX9 "MOST" "[I" RX9) tm_1355),
    va_Nw.of rfl (hts (.fieldLinkNest RX8 101 RX9 "PARTS_OF" "[I" RX9) tm_1356),
    va_Nw.of rfl (hts (.fieldLinkNest RX8 104 RX9 "LEAST" "[I" RX9) tm_1357),
    va_Nw.of rfl (hts (.fieldLinkNest RX8 107 RX9 "GREATEST" "[I" RX9) tm_1358),
    va_Nw.of rfl (hts (.fieldLinkNest RX8 114 RX9 "RISING_PART" "[I" RX9) tm_1359),
    va_Nw.of rfl (hts (.fieldLinkNest RX5 114 RX9 "LACKS" "[J" RX9) tm_1360),
    va_Nw.of rfl (hts (.fieldLinkNest RX4 58 RX9 "ORDERS_COUNT" "[I" RX9) tm_1361),
    va_Nw.of rfl (hts (.fieldLinkNest RX4 61 RX9 "ORDERS_AT" "[I" RX9) tm_1362),
    va_Nw.of rfl (hts (.fieldLinkNest RX4 68 RX9 "ORDERS" "[I" RX9) tm_1363),
    (by rw [ez0]; exact va_Zref (hts (.laysStatic RX9 "MOST" "[I") tm_1364) (hts (.initialized RX9) tw_388.1) e0 hA),
    (by rw [ez0]; exact hT0),
    (by rw [ez1]; exact va_Zref (hts (.laysStatic RX9 "PARTS_OF" "[I") tm_1365) (hts (.initialized RX9) tw_388.1) e1 hA),
    (by rw [ez1]; exact hT1),
    (by rw [ez2]; exact va_Zref (hts (.laysStatic RX9 "LEAST" "[I") tm_1366) (hts (.initialized RX9) tw_388.1) e2 hA),
    (by rw [ez2]; exact hT2),
    (by rw [ez3]; exact va_Zref (hts (.laysStatic RX9 "GREATEST" "[I") tm_1367) (hts (.initialized RX9) tw_388.1) e3 hA),
    (by rw [ez3]; exact hT3),
    (by rw [ez4]; exact va_Zref (hts (.laysStatic RX9 "RISING_PART" "[I") tm_1368) (hts (.initialized RX9) tw_388.1) e4 hA),
    (by rw [ez4]; exact hT4),
    (by rw [ez5]; exact va_Zref (hts (.laysStatic RX9 "LACKS" "[J") tm_1369) (hts (.initialized RX9) tw_388.1) e5 hA),
    (by rw [ez5]; exact hT5),
    (by rw [ez6]; exact va_Zref (hts (.laysStatic RX9 "ORDERS_COUNT" "[I") tm_1370) (hts (.initialized RX9) tw_388.1) e6 hA),
    (by rw [ez6]; exact hT6),
    (by rw [ez7]; exact va_Zref (hts (.laysStatic RX9 "ORDERS_AT" "[I") tm_1371) (hts (.initialized RX9) tw_388.1) e7 hA),
    (by rw [ez7]; exact hT7),
    (by rw [ez8]; exact va_Zref (hts (.laysStatic RX9 "ORDERS" "[I") tm_1372) (hts (.initialized RX9) tw_388.1) e8 hA),
    (by rw [ez8]; exact hT8),
    va_Zof (hts (.laysStatic "java/lang/String" "COMPACT_STRINGS" "Z") tm_1373) (hts (.initialized "java/lang/String") tm_1374) (va_eqt (hs (.eq (.static "java/lang/String" "COMPACT_STRINGS" "Z") (.int 1)) (by decide +kernel))) hA,
    va_Zqof (hts (.laysStatic "jdk/internal/util/Preconditions" "SIOOBE_FORMATTER" "Ljava/util/function/BiFunction;") tm_1375) (hts (.initialized "jdk/internal/util/Preconditions") tm_1376) (hs (.isRef (.static "jdk/internal/util/Preconditions" "SIOOBE_FORMATTER" "Ljava/util/function/BiFunction;")) (by decide +kernel)) hA,
    ⟨fun i hi => by rw [eK i hi, eV i hi]; exact hSS.1 i hi, fun i j hi hj e => hSS.2 i j hi hj (by rw [← eK i hi, ← eK j hj]; exact e)⟩,
    vk_R.of (hts (.stringRef RX8 89 "house") tm_1377) (by rw [eK 0 (by decide)]; exact hSe 0 (by decide)),
    vk_R.of (hts (.stringRef RX8 95 "sleeper") tm_1378) (by rw [eK 1 (by decide)]; exact hSe 1 (by decide)),
    vk_R.of (hts (.stringRef RX8 97 "noise") tm_1379) (by rw [eK 2 (by decide)]; exact hSe 2 (by decide)),
    vk_R.of (hts (.stringRef RX8 99 "matter") tm_1380) (by rw [eK 3 (by decide)]; exact hSe 3 (by decide)),
    vk_R.of (hts (.stringRef RX3 69 "nights") tm_1381) (by rw [eK 4 (by decide)]; exact hSe 4 (by decide)),
    vk_R.of (hts (.stringRef RX3 74 "yes") tm_1382) (by rw [eK 5 (by decide)]; exact hSe 5 (by decide)),
    vk_R.of (hts (.stringRef RX3 75 "again") tm_1383) (by rw [eK 6 (by decide)]; exact hSe 6 (by decide)),
    vk_R.of (hts (.stringRef RX3 76 "on") tm_1384) (by rw [eK 7 (by decide)]; exact hSe 7 (by decide))⟩
