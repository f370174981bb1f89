
def stv0 (j : Nat) : Int32 := ([7, 7, 20, 3] : List Int32).getD j 0
def stv1 (j : Nat) : Int32 := ([2, 3, 4, 4] : List Int32).getD j 0
def stv2 (j : Nat) : Int32 := ([0, 1, 0, 0, 0, 0, 0, 0, 0, 0, 0, 1, 0, 0, 0, 0] : List Int32).getD j 0
def stv3 (j : Nat) : Int32 := ([3, 4, 0, 0, 9, 100, 99, 0, 3, 99, 99, 9, 99, 99, 999, 99] : List Int32).getD j 0
def stv4 (j : Nat) : Int32 := ([(-1), (-1), 2, 1] : List Int32).getD j 0
def stv5 (j : Nat) : Int64 := ([6148914691236517205, 3689348814741910323, 1085102592571150095, 71777214294589695, 281470681808895, 4294967295] : List Int64).getD j 0
def stv6 (j : Nat) : Int32 := ([1, 1, 2, 6] : List Int32).getD j 0
def stv7 (j : Nat) : Int32 := ([0, 0, 1, 5] : List Int32).getD j 0
def stv8 (j : Nat) : Int32 := ([0, 0, 1, 1, 0, 0, 1, 2, 0, 2, 1, 1, 0, 2, 1, 2, 0, 2, 0, 1, 2, 1, 0] : List Int32).getD j 0
def LNl : List Nat := [5, 7, 5, 6, 6, 3, 5, 2]
def BTl : List (List Int32) := [[104, 111, 117, 115, 101], [115, 108, 101, 101, 112, 101, 114], [110, 111, 105, 115, 101], [109, 97, 116, 116, 101, 114], [110, 105, 103, 104, 116, 115], [121, 101, 115], [97, 103, 97, 105, 110], [111, 110]]
def LN (i : Nat) : Nat := LNl.getD i 0
def BT (i j : Nat) : Int32 := (BTl.getD i []).getD j 0
def zK (z : Nat → Nat) : Nat → Nat := fun i => z (20 + i)
def zV (z : Nat → Nat) : Nat → Nat := fun i => z (40 + i)
def SX (z : Nat → Nat) (A : Nat → Prop) (U : State) (H : Heap) : Prop :=
  va_Nw (.fieldLinkNest RX8 79 RX9 "MOST" "[I" RX9) U ∧
  va_Nw (.fieldLinkNest RX8 101 RX9 "PARTS_OF" "[I" RX9) U ∧
  va_Nw (.fieldLinkNest RX8 104 RX9 "LEAST" "[I" RX9) U ∧
  va_Nw (.fieldLinkNest RX8 107 RX9 "GREATEST" "[I" RX9) U ∧
  va_Nw (.fieldLinkNest RX8 114 RX9 "RISING_PART" "[I" RX9) U ∧
  va_Nw (.fieldLinkNest RX5 114 RX9 "LACKS" "[J" RX9) U ∧
  va_Nw (.fieldLinkNest RX4 58 RX9 "ORDERS_COUNT" "[I" RX9) U ∧
  va_Nw (.fieldLinkNest RX4 61 RX9 "ORDERS_AT" "[I" RX9) U ∧
  va_Nw (.fieldLinkNest RX4 68 RX9 "ORDERS" "[I" RX9) U ∧
  va_Z RX9 "MOST" "[I" (.ref (z 0)) A U H ∧
  va_T .int (z 0) 4 (fun j => .int (stv0 j)) A U H ∧
  va_Z RX9 "PARTS_OF" "[I" (.ref (z 1)) A U H ∧
  va_T .int (z 1) 4 (fun j => .int (stv1 j)) A U H ∧
  va_Z RX9 "LEAST" "[I" (.ref (z 2)) A U H ∧
  va_T .int (z 2) 16 (fun j => .int (stv2 j)) A U H ∧
  va_Z RX9 "GREATEST" "[I" (.ref (z 3)) A U H ∧
  va_T .int (z 3) 16 (fun j => .int (stv3 j)) A U H ∧
  va_Z RX9 "RISING_PART" "[I" (.ref (z 4)) A U H ∧
  va_T .int (z 4) 4 (fun j => .int (stv4 j)) A U H ∧
  va_Z RX9 "LACKS" "[J" (.ref (z 5)) A U H ∧
  va_T .long (z 5) 6 (fun j => .long (stv5 j)) A U H ∧
  va_Z RX9 "ORDERS_COUNT" "[I" (.ref (z 6)) A U H ∧
  va_T .int (z 6) 4 (fun j => .int (stv6 j)) A U H ∧
  va_Z RX9 "ORDERS_AT" "[I" (.ref (z 7)) A U H ∧
  va_T .int (z 7) 4 (fun j => .int (stv7 j)) A U H ∧
  va_Z RX9 "ORDERS" "[I" (.ref (z 8)) A U H ∧
  va_T .int (z 8) 23 (fun j => .int (stv8 j)) A U H ∧
  va_Z "java/lang/String" "COMPACT_STRINGS" "Z" (.int 1) A U H ∧
  va_Zq "jdk/internal/util/Preconditions" "SIOOBE_FORMATTER" "Ljava/util/function/BiFunction;" A U H ∧
  vk_S 8 LNl BTl (zK z) (zV z) A U H ∧
  vk_R RX8 89 "house" (zK z 0) U ∧
  vk_R RX8 95 "sleeper" (zK z 1) U ∧
  vk_R RX8 97 "noise" (zK z 2) U ∧
  vk_R RX8 99 "matter" (zK z 3) U ∧
  vk_R RX3 69 "nights" (zK z 4) U ∧
  vk_R RX3 74 "yes" (zK z 5) U ∧
  vk_R RX3 75 "again" (zK z 6) U ∧
  vk_R RX3 76 "on" (zK z 7) U
theorem SX.call {z : Nat → Nat} {A : Nat → Prop} {U : State} {H : Heap} (g : JFrame) (mk : MethodId) (a : Array Value) (h : SX z A U H) : SX z A (U.calling g mk a) H := by
  have hv : U.vm.Alike (U.calling g mk a).vm := Vm.Alike.refl U.vm
  obtain ⟨h0, h1, h2, h3, h4, h5, h6, h7, h8, h9, h10, h11, h12, h13, h14, h15, h16, h17, h18, h19, h20, h21, h22, h23, h24, h25, h26, h27, h28, h29, h30, h31, h32, h33, h34, h35, h36, h37⟩ := h
  exact ⟨va_Nw.same (u := U) rfl rfl h0, va_Nw.same (u := U) rfl rfl h1, va_Nw.same (u := U) rfl rfl h2, va_Nw.same (u := U) rfl rfl h3, va_Nw.same (u := U) rfl rfl h4, va_Nw.same (u := U) rfl rfl h5, va_Nw.same (u := U) rfl rfl h6, va_Nw.same (u := U) rfl rfl h7, va_Nw.same (u := U) rfl rfl h8, h9.moved hv, h10.moved hv, h11.moved hv, h12.moved hv, h13.moved hv, h14.moved hv, h15.moved hv, h16.moved hv, h17.moved hv, h18.moved hv, h19.moved hv, h20.moved hv, h21.moved hv, h22.moved hv, h23.moved hv, h24.moved hv, h25.moved hv, h26.moved hv, h27.moved hv, h28.moved hv, h29.moved hv, vk_R.same (u := U) rfl h30, vk_R.same (u := U) rfl h31, vk_R.same (u := U) rfl h32, vk_R.same (u := U) rfl h33, vk_R.same (u := U) rfl h34, vk_R.same (u := U) rfl h35, vk_R.same (u := U) rfl h36, vk_R.same (u := U) rfl h37⟩
theorem SX.go {z : Nat → Nat} {A B : Nat → Prop} {U V : State} {H H1 : Heap} (h : SX z A U H) (hW : U.WarmedH V.vm) (hq : ∀ a : Nat, a < H.size → ¬ A a → H1[a]? = H[a]?) (hB : ∀ q, B q → A q) : SX z B V H1 := by
  have hv := hW.alike
  obtain ⟨h0, h1, h2, h3, h4, h5, h6, h7, h8, h9, h10, h11, h12, h13, h14, h15, h16, h17, h18, h19, h20, h21, h22, h23, h24, h25, h26, h27, h28, h29, h30, h31, h32, h33, h34, h35, h36, h37⟩ := h
  exact ⟨h0.warmF hW, h1.warmF hW, h2.warmF hW, h3.warmF hW, h4.warmF hW, h5.warmF hW, h6.warmF hW, h7.warmF hW, h8.warmF hW, ((h9.kept hq).narrow hB).moved hv, ((h10.kept hq).narrow hB).moved hv, ((h11.kept hq).narrow hB).moved hv, ((h12.kept hq).narrow hB).moved hv, ((h13.kept hq).narrow hB).moved hv, ((h14.kept hq).narrow hB).moved hv, ((h15.kept hq).narrow hB).moved hv, ((h16.kept hq).narrow hB).moved hv, ((h17.kept hq).narrow hB).moved hv, ((h18.kept hq).narrow hB).moved hv, ((h19.kept hq).narrow hB).moved hv, ((h20.kept hq).narrow hB).moved hv, ((h21.kept hq).narrow hB).moved hv, ((h22.kept hq).narrow hB).moved hv, ((h23.kept hq).narrow hB).moved hv, ((h24.kept hq).narrow hB).moved hv, ((h25.kept hq).narrow hB).moved hv, ((h26.kept hq).narrow hB).moved hv, ((h27.kept hq).narrow hB).moved hv, ((h28.kept hq).narrow hB).moved hv, ((h29.kept hq).narrow hB).moved hv, h30.warm hW, h31.warm hW, h32.warm hW, h33.warm hW, h34.warm hW, h35.warm hW, h36.warm hW, h37.warm hW⟩
def PT (D : va_G) (k : Nat → ClassId) (ws : va_W) (sz : Nat) (z : Nat → Nat) (U : State) : Prop := PR D k ws sz U ∧ SX z (va_A ws sz) U U.heap
def PU (D : va_G) (k : Nat → ClassId) (ws : va_W) (z : Nat → Nat) (U : State) : Prop := PS D k ws U ∧ SX z (fun _ => False) U U.heap
theorem PT.blind (av : List Value) (D : va_G) (k : Nat → ClassId) (ws : va_W) (sz : Nat) (z : Nat → Nat) : FrameBlind (va_Pc av (PT D k ws sz z)) := fun a U g mk q => ⟨q.1, (PR.blind av D k ws sz a U g mk ⟨q.1, q.2.1⟩).2, SX.call g mk a q.2.2⟩
theorem PU.blind (av : List Value) (D : va_G) (k : Nat → ClassId) (ws : va_W) (z : Nat → Nat) : FrameBlind (va_Pc av (PU D k ws z)) := fun a U g mk q => ⟨q.1, (PS.blind av D k ws a U g mk ⟨q.1, q.2.1⟩).2, SX.call g mk a q.2.2⟩
theorem PT.pre {s : State} {H : Heap} {ws : va_W} {D : va_G} {k : Nat → ClassId} {A A0 : Nat → Prop} {locs : List Loc} {z : Nat → Nat} (hP : va_P D vwCl ws H) (hD : va_D A ws) (hG : GE D k s) (hZ : SX z A0 s s.heap) (hS : va_S A0 s.heap H locs) (hF : ∀ q, va_A ws H.size q → A0 q) (av : List Value) : ∀ U : State, U.heap = H → s.WarmedH U.vm → va_Pc av (PT D k ws H.size z) av.toArray U := by
  intro U hU hW
  refine ⟨rfl, (PR.pre hP hD hG av U hU hW).2, ?_⟩
  rw [hU]
  exact hZ.go hW hS.2.1 hF
theorem PU.pre {s : State} {H : Heap} {ws : va_W} {D : va_G} {k : Nat → ClassId} {A0 : Nat → Prop} {locs : List Loc} {z : Nat → Nat} (hP : va_P D vwCl ws H) (hG : GE D k s) (hZ : SX z A0 s s.heap) (hS : va_S A0 s.heap H locs) (av : List Value) : ∀ U : State, U.heap = H → s.WarmedH U.vm → va_Pc av (PU D k ws z) av.toArray U := by
  intro U hU hW
  refine ⟨rfl, (PS.pre hP hG av U hU hW).2, ?_⟩
  rw [hU]
  exact hZ.go hW hS.2.1 (fun _ h => h.elim)
def sv_Q : Array Value → State → Outcome → State → Prop := fun _ st o t => o = .returned none ∧ t.heap = st.heap
theorem sv_call {p : Program} {l : Launch} {e : Env} {R : Room} {s : State} {m : MethodId} {args : Array Value} {below : List Frame} {meth : Method} {c : Code} {H : Heap} {locs : List Loc} {cells slots : Nat} {Q : State → Prop} {pc : Nat} {ls : Array Slot} {rest : List Value} {a : Array Value} {st0 : List Value} (hr : CallRun p l e R s m args below meth c H locs cells slots 0 0 (F0 m pc ls st0) rest (sv_Q a) (fun _ => False))
    (kk : W p l e R s m args below meth c H locs cells slots Q (F0 m (pc + 3) ls rest)) : W p l e R s m args below meth c H locs cells slots Q (F0 m pc ls st0) := by
  intro T hT X
  obtain ⟨v, st₀, t, T', L, h0, X', hL, e1, ⟨hv, hh⟩, st⟩ := hr T hT X
  cases hv
  obtain ⟨t2, a1, b1⟩ := kk T' (by rw [e1, hh, h0]) (Stand.forget X' (fun q h => (hL q h).elim))
  exact ⟨t2, st t2 a1, b1⟩
theorem LN_7 : ∀ i : Nat, i < 8 → LN i ≤ 7 := by decide
theorem BT_c : ∀ i : Nat, i < 8 → ∀ j : Nat, j < 7 → ((BT i j &&& 255).toUInt32 % 65536).toInt32 = BT i j := by decide +kernel
theorem BT_n : ∀ i : Nat, i < 8 → ∀ j : Nat, j < 7 → narrow .char (.int (BT i j)) = .int (BT i j) := by decide +kernel
theorem shr0 (x : Int32) : x >>> ((0 : Int32) &&& 31) = x := by
  show x >>> (0 : Int32) = x
  simp
def pW (f : Nat → Int32) (wa i : Nat) : Nat → Bool := fun j => decide (f (wa + j) = BT i j)
def iwA (f : Nat → Int32) (wa we i : Nat) : Int32 := if we - wa = LN i ∧ rn (pW f wa i) (LN i) 0 = LN i then 1 else 0
