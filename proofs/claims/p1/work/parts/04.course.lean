set_option maxRecDepth 20000 in
theorem ggX2_emptyBeds_J7_fill_53178 : GoodIn wsX2_emptyBeds wsJ7_fill_53178 := goodIn_r _ [6] rfl (by decide +kernel)
set_option maxRecDepth 20000 in
theorem gX2_emptyBeds_J7_fill_53178 : GoodIn wsX2_emptyBeds (va_wsS RX2 46 yJ7_fill_53178 wsJ7_fill_53178) := goodIn_app (goodIn_of _ (by decide +kernel)) ggX2_emptyBeds_J7_fill_53178
theorem dX2_emptyBeds_0 : decode cX2_emptyBeds 0 = .ok (.aload_n 0, 1) := by decide +kernel
theorem dX2_emptyBeds_1 : decode cX2_emptyBeds 1 = .ok (.getfield 27, 3) := by decide +kernel
theorem dX2_emptyBeds_4 : decode cX2_emptyBeds 4 = .ok (.iconst (-1), 1) := by decide +kernel
theorem dX2_emptyBeds_5 : decode cX2_emptyBeds 5 = .ok (.invokestatic 46, 3) := by decide +kernel
theorem dX2_emptyBeds_8 : decode cX2_emptyBeds 8 = .ok (.aload_n 0, 1) := by decide +kernel
theorem dX2_emptyBeds_9 : decode cX2_emptyBeds 9 = .ok (.getfield 30, 3) := by decide +kernel
theorem dX2_emptyBeds_12 : decode cX2_emptyBeds 12 = .ok (.iconst (-1), 1) := by decide +kernel
theorem dX2_emptyBeds_13 : decode cX2_emptyBeds 13 = .ok (.invokestatic 46, 3) := by decide +kernel
theorem dX2_emptyBeds_16 : decode cX2_emptyBeds 16 = .ok (.return_, 1) := by decide +kernel
set_option maxRecDepth 20000 in
theorem ggX2_startAgain_J7_fill_53178 : GoodIn wsX2_startAgain wsJ7_fill_53178 := goodIn_r _ [11] rfl (by decide +kernel)
set_option maxRecDepth 20000 in
theorem gX2_startAgain_J7_fill_53178 : GoodIn wsX2_startAgain (va_wsS RX2 46 yJ7_fill_53178 wsJ7_fill_53178) := goodIn_app (goodIn_of _ (by decide +kernel)) ggX2_startAgain_J7_fill_53178
set_option maxRecDepth 20000 in
theorem ggX2_startAgain_X2_emptyBeds : GoodIn wsX2_startAgain wsX2_emptyBeds := goodIn_r _ [16, 17, 18, 8, 9, 10, 11, 19, 20, 21, 22, 23, 24, 25, 26, 27, 28] rfl (by decide +kernel)
set_option maxRecDepth 20000 in
theorem gX2_startAgain_X2_emptyBeds : GoodIn wsX2_startAgain (wsV RX2 52 RX2 yX2_emptyBeds wsX2_emptyBeds) := goodIn_app (goodIn_of _ (by decide +kernel)) ggX2_startAgain_X2_emptyBeds
theorem dX2_startAgain_0 : decode cX2_startAgain 0 = .ok (.aload_n 0, 1) := by decide +kernel
theorem dX2_startAgain_1 : decode cX2_startAgain 1 = .ok (.getfield 9, 3) := by decide +kernel
theorem dX2_startAgain_4 : decode cX2_startAgain 4 = .ok (.iconst 0, 1) := by decide +kernel
theorem dX2_startAgain_5 : decode cX2_startAgain 5 = .ok (.invokestatic 46, 3) := by decide +kernel
theorem dX2_startAgain_8 : decode cX2_startAgain 8 = .ok (.aload_n 0, 1) := by decide +kernel
theorem dX2_startAgain_9 : decode cX2_startAgain 9 = .ok (.getfield 15, 3) := by decide +kernel
theorem dX2_startAgain_12 : decode cX2_startAgain 12 = .ok (.iconst 0, 1) := by decide +kernel
theorem dX2_startAgain_13 : decode cX2_startAgain 13 = .ok (.invokestatic 46, 3) := by decide +kernel
theorem dX2_startAgain_16 : decode cX2_startAgain 16 = .ok (.aload_n 0, 1) := by decide +kernel
theorem dX2_startAgain_17 : decode cX2_startAgain 17 = .ok (.getfield 18, 3) := by decide +kernel
theorem dX2_startAgain_20 : decode cX2_startAgain 20 = .ok (.iconst 0, 1) := by decide +kernel
theorem dX2_startAgain_21 : decode cX2_startAgain 21 = .ok (.invokestatic 46, 3) := by decide +kernel
theorem dX2_startAgain_24 : decode cX2_startAgain 24 = .ok (.aload_n 0, 1) := by decide +kernel
theorem dX2_startAgain_25 : decode cX2_startAgain 25 = .ok (.getfield 21, 3) := by decide +kernel
theorem dX2_startAgain_28 : decode cX2_startAgain 28 = .ok (.iconst 0, 1) := by decide +kernel
theorem dX2_startAgain_29 : decode cX2_startAgain 29 = .ok (.invokestatic 46, 3) := by decide +kernel
theorem dX2_startAgain_32 : decode cX2_startAgain 32 = .ok (.aload_n 0, 1) := by decide +kernel
theorem dX2_startAgain_33 : decode cX2_startAgain 33 = .ok (.getfield 24, 3) := by decide +kernel
theorem dX2_startAgain_36 : decode cX2_startAgain 36 = .ok (.iconst (-1), 1) := by decide +kernel
theorem dX2_startAgain_37 : decode cX2_startAgain 37 = .ok (.invokestatic 46, 3) := by decide +kernel
theorem dX2_startAgain_40 : decode cX2_startAgain 40 = .ok (.aload_n 0, 1) := by decide +kernel
theorem dX2_startAgain_41 : decode cX2_startAgain 41 = .ok (.invokevirtual 52, 3) := by decide +kernel
theorem dX2_startAgain_44 : decode cX2_startAgain 44 = .ok (.aload_n 0, 1) := by decide +kernel
theorem dX2_startAgain_45 : decode cX2_startAgain 45 = .ok (.iconst 0, 1) := by decide +kernel
theorem dX2_startAgain_46 : decode cX2_startAgain 46 = .ok (.putfield 33, 3) := by decide +kernel
theorem dX2_startAgain_49 : decode cX2_startAgain 49 = .ok (.aload_n 0, 1) := by decide +kernel
theorem dX2_startAgain_50 : decode cX2_startAgain 50 = .ok (.iconst 0, 1) := by decide +kernel
theorem dX2_startAgain_51 : decode cX2_startAgain 51 = .ok (.putfield 37, 3) := by decide +kernel
theorem dX2_startAgain_54 : decode cX2_startAgain 54 = .ok (.return_, 1) := by decide +kernel
set_option maxRecDepth 20000 in
theorem ggX2_init_X2_startAgain : GoodIn wsX2_init wsX2_startAgain := goodIn_r _ [19, 5, 6, 7, 8, 9, 12, 13, 20, 21, 22, 23, 24, 25, 26, 18, 27, 10, 11, 28, 29, 30, 31, 32, 33, 34, 35, 36, 37] rfl (by decide +kernel)
set_option maxRecDepth 20000 in
theorem gX2_init_X2_startAgain : GoodIn wsX2_init (wsV RX2 43 RX2 yX2_startAgain wsX2_startAgain) := goodIn_app (goodIn_of _ (by decide +kernel)) ggX2_init_X2_startAgain
theorem dX2_init_0 : decode cX2_init 0 = .ok (.aload_n 0, 1) := by decide +kernel
theorem dX2_init_1 : decode cX2_init 1 = .ok (.invokespecial 3, 3) := by decide +kernel
theorem dX2_init_4 : decode cX2_init 4 = .ok (.aload_n 0, 1) := by decide +kernel
theorem dX2_init_5 : decode cX2_init 5 = .ok (.iconst 3, 1) := by decide +kernel
theorem dX2_init_6 : decode cX2_init 6 = .ok (.newarray .int, 2) := by decide +kernel
theorem dX2_init_8 : decode cX2_init 8 = .ok (.putfield 9, 3) := by decide +kernel
theorem dX2_init_11 : decode cX2_init 11 = .ok (.aload_n 0, 1) := by decide +kernel
theorem dX2_init_12 : decode cX2_init 12 = .ok (.iconst 3, 1) := by decide +kernel
theorem dX2_init_13 : decode cX2_init 13 = .ok (.newarray .int, 2) := by decide +kernel
theorem dX2_init_15 : decode cX2_init 15 = .ok (.putfield 15, 3) := by decide +kernel
theorem dX2_init_18 : decode cX2_init 18 = .ok (.aload_n 0, 1) := by decide +kernel
theorem dX2_init_19 : decode cX2_init 19 = .ok (.iconst 3, 1) := by decide +kernel
theorem dX2_init_20 : decode cX2_init 20 = .ok (.newarray .int, 2) := by decide +kernel
theorem dX2_init_22 : decode cX2_init 22 = .ok (.putfield 18, 3) := by decide +kernel
theorem dX2_init_25 : decode cX2_init 25 = .ok (.aload_n 0, 1) := by decide +kernel
theorem dX2_init_26 : decode cX2_init 26 = .ok (.iconst 3, 1) := by decide +kernel
theorem dX2_init_27 : decode cX2_init 27 = .ok (.newarray .int, 2) := by decide +kernel
theorem dX2_init_29 : decode cX2_init 29 = .ok (.putfield 21, 3) := by decide +kernel
theorem dX2_init_32 : decode cX2_init 32 = .ok (.aload_n 0, 1) := by decide +kernel
theorem dX2_init_33 : decode cX2_init 33 = .ok (.iconst 3, 1) := by decide +kernel
theorem dX2_init_34 : decode cX2_init 34 = .ok (.newarray .int, 2) := by decide +kernel
theorem dX2_init_36 : decode cX2_init 36 = .ok (.putfield 24, 3) := by decide +kernel
theorem dX2_init_39 : decode cX2_init 39 = .ok (.aload_n 0, 1) := by decide +kernel
theorem dX2_init_40 : decode cX2_init 40 = .ok (.iconst 3, 1) := by decide +kernel
theorem dX2_init_41 : decode cX2_init 41 = .ok (.newarray .int, 2) := by decide +kernel
theorem dX2_init_43 : decode cX2_init 43 = .ok (.putfield 27, 3) := by decide +kernel
theorem dX2_init_46 : decode cX2_init 46 = .ok (.aload_n 0, 1) := by decide +kernel
theorem dX2_init_47 : decode cX2_init 47 = .ok (.iconst 3, 1) := by decide +kernel
theorem dX2_init_48 : decode cX2_init 48 = .ok (.newarray .int, 2) := by decide +kernel
theorem dX2_init_50 : decode cX2_init 50 = .ok (.putfield 30, 3) := by decide +kernel
theorem dX2_init_53 : decode cX2_init 53 = .ok (.aload_n 0, 1) := by decide +kernel
theorem dX2_init_54 : decode cX2_init 54 = .ok (.iconst 0, 1) := by decide +kernel
theorem dX2_init_55 : decode cX2_init 55 = .ok (.putfield 33, 3) := by decide +kernel
theorem dX2_init_58 : decode cX2_init 58 = .ok (.aload_n 0, 1) := by decide +kernel
theorem dX2_init_59 : decode cX2_init 59 = .ok (.iconst 0, 1) := by decide +kernel
theorem dX2_init_60 : decode cX2_init 60 = .ok (.putfield 37, 3) := by decide +kernel
theorem dX2_init_63 : decode cX2_init 63 = .ok (.aload_n 0, 1) := by decide +kernel
theorem dX2_init_64 : decode cX2_init 64 = .ok (.iconst 0, 1) := by decide +kernel
theorem dX2_init_65 : decode cX2_init 65 = .ok (.putfield 40, 3) := by decide +kernel
theorem dX2_init_68 : decode cX2_init 68 = .ok (.aload_n 0, 1) := by decide +kernel
theorem dX2_init_69 : decode cX2_init 69 = .ok (.invokevirtual 43, 3) := by decide +kernel
theorem dX2_init_72 : decode cX2_init 72 = .ok (.return_, 1) := by decide +kernel
abbrev c_X2_emptyBeds (k : Nat → ClassId) (h : Nat) (q0 : Nat) (q1 : Nat) (q2 : Nat) (q3 : Nat) (q4 : Nat) (q5 : Nat) (q6 : Nat) (f0 : Nat → Int32) (f1 : Nat → Int32) (f2 : Nat → Int32) (f3 : Nat → Int32) (f4 : Nat → Int32) (f5 : Nat → Int32) (f6 : Nat → Int32) (wg : Int32) (dy : Int32) (sd : Int32) : va_W := [(h, .inr (2, [.ref q0, .ref q1, .ref q2, .ref q3, .ref q4, .ref q5, .ref q6, .int wg, .int dy, .int sd])), (q0, .inl (k 0, 3, .inl f0)), (q1, .inl (k 0, 3, .inl f1)), (q2, .inl (k 0, 3, .inl f2)), (q3, .inl (k 0, 3, .inl f3)), (q4, .inl (k 0, 3, .inl f4)), (q5, .inl (k 0, 3, .inl f5)), (q6, .inl (k 0, 3, .inl f6))]
abbrev r_X2_emptyBeds : Room := { frames := 1, cells := 0, slots := 0, locals := 23 }
def w_X2_emptyBeds (k : Nat → ClassId) (h : Nat) (q0 : Nat) (q1 : Nat) (q2 : Nat) (q3 : Nat) (q4 : Nat) (q5 : Nat) (q6 : Nat) (f0 : Nat → Int32) (f1 : Nat → Int32) (f2 : Nat → Int32) (f3 : Nat → Int32) (f4 : Nat → Int32) (f5 : Nat → Int32) (f6 : Nat → Int32) (wg : Int32) (dy : Int32) (sd : Int32) : Unit → va_W := fun _ => [(h, .inr (2, [.ref q0, .ref q1, .ref q2, .ref q3, .ref q4, .ref q5, .ref q6, .int wg, .int dy, .int sd])), (q0, .inl (k 0, 3, .inl f0)), (q1, .inl (k 0, 3, .inl f1)), (q2, .inl (k 0, 3, .inl f2)), (q3, .inl (k 0, 3, .inl f3)), (q4, .inl (k 0, 3, .inl f4)), (q5, .inl (k 0, 3, .inl (fl_i f5 (-1) 3))), (q6, .inl (k 0, 3, .inl (fl_i f6 (-1) 3)))]
def p_X2_emptyBeds (k : Nat → ClassId) (h : Nat) (q0 : Nat) (q1 : Nat) (q2 : Nat) (q3 : Nat) (q4 : Nat) (q5 : Nat) (q6 : Nat) (f0 : Nat → Int32) (f1 : Nat → Int32) (f2 : Nat → Int32) (f3 : Nat → Int32) (f4 : Nat → Int32) (f5 : Nat → Int32) (f6 : Nat → Int32) (wg : Int32) (dy : Int32) (sd : Int32) : Unit → Prop := fun (u : Unit) => True
abbrev q_X2_emptyBeds (D : va_G) (k : Nat → ClassId) (h : Nat) (q0 : Nat) (q1 : Nat) (q2 : Nat) (q3 : Nat) (q4 : Nat) (q5 : Nat) (q6 : Nat) (f0 : Nat → Int32) (f1 : Nat → Int32) (f2 : Nat → Int32) (f3 : Nat → Int32) (f4 : Nat → Int32) (f5 : Nat → Int32) (f6 : Nat → Int32) (wg : Int32) (dy : Int32) (sd : Int32) (A : Nat → Prop) : Array Value → State → Outcome → State → Prop := va_Qv (p_X2_emptyBeds k h q0 q1 q2 q3 q4 q5 q6 f0 f1 f2 f3 f4 f5 f6 wg dy sd) (fun u9 t9 => BO D (w_X2_emptyBeds k h q0 q1 q2 q3 q4 q5 q6 f0 f1 f2 f3 f4 f5 f6 wg dy sd u9) A t9) A
set_option maxHeartbeats 2000000 in
set_option maxRecDepth 100000 in
theorem X2_emptyBeds (l : Launch) (D : va_G) (k : Nat → ClassId) (sz : Nat) (h : Nat) (q0 : Nat) (q1 : Nat) (q2 : Nat) (q3 : Nat) (q4 : Nat) (q5 : Nat) (q6 : Nat) (f0 : Nat → Int32) (f1 : Nat → Int32) (f2 : Nat → Int32) (f3 : Nat → Int32) (f4 : Nat → Int32) (f5 : Nat → Int32) (f6 : Nat → Int32) (wg : Int32) (dy : Int32) (sd : Int32)  : Met l yX2_emptyBeds wsX2_emptyBeds r_X2_emptyBeds (va_Pc [.ref h] (PR D k (c_X2_emptyBeds k h q0 q1 q2 q3 q4 q5 q6 f0 f1 f2 f3 f4 f5 f6 wg dy sd) sz)) (q_X2_emptyBeds D k h q0 q1 q2 q3 q4 q5 q6 f0 f1 f2 f3 f4 f5 f6 wg dy sd (va_A (c_X2_emptyBeds k h q0 q1 q2 q3 q4 q5 q6 f0 f1 f2 f3 f4 f5 f6 wg dy sd) sz)) 0 0 (va_A (c_X2_emptyBeds k h q0 q1 q2 q3 q4 q5 q6 f0 f1 f2 f3 f4 f5 f6 wg dy sd) sz) := by
  refine Met.ofW (cc := cX2_emptyBeds) (maxL := 1) (ret := none) (by decide) rfl ?_
  intro p e s m args below meth c s₁ B hml hv
  obtain ⟨rfl, hsz, hP, hG, hD0⟩ := hv
  have hx := B.exec
  have hb := B.bytes
  have hr := B.returns
  have hts := atoms_spec (ws := wsX2_emptyBeds) B.pre
  have hown : s.vm.findClass RX2 = some m.cls := findClass_of_methodNamed B.named
  have hlocks := B.notSynchronized
  have hi2 : ∀ w ∈ wsX20, w ∈ wsX2_emptyBeds := fun _ h => List.mem_cons_of_mem _ (List.mem_append_right _ h)
  subst hsz
  have hD := hD0.self (sz := s.heap.size)
  generalize hAe : va_A (c_X2_emptyBeds k h q0 q1 q2 q3 q4 q5 q6 f0 f1 f2 f3 f4 f5 f6 wg dy sd) s.heap.size = A at hD ⊢
  have hA : ∀ q : Nat, s.heap.size ≤ q → A q := fun q h => by rw [← hAe]; exact Or.inr h
  have hS : va_S A s.heap s.heap [] := va_S.rf
  have hP : va_P D vwCl [(h, .inr (2, [.ref q0, .ref q1, .ref q2, .ref q3, .ref q4, .ref q5, .ref q6, .int wg, .int dy, .int sd])), (q0, .inl (k 0, 3, .inl f0)), (q1, .inl (k 0, 3, .inl f1)), (q2, .inl (k 0, 3, .inl f2)), (q3, .inl (k 0, 3, .inl f3)), (q4, .inl (k 0, 3, .inl f4)), (q5, .inl (k 0, 3, .inl f5)), (q6, .inl (k 0, 3, .inl f6))] s.heap := hP
  have hD : va_D A [(h, .inr (2, [.ref q0, .ref q1, .ref q2, .ref q3, .ref q4, .ref q5, .ref q6, .int wg, .int dy, .int sd])), (q0, .inl (k 0, 3, .inl f0)), (q1, .inl (k 0, 3, .inl f1)), (q2, .inl (k 0, 3, .inl f2)), (q3, .inl (k 0, 3, .inl f3)), (q4, .inl (k 0, 3, .inl f4)), (q5, .inl (k 0, 3, .inl f5)), (q6, .inl (k 0, 3, .inl f6))] := hD
  have hl := lv_entry ([.ref h]) (n := 1) (Nat.le_of_ble_eq_true rfl)
  rw [lg_entry_eq]
  generalize (lg_sl ([.ref h]) ++ List.replicate (1 - (lg_sl ([.ref h])).length) Slot.unset).toArray = ls at hl ⊢
  have hl : lv_has ls 1 [(0, .ref h)] := hl
  refine lv_aload_n hx hb dX2_emptyBeds_0 rfl (lv_at hl 0 rfl) ?_
  refine va_get (D := D) (ci := 2) (v := .ref q5) (C := RX2) (T := TX2) (N := 10) hx hb hts hi2 hown hG.1 hP 0 rfl rfl 5 (by decide) (hts (.fieldLink RX2 27 "SleptMatters$Course" "laidSleeper" "[I") (List.mem_cons_of_mem _ (List.mem_append_left _ (List.mem_of_getElem? (i := 0) rfl)))) (fun _ h9 => h9) rfl dX2_emptyBeds_1 ?_
  refine lv_iconst (v := (-1)) hx hb dX2_emptyBeds_4 (by decide) ?_
  have hPc := hP.sub (ws' := (c_fillI k q5 3 f5 (-1))) [6] rfl
  have hDc := hD.sub (ws' := (c_fillI k q5 3 f5 (-1))) [6] (by decide +kernel) rfl
  refine cl_v (w1 := w_fillI k q5 3 f5 (-1)) (wr := [(h, .inr (2, [.ref q0, .ref q1, .ref q2, .ref q3, .ref q4, .ref q5, .ref q6, .int wg, .int dy, .int sd])), (q0, .inl (k 0, 3, .inl f0)), (q1, .inl (k 0, 3, .inl f1)), (q2, .inl (k 0, 3, .inl f2)), (q3, .inl (k 0, 3, .inl f3)), (q4, .inl (k 0, 3, .inl f4)), (q6, .inl (k 0, 3, .inl f6))]) (va_runS (As := [.ref q5, .int (-1)]) (rest := []) ⟨hx, hb, hml, hown, hts⟩ (fillI l D k s.heap.size q5 3 f5 (-1) (by decide)) (va_cwS 2 hts gX2_emptyBeds_J7_fill_53178 rfl rfl rfl (by decide +kernel) ⟨Nat.le_of_ble_eq_true rfl, Nat.le_of_ble_eq_true rfl⟩) ⟨PR.blind _ _ _ _ _, PR.pre hPc hDc hG [.ref q5, .int (-1)]⟩ rfl rfl hl.1 rfl (lv_room (Nat.le_of_ble_eq_true rfl)) dX2_emptyBeds_5 ⟨Nat.le_of_ble_eq_true rfl, Nat.le_of_ble_eq_true rfl⟩) hP hD hS hA [6] [0, 1, 2, 3, 4, 5, 7] rfl rfl (by decide +kernel) (by decide +kernel) (fun u H locs hq hP hD hS => ?_)
  cases u
  have hP : va_P D vwCl [(h, .inr (2, [.ref q0, .ref q1, .ref q2, .ref q3, .ref q4, .ref q5, .ref q6, .int wg, .int dy, .int sd])), (q0, .inl (k 0, 3, .inl f0)), (q1, .inl (k 0, 3, .inl f1)), (q2, .inl (k 0, 3, .inl f2)), (q3, .inl (k 0, 3, .inl f3)), (q4, .inl (k 0, 3, .inl f4)), (q6, .inl (k 0, 3, .inl f6)), (q5, .inl (k 0, 3, .inl (fl_i f5 (-1) 3)))] H := hP
  have hD : va_D A [(h, .inr (2, [.ref q0, .ref q1, .ref q2, .ref q3, .ref q4, .ref q5, .ref q6, .int wg, .int dy, .int sd])), (q0, .inl (k 0, 3, .inl f0)), (q1, .inl (k 0, 3, .inl f1)), (q2, .inl (k 0, 3, .inl f2)), (q3, .inl (k 0, 3, .inl f3)), (q4, .inl (k 0, 3, .inl f4)), (q6, .inl (k 0, 3, .inl f6)), (q5, .inl (k 0, 3, .inl (fl_i f5 (-1) 3)))] := hD
  refine lv_aload_n hx hb dX2_emptyBeds_8 rfl (lv_at hl 0 rfl) ?_
  refine va_get (D := D) (ci := 2) (v := .ref q6) (C := RX2) (T := TX2) (N := 10) hx hb hts hi2 hown hG.1 hP 0 rfl rfl 6 (by decide) (hts (.fieldLink RX2 30 "SleptMatters$Course" "laidHouse" "[I") (List.mem_cons_of_mem _ (List.mem_append_left _ (List.mem_of_getElem? (i := 1) rfl)))) (fun _ h9 => h9) rfl dX2_emptyBeds_9 ?_
  refine lv_iconst (v := (-1)) hx hb dX2_emptyBeds_12 (by decide) ?_
  have hPc := hP.sub (ws' := (c_fillI k q6 3 f6 (-1))) [6] rfl
  have hDc := hD.sub (ws' := (c_fillI k q6 3 f6 (-1))) [6] (by decide +kernel) rfl
  refine cl_v (w1 := w_fillI k q6 3 f6 (-1)) (wr := [(h, .inr (2, [.ref q0, .ref q1, .ref q2, .ref q3, .ref q4, .ref q5, .ref q6, .int wg, .int dy, .int sd])), (q0, .inl (k 0, 3, .inl f0)), (q1, .inl (k 0, 3, .inl f1)), (q2, .inl (k 0, 3, .inl f2)), (q3, .inl (k 0, 3, .inl f3)), (q4, .inl (k 0, 3, .inl f4)), (q5, .inl (k 0, 3, .inl (fl_i f5 (-1) 3)))]) (va_runS (As := [.ref q6, .int (-1)]) (rest := []) ⟨hx, hb, hml, hown, hts⟩ (fillI l D k H.size q6 3 f6 (-1) (by decide)) (va_cwS 2 hts gX2_emptyBeds_J7_fill_53178 rfl rfl rfl (by decide +kernel) ⟨Nat.le_of_ble_eq_true rfl, Nat.le_of_ble_eq_true rfl⟩) ⟨PR.blind _ _ _ _ _, PR.pre hPc hDc hG [.ref q6, .int (-1)]⟩ rfl rfl hl.1 rfl (lv_room (Nat.le_of_ble_eq_true rfl)) dX2_emptyBeds_13 ⟨Nat.le_of_ble_eq_true rfl, Nat.le_of_ble_eq_true rfl⟩) hP hD hS hA [6] [0, 1, 2, 3, 4, 5, 7] rfl rfl (by decide +kernel) (by decide +kernel) (fun u H locs hq hP hD hS => ?_)
  cases u
  have hP : va_P D vwCl [(h, .inr (2, [.ref q0, .ref q1, .ref q2, .ref q3, .ref q4, .ref q5, .ref q6, .int wg, .int dy, .int sd])), (q0, .inl (k 0, 3, .inl f0)), (q1, .inl (k 0, 3, .inl f1)), (q2, .inl (k 0, 3, .inl f2)), (q3, .inl (k 0, 3, .inl f3)), (q4, .inl (k 0, 3, .inl f4)), (q5, .inl (k 0, 3, .inl (fl_i f5 (-1) 3))), (q6, .inl (k 0, 3, .inl (fl_i f6 (-1) 3)))] H := hP
  have hD : va_D A [(h, .inr (2, [.ref q0, .ref q1, .ref q2, .ref q3, .ref q4, .ref q5, .ref q6, .int wg, .int dy, .int sd])), (q0, .inl (k 0, 3, .inl f0)), (q1, .inl (k 0, 3, .inl f1)), (q2, .inl (k 0, 3, .inl f2)), (q3, .inl (k 0, 3, .inl f3)), (q4, .inl (k 0, 3, .inl f4)), (q5, .inl (k 0, 3, .inl (fl_i f5 (-1) 3))), (q6, .inl (k 0, 3, .inl (fl_i f6 (-1) 3)))] := hD
  have hP9 := hP.sub (ws' := [(h, .inr (2, [.ref q0, .ref q1, .ref q2, .ref q3, .ref q4, .ref q5, .ref q6, .int wg, .int dy, .int sd])), (q0, .inl (k 0, 3, .inl f0)), (q1, .inl (k 0, 3, .inl f1)), (q2, .inl (k 0, 3, .inl f2)), (q3, .inl (k 0, 3, .inl f3)), (q4, .inl (k 0, 3, .inl f4)), (q5, .inl (k 0, 3, .inl (fl_i f5 (-1) 3))), (q6, .inl (k 0, 3, .inl (fl_i f6 (-1) 3)))]) [0, 1, 2, 3, 4, 5, 6, 7] rfl
  have hD9 := hD.sub (ws' := [(h, .inr (2, [.ref q0, .ref q1, .ref q2, .ref q3, .ref q4, .ref q5, .ref q6, .int wg, .int dy, .int sd])), (q0, .inl (k 0, 3, .inl f0)), (q1, .inl (k 0, 3, .inl f1)), (q2, .inl (k 0, 3, .inl f2)), (q3, .inl (k 0, 3, .inl f3)), (q4, .inl (k 0, 3, .inl f4)), (q5, .inl (k 0, 3, .inl (fl_i f5 (-1) 3))), (q6, .inl (k 0, 3, .inl (fl_i f6 (-1) 3)))]) [0, 1, 2, 3, 4, 5, 6, 7] (by decide +kernel) rfl
  exact W.vret hx hb hr (fun t9 ht _ => ⟨⟨(), rfl, trivial, by rw [ht]; exact hP9, hD9⟩, hS.F ht⟩) hS.2.2 dX2_emptyBeds_16

abbrev c_X2_startAgain (k : Nat → ClassId) (h : Nat) (q0 : Nat) (q1 : Nat) (q2 : Nat) (q3 : Nat) (q4 : Nat) (q5 : Nat) (q6 : Nat) (f0 : Nat → Int32) (f1 : Nat → Int32) (f2 : Nat → Int32) (f3 : Nat → Int32) (f4 : Nat → Int32) (f5 : Nat → Int32) (f6 : Nat → Int32) (wg : Int32) (dy : Int32) (sd : Int32) : va_W := [(h, .inr (2, [.ref q0, .ref q1, .ref q2, .ref q3, .ref q4, .ref q5, .ref q6, .int wg, .int dy, .int sd])), (q0, .inl (k 0, 3, .inl f0)), (q1, .inl (k 0, 3, .inl f1)), (q2, .inl (k 0, 3, .inl f2)), (q3, .inl (k 0, 3, .inl f3)), (q4, .inl (k 0, 3, .inl f4)), (q5, .inl (k 0, 3, .inl f5)), (q6, .inl (k 0, 3, .inl f6))]
abbrev r_X2_startAgain : Room := { frames := 2, cells := 0, slots := 0, locals := 43 }
def w_X2_startAgain (k : Nat → ClassId) (h : Nat) (q0 : Nat) (q1 : Nat) (q2 : Nat) (q3 : Nat) (q4 : Nat) (q5 : Nat) (q6 : Nat) (f0 : Nat → Int32) (f1 : Nat → Int32) (f2 : Nat → Int32) (f3 : Nat → Int32) (f4 : Nat → Int32) (f5 : Nat → Int32) (f6 : Nat → Int32) (wg : Int32) (dy : Int32) (sd : Int32) : Unit → va_W := fun _ => [(h, .inr (2, [.ref q0, .ref q1, .ref q2, .ref q3, .ref q4, .ref q5, .ref q6, .int 0, .int 0, .int sd])), (q0, .inl (k 0, 3, .inl (fl_i f0 0 3))), (q1, .inl (k 0, 3, .inl (fl_i f1 0 3))), (q2, .inl (k 0, 3, .inl (fl_i f2 0 3))), (q3, .inl (k 0, 3, .inl (fl_i f3 0 3))), (q4, .inl (k 0, 3, .inl (fl_i f4 (-1) 3))), (q5, .inl (k 0, 3, .inl (fl_i f5 (-1) 3))), (q6, .inl (k 0, 3, .inl (fl_i f6 (-1) 3)))]
def p_X2_startAgain (k : Nat → ClassId) (h : Nat) (q0 : Nat) (q1 : Nat) (q2 : Nat) (q3 : Nat) (q4 : Nat) (q5 : Nat) (q6 : Nat) (f0 : Nat → Int32) (f1 : Nat → Int32) (f2 : Nat → Int32) (f3 : Nat → Int32) (f4 : Nat → Int32) (f5 : Nat → Int32) (f6 : Nat → Int32) (wg : Int32) (dy : Int32) (sd : Int32) : Unit → Prop := fun (u : Unit) => True
abbrev q_X2_startAgain (D : va_G) (k : Nat → ClassId) (h : Nat) (q0 : Nat) (q1 : Nat) (q2 : Nat) (q3 : Nat) (q4 : Nat) (q5 : Nat) (q6 : Nat) (f0 : Nat → Int32) (f1 : Nat → Int32) (f2 : Nat → Int32) (f3 : Nat → Int32) (f4 : Nat → Int32) (f5 : Nat → Int32) (f6 : Nat → Int32) (wg : Int32) (dy : Int32) (sd : Int32) (A : Nat → Prop) : Array Value → State → Outcome → State → Prop := va_Qv (p_X2_startAgain k h q0 q1 q2 q3 q4 q5 q6 f0 f1 f2 f3 f4 f5 f6 wg dy sd) (fun u9 t9 => BO D (w_X2_startAgain k h q0 q1 q2 q3 q4 q5 q6 f0 f1 f2 f3 f4 f5 f6 wg dy sd u9) A t9) A
set_option maxHeartbeats 2000000 in
set_option maxRecDepth 100000 in
theorem X2_startAgain (l : Launch) (D : va_G) (k : Nat → ClassId) (sz : Nat) (h : Nat) (q0 : Nat) (q1 : Nat) (q2 : Nat) (q3 : Nat) (q4 : Nat) (q5 : Nat) (q6 : Nat) (f0 : Nat → Int32) (f1 : Nat → Int32) (f2 : Nat → Int32) (f3 : Nat → Int32) (f4 : Nat → Int32) (f5 : Nat → Int32) (f6 : Nat → Int32) (wg : Int32) (dy : Int32) (sd : Int32)  : Met l yX2_startAgain wsX2_startAgain r_X2_startAgain (va_Pc [.ref h] (PR D k (c_X2_startAgain k h q0 q1 q2 q3 q4 q5 q6 f0 f1 f2 f3 f4 f5 f6 wg dy sd) sz)) (q_X2_startAgain D k h q0 q1 q2 q3 q4 q5 q6 f0 f1 f2 f3 f4 f5 f6 wg dy sd (va_A (c_X2_startAgain k h q0 q1 q2 q3 q4 q5 q6 f0 f1 f2 f3 f4 f5 f6 wg dy sd) sz)) 0 0 (va_A (c_X2_startAgain k h q0 q1 q2 q3 q4 q5 q6 f0 f1 f2 f3 f4 f5 f6 wg dy sd) sz) := by
  refine Met.ofW (cc := cX2_startAgain) (maxL := 1) (ret := none) (by decide) rfl ?_
  intro p e s m args below meth c s₁ B hml hv
  obtain ⟨rfl, hsz, hP, hG, hD0⟩ := hv
  have hx := B.exec
  have hb := B.bytes
  have hr := B.returns
  have hts := atoms_spec (ws := wsX2_startAgain) B.pre
  have hown : s.vm.findClass RX2 = some m.cls := findClass_of_methodNamed B.named
  have hlocks := B.notSynchronized
  have hi2 : ∀ w ∈ wsX20, w ∈ wsX2_startAgain := fun _ h => List.mem_cons_of_mem _ (List.mem_append_right _ h)
  subst hsz
  have hD := hD0.self (sz := s.heap.size)
  generalize hAe : va_A (c_X2_startAgain k h q0 q1 q2 q3 q4 q5 q6 f0 f1 f2 f3 f4 f5 f6 wg dy sd) s.heap.size = A at hD ⊢
  have hA : ∀ q : Nat, s.heap.size ≤ q → A q := fun q h => by rw [← hAe]; exact Or.inr h
  have hS : va_S A s.heap s.heap [] := va_S.rf
  have hP : va_P D vwCl [(h, .inr (2, [.ref q0, .ref q1, .ref q2, .ref q3, .ref q4, .ref q5, .ref q6, .int wg, .int dy, .int sd])), (q0, .inl (k 0, 3, .inl f0)), (q1, .inl (k 0, 3, .inl f1)), (q2, .inl (k 0, 3, .inl f2)), (q3, .inl (k 0, 3, .inl f3)), (q4, .inl (k 0, 3, .inl f4)), (q5, .inl (k 0, 3, .inl f5)), (q6, .inl (k 0, 3, .inl f6))] s.heap := hP
  have hD : va_D A [(h, .inr (2, [.ref q0, .ref q1, .ref q2, .ref q3, .ref q4, .ref q5, .ref q6, .int wg, .int dy, .int sd])), (q0, .inl (k 0, 3, .inl f0)), (q1, .inl (k 0, 3, .inl f1)), (q2, .inl (k 0, 3, .inl f2)), (q3, .inl (k 0, 3, .inl f3)), (q4, .inl (k 0, 3, .inl f4)), (q5, .inl (k 0, 3, .inl f5)), (q6, .inl (k 0, 3, .inl f6))] := hD
  have hl := lv_entry ([.ref h]) (n := 1) (Nat.le_of_ble_eq_true rfl)
  rw [lg_entry_eq]
  generalize (lg_sl ([.ref h]) ++ List.replicate (1 - (lg_sl ([.ref h])).length) Slot.unset).toArray = ls at hl ⊢
  have hl : lv_has ls 1 [(0, .ref h)] := hl
  refine lv_aload_n hx hb dX2_startAgain_0 rfl (lv_at hl 0 rfl) ?_
  refine va_get (D := D) (ci := 2) (v := .ref q0) (C := RX2) (T := TX2) (N := 10) hx hb hts hi2 hown hG.1 hP 0 rfl rfl 0 (by decide) (hts (.fieldLink RX2 9 "SleptMatters$Course" "sleepers" "[I") (List.mem_cons_of_mem _ (List.mem_append_left _ (List.mem_of_getElem? (i := 0) rfl)))) (fun _ h9 => h9) rfl dX2_startAgain_1 ?_
  refine lv_iconst (v := 0) hx hb dX2_startAgain_4 (by decide) ?_
  have hPc := hP.sub (ws' := (c_fillI k q0 3 f0 0)) [1] rfl
  have hDc := hD.sub (ws' := (c_fillI k q0 3 f0 0)) [1] (by decide +kernel) rfl
  refine cl_v (w1 := w_fillI k q0 3 f0 0) (wr := [(h, .inr (2, [.ref q0, .ref q1, .ref q2, .ref q3, .ref q4, .ref q5, .ref q6, .int wg, .int dy, .int sd])), (q1, .inl (k 0, 3, .inl f1)), (q2, .inl (k 0, 3, .inl f2)), (q3, .inl (k 0, 3, .inl f3)), (q4, .inl (k 0, 3, .inl f4)), (q5, .inl (k 0, 3, .inl f5)), (q6, .inl (k 0, 3, .inl f6))]) (va_runS (As := [.ref q0, .int 0]) (rest := []) ⟨hx, hb, hml, hown, hts⟩ (fillI l D k s.heap.size q0 3 f0 0 (by decide)) (va_cwS 2 hts gX2_startAgain_J7_fill_53178 rfl rfl rfl (by decide +kernel) ⟨Nat.le_of_ble_eq_true rfl, Nat.le_of_ble_eq_true rfl⟩) ⟨PR.blind _ _ _ _ _, PR.pre hPc hDc hG [.ref q0, .int 0]⟩ rfl rfl hl.1 rfl (lv_room (Nat.le_of_ble_eq_true rfl)) dX2_startAgain_5 ⟨Nat.le_of_ble_eq_true rfl, Nat.le_of_ble_eq_true rfl⟩) hP hD hS hA [1] [0, 2, 3, 4, 5, 6, 7] rfl rfl (by decide +kernel) (by decide +kernel) (fun u H locs hq hP hD hS => ?_)
  cases u
  have hP : va_P D vwCl [(h, .inr (2, [.ref q0, .ref q1, .ref q2, .ref q3, .ref q4, .ref q5, .ref q6, .int wg, .int dy, .int sd])), (q1, .inl (k 0, 3, .inl f1)), (q2, .inl (k 0, 3, .inl f2)), (q3, .inl (k 0, 3, .inl f3)), (q4, .inl (k 0, 3, .inl f4)), (q5, .inl (k 0, 3, .inl f5)), (q6, .inl (k 0, 3, .inl f6)), (q0, .inl (k 0, 3, .inl (fl_i f0 0 3)))] H := hP
  have hD : va_D A [(h, .inr (2, [.ref q0, .ref q1, .ref q2, .ref q3, .ref q4, .ref q5, .ref q6, .int wg, .int dy, .int sd])), (q1, .inl (k 0, 3, .inl f1)), (q2, .inl (k 0, 3, .inl f2)), (q3, .inl (k 0, 3, .inl f3)), (q4, .inl (k 0, 3, .inl f4)), (q5, .inl (k 0, 3, .inl f5)), (q6, .inl (k 0, 3, .inl f6)), (q0, .inl (k 0, 3, .inl (fl_i f0 0 3)))] := hD
  refine lv_aload_n hx hb dX2_startAgain_8 rfl (lv_at hl 0 rfl) ?_
  refine va_get (D := D) (ci := 2) (v := .ref q1) (C := RX2) (T := TX2) (N := 10) hx hb hts hi2 hown hG.1 hP 0 rfl rfl 1 (by decide) (hts (.fieldLink RX2 15 "SleptMatters$Course" "houses" "[I") (List.mem_cons_of_mem _ (List.mem_append_left _ (List.mem_of_getElem? (i := 1) rfl)))) (fun _ h9 => h9) rfl dX2_startAgain_9 ?_
  refine lv_iconst (v := 0) hx hb dX2_startAgain_12 (by decide) ?_
  have hPc := hP.sub (ws' := (c_fillI k q1 3 f1 0)) [1] rfl
  have hDc := hD.sub (ws' := (c_fillI k q1 3 f1 0)) [1] (by decide +kernel) rfl
  refine cl_v (w1 := w_fillI k q1 3 f1 0) (wr := [(h, .inr (2, [.ref q0, .ref q1, .ref q2, .ref q3, .ref q4, .ref q5, .ref q6, .int wg, .int dy, .int sd])), (q2, .inl (k 0, 3, .inl f2)), (q3, .inl (k 0, 3, .inl f3)), (q4, .inl (k 0, 3, .inl f4)), (q5, .inl (k 0, 3, .inl f5)), (q6, .inl (k 0, 3, .inl f6)), (q0, .inl (k 0, 3, .inl (fl_i f0 0 3)))]) (va_runS (As := [.ref q1, .int 0]) (rest := []) ⟨hx, hb, hml, hown, hts⟩ (fillI l D k H.size q1 3 f1 0 (by decide)) (va_cwS 2 hts gX2_startAgain_J7_fill_53178 rfl rfl rfl (by decide +kernel) ⟨Nat.le_of_ble_eq_true rfl, Nat.le_of_ble_eq_true rfl⟩) ⟨PR.blind _ _ _ _ _, PR.pre hPc hDc hG [.ref q1, .int 0]⟩ rfl rfl hl.1 rfl (lv_room (Nat.le_of_ble_eq_true rfl)) dX2_startAgain_13 ⟨Nat.le_of_ble_eq_true rfl, Nat.le_of_ble_eq_true rfl⟩) hP hD hS hA [1] [0, 2, 3, 4, 5, 6, 7] rfl rfl (by decide +kernel) (by decide +kernel) (fun u H locs hq hP hD hS => ?_)
  cases u
  have hP : va_P D vwCl [(h, .inr (2, [.ref q0, .ref q1, .ref q2, .ref q3, .ref q4, .ref q5, .ref q6, .int wg, .int dy, .int sd])), (q2, .inl (k 0, 3, .inl f2)), (q3, .inl (k 0, 3, .inl f3)), (q4, .inl (k 0, 3, .inl f4)), (q5, .inl (k 0, 3, .inl f5)), (q6, .inl (k 0, 3, .inl f6)), (q0, .inl (k 0, 3, .inl (fl_i f0 0 3))), (q1, .inl (k 0, 3, .inl (fl_i f1 0 3)))] H := hP
  have hD : va_D A [(h, .inr (2, [.ref q0, .ref q1, .ref q2, .ref q3, .ref q4, .ref q5, .ref q6, .int wg, .int dy, .int sd])), (q2, .inl (k 0, 3, .inl f2)), (q3, .inl (k 0, 3, .inl f3)), (q4, .inl (k 0, 3, .inl f4)), (q5, .inl (k 0, 3, .inl f5)), (q6, .inl (k 0, 3, .inl f6)), (q0, .inl (k 0, 3, .inl (fl_i f0 0 3))), (q1, .inl (k 0, 3, .inl (fl_i f1 0 3)))] := hD
  refine lv_aload_n hx hb dX2_startAgain_16 rfl (lv_at hl 0 rfl) ?_
  refine va_get (D := D) (ci := 2) (v := .ref q2) (C := RX2) (T := TX2) (N := 10) hx hb hts hi2 hown hG.1 hP 0 rfl rfl 2 (by decide) (hts (.fieldLink RX2 18 "SleptMatters$Course" "yes" "[I") (List.mem_cons_of_mem _ (List.mem_append_left _ (List.mem_of_getElem? (i := 2) rfl)))) (fun _ h9 => h9) rfl dX2_startAgain_17 ?_
  refine lv_iconst (v := 0) hx hb dX2_startAgain_20 (by decide) ?_
  have hPc := hP.sub (ws' := (c_fillI k q2 3 f2 0)) [1] rfl
  have hDc := hD.sub (ws' := (c_fillI k q2 3 f2 0)) [1] (by decide +kernel) rfl
  refine cl_v (w1 := w_fillI k q2 3 f2 0) (wr := [(h, .inr (2, [.ref q0, .ref q1, .ref q2, .ref q3, .ref q4, .ref q5, .ref q6, .int wg, .int dy, .int sd])), (q3, .inl (k 0, 3, .inl f3)), (q4, .inl (k 0, 3, .inl f4)), (q5, .inl (k 0, 3, .inl f5)), (q6, .inl (k 0, 3, .inl f6)), (q0, .inl (k 0, 3, .inl (fl_i f0 0 3))), (q1, .inl (k 0, 3, .inl (fl_i f1 0 3)))]) (va_runS (As := [.ref q2, .int 0]) (rest := []) ⟨hx, hb, hml, hown, hts⟩ (fillI l D k H.size q2 3 f2 0 (by decide)) (va_cwS 2 hts gX2_startAgain_J7_fill_53178 rfl rfl rfl (by decide +kernel) ⟨Nat.le_of_ble_eq_true rfl, Nat.le_of_ble_eq_true rfl⟩) ⟨PR.blind _ _ _ _ _, PR.pre hPc hDc hG [.ref q2, .int 0]⟩ rfl rfl hl.1 rfl (lv_room (Nat.le_of_ble_eq_true rfl)) dX2_startAgain_21 ⟨Nat.le_of_ble_eq_true rfl, Nat.le_of_ble_eq_true rfl⟩) hP hD hS hA [1] [0, 2, 3, 4, 5, 6, 7] rfl rfl (by decide +kernel) (by decide +kernel) (fun u H locs hq hP hD hS => ?_)
  cases u
  have hP : va_P D vwCl [(h, .inr (2, [.ref q0, .ref q1, .ref q2, .ref q3, .ref q4, .ref q5, .ref q6, .int wg, .int dy, .int sd])), (q3, .inl (k 0, 3, .inl f3)), (q4, .inl (k 0, 3, .inl f4)), (q5, .inl (k 0, 3, .inl f5)), (q6, .inl (k 0, 3, .inl f6)), (q0, .inl (k 0, 3, .inl (fl_i f0 0 3))), (q1, .inl (k 0, 3, .inl (fl_i f1 0 3))), (q2, .inl (k 0, 3, .inl (fl_i f2 0 3)))] H := hP
  have hD : va_D A [(h, .inr (2, [.ref q0, .ref q1, .ref q2, .ref q3, .ref q4, .ref q5, .ref q6, .int wg, .int dy, .int sd])), (q3, .inl (k 0, 3, .inl f3)), (q4, .inl (k 0, 3, .inl f4)), (q5, .inl (k 0, 3, .inl f5)), (q6, .inl (k 0, 3, .inl f6)), (q0, .inl (k 0, 3, .inl (fl_i f0 0 3))), (q1, .inl (k 0, 3, .inl (fl_i f1 0 3))), (q2, .inl (k 0, 3, .inl (fl_i f2 0 3)))] := hD
  refine lv_aload_n hx hb dX2_startAgain_24 rfl (lv_at hl 0 rfl) ?_
  refine va_get (D := D) (ci := 2) (v := .ref q3) (C := RX2) (T := TX2) (N := 10) hx hb hts hi2 hown hG.1 hP 0 rfl rfl 3 (by decide) (hts (.fieldLink RX2 21 "SleptMatters$Course" "outcome" "[I") (List.mem_cons_of_mem _ (List.mem_append_left _ (List.mem_of_getElem? (i := 3) rfl)))) (fun _ h9 => h9) rfl dX2_startAgain_25 ?_
  refine lv_iconst (v := 0) hx hb dX2_startAgain_28 (by decide) ?_
  have hPc := hP.sub (ws' := (c_fillI k q3 3 f3 0)) [1] rfl
  have hDc := hD.sub (ws' := (c_fillI k q3 3 f3 0)) [1] (by decide +kernel) rfl
  refine cl_v (w1 := w_fillI k q3 3 f3 0) (wr := [(h, .inr (2, [.ref q0, .ref q1, .ref q2, .ref q3, .ref q4, .ref q5, .ref q6, .int wg, .int dy, .int sd])), (q4, .inl (k 0, 3, .inl f4)), (q5, .inl (k 0, 3, .inl f5)), (q6, .inl (k 0, 3, .inl f6)), (q0, .inl (k 0, 3, .inl (fl_i f0 0 3))), (q1, .inl (k 0, 3, .inl (fl_i f1 0 3))), (q2, .inl (k 0, 3, .inl (fl_i f2 0 3)))]) (va_runS (As := [.ref q3, .int 0]) (rest := []) ⟨hx, hb, hml, hown, hts⟩ (fillI l D k H.size q3 3 f3 0 (by decide)) (va_cwS 2 hts gX2_startAgain_J7_fill_53178 rfl rfl rfl (by decide +kernel) ⟨Nat.le_of_ble_eq_true rfl, Nat.le_of_ble_eq_true rfl⟩) ⟨PR.blind _ _ _ _ _, PR.pre hPc hDc hG [.ref q3, .int 0]⟩ rfl rfl hl.1 rfl (lv_room (Nat.le_of_ble_eq_true rfl)) dX2_startAgain_29 ⟨Nat.le_of_ble_eq_true rfl, Nat.le_of_ble_eq_true rfl⟩) hP hD hS hA [1] [0, 2, 3, 4, 5, 6, 7] rfl rfl (by decide +kernel) (by decide +kernel) (fun u H locs hq hP hD hS => ?_)
  cases u
  have hP : va_P D vwCl [(h, .inr (2, [.ref q0, .ref q1, .ref q2, .ref q3, .ref q4, .ref q5, .ref q6, .int wg, .int dy, .int sd])), (q4, .inl (k 0, 3, .inl f4)), (q5, .inl (k 0, 3, .inl f5)), (q6, .inl (k 0, 3, .inl f6)), (q0, .inl (k 0, 3, .inl (fl_i f0 0 3))), (q1, .inl (k 0, 3, .inl (fl_i f1 0 3))), (q2, .inl (k 0, 3, .inl (fl_i f2 0 3))), (q3, .inl (k 0, 3, .inl (fl_i f3 0 3)))] H := hP
  have hD : va_D A [(h, .inr (2, [.ref q0, .ref q1, .ref q2, .ref q3, .ref q4, .ref q5, .ref q6, .int wg, .int dy, .int sd])), (q4, .inl (k 0, 3, .inl f4)), (q5, .inl (k 0, 3, .inl f5)), (q6, .inl (k 0, 3, .inl f6)), (q0, .inl (k 0, 3, .inl (fl_i f0 0 3))), (q1, .inl (k 0, 3, .inl (fl_i f1 0 3))), (q2, .inl (k 0, 3, .inl (fl_i f2 0 3))), (q3, .inl (k 0, 3, .inl (fl_i f3 0 3)))] := hD
  refine lv_aload_n hx hb dX2_startAgain_32 rfl (lv_at hl 0 rfl) ?_
  refine va_get (D := D) (ci := 2) (v := .ref q4) (C := RX2) (T := TX2) (N := 10) hx hb hts hi2 hown hG.1 hP 0 rfl rfl 4 (by decide) (hts (.fieldLink RX2 24 "SleptMatters$Course" "decidedOn" "[I") (List.mem_cons_of_mem _ (List.mem_append_left _ (List.mem_of_getElem? (i := 4) rfl)))) (fun _ h9 => h9) rfl dX2_startAgain_33 ?_
  refine lv_iconst (v := (-1)) hx hb dX2_startAgain_36 (by decide) ?_
  have hPc := hP.sub (ws' := (c_fillI k q4 3 f4 (-1))) [1] rfl
  have hDc := hD.sub (ws' := (c_fillI k q4 3 f4 (-1))) [1] (by decide +kernel) rfl
  refine cl_v (w1 := w_fillI k q4 3 f4 (-1)) (wr := [(h, .inr (2, [.ref q0, .ref q1, .ref q2, .ref q3, .ref q4, .ref q5, .ref q6, .int wg, .int dy, .int sd])), (q5, .inl (k 0, 3, .inl f5)), (q6, .inl (k 0, 3, .inl f6)), (q0, .inl (k 0, 3, .inl (fl_i f0 0 3))), (q1, .inl (k 0, 3, .inl (fl_i f1 0 3))), (q2, .inl (k 0, 3, .inl (fl_i f2 0 3))), (q3, .inl (k 0, 3, .inl (fl_i f3 0 3)))]) (va_runS (As := [.ref q4, .int (-1)]) (rest := []) ⟨hx, hb, hml, hown, hts⟩ (fillI l D k H.size q4 3 f4 (-1) (by decide)) (va_cwS 2 hts gX2_startAgain_J7_fill_53178 rfl rfl rfl (by decide +kernel) ⟨Nat.le_of_ble_eq_true rfl, Nat.le_of_ble_eq_true rfl⟩) ⟨PR.blind _ _ _ _ _, PR.pre hPc hDc hG [.ref q4, .int (-1)]⟩ rfl rfl hl.1 rfl (lv_room (Nat.le_of_ble_eq_true rfl)) dX2_startAgain_37 ⟨Nat.le_of_ble_eq_true rfl, Nat.le_of_ble_eq_true rfl⟩) hP hD hS hA [1] [0, 2, 3, 4, 5, 6, 7] rfl rfl (by decide +kernel) (by decide +kernel) (fun u H locs hq hP hD hS => ?_)
  cases u
  have hP : va_P D vwCl [(h, .inr (2, [.ref q0, .ref q1, .ref q2, .ref q3, .ref q4, .ref q5, .ref q6, .int wg, .int dy, .int sd])), (q5, .inl (k 0, 3, .inl f5)), (q6, .inl (k 0, 3, .inl f6)), (q0, .inl (k 0, 3, .inl (fl_i f0 0 3))), (q1, .inl (k 0, 3, .inl (fl_i f1 0 3))), (q2, .inl (k 0, 3, .inl (fl_i f2 0 3))), (q3, .inl (k 0, 3, .inl (fl_i f3 0 3))), (q4, .inl (k 0, 3, .inl (fl_i f4 (-1) 3)))] H := hP
  have hD : va_D A [(h, .inr (2, [.ref q0, .ref q1, .ref q2, .ref q3, .ref q4, .ref q5, .ref q6, .int wg, .int dy, .int sd])), (q5, .inl (k 0, 3, .inl f5)), (q6, .inl (k 0, 3, .inl f6)), (q0, .inl (k 0, 3, .inl (fl_i f0 0 3))), (q1, .inl (k 0, 3, .inl (fl_i f1 0 3))), (q2, .inl (k 0, 3, .inl (fl_i f2 0 3))), (q3, .inl (k 0, 3, .inl (fl_i f3 0 3))), (q4, .inl (k 0, 3, .inl (fl_i f4 (-1) 3)))] := hD
  refine lv_aload_n hx hb dX2_startAgain_40 rfl (lv_at hl 0 rfl) ?_
  have hPc := hP.sub (ws' := (c_X2_emptyBeds k h q0 q1 q2 q3 q4 q5 q6 (fl_i f0 0 3) (fl_i f1 0 3) (fl_i f2 0 3) (fl_i f3 0 3) (fl_i f4 (-1) 3) f5 f6 wg dy sd)) [0, 3, 4, 5, 6, 7, 1, 2] rfl
  have hDc := hD.sub (ws' := (c_X2_emptyBeds k h q0 q1 q2 q3 q4 q5 q6 (fl_i f0 0 3) (fl_i f1 0 3) (fl_i f2 0 3) (fl_i f3 0 3) (fl_i f4 (-1) 3) f5 f6 wg dy sd)) [0, 3, 4, 5, 6, 7, 1, 2] (by decide +kernel) rfl
  refine cl_v (w1 := w_X2_emptyBeds k h q0 q1 q2 q3 q4 q5 q6 (fl_i f0 0 3) (fl_i f1 0 3) (fl_i f2 0 3) (fl_i f3 0 3) (fl_i f4 (-1) 3) f5 f6 wg dy sd) (wr := []) (va_runV (As := []) (rest := []) ⟨hx, hb, hml, hown, hts⟩ (X2_emptyBeds l D k H.size h q0 q1 q2 q3 q4 q5 q6 (fl_i f0 0 3) (fl_i f1 0 3) (fl_i f2 0 3) (fl_i f3 0 3) (fl_i f4 (-1) 3) f5 f6 wg dy sd ) (cwV 0 hts gX2_startAgain_X2_emptyBeds rfl rfl rfl (by decide +kernel) ⟨Nat.le_of_ble_eq_true rfl, Nat.le_of_ble_eq_true rfl⟩) ⟨PR.blind _ _ _ _ _, va_recv hG.1 hP (ci := 2) (q0 := 0) rfl rfl, PR.pre hPc hDc hG [.ref h]⟩ rfl rfl hl.1 rfl (lv_room (Nat.le_of_ble_eq_true rfl)) dX2_startAgain_41 ⟨Nat.le_of_ble_eq_true rfl, Nat.le_of_ble_eq_true rfl⟩) hP hD hS hA [0, 3, 4, 5, 6, 7, 1, 2] [] rfl rfl (by decide +kernel) (by decide +kernel) (fun u H locs hq hP hD hS => ?_)
  cases u
  have hP : va_P D vwCl [(h, .inr (2, [.ref q0, .ref q1, .ref q2, .ref q3, .ref q4, .ref q5, .ref q6, .int wg, .int dy, .int sd])), (q0, .inl (k 0, 3, .inl (fl_i f0 0 3))), (q1, .inl (k 0, 3, .inl (fl_i f1 0 3))), (q2, .inl (k 0, 3, .inl (fl_i f2 0 3))), (q3, .inl (k 0, 3, .inl (fl_i f3 0 3))), (q4, .inl (k 0, 3, .inl (fl_i f4 (-1) 3))), (q5, .inl (k 0, 3, .inl (fl_i f5 (-1) 3))), (q6, .inl (k 0, 3, .inl (fl_i f6 (-1) 3)))] H := hP
  have hD : va_D A [(h, .inr (2, [.ref q0, .ref q1, .ref q2, .ref q3, .ref q4, .ref q5, .ref q6, .int wg, .int dy, .int sd])), (q0, .inl (k 0, 3, .inl (fl_i f0 0 3))), (q1, .inl (k 0, 3, .inl (fl_i f1 0 3))), (q2, .inl (k 0, 3, .inl (fl_i f2 0 3))), (q3, .inl (k 0, 3, .inl (fl_i f3 0 3))), (q4, .inl (k 0, 3, .inl (fl_i f4 (-1) 3))), (q5, .inl (k 0, 3, .inl (fl_i f5 (-1) 3))), (q6, .inl (k 0, 3, .inl (fl_i f6 (-1) 3)))] := hD
  refine lv_aload_n hx hb dX2_startAgain_44 rfl (lv_at hl 0 rfl) ?_
  refine lv_iconst (v := 0) hx hb dX2_startAgain_45 (by decide) ?_
  refine va_put (D := D) (ci := 2) (v := .int 0) (ty := .int) (C := RX2) (T := TX2) (N := 10) hx hb hts hi2 tyX2 tyX2_ok nmX2 hown hG.1 hP hD hS 0 rfl rfl 7 (by decide) (hts (.fieldLink RX2 33 "SleptMatters$Course" "wages" "I") (List.mem_cons_of_mem _ (List.mem_append_left _ (List.mem_of_getElem? (i := 5) rfl)))) (fun _ h9 => h9) rfl (by decide +kernel) rfl rfl (Nat.le_of_ble_eq_true rfl) dX2_startAgain_46 (fun H locs hP hD hS => ?_)
  have hP : va_P D vwCl [(h, .inr (2, [.ref q0, .ref q1, .ref q2, .ref q3, .ref q4, .ref q5, .ref q6, .int 0, .int dy, .int sd])), (q0, .inl (k 0, 3, .inl (fl_i f0 0 3))), (q1, .inl (k 0, 3, .inl (fl_i f1 0 3))), (q2, .inl (k 0, 3, .inl (fl_i f2 0 3))), (q3, .inl (k 0, 3, .inl (fl_i f3 0 3))), (q4, .inl (k 0, 3, .inl (fl_i f4 (-1) 3))), (q5, .inl (k 0, 3, .inl (fl_i f5 (-1) 3))), (q6, .inl (k 0, 3, .inl (fl_i f6 (-1) 3)))] H := hP
  have hD : va_D A [(h, .inr (2, [.ref q0, .ref q1, .ref q2, .ref q3, .ref q4, .ref q5, .ref q6, .int 0, .int dy, .int sd])), (q0, .inl (k 0, 3, .inl (fl_i f0 0 3))), (q1, .inl (k 0, 3, .inl (fl_i f1 0 3))), (q2, .inl (k 0, 3, .inl (fl_i f2 0 3))), (q3, .inl (k 0, 3, .inl (fl_i f3 0 3))), (q4, .inl (k 0, 3, .inl (fl_i f4 (-1) 3))), (q5, .inl (k 0, 3, .inl (fl_i f5 (-1) 3))), (q6, .inl (k 0, 3, .inl (fl_i f6 (-1) 3)))] := hD
  refine lv_aload_n hx hb dX2_startAgain_49 rfl (lv_at hl 0 rfl) ?_
  refine lv_iconst (v := 0) hx hb dX2_startAgain_50 (by decide) ?_
  refine va_put (D := D) (ci := 2) (v := .int 0) (ty := .int) (C := RX2) (T := TX2) (N := 10) hx hb hts hi2 tyX2 tyX2_ok nmX2 hown hG.1 hP hD hS 0 rfl rfl 8 (by decide) (hts (.fieldLink RX2 37 "SleptMatters$Course" "day" "I") (List.mem_cons_of_mem _ (List.mem_append_left _ (List.mem_of_getElem? (i := 6) rfl)))) (fun _ h9 => h9) rfl (by decide +kernel) rfl rfl (Nat.le_of_ble_eq_true rfl) dX2_startAgain_51 (fun H locs hP hD hS => ?_)
  have hP : va_P D vwCl [(h, .inr (2, [.ref q0, .ref q1, .ref q2, .ref q3, .ref q4, .ref q5, .ref q6, .int 0, .int 0, .int sd])), (q0, .inl (k 0, 3, .inl (fl_i f0 0 3))), (q1, .inl (k 0, 3, .inl (fl_i f1 0 3))), (q2, .inl (k 0, 3, .inl (fl_i f2 0 3))), (q3, .inl (k 0, 3, .inl (fl_i f3 0 3))), (q4, .inl (k 0, 3, .inl (fl_i f4 (-1) 3))), (q5, .inl (k 0, 3, .inl (fl_i f5 (-1) 3))), (q6, .inl (k 0, 3, .inl (fl_i f6 (-1) 3)))] H := hP
  have hD : va_D A [(h, .inr (2, [.ref q0, .ref q1, .ref q2, .ref q3, .ref q4, .ref q5, .ref q6, .int 0, .int 0, .int sd])), (q0, .inl (k 0, 3, .inl (fl_i f0 0 3))), (q1, .inl (k 0, 3, .inl (fl_i f1 0 3))), (q2, .inl (k 0, 3, .inl (fl_i f2 0 3))), (q3, .inl (k 0, 3, .inl (fl_i f3 0 3))), (q4, .inl (k 0, 3, .inl (fl_i f4 (-1) 3))), (q5, .inl (k 0, 3, .inl (fl_i f5 (-1) 3))), (q6, .inl (k 0, 3, .inl (fl_i f6 (-1) 3)))] := hD
  have hP9 := hP.sub (ws' := [(h, .inr (2, [.ref q0, .ref q1, .ref q2, .ref q3, .ref q4, .ref q5, .ref q6, .int 0, .int 0, .int sd])), (q0, .inl (k 0, 3, .inl (fl_i f0 0 3))), (q1, .inl (k 0, 3, .inl (fl_i f1 0 3))), (q2, .inl (k 0, 3, .inl (fl_i f2 0 3))), (q3, .inl (k 0, 3, .inl (fl_i f3 0 3))), (q4, .inl (k 0, 3, .inl (fl_i f4 (-1) 3))), (q5, .inl (k 0, 3, .inl (fl_i f5 (-1) 3))), (q6, .inl (k 0, 3, .inl (fl_i f6 (-1) 3)))]) [0, 1, 2, 3, 4, 5, 6, 7] rfl
  have hD9 := hD.sub (ws' := [(h, .inr (2, [.ref q0, .ref q1, .ref q2, .ref q3, .ref q4, .ref q5, .ref q6, .int 0, .int 0, .int sd])), (q0, .inl (k 0, 3, .inl (fl_i f0 0 3))), (q1, .inl (k 0, 3, .inl (fl_i f1 0 3))), (q2, .inl (k 0, 3, .inl (fl_i f2 0 3))), (q3, .inl (k 0, 3, .inl (fl_i f3 0 3))), (q4, .inl (k 0, 3, .inl (fl_i f4 (-1) 3))), (q5, .inl (k 0, 3, .inl (fl_i f5 (-1) 3))), (q6, .inl (k 0, 3, .inl (fl_i f6 (-1) 3)))]) [0, 1, 2, 3, 4, 5, 6, 7] (by decide +kernel) rfl
  exact W.vret hx hb hr (fun t9 ht _ => ⟨⟨(), rfl, trivial, by rw [ht]; exact hP9, hD9⟩, hS.F ht⟩) hS.2.2 dX2_startAgain_54

abbrev c_X2_init (k : Nat → ClassId) (h : Nat) : va_W := [(h, .inr (2, [.null, .null, .null, .null, .null, .null, .null, .int 0, .int 0, .int 0]))]
abbrev r_X2_init : Room := { frames := 3, cells := 7, slots := 21, locals := 63 }
def w_X2_init (k : Nat → ClassId) (h : Nat) : Nat × Nat × Nat × Nat × Nat × Nat × Nat → va_W := fun u => match u with | (q0, q1, q2, q3, q4, q5, q6) => [(h, .inr (2, [.ref q0, .ref q1, .ref q2, .ref q3, .ref q4, .ref q5, .ref q6, .int 0, .int 0, .int 0])), (q0, .inl (k 0, 3, .inl (fl_i (fun _ => 0) 0 3))), (q1, .inl (k 0, 3, .inl (fl_i (fun _ => 0) 0 3))), (q2, .inl (k 0, 3, .inl (fl_i (fun _ => 0) 0 3))), (q3, .inl (k 0, 3, .inl (fl_i (fun _ => 0) 0 3))), (q4, .inl (k 0, 3, .inl (fl_i (fun _ => 0) (-1) 3))), (q5, .inl (k 0, 3, .inl (fl_i (fun _ => 0) (-1) 3))), (q6, .inl (k 0, 3, .inl (fl_i (fun _ => 0) (-1) 3)))]
def p_X2_init (k : Nat → ClassId) (h : Nat) : Nat × Nat × Nat × Nat × Nat × Nat × Nat → Prop := fun (u : Nat × Nat × Nat × Nat × Nat × Nat × Nat) => match u with | (q0, q1, q2, q3, q4, q5, q6) => True
abbrev q_X2_init (D : va_G) (k : Nat → ClassId) (h : Nat) (A : Nat → Prop) : Array Value → State → Outcome → State → Prop := va_Qv (p_X2_init k h) (fun u9 t9 => BO D (w_X2_init k h u9) A t9) A
set_option maxHeartbeats 2000000 in
set_option maxRecDepth 100000 in
theorem X2_init (l : Launch) (D : va_G) (k : Nat → ClassId) (sz : Nat) (h : Nat)  : Met l yX2_init wsX2_init r_X2_init (va_Pc [.ref h] (PR D k (c_X2_init k h) sz)) (q_X2_init D k h (va_A (c_X2_init k h) sz)) 7 21 (va_A (c_X2_init k h) sz) := by
  refine Met.ofW (cc := cX2_init) (maxL := 1) (ret := none) (by decide) rfl ?_
  intro p e s m args below meth c s₁ B hml hv
  obtain ⟨rfl, hsz, hP, hG, hD0⟩ := hv
  have hx := B.exec
  have hb := B.bytes
  have hr := B.returns
  have hts := atoms_spec (ws := wsX2_init) B.pre
  have hown : s.vm.findClass RX2 = some m.cls := findClass_of_methodNamed B.named
  have hlocks := B.notSynchronized
  have hin : meth.name = "<init>" := (name_of_methodNamed B.named B.method).1
  have hi2 : ∀ w ∈ wsX20, w ∈ wsX2_init := fun _ h => List.mem_cons_of_mem _ (List.mem_append_right _ h)
  subst hsz
  have hD := hD0.self (sz := s.heap.size)
  generalize hAe : va_A (c_X2_init k h) s.heap.size = A at hD ⊢
  have hA : ∀ q : Nat, s.heap.size ≤ q → A q := fun q h => by rw [← hAe]; exact Or.inr h
  have hS : va_S A s.heap s.heap [] := va_S.rf
  have hP : va_P D vwCl [(h, .inr (2, [.null, .null, .null, .null, .null, .null, .null, .int 0, .int 0, .int 0]))] s.heap := hP
  have hD : va_D A [(h, .inr (2, [.null, .null, .null, .null, .null, .null, .null, .int 0, .int 0, .int 0]))] := hD
  have hl := lv_entry ([.ref h]) (n := 1) (Nat.le_of_ble_eq_true rfl)
  rw [lg_entry_eq]
  generalize (lg_sl ([.ref h]) ++ List.replicate (1 - (lg_sl ([.ref h])).length) Slot.unset).toArray = ls at hl ⊢
  have hl : lv_has ls 1 [(0, .ref h)] := hl
  refine lv_aload_n hx hb dX2_init_0 rfl (lv_at hl 0 rfl) ?_
  refine W.objInit hx hb hown (hts (.methodLink RX2 3 objectInit) (List.mem_cons_of_mem _ (List.mem_append_left _ (List.mem_append_left _ (List.mem_of_getElem? (i := 0) rfl))))) (hts (.instanceMethod objectInit) (List.mem_cons_of_mem _ (List.mem_append_left _ (List.mem_append_left _ (List.mem_of_getElem? (i := 1) rfl))))) (hts (.code objectInit ⟨#[0xb1]⟩ 1 none) (List.mem_cons_of_mem _ (List.mem_append_left _ (List.mem_append_left _ (List.mem_of_getElem? (i := 2) rfl))))) rfl (by rw [hml]; exact hl.1) rfl dX2_init_1 (Nat.le_of_ble_eq_true rfl) (Nat.le_of_ble_eq_true rfl) ?_
  refine W.eq (g2 := F0 m 4 ls []) rfl ?_
  refine lv_aload_n hx hb dX2_init_4 rfl (lv_at hl 0 rfl) ?_
  refine lv_iconst (v := 3) hx hb dX2_init_5 (by decide) ?_
  refine va_newa (atype := .int) (ty := .int) (a0 := (3, .inl (fun _ => 0))) hx hb (hts (.arrayClass .int) (List.mem_cons_of_mem _ (List.mem_append_left _ (List.mem_append_left _ (List.mem_of_getElem? (i := 3) rfl))))) rfl hG.1 hP hD hS hA (fun _ => rfl) (by decide) (by decide) (show 3 * 4 ≤ 536870912 by omega) (Nat.le_of_ble_eq_true rfl) (Nat.le_of_ble_eq_true rfl) dX2_init_6 (fun q0 cN H hK9 hP hD hS => ?_)
  obtain rfl := cA_eq hK9 (i := 0) (j := 4) rfl rfl
  have hP : va_P D vwCl [(h, .inr (2, [.null, .null, .null, .null, .null, .null, .null, .int 0, .int 0, .int 0])), (q0, .inl (k 0, 3, .inl (fun _ => 0)))] H := hP
  have hD : va_D A [(h, .inr (2, [.null, .null, .null, .null, .null, .null, .null, .int 0, .int 0, .int 0])), (q0, .inl (k 0, 3, .inl (fun _ => 0)))] := hD
  refine W.widen (k := 1) (n := 3) (Nat.le_of_ble_eq_true rfl) (Nat.le_of_ble_eq_true rfl) ?_
  refine va_putF (D := D) (ci := 2) (v := .ref q0) (ty := (tyX2 0)) (C := RX2) (T := TX2) (N := 10) hx hb hts hi2 tyX2 tyX2_ok nmX2 hown hG.1 hP hD hS 0 rfl rfl 0 (by decide) (hts (.fieldLink RX2 9 "SleptMatters$Course" "sleepers" "[I") (List.mem_cons_of_mem _ (List.mem_append_left _ (List.mem_append_left _ (List.mem_of_getElem? (i := 4) rfl))))) (fun _ h9 => h9) rfl hin rfl (by decide +kernel) rfl rfl (Nat.le_of_ble_eq_true rfl) dX2_init_8 (fun H locs hP hD hS => ?_)
  have hP : va_P D vwCl [(h, .inr (2, [.ref q0, .null, .null, .null, .null, .null, .null, .int 0, .int 0, .int 0])), (q0, .inl (k 0, 3, .inl (fun _ => 0)))] H := hP
  have hD : va_D A [(h, .inr (2, [.ref q0, .null, .null, .null, .null, .null, .null, .int 0, .int 0, .int 0])), (q0, .inl (k 0, 3, .inl (fun _ => 0)))] := hD
  refine lv_aload_n hx hb dX2_init_11 rfl (lv_at hl 0 rfl) ?_
  refine lv_iconst (v := 3) hx hb dX2_init_12 (by decide) ?_
  refine va_newa (atype := .int) (ty := .int) (a0 := (3, .inl (fun _ => 0))) hx hb (hts (.arrayClass .int) (List.mem_cons_of_mem _ (List.mem_append_left _ (List.mem_append_left _ (List.mem_of_getElem? (i := 3) rfl))))) rfl hG.1 hP hD hS hA (fun _ => rfl) (by decide) (by decide) (show 3 * 4 ≤ 536870912 by omega) (Nat.le_of_ble_eq_true rfl) (Nat.le_of_ble_eq_true rfl) dX2_init_13 (fun q1 cN H hK9 hP hD hS => ?_)
  obtain rfl := cA_eq hK9 (i := 0) (j := 4) rfl rfl
  have hP : va_P D vwCl [(h, .inr (2, [.ref q0, .null, .null, .null, .null, .null, .null, .int 0, .int 0, .int 0])), (q0, .inl (k 0, 3, .inl (fun _ => 0))), (q1, .inl (k 0, 3, .inl (fun _ => 0)))] H := hP
  have hD : va_D A [(h, .inr (2, [.ref q0, .null, .null, .null, .null, .null, .null, .int 0, .int 0, .int 0])), (q0, .inl (k 0, 3, .inl (fun _ => 0))), (q1, .inl (k 0, 3, .inl (fun _ => 0)))] := hD
  refine W.widen (k := 2) (n := 6) (Nat.le_of_ble_eq_true rfl) (Nat.le_of_ble_eq_true rfl) ?_
  refine va_putF (D := D) (ci := 2) (v := .ref q1) (ty := (tyX2 1)) (C := RX2) (T := TX2) (N := 10) hx hb hts hi2 tyX2 tyX2_ok nmX2 hown hG.1 hP hD hS 0 rfl rfl 1 (by decide) (hts (.fieldLink RX2 15 "SleptMatters$Course" "houses" "[I") (List.mem_cons_of_mem _ (List.mem_append_left _ (List.mem_append_left _ (List.mem_of_getElem? (i := 5) rfl))))) (fun _ h9 => h9) rfl hin rfl (by decide +kernel) rfl rfl (Nat.le_of_ble_eq_true rfl) dX2_init_15 (fun H locs hP hD hS => ?_)
  have hP : va_P D vwCl [(h, .inr (2, [.ref q0, .ref q1, .null, .null, .null, .null, .null, .int 0, .int 0, .int 0])), (q0, .inl (k 0, 3, .inl (fun _ => 0))), (q1, .inl (k 0, 3, .inl (fun _ => 0)))] H := hP
  have hD : va_D A [(h, .inr (2, [.ref q0, .ref q1, .null, .null, .null, .null, .null, .int 0, .int 0, .int 0])), (q0, .inl (k 0, 3, .inl (fun _ => 0))), (q1, .inl (k 0, 3, .inl (fun _ => 0)))] := hD
  refine lv_aload_n hx hb dX2_init_18 rfl (lv_at hl 0 rfl) ?_
  refine lv_iconst (v := 3) hx hb dX2_init_19 (by decide) ?_
  refine va_newa (atype := .int) (ty := .int) (a0 := (3, .inl (fun _ => 0))) hx hb (hts (.arrayClass .int) (List.mem_cons_of_mem _ (List.mem_append_left _ (List.mem_append_left _ (List.mem_of_getElem? (i := 3) rfl))))) rfl hG.1 hP hD hS hA (fun _ => rfl) (by decide) (by decide) (show 3 * 4 ≤ 536870912 by omega) (Nat.le_of_ble_eq_true rfl) (Nat.le_of_ble_eq_true rfl) dX2_init_20 (fun q2 cN H hK9 hP hD hS => ?_)
  obtain rfl := cA_eq hK9 (i := 0) (j := 4) rfl rfl
  have hP : va_P D vwCl [(h, .inr (2, [.ref q0, .ref q1, .null, .null, .null, .null, .null, .int 0, .int 0, .int 0])), (q0, .inl (k 0, 3, .inl (fun _ => 0))), (q1, .inl (k 0, 3, .inl (fun _ => 0))), (q2, .inl (k 0, 3, .inl (fun _ => 0)))] H := hP
  have hD : va_D A [(h, .inr (2, [.ref q0, .ref q1, .null, .null, .null, .null, .null, .int 0, .int 0, .int 0])), (q0, .inl (k 0, 3, .inl (fun _ => 0))), (q1, .inl (k 0, 3, .inl (fun _ => 0))), (q2, .inl (k 0, 3, .inl (fun _ => 0)))] := hD
  refine W.widen (k := 3) (n := 9) (Nat.le_of_ble_eq_true rfl) (Nat.le_of_ble_eq_true rfl) ?_
  refine va_putF (D := D) (ci := 2) (v := .ref q2) (ty := (tyX2 2)) (C := RX2) (T := TX2) (N := 10) hx hb hts hi2 tyX2 tyX2_ok nmX2 hown hG.1 hP hD hS 0 rfl rfl 2 (by decide) (hts (.fieldLink RX2 18 "SleptMatters$Course" "yes" "[I") (List.mem_cons_of_mem _ (List.mem_append_left _ (List.mem_append_left _ (List.mem_of_getElem? (i := 6) rfl))))) (fun _ h9 => h9) rfl hin rfl (by decide +kernel) rfl rfl (Nat.le_of_ble_eq_true rfl) dX2_init_22 (fun H locs hP hD hS => ?_)
  have hP : va_P D vwCl [(h, .inr (2, [.ref q0, .ref q1, .ref q2, .null, .null, .null, .null, .int 0, .int 0, .int 0])), (q0, .inl (k 0, 3, .inl (fun _ => 0))), (q1, .inl (k 0, 3, .inl (fun _ => 0))), (q2, .inl (k 0, 3, .inl (fun _ => 0)))] H := hP
  have hD : va_D A [(h, .inr (2, [.ref q0, .ref q1, .ref q2, .null, .null, .null, .null, .int 0, .int 0, .int 0])), (q0, .inl (k 0, 3, .inl (fun _ => 0))), (q1, .inl (k 0, 3, .inl (fun _ => 0))), (q2, .inl (k 0, 3, .inl (fun _ => 0)))] := hD
  refine lv_aload_n hx hb dX2_init_25 rfl (lv_at hl 0 rfl) ?_
  refine lv_iconst (v := 3) hx hb dX2_init_26 (by decide) ?_
  refine va_newa (atype := .int) (ty := .int) (a0 := (3, .inl (fun _ => 0))) hx hb (hts (.arrayClass .int) (List.mem_cons_of_mem _ (List.mem_append_left _ (List.mem_append_left _ (List.mem_of_getElem? (i := 3) rfl))))) rfl hG.1 hP hD hS hA (fun _ => rfl) (by decide) (by decide) (show 3 * 4 ≤ 536870912 by omega) (Nat.le_of_ble_eq_true rfl) (Nat.le_of_ble_eq_true rfl) dX2_init_27 (fun q3 cN H hK9 hP hD hS => ?_)
  obtain rfl := cA_eq hK9 (i := 0) (j := 4) rfl rfl
  have hP : va_P D vwCl [(h, .inr (2, [.ref q0, .ref q1, .ref q2, .null, .null, .null, .null, .int 0, .int 0, .int 0])), (q0, .inl (k 0, 3, .inl (fun _ => 0))), (q1, .inl (k 0, 3, .inl (fun _ => 0))), (q2, .inl (k 0, 3, .inl (fun _ => 0))), (q3, .inl (k 0, 3, .inl (fun _ => 0)))] H := hP
  have hD : va_D A [(h, .inr (2, [.ref q0, .ref q1, .ref q2, .null, .null, .null, .null, .int 0, .int 0, .int 0])), (q0, .inl (k 0, 3, .inl (fun _ => 0))), (q1, .inl (k 0, 3, .inl (fun _ => 0))), (q2, .inl (k 0, 3, .inl (fun _ => 0))), (q3, .inl (k 0, 3, .inl (fun _ => 0)))] := hD
  refine W.widen (k := 4) (n := 12) (Nat.le_of_ble_eq_true rfl) (Nat.le_of_ble_eq_true rfl) ?_
  refine va_putF (D := D) (ci := 2) (v := .ref q3) (ty := (tyX2 3)) (C := RX2) (T := TX2) (N := 10) hx hb hts hi2 tyX2 tyX2_ok nmX2 hown hG.1 hP hD hS 0 rfl rfl 3 (by decide) (hts (.fieldLink RX2 21 "SleptMatters$Course" "outcome" "[I") (List.mem_cons_of_mem _ (List.mem_append_left _ (List.mem_append_left _ (List.mem_of_getElem? (i := 7) rfl))))) (fun _ h9 => h9) rfl hin rfl (by decide +kernel) rfl rfl (Nat.le_of_ble_eq_true rfl) dX2_init_29 (fun H locs hP hD hS => ?_)
  have hP : va_P D vwCl [(h, .inr (2, [.ref q0, .ref q1, .ref q2, .ref q3, .null, .null, .null, .int 0, .int 0, .int 0])), (q0, .inl (k 0, 3, .inl (fun _ => 0))), (q1, .inl (k 0, 3, .inl (fun _ => 0))), (q2, .inl (k 0, 3, .inl (fun _ => 0))), (q3, .inl (k 0, 3, .inl (fun _ => 0)))] H := hP
  have hD : va_D A [(h, .inr (2, [.ref q0, .ref q1, .ref q2, .ref q3, .null, .null, .null, .int 0, .int 0, .int 0])), (q0, .inl (k 0, 3, .inl (fun _ => 0))), (q1, .inl (k 0, 3, .inl (fun _ => 0))), (q2, .inl (k 0, 3, .inl (fun _ => 0))), (q3, .inl (k 0, 3, .inl (fun _ => 0)))] := hD
  refine lv_aload_n hx hb dX2_init_32 rfl (lv_at hl 0 rfl) ?_
  refine lv_iconst (v := 3) hx hb dX2_init_33 (by decide) ?_
  refine va_newa (atype := .int) (ty := .int) (a0 := (3, .inl (fun _ => 0))) hx hb (hts (.arrayClass .int) (List.mem_cons_of_mem _ (List.mem_append_left _ (List.mem_append_left _ (List.mem_of_getElem? (i := 3) rfl))))) rfl hG.1 hP hD hS hA (fun _ => rfl) (by decide) (by decide) (show 3 * 4 ≤ 536870912 by omega) (Nat.le_of_ble_eq_true rfl) (Nat.le_of_ble_eq_true rfl) dX2_init_34 (fun q4 cN H hK9 hP hD hS => ?_)
  obtain rfl := cA_eq hK9 (i := 0) (j := 4) rfl rfl
  have hP : va_P D vwCl [(h, .inr (2, [.ref q0, .ref q1, .ref q2, .ref q3, .null, .null, .null, .int 0, .int 0, .int 0])), (q0, .inl (k 0, 3, .inl (fun _ => 0))), (q1, .inl (k 0, 3, .inl (fun _ => 0))), (q2, .inl (k 0, 3, .inl (fun _ => 0))), (q3, .inl (k 0, 3, .inl (fun _ => 0))), (q4, .inl (k 0, 3, .inl (fun _ => 0)))] H := hP
  have hD : va_D A [(h, .inr (2, [.ref q0, .ref q1, .ref q2, .ref q3, .null, .null, .null, .int 0, .int 0, .int 0])), (q0, .inl (k 0, 3, .inl (fun _ => 0))), (q1, .inl (k 0, 3, .inl (fun _ => 0))), (q2, .inl (k 0, 3, .inl (fun _ => 0))), (q3, .inl (k 0, 3, .inl (fun _ => 0))), (q4, .inl (k 0, 3, .inl (fun _ => 0)))] := hD
  refine W.widen (k := 5) (n := 15) (Nat.le_of_ble_eq_true rfl) (Nat.le_of_ble_eq_true rfl) ?_
  refine va_putF (D := D) (ci := 2) (v := .ref q4) (ty := (tyX2 4)) (C := RX2) (T := TX2) (N := 10) hx hb hts hi2 tyX2 tyX2_ok nmX2 hown hG.1 hP hD hS 0 rfl rfl 4 (by decide) (hts (.fieldLink RX2 24 "SleptMatters$Course" "decidedOn" "[I") (List.mem_cons_of_mem _ (List.mem_append_left _ (List.mem_append_left _ (List.mem_of_getElem? (i := 8) rfl))))) (fun _ h9 => h9) rfl hin rfl (by decide +kernel) rfl rfl (Nat.le_of_ble_eq_true rfl) dX2_init_36 (fun H locs hP hD hS => ?_)
  have hP : va_P D vwCl [(h, .inr (2, [.ref q0, .ref q1, .ref q2, .ref q3, .ref q4, .null, .null, .int 0, .int 0, .int 0])), (q0, .inl (k 0, 3, .inl (fun _ => 0))), (q1, .inl (k 0, 3, .inl (fun _ => 0))), (q2, .inl (k 0, 3, .inl (fun _ => 0))), (q3, .inl (k 0, 3, .inl (fun _ => 0))), (q4, .inl (k 0, 3, .inl (fun _ => 0)))] H := hP
  have hD : va_D A [(h, .inr (2, [.ref q0, .ref q1, .ref q2, .ref q3, .ref q4, .null, .null, .int 0, .int 0, .int 0])), (q0, .inl (k 0, 3, .inl (fun _ => 0))), (q1, .inl (k 0, 3, .inl (fun _ => 0))), (q2, .inl (k 0, 3, .inl (fun _ => 0))), (q3, .inl (k 0, 3, .inl (fun _ => 0))), (q4, .inl (k 0, 3, .inl (fun _ => 0)))] := hD
  refine lv_aload_n hx hb dX2_init_39 rfl (lv_at hl 0 rfl) ?_
  refine lv_iconst (v := 3) hx hb dX2_init_40 (by decide) ?_
  refine va_newa (atype := .int) (ty := .int) (a0 := (3, .inl (fun _ => 0))) hx hb (hts (.arrayClass .int) (List.mem_cons_of_mem _ (List.mem_append_left _ (List.mem_append_left _ (List.mem_of_getElem? (i := 3) rfl))))) rfl hG.1 hP hD hS hA (fun _ => rfl) (by decide) (by decide) (show 3 * 4 ≤ 536870912 by omega) (Nat.le_of_ble_eq_true rfl) (Nat.le_of_ble_eq_true rfl) dX2_init_41 (fun q5 cN H hK9 hP hD hS => ?_)
  obtain rfl := cA_eq hK9 (i := 0) (j := 4) rfl rfl
  have hP : va_P D vwCl [(h, .inr (2, [.ref q0, .ref q1, .ref q2, .ref q3, .ref q4, .null, .null, .int 0, .int 0, .int 0])), (q0, .inl (k 0, 3, .inl (fun _ => 0))), (q1, .inl (k 0, 3, .inl (fun _ => 0))), (q2, .inl (k 0, 3, .inl (fun _ => 0))), (q3, .inl (k 0, 3, .inl (fun _ => 0))), (q4, .inl (k 0, 3, .inl (fun _ => 0))), (q5, .inl (k 0, 3, .inl (fun _ => 0)))] H := hP
  have hD : va_D A [(h, .inr (2, [.ref q0, .ref q1, .ref q2, .ref q3, .ref q4, .null, .null, .int 0, .int 0, .int 0])), (q0, .inl (k 0, 3, .inl (fun _ => 0))), (q1, .inl (k 0, 3, .inl (fun _ => 0))), (q2, .inl (k 0, 3, .inl (fun _ => 0))), (q3, .inl (k 0, 3, .inl (fun _ => 0))), (q4, .inl (k 0, 3, .inl (fun _ => 0))), (q5, .inl (k 0, 3, .inl (fun _ => 0)))] := hD
  refine W.widen (k := 6) (n := 18) (Nat.le_of_ble_eq_true rfl) (Nat.le_of_ble_eq_true rfl) ?_
  refine va_putF (D := D) (ci := 2) (v := .ref q5) (ty := (tyX2 5)) (C := RX2) (T := TX2) (N := 10) hx hb hts hi2 tyX2 tyX2_ok nmX2 hown hG.1 hP hD hS 0 rfl rfl 5 (by decide) (hts (.fieldLink RX2 27 "SleptMatters$Course" "laidSleeper" "[I") (List.mem_cons_of_mem _ (List.mem_append_left _ (List.mem_append_left _ (List.mem_of_getElem? (i := 9) rfl))))) (fun _ h9 => h9) rfl hin rfl (by decide +kernel) rfl rfl (Nat.le_of_ble_eq_true rfl) dX2_init_43 (fun H locs hP hD hS => ?_)
  have hP : va_P D vwCl [(h, .inr (2, [.ref q0, .ref q1, .ref q2, .ref q3, .ref q4, .ref q5, .null, .int 0, .int 0, .int 0])), (q0, .inl (k 0, 3, .inl (fun _ => 0))), (q1, .inl (k 0, 3, .inl (fun _ => 0))), (q2, .inl (k 0, 3, .inl (fun _ => 0))), (q3, .inl (k 0, 3, .inl (fun _ => 0))), (q4, .inl (k 0, 3, .inl (fun _ => 0))), (q5, .inl (k 0, 3, .inl (fun _ => 0)))] H := hP
  have hD : va_D A [(h, .inr (2, [.ref q0, .ref q1, .ref q2, .ref q3, .ref q4, .ref q5, .null, .int 0, .int 0, .int 0])), (q0, .inl (k 0, 3, .inl (fun _ => 0))), (q1, .inl (k 0, 3, .inl (fun _ => 0))), (q2, .inl (k 0, 3, .inl (fun _ => 0))), (q3, .inl (k 0, 3, .inl (fun _ => 0))), (q4, .inl (k 0, 3, .inl (fun _ => 0))), (q5, .inl (k 0, 3, .inl (fun _ => 0)))] := hD
  refine lv_aload_n hx hb dX2_init_46 rfl (lv_at hl 0 rfl) ?_
  refine lv_iconst (v := 3) hx hb dX2_init_47 (by decide) ?_
  refine va_newa (atype := .int) (ty := .int) (a0 := (3, .inl (fun _ => 0))) hx hb (hts (.arrayClass .int) (List.mem_cons_of_mem _ (List.mem_append_left _ (List.mem_append_left _ (List.mem_of_getElem? (i := 3) rfl))))) rfl hG.1 hP hD hS hA (fun _ => rfl) (by decide) (by decide) (show 3 * 4 ≤ 536870912 by omega) (Nat.le_of_ble_eq_true rfl) (Nat.le_of_ble_eq_true rfl) dX2_init_48 (fun q6 cN H hK9 hP hD hS => ?_)
  obtain rfl := cA_eq hK9 (i := 0) (j := 4) rfl rfl
  have hP : va_P D vwCl [(h, .inr (2, [.ref q0, .ref q1, .ref q2, .ref q3, .ref q4, .ref q5, .null, .int 0, .int 0, .int 0])), (q0, .inl (k 0, 3, .inl (fun _ => 0))), (q1, .inl (k 0, 3, .inl (fun _ => 0))), (q2, .inl (k 0, 3, .inl (fun _ => 0))), (q3, .inl (k 0, 3, .inl (fun _ => 0))), (q4, .inl (k 0, 3, .inl (fun _ => 0))), (q5, .inl (k 0, 3, .inl (fun _ => 0))), (q6, .inl (k 0, 3, .inl (fun _ => 0)))] H := hP
  have hD : va_D A [(h, .inr (2, [.ref q0, .ref q1, .ref q2, .ref q3, .ref q4, .ref q5, .null, .int 0, .int 0, .int 0])), (q0, .inl (k 0, 3, .inl (fun _ => 0))), (q1, .inl (k 0, 3, .inl (fun _ => 0))), (q2, .inl (k 0, 3, .inl (fun _ => 0))), (q3, .inl (k 0, 3, .inl (fun _ => 0))), (q4, .inl (k 0, 3, .inl (fun _ => 0))), (q5, .inl (k 0, 3, .inl (fun _ => 0))), (q6, .inl (k 0, 3, .inl (fun _ => 0)))] := hD
  refine W.widen (k := 7) (n := 21) (Nat.le_of_ble_eq_true rfl) (Nat.le_of_ble_eq_true rfl) ?_
  refine va_putF (D := D) (ci := 2) (v := .ref q6) (ty := (tyX2 6)) (C := RX2) (T := TX2) (N := 10) hx hb hts hi2 tyX2 tyX2_ok nmX2 hown hG.1 hP hD hS 0 rfl rfl 6 (by decide) (hts (.fieldLink RX2 30 "SleptMatters$Course" "laidHouse" "[I") (List.mem_cons_of_mem _ (List.mem_append_left _ (List.mem_append_left _ (List.mem_of_getElem? (i := 10) rfl))))) (fun _ h9 => h9) rfl hin rfl (by decide +kernel) rfl rfl (Nat.le_of_ble_eq_true rfl) dX2_init_50 (fun H locs hP hD hS => ?_)
  have hP : va_P D vwCl [(h, .inr (2, [.ref q0, .ref q1, .ref q2, .ref q3, .ref q4, .ref q5, .ref q6, .int 0, .int 0, .int 0])), (q0, .inl (k 0, 3, .inl (fun _ => 0))), (q1, .inl (k 0, 3, .inl (fun _ => 0))), (q2, .inl (k 0, 3, .inl (fun _ => 0))), (q3, .inl (k 0, 3, .inl (fun _ => 0))), (q4, .inl (k 0, 3, .inl (fun _ => 0))), (q5, .inl (k 0, 3, .inl (fun _ => 0))), (q6, .inl (k 0, 3, .inl (fun _ => 0)))] H := hP
  have hD : va_D A [(h, .inr (2, [.ref q0, .ref q1, .ref q2, .ref q3, .ref q4, .ref q5, .ref q6, .int 0, .int 0, .int 0])), (q0, .inl (k 0, 3, .inl (fun _ => 0))), (q1, .inl (k 0, 3, .inl (fun _ => 0))), (q2, .inl (k 0, 3, .inl (fun _ => 0))), (q3, .inl (k 0, 3, .inl (fun _ => 0))), (q4, .inl (k 0, 3, .inl (fun _ => 0))), (q5, .inl (k 0, 3, .inl (fun _ => 0))), (q6, .inl (k 0, 3, .inl (fun _ => 0)))] := hD
  refine lv_aload_n hx hb dX2_init_53 rfl (lv_at hl 0 rfl) ?_
  refine lv_iconst (v := 0) hx hb dX2_init_54 (by decide) ?_
  refine va_put (D := D) (ci := 2) (v := .int 0) (ty := .int) (C := RX2) (T := TX2) (N := 10) hx hb hts hi2 tyX2 tyX2_ok nmX2 hown hG.1 hP hD hS 0 rfl rfl 7 (by decide) (hts (.fieldLink RX2 33 "SleptMatters$Course" "wages" "I") (List.mem_cons_of_mem _ (List.mem_append_left _ (List.mem_append_left _ (List.mem_of_getElem? (i := 11) rfl))))) (fun _ h9 => h9) rfl (by decide +kernel) rfl rfl (Nat.le_of_ble_eq_true rfl) dX2_init_55 (fun H locs hP hD hS => ?_)
  have hP : va_P D vwCl [(h, .inr (2, [.ref q0, .ref q1, .ref q2, .ref q3, .ref q4, .ref q5, .ref q6, .int 0, .int 0, .int 0])), (q0, .inl (k 0, 3, .inl (fun _ => 0))), (q1, .inl (k 0, 3, .inl (fun _ => 0))), (q2, .inl (k 0, 3, .inl (fun _ => 0))), (q3, .inl (k 0, 3, .inl (fun _ => 0))), (q4, .inl (k 0, 3, .inl (fun _ => 0))), (q5, .inl (k 0, 3, .inl (fun _ => 0))), (q6, .inl (k 0, 3, .inl (fun _ => 0)))] H := hP
  have hD : va_D A [(h, .inr (2, [.ref q0, .ref q1, .ref q2, .ref q3, .ref q4, .ref q5, .ref q6, .int 0, .int 0, .int 0])), (q0, .inl (k 0, 3, .inl (fun _ => 0))), (q1, .inl (k 0, 3, .inl (fun _ => 0))), (q2, .inl (k 0, 3, .inl (fun _ => 0))), (q3, .inl (k 0, 3, .inl (fun _ => 0))), (q4, .inl (k 0, 3, .inl (fun _ => 0))), (q5, .inl (k 0, 3, .inl (fun _ => 0))), (q6, .inl (k 0, 3, .inl (fun _ => 0)))] := hD
  refine lv_aload_n hx hb dX2_init_58 rfl (lv_at hl 0 rfl) ?_
  refine lv_iconst (v := 0) hx hb dX2_init_59 (by decide) ?_
  refine va_put (D := D) (ci := 2) (v := .int 0) (ty := .int) (C := RX2) (T := TX2) (N := 10) hx hb hts hi2 tyX2 tyX2_ok nmX2 hown hG.1 hP hD hS 0 rfl rfl 8 (by decide) (hts (.fieldLink RX2 37 "SleptMatters$Course" "day" "I") (List.mem_cons_of_mem _ (List.mem_append_left _ (List.mem_append_left _ (List.mem_of_getElem? (i := 12) rfl))))) (fun _ h9 => h9) rfl (by decide +kernel) rfl rfl (Nat.le_of_ble_eq_true rfl) dX2_init_60 (fun H locs hP hD hS => ?_)
  have hP : va_P D vwCl [(h, .inr (2, [.ref q0, .ref q1, .ref q2, .ref q3, .ref q4, .ref q5, .ref q6, .int 0, .int 0, .int 0])), (q0, .inl (k 0, 3, .inl (fun _ => 0))), (q1, .inl (k 0, 3, .inl (fun _ => 0))), (q2, .inl (k 0, 3, .inl (fun _ => 0))), (q3, .inl (k 0, 3, .inl (fun _ => 0))), (q4, .inl (k 0, 3, .inl (fun _ => 0))), (q5, .inl (k 0, 3, .inl (fun _ => 0))), (q6, .inl (k 0, 3, .inl (fun _ => 0)))] H := hP
  have hD : va_D A [(h, .inr (2, [.ref q0, .ref q1, .ref q2, .ref q3, .ref q4, .ref q5, .ref q6, .int 0, .int 0, .int 0])), (q0, .inl (k 0, 3, .inl (fun _ => 0))), (q1, .inl (k 0, 3, .inl (fun _ => 0))), (q2, .inl (k 0, 3, .inl (fun _ => 0))), (q3, .inl (k 0, 3, .inl (fun _ => 0))), (q4, .inl (k 0, 3, .inl (fun _ => 0))), (q5, .inl (k 0, 3, .inl (fun _ => 0))), (q6, .inl (k 0, 3, .inl (fun _ => 0)))] := hD
  refine lv_aload_n hx hb dX2_init_63 rfl (lv_at hl 0 rfl) ?_
  refine lv_iconst (v := 0) hx hb dX2_init_64 (by decide) ?_
  refine va_put (D := D) (ci := 2) (v := .int 0) (ty := .int) (C := RX2) (T := TX2) (N := 10) hx hb hts hi2 tyX2 tyX2_ok nmX2 hown hG.1 hP hD hS 0 rfl rfl 9 (by decide) (hts (.fieldLink RX2 40 "SleptMatters$Course" "drawSeed" "I") (List.mem_cons_of_mem _ (List.mem_append_left _ (List.mem_append_left _ (List.mem_of_getElem? (i := 13) rfl))))) (fun _ h9 => h9) rfl (by decide +kernel) rfl rfl (Nat.le_of_ble_eq_true rfl) dX2_init_65 (fun H locs hP hD hS => ?_)
  have hP : va_P D vwCl [(h, .inr (2, [.ref q0, .ref q1, .ref q2, .ref q3, .ref q4, .ref q5, .ref q6, .int 0, .int 0, .int 0])), (q0, .inl (k 0, 3, .inl (fun _ => 0))), (q1, .inl (k 0, 3, .inl (fun _ => 0))), (q2, .inl (k 0, 3, .inl (fun _ => 0))), (q3, .inl (k 0, 3, .inl (fun _ => 0))), (q4, .inl (k 0, 3, .inl (fun _ => 0))), (q5, .inl (k 0, 3, .inl (fun _ => 0))), (q6, .inl (k 0, 3, .inl (fun _ => 0)))] H := hP
  have hD : va_D A [(h, .inr (2, [.ref q0, .ref q1, .ref q2, .ref q3, .ref q4, .ref q5, .ref q6, .int 0, .int 0, .int 0])), (q0, .inl (k 0, 3, .inl (fun _ => 0))), (q1, .inl (k 0, 3, .inl (fun _ => 0))), (q2, .inl (k 0, 3, .inl (fun _ => 0))), (q3, .inl (k 0, 3, .inl (fun _ => 0))), (q4, .inl (k 0, 3, .inl (fun _ => 0))), (q5, .inl (k 0, 3, .inl (fun _ => 0))), (q6, .inl (k 0, 3, .inl (fun _ => 0)))] := hD
  refine lv_aload_n hx hb dX2_init_68 rfl (lv_at hl 0 rfl) ?_
  have hPc := hP.sub (ws' := (c_X2_startAgain k h q0 q1 q2 q3 q4 q5 q6 (fun _ => 0) (fun _ => 0) (fun _ => 0) (fun _ => 0) (fun _ => 0) (fun _ => 0) (fun _ => 0) 0 0 0)) [0, 1, 2, 3, 4, 5, 6, 7] rfl
  have hDc := hD.sub (ws' := (c_X2_startAgain k h q0 q1 q2 q3 q4 q5 q6 (fun _ => 0) (fun _ => 0) (fun _ => 0) (fun _ => 0) (fun _ => 0) (fun _ => 0) (fun _ => 0) 0 0 0)) [0, 1, 2, 3, 4, 5, 6, 7] (by decide +kernel) rfl
  refine cl_v (w1 := w_X2_startAgain k h q0 q1 q2 q3 q4 q5 q6 (fun _ => 0) (fun _ => 0) (fun _ => 0) (fun _ => 0) (fun _ => 0) (fun _ => 0) (fun _ => 0) 0 0 0) (wr := []) (va_runV (As := []) (rest := []) ⟨hx, hb, hml, hown, hts⟩ (X2_startAgain l D k H.size h q0 q1 q2 q3 q4 q5 q6 (fun _ => 0) (fun _ => 0) (fun _ => 0) (fun _ => 0) (fun _ => 0) (fun _ => 0) (fun _ => 0) 0 0 0 ) (cwV 0 hts gX2_init_X2_startAgain rfl rfl rfl (by decide +kernel) ⟨Nat.le_of_ble_eq_true rfl, Nat.le_of_ble_eq_true rfl⟩) ⟨PR.blind _ _ _ _ _, va_recv hG.1 hP (ci := 2) (q0 := 0) rfl rfl, PR.pre hPc hDc hG [.ref h]⟩ rfl rfl hl.1 rfl (lv_room (Nat.le_of_ble_eq_true rfl)) dX2_init_69 ⟨Nat.le_of_ble_eq_true rfl, Nat.le_of_ble_eq_true rfl⟩) hP hD hS hA [0, 1, 2, 3, 4, 5, 6, 7] [] rfl rfl (by decide +kernel) (by decide +kernel) (fun u H locs hq hP hD hS => ?_)
  cases u
  have hP : va_P D vwCl [(h, .inr (2, [.ref q0, .ref q1, .ref q2, .ref q3, .ref q4, .ref q5, .ref q6, .int 0, .int 0, .int 0])), (q0, .inl (k 0, 3, .inl (fl_i (fun _ => 0) 0 3))), (q1, .inl (k 0, 3, .inl (fl_i (fun _ => 0) 0 3))), (q2, .inl (k 0, 3, .inl (fl_i (fun _ => 0) 0 3))), (q3, .inl (k 0, 3, .inl (fl_i (fun _ => 0) 0 3))), (q4, .inl (k 0, 3, .inl (fl_i (fun _ => 0) (-1) 3))), (q5, .inl (k 0, 3, .inl (fl_i (fun _ => 0) (-1) 3))), (q6, .inl (k 0, 3, .inl (fl_i (fun _ => 0) (-1) 3)))] H := hP
  have hD : va_D A [(h, .inr (2, [.ref q0, .ref q1, .ref q2, .ref q3, .ref q4, .ref q5, .ref q6, .int 0, .int 0, .int 0])), (q0, .inl (k 0, 3, .inl (fl_i (fun _ => 0) 0 3))), (q1, .inl (k 0, 3, .inl (fl_i (fun _ => 0) 0 3))), (q2, .inl (k 0, 3, .inl (fl_i (fun _ => 0) 0 3))), (q3, .inl (k 0, 3, .inl (fl_i (fun _ => 0) 0 3))), (q4, .inl (k 0, 3, .inl (fl_i (fun _ => 0) (-1) 3))), (q5, .inl (k 0, 3, .inl (fl_i (fun _ => 0) (-1) 3))), (q6, .inl (k 0, 3, .inl (fl_i (fun _ => 0) (-1) 3)))] := hD
  have hP9 := hP.sub (ws' := [(h, .inr (2, [.ref q0, .ref q1, .ref q2, .ref q3, .ref q4, .ref q5, .ref q6, .int 0, .int 0, .int 0])), (q0, .inl (k 0, 3, .inl (fl_i (fun _ => 0) 0 3))), (q1, .inl (k 0, 3, .inl (fl_i (fun _ => 0) 0 3))), (q2, .inl (k 0, 3, .inl (fl_i (fun _ => 0) 0 3))), (q3, .inl (k 0, 3, .inl (fl_i (fun _ => 0) 0 3))), (q4, .inl (k 0, 3, .inl (fl_i (fun _ => 0) (-1) 3))), (q5, .inl (k 0, 3, .inl (fl_i (fun _ => 0) (-1) 3))), (q6, .inl (k 0, 3, .inl (fl_i (fun _ => 0) (-1) 3)))]) [0, 1, 2, 3, 4, 5, 6, 7] rfl
  have hD9 := hD.sub (ws' := [(h, .inr (2, [.ref q0, .ref q1, .ref q2, .ref q3, .ref q4, .ref q5, .ref q6, .int 0, .int 0, .int 0])), (q0, .inl (k 0, 3, .inl (fl_i (fun _ => 0) 0 3))), (q1, .inl (k 0, 3, .inl (fl_i (fun _ => 0) 0 3))), (q2, .inl (k 0, 3, .inl (fl_i (fun _ => 0) 0 3))), (q3, .inl (k 0, 3, .inl (fl_i (fun _ => 0) 0 3))), (q4, .inl (k 0, 3, .inl (fl_i (fun _ => 0) (-1) 3))), (q5, .inl (k 0, 3, .inl (fl_i (fun _ => 0) (-1) 3))), (q6, .inl (k 0, 3, .inl (fl_i (fun _ => 0) (-1) 3)))]) [0, 1, 2, 3, 4, 5, 6, 7] (by decide +kernel) rfl
  exact W.vret hx hb hr (fun t9 ht _ => ⟨⟨(q0, q1, q2, q3, q4, q5, q6), rfl, trivial, by rw [ht]; exact hP9, hD9⟩, hS.F ht⟩) hS.2.2 dX2_init_72
