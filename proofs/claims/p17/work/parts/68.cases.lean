
def R_law : String := "SleptMattersLaw"
def lw_P (b : Addr) (xs : List Int32) (args : Array Value) (s : State) : Prop := args = #[.ref b] ∧ s.IntsAt b xs ∧ xs.length ≤ 256 ∧ (Jvm.Cond.and given_1 narrow_1).before args s = true
def lw_Q (_ : Array Value) (s : State) (o : Outcome) (t : State) : Prop := o = .returned (some (.int 1)) ∧ Framed s o t [] 600000 7302250
def lw_Z (below : List Frame) (a : Array Value) (s : State) : State → Prop := fun t => ∃ o, t.status = .running ∧ Ended t below o ∧ lw_Q a s o t
/-- the law's own end, with 1 on the stack, nothing written that was there before, its room as the claim has it -/
theorem lw_ret {p : Program} {l : Launch} {e : Env} {s : State} {m : MethodId} {below : List Frame} {meth : Method} {c : Code} {b : Nat} (hx : p.tables.exec = Jvm.exec) (hb : c.code = code) (hr : meth.sig.returnType = ret) (hlocks : meth.locks = false) {pc : Nat} {H : Heap} {ls : Array Slot} (hdg : decode code pc = .ok (.ireturn, 1)) : W p l e room_1 s m #[Value.ref b] below meth c H [] 600000 7302250 (lw_Z below #[Value.ref b] s) (F0 m pc ls [.int 1]) := by
  intro T hT X
  obtain ⟨fs, hret, hrun, hended, hW, hframe⟩ := X.leave (v := some (.int 1)) (hlocks := hlocks) (fun h => by rw [hr] at h; cases h)
  have hmeth' : T.vm.method? m = some meth := X.method'
  refine ⟨T.setFrames fs, ?_, .returned (some (.int 1)), hrun, hended, rfl, ⟨_, rfl⟩, hW, hframe⟩
  jvm_step X.here [X.here.top, hx, hb, hdg, hmeth', hr, ret, narrow_b1]
  (try refine ⟨rfl, ?_⟩); (try refine ⟨rfl, ?_⟩)
  first | (intro acts; rw [hret _ acts rfl rfl rfl]) | rw [hret _ _ rfl rfl rfl]
  exact Steps.refl _
/-- what holds at the law's entry: the machine, the code, the tables' words (any of lw_tbl by 'hts w (by decide +kernel)'), the script of L ints xs at the cell b, what the Statement gives of the start (any of its parts by flat_of_before) -/
def lw_At (p : Program) (s : State) (m : MethodId) (meth : Method) (c : Code) (b L : Nat) (xs : Nat → Int32) : Prop :=
  p.tables.exec = Jvm.exec ∧ c.code = code ∧ meth.sig.returnType = ret ∧ c.maxLocals = 4 ∧ s.vm.findClass R_law = some m.cls ∧ (∀ w ∈ lw_tbl, w.before #[Value.ref b] s = true) ∧ va_X b L xs s s.heap ∧ b < s.heap.size ∧ meth.locks = false ∧ (Jvm.Cond.and given_1 narrow_1).before #[Value.ref b] s = true
set_option maxHeartbeats 20000000 in
set_option maxRecDepth 100000 in
theorem cs_feed {p : Program} {l : Launch} {e : Env} {s : State} {m : MethodId} {below : List Frame} {meth : Method} {c : Code} {b L : Nat} {xs : Nat → Int32} {D : va_G} {k : Nat → ClassId} {z : Nat → Nat} {A : Nat → Prop} {x y i : Nat} {wx wm : va_W} {H : Heap} {locs : List Loc} {ls : Array Slot} (C : lC p s m meth c b L xs D k z A) (hil : i + 4 ≤ L) (hJ : JN k x y i wx wm) (hP : va_P D vwCl (wx ++ wm) H) (hD : va_D A (wx ++ wm)) (hS : va_S A s.heap H locs) (hl : lv_has ls 4 [(3, .int (nI i)), (2, .ref y), (1, .ref x), (0, .ref b)]) (kk : ∀ (H : Heap) (locs : List Loc) (wx wm : va_W), JN k x y (i + 4) wx wm → va_P D vwCl (wx ++ wm) H → va_D A (wx ++ wm) → va_S A s.heap H locs → W p l e room_1 s m #[Value.ref b] below meth c H locs 123 7201 (lw_Z below #[Value.ref b] s) (F0 m 907 ls [])) : W p l e room_1 s m #[Value.ref b] below meth c H locs 123 7201 (lw_Z below #[Value.ref b] s) (F0 m 156 ls []) := by
  obtain ⟨hx, hb, hml, hown, hts, hX, hbl, hbA, hG, hZ, hA, hL⟩ := C
  obtain ⟨xpn, xpi, xpr, xpf, xpl, ypn, ypi, ypf, hXI, hMI, ⟨hn, ⟨hq0, hq1, hq2, hq3⟩, hal, hNB, hnn, hyy, hdyi, hda, hdb, hbb, hOBx, hCFx, hAKx, hMMx⟩, ⟨htx, ⟨hho, hsp, hnp, hmp⟩, hnt, hyt, hld, hmB, hddi, hbk, hRW, hIM⟩, hTX, hF, hFP, hFB, hRD, hDY, hBK, hKZ, hI0, hTN, hLF, hCF, hBD, hBW, hCR, hWG, hSD, hLW, hIA, hIB⟩ := hJ
  refine lv_aload_n hx hb dL_law_156 rfl (lv_at hl 2 rfl) ?_
  refine lv_aload_n hx hb dL_law_157 rfl (lv_at hl 3 rfl) ?_
  refine lv_iload_n hx hb dL_law_158 rfl (lv_at hl 0 rfl) ?_
  refine lv_iconst (v := 1) hx hb dL_law_159 (by decide) ?_
  refine lv_iadd hx hb dL_law_160 ?_
  refine tp_i (y := nI (i + 1)) (nI_add i 1) ?_
  refine va_sld hx hb hX hbl hbA hS (vp_in_nI (n := i + 1) (by omega) (by omega)) dL_law_161 ?_
  refine tp_i (y := xs (i + 1)) (congrArg xs (nI_clamp (n := i + 1) (by omega))) ?_
  refine lv_aload_n hx hb dL_law_162 rfl (lv_at hl 3 rfl) ?_
  refine lv_iload_n hx hb dL_law_163 rfl (lv_at hl 0 rfl) ?_
  refine lv_iconst (v := 2) hx hb dL_law_164 (by decide) ?_
  refine lv_iadd hx hb dL_law_165 ?_
  refine tp_i (y := nI (i + 2)) (nI_add i 2) ?_
  refine va_sld hx hb hX hbl hbA hS (vp_in_nI (n := i + 2) (by omega) (by omega)) dL_law_166 ?_
  refine tp_i (y := xs (i + 2)) (congrArg xs (nI_clamp (n := i + 2) (by omega))) ?_
  refine lv_i2l (v := (xs (i + 2)).toInt64) hx hb dL_law_167 rfl ?_
  refine lv_bipush (v := 32) hx hb dL_law_168 (by decide) ?_
  refine lv_lshl (v := ((xs (i + 2)).toInt64) <<< ((32 : Int32).toInt64 &&& 63)) hx hb dL_law_170 rfl ?_
  refine lv_aload_n hx hb dL_law_171 rfl (lv_at hl 3 rfl) ?_
  refine lv_iload_n hx hb dL_law_172 rfl (lv_at hl 0 rfl) ?_
  refine lv_iconst (v := 3) hx hb dL_law_173 (by decide) ?_
  refine lv_iadd hx hb dL_law_174 ?_
  refine tp_i (y := nI (i + 3)) (nI_add i 3) ?_
  refine va_sld hx hb hX hbl hbA hS (vp_in_nI (n := i + 3) (by omega) (by omega)) dL_law_175 ?_
  refine tp_i (y := xs (i + 3)) (congrArg xs (nI_clamp (n := i + 3) (by omega))) ?_
  refine lv_i2l (v := (xs (i + 3)).toInt64) hx hb dL_law_176 rfl ?_
  refine lv_ldc2 (v := (4294967295)) hx hb hown (hts (.constantLong RL 13 (4294967295)) tw_1337.1) dL_law_177 ?_
  refine lv_land hx hb dL_law_180 ?_
  refine lv_lor hx hb dL_law_181 ?_
  have hPc := va_P_left hP
  have hDc := va_D_left hD
  obtain ⟨fs9, hfs9⟩ := hXI.recv
  refine cl_i2 (wc := wx) (wr := wm) (va_runV (As := [.int (xs (i + 1)), .long ((((xs (i + 2)).toInt64) <<< ((32 : Int32).toInt64 &&& 63)) ||| (((xs (i + 3)).toInt64) &&& (4294967295)))]) (rest := []) ⟨hx, hb, hml, hown, hts⟩ (F_X9_feed l D k H.size z x (xpn 0) (xpf 0) (xpr 0) (xpf 1) (xpf 2) (xpf 3) (xpf 4) (xpf 5) (xpf 6) (xpr 1) (xpn 1) (xpn 2) (xpi 0) (xpi 1) (xpf 7) (xpf 8) (xpf 9) (xpf 10) (xpf 11) (xpf 12) (xpf 13) (xpi 2) (xpn 3) (xpi 3) (xpf 14) (xpf 15) (xpf 16) (xpf 17) (xpf 18) (xpf 19) (xpf 20) (xpi 4) (xpn 4) (xpi 5) (xpf 21) (xpf 22) (xpf 23) (xpf 24) (xpf 25) (xpf 26) (xpf 27) (xpi 6) (xpn 5) (xpi 7) (xpf 28) (xpn 6) (xpf 29) (xpf 30) (xpf 31) (xpi 8) (xpf 32) (xpf 33) (xpl 0) (xpi 9) (xpi 10) (xpi 11) (xpi 12) (xpf 34) (xpf 35) (xpf 36) (xs (i + 1)) ((((xs (i + 2)).toInt64) <<< ((32 : Int32).toInt64 &&& 63)) ||| (((xs (i + 3)).toInt64) &&& (4294967295))) wx hXI (by first | assumption | omega)) (cwV 2 hts gL_law_X9_feed rfl rfl rfl (by decide +kernel) ⟨Nat.le_of_ble_eq_true rfl, Nat.le_of_ble_eq_true rfl⟩) ⟨PT.blind _ _ _ _ _ _, va_recv hG.1 hPc (ci := 9) (q0 := 0) rfl hfs9, PT.pre hPc hDc hG hZ hS (A_left hD hS hA) [.ref x, .int (xs (i + 1)), .long ((((xs (i + 2)).toInt64) <<< ((32 : Int32).toInt64 &&& 63)) ||| (((xs (i + 3)).toInt64) &&& (4294967295)))]⟩ rfl rfl hl.1 rfl (lv_room (Nat.le_of_ble_eq_true rfl)) dL_law_182 ⟨Nat.le_of_ble_eq_true rfl, Nat.le_of_ble_eq_true rfl⟩) hP hD hS hA (fun r u H locs hq9 hP hD hS => ?_)
  generalize r = rx at hq9 ⊢
  obtain ⟨ux, rfl⟩ : ∃ z, z = u := ⟨_, rfl⟩
  obtain ⟨x_n9, x_f9, hqx, hXI⟩ := hq9
  refine lv_pop hx hb dL_law_185 rfl ?_
  refine lv_aload_n hx hb dL_law_186 rfl (lv_at hl 1 rfl) ?_
  refine lv_aload_n hx hb dL_law_187 rfl (lv_at hl 3 rfl) ?_
  refine lv_iload_n hx hb dL_law_188 rfl (lv_at hl 0 rfl) ?_
  refine lv_iconst (v := 1) hx hb dL_law_189 (by decide) ?_
  refine lv_iadd hx hb dL_law_190 ?_
  refine tp_i (y := nI (i + 1)) (nI_add i 1) ?_
  refine va_sld hx hb hX hbl hbA hS (vp_in_nI (n := i + 1) (by omega) (by omega)) dL_law_191 ?_
  refine tp_i (y := xs (i + 1)) (congrArg xs (nI_clamp (n := i + 1) (by omega))) ?_
  refine lv_aload_n hx hb dL_law_192 rfl (lv_at hl 3 rfl) ?_
  refine lv_iload_n hx hb dL_law_193 rfl (lv_at hl 0 rfl) ?_
  refine lv_iconst (v := 2) hx hb dL_law_194 (by decide) ?_
  refine lv_iadd hx hb dL_law_195 ?_
  refine tp_i (y := nI (i + 2)) (nI_add i 2) ?_
  refine va_sld hx hb hX hbl hbA hS (vp_in_nI (n := i + 2) (by omega) (by omega)) dL_law_196 ?_
  refine tp_i (y := xs (i + 2)) (congrArg xs (nI_clamp (n := i + 2) (by omega))) ?_
  refine lv_i2l (v := (xs (i + 2)).toInt64) hx hb dL_law_197 rfl ?_
  refine lv_bipush (v := 32) hx hb dL_law_198 (by decide) ?_
  refine lv_lshl (v := ((xs (i + 2)).toInt64) <<< ((32 : Int32).toInt64 &&& 63)) hx hb dL_law_200 rfl ?_
  refine lv_aload_n hx hb dL_law_201 rfl (lv_at hl 3 rfl) ?_
  refine lv_iload_n hx hb dL_law_202 rfl (lv_at hl 0 rfl) ?_
  refine lv_iconst (v := 3) hx hb dL_law_203 (by decide) ?_
  refine lv_iadd hx hb dL_law_204 ?_
  refine tp_i (y := nI (i + 3)) (nI_add i 3) ?_
  refine va_sld hx hb hX hbl hbA hS (vp_in_nI (n := i + 3) (by omega) (by omega)) dL_law_205 ?_
  refine tp_i (y := xs (i + 3)) (congrArg xs (nI_clamp (n := i + 3) (by omega))) ?_
  refine lv_i2l (v := (xs (i + 3)).toInt64) hx hb dL_law_206 rfl ?_
  refine lv_ldc2 (v := (4294967295)) hx hb hown (hts (.constantLong RL 13 (4294967295)) tw_1337.1) dL_law_207 ?_
  refine lv_land hx hb dL_law_210 ?_
  refine lv_lor hx hb dL_law_211 ?_
  have hPc := va_P_left hP
  have hDc := va_D_left hD
  obtain ⟨fs9, hfs9⟩ := hMI.recv
  refine cl_i2 (wc := wm) (wr := ux) (va_runV (As := [.int (xs (i + 1)), .long ((((xs (i + 2)).toInt64) <<< ((32 : Int32).toInt64 &&& 63)) ||| (((xs (i + 3)).toInt64) &&& (4294967295)))]) (rest := []) ⟨hx, hb, hml, hown, hts⟩ (F_X10_feed l D k H.size z y (ypn 0) (ypn 1) (ypn 2) (ypn 3) (ypn 4) (ypn 5) (ypn 6) (ypn 7) (ypi 0) (ypi 1) (ypi 2) (ypi 3) (ypi 4) (ypi 5) (ypf 0) (ypf 1) (ypf 2) (ypf 3) (ypf 4) (ypf 5) (ypf 6) (ypf 7) (ypf 8) (ypf 9) (ypf 10) (ypf 11) (ypf 12) (ypf 13) (ypf 14) (ypf 15) (ypf 16) (ypf 17) (ypf 18) (ypf 19) (ypf 20) (xs (i + 1)) ((((xs (i + 2)).toInt64) <<< ((32 : Int32).toInt64 &&& 63)) ||| (((xs (i + 3)).toInt64) &&& (4294967295))) wm hMI (by first | assumption | omega)) (cwV 2 hts gL_law_X10_feed rfl rfl rfl (by decide +kernel) ⟨Nat.le_of_ble_eq_true rfl, Nat.le_of_ble_eq_true rfl⟩) ⟨PT.blind _ _ _ _ _ _, va_recv hG.1 hPc (ci := 10) (q0 := 0) rfl hfs9, PT.pre hPc hDc hG hZ hS (A_left hD hS hA) [.ref y, .int (xs (i + 1)), .long ((((xs (i + 2)).toInt64) <<< ((32 : Int32).toInt64 &&& 63)) ||| (((xs (i + 3)).toInt64) &&& (4294967295)))]⟩ rfl rfl hl.1 rfl (lv_room (Nat.le_of_ble_eq_true rfl)) dL_law_212 ⟨Nat.le_of_ble_eq_true rfl, Nat.le_of_ble_eq_true rfl⟩) hP hD hS hA (fun r u H locs hq9 hP hD hS => ?_)
  generalize r = ry at hq9 ⊢
  obtain ⟨um, rfl⟩ : ∃ z, z = u := ⟨_, rfl⟩
  obtain ⟨y_n9, y_f9, hqm, hMI⟩ := hq9
  refine lv_pop hx hb dL_law_215 rfl ?_
  refine lv_goto (tgt := 907) hx hb dL_law_216 (by decide) ?_
  rw [hTX, hF] at hqm
  have hfd := fd_eq hqx hqm hn hFP
  exact kk H locs ux um ⟨(fun i9 => ([x_n9, xpn 1, xpn 2, xpn 3, xpn 4, xpn 5, xpn 6] : List (Nat)).getD i9 0), xpi, xpr, (fun i9 => ([x_f9, xpf 1, xpf 2, xpf 3, xpf 4, xpf 5, xpf 6, xpf 7, xpf 8, xpf 9, xpf 10, xpf 11, xpf 12, xpf 13, xpf 14, xpf 15, xpf 16, xpf 17, xpf 18, xpf 19, xpf 20, xpf 21, xpf 22, xpf 23, xpf 24, xpf 25, xpf 26, xpf 27, xpf 28, xpf 29, xpf 30, xpf 31, xpf 32, xpf 33, xpf 34, xpf 35, xpf 36] : List (Nat → Int32)).getD i9 (fun _ => 0)), xpl, (fun i9 => ([ypn 0, ypn 1, ypn 2, ypn 3, ypn 4, y_n9, ypn 6, ypn 7] : List (Nat)).getD i9 0), ypi, (fun i9 => ([ypf 0, ypf 1, ypf 2, ypf 3, ypf 4, ypf 5, ypf 6, ypf 7, ypf 8, ypf 9, ypf 10, ypf 11, ypf 12, ypf 13, ypf 14, y_f9, ypf 16, ypf 17, ypf 18, ypf 19, ypf 20] : List (Nat → Int32)).getD i9 (fun _ => 0)), hXI, hMI, ⟨(show x_n9 ≤ 500 from hfd.2.2.1), (show ((xpr 0) 0 ≤ 7 ∧ (xpr 0) 1 ≤ 7 ∧ (xpr 0) 2 ≤ 20 ∧ (xpr 0) 3 ≤ 3) from ⟨hq0, hq1, hq2, hq3⟩), (show (∀ d, d < 100 → (xpr 1) d ≤ d + 1) from hal), (show NBr 3 4 ((xpr 0) 3) (xpf 4) from hNB), (show (1 ≤ (xpn 1) ∧ (xpn 1) ≤ 7) from hnn), (show (xpn 2) ≤ 7 from hyy), (show (xpn 3) ≤ 100 * (i + 4) from by omega), (show (xpn 4) ≤ 100 * (i + 4) from by omega), (show (xpn 5) ≤ 100 * (i + 4) from by omega), (show (xpn 6) ≤ 20 from hbb), (show OB (xpf 36) from hOBx), (show CFB ((xpr 0) 1) (xpf 6) from hCFx), (show AK ((xpr 0) 1) (xpf 6) (xpr 1) from hAKx), (show MEM ((xpr 0) 1) (xpf 6) (xpf 33) (xpl 0) from hMMx)⟩, ⟨(show y_n9 ≤ 500 from by rw [hfd.2.1]; exact hfd.2.2.1), (show ((ypn 0) ≤ 7 ∧ (ypn 1) ≤ 7 ∧ (ypn 2) ≤ 20 ∧ (ypn 3) ≤ 3) from ⟨hho, hsp, hnp, hmp⟩), (show (1 ≤ (ypn 4) ∧ (ypn 4) ≤ 7) from hnt), (show ((ypi 1) = -1 ∨ ∃ v : Nat, v ≤ 7 ∧ (ypi 1) = nI v) from hyt), (show LDI (ypf 13) (ypf 14) from hld), (show mB (ypn 3) (ypf 6) from hmB), (show (ypn 7) ≤ 100 * (i + 4) from by omega), (show (ypn 6) ≤ 20 from hbk), (show RW (ypf 19) (ypf 20) (ypn 6) from hRW), (show IMI (ypf 16) (100 * (i + 4)) from IMI_w hIM (by omega))⟩, (show y_n9 = x_n9 from hfd.2.1), (show y_f9 = x_f9 from hfd.2.2.2.1), (show (∀ j, ¬ x_f9 j < 0) from hfd.2.2.2.2), (show (ypi 5) = (xpi 8) from hFB), (show RD (xpr 0) (xpf 1) (xpf 2) (xpf 3) (xpf 4) (ypn 0) (ypn 1) (ypn 2) (ypn 3) (ypf 0) (ypf 1) (ypf 2) (ypf 3) (ypf 4) (ypf 5) (ypf 6) from hRD), (show (ypn 7) = (xpn 3) from hDY), (show (ypn 6) = (xpn 6) from hBK), (show (ypf 17) = (xpf 28) from hKZ), (show ((ypf 16) 24 = nI (xpn 4) ∧ (ypf 16) 54 = nI (xpn 5)) from hI0), (show TN (xpr 0) (xpf 1) (xpf 2) (xpf 3) (xpf 4) from hTN), (show (∃ zE : Nat → Int32, (xpf 5) = snI zE (xpf 3) ((xpr 0) 2)) from hLF), (show (∃ zE : Nat → Int32, (xpf 6) = fcO (xpr 0) (xpf 1) (xpf 2) (xpf 5) zE 100) from hCF), (show ((ypf 18) = (xpf 29) ∧ (ypf 19) = (xpf 30) ∧ (ypf 20) = (xpf 31)) from hBD), (show BWr (xpr 0) (xpn 6) (xpf 30) (xpf 31) from hBW), (show CR (xpr 0) (xpf 7) (xpf 8) (xpf 9) (xpf 10) (xpf 11) (xpf 12) (xpf 13) (ypf 7) (ypf 8) (ypf 9) (ypf 10) (ypf 11) (ypf 12) (ypf 13) (ypf 14) from hCR), (show (ypi 3) = (xpi 2) from hWG), (show ((ypi 4) = (xpi 3) ∧ ¬ (xpi 3) < 0) from hSD), (show ((ypn 4) = (xpn 1) ∧ yeF (nI (ypn 4)) (ypi 1) = nI (xpn 2) ∧ (ypi 2) = (xpi 0)) from hLW), (show IR (xpr 0) ((xpf 28) 0) (xpf 14) (xpf 15) (xpf 16) (xpf 17) (xpf 18) (xpf 19) (xpf 20) (fun j => (ypf 16) (0 + j)) (fun j => (ypf 16) (3 + j)) (fun j => (ypf 16) (6 + j)) (fun j => (ypf 16) (9 + j)) (fun j => (ypf 16) (12 + j)) (fun j => (ypf 16) (15 + j)) (fun j => (ypf 16) (18 + j)) (fun j => (ypf 16) (21 + j)) ((ypf 16) 25) (xpi 4) ((ypf 16) 26) (xpi 5) from hIA), (show IR (xpr 0) ((xpf 28) 1) (xpf 21) (xpf 22) (xpf 23) (xpf 24) (xpf 25) (xpf 26) (xpf 27) (fun j => (ypf 16) (30 + j)) (fun j => (ypf 16) (33 + j)) (fun j => (ypf 16) (36 + j)) (fun j => (ypf 16) (39 + j)) (fun j => (ypf 16) (42 + j)) (fun j => (ypf 16) (45 + j)) (fun j => (ypf 16) (48 + j)) (fun j => (ypf 16) (51 + j)) ((ypf 16) 55) (xpi 6) ((ypf 16) 56) (xpi 7) from hIB)⟩ hP hD hS

set_option maxHeartbeats 20000000 in
set_option maxRecDepth 100000 in
theorem cs_town {p : Program} {l : Launch} {e : Env} {s : State} {m : MethodId} {below : List Frame} {meth : Method} {c : Code} {b L : Nat} {xs : Nat → Int32} {D : va_G} {k : Nat → ClassId} {z : Nat → Nat} {A : Nat → Prop} {x y i : Nat} {wx wm : va_W} {H : Heap} {locs : List Loc} {ls : Array Slot} (C : lC p s m meth c b L xs D k z A) (hil : i + 4 ≤ L) (hJ : JN k x y i wx wm) (hP : va_P D vwCl (wx ++ wm) H) (hD : va_D A (wx ++ wm)) (hS : va_S A s.heap H locs) (hl : lv_has ls 4 [(3, .int (nI i)), (2, .ref y), (1, .ref x), (0, .ref b)]) (kk : ∀ (H : Heap) (locs : List Loc) (wx wm : va_W), JN k x y (i + 4) wx wm → va_P D vwCl (wx ++ wm) H → va_D A (wx ++ wm) → va_S A s.heap H locs → W p l e room_1 s m #[Value.ref b] below meth c H locs 123 7201 (lw_Z below #[Value.ref b] s) (F0 m 907 ls [])) : W p l e room_1 s m #[Value.ref b] below meth c H locs 123 7201 (lw_Z below #[Value.ref b] s) (F0 m 219 ls []) := by
  obtain ⟨hx, hb, hml, hown, hts, hX, hbl, hbA, hG, hZ, hA, hL⟩ := C
  obtain ⟨xpn, xpi, xpr, xpf, xpl, ypn, ypi, ypf, hXI, hMI, ⟨hn, ⟨hq0, hq1, hq2, hq3⟩, hal, hNB, hnn, hyy, hdyi, hda, hdb, hbb, hOBx, hCFx, hAKx, hMMx⟩, ⟨htx, ⟨hho, hsp, hnp, hmp⟩, hnt, hyt, hld, hmB, hddi, hbk, hRW, hIM⟩, hTX, hF, hFP, hFB, hRD, hDY, hBK, hKZ, hI0, hTN, hLF, hCF, hBD, hBW, hCR, hWG, hSD, hLW, hIA, hIB⟩ := hJ
  refine lv_aload_n hx hb dL_law_219 rfl (lv_at hl 2 rfl) ?_
  have hPc := va_P_left hP
  have hDc := va_D_left hD
  obtain ⟨fs9, hfs9⟩ := hXI.recv
  refine cl_i2 (wc := wx) (wr := wm) (va_runV (As := []) (rest := []) ⟨hx, hb, hml, hown, hts⟩ (F_X9_town l D k H.size z x (xpn 0) (xpf 0) (xpr 0) (xpf 1) (xpf 2) (xpf 3) (xpf 4) (xpf 5) (xpf 6) (xpr 1) (xpn 1) (xpn 2) (xpi 0) (xpi 1) (xpf 7) (xpf 8) (xpf 9) (xpf 10) (xpf 11) (xpf 12) (xpf 13) (xpi 2) (xpn 3) (xpi 3) (xpf 14) (xpf 15) (xpf 16) (xpf 17) (xpf 18) (xpf 19) (xpf 20) (xpi 4) (xpn 4) (xpi 5) (xpf 21) (xpf 22) (xpf 23) (xpf 24) (xpf 25) (xpf 26) (xpf 27) (xpi 6) (xpn 5) (xpi 7) (xpf 28) (xpn 6) (xpf 29) (xpf 30) (xpf 31) (xpi 8) (xpf 32) (xpf 33) (xpl 0) (xpi 9) (xpi 10) (xpi 11) (xpi 12) (xpf 34) (xpf 35) (xpf 36)  wx hXI (by first | assumption | omega)) (cwV 0 hts gL_law_X9_town rfl rfl rfl (by decide +kernel) ⟨Nat.le_of_ble_eq_true rfl, Nat.le_of_ble_eq_true rfl⟩) ⟨PT.blind _ _ _ _ _ _, va_recv hG.1 hPc (ci := 9) (q0 := 0) rfl hfs9, PT.pre hPc hDc hG hZ hS (A_left hD hS hA) [.ref x]⟩ rfl rfl hl.1 rfl (lv_room (Nat.le_of_ble_eq_true rfl)) dL_law_220 ⟨Nat.le_of_ble_eq_true rfl, Nat.le_of_ble_eq_true rfl⟩) hP hD hS hA (fun r u H locs hq9 hP hD hS => ?_)
  generalize r = rx at hq9 ⊢
  obtain ⟨ux, rfl⟩ : ∃ z, z = u := ⟨_, rfl⟩
  obtain ⟨w2, w3, w6, qv, av, E0, E1, E2, E3, lE, cE, a9, x2, x3, x4, x5, x6, q9, g0, g1, g2, g3, hR, hT, hcs⟩ := hq9
  refine lv_pop hx hb dL_law_223 rfl ?_
  refine lv_aload_n hx hb dL_law_224 rfl (lv_at hl 1 rfl) ?_
  have hPc := va_P_left hP
  have hDc := va_D_left hD
  obtain ⟨fs9, hfs9⟩ := hMI.recv
  refine cl_i2 (wc := wm) (wr := ux) (va_runV (As := []) (rest := []) ⟨hx, hb, hml, hown, hts⟩ (F_X10_town l D k H.size z y (ypn 0) (ypn 1) (ypn 2) (ypn 3) (ypn 4) (ypn 5) (ypn 6) (ypn 7) (ypi 0) (ypi 1) (ypi 2) (ypi 3) (ypi 4) (ypi 5) (ypf 0) (ypf 1) (ypf 2) (ypf 3) (ypf 4) (ypf 5) (ypf 6) (ypf 7) (ypf 8) (ypf 9) (ypf 10) (ypf 11) (ypf 12) (ypf 13) (ypf 14) (ypf 15) (ypf 16) (ypf 17) (ypf 18) (ypf 19) (ypf 20) a9 x2 x3 x4 x5 x6 q9 g0 g1 g2 g3 w2 w3 w6 qv E0 E1 E2 E3 wm hMI (by first | assumption | omega) (by rw [hF]; exact hFP) (by rw [hF, hTX]; exact hR)) (cwV 0 hts gL_law_X10_town rfl rfl rfl (by decide +kernel) ⟨Nat.le_of_ble_eq_true rfl, Nat.le_of_ble_eq_true rfl⟩) ⟨PT.blind _ _ _ _ _ _, va_recv hG.1 hPc (ci := 10) (q0 := 0) rfl hfs9, PT.pre hPc hDc hG hZ hS (A_left hD hS hA) [.ref y]⟩ rfl rfl hl.1 rfl (lv_room (Nat.le_of_ble_eq_true rfl)) dL_law_225 ⟨Nat.le_of_ble_eq_true rfl, Nat.le_of_ble_eq_true rfl⟩) hP hD hS hA (fun r u H locs hq9 hP hD hS => ?_)
  generalize r = ry at hq9 ⊢
  obtain ⟨um, rfl⟩ : ∃ z, z = u := ⟨_, rfl⟩
  obtain ⟨y_ho9, y_sp9, y_np9, y_mp9, y_a9, y_fp, y_nb, y_na, y_sd9, y_we9, y_rh9, y_rs9, y_rz9, y_rm9, y_e0, y_e1, y_e2, y_e3, y_e4, y_e5, y_e6, y_y09, y_y19, y_y29, y_y39, y_y49, y_nz9, y_mt9, y_bk9, y_dd9, y_wg9, y_x09, y_x19, y_x29, y_x39, y_x49, y_x59, y_x69, y_x79, y_ik9, hqm, hMI⟩ := hq9
  refine lv_pop hx hb dL_law_228 rfl ?_
  refine lv_goto (tgt := 907) hx hb dL_law_229 (by decide) ?_
  obtain ⟨-, ⟨hb0, hb1, hb2, hb3⟩, hTNn⟩ := id hT
  obtain ⟨hfb, hqm⟩ := hqm
  rcases hcs with ⟨h4, hr, hXI⟩ | ⟨h4, hr, be9, lg9, ab9, elg, eab, hXI⟩
  · rcases hqm with ⟨-, -, rfl, rfl, rfl, rfl, rfl, rfl, rfl, rfl, rfl, rfl, rfl, rfl, rfl, rfl, rfl, rfl, rfl, rfl, rfl, rfl, rfl, rfl, rfl⟩ | ⟨k4, -⟩
    · skip
      exact kk H locs ux um ⟨(fun i9 => ([0, xpn 1, xpn 2, xpn 3, xpn 4, xpn 5, xpn 6] : List (Nat)).getD i9 0), (fun i9 => ([xpi 0, xpi 1, xpi 2, xpi 3, xpi 4, xpi 5, xpi 6, xpi 7, x5, xpi 9, xpi 10, xpi 11, xpi 12] : List (Int32)).getD i9 0), xpr, xpf, xpl, (fun i9 => ([ypn 0, ypn 1, ypn 2, ypn 3, ypn 4, 0, ypn 6, ypn 7] : List (Nat)).getD i9 0), (fun i9 => ([ypi 0, ypi 1, ypi 2, ypi 3, ypi 4, y_fp] : List (Int32)).getD i9 0), ypf, hXI, hMI, ⟨(show 0 ≤ 500 from Nat.zero_le _), (show ((xpr 0) 0 ≤ 7 ∧ (xpr 0) 1 ≤ 7 ∧ (xpr 0) 2 ≤ 20 ∧ (xpr 0) 3 ≤ 3) from ⟨hq0, hq1, hq2, hq3⟩), (show (∀ d, d < 100 → (xpr 1) d ≤ d + 1) from hal), (show NBr 3 4 ((xpr 0) 3) (xpf 4) from hNB), (show (1 ≤ (xpn 1) ∧ (xpn 1) ≤ 7) from hnn), (show (xpn 2) ≤ 7 from hyy), (show (xpn 3) ≤ 100 * (i + 4) from by omega), (show (xpn 4) ≤ 100 * (i + 4) from by omega), (show (xpn 5) ≤ 100 * (i + 4) from by omega), (show (xpn 6) ≤ 20 from hbb), (show OB (xpf 36) from hOBx), (show CFB ((xpr 0) 1) (xpf 6) from hCFx), (show AK ((xpr 0) 1) (xpf 6) (xpr 1) from hAKx), (show MEM ((xpr 0) 1) (xpf 6) (xpf 33) (xpl 0) from hMMx)⟩, ⟨(show 0 ≤ 500 from Nat.zero_le _), (show ((ypn 0) ≤ 7 ∧ (ypn 1) ≤ 7 ∧ (ypn 2) ≤ 20 ∧ (ypn 3) ≤ 3) from ⟨hho, hsp, hnp, hmp⟩), (show (1 ≤ (ypn 4) ∧ (ypn 4) ≤ 7) from hnt), (show ((ypi 1) = -1 ∨ ∃ v : Nat, v ≤ 7 ∧ (ypi 1) = nI v) from hyt), (show LDI (ypf 13) (ypf 14) from hld), (show mB (ypn 3) (ypf 6) from hmB), (show (ypn 7) ≤ 100 * (i + 4) from by omega), (show (ypn 6) ≤ 20 from hbk), (show RW (ypf 19) (ypf 20) (ypn 6) from hRW), (show IMI (ypf 16) (100 * (i + 4)) from IMI_w hIM (by omega))⟩, (show 0 = 0 from rfl), (show (ypf 15) = (xpf 0) from hF), (show (∀ j, ¬ (xpf 0) j < 0) from hFP), (show y_fp = x5 from hfb), (show RD (xpr 0) (xpf 1) (xpf 2) (xpf 3) (xpf 4) (ypn 0) (ypn 1) (ypn 2) (ypn 3) (ypf 0) (ypf 1) (ypf 2) (ypf 3) (ypf 4) (ypf 5) (ypf 6) from hRD), (show (ypn 7) = (xpn 3) from hDY), (show (ypn 6) = (xpn 6) from hBK), (show (ypf 17) = (xpf 28) from hKZ), (show ((ypf 16) 24 = nI (xpn 4) ∧ (ypf 16) 54 = nI (xpn 5)) from hI0), (show TN (xpr 0) (xpf 1) (xpf 2) (xpf 3) (xpf 4) from hTN), (show (∃ zE : Nat → Int32, (xpf 5) = snI zE (xpf 3) ((xpr 0) 2)) from hLF), (show (∃ zE : Nat → Int32, (xpf 6) = fcO (xpr 0) (xpf 1) (xpf 2) (xpf 5) zE 100) from hCF), (show ((ypf 18) = (xpf 29) ∧ (ypf 19) = (xpf 30) ∧ (ypf 20) = (xpf 31)) from hBD), (show BWr (xpr 0) (xpn 6) (xpf 30) (xpf 31) from hBW), (show CR (xpr 0) (xpf 7) (xpf 8) (xpf 9) (xpf 10) (xpf 11) (xpf 12) (xpf 13) (ypf 7) (ypf 8) (ypf 9) (ypf 10) (ypf 11) (ypf 12) (ypf 13) (ypf 14) from hCR), (show (ypi 3) = (xpi 2) from hWG), (show ((ypi 4) = (xpi 3) ∧ ¬ (xpi 3) < 0) from hSD), (show ((ypn 4) = (xpn 1) ∧ yeF (nI (ypn 4)) (ypi 1) = nI (xpn 2) ∧ (ypi 2) = (xpi 0)) from hLW), (show IR (xpr 0) ((xpf 28) 0) (xpf 14) (xpf 15) (xpf 16) (xpf 17) (xpf 18) (xpf 19) (xpf 20) (fun j => (ypf 16) (0 + j)) (fun j => (ypf 16) (3 + j)) (fun j => (ypf 16) (6 + j)) (fun j => (ypf 16) (9 + j)) (fun j => (ypf 16) (12 + j)) (fun j => (ypf 16) (15 + j)) (fun j => (ypf 16) (18 + j)) (fun j => (ypf 16) (21 + j)) ((ypf 16) 25) (xpi 4) ((ypf 16) 26) (xpi 5) from hIA), (show IR (xpr 0) ((xpf 28) 1) (xpf 21) (xpf 22) (xpf 23) (xpf 24) (xpf 25) (xpf 26) (xpf 27) (fun j => (ypf 16) (30 + j)) (fun j => (ypf 16) (33 + j)) (fun j => (ypf 16) (36 + j)) (fun j => (ypf 16) (39 + j)) (fun j => (ypf 16) (42 + j)) (fun j => (ypf 16) (45 + j)) (fun j => (ypf 16) (48 + j)) (fun j => (ypf 16) (51 + j)) ((ypf 16) 55) (xpi 6) ((ypf 16) 56) (xpi 7) from hIB)⟩ hP hD hS
    · exact absurd k4 h4
  · rcases hqm with ⟨k4, -⟩ | ⟨-, -, hRD9, hm4, rfl, rfl, rfl, rfl, rfl, rfl, rfl, rfl, rfl, rfl, rfl, rfl⟩
    · exact absurd h4 k4
    · have hNB9 := (hTNn h4).2.2.2
      exact kk H locs ux um ⟨(fun i9 => ([0, xpn 1, xpn 2, 0, xpn 4, xpn 5, 0] : List (Nat)).getD i9 0), (fun i9 => ([xpi 0, xpi 1, 0, xpi 3, xpi 4, xpi 5, xpi 6, xpi 7, x5, 0, xpi 10, xpi 11, xpi 12] : List (Int32)).getD i9 0), (fun i9 => ([q9, caI q9 (fcO q9 g0 g1 (snI lE g2 (q9 2)) cE 100) av 100] : List (Nat → Nat)).getD i9 (fun _ => 0)), (fun i9 => ([xpf 0, g0, g1, g2, g3, snI lE g2 (q9 2), fcO q9 g0 g1 (snI lE g2 (q9 2)) cE 100, fl_i (xpf 7) 0 3, fl_i (xpf 8) 0 3, fl_i (xpf 9) 0 3, fl_i (xpf 10) 0 3, fl_i (xpf 11) (-1) 3, fl_i (xpf 12) (-1) 3, fl_i (xpf 13) (-1) 3, xpf 14, xpf 15, xpf 16, xpf 17, xpf 18, xpf 19, xpf 20, xpf 21, xpf 22, xpf 23, xpf 24, xpf 25, xpf 26, xpf 27, upd (upd (xpf 28) 0 (vp_nar .boolean 0)) 1 (vp_nar .boolean 0), xpf 29, xpf 30, xpf 31, be9, lg9, xpf 34, xpf 35, xpf 36] : List (Nat → Int32)).getD i9 (fun _ => 0)), (fun i9 => ([ab9] : List (Nat → Int64)).getD i9 (fun _ => 0)), (fun i9 => ([y_ho9, y_sp9, y_np9, y_mp9, ypn 4, 0, 0, 0] : List (Nat)).getD i9 0), (fun i9 => ([ypi 0, ypi 1, ypi 2, 0, ypi 4, y_fp] : List (Int32)).getD i9 0), (fun i9 => ([y_y09, y_y19, y_y29, y_y39, y_y49, y_nz9, y_mt9, b3 (ypf 7) 0, b3 (ypf 8) 0, b3 (ypf 9) 0, b3 (ypf 10) (-1), b3 (ypf 11) 0, b3 (ypf 12) 0, b3 (ypf 13) (-1), b3 (ypf 14) (-1), ypf 15, ypf 16, upd (upd (ypf 17) 0 (vp_nar .boolean 0)) 1 (vp_nar .boolean 0), ypf 18, ypf 19, ypf 20] : List (Nat → Int32)).getD i9 (fun _ => 0)), hXI, hMI, ⟨(show 0 ≤ 500 from Nat.zero_le _), (show (q9 0 ≤ 7 ∧ q9 1 ≤ 7 ∧ q9 2 ≤ 20 ∧ q9 3 ≤ 3) from ⟨hb0, hb1, hb2, hb3⟩), (show (∀ d, d < 100 → (caI q9 (fcO q9 g0 g1 (snI lE g2 (q9 2)) cE 100) av 100) d ≤ d + 1) from fun d hd => ca_le 100 d hd), (show NBr 3 4 (q9 3) g3 from hNB9), (show (1 ≤ (xpn 1) ∧ (xpn 1) ≤ 7) from hnn), (show (xpn 2) ≤ 7 from hyy), (show 0 ≤ 100 * (i + 4) from Nat.zero_le _), (show (xpn 4) ≤ 100 * (i + 4) from by omega), (show (xpn 5) ≤ 100 * (i + 4) from by omega), (show 0 ≤ 20 from Nat.zero_le _), (show OB (xpf 36) from hOBx), (show CFB (q9 1) (fcO q9 g0 g1 (snI lE g2 (q9 2)) cE 100) from CFB_f hb0 hb1 rfl), (show AK (q9 1) (fcO q9 g0 g1 (snI lE g2 (q9 2)) cE 100) (caI q9 (fcO q9 g0 g1 (snI lE g2 (q9 2)) cE 100) av 100) from AK_c), (show MEM (q9 1) (fcO q9 g0 g1 (snI lE g2 (q9 2)) cE 100) lg9 ab9 from by rw [elg, eab]; exact MEM_0)⟩, ⟨(show 0 ≤ 500 from Nat.zero_le _), (show (y_ho9 ≤ 7 ∧ y_sp9 ≤ 7 ∧ y_np9 ≤ 20 ∧ y_mp9 ≤ 3) from hm4), (show (1 ≤ (ypn 4) ∧ (ypn 4) ≤ 7) from hnt), (show ((ypi 1) = -1 ∨ ∃ v : Nat, v ≤ 7 ∧ (ypi 1) = nI v) from hyt), (show LDI (b3 (ypf 13) (-1)) (b3 (ypf 14) (-1)) from LDI_b), (show mB y_mp9 y_mt9 from mB_of hRD9 hNB9), (show 0 ≤ 100 * (i + 4) from Nat.zero_le _), (show 0 ≤ 20 from Nat.zero_le _), (show RW (ypf 19) (ypf 20) 0 from RW_0), (show IMI (ypf 16) (100 * (i + 4)) from IMI_w hIM (by omega))⟩, (show 0 = 0 from rfl), (show (ypf 15) = (xpf 0) from hF), (show (∀ j, ¬ (xpf 0) j < 0) from hFP), (show y_fp = x5 from hfb), (show RD q9 g0 g1 g2 g3 y_ho9 y_sp9 y_np9 y_mp9 y_y09 y_y19 y_y29 y_y39 y_y49 y_nz9 y_mt9 from hRD9), (show 0 = 0 from rfl), (show 0 = 0 from rfl), (show (upd (upd (ypf 17) 0 (vp_nar .boolean 0)) 1 (vp_nar .boolean 0)) = (upd (upd (xpf 28) 0 (vp_nar .boolean 0)) 1 (vp_nar .boolean 0)) from by rw [hKZ]), (show ((ypf 16) 24 = nI (xpn 4) ∧ (ypf 16) 54 = nI (xpn 5)) from hI0), (show TN q9 g0 g1 g2 g3 from hTNn h4), (show (∃ zE : Nat → Int32, (snI lE g2 (q9 2)) = snI zE g2 (q9 2)) from ⟨lE, rfl⟩), (show (∃ zE : Nat → Int32, (fcO q9 g0 g1 (snI lE g2 (q9 2)) cE 100) = fcO q9 g0 g1 (snI lE g2 (q9 2)) zE 100) from ⟨cE, rfl⟩), (show ((ypf 18) = (xpf 29) ∧ (ypf 19) = (xpf 30) ∧ (ypf 20) = (xpf 31)) from hBD), (show BWr q9 0 (xpf 30) (xpf 31) from BW_0), (show CR q9 (fl_i (xpf 7) 0 3) (fl_i (xpf 8) 0 3) (fl_i (xpf 9) 0 3) (fl_i (xpf 10) 0 3) (fl_i (xpf 11) (-1) 3) (fl_i (xpf 12) (-1) 3) (fl_i (xpf 13) (-1) 3) (b3 (ypf 7) 0) (b3 (ypf 8) 0) (b3 (ypf 9) 0) (b3 (ypf 10) (-1)) (b3 (ypf 11) 0) (b3 (ypf 12) 0) (b3 (ypf 13) (-1)) (b3 (ypf 14) (-1)) from CR_0 fl_3 fl_3 fl_3 fl_3 fl_3 fl_3 fl_3 b3_3 b3_3 b3_3 b3_3 b3_3 b3_3 b3_3), (show 0 = 0 from rfl), (show ((ypi 4) = (xpi 3) ∧ ¬ (xpi 3) < 0) from hSD), (show ((ypn 4) = (xpn 1) ∧ yeF (nI (ypn 4)) (ypi 1) = nI (xpn 2) ∧ (ypi 2) = (xpi 0)) from hLW), (show IR q9 ((upd (upd (xpf 28) 0 (vp_nar .boolean 0)) 1 (vp_nar .boolean 0)) 0) (xpf 14) (xpf 15) (xpf 16) (xpf 17) (xpf 18) (xpf 19) (xpf 20) (fun j => (ypf 16) (0 + j)) (fun j => (ypf 16) (3 + j)) (fun j => (ypf 16) (6 + j)) (fun j => (ypf 16) (9 + j)) (fun j => (ypf 16) (12 + j)) (fun j => (ypf 16) (15 + j)) (fun j => (ypf 16) (18 + j)) (fun j => (ypf 16) (21 + j)) ((ypf 16) 25) (xpi 4) ((ypf 16) 26) (xpi 5) from (fun k9 => absurd (show _ = (0 : Int32) from (pk_un (by decide)).trans pk_us) k9)), (show IR q9 ((upd (upd (xpf 28) 0 (vp_nar .boolean 0)) 1 (vp_nar .boolean 0)) 1) (xpf 21) (xpf 22) (xpf 23) (xpf 24) (xpf 25) (xpf 26) (xpf 27) (fun j => (ypf 16) (30 + j)) (fun j => (ypf 16) (33 + j)) (fun j => (ypf 16) (36 + j)) (fun j => (ypf 16) (39 + j)) (fun j => (ypf 16) (42 + j)) (fun j => (ypf 16) (45 + j)) (fun j => (ypf 16) (48 + j)) (fun j => (ypf 16) (51 + j)) ((ypf 16) 55) (xpi 6) ((ypf 16) 56) (xpi 7) from (fun k9 => absurd (show _ = (0 : Int32) from pk_us) k9))⟩ hP hD hS

set_option maxHeartbeats 20000000 in
set_option maxRecDepth 100000 in
theorem cs_laws {p : Program} {l : Launch} {e : Env} {s : State} {m : MethodId} {below : List Frame} {meth : Method} {c : Code} {b L : Nat} {xs : Nat → Int32} {D : va_G} {k : Nat → ClassId} {z : Nat → Nat} {A : Nat → Prop} {x y i : Nat} {wx wm : va_W} {H : Heap} {locs : List Loc} {ls : Array Slot} (C : lC p s m meth c b L xs D k z A) (hil : i + 4 ≤ L) (hJ : JN k x y i wx wm) (hP : va_P D vwCl (wx ++ wm) H) (hD : va_D A (wx ++ wm)) (hS : va_S A s.heap H locs) (hl : lv_has ls 4 [(3, .int (nI i)), (2, .ref y), (1, .ref x), (0, .ref b)]) (kk : ∀ (H : Heap) (locs : List Loc) (wx wm : va_W), JN k x y (i + 4) wx wm → va_P D vwCl (wx ++ wm) H → va_D A (wx ++ wm) → va_S A s.heap H locs → W p l e room_1 s m #[Value.ref b] below meth c H locs 123 7201 (lw_Z below #[Value.ref b] s) (F0 m 907 ls [])) : W p l e room_1 s m #[Value.ref b] below meth c H locs 123 7201 (lw_Z below #[Value.ref b] s) (F0 m 232 ls []) := by
  obtain ⟨hx, hb, hml, hown, hts, hX, hbl, hbA, hG, hZ, hA, hL⟩ := C
  obtain ⟨xpn, xpi, xpr, xpf, xpl, ypn, ypi, ypf, hXI, hMI, ⟨hn, ⟨hq0, hq1, hq2, hq3⟩, hal, hNB, hnn, hyy, hdyi, hda, hdb, hbb, hOBx, hCFx, hAKx, hMMx⟩, ⟨htx, ⟨hho, hsp, hnp, hmp⟩, hnt, hyt, hld, hmB, hddi, hbk, hRW, hIM⟩, hTX, hF, hFP, hFB, hRD, hDY, hBK, hKZ, hI0, hTN, hLF, hCF, hBD, hBW, hCR, hWG, hSD, hLW, hIA, hIB⟩ := hJ
  refine lv_aload_n hx hb dL_law_232 rfl (lv_at hl 2 rfl) ?_
  have hPc := va_P_left hP
  have hDc := va_D_left hD
  obtain ⟨fs9, hfs9⟩ := hXI.recv
  refine cl_i2 (wc := wx) (wr := wm) (va_runV (As := []) (rest := []) ⟨hx, hb, hml, hown, hts⟩ (F_X9_laws l D k H.size z x (xpn 0) (xpf 0) (xpr 0) (xpf 1) (xpf 2) (xpf 3) (xpf 4) (xpf 5) (xpf 6) (xpr 1) (xpn 1) (xpn 2) (xpi 0) (xpi 1) (xpf 7) (xpf 8) (xpf 9) (xpf 10) (xpf 11) (xpf 12) (xpf 13) (xpi 2) (xpn 3) (xpi 3) (xpf 14) (xpf 15) (xpf 16) (xpf 17) (xpf 18) (xpf 19) (xpf 20) (xpi 4) (xpn 4) (xpi 5) (xpf 21) (xpf 22) (xpf 23) (xpf 24) (xpf 25) (xpf 26) (xpf 27) (xpi 6) (xpn 5) (xpi 7) (xpf 28) (xpn 6) (xpf 29) (xpf 30) (xpf 31) (xpi 8) (xpf 32) (xpf 33) (xpl 0) (xpi 9) (xpi 10) (xpi 11) (xpi 12) (xpf 34) (xpf 35) (xpf 36)  wx hXI (by first | assumption | omega)) (cwV 0 hts gL_law_X9_laws rfl rfl rfl (by decide +kernel) ⟨Nat.le_of_ble_eq_true rfl, Nat.le_of_ble_eq_true rfl⟩) ⟨PT.blind _ _ _ _ _ _, va_recv hG.1 hPc (ci := 9) (q0 := 0) rfl hfs9, PT.pre hPc hDc hG hZ hS (A_left hD hS hA) [.ref x]⟩ rfl rfl hl.1 rfl (lv_room (Nat.le_of_ble_eq_true rfl)) dL_law_233 ⟨Nat.le_of_ble_eq_true rfl, Nat.le_of_ble_eq_true rfl⟩) hP hD hS hA (fun r u H locs hq9 hP hD hS => ?_)
  generalize r = rx at hq9 ⊢
  obtain ⟨ux, rfl⟩ : ∃ z, z = u := ⟨_, rfl⟩
  obtain ⟨w2, w3, w6, a9, x2, x3, x4, x5, x6, n9, y0, g9, m4, m5, hR, hcs⟩ := hq9
  refine lv_pop hx hb dL_law_236 rfl ?_
  refine lv_aload_n hx hb dL_law_237 rfl (lv_at hl 1 rfl) ?_
  have hPc := va_P_left hP
  have hDc := va_D_left hD
  obtain ⟨fs9, hfs9⟩ := hMI.recv
  refine cl_i2 (wc := wm) (wr := ux) (va_runV (As := []) (rest := []) ⟨hx, hb, hml, hown, hts⟩ (F_X10_laws l D k H.size z y (ypn 0) (ypn 1) (ypn 2) (ypn 3) (ypn 4) (ypn 5) (ypn 6) (ypn 7) (ypi 0) (ypi 1) (ypi 2) (ypi 3) (ypi 4) (ypi 5) (ypf 0) (ypf 1) (ypf 2) (ypf 3) (ypf 4) (ypf 5) (ypf 6) (ypf 7) (ypf 8) (ypf 9) (ypf 10) (ypf 11) (ypf 12) (ypf 13) (ypf 14) (ypf 15) (ypf 16) (ypf 17) (ypf 18) (ypf 19) (ypf 20) a9 x2 x3 x4 x5 x6 n9 y0 g9 m4 m5 w2 w3 w6 wm hMI (by first | assumption | omega) (by rw [hF]; exact hFP) (by rw [hF, hTX]; exact hR)) (cwV 0 hts gL_law_X10_laws rfl rfl rfl (by decide +kernel) ⟨Nat.le_of_ble_eq_true rfl, Nat.le_of_ble_eq_true rfl⟩) ⟨PT.blind _ _ _ _ _ _, va_recv hG.1 hPc (ci := 10) (q0 := 0) rfl hfs9, PT.pre hPc hDc hG hZ hS (A_left hD hS hA) [.ref y]⟩ rfl rfl hl.1 rfl (lv_room (Nat.le_of_ble_eq_true rfl)) dL_law_238 ⟨Nat.le_of_ble_eq_true rfl, Nat.le_of_ble_eq_true rfl⟩) hP hD hS hA (fun r u H locs hq9 hP hD hS => ?_)
  generalize r = ry at hq9 ⊢
  obtain ⟨um, rfl⟩ : ∃ z, z = u := ⟨_, rfl⟩
  obtain ⟨y_lc9, y_nt9, y_yt9, y_ag9, y_tx9, y_at9, y_fp, y_nb, y_na, y_sd9, y_we9, y_rn9, y_ry9, y_rw9, hqm, hMI⟩ := hq9
  refine lv_pop hx hb dL_law_241 rfl ?_
  refine lv_goto (tgt := 907) hx hb dL_law_242 (by decide) ?_
  rcases hcs with ⟨hn2, hr, hXI⟩ | ⟨hn2, hT, hcs⟩
  · rcases hqm with ⟨-, -, rfl, rfl, rfl, rfl, rfl, rfl⟩ | ⟨k1, -⟩
    · skip
      exact kk H locs ux um ⟨xpn, xpi, xpr, xpf, xpl, ypn, ypi, ypf, hXI, hMI, ⟨(show (xpn 0) ≤ 500 from hn), (show ((xpr 0) 0 ≤ 7 ∧ (xpr 0) 1 ≤ 7 ∧ (xpr 0) 2 ≤ 20 ∧ (xpr 0) 3 ≤ 3) from ⟨hq0, hq1, hq2, hq3⟩), (show (∀ d, d < 100 → (xpr 1) d ≤ d + 1) from hal), (show NBr 3 4 ((xpr 0) 3) (xpf 4) from hNB), (show (1 ≤ (xpn 1) ∧ (xpn 1) ≤ 7) from hnn), (show (xpn 2) ≤ 7 from hyy), (show (xpn 3) ≤ 100 * (i + 4) from by omega), (show (xpn 4) ≤ 100 * (i + 4) from by omega), (show (xpn 5) ≤ 100 * (i + 4) from by omega), (show (xpn 6) ≤ 20 from hbb), (show OB (xpf 36) from hOBx), (show CFB ((xpr 0) 1) (xpf 6) from hCFx), (show AK ((xpr 0) 1) (xpf 6) (xpr 1) from hAKx), (show MEM ((xpr 0) 1) (xpf 6) (xpf 33) (xpl 0) from hMMx)⟩, ⟨(show (ypn 5) ≤ 500 from htx), (show ((ypn 0) ≤ 7 ∧ (ypn 1) ≤ 7 ∧ (ypn 2) ≤ 20 ∧ (ypn 3) ≤ 3) from ⟨hho, hsp, hnp, hmp⟩), (show (1 ≤ (ypn 4) ∧ (ypn 4) ≤ 7) from hnt), (show ((ypi 1) = -1 ∨ ∃ v : Nat, v ≤ 7 ∧ (ypi 1) = nI v) from hyt), (show LDI (ypf 13) (ypf 14) from hld), (show mB (ypn 3) (ypf 6) from hmB), (show (ypn 7) ≤ 100 * (i + 4) from by omega), (show (ypn 6) ≤ 20 from hbk), (show RW (ypf 19) (ypf 20) (ypn 6) from hRW), (show IMI (ypf 16) (100 * (i + 4)) from IMI_w hIM (by omega))⟩, (show (ypn 5) = (xpn 0) from hTX), (show (ypf 15) = (xpf 0) from hF), (show (∀ j, ¬ (xpf 0) j < 0) from hFP), (show (ypi 5) = (xpi 8) from hFB), (show RD (xpr 0) (xpf 1) (xpf 2) (xpf 3) (xpf 4) (ypn 0) (ypn 1) (ypn 2) (ypn 3) (ypf 0) (ypf 1) (ypf 2) (ypf 3) (ypf 4) (ypf 5) (ypf 6) from hRD), (show (ypn 7) = (xpn 3) from hDY), (show (ypn 6) = (xpn 6) from hBK), (show (ypf 17) = (xpf 28) from hKZ), (show ((ypf 16) 24 = nI (xpn 4) ∧ (ypf 16) 54 = nI (xpn 5)) from hI0), (show TN (xpr 0) (xpf 1) (xpf 2) (xpf 3) (xpf 4) from hTN), (show (∃ zE : Nat → Int32, (xpf 5) = snI zE (xpf 3) ((xpr 0) 2)) from hLF), (show (∃ zE : Nat → Int32, (xpf 6) = fcO (xpr 0) (xpf 1) (xpf 2) (xpf 5) zE 100) from hCF), (show ((ypf 18) = (xpf 29) ∧ (ypf 19) = (xpf 30) ∧ (ypf 20) = (xpf 31)) from hBD), (show BWr (xpr 0) (xpn 6) (xpf 30) (xpf 31) from hBW), (show CR (xpr 0) (xpf 7) (xpf 8) (xpf 9) (xpf 10) (xpf 11) (xpf 12) (xpf 13) (ypf 7) (ypf 8) (ypf 9) (ypf 10) (ypf 11) (ypf 12) (ypf 13) (ypf 14) from hCR), (show (ypi 3) = (xpi 2) from hWG), (show ((ypi 4) = (xpi 3) ∧ ¬ (xpi 3) < 0) from hSD), (show ((ypn 4) = (xpn 1) ∧ yeF (nI (ypn 4)) (ypi 1) = nI (xpn 2) ∧ (ypi 2) = (xpi 0)) from hLW), (show IR (xpr 0) ((xpf 28) 0) (xpf 14) (xpf 15) (xpf 16) (xpf 17) (xpf 18) (xpf 19) (xpf 20) (fun j => (ypf 16) (0 + j)) (fun j => (ypf 16) (3 + j)) (fun j => (ypf 16) (6 + j)) (fun j => (ypf 16) (9 + j)) (fun j => (ypf 16) (12 + j)) (fun j => (ypf 16) (15 + j)) (fun j => (ypf 16) (18 + j)) (fun j => (ypf 16) (21 + j)) ((ypf 16) 25) (xpi 4) ((ypf 16) 26) (xpi 5) from hIA), (show IR (xpr 0) ((xpf 28) 1) (xpf 21) (xpf 22) (xpf 23) (xpf 24) (xpf 25) (xpf 26) (xpf 27) (fun j => (ypf 16) (30 + j)) (fun j => (ypf 16) (33 + j)) (fun j => (ypf 16) (36 + j)) (fun j => (ypf 16) (39 + j)) (fun j => (ypf 16) (42 + j)) (fun j => (ypf 16) (45 + j)) (fun j => (ypf 16) (48 + j)) (fun j => (ypf 16) (51 + j)) ((ypf 16) 55) (xpi 6) ((ypf 16) 56) (xpi 7) from hIB)⟩ hP hD hS
    · exfalso; omega
  · rcases hqm with ⟨k1, -⟩ | ⟨-, rfl, hfb, hqm⟩
    · exfalso; omega
    · rcases hcs with ⟨h4, hr, hXI⟩ | ⟨h4, hr, nv, yv, en, ey, hnv, hyv, hXI⟩
      · rcases hqm with ⟨-, -, rfl, rfl, rfl, rfl⟩ | ⟨k4, -⟩
        · skip
          exact kk H locs ux um ⟨(fun i9 => ([0, xpn 1, xpn 2, xpn 3, xpn 4, xpn 5, xpn 6] : List (Nat)).getD i9 0), (fun i9 => ([xpi 0, xpi 1, xpi 2, xpi 3, xpi 4, xpi 5, xpi 6, xpi 7, x5, xpi 9, xpi 10, xpi 11, xpi 12] : List (Int32)).getD i9 0), xpr, xpf, xpl, (fun i9 => ([ypn 0, ypn 1, ypn 2, ypn 3, ypn 4, 0, ypn 6, ypn 7] : List (Nat)).getD i9 0), (fun i9 => ([ypi 0, ypi 1, ypi 2, ypi 3, ypi 4, y_fp] : List (Int32)).getD i9 0), ypf, hXI, hMI, ⟨(show 0 ≤ 500 from Nat.zero_le _), (show ((xpr 0) 0 ≤ 7 ∧ (xpr 0) 1 ≤ 7 ∧ (xpr 0) 2 ≤ 20 ∧ (xpr 0) 3 ≤ 3) from ⟨hq0, hq1, hq2, hq3⟩), (show (∀ d, d < 100 → (xpr 1) d ≤ d + 1) from hal), (show NBr 3 4 ((xpr 0) 3) (xpf 4) from hNB), (show (1 ≤ (xpn 1) ∧ (xpn 1) ≤ 7) from hnn), (show (xpn 2) ≤ 7 from hyy), (show (xpn 3) ≤ 100 * (i + 4) from by omega), (show (xpn 4) ≤ 100 * (i + 4) from by omega), (show (xpn 5) ≤ 100 * (i + 4) from by omega), (show (xpn 6) ≤ 20 from hbb), (show OB (xpf 36) from hOBx), (show CFB ((xpr 0) 1) (xpf 6) from hCFx), (show AK ((xpr 0) 1) (xpf 6) (xpr 1) from hAKx), (show MEM ((xpr 0) 1) (xpf 6) (xpf 33) (xpl 0) from hMMx)⟩, ⟨(show 0 ≤ 500 from Nat.zero_le _), (show ((ypn 0) ≤ 7 ∧ (ypn 1) ≤ 7 ∧ (ypn 2) ≤ 20 ∧ (ypn 3) ≤ 3) from ⟨hho, hsp, hnp, hmp⟩), (show (1 ≤ (ypn 4) ∧ (ypn 4) ≤ 7) from hnt), (show ((ypi 1) = -1 ∨ ∃ v : Nat, v ≤ 7 ∧ (ypi 1) = nI v) from hyt), (show LDI (ypf 13) (ypf 14) from hld), (show mB (ypn 3) (ypf 6) from hmB), (show (ypn 7) ≤ 100 * (i + 4) from by omega), (show (ypn 6) ≤ 20 from hbk), (show RW (ypf 19) (ypf 20) (ypn 6) from hRW), (show IMI (ypf 16) (100 * (i + 4)) from IMI_w hIM (by omega))⟩, (show 0 = 0 from rfl), (show (ypf 15) = (xpf 0) from hF), (show (∀ j, ¬ (xpf 0) j < 0) from hFP), (show y_fp = x5 from hfb), (show RD (xpr 0) (xpf 1) (xpf 2) (xpf 3) (xpf 4) (ypn 0) (ypn 1) (ypn 2) (ypn 3) (ypf 0) (ypf 1) (ypf 2) (ypf 3) (ypf 4) (ypf 5) (ypf 6) from hRD), (show (ypn 7) = (xpn 3) from hDY), (show (ypn 6) = (xpn 6) from hBK), (show (ypf 17) = (xpf 28) from hKZ), (show ((ypf 16) 24 = nI (xpn 4) ∧ (ypf 16) 54 = nI (xpn 5)) from hI0), (show TN (xpr 0) (xpf 1) (xpf 2) (xpf 3) (xpf 4) from hTN), (show (∃ zE : Nat → Int32, (xpf 5) = snI zE (xpf 3) ((xpr 0) 2)) from hLF), (show (∃ zE : Nat → Int32, (xpf 6) = fcO (xpr 0) (xpf 1) (xpf 2) (xpf 5) zE 100) from hCF), (show ((ypf 18) = (xpf 29) ∧ (ypf 19) = (xpf 30) ∧ (ypf 20) = (xpf 31)) from hBD), (show BWr (xpr 0) (xpn 6) (xpf 30) (xpf 31) from hBW), (show CR (xpr 0) (xpf 7) (xpf 8) (xpf 9) (xpf 10) (xpf 11) (xpf 12) (xpf 13) (ypf 7) (ypf 8) (ypf 9) (ypf 10) (ypf 11) (ypf 12) (ypf 13) (ypf 14) from hCR), (show (ypi 3) = (xpi 2) from hWG), (show ((ypi 4) = (xpi 3) ∧ ¬ (xpi 3) < 0) from hSD), (show ((ypn 4) = (xpn 1) ∧ yeF (nI (ypn 4)) (ypi 1) = nI (xpn 2) ∧ (ypi 2) = (xpi 0)) from hLW), (show IR (xpr 0) ((xpf 28) 0) (xpf 14) (xpf 15) (xpf 16) (xpf 17) (xpf 18) (xpf 19) (xpf 20) (fun j => (ypf 16) (0 + j)) (fun j => (ypf 16) (3 + j)) (fun j => (ypf 16) (6 + j)) (fun j => (ypf 16) (9 + j)) (fun j => (ypf 16) (12 + j)) (fun j => (ypf 16) (15 + j)) (fun j => (ypf 16) (18 + j)) (fun j => (ypf 16) (21 + j)) ((ypf 16) 25) (xpi 4) ((ypf 16) 26) (xpi 5) from hIA), (show IR (xpr 0) ((xpf 28) 1) (xpf 21) (xpf 22) (xpf 23) (xpf 24) (xpf 25) (xpf 26) (xpf 27) (fun j => (ypf 16) (30 + j)) (fun j => (ypf 16) (33 + j)) (fun j => (ypf 16) (36 + j)) (fun j => (ypf 16) (39 + j)) (fun j => (ypf 16) (42 + j)) (fun j => (ypf 16) (45 + j)) (fun j => (ypf 16) (48 + j)) (fun j => (ypf 16) (51 + j)) ((ypf 16) 55) (xpi 6) ((ypf 16) 56) (xpi 7) from hIB)⟩ hP hD hS
        · exact absurd k4 h4
      · rcases hqm with ⟨k4, -⟩ | ⟨-, -, k5, k6, k7, k8, k9, k10⟩
        · exact absurd h4 k4
        · skip
          exact kk H locs ux um ⟨(fun i9 => ([0, nv, yv, xpn 3, xpn 4, xpn 5, xpn 6] : List (Nat)).getD i9 0), (fun i9 => ([g9, m4, xpi 2, xpi 3, xpi 4, xpi 5, xpi 6, xpi 7, x5, 0, xpi 10, xpi 11, xpi 12] : List (Int32)).getD i9 0), xpr, xpf, xpl, (fun i9 => ([ypn 0, ypn 1, ypn 2, ypn 3, y_nt9, 0, ypn 6, ypn 7] : List (Nat)).getD i9 0), (fun i9 => ([y_lc9, y_yt9, y_ag9, ypi 3, ypi 4, y_fp] : List (Int32)).getD i9 0), ypf, hXI, hMI, ⟨(show 0 ≤ 500 from Nat.zero_le _), (show ((xpr 0) 0 ≤ 7 ∧ (xpr 0) 1 ≤ 7 ∧ (xpr 0) 2 ≤ 20 ∧ (xpr 0) 3 ≤ 3) from ⟨hq0, hq1, hq2, hq3⟩), (show (∀ d, d < 100 → (xpr 1) d ≤ d + 1) from hal), (show NBr 3 4 ((xpr 0) 3) (xpf 4) from hNB), (show (1 ≤ nv ∧ nv ≤ 7) from hnv), (show yv ≤ 7 from hyv), (show (xpn 3) ≤ 100 * (i + 4) from by omega), (show (xpn 4) ≤ 100 * (i + 4) from by omega), (show (xpn 5) ≤ 100 * (i + 4) from by omega), (show (xpn 6) ≤ 20 from hbb), (show OB (xpf 36) from hOBx), (show CFB ((xpr 0) 1) (xpf 6) from hCFx), (show AK ((xpr 0) 1) (xpf 6) (xpr 1) from hAKx), (show MEM ((xpr 0) 1) (xpf 6) (xpf 33) (xpl 0) from hMMx)⟩, ⟨(show 0 ≤ 500 from Nat.zero_le _), (show ((ypn 0) ≤ 7 ∧ (ypn 1) ≤ 7 ∧ (ypn 2) ≤ 20 ∧ (ypn 3) ≤ 3) from ⟨hho, hsp, hnp, hmp⟩), (show (1 ≤ y_nt9 ∧ y_nt9 ≤ 7) from k9), (show (y_yt9 = -1 ∨ ∃ v : Nat, v ≤ 7 ∧ y_yt9 = nI v) from k10), (show LDI (ypf 13) (ypf 14) from hld), (show mB (ypn 3) (ypf 6) from hmB), (show (ypn 7) ≤ 100 * (i + 4) from by omega), (show (ypn 6) ≤ 20 from hbk), (show RW (ypf 19) (ypf 20) (ypn 6) from hRW), (show IMI (ypf 16) (100 * (i + 4)) from IMI_w hIM (by omega))⟩, (show 0 = 0 from rfl), (show (ypf 15) = (xpf 0) from hF), (show (∀ j, ¬ (xpf 0) j < 0) from hFP), (show y_fp = x5 from hfb), (show RD (xpr 0) (xpf 1) (xpf 2) (xpf 3) (xpf 4) (ypn 0) (ypn 1) (ypn 2) (ypn 3) (ypf 0) (ypf 1) (ypf 2) (ypf 3) (ypf 4) (ypf 5) (ypf 6) from hRD), (show (ypn 7) = (xpn 3) from hDY), (show (ypn 6) = (xpn 6) from hBK), (show (ypf 17) = (xpf 28) from hKZ), (show ((ypf 16) 24 = nI (xpn 4) ∧ (ypf 16) 54 = nI (xpn 5)) from hI0), (show TN (xpr 0) (xpf 1) (xpf 2) (xpf 3) (xpf 4) from hTN), (show (∃ zE : Nat → Int32, (xpf 5) = snI zE (xpf 3) ((xpr 0) 2)) from hLF), (show (∃ zE : Nat → Int32, (xpf 6) = fcO (xpr 0) (xpf 1) (xpf 2) (xpf 5) zE 100) from hCF), (show ((ypf 18) = (xpf 29) ∧ (ypf 19) = (xpf 30) ∧ (ypf 20) = (xpf 31)) from hBD), (show BWr (xpr 0) (xpn 6) (xpf 30) (xpf 31) from hBW), (show CR (xpr 0) (xpf 7) (xpf 8) (xpf 9) (xpf 10) (xpf 11) (xpf 12) (xpf 13) (ypf 7) (ypf 8) (ypf 9) (ypf 10) (ypf 11) (ypf 12) (ypf 13) (ypf 14) from hCR), (show (ypi 3) = (xpi 2) from hWG), (show ((ypi 4) = (xpi 3) ∧ ¬ (xpi 3) < 0) from hSD), (show (y_nt9 = nv ∧ yeF (nI y_nt9) y_yt9 = nI yv ∧ y_ag9 = g9) from ⟨(nI_eq (by omega) (by omega)).mp (k6.trans en), by rw [k6, k7]; exact ey, k8⟩), (show IR (xpr 0) ((xpf 28) 0) (xpf 14) (xpf 15) (xpf 16) (xpf 17) (xpf 18) (xpf 19) (xpf 20) (fun j => (ypf 16) (0 + j)) (fun j => (ypf 16) (3 + j)) (fun j => (ypf 16) (6 + j)) (fun j => (ypf 16) (9 + j)) (fun j => (ypf 16) (12 + j)) (fun j => (ypf 16) (15 + j)) (fun j => (ypf 16) (18 + j)) (fun j => (ypf 16) (21 + j)) ((ypf 16) 25) (xpi 4) ((ypf 16) 26) (xpi 5) from hIA), (show IR (xpr 0) ((xpf 28) 1) (xpf 21) (xpf 22) (xpf 23) (xpf 24) (xpf 25) (xpf 26) (xpf 27) (fun j => (ypf 16) (30 + j)) (fun j => (ypf 16) (33 + j)) (fun j => (ypf 16) (36 + j)) (fun j => (ypf 16) (39 + j)) (fun j => (ypf 16) (42 + j)) (fun j => (ypf 16) (45 + j)) (fun j => (ypf 16) (48 + j)) (fun j => (ypf 16) (51 + j)) ((ypf 16) 55) (xpi 6) ((ypf 16) 56) (xpi 7) from hIB)⟩ hP hD hS

set_option maxHeartbeats 20000000 in
set_option maxRecDepth 100000 in
theorem cs_fault {p : Program} {l : Launch} {e : Env} {s : State} {m : MethodId} {below : List Frame} {meth : Method} {c : Code} {b L : Nat} {xs : Nat → Int32} {D : va_G} {k : Nat → ClassId} {z : Nat → Nat} {A : Nat → Prop} {x y i : Nat} {wx wm : va_W} {H : Heap} {locs : List Loc} {ls : Array Slot} (C : lC p s m meth c b L xs D k z A) (hil : i + 4 ≤ L) (hJ : JN k x y i wx wm) (hP : va_P D vwCl (wx ++ wm) H) (hD : va_D A (wx ++ wm)) (hS : va_S A s.heap H locs) (hl : lv_has ls 4 [(3, .int (nI i)), (2, .ref y), (1, .ref x), (0, .ref b)]) (kk : ∀ (H : Heap) (locs : List Loc) (wx wm : va_W), JN k x y (i + 4) wx wm → va_P D vwCl (wx ++ wm) H → va_D A (wx ++ wm) → va_S A s.heap H locs → W p l e room_1 s m #[Value.ref b] below meth c H locs 123 7201 (lw_Z below #[Value.ref b] s) (F0 m 907 ls [])) : W p l e room_1 s m #[Value.ref b] below meth c H locs 123 7201 (lw_Z below #[Value.ref b] s) (F0 m 245 ls []) := by
  obtain ⟨hx, hb, hml, hown, hts, hX, hbl, hbA, hG, hZ, hA, hL⟩ := C
  obtain ⟨xpn, xpi, xpr, xpf, xpl, ypn, ypi, ypf, hXI, hMI, ⟨hn, ⟨hq0, hq1, hq2, hq3⟩, hal, hNB, hnn, hyy, hdyi, hda, hdb, hbb, hOBx, hCFx, hAKx, hMMx⟩, ⟨htx, ⟨hho, hsp, hnp, hmp⟩, hnt, hyt, hld, hmB, hddi, hbk, hRW, hIM⟩, hTX, hF, hFP, hFB, hRD, hDY, hBK, hKZ, hI0, hTN, hLF, hCF, hBD, hBW, hCR, hWG, hSD, hLW, hIA, hIB⟩ := hJ
  refine lv_aload_n hx hb dL_law_245 rfl (lv_at hl 2 rfl) ?_
  have hPc := va_P_left hP
  have hDc := va_D_left hD
  obtain ⟨fs9, hfs9⟩ := hXI.recv
  refine cl_i2 (wc := wx) (wr := wm) (va_runV (As := []) (rest := []) ⟨hx, hb, hml, hown, hts⟩ (F_X9_fault l D k H.size z x (xpn 0) (xpf 0) (xpr 0) (xpf 1) (xpf 2) (xpf 3) (xpf 4) (xpf 5) (xpf 6) (xpr 1) (xpn 1) (xpn 2) (xpi 0) (xpi 1) (xpf 7) (xpf 8) (xpf 9) (xpf 10) (xpf 11) (xpf 12) (xpf 13) (xpi 2) (xpn 3) (xpi 3) (xpf 14) (xpf 15) (xpf 16) (xpf 17) (xpf 18) (xpf 19) (xpf 20) (xpi 4) (xpn 4) (xpi 5) (xpf 21) (xpf 22) (xpf 23) (xpf 24) (xpf 25) (xpf 26) (xpf 27) (xpi 6) (xpn 5) (xpi 7) (xpf 28) (xpn 6) (xpf 29) (xpf 30) (xpf 31) (xpi 8) (xpf 32) (xpf 33) (xpl 0) (xpi 9) (xpi 10) (xpi 11) (xpi 12) (xpf 34) (xpf 35) (xpf 36)  wx hXI ) (cwV 0 hts gL_law_X9_fault rfl rfl rfl (by decide +kernel) ⟨Nat.le_of_ble_eq_true rfl, Nat.le_of_ble_eq_true rfl⟩) ⟨PT.blind _ _ _ _ _ _, va_recv hG.1 hPc (ci := 9) (q0 := 0) rfl hfs9, PT.pre hPc hDc hG hZ hS (A_left hD hS hA) [.ref x]⟩ rfl rfl hl.1 rfl (lv_room (Nat.le_of_ble_eq_true rfl)) dL_law_246 ⟨Nat.le_of_ble_eq_true rfl, Nat.le_of_ble_eq_true rfl⟩) hP hD hS hA (fun r u H locs hq9 hP hD hS => ?_)
  generalize r = rx at hq9 ⊢
  obtain ⟨ux, rfl⟩ : ∃ z, z = u := ⟨_, rfl⟩
  obtain ⟨hqx, hXI⟩ := hq9
  refine lv_pop hx hb dL_law_249 rfl ?_
  refine lv_aload_n hx hb dL_law_250 rfl (lv_at hl 1 rfl) ?_
  have hPc := va_P_left hP
  have hDc := va_D_left hD
  obtain ⟨fs9, hfs9⟩ := hMI.recv
  refine cl_i2 (wc := wm) (wr := ux) (va_runV (As := []) (rest := []) ⟨hx, hb, hml, hown, hts⟩ (F_X10_fault l D k H.size z y (ypn 0) (ypn 1) (ypn 2) (ypn 3) (ypn 4) (ypn 5) (ypn 6) (ypn 7) (ypi 0) (ypi 1) (ypi 2) (ypi 3) (ypi 4) (ypi 5) (ypf 0) (ypf 1) (ypf 2) (ypf 3) (ypf 4) (ypf 5) (ypf 6) (ypf 7) (ypf 8) (ypf 9) (ypf 10) (ypf 11) (ypf 12) (ypf 13) (ypf 14) (ypf 15) (ypf 16) (ypf 17) (ypf 18) (ypf 19) (ypf 20)  wm hMI ) (cwV 0 hts gL_law_X10_fault rfl rfl rfl (by decide +kernel) ⟨Nat.le_of_ble_eq_true rfl, Nat.le_of_ble_eq_true rfl⟩) ⟨PT.blind _ _ _ _ _ _, va_recv hG.1 hPc (ci := 10) (q0 := 0) rfl hfs9, PT.pre hPc hDc hG hZ hS (A_left hD hS hA) [.ref y]⟩ rfl rfl hl.1 rfl (lv_room (Nat.le_of_ble_eq_true rfl)) dL_law_251 ⟨Nat.le_of_ble_eq_true rfl, Nat.le_of_ble_eq_true rfl⟩) hP hD hS hA (fun r u H locs hq9 hP hD hS => ?_)
  generalize r = ry at hq9 ⊢
  obtain ⟨um, rfl⟩ : ∃ z, z = u := ⟨_, rfl⟩
  obtain ⟨hqm, hMI⟩ := hq9
  refine lv_pop hx hb dL_law_254 rfl ?_
  refine lv_goto (tgt := 907) hx hb dL_law_255 (by decide) ?_
  exact kk H locs ux um ⟨xpn, xpi, xpr, xpf, xpl, ypn, ypi, ypf, hXI, hMI, ⟨(show (xpn 0) ≤ 500 from hn), (show ((xpr 0) 0 ≤ 7 ∧ (xpr 0) 1 ≤ 7 ∧ (xpr 0) 2 ≤ 20 ∧ (xpr 0) 3 ≤ 3) from ⟨hq0, hq1, hq2, hq3⟩), (show (∀ d, d < 100 → (xpr 1) d ≤ d + 1) from hal), (show NBr 3 4 ((xpr 0) 3) (xpf 4) from hNB), (show (1 ≤ (xpn 1) ∧ (xpn 1) ≤ 7) from hnn), (show (xpn 2) ≤ 7 from hyy), (show (xpn 3) ≤ 100 * (i + 4) from by omega), (show (xpn 4) ≤ 100 * (i + 4) from by omega), (show (xpn 5) ≤ 100 * (i + 4) from by omega), (show (xpn 6) ≤ 20 from hbb), (show OB (xpf 36) from hOBx), (show CFB ((xpr 0) 1) (xpf 6) from hCFx), (show AK ((xpr 0) 1) (xpf 6) (xpr 1) from hAKx), (show MEM ((xpr 0) 1) (xpf 6) (xpf 33) (xpl 0) from hMMx)⟩, ⟨(show (ypn 5) ≤ 500 from htx), (show ((ypn 0) ≤ 7 ∧ (ypn 1) ≤ 7 ∧ (ypn 2) ≤ 20 ∧ (ypn 3) ≤ 3) from ⟨hho, hsp, hnp, hmp⟩), (show (1 ≤ (ypn 4) ∧ (ypn 4) ≤ 7) from hnt), (show ((ypi 1) = -1 ∨ ∃ v : Nat, v ≤ 7 ∧ (ypi 1) = nI v) from hyt), (show LDI (ypf 13) (ypf 14) from hld), (show mB (ypn 3) (ypf 6) from hmB), (show (ypn 7) ≤ 100 * (i + 4) from by omega), (show (ypn 6) ≤ 20 from hbk), (show RW (ypf 19) (ypf 20) (ypn 6) from hRW), (show IMI (ypf 16) (100 * (i + 4)) from IMI_w hIM (by omega))⟩, (show (ypn 5) = (xpn 0) from hTX), (show (ypf 15) = (xpf 0) from hF), (show (∀ j, ¬ (xpf 0) j < 0) from hFP), (show (ypi 5) = (xpi 8) from hFB), (show RD (xpr 0) (xpf 1) (xpf 2) (xpf 3) (xpf 4) (ypn 0) (ypn 1) (ypn 2) (ypn 3) (ypf 0) (ypf 1) (ypf 2) (ypf 3) (ypf 4) (ypf 5) (ypf 6) from hRD), (show (ypn 7) = (xpn 3) from hDY), (show (ypn 6) = (xpn 6) from hBK), (show (ypf 17) = (xpf 28) from hKZ), (show ((ypf 16) 24 = nI (xpn 4) ∧ (ypf 16) 54 = nI (xpn 5)) from hI0), (show TN (xpr 0) (xpf 1) (xpf 2) (xpf 3) (xpf 4) from hTN), (show (∃ zE : Nat → Int32, (xpf 5) = snI zE (xpf 3) ((xpr 0) 2)) from hLF), (show (∃ zE : Nat → Int32, (xpf 6) = fcO (xpr 0) (xpf 1) (xpf 2) (xpf 5) zE 100) from hCF), (show ((ypf 18) = (xpf 29) ∧ (ypf 19) = (xpf 30) ∧ (ypf 20) = (xpf 31)) from hBD), (show BWr (xpr 0) (xpn 6) (xpf 30) (xpf 31) from hBW), (show CR (xpr 0) (xpf 7) (xpf 8) (xpf 9) (xpf 10) (xpf 11) (xpf 12) (xpf 13) (ypf 7) (ypf 8) (ypf 9) (ypf 10) (ypf 11) (ypf 12) (ypf 13) (ypf 14) from hCR), (show (ypi 3) = (xpi 2) from hWG), (show ((ypi 4) = (xpi 3) ∧ ¬ (xpi 3) < 0) from hSD), (show ((ypn 4) = (xpn 1) ∧ yeF (nI (ypn 4)) (ypi 1) = nI (xpn 2) ∧ (ypi 2) = (xpi 0)) from hLW), (show IR (xpr 0) ((xpf 28) 0) (xpf 14) (xpf 15) (xpf 16) (xpf 17) (xpf 18) (xpf 19) (xpf 20) (fun j => (ypf 16) (0 + j)) (fun j => (ypf 16) (3 + j)) (fun j => (ypf 16) (6 + j)) (fun j => (ypf 16) (9 + j)) (fun j => (ypf 16) (12 + j)) (fun j => (ypf 16) (15 + j)) (fun j => (ypf 16) (18 + j)) (fun j => (ypf 16) (21 + j)) ((ypf 16) 25) (xpi 4) ((ypf 16) 26) (xpi 5) from hIA), (show IR (xpr 0) ((xpf 28) 1) (xpf 21) (xpf 22) (xpf 23) (xpf 24) (xpf 25) (xpf 26) (xpf 27) (fun j => (ypf 16) (30 + j)) (fun j => (ypf 16) (33 + j)) (fun j => (ypf 16) (36 + j)) (fun j => (ypf 16) (39 + j)) (fun j => (ypf 16) (42 + j)) (fun j => (ypf 16) (45 + j)) (fun j => (ypf 16) (48 + j)) (fun j => (ypf 16) (51 + j)) ((ypf 16) 55) (xpi 6) ((ypf 16) 56) (xpi 7) from hIB)⟩ hP hD hS

set_option maxHeartbeats 20000000 in
set_option maxRecDepth 100000 in
theorem cs_told {p : Program} {l : Launch} {e : Env} {s : State} {m : MethodId} {below : List Frame} {meth : Method} {c : Code} {b L : Nat} {xs : Nat → Int32} {D : va_G} {k : Nat → ClassId} {z : Nat → Nat} {A : Nat → Prop} {x y i : Nat} {wx wm : va_W} {H : Heap} {locs : List Loc} {ls : Array Slot} (C : lC p s m meth c b L xs D k z A) (hil : i + 4 ≤ L) (hJ : JN k x y i wx wm) (hP : va_P D vwCl (wx ++ wm) H) (hD : va_D A (wx ++ wm)) (hS : va_S A s.heap H locs) (hl : lv_has ls 4 [(3, .int (nI i)), (2, .ref y), (1, .ref x), (0, .ref b)]) (kk : ∀ (H : Heap) (locs : List Loc) (wx wm : va_W), JN k x y (i + 4) wx wm → va_P D vwCl (wx ++ wm) H → va_D A (wx ++ wm) → va_S A s.heap H locs → W p l e room_1 s m #[Value.ref b] below meth c H locs 123 7201 (lw_Z below #[Value.ref b] s) (F0 m 907 ls [])) : W p l e room_1 s m #[Value.ref b] below meth c H locs 123 7201 (lw_Z below #[Value.ref b] s) (F0 m 258 ls []) := by
  obtain ⟨hx, hb, hml, hown, hts, hX, hbl, hbA, hG, hZ, hA, hL⟩ := C
  obtain ⟨xpn, xpi, xpr, xpf, xpl, ypn, ypi, ypf, hXI, hMI, ⟨hn, ⟨hq0, hq1, hq2, hq3⟩, hal, hNB, hnn, hyy, hdyi, hda, hdb, hbb, hOBx, hCFx, hAKx, hMMx⟩, ⟨htx, ⟨hho, hsp, hnp, hmp⟩, hnt, hyt, hld, hmB, hddi, hbk, hRW, hIM⟩, hTX, hF, hFP, hFB, hRD, hDY, hBK, hKZ, hI0, hTN, hLF, hCF, hBD, hBW, hCR, hWG, hSD, hLW, hIA, hIB⟩ := hJ
  refine lv_aload_n hx hb dL_law_258 rfl (lv_at hl 2 rfl) ?_
  refine lv_aload_n hx hb dL_law_259 rfl (lv_at hl 3 rfl) ?_
  refine lv_iload_n hx hb dL_law_260 rfl (lv_at hl 0 rfl) ?_
  refine lv_iconst (v := 1) hx hb dL_law_261 (by decide) ?_
  refine lv_iadd hx hb dL_law_262 ?_
  refine tp_i (y := nI (i + 1)) (nI_add i 1) ?_
  refine va_sld hx hb hX hbl hbA hS (vp_in_nI (n := i + 1) (by omega) (by omega)) dL_law_263 ?_
  refine tp_i (y := xs (i + 1)) (congrArg xs (nI_clamp (n := i + 1) (by omega))) ?_
  have hPc := va_P_left hP
  have hDc := va_D_left hD
  obtain ⟨fs9, hfs9⟩ := hXI.recv
  refine cl_i2 (wc := wx) (wr := wm) (va_runV (As := [.int (xs (i + 1))]) (rest := []) ⟨hx, hb, hml, hown, hts⟩ (F_X9_told l D k H.size z x (xpn 0) (xpf 0) (xpr 0) (xpf 1) (xpf 2) (xpf 3) (xpf 4) (xpf 5) (xpf 6) (xpr 1) (xpn 1) (xpn 2) (xpi 0) (xpi 1) (xpf 7) (xpf 8) (xpf 9) (xpf 10) (xpf 11) (xpf 12) (xpf 13) (xpi 2) (xpn 3) (xpi 3) (xpf 14) (xpf 15) (xpf 16) (xpf 17) (xpf 18) (xpf 19) (xpf 20) (xpi 4) (xpn 4) (xpi 5) (xpf 21) (xpf 22) (xpf 23) (xpf 24) (xpf 25) (xpf 26) (xpf 27) (xpi 6) (xpn 5) (xpi 7) (xpf 28) (xpn 6) (xpf 29) (xpf 30) (xpf 31) (xpi 8) (xpf 32) (xpf 33) (xpl 0) (xpi 9) (xpi 10) (xpi 11) (xpi 12) (xpf 34) (xpf 35) (xpf 36) (xs (i + 1)) wx hXI (by first | assumption | omega)) (cwV 1 hts gL_law_X9_told rfl rfl rfl (by decide +kernel) ⟨Nat.le_of_ble_eq_true rfl, Nat.le_of_ble_eq_true rfl⟩) ⟨PT.blind _ _ _ _ _ _, va_recv hG.1 hPc (ci := 9) (q0 := 0) rfl hfs9, PT.pre hPc hDc hG hZ hS (A_left hD hS hA) [.ref x, .int (xs (i + 1))]⟩ rfl rfl hl.1 rfl (lv_room (Nat.le_of_ble_eq_true rfl)) dL_law_264 ⟨Nat.le_of_ble_eq_true rfl, Nat.le_of_ble_eq_true rfl⟩) hP hD hS hA (fun r u H locs hq9 hP hD hS => ?_)
  generalize r = rx at hq9 ⊢
  obtain ⟨ux, rfl⟩ : ∃ z, z = u := ⟨_, rfl⟩
  obtain ⟨hqx, hXI⟩ := hq9
  refine lv_pop hx hb dL_law_267 rfl ?_
  refine lv_aload_n hx hb dL_law_268 rfl (lv_at hl 1 rfl) ?_
  refine lv_aload_n hx hb dL_law_269 rfl (lv_at hl 3 rfl) ?_
  refine lv_iload_n hx hb dL_law_270 rfl (lv_at hl 0 rfl) ?_
  refine lv_iconst (v := 1) hx hb dL_law_271 (by decide) ?_
  refine lv_iadd hx hb dL_law_272 ?_
  refine tp_i (y := nI (i + 1)) (nI_add i 1) ?_
  refine va_sld hx hb hX hbl hbA hS (vp_in_nI (n := i + 1) (by omega) (by omega)) dL_law_273 ?_
  refine tp_i (y := xs (i + 1)) (congrArg xs (nI_clamp (n := i + 1) (by omega))) ?_
  have hPc := va_P_left hP
  have hDc := va_D_left hD
  obtain ⟨fs9, hfs9⟩ := hMI.recv
  refine cl_i2 (wc := wm) (wr := ux) (va_runV (As := [.int (xs (i + 1))]) (rest := []) ⟨hx, hb, hml, hown, hts⟩ (F_X10_told l D k H.size z y (ypn 0) (ypn 1) (ypn 2) (ypn 3) (ypn 4) (ypn 5) (ypn 6) (ypn 7) (ypi 0) (ypi 1) (ypi 2) (ypi 3) (ypi 4) (ypi 5) (ypf 0) (ypf 1) (ypf 2) (ypf 3) (ypf 4) (ypf 5) (ypf 6) (ypf 7) (ypf 8) (ypf 9) (ypf 10) (ypf 11) (ypf 12) (ypf 13) (ypf 14) (ypf 15) (ypf 16) (ypf 17) (ypf 18) (ypf 19) (ypf 20) (xs (i + 1)) wm hMI (by first | assumption | omega) (by first | assumption | omega) (by first | assumption | omega)) (cwV 1 hts gL_law_X10_told rfl rfl rfl (by decide +kernel) ⟨Nat.le_of_ble_eq_true rfl, Nat.le_of_ble_eq_true rfl⟩) ⟨PT.blind _ _ _ _ _ _, va_recv hG.1 hPc (ci := 10) (q0 := 0) rfl hfs9, PT.pre hPc hDc hG hZ hS (A_left hD hS hA) [.ref y, .int (xs (i + 1))]⟩ rfl rfl hl.1 rfl (lv_room (Nat.le_of_ble_eq_true rfl)) dL_law_274 ⟨Nat.le_of_ble_eq_true rfl, Nat.le_of_ble_eq_true rfl⟩) hP hD hS hA (fun r u H locs hq9 hP hD hS => ?_)
  generalize r = ry at hq9 ⊢
  obtain ⟨um, rfl⟩ : ∃ z, z = u := ⟨_, rfl⟩
  obtain ⟨hqm, hMI⟩ := hq9
  refine lv_pop hx hb dL_law_277 rfl ?_
  refine lv_goto (tgt := 907) hx hb dL_law_278 (by decide) ?_
  rw [hRD.1.1, hRD.1.2.1, hRD.1.2.2.2, hLW.2.1, hLW.1, hLW.2.2, hDY, hWG, hTX, hBK, ← scm_eq hq3 hCR.2.1 (fun m hm => (hCR.1 m hm).1) (fun m hm => (hCR.1 m hm).2.1) hRD.2.2.2.2 _ (Nat.le_refl _)] at hqm
  exact kk H locs ux um ⟨xpn, xpi, xpr, xpf, xpl, ypn, ypi, ypf, hXI, hMI, ⟨(show (xpn 0) ≤ 500 from hn), (show ((xpr 0) 0 ≤ 7 ∧ (xpr 0) 1 ≤ 7 ∧ (xpr 0) 2 ≤ 20 ∧ (xpr 0) 3 ≤ 3) from ⟨hq0, hq1, hq2, hq3⟩), (show (∀ d, d < 100 → (xpr 1) d ≤ d + 1) from hal), (show NBr 3 4 ((xpr 0) 3) (xpf 4) from hNB), (show (1 ≤ (xpn 1) ∧ (xpn 1) ≤ 7) from hnn), (show (xpn 2) ≤ 7 from hyy), (show (xpn 3) ≤ 100 * (i + 4) from by omega), (show (xpn 4) ≤ 100 * (i + 4) from by omega), (show (xpn 5) ≤ 100 * (i + 4) from by omega), (show (xpn 6) ≤ 20 from hbb), (show OB (xpf 36) from hOBx), (show CFB ((xpr 0) 1) (xpf 6) from hCFx), (show AK ((xpr 0) 1) (xpf 6) (xpr 1) from hAKx), (show MEM ((xpr 0) 1) (xpf 6) (xpf 33) (xpl 0) from hMMx)⟩, ⟨(show (ypn 5) ≤ 500 from htx), (show ((ypn 0) ≤ 7 ∧ (ypn 1) ≤ 7 ∧ (ypn 2) ≤ 20 ∧ (ypn 3) ≤ 3) from ⟨hho, hsp, hnp, hmp⟩), (show (1 ≤ (ypn 4) ∧ (ypn 4) ≤ 7) from hnt), (show ((ypi 1) = -1 ∨ ∃ v : Nat, v ≤ 7 ∧ (ypi 1) = nI v) from hyt), (show LDI (ypf 13) (ypf 14) from hld), (show mB (ypn 3) (ypf 6) from hmB), (show (ypn 7) ≤ 100 * (i + 4) from by omega), (show (ypn 6) ≤ 20 from hbk), (show RW (ypf 19) (ypf 20) (ypn 6) from hRW), (show IMI (ypf 16) (100 * (i + 4)) from IMI_w hIM (by omega))⟩, (show (ypn 5) = (xpn 0) from hTX), (show (ypf 15) = (xpf 0) from hF), (show (∀ j, ¬ (xpf 0) j < 0) from hFP), (show (ypi 5) = (xpi 8) from hFB), (show RD (xpr 0) (xpf 1) (xpf 2) (xpf 3) (xpf 4) (ypn 0) (ypn 1) (ypn 2) (ypn 3) (ypf 0) (ypf 1) (ypf 2) (ypf 3) (ypf 4) (ypf 5) (ypf 6) from hRD), (show (ypn 7) = (xpn 3) from hDY), (show (ypn 6) = (xpn 6) from hBK), (show (ypf 17) = (xpf 28) from hKZ), (show ((ypf 16) 24 = nI (xpn 4) ∧ (ypf 16) 54 = nI (xpn 5)) from hI0), (show TN (xpr 0) (xpf 1) (xpf 2) (xpf 3) (xpf 4) from hTN), (show (∃ zE : Nat → Int32, (xpf 5) = snI zE (xpf 3) ((xpr 0) 2)) from hLF), (show (∃ zE : Nat → Int32, (xpf 6) = fcO (xpr 0) (xpf 1) (xpf 2) (xpf 5) zE 100) from hCF), (show ((ypf 18) = (xpf 29) ∧ (ypf 19) = (xpf 30) ∧ (ypf 20) = (xpf 31)) from hBD), (show BWr (xpr 0) (xpn 6) (xpf 30) (xpf 31) from hBW), (show CR (xpr 0) (xpf 7) (xpf 8) (xpf 9) (xpf 10) (xpf 11) (xpf 12) (xpf 13) (ypf 7) (ypf 8) (ypf 9) (ypf 10) (ypf 11) (ypf 12) (ypf 13) (ypf 14) from hCR), (show (ypi 3) = (xpi 2) from hWG), (show ((ypi 4) = (xpi 3) ∧ ¬ (xpi 3) < 0) from hSD), (show ((ypn 4) = (xpn 1) ∧ yeF (nI (ypn 4)) (ypi 1) = nI (xpn 2) ∧ (ypi 2) = (xpi 0)) from hLW), (show IR (xpr 0) ((xpf 28) 0) (xpf 14) (xpf 15) (xpf 16) (xpf 17) (xpf 18) (xpf 19) (xpf 20) (fun j => (ypf 16) (0 + j)) (fun j => (ypf 16) (3 + j)) (fun j => (ypf 16) (6 + j)) (fun j => (ypf 16) (9 + j)) (fun j => (ypf 16) (12 + j)) (fun j => (ypf 16) (15 + j)) (fun j => (ypf 16) (18 + j)) (fun j => (ypf 16) (21 + j)) ((ypf 16) 25) (xpi 4) ((ypf 16) 26) (xpi 5) from hIA), (show IR (xpr 0) ((xpf 28) 1) (xpf 21) (xpf 22) (xpf 23) (xpf 24) (xpf 25) (xpf 26) (xpf 27) (fun j => (ypf 16) (30 + j)) (fun j => (ypf 16) (33 + j)) (fun j => (ypf 16) (36 + j)) (fun j => (ypf 16) (39 + j)) (fun j => (ypf 16) (42 + j)) (fun j => (ypf 16) (45 + j)) (fun j => (ypf 16) (48 + j)) (fun j => (ypf 16) (51 + j)) ((ypf 16) 55) (xpi 6) ((ypf 16) 56) (xpi 7) from hIB)⟩ hP hD hS

set_option maxHeartbeats 20000000 in
set_option maxRecDepth 100000 in
theorem cs_house {p : Program} {l : Launch} {e : Env} {s : State} {m : MethodId} {below : List Frame} {meth : Method} {c : Code} {b L : Nat} {xs : Nat → Int32} {D : va_G} {k : Nat → ClassId} {z : Nat → Nat} {A : Nat → Prop} {x y i : Nat} {wx wm : va_W} {H : Heap} {locs : List Loc} {ls : Array Slot} (C : lC p s m meth c b L xs D k z A) (hil : i + 4 ≤ L) (hJ : JN k x y i wx wm) (hP : va_P D vwCl (wx ++ wm) H) (hD : va_D A (wx ++ wm)) (hS : va_S A s.heap H locs) (hl : lv_has ls 4 [(3, .int (nI i)), (2, .ref y), (1, .ref x), (0, .ref b)]) (kk : ∀ (H : Heap) (locs : List Loc) (wx wm : va_W), JN k x y (i + 4) wx wm → va_P D vwCl (wx ++ wm) H → va_D A (wx ++ wm) → va_S A s.heap H locs → W p l e room_1 s m #[Value.ref b] below meth c H locs 123 7201 (lw_Z below #[Value.ref b] s) (F0 m 907 ls [])) : W p l e room_1 s m #[Value.ref b] below meth c H locs 123 7201 (lw_Z below #[Value.ref b] s) (F0 m 281 ls []) := by
  obtain ⟨hx, hb, hml, hown, hts, hX, hbl, hbA, hG, hZ, hA, hL⟩ := C
  obtain ⟨xpn, xpi, xpr, xpf, xpl, ypn, ypi, ypf, hXI, hMI, ⟨hn, ⟨hq0, hq1, hq2, hq3⟩, hal, hNB, hnn, hyy, hdyi, hda, hdb, hbb, hOBx, hCFx, hAKx, hMMx⟩, ⟨htx, ⟨hho, hsp, hnp, hmp⟩, hnt, hyt, hld, hmB, hddi, hbk, hRW, hIM⟩, hTX, hF, hFP, hFB, hRD, hDY, hBK, hKZ, hI0, hTN, hLF, hCF, hBD, hBW, hCR, hWG, hSD, hLW, hIA, hIB⟩ := hJ
  refine lv_aload_n hx hb dL_law_281 rfl (lv_at hl 2 rfl) ?_
  refine lv_aload_n hx hb dL_law_282 rfl (lv_at hl 3 rfl) ?_
  refine lv_iload_n hx hb dL_law_283 rfl (lv_at hl 0 rfl) ?_
  refine lv_iconst (v := 1) hx hb dL_law_284 (by decide) ?_
  refine lv_iadd hx hb dL_law_285 ?_
  refine tp_i (y := nI (i + 1)) (nI_add i 1) ?_
  refine va_sld hx hb hX hbl hbA hS (vp_in_nI (n := i + 1) (by omega) (by omega)) dL_law_286 ?_
  refine tp_i (y := xs (i + 1)) (congrArg xs (nI_clamp (n := i + 1) (by omega))) ?_
  refine lv_aload_n hx hb dL_law_287 rfl (lv_at hl 3 rfl) ?_
  refine lv_iload_n hx hb dL_law_288 rfl (lv_at hl 0 rfl) ?_
  refine lv_iconst (v := 2) hx hb dL_law_289 (by decide) ?_
  refine lv_iadd hx hb dL_law_290 ?_
  refine tp_i (y := nI (i + 2)) (nI_add i 2) ?_
  refine va_sld hx hb hX hbl hbA hS (vp_in_nI (n := i + 2) (by omega) (by omega)) dL_law_291 ?_
  refine tp_i (y := xs (i + 2)) (congrArg xs (nI_clamp (n := i + 2) (by omega))) ?_
  have hPc := va_P_left hP
  have hDc := va_D_left hD
  obtain ⟨fs9, hfs9⟩ := hXI.recv
  refine cl_i2 (wc := wx) (wr := wm) (va_runV (As := [.int (xs (i + 1)), .int (xs (i + 2))]) (rest := []) ⟨hx, hb, hml, hown, hts⟩ (F_X9_house l D k H.size z x (xpn 0) (xpf 0) (xpr 0) (xpf 1) (xpf 2) (xpf 3) (xpf 4) (xpf 5) (xpf 6) (xpr 1) (xpn 1) (xpn 2) (xpi 0) (xpi 1) (xpf 7) (xpf 8) (xpf 9) (xpf 10) (xpf 11) (xpf 12) (xpf 13) (xpi 2) (xpn 3) (xpi 3) (xpf 14) (xpf 15) (xpf 16) (xpf 17) (xpf 18) (xpf 19) (xpf 20) (xpi 4) (xpn 4) (xpi 5) (xpf 21) (xpf 22) (xpf 23) (xpf 24) (xpf 25) (xpf 26) (xpf 27) (xpi 6) (xpn 5) (xpi 7) (xpf 28) (xpn 6) (xpf 29) (xpf 30) (xpf 31) (xpi 8) (xpf 32) (xpf 33) (xpl 0) (xpi 9) (xpi 10) (xpi 11) (xpi 12) (xpf 34) (xpf 35) (xpf 36) (xs (i + 1)) (xs (i + 2)) wx hXI (by first | assumption | omega)) (cwV 2 hts gL_law_X9_house rfl rfl rfl (by decide +kernel) ⟨Nat.le_of_ble_eq_true rfl, Nat.le_of_ble_eq_true rfl⟩) ⟨PT.blind _ _ _ _ _ _, va_recv hG.1 hPc (ci := 9) (q0 := 0) rfl hfs9, PT.pre hPc hDc hG hZ hS (A_left hD hS hA) [.ref x, .int (xs (i + 1)), .int (xs (i + 2))]⟩ rfl rfl hl.1 rfl (lv_room (Nat.le_of_ble_eq_true rfl)) dL_law_292 ⟨Nat.le_of_ble_eq_true rfl, Nat.le_of_ble_eq_true rfl⟩) hP hD hS hA (fun r u H locs hq9 hP hD hS => ?_)
  generalize r = rx at hq9 ⊢
  obtain ⟨ux, rfl⟩ : ∃ z, z = u := ⟨_, rfl⟩
  obtain ⟨hqx, hXI⟩ := hq9
  refine lv_pop hx hb dL_law_295 rfl ?_
  refine lv_aload_n hx hb dL_law_296 rfl (lv_at hl 1 rfl) ?_
  refine lv_aload_n hx hb dL_law_297 rfl (lv_at hl 3 rfl) ?_
  refine lv_iload_n hx hb dL_law_298 rfl (lv_at hl 0 rfl) ?_
  refine lv_iconst (v := 1) hx hb dL_law_299 (by decide) ?_
  refine lv_iadd hx hb dL_law_300 ?_
  refine tp_i (y := nI (i + 1)) (nI_add i 1) ?_
  refine va_sld hx hb hX hbl hbA hS (vp_in_nI (n := i + 1) (by omega) (by omega)) dL_law_301 ?_
  refine tp_i (y := xs (i + 1)) (congrArg xs (nI_clamp (n := i + 1) (by omega))) ?_
  refine lv_aload_n hx hb dL_law_302 rfl (lv_at hl 3 rfl) ?_
  refine lv_iload_n hx hb dL_law_303 rfl (lv_at hl 0 rfl) ?_
  refine lv_iconst (v := 2) hx hb dL_law_304 (by decide) ?_
  refine lv_iadd hx hb dL_law_305 ?_
  refine tp_i (y := nI (i + 2)) (nI_add i 2) ?_
  refine va_sld hx hb hX hbl hbA hS (vp_in_nI (n := i + 2) (by omega) (by omega)) dL_law_306 ?_
  refine tp_i (y := xs (i + 2)) (congrArg xs (nI_clamp (n := i + 2) (by omega))) ?_
  have hPc := va_P_left hP
  have hDc := va_D_left hD
  obtain ⟨fs9, hfs9⟩ := hMI.recv
  refine cl_i2 (wc := wm) (wr := ux) (va_runV (As := [.int (xs (i + 1)), .int (xs (i + 2))]) (rest := []) ⟨hx, hb, hml, hown, hts⟩ (F_X10_house l D k H.size z y (ypn 0) (ypn 1) (ypn 2) (ypn 3) (ypn 4) (ypn 5) (ypn 6) (ypn 7) (ypi 0) (ypi 1) (ypi 2) (ypi 3) (ypi 4) (ypi 5) (ypf 0) (ypf 1) (ypf 2) (ypf 3) (ypf 4) (ypf 5) (ypf 6) (ypf 7) (ypf 8) (ypf 9) (ypf 10) (ypf 11) (ypf 12) (ypf 13) (ypf 14) (ypf 15) (ypf 16) (ypf 17) (ypf 18) (ypf 19) (ypf 20) ((xs (i + 1)).toNatClampNeg) (xs (i + 1)) (xs (i + 2)) wm hMI (by first | assumption | omega) (by first | assumption | omega) (is_cl (by omega))) (cwV 2 hts gL_law_X10_house rfl rfl rfl (by decide +kernel) ⟨Nat.le_of_ble_eq_true rfl, Nat.le_of_ble_eq_true rfl⟩) ⟨PT.blind _ _ _ _ _ _, va_recv hG.1 hPc (ci := 10) (q0 := 0) rfl hfs9, PT.pre hPc hDc hG hZ hS (A_left hD hS hA) [.ref y, .int (xs (i + 1)), .int (xs (i + 2))]⟩ rfl rfl hl.1 rfl (lv_room (Nat.le_of_ble_eq_true rfl)) dL_law_307 ⟨Nat.le_of_ble_eq_true rfl, Nat.le_of_ble_eq_true rfl⟩) hP hD hS hA (fun r u H locs hq9 hP hD hS => ?_)
  generalize r = ry at hq9 ⊢
  obtain ⟨um, rfl⟩ : ∃ z, z = u := ⟨_, rfl⟩
  obtain ⟨hqm, hMI⟩ := hq9
  refine lv_pop hx hb dL_law_310 rfl ?_
  refine lv_goto (tgt := 907) hx hb dL_law_311 (by decide) ?_
  exact kk H locs ux um ⟨xpn, xpi, xpr, xpf, xpl, ypn, ypi, ypf, hXI, hMI, ⟨(show (xpn 0) ≤ 500 from hn), (show ((xpr 0) 0 ≤ 7 ∧ (xpr 0) 1 ≤ 7 ∧ (xpr 0) 2 ≤ 20 ∧ (xpr 0) 3 ≤ 3) from ⟨hq0, hq1, hq2, hq3⟩), (show (∀ d, d < 100 → (xpr 1) d ≤ d + 1) from hal), (show NBr 3 4 ((xpr 0) 3) (xpf 4) from hNB), (show (1 ≤ (xpn 1) ∧ (xpn 1) ≤ 7) from hnn), (show (xpn 2) ≤ 7 from hyy), (show (xpn 3) ≤ 100 * (i + 4) from by omega), (show (xpn 4) ≤ 100 * (i + 4) from by omega), (show (xpn 5) ≤ 100 * (i + 4) from by omega), (show (xpn 6) ≤ 20 from hbb), (show OB (xpf 36) from hOBx), (show CFB ((xpr 0) 1) (xpf 6) from hCFx), (show AK ((xpr 0) 1) (xpf 6) (xpr 1) from hAKx), (show MEM ((xpr 0) 1) (xpf 6) (xpf 33) (xpl 0) from hMMx)⟩, ⟨(show (ypn 5) ≤ 500 from htx), (show ((ypn 0) ≤ 7 ∧ (ypn 1) ≤ 7 ∧ (ypn 2) ≤ 20 ∧ (ypn 3) ≤ 3) from ⟨hho, hsp, hnp, hmp⟩), (show (1 ≤ (ypn 4) ∧ (ypn 4) ≤ 7) from hnt), (show ((ypi 1) = -1 ∨ ∃ v : Nat, v ≤ 7 ∧ (ypi 1) = nI v) from hyt), (show LDI (ypf 13) (ypf 14) from hld), (show mB (ypn 3) (ypf 6) from hmB), (show (ypn 7) ≤ 100 * (i + 4) from by omega), (show (ypn 6) ≤ 20 from hbk), (show RW (ypf 19) (ypf 20) (ypn 6) from hRW), (show IMI (ypf 16) (100 * (i + 4)) from IMI_w hIM (by omega))⟩, (show (ypn 5) = (xpn 0) from hTX), (show (ypf 15) = (xpf 0) from hF), (show (∀ j, ¬ (xpf 0) j < 0) from hFP), (show (ypi 5) = (xpi 8) from hFB), (show RD (xpr 0) (xpf 1) (xpf 2) (xpf 3) (xpf 4) (ypn 0) (ypn 1) (ypn 2) (ypn 3) (ypf 0) (ypf 1) (ypf 2) (ypf 3) (ypf 4) (ypf 5) (ypf 6) from hRD), (show (ypn 7) = (xpn 3) from hDY), (show (ypn 6) = (xpn 6) from hBK), (show (ypf 17) = (xpf 28) from hKZ), (show ((ypf 16) 24 = nI (xpn 4) ∧ (ypf 16) 54 = nI (xpn 5)) from hI0), (show TN (xpr 0) (xpf 1) (xpf 2) (xpf 3) (xpf 4) from hTN), (show (∃ zE : Nat → Int32, (xpf 5) = snI zE (xpf 3) ((xpr 0) 2)) from hLF), (show (∃ zE : Nat → Int32, (xpf 6) = fcO (xpr 0) (xpf 1) (xpf 2) (xpf 5) zE 100) from hCF), (show ((ypf 18) = (xpf 29) ∧ (ypf 19) = (xpf 30) ∧ (ypf 20) = (xpf 31)) from hBD), (show BWr (xpr 0) (xpn 6) (xpf 30) (xpf 31) from hBW), (show CR (xpr 0) (xpf 7) (xpf 8) (xpf 9) (xpf 10) (xpf 11) (xpf 12) (xpf 13) (ypf 7) (ypf 8) (ypf 9) (ypf 10) (ypf 11) (ypf 12) (ypf 13) (ypf 14) from hCR), (show (ypi 3) = (xpi 2) from hWG), (show ((ypi 4) = (xpi 3) ∧ ¬ (xpi 3) < 0) from hSD), (show ((ypn 4) = (xpn 1) ∧ yeF (nI (ypn 4)) (ypi 1) = nI (xpn 2) ∧ (ypi 2) = (xpi 0)) from hLW), (show IR (xpr 0) ((xpf 28) 0) (xpf 14) (xpf 15) (xpf 16) (xpf 17) (xpf 18) (xpf 19) (xpf 20) (fun j => (ypf 16) (0 + j)) (fun j => (ypf 16) (3 + j)) (fun j => (ypf 16) (6 + j)) (fun j => (ypf 16) (9 + j)) (fun j => (ypf 16) (12 + j)) (fun j => (ypf 16) (15 + j)) (fun j => (ypf 16) (18 + j)) (fun j => (ypf 16) (21 + j)) ((ypf 16) 25) (xpi 4) ((ypf 16) 26) (xpi 5) from hIA), (show IR (xpr 0) ((xpf 28) 1) (xpf 21) (xpf 22) (xpf 23) (xpf 24) (xpf 25) (xpf 26) (xpf 27) (fun j => (ypf 16) (30 + j)) (fun j => (ypf 16) (33 + j)) (fun j => (ypf 16) (36 + j)) (fun j => (ypf 16) (39 + j)) (fun j => (ypf 16) (42 + j)) (fun j => (ypf 16) (45 + j)) (fun j => (ypf 16) (48 + j)) (fun j => (ypf 16) (51 + j)) ((ypf 16) 55) (xpi 6) ((ypf 16) 56) (xpi 7) from hIB)⟩ hP hD hS

set_option maxHeartbeats 20000000 in
set_option maxRecDepth 100000 in
theorem cs_sleeper {p : Program} {l : Launch} {e : Env} {s : State} {m : MethodId} {below : List Frame} {meth : Method} {c : Code} {b L : Nat} {xs : Nat → Int32} {D : va_G} {k : Nat → ClassId} {z : Nat → Nat} {A : Nat → Prop} {x y i : Nat} {wx wm : va_W} {H : Heap} {locs : List Loc} {ls : Array Slot} (C : lC p s m meth c b L xs D k z A) (hil : i + 4 ≤ L) (hJ : JN k x y i wx wm) (hP : va_P D vwCl (wx ++ wm) H) (hD : va_D A (wx ++ wm)) (hS : va_S A s.heap H locs) (hl : lv_has ls 4 [(3, .int (nI i)), (2, .ref y), (1, .ref x), (0, .ref b)]) (kk : ∀ (H : Heap) (locs : List Loc) (wx wm : va_W), JN k x y (i + 4) wx wm → va_P D vwCl (wx ++ wm) H → va_D A (wx ++ wm) → va_S A s.heap H locs → W p l e room_1 s m #[Value.ref b] below meth c H locs 123 7201 (lw_Z below #[Value.ref b] s) (F0 m 907 ls [])) : W p l e room_1 s m #[Value.ref b] below meth c H locs 123 7201 (lw_Z below #[Value.ref b] s) (F0 m 314 ls []) := by
  obtain ⟨hx, hb, hml, hown, hts, hX, hbl, hbA, hG, hZ, hA, hL⟩ := C
  obtain ⟨xpn, xpi, xpr, xpf, xpl, ypn, ypi, ypf, hXI, hMI, ⟨hn, ⟨hq0, hq1, hq2, hq3⟩, hal, hNB, hnn, hyy, hdyi, hda, hdb, hbb, hOBx, hCFx, hAKx, hMMx⟩, ⟨htx, ⟨hho, hsp, hnp, hmp⟩, hnt, hyt, hld, hmB, hddi, hbk, hRW, hIM⟩, hTX, hF, hFP, hFB, hRD, hDY, hBK, hKZ, hI0, hTN, hLF, hCF, hBD, hBW, hCR, hWG, hSD, hLW, hIA, hIB⟩ := hJ
  refine lv_aload_n hx hb dL_law_314 rfl (lv_at hl 2 rfl) ?_
  refine lv_aload_n hx hb dL_law_315 rfl (lv_at hl 3 rfl) ?_
  refine lv_iload_n hx hb dL_law_316 rfl (lv_at hl 0 rfl) ?_
  refine lv_iconst (v := 1) hx hb dL_law_317 (by decide) ?_
  refine lv_iadd hx hb dL_law_318 ?_
  refine tp_i (y := nI (i + 1)) (nI_add i 1) ?_
  refine va_sld hx hb hX hbl hbA hS (vp_in_nI (n := i + 1) (by omega) (by omega)) dL_law_319 ?_
  refine tp_i (y := xs (i + 1)) (congrArg xs (nI_clamp (n := i + 1) (by omega))) ?_
  refine lv_aload_n hx hb dL_law_320 rfl (lv_at hl 3 rfl) ?_
  refine lv_iload_n hx hb dL_law_321 rfl (lv_at hl 0 rfl) ?_
  refine lv_iconst (v := 2) hx hb dL_law_322 (by decide) ?_
  refine lv_iadd hx hb dL_law_323 ?_
  refine tp_i (y := nI (i + 2)) (nI_add i 2) ?_
  refine va_sld hx hb hX hbl hbA hS (vp_in_nI (n := i + 2) (by omega) (by omega)) dL_law_324 ?_
  refine tp_i (y := xs (i + 2)) (congrArg xs (nI_clamp (n := i + 2) (by omega))) ?_
  have hPc := va_P_left hP
  have hDc := va_D_left hD
  obtain ⟨fs9, hfs9⟩ := hXI.recv
  refine cl_i2 (wc := wx) (wr := wm) (va_runV (As := [.int (xs (i + 1)), .int (xs (i + 2))]) (rest := []) ⟨hx, hb, hml, hown, hts⟩ (F_X9_sleeper l D k H.size z x (xpn 0) (xpf 0) (xpr 0) (xpf 1) (xpf 2) (xpf 3) (xpf 4) (xpf 5) (xpf 6) (xpr 1) (xpn 1) (xpn 2) (xpi 0) (xpi 1) (xpf 7) (xpf 8) (xpf 9) (xpf 10) (xpf 11) (xpf 12) (xpf 13) (xpi 2) (xpn 3) (xpi 3) (xpf 14) (xpf 15) (xpf 16) (xpf 17) (xpf 18) (xpf 19) (xpf 20) (xpi 4) (xpn 4) (xpi 5) (xpf 21) (xpf 22) (xpf 23) (xpf 24) (xpf 25) (xpf 26) (xpf 27) (xpi 6) (xpn 5) (xpi 7) (xpf 28) (xpn 6) (xpf 29) (xpf 30) (xpf 31) (xpi 8) (xpf 32) (xpf 33) (xpl 0) (xpi 9) (xpi 10) (xpi 11) (xpi 12) (xpf 34) (xpf 35) (xpf 36) (xs (i + 1)) (xs (i + 2)) wx hXI (by first | assumption | omega)) (cwV 2 hts gL_law_X9_sleeper rfl rfl rfl (by decide +kernel) ⟨Nat.le_of_ble_eq_true rfl, Nat.le_of_ble_eq_true rfl⟩) ⟨PT.blind _ _ _ _ _ _, va_recv hG.1 hPc (ci := 9) (q0 := 0) rfl hfs9, PT.pre hPc hDc hG hZ hS (A_left hD hS hA) [.ref x, .int (xs (i + 1)), .int (xs (i + 2))]⟩ rfl rfl hl.1 rfl (lv_room (Nat.le_of_ble_eq_true rfl)) dL_law_325 ⟨Nat.le_of_ble_eq_true rfl, Nat.le_of_ble_eq_true rfl⟩) hP hD hS hA (fun r u H locs hq9 hP hD hS => ?_)
  generalize r = rx at hq9 ⊢
  obtain ⟨ux, rfl⟩ : ∃ z, z = u := ⟨_, rfl⟩
  obtain ⟨hqx, hXI⟩ := hq9
  refine lv_pop hx hb dL_law_328 rfl ?_
  refine lv_aload_n hx hb dL_law_329 rfl (lv_at hl 1 rfl) ?_
  refine lv_aload_n hx hb dL_law_330 rfl (lv_at hl 3 rfl) ?_
  refine lv_iload_n hx hb dL_law_331 rfl (lv_at hl 0 rfl) ?_
  refine lv_iconst (v := 1) hx hb dL_law_332 (by decide) ?_
  refine lv_iadd hx hb dL_law_333 ?_
  refine tp_i (y := nI (i + 1)) (nI_add i 1) ?_
  refine va_sld hx hb hX hbl hbA hS (vp_in_nI (n := i + 1) (by omega) (by omega)) dL_law_334 ?_
  refine tp_i (y := xs (i + 1)) (congrArg xs (nI_clamp (n := i + 1) (by omega))) ?_
  refine lv_aload_n hx hb dL_law_335 rfl (lv_at hl 3 rfl) ?_
  refine lv_iload_n hx hb dL_law_336 rfl (lv_at hl 0 rfl) ?_
  refine lv_iconst (v := 2) hx hb dL_law_337 (by decide) ?_
  refine lv_iadd hx hb dL_law_338 ?_
  refine tp_i (y := nI (i + 2)) (nI_add i 2) ?_
  refine va_sld hx hb hX hbl hbA hS (vp_in_nI (n := i + 2) (by omega) (by omega)) dL_law_339 ?_
  refine tp_i (y := xs (i + 2)) (congrArg xs (nI_clamp (n := i + 2) (by omega))) ?_
  have hPc := va_P_left hP
  have hDc := va_D_left hD
  obtain ⟨fs9, hfs9⟩ := hMI.recv
  refine cl_i2 (wc := wm) (wr := ux) (va_runV (As := [.int (xs (i + 1)), .int (xs (i + 2))]) (rest := []) ⟨hx, hb, hml, hown, hts⟩ (F_X10_sleeper l D k H.size z y (ypn 0) (ypn 1) (ypn 2) (ypn 3) (ypn 4) (ypn 5) (ypn 6) (ypn 7) (ypi 0) (ypi 1) (ypi 2) (ypi 3) (ypi 4) (ypi 5) (ypf 0) (ypf 1) (ypf 2) (ypf 3) (ypf 4) (ypf 5) (ypf 6) (ypf 7) (ypf 8) (ypf 9) (ypf 10) (ypf 11) (ypf 12) (ypf 13) (ypf 14) (ypf 15) (ypf 16) (ypf 17) (ypf 18) (ypf 19) (ypf 20) ((xs (i + 1)).toNatClampNeg) (xs (i + 1)) (xs (i + 2)) wm hMI (by first | assumption | omega) (by first | assumption | omega) (is_cl (by omega))) (cwV 2 hts gL_law_X10_sleeper rfl rfl rfl (by decide +kernel) ⟨Nat.le_of_ble_eq_true rfl, Nat.le_of_ble_eq_true rfl⟩) ⟨PT.blind _ _ _ _ _ _, va_recv hG.1 hPc (ci := 10) (q0 := 0) rfl hfs9, PT.pre hPc hDc hG hZ hS (A_left hD hS hA) [.ref y, .int (xs (i + 1)), .int (xs (i + 2))]⟩ rfl rfl hl.1 rfl (lv_room (Nat.le_of_ble_eq_true rfl)) dL_law_340 ⟨Nat.le_of_ble_eq_true rfl, Nat.le_of_ble_eq_true rfl⟩) hP hD hS hA (fun r u H locs hq9 hP hD hS => ?_)
  generalize r = ry at hq9 ⊢
  obtain ⟨um, rfl⟩ : ∃ z, z = u := ⟨_, rfl⟩
  obtain ⟨hqm, hMI⟩ := hq9
  refine lv_pop hx hb dL_law_343 rfl ?_
  refine lv_goto (tgt := 907) hx hb dL_law_344 (by decide) ?_
  exact kk H locs ux um ⟨xpn, xpi, xpr, xpf, xpl, ypn, ypi, ypf, hXI, hMI, ⟨(show (xpn 0) ≤ 500 from hn), (show ((xpr 0) 0 ≤ 7 ∧ (xpr 0) 1 ≤ 7 ∧ (xpr 0) 2 ≤ 20 ∧ (xpr 0) 3 ≤ 3) from ⟨hq0, hq1, hq2, hq3⟩), (show (∀ d, d < 100 → (xpr 1) d ≤ d + 1) from hal), (show NBr 3 4 ((xpr 0) 3) (xpf 4) from hNB), (show (1 ≤ (xpn 1) ∧ (xpn 1) ≤ 7) from hnn), (show (xpn 2) ≤ 7 from hyy), (show (xpn 3) ≤ 100 * (i + 4) from by omega), (show (xpn 4) ≤ 100 * (i + 4) from by omega), (show (xpn 5) ≤ 100 * (i + 4) from by omega), (show (xpn 6) ≤ 20 from hbb), (show OB (xpf 36) from hOBx), (show CFB ((xpr 0) 1) (xpf 6) from hCFx), (show AK ((xpr 0) 1) (xpf 6) (xpr 1) from hAKx), (show MEM ((xpr 0) 1) (xpf 6) (xpf 33) (xpl 0) from hMMx)⟩, ⟨(show (ypn 5) ≤ 500 from htx), (show ((ypn 0) ≤ 7 ∧ (ypn 1) ≤ 7 ∧ (ypn 2) ≤ 20 ∧ (ypn 3) ≤ 3) from ⟨hho, hsp, hnp, hmp⟩), (show (1 ≤ (ypn 4) ∧ (ypn 4) ≤ 7) from hnt), (show ((ypi 1) = -1 ∨ ∃ v : Nat, v ≤ 7 ∧ (ypi 1) = nI v) from hyt), (show LDI (ypf 13) (ypf 14) from hld), (show mB (ypn 3) (ypf 6) from hmB), (show (ypn 7) ≤ 100 * (i + 4) from by omega), (show (ypn 6) ≤ 20 from hbk), (show RW (ypf 19) (ypf 20) (ypn 6) from hRW), (show IMI (ypf 16) (100 * (i + 4)) from IMI_w hIM (by omega))⟩, (show (ypn 5) = (xpn 0) from hTX), (show (ypf 15) = (xpf 0) from hF), (show (∀ j, ¬ (xpf 0) j < 0) from hFP), (show (ypi 5) = (xpi 8) from hFB), (show RD (xpr 0) (xpf 1) (xpf 2) (xpf 3) (xpf 4) (ypn 0) (ypn 1) (ypn 2) (ypn 3) (ypf 0) (ypf 1) (ypf 2) (ypf 3) (ypf 4) (ypf 5) (ypf 6) from hRD), (show (ypn 7) = (xpn 3) from hDY), (show (ypn 6) = (xpn 6) from hBK), (show (ypf 17) = (xpf 28) from hKZ), (show ((ypf 16) 24 = nI (xpn 4) ∧ (ypf 16) 54 = nI (xpn 5)) from hI0), (show TN (xpr 0) (xpf 1) (xpf 2) (xpf 3) (xpf 4) from hTN), (show (∃ zE : Nat → Int32, (xpf 5) = snI zE (xpf 3) ((xpr 0) 2)) from hLF), (show (∃ zE : Nat → Int32, (xpf 6) = fcO (xpr 0) (xpf 1) (xpf 2) (xpf 5) zE 100) from hCF), (show ((ypf 18) = (xpf 29) ∧ (ypf 19) = (xpf 30) ∧ (ypf 20) = (xpf 31)) from hBD), (show BWr (xpr 0) (xpn 6) (xpf 30) (xpf 31) from hBW), (show CR (xpr 0) (xpf 7) (xpf 8) (xpf 9) (xpf 10) (xpf 11) (xpf 12) (xpf 13) (ypf 7) (ypf 8) (ypf 9) (ypf 10) (ypf 11) (ypf 12) (ypf 13) (ypf 14) from hCR), (show (ypi 3) = (xpi 2) from hWG), (show ((ypi 4) = (xpi 3) ∧ ¬ (xpi 3) < 0) from hSD), (show ((ypn 4) = (xpn 1) ∧ yeF (nI (ypn 4)) (ypi 1) = nI (xpn 2) ∧ (ypi 2) = (xpi 0)) from hLW), (show IR (xpr 0) ((xpf 28) 0) (xpf 14) (xpf 15) (xpf 16) (xpf 17) (xpf 18) (xpf 19) (xpf 20) (fun j => (ypf 16) (0 + j)) (fun j => (ypf 16) (3 + j)) (fun j => (ypf 16) (6 + j)) (fun j => (ypf 16) (9 + j)) (fun j => (ypf 16) (12 + j)) (fun j => (ypf 16) (15 + j)) (fun j => (ypf 16) (18 + j)) (fun j => (ypf 16) (21 + j)) ((ypf 16) 25) (xpi 4) ((ypf 16) 26) (xpi 5) from hIA), (show IR (xpr 0) ((xpf 28) 1) (xpf 21) (xpf 22) (xpf 23) (xpf 24) (xpf 25) (xpf 26) (xpf 27) (fun j => (ypf 16) (30 + j)) (fun j => (ypf 16) (33 + j)) (fun j => (ypf 16) (36 + j)) (fun j => (ypf 16) (39 + j)) (fun j => (ypf 16) (42 + j)) (fun j => (ypf 16) (45 + j)) (fun j => (ypf 16) (48 + j)) (fun j => (ypf 16) (51 + j)) ((ypf 16) 55) (xpi 6) ((ypf 16) 56) (xpi 7) from hIB)⟩ hP hD hS

set_option maxHeartbeats 20000000 in
set_option maxRecDepth 100000 in
theorem cs_matter {p : Program} {l : Launch} {e : Env} {s : State} {m : MethodId} {below : List Frame} {meth : Method} {c : Code} {b L : Nat} {xs : Nat → Int32} {D : va_G} {k : Nat → ClassId} {z : Nat → Nat} {A : Nat → Prop} {x y i : Nat} {wx wm : va_W} {H : Heap} {locs : List Loc} {ls : Array Slot} (C : lC p s m meth c b L xs D k z A) (hil : i + 4 ≤ L) (hJ : JN k x y i wx wm) (hP : va_P D vwCl (wx ++ wm) H) (hD : va_D A (wx ++ wm)) (hS : va_S A s.heap H locs) (hl : lv_has ls 4 [(3, .int (nI i)), (2, .ref y), (1, .ref x), (0, .ref b)]) (kk : ∀ (H : Heap) (locs : List Loc) (wx wm : va_W), JN k x y (i + 4) wx wm → va_P D vwCl (wx ++ wm) H → va_D A (wx ++ wm) → va_S A s.heap H locs → W p l e room_1 s m #[Value.ref b] below meth c H locs 123 7201 (lw_Z below #[Value.ref b] s) (F0 m 907 ls [])) : W p l e room_1 s m #[Value.ref b] below meth c H locs 123 7201 (lw_Z below #[Value.ref b] s) (F0 m 347 ls []) := by
  obtain ⟨hx, hb, hml, hown, hts, hX, hbl, hbA, hG, hZ, hA, hL⟩ := C
  obtain ⟨xpn, xpi, xpr, xpf, xpl, ypn, ypi, ypf, hXI, hMI, ⟨hn, ⟨hq0, hq1, hq2, hq3⟩, hal, hNB, hnn, hyy, hdyi, hda, hdb, hbb, hOBx, hCFx, hAKx, hMMx⟩, ⟨htx, ⟨hho, hsp, hnp, hmp⟩, hnt, hyt, hld, hmB, hddi, hbk, hRW, hIM⟩, hTX, hF, hFP, hFB, hRD, hDY, hBK, hKZ, hI0, hTN, hLF, hCF, hBD, hBW, hCR, hWG, hSD, hLW, hIA, hIB⟩ := hJ
  refine lv_aload_n hx hb dL_law_347 rfl (lv_at hl 2 rfl) ?_
  refine lv_aload_n hx hb dL_law_348 rfl (lv_at hl 3 rfl) ?_
  refine lv_iload_n hx hb dL_law_349 rfl (lv_at hl 0 rfl) ?_
  refine lv_iconst (v := 1) hx hb dL_law_350 (by decide) ?_
  refine lv_iadd hx hb dL_law_351 ?_
  refine tp_i (y := nI (i + 1)) (nI_add i 1) ?_
  refine va_sld hx hb hX hbl hbA hS (vp_in_nI (n := i + 1) (by omega) (by omega)) dL_law_352 ?_
  refine tp_i (y := xs (i + 1)) (congrArg xs (nI_clamp (n := i + 1) (by omega))) ?_
  refine lv_aload_n hx hb dL_law_353 rfl (lv_at hl 3 rfl) ?_
  refine lv_iload_n hx hb dL_law_354 rfl (lv_at hl 0 rfl) ?_
  refine lv_iconst (v := 2) hx hb dL_law_355 (by decide) ?_
  refine lv_iadd hx hb dL_law_356 ?_
  refine tp_i (y := nI (i + 2)) (nI_add i 2) ?_
  refine va_sld hx hb hX hbl hbA hS (vp_in_nI (n := i + 2) (by omega) (by omega)) dL_law_357 ?_
  refine tp_i (y := xs (i + 2)) (congrArg xs (nI_clamp (n := i + 2) (by omega))) ?_
  have hPc := va_P_left hP
  have hDc := va_D_left hD
  obtain ⟨fs9, hfs9⟩ := hXI.recv
  refine cl_i2 (wc := wx) (wr := wm) (va_runV (As := [.int (xs (i + 1)), .int (xs (i + 2))]) (rest := []) ⟨hx, hb, hml, hown, hts⟩ (F_X9_matter l D k H.size z x (xpn 0) (xpf 0) (xpr 0) (xpf 1) (xpf 2) (xpf 3) (xpf 4) (xpf 5) (xpf 6) (xpr 1) (xpn 1) (xpn 2) (xpi 0) (xpi 1) (xpf 7) (xpf 8) (xpf 9) (xpf 10) (xpf 11) (xpf 12) (xpf 13) (xpi 2) (xpn 3) (xpi 3) (xpf 14) (xpf 15) (xpf 16) (xpf 17) (xpf 18) (xpf 19) (xpf 20) (xpi 4) (xpn 4) (xpi 5) (xpf 21) (xpf 22) (xpf 23) (xpf 24) (xpf 25) (xpf 26) (xpf 27) (xpi 6) (xpn 5) (xpi 7) (xpf 28) (xpn 6) (xpf 29) (xpf 30) (xpf 31) (xpi 8) (xpf 32) (xpf 33) (xpl 0) (xpi 9) (xpi 10) (xpi 11) (xpi 12) (xpf 34) (xpf 35) (xpf 36) (xs (i + 1)) (xs (i + 2)) wx hXI (by first | assumption | omega)) (cwV 2 hts gL_law_X9_matter rfl rfl rfl (by decide +kernel) ⟨Nat.le_of_ble_eq_true rfl, Nat.le_of_ble_eq_true rfl⟩) ⟨PT.blind _ _ _ _ _ _, va_recv hG.1 hPc (ci := 9) (q0 := 0) rfl hfs9, PT.pre hPc hDc hG hZ hS (A_left hD hS hA) [.ref x, .int (xs (i + 1)), .int (xs (i + 2))]⟩ rfl rfl hl.1 rfl (lv_room (Nat.le_of_ble_eq_true rfl)) dL_law_358 ⟨Nat.le_of_ble_eq_true rfl, Nat.le_of_ble_eq_true rfl⟩) hP hD hS hA (fun r u H locs hq9 hP hD hS => ?_)
  generalize r = rx at hq9 ⊢
  obtain ⟨ux, rfl⟩ : ∃ z, z = u := ⟨_, rfl⟩
  obtain ⟨hqx, hXI⟩ := hq9
  refine lv_pop hx hb dL_law_361 rfl ?_
  refine lv_aload_n hx hb dL_law_362 rfl (lv_at hl 1 rfl) ?_
  refine lv_aload_n hx hb dL_law_363 rfl (lv_at hl 3 rfl) ?_
  refine lv_iload_n hx hb dL_law_364 rfl (lv_at hl 0 rfl) ?_
  refine lv_iconst (v := 1) hx hb dL_law_365 (by decide) ?_
  refine lv_iadd hx hb dL_law_366 ?_
  refine tp_i (y := nI (i + 1)) (nI_add i 1) ?_
  refine va_sld hx hb hX hbl hbA hS (vp_in_nI (n := i + 1) (by omega) (by omega)) dL_law_367 ?_
  refine tp_i (y := xs (i + 1)) (congrArg xs (nI_clamp (n := i + 1) (by omega))) ?_
  refine lv_aload_n hx hb dL_law_368 rfl (lv_at hl 3 rfl) ?_
  refine lv_iload_n hx hb dL_law_369 rfl (lv_at hl 0 rfl) ?_
  refine lv_iconst (v := 2) hx hb dL_law_370 (by decide) ?_
  refine lv_iadd hx hb dL_law_371 ?_
  refine tp_i (y := nI (i + 2)) (nI_add i 2) ?_
  refine va_sld hx hb hX hbl hbA hS (vp_in_nI (n := i + 2) (by omega) (by omega)) dL_law_372 ?_
  refine tp_i (y := xs (i + 2)) (congrArg xs (nI_clamp (n := i + 2) (by omega))) ?_
  have hPc := va_P_left hP
  have hDc := va_D_left hD
  obtain ⟨fs9, hfs9⟩ := hMI.recv
  refine cl_i2 (wc := wm) (wr := ux) (va_runV (As := [.int (xs (i + 1)), .int (xs (i + 2))]) (rest := []) ⟨hx, hb, hml, hown, hts⟩ (F_X10_matter l D k H.size z y (ypn 0) (ypn 1) (ypn 2) (ypn 3) (ypn 4) (ypn 5) (ypn 6) (ypn 7) (ypi 0) (ypi 1) (ypi 2) (ypi 3) (ypi 4) (ypi 5) (ypf 0) (ypf 1) (ypf 2) (ypf 3) (ypf 4) (ypf 5) (ypf 6) (ypf 7) (ypf 8) (ypf 9) (ypf 10) (ypf 11) (ypf 12) (ypf 13) (ypf 14) (ypf 15) (ypf 16) (ypf 17) (ypf 18) (ypf 19) (ypf 20) (xs (i + 1)) (xs (i + 2)) wm hMI (by first | assumption | omega)) (cwV 2 hts gL_law_X10_matter rfl rfl rfl (by decide +kernel) ⟨Nat.le_of_ble_eq_true rfl, Nat.le_of_ble_eq_true rfl⟩) ⟨PT.blind _ _ _ _ _ _, va_recv hG.1 hPc (ci := 10) (q0 := 0) rfl hfs9, PT.pre hPc hDc hG hZ hS (A_left hD hS hA) [.ref y, .int (xs (i + 1)), .int (xs (i + 2))]⟩ rfl rfl hl.1 rfl (lv_room (Nat.le_of_ble_eq_true rfl)) dL_law_373 ⟨Nat.le_of_ble_eq_true rfl, Nat.le_of_ble_eq_true rfl⟩) hP hD hS hA (fun r u H locs hq9 hP hD hS => ?_)
  generalize r = ry at hq9 ⊢
  obtain ⟨um, rfl⟩ : ∃ z, z = u := ⟨_, rfl⟩
  obtain ⟨hqm, hMI⟩ := hq9
  refine lv_pop hx hb dL_law_376 rfl ?_
  refine lv_goto (tgt := 907) hx hb dL_law_377 (by decide) ?_
  exact kk H locs ux um ⟨xpn, xpi, xpr, xpf, xpl, ypn, ypi, ypf, hXI, hMI, ⟨(show (xpn 0) ≤ 500 from hn), (show ((xpr 0) 0 ≤ 7 ∧ (xpr 0) 1 ≤ 7 ∧ (xpr 0) 2 ≤ 20 ∧ (xpr 0) 3 ≤ 3) from ⟨hq0, hq1, hq2, hq3⟩), (show (∀ d, d < 100 → (xpr 1) d ≤ d + 1) from hal), (show NBr 3 4 ((xpr 0) 3) (xpf 4) from hNB), (show (1 ≤ (xpn 1) ∧ (xpn 1) ≤ 7) from hnn), (show (xpn 2) ≤ 7 from hyy), (show (xpn 3) ≤ 100 * (i + 4) from by omega), (show (xpn 4) ≤ 100 * (i + 4) from by omega), (show (xpn 5) ≤ 100 * (i + 4) from by omega), (show (xpn 6) ≤ 20 from hbb), (show OB (xpf 36) from hOBx), (show CFB ((xpr 0) 1) (xpf 6) from hCFx), (show AK ((xpr 0) 1) (xpf 6) (xpr 1) from hAKx), (show MEM ((xpr 0) 1) (xpf 6) (xpf 33) (xpl 0) from hMMx)⟩, ⟨(show (ypn 5) ≤ 500 from htx), (show ((ypn 0) ≤ 7 ∧ (ypn 1) ≤ 7 ∧ (ypn 2) ≤ 20 ∧ (ypn 3) ≤ 3) from ⟨hho, hsp, hnp, hmp⟩), (show (1 ≤ (ypn 4) ∧ (ypn 4) ≤ 7) from hnt), (show ((ypi 1) = -1 ∨ ∃ v : Nat, v ≤ 7 ∧ (ypi 1) = nI v) from hyt), (show LDI (ypf 13) (ypf 14) from hld), (show mB (ypn 3) (ypf 6) from hmB), (show (ypn 7) ≤ 100 * (i + 4) from by omega), (show (ypn 6) ≤ 20 from hbk), (show RW (ypf 19) (ypf 20) (ypn 6) from hRW), (show IMI (ypf 16) (100 * (i + 4)) from IMI_w hIM (by omega))⟩, (show (ypn 5) = (xpn 0) from hTX), (show (ypf 15) = (xpf 0) from hF), (show (∀ j, ¬ (xpf 0) j < 0) from hFP), (show (ypi 5) = (xpi 8) from hFB), (show RD (xpr 0) (xpf 1) (xpf 2) (xpf 3) (xpf 4) (ypn 0) (ypn 1) (ypn 2) (ypn 3) (ypf 0) (ypf 1) (ypf 2) (ypf 3) (ypf 4) (ypf 5) (ypf 6) from hRD), (show (ypn 7) = (xpn 3) from hDY), (show (ypn 6) = (xpn 6) from hBK), (show (ypf 17) = (xpf 28) from hKZ), (show ((ypf 16) 24 = nI (xpn 4) ∧ (ypf 16) 54 = nI (xpn 5)) from hI0), (show TN (xpr 0) (xpf 1) (xpf 2) (xpf 3) (xpf 4) from hTN), (show (∃ zE : Nat → Int32, (xpf 5) = snI zE (xpf 3) ((xpr 0) 2)) from hLF), (show (∃ zE : Nat → Int32, (xpf 6) = fcO (xpr 0) (xpf 1) (xpf 2) (xpf 5) zE 100) from hCF), (show ((ypf 18) = (xpf 29) ∧ (ypf 19) = (xpf 30) ∧ (ypf 20) = (xpf 31)) from hBD), (show BWr (xpr 0) (xpn 6) (xpf 30) (xpf 31) from hBW), (show CR (xpr 0) (xpf 7) (xpf 8) (xpf 9) (xpf 10) (xpf 11) (xpf 12) (xpf 13) (ypf 7) (ypf 8) (ypf 9) (ypf 10) (ypf 11) (ypf 12) (ypf 13) (ypf 14) from hCR), (show (ypi 3) = (xpi 2) from hWG), (show ((ypi 4) = (xpi 3) ∧ ¬ (xpi 3) < 0) from hSD), (show ((ypn 4) = (xpn 1) ∧ yeF (nI (ypn 4)) (ypi 1) = nI (xpn 2) ∧ (ypi 2) = (xpi 0)) from hLW), (show IR (xpr 0) ((xpf 28) 0) (xpf 14) (xpf 15) (xpf 16) (xpf 17) (xpf 18) (xpf 19) (xpf 20) (fun j => (ypf 16) (0 + j)) (fun j => (ypf 16) (3 + j)) (fun j => (ypf 16) (6 + j)) (fun j => (ypf 16) (9 + j)) (fun j => (ypf 16) (12 + j)) (fun j => (ypf 16) (15 + j)) (fun j => (ypf 16) (18 + j)) (fun j => (ypf 16) (21 + j)) ((ypf 16) 25) (xpi 4) ((ypf 16) 26) (xpi 5) from hIA), (show IR (xpr 0) ((xpf 28) 1) (xpf 21) (xpf 22) (xpf 23) (xpf 24) (xpf 25) (xpf 26) (xpf 27) (fun j => (ypf 16) (30 + j)) (fun j => (ypf 16) (33 + j)) (fun j => (ypf 16) (36 + j)) (fun j => (ypf 16) (39 + j)) (fun j => (ypf 16) (42 + j)) (fun j => (ypf 16) (45 + j)) (fun j => (ypf 16) (48 + j)) (fun j => (ypf 16) (51 + j)) ((ypf 16) 55) (xpi 6) ((ypf 16) 56) (xpi 7) from hIB)⟩ hP hD hS

set_option maxHeartbeats 20000000 in
set_option maxRecDepth 100000 in
theorem cs_noise {p : Program} {l : Launch} {e : Env} {s : State} {m : MethodId} {below : List Frame} {meth : Method} {c : Code} {b L : Nat} {xs : Nat → Int32} {D : va_G} {k : Nat → ClassId} {z : Nat → Nat} {A : Nat → Prop} {x y i : Nat} {wx wm : va_W} {H : Heap} {locs : List Loc} {ls : Array Slot} (C : lC p s m meth c b L xs D k z A) (hil : i + 4 ≤ L) (hJ : JN k x y i wx wm) (hP : va_P D vwCl (wx ++ wm) H) (hD : va_D A (wx ++ wm)) (hS : va_S A s.heap H locs) (hl : lv_has ls 4 [(3, .int (nI i)), (2, .ref y), (1, .ref x), (0, .ref b)]) (kk : ∀ (H : Heap) (locs : List Loc) (wx wm : va_W), JN k x y (i + 4) wx wm → va_P D vwCl (wx ++ wm) H → va_D A (wx ++ wm) → va_S A s.heap H locs → W p l e room_1 s m #[Value.ref b] below meth c H locs 123 7201 (lw_Z below #[Value.ref b] s) (F0 m 907 ls [])) : W p l e room_1 s m #[Value.ref b] below meth c H locs 123 7201 (lw_Z below #[Value.ref b] s) (F0 m 380 ls []) := by
  obtain ⟨hx, hb, hml, hown, hts, hX, hbl, hbA, hG, hZ, hA, hL⟩ := C
  obtain ⟨xpn, xpi, xpr, xpf, xpl, ypn, ypi, ypf, hXI, hMI, ⟨hn, ⟨hq0, hq1, hq2, hq3⟩, hal, hNB, hnn, hyy, hdyi, hda, hdb, hbb, hOBx, hCFx, hAKx, hMMx⟩, ⟨htx, ⟨hho, hsp, hnp, hmp⟩, hnt, hyt, hld, hmB, hddi, hbk, hRW, hIM⟩, hTX, hF, hFP, hFB, hRD, hDY, hBK, hKZ, hI0, hTN, hLF, hCF, hBD, hBW, hCR, hWG, hSD, hLW, hIA, hIB⟩ := hJ
  refine lv_aload_n hx hb dL_law_380 rfl (lv_at hl 2 rfl) ?_
  refine lv_aload_n hx hb dL_law_381 rfl (lv_at hl 3 rfl) ?_
  refine lv_iload_n hx hb dL_law_382 rfl (lv_at hl 0 rfl) ?_
  refine lv_iconst (v := 1) hx hb dL_law_383 (by decide) ?_
  refine lv_iadd hx hb dL_law_384 ?_
  refine tp_i (y := nI (i + 1)) (nI_add i 1) ?_
  refine va_sld hx hb hX hbl hbA hS (vp_in_nI (n := i + 1) (by omega) (by omega)) dL_law_385 ?_
  refine tp_i (y := xs (i + 1)) (congrArg xs (nI_clamp (n := i + 1) (by omega))) ?_
  refine lv_aload_n hx hb dL_law_386 rfl (lv_at hl 3 rfl) ?_
  refine lv_iload_n hx hb dL_law_387 rfl (lv_at hl 0 rfl) ?_
  refine lv_iconst (v := 2) hx hb dL_law_388 (by decide) ?_
  refine lv_iadd hx hb dL_law_389 ?_
  refine tp_i (y := nI (i + 2)) (nI_add i 2) ?_
  refine va_sld hx hb hX hbl hbA hS (vp_in_nI (n := i + 2) (by omega) (by omega)) dL_law_390 ?_
  refine tp_i (y := xs (i + 2)) (congrArg xs (nI_clamp (n := i + 2) (by omega))) ?_
  have hPc := va_P_left hP
  have hDc := va_D_left hD
  obtain ⟨fs9, hfs9⟩ := hXI.recv
  refine cl_i2 (wc := wx) (wr := wm) (va_runV (As := [.int (xs (i + 1)), .int (xs (i + 2))]) (rest := []) ⟨hx, hb, hml, hown, hts⟩ (F_X9_noise l D k H.size z x (xpn 0) (xpf 0) (xpr 0) (xpf 1) (xpf 2) (xpf 3) (xpf 4) (xpf 5) (xpf 6) (xpr 1) (xpn 1) (xpn 2) (xpi 0) (xpi 1) (xpf 7) (xpf 8) (xpf 9) (xpf 10) (xpf 11) (xpf 12) (xpf 13) (xpi 2) (xpn 3) (xpi 3) (xpf 14) (xpf 15) (xpf 16) (xpf 17) (xpf 18) (xpf 19) (xpf 20) (xpi 4) (xpn 4) (xpi 5) (xpf 21) (xpf 22) (xpf 23) (xpf 24) (xpf 25) (xpf 26) (xpf 27) (xpi 6) (xpn 5) (xpi 7) (xpf 28) (xpn 6) (xpf 29) (xpf 30) (xpf 31) (xpi 8) (xpf 32) (xpf 33) (xpl 0) (xpi 9) (xpi 10) (xpi 11) (xpi 12) (xpf 34) (xpf 35) (xpf 36) (xs (i + 1)) (xs (i + 2)) wx hXI ) (cwV 2 hts gL_law_X9_noise rfl rfl rfl (by decide +kernel) ⟨Nat.le_of_ble_eq_true rfl, Nat.le_of_ble_eq_true rfl⟩) ⟨PT.blind _ _ _ _ _ _, va_recv hG.1 hPc (ci := 9) (q0 := 0) rfl hfs9, PT.pre hPc hDc hG hZ hS (A_left hD hS hA) [.ref x, .int (xs (i + 1)), .int (xs (i + 2))]⟩ rfl rfl hl.1 rfl (lv_room (Nat.le_of_ble_eq_true rfl)) dL_law_391 ⟨Nat.le_of_ble_eq_true rfl, Nat.le_of_ble_eq_true rfl⟩) hP hD hS hA (fun r u H locs hq9 hP hD hS => ?_)
  generalize r = rx at hq9 ⊢
  obtain ⟨ux, rfl⟩ : ∃ z, z = u := ⟨_, rfl⟩
  obtain ⟨hqx, hXI⟩ := hq9
  refine lv_pop hx hb dL_law_394 rfl ?_
  refine lv_aload_n hx hb dL_law_395 rfl (lv_at hl 1 rfl) ?_
  refine lv_aload_n hx hb dL_law_396 rfl (lv_at hl 3 rfl) ?_
  refine lv_iload_n hx hb dL_law_397 rfl (lv_at hl 0 rfl) ?_
  refine lv_iconst (v := 1) hx hb dL_law_398 (by decide) ?_
  refine lv_iadd hx hb dL_law_399 ?_
  refine tp_i (y := nI (i + 1)) (nI_add i 1) ?_
  refine va_sld hx hb hX hbl hbA hS (vp_in_nI (n := i + 1) (by omega) (by omega)) dL_law_400 ?_
  refine tp_i (y := xs (i + 1)) (congrArg xs (nI_clamp (n := i + 1) (by omega))) ?_
  refine lv_aload_n hx hb dL_law_401 rfl (lv_at hl 3 rfl) ?_
  refine lv_iload_n hx hb dL_law_402 rfl (lv_at hl 0 rfl) ?_
  refine lv_iconst (v := 2) hx hb dL_law_403 (by decide) ?_
  refine lv_iadd hx hb dL_law_404 ?_
  refine tp_i (y := nI (i + 2)) (nI_add i 2) ?_
  refine va_sld hx hb hX hbl hbA hS (vp_in_nI (n := i + 2) (by omega) (by omega)) dL_law_405 ?_
  refine tp_i (y := xs (i + 2)) (congrArg xs (nI_clamp (n := i + 2) (by omega))) ?_
  have hPc := va_P_left hP
  have hDc := va_D_left hD
  obtain ⟨fs9, hfs9⟩ := hMI.recv
  refine cl_i2 (wc := wm) (wr := ux) (va_runV (As := [.int (xs (i + 1)), .int (xs (i + 2))]) (rest := []) ⟨hx, hb, hml, hown, hts⟩ (F_X10_noise l D k H.size z y (ypn 0) (ypn 1) (ypn 2) (ypn 3) (ypn 4) (ypn 5) (ypn 6) (ypn 7) (ypi 0) (ypi 1) (ypi 2) (ypi 3) (ypi 4) (ypi 5) (ypf 0) (ypf 1) (ypf 2) (ypf 3) (ypf 4) (ypf 5) (ypf 6) (ypf 7) (ypf 8) (ypf 9) (ypf 10) (ypf 11) (ypf 12) (ypf 13) (ypf 14) (ypf 15) (ypf 16) (ypf 17) (ypf 18) (ypf 19) (ypf 20) (xs (i + 1)) (xs (i + 2)) wm hMI (by first | assumption | omega)) (cwV 2 hts gL_law_X10_noise rfl rfl rfl (by decide +kernel) ⟨Nat.le_of_ble_eq_true rfl, Nat.le_of_ble_eq_true rfl⟩) ⟨PT.blind _ _ _ _ _ _, va_recv hG.1 hPc (ci := 10) (q0 := 0) rfl hfs9, PT.pre hPc hDc hG hZ hS (A_left hD hS hA) [.ref y, .int (xs (i + 1)), .int (xs (i + 2))]⟩ rfl rfl hl.1 rfl (lv_room (Nat.le_of_ble_eq_true rfl)) dL_law_406 ⟨Nat.le_of_ble_eq_true rfl, Nat.le_of_ble_eq_true rfl⟩) hP hD hS hA (fun r u H locs hq9 hP hD hS => ?_)
  generalize r = ry at hq9 ⊢
  obtain ⟨um, rfl⟩ : ∃ z, z = u := ⟨_, rfl⟩
  obtain ⟨hqm, hMI⟩ := hq9
  refine lv_pop hx hb dL_law_409 rfl ?_
  refine lv_goto (tgt := 907) hx hb dL_law_410 (by decide) ?_
  obtain ⟨lE, elf⟩ := id hLF
  obtain ⟨cE, ecf⟩ := id hCF
  have hNZ : ∀ sw wh, noZ (xpf 5) sw wh = nzS (ypf 5) sw wh (ypn 2) := by intro sw wh; rw [hRD.1.2.2.1]; exact noZ_eq elf hTN.2.2.1 hRD.2.2.2.1 sw wh
  exact kk H locs ux um ⟨xpn, xpi, xpr, xpf, xpl, ypn, ypi, ypf, hXI, hMI, ⟨(show (xpn 0) ≤ 500 from hn), (show ((xpr 0) 0 ≤ 7 ∧ (xpr 0) 1 ≤ 7 ∧ (xpr 0) 2 ≤ 20 ∧ (xpr 0) 3 ≤ 3) from ⟨hq0, hq1, hq2, hq3⟩), (show (∀ d, d < 100 → (xpr 1) d ≤ d + 1) from hal), (show NBr 3 4 ((xpr 0) 3) (xpf 4) from hNB), (show (1 ≤ (xpn 1) ∧ (xpn 1) ≤ 7) from hnn), (show (xpn 2) ≤ 7 from hyy), (show (xpn 3) ≤ 100 * (i + 4) from by omega), (show (xpn 4) ≤ 100 * (i + 4) from by omega), (show (xpn 5) ≤ 100 * (i + 4) from by omega), (show (xpn 6) ≤ 20 from hbb), (show OB (xpf 36) from hOBx), (show CFB ((xpr 0) 1) (xpf 6) from hCFx), (show AK ((xpr 0) 1) (xpf 6) (xpr 1) from hAKx), (show MEM ((xpr 0) 1) (xpf 6) (xpf 33) (xpl 0) from hMMx)⟩, ⟨(show (ypn 5) ≤ 500 from htx), (show ((ypn 0) ≤ 7 ∧ (ypn 1) ≤ 7 ∧ (ypn 2) ≤ 20 ∧ (ypn 3) ≤ 3) from ⟨hho, hsp, hnp, hmp⟩), (show (1 ≤ (ypn 4) ∧ (ypn 4) ≤ 7) from hnt), (show ((ypi 1) = -1 ∨ ∃ v : Nat, v ≤ 7 ∧ (ypi 1) = nI v) from hyt), (show LDI (ypf 13) (ypf 14) from hld), (show mB (ypn 3) (ypf 6) from hmB), (show (ypn 7) ≤ 100 * (i + 4) from by omega), (show (ypn 6) ≤ 20 from hbk), (show RW (ypf 19) (ypf 20) (ypn 6) from hRW), (show IMI (ypf 16) (100 * (i + 4)) from IMI_w hIM (by omega))⟩, (show (ypn 5) = (xpn 0) from hTX), (show (ypf 15) = (xpf 0) from hF), (show (∀ j, ¬ (xpf 0) j < 0) from hFP), (show (ypi 5) = (xpi 8) from hFB), (show RD (xpr 0) (xpf 1) (xpf 2) (xpf 3) (xpf 4) (ypn 0) (ypn 1) (ypn 2) (ypn 3) (ypf 0) (ypf 1) (ypf 2) (ypf 3) (ypf 4) (ypf 5) (ypf 6) from hRD), (show (ypn 7) = (xpn 3) from hDY), (show (ypn 6) = (xpn 6) from hBK), (show (ypf 17) = (xpf 28) from hKZ), (show ((ypf 16) 24 = nI (xpn 4) ∧ (ypf 16) 54 = nI (xpn 5)) from hI0), (show TN (xpr 0) (xpf 1) (xpf 2) (xpf 3) (xpf 4) from hTN), (show (∃ zE : Nat → Int32, (xpf 5) = snI zE (xpf 3) ((xpr 0) 2)) from hLF), (show (∃ zE : Nat → Int32, (xpf 6) = fcO (xpr 0) (xpf 1) (xpf 2) (xpf 5) zE 100) from hCF), (show ((ypf 18) = (xpf 29) ∧ (ypf 19) = (xpf 30) ∧ (ypf 20) = (xpf 31)) from hBD), (show BWr (xpr 0) (xpn 6) (xpf 30) (xpf 31) from hBW), (show CR (xpr 0) (xpf 7) (xpf 8) (xpf 9) (xpf 10) (xpf 11) (xpf 12) (xpf 13) (ypf 7) (ypf 8) (ypf 9) (ypf 10) (ypf 11) (ypf 12) (ypf 13) (ypf 14) from hCR), (show (ypi 3) = (xpi 2) from hWG), (show ((ypi 4) = (xpi 3) ∧ ¬ (xpi 3) < 0) from hSD), (show ((ypn 4) = (xpn 1) ∧ yeF (nI (ypn 4)) (ypi 1) = nI (xpn 2) ∧ (ypi 2) = (xpi 0)) from hLW), (show IR (xpr 0) ((xpf 28) 0) (xpf 14) (xpf 15) (xpf 16) (xpf 17) (xpf 18) (xpf 19) (xpf 20) (fun j => (ypf 16) (0 + j)) (fun j => (ypf 16) (3 + j)) (fun j => (ypf 16) (6 + j)) (fun j => (ypf 16) (9 + j)) (fun j => (ypf 16) (12 + j)) (fun j => (ypf 16) (15 + j)) (fun j => (ypf 16) (18 + j)) (fun j => (ypf 16) (21 + j)) ((ypf 16) 25) (xpi 4) ((ypf 16) 26) (xpi 5) from hIA), (show IR (xpr 0) ((xpf 28) 1) (xpf 21) (xpf 22) (xpf 23) (xpf 24) (xpf 25) (xpf 26) (xpf 27) (fun j => (ypf 16) (30 + j)) (fun j => (ypf 16) (33 + j)) (fun j => (ypf 16) (36 + j)) (fun j => (ypf 16) (39 + j)) (fun j => (ypf 16) (42 + j)) (fun j => (ypf 16) (45 + j)) (fun j => (ypf 16) (48 + j)) (fun j => (ypf 16) (51 + j)) ((ypf 16) 55) (xpi 6) ((ypf 16) 56) (xpi 7) from hIB)⟩ hP hD hS

set_option maxHeartbeats 20000000 in
set_option maxRecDepth 100000 in
theorem cs_lay {p : Program} {l : Launch} {e : Env} {s : State} {m : MethodId} {below : List Frame} {meth : Method} {c : Code} {b L : Nat} {xs : Nat → Int32} {D : va_G} {k : Nat → ClassId} {z : Nat → Nat} {A : Nat → Prop} {x y i : Nat} {wx wm : va_W} {H : Heap} {locs : List Loc} {ls : Array Slot} (C : lC p s m meth c b L xs D k z A) (hil : i + 4 ≤ L) (hJ : JN k x y i wx wm) (hP : va_P D vwCl (wx ++ wm) H) (hD : va_D A (wx ++ wm)) (hS : va_S A s.heap H locs) (hl : lv_has ls 4 [(3, .int (nI i)), (2, .ref y), (1, .ref x), (0, .ref b)]) (kk : ∀ (H : Heap) (locs : List Loc) (wx wm : va_W), JN k x y (i + 4) wx wm → va_P D vwCl (wx ++ wm) H → va_D A (wx ++ wm) → va_S A s.heap H locs → W p l e room_1 s m #[Value.ref b] below meth c H locs 123 7201 (lw_Z below #[Value.ref b] s) (F0 m 907 ls [])) : W p l e room_1 s m #[Value.ref b] below meth c H locs 123 7201 (lw_Z below #[Value.ref b] s) (F0 m 413 ls []) := by
  obtain ⟨hx, hb, hml, hown, hts, hX, hbl, hbA, hG, hZ, hA, hL⟩ := C
  obtain ⟨xpn, xpi, xpr, xpf, xpl, ypn, ypi, ypf, hXI, hMI, ⟨hn, ⟨hq0, hq1, hq2, hq3⟩, hal, hNB, hnn, hyy, hdyi, hda, hdb, hbb, hOBx, hCFx, hAKx, hMMx⟩, ⟨htx, ⟨hho, hsp, hnp, hmp⟩, hnt, hyt, hld, hmB, hddi, hbk, hRW, hIM⟩, hTX, hF, hFP, hFB, hRD, hDY, hBK, hKZ, hI0, hTN, hLF, hCF, hBD, hBW, hCR, hWG, hSD, hLW, hIA, hIB⟩ := hJ
  refine lv_aload_n hx hb dL_law_413 rfl (lv_at hl 2 rfl) ?_
  refine lv_aload_n hx hb dL_law_414 rfl (lv_at hl 3 rfl) ?_
  refine lv_iload_n hx hb dL_law_415 rfl (lv_at hl 0 rfl) ?_
  refine lv_iconst (v := 1) hx hb dL_law_416 (by decide) ?_
  refine lv_iadd hx hb dL_law_417 ?_
  refine tp_i (y := nI (i + 1)) (nI_add i 1) ?_
  refine va_sld hx hb hX hbl hbA hS (vp_in_nI (n := i + 1) (by omega) (by omega)) dL_law_418 ?_
  refine tp_i (y := xs (i + 1)) (congrArg xs (nI_clamp (n := i + 1) (by omega))) ?_
  refine lv_aload_n hx hb dL_law_419 rfl (lv_at hl 3 rfl) ?_
  refine lv_iload_n hx hb dL_law_420 rfl (lv_at hl 0 rfl) ?_
  refine lv_iconst (v := 2) hx hb dL_law_421 (by decide) ?_
  refine lv_iadd hx hb dL_law_422 ?_
  refine tp_i (y := nI (i + 2)) (nI_add i 2) ?_
  refine va_sld hx hb hX hbl hbA hS (vp_in_nI (n := i + 2) (by omega) (by omega)) dL_law_423 ?_
  refine tp_i (y := xs (i + 2)) (congrArg xs (nI_clamp (n := i + 2) (by omega))) ?_
  refine lv_aload_n hx hb dL_law_424 rfl (lv_at hl 3 rfl) ?_
  refine lv_iload_n hx hb dL_law_425 rfl (lv_at hl 0 rfl) ?_
  refine lv_iconst (v := 3) hx hb dL_law_426 (by decide) ?_
  refine lv_iadd hx hb dL_law_427 ?_
  refine tp_i (y := nI (i + 3)) (nI_add i 3) ?_
  refine va_sld hx hb hX hbl hbA hS (vp_in_nI (n := i + 3) (by omega) (by omega)) dL_law_428 ?_
  refine tp_i (y := xs (i + 3)) (congrArg xs (nI_clamp (n := i + 3) (by omega))) ?_
  have hPc := va_P_left hP
  have hDc := va_D_left hD
  obtain ⟨fs9, hfs9⟩ := hXI.recv
  refine cl_i2 (wc := wx) (wr := wm) (va_runV (As := [.int (xs (i + 1)), .int (xs (i + 2)), .int (xs (i + 3))]) (rest := []) ⟨hx, hb, hml, hown, hts⟩ (F_X9_lay l D k H.size z x (xpn 0) (xpf 0) (xpr 0) (xpf 1) (xpf 2) (xpf 3) (xpf 4) (xpf 5) (xpf 6) (xpr 1) (xpn 1) (xpn 2) (xpi 0) (xpi 1) (xpf 7) (xpf 8) (xpf 9) (xpf 10) (xpf 11) (xpf 12) (xpf 13) (xpi 2) (xpn 3) (xpi 3) (xpf 14) (xpf 15) (xpf 16) (xpf 17) (xpf 18) (xpf 19) (xpf 20) (xpi 4) (xpn 4) (xpi 5) (xpf 21) (xpf 22) (xpf 23) (xpf 24) (xpf 25) (xpf 26) (xpf 27) (xpi 6) (xpn 5) (xpi 7) (xpf 28) (xpn 6) (xpf 29) (xpf 30) (xpf 31) (xpi 8) (xpf 32) (xpf 33) (xpl 0) (xpi 9) (xpi 10) (xpi 11) (xpi 12) (xpf 34) (xpf 35) (xpf 36) (xs (i + 1)) (xs (i + 2)) (xs (i + 3)) wx hXI (by first | assumption | omega) (by first | assumption | omega)) (cwV 3 hts gL_law_X9_lay rfl rfl rfl (by decide +kernel) ⟨Nat.le_of_ble_eq_true rfl, Nat.le_of_ble_eq_true rfl⟩) ⟨PT.blind _ _ _ _ _ _, va_recv hG.1 hPc (ci := 9) (q0 := 0) rfl hfs9, PT.pre hPc hDc hG hZ hS (A_left hD hS hA) [.ref x, .int (xs (i + 1)), .int (xs (i + 2)), .int (xs (i + 3))]⟩ rfl rfl hl.1 rfl (lv_room (Nat.le_of_ble_eq_true rfl)) dL_law_429 ⟨Nat.le_of_ble_eq_true rfl, Nat.le_of_ble_eq_true rfl⟩) hP hD hS hA (fun r u H locs hq9 hP hD hS => ?_)
  generalize r = rx at hq9 ⊢
  obtain ⟨ux, rfl⟩ : ∃ z, z = u := ⟨_, rfl⟩
  obtain ⟨x_g5, x_g6, hqx, hXI⟩ := hq9
  refine lv_pop hx hb dL_law_432 rfl ?_
  refine lv_aload_n hx hb dL_law_433 rfl (lv_at hl 1 rfl) ?_
  refine lv_aload_n hx hb dL_law_434 rfl (lv_at hl 3 rfl) ?_
  refine lv_iload_n hx hb dL_law_435 rfl (lv_at hl 0 rfl) ?_
  refine lv_iconst (v := 1) hx hb dL_law_436 (by decide) ?_
  refine lv_iadd hx hb dL_law_437 ?_
  refine tp_i (y := nI (i + 1)) (nI_add i 1) ?_
  refine va_sld hx hb hX hbl hbA hS (vp_in_nI (n := i + 1) (by omega) (by omega)) dL_law_438 ?_
  refine tp_i (y := xs (i + 1)) (congrArg xs (nI_clamp (n := i + 1) (by omega))) ?_
  refine lv_aload_n hx hb dL_law_439 rfl (lv_at hl 3 rfl) ?_
  refine lv_iload_n hx hb dL_law_440 rfl (lv_at hl 0 rfl) ?_
  refine lv_iconst (v := 2) hx hb dL_law_441 (by decide) ?_
  refine lv_iadd hx hb dL_law_442 ?_
  refine tp_i (y := nI (i + 2)) (nI_add i 2) ?_
  refine va_sld hx hb hX hbl hbA hS (vp_in_nI (n := i + 2) (by omega) (by omega)) dL_law_443 ?_
  refine tp_i (y := xs (i + 2)) (congrArg xs (nI_clamp (n := i + 2) (by omega))) ?_
  refine lv_aload_n hx hb dL_law_444 rfl (lv_at hl 3 rfl) ?_
  refine lv_iload_n hx hb dL_law_445 rfl (lv_at hl 0 rfl) ?_
  refine lv_iconst (v := 3) hx hb dL_law_446 (by decide) ?_
  refine lv_iadd hx hb dL_law_447 ?_
  refine tp_i (y := nI (i + 3)) (nI_add i 3) ?_
  refine va_sld hx hb hX hbl hbA hS (vp_in_nI (n := i + 3) (by omega) (by omega)) dL_law_448 ?_
  refine tp_i (y := xs (i + 3)) (congrArg xs (nI_clamp (n := i + 3) (by omega))) ?_
  have hPc := va_P_left hP
  have hDc := va_D_left hD
  obtain ⟨fs9, hfs9⟩ := hMI.recv
  refine cl_i2 (wc := wm) (wr := ux) (va_runV (As := [.int (xs (i + 1)), .int (xs (i + 2)), .int (xs (i + 3))]) (rest := []) ⟨hx, hb, hml, hown, hts⟩ (F_X10_lay l D k H.size z y (ypn 0) (ypn 1) (ypn 2) (ypn 3) (ypn 4) (ypn 5) (ypn 6) (ypn 7) (ypi 0) (ypi 1) (ypi 2) (ypi 3) (ypi 4) (ypi 5) (ypf 0) (ypf 1) (ypf 2) (ypf 3) (ypf 4) (ypf 5) (ypf 6) (ypf 7) (ypf 8) (ypf 9) (ypf 10) (ypf 11) (ypf 12) (ypf 13) (ypf 14) (ypf 15) (ypf 16) (ypf 17) (ypf 18) (ypf 19) (ypf 20) (xs (i + 1)) (xs (i + 2)) (xs (i + 3)) wm hMI (by first | assumption | omega) (by first | assumption | omega) (by first | assumption | omega) (by first | assumption | omega)) (cwV 3 hts gL_law_X10_lay rfl rfl rfl (by decide +kernel) ⟨Nat.le_of_ble_eq_true rfl, Nat.le_of_ble_eq_true rfl⟩) ⟨PT.blind _ _ _ _ _ _, va_recv hG.1 hPc (ci := 10) (q0 := 0) rfl hfs9, PT.pre hPc hDc hG hZ hS (A_left hD hS hA) [.ref y, .int (xs (i + 1)), .int (xs (i + 2)), .int (xs (i + 3))]⟩ rfl rfl hl.1 rfl (lv_room (Nat.le_of_ble_eq_true rfl)) dL_law_449 ⟨Nat.le_of_ble_eq_true rfl, Nat.le_of_ble_eq_true rfl⟩) hP hD hS hA (fun r u H locs hq9 hP hD hS => ?_)
  generalize r = ry at hq9 ⊢
  obtain ⟨um, rfl⟩ : ∃ z, z = u := ⟨_, rfl⟩
  obtain ⟨y_w6, y_w7, hqm, hMI⟩ := hq9
  refine lv_pop hx hb dL_law_452 rfl ?_
  refine lv_goto (tgt := 907) hx hb dL_law_453 (by decide) ?_
  have hym := hqm.2
  rw [hRD.1.1, hRD.1.2.1, hRD.1.2.2.2, hDY] at hym
  have hly := ly_eq hCR hRD hTN.1 hq0 hq1 hq3 hqx hym
  exact kk H locs ux um ⟨xpn, xpi, xpr, (fun i9 => ([xpf 0, xpf 1, xpf 2, xpf 3, xpf 4, xpf 5, xpf 6, xpf 7, xpf 8, xpf 9, xpf 10, xpf 11, x_g5, x_g6, xpf 14, xpf 15, xpf 16, xpf 17, xpf 18, xpf 19, xpf 20, xpf 21, xpf 22, xpf 23, xpf 24, xpf 25, xpf 26, xpf 27, xpf 28, xpf 29, xpf 30, xpf 31, xpf 32, xpf 33, xpf 34, xpf 35, xpf 36] : List (Nat → Int32)).getD i9 (fun _ => 0)), xpl, ypn, ypi, (fun i9 => ([ypf 0, ypf 1, ypf 2, ypf 3, ypf 4, ypf 5, ypf 6, ypf 7, ypf 8, ypf 9, ypf 10, ypf 11, ypf 12, y_w6, y_w7, ypf 15, ypf 16, ypf 17, ypf 18, ypf 19, ypf 20] : List (Nat → Int32)).getD i9 (fun _ => 0)), hXI, hMI, ⟨(show (xpn 0) ≤ 500 from hn), (show ((xpr 0) 0 ≤ 7 ∧ (xpr 0) 1 ≤ 7 ∧ (xpr 0) 2 ≤ 20 ∧ (xpr 0) 3 ≤ 3) from ⟨hq0, hq1, hq2, hq3⟩), (show (∀ d, d < 100 → (xpr 1) d ≤ d + 1) from hal), (show NBr 3 4 ((xpr 0) 3) (xpf 4) from hNB), (show (1 ≤ (xpn 1) ∧ (xpn 1) ≤ 7) from hnn), (show (xpn 2) ≤ 7 from hyy), (show (xpn 3) ≤ 100 * (i + 4) from by omega), (show (xpn 4) ≤ 100 * (i + 4) from by omega), (show (xpn 5) ≤ 100 * (i + 4) from by omega), (show (xpn 6) ≤ 20 from hbb), (show OB (xpf 36) from hOBx), (show CFB ((xpr 0) 1) (xpf 6) from hCFx), (show AK ((xpr 0) 1) (xpf 6) (xpr 1) from hAKx), (show MEM ((xpr 0) 1) (xpf 6) (xpf 33) (xpl 0) from hMMx)⟩, ⟨(show (ypn 5) ≤ 500 from htx), (show ((ypn 0) ≤ 7 ∧ (ypn 1) ≤ 7 ∧ (ypn 2) ≤ 20 ∧ (ypn 3) ≤ 3) from ⟨hho, hsp, hnp, hmp⟩), (show (1 ≤ (ypn 4) ∧ (ypn 4) ≤ 7) from hnt), (show ((ypi 1) = -1 ∨ ∃ v : Nat, v ≤ 7 ∧ (ypi 1) = nI v) from hyt), (show LDI y_w6 y_w7 from hqm.1), (show mB (ypn 3) (ypf 6) from hmB), (show (ypn 7) ≤ 100 * (i + 4) from by omega), (show (ypn 6) ≤ 20 from hbk), (show RW (ypf 19) (ypf 20) (ypn 6) from hRW), (show IMI (ypf 16) (100 * (i + 4)) from IMI_w hIM (by omega))⟩, (show (ypn 5) = (xpn 0) from hTX), (show (ypf 15) = (xpf 0) from hF), (show (∀ j, ¬ (xpf 0) j < 0) from hFP), (show (ypi 5) = (xpi 8) from hFB), (show RD (xpr 0) (xpf 1) (xpf 2) (xpf 3) (xpf 4) (ypn 0) (ypn 1) (ypn 2) (ypn 3) (ypf 0) (ypf 1) (ypf 2) (ypf 3) (ypf 4) (ypf 5) (ypf 6) from hRD), (show (ypn 7) = (xpn 3) from hDY), (show (ypn 6) = (xpn 6) from hBK), (show (ypf 17) = (xpf 28) from hKZ), (show ((ypf 16) 24 = nI (xpn 4) ∧ (ypf 16) 54 = nI (xpn 5)) from hI0), (show TN (xpr 0) (xpf 1) (xpf 2) (xpf 3) (xpf 4) from hTN), (show (∃ zE : Nat → Int32, (xpf 5) = snI zE (xpf 3) ((xpr 0) 2)) from hLF), (show (∃ zE : Nat → Int32, (xpf 6) = fcO (xpr 0) (xpf 1) (xpf 2) (xpf 5) zE 100) from hCF), (show ((ypf 18) = (xpf 29) ∧ (ypf 19) = (xpf 30) ∧ (ypf 20) = (xpf 31)) from hBD), (show BWr (xpr 0) (xpn 6) (xpf 30) (xpf 31) from hBW), (show CR (xpr 0) (xpf 7) (xpf 8) (xpf 9) (xpf 10) (xpf 11) x_g5 x_g6 (ypf 7) (ypf 8) (ypf 9) (ypf 10) (ypf 11) (ypf 12) y_w6 y_w7 from ⟨hCR.1, hCR.2.1, hCR.2.2.1, hly.2⟩), (show (ypi 3) = (xpi 2) from hWG), (show ((ypi 4) = (xpi 3) ∧ ¬ (xpi 3) < 0) from hSD), (show ((ypn 4) = (xpn 1) ∧ yeF (nI (ypn 4)) (ypi 1) = nI (xpn 2) ∧ (ypi 2) = (xpi 0)) from hLW), (show IR (xpr 0) ((xpf 28) 0) (xpf 14) (xpf 15) (xpf 16) (xpf 17) (xpf 18) (xpf 19) (xpf 20) (fun j => (ypf 16) (0 + j)) (fun j => (ypf 16) (3 + j)) (fun j => (ypf 16) (6 + j)) (fun j => (ypf 16) (9 + j)) (fun j => (ypf 16) (12 + j)) (fun j => (ypf 16) (15 + j)) (fun j => (ypf 16) (18 + j)) (fun j => (ypf 16) (21 + j)) ((ypf 16) 25) (xpi 4) ((ypf 16) 26) (xpi 5) from hIA), (show IR (xpr 0) ((xpf 28) 1) (xpf 21) (xpf 22) (xpf 23) (xpf 24) (xpf 25) (xpf 26) (xpf 27) (fun j => (ypf 16) (30 + j)) (fun j => (ypf 16) (33 + j)) (fun j => (ypf 16) (36 + j)) (fun j => (ypf 16) (39 + j)) (fun j => (ypf 16) (42 + j)) (fun j => (ypf 16) (45 + j)) (fun j => (ypf 16) (48 + j)) (fun j => (ypf 16) (51 + j)) ((ypf 16) 55) (xpi 6) ((ypf 16) 56) (xpi 7) from hIB)⟩ hP hD hS

set_option maxHeartbeats 20000000 in
set_option maxRecDepth 100000 in
theorem cs_rise {p : Program} {l : Launch} {e : Env} {s : State} {m : MethodId} {below : List Frame} {meth : Method} {c : Code} {b L : Nat} {xs : Nat → Int32} {D : va_G} {k : Nat → ClassId} {z : Nat → Nat} {A : Nat → Prop} {x y i : Nat} {wx wm : va_W} {H : Heap} {locs : List Loc} {ls : Array Slot} (C : lC p s m meth c b L xs D k z A) (hil : i + 4 ≤ L) (hJ : JN k x y i wx wm) (hP : va_P D vwCl (wx ++ wm) H) (hD : va_D A (wx ++ wm)) (hS : va_S A s.heap H locs) (hl : lv_has ls 4 [(3, .int (nI i)), (2, .ref y), (1, .ref x), (0, .ref b)]) (kk : ∀ (H : Heap) (locs : List Loc) (wx wm : va_W), JN k x y (i + 4) wx wm → va_P D vwCl (wx ++ wm) H → va_D A (wx ++ wm) → va_S A s.heap H locs → W p l e room_1 s m #[Value.ref b] below meth c H locs 123 7201 (lw_Z below #[Value.ref b] s) (F0 m 907 ls [])) : W p l e room_1 s m #[Value.ref b] below meth c H locs 123 7201 (lw_Z below #[Value.ref b] s) (F0 m 456 ls []) := by
  obtain ⟨hx, hb, hml, hown, hts, hX, hbl, hbA, hG, hZ, hA, hL⟩ := C
  obtain ⟨xpn, xpi, xpr, xpf, xpl, ypn, ypi, ypf, hXI, hMI, ⟨hn, ⟨hq0, hq1, hq2, hq3⟩, hal, hNB, hnn, hyy, hdyi, hda, hdb, hbb, hOBx, hCFx, hAKx, hMMx⟩, ⟨htx, ⟨hho, hsp, hnp, hmp⟩, hnt, hyt, hld, hmB, hddi, hbk, hRW, hIM⟩, hTX, hF, hFP, hFB, hRD, hDY, hBK, hKZ, hI0, hTN, hLF, hCF, hBD, hBW, hCR, hWG, hSD, hLW, hIA, hIB⟩ := hJ
  refine lv_aload_n hx hb dL_law_456 rfl (lv_at hl 2 rfl) ?_
  refine lv_aload_n hx hb dL_law_457 rfl (lv_at hl 3 rfl) ?_
  refine lv_iload_n hx hb dL_law_458 rfl (lv_at hl 0 rfl) ?_
  refine lv_iconst (v := 1) hx hb dL_law_459 (by decide) ?_
  refine lv_iadd hx hb dL_law_460 ?_
  refine tp_i (y := nI (i + 1)) (nI_add i 1) ?_
  refine va_sld hx hb hX hbl hbA hS (vp_in_nI (n := i + 1) (by omega) (by omega)) dL_law_461 ?_
  refine tp_i (y := xs (i + 1)) (congrArg xs (nI_clamp (n := i + 1) (by omega))) ?_
  have hPc := va_P_left hP
  have hDc := va_D_left hD
  obtain ⟨fs9, hfs9⟩ := hXI.recv
  refine cl_i2 (wc := wx) (wr := wm) (va_runV (As := [.int (xs (i + 1))]) (rest := []) ⟨hx, hb, hml, hown, hts⟩ (F_X9_rise l D k H.size z x (xpn 0) (xpf 0) (xpr 0) (xpf 1) (xpf 2) (xpf 3) (xpf 4) (xpf 5) (xpf 6) (xpr 1) (xpn 1) (xpn 2) (xpi 0) (xpi 1) (xpf 7) (xpf 8) (xpf 9) (xpf 10) (xpf 11) (xpf 12) (xpf 13) (xpi 2) (xpn 3) (xpi 3) (xpf 14) (xpf 15) (xpf 16) (xpf 17) (xpf 18) (xpf 19) (xpf 20) (xpi 4) (xpn 4) (xpi 5) (xpf 21) (xpf 22) (xpf 23) (xpf 24) (xpf 25) (xpf 26) (xpf 27) (xpi 6) (xpn 5) (xpi 7) (xpf 28) (xpn 6) (xpf 29) (xpf 30) (xpf 31) (xpi 8) (xpf 32) (xpf 33) (xpl 0) (xpi 9) (xpi 10) (xpi 11) (xpi 12) (xpf 34) (xpf 35) (xpf 36) (xs (i + 1)) wx hXI (by first | assumption | omega)) (cwV 1 hts gL_law_X9_rise rfl rfl rfl (by decide +kernel) ⟨Nat.le_of_ble_eq_true rfl, Nat.le_of_ble_eq_true rfl⟩) ⟨PT.blind _ _ _ _ _ _, va_recv hG.1 hPc (ci := 9) (q0 := 0) rfl hfs9, PT.pre hPc hDc hG hZ hS (A_left hD hS hA) [.ref x, .int (xs (i + 1))]⟩ rfl rfl hl.1 rfl (lv_room (Nat.le_of_ble_eq_true rfl)) dL_law_462 ⟨Nat.le_of_ble_eq_true rfl, Nat.le_of_ble_eq_true rfl⟩) hP hD hS hA (fun r u H locs hq9 hP hD hS => ?_)
  generalize r = rx at hq9 ⊢
  obtain ⟨ux, rfl⟩ : ∃ z, z = u := ⟨_, rfl⟩
  obtain ⟨x_g5, x_g6, hqx, hXI⟩ := hq9
  refine lv_pop hx hb dL_law_465 rfl ?_
  refine lv_aload_n hx hb dL_law_466 rfl (lv_at hl 1 rfl) ?_
  refine lv_aload_n hx hb dL_law_467 rfl (lv_at hl 3 rfl) ?_
  refine lv_iload_n hx hb dL_law_468 rfl (lv_at hl 0 rfl) ?_
  refine lv_iconst (v := 1) hx hb dL_law_469 (by decide) ?_
  refine lv_iadd hx hb dL_law_470 ?_
  refine tp_i (y := nI (i + 1)) (nI_add i 1) ?_
  refine va_sld hx hb hX hbl hbA hS (vp_in_nI (n := i + 1) (by omega) (by omega)) dL_law_471 ?_
  refine tp_i (y := xs (i + 1)) (congrArg xs (nI_clamp (n := i + 1) (by omega))) ?_
  have hPc := va_P_left hP
  have hDc := va_D_left hD
  obtain ⟨fs9, hfs9⟩ := hMI.recv
  refine cl_i2 (wc := wm) (wr := ux) (va_runV (As := [.int (xs (i + 1))]) (rest := []) ⟨hx, hb, hml, hown, hts⟩ (F_X10_rise l D k H.size z y (ypn 0) (ypn 1) (ypn 2) (ypn 3) (ypn 4) (ypn 5) (ypn 6) (ypn 7) (ypi 0) (ypi 1) (ypi 2) (ypi 3) (ypi 4) (ypi 5) (ypf 0) (ypf 1) (ypf 2) (ypf 3) (ypf 4) (ypf 5) (ypf 6) (ypf 7) (ypf 8) (ypf 9) (ypf 10) (ypf 11) (ypf 12) (ypf 13) (ypf 14) (ypf 15) (ypf 16) (ypf 17) (ypf 18) (ypf 19) (ypf 20) (xs (i + 1)) wm hMI (by first | assumption | omega) (by first | assumption | omega)) (cwV 1 hts gL_law_X10_rise rfl rfl rfl (by decide +kernel) ⟨Nat.le_of_ble_eq_true rfl, Nat.le_of_ble_eq_true rfl⟩) ⟨PT.blind _ _ _ _ _ _, va_recv hG.1 hPc (ci := 10) (q0 := 0) rfl hfs9, PT.pre hPc hDc hG hZ hS (A_left hD hS hA) [.ref y, .int (xs (i + 1))]⟩ rfl rfl hl.1 rfl (lv_room (Nat.le_of_ble_eq_true rfl)) dL_law_472 ⟨Nat.le_of_ble_eq_true rfl, Nat.le_of_ble_eq_true rfl⟩) hP hD hS hA (fun r u H locs hq9 hP hD hS => ?_)
  generalize r = ry at hq9 ⊢
  obtain ⟨um, rfl⟩ : ∃ z, z = u := ⟨_, rfl⟩
  obtain ⟨y_w6, hqm, hMI⟩ := hq9
  refine lv_pop hx hb dL_law_475 rfl ?_
  refine lv_goto (tgt := 907) hx hb dL_law_476 (by decide) ?_
  have hym := hqm.2
  rw [hRD.1.2.2.2] at hym
  have hri := ri_eq hCR.2.2.2 hq3 hqx hym
  exact kk H locs ux um ⟨xpn, xpi, xpr, (fun i9 => ([xpf 0, xpf 1, xpf 2, xpf 3, xpf 4, xpf 5, xpf 6, xpf 7, xpf 8, xpf 9, xpf 10, xpf 11, x_g5, x_g6, xpf 14, xpf 15, xpf 16, xpf 17, xpf 18, xpf 19, xpf 20, xpf 21, xpf 22, xpf 23, xpf 24, xpf 25, xpf 26, xpf 27, xpf 28, xpf 29, xpf 30, xpf 31, xpf 32, xpf 33, xpf 34, xpf 35, xpf 36] : List (Nat → Int32)).getD i9 (fun _ => 0)), xpl, ypn, ypi, (fun i9 => ([ypf 0, ypf 1, ypf 2, ypf 3, ypf 4, ypf 5, ypf 6, ypf 7, ypf 8, ypf 9, ypf 10, ypf 11, ypf 12, y_w6, ypf 14, ypf 15, ypf 16, ypf 17, ypf 18, ypf 19, ypf 20] : List (Nat → Int32)).getD i9 (fun _ => 0)), hXI, hMI, ⟨(show (xpn 0) ≤ 500 from hn), (show ((xpr 0) 0 ≤ 7 ∧ (xpr 0) 1 ≤ 7 ∧ (xpr 0) 2 ≤ 20 ∧ (xpr 0) 3 ≤ 3) from ⟨hq0, hq1, hq2, hq3⟩), (show (∀ d, d < 100 → (xpr 1) d ≤ d + 1) from hal), (show NBr 3 4 ((xpr 0) 3) (xpf 4) from hNB), (show (1 ≤ (xpn 1) ∧ (xpn 1) ≤ 7) from hnn), (show (xpn 2) ≤ 7 from hyy), (show (xpn 3) ≤ 100 * (i + 4) from by omega), (show (xpn 4) ≤ 100 * (i + 4) from by omega), (show (xpn 5) ≤ 100 * (i + 4) from by omega), (show (xpn 6) ≤ 20 from hbb), (show OB (xpf 36) from hOBx), (show CFB ((xpr 0) 1) (xpf 6) from hCFx), (show AK ((xpr 0) 1) (xpf 6) (xpr 1) from hAKx), (show MEM ((xpr 0) 1) (xpf 6) (xpf 33) (xpl 0) from hMMx)⟩, ⟨(show (ypn 5) ≤ 500 from htx), (show ((ypn 0) ≤ 7 ∧ (ypn 1) ≤ 7 ∧ (ypn 2) ≤ 20 ∧ (ypn 3) ≤ 3) from ⟨hho, hsp, hnp, hmp⟩), (show (1 ≤ (ypn 4) ∧ (ypn 4) ≤ 7) from hnt), (show ((ypi 1) = -1 ∨ ∃ v : Nat, v ≤ 7 ∧ (ypi 1) = nI v) from hyt), (show LDI y_w6 (ypf 14) from hqm.1), (show mB (ypn 3) (ypf 6) from hmB), (show (ypn 7) ≤ 100 * (i + 4) from by omega), (show (ypn 6) ≤ 20 from hbk), (show RW (ypf 19) (ypf 20) (ypn 6) from hRW), (show IMI (ypf 16) (100 * (i + 4)) from IMI_w hIM (by omega))⟩, (show (ypn 5) = (xpn 0) from hTX), (show (ypf 15) = (xpf 0) from hF), (show (∀ j, ¬ (xpf 0) j < 0) from hFP), (show (ypi 5) = (xpi 8) from hFB), (show RD (xpr 0) (xpf 1) (xpf 2) (xpf 3) (xpf 4) (ypn 0) (ypn 1) (ypn 2) (ypn 3) (ypf 0) (ypf 1) (ypf 2) (ypf 3) (ypf 4) (ypf 5) (ypf 6) from hRD), (show (ypn 7) = (xpn 3) from hDY), (show (ypn 6) = (xpn 6) from hBK), (show (ypf 17) = (xpf 28) from hKZ), (show ((ypf 16) 24 = nI (xpn 4) ∧ (ypf 16) 54 = nI (xpn 5)) from hI0), (show TN (xpr 0) (xpf 1) (xpf 2) (xpf 3) (xpf 4) from hTN), (show (∃ zE : Nat → Int32, (xpf 5) = snI zE (xpf 3) ((xpr 0) 2)) from hLF), (show (∃ zE : Nat → Int32, (xpf 6) = fcO (xpr 0) (xpf 1) (xpf 2) (xpf 5) zE 100) from hCF), (show ((ypf 18) = (xpf 29) ∧ (ypf 19) = (xpf 30) ∧ (ypf 20) = (xpf 31)) from hBD), (show BWr (xpr 0) (xpn 6) (xpf 30) (xpf 31) from hBW), (show CR (xpr 0) (xpf 7) (xpf 8) (xpf 9) (xpf 10) (xpf 11) x_g5 x_g6 (ypf 7) (ypf 8) (ypf 9) (ypf 10) (ypf 11) (ypf 12) y_w6 (ypf 14) from ⟨hCR.1, hCR.2.1, hCR.2.2.1, hri.2⟩), (show (ypi 3) = (xpi 2) from hWG), (show ((ypi 4) = (xpi 3) ∧ ¬ (xpi 3) < 0) from hSD), (show ((ypn 4) = (xpn 1) ∧ yeF (nI (ypn 4)) (ypi 1) = nI (xpn 2) ∧ (ypi 2) = (xpi 0)) from hLW), (show IR (xpr 0) ((xpf 28) 0) (xpf 14) (xpf 15) (xpf 16) (xpf 17) (xpf 18) (xpf 19) (xpf 20) (fun j => (ypf 16) (0 + j)) (fun j => (ypf 16) (3 + j)) (fun j => (ypf 16) (6 + j)) (fun j => (ypf 16) (9 + j)) (fun j => (ypf 16) (12 + j)) (fun j => (ypf 16) (15 + j)) (fun j => (ypf 16) (18 + j)) (fun j => (ypf 16) (21 + j)) ((ypf 16) 25) (xpi 4) ((ypf 16) 26) (xpi 5) from hIA), (show IR (xpr 0) ((xpf 28) 1) (xpf 21) (xpf 22) (xpf 23) (xpf 24) (xpf 25) (xpf 26) (xpf 27) (fun j => (ypf 16) (30 + j)) (fun j => (ypf 16) (33 + j)) (fun j => (ypf 16) (36 + j)) (fun j => (ypf 16) (39 + j)) (fun j => (ypf 16) (42 + j)) (fun j => (ypf 16) (45 + j)) (fun j => (ypf 16) (48 + j)) (fun j => (ypf 16) (51 + j)) ((ypf 16) 55) (xpi 6) ((ypf 16) 56) (xpi 7) from hIB)⟩ hP hD hS

set_option maxHeartbeats 20000000 in
set_option maxRecDepth 100000 in
theorem cs_night {p : Program} {l : Launch} {e : Env} {s : State} {m : MethodId} {below : List Frame} {meth : Method} {c : Code} {b L : Nat} {xs : Nat → Int32} {D : va_G} {k : Nat → ClassId} {z : Nat → Nat} {A : Nat → Prop} {x y i : Nat} {wx wm : va_W} {H : Heap} {locs : List Loc} {ls : Array Slot} (C : lC p s m meth c b L xs D k z A) (hil : i + 4 ≤ L) (hJ : JN k x y i wx wm) (hP : va_P D vwCl (wx ++ wm) H) (hD : va_D A (wx ++ wm)) (hS : va_S A s.heap H locs) (hl : lv_has ls 4 [(3, .int (nI i)), (2, .ref y), (1, .ref x), (0, .ref b)]) (kk : ∀ (H : Heap) (locs : List Loc) (wx wm : va_W), JN k x y (i + 4) wx wm → va_P D vwCl (wx ++ wm) H → va_D A (wx ++ wm) → va_S A s.heap H locs → W p l e room_1 s m #[Value.ref b] below meth c H locs 123 7201 (lw_Z below #[Value.ref b] s) (F0 m 907 ls [])) : W p l e room_1 s m #[Value.ref b] below meth c H locs 123 7201 (lw_Z below #[Value.ref b] s) (F0 m 479 ls []) := by
  obtain ⟨hx, hb, hml, hown, hts, hX, hbl, hbA, hG, hZ, hA, hL⟩ := C
  obtain ⟨xpn, xpi, xpr, xpf, xpl, ypn, ypi, ypf, hXI, hMI, ⟨hn, ⟨hq0, hq1, hq2, hq3⟩, hal, hNB, hnn, hyy, hdyi, hda, hdb, hbb, hOBx, hCFx, hAKx, hMMx⟩, ⟨htx, ⟨hho, hsp, hnp, hmp⟩, hnt, hyt, hld, hmB, hddi, hbk, hRW, hIM⟩, hTX, hF, hFP, hFB, hRD, hDY, hBK, hKZ, hI0, hTN, hLF, hCF, hBD, hBW, hCR, hWG, hSD, hLW, hIA, hIB⟩ := hJ
  refine lv_aload_n hx hb dL_law_479 rfl (lv_at hl 2 rfl) ?_
  have hPc := va_P_left hP
  have hDc := va_D_left hD
  obtain ⟨fs9, hfs9⟩ := hXI.recv
  refine cl_i2 (wc := wx) (wr := wm) (va_runV (As := []) (rest := []) ⟨hx, hb, hml, hown, hts⟩ (F_X9_night l D k H.size z x (xpn 0) (xpf 0) (xpr 0) (xpf 1) (xpf 2) (xpf 3) (xpf 4) (xpf 5) (xpf 6) (xpr 1) (xpn 1) (xpn 2) (xpi 0) (xpi 1) (xpf 7) (xpf 8) (xpf 9) (xpf 10) (xpf 11) (xpf 12) (xpf 13) (xpi 2) (xpn 3) (xpi 3) (xpf 14) (xpf 15) (xpf 16) (xpf 17) (xpf 18) (xpf 19) (xpf 20) (xpi 4) (xpn 4) (xpi 5) (xpf 21) (xpf 22) (xpf 23) (xpf 24) (xpf 25) (xpf 26) (xpf 27) (xpi 6) (xpn 5) (xpi 7) (xpf 28) (xpn 6) (xpf 29) (xpf 30) (xpf 31) (xpi 8) (xpf 32) (xpf 33) (xpl 0) (xpi 9) (xpi 10) (xpi 11) (xpi 12) (xpf 34) (xpf 35) (xpf 36)  wx hXI (by first | assumption | omega) (by first | assumption | omega) (by first | assumption | omega) (by first | assumption | omega)) (cwV 0 hts gL_law_X9_night rfl rfl rfl (by decide +kernel) ⟨Nat.le_of_ble_eq_true rfl, Nat.le_of_ble_eq_true rfl⟩) ⟨PT.blind _ _ _ _ _ _, va_recv hG.1 hPc (ci := 9) (q0 := 0) rfl hfs9, PT.pre hPc hDc hG hZ hS (A_left hD hS hA) [.ref x]⟩ rfl rfl hl.1 rfl (lv_room (Nat.le_of_ble_eq_true rfl)) dL_law_480 ⟨Nat.le_of_ble_eq_true rfl, Nat.le_of_ble_eq_true rfl⟩) hP hD hS hA (fun r u H locs hq9 hP hD hS => ?_)
  generalize r = rx at hq9 ⊢
  obtain ⟨ux, rfl⟩ : ∃ z, z = u := ⟨_, rfl⟩
  obtain ⟨x_g0, x_g1, x_g2, x_g3, x_g4, x_g5, x_g6, x_wv, x_dy9, x_sv, hqx, hXI⟩ := hq9
  refine lv_pop hx hb dL_law_483 rfl ?_
  refine lv_aload_n hx hb dL_law_484 rfl (lv_at hl 1 rfl) ?_
  have hPc := va_P_left hP
  have hDc := va_D_left hD
  obtain ⟨fs9, hfs9⟩ := hMI.recv
  refine cl_i2 (wc := wm) (wr := ux) (va_runV (As := []) (rest := []) ⟨hx, hb, hml, hown, hts⟩ (F_X10_night l D k H.size z y (ypn 0) (ypn 1) (ypn 2) (ypn 3) (ypn 4) (ypn 5) (ypn 6) (ypn 7) (ypi 0) (ypi 1) (ypi 2) (ypi 3) (ypi 4) (ypi 5) (ypf 0) (ypf 1) (ypf 2) (ypf 3) (ypf 4) (ypf 5) (ypf 6) (ypf 7) (ypf 8) (ypf 9) (ypf 10) (ypf 11) (ypf 12) (ypf 13) (ypf 14) (ypf 15) (ypf 16) (ypf 17) (ypf 18) (ypf 19) (ypf 20)  wm hMI (by first | assumption | omega) (by first | assumption | omega) (by first | assumption | omega) (by first | assumption | omega) (by first | assumption | omega) (by first | assumption | omega) (by first | assumption | omega)) (cwV 0 hts gL_law_X10_night rfl rfl rfl (by decide +kernel) ⟨Nat.le_of_ble_eq_true rfl, Nat.le_of_ble_eq_true rfl⟩) ⟨PT.blind _ _ _ _ _ _, va_recv hG.1 hPc (ci := 10) (q0 := 0) rfl hfs9, PT.pre hPc hDc hG hZ hS (A_left hD hS hA) [.ref y]⟩ rfl rfl hl.1 rfl (lv_room (Nat.le_of_ble_eq_true rfl)) dL_law_485 ⟨Nat.le_of_ble_eq_true rfl, Nat.le_of_ble_eq_true rfl⟩) hP hD hS hA (fun r u H locs hq9 hP hD hS => ?_)
  generalize r = ry at hq9 ⊢
  obtain ⟨um, rfl⟩ : ∃ z, z = u := ⟨_, rfl⟩
  obtain ⟨y_wg9, y_sd9, y_w0, y_w1, y_w2, y_w3, y_w4, y_w5, y_w6, hqm, hMI⟩ := hq9
  refine lv_pop hx hb dL_law_488 rfl ?_
  refine lv_goto (tgt := 907) hx hb dL_law_489 (by decide) ?_
  obtain ⟨lE, elf⟩ := id hLF
  have hNZ : ∀ sw wh, noZ (xpf 5) sw wh = nzS (ypf 5) sw wh (ypn 2) := by intro sw wh; rw [hRD.1.2.2.1]; exact noZ_eq elf hTN.2.2.1 hRD.2.2.2.1 sw wh
  have hnm := hqm.2
  rw [hLW.2.1, hLW.1, hLW.2.2, hWG, hSD.1, hRD.1.2.2.2, hDY] at hnm
  have hngt := nt_E (g5 := x_g5) (g6 := x_g6) hCR hRD hq0 hq1 hq3 (wk_eq hNZ) hSD.2 hqx.2.1 hnm (fun m hm => by rw [hqx.2.2.1]; exact fl_3 m hm) (fun m hm => by rw [hqx.2.2.2]; exact fl_3 m hm)
  exact kk H locs ux um ⟨(fun i9 => ([xpn 0, xpn 1, xpn 2, x_dy9, xpn 4, xpn 5, xpn 6] : List (Nat)).getD i9 0), (fun i9 => ([xpi 0, xpi 1, x_wv, x_sv, xpi 4, xpi 5, xpi 6, xpi 7, xpi 8, xpi 9, xpi 10, xpi 11, xpi 12] : List (Int32)).getD i9 0), xpr, (fun i9 => ([xpf 0, xpf 1, xpf 2, xpf 3, xpf 4, xpf 5, xpf 6, x_g0, x_g1, x_g2, x_g3, x_g4, x_g5, x_g6, xpf 14, xpf 15, xpf 16, xpf 17, xpf 18, xpf 19, xpf 20, xpf 21, xpf 22, xpf 23, xpf 24, xpf 25, xpf 26, xpf 27, xpf 28, xpf 29, xpf 30, xpf 31, xpf 32, xpf 33, xpf 34, xpf 35, xpf 36] : List (Nat → Int32)).getD i9 (fun _ => 0)), xpl, (fun i9 => ([ypn 0, ypn 1, ypn 2, ypn 3, ypn 4, ypn 5, ypn 6, (ypn 7) + 1] : List (Nat)).getD i9 0), (fun i9 => ([ypi 0, ypi 1, ypi 2, y_wg9, y_sd9, ypi 5] : List (Int32)).getD i9 0), (fun i9 => ([ypf 0, ypf 1, ypf 2, ypf 3, ypf 4, ypf 5, ypf 6, y_w0, y_w1, y_w2, y_w3, y_w4, y_w5, y_w6, ypf 14, ypf 15, ypf 16, ypf 17, ypf 18, ypf 19, ypf 20] : List (Nat → Int32)).getD i9 (fun _ => 0)), hXI, hMI, ⟨(show (xpn 0) ≤ 500 from hn), (show ((xpr 0) 0 ≤ 7 ∧ (xpr 0) 1 ≤ 7 ∧ (xpr 0) 2 ≤ 20 ∧ (xpr 0) 3 ≤ 3) from ⟨hq0, hq1, hq2, hq3⟩), (show (∀ d, d < 100 → (xpr 1) d ≤ d + 1) from hal), (show NBr 3 4 ((xpr 0) 3) (xpf 4) from hNB), (show (1 ≤ (xpn 1) ∧ (xpn 1) ≤ 7) from hnn), (show (xpn 2) ≤ 7 from hyy), (show x_dy9 ≤ 100 * (i + 4) from by have := hqx.1; omega), (show (xpn 4) ≤ 100 * (i + 4) from by omega), (show (xpn 5) ≤ 100 * (i + 4) from by omega), (show (xpn 6) ≤ 20 from hbb), (show OB (xpf 36) from hOBx), (show CFB ((xpr 0) 1) (xpf 6) from hCFx), (show AK ((xpr 0) 1) (xpf 6) (xpr 1) from hAKx), (show MEM ((xpr 0) 1) (xpf 6) (xpf 33) (xpl 0) from hMMx)⟩, ⟨(show (ypn 5) ≤ 500 from htx), (show ((ypn 0) ≤ 7 ∧ (ypn 1) ≤ 7 ∧ (ypn 2) ≤ 20 ∧ (ypn 3) ≤ 3) from ⟨hho, hsp, hnp, hmp⟩), (show (1 ≤ (ypn 4) ∧ (ypn 4) ≤ 7) from hnt), (show ((ypi 1) = -1 ∨ ∃ v : Nat, v ≤ 7 ∧ (ypi 1) = nI v) from hyt), (show LDI y_w6 (ypf 14) from hqm.1), (show mB (ypn 3) (ypf 6) from hmB), (show ((ypn 7) + 1) ≤ 100 * (i + 4) from by omega), (show (ypn 6) ≤ 20 from hbk), (show RW (ypf 19) (ypf 20) (ypn 6) from hRW), (show IMI (ypf 16) (100 * (i + 4)) from IMI_w hIM (by omega))⟩, (show (ypn 5) = (xpn 0) from hTX), (show (ypf 15) = (xpf 0) from hF), (show (∀ j, ¬ (xpf 0) j < 0) from hFP), (show (ypi 5) = (xpi 8) from hFB), (show RD (xpr 0) (xpf 1) (xpf 2) (xpf 3) (xpf 4) (ypn 0) (ypn 1) (ypn 2) (ypn 3) (ypf 0) (ypf 1) (ypf 2) (ypf 3) (ypf 4) (ypf 5) (ypf 6) from hRD), (show ((ypn 7) + 1) = x_dy9 from by rw [hDY, hqx.1]), (show (ypn 6) = (xpn 6) from hBK), (show (ypf 17) = (xpf 28) from hKZ), (show ((ypf 16) 24 = nI (xpn 4) ∧ (ypf 16) 54 = nI (xpn 5)) from hI0), (show TN (xpr 0) (xpf 1) (xpf 2) (xpf 3) (xpf 4) from hTN), (show (∃ zE : Nat → Int32, (xpf 5) = snI zE (xpf 3) ((xpr 0) 2)) from hLF), (show (∃ zE : Nat → Int32, (xpf 6) = fcO (xpr 0) (xpf 1) (xpf 2) (xpf 5) zE 100) from hCF), (show ((ypf 18) = (xpf 29) ∧ (ypf 19) = (xpf 30) ∧ (ypf 20) = (xpf 31)) from hBD), (show BWr (xpr 0) (xpn 6) (xpf 30) (xpf 31) from hBW), (show CR (xpr 0) x_g0 x_g1 x_g2 x_g3 x_g4 x_g5 x_g6 y_w0 y_w1 y_w2 y_w3 y_w4 y_w5 y_w6 (ypf 14) from hngt.2.2.2.2), (show y_wg9 = x_wv from hngt.2.1), (show (y_sd9 = x_sv ∧ ¬ x_sv < 0) from ⟨hngt.2.2.1, hngt.2.2.2.1⟩), (show ((ypn 4) = (xpn 1) ∧ yeF (nI (ypn 4)) (ypi 1) = nI (xpn 2) ∧ (ypi 2) = (xpi 0)) from hLW), (show IR (xpr 0) ((xpf 28) 0) (xpf 14) (xpf 15) (xpf 16) (xpf 17) (xpf 18) (xpf 19) (xpf 20) (fun j => (ypf 16) (0 + j)) (fun j => (ypf 16) (3 + j)) (fun j => (ypf 16) (6 + j)) (fun j => (ypf 16) (9 + j)) (fun j => (ypf 16) (12 + j)) (fun j => (ypf 16) (15 + j)) (fun j => (ypf 16) (18 + j)) (fun j => (ypf 16) (21 + j)) ((ypf 16) 25) (xpi 4) ((ypf 16) 26) (xpi 5) from hIA), (show IR (xpr 0) ((xpf 28) 1) (xpf 21) (xpf 22) (xpf 23) (xpf 24) (xpf 25) (xpf 26) (xpf 27) (fun j => (ypf 16) (30 + j)) (fun j => (ypf 16) (33 + j)) (fun j => (ypf 16) (36 + j)) (fun j => (ypf 16) (39 + j)) (fun j => (ypf 16) (42 + j)) (fun j => (ypf 16) (45 + j)) (fun j => (ypf 16) (48 + j)) (fun j => (ypf 16) (51 + j)) ((ypf 16) 55) (xpi 6) ((ypf 16) 56) (xpi 7) from hIB)⟩ hP hD hS

set_option maxHeartbeats 20000000 in
set_option maxRecDepth 100000 in
theorem cs_run {p : Program} {l : Launch} {e : Env} {s : State} {m : MethodId} {below : List Frame} {meth : Method} {c : Code} {b L : Nat} {xs : Nat → Int32} {D : va_G} {k : Nat → ClassId} {z : Nat → Nat} {A : Nat → Prop} {x y i : Nat} {wx wm : va_W} {H : Heap} {locs : List Loc} {ls : Array Slot} (C : lC p s m meth c b L xs D k z A) (hil : i + 4 ≤ L) (hJ : JN k x y i wx wm) (hP : va_P D vwCl (wx ++ wm) H) (hD : va_D A (wx ++ wm)) (hS : va_S A s.heap H locs) (hl : lv_has ls 4 [(3, .int (nI i)), (2, .ref y), (1, .ref x), (0, .ref b)]) (kk : ∀ (H : Heap) (locs : List Loc) (wx wm : va_W), JN k x y (i + 4) wx wm → va_P D vwCl (wx ++ wm) H → va_D A (wx ++ wm) → va_S A s.heap H locs → W p l e room_1 s m #[Value.ref b] below meth c H locs 123 7201 (lw_Z below #[Value.ref b] s) (F0 m 907 ls [])) : W p l e room_1 s m #[Value.ref b] below meth c H locs 123 7201 (lw_Z below #[Value.ref b] s) (F0 m 492 ls []) := by
  obtain ⟨hx, hb, hml, hown, hts, hX, hbl, hbA, hG, hZ, hA, hL⟩ := C
  obtain ⟨xpn, xpi, xpr, xpf, xpl, ypn, ypi, ypf, hXI, hMI, ⟨hn, ⟨hq0, hq1, hq2, hq3⟩, hal, hNB, hnn, hyy, hdyi, hda, hdb, hbb, hOBx, hCFx, hAKx, hMMx⟩, ⟨htx, ⟨hho, hsp, hnp, hmp⟩, hnt, hyt, hld, hmB, hddi, hbk, hRW, hIM⟩, hTX, hF, hFP, hFB, hRD, hDY, hBK, hKZ, hI0, hTN, hLF, hCF, hBD, hBW, hCR, hWG, hSD, hLW, hIA, hIB⟩ := hJ
  refine lv_aload_n hx hb dL_law_492 rfl (lv_at hl 2 rfl) ?_
  refine lv_aload_n hx hb dL_law_493 rfl (lv_at hl 3 rfl) ?_
  refine lv_iload_n hx hb dL_law_494 rfl (lv_at hl 0 rfl) ?_
  refine lv_iconst (v := 1) hx hb dL_law_495 (by decide) ?_
  refine lv_iadd hx hb dL_law_496 ?_
  refine tp_i (y := nI (i + 1)) (nI_add i 1) ?_
  refine va_sld hx hb hX hbl hbA hS (vp_in_nI (n := i + 1) (by omega) (by omega)) dL_law_497 ?_
  refine tp_i (y := xs (i + 1)) (congrArg xs (nI_clamp (n := i + 1) (by omega))) ?_
  have hPc := va_P_left hP
  have hDc := va_D_left hD
  obtain ⟨fs9, hfs9⟩ := hXI.recv
  refine cl_i2 (wc := wx) (wr := wm) (va_runV (As := [.int (xs (i + 1))]) (rest := []) ⟨hx, hb, hml, hown, hts⟩ (F_X9_run l D k H.size z x (xpn 0) (xpf 0) (xpr 0) (xpf 1) (xpf 2) (xpf 3) (xpf 4) (xpf 5) (xpf 6) (xpr 1) (xpn 1) (xpn 2) (xpi 0) (xpi 1) (xpf 7) (xpf 8) (xpf 9) (xpf 10) (xpf 11) (xpf 12) (xpf 13) (xpi 2) (xpn 3) (xpi 3) (xpf 14) (xpf 15) (xpf 16) (xpf 17) (xpf 18) (xpf 19) (xpf 20) (xpi 4) (xpn 4) (xpi 5) (xpf 21) (xpf 22) (xpf 23) (xpf 24) (xpf 25) (xpf 26) (xpf 27) (xpi 6) (xpn 5) (xpi 7) (xpf 28) (xpn 6) (xpf 29) (xpf 30) (xpf 31) (xpi 8) (xpf 32) (xpf 33) (xpl 0) (xpi 9) (xpi 10) (xpi 11) (xpi 12) (xpf 34) (xpf 35) (xpf 36) (xs (i + 1)) wx hXI (by first | assumption | omega) (by first | assumption | omega) (by first | assumption | omega) (by first | assumption | omega) (by first | assumption | omega)) (cwV 1 hts gL_law_X9_run rfl rfl rfl (by decide +kernel) ⟨Nat.le_of_ble_eq_true rfl, Nat.le_of_ble_eq_true rfl⟩) ⟨PT.blind _ _ _ _ _ _, va_recv hG.1 hPc (ci := 9) (q0 := 0) rfl hfs9, PT.pre hPc hDc hG hZ hS (A_left hD hS hA) [.ref x, .int (xs (i + 1))]⟩ rfl rfl hl.1 rfl (lv_room (Nat.le_of_ble_eq_true rfl)) dL_law_498 ⟨Nat.le_of_ble_eq_true rfl, Nat.le_of_ble_eq_true rfl⟩) hP hD hS hA (fun r u H locs hq9 hP hD hS => ?_)
  generalize r = rx at hq9 ⊢
  obtain ⟨ux, rfl⟩ : ∃ z, z = u := ⟨_, rfl⟩
  obtain ⟨x_g0, x_g1, x_g2, x_g3, x_g4, x_g5, x_g6, x_wv, x_dy9, x_sv, hqx, hXI⟩ := hq9
  refine lv_pop hx hb dL_law_501 rfl ?_
  refine lv_aload_n hx hb dL_law_502 rfl (lv_at hl 1 rfl) ?_
  refine lv_aload_n hx hb dL_law_503 rfl (lv_at hl 3 rfl) ?_
  refine lv_iload_n hx hb dL_law_504 rfl (lv_at hl 0 rfl) ?_
  refine lv_iconst (v := 1) hx hb dL_law_505 (by decide) ?_
  refine lv_iadd hx hb dL_law_506 ?_
  refine tp_i (y := nI (i + 1)) (nI_add i 1) ?_
  refine va_sld hx hb hX hbl hbA hS (vp_in_nI (n := i + 1) (by omega) (by omega)) dL_law_507 ?_
  refine tp_i (y := xs (i + 1)) (congrArg xs (nI_clamp (n := i + 1) (by omega))) ?_
  have hPc := va_P_left hP
  have hDc := va_D_left hD
  obtain ⟨fs9, hfs9⟩ := hMI.recv
  refine cl_i2 (wc := wm) (wr := ux) (va_runV (As := [.int (xs (i + 1))]) (rest := []) ⟨hx, hb, hml, hown, hts⟩ (F_X10_run l D k H.size z y (ypn 0) (ypn 1) (ypn 2) (ypn 3) (ypn 4) (ypn 5) (ypn 6) (ypn 7) (ypi 0) (ypi 1) (ypi 2) (ypi 3) (ypi 4) (ypi 5) (ypf 0) (ypf 1) (ypf 2) (ypf 3) (ypf 4) (ypf 5) (ypf 6) (ypf 7) (ypf 8) (ypf 9) (ypf 10) (ypf 11) (ypf 12) (ypf 13) (ypf 14) (ypf 15) (ypf 16) (ypf 17) (ypf 18) (ypf 19) (ypf 20) (xs (i + 1)) wm hMI (by first | assumption | omega) (by first | assumption | omega) (by first | assumption | omega) (by first | assumption | omega) (by first | assumption | omega) (by first | assumption | omega) (by first | assumption | omega) (by first | assumption | omega)) (cwV 1 hts gL_law_X10_run rfl rfl rfl (by decide +kernel) ⟨Nat.le_of_ble_eq_true rfl, Nat.le_of_ble_eq_true rfl⟩) ⟨PT.blind _ _ _ _ _ _, va_recv hG.1 hPc (ci := 10) (q0 := 0) rfl hfs9, PT.pre hPc hDc hG hZ hS (A_left hD hS hA) [.ref y, .int (xs (i + 1))]⟩ rfl rfl hl.1 rfl (lv_room (Nat.le_of_ble_eq_true rfl)) dL_law_508 ⟨Nat.le_of_ble_eq_true rfl, Nat.le_of_ble_eq_true rfl⟩) hP hD hS hA (fun r u H locs hq9 hP hD hS => ?_)
  generalize r = ry at hq9 ⊢
  obtain ⟨um, rfl⟩ : ∃ z, z = u := ⟨_, rfl⟩
  obtain ⟨y_dd9, y_wg9, y_sd9, y_w0, y_w1, y_w2, y_w3, y_w4, y_w5, y_w6, y_w7, hqm, hMI⟩ := hq9
  refine lv_pop hx hb dL_law_511 rfl ?_
  refine lv_goto (tgt := 907) hx hb dL_law_512 (by decide) ?_
  obtain ⟨lE, elf⟩ := id hLF
  have hNZ : ∀ sw wh, noZ (xpf 5) sw wh = nzS (ypf 5) sw wh (ypn 2) := by intro sw wh; rw [hRD.1.2.2.1]; exact noZ_eq elf hTN.2.2.1 hRD.2.2.2.1 sw wh
  have hrm := hqm.2.2.2
  rw [hLW.2.1, hLW.1, hLW.2.2, hWG, hSD.1, hRD.1.1, hRD.1.2.1, hRD.1.2.2.2, hDY] at hrm
  have hrn := rn_E hRD hTN.1 hq0 hq1 hq3 (wk_eq hNZ) (CRt_i hCR hSD.2) hqx.2.2 hrm
  exact kk H locs ux um ⟨(fun i9 => ([xpn 0, xpn 1, xpn 2, x_dy9, xpn 4, xpn 5, xpn 6] : List (Nat)).getD i9 0), (fun i9 => ([xpi 0, xpi 1, x_wv, x_sv, xpi 4, xpi 5, xpi 6, xpi 7, xpi 8, xpi 9, xpi 10, xpi 11, xpi 12] : List (Int32)).getD i9 0), xpr, (fun i9 => ([xpf 0, xpf 1, xpf 2, xpf 3, xpf 4, xpf 5, xpf 6, x_g0, x_g1, x_g2, x_g3, x_g4, x_g5, x_g6, xpf 14, xpf 15, xpf 16, xpf 17, xpf 18, xpf 19, xpf 20, xpf 21, xpf 22, xpf 23, xpf 24, xpf 25, xpf 26, xpf 27, xpf 28, xpf 29, xpf 30, xpf 31, xpf 32, xpf 33, xpf 34, xpf 35, xpf 36] : List (Nat → Int32)).getD i9 (fun _ => 0)), xpl, (fun i9 => ([ypn 0, ypn 1, ypn 2, ypn 3, ypn 4, ypn 5, ypn 6, y_dd9] : List (Nat)).getD i9 0), (fun i9 => ([ypi 0, ypi 1, ypi 2, y_wg9, y_sd9, ypi 5] : List (Int32)).getD i9 0), (fun i9 => ([ypf 0, ypf 1, ypf 2, ypf 3, ypf 4, ypf 5, ypf 6, y_w0, y_w1, y_w2, y_w3, y_w4, y_w5, y_w6, y_w7, ypf 15, ypf 16, ypf 17, ypf 18, ypf 19, ypf 20] : List (Nat → Int32)).getD i9 (fun _ => 0)), hXI, hMI, ⟨(show (xpn 0) ≤ 500 from hn), (show ((xpr 0) 0 ≤ 7 ∧ (xpr 0) 1 ≤ 7 ∧ (xpr 0) 2 ≤ 20 ∧ (xpr 0) 3 ≤ 3) from ⟨hq0, hq1, hq2, hq3⟩), (show (∀ d, d < 100 → (xpr 1) d ≤ d + 1) from hal), (show NBr 3 4 ((xpr 0) 3) (xpf 4) from hNB), (show (1 ≤ (xpn 1) ∧ (xpn 1) ≤ 7) from hnn), (show (xpn 2) ≤ 7 from hyy), (show x_dy9 ≤ 100 * (i + 4) from by have := hqx.1; omega), (show (xpn 4) ≤ 100 * (i + 4) from by omega), (show (xpn 5) ≤ 100 * (i + 4) from by omega), (show (xpn 6) ≤ 20 from hbb), (show OB (xpf 36) from hOBx), (show CFB ((xpr 0) 1) (xpf 6) from hCFx), (show AK ((xpr 0) 1) (xpf 6) (xpr 1) from hAKx), (show MEM ((xpr 0) 1) (xpf 6) (xpf 33) (xpl 0) from hMMx)⟩, ⟨(show (ypn 5) ≤ 500 from htx), (show ((ypn 0) ≤ 7 ∧ (ypn 1) ≤ 7 ∧ (ypn 2) ≤ 20 ∧ (ypn 3) ≤ 3) from ⟨hho, hsp, hnp, hmp⟩), (show (1 ≤ (ypn 4) ∧ (ypn 4) ≤ 7) from hnt), (show ((ypi 1) = -1 ∨ ∃ v : Nat, v ≤ 7 ∧ (ypi 1) = nI v) from hyt), (show LDI y_w6 y_w7 from hqm.1), (show mB (ypn 3) (ypf 6) from hmB), (show y_dd9 ≤ 100 * (i + 4) from by have := hqm.2.1; omega), (show (ypn 6) ≤ 20 from hbk), (show RW (ypf 19) (ypf 20) (ypn 6) from hRW), (show IMI (ypf 16) (100 * (i + 4)) from IMI_w hIM (by omega))⟩, (show (ypn 5) = (xpn 0) from hTX), (show (ypf 15) = (xpf 0) from hF), (show (∀ j, ¬ (xpf 0) j < 0) from hFP), (show (ypi 5) = (xpi 8) from hFB), (show RD (xpr 0) (xpf 1) (xpf 2) (xpf 3) (xpf 4) (ypn 0) (ypn 1) (ypn 2) (ypn 3) (ypf 0) (ypf 1) (ypf 2) (ypf 3) (ypf 4) (ypf 5) (ypf 6) from hRD), (show y_dd9 = x_dy9 from hrn.2.2.2.1), (show (ypn 6) = (xpn 6) from hBK), (show (ypf 17) = (xpf 28) from hKZ), (show ((ypf 16) 24 = nI (xpn 4) ∧ (ypf 16) 54 = nI (xpn 5)) from hI0), (show TN (xpr 0) (xpf 1) (xpf 2) (xpf 3) (xpf 4) from hTN), (show (∃ zE : Nat → Int32, (xpf 5) = snI zE (xpf 3) ((xpr 0) 2)) from hLF), (show (∃ zE : Nat → Int32, (xpf 6) = fcO (xpr 0) (xpf 1) (xpf 2) (xpf 5) zE 100) from hCF), (show ((ypf 18) = (xpf 29) ∧ (ypf 19) = (xpf 30) ∧ (ypf 20) = (xpf 31)) from hBD), (show BWr (xpr 0) (xpn 6) (xpf 30) (xpf 31) from hBW), (show CR (xpr 0) x_g0 x_g1 x_g2 x_g3 x_g4 x_g5 x_g6 y_w0 y_w1 y_w2 y_w3 y_w4 y_w5 y_w6 y_w7 from hrn.2.1), (show y_wg9 = x_wv from hrn.2.2.1), (show (y_sd9 = x_sv ∧ ¬ x_sv < 0) from hrn.2.2.2.2), (show ((ypn 4) = (xpn 1) ∧ yeF (nI (ypn 4)) (ypi 1) = nI (xpn 2) ∧ (ypi 2) = (xpi 0)) from hLW), (show IR (xpr 0) ((xpf 28) 0) (xpf 14) (xpf 15) (xpf 16) (xpf 17) (xpf 18) (xpf 19) (xpf 20) (fun j => (ypf 16) (0 + j)) (fun j => (ypf 16) (3 + j)) (fun j => (ypf 16) (6 + j)) (fun j => (ypf 16) (9 + j)) (fun j => (ypf 16) (12 + j)) (fun j => (ypf 16) (15 + j)) (fun j => (ypf 16) (18 + j)) (fun j => (ypf 16) (21 + j)) ((ypf 16) 25) (xpi 4) ((ypf 16) 26) (xpi 5) from hIA), (show IR (xpr 0) ((xpf 28) 1) (xpf 21) (xpf 22) (xpf 23) (xpf 24) (xpf 25) (xpf 26) (xpf 27) (fun j => (ypf 16) (30 + j)) (fun j => (ypf 16) (33 + j)) (fun j => (ypf 16) (36 + j)) (fun j => (ypf 16) (39 + j)) (fun j => (ypf 16) (42 + j)) (fun j => (ypf 16) (45 + j)) (fun j => (ypf 16) (48 + j)) (fun j => (ypf 16) (51 + j)) ((ypf 16) 55) (xpi 6) ((ypf 16) 56) (xpi 7) from hIB)⟩ hP hD hS

set_option maxHeartbeats 20000000 in
set_option maxRecDepth 100000 in
theorem cs_begin {p : Program} {l : Launch} {e : Env} {s : State} {m : MethodId} {below : List Frame} {meth : Method} {c : Code} {b L : Nat} {xs : Nat → Int32} {D : va_G} {k : Nat → ClassId} {z : Nat → Nat} {A : Nat → Prop} {x y i : Nat} {wx wm : va_W} {H : Heap} {locs : List Loc} {ls : Array Slot} (C : lC p s m meth c b L xs D k z A) (hil : i + 4 ≤ L) (hJ : JN k x y i wx wm) (hP : va_P D vwCl (wx ++ wm) H) (hD : va_D A (wx ++ wm)) (hS : va_S A s.heap H locs) (hl : lv_has ls 4 [(3, .int (nI i)), (2, .ref y), (1, .ref x), (0, .ref b)]) (kk : ∀ (H : Heap) (locs : List Loc) (wx wm : va_W), JN k x y (i + 4) wx wm → va_P D vwCl (wx ++ wm) H → va_D A (wx ++ wm) → va_S A s.heap H locs → W p l e room_1 s m #[Value.ref b] below meth c H locs 123 7201 (lw_Z below #[Value.ref b] s) (F0 m 907 ls [])) : W p l e room_1 s m #[Value.ref b] below meth c H locs 123 7201 (lw_Z below #[Value.ref b] s) (F0 m 515 ls []) := by
  obtain ⟨hx, hb, hml, hown, hts, hX, hbl, hbA, hG, hZ, hA, hL⟩ := C
  obtain ⟨xpn, xpi, xpr, xpf, xpl, ypn, ypi, ypf, hXI, hMI, ⟨hn, ⟨hq0, hq1, hq2, hq3⟩, hal, hNB, hnn, hyy, hdyi, hda, hdb, hbb, hOBx, hCFx, hAKx, hMMx⟩, ⟨htx, ⟨hho, hsp, hnp, hmp⟩, hnt, hyt, hld, hmB, hddi, hbk, hRW, hIM⟩, hTX, hF, hFP, hFB, hRD, hDY, hBK, hKZ, hI0, hTN, hLF, hCF, hBD, hBW, hCR, hWG, hSD, hLW, hIA, hIB⟩ := hJ
  refine lv_aload_n hx hb dL_law_515 rfl (lv_at hl 2 rfl) ?_
  have hPc := va_P_left hP
  have hDc := va_D_left hD
  obtain ⟨fs9, hfs9⟩ := hXI.recv
  refine cl_i2 (wc := wx) (wr := wm) (va_runV (As := []) (rest := []) ⟨hx, hb, hml, hown, hts⟩ (F_X9_begin l D k H.size z x (xpn 0) (xpf 0) (xpr 0) (xpf 1) (xpf 2) (xpf 3) (xpf 4) (xpf 5) (xpf 6) (xpr 1) (xpn 1) (xpn 2) (xpi 0) (xpi 1) (xpf 7) (xpf 8) (xpf 9) (xpf 10) (xpf 11) (xpf 12) (xpf 13) (xpi 2) (xpn 3) (xpi 3) (xpf 14) (xpf 15) (xpf 16) (xpf 17) (xpf 18) (xpf 19) (xpf 20) (xpi 4) (xpn 4) (xpi 5) (xpf 21) (xpf 22) (xpf 23) (xpf 24) (xpf 25) (xpf 26) (xpf 27) (xpi 6) (xpn 5) (xpi 7) (xpf 28) (xpn 6) (xpf 29) (xpf 30) (xpf 31) (xpi 8) (xpf 32) (xpf 33) (xpl 0) (xpi 9) (xpi 10) (xpi 11) (xpi 12) (xpf 34) (xpf 35) (xpf 36)  wx hXI ) (cwV 0 hts gL_law_X9_begin rfl rfl rfl (by decide +kernel) ⟨Nat.le_of_ble_eq_true rfl, Nat.le_of_ble_eq_true rfl⟩) ⟨PT.blind _ _ _ _ _ _, va_recv hG.1 hPc (ci := 9) (q0 := 0) rfl hfs9, PT.pre hPc hDc hG hZ hS (A_left hD hS hA) [.ref x]⟩ rfl rfl hl.1 rfl (lv_room (Nat.le_of_ble_eq_true rfl)) dL_law_516 ⟨Nat.le_of_ble_eq_true rfl, Nat.le_of_ble_eq_true rfl⟩) hP hD hS hA (fun r u H locs hq9 hP hD hS => ?_)
  generalize r = rx at hq9 ⊢
  obtain ⟨ux, rfl⟩ : ∃ z, z = u := ⟨_, rfl⟩
  obtain ⟨hqx, hXI⟩ := hq9
  refine lv_pop hx hb dL_law_519 rfl ?_
  refine lv_aload_n hx hb dL_law_520 rfl (lv_at hl 1 rfl) ?_
  have hPc := va_P_left hP
  have hDc := va_D_left hD
  obtain ⟨fs9, hfs9⟩ := hMI.recv
  refine cl_i2 (wc := wm) (wr := ux) (va_runV (As := []) (rest := []) ⟨hx, hb, hml, hown, hts⟩ (F_X10_begin l D k H.size z y (ypn 0) (ypn 1) (ypn 2) (ypn 3) (ypn 4) (ypn 5) (ypn 6) (ypn 7) (ypi 0) (ypi 1) (ypi 2) (ypi 3) (ypi 4) (ypi 5) (ypf 0) (ypf 1) (ypf 2) (ypf 3) (ypf 4) (ypf 5) (ypf 6) (ypf 7) (ypf 8) (ypf 9) (ypf 10) (ypf 11) (ypf 12) (ypf 13) (ypf 14) (ypf 15) (ypf 16) (ypf 17) (ypf 18) (ypf 19) (ypf 20)  wm hMI ) (cwV 0 hts gL_law_X10_begin rfl rfl rfl (by decide +kernel) ⟨Nat.le_of_ble_eq_true rfl, Nat.le_of_ble_eq_true rfl⟩) ⟨PT.blind _ _ _ _ _ _, va_recv hG.1 hPc (ci := 10) (q0 := 0) rfl hfs9, PT.pre hPc hDc hG hZ hS (A_left hD hS hA) [.ref y]⟩ rfl rfl hl.1 rfl (lv_room (Nat.le_of_ble_eq_true rfl)) dL_law_521 ⟨Nat.le_of_ble_eq_true rfl, Nat.le_of_ble_eq_true rfl⟩) hP hD hS hA (fun r u H locs hq9 hP hD hS => ?_)
  generalize r = ry at hq9 ⊢
  obtain ⟨um, rfl⟩ : ∃ z, z = u := ⟨_, rfl⟩
  obtain ⟨hqm, hMI⟩ := hq9
  refine lv_pop hx hb dL_law_524 rfl ?_
  refine lv_goto (tgt := 907) hx hb dL_law_525 (by decide) ?_
  exact kk H locs ux um ⟨(fun i9 => ([xpn 0, xpn 1, xpn 2, 0, xpn 4, xpn 5, xpn 6] : List (Nat)).getD i9 0), (fun i9 => ([xpi 0, xpi 1, 0, xpi 3, xpi 4, xpi 5, xpi 6, xpi 7, xpi 8, xpi 9, xpi 10, xpi 11, xpi 12] : List (Int32)).getD i9 0), xpr, (fun i9 => ([xpf 0, xpf 1, xpf 2, xpf 3, xpf 4, xpf 5, xpf 6, fl_i (xpf 7) 0 3, fl_i (xpf 8) 0 3, fl_i (xpf 9) 0 3, fl_i (xpf 10) 0 3, fl_i (xpf 11) (-1) 3, fl_i (xpf 12) (-1) 3, fl_i (xpf 13) (-1) 3, xpf 14, xpf 15, xpf 16, xpf 17, xpf 18, xpf 19, xpf 20, xpf 21, xpf 22, xpf 23, xpf 24, xpf 25, xpf 26, xpf 27, xpf 28, xpf 29, xpf 30, xpf 31, xpf 32, xpf 33, xpf 34, xpf 35, xpf 36] : List (Nat → Int32)).getD i9 (fun _ => 0)), xpl, (fun i9 => ([ypn 0, ypn 1, ypn 2, ypn 3, ypn 4, ypn 5, ypn 6, 0] : List (Nat)).getD i9 0), (fun i9 => ([ypi 0, ypi 1, ypi 2, 0, ypi 4, ypi 5] : List (Int32)).getD i9 0), (fun i9 => ([ypf 0, ypf 1, ypf 2, ypf 3, ypf 4, ypf 5, ypf 6, b3 (ypf 7) 0, b3 (ypf 8) 0, b3 (ypf 9) 0, b3 (ypf 10) (-1), b3 (ypf 11) 0, b3 (ypf 12) 0, b3 (ypf 13) (-1), b3 (ypf 14) (-1), ypf 15, ypf 16, ypf 17, ypf 18, ypf 19, ypf 20] : List (Nat → Int32)).getD i9 (fun _ => 0)), hXI, hMI, ⟨(show (xpn 0) ≤ 500 from hn), (show ((xpr 0) 0 ≤ 7 ∧ (xpr 0) 1 ≤ 7 ∧ (xpr 0) 2 ≤ 20 ∧ (xpr 0) 3 ≤ 3) from ⟨hq0, hq1, hq2, hq3⟩), (show (∀ d, d < 100 → (xpr 1) d ≤ d + 1) from hal), (show NBr 3 4 ((xpr 0) 3) (xpf 4) from hNB), (show (1 ≤ (xpn 1) ∧ (xpn 1) ≤ 7) from hnn), (show (xpn 2) ≤ 7 from hyy), (show 0 ≤ 100 * (i + 4) from Nat.zero_le _), (show (xpn 4) ≤ 100 * (i + 4) from by omega), (show (xpn 5) ≤ 100 * (i + 4) from by omega), (show (xpn 6) ≤ 20 from hbb), (show OB (xpf 36) from hOBx), (show CFB ((xpr 0) 1) (xpf 6) from hCFx), (show AK ((xpr 0) 1) (xpf 6) (xpr 1) from hAKx), (show MEM ((xpr 0) 1) (xpf 6) (xpf 33) (xpl 0) from hMMx)⟩, ⟨(show (ypn 5) ≤ 500 from htx), (show ((ypn 0) ≤ 7 ∧ (ypn 1) ≤ 7 ∧ (ypn 2) ≤ 20 ∧ (ypn 3) ≤ 3) from ⟨hho, hsp, hnp, hmp⟩), (show (1 ≤ (ypn 4) ∧ (ypn 4) ≤ 7) from hnt), (show ((ypi 1) = -1 ∨ ∃ v : Nat, v ≤ 7 ∧ (ypi 1) = nI v) from hyt), (show LDI (b3 (ypf 13) (-1)) (b3 (ypf 14) (-1)) from LDI_b), (show mB (ypn 3) (ypf 6) from hmB), (show 0 ≤ 100 * (i + 4) from Nat.zero_le _), (show (ypn 6) ≤ 20 from hbk), (show RW (ypf 19) (ypf 20) (ypn 6) from hRW), (show IMI (ypf 16) (100 * (i + 4)) from IMI_w hIM (by omega))⟩, (show (ypn 5) = (xpn 0) from hTX), (show (ypf 15) = (xpf 0) from hF), (show (∀ j, ¬ (xpf 0) j < 0) from hFP), (show (ypi 5) = (xpi 8) from hFB), (show RD (xpr 0) (xpf 1) (xpf 2) (xpf 3) (xpf 4) (ypn 0) (ypn 1) (ypn 2) (ypn 3) (ypf 0) (ypf 1) (ypf 2) (ypf 3) (ypf 4) (ypf 5) (ypf 6) from hRD), (show 0 = 0 from rfl), (show (ypn 6) = (xpn 6) from hBK), (show (ypf 17) = (xpf 28) from hKZ), (show ((ypf 16) 24 = nI (xpn 4) ∧ (ypf 16) 54 = nI (xpn 5)) from hI0), (show TN (xpr 0) (xpf 1) (xpf 2) (xpf 3) (xpf 4) from hTN), (show (∃ zE : Nat → Int32, (xpf 5) = snI zE (xpf 3) ((xpr 0) 2)) from hLF), (show (∃ zE : Nat → Int32, (xpf 6) = fcO (xpr 0) (xpf 1) (xpf 2) (xpf 5) zE 100) from hCF), (show ((ypf 18) = (xpf 29) ∧ (ypf 19) = (xpf 30) ∧ (ypf 20) = (xpf 31)) from hBD), (show BWr (xpr 0) (xpn 6) (xpf 30) (xpf 31) from hBW), (show CR (xpr 0) (fl_i (xpf 7) 0 3) (fl_i (xpf 8) 0 3) (fl_i (xpf 9) 0 3) (fl_i (xpf 10) 0 3) (fl_i (xpf 11) (-1) 3) (fl_i (xpf 12) (-1) 3) (fl_i (xpf 13) (-1) 3) (b3 (ypf 7) 0) (b3 (ypf 8) 0) (b3 (ypf 9) 0) (b3 (ypf 10) (-1)) (b3 (ypf 11) 0) (b3 (ypf 12) 0) (b3 (ypf 13) (-1)) (b3 (ypf 14) (-1)) from CR_0 fl_3 fl_3 fl_3 fl_3 fl_3 fl_3 fl_3 b3_3 b3_3 b3_3 b3_3 b3_3 b3_3 b3_3), (show 0 = 0 from rfl), (show ((ypi 4) = (xpi 3) ∧ ¬ (xpi 3) < 0) from hSD), (show ((ypn 4) = (xpn 1) ∧ yeF (nI (ypn 4)) (ypi 1) = nI (xpn 2) ∧ (ypi 2) = (xpi 0)) from hLW), (show IR (xpr 0) ((xpf 28) 0) (xpf 14) (xpf 15) (xpf 16) (xpf 17) (xpf 18) (xpf 19) (xpf 20) (fun j => (ypf 16) (0 + j)) (fun j => (ypf 16) (3 + j)) (fun j => (ypf 16) (6 + j)) (fun j => (ypf 16) (9 + j)) (fun j => (ypf 16) (12 + j)) (fun j => (ypf 16) (15 + j)) (fun j => (ypf 16) (18 + j)) (fun j => (ypf 16) (21 + j)) ((ypf 16) 25) (xpi 4) ((ypf 16) 26) (xpi 5) from hIA), (show IR (xpr 0) ((xpf 28) 1) (xpf 21) (xpf 22) (xpf 23) (xpf 24) (xpf 25) (xpf 26) (xpf 27) (fun j => (ypf 16) (30 + j)) (fun j => (ypf 16) (33 + j)) (fun j => (ypf 16) (36 + j)) (fun j => (ypf 16) (39 + j)) (fun j => (ypf 16) (42 + j)) (fun j => (ypf 16) (45 + j)) (fun j => (ypf 16) (48 + j)) (fun j => (ypf 16) (51 + j)) ((ypf 16) 55) (xpi 6) ((ypf 16) 56) (xpi 7) from hIB)⟩ hP hD hS

set_option maxHeartbeats 20000000 in
set_option maxRecDepth 100000 in
theorem cs_soonest {p : Program} {l : Launch} {e : Env} {s : State} {m : MethodId} {below : List Frame} {meth : Method} {c : Code} {b L : Nat} {xs : Nat → Int32} {D : va_G} {k : Nat → ClassId} {z : Nat → Nat} {A : Nat → Prop} {x y i : Nat} {wx wm : va_W} {H : Heap} {locs : List Loc} {ls : Array Slot} (C : lC p s m meth c b L xs D k z A) (hil : i + 4 ≤ L) (hJ : JN k x y i wx wm) (hP : va_P D vwCl (wx ++ wm) H) (hD : va_D A (wx ++ wm)) (hS : va_S A s.heap H locs) (hl : lv_has ls 4 [(3, .int (nI i)), (2, .ref y), (1, .ref x), (0, .ref b)]) (kk : ∀ (H : Heap) (locs : List Loc) (wx wm : va_W), JN k x y (i + 4) wx wm → va_P D vwCl (wx ++ wm) H → va_D A (wx ++ wm) → va_S A s.heap H locs → W p l e room_1 s m #[Value.ref b] below meth c H locs 123 7201 (lw_Z below #[Value.ref b] s) (F0 m 907 ls [])) : W p l e room_1 s m #[Value.ref b] below meth c H locs 123 7201 (lw_Z below #[Value.ref b] s) (F0 m 528 ls []) := by
  obtain ⟨hx, hb, hml, hown, hts, hX, hbl, hbA, hG, hZ, hA, hL⟩ := C
  obtain ⟨xpn, xpi, xpr, xpf, xpl, ypn, ypi, ypf, hXI, hMI, ⟨hn, ⟨hq0, hq1, hq2, hq3⟩, hal, hNB, hnn, hyy, hdyi, hda, hdb, hbb, hOBx, hCFx, hAKx, hMMx⟩, ⟨htx, ⟨hho, hsp, hnp, hmp⟩, hnt, hyt, hld, hmB, hddi, hbk, hRW, hIM⟩, hTX, hF, hFP, hFB, hRD, hDY, hBK, hKZ, hI0, hTN, hLF, hCF, hBD, hBW, hCR, hWG, hSD, hLW, hIA, hIB⟩ := hJ
  refine lv_aload_n hx hb dL_law_528 rfl (lv_at hl 2 rfl) ?_
  refine lv_aload_n hx hb dL_law_529 rfl (lv_at hl 3 rfl) ?_
  refine lv_iload_n hx hb dL_law_530 rfl (lv_at hl 0 rfl) ?_
  refine lv_iconst (v := 1) hx hb dL_law_531 (by decide) ?_
  refine lv_iadd hx hb dL_law_532 ?_
  refine tp_i (y := nI (i + 1)) (nI_add i 1) ?_
  refine va_sld hx hb hX hbl hbA hS (vp_in_nI (n := i + 1) (by omega) (by omega)) dL_law_533 ?_
  refine tp_i (y := xs (i + 1)) (congrArg xs (nI_clamp (n := i + 1) (by omega))) ?_
  refine lv_aload_n hx hb dL_law_534 rfl (lv_at hl 3 rfl) ?_
  refine lv_iload_n hx hb dL_law_535 rfl (lv_at hl 0 rfl) ?_
  refine lv_iconst (v := 2) hx hb dL_law_536 (by decide) ?_
  refine lv_iadd hx hb dL_law_537 ?_
  refine tp_i (y := nI (i + 2)) (nI_add i 2) ?_
  refine va_sld hx hb hX hbl hbA hS (vp_in_nI (n := i + 2) (by omega) (by omega)) dL_law_538 ?_
  refine tp_i (y := xs (i + 2)) (congrArg xs (nI_clamp (n := i + 2) (by omega))) ?_
  have hPc := va_P_left hP
  have hDc := va_D_left hD
  obtain ⟨fs9, hfs9⟩ := hXI.recv
  refine cl_i2 (wc := wx) (wr := wm) (va_runV (As := [.int (xs (i + 1)), .int (xs (i + 2))]) (rest := []) ⟨hx, hb, hml, hown, hts⟩ (F_X9_soonest l D k H.size z x (xpn 0) (xpf 0) (xpr 0) (xpf 1) (xpf 2) (xpf 3) (xpf 4) (xpf 5) (xpf 6) (xpr 1) (xpn 1) (xpn 2) (xpi 0) (xpi 1) (xpf 7) (xpf 8) (xpf 9) (xpf 10) (xpf 11) (xpf 12) (xpf 13) (xpi 2) (xpn 3) (xpi 3) (xpf 14) (xpf 15) (xpf 16) (xpf 17) (xpf 18) (xpf 19) (xpf 20) (xpi 4) (xpn 4) (xpi 5) (xpf 21) (xpf 22) (xpf 23) (xpf 24) (xpf 25) (xpf 26) (xpf 27) (xpi 6) (xpn 5) (xpi 7) (xpf 28) (xpn 6) (xpf 29) (xpf 30) (xpf 31) (xpi 8) (xpf 32) (xpf 33) (xpl 0) (xpi 9) (xpi 10) (xpi 11) (xpi 12) (xpf 34) (xpf 35) (xpf 36) (xs (i + 1)) (xs (i + 2)) wx hXI (by first | assumption | omega) (by first | assumption | omega) (by first | assumption | omega) (by first | assumption | omega) (by first | assumption | omega) (by first | assumption | omega) (by first | assumption | omega) (by first | assumption | omega) (by first | assumption | omega) (by first | assumption | omega)) (cwV 2 hts gL_law_X9_soonest rfl rfl rfl (by decide +kernel) ⟨Nat.le_of_ble_eq_true rfl, Nat.le_of_ble_eq_true rfl⟩) ⟨PT.blind _ _ _ _ _ _, va_recv hG.1 hPc (ci := 9) (q0 := 0) rfl hfs9, PT.pre hPc hDc hG hZ hS (A_left hD hS hA) [.ref x, .int (xs (i + 1)), .int (xs (i + 2))]⟩ rfl rfl hl.1 rfl (lv_room (Nat.le_of_ble_eq_true rfl)) dL_law_539 ⟨Nat.le_of_ble_eq_true rfl, Nat.le_of_ble_eq_true rfl⟩) hP hD hS hA (fun r u H locs hq9 hP hD hS => ?_)
  generalize r = rx at hq9 ⊢
  obtain ⟨ux, rfl⟩ : ∃ z, z = u := ⟨_, rfl⟩
  obtain ⟨x_lg9, x_ab9, x_M7, x_M8, x_o8, x_u0, x_u1, hqx, hXI⟩ := hq9
  refine lv_pop hx hb dL_law_542 rfl ?_
  refine lv_aload_n hx hb dL_law_543 rfl (lv_at hl 1 rfl) ?_
  refine lv_aload_n hx hb dL_law_544 rfl (lv_at hl 3 rfl) ?_
  refine lv_iload_n hx hb dL_law_545 rfl (lv_at hl 0 rfl) ?_
  refine lv_iconst (v := 1) hx hb dL_law_546 (by decide) ?_
  refine lv_iadd hx hb dL_law_547 ?_
  refine tp_i (y := nI (i + 1)) (nI_add i 1) ?_
  refine va_sld hx hb hX hbl hbA hS (vp_in_nI (n := i + 1) (by omega) (by omega)) dL_law_548 ?_
  refine tp_i (y := xs (i + 1)) (congrArg xs (nI_clamp (n := i + 1) (by omega))) ?_
  refine lv_aload_n hx hb dL_law_549 rfl (lv_at hl 3 rfl) ?_
  refine lv_iload_n hx hb dL_law_550 rfl (lv_at hl 0 rfl) ?_
  refine lv_iconst (v := 2) hx hb dL_law_551 (by decide) ?_
  refine lv_iadd hx hb dL_law_552 ?_
  refine tp_i (y := nI (i + 2)) (nI_add i 2) ?_
  refine va_sld hx hb hX hbl hbA hS (vp_in_nI (n := i + 2) (by omega) (by omega)) dL_law_553 ?_
  refine tp_i (y := xs (i + 2)) (congrArg xs (nI_clamp (n := i + 2) (by omega))) ?_
  have hPc := va_P_left hP
  have hDc := va_D_left hD
  obtain ⟨fs9, hfs9⟩ := hMI.recv
  refine cl_i2 (wc := wm) (wr := ux) (va_runV (As := [.int (xs (i + 1)), .int (xs (i + 2))]) (rest := []) ⟨hx, hb, hml, hown, hts⟩ (F_X10_soonest l D k H.size z y (ypn 0) (ypn 1) (ypn 2) (ypn 3) (ypn 4) (ypn 5) (ypn 6) (ypn 7) (ypi 0) (ypi 1) (ypi 2) (ypi 3) (ypi 4) (ypi 5) (ypf 0) (ypf 1) (ypf 2) (ypf 3) (ypf 4) (ypf 5) (ypf 6) (ypf 7) (ypf 8) (ypf 9) (ypf 10) (ypf 11) (ypf 12) (ypf 13) (ypf 14) (ypf 15) (ypf 16) (ypf 17) (ypf 18) (ypf 19) (ypf 20) (xs (i + 1)) (xs (i + 2)) wm hMI (by first | assumption | omega) (by first | assumption | omega) (by first | assumption | omega) (by first | assumption | omega) (by first | assumption | omega) (by first | assumption | omega) (by first | assumption | omega) (by first | assumption | omega)) (cwV 2 hts gL_law_X10_soonest rfl rfl rfl (by decide +kernel) ⟨Nat.le_of_ble_eq_true rfl, Nat.le_of_ble_eq_true rfl⟩) ⟨PT.blind _ _ _ _ _ _, va_recv hG.1 hPc (ci := 10) (q0 := 0) rfl hfs9, PT.pre hPc hDc hG hZ hS (A_left hD hS hA) [.ref y, .int (xs (i + 1)), .int (xs (i + 2))]⟩ rfl rfl hl.1 rfl (lv_room (Nat.le_of_ble_eq_true rfl)) dL_law_554 ⟨Nat.le_of_ble_eq_true rfl, Nat.le_of_ble_eq_true rfl⟩) hP hD hS hA (fun r u H locs hq9 hP hD hS => ?_)
  generalize r = ry at hq9 ⊢
  obtain ⟨um, rfl⟩ : ∃ z, z = u := ⟨_, rfl⟩
  obtain ⟨y_bu9, y_tk9, y_l9, y_g9, y_x0, y_x1, hqm, hMI⟩ := hq9
  refine lv_pop hx hb dL_law_557 rfl ?_
  refine lv_goto (tgt := 907) hx hb dL_law_558 (by decide) ?_
  obtain ⟨lE, elf⟩ := id hLF
  obtain ⟨cE, ecf⟩ := id hCF
  have hNZ : ∀ sw wh, noZ (xpf 5) sw wh = nzS (ypf 5) sw wh (ypn 2) := by intro sw wh; rw [hRD.1.2.2.1]; exact noZ_eq elf hTN.2.2.1 hRD.2.2.2.1 sw wh
  have hrm := hqm
  rw [hRD.1.1, hRD.1.2.1, hRD.1.2.2.2, hDY, hLW.1] at hrm
  have hsn9 := sn_eq hRD hTN.1 hq0 hq1 hq3 (wk_eq hNZ) ecf hnn hqx.2.2 hrm
  exact kk H locs ux um ⟨xpn, xpi, xpr, (fun i9 => ([xpf 0, xpf 1, xpf 2, xpf 3, xpf 4, xpf 5, xpf 6, xpf 7, xpf 8, xpf 9, xpf 10, xpf 11, xpf 12, xpf 13, xpf 14, xpf 15, xpf 16, xpf 17, xpf 18, xpf 19, xpf 20, xpf 21, xpf 22, xpf 23, xpf 24, xpf 25, xpf 26, xpf 27, xpf 28, xpf 29, xpf 30, xpf 31, xpf 32, x_lg9, xpf 34, xpf 35, x_o8] : List (Nat → Int32)).getD i9 (fun _ => 0)), (fun i9 => ([x_ab9] : List (Nat → Int64)).getD i9 (fun _ => 0)), ypn, ypi, ypf, hXI, hMI, ⟨(show (xpn 0) ≤ 500 from hn), (show ((xpr 0) 0 ≤ 7 ∧ (xpr 0) 1 ≤ 7 ∧ (xpr 0) 2 ≤ 20 ∧ (xpr 0) 3 ≤ 3) from ⟨hq0, hq1, hq2, hq3⟩), (show (∀ d, d < 100 → (xpr 1) d ≤ d + 1) from hal), (show NBr 3 4 ((xpr 0) 3) (xpf 4) from hNB), (show (1 ≤ (xpn 1) ∧ (xpn 1) ≤ 7) from hnn), (show (xpn 2) ≤ 7 from hyy), (show (xpn 3) ≤ 100 * (i + 4) from by omega), (show (xpn 4) ≤ 100 * (i + 4) from by omega), (show (xpn 5) ≤ 100 * (i + 4) from by omega), (show (xpn 6) ≤ 20 from hbb), (show OB x_o8 from hqx.1), (show CFB ((xpr 0) 1) (xpf 6) from hCFx), (show AK ((xpr 0) 1) (xpf 6) (xpr 1) from hAKx), (show MEM ((xpr 0) 1) (xpf 6) x_lg9 x_ab9 from hqx.2.1)⟩, ⟨(show (ypn 5) ≤ 500 from htx), (show ((ypn 0) ≤ 7 ∧ (ypn 1) ≤ 7 ∧ (ypn 2) ≤ 20 ∧ (ypn 3) ≤ 3) from ⟨hho, hsp, hnp, hmp⟩), (show (1 ≤ (ypn 4) ∧ (ypn 4) ≤ 7) from hnt), (show ((ypi 1) = -1 ∨ ∃ v : Nat, v ≤ 7 ∧ (ypi 1) = nI v) from hyt), (show LDI (ypf 13) (ypf 14) from hld), (show mB (ypn 3) (ypf 6) from hmB), (show (ypn 7) ≤ 100 * (i + 4) from by omega), (show (ypn 6) ≤ 20 from hbk), (show RW (ypf 19) (ypf 20) (ypn 6) from hRW), (show IMI (ypf 16) (100 * (i + 4)) from IMI_w hIM (by omega))⟩, (show (ypn 5) = (xpn 0) from hTX), (show (ypf 15) = (xpf 0) from hF), (show (∀ j, ¬ (xpf 0) j < 0) from hFP), (show (ypi 5) = (xpi 8) from hFB), (show RD (xpr 0) (xpf 1) (xpf 2) (xpf 3) (xpf 4) (ypn 0) (ypn 1) (ypn 2) (ypn 3) (ypf 0) (ypf 1) (ypf 2) (ypf 3) (ypf 4) (ypf 5) (ypf 6) from hRD), (show (ypn 7) = (xpn 3) from hDY), (show (ypn 6) = (xpn 6) from hBK), (show (ypf 17) = (xpf 28) from hKZ), (show ((ypf 16) 24 = nI (xpn 4) ∧ (ypf 16) 54 = nI (xpn 5)) from hI0), (show TN (xpr 0) (xpf 1) (xpf 2) (xpf 3) (xpf 4) from hTN), (show (∃ zE : Nat → Int32, (xpf 5) = snI zE (xpf 3) ((xpr 0) 2)) from hLF), (show (∃ zE : Nat → Int32, (xpf 6) = fcO (xpr 0) (xpf 1) (xpf 2) (xpf 5) zE 100) from hCF), (show ((ypf 18) = (xpf 29) ∧ (ypf 19) = (xpf 30) ∧ (ypf 20) = (xpf 31)) from hBD), (show BWr (xpr 0) (xpn 6) (xpf 30) (xpf 31) from hBW), (show CR (xpr 0) (xpf 7) (xpf 8) (xpf 9) (xpf 10) (xpf 11) (xpf 12) (xpf 13) (ypf 7) (ypf 8) (ypf 9) (ypf 10) (ypf 11) (ypf 12) (ypf 13) (ypf 14) from hCR), (show (ypi 3) = (xpi 2) from hWG), (show ((ypi 4) = (xpi 3) ∧ ¬ (xpi 3) < 0) from hSD), (show ((ypn 4) = (xpn 1) ∧ yeF (nI (ypn 4)) (ypi 1) = nI (xpn 2) ∧ (ypi 2) = (xpi 0)) from hLW), (show IR (xpr 0) ((xpf 28) 0) (xpf 14) (xpf 15) (xpf 16) (xpf 17) (xpf 18) (xpf 19) (xpf 20) (fun j => (ypf 16) (0 + j)) (fun j => (ypf 16) (3 + j)) (fun j => (ypf 16) (6 + j)) (fun j => (ypf 16) (9 + j)) (fun j => (ypf 16) (12 + j)) (fun j => (ypf 16) (15 + j)) (fun j => (ypf 16) (18 + j)) (fun j => (ypf 16) (21 + j)) ((ypf 16) 25) (xpi 4) ((ypf 16) 26) (xpi 5) from hIA), (show IR (xpr 0) ((xpf 28) 1) (xpf 21) (xpf 22) (xpf 23) (xpf 24) (xpf 25) (xpf 26) (xpf 27) (fun j => (ypf 16) (30 + j)) (fun j => (ypf 16) (33 + j)) (fun j => (ypf 16) (36 + j)) (fun j => (ypf 16) (39 + j)) (fun j => (ypf 16) (42 + j)) (fun j => (ypf 16) (45 + j)) (fun j => (ypf 16) (48 + j)) (fun j => (ypf 16) (51 + j)) ((ypf 16) 55) (xpi 6) ((ypf 16) 56) (xpi 7) from hIB)⟩ hP hD hS

set_option maxHeartbeats 20000000 in
set_option maxRecDepth 100000 in
theorem cs_cheapest {p : Program} {l : Launch} {e : Env} {s : State} {m : MethodId} {below : List Frame} {meth : Method} {c : Code} {b L : Nat} {xs : Nat → Int32} {D : va_G} {k : Nat → ClassId} {z : Nat → Nat} {A : Nat → Prop} {x y i : Nat} {wx wm : va_W} {H : Heap} {locs : List Loc} {ls : Array Slot} (C : lC p s m meth c b L xs D k z A) (hil : i + 4 ≤ L) (hJ : JN k x y i wx wm) (hP : va_P D vwCl (wx ++ wm) H) (hD : va_D A (wx ++ wm)) (hS : va_S A s.heap H locs) (hl : lv_has ls 4 [(3, .int (nI i)), (2, .ref y), (1, .ref x), (0, .ref b)]) (kk : ∀ (H : Heap) (locs : List Loc) (wx wm : va_W), JN k x y (i + 4) wx wm → va_P D vwCl (wx ++ wm) H → va_D A (wx ++ wm) → va_S A s.heap H locs → W p l e room_1 s m #[Value.ref b] below meth c H locs 123 7201 (lw_Z below #[Value.ref b] s) (F0 m 907 ls [])) : W p l e room_1 s m #[Value.ref b] below meth c H locs 123 7201 (lw_Z below #[Value.ref b] s) (F0 m 561 ls []) := by
  obtain ⟨hx, hb, hml, hown, hts, hX, hbl, hbA, hG, hZ, hA, hL⟩ := C
  obtain ⟨xpn, xpi, xpr, xpf, xpl, ypn, ypi, ypf, hXI, hMI, ⟨hn, ⟨hq0, hq1, hq2, hq3⟩, hal, hNB, hnn, hyy, hdyi, hda, hdb, hbb, hOBx, hCFx, hAKx, hMMx⟩, ⟨htx, ⟨hho, hsp, hnp, hmp⟩, hnt, hyt, hld, hmB, hddi, hbk, hRW, hIM⟩, hTX, hF, hFP, hFB, hRD, hDY, hBK, hKZ, hI0, hTN, hLF, hCF, hBD, hBW, hCR, hWG, hSD, hLW, hIA, hIB⟩ := hJ
  refine lv_aload_n hx hb dL_law_561 rfl (lv_at hl 2 rfl) ?_
  refine lv_aload_n hx hb dL_law_562 rfl (lv_at hl 3 rfl) ?_
  refine lv_iload_n hx hb dL_law_563 rfl (lv_at hl 0 rfl) ?_
  refine lv_iconst (v := 1) hx hb dL_law_564 (by decide) ?_
  refine lv_iadd hx hb dL_law_565 ?_
  refine tp_i (y := nI (i + 1)) (nI_add i 1) ?_
  refine va_sld hx hb hX hbl hbA hS (vp_in_nI (n := i + 1) (by omega) (by omega)) dL_law_566 ?_
  refine tp_i (y := xs (i + 1)) (congrArg xs (nI_clamp (n := i + 1) (by omega))) ?_
  refine lv_aload_n hx hb dL_law_567 rfl (lv_at hl 3 rfl) ?_
  refine lv_iload_n hx hb dL_law_568 rfl (lv_at hl 0 rfl) ?_
  refine lv_iconst (v := 2) hx hb dL_law_569 (by decide) ?_
  refine lv_iadd hx hb dL_law_570 ?_
  refine tp_i (y := nI (i + 2)) (nI_add i 2) ?_
  refine va_sld hx hb hX hbl hbA hS (vp_in_nI (n := i + 2) (by omega) (by omega)) dL_law_571 ?_
  refine tp_i (y := xs (i + 2)) (congrArg xs (nI_clamp (n := i + 2) (by omega))) ?_
  have hPc := va_P_left hP
  have hDc := va_D_left hD
  obtain ⟨fs9, hfs9⟩ := hXI.recv
  refine cl_i2 (wc := wx) (wr := wm) (va_runV (As := [.int (xs (i + 1)), .int (xs (i + 2))]) (rest := []) ⟨hx, hb, hml, hown, hts⟩ (F_X9_cheapest l D k H.size z x (xpn 0) (xpf 0) (xpr 0) (xpf 1) (xpf 2) (xpf 3) (xpf 4) (xpf 5) (xpf 6) (xpr 1) (xpn 1) (xpn 2) (xpi 0) (xpi 1) (xpf 7) (xpf 8) (xpf 9) (xpf 10) (xpf 11) (xpf 12) (xpf 13) (xpi 2) (xpn 3) (xpi 3) (xpf 14) (xpf 15) (xpf 16) (xpf 17) (xpf 18) (xpf 19) (xpf 20) (xpi 4) (xpn 4) (xpi 5) (xpf 21) (xpf 22) (xpf 23) (xpf 24) (xpf 25) (xpf 26) (xpf 27) (xpi 6) (xpn 5) (xpi 7) (xpf 28) (xpn 6) (xpf 29) (xpf 30) (xpf 31) (xpi 8) (xpf 32) (xpf 33) (xpl 0) (xpi 9) (xpi 10) (xpi 11) (xpi 12) (xpf 34) (xpf 35) (xpf 36) (xs (i + 1)) (xs (i + 2)) wx hXI (by first | assumption | omega) (by first | assumption | omega) (by first | assumption | omega) (by first | assumption | omega) (by first | assumption | omega) (by first | assumption | omega) (by first | assumption | omega) (by first | assumption | omega) (by first | assumption | omega) (by first | assumption | omega) (by first | assumption | omega)) (cwV 2 hts gL_law_X9_cheapest rfl rfl rfl (by decide +kernel) ⟨Nat.le_of_ble_eq_true rfl, Nat.le_of_ble_eq_true rfl⟩) ⟨PT.blind _ _ _ _ _ _, va_recv hG.1 hPc (ci := 9) (q0 := 0) rfl hfs9, PT.pre hPc hDc hG hZ hS (A_left hD hS hA) [.ref x, .int (xs (i + 1)), .int (xs (i + 2))]⟩ rfl rfl hl.1 rfl (lv_room (Nat.le_of_ble_eq_true rfl)) dL_law_572 ⟨Nat.le_of_ble_eq_true rfl, Nat.le_of_ble_eq_true rfl⟩) hP hD hS hA (fun r u H locs hq9 hP hD hS => ?_)
  generalize r = rx at hq9 ⊢
  obtain ⟨ux, rfl⟩ : ∃ z, z = u := ⟨_, rfl⟩
  obtain ⟨x_va9, x_en9, x_sv9, x_lg9, x_ab9, x_M7, x_M8, x_o8, x_ow9, hqx, hXI⟩ := hq9
  refine lv_aload_n hx hb dL_law_575 rfl (lv_at hl 1 rfl) ?_
  refine lv_aload_n hx hb dL_law_576 rfl (lv_at hl 3 rfl) ?_
  refine lv_iload_n hx hb dL_law_577 rfl (lv_at hl 0 rfl) ?_
  refine lv_iconst (v := 1) hx hb dL_law_578 (by decide) ?_
  refine lv_iadd hx hb dL_law_579 ?_
  refine tp_i (y := nI (i + 1)) (nI_add i 1) ?_
  refine va_sld hx hb hX hbl hbA hS (vp_in_nI (n := i + 1) (by omega) (by omega)) dL_law_580 ?_
  refine tp_i (y := xs (i + 1)) (congrArg xs (nI_clamp (n := i + 1) (by omega))) ?_
  refine lv_aload_n hx hb dL_law_581 rfl (lv_at hl 3 rfl) ?_
  refine lv_iload_n hx hb dL_law_582 rfl (lv_at hl 0 rfl) ?_
  refine lv_iconst (v := 2) hx hb dL_law_583 (by decide) ?_
  refine lv_iadd hx hb dL_law_584 ?_
  refine tp_i (y := nI (i + 2)) (nI_add i 2) ?_
  refine va_sld hx hb hX hbl hbA hS (vp_in_nI (n := i + 2) (by omega) (by omega)) dL_law_585 ?_
  refine tp_i (y := xs (i + 2)) (congrArg xs (nI_clamp (n := i + 2) (by omega))) ?_
  have hPc := va_P_left hP
  have hDc := va_D_left hD
  obtain ⟨fs9, hfs9⟩ := hMI.recv
  refine cl_i2 (wc := wm) (wr := ux) (va_runV (As := [.int (xs (i + 1)), .int (xs (i + 2))]) (rest := [.int rx]) ⟨hx, hb, hml, hown, hts⟩ (F_X10_cheapest l D k H.size z y (ypn 0) (ypn 1) (ypn 2) (ypn 3) (ypn 4) (ypn 5) (ypn 6) (ypn 7) (ypi 0) (ypi 1) (ypi 2) (ypi 3) (ypi 4) (ypi 5) (ypf 0) (ypf 1) (ypf 2) (ypf 3) (ypf 4) (ypf 5) (ypf 6) (ypf 7) (ypf 8) (ypf 9) (ypf 10) (ypf 11) (ypf 12) (ypf 13) (ypf 14) (ypf 15) (ypf 16) (ypf 17) (ypf 18) (ypf 19) (ypf 20) (xs (i + 1)) (xs (i + 2)) wm hMI (by first | assumption | omega) (by first | assumption | omega) (by first | assumption | omega) (by first | assumption | omega) (by first | assumption | omega) (by first | assumption | omega) (by first | assumption | omega) (by first | assumption | omega)) (cwV 2 hts gL_law_X10_cheapest rfl rfl rfl (by decide +kernel) ⟨Nat.le_of_ble_eq_true rfl, Nat.le_of_ble_eq_true rfl⟩) ⟨PT.blind _ _ _ _ _ _, va_recv hG.1 hPc (ci := 10) (q0 := 0) rfl hfs9, PT.pre hPc hDc hG hZ hS (A_left hD hS hA) [.ref y, .int (xs (i + 1)), .int (xs (i + 2))]⟩ rfl rfl hl.1 rfl (lv_room (Nat.le_of_ble_eq_true rfl)) dL_law_586 ⟨Nat.le_of_ble_eq_true rfl, Nat.le_of_ble_eq_true rfl⟩) hP hD hS hA (fun r u H locs hq9 hP hD hS => ?_)
  generalize r = ry at hq9 ⊢
  obtain ⟨um, rfl⟩ : ∃ z, z = u := ⟨_, rfl⟩
  obtain ⟨y_bu9, y_tk9, y_gl9, y_gh9, y_md9, y_ob9, y_bw9, y_be9, y_bh9, hqm, hMI⟩ := hq9
  obtain ⟨lE, elf⟩ := id hLF
  obtain ⟨cE, ecf⟩ := id hCF
  have hNZ : ∀ sw wh, noZ (xpf 5) sw wh = nzS (ypf 5) sw wh (ypn 2) := by intro sw wh; rw [hRD.1.2.2.1]; exact noZ_eq elf hTN.2.2.1 hRD.2.2.2.1 sw wh
  have hrm := hqm
  rw [hRD.1.1, hRD.1.2.1, hRD.1.2.2.2, hDY, hLW.1] at hrm
  have hch9 := cp_eq hRD hTN.1 hTN.2.1 hq0 hq1 hq3 (wk_eq hNZ) ecf hnn hqx.2.2 hrm
  refine lv_icmp_eq (x := rx) (y := ry) (tgt := 907) hx hb dL_law_589 (by decide) (fun _ => ?_) (fun hc => absurd (hch9) hc)
  exact kk H locs ux um ⟨xpn, xpi, xpr, (fun i9 => ([xpf 0, xpf 1, xpf 2, xpf 3, xpf 4, xpf 5, xpf 6, xpf 7, xpf 8, xpf 9, xpf 10, xpf 11, xpf 12, xpf 13, xpf 14, xpf 15, xpf 16, xpf 17, xpf 18, xpf 19, xpf 20, xpf 21, xpf 22, xpf 23, xpf 24, xpf 25, xpf 26, xpf 27, xpf 28, xpf 29, xpf 30, xpf 31, xpf 32, x_lg9, xpf 34, xpf 35, x_o8] : List (Nat → Int32)).getD i9 (fun _ => 0)), (fun i9 => ([x_ab9] : List (Nat → Int64)).getD i9 (fun _ => 0)), ypn, ypi, ypf, hXI, hMI, ⟨(show (xpn 0) ≤ 500 from hn), (show ((xpr 0) 0 ≤ 7 ∧ (xpr 0) 1 ≤ 7 ∧ (xpr 0) 2 ≤ 20 ∧ (xpr 0) 3 ≤ 3) from ⟨hq0, hq1, hq2, hq3⟩), (show (∀ d, d < 100 → (xpr 1) d ≤ d + 1) from hal), (show NBr 3 4 ((xpr 0) 3) (xpf 4) from hNB), (show (1 ≤ (xpn 1) ∧ (xpn 1) ≤ 7) from hnn), (show (xpn 2) ≤ 7 from hyy), (show (xpn 3) ≤ 100 * (i + 4) from by omega), (show (xpn 4) ≤ 100 * (i + 4) from by omega), (show (xpn 5) ≤ 100 * (i + 4) from by omega), (show (xpn 6) ≤ 20 from hbb), (show OB x_o8 from hqx.1), (show CFB ((xpr 0) 1) (xpf 6) from hCFx), (show AK ((xpr 0) 1) (xpf 6) (xpr 1) from hAKx), (show MEM ((xpr 0) 1) (xpf 6) x_lg9 x_ab9 from hqx.2.1)⟩, ⟨(show (ypn 5) ≤ 500 from htx), (show ((ypn 0) ≤ 7 ∧ (ypn 1) ≤ 7 ∧ (ypn 2) ≤ 20 ∧ (ypn 3) ≤ 3) from ⟨hho, hsp, hnp, hmp⟩), (show (1 ≤ (ypn 4) ∧ (ypn 4) ≤ 7) from hnt), (show ((ypi 1) = -1 ∨ ∃ v : Nat, v ≤ 7 ∧ (ypi 1) = nI v) from hyt), (show LDI (ypf 13) (ypf 14) from hld), (show mB (ypn 3) (ypf 6) from hmB), (show (ypn 7) ≤ 100 * (i + 4) from by omega), (show (ypn 6) ≤ 20 from hbk), (show RW (ypf 19) (ypf 20) (ypn 6) from hRW), (show IMI (ypf 16) (100 * (i + 4)) from IMI_w hIM (by omega))⟩, (show (ypn 5) = (xpn 0) from hTX), (show (ypf 15) = (xpf 0) from hF), (show (∀ j, ¬ (xpf 0) j < 0) from hFP), (show (ypi 5) = (xpi 8) from hFB), (show RD (xpr 0) (xpf 1) (xpf 2) (xpf 3) (xpf 4) (ypn 0) (ypn 1) (ypn 2) (ypn 3) (ypf 0) (ypf 1) (ypf 2) (ypf 3) (ypf 4) (ypf 5) (ypf 6) from hRD), (show (ypn 7) = (xpn 3) from hDY), (show (ypn 6) = (xpn 6) from hBK), (show (ypf 17) = (xpf 28) from hKZ), (show ((ypf 16) 24 = nI (xpn 4) ∧ (ypf 16) 54 = nI (xpn 5)) from hI0), (show TN (xpr 0) (xpf 1) (xpf 2) (xpf 3) (xpf 4) from hTN), (show (∃ zE : Nat → Int32, (xpf 5) = snI zE (xpf 3) ((xpr 0) 2)) from hLF), (show (∃ zE : Nat → Int32, (xpf 6) = fcO (xpr 0) (xpf 1) (xpf 2) (xpf 5) zE 100) from hCF), (show ((ypf 18) = (xpf 29) ∧ (ypf 19) = (xpf 30) ∧ (ypf 20) = (xpf 31)) from hBD), (show BWr (xpr 0) (xpn 6) (xpf 30) (xpf 31) from hBW), (show CR (xpr 0) (xpf 7) (xpf 8) (xpf 9) (xpf 10) (xpf 11) (xpf 12) (xpf 13) (ypf 7) (ypf 8) (ypf 9) (ypf 10) (ypf 11) (ypf 12) (ypf 13) (ypf 14) from hCR), (show (ypi 3) = (xpi 2) from hWG), (show ((ypi 4) = (xpi 3) ∧ ¬ (xpi 3) < 0) from hSD), (show ((ypn 4) = (xpn 1) ∧ yeF (nI (ypn 4)) (ypi 1) = nI (xpn 2) ∧ (ypi 2) = (xpi 0)) from hLW), (show IR (xpr 0) ((xpf 28) 0) (xpf 14) (xpf 15) (xpf 16) (xpf 17) (xpf 18) (xpf 19) (xpf 20) (fun j => (ypf 16) (0 + j)) (fun j => (ypf 16) (3 + j)) (fun j => (ypf 16) (6 + j)) (fun j => (ypf 16) (9 + j)) (fun j => (ypf 16) (12 + j)) (fun j => (ypf 16) (15 + j)) (fun j => (ypf 16) (18 + j)) (fun j => (ypf 16) (21 + j)) ((ypf 16) 25) (xpi 4) ((ypf 16) 26) (xpi 5) from hIA), (show IR (xpr 0) ((xpf 28) 1) (xpf 21) (xpf 22) (xpf 23) (xpf 24) (xpf 25) (xpf 26) (xpf 27) (fun j => (ypf 16) (30 + j)) (fun j => (ypf 16) (33 + j)) (fun j => (ypf 16) (36 + j)) (fun j => (ypf 16) (39 + j)) (fun j => (ypf 16) (42 + j)) (fun j => (ypf 16) (45 + j)) (fun j => (ypf 16) (48 + j)) (fun j => (ypf 16) (51 + j)) ((ypf 16) 55) (xpi 6) ((ypf 16) 56) (xpi 7) from hIB)⟩ hP hD hS

set_option maxHeartbeats 20000000 in
set_option maxRecDepth 100000 in
theorem cs_likeliest {p : Program} {l : Launch} {e : Env} {s : State} {m : MethodId} {below : List Frame} {meth : Method} {c : Code} {b L : Nat} {xs : Nat → Int32} {D : va_G} {k : Nat → ClassId} {z : Nat → Nat} {A : Nat → Prop} {x y i : Nat} {wx wm : va_W} {H : Heap} {locs : List Loc} {ls : Array Slot} (C : lC p s m meth c b L xs D k z A) (hil : i + 4 ≤ L) (hJ : JN k x y i wx wm) (hP : va_P D vwCl (wx ++ wm) H) (hD : va_D A (wx ++ wm)) (hS : va_S A s.heap H locs) (hl : lv_has ls 4 [(3, .int (nI i)), (2, .ref y), (1, .ref x), (0, .ref b)]) (kk : ∀ (H : Heap) (locs : List Loc) (wx wm : va_W), JN k x y (i + 4) wx wm → va_P D vwCl (wx ++ wm) H → va_D A (wx ++ wm) → va_S A s.heap H locs → W p l e room_1 s m #[Value.ref b] below meth c H locs 123 7201 (lw_Z below #[Value.ref b] s) (F0 m 907 ls [])) : W p l e room_1 s m #[Value.ref b] below meth c H locs 123 7201 (lw_Z below #[Value.ref b] s) (F0 m 594 ls []) := by
  obtain ⟨hx, hb, hml, hown, hts, hX, hbl, hbA, hG, hZ, hA, hL⟩ := C
  obtain ⟨xpn, xpi, xpr, xpf, xpl, ypn, ypi, ypf, hXI, hMI, ⟨hn, ⟨hq0, hq1, hq2, hq3⟩, hal, hNB, hnn, hyy, hdyi, hda, hdb, hbb, hOBx, hCFx, hAKx, hMMx⟩, ⟨htx, ⟨hho, hsp, hnp, hmp⟩, hnt, hyt, hld, hmB, hddi, hbk, hRW, hIM⟩, hTX, hF, hFP, hFB, hRD, hDY, hBK, hKZ, hI0, hTN, hLF, hCF, hBD, hBW, hCR, hWG, hSD, hLW, hIA, hIB⟩ := hJ
  refine lv_aload_n hx hb dL_law_594 rfl (lv_at hl 2 rfl) ?_
  refine lv_aload_n hx hb dL_law_595 rfl (lv_at hl 3 rfl) ?_
  refine lv_iload_n hx hb dL_law_596 rfl (lv_at hl 0 rfl) ?_
  refine lv_iconst (v := 1) hx hb dL_law_597 (by decide) ?_
  refine lv_iadd hx hb dL_law_598 ?_
  refine tp_i (y := nI (i + 1)) (nI_add i 1) ?_
  refine va_sld hx hb hX hbl hbA hS (vp_in_nI (n := i + 1) (by omega) (by omega)) dL_law_599 ?_
  refine tp_i (y := xs (i + 1)) (congrArg xs (nI_clamp (n := i + 1) (by omega))) ?_
  refine lv_aload_n hx hb dL_law_600 rfl (lv_at hl 3 rfl) ?_
  refine lv_iload_n hx hb dL_law_601 rfl (lv_at hl 0 rfl) ?_
  refine lv_iconst (v := 2) hx hb dL_law_602 (by decide) ?_
  refine lv_iadd hx hb dL_law_603 ?_
  refine tp_i (y := nI (i + 2)) (nI_add i 2) ?_
  refine va_sld hx hb hX hbl hbA hS (vp_in_nI (n := i + 2) (by omega) (by omega)) dL_law_604 ?_
  refine tp_i (y := xs (i + 2)) (congrArg xs (nI_clamp (n := i + 2) (by omega))) ?_
  have hPc := va_P_left hP
  have hDc := va_D_left hD
  obtain ⟨fs9, hfs9⟩ := hXI.recv
  refine cl_i2 (wc := wx) (wr := wm) (va_runV (As := [.int (xs (i + 1)), .int (xs (i + 2))]) (rest := []) ⟨hx, hb, hml, hown, hts⟩ (F_X9_likeliest l D k H.size z x (xpn 0) (xpf 0) (xpr 0) (xpf 1) (xpf 2) (xpf 3) (xpf 4) (xpf 5) (xpf 6) (xpr 1) (xpn 1) (xpn 2) (xpi 0) (xpi 1) (xpf 7) (xpf 8) (xpf 9) (xpf 10) (xpf 11) (xpf 12) (xpf 13) (xpi 2) (xpn 3) (xpi 3) (xpf 14) (xpf 15) (xpf 16) (xpf 17) (xpf 18) (xpf 19) (xpf 20) (xpi 4) (xpn 4) (xpi 5) (xpf 21) (xpf 22) (xpf 23) (xpf 24) (xpf 25) (xpf 26) (xpf 27) (xpi 6) (xpn 5) (xpi 7) (xpf 28) (xpn 6) (xpf 29) (xpf 30) (xpf 31) (xpi 8) (xpf 32) (xpf 33) (xpl 0) (xpi 9) (xpi 10) (xpi 11) (xpi 12) (xpf 34) (xpf 35) (xpf 36) (xs (i + 1)) (xs (i + 2)) wx hXI (by first | assumption | omega) (by first | assumption | omega) (by first | assumption | omega) (by first | assumption | omega) (by first | assumption | omega) (by first | assumption | omega) (by first | assumption | omega) (by first | assumption | omega) (by first | assumption | omega) (by first | assumption | omega) (by first | assumption | omega)) (cwV 2 hts gL_law_X9_likeliest rfl rfl rfl (by decide +kernel) ⟨Nat.le_of_ble_eq_true rfl, Nat.le_of_ble_eq_true rfl⟩) ⟨PT.blind _ _ _ _ _ _, va_recv hG.1 hPc (ci := 9) (q0 := 0) rfl hfs9, PT.pre hPc hDc hG hZ hS (A_left hD hS hA) [.ref x, .int (xs (i + 1)), .int (xs (i + 2))]⟩ rfl rfl hl.1 rfl (lv_room (Nat.le_of_ble_eq_true rfl)) dL_law_605 ⟨Nat.le_of_ble_eq_true rfl, Nat.le_of_ble_eq_true rfl⟩) hP hD hS hA (fun r u H locs hq9 hP hD hS => ?_)
  generalize r = rx at hq9 ⊢
  obtain ⟨ux, rfl⟩ : ∃ z, z = u := ⟨_, rfl⟩
  obtain ⟨x_va9, x_en9, x_sv9, x_lg9, x_ab9, x_M7, x_M8, x_o8, x_ow9, hqx, hXI⟩ := hq9
  refine lv_pop hx hb dL_law_608 rfl ?_
  refine lv_aload_n hx hb dL_law_609 rfl (lv_at hl 1 rfl) ?_
  refine lv_aload_n hx hb dL_law_610 rfl (lv_at hl 3 rfl) ?_
  refine lv_iload_n hx hb dL_law_611 rfl (lv_at hl 0 rfl) ?_
  refine lv_iconst (v := 1) hx hb dL_law_612 (by decide) ?_
  refine lv_iadd hx hb dL_law_613 ?_
  refine tp_i (y := nI (i + 1)) (nI_add i 1) ?_
  refine va_sld hx hb hX hbl hbA hS (vp_in_nI (n := i + 1) (by omega) (by omega)) dL_law_614 ?_
  refine tp_i (y := xs (i + 1)) (congrArg xs (nI_clamp (n := i + 1) (by omega))) ?_
  refine lv_aload_n hx hb dL_law_615 rfl (lv_at hl 3 rfl) ?_
  refine lv_iload_n hx hb dL_law_616 rfl (lv_at hl 0 rfl) ?_
  refine lv_iconst (v := 2) hx hb dL_law_617 (by decide) ?_
  refine lv_iadd hx hb dL_law_618 ?_
  refine tp_i (y := nI (i + 2)) (nI_add i 2) ?_
  refine va_sld hx hb hX hbl hbA hS (vp_in_nI (n := i + 2) (by omega) (by omega)) dL_law_619 ?_
  refine tp_i (y := xs (i + 2)) (congrArg xs (nI_clamp (n := i + 2) (by omega))) ?_
  have hPc := va_P_left hP
  have hDc := va_D_left hD
  obtain ⟨fs9, hfs9⟩ := hMI.recv
  refine cl_i2 (wc := wm) (wr := ux) (va_runV (As := [.int (xs (i + 1)), .int (xs (i + 2))]) (rest := []) ⟨hx, hb, hml, hown, hts⟩ (F_X10_likeliest l D k H.size z y (ypn 0) (ypn 1) (ypn 2) (ypn 3) (ypn 4) (ypn 5) (ypn 6) (ypn 7) (ypi 0) (ypi 1) (ypi 2) (ypi 3) (ypi 4) (ypi 5) (ypf 0) (ypf 1) (ypf 2) (ypf 3) (ypf 4) (ypf 5) (ypf 6) (ypf 7) (ypf 8) (ypf 9) (ypf 10) (ypf 11) (ypf 12) (ypf 13) (ypf 14) (ypf 15) (ypf 16) (ypf 17) (ypf 18) (ypf 19) (ypf 20) (xs (i + 1)) (xs (i + 2)) wm hMI (by first | assumption | omega) (by first | assumption | omega) (by first | assumption | omega) (by first | assumption | omega) (by first | assumption | omega) (by first | assumption | omega) (by first | assumption | omega) (by first | assumption | omega)) (cwV 2 hts gL_law_X10_likeliest rfl rfl rfl (by decide +kernel) ⟨Nat.le_of_ble_eq_true rfl, Nat.le_of_ble_eq_true rfl⟩) ⟨PT.blind _ _ _ _ _ _, va_recv hG.1 hPc (ci := 10) (q0 := 0) rfl hfs9, PT.pre hPc hDc hG hZ hS (A_left hD hS hA) [.ref y, .int (xs (i + 1)), .int (xs (i + 2))]⟩ rfl rfl hl.1 rfl (lv_room (Nat.le_of_ble_eq_true rfl)) dL_law_620 ⟨Nat.le_of_ble_eq_true rfl, Nat.le_of_ble_eq_true rfl⟩) hP hD hS hA (fun r u H locs hq9 hP hD hS => ?_)
  generalize r = ry at hq9 ⊢
  obtain ⟨um, rfl⟩ : ∃ z, z = u := ⟨_, rfl⟩
  obtain ⟨y_bu9, y_tk9, y_gl9, y_gh9, y_md9, y_ob9, y_bw9, y_be9, y_bh9, hqm, hMI⟩ := hq9
  refine lv_pop hx hb dL_law_623 rfl ?_
  refine lv_goto (tgt := 907) hx hb dL_law_624 (by decide) ?_
  obtain ⟨lE, elf⟩ := id hLF
  obtain ⟨cE, ecf⟩ := id hCF
  have hNZ : ∀ sw wh, noZ (xpf 5) sw wh = nzS (ypf 5) sw wh (ypn 2) := by intro sw wh; rw [hRD.1.2.2.1]; exact noZ_eq elf hTN.2.2.1 hRD.2.2.2.1 sw wh
  have hrm := hqm
  rw [hLW.2.1, nI_clamp (by omega), hRD.1.1, hRD.1.2.1, hRD.1.2.2.2, hDY, hLW.1] at hrm
  have hch9 := lk_eq hRD hTN.1 hq0 hq1 hq3 (wk_eq hNZ) ecf hnn hyy hqx.2.2 hrm
  exact kk H locs ux um ⟨xpn, xpi, xpr, (fun i9 => ([xpf 0, xpf 1, xpf 2, xpf 3, xpf 4, xpf 5, xpf 6, xpf 7, xpf 8, xpf 9, xpf 10, xpf 11, xpf 12, xpf 13, xpf 14, xpf 15, xpf 16, xpf 17, xpf 18, xpf 19, xpf 20, xpf 21, xpf 22, xpf 23, xpf 24, xpf 25, xpf 26, xpf 27, xpf 28, xpf 29, xpf 30, xpf 31, xpf 32, x_lg9, xpf 34, xpf 35, x_o8] : List (Nat → Int32)).getD i9 (fun _ => 0)), (fun i9 => ([x_ab9] : List (Nat → Int64)).getD i9 (fun _ => 0)), ypn, ypi, ypf, hXI, hMI, ⟨(show (xpn 0) ≤ 500 from hn), (show ((xpr 0) 0 ≤ 7 ∧ (xpr 0) 1 ≤ 7 ∧ (xpr 0) 2 ≤ 20 ∧ (xpr 0) 3 ≤ 3) from ⟨hq0, hq1, hq2, hq3⟩), (show (∀ d, d < 100 → (xpr 1) d ≤ d + 1) from hal), (show NBr 3 4 ((xpr 0) 3) (xpf 4) from hNB), (show (1 ≤ (xpn 1) ∧ (xpn 1) ≤ 7) from hnn), (show (xpn 2) ≤ 7 from hyy), (show (xpn 3) ≤ 100 * (i + 4) from by omega), (show (xpn 4) ≤ 100 * (i + 4) from by omega), (show (xpn 5) ≤ 100 * (i + 4) from by omega), (show (xpn 6) ≤ 20 from hbb), (show OB x_o8 from hqx.1), (show CFB ((xpr 0) 1) (xpf 6) from hCFx), (show AK ((xpr 0) 1) (xpf 6) (xpr 1) from hAKx), (show MEM ((xpr 0) 1) (xpf 6) x_lg9 x_ab9 from hqx.2.1)⟩, ⟨(show (ypn 5) ≤ 500 from htx), (show ((ypn 0) ≤ 7 ∧ (ypn 1) ≤ 7 ∧ (ypn 2) ≤ 20 ∧ (ypn 3) ≤ 3) from ⟨hho, hsp, hnp, hmp⟩), (show (1 ≤ (ypn 4) ∧ (ypn 4) ≤ 7) from hnt), (show ((ypi 1) = -1 ∨ ∃ v : Nat, v ≤ 7 ∧ (ypi 1) = nI v) from hyt), (show LDI (ypf 13) (ypf 14) from hld), (show mB (ypn 3) (ypf 6) from hmB), (show (ypn 7) ≤ 100 * (i + 4) from by omega), (show (ypn 6) ≤ 20 from hbk), (show RW (ypf 19) (ypf 20) (ypn 6) from hRW), (show IMI (ypf 16) (100 * (i + 4)) from IMI_w hIM (by omega))⟩, (show (ypn 5) = (xpn 0) from hTX), (show (ypf 15) = (xpf 0) from hF), (show (∀ j, ¬ (xpf 0) j < 0) from hFP), (show (ypi 5) = (xpi 8) from hFB), (show RD (xpr 0) (xpf 1) (xpf 2) (xpf 3) (xpf 4) (ypn 0) (ypn 1) (ypn 2) (ypn 3) (ypf 0) (ypf 1) (ypf 2) (ypf 3) (ypf 4) (ypf 5) (ypf 6) from hRD), (show (ypn 7) = (xpn 3) from hDY), (show (ypn 6) = (xpn 6) from hBK), (show (ypf 17) = (xpf 28) from hKZ), (show ((ypf 16) 24 = nI (xpn 4) ∧ (ypf 16) 54 = nI (xpn 5)) from hI0), (show TN (xpr 0) (xpf 1) (xpf 2) (xpf 3) (xpf 4) from hTN), (show (∃ zE : Nat → Int32, (xpf 5) = snI zE (xpf 3) ((xpr 0) 2)) from hLF), (show (∃ zE : Nat → Int32, (xpf 6) = fcO (xpr 0) (xpf 1) (xpf 2) (xpf 5) zE 100) from hCF), (show ((ypf 18) = (xpf 29) ∧ (ypf 19) = (xpf 30) ∧ (ypf 20) = (xpf 31)) from hBD), (show BWr (xpr 0) (xpn 6) (xpf 30) (xpf 31) from hBW), (show CR (xpr 0) (xpf 7) (xpf 8) (xpf 9) (xpf 10) (xpf 11) (xpf 12) (xpf 13) (ypf 7) (ypf 8) (ypf 9) (ypf 10) (ypf 11) (ypf 12) (ypf 13) (ypf 14) from hCR), (show (ypi 3) = (xpi 2) from hWG), (show ((ypi 4) = (xpi 3) ∧ ¬ (xpi 3) < 0) from hSD), (show ((ypn 4) = (xpn 1) ∧ yeF (nI (ypn 4)) (ypi 1) = nI (xpn 2) ∧ (ypi 2) = (xpi 0)) from hLW), (show IR (xpr 0) ((xpf 28) 0) (xpf 14) (xpf 15) (xpf 16) (xpf 17) (xpf 18) (xpf 19) (xpf 20) (fun j => (ypf 16) (0 + j)) (fun j => (ypf 16) (3 + j)) (fun j => (ypf 16) (6 + j)) (fun j => (ypf 16) (9 + j)) (fun j => (ypf 16) (12 + j)) (fun j => (ypf 16) (15 + j)) (fun j => (ypf 16) (18 + j)) (fun j => (ypf 16) (21 + j)) ((ypf 16) 25) (xpi 4) ((ypf 16) 26) (xpi 5) from hIA), (show IR (xpr 0) ((xpf 28) 1) (xpf 21) (xpf 22) (xpf 23) (xpf 24) (xpf 25) (xpf 26) (xpf 27) (fun j => (ypf 16) (30 + j)) (fun j => (ypf 16) (33 + j)) (fun j => (ypf 16) (36 + j)) (fun j => (ypf 16) (39 + j)) (fun j => (ypf 16) (42 + j)) (fun j => (ypf 16) (45 + j)) (fun j => (ypf 16) (48 + j)) (fun j => (ypf 16) (51 + j)) ((ypf 16) 55) (xpi 6) ((ypf 16) 56) (xpi 7) from hIB)⟩ hP hD hS

set_option maxHeartbeats 20000000 in
set_option maxRecDepth 100000 in
theorem cs_together {p : Program} {l : Launch} {e : Env} {s : State} {m : MethodId} {below : List Frame} {meth : Method} {c : Code} {b L : Nat} {xs : Nat → Int32} {D : va_G} {k : Nat → ClassId} {z : Nat → Nat} {A : Nat → Prop} {x y i : Nat} {wx wm : va_W} {H : Heap} {locs : List Loc} {ls : Array Slot} (C : lC p s m meth c b L xs D k z A) (hil : i + 4 ≤ L) (hJ : JN k x y i wx wm) (hP : va_P D vwCl (wx ++ wm) H) (hD : va_D A (wx ++ wm)) (hS : va_S A s.heap H locs) (hl : lv_has ls 4 [(3, .int (nI i)), (2, .ref y), (1, .ref x), (0, .ref b)]) (kk : ∀ (H : Heap) (locs : List Loc) (wx wm : va_W), JN k x y (i + 4) wx wm → va_P D vwCl (wx ++ wm) H → va_D A (wx ++ wm) → va_S A s.heap H locs → W p l e room_1 s m #[Value.ref b] below meth c H locs 123 7201 (lw_Z below #[Value.ref b] s) (F0 m 907 ls [])) : W p l e room_1 s m #[Value.ref b] below meth c H locs 123 7201 (lw_Z below #[Value.ref b] s) (F0 m 627 ls []) := by
  obtain ⟨hx, hb, hml, hown, hts, hX, hbl, hbA, hG, hZ, hA, hL⟩ := C
  obtain ⟨xpn, xpi, xpr, xpf, xpl, ypn, ypi, ypf, hXI, hMI, ⟨hn, ⟨hq0, hq1, hq2, hq3⟩, hal, hNB, hnn, hyy, hdyi, hda, hdb, hbb, hOBx, hCFx, hAKx, hMMx⟩, ⟨htx, ⟨hho, hsp, hnp, hmp⟩, hnt, hyt, hld, hmB, hddi, hbk, hRW, hIM⟩, hTX, hF, hFP, hFB, hRD, hDY, hBK, hKZ, hI0, hTN, hLF, hCF, hBD, hBW, hCR, hWG, hSD, hLW, hIA, hIB⟩ := hJ
  refine lv_aload_n hx hb dL_law_627 rfl (lv_at hl 2 rfl) ?_
  refine lv_aload_n hx hb dL_law_628 rfl (lv_at hl 3 rfl) ?_
  refine lv_iload_n hx hb dL_law_629 rfl (lv_at hl 0 rfl) ?_
  refine lv_iconst (v := 1) hx hb dL_law_630 (by decide) ?_
  refine lv_iadd hx hb dL_law_631 ?_
  refine tp_i (y := nI (i + 1)) (nI_add i 1) ?_
  refine va_sld hx hb hX hbl hbA hS (vp_in_nI (n := i + 1) (by omega) (by omega)) dL_law_632 ?_
  refine tp_i (y := xs (i + 1)) (congrArg xs (nI_clamp (n := i + 1) (by omega))) ?_
  have hPc := va_P_left hP
  have hDc := va_D_left hD
  obtain ⟨fs9, hfs9⟩ := hXI.recv
  refine cl_i2 (wc := wx) (wr := wm) (va_runV (As := [.int (xs (i + 1))]) (rest := []) ⟨hx, hb, hml, hown, hts⟩ (F_X9_together l D k H.size z x (xpn 0) (xpf 0) (xpr 0) (xpf 1) (xpf 2) (xpf 3) (xpf 4) (xpf 5) (xpf 6) (xpr 1) (xpn 1) (xpn 2) (xpi 0) (xpi 1) (xpf 7) (xpf 8) (xpf 9) (xpf 10) (xpf 11) (xpf 12) (xpf 13) (xpi 2) (xpn 3) (xpi 3) (xpf 14) (xpf 15) (xpf 16) (xpf 17) (xpf 18) (xpf 19) (xpf 20) (xpi 4) (xpn 4) (xpi 5) (xpf 21) (xpf 22) (xpf 23) (xpf 24) (xpf 25) (xpf 26) (xpf 27) (xpi 6) (xpn 5) (xpi 7) (xpf 28) (xpn 6) (xpf 29) (xpf 30) (xpf 31) (xpi 8) (xpf 32) (xpf 33) (xpl 0) (xpi 9) (xpi 10) (xpi 11) (xpi 12) (xpf 34) (xpf 35) (xpf 36) (xs (i + 1)) wx hXI (by first | assumption | omega) (by first | assumption | omega) (by first | assumption | omega) (by first | assumption | omega) (by first | assumption | omega) (by first | assumption | omega) (by first | assumption | omega) (by first | assumption | omega) (by first | assumption | omega) (by first | assumption | omega)) (cwV 1 hts gL_law_X9_together rfl rfl rfl (by decide +kernel) ⟨Nat.le_of_ble_eq_true rfl, Nat.le_of_ble_eq_true rfl⟩) ⟨PT.blind _ _ _ _ _ _, va_recv hG.1 hPc (ci := 9) (q0 := 0) rfl hfs9, PT.pre hPc hDc hG hZ hS (A_left hD hS hA) [.ref x, .int (xs (i + 1))]⟩ rfl rfl hl.1 rfl (lv_room (Nat.le_of_ble_eq_true rfl)) dL_law_633 ⟨Nat.le_of_ble_eq_true rfl, Nat.le_of_ble_eq_true rfl⟩) hP hD hS hA (fun r u H locs hq9 hP hD hS => ?_)
  generalize r = rx at hq9 ⊢
  obtain ⟨ux, rfl⟩ : ∃ z, z = u := ⟨_, rfl⟩
  obtain ⟨x_kn9, x_ga9, x_dy9, x_ni9, x_lg9, x_ab9, x_M7, x_M8, x_o8, x_u0, x_u1, x_od9, x_en9, x_te9, x_ca9, x_cb9, x_st9, x_ts9, x_th9, hqx, hXI⟩ := hq9
  refine lv_pop hx hb dL_law_636 rfl ?_
  refine lv_aload_n hx hb dL_law_637 rfl (lv_at hl 1 rfl) ?_
  refine lv_aload_n hx hb dL_law_638 rfl (lv_at hl 3 rfl) ?_
  refine lv_iload_n hx hb dL_law_639 rfl (lv_at hl 0 rfl) ?_
  refine lv_iconst (v := 1) hx hb dL_law_640 (by decide) ?_
  refine lv_iadd hx hb dL_law_641 ?_
  refine tp_i (y := nI (i + 1)) (nI_add i 1) ?_
  refine va_sld hx hb hX hbl hbA hS (vp_in_nI (n := i + 1) (by omega) (by omega)) dL_law_642 ?_
  refine tp_i (y := xs (i + 1)) (congrArg xs (nI_clamp (n := i + 1) (by omega))) ?_
  have hPc := va_P_left hP
  have hDc := va_D_left hD
  obtain ⟨fs9, hfs9⟩ := hMI.recv
  refine cl_i2 (wc := wm) (wr := ux) (va_runV (As := [.int (xs (i + 1))]) (rest := []) ⟨hx, hb, hml, hown, hts⟩ (F_X10_together l D k H.size z y (ypn 0) (ypn 1) (ypn 2) (ypn 3) (ypn 4) (ypn 5) (ypn 6) (ypn 7) (ypi 0) (ypi 1) (ypi 2) (ypi 3) (ypi 4) (ypi 5) (ypf 0) (ypf 1) (ypf 2) (ypf 3) (ypf 4) (ypf 5) (ypf 6) (ypf 7) (ypf 8) (ypf 9) (ypf 10) (ypf 11) (ypf 12) (ypf 13) (ypf 14) (ypf 15) (ypf 16) (ypf 17) (ypf 18) (ypf 19) (ypf 20) (xs (i + 1)) wm hMI (by first | assumption | omega) (by first | assumption | omega) (by first | assumption | omega) (by first | assumption | omega) (by first | assumption | omega) (by first | assumption | omega) (by first | assumption | omega) (by first | assumption | omega)) (cwV 1 hts gL_law_X10_together rfl rfl rfl (by decide +kernel) ⟨Nat.le_of_ble_eq_true rfl, Nat.le_of_ble_eq_true rfl⟩) ⟨PT.blind _ _ _ _ _ _, va_recv hG.1 hPc (ci := 10) (q0 := 0) rfl hfs9, PT.pre hPc hDc hG hZ hS (A_left hD hS hA) [.ref y, .int (xs (i + 1))]⟩ rfl rfl hl.1 rfl (lv_room (Nat.le_of_ble_eq_true rfl)) dL_law_643 ⟨Nat.le_of_ble_eq_true rfl, Nat.le_of_ble_eq_true rfl⟩) hP hD hS hA (fun r u H locs hq9 hP hD hS => ?_)
  generalize r = ry at hq9 ⊢
  obtain ⟨um, rfl⟩ : ∃ z, z = u := ⟨_, rfl⟩
  obtain ⟨y_bu9, y_tk9, y_l9, y_g9, y_x0, y_x1, y_eq9, y_od9, y_bo9, y_bz9, hqm, hMI⟩ := hq9
  refine lv_pop hx hb dL_law_646 rfl ?_
  refine lv_goto (tgt := 907) hx hb dL_law_647 (by decide) ?_
  exact kk H locs ux um ⟨xpn, (fun i9 => ([xpi 0, xpi 1, xpi 2, xpi 3, xpi 4, xpi 5, xpi 6, xpi 7, xpi 8, x_kn9, x_ga9, x_dy9, x_ni9] : List (Int32)).getD i9 0), xpr, (fun i9 => ([xpf 0, xpf 1, xpf 2, xpf 3, xpf 4, xpf 5, xpf 6, xpf 7, xpf 8, xpf 9, xpf 10, xpf 11, xpf 12, xpf 13, xpf 14, xpf 15, xpf 16, xpf 17, xpf 18, xpf 19, xpf 20, xpf 21, xpf 22, xpf 23, xpf 24, xpf 25, xpf 26, xpf 27, xpf 28, xpf 29, xpf 30, xpf 31, xpf 32, x_lg9, x_od9, x_en9, x_o8] : List (Nat → Int32)).getD i9 (fun _ => 0)), (fun i9 => ([x_ab9] : List (Nat → Int64)).getD i9 (fun _ => 0)), ypn, ypi, ypf, hXI, hMI, ⟨(show (xpn 0) ≤ 500 from hn), (show ((xpr 0) 0 ≤ 7 ∧ (xpr 0) 1 ≤ 7 ∧ (xpr 0) 2 ≤ 20 ∧ (xpr 0) 3 ≤ 3) from ⟨hq0, hq1, hq2, hq3⟩), (show (∀ d, d < 100 → (xpr 1) d ≤ d + 1) from hal), (show NBr 3 4 ((xpr 0) 3) (xpf 4) from hNB), (show (1 ≤ (xpn 1) ∧ (xpn 1) ≤ 7) from hnn), (show (xpn 2) ≤ 7 from hyy), (show (xpn 3) ≤ 100 * (i + 4) from by omega), (show (xpn 4) ≤ 100 * (i + 4) from by omega), (show (xpn 5) ≤ 100 * (i + 4) from by omega), (show (xpn 6) ≤ 20 from hbb), (show OB x_o8 from hqx.1), (show CFB ((xpr 0) 1) (xpf 6) from hCFx), (show AK ((xpr 0) 1) (xpf 6) (xpr 1) from hAKx), (show MEM ((xpr 0) 1) (xpf 6) x_lg9 x_ab9 from hqx.2)⟩, ⟨(show (ypn 5) ≤ 500 from htx), (show ((ypn 0) ≤ 7 ∧ (ypn 1) ≤ 7 ∧ (ypn 2) ≤ 20 ∧ (ypn 3) ≤ 3) from ⟨hho, hsp, hnp, hmp⟩), (show (1 ≤ (ypn 4) ∧ (ypn 4) ≤ 7) from hnt), (show ((ypi 1) = -1 ∨ ∃ v : Nat, v ≤ 7 ∧ (ypi 1) = nI v) from hyt), (show LDI (ypf 13) (ypf 14) from hld), (show mB (ypn 3) (ypf 6) from hmB), (show (ypn 7) ≤ 100 * (i + 4) from by omega), (show (ypn 6) ≤ 20 from hbk), (show RW (ypf 19) (ypf 20) (ypn 6) from hRW), (show IMI (ypf 16) (100 * (i + 4)) from IMI_w hIM (by omega))⟩, (show (ypn 5) = (xpn 0) from hTX), (show (ypf 15) = (xpf 0) from hF), (show (∀ j, ¬ (xpf 0) j < 0) from hFP), (show (ypi 5) = (xpi 8) from hFB), (show RD (xpr 0) (xpf 1) (xpf 2) (xpf 3) (xpf 4) (ypn 0) (ypn 1) (ypn 2) (ypn 3) (ypf 0) (ypf 1) (ypf 2) (ypf 3) (ypf 4) (ypf 5) (ypf 6) from hRD), (show (ypn 7) = (xpn 3) from hDY), (show (ypn 6) = (xpn 6) from hBK), (show (ypf 17) = (xpf 28) from hKZ), (show ((ypf 16) 24 = nI (xpn 4) ∧ (ypf 16) 54 = nI (xpn 5)) from hI0), (show TN (xpr 0) (xpf 1) (xpf 2) (xpf 3) (xpf 4) from hTN), (show (∃ zE : Nat → Int32, (xpf 5) = snI zE (xpf 3) ((xpr 0) 2)) from hLF), (show (∃ zE : Nat → Int32, (xpf 6) = fcO (xpr 0) (xpf 1) (xpf 2) (xpf 5) zE 100) from hCF), (show ((ypf 18) = (xpf 29) ∧ (ypf 19) = (xpf 30) ∧ (ypf 20) = (xpf 31)) from hBD), (show BWr (xpr 0) (xpn 6) (xpf 30) (xpf 31) from hBW), (show CR (xpr 0) (xpf 7) (xpf 8) (xpf 9) (xpf 10) (xpf 11) (xpf 12) (xpf 13) (ypf 7) (ypf 8) (ypf 9) (ypf 10) (ypf 11) (ypf 12) (ypf 13) (ypf 14) from hCR), (show (ypi 3) = (xpi 2) from hWG), (show ((ypi 4) = (xpi 3) ∧ ¬ (xpi 3) < 0) from hSD), (show ((ypn 4) = (xpn 1) ∧ yeF (nI (ypn 4)) (ypi 1) = nI (xpn 2) ∧ (ypi 2) = (xpi 0)) from hLW), (show IR (xpr 0) ((xpf 28) 0) (xpf 14) (xpf 15) (xpf 16) (xpf 17) (xpf 18) (xpf 19) (xpf 20) (fun j => (ypf 16) (0 + j)) (fun j => (ypf 16) (3 + j)) (fun j => (ypf 16) (6 + j)) (fun j => (ypf 16) (9 + j)) (fun j => (ypf 16) (12 + j)) (fun j => (ypf 16) (15 + j)) (fun j => (ypf 16) (18 + j)) (fun j => (ypf 16) (21 + j)) ((ypf 16) 25) (xpi 4) ((ypf 16) 26) (xpi 5) from hIA), (show IR (xpr 0) ((xpf 28) 1) (xpf 21) (xpf 22) (xpf 23) (xpf 24) (xpf 25) (xpf 26) (xpf 27) (fun j => (ypf 16) (30 + j)) (fun j => (ypf 16) (33 + j)) (fun j => (ypf 16) (36 + j)) (fun j => (ypf 16) (39 + j)) (fun j => (ypf 16) (42 + j)) (fun j => (ypf 16) (45 + j)) (fun j => (ypf 16) (48 + j)) (fun j => (ypf 16) (51 + j)) ((ypf 16) 55) (xpi 6) ((ypf 16) 56) (xpi 7) from hIB)⟩ hP hD hS

set_option maxHeartbeats 20000000 in
set_option maxRecDepth 100000 in
theorem cs_stopped {p : Program} {l : Launch} {e : Env} {s : State} {m : MethodId} {below : List Frame} {meth : Method} {c : Code} {b L : Nat} {xs : Nat → Int32} {D : va_G} {k : Nat → ClassId} {z : Nat → Nat} {A : Nat → Prop} {x y i : Nat} {wx wm : va_W} {H : Heap} {locs : List Loc} {ls : Array Slot} (C : lC p s m meth c b L xs D k z A) (hil : i + 4 ≤ L) (hJ : JN k x y i wx wm) (hP : va_P D vwCl (wx ++ wm) H) (hD : va_D A (wx ++ wm)) (hS : va_S A s.heap H locs) (hl : lv_has ls 4 [(3, .int (nI i)), (2, .ref y), (1, .ref x), (0, .ref b)]) (kk : ∀ (H : Heap) (locs : List Loc) (wx wm : va_W), JN k x y (i + 4) wx wm → va_P D vwCl (wx ++ wm) H → va_D A (wx ++ wm) → va_S A s.heap H locs → W p l e room_1 s m #[Value.ref b] below meth c H locs 123 7201 (lw_Z below #[Value.ref b] s) (F0 m 907 ls [])) : W p l e room_1 s m #[Value.ref b] below meth c H locs 123 7201 (lw_Z below #[Value.ref b] s) (F0 m 650 ls []) := by
  obtain ⟨hx, hb, hml, hown, hts, hX, hbl, hbA, hG, hZ, hA, hL⟩ := C
  obtain ⟨xpn, xpi, xpr, xpf, xpl, ypn, ypi, ypf, hXI, hMI, ⟨hn, ⟨hq0, hq1, hq2, hq3⟩, hal, hNB, hnn, hyy, hdyi, hda, hdb, hbb, hOBx, hCFx, hAKx, hMMx⟩, ⟨htx, ⟨hho, hsp, hnp, hmp⟩, hnt, hyt, hld, hmB, hddi, hbk, hRW, hIM⟩, hTX, hF, hFP, hFB, hRD, hDY, hBK, hKZ, hI0, hTN, hLF, hCF, hBD, hBW, hCR, hWG, hSD, hLW, hIA, hIB⟩ := hJ
  refine lv_aload_n hx hb dL_law_650 rfl (lv_at hl 2 rfl) ?_
  refine lv_aload_n hx hb dL_law_651 rfl (lv_at hl 3 rfl) ?_
  refine lv_iload_n hx hb dL_law_652 rfl (lv_at hl 0 rfl) ?_
  refine lv_iconst (v := 1) hx hb dL_law_653 (by decide) ?_
  refine lv_iadd hx hb dL_law_654 ?_
  refine tp_i (y := nI (i + 1)) (nI_add i 1) ?_
  refine va_sld hx hb hX hbl hbA hS (vp_in_nI (n := i + 1) (by omega) (by omega)) dL_law_655 ?_
  refine tp_i (y := xs (i + 1)) (congrArg xs (nI_clamp (n := i + 1) (by omega))) ?_
  refine lv_aload_n hx hb dL_law_656 rfl (lv_at hl 3 rfl) ?_
  refine lv_iload_n hx hb dL_law_657 rfl (lv_at hl 0 rfl) ?_
  refine lv_iconst (v := 2) hx hb dL_law_658 (by decide) ?_
  refine lv_iadd hx hb dL_law_659 ?_
  refine tp_i (y := nI (i + 2)) (nI_add i 2) ?_
  refine va_sld hx hb hX hbl hbA hS (vp_in_nI (n := i + 2) (by omega) (by omega)) dL_law_660 ?_
  refine tp_i (y := xs (i + 2)) (congrArg xs (nI_clamp (n := i + 2) (by omega))) ?_
  have hPc := va_P_left hP
  have hDc := va_D_left hD
  obtain ⟨fs9, hfs9⟩ := hXI.recv
  refine cl_i2 (wc := wx) (wr := wm) (va_runV (As := [.int (xs (i + 1)), .int (xs (i + 2))]) (rest := []) ⟨hx, hb, hml, hown, hts⟩ (F_X9_stopped l D k H.size z x (xpn 0) (xpf 0) (xpr 0) (xpf 1) (xpf 2) (xpf 3) (xpf 4) (xpf 5) (xpf 6) (xpr 1) (xpn 1) (xpn 2) (xpi 0) (xpi 1) (xpf 7) (xpf 8) (xpf 9) (xpf 10) (xpf 11) (xpf 12) (xpf 13) (xpi 2) (xpn 3) (xpi 3) (xpf 14) (xpf 15) (xpf 16) (xpf 17) (xpf 18) (xpf 19) (xpf 20) (xpi 4) (xpn 4) (xpi 5) (xpf 21) (xpf 22) (xpf 23) (xpf 24) (xpf 25) (xpf 26) (xpf 27) (xpi 6) (xpn 5) (xpi 7) (xpf 28) (xpn 6) (xpf 29) (xpf 30) (xpf 31) (xpi 8) (xpf 32) (xpf 33) (xpl 0) (xpi 9) (xpi 10) (xpi 11) (xpi 12) (xpf 34) (xpf 35) (xpf 36) (xs (i + 1)) (xs (i + 2)) wx hXI (by first | assumption | omega) (by first | assumption | omega) (by first | assumption | omega) (by first | assumption | omega) (by first | assumption | omega) (by first | assumption | omega) (by first | assumption | omega) (by first | assumption | omega) (by first | assumption | omega) (by first | assumption | omega)) (cwV 2 hts gL_law_X9_stopped rfl rfl rfl (by decide +kernel) ⟨Nat.le_of_ble_eq_true rfl, Nat.le_of_ble_eq_true rfl⟩) ⟨PT.blind _ _ _ _ _ _, va_recv hG.1 hPc (ci := 9) (q0 := 0) rfl hfs9, PT.pre hPc hDc hG hZ hS (A_left hD hS hA) [.ref x, .int (xs (i + 1)), .int (xs (i + 2))]⟩ rfl rfl hl.1 rfl (lv_room (Nat.le_of_ble_eq_true rfl)) dL_law_661 ⟨Nat.le_of_ble_eq_true rfl, Nat.le_of_ble_eq_true rfl⟩) hP hD hS hA (fun r u H locs hq9 hP hD hS => ?_)
  generalize r = rx at hq9 ⊢
  obtain ⟨ux, rfl⟩ : ∃ z, z = u := ⟨_, rfl⟩
  obtain ⟨x_lg9, x_ab9, x_M7, x_M8, x_o8, hqx, hXI⟩ := hq9
  refine lv_pop hx hb dL_law_664 rfl ?_
  refine lv_aload_n hx hb dL_law_665 rfl (lv_at hl 1 rfl) ?_
  refine lv_aload_n hx hb dL_law_666 rfl (lv_at hl 3 rfl) ?_
  refine lv_iload_n hx hb dL_law_667 rfl (lv_at hl 0 rfl) ?_
  refine lv_iconst (v := 1) hx hb dL_law_668 (by decide) ?_
  refine lv_iadd hx hb dL_law_669 ?_
  refine tp_i (y := nI (i + 1)) (nI_add i 1) ?_
  refine va_sld hx hb hX hbl hbA hS (vp_in_nI (n := i + 1) (by omega) (by omega)) dL_law_670 ?_
  refine tp_i (y := xs (i + 1)) (congrArg xs (nI_clamp (n := i + 1) (by omega))) ?_
  refine lv_aload_n hx hb dL_law_671 rfl (lv_at hl 3 rfl) ?_
  refine lv_iload_n hx hb dL_law_672 rfl (lv_at hl 0 rfl) ?_
  refine lv_iconst (v := 2) hx hb dL_law_673 (by decide) ?_
  refine lv_iadd hx hb dL_law_674 ?_
  refine tp_i (y := nI (i + 2)) (nI_add i 2) ?_
  refine va_sld hx hb hX hbl hbA hS (vp_in_nI (n := i + 2) (by omega) (by omega)) dL_law_675 ?_
  refine tp_i (y := xs (i + 2)) (congrArg xs (nI_clamp (n := i + 2) (by omega))) ?_
  have hPc := va_P_left hP
  have hDc := va_D_left hD
  obtain ⟨fs9, hfs9⟩ := hMI.recv
  refine cl_i2 (wc := wm) (wr := ux) (va_runV (As := [.int (xs (i + 1)), .int (xs (i + 2))]) (rest := []) ⟨hx, hb, hml, hown, hts⟩ (F_X10_stopped l D k H.size z y (ypn 0) (ypn 1) (ypn 2) (ypn 3) (ypn 4) (ypn 5) (ypn 6) (ypn 7) (ypi 0) (ypi 1) (ypi 2) (ypi 3) (ypi 4) (ypi 5) (ypf 0) (ypf 1) (ypf 2) (ypf 3) (ypf 4) (ypf 5) (ypf 6) (ypf 7) (ypf 8) (ypf 9) (ypf 10) (ypf 11) (ypf 12) (ypf 13) (ypf 14) (ypf 15) (ypf 16) (ypf 17) (ypf 18) (ypf 19) (ypf 20) (xs (i + 1)) (xs (i + 2)) wm hMI (by first | assumption | omega) (by first | assumption | omega) (by first | assumption | omega) (by first | assumption | omega) (by first | assumption | omega) (by first | assumption | omega) (by first | assumption | omega) (by first | assumption | omega)) (cwV 2 hts gL_law_X10_stopped rfl rfl rfl (by decide +kernel) ⟨Nat.le_of_ble_eq_true rfl, Nat.le_of_ble_eq_true rfl⟩) ⟨PT.blind _ _ _ _ _ _, va_recv hG.1 hPc (ci := 10) (q0 := 0) rfl hfs9, PT.pre hPc hDc hG hZ hS (A_left hD hS hA) [.ref y, .int (xs (i + 1)), .int (xs (i + 2))]⟩ rfl rfl hl.1 rfl (lv_room (Nat.le_of_ble_eq_true rfl)) dL_law_676 ⟨Nat.le_of_ble_eq_true rfl, Nat.le_of_ble_eq_true rfl⟩) hP hD hS hA (fun r u H locs hq9 hP hD hS => ?_)
  generalize r = ry at hq9 ⊢
  obtain ⟨um, rfl⟩ : ∃ z, z = u := ⟨_, rfl⟩
  obtain ⟨y_bu9, y_tk9, y_l9, y_g9, y_sq9, hqm, hMI⟩ := hq9
  refine lv_pop hx hb dL_law_679 rfl ?_
  refine lv_goto (tgt := 907) hx hb dL_law_680 (by decide) ?_
  obtain ⟨lE, elf⟩ := id hLF
  obtain ⟨cE, ecf⟩ := id hCF
  have hNZ : ∀ sw wh, noZ (xpf 5) sw wh = nzS (ypf 5) sw wh (ypn 2) := by intro sw wh; rw [hRD.1.2.2.1]; exact noZ_eq elf hTN.2.2.1 hRD.2.2.2.1 sw wh
  have hrm := hqm
  rw [hRD.1.1, hRD.1.2.1, hRD.1.2.2.2, hDY, hLW.1] at hrm
  have hsp9 := st_eq hRD hTN.1 hq0 hq1 hq3 (wk_eq hNZ) ecf hnn hqx.2.2 hrm
  exact kk H locs ux um ⟨xpn, xpi, xpr, (fun i9 => ([xpf 0, xpf 1, xpf 2, xpf 3, xpf 4, xpf 5, xpf 6, xpf 7, xpf 8, xpf 9, xpf 10, xpf 11, xpf 12, xpf 13, xpf 14, xpf 15, xpf 16, xpf 17, xpf 18, xpf 19, xpf 20, xpf 21, xpf 22, xpf 23, xpf 24, xpf 25, xpf 26, xpf 27, xpf 28, xpf 29, xpf 30, xpf 31, xpf 32, x_lg9, xpf 34, xpf 35, x_o8] : List (Nat → Int32)).getD i9 (fun _ => 0)), (fun i9 => ([x_ab9] : List (Nat → Int64)).getD i9 (fun _ => 0)), ypn, ypi, ypf, hXI, hMI, ⟨(show (xpn 0) ≤ 500 from hn), (show ((xpr 0) 0 ≤ 7 ∧ (xpr 0) 1 ≤ 7 ∧ (xpr 0) 2 ≤ 20 ∧ (xpr 0) 3 ≤ 3) from ⟨hq0, hq1, hq2, hq3⟩), (show (∀ d, d < 100 → (xpr 1) d ≤ d + 1) from hal), (show NBr 3 4 ((xpr 0) 3) (xpf 4) from hNB), (show (1 ≤ (xpn 1) ∧ (xpn 1) ≤ 7) from hnn), (show (xpn 2) ≤ 7 from hyy), (show (xpn 3) ≤ 100 * (i + 4) from by omega), (show (xpn 4) ≤ 100 * (i + 4) from by omega), (show (xpn 5) ≤ 100 * (i + 4) from by omega), (show (xpn 6) ≤ 20 from hbb), (show OB x_o8 from hqx.1), (show CFB ((xpr 0) 1) (xpf 6) from hCFx), (show AK ((xpr 0) 1) (xpf 6) (xpr 1) from hAKx), (show MEM ((xpr 0) 1) (xpf 6) x_lg9 x_ab9 from hqx.2.1)⟩, ⟨(show (ypn 5) ≤ 500 from htx), (show ((ypn 0) ≤ 7 ∧ (ypn 1) ≤ 7 ∧ (ypn 2) ≤ 20 ∧ (ypn 3) ≤ 3) from ⟨hho, hsp, hnp, hmp⟩), (show (1 ≤ (ypn 4) ∧ (ypn 4) ≤ 7) from hnt), (show ((ypi 1) = -1 ∨ ∃ v : Nat, v ≤ 7 ∧ (ypi 1) = nI v) from hyt), (show LDI (ypf 13) (ypf 14) from hld), (show mB (ypn 3) (ypf 6) from hmB), (show (ypn 7) ≤ 100 * (i + 4) from by omega), (show (ypn 6) ≤ 20 from hbk), (show RW (ypf 19) (ypf 20) (ypn 6) from hRW), (show IMI (ypf 16) (100 * (i + 4)) from IMI_w hIM (by omega))⟩, (show (ypn 5) = (xpn 0) from hTX), (show (ypf 15) = (xpf 0) from hF), (show (∀ j, ¬ (xpf 0) j < 0) from hFP), (show (ypi 5) = (xpi 8) from hFB), (show RD (xpr 0) (xpf 1) (xpf 2) (xpf 3) (xpf 4) (ypn 0) (ypn 1) (ypn 2) (ypn 3) (ypf 0) (ypf 1) (ypf 2) (ypf 3) (ypf 4) (ypf 5) (ypf 6) from hRD), (show (ypn 7) = (xpn 3) from hDY), (show (ypn 6) = (xpn 6) from hBK), (show (ypf 17) = (xpf 28) from hKZ), (show ((ypf 16) 24 = nI (xpn 4) ∧ (ypf 16) 54 = nI (xpn 5)) from hI0), (show TN (xpr 0) (xpf 1) (xpf 2) (xpf 3) (xpf 4) from hTN), (show (∃ zE : Nat → Int32, (xpf 5) = snI zE (xpf 3) ((xpr 0) 2)) from hLF), (show (∃ zE : Nat → Int32, (xpf 6) = fcO (xpr 0) (xpf 1) (xpf 2) (xpf 5) zE 100) from hCF), (show ((ypf 18) = (xpf 29) ∧ (ypf 19) = (xpf 30) ∧ (ypf 20) = (xpf 31)) from hBD), (show BWr (xpr 0) (xpn 6) (xpf 30) (xpf 31) from hBW), (show CR (xpr 0) (xpf 7) (xpf 8) (xpf 9) (xpf 10) (xpf 11) (xpf 12) (xpf 13) (ypf 7) (ypf 8) (ypf 9) (ypf 10) (ypf 11) (ypf 12) (ypf 13) (ypf 14) from hCR), (show (ypi 3) = (xpi 2) from hWG), (show ((ypi 4) = (xpi 3) ∧ ¬ (xpi 3) < 0) from hSD), (show ((ypn 4) = (xpn 1) ∧ yeF (nI (ypn 4)) (ypi 1) = nI (xpn 2) ∧ (ypi 2) = (xpi 0)) from hLW), (show IR (xpr 0) ((xpf 28) 0) (xpf 14) (xpf 15) (xpf 16) (xpf 17) (xpf 18) (xpf 19) (xpf 20) (fun j => (ypf 16) (0 + j)) (fun j => (ypf 16) (3 + j)) (fun j => (ypf 16) (6 + j)) (fun j => (ypf 16) (9 + j)) (fun j => (ypf 16) (12 + j)) (fun j => (ypf 16) (15 + j)) (fun j => (ypf 16) (18 + j)) (fun j => (ypf 16) (21 + j)) ((ypf 16) 25) (xpi 4) ((ypf 16) 26) (xpi 5) from hIA), (show IR (xpr 0) ((xpf 28) 1) (xpf 21) (xpf 22) (xpf 23) (xpf 24) (xpf 25) (xpf 26) (xpf 27) (fun j => (ypf 16) (30 + j)) (fun j => (ypf 16) (33 + j)) (fun j => (ypf 16) (36 + j)) (fun j => (ypf 16) (39 + j)) (fun j => (ypf 16) (42 + j)) (fun j => (ypf 16) (45 + j)) (fun j => (ypf 16) (48 + j)) (fun j => (ypf 16) (51 + j)) ((ypf 16) 55) (xpi 6) ((ypf 16) 56) (xpi 7) from hIB)⟩ hP hD hS

set_option maxHeartbeats 20000000 in
set_option maxRecDepth 100000 in
theorem cs_tried {p : Program} {l : Launch} {e : Env} {s : State} {m : MethodId} {below : List Frame} {meth : Method} {c : Code} {b L : Nat} {xs : Nat → Int32} {D : va_G} {k : Nat → ClassId} {z : Nat → Nat} {A : Nat → Prop} {x y i : Nat} {wx wm : va_W} {H : Heap} {locs : List Loc} {ls : Array Slot} (C : lC p s m meth c b L xs D k z A) (hil : i + 4 ≤ L) (hJ : JN k x y i wx wm) (hP : va_P D vwCl (wx ++ wm) H) (hD : va_D A (wx ++ wm)) (hS : va_S A s.heap H locs) (hl : lv_has ls 4 [(3, .int (nI i)), (2, .ref y), (1, .ref x), (0, .ref b)]) (kk : ∀ (H : Heap) (locs : List Loc) (wx wm : va_W), JN k x y (i + 4) wx wm → va_P D vwCl (wx ++ wm) H → va_D A (wx ++ wm) → va_S A s.heap H locs → W p l e room_1 s m #[Value.ref b] below meth c H locs 123 7201 (lw_Z below #[Value.ref b] s) (F0 m 907 ls [])) : W p l e room_1 s m #[Value.ref b] below meth c H locs 123 7201 (lw_Z below #[Value.ref b] s) (F0 m 683 ls []) := by
  obtain ⟨hx, hb, hml, hown, hts, hX, hbl, hbA, hG, hZ, hA, hL⟩ := C
  obtain ⟨xpn, xpi, xpr, xpf, xpl, ypn, ypi, ypf, hXI, hMI, ⟨hn, ⟨hq0, hq1, hq2, hq3⟩, hal, hNB, hnn, hyy, hdyi, hda, hdb, hbb, hOBx, hCFx, hAKx, hMMx⟩, ⟨htx, ⟨hho, hsp, hnp, hmp⟩, hnt, hyt, hld, hmB, hddi, hbk, hRW, hIM⟩, hTX, hF, hFP, hFB, hRD, hDY, hBK, hKZ, hI0, hTN, hLF, hCF, hBD, hBW, hCR, hWG, hSD, hLW, hIA, hIB⟩ := hJ
  refine lv_aload_n hx hb dL_law_683 rfl (lv_at hl 2 rfl) ?_
  refine lv_aload_n hx hb dL_law_684 rfl (lv_at hl 3 rfl) ?_
  refine lv_iload_n hx hb dL_law_685 rfl (lv_at hl 0 rfl) ?_
  refine lv_iconst (v := 1) hx hb dL_law_686 (by decide) ?_
  refine lv_iadd hx hb dL_law_687 ?_
  refine tp_i (y := nI (i + 1)) (nI_add i 1) ?_
  refine va_sld hx hb hX hbl hbA hS (vp_in_nI (n := i + 1) (by omega) (by omega)) dL_law_688 ?_
  refine tp_i (y := xs (i + 1)) (congrArg xs (nI_clamp (n := i + 1) (by omega))) ?_
  refine lv_aload_n hx hb dL_law_689 rfl (lv_at hl 3 rfl) ?_
  refine lv_iload_n hx hb dL_law_690 rfl (lv_at hl 0 rfl) ?_
  refine lv_iconst (v := 2) hx hb dL_law_691 (by decide) ?_
  refine lv_iadd hx hb dL_law_692 ?_
  refine tp_i (y := nI (i + 2)) (nI_add i 2) ?_
  refine va_sld hx hb hX hbl hbA hS (vp_in_nI (n := i + 2) (by omega) (by omega)) dL_law_693 ?_
  refine tp_i (y := xs (i + 2)) (congrArg xs (nI_clamp (n := i + 2) (by omega))) ?_
  have hPc := va_P_left hP
  have hDc := va_D_left hD
  obtain ⟨fs9, hfs9⟩ := hXI.recv
  refine cl_i2 (wc := wx) (wr := wm) (va_runV (As := [.int (xs (i + 1)), .int (xs (i + 2))]) (rest := []) ⟨hx, hb, hml, hown, hts⟩ (F_X9_tried l D k H.size z x (xpn 0) (xpf 0) (xpr 0) (xpf 1) (xpf 2) (xpf 3) (xpf 4) (xpf 5) (xpf 6) (xpr 1) (xpn 1) (xpn 2) (xpi 0) (xpi 1) (xpf 7) (xpf 8) (xpf 9) (xpf 10) (xpf 11) (xpf 12) (xpf 13) (xpi 2) (xpn 3) (xpi 3) (xpf 14) (xpf 15) (xpf 16) (xpf 17) (xpf 18) (xpf 19) (xpf 20) (xpi 4) (xpn 4) (xpi 5) (xpf 21) (xpf 22) (xpf 23) (xpf 24) (xpf 25) (xpf 26) (xpf 27) (xpi 6) (xpn 5) (xpi 7) (xpf 28) (xpn 6) (xpf 29) (xpf 30) (xpf 31) (xpi 8) (xpf 32) (xpf 33) (xpl 0) (xpi 9) (xpi 10) (xpi 11) (xpi 12) (xpf 34) (xpf 35) (xpf 36) (xs (i + 1)) (xs (i + 2)) wx hXI (by first | assumption | omega) (by first | assumption | omega) (by first | assumption | omega) (by first | assumption | omega) (by first | assumption | omega) (by first | assumption | omega) (by first | assumption | omega) (by first | assumption | omega) (by first | assumption | omega) (by first | assumption | omega)) (cwV 2 hts gL_law_X9_tried rfl rfl rfl (by decide +kernel) ⟨Nat.le_of_ble_eq_true rfl, Nat.le_of_ble_eq_true rfl⟩) ⟨PT.blind _ _ _ _ _ _, va_recv hG.1 hPc (ci := 9) (q0 := 0) rfl hfs9, PT.pre hPc hDc hG hZ hS (A_left hD hS hA) [.ref x, .int (xs (i + 1)), .int (xs (i + 2))]⟩ rfl rfl hl.1 rfl (lv_room (Nat.le_of_ble_eq_true rfl)) dL_law_694 ⟨Nat.le_of_ble_eq_true rfl, Nat.le_of_ble_eq_true rfl⟩) hP hD hS hA (fun r u H locs hq9 hP hD hS => ?_)
  generalize r = rx at hq9 ⊢
  obtain ⟨ux, rfl⟩ : ∃ z, z = u := ⟨_, rfl⟩
  obtain ⟨x_lg9, x_ab9, x_M7, x_M8, x_o8, hqx, hXI⟩ := hq9
  refine lv_pop hx hb dL_law_697 rfl ?_
  refine lv_aload_n hx hb dL_law_698 rfl (lv_at hl 1 rfl) ?_
  refine lv_aload_n hx hb dL_law_699 rfl (lv_at hl 3 rfl) ?_
  refine lv_iload_n hx hb dL_law_700 rfl (lv_at hl 0 rfl) ?_
  refine lv_iconst (v := 1) hx hb dL_law_701 (by decide) ?_
  refine lv_iadd hx hb dL_law_702 ?_
  refine tp_i (y := nI (i + 1)) (nI_add i 1) ?_
  refine va_sld hx hb hX hbl hbA hS (vp_in_nI (n := i + 1) (by omega) (by omega)) dL_law_703 ?_
  refine tp_i (y := xs (i + 1)) (congrArg xs (nI_clamp (n := i + 1) (by omega))) ?_
  refine lv_aload_n hx hb dL_law_704 rfl (lv_at hl 3 rfl) ?_
  refine lv_iload_n hx hb dL_law_705 rfl (lv_at hl 0 rfl) ?_
  refine lv_iconst (v := 2) hx hb dL_law_706 (by decide) ?_
  refine lv_iadd hx hb dL_law_707 ?_
  refine tp_i (y := nI (i + 2)) (nI_add i 2) ?_
  refine va_sld hx hb hX hbl hbA hS (vp_in_nI (n := i + 2) (by omega) (by omega)) dL_law_708 ?_
  refine tp_i (y := xs (i + 2)) (congrArg xs (nI_clamp (n := i + 2) (by omega))) ?_
  have hPc := va_P_left hP
  have hDc := va_D_left hD
  obtain ⟨fs9, hfs9⟩ := hMI.recv
  refine cl_i2 (wc := wm) (wr := ux) (va_runV (As := [.int (xs (i + 1)), .int (xs (i + 2))]) (rest := []) ⟨hx, hb, hml, hown, hts⟩ (F_X10_tried l D k H.size z y (ypn 0) (ypn 1) (ypn 2) (ypn 3) (ypn 4) (ypn 5) (ypn 6) (ypn 7) (ypi 0) (ypi 1) (ypi 2) (ypi 3) (ypi 4) (ypi 5) (ypf 0) (ypf 1) (ypf 2) (ypf 3) (ypf 4) (ypf 5) (ypf 6) (ypf 7) (ypf 8) (ypf 9) (ypf 10) (ypf 11) (ypf 12) (ypf 13) (ypf 14) (ypf 15) (ypf 16) (ypf 17) (ypf 18) (ypf 19) (ypf 20) (xs (i + 1)) (xs (i + 2)) wm hMI (by first | assumption | omega) (by first | assumption | omega) (by first | assumption | omega) (by first | assumption | omega) (by first | assumption | omega) (by first | assumption | omega) (by first | assumption | omega) (by first | assumption | omega)) (cwV 2 hts gL_law_X10_tried rfl rfl rfl (by decide +kernel) ⟨Nat.le_of_ble_eq_true rfl, Nat.le_of_ble_eq_true rfl⟩) ⟨PT.blind _ _ _ _ _ _, va_recv hG.1 hPc (ci := 10) (q0 := 0) rfl hfs9, PT.pre hPc hDc hG hZ hS (A_left hD hS hA) [.ref y, .int (xs (i + 1)), .int (xs (i + 2))]⟩ rfl rfl hl.1 rfl (lv_room (Nat.le_of_ble_eq_true rfl)) dL_law_709 ⟨Nat.le_of_ble_eq_true rfl, Nat.le_of_ble_eq_true rfl⟩) hP hD hS hA (fun r u H locs hq9 hP hD hS => ?_)
  generalize r = ry at hq9 ⊢
  obtain ⟨um, rfl⟩ : ∃ z, z = u := ⟨_, rfl⟩
  obtain ⟨y_bu9, y_tk9, y_l9, y_g9, hqm, hMI⟩ := hq9
  refine lv_pop hx hb dL_law_712 rfl ?_
  refine lv_goto (tgt := 907) hx hb dL_law_713 (by decide) ?_
  obtain ⟨lE, elf⟩ := id hLF
  obtain ⟨cE, ecf⟩ := id hCF
  have hNZ : ∀ sw wh, noZ (xpf 5) sw wh = nzS (ypf 5) sw wh (ypn 2) := by intro sw wh; rw [hRD.1.2.2.1]; exact noZ_eq elf hTN.2.2.1 hRD.2.2.2.1 sw wh
  have hrm := hqm
  rw [hRD.1.1, hRD.1.2.1, hRD.1.2.2.2, hDY] at hrm
  have htr := tr_eq hRD hTN.1 hq0 hq1 hq3 (wk_eq hNZ) ecf hqx.2.2 hrm
  exact kk H locs ux um ⟨xpn, xpi, xpr, (fun i9 => ([xpf 0, xpf 1, xpf 2, xpf 3, xpf 4, xpf 5, xpf 6, xpf 7, xpf 8, xpf 9, xpf 10, xpf 11, xpf 12, xpf 13, xpf 14, xpf 15, xpf 16, xpf 17, xpf 18, xpf 19, xpf 20, xpf 21, xpf 22, xpf 23, xpf 24, xpf 25, xpf 26, xpf 27, xpf 28, xpf 29, xpf 30, xpf 31, xpf 32, x_lg9, xpf 34, xpf 35, x_o8] : List (Nat → Int32)).getD i9 (fun _ => 0)), (fun i9 => ([x_ab9] : List (Nat → Int64)).getD i9 (fun _ => 0)), ypn, ypi, ypf, hXI, hMI, ⟨(show (xpn 0) ≤ 500 from hn), (show ((xpr 0) 0 ≤ 7 ∧ (xpr 0) 1 ≤ 7 ∧ (xpr 0) 2 ≤ 20 ∧ (xpr 0) 3 ≤ 3) from ⟨hq0, hq1, hq2, hq3⟩), (show (∀ d, d < 100 → (xpr 1) d ≤ d + 1) from hal), (show NBr 3 4 ((xpr 0) 3) (xpf 4) from hNB), (show (1 ≤ (xpn 1) ∧ (xpn 1) ≤ 7) from hnn), (show (xpn 2) ≤ 7 from hyy), (show (xpn 3) ≤ 100 * (i + 4) from by omega), (show (xpn 4) ≤ 100 * (i + 4) from by omega), (show (xpn 5) ≤ 100 * (i + 4) from by omega), (show (xpn 6) ≤ 20 from hbb), (show OB x_o8 from hqx.1), (show CFB ((xpr 0) 1) (xpf 6) from hCFx), (show AK ((xpr 0) 1) (xpf 6) (xpr 1) from hAKx), (show MEM ((xpr 0) 1) (xpf 6) x_lg9 x_ab9 from hqx.2.1)⟩, ⟨(show (ypn 5) ≤ 500 from htx), (show ((ypn 0) ≤ 7 ∧ (ypn 1) ≤ 7 ∧ (ypn 2) ≤ 20 ∧ (ypn 3) ≤ 3) from ⟨hho, hsp, hnp, hmp⟩), (show (1 ≤ (ypn 4) ∧ (ypn 4) ≤ 7) from hnt), (show ((ypi 1) = -1 ∨ ∃ v : Nat, v ≤ 7 ∧ (ypi 1) = nI v) from hyt), (show LDI (ypf 13) (ypf 14) from hld), (show mB (ypn 3) (ypf 6) from hmB), (show (ypn 7) ≤ 100 * (i + 4) from by omega), (show (ypn 6) ≤ 20 from hbk), (show RW (ypf 19) (ypf 20) (ypn 6) from hRW), (show IMI (ypf 16) (100 * (i + 4)) from IMI_w hIM (by omega))⟩, (show (ypn 5) = (xpn 0) from hTX), (show (ypf 15) = (xpf 0) from hF), (show (∀ j, ¬ (xpf 0) j < 0) from hFP), (show (ypi 5) = (xpi 8) from hFB), (show RD (xpr 0) (xpf 1) (xpf 2) (xpf 3) (xpf 4) (ypn 0) (ypn 1) (ypn 2) (ypn 3) (ypf 0) (ypf 1) (ypf 2) (ypf 3) (ypf 4) (ypf 5) (ypf 6) from hRD), (show (ypn 7) = (xpn 3) from hDY), (show (ypn 6) = (xpn 6) from hBK), (show (ypf 17) = (xpf 28) from hKZ), (show ((ypf 16) 24 = nI (xpn 4) ∧ (ypf 16) 54 = nI (xpn 5)) from hI0), (show TN (xpr 0) (xpf 1) (xpf 2) (xpf 3) (xpf 4) from hTN), (show (∃ zE : Nat → Int32, (xpf 5) = snI zE (xpf 3) ((xpr 0) 2)) from hLF), (show (∃ zE : Nat → Int32, (xpf 6) = fcO (xpr 0) (xpf 1) (xpf 2) (xpf 5) zE 100) from hCF), (show ((ypf 18) = (xpf 29) ∧ (ypf 19) = (xpf 30) ∧ (ypf 20) = (xpf 31)) from hBD), (show BWr (xpr 0) (xpn 6) (xpf 30) (xpf 31) from hBW), (show CR (xpr 0) (xpf 7) (xpf 8) (xpf 9) (xpf 10) (xpf 11) (xpf 12) (xpf 13) (ypf 7) (ypf 8) (ypf 9) (ypf 10) (ypf 11) (ypf 12) (ypf 13) (ypf 14) from hCR), (show (ypi 3) = (xpi 2) from hWG), (show ((ypi 4) = (xpi 3) ∧ ¬ (xpi 3) < 0) from hSD), (show ((ypn 4) = (xpn 1) ∧ yeF (nI (ypn 4)) (ypi 1) = nI (xpn 2) ∧ (ypi 2) = (xpi 0)) from hLW), (show IR (xpr 0) ((xpf 28) 0) (xpf 14) (xpf 15) (xpf 16) (xpf 17) (xpf 18) (xpf 19) (xpf 20) (fun j => (ypf 16) (0 + j)) (fun j => (ypf 16) (3 + j)) (fun j => (ypf 16) (6 + j)) (fun j => (ypf 16) (9 + j)) (fun j => (ypf 16) (12 + j)) (fun j => (ypf 16) (15 + j)) (fun j => (ypf 16) (18 + j)) (fun j => (ypf 16) (21 + j)) ((ypf 16) 25) (xpi 4) ((ypf 16) 26) (xpi 5) from hIA), (show IR (xpr 0) ((xpf 28) 1) (xpf 21) (xpf 22) (xpf 23) (xpf 24) (xpf 25) (xpf 26) (xpf 27) (fun j => (ypf 16) (30 + j)) (fun j => (ypf 16) (33 + j)) (fun j => (ypf 16) (36 + j)) (fun j => (ypf 16) (39 + j)) (fun j => (ypf 16) (42 + j)) (fun j => (ypf 16) (45 + j)) (fun j => (ypf 16) (48 + j)) (fun j => (ypf 16) (51 + j)) ((ypf 16) 55) (xpi 6) ((ypf 16) 56) (xpi 7) from hIB)⟩ hP hD hS

set_option maxHeartbeats 20000000 in
set_option maxRecDepth 100000 in
theorem cs_let {p : Program} {l : Launch} {e : Env} {s : State} {m : MethodId} {below : List Frame} {meth : Method} {c : Code} {b L : Nat} {xs : Nat → Int32} {D : va_G} {k : Nat → ClassId} {z : Nat → Nat} {A : Nat → Prop} {x y i : Nat} {wx wm : va_W} {H : Heap} {locs : List Loc} {ls : Array Slot} (C : lC p s m meth c b L xs D k z A) (hil : i + 4 ≤ L) (hJ : JN k x y i wx wm) (hP : va_P D vwCl (wx ++ wm) H) (hD : va_D A (wx ++ wm)) (hS : va_S A s.heap H locs) (hl : lv_has ls 4 [(3, .int (nI i)), (2, .ref y), (1, .ref x), (0, .ref b)]) (kk : ∀ (H : Heap) (locs : List Loc) (wx wm : va_W), JN k x y (i + 4) wx wm → va_P D vwCl (wx ++ wm) H → va_D A (wx ++ wm) → va_S A s.heap H locs → W p l e room_1 s m #[Value.ref b] below meth c H locs 123 7201 (lw_Z below #[Value.ref b] s) (F0 m 907 ls [])) : W p l e room_1 s m #[Value.ref b] below meth c H locs 123 7201 (lw_Z below #[Value.ref b] s) (F0 m 716 ls []) := by
  obtain ⟨hx, hb, hml, hown, hts, hX, hbl, hbA, hG, hZ, hA, hL⟩ := C
  obtain ⟨xpn, xpi, xpr, xpf, xpl, ypn, ypi, ypf, hXI, hMI, ⟨hn, ⟨hq0, hq1, hq2, hq3⟩, hal, hNB, hnn, hyy, hdyi, hda, hdb, hbb, hOBx, hCFx, hAKx, hMMx⟩, ⟨htx, ⟨hho, hsp, hnp, hmp⟩, hnt, hyt, hld, hmB, hddi, hbk, hRW, hIM⟩, hTX, hF, hFP, hFB, hRD, hDY, hBK, hKZ, hI0, hTN, hLF, hCF, hBD, hBW, hCR, hWG, hSD, hLW, hIA, hIB⟩ := hJ
  refine lv_aload_n hx hb dL_law_716 rfl (lv_at hl 2 rfl) ?_
  refine lv_aload_n hx hb dL_law_717 rfl (lv_at hl 3 rfl) ?_
  refine lv_iload_n hx hb dL_law_718 rfl (lv_at hl 0 rfl) ?_
  refine lv_iconst (v := 1) hx hb dL_law_719 (by decide) ?_
  refine lv_iadd hx hb dL_law_720 ?_
  refine tp_i (y := nI (i + 1)) (nI_add i 1) ?_
  refine va_sld hx hb hX hbl hbA hS (vp_in_nI (n := i + 1) (by omega) (by omega)) dL_law_721 ?_
  refine tp_i (y := xs (i + 1)) (congrArg xs (nI_clamp (n := i + 1) (by omega))) ?_
  refine lv_aload_n hx hb dL_law_722 rfl (lv_at hl 3 rfl) ?_
  refine lv_iload_n hx hb dL_law_723 rfl (lv_at hl 0 rfl) ?_
  refine lv_iconst (v := 2) hx hb dL_law_724 (by decide) ?_
  refine lv_iadd hx hb dL_law_725 ?_
  refine tp_i (y := nI (i + 2)) (nI_add i 2) ?_
  refine va_sld hx hb hX hbl hbA hS (vp_in_nI (n := i + 2) (by omega) (by omega)) dL_law_726 ?_
  refine tp_i (y := xs (i + 2)) (congrArg xs (nI_clamp (n := i + 2) (by omega))) ?_
  refine lv_aload_n hx hb dL_law_727 rfl (lv_at hl 3 rfl) ?_
  refine lv_iload_n hx hb dL_law_728 rfl (lv_at hl 0 rfl) ?_
  refine lv_iconst (v := 3) hx hb dL_law_729 (by decide) ?_
  refine lv_iadd hx hb dL_law_730 ?_
  refine tp_i (y := nI (i + 3)) (nI_add i 3) ?_
  refine va_sld hx hb hX hbl hbA hS (vp_in_nI (n := i + 3) (by omega) (by omega)) dL_law_731 ?_
  refine tp_i (y := xs (i + 3)) (congrArg xs (nI_clamp (n := i + 3) (by omega))) ?_
  have hPc := va_P_left hP
  have hDc := va_D_left hD
  obtain ⟨fs9, hfs9⟩ := hXI.recv
  refine cl_i2 (wc := wx) (wr := wm) (va_runV (As := [.int (xs (i + 1)), .int (xs (i + 2)), .int (xs (i + 3))]) (rest := []) ⟨hx, hb, hml, hown, hts⟩ (F_X9_let l D k H.size z x (xpn 0) (xpf 0) (xpr 0) (xpf 1) (xpf 2) (xpf 3) (xpf 4) (xpf 5) (xpf 6) (xpr 1) (xpn 1) (xpn 2) (xpi 0) (xpi 1) (xpf 7) (xpf 8) (xpf 9) (xpf 10) (xpf 11) (xpf 12) (xpf 13) (xpi 2) (xpn 3) (xpi 3) (xpf 14) (xpf 15) (xpf 16) (xpf 17) (xpf 18) (xpf 19) (xpf 20) (xpi 4) (xpn 4) (xpi 5) (xpf 21) (xpf 22) (xpf 23) (xpf 24) (xpf 25) (xpf 26) (xpf 27) (xpi 6) (xpn 5) (xpi 7) (xpf 28) (xpn 6) (xpf 29) (xpf 30) (xpf 31) (xpi 8) (xpf 32) (xpf 33) (xpl 0) (xpi 9) (xpi 10) (xpi 11) (xpi 12) (xpf 34) (xpf 35) (xpf 36) (xs (i + 1)) (xs (i + 2)) (xs (i + 3)) wx hXI (by first | assumption | omega) (by first | assumption | omega)) (cwV 3 hts gL_law_X9_let rfl rfl rfl (by decide +kernel) ⟨Nat.le_of_ble_eq_true rfl, Nat.le_of_ble_eq_true rfl⟩) ⟨PT.blind _ _ _ _ _ _, va_recv hG.1 hPc (ci := 9) (q0 := 0) rfl hfs9, PT.pre hPc hDc hG hZ hS (A_left hD hS hA) [.ref x, .int (xs (i + 1)), .int (xs (i + 2)), .int (xs (i + 3))]⟩ rfl rfl hl.1 rfl (lv_room (Nat.le_of_ble_eq_true rfl)) dL_law_732 ⟨Nat.le_of_ble_eq_true rfl, Nat.le_of_ble_eq_true rfl⟩) hP hD hS hA (fun r u H locs hq9 hP hD hS => ?_)
  generalize r = rx at hq9 ⊢
  obtain ⟨ux, rfl⟩ : ∃ z, z = u := ⟨_, rfl⟩
  obtain ⟨hqx, hXI⟩ := hq9
  refine lv_pop hx hb dL_law_735 rfl ?_
  refine lv_aload_n hx hb dL_law_736 rfl (lv_at hl 1 rfl) ?_
  refine lv_aload_n hx hb dL_law_737 rfl (lv_at hl 3 rfl) ?_
  refine lv_iload_n hx hb dL_law_738 rfl (lv_at hl 0 rfl) ?_
  refine lv_iconst (v := 1) hx hb dL_law_739 (by decide) ?_
  refine lv_iadd hx hb dL_law_740 ?_
  refine tp_i (y := nI (i + 1)) (nI_add i 1) ?_
  refine va_sld hx hb hX hbl hbA hS (vp_in_nI (n := i + 1) (by omega) (by omega)) dL_law_741 ?_
  refine tp_i (y := xs (i + 1)) (congrArg xs (nI_clamp (n := i + 1) (by omega))) ?_
  refine lv_aload_n hx hb dL_law_742 rfl (lv_at hl 3 rfl) ?_
  refine lv_iload_n hx hb dL_law_743 rfl (lv_at hl 0 rfl) ?_
  refine lv_iconst (v := 2) hx hb dL_law_744 (by decide) ?_
  refine lv_iadd hx hb dL_law_745 ?_
  refine tp_i (y := nI (i + 2)) (nI_add i 2) ?_
  refine va_sld hx hb hX hbl hbA hS (vp_in_nI (n := i + 2) (by omega) (by omega)) dL_law_746 ?_
  refine tp_i (y := xs (i + 2)) (congrArg xs (nI_clamp (n := i + 2) (by omega))) ?_
  refine lv_aload_n hx hb dL_law_747 rfl (lv_at hl 3 rfl) ?_
  refine lv_iload_n hx hb dL_law_748 rfl (lv_at hl 0 rfl) ?_
  refine lv_iconst (v := 3) hx hb dL_law_749 (by decide) ?_
  refine lv_iadd hx hb dL_law_750 ?_
  refine tp_i (y := nI (i + 3)) (nI_add i 3) ?_
  refine va_sld hx hb hX hbl hbA hS (vp_in_nI (n := i + 3) (by omega) (by omega)) dL_law_751 ?_
  refine tp_i (y := xs (i + 3)) (congrArg xs (nI_clamp (n := i + 3) (by omega))) ?_
  have hPc := va_P_left hP
  have hDc := va_D_left hD
  obtain ⟨fs9, hfs9⟩ := hMI.recv
  refine cl_i2 (wc := wm) (wr := ux) (va_runV (As := [.int (xs (i + 1)), .int (xs (i + 2)), .int (xs (i + 3))]) (rest := []) ⟨hx, hb, hml, hown, hts⟩ (F_X10_let l D k H.size z y (ypn 0) (ypn 1) (ypn 2) (ypn 3) (ypn 4) (ypn 5) (ypn 6) (ypn 7) (ypi 0) (ypi 1) (ypi 2) (ypi 3) (ypi 4) (ypi 5) (ypf 0) (ypf 1) (ypf 2) (ypf 3) (ypf 4) (ypf 5) (ypf 6) (ypf 7) (ypf 8) (ypf 9) (ypf 10) (ypf 11) (ypf 12) (ypf 13) (ypf 14) (ypf 15) (ypf 16) (ypf 17) (ypf 18) (ypf 19) (ypf 20) ((xs (i + 1)).toNatClampNeg) (xs (i + 1)) (xs (i + 2)) (xs (i + 3)) wm hMI (by first | assumption | omega) (by first | assumption | omega) (by first | assumption | omega) (is_cl (by omega))) (cwV 3 hts gL_law_X10_let rfl rfl rfl (by decide +kernel) ⟨Nat.le_of_ble_eq_true rfl, Nat.le_of_ble_eq_true rfl⟩) ⟨PT.blind _ _ _ _ _ _, va_recv hG.1 hPc (ci := 10) (q0 := 0) rfl hfs9, PT.pre hPc hDc hG hZ hS (A_left hD hS hA) [.ref y, .int (xs (i + 1)), .int (xs (i + 2)), .int (xs (i + 3))]⟩ rfl rfl hl.1 rfl (lv_room (Nat.le_of_ble_eq_true rfl)) dL_law_752 ⟨Nat.le_of_ble_eq_true rfl, Nat.le_of_ble_eq_true rfl⟩) hP hD hS hA (fun r u H locs hq9 hP hD hS => ?_)
  generalize r = ry at hq9 ⊢
  obtain ⟨um, rfl⟩ : ∃ z, z = u := ⟨_, rfl⟩
  obtain ⟨hqm, hMI⟩ := hq9
  refine lv_pop hx hb dL_law_755 rfl ?_
  refine lv_goto (tgt := 907) hx hb dL_law_756 (by decide) ?_
  obtain ⟨lE, elf⟩ := id hLF
  obtain ⟨cE, ecf⟩ := id hCF
  have hNZ : ∀ sw wh, noZ (xpf 5) sw wh = nzS (ypf 5) sw wh (ypn 2) := by intro sw wh; rw [hRD.1.2.2.1]; exact noZ_eq elf hTN.2.2.1 hRD.2.2.2.1 sw wh
  exact kk H locs ux um ⟨xpn, xpi, xpr, xpf, xpl, ypn, ypi, ypf, hXI, hMI, ⟨(show (xpn 0) ≤ 500 from hn), (show ((xpr 0) 0 ≤ 7 ∧ (xpr 0) 1 ≤ 7 ∧ (xpr 0) 2 ≤ 20 ∧ (xpr 0) 3 ≤ 3) from ⟨hq0, hq1, hq2, hq3⟩), (show (∀ d, d < 100 → (xpr 1) d ≤ d + 1) from hal), (show NBr 3 4 ((xpr 0) 3) (xpf 4) from hNB), (show (1 ≤ (xpn 1) ∧ (xpn 1) ≤ 7) from hnn), (show (xpn 2) ≤ 7 from hyy), (show (xpn 3) ≤ 100 * (i + 4) from by omega), (show (xpn 4) ≤ 100 * (i + 4) from by omega), (show (xpn 5) ≤ 100 * (i + 4) from by omega), (show (xpn 6) ≤ 20 from hbb), (show OB (xpf 36) from hOBx), (show CFB ((xpr 0) 1) (xpf 6) from hCFx), (show AK ((xpr 0) 1) (xpf 6) (xpr 1) from hAKx), (show MEM ((xpr 0) 1) (xpf 6) (xpf 33) (xpl 0) from hMMx)⟩, ⟨(show (ypn 5) ≤ 500 from htx), (show ((ypn 0) ≤ 7 ∧ (ypn 1) ≤ 7 ∧ (ypn 2) ≤ 20 ∧ (ypn 3) ≤ 3) from ⟨hho, hsp, hnp, hmp⟩), (show (1 ≤ (ypn 4) ∧ (ypn 4) ≤ 7) from hnt), (show ((ypi 1) = -1 ∨ ∃ v : Nat, v ≤ 7 ∧ (ypi 1) = nI v) from hyt), (show LDI (ypf 13) (ypf 14) from hld), (show mB (ypn 3) (ypf 6) from hmB), (show (ypn 7) ≤ 100 * (i + 4) from by omega), (show (ypn 6) ≤ 20 from hbk), (show RW (ypf 19) (ypf 20) (ypn 6) from hRW), (show IMI (ypf 16) (100 * (i + 4)) from IMI_w hIM (by omega))⟩, (show (ypn 5) = (xpn 0) from hTX), (show (ypf 15) = (xpf 0) from hF), (show (∀ j, ¬ (xpf 0) j < 0) from hFP), (show (ypi 5) = (xpi 8) from hFB), (show RD (xpr 0) (xpf 1) (xpf 2) (xpf 3) (xpf 4) (ypn 0) (ypn 1) (ypn 2) (ypn 3) (ypf 0) (ypf 1) (ypf 2) (ypf 3) (ypf 4) (ypf 5) (ypf 6) from hRD), (show (ypn 7) = (xpn 3) from hDY), (show (ypn 6) = (xpn 6) from hBK), (show (ypf 17) = (xpf 28) from hKZ), (show ((ypf 16) 24 = nI (xpn 4) ∧ (ypf 16) 54 = nI (xpn 5)) from hI0), (show TN (xpr 0) (xpf 1) (xpf 2) (xpf 3) (xpf 4) from hTN), (show (∃ zE : Nat → Int32, (xpf 5) = snI zE (xpf 3) ((xpr 0) 2)) from hLF), (show (∃ zE : Nat → Int32, (xpf 6) = fcO (xpr 0) (xpf 1) (xpf 2) (xpf 5) zE 100) from hCF), (show ((ypf 18) = (xpf 29) ∧ (ypf 19) = (xpf 30) ∧ (ypf 20) = (xpf 31)) from hBD), (show BWr (xpr 0) (xpn 6) (xpf 30) (xpf 31) from hBW), (show CR (xpr 0) (xpf 7) (xpf 8) (xpf 9) (xpf 10) (xpf 11) (xpf 12) (xpf 13) (ypf 7) (ypf 8) (ypf 9) (ypf 10) (ypf 11) (ypf 12) (ypf 13) (ypf 14) from hCR), (show (ypi 3) = (xpi 2) from hWG), (show ((ypi 4) = (xpi 3) ∧ ¬ (xpi 3) < 0) from hSD), (show ((ypn 4) = (xpn 1) ∧ yeF (nI (ypn 4)) (ypi 1) = nI (xpn 2) ∧ (ypi 2) = (xpi 0)) from hLW), (show IR (xpr 0) ((xpf 28) 0) (xpf 14) (xpf 15) (xpf 16) (xpf 17) (xpf 18) (xpf 19) (xpf 20) (fun j => (ypf 16) (0 + j)) (fun j => (ypf 16) (3 + j)) (fun j => (ypf 16) (6 + j)) (fun j => (ypf 16) (9 + j)) (fun j => (ypf 16) (12 + j)) (fun j => (ypf 16) (15 + j)) (fun j => (ypf 16) (18 + j)) (fun j => (ypf 16) (21 + j)) ((ypf 16) 25) (xpi 4) ((ypf 16) 26) (xpi 5) from hIA), (show IR (xpr 0) ((xpf 28) 1) (xpf 21) (xpf 22) (xpf 23) (xpf 24) (xpf 25) (xpf 26) (xpf 27) (fun j => (ypf 16) (30 + j)) (fun j => (ypf 16) (33 + j)) (fun j => (ypf 16) (36 + j)) (fun j => (ypf 16) (39 + j)) (fun j => (ypf 16) (42 + j)) (fun j => (ypf 16) (45 + j)) (fun j => (ypf 16) (48 + j)) (fun j => (ypf 16) (51 + j)) ((ypf 16) 55) (xpi 6) ((ypf 16) 56) (xpi 7) from hIB)⟩ hP hD hS

set_option maxHeartbeats 20000000 in
set_option maxRecDepth 100000 in
theorem cs_write {p : Program} {l : Launch} {e : Env} {s : State} {m : MethodId} {below : List Frame} {meth : Method} {c : Code} {b L : Nat} {xs : Nat → Int32} {D : va_G} {k : Nat → ClassId} {z : Nat → Nat} {A : Nat → Prop} {x y i : Nat} {wx wm : va_W} {H : Heap} {locs : List Loc} {ls : Array Slot} (C : lC p s m meth c b L xs D k z A) (hil : i + 4 ≤ L) (hJ : JN k x y i wx wm) (hP : va_P D vwCl (wx ++ wm) H) (hD : va_D A (wx ++ wm)) (hS : va_S A s.heap H locs) (hl : lv_has ls 4 [(3, .int (nI i)), (2, .ref y), (1, .ref x), (0, .ref b)]) (kk : ∀ (H : Heap) (locs : List Loc) (wx wm : va_W), JN k x y (i + 4) wx wm → va_P D vwCl (wx ++ wm) H → va_D A (wx ++ wm) → va_S A s.heap H locs → W p l e room_1 s m #[Value.ref b] below meth c H locs 123 7201 (lw_Z below #[Value.ref b] s) (F0 m 907 ls [])) : W p l e room_1 s m #[Value.ref b] below meth c H locs 123 7201 (lw_Z below #[Value.ref b] s) (F0 m 759 ls []) := by
  obtain ⟨hx, hb, hml, hown, hts, hX, hbl, hbA, hG, hZ, hA, hL⟩ := C
  obtain ⟨xpn, xpi, xpr, xpf, xpl, ypn, ypi, ypf, hXI, hMI, ⟨hn, ⟨hq0, hq1, hq2, hq3⟩, hal, hNB, hnn, hyy, hdyi, hda, hdb, hbb, hOBx, hCFx, hAKx, hMMx⟩, ⟨htx, ⟨hho, hsp, hnp, hmp⟩, hnt, hyt, hld, hmB, hddi, hbk, hRW, hIM⟩, hTX, hF, hFP, hFB, hRD, hDY, hBK, hKZ, hI0, hTN, hLF, hCF, hBD, hBW, hCR, hWG, hSD, hLW, hIA, hIB⟩ := hJ
  refine lv_aload_n hx hb dL_law_759 rfl (lv_at hl 2 rfl) ?_
  refine lv_aload_n hx hb dL_law_760 rfl (lv_at hl 3 rfl) ?_
  refine lv_iload_n hx hb dL_law_761 rfl (lv_at hl 0 rfl) ?_
  refine lv_iconst (v := 1) hx hb dL_law_762 (by decide) ?_
  refine lv_iadd hx hb dL_law_763 ?_
  refine tp_i (y := nI (i + 1)) (nI_add i 1) ?_
  refine va_sld hx hb hX hbl hbA hS (vp_in_nI (n := i + 1) (by omega) (by omega)) dL_law_764 ?_
  refine tp_i (y := xs (i + 1)) (congrArg xs (nI_clamp (n := i + 1) (by omega))) ?_
  refine lv_aload_n hx hb dL_law_765 rfl (lv_at hl 3 rfl) ?_
  refine lv_iload_n hx hb dL_law_766 rfl (lv_at hl 0 rfl) ?_
  refine lv_iconst (v := 2) hx hb dL_law_767 (by decide) ?_
  refine lv_iadd hx hb dL_law_768 ?_
  refine tp_i (y := nI (i + 2)) (nI_add i 2) ?_
  refine va_sld hx hb hX hbl hbA hS (vp_in_nI (n := i + 2) (by omega) (by omega)) dL_law_769 ?_
  refine tp_i (y := xs (i + 2)) (congrArg xs (nI_clamp (n := i + 2) (by omega))) ?_
  refine lv_aload_n hx hb dL_law_770 rfl (lv_at hl 3 rfl) ?_
  refine lv_iload_n hx hb dL_law_771 rfl (lv_at hl 0 rfl) ?_
  refine lv_iconst (v := 3) hx hb dL_law_772 (by decide) ?_
  refine lv_iadd hx hb dL_law_773 ?_
  refine tp_i (y := nI (i + 3)) (nI_add i 3) ?_
  refine va_sld hx hb hX hbl hbA hS (vp_in_nI (n := i + 3) (by omega) (by omega)) dL_law_774 ?_
  refine tp_i (y := xs (i + 3)) (congrArg xs (nI_clamp (n := i + 3) (by omega))) ?_
  have hPc := va_P_left hP
  have hDc := va_D_left hD
  obtain ⟨fs9, hfs9⟩ := hXI.recv
  refine cl_i2 (wc := wx) (wr := wm) (va_runV (As := [.int (xs (i + 1)), .int (xs (i + 2)), .int (xs (i + 3))]) (rest := []) ⟨hx, hb, hml, hown, hts⟩ (F_X9_write l D k H.size z x (xpn 0) (xpf 0) (xpr 0) (xpf 1) (xpf 2) (xpf 3) (xpf 4) (xpf 5) (xpf 6) (xpr 1) (xpn 1) (xpn 2) (xpi 0) (xpi 1) (xpf 7) (xpf 8) (xpf 9) (xpf 10) (xpf 11) (xpf 12) (xpf 13) (xpi 2) (xpn 3) (xpi 3) (xpf 14) (xpf 15) (xpf 16) (xpf 17) (xpf 18) (xpf 19) (xpf 20) (xpi 4) (xpn 4) (xpi 5) (xpf 21) (xpf 22) (xpf 23) (xpf 24) (xpf 25) (xpf 26) (xpf 27) (xpi 6) (xpn 5) (xpi 7) (xpf 28) (xpn 6) (xpf 29) (xpf 30) (xpf 31) (xpi 8) (xpf 32) (xpf 33) (xpl 0) (xpi 9) (xpi 10) (xpi 11) (xpi 12) (xpf 34) (xpf 35) (xpf 36) (xs (i + 1)) (xs (i + 2)) (xs (i + 3)) wx hXI (by first | assumption | omega)) (cwV 3 hts gL_law_X9_write rfl rfl rfl (by decide +kernel) ⟨Nat.le_of_ble_eq_true rfl, Nat.le_of_ble_eq_true rfl⟩) ⟨PT.blind _ _ _ _ _ _, va_recv hG.1 hPc (ci := 9) (q0 := 0) rfl hfs9, PT.pre hPc hDc hG hZ hS (A_left hD hS hA) [.ref x, .int (xs (i + 1)), .int (xs (i + 2)), .int (xs (i + 3))]⟩ rfl rfl hl.1 rfl (lv_room (Nat.le_of_ble_eq_true rfl)) dL_law_775 ⟨Nat.le_of_ble_eq_true rfl, Nat.le_of_ble_eq_true rfl⟩) hP hD hS hA (fun r u H locs hq9 hP hD hS => ?_)
  generalize r = rx at hq9 ⊢
  obtain ⟨ux, rfl⟩ : ∃ z, z = u := ⟨_, rfl⟩
  obtain ⟨x_b9, x_bd9, x_bs9, x_bh9, hqx, hXI⟩ := hq9
  refine lv_pop hx hb dL_law_778 rfl ?_
  refine lv_aload_n hx hb dL_law_779 rfl (lv_at hl 1 rfl) ?_
  refine lv_aload_n hx hb dL_law_780 rfl (lv_at hl 3 rfl) ?_
  refine lv_iload_n hx hb dL_law_781 rfl (lv_at hl 0 rfl) ?_
  refine lv_iconst (v := 1) hx hb dL_law_782 (by decide) ?_
  refine lv_iadd hx hb dL_law_783 ?_
  refine tp_i (y := nI (i + 1)) (nI_add i 1) ?_
  refine va_sld hx hb hX hbl hbA hS (vp_in_nI (n := i + 1) (by omega) (by omega)) dL_law_784 ?_
  refine tp_i (y := xs (i + 1)) (congrArg xs (nI_clamp (n := i + 1) (by omega))) ?_
  refine lv_aload_n hx hb dL_law_785 rfl (lv_at hl 3 rfl) ?_
  refine lv_iload_n hx hb dL_law_786 rfl (lv_at hl 0 rfl) ?_
  refine lv_iconst (v := 2) hx hb dL_law_787 (by decide) ?_
  refine lv_iadd hx hb dL_law_788 ?_
  refine tp_i (y := nI (i + 2)) (nI_add i 2) ?_
  refine va_sld hx hb hX hbl hbA hS (vp_in_nI (n := i + 2) (by omega) (by omega)) dL_law_789 ?_
  refine tp_i (y := xs (i + 2)) (congrArg xs (nI_clamp (n := i + 2) (by omega))) ?_
  refine lv_aload_n hx hb dL_law_790 rfl (lv_at hl 3 rfl) ?_
  refine lv_iload_n hx hb dL_law_791 rfl (lv_at hl 0 rfl) ?_
  refine lv_iconst (v := 3) hx hb dL_law_792 (by decide) ?_
  refine lv_iadd hx hb dL_law_793 ?_
  refine tp_i (y := nI (i + 3)) (nI_add i 3) ?_
  refine va_sld hx hb hX hbl hbA hS (vp_in_nI (n := i + 3) (by omega) (by omega)) dL_law_794 ?_
  refine tp_i (y := xs (i + 3)) (congrArg xs (nI_clamp (n := i + 3) (by omega))) ?_
  have hPc := va_P_left hP
  have hDc := va_D_left hD
  obtain ⟨fs9, hfs9⟩ := hMI.recv
  refine cl_i2 (wc := wm) (wr := ux) (va_runV (As := [.int (xs (i + 1)), .int (xs (i + 2)), .int (xs (i + 3))]) (rest := []) ⟨hx, hb, hml, hown, hts⟩ (F_X10_write l D k H.size z y (ypn 0) (ypn 1) (ypn 2) (ypn 3) (ypn 4) (ypn 5) (ypn 6) (ypn 7) (ypi 0) (ypi 1) (ypi 2) (ypi 3) (ypi 4) (ypi 5) (ypf 0) (ypf 1) (ypf 2) (ypf 3) (ypf 4) (ypf 5) (ypf 6) (ypf 7) (ypf 8) (ypf 9) (ypf 10) (ypf 11) (ypf 12) (ypf 13) (ypf 14) (ypf 15) (ypf 16) (ypf 17) (ypf 18) (ypf 19) (ypf 20) (xs (i + 1)) (xs (i + 2)) (xs (i + 3)) wm hMI (by first | assumption | omega) (by first | assumption | omega) (by first | assumption | omega) (by first | assumption | omega)) (cwV 3 hts gL_law_X10_write rfl rfl rfl (by decide +kernel) ⟨Nat.le_of_ble_eq_true rfl, Nat.le_of_ble_eq_true rfl⟩) ⟨PT.blind _ _ _ _ _ _, va_recv hG.1 hPc (ci := 10) (q0 := 0) rfl hfs9, PT.pre hPc hDc hG hZ hS (A_left hD hS hA) [.ref y, .int (xs (i + 1)), .int (xs (i + 2)), .int (xs (i + 3))]⟩ rfl rfl hl.1 rfl (lv_room (Nat.le_of_ble_eq_true rfl)) dL_law_795 ⟨Nat.le_of_ble_eq_true rfl, Nat.le_of_ble_eq_true rfl⟩) hP hD hS hA (fun r u H locs hq9 hP hD hS => ?_)
  generalize r = ry at hq9 ⊢
  obtain ⟨um, rfl⟩ : ∃ z, z = u := ⟨_, rfl⟩
  obtain ⟨y_bk9, y_kd9, y_kw9, y_kh9, hqm, hMI⟩ := hq9
  refine lv_pop hx hb dL_law_798 rfl ?_
  refine lv_goto (tgt := 907) hx hb dL_law_799 (by decide) ?_
  have hwm := hqm.2.2
  rw [hRD.1.1, hRD.1.2.1, hBK, hBD.1, hBD.2.1, hBD.2.2] at hwm
  have hwr := wr_eq hqx.2 hwm
  exact kk H locs ux um ⟨(fun i9 => ([xpn 0, xpn 1, xpn 2, xpn 3, xpn 4, xpn 5, x_b9] : List (Nat)).getD i9 0), xpi, xpr, (fun i9 => ([xpf 0, xpf 1, xpf 2, xpf 3, xpf 4, xpf 5, xpf 6, xpf 7, xpf 8, xpf 9, xpf 10, xpf 11, xpf 12, xpf 13, xpf 14, xpf 15, xpf 16, xpf 17, xpf 18, xpf 19, xpf 20, xpf 21, xpf 22, xpf 23, xpf 24, xpf 25, xpf 26, xpf 27, xpf 28, x_bd9, x_bs9, x_bh9, xpf 32, xpf 33, xpf 34, xpf 35, xpf 36] : List (Nat → Int32)).getD i9 (fun _ => 0)), xpl, (fun i9 => ([ypn 0, ypn 1, ypn 2, ypn 3, ypn 4, ypn 5, y_bk9, ypn 7] : List (Nat)).getD i9 0), ypi, (fun i9 => ([ypf 0, ypf 1, ypf 2, ypf 3, ypf 4, ypf 5, ypf 6, ypf 7, ypf 8, ypf 9, ypf 10, ypf 11, ypf 12, ypf 13, ypf 14, ypf 15, ypf 16, ypf 17, y_kd9, y_kw9, y_kh9] : List (Nat → Int32)).getD i9 (fun _ => 0)), hXI, hMI, ⟨(show (xpn 0) ≤ 500 from hn), (show ((xpr 0) 0 ≤ 7 ∧ (xpr 0) 1 ≤ 7 ∧ (xpr 0) 2 ≤ 20 ∧ (xpr 0) 3 ≤ 3) from ⟨hq0, hq1, hq2, hq3⟩), (show (∀ d, d < 100 → (xpr 1) d ≤ d + 1) from hal), (show NBr 3 4 ((xpr 0) 3) (xpf 4) from hNB), (show (1 ≤ (xpn 1) ∧ (xpn 1) ≤ 7) from hnn), (show (xpn 2) ≤ 7 from hyy), (show (xpn 3) ≤ 100 * (i + 4) from by omega), (show (xpn 4) ≤ 100 * (i + 4) from by omega), (show (xpn 5) ≤ 100 * (i + 4) from by omega), (show x_b9 ≤ 20 from hqx.1), (show OB (xpf 36) from hOBx), (show CFB ((xpr 0) 1) (xpf 6) from hCFx), (show AK ((xpr 0) 1) (xpf 6) (xpr 1) from hAKx), (show MEM ((xpr 0) 1) (xpf 6) (xpf 33) (xpl 0) from hMMx)⟩, ⟨(show (ypn 5) ≤ 500 from htx), (show ((ypn 0) ≤ 7 ∧ (ypn 1) ≤ 7 ∧ (ypn 2) ≤ 20 ∧ (ypn 3) ≤ 3) from ⟨hho, hsp, hnp, hmp⟩), (show (1 ≤ (ypn 4) ∧ (ypn 4) ≤ 7) from hnt), (show ((ypi 1) = -1 ∨ ∃ v : Nat, v ≤ 7 ∧ (ypi 1) = nI v) from hyt), (show LDI (ypf 13) (ypf 14) from hld), (show mB (ypn 3) (ypf 6) from hmB), (show (ypn 7) ≤ 100 * (i + 4) from by omega), (show y_bk9 ≤ 20 from hqm.1), (show RW y_kw9 y_kh9 y_bk9 from hqm.2.1), (show IMI (ypf 16) (100 * (i + 4)) from IMI_w hIM (by omega))⟩, (show (ypn 5) = (xpn 0) from hTX), (show (ypf 15) = (xpf 0) from hF), (show (∀ j, ¬ (xpf 0) j < 0) from hFP), (show (ypi 5) = (xpi 8) from hFB), (show RD (xpr 0) (xpf 1) (xpf 2) (xpf 3) (xpf 4) (ypn 0) (ypn 1) (ypn 2) (ypn 3) (ypf 0) (ypf 1) (ypf 2) (ypf 3) (ypf 4) (ypf 5) (ypf 6) from hRD), (show (ypn 7) = (xpn 3) from hDY), (show y_bk9 = x_b9 from hwr.2.1), (show (ypf 17) = (xpf 28) from hKZ), (show ((ypf 16) 24 = nI (xpn 4) ∧ (ypf 16) 54 = nI (xpn 5)) from hI0), (show TN (xpr 0) (xpf 1) (xpf 2) (xpf 3) (xpf 4) from hTN), (show (∃ zE : Nat → Int32, (xpf 5) = snI zE (xpf 3) ((xpr 0) 2)) from hLF), (show (∃ zE : Nat → Int32, (xpf 6) = fcO (xpr 0) (xpf 1) (xpf 2) (xpf 5) zE 100) from hCF), (show (y_kd9 = x_bd9 ∧ y_kw9 = x_bs9 ∧ y_kh9 = x_bh9) from hwr.2.2), (show BWr (xpr 0) x_b9 x_bs9 x_bh9 from wr_bw hq0 hq1 hBW hqx.2), (show CR (xpr 0) (xpf 7) (xpf 8) (xpf 9) (xpf 10) (xpf 11) (xpf 12) (xpf 13) (ypf 7) (ypf 8) (ypf 9) (ypf 10) (ypf 11) (ypf 12) (ypf 13) (ypf 14) from hCR), (show (ypi 3) = (xpi 2) from hWG), (show ((ypi 4) = (xpi 3) ∧ ¬ (xpi 3) < 0) from hSD), (show ((ypn 4) = (xpn 1) ∧ yeF (nI (ypn 4)) (ypi 1) = nI (xpn 2) ∧ (ypi 2) = (xpi 0)) from hLW), (show IR (xpr 0) ((xpf 28) 0) (xpf 14) (xpf 15) (xpf 16) (xpf 17) (xpf 18) (xpf 19) (xpf 20) (fun j => (ypf 16) (0 + j)) (fun j => (ypf 16) (3 + j)) (fun j => (ypf 16) (6 + j)) (fun j => (ypf 16) (9 + j)) (fun j => (ypf 16) (12 + j)) (fun j => (ypf 16) (15 + j)) (fun j => (ypf 16) (18 + j)) (fun j => (ypf 16) (21 + j)) ((ypf 16) 25) (xpi 4) ((ypf 16) 26) (xpi 5) from hIA), (show IR (xpr 0) ((xpf 28) 1) (xpf 21) (xpf 22) (xpf 23) (xpf 24) (xpf 25) (xpf 26) (xpf 27) (fun j => (ypf 16) (30 + j)) (fun j => (ypf 16) (33 + j)) (fun j => (ypf 16) (36 + j)) (fun j => (ypf 16) (39 + j)) (fun j => (ypf 16) (42 + j)) (fun j => (ypf 16) (45 + j)) (fun j => (ypf 16) (48 + j)) (fun j => (ypf 16) (51 + j)) ((ypf 16) 55) (xpi 6) ((ypf 16) 56) (xpi 7) from hIB)⟩ hP hD hS

set_option maxHeartbeats 20000000 in
set_option maxRecDepth 100000 in
theorem cs_tear {p : Program} {l : Launch} {e : Env} {s : State} {m : MethodId} {below : List Frame} {meth : Method} {c : Code} {b L : Nat} {xs : Nat → Int32} {D : va_G} {k : Nat → ClassId} {z : Nat → Nat} {A : Nat → Prop} {x y i : Nat} {wx wm : va_W} {H : Heap} {locs : List Loc} {ls : Array Slot} (C : lC p s m meth c b L xs D k z A) (hil : i + 4 ≤ L) (hJ : JN k x y i wx wm) (hP : va_P D vwCl (wx ++ wm) H) (hD : va_D A (wx ++ wm)) (hS : va_S A s.heap H locs) (hl : lv_has ls 4 [(3, .int (nI i)), (2, .ref y), (1, .ref x), (0, .ref b)]) (kk : ∀ (H : Heap) (locs : List Loc) (wx wm : va_W), JN k x y (i + 4) wx wm → va_P D vwCl (wx ++ wm) H → va_D A (wx ++ wm) → va_S A s.heap H locs → W p l e room_1 s m #[Value.ref b] below meth c H locs 123 7201 (lw_Z below #[Value.ref b] s) (F0 m 907 ls [])) : W p l e room_1 s m #[Value.ref b] below meth c H locs 123 7201 (lw_Z below #[Value.ref b] s) (F0 m 802 ls []) := by
  obtain ⟨hx, hb, hml, hown, hts, hX, hbl, hbA, hG, hZ, hA, hL⟩ := C
  obtain ⟨xpn, xpi, xpr, xpf, xpl, ypn, ypi, ypf, hXI, hMI, ⟨hn, ⟨hq0, hq1, hq2, hq3⟩, hal, hNB, hnn, hyy, hdyi, hda, hdb, hbb, hOBx, hCFx, hAKx, hMMx⟩, ⟨htx, ⟨hho, hsp, hnp, hmp⟩, hnt, hyt, hld, hmB, hddi, hbk, hRW, hIM⟩, hTX, hF, hFP, hFB, hRD, hDY, hBK, hKZ, hI0, hTN, hLF, hCF, hBD, hBW, hCR, hWG, hSD, hLW, hIA, hIB⟩ := hJ
  refine lv_aload_n hx hb dL_law_802 rfl (lv_at hl 2 rfl) ?_
  have hPc := va_P_left hP
  have hDc := va_D_left hD
  obtain ⟨fs9, hfs9⟩ := hXI.recv
  refine cl_i2 (wc := wx) (wr := wm) (va_runV (As := []) (rest := []) ⟨hx, hb, hml, hown, hts⟩ (F_X9_tear l D k H.size z x (xpn 0) (xpf 0) (xpr 0) (xpf 1) (xpf 2) (xpf 3) (xpf 4) (xpf 5) (xpf 6) (xpr 1) (xpn 1) (xpn 2) (xpi 0) (xpi 1) (xpf 7) (xpf 8) (xpf 9) (xpf 10) (xpf 11) (xpf 12) (xpf 13) (xpi 2) (xpn 3) (xpi 3) (xpf 14) (xpf 15) (xpf 16) (xpf 17) (xpf 18) (xpf 19) (xpf 20) (xpi 4) (xpn 4) (xpi 5) (xpf 21) (xpf 22) (xpf 23) (xpf 24) (xpf 25) (xpf 26) (xpf 27) (xpi 6) (xpn 5) (xpi 7) (xpf 28) (xpn 6) (xpf 29) (xpf 30) (xpf 31) (xpi 8) (xpf 32) (xpf 33) (xpl 0) (xpi 9) (xpi 10) (xpi 11) (xpi 12) (xpf 34) (xpf 35) (xpf 36)  wx hXI ) (cwV 0 hts gL_law_X9_tear rfl rfl rfl (by decide +kernel) ⟨Nat.le_of_ble_eq_true rfl, Nat.le_of_ble_eq_true rfl⟩) ⟨PT.blind _ _ _ _ _ _, va_recv hG.1 hPc (ci := 9) (q0 := 0) rfl hfs9, PT.pre hPc hDc hG hZ hS (A_left hD hS hA) [.ref x]⟩ rfl rfl hl.1 rfl (lv_room (Nat.le_of_ble_eq_true rfl)) dL_law_803 ⟨Nat.le_of_ble_eq_true rfl, Nat.le_of_ble_eq_true rfl⟩) hP hD hS hA (fun r u H locs hq9 hP hD hS => ?_)
  generalize r = rx at hq9 ⊢
  obtain ⟨ux, rfl⟩ : ∃ z, z = u := ⟨_, rfl⟩
  obtain ⟨hqx, hXI⟩ := hq9
  refine lv_pop hx hb dL_law_806 rfl ?_
  refine lv_aload_n hx hb dL_law_807 rfl (lv_at hl 1 rfl) ?_
  have hPc := va_P_left hP
  have hDc := va_D_left hD
  obtain ⟨fs9, hfs9⟩ := hMI.recv
  refine cl_i2 (wc := wm) (wr := ux) (va_runV (As := []) (rest := []) ⟨hx, hb, hml, hown, hts⟩ (F_X10_tear l D k H.size z y (ypn 0) (ypn 1) (ypn 2) (ypn 3) (ypn 4) (ypn 5) (ypn 6) (ypn 7) (ypi 0) (ypi 1) (ypi 2) (ypi 3) (ypi 4) (ypi 5) (ypf 0) (ypf 1) (ypf 2) (ypf 3) (ypf 4) (ypf 5) (ypf 6) (ypf 7) (ypf 8) (ypf 9) (ypf 10) (ypf 11) (ypf 12) (ypf 13) (ypf 14) (ypf 15) (ypf 16) (ypf 17) (ypf 18) (ypf 19) (ypf 20)  wm hMI ) (cwV 0 hts gL_law_X10_tear rfl rfl rfl (by decide +kernel) ⟨Nat.le_of_ble_eq_true rfl, Nat.le_of_ble_eq_true rfl⟩) ⟨PT.blind _ _ _ _ _ _, va_recv hG.1 hPc (ci := 10) (q0 := 0) rfl hfs9, PT.pre hPc hDc hG hZ hS (A_left hD hS hA) [.ref y]⟩ rfl rfl hl.1 rfl (lv_room (Nat.le_of_ble_eq_true rfl)) dL_law_808 ⟨Nat.le_of_ble_eq_true rfl, Nat.le_of_ble_eq_true rfl⟩) hP hD hS hA (fun r u H locs hq9 hP hD hS => ?_)
  generalize r = ry at hq9 ⊢
  obtain ⟨um, rfl⟩ : ∃ z, z = u := ⟨_, rfl⟩
  obtain ⟨hqm, hMI⟩ := hq9
  refine lv_pop hx hb dL_law_811 rfl ?_
  refine lv_goto (tgt := 907) hx hb dL_law_812 (by decide) ?_
  exact kk H locs ux um ⟨(fun i9 => ([xpn 0, xpn 1, xpn 2, xpn 3, xpn 4, xpn 5, 0] : List (Nat)).getD i9 0), xpi, xpr, xpf, xpl, (fun i9 => ([ypn 0, ypn 1, ypn 2, ypn 3, ypn 4, ypn 5, 0, ypn 7] : List (Nat)).getD i9 0), ypi, ypf, hXI, hMI, ⟨(show (xpn 0) ≤ 500 from hn), (show ((xpr 0) 0 ≤ 7 ∧ (xpr 0) 1 ≤ 7 ∧ (xpr 0) 2 ≤ 20 ∧ (xpr 0) 3 ≤ 3) from ⟨hq0, hq1, hq2, hq3⟩), (show (∀ d, d < 100 → (xpr 1) d ≤ d + 1) from hal), (show NBr 3 4 ((xpr 0) 3) (xpf 4) from hNB), (show (1 ≤ (xpn 1) ∧ (xpn 1) ≤ 7) from hnn), (show (xpn 2) ≤ 7 from hyy), (show (xpn 3) ≤ 100 * (i + 4) from by omega), (show (xpn 4) ≤ 100 * (i + 4) from by omega), (show (xpn 5) ≤ 100 * (i + 4) from by omega), (show 0 ≤ 20 from Nat.zero_le _), (show OB (xpf 36) from hOBx), (show CFB ((xpr 0) 1) (xpf 6) from hCFx), (show AK ((xpr 0) 1) (xpf 6) (xpr 1) from hAKx), (show MEM ((xpr 0) 1) (xpf 6) (xpf 33) (xpl 0) from hMMx)⟩, ⟨(show (ypn 5) ≤ 500 from htx), (show ((ypn 0) ≤ 7 ∧ (ypn 1) ≤ 7 ∧ (ypn 2) ≤ 20 ∧ (ypn 3) ≤ 3) from ⟨hho, hsp, hnp, hmp⟩), (show (1 ≤ (ypn 4) ∧ (ypn 4) ≤ 7) from hnt), (show ((ypi 1) = -1 ∨ ∃ v : Nat, v ≤ 7 ∧ (ypi 1) = nI v) from hyt), (show LDI (ypf 13) (ypf 14) from hld), (show mB (ypn 3) (ypf 6) from hmB), (show (ypn 7) ≤ 100 * (i + 4) from by omega), (show 0 ≤ 20 from Nat.zero_le _), (show RW (ypf 19) (ypf 20) 0 from RW_0), (show IMI (ypf 16) (100 * (i + 4)) from IMI_w hIM (by omega))⟩, (show (ypn 5) = (xpn 0) from hTX), (show (ypf 15) = (xpf 0) from hF), (show (∀ j, ¬ (xpf 0) j < 0) from hFP), (show (ypi 5) = (xpi 8) from hFB), (show RD (xpr 0) (xpf 1) (xpf 2) (xpf 3) (xpf 4) (ypn 0) (ypn 1) (ypn 2) (ypn 3) (ypf 0) (ypf 1) (ypf 2) (ypf 3) (ypf 4) (ypf 5) (ypf 6) from hRD), (show (ypn 7) = (xpn 3) from hDY), (show 0 = 0 from rfl), (show (ypf 17) = (xpf 28) from hKZ), (show ((ypf 16) 24 = nI (xpn 4) ∧ (ypf 16) 54 = nI (xpn 5)) from hI0), (show TN (xpr 0) (xpf 1) (xpf 2) (xpf 3) (xpf 4) from hTN), (show (∃ zE : Nat → Int32, (xpf 5) = snI zE (xpf 3) ((xpr 0) 2)) from hLF), (show (∃ zE : Nat → Int32, (xpf 6) = fcO (xpr 0) (xpf 1) (xpf 2) (xpf 5) zE 100) from hCF), (show ((ypf 18) = (xpf 29) ∧ (ypf 19) = (xpf 30) ∧ (ypf 20) = (xpf 31)) from hBD), (show BWr (xpr 0) 0 (xpf 30) (xpf 31) from BW_0), (show CR (xpr 0) (xpf 7) (xpf 8) (xpf 9) (xpf 10) (xpf 11) (xpf 12) (xpf 13) (ypf 7) (ypf 8) (ypf 9) (ypf 10) (ypf 11) (ypf 12) (ypf 13) (ypf 14) from hCR), (show (ypi 3) = (xpi 2) from hWG), (show ((ypi 4) = (xpi 3) ∧ ¬ (xpi 3) < 0) from hSD), (show ((ypn 4) = (xpn 1) ∧ yeF (nI (ypn 4)) (ypi 1) = nI (xpn 2) ∧ (ypi 2) = (xpi 0)) from hLW), (show IR (xpr 0) ((xpf 28) 0) (xpf 14) (xpf 15) (xpf 16) (xpf 17) (xpf 18) (xpf 19) (xpf 20) (fun j => (ypf 16) (0 + j)) (fun j => (ypf 16) (3 + j)) (fun j => (ypf 16) (6 + j)) (fun j => (ypf 16) (9 + j)) (fun j => (ypf 16) (12 + j)) (fun j => (ypf 16) (15 + j)) (fun j => (ypf 16) (18 + j)) (fun j => (ypf 16) (21 + j)) ((ypf 16) 25) (xpi 4) ((ypf 16) 26) (xpi 5) from hIA), (show IR (xpr 0) ((xpf 28) 1) (xpf 21) (xpf 22) (xpf 23) (xpf 24) (xpf 25) (xpf 26) (xpf 27) (fun j => (ypf 16) (30 + j)) (fun j => (ypf 16) (33 + j)) (fun j => (ypf 16) (36 + j)) (fun j => (ypf 16) (39 + j)) (fun j => (ypf 16) (42 + j)) (fun j => (ypf 16) (45 + j)) (fun j => (ypf 16) (48 + j)) (fun j => (ypf 16) (51 + j)) ((ypf 16) 55) (xpi 6) ((ypf 16) 56) (xpi 7) from hIB)⟩ hP hD hS

set_option maxHeartbeats 20000000 in
set_option maxRecDepth 100000 in
theorem cs_judge {p : Program} {l : Launch} {e : Env} {s : State} {m : MethodId} {below : List Frame} {meth : Method} {c : Code} {b L : Nat} {xs : Nat → Int32} {D : va_G} {k : Nat → ClassId} {z : Nat → Nat} {A : Nat → Prop} {x y i : Nat} {wx wm : va_W} {H : Heap} {locs : List Loc} {ls : Array Slot} (C : lC p s m meth c b L xs D k z A) (hil : i + 4 ≤ L) (hJ : JN k x y i wx wm) (hP : va_P D vwCl (wx ++ wm) H) (hD : va_D A (wx ++ wm)) (hS : va_S A s.heap H locs) (hl : lv_has ls 4 [(3, .int (nI i)), (2, .ref y), (1, .ref x), (0, .ref b)]) (kk : ∀ (H : Heap) (locs : List Loc) (wx wm : va_W), JN k x y (i + 4) wx wm → va_P D vwCl (wx ++ wm) H → va_D A (wx ++ wm) → va_S A s.heap H locs → W p l e room_1 s m #[Value.ref b] below meth c H locs 123 7201 (lw_Z below #[Value.ref b] s) (F0 m 907 ls [])) : W p l e room_1 s m #[Value.ref b] below meth c H locs 123 7201 (lw_Z below #[Value.ref b] s) (F0 m 815 ls []) := by
  obtain ⟨hx, hb, hml, hown, hts, hX, hbl, hbA, hG, hZ, hA, hL⟩ := C
  obtain ⟨xpn, xpi, xpr, xpf, xpl, ypn, ypi, ypf, hXI, hMI, ⟨hn, ⟨hq0, hq1, hq2, hq3⟩, hal, hNB, hnn, hyy, hdyi, hda, hdb, hbb, hOBx, hCFx, hAKx, hMMx⟩, ⟨htx, ⟨hho, hsp, hnp, hmp⟩, hnt, hyt, hld, hmB, hddi, hbk, hRW, hIM⟩, hTX, hF, hFP, hFB, hRD, hDY, hBK, hKZ, hI0, hTN, hLF, hCF, hBD, hBW, hCR, hWG, hSD, hLW, hIA, hIB⟩ := hJ
  refine lv_aload_n hx hb dL_law_815 rfl (lv_at hl 2 rfl) ?_
  refine lv_aload_n hx hb dL_law_816 rfl (lv_at hl 3 rfl) ?_
  refine lv_iload_n hx hb dL_law_817 rfl (lv_at hl 0 rfl) ?_
  refine lv_iconst (v := 1) hx hb dL_law_818 (by decide) ?_
  refine lv_iadd hx hb dL_law_819 ?_
  refine tp_i (y := nI (i + 1)) (nI_add i 1) ?_
  refine va_sld hx hb hX hbl hbA hS (vp_in_nI (n := i + 1) (by omega) (by omega)) dL_law_820 ?_
  refine tp_i (y := xs (i + 1)) (congrArg xs (nI_clamp (n := i + 1) (by omega))) ?_
  have hPc := va_P_left hP
  have hDc := va_D_left hD
  obtain ⟨fs9, hfs9⟩ := hXI.recv
  refine cl_i2 (wc := wx) (wr := wm) (va_runV (As := [.int (xs (i + 1))]) (rest := []) ⟨hx, hb, hml, hown, hts⟩ (F_X9_judge l D k H.size z x (xpn 0) (xpf 0) (xpr 0) (xpf 1) (xpf 2) (xpf 3) (xpf 4) (xpf 5) (xpf 6) (xpr 1) (xpn 1) (xpn 2) (xpi 0) (xpi 1) (xpf 7) (xpf 8) (xpf 9) (xpf 10) (xpf 11) (xpf 12) (xpf 13) (xpi 2) (xpn 3) (xpi 3) (xpf 14) (xpf 15) (xpf 16) (xpf 17) (xpf 18) (xpf 19) (xpf 20) (xpi 4) (xpn 4) (xpi 5) (xpf 21) (xpf 22) (xpf 23) (xpf 24) (xpf 25) (xpf 26) (xpf 27) (xpi 6) (xpn 5) (xpi 7) (xpf 28) (xpn 6) (xpf 29) (xpf 30) (xpf 31) (xpi 8) (xpf 32) (xpf 33) (xpl 0) (xpi 9) (xpi 10) (xpi 11) (xpi 12) (xpf 34) (xpf 35) (xpf 36) (xs (i + 1)) wx hXI (by first | assumption | omega) (by first | assumption | omega) (by first | assumption | omega) (by first | assumption | omega)) (cwV 1 hts gL_law_X9_judge rfl rfl rfl (by decide +kernel) ⟨Nat.le_of_ble_eq_true rfl, Nat.le_of_ble_eq_true rfl⟩) ⟨PT.blind _ _ _ _ _ _, va_recv hG.1 hPc (ci := 9) (q0 := 0) rfl hfs9, PT.pre hPc hDc hG hZ hS (A_left hD hS hA) [.ref x, .int (xs (i + 1))]⟩ rfl rfl hl.1 rfl (lv_room (Nat.le_of_ble_eq_true rfl)) dL_law_821 ⟨Nat.le_of_ble_eq_true rfl, Nat.le_of_ble_eq_true rfl⟩) hP hD hS hA (fun r u H locs hq9 hP hD hS => ?_)
  generalize r = rx at hq9 ⊢
  obtain ⟨ux, rfl⟩ : ∃ z, z = u := ⟨_, rfl⟩
  obtain ⟨hqx, hXI⟩ := hq9
  refine lv_pop hx hb dL_law_824 rfl ?_
  refine lv_aload_n hx hb dL_law_825 rfl (lv_at hl 1 rfl) ?_
  refine lv_aload_n hx hb dL_law_826 rfl (lv_at hl 3 rfl) ?_
  refine lv_iload_n hx hb dL_law_827 rfl (lv_at hl 0 rfl) ?_
  refine lv_iconst (v := 1) hx hb dL_law_828 (by decide) ?_
  refine lv_iadd hx hb dL_law_829 ?_
  refine tp_i (y := nI (i + 1)) (nI_add i 1) ?_
  refine va_sld hx hb hX hbl hbA hS (vp_in_nI (n := i + 1) (by omega) (by omega)) dL_law_830 ?_
  refine tp_i (y := xs (i + 1)) (congrArg xs (nI_clamp (n := i + 1) (by omega))) ?_
  have hPc := va_P_left hP
  have hDc := va_D_left hD
  obtain ⟨fs9, hfs9⟩ := hMI.recv
  refine cl_i2 (wc := wm) (wr := ux) (va_runV (As := [.int (xs (i + 1))]) (rest := []) ⟨hx, hb, hml, hown, hts⟩ (F_X10_judge l D k H.size z y (ypn 0) (ypn 1) (ypn 2) (ypn 3) (ypn 4) (ypn 5) (ypn 6) (ypn 7) (ypi 0) (ypi 1) (ypi 2) (ypi 3) (ypi 4) (ypi 5) (ypf 0) (ypf 1) (ypf 2) (ypf 3) (ypf 4) (ypf 5) (ypf 6) (ypf 7) (ypf 8) (ypf 9) (ypf 10) (ypf 11) (ypf 12) (ypf 13) (ypf 14) (ypf 15) (ypf 16) (ypf 17) (ypf 18) (ypf 19) (ypf 20) ((xs (i + 1)).toNatClampNeg) (xs (i + 1)) wm hMI (by first | assumption | omega) (by first | assumption | omega) (by first | assumption | omega) (by first | assumption | omega) (is_cl (by omega))) (cwV 1 hts gL_law_X10_judge rfl rfl rfl (by decide +kernel) ⟨Nat.le_of_ble_eq_true rfl, Nat.le_of_ble_eq_true rfl⟩) ⟨PT.blind _ _ _ _ _ _, va_recv hG.1 hPc (ci := 10) (q0 := 0) rfl hfs9, PT.pre hPc hDc hG hZ hS (A_left hD hS hA) [.ref y, .int (xs (i + 1))]⟩ rfl rfl hl.1 rfl (lv_room (Nat.le_of_ble_eq_true rfl)) dL_law_831 ⟨Nat.le_of_ble_eq_true rfl, Nat.le_of_ble_eq_true rfl⟩) hP hD hS hA (fun r u H locs hq9 hP hD hS => ?_)
  generalize r = ry at hq9 ⊢
  obtain ⟨um, rfl⟩ : ∃ z, z = u := ⟨_, rfl⟩
  obtain ⟨hqm, hMI⟩ := hq9
  refine lv_pop hx hb dL_law_834 rfl ?_
  refine lv_goto (tgt := 907) hx hb dL_law_835 (by decide) ?_
  obtain ⟨lE, elf⟩ := id hLF
  obtain ⟨cE, ecf⟩ := id hCF
  have hNZ : ∀ sw wh, noZ (xpf 5) sw wh = nzS (ypf 5) sw wh (ypn 2) := by intro sw wh; rw [hRD.1.2.2.1]; exact noZ_eq elf hTN.2.2.1 hRD.2.2.2.1 sw wh
  rw [hBK, hBD.1, hBD.2.1, hBD.2.2] at hqm
  exact kk H locs ux um ⟨xpn, xpi, xpr, xpf, xpl, ypn, ypi, ypf, hXI, hMI, ⟨(show (xpn 0) ≤ 500 from hn), (show ((xpr 0) 0 ≤ 7 ∧ (xpr 0) 1 ≤ 7 ∧ (xpr 0) 2 ≤ 20 ∧ (xpr 0) 3 ≤ 3) from ⟨hq0, hq1, hq2, hq3⟩), (show (∀ d, d < 100 → (xpr 1) d ≤ d + 1) from hal), (show NBr 3 4 ((xpr 0) 3) (xpf 4) from hNB), (show (1 ≤ (xpn 1) ∧ (xpn 1) ≤ 7) from hnn), (show (xpn 2) ≤ 7 from hyy), (show (xpn 3) ≤ 100 * (i + 4) from by omega), (show (xpn 4) ≤ 100 * (i + 4) from by omega), (show (xpn 5) ≤ 100 * (i + 4) from by omega), (show (xpn 6) ≤ 20 from hbb), (show OB (xpf 36) from hOBx), (show CFB ((xpr 0) 1) (xpf 6) from hCFx), (show AK ((xpr 0) 1) (xpf 6) (xpr 1) from hAKx), (show MEM ((xpr 0) 1) (xpf 6) (xpf 33) (xpl 0) from hMMx)⟩, ⟨(show (ypn 5) ≤ 500 from htx), (show ((ypn 0) ≤ 7 ∧ (ypn 1) ≤ 7 ∧ (ypn 2) ≤ 20 ∧ (ypn 3) ≤ 3) from ⟨hho, hsp, hnp, hmp⟩), (show (1 ≤ (ypn 4) ∧ (ypn 4) ≤ 7) from hnt), (show ((ypi 1) = -1 ∨ ∃ v : Nat, v ≤ 7 ∧ (ypi 1) = nI v) from hyt), (show LDI (ypf 13) (ypf 14) from hld), (show mB (ypn 3) (ypf 6) from hmB), (show (ypn 7) ≤ 100 * (i + 4) from by omega), (show (ypn 6) ≤ 20 from hbk), (show RW (ypf 19) (ypf 20) (ypn 6) from hRW), (show IMI (ypf 16) (100 * (i + 4)) from IMI_w hIM (by omega))⟩, (show (ypn 5) = (xpn 0) from hTX), (show (ypf 15) = (xpf 0) from hF), (show (∀ j, ¬ (xpf 0) j < 0) from hFP), (show (ypi 5) = (xpi 8) from hFB), (show RD (xpr 0) (xpf 1) (xpf 2) (xpf 3) (xpf 4) (ypn 0) (ypn 1) (ypn 2) (ypn 3) (ypf 0) (ypf 1) (ypf 2) (ypf 3) (ypf 4) (ypf 5) (ypf 6) from hRD), (show (ypn 7) = (xpn 3) from hDY), (show (ypn 6) = (xpn 6) from hBK), (show (ypf 17) = (xpf 28) from hKZ), (show ((ypf 16) 24 = nI (xpn 4) ∧ (ypf 16) 54 = nI (xpn 5)) from hI0), (show TN (xpr 0) (xpf 1) (xpf 2) (xpf 3) (xpf 4) from hTN), (show (∃ zE : Nat → Int32, (xpf 5) = snI zE (xpf 3) ((xpr 0) 2)) from hLF), (show (∃ zE : Nat → Int32, (xpf 6) = fcO (xpr 0) (xpf 1) (xpf 2) (xpf 5) zE 100) from hCF), (show ((ypf 18) = (xpf 29) ∧ (ypf 19) = (xpf 30) ∧ (ypf 20) = (xpf 31)) from hBD), (show BWr (xpr 0) (xpn 6) (xpf 30) (xpf 31) from hBW), (show CR (xpr 0) (xpf 7) (xpf 8) (xpf 9) (xpf 10) (xpf 11) (xpf 12) (xpf 13) (ypf 7) (ypf 8) (ypf 9) (ypf 10) (ypf 11) (ypf 12) (ypf 13) (ypf 14) from hCR), (show (ypi 3) = (xpi 2) from hWG), (show ((ypi 4) = (xpi 3) ∧ ¬ (xpi 3) < 0) from hSD), (show ((ypn 4) = (xpn 1) ∧ yeF (nI (ypn 4)) (ypi 1) = nI (xpn 2) ∧ (ypi 2) = (xpi 0)) from hLW), (show IR (xpr 0) ((xpf 28) 0) (xpf 14) (xpf 15) (xpf 16) (xpf 17) (xpf 18) (xpf 19) (xpf 20) (fun j => (ypf 16) (0 + j)) (fun j => (ypf 16) (3 + j)) (fun j => (ypf 16) (6 + j)) (fun j => (ypf 16) (9 + j)) (fun j => (ypf 16) (12 + j)) (fun j => (ypf 16) (15 + j)) (fun j => (ypf 16) (18 + j)) (fun j => (ypf 16) (21 + j)) ((ypf 16) 25) (xpi 4) ((ypf 16) 26) (xpi 5) from hIA), (show IR (xpr 0) ((xpf 28) 1) (xpf 21) (xpf 22) (xpf 23) (xpf 24) (xpf 25) (xpf 26) (xpf 27) (fun j => (ypf 16) (30 + j)) (fun j => (ypf 16) (33 + j)) (fun j => (ypf 16) (36 + j)) (fun j => (ypf 16) (39 + j)) (fun j => (ypf 16) (42 + j)) (fun j => (ypf 16) (45 + j)) (fun j => (ypf 16) (48 + j)) (fun j => (ypf 16) (51 + j)) ((ypf 16) 55) (xpi 6) ((ypf 16) 56) (xpi 7) from hIB)⟩ hP hD hS

set_option maxHeartbeats 20000000 in
set_option maxRecDepth 100000 in
theorem cs_seed {p : Program} {l : Launch} {e : Env} {s : State} {m : MethodId} {below : List Frame} {meth : Method} {c : Code} {b L : Nat} {xs : Nat → Int32} {D : va_G} {k : Nat → ClassId} {z : Nat → Nat} {A : Nat → Prop} {x y i : Nat} {wx wm : va_W} {H : Heap} {locs : List Loc} {ls : Array Slot} (C : lC p s m meth c b L xs D k z A) (hil : i + 4 ≤ L) (hJ : JN k x y i wx wm) (hP : va_P D vwCl (wx ++ wm) H) (hD : va_D A (wx ++ wm)) (hS : va_S A s.heap H locs) (hl : lv_has ls 4 [(3, .int (nI i)), (2, .ref y), (1, .ref x), (0, .ref b)]) (kk : ∀ (H : Heap) (locs : List Loc) (wx wm : va_W), JN k x y (i + 4) wx wm → va_P D vwCl (wx ++ wm) H → va_D A (wx ++ wm) → va_S A s.heap H locs → W p l e room_1 s m #[Value.ref b] below meth c H locs 123 7201 (lw_Z below #[Value.ref b] s) (F0 m 907 ls [])) : W p l e room_1 s m #[Value.ref b] below meth c H locs 123 7201 (lw_Z below #[Value.ref b] s) (F0 m 838 ls []) := by
  obtain ⟨hx, hb, hml, hown, hts, hX, hbl, hbA, hG, hZ, hA, hL⟩ := C
  obtain ⟨xpn, xpi, xpr, xpf, xpl, ypn, ypi, ypf, hXI, hMI, ⟨hn, ⟨hq0, hq1, hq2, hq3⟩, hal, hNB, hnn, hyy, hdyi, hda, hdb, hbb, hOBx, hCFx, hAKx, hMMx⟩, ⟨htx, ⟨hho, hsp, hnp, hmp⟩, hnt, hyt, hld, hmB, hddi, hbk, hRW, hIM⟩, hTX, hF, hFP, hFB, hRD, hDY, hBK, hKZ, hI0, hTN, hLF, hCF, hBD, hBW, hCR, hWG, hSD, hLW, hIA, hIB⟩ := hJ
  refine lv_aload_n hx hb dL_law_838 rfl (lv_at hl 2 rfl) ?_
  refine lv_aload_n hx hb dL_law_839 rfl (lv_at hl 3 rfl) ?_
  refine lv_iload_n hx hb dL_law_840 rfl (lv_at hl 0 rfl) ?_
  refine lv_iconst (v := 1) hx hb dL_law_841 (by decide) ?_
  refine lv_iadd hx hb dL_law_842 ?_
  refine tp_i (y := nI (i + 1)) (nI_add i 1) ?_
  refine va_sld hx hb hX hbl hbA hS (vp_in_nI (n := i + 1) (by omega) (by omega)) dL_law_843 ?_
  refine tp_i (y := xs (i + 1)) (congrArg xs (nI_clamp (n := i + 1) (by omega))) ?_
  have hPc := va_P_left hP
  have hDc := va_D_left hD
  obtain ⟨fs9, hfs9⟩ := hXI.recv
  refine cl_i2 (wc := wx) (wr := wm) (va_runV (As := [.int (xs (i + 1))]) (rest := []) ⟨hx, hb, hml, hown, hts⟩ (F_X9_seed l D k H.size z x (xpn 0) (xpf 0) (xpr 0) (xpf 1) (xpf 2) (xpf 3) (xpf 4) (xpf 5) (xpf 6) (xpr 1) (xpn 1) (xpn 2) (xpi 0) (xpi 1) (xpf 7) (xpf 8) (xpf 9) (xpf 10) (xpf 11) (xpf 12) (xpf 13) (xpi 2) (xpn 3) (xpi 3) (xpf 14) (xpf 15) (xpf 16) (xpf 17) (xpf 18) (xpf 19) (xpf 20) (xpi 4) (xpn 4) (xpi 5) (xpf 21) (xpf 22) (xpf 23) (xpf 24) (xpf 25) (xpf 26) (xpf 27) (xpi 6) (xpn 5) (xpi 7) (xpf 28) (xpn 6) (xpf 29) (xpf 30) (xpf 31) (xpi 8) (xpf 32) (xpf 33) (xpl 0) (xpi 9) (xpi 10) (xpi 11) (xpi 12) (xpf 34) (xpf 35) (xpf 36) (xs (i + 1)) wx hXI ) (cwV 1 hts gL_law_X9_seed rfl rfl rfl (by decide +kernel) ⟨Nat.le_of_ble_eq_true rfl, Nat.le_of_ble_eq_true rfl⟩) ⟨PT.blind _ _ _ _ _ _, va_recv hG.1 hPc (ci := 9) (q0 := 0) rfl hfs9, PT.pre hPc hDc hG hZ hS (A_left hD hS hA) [.ref x, .int (xs (i + 1))]⟩ rfl rfl hl.1 rfl (lv_room (Nat.le_of_ble_eq_true rfl)) dL_law_844 ⟨Nat.le_of_ble_eq_true rfl, Nat.le_of_ble_eq_true rfl⟩) hP hD hS hA (fun r u H locs hq9 hP hD hS => ?_)
  generalize r = rx at hq9 ⊢
  obtain ⟨ux, rfl⟩ : ∃ z, z = u := ⟨_, rfl⟩
  obtain ⟨x_sd9, hqx, hXI⟩ := hq9
  refine lv_pop hx hb dL_law_847 rfl ?_
  refine lv_aload_n hx hb dL_law_848 rfl (lv_at hl 1 rfl) ?_
  refine lv_aload_n hx hb dL_law_849 rfl (lv_at hl 3 rfl) ?_
  refine lv_iload_n hx hb dL_law_850 rfl (lv_at hl 0 rfl) ?_
  refine lv_iconst (v := 1) hx hb dL_law_851 (by decide) ?_
  refine lv_iadd hx hb dL_law_852 ?_
  refine tp_i (y := nI (i + 1)) (nI_add i 1) ?_
  refine va_sld hx hb hX hbl hbA hS (vp_in_nI (n := i + 1) (by omega) (by omega)) dL_law_853 ?_
  refine tp_i (y := xs (i + 1)) (congrArg xs (nI_clamp (n := i + 1) (by omega))) ?_
  have hPc := va_P_left hP
  have hDc := va_D_left hD
  obtain ⟨fs9, hfs9⟩ := hMI.recv
  refine cl_i2 (wc := wm) (wr := ux) (va_runV (As := [.int (xs (i + 1))]) (rest := []) ⟨hx, hb, hml, hown, hts⟩ (F_X10_seed l D k H.size z y (ypn 0) (ypn 1) (ypn 2) (ypn 3) (ypn 4) (ypn 5) (ypn 6) (ypn 7) (ypi 0) (ypi 1) (ypi 2) (ypi 3) (ypi 4) (ypi 5) (ypf 0) (ypf 1) (ypf 2) (ypf 3) (ypf 4) (ypf 5) (ypf 6) (ypf 7) (ypf 8) (ypf 9) (ypf 10) (ypf 11) (ypf 12) (ypf 13) (ypf 14) (ypf 15) (ypf 16) (ypf 17) (ypf 18) (ypf 19) (ypf 20) (xs (i + 1)) wm hMI ) (cwV 1 hts gL_law_X10_seed rfl rfl rfl (by decide +kernel) ⟨Nat.le_of_ble_eq_true rfl, Nat.le_of_ble_eq_true rfl⟩) ⟨PT.blind _ _ _ _ _ _, va_recv hG.1 hPc (ci := 10) (q0 := 0) rfl hfs9, PT.pre hPc hDc hG hZ hS (A_left hD hS hA) [.ref y, .int (xs (i + 1))]⟩ rfl rfl hl.1 rfl (lv_room (Nat.le_of_ble_eq_true rfl)) dL_law_854 ⟨Nat.le_of_ble_eq_true rfl, Nat.le_of_ble_eq_true rfl⟩) hP hD hS hA (fun r u H locs hq9 hP hD hS => ?_)
  generalize r = ry at hq9 ⊢
  obtain ⟨um, rfl⟩ : ∃ z, z = u := ⟨_, rfl⟩
  obtain ⟨y_sd9, hqm, hMI⟩ := hq9
  refine lv_pop hx hb dL_law_857 rfl ?_
  refine lv_goto (tgt := 907) hx hb dL_law_858 (by decide) ?_
  rw [hSD.1] at hqm
  have hse := sd_eq hSD.2 hqx hqm
  exact kk H locs ux um ⟨xpn, (fun i9 => ([xpi 0, xpi 1, xpi 2, x_sd9, xpi 4, xpi 5, xpi 6, xpi 7, xpi 8, xpi 9, xpi 10, xpi 11, xpi 12] : List (Int32)).getD i9 0), xpr, xpf, xpl, ypn, (fun i9 => ([ypi 0, ypi 1, ypi 2, ypi 3, y_sd9, ypi 5] : List (Int32)).getD i9 0), ypf, hXI, hMI, ⟨(show (xpn 0) ≤ 500 from hn), (show ((xpr 0) 0 ≤ 7 ∧ (xpr 0) 1 ≤ 7 ∧ (xpr 0) 2 ≤ 20 ∧ (xpr 0) 3 ≤ 3) from ⟨hq0, hq1, hq2, hq3⟩), (show (∀ d, d < 100 → (xpr 1) d ≤ d + 1) from hal), (show NBr 3 4 ((xpr 0) 3) (xpf 4) from hNB), (show (1 ≤ (xpn 1) ∧ (xpn 1) ≤ 7) from hnn), (show (xpn 2) ≤ 7 from hyy), (show (xpn 3) ≤ 100 * (i + 4) from by omega), (show (xpn 4) ≤ 100 * (i + 4) from by omega), (show (xpn 5) ≤ 100 * (i + 4) from by omega), (show (xpn 6) ≤ 20 from hbb), (show OB (xpf 36) from hOBx), (show CFB ((xpr 0) 1) (xpf 6) from hCFx), (show AK ((xpr 0) 1) (xpf 6) (xpr 1) from hAKx), (show MEM ((xpr 0) 1) (xpf 6) (xpf 33) (xpl 0) from hMMx)⟩, ⟨(show (ypn 5) ≤ 500 from htx), (show ((ypn 0) ≤ 7 ∧ (ypn 1) ≤ 7 ∧ (ypn 2) ≤ 20 ∧ (ypn 3) ≤ 3) from ⟨hho, hsp, hnp, hmp⟩), (show (1 ≤ (ypn 4) ∧ (ypn 4) ≤ 7) from hnt), (show ((ypi 1) = -1 ∨ ∃ v : Nat, v ≤ 7 ∧ (ypi 1) = nI v) from hyt), (show LDI (ypf 13) (ypf 14) from hld), (show mB (ypn 3) (ypf 6) from hmB), (show (ypn 7) ≤ 100 * (i + 4) from by omega), (show (ypn 6) ≤ 20 from hbk), (show RW (ypf 19) (ypf 20) (ypn 6) from hRW), (show IMI (ypf 16) (100 * (i + 4)) from IMI_w hIM (by omega))⟩, (show (ypn 5) = (xpn 0) from hTX), (show (ypf 15) = (xpf 0) from hF), (show (∀ j, ¬ (xpf 0) j < 0) from hFP), (show (ypi 5) = (xpi 8) from hFB), (show RD (xpr 0) (xpf 1) (xpf 2) (xpf 3) (xpf 4) (ypn 0) (ypn 1) (ypn 2) (ypn 3) (ypf 0) (ypf 1) (ypf 2) (ypf 3) (ypf 4) (ypf 5) (ypf 6) from hRD), (show (ypn 7) = (xpn 3) from hDY), (show (ypn 6) = (xpn 6) from hBK), (show (ypf 17) = (xpf 28) from hKZ), (show ((ypf 16) 24 = nI (xpn 4) ∧ (ypf 16) 54 = nI (xpn 5)) from hI0), (show TN (xpr 0) (xpf 1) (xpf 2) (xpf 3) (xpf 4) from hTN), (show (∃ zE : Nat → Int32, (xpf 5) = snI zE (xpf 3) ((xpr 0) 2)) from hLF), (show (∃ zE : Nat → Int32, (xpf 6) = fcO (xpr 0) (xpf 1) (xpf 2) (xpf 5) zE 100) from hCF), (show ((ypf 18) = (xpf 29) ∧ (ypf 19) = (xpf 30) ∧ (ypf 20) = (xpf 31)) from hBD), (show BWr (xpr 0) (xpn 6) (xpf 30) (xpf 31) from hBW), (show CR (xpr 0) (xpf 7) (xpf 8) (xpf 9) (xpf 10) (xpf 11) (xpf 12) (xpf 13) (ypf 7) (ypf 8) (ypf 9) (ypf 10) (ypf 11) (ypf 12) (ypf 13) (ypf 14) from hCR), (show (ypi 3) = (xpi 2) from hWG), (show (y_sd9 = x_sd9 ∧ ¬ x_sd9 < 0) from ⟨hse.2.1, hse.2.2⟩), (show ((ypn 4) = (xpn 1) ∧ yeF (nI (ypn 4)) (ypi 1) = nI (xpn 2) ∧ (ypi 2) = (xpi 0)) from hLW), (show IR (xpr 0) ((xpf 28) 0) (xpf 14) (xpf 15) (xpf 16) (xpf 17) (xpf 18) (xpf 19) (xpf 20) (fun j => (ypf 16) (0 + j)) (fun j => (ypf 16) (3 + j)) (fun j => (ypf 16) (6 + j)) (fun j => (ypf 16) (9 + j)) (fun j => (ypf 16) (12 + j)) (fun j => (ypf 16) (15 + j)) (fun j => (ypf 16) (18 + j)) (fun j => (ypf 16) (21 + j)) ((ypf 16) 25) (xpi 4) ((ypf 16) 26) (xpi 5) from hIA), (show IR (xpr 0) ((xpf 28) 1) (xpf 21) (xpf 22) (xpf 23) (xpf 24) (xpf 25) (xpf 26) (xpf 27) (fun j => (ypf 16) (30 + j)) (fun j => (ypf 16) (33 + j)) (fun j => (ypf 16) (36 + j)) (fun j => (ypf 16) (39 + j)) (fun j => (ypf 16) (42 + j)) (fun j => (ypf 16) (45 + j)) (fun j => (ypf 16) (48 + j)) (fun j => (ypf 16) (51 + j)) ((ypf 16) 55) (xpi 6) ((ypf 16) 56) (xpi 7) from hIB)⟩ hP hD hS

set_option maxHeartbeats 20000000 in
set_option maxRecDepth 100000 in
theorem cs_keep {p : Program} {l : Launch} {e : Env} {s : State} {m : MethodId} {below : List Frame} {meth : Method} {c : Code} {b L : Nat} {xs : Nat → Int32} {D : va_G} {k : Nat → ClassId} {z : Nat → Nat} {A : Nat → Prop} {x y i : Nat} {wx wm : va_W} {H : Heap} {locs : List Loc} {ls : Array Slot} (C : lC p s m meth c b L xs D k z A) (hil : i + 4 ≤ L) (hJ : JN k x y i wx wm) (hP : va_P D vwCl (wx ++ wm) H) (hD : va_D A (wx ++ wm)) (hS : va_S A s.heap H locs) (hl : lv_has ls 4 [(3, .int (nI i)), (2, .ref y), (1, .ref x), (0, .ref b)]) (kk : ∀ (H : Heap) (locs : List Loc) (wx wm : va_W), JN k x y (i + 4) wx wm → va_P D vwCl (wx ++ wm) H → va_D A (wx ++ wm) → va_S A s.heap H locs → W p l e room_1 s m #[Value.ref b] below meth c H locs 123 7201 (lw_Z below #[Value.ref b] s) (F0 m 907 ls [])) : W p l e room_1 s m #[Value.ref b] below meth c H locs 123 7201 (lw_Z below #[Value.ref b] s) (F0 m 861 ls []) := by
  obtain ⟨hx, hb, hml, hown, hts, hX, hbl, hbA, hG, hZ, hA, hL⟩ := C
  obtain ⟨xpn, xpi, xpr, xpf, xpl, ypn, ypi, ypf, hXI, hMI, ⟨hn, ⟨hq0, hq1, hq2, hq3⟩, hal, hNB, hnn, hyy, hdyi, hda, hdb, hbb, hOBx, hCFx, hAKx, hMMx⟩, ⟨htx, ⟨hho, hsp, hnp, hmp⟩, hnt, hyt, hld, hmB, hddi, hbk, hRW, hIM⟩, hTX, hF, hFP, hFB, hRD, hDY, hBK, hKZ, hI0, hTN, hLF, hCF, hBD, hBW, hCR, hWG, hSD, hLW, hIA, hIB⟩ := hJ
  refine lv_aload_n hx hb dL_law_861 rfl (lv_at hl 2 rfl) ?_
  refine lv_aload_n hx hb dL_law_862 rfl (lv_at hl 3 rfl) ?_
  refine lv_iload_n hx hb dL_law_863 rfl (lv_at hl 0 rfl) ?_
  refine lv_iconst (v := 1) hx hb dL_law_864 (by decide) ?_
  refine lv_iadd hx hb dL_law_865 ?_
  refine tp_i (y := nI (i + 1)) (nI_add i 1) ?_
  refine va_sld hx hb hX hbl hbA hS (vp_in_nI (n := i + 1) (by omega) (by omega)) dL_law_866 ?_
  refine tp_i (y := xs (i + 1)) (congrArg xs (nI_clamp (n := i + 1) (by omega))) ?_
  have hPc := va_P_left hP
  have hDc := va_D_left hD
  obtain ⟨fs9, hfs9⟩ := hXI.recv
  refine cl_i2 (wc := wx) (wr := wm) (va_runV (As := [.int (xs (i + 1))]) (rest := []) ⟨hx, hb, hml, hown, hts⟩ (F_X9_keep l D k H.size z x (xpn 0) (xpf 0) (xpr 0) (xpf 1) (xpf 2) (xpf 3) (xpf 4) (xpf 5) (xpf 6) (xpr 1) (xpn 1) (xpn 2) (xpi 0) (xpi 1) (xpf 7) (xpf 8) (xpf 9) (xpf 10) (xpf 11) (xpf 12) (xpf 13) (xpi 2) (xpn 3) (xpi 3) (xpf 14) (xpf 15) (xpf 16) (xpf 17) (xpf 18) (xpf 19) (xpf 20) (xpi 4) (xpn 4) (xpi 5) (xpf 21) (xpf 22) (xpf 23) (xpf 24) (xpf 25) (xpf 26) (xpf 27) (xpi 6) (xpn 5) (xpi 7) (xpf 28) (xpn 6) (xpf 29) (xpf 30) (xpf 31) (xpi 8) (xpf 32) (xpf 33) (xpl 0) (xpi 9) (xpi 10) (xpi 11) (xpi 12) (xpf 34) (xpf 35) (xpf 36) (xs (i + 1)) wx hXI ) (cwV 1 hts gL_law_X9_keep rfl rfl rfl (by decide +kernel) ⟨Nat.le_of_ble_eq_true rfl, Nat.le_of_ble_eq_true rfl⟩) ⟨PT.blind _ _ _ _ _ _, va_recv hG.1 hPc (ci := 9) (q0 := 0) rfl hfs9, PT.pre hPc hDc hG hZ hS (A_left hD hS hA) [.ref x, .int (xs (i + 1))]⟩ rfl rfl hl.1 rfl (lv_room (Nat.le_of_ble_eq_true rfl)) dL_law_867 ⟨Nat.le_of_ble_eq_true rfl, Nat.le_of_ble_eq_true rfl⟩) hP hD hS hA (fun r u H locs hq9 hP hD hS => ?_)
  generalize r = rx at hq9 ⊢
  obtain ⟨ux, rfl⟩ : ∃ z, z = u := ⟨_, rfl⟩
  obtain ⟨x_ga0, x_ga1, x_ga2, x_ga3, x_ga4, x_ga5, x_ga6, x_wa9, x_da9, x_sa9, x_gb0, x_gb1, x_gb2, x_gb3, x_gb4, x_gb5, x_gb6, x_wb9, x_db9, x_sb9, x_kz9, hqx, hXI⟩ := hq9
  refine lv_pop hx hb dL_law_870 rfl ?_
  refine lv_aload_n hx hb dL_law_871 rfl (lv_at hl 1 rfl) ?_
  refine lv_aload_n hx hb dL_law_872 rfl (lv_at hl 3 rfl) ?_
  refine lv_iload_n hx hb dL_law_873 rfl (lv_at hl 0 rfl) ?_
  refine lv_iconst (v := 1) hx hb dL_law_874 (by decide) ?_
  refine lv_iadd hx hb dL_law_875 ?_
  refine tp_i (y := nI (i + 1)) (nI_add i 1) ?_
  refine va_sld hx hb hX hbl hbA hS (vp_in_nI (n := i + 1) (by omega) (by omega)) dL_law_876 ?_
  refine tp_i (y := xs (i + 1)) (congrArg xs (nI_clamp (n := i + 1) (by omega))) ?_
  have hPc := va_P_left hP
  have hDc := va_D_left hD
  obtain ⟨fs9, hfs9⟩ := hMI.recv
  refine cl_i2 (wc := wm) (wr := ux) (va_runV (As := [.int (xs (i + 1))]) (rest := []) ⟨hx, hb, hml, hown, hts⟩ (F_X10_keep l D k H.size z y (ypn 0) (ypn 1) (ypn 2) (ypn 3) (ypn 4) (ypn 5) (ypn 6) (ypn 7) (ypi 0) (ypi 1) (ypi 2) (ypi 3) (ypi 4) (ypi 5) (ypf 0) (ypf 1) (ypf 2) (ypf 3) (ypf 4) (ypf 5) (ypf 6) (ypf 7) (ypf 8) (ypf 9) (ypf 10) (ypf 11) (ypf 12) (ypf 13) (ypf 14) (ypf 15) (ypf 16) (ypf 17) (ypf 18) (ypf 19) (ypf 20) (100 * i) (xs (i + 1)) wm hMI (by first | assumption | omega) (by first | assumption | omega) (by first | assumption | omega)) (cwV 1 hts gL_law_X10_keep rfl rfl rfl (by decide +kernel) ⟨Nat.le_of_ble_eq_true rfl, Nat.le_of_ble_eq_true rfl⟩) ⟨PT.blind _ _ _ _ _ _, va_recv hG.1 hPc (ci := 10) (q0 := 0) rfl hfs9, PT.pre hPc hDc hG hZ hS (A_left hD hS hA) [.ref y, .int (xs (i + 1))]⟩ rfl rfl hl.1 rfl (lv_room (Nat.le_of_ble_eq_true rfl)) dL_law_877 ⟨Nat.le_of_ble_eq_true rfl, Nat.le_of_ble_eq_true rfl⟩) hP hD hS hA (fun r u H locs hq9 hP hD hS => ?_)
  generalize r = ry at hq9 ⊢
  obtain ⟨um, rfl⟩ : ∃ z, z = u := ⟨_, rfl⟩
  obtain ⟨y_im9, y_ik9, hqm, hMI⟩ := hq9
  refine lv_pop hx hb dL_law_880 rfl ?_
  refine lv_goto (tgt := 907) hx hb dL_law_881 (by decide) ?_
  have hkm := hqm.2.2
  rw [hKZ, hDY, hWG, hSD.1] at hkm
  have hkp := kp_eq hqx.2.1 hkm hI0
  exact kk H locs ux um ⟨(fun i9 => ([xpn 0, xpn 1, xpn 2, xpn 3, x_da9, x_db9, xpn 6] : List (Nat)).getD i9 0), (fun i9 => ([xpi 0, xpi 1, xpi 2, xpi 3, x_wa9, x_sa9, x_wb9, x_sb9, xpi 8, xpi 9, xpi 10, xpi 11, xpi 12] : List (Int32)).getD i9 0), xpr, (fun i9 => ([xpf 0, xpf 1, xpf 2, xpf 3, xpf 4, xpf 5, xpf 6, xpf 7, xpf 8, xpf 9, xpf 10, xpf 11, xpf 12, xpf 13, x_ga0, x_ga1, x_ga2, x_ga3, x_ga4, x_ga5, x_ga6, x_gb0, x_gb1, x_gb2, x_gb3, x_gb4, x_gb5, x_gb6, x_kz9, xpf 29, xpf 30, xpf 31, xpf 32, xpf 33, xpf 34, xpf 35, xpf 36] : List (Nat → Int32)).getD i9 (fun _ => 0)), xpl, ypn, ypi, (fun i9 => ([ypf 0, ypf 1, ypf 2, ypf 3, ypf 4, ypf 5, ypf 6, ypf 7, ypf 8, ypf 9, ypf 10, ypf 11, ypf 12, ypf 13, ypf 14, ypf 15, y_im9, y_ik9, ypf 18, ypf 19, ypf 20] : List (Nat → Int32)).getD i9 (fun _ => 0)), hXI, hMI, ⟨(show (xpn 0) ≤ 500 from hn), (show ((xpr 0) 0 ≤ 7 ∧ (xpr 0) 1 ≤ 7 ∧ (xpr 0) 2 ≤ 20 ∧ (xpr 0) 3 ≤ 3) from ⟨hq0, hq1, hq2, hq3⟩), (show (∀ d, d < 100 → (xpr 1) d ≤ d + 1) from hal), (show NBr 3 4 ((xpr 0) 3) (xpf 4) from hNB), (show (1 ≤ (xpn 1) ∧ (xpn 1) ≤ 7) from hnn), (show (xpn 2) ≤ 7 from hyy), (show (xpn 3) ≤ 100 * (i + 4) from by omega), (show x_da9 ≤ 100 * (i + 4) from by rcases hqx.2.1 with h | h | h <;> omega), (show x_db9 ≤ 100 * (i + 4) from by rcases hqx.2.1 with h | h | h <;> omega), (show (xpn 6) ≤ 20 from hbb), (show OB (xpf 36) from hOBx), (show CFB ((xpr 0) 1) (xpf 6) from hCFx), (show AK ((xpr 0) 1) (xpf 6) (xpr 1) from hAKx), (show MEM ((xpr 0) 1) (xpf 6) (xpf 33) (xpl 0) from hMMx)⟩, ⟨(show (ypn 5) ≤ 500 from htx), (show ((ypn 0) ≤ 7 ∧ (ypn 1) ≤ 7 ∧ (ypn 2) ≤ 20 ∧ (ypn 3) ≤ 3) from ⟨hho, hsp, hnp, hmp⟩), (show (1 ≤ (ypn 4) ∧ (ypn 4) ≤ 7) from hnt), (show ((ypi 1) = -1 ∨ ∃ v : Nat, v ≤ 7 ∧ (ypi 1) = nI v) from hyt), (show LDI (ypf 13) (ypf 14) from hld), (show mB (ypn 3) (ypf 6) from hmB), (show (ypn 7) ≤ 100 * (i + 4) from by omega), (show (ypn 6) ≤ 20 from hbk), (show RW (ypf 19) (ypf 20) (ypn 6) from hRW), (show IMI y_im9 (100 * (i + 4)) from IMI_w hqm.2.1 (by omega))⟩, (show (ypn 5) = (xpn 0) from hTX), (show (ypf 15) = (xpf 0) from hF), (show (∀ j, ¬ (xpf 0) j < 0) from hFP), (show (ypi 5) = (xpi 8) from hFB), (show RD (xpr 0) (xpf 1) (xpf 2) (xpf 3) (xpf 4) (ypn 0) (ypn 1) (ypn 2) (ypn 3) (ypf 0) (ypf 1) (ypf 2) (ypf 3) (ypf 4) (ypf 5) (ypf 6) from hRD), (show (ypn 7) = (xpn 3) from hDY), (show (ypn 6) = (xpn 6) from hBK), (show y_ik9 = x_kz9 from hkp.1), (show (y_im9 24 = nI x_da9 ∧ y_im9 54 = nI x_db9) from hkp.2), (show TN (xpr 0) (xpf 1) (xpf 2) (xpf 3) (xpf 4) from hTN), (show (∃ zE : Nat → Int32, (xpf 5) = snI zE (xpf 3) ((xpr 0) 2)) from hLF), (show (∃ zE : Nat → Int32, (xpf 6) = fcO (xpr 0) (xpf 1) (xpf 2) (xpf 5) zE 100) from hCF), (show ((ypf 18) = (xpf 29) ∧ (ypf 19) = (xpf 30) ∧ (ypf 20) = (xpf 31)) from hBD), (show BWr (xpr 0) (xpn 6) (xpf 30) (xpf 31) from hBW), (show CR (xpr 0) (xpf 7) (xpf 8) (xpf 9) (xpf 10) (xpf 11) (xpf 12) (xpf 13) (ypf 7) (ypf 8) (ypf 9) (ypf 10) (ypf 11) (ypf 12) (ypf 13) (ypf 14) from hCR), (show (ypi 3) = (xpi 2) from hWG), (show ((ypi 4) = (xpi 3) ∧ ¬ (xpi 3) < 0) from hSD), (show ((ypn 4) = (xpn 1) ∧ yeF (nI (ypn 4)) (ypi 1) = nI (xpn 2) ∧ (ypi 2) = (xpi 0)) from hLW), (show IR (xpr 0) (x_kz9 0) x_ga0 x_ga1 x_ga2 x_ga3 x_ga4 x_ga5 x_ga6 (fun j => y_im9 (0 + j)) (fun j => y_im9 (3 + j)) (fun j => y_im9 (6 + j)) (fun j => y_im9 (9 + j)) (fun j => y_im9 (12 + j)) (fun j => y_im9 (15 + j)) (fun j => y_im9 (18 + j)) (fun j => y_im9 (21 + j)) (y_im9 25) x_wa9 (y_im9 26) x_sa9 from by rw [← hkp.1]; exact kp_a hCR hSD.2 hqx.2.2.1 hkm hIA), (show IR (xpr 0) (x_kz9 1) x_gb0 x_gb1 x_gb2 x_gb3 x_gb4 x_gb5 x_gb6 (fun j => y_im9 (30 + j)) (fun j => y_im9 (33 + j)) (fun j => y_im9 (36 + j)) (fun j => y_im9 (39 + j)) (fun j => y_im9 (42 + j)) (fun j => y_im9 (45 + j)) (fun j => y_im9 (48 + j)) (fun j => y_im9 (51 + j)) (y_im9 55) x_wb9 (y_im9 56) x_sb9 from by rw [← hkp.1]; exact kp_b hCR hSD.2 hqx.2.2.2 hkm hIB)⟩ hP hD hS

set_option maxHeartbeats 20000000 in
set_option maxRecDepth 100000 in
theorem cs_goBack {p : Program} {l : Launch} {e : Env} {s : State} {m : MethodId} {below : List Frame} {meth : Method} {c : Code} {b L : Nat} {xs : Nat → Int32} {D : va_G} {k : Nat → ClassId} {z : Nat → Nat} {A : Nat → Prop} {x y i : Nat} {wx wm : va_W} {H : Heap} {locs : List Loc} {ls : Array Slot} (C : lC p s m meth c b L xs D k z A) (hil : i + 4 ≤ L) (hJ : JN k x y i wx wm) (hP : va_P D vwCl (wx ++ wm) H) (hD : va_D A (wx ++ wm)) (hS : va_S A s.heap H locs) (hl : lv_has ls 4 [(3, .int (nI i)), (2, .ref y), (1, .ref x), (0, .ref b)]) (kk : ∀ (H : Heap) (locs : List Loc) (wx wm : va_W), JN k x y (i + 4) wx wm → va_P D vwCl (wx ++ wm) H → va_D A (wx ++ wm) → va_S A s.heap H locs → W p l e room_1 s m #[Value.ref b] below meth c H locs 123 7201 (lw_Z below #[Value.ref b] s) (F0 m 907 ls [])) : W p l e room_1 s m #[Value.ref b] below meth c H locs 123 7201 (lw_Z below #[Value.ref b] s) (F0 m 884 ls []) := by
  obtain ⟨hx, hb, hml, hown, hts, hX, hbl, hbA, hG, hZ, hA, hL⟩ := C
  obtain ⟨xpn, xpi, xpr, xpf, xpl, ypn, ypi, ypf, hXI, hMI, ⟨hn, ⟨hq0, hq1, hq2, hq3⟩, hal, hNB, hnn, hyy, hdyi, hda, hdb, hbb, hOBx, hCFx, hAKx, hMMx⟩, ⟨htx, ⟨hho, hsp, hnp, hmp⟩, hnt, hyt, hld, hmB, hddi, hbk, hRW, hIM⟩, hTX, hF, hFP, hFB, hRD, hDY, hBK, hKZ, hI0, hTN, hLF, hCF, hBD, hBW, hCR, hWG, hSD, hLW, hIA, hIB⟩ := hJ
  refine lv_aload_n hx hb dL_law_884 rfl (lv_at hl 2 rfl) ?_
  refine lv_aload_n hx hb dL_law_885 rfl (lv_at hl 3 rfl) ?_
  refine lv_iload_n hx hb dL_law_886 rfl (lv_at hl 0 rfl) ?_
  refine lv_iconst (v := 1) hx hb dL_law_887 (by decide) ?_
  refine lv_iadd hx hb dL_law_888 ?_
  refine tp_i (y := nI (i + 1)) (nI_add i 1) ?_
  refine va_sld hx hb hX hbl hbA hS (vp_in_nI (n := i + 1) (by omega) (by omega)) dL_law_889 ?_
  refine tp_i (y := xs (i + 1)) (congrArg xs (nI_clamp (n := i + 1) (by omega))) ?_
  have hPc := va_P_left hP
  have hDc := va_D_left hD
  obtain ⟨fs9, hfs9⟩ := hXI.recv
  refine cl_i2 (wc := wx) (wr := wm) (va_runV (As := [.int (xs (i + 1))]) (rest := []) ⟨hx, hb, hml, hown, hts⟩ (F_X9_goBack l D k H.size z x (xpn 0) (xpf 0) (xpr 0) (xpf 1) (xpf 2) (xpf 3) (xpf 4) (xpf 5) (xpf 6) (xpr 1) (xpn 1) (xpn 2) (xpi 0) (xpi 1) (xpf 7) (xpf 8) (xpf 9) (xpf 10) (xpf 11) (xpf 12) (xpf 13) (xpi 2) (xpn 3) (xpi 3) (xpf 14) (xpf 15) (xpf 16) (xpf 17) (xpf 18) (xpf 19) (xpf 20) (xpi 4) (xpn 4) (xpi 5) (xpf 21) (xpf 22) (xpf 23) (xpf 24) (xpf 25) (xpf 26) (xpf 27) (xpi 6) (xpn 5) (xpi 7) (xpf 28) (xpn 6) (xpf 29) (xpf 30) (xpf 31) (xpi 8) (xpf 32) (xpf 33) (xpl 0) (xpi 9) (xpi 10) (xpi 11) (xpi 12) (xpf 34) (xpf 35) (xpf 36) (xs (i + 1)) wx hXI ) (cwV 1 hts gL_law_X9_goBack rfl rfl rfl (by decide +kernel) ⟨Nat.le_of_ble_eq_true rfl, Nat.le_of_ble_eq_true rfl⟩) ⟨PT.blind _ _ _ _ _ _, va_recv hG.1 hPc (ci := 9) (q0 := 0) rfl hfs9, PT.pre hPc hDc hG hZ hS (A_left hD hS hA) [.ref x, .int (xs (i + 1))]⟩ rfl rfl hl.1 rfl (lv_room (Nat.le_of_ble_eq_true rfl)) dL_law_890 ⟨Nat.le_of_ble_eq_true rfl, Nat.le_of_ble_eq_true rfl⟩) hP hD hS hA (fun r u H locs hq9 hP hD hS => ?_)
  generalize r = rx at hq9 ⊢
  obtain ⟨ux, rfl⟩ : ∃ z, z = u := ⟨_, rfl⟩
  obtain ⟨x_g0, x_g1, x_g2, x_g3, x_g4, x_g5, x_g6, x_wv, x_dy9, x_sv, hqx, hXI⟩ := hq9
  refine lv_pop hx hb dL_law_893 rfl ?_
  refine lv_aload_n hx hb dL_law_894 rfl (lv_at hl 1 rfl) ?_
  refine lv_aload_n hx hb dL_law_895 rfl (lv_at hl 3 rfl) ?_
  refine lv_iload_n hx hb dL_law_896 rfl (lv_at hl 0 rfl) ?_
  refine lv_iconst (v := 1) hx hb dL_law_897 (by decide) ?_
  refine lv_iadd hx hb dL_law_898 ?_
  refine tp_i (y := nI (i + 1)) (nI_add i 1) ?_
  refine va_sld hx hb hX hbl hbA hS (vp_in_nI (n := i + 1) (by omega) (by omega)) dL_law_899 ?_
  refine tp_i (y := xs (i + 1)) (congrArg xs (nI_clamp (n := i + 1) (by omega))) ?_
  have hPc := va_P_left hP
  have hDc := va_D_left hD
  obtain ⟨fs9, hfs9⟩ := hMI.recv
  refine cl_i2 (wc := wm) (wr := ux) (va_runV (As := [.int (xs (i + 1))]) (rest := []) ⟨hx, hb, hml, hown, hts⟩ (F_X10_goBack l D k H.size z y (ypn 0) (ypn 1) (ypn 2) (ypn 3) (ypn 4) (ypn 5) (ypn 6) (ypn 7) (ypi 0) (ypi 1) (ypi 2) (ypi 3) (ypi 4) (ypi 5) (ypf 0) (ypf 1) (ypf 2) (ypf 3) (ypf 4) (ypf 5) (ypf 6) (ypf 7) (ypf 8) (ypf 9) (ypf 10) (ypf 11) (ypf 12) (ypf 13) (ypf 14) (ypf 15) (ypf 16) (ypf 17) (ypf 18) (ypf 19) (ypf 20) (100 * i) (xs (i + 1)) wm hMI (by first | assumption | omega) (by first | assumption | omega) (by first | assumption | omega)) (cwV 1 hts gL_law_X10_goBack rfl rfl rfl (by decide +kernel) ⟨Nat.le_of_ble_eq_true rfl, Nat.le_of_ble_eq_true rfl⟩) ⟨PT.blind _ _ _ _ _ _, va_recv hG.1 hPc (ci := 10) (q0 := 0) rfl hfs9, PT.pre hPc hDc hG hZ hS (A_left hD hS hA) [.ref y, .int (xs (i + 1))]⟩ rfl rfl hl.1 rfl (lv_room (Nat.le_of_ble_eq_true rfl)) dL_law_900 ⟨Nat.le_of_ble_eq_true rfl, Nat.le_of_ble_eq_true rfl⟩) hP hD hS hA (fun r u H locs hq9 hP hD hS => ?_)
  generalize r = ry at hq9 ⊢
  obtain ⟨um, rfl⟩ : ∃ z, z = u := ⟨_, rfl⟩
  obtain ⟨y_dd9, y_wg9, y_sd9, y_w0, y_w1, y_w2, y_w3, y_w4, y_w5, y_w6, y_w7, hqm, hMI⟩ := hq9
  refine lv_pop hx hb dL_law_903 rfl ?_
  refine lv_goto (tgt := 907) hx hb dL_law_904 (by decide) ?_
  have hgm := hqm.2.2.1
  rw [hKZ, hDY] at hgm
  have hgb := gb_eq hqx.1 hgm hI0 (by omega) (by omega) (by have := hqm.1; omega)
  have hGM := hqm.2.2.2
  rw [hKZ] at hGM
  have hgc := gb_C hCR hWG hSD.1 hSD.2 (fun p => p.2) (fun p => p.2) hqx.2 hGM hIA hIB
  exact kk H locs ux um ⟨(fun i9 => ([xpn 0, xpn 1, xpn 2, x_dy9, xpn 4, xpn 5, xpn 6] : List (Nat)).getD i9 0), (fun i9 => ([xpi 0, xpi 1, x_wv, x_sv, xpi 4, xpi 5, xpi 6, xpi 7, xpi 8, xpi 9, xpi 10, xpi 11, xpi 12] : List (Int32)).getD i9 0), xpr, (fun i9 => ([xpf 0, xpf 1, xpf 2, xpf 3, xpf 4, xpf 5, xpf 6, x_g0, x_g1, x_g2, x_g3, x_g4, x_g5, x_g6, xpf 14, xpf 15, xpf 16, xpf 17, xpf 18, xpf 19, xpf 20, xpf 21, xpf 22, xpf 23, xpf 24, xpf 25, xpf 26, xpf 27, xpf 28, xpf 29, xpf 30, xpf 31, xpf 32, xpf 33, xpf 34, xpf 35, xpf 36] : List (Nat → Int32)).getD i9 (fun _ => 0)), xpl, (fun i9 => ([ypn 0, ypn 1, ypn 2, ypn 3, ypn 4, ypn 5, ypn 6, y_dd9] : List (Nat)).getD i9 0), (fun i9 => ([ypi 0, ypi 1, ypi 2, y_wg9, y_sd9, ypi 5] : List (Int32)).getD i9 0), (fun i9 => ([ypf 0, ypf 1, ypf 2, ypf 3, ypf 4, ypf 5, ypf 6, y_w0, y_w1, y_w2, y_w3, y_w4, y_w5, y_w6, y_w7, ypf 15, ypf 16, ypf 17, ypf 18, ypf 19, ypf 20] : List (Nat → Int32)).getD i9 (fun _ => 0)), hXI, hMI, ⟨(show (xpn 0) ≤ 500 from hn), (show ((xpr 0) 0 ≤ 7 ∧ (xpr 0) 1 ≤ 7 ∧ (xpr 0) 2 ≤ 20 ∧ (xpr 0) 3 ≤ 3) from ⟨hq0, hq1, hq2, hq3⟩), (show (∀ d, d < 100 → (xpr 1) d ≤ d + 1) from hal), (show NBr 3 4 ((xpr 0) 3) (xpf 4) from hNB), (show (1 ≤ (xpn 1) ∧ (xpn 1) ≤ 7) from hnn), (show (xpn 2) ≤ 7 from hyy), (show x_dy9 ≤ 100 * (i + 4) from by rw [← hgb.2]; have := hqm.1; omega), (show (xpn 4) ≤ 100 * (i + 4) from by omega), (show (xpn 5) ≤ 100 * (i + 4) from by omega), (show (xpn 6) ≤ 20 from hbb), (show OB (xpf 36) from hOBx), (show CFB ((xpr 0) 1) (xpf 6) from hCFx), (show AK ((xpr 0) 1) (xpf 6) (xpr 1) from hAKx), (show MEM ((xpr 0) 1) (xpf 6) (xpf 33) (xpl 0) from hMMx)⟩, ⟨(show (ypn 5) ≤ 500 from htx), (show ((ypn 0) ≤ 7 ∧ (ypn 1) ≤ 7 ∧ (ypn 2) ≤ 20 ∧ (ypn 3) ≤ 3) from ⟨hho, hsp, hnp, hmp⟩), (show (1 ≤ (ypn 4) ∧ (ypn 4) ≤ 7) from hnt), (show ((ypi 1) = -1 ∨ ∃ v : Nat, v ≤ 7 ∧ (ypi 1) = nI v) from hyt), (show LDI y_w6 y_w7 from hqm.2.1), (show mB (ypn 3) (ypf 6) from hmB), (show y_dd9 ≤ 100 * (i + 4) from by have := hqm.1; omega), (show (ypn 6) ≤ 20 from hbk), (show RW (ypf 19) (ypf 20) (ypn 6) from hRW), (show IMI (ypf 16) (100 * (i + 4)) from IMI_w hIM (by omega))⟩, (show (ypn 5) = (xpn 0) from hTX), (show (ypf 15) = (xpf 0) from hF), (show (∀ j, ¬ (xpf 0) j < 0) from hFP), (show (ypi 5) = (xpi 8) from hFB), (show RD (xpr 0) (xpf 1) (xpf 2) (xpf 3) (xpf 4) (ypn 0) (ypn 1) (ypn 2) (ypn 3) (ypf 0) (ypf 1) (ypf 2) (ypf 3) (ypf 4) (ypf 5) (ypf 6) from hRD), (show y_dd9 = x_dy9 from hgb.2), (show (ypn 6) = (xpn 6) from hBK), (show (ypf 17) = (xpf 28) from hKZ), (show ((ypf 16) 24 = nI (xpn 4) ∧ (ypf 16) 54 = nI (xpn 5)) from hI0), (show TN (xpr 0) (xpf 1) (xpf 2) (xpf 3) (xpf 4) from hTN), (show (∃ zE : Nat → Int32, (xpf 5) = snI zE (xpf 3) ((xpr 0) 2)) from hLF), (show (∃ zE : Nat → Int32, (xpf 6) = fcO (xpr 0) (xpf 1) (xpf 2) (xpf 5) zE 100) from hCF), (show ((ypf 18) = (xpf 29) ∧ (ypf 19) = (xpf 30) ∧ (ypf 20) = (xpf 31)) from hBD), (show BWr (xpr 0) (xpn 6) (xpf 30) (xpf 31) from hBW), (show CR (xpr 0) x_g0 x_g1 x_g2 x_g3 x_g4 x_g5 x_g6 y_w0 y_w1 y_w2 y_w3 y_w4 y_w5 y_w6 y_w7 from hgc.1), (show y_wg9 = x_wv from hgc.2.1), (show (y_sd9 = x_sv ∧ ¬ x_sv < 0) from ⟨hgc.2.2.1, hgc.2.2.2⟩), (show ((ypn 4) = (xpn 1) ∧ yeF (nI (ypn 4)) (ypi 1) = nI (xpn 2) ∧ (ypi 2) = (xpi 0)) from hLW), (show IR (xpr 0) ((xpf 28) 0) (xpf 14) (xpf 15) (xpf 16) (xpf 17) (xpf 18) (xpf 19) (xpf 20) (fun j => (ypf 16) (0 + j)) (fun j => (ypf 16) (3 + j)) (fun j => (ypf 16) (6 + j)) (fun j => (ypf 16) (9 + j)) (fun j => (ypf 16) (12 + j)) (fun j => (ypf 16) (15 + j)) (fun j => (ypf 16) (18 + j)) (fun j => (ypf 16) (21 + j)) ((ypf 16) 25) (xpi 4) ((ypf 16) 26) (xpi 5) from hIA), (show IR (xpr 0) ((xpf 28) 1) (xpf 21) (xpf 22) (xpf 23) (xpf 24) (xpf 25) (xpf 26) (xpf 27) (fun j => (ypf 16) (30 + j)) (fun j => (ypf 16) (33 + j)) (fun j => (ypf 16) (36 + j)) (fun j => (ypf 16) (39 + j)) (fun j => (ypf 16) (42 + j)) (fun j => (ypf 16) (45 + j)) (fun j => (ypf 16) (48 + j)) (fun j => (ypf 16) (51 + j)) ((ypf 16) 55) (xpi 6) ((ypf 16) 56) (xpi 7) from hIB)⟩ hP hD hS
