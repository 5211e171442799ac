theorem dX0_delay_0 : decode prog_1_method_14_code 0 = .ok (.aload_n 0, 1) := by decide +kernel
theorem dX0_delay_1 : decode prog_1_method_14_code 1 = .ok (.getfield 25, 3) := by decide +kernel
theorem dX0_delay_4 : decode prog_1_method_14_code 4 = .ok (.getfield 222, 3) := by decide +kernel
theorem dX0_delay_7 : decode prog_1_method_14_code 7 = .ok (.ifCond .ne 13, 3) := by decide +kernel
theorem dX0_delay_10 : decode prog_1_method_14_code 10 = .ok (.new 154, 3) := by decide +kernel
theorem dX0_delay_13 : decode prog_1_method_14_code 13 = .ok (.dup, 1) := by decide +kernel
theorem dX0_delay_14 : decode prog_1_method_14_code 14 = .ok (.ldc 225, 2) := by decide +kernel
theorem dX0_delay_16 : decode prog_1_method_14_code 16 = .ok (.invokespecial 158, 3) := by decide +kernel
theorem dX0_delay_19 : decode prog_1_method_14_code 19 = .ok (.athrow, 1) := by decide +kernel
theorem dX0_delay_20 : decode prog_1_method_14_code 20 = .ok (.aload_n 0, 1) := by decide +kernel
theorem dX0_delay_21 : decode prog_1_method_14_code 21 = .ok (.getfield 25, 3) := by decide +kernel
theorem dX0_delay_24 : decode prog_1_method_14_code 24 = .ok (.getfield 227, 3) := by decide +kernel
theorem dX0_delay_27 : decode prog_1_method_14_code 27 = .ok (.aload_n 0, 1) := by decide +kernel
theorem dX0_delay_28 : decode prog_1_method_14_code 28 = .ok (.getfield 25, 3) := by decide +kernel
theorem dX0_delay_31 : decode prog_1_method_14_code 31 = .ok (.getfield 222, 3) := by decide +kernel
theorem dX0_delay_34 : decode prog_1_method_14_code 34 = .ok (.i2d, 1) := by decide +kernel
theorem dX0_delay_35 : decode prog_1_method_14_code 35 = .ok (.ddiv, 1) := by decide +kernel
theorem dX0_delay_36 : decode prog_1_method_14_code 36 = .ok (.dreturn, 1) := by decide +kernel
def wpX0_delay (K : KX) (post : UInt64 → gS → Prop) (px : String → gS → Prop) (u : gS)  : Prop :=
  ((¬ (sI u 5) = 0 → (vf_n64 (FP.ddiv (sD u 1) (FP.i2d (sI u 5))) ∧ (post (FP.ddiv (sD u 1) (FP.i2d (sI u 5))) u))) ∧ ((sI u 5) = 0 → (px "java/lang/ArithmeticException" u)))

set_option maxHeartbeats 8000000 in
set_option maxRecDepth 100000 in
theorem cX0_delay (l : Launch) (hl9 : l.stackTraces = false) (dC : Nat → ClassId) (dI : Nat → Nat → Nat) (ad : Nat → Nat) (ca : Nat → ClassId) (K : KX) (sz : Nat) (u : gS)  (post : UInt64 → gS → Prop) (px : String → gS → Prop)  (h : wpX0_delay K post px u ) : vx_Met l ⟨"WorkHall", "delay", "()D"⟩ (gw ⟨"WorkHall", "delay", "()D"⟩ prog_1_method_14_code 1 (some .double)) ({ frames := 7, cells := 1, slots := 6, locals := 280 } : Room) (va_Pc [.ref (ad 0)] (gB (dC, dI) vwCl (xT ca) xE (wX ad ca K u) sz)) (va_Qd post (gAt (dC, dI) vwCl (xT ca) (wX ad ca K) (va_A (wX ad ca K u) sz)) (va_A (wX ad ca K u) sz)) (gX (dC, dI) vwCl (xT ca) (wX ad ca K) px (va_A (wX ad ca K u) sz)) 1 6 (va_A (wX ad ca K u) sz) := by
  refine vx_ofW (cc := prog_1_method_14_code) (maxL := 1) (ret := (some .double)) (by decide) rfl ?_
  intro p e s m args below meth c s₁ B hml hno hv
  obtain ⟨rfl, hsz, hP, hK, hD0, hE⟩ := hv
  have hx := B.exec
  have hb := B.bytes
  have hr := B.returns
  have hts : ∀ w ∈ gW, w.before _ s = true := fun w h9 => atoms_spec (ws := (gw ⟨"WorkHall", "delay", "()D"⟩ prog_1_method_14_code 1 (some .double))) B.pre w (List.mem_cons_of_mem _ h9)
  have hown : s.vm.findClass RX0 = some m.cls := findClass_of_methodNamed B.named
  have hlocks := B.notSynchronized
  subst hsz
  have hD := hD0.self (sz := s.heap.size)
  generalize hAe : va_A (wX ad ca K u) s.heap.size = A at hD hE ⊢
  have hA : ∀ q : Nat, s.heap.size ≤ q → A q := fun q h => by rw [← hAe]; exact Or.inr h
  obtain ⟨H, hHe⟩ : ∃ z : Heap, z = s.heap := ⟨_, rfl⟩
  rw [← hHe]
  have hS : va_S A s.heap H [] := by rw [hHe]; exact va_S.rf
  have hP : va_P (dC, dI) vwCl (wX ad ca K u) H := by rw [hHe]; exact hP
  have hl := lv_entry ([.ref (ad 0)]) (n := 1) (Nat.le_of_ble_eq_true rfl)
  rw [lg_entry_eq]
  generalize (lg_sl ([.ref (ad 0)]) ++ List.replicate (1 - (lg_sl ([.ref (ad 0)])).length) Slot.unset).toArray = ls at hl ⊢
  have hl : lv_has ls 1 [(0, .ref (ad 0))] := hl
  clear hAe
  refine lv_aload_n hx hb dX0_delay_0 rfl (lv_at hl 0 rfl) ?_
  refine va_get (D := (dC, dI)) (ci := 0) (v := .ref (ad 4)) (C := RX0) (T := TX0) (N := 12) hx hb hts uwX0 hown hK hP 0 rfl rfl 6 (by decide) (hts _ wd_178) (fun _ h9 => h9) rfl dX0_delay_1 ?_
  refine va_get (D := (dC, dI)) (ci := 2) (v := .int (sI u 5)) (C := RX2) (T := TX2) (N := 5) hx hb hts uwX2 hown hK hP 4 rfl rfl 3 (by decide) (hts _ wd_124) (fun _ h9 => h9) rfl dX0_delay_4 ?_
  refine lv_if_ne (tgt := 20) hx hb dX0_delay_7 (by decide) (fun c1 => ?_) (fun c1 => ?_)
  · have h := h.1 c1
    refine lv_aload_n hx hb dX0_delay_20 rfl (lv_at hl 0 rfl) ?_
    refine va_get (D := (dC, dI)) (ci := 0) (v := .ref (ad 4)) (C := RX0) (T := TX0) (N := 12) hx hb hts uwX0 hown hK hP 0 rfl rfl 6 (by decide) (hts _ wd_178) (fun _ h9 => h9) rfl dX0_delay_21 ?_
    refine va_get (D := (dC, dI)) (ci := 2) (v := .double (sD u 1)) (C := RX2) (T := TX2) (N := 5) hx hb hts uwX2 hown hK hP 4 rfl rfl 4 (by decide) (hts _ wd_126) (fun _ h9 => h9) rfl dX0_delay_24 ?_
    refine lv_aload_n hx hb dX0_delay_27 rfl (lv_at hl 0 rfl) ?_
    refine va_get (D := (dC, dI)) (ci := 0) (v := .ref (ad 4)) (C := RX0) (T := TX0) (N := 12) hx hb hts uwX0 hown hK hP 0 rfl rfl 6 (by decide) (hts _ wd_178) (fun _ h9 => h9) rfl dX0_delay_28 ?_
    refine va_get (D := (dC, dI)) (ci := 2) (v := .int (sI u 5)) (C := RX2) (T := TX2) (N := 5) hx hb hts uwX2 hown hK hP 4 rfl rfl 3 (by decide) (hts _ wd_124) (fun _ h9 => h9) rfl dX0_delay_31 ?_
    refine lv_i2d hx hb dX0_delay_34 ?_
    refine lv_ddiv hx hb dX0_delay_35 h.1 ?_
    have h := h.2
    refine W.widen (k := 1) (n := 6) (Nat.le_of_ble_eq_true rfl) (Nat.le_of_ble_eq_true rfl) (vx_ret ?_); exact gr_d (w := wX ad ca K) (u := u) hx hb hr hlocks h hP hK hD hS dX0_delay_36
  · have h := h.2 c1
    obtain ⟨sa9, hs9⟩ := xE_text hE 225 "no job was taken from the queue" (by decide +kernel); exact vx_throwS (names := xSup) hx hb hl9 hown (by decide +kernel) (by decide +kernel) (hts _ wd_556) (hts _ wd_61) hs9 (tw_aex hts (xE_face hE)) tg_aex (xE_U hE) (xE_N hE) hS (hl.1.trans hml.symm) dX0_delay_10 dX0_delay_13 dX0_delay_14 dX0_delay_16 dX0_delay_19 (fun x hx => (hno x hx).elim) (Nat.le_of_ble_eq_true rfl) (Nat.le_of_ble_eq_true rfl) (Nat.le_of_ble_eq_true rfl) (Nat.le_of_ble_eq_true rfl) hlocks (fun t ha hz hq => gx_thrown h hP hK hD hS ha hz hq) hS.2.2 (Nat.le_of_ble_eq_true rfl) (Nat.le_of_ble_eq_true rfl)

theorem dX0_due_0 : decode prog_1_method_15_code 0 = .ok (.aload_n 0, 1) := by decide +kernel
theorem dX0_due_1 : decode prog_1_method_15_code 1 = .ok (.getfield 32, 3) := by decide +kernel
theorem dX0_due_4 : decode prog_1_method_15_code 4 = .ok (.invokevirtual 185, 3) := by decide +kernel
theorem dX0_due_7 : decode prog_1_method_15_code 7 = .ok (.istore_n 1, 1) := by decide +kernel
theorem dX0_due_8 : decode prog_1_method_15_code 8 = .ok (.iload_n 1, 1) := by decide +kernel
theorem dX0_due_9 : decode prog_1_method_15_code 9 = .ok (.ifCond .ge 13, 3) := by decide +kernel
theorem dX0_due_12 : decode prog_1_method_15_code 12 = .ok (.new 146, 3) := by decide +kernel
theorem dX0_due_15 : decode prog_1_method_15_code 15 = .ok (.dup, 1) := by decide +kernel
theorem dX0_due_16 : decode prog_1_method_15_code 16 = .ok (.ldc 230, 2) := by decide +kernel
theorem dX0_due_18 : decode prog_1_method_15_code 18 = .ok (.invokespecial 150, 3) := by decide +kernel
theorem dX0_due_21 : decode prog_1_method_15_code 21 = .ok (.athrow, 1) := by decide +kernel
theorem dX0_due_22 : decode prog_1_method_15_code 22 = .ok (.aload_n 0, 1) := by decide +kernel
theorem dX0_due_23 : decode prog_1_method_15_code 23 = .ok (.getfield 32, 3) := by decide +kernel
theorem dX0_due_26 : decode prog_1_method_15_code 26 = .ok (.getfield 232, 3) := by decide +kernel
theorem dX0_due_29 : decode prog_1_method_15_code 29 = .ok (.iload_n 1, 1) := by decide +kernel
theorem dX0_due_30 : decode prog_1_method_15_code 30 = .ok (.daload, 1) := by decide +kernel
theorem dX0_due_31 : decode prog_1_method_15_code 31 = .ok (.dreturn, 1) := by decide +kernel
def wpX0_due (K : KX) (post : UInt64 → gS → Prop) (px : String → gS → Prop) (u : gS)  : Prop :=
  wpX3_firstPlace K (fun (r1 : Int32) (u2 : gS) => ((0 ≤ r1 → (vp_in r1 10 ∧ (post (sB u2 1 r1.toNatClampNeg) u2))) ∧ (¬ 0 ≤ r1 → (px "java/util/NoSuchElementException" u2)))) u

set_option maxHeartbeats 8000000 in
set_option maxRecDepth 100000 in
theorem cX0_due (l : Launch) (hl9 : l.stackTraces = false) (dC : Nat → ClassId) (dI : Nat → Nat → Nat) (ad : Nat → Nat) (ca : Nat → ClassId) (K : KX) (sz : Nat) (u : gS)  (post : UInt64 → gS → Prop) (px : String → gS → Prop)  (h : wpX0_due K post px u ) : vx_Met l ⟨"WorkHall", "due", "()D"⟩ (gw ⟨"WorkHall", "due", "()D"⟩ prog_1_method_15_code 2 (some .double)) ({ frames := 7, cells := 1, slots := 6, locals := 280 } : Room) (va_Pc [.ref (ad 0)] (gB (dC, dI) vwCl (xT ca) xE (wX ad ca K u) sz)) (va_Qd post (gAt (dC, dI) vwCl (xT ca) (wX ad ca K) (va_A (wX ad ca K u) sz)) (va_A (wX ad ca K u) sz)) (gX (dC, dI) vwCl (xT ca) (wX ad ca K) px (va_A (wX ad ca K u) sz)) 1 6 (va_A (wX ad ca K u) sz) := by
  refine vx_ofW (cc := prog_1_method_15_code) (maxL := 2) (ret := (some .double)) (by decide) rfl ?_
  intro p e s m args below meth c s₁ B hml hno hv
  obtain ⟨rfl, hsz, hP, hK, hD0, hE⟩ := hv
  have hx := B.exec
  have hb := B.bytes
  have hr := B.returns
  have hts : ∀ w ∈ gW, w.before _ s = true := fun w h9 => atoms_spec (ws := (gw ⟨"WorkHall", "due", "()D"⟩ prog_1_method_15_code 2 (some .double))) B.pre w (List.mem_cons_of_mem _ h9)
  have hown : s.vm.findClass RX0 = some m.cls := findClass_of_methodNamed B.named
  have hlocks := B.notSynchronized
  subst hsz
  have hD := hD0.self (sz := s.heap.size)
  generalize hAe : va_A (wX ad ca K u) s.heap.size = A at hD hE ⊢
  have hA : ∀ q : Nat, s.heap.size ≤ q → A q := fun q h => by rw [← hAe]; exact Or.inr h
  obtain ⟨H, hHe⟩ : ∃ z : Heap, z = s.heap := ⟨_, rfl⟩
  rw [← hHe]
  have hS : va_S A s.heap H [] := by rw [hHe]; exact va_S.rf
  have hP : va_P (dC, dI) vwCl (wX ad ca K u) H := by rw [hHe]; exact hP
  have hl := lv_entry ([.ref (ad 0)]) (n := 2) (Nat.le_of_ble_eq_true rfl)
  rw [lg_entry_eq]
  generalize (lg_sl ([.ref (ad 0)]) ++ List.replicate (2 - (lg_sl ([.ref (ad 0)])).length) Slot.unset).toArray = ls at hl ⊢
  have hl : lv_has ls 2 [(0, .ref (ad 0))] := hl
  clear hAe
  refine lv_aload_n hx hb dX0_due_0 rfl (lv_at hl 0 rfl) ?_
  refine va_get (D := (dC, dI)) (ci := 0) (v := .ref (ad 7)) (C := RX0) (T := TX0) (N := 12) hx hb hts uwX0 hown hK hP 0 rfl rfl 7 (by decide) (hts _ wd_179) (fun _ h9 => h9) rfl dX0_due_1 ?_
  refine gc_i (w := wX ad ca K) (u := u) (va_runV (As := []) (rest := []) ⟨hx, hb, hml, hown, hts⟩ (cX3_firstPlace l dC dI ad ca K H.size u _ h) (cwV 0 hts (gG_V wd_620 wd_617 wd_618 wd_50 wd_619) rfl rfl rfl (by decide +kernel) ⟨Nat.le_of_ble_eq_true rfl, Nat.le_of_ble_eq_true rfl⟩) ⟨gB_blind xE_ok, va_recv hK hP (ci := 3) (q0 := 7) rfl rfl, gB_pre xE_ok hP hK hD hE hS hA⟩ rfl rfl hl.1 rfl (lv_room (Nat.le_of_ble_eq_true rfl)) dX0_due_4 ⟨Nat.le_of_ble_eq_true rfl, Nat.le_of_ble_eq_true rfl⟩) hD hS hA (fun r1 u2 H locs h hP hD hS => ?_)
  refine lv_istore_n (lv' := [(1, .int r1), (0, .ref (ad 0))]) hx hb dX0_due_7 rfl hl (by decide) rfl (fun ls hl => ?_)
  refine lv_iload_n hx hb dX0_due_8 rfl (lv_at hl 0 rfl) ?_
  refine lv_if_ge (tgt := 22) hx hb dX0_due_9 (by decide) (fun c3 => ?_) (fun c3 => ?_)
  · have h := h.1 c3
    refine lv_aload_n hx hb dX0_due_22 rfl (lv_at hl 1 rfl) ?_
    refine va_get (D := (dC, dI)) (ci := 0) (v := .ref (ad 7)) (C := RX0) (T := TX0) (N := 12) hx hb hts uwX0 hown hK hP 0 rfl rfl 7 (by decide) (hts _ wd_179) (fun _ h9 => h9) rfl dX0_due_23 ?_
    refine va_get (D := (dC, dI)) (ci := 3) (v := .ref (ad 9)) (C := RX3) (T := TX3) (N := 4) hx hb hts uwX3 hown hK hP 7 rfl rfl 1 (by decide) (hts _ wd_149) (fun _ h9 => h9) rfl dX0_due_26 ?_
    refine lv_iload_n hx hb dX0_due_29 rfl (lv_at hl 0 rfl) ?_
    refine va_dald hx hb hK hP 9 2 rfl rfl h.1 dX0_due_30 ?_
    have h := h.2
    refine W.widen (k := 1) (n := 6) (Nat.le_of_ble_eq_true rfl) (Nat.le_of_ble_eq_true rfl) (vx_ret ?_); exact gr_d (w := wX ad ca K) (u := u2) hx hb hr hlocks h hP hK hD hS dX0_due_31
  · have h := h.2 c3
    obtain ⟨sa9, hs9⟩ := xE_text hE 230 "the clock is empty" (by decide +kernel); exact vn_throwS (r := xSup1) (Y := "java/lang/RuntimeException") hx hb hl9 dN_0 dN_1 dN_2 dN_5 hown (by decide +kernel) (by decide +kernel) (by decide +kernel) (hts _ wd_372) (hts _ wd_59) hs9 (tw_nse hts (xE_face hE)) tg_nse (xE_U hE) (xE_N hE) hS (hl.1.trans hml.symm) dX0_due_12 dX0_due_15 dX0_due_16 dX0_due_18 dX0_due_21 (fun x hx => (hno x hx).elim) (Nat.le_of_ble_eq_true rfl) (Nat.le_of_ble_eq_true rfl) (Nat.le_of_ble_eq_true rfl) (Nat.le_of_ble_eq_true rfl) hlocks (fun t ha hz hq => gx_thrown h hP hK hD hS ha hz hq) hS.2.2 (Nat.le_of_ble_eq_true rfl) (Nat.le_of_ble_eq_true rfl)

