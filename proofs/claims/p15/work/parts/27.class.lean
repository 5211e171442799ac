theorem dX0_clock_0 : decode prog_1_method_8_code 0 = .ok (.dload_n 2, 1) := by decide +kernel
theorem dX0_clock_1 : decode prog_1_method_8_code 1 = .ok (.sipush 1000, 3) := by decide +kernel
theorem dX0_clock_4 : decode prog_1_method_8_code 4 = .ok (.invokestatic 168, 3) := by decide +kernel
theorem dX0_clock_7 : decode prog_1_method_8_code 7 = .ok (.dload 4, 2) := by decide +kernel
theorem dX0_clock_9 : decode prog_1_method_8_code 9 = .ok (.sipush 1000, 3) := by decide +kernel
theorem dX0_clock_12 : decode prog_1_method_8_code 12 = .ok (.invokestatic 168, 3) := by decide +kernel
theorem dX0_clock_15 : decode prog_1_method_8_code 15 = .ok (.aload_n 0, 1) := by decide +kernel
theorem dX0_clock_16 : decode prog_1_method_8_code 16 = .ok (.iload_n 1, 1) := by decide +kernel
theorem dX0_clock_17 : decode prog_1_method_8_code 17 = .ok (.invokevirtual 86, 3) := by decide +kernel
theorem dX0_clock_20 : decode prog_1_method_8_code 20 = .ok (.astore 6, 2) := by decide +kernel
theorem dX0_clock_22 : decode prog_1_method_8_code 22 = .ok (.aload_n 0, 1) := by decide +kernel
theorem dX0_clock_23 : decode prog_1_method_8_code 23 = .ok (.getfield 40, 3) := by decide +kernel
theorem dX0_clock_26 : decode prog_1_method_8_code 26 = .ok (.ifCond .ne 15, 3) := by decide +kernel
theorem dX0_clock_29 : decode prog_1_method_8_code 29 = .ok (.aload_n 0, 1) := by decide +kernel
theorem dX0_clock_30 : decode prog_1_method_8_code 30 = .ok (.getfield 32, 3) := by decide +kernel
theorem dX0_clock_33 : decode prog_1_method_8_code 33 = .ok (.getfield 172, 3) := by decide +kernel
theorem dX0_clock_36 : decode prog_1_method_8_code 36 = .ok (.bipush 10, 2) := by decide +kernel
theorem dX0_clock_38 : decode prog_1_method_8_code 38 = .ok (.if_icmp .lt 13, 3) := by decide +kernel
theorem dX0_clock_41 : decode prog_1_method_8_code 41 = .ok (.new 76, 3) := by decide +kernel
theorem dX0_clock_44 : decode prog_1_method_8_code 44 = .ok (.dup, 1) := by decide +kernel
theorem dX0_clock_45 : decode prog_1_method_8_code 45 = .ok (.ldc 175, 2) := by decide +kernel
theorem dX0_clock_47 : decode prog_1_method_8_code 47 = .ok (.invokespecial 80, 3) := by decide +kernel
theorem dX0_clock_50 : decode prog_1_method_8_code 50 = .ok (.athrow, 1) := by decide +kernel
theorem dX0_clock_51 : decode prog_1_method_8_code 51 = .ok (.aload_n 0, 1) := by decide +kernel
theorem dX0_clock_52 : decode prog_1_method_8_code 52 = .ok (.getfield 32, 3) := by decide +kernel
theorem dX0_clock_55 : decode prog_1_method_8_code 55 = .ok (.aload 6, 2) := by decide +kernel
theorem dX0_clock_57 : decode prog_1_method_8_code 57 = .ok (.aload_n 0, 1) := by decide +kernel
theorem dX0_clock_58 : decode prog_1_method_8_code 58 = .ok (.getfield 46, 3) := by decide +kernel
theorem dX0_clock_61 : decode prog_1_method_8_code 61 = .ok (.dload_n 2, 1) := by decide +kernel
theorem dX0_clock_62 : decode prog_1_method_8_code 62 = .ok (.dadd, 1) := by decide +kernel
theorem dX0_clock_63 : decode prog_1_method_8_code 63 = .ok (.dload 4, 2) := by decide +kernel
theorem dX0_clock_65 : decode prog_1_method_8_code 65 = .ok (.invokevirtual 177, 3) := by decide +kernel
theorem dX0_clock_68 : decode prog_1_method_8_code 68 = .ok (.aload_n 0, 1) := by decide +kernel
theorem dX0_clock_69 : decode prog_1_method_8_code 69 = .ok (.getfield 32, 3) := by decide +kernel
theorem dX0_clock_72 : decode prog_1_method_8_code 72 = .ok (.getfield 172, 3) := by decide +kernel
theorem dX0_clock_75 : decode prog_1_method_8_code 75 = .ok (.ireturn, 1) := by decide +kernel
def wpX0_clock (K : KX) (post : Int32 → gS → Prop) (px : String → gS → Prop) (u : gS) (p1 : Int32) (p2 : UInt64) (p3 : UInt64) : Prop :=
  wpX0_checkSpan K (fun (u2 : gS) => wpX0_checkSpan K (fun (u4 : gS) => wpX0_known K (fun (r5 : Option Nat) (u6 : gS) => ((¬ (sI u6 0) = 0 → (px "java/lang/IllegalStateException" u6)) ∧ ((sI u6 0) = 0 → ((((sI u6 6) < 10 → (vf_n64 (FP.dadd (sD u6 0) p2) ∧ (∃ y9 : Nat, r5 = some y9 ∧ y9 ∈ K.2.2.1 ∧ (wpX3_put K (fun (u12 : gS) => post (sI u12 6) u12) u6 y9 (FP.dadd (sD u6 0) p2) p3)))) ∧ (¬ (sI u6 6) < 10 → (px "java/lang/IllegalStateException" u6))))))) px u4 p1) px u2 p3 1000) px u p2 1000

set_option maxHeartbeats 8000000 in
set_option maxRecDepth 100000 in
theorem cX0_clock (l : Launch) (hl9 : l.stackTraces = false) (dC : Nat → ClassId) (dI : Nat → Nat → Nat) (ad : Nat → Nat) (ca : Nat → ClassId) (K : KX) (sz : Nat) (u : gS) (p1 : Int32) (p2 : UInt64) (p3 : UInt64) (post : Int32 → gS → Prop) (px : String → gS → Prop)  (h : wpX0_clock K post px u p1 p2 p3) : vx_Met l ⟨"WorkHall", "clock", "(IDD)I"⟩ (gw ⟨"WorkHall", "clock", "(IDD)I"⟩ prog_1_method_8_code 7 (some .int)) ({ frames := 9, cells := 5, slots := 30, locals := 360 } : Room) (va_Pc [.ref (ad 0), .int p1, .double p2, .double p3] (gB (dC, dI) vwCl (xT ca) xE (wX ad ca K u) sz)) (va_Qi post (gAt (dC, dI) vwCl (xT ca) (wX ad ca K) (va_A (wX ad ca K u) sz)) (va_A (wX ad ca K u) sz)) (gX (dC, dI) vwCl (xT ca) (wX ad ca K) px (va_A (wX ad ca K u) sz)) 5 30 (va_A (wX ad ca K u) sz) := by
  refine vx_ofW (cc := prog_1_method_8_code) (maxL := 7) (ret := (some .int)) (by decide) rfl ?_
  intro p e s m args below meth c s₁ B hml hno hv
  obtain ⟨rfl, hsz, hP, hK, hD0, hE⟩ := hv
  have hx := B.exec
  have hb := B.bytes
  have hr := B.returns
  have hts : ∀ w ∈ gW, w.before _ s = true := fun w h9 => atoms_spec (ws := (gw ⟨"WorkHall", "clock", "(IDD)I"⟩ prog_1_method_8_code 7 (some .int))) B.pre w (List.mem_cons_of_mem _ h9)
  have hown : s.vm.findClass RX0 = some m.cls := findClass_of_methodNamed B.named
  have hlocks := B.notSynchronized
  subst hsz
  have hD := hD0.self (sz := s.heap.size)
  generalize hAe : va_A (wX ad ca K u) s.heap.size = A at hD hE ⊢
  have hA : ∀ q : Nat, s.heap.size ≤ q → A q := fun q h => by rw [← hAe]; exact Or.inr h
  obtain ⟨H, hHe⟩ : ∃ z : Heap, z = s.heap := ⟨_, rfl⟩
  rw [← hHe]
  have hS : va_S A s.heap H [] := by rw [hHe]; exact va_S.rf
  have hP : va_P (dC, dI) vwCl (wX ad ca K u) H := by rw [hHe]; exact hP
  have hl := lv_entry ([.ref (ad 0), .int p1, .double p2, .double p3]) (n := 7) (Nat.le_of_ble_eq_true rfl)
  rw [lg_entry_eq]
  generalize (lg_sl ([.ref (ad 0), .int p1, .double p2, .double p3]) ++ List.replicate (7 - (lg_sl ([.ref (ad 0), .int p1, .double p2, .double p3])).length) Slot.unset).toArray = ls at hl ⊢
  have hl : lv_has ls 7 [(0, .ref (ad 0)), (1, .int p1), (2, .double p2), (4, .double p3)] := hl
  clear hAe
  refine lv_dload_n hx hb dX0_clock_0 rfl (lv_at hl 2 rfl) ?_
  refine lv_sipush (v := 1000) hx hb dX0_clock_1 (by decide) ?_
  refine gxc_v (w := wX ad ca K) (u := u) (vx_runS (As := [.double p2, .int 1000]) (rest := []) ⟨hx, hb, hml, hown, hts⟩ (cX0_checkSpan l hl9 dC dI ad ca K H.size u p2 1000 _ _ h) (va_cwS 2 hts (gG_S wd_597 wd_598 wd_46 wd_599) rfl rfl rfl (by decide +kernel) ⟨Nat.le_of_ble_eq_true rfl, Nat.le_of_ble_eq_true rfl⟩) ⟨gB_blind xE_ok, gB_pre xE_ok hP hK hD hE hS hA⟩ rfl rfl hl.1 rfl (lv_room (Nat.le_of_ble_eq_true rfl)) dX0_clock_4 ⟨Nat.le_of_ble_eq_true rfl, Nat.le_of_ble_eq_true rfl⟩) hD hS hA (fun E9 ce9 q9 u9 H locs h hP hD hS hce hcv hcl => gx_out hno hlocks h hP hK hD hS hce hcv hcl (Nat.le_of_ble_eq_true rfl) (Nat.le_of_ble_eq_true rfl)) (fun u2 H locs h hP hD hS => ?_)
  refine lv_dload hx hb dX0_clock_7 (lv_at hl 3 rfl) ?_
  refine lv_sipush (v := 1000) hx hb dX0_clock_9 (by decide) ?_
  refine gxc_v (w := wX ad ca K) (u := u2) (vx_runS (As := [.double p3, .int 1000]) (rest := []) ⟨hx, hb, hml, hown, hts⟩ (cX0_checkSpan l hl9 dC dI ad ca K H.size u2 p3 1000 _ _ h) (va_cwS 2 hts (gG_S wd_597 wd_598 wd_46 wd_599) rfl rfl rfl (by decide +kernel) ⟨Nat.le_of_ble_eq_true rfl, Nat.le_of_ble_eq_true rfl⟩) ⟨gB_blind xE_ok, gB_pre xE_ok hP hK hD hE hS hA⟩ rfl rfl hl.1 rfl (lv_room (Nat.le_of_ble_eq_true rfl)) dX0_clock_12 ⟨Nat.le_of_ble_eq_true rfl, Nat.le_of_ble_eq_true rfl⟩) hD hS hA (fun E9 ce9 q9 u9 H locs h hP hD hS hce hcv hcl => gx_out hno hlocks h hP hK hD hS hce hcv hcl (Nat.le_of_ble_eq_true rfl) (Nat.le_of_ble_eq_true rfl)) (fun u4 H locs h hP hD hS => ?_)
  refine lv_aload_n hx hb dX0_clock_15 rfl (lv_at hl 0 rfl) ?_
  refine lv_iload_n hx hb dX0_clock_16 rfl (lv_at hl 1 rfl) ?_
  refine gxc_q (w := wX ad ca K) (u := u4) (vx_runV (As := [.int p1]) (rest := []) ⟨hx, hb, hml, hown, hts⟩ (cX0_known l hl9 dC dI ad ca K H.size u4 p1 _ _ h) (cwV 1 hts (gG_V wd_364 wd_366 wd_1 wd_46 wd_367) rfl rfl rfl (by decide +kernel) ⟨Nat.le_of_ble_eq_true rfl, Nat.le_of_ble_eq_true rfl⟩) ⟨gB_blind xE_ok, va_recv hK hP (ci := 0) (q0 := 0) rfl rfl, gB_pre xE_ok hP hK hD hE hS hA⟩ rfl rfl hl.1 rfl (lv_room (Nat.le_of_ble_eq_true rfl)) dX0_clock_17 ⟨Nat.le_of_ble_eq_true rfl, Nat.le_of_ble_eq_true rfl⟩) hD hS hA (fun E9 ce9 q9 u9 H locs h hP hD hS hce hcv hcl => gx_out hno hlocks h hP hK hD hS hce hcv hcl (Nat.le_of_ble_eq_true rfl) (Nat.le_of_ble_eq_true rfl)) (fun r5 u6 H locs h hP hD hS => ?_)
  refine gq_astore (r := r5) (lv' := [(6, va_rf r5), (0, .ref (ad 0)), (1, .int p1), (2, .double p2), (4, .double p3)]) hx hb dX0_clock_20 hl (by decide) rfl (fun ls hl => ?_)
  refine lv_aload_n hx hb dX0_clock_22 rfl (lv_at hl 1 rfl) ?_
  refine va_get (D := (dC, dI)) (ci := 0) (v := .int (sI u6 0)) (C := RX0) (T := TX0) (N := 12) hx hb hts uwX0 hown hK hP 0 rfl rfl 9 (by decide) (hts _ wd_181) (fun _ h9 => h9) rfl dX0_clock_23 ?_
  refine lv_if_ne (tgt := 41) hx hb dX0_clock_26 (by decide) (fun c7 => ?_) (fun c7 => ?_)
  · have h := h.1 c7
    obtain ⟨sa9, hs9⟩ := xE_text hE 175 "the clock takes no entry" (by decide +kernel); exact vx_throwS (names := xSup) hx hb hl9 hown (by decide +kernel) (by decide +kernel) (hts _ wd_295) (hts _ wd_57) hs9 (tw_ise hts (xE_face hE)) tg_ise (xE_U hE) (xE_N hE) hS (hl.1.trans hml.symm) dX0_clock_41 dX0_clock_44 dX0_clock_45 dX0_clock_47 dX0_clock_50 (fun x hx => (hno x hx).elim) (Nat.le_of_ble_eq_true rfl) (Nat.le_of_ble_eq_true rfl) (Nat.le_of_ble_eq_true rfl) (Nat.le_of_ble_eq_true rfl) hlocks (fun t ha hz hq => gx_thrown h hP hK hD hS ha hz hq) hS.2.2 (Nat.le_of_ble_eq_true rfl) (Nat.le_of_ble_eq_true rfl)
  · have h := h.2 c7
    refine lv_aload_n hx hb dX0_clock_29 rfl (lv_at hl 1 rfl) ?_
    refine va_get (D := (dC, dI)) (ci := 0) (v := .ref (ad 7)) (C := RX0) (T := TX0) (N := 12) hx hb hts uwX0 hown hK hP 0 rfl rfl 7 (by decide) (hts _ wd_179) (fun _ h9 => h9) rfl dX0_clock_30 ?_
    refine va_get (D := (dC, dI)) (ci := 3) (v := .int (sI u6 6)) (C := RX3) (T := TX3) (N := 4) hx hb hts uwX3 hown hK hP 7 rfl rfl 3 (by decide) (hts _ wd_153) (fun _ h9 => h9) rfl dX0_clock_33 ?_
    refine lv_bipush (v := 10) hx hb dX0_clock_36 (by decide) ?_
    refine lv_icmp_lt (tgt := 51) hx hb dX0_clock_38 (by decide) (fun c8 => ?_) (fun c8 => ?_)
    · have h := h.1 c8
      refine lv_aload_n hx hb dX0_clock_51 rfl (lv_at hl 1 rfl) ?_
      refine va_get (D := (dC, dI)) (ci := 0) (v := .ref (ad 7)) (C := RX0) (T := TX0) (N := 12) hx hb hts uwX0 hown hK hP 0 rfl rfl 7 (by decide) (hts _ wd_179) (fun _ h9 => h9) rfl dX0_clock_52 ?_
      refine gq_aload (r := r5) hx hb dX0_clock_55 (lv_at hl 0 rfl) ?_
      refine lv_aload_n hx hb dX0_clock_57 rfl (lv_at hl 1 rfl) ?_
      refine va_get (D := (dC, dI)) (ci := 0) (v := .double (sD u6 0)) (C := RX0) (T := TX0) (N := 12) hx hb hts uwX0 hown hK hP 0 rfl rfl 11 (by decide) (hts _ wd_183) (fun _ h9 => h9) rfl dX0_clock_58 ?_
      refine lv_dload_n hx hb dX0_clock_61 rfl (lv_at hl 3 rfl) ?_
      refine lv_dadd hx hb dX0_clock_62 h.1 ?_
      have h := h.2
      refine lv_dload hx hb dX0_clock_63 (lv_at hl 4 rfl) ?_
      obtain ⟨y9, rfl, hy10, h⟩ := h
      refine gc_v (w := wX ad ca K) (u := u6) (va_runV (As := [.ref y9, .double (FP.dadd (sD u6 0) p2), .double p3]) (rest := []) ⟨hx, hb, hml, hown, hts⟩ (cX3_put l dC dI ad ca K H.size u6 y9 (FP.dadd (sD u6 0) p2) p3 _ hy10 h) (cwV 3 hts (gG_V wd_601 wd_602 wd_603 wd_50 wd_604) rfl rfl rfl (by decide +kernel) ⟨Nat.le_of_ble_eq_true rfl, Nat.le_of_ble_eq_true rfl⟩) ⟨gB_blind xE_ok, va_recv hK hP (ci := 3) (q0 := 7) rfl rfl, gB_pre xE_ok hP hK hD hE hS hA⟩ rfl rfl hl.1 rfl (lv_room (Nat.le_of_ble_eq_true rfl)) dX0_clock_65 ⟨Nat.le_of_ble_eq_true rfl, Nat.le_of_ble_eq_true rfl⟩) hD hS hA (fun u12 H locs h hP hD hS => ?_)
      refine lv_aload_n hx hb dX0_clock_68 rfl (lv_at hl 1 rfl) ?_
      refine va_get (D := (dC, dI)) (ci := 0) (v := .ref (ad 7)) (C := RX0) (T := TX0) (N := 12) hx hb hts uwX0 hown hK hP 0 rfl rfl 7 (by decide) (hts _ wd_179) (fun _ h9 => h9) rfl dX0_clock_69 ?_
      refine va_get (D := (dC, dI)) (ci := 3) (v := .int (sI u12 6)) (C := RX3) (T := TX3) (N := 4) hx hb hts uwX3 hown hK hP 7 rfl rfl 3 (by decide) (hts _ wd_153) (fun _ h9 => h9) rfl dX0_clock_72 ?_
      refine W.widen (k := 5) (n := 30) (Nat.le_of_ble_eq_true rfl) (Nat.le_of_ble_eq_true rfl) (vx_ret ?_); exact gr_i (w := wX ad ca K) (u := u12) hx hb hr hlocks h hP hK hD hS dX0_clock_75
    · have h := h.2 c8
      obtain ⟨sa9, hs9⟩ := xE_text hE 175 "the clock takes no entry" (by decide +kernel); exact vx_throwS (names := xSup) hx hb hl9 hown (by decide +kernel) (by decide +kernel) (hts _ wd_295) (hts _ wd_57) hs9 (tw_ise hts (xE_face hE)) tg_ise (xE_U hE) (xE_N hE) hS (hl.1.trans hml.symm) dX0_clock_41 dX0_clock_44 dX0_clock_45 dX0_clock_47 dX0_clock_50 (fun x hx => (hno x hx).elim) (Nat.le_of_ble_eq_true rfl) (Nat.le_of_ble_eq_true rfl) (Nat.le_of_ble_eq_true rfl) (Nat.le_of_ble_eq_true rfl) hlocks (fun t ha hz hq => gx_thrown h hP hK hD hS ha hz hq) hS.2.2 (Nat.le_of_ble_eq_true rfl) (Nat.le_of_ble_eq_true rfl)

theorem dX0_shut_0 : decode prog_1_method_10_code 0 = .ok (.aload_n 0, 1) := by decide +kernel
theorem dX0_shut_1 : decode prog_1_method_10_code 1 = .ok (.getfield 40, 3) := by decide +kernel
theorem dX0_shut_4 : decode prog_1_method_10_code 4 = .ok (.ifCond .eq 13, 3) := by decide +kernel
theorem dX0_shut_7 : decode prog_1_method_10_code 7 = .ok (.new 76, 3) := by decide +kernel
theorem dX0_shut_10 : decode prog_1_method_10_code 10 = .ok (.dup, 1) := by decide +kernel
theorem dX0_shut_11 : decode prog_1_method_10_code 11 = .ok (.ldc 195, 2) := by decide +kernel
theorem dX0_shut_13 : decode prog_1_method_10_code 13 = .ok (.invokespecial 80, 3) := by decide +kernel
theorem dX0_shut_16 : decode prog_1_method_10_code 16 = .ok (.athrow, 1) := by decide +kernel
theorem dX0_shut_17 : decode prog_1_method_10_code 17 = .ok (.aload_n 0, 1) := by decide +kernel
theorem dX0_shut_18 : decode prog_1_method_10_code 18 = .ok (.iconst 1, 1) := by decide +kernel
theorem dX0_shut_19 : decode prog_1_method_10_code 19 = .ok (.putfield 40, 3) := by decide +kernel
theorem dX0_shut_22 : decode prog_1_method_10_code 22 = .ok (.iload_n 1, 1) := by decide +kernel
theorem dX0_shut_23 : decode prog_1_method_10_code 23 = .ok (.ifCond .eq 25, 3) := by decide +kernel
theorem dX0_shut_26 : decode prog_1_method_10_code 26 = .ok (.aload_n 0, 1) := by decide +kernel
theorem dX0_shut_27 : decode prog_1_method_10_code 27 = .ok (.getfield 25, 3) := by decide +kernel
theorem dX0_shut_30 : decode prog_1_method_10_code 30 = .ok (.invokevirtual 197, 3) := by decide +kernel
theorem dX0_shut_33 : decode prog_1_method_10_code 33 = .ok (.aload_n 0, 1) := by decide +kernel
theorem dX0_shut_34 : decode prog_1_method_10_code 34 = .ok (.getfield 18, 3) := by decide +kernel
theorem dX0_shut_37 : decode prog_1_method_10_code 37 = .ok (.aload_n 0, 1) := by decide +kernel
theorem dX0_shut_38 : decode prog_1_method_10_code 38 = .ok (.getfield 46, 3) := by decide +kernel
theorem dX0_shut_41 : decode prog_1_method_10_code 41 = .ok (.invokevirtual 200, 3) := by decide +kernel
theorem dX0_shut_44 : decode prog_1_method_10_code 44 = .ok (.iadd, 1) := by decide +kernel
theorem dX0_shut_45 : decode prog_1_method_10_code 45 = .ok (.goto 4, 3) := by decide +kernel
theorem dX0_shut_48 : decode prog_1_method_10_code 48 = .ok (.iconst 0, 1) := by decide +kernel
theorem dX0_shut_49 : decode prog_1_method_10_code 49 = .ok (.istore_n 2, 1) := by decide +kernel
theorem dX0_shut_50 : decode prog_1_method_10_code 50 = .ok (.aload_n 0, 1) := by decide +kernel
theorem dX0_shut_51 : decode prog_1_method_10_code 51 = .ok (.invokevirtual 122, 3) := by decide +kernel
theorem dX0_shut_54 : decode prog_1_method_10_code 54 = .ok (.iload_n 2, 1) := by decide +kernel
theorem dX0_shut_55 : decode prog_1_method_10_code 55 = .ok (.ireturn, 1) := by decide +kernel
def wpX0_shut (K : KX) (post : Int32 → gS → Prop) (px : String → gS → Prop) (u : gS) (p1 : Int32) : Prop :=
  (((sI u 0) = 0 → (∀ u2 : gS, u2 = tI u 0 1 → (((p1 = 0 → (wpX0_endIfSettled K (fun (u5 : gS) => post 0 u5) u2)) ∧ (¬ p1 = 0 → (wpX2_cancelAll K (fun (r6 : Int32) (u7 : gS) => wpX1_cancelAll K (fun (r8 : Int32) (u9 : gS) => ∀ x10 : Int32, x10 = r6 + r8 → (wpX0_endIfSettled K (fun (u12 : gS) => post x10 u12) u9)) u7 (sD u7 0)) u2)))))) ∧ (¬ (sI u 0) = 0 → (px "java/lang/IllegalStateException" u)))

set_option maxHeartbeats 8000000 in
set_option maxRecDepth 100000 in
theorem cX0_shut (l : Launch) (hl9 : l.stackTraces = false) (dC : Nat → ClassId) (dI : Nat → Nat → Nat) (ad : Nat → Nat) (ca : Nat → ClassId) (K : KX) (sz : Nat) (u : gS) (p1 : Int32) (post : Int32 → gS → Prop) (px : String → gS → Prop)  (h : wpX0_shut K post px u p1) : vx_Met l ⟨"WorkHall", "shut", "(Z)I"⟩ (gw ⟨"WorkHall", "shut", "(Z)I"⟩ prog_1_method_10_code 3 (some .int)) ({ frames := 7, cells := 1, slots := 6, locals := 280 } : Room) (va_Pc [.ref (ad 0), .int p1] (gB (dC, dI) vwCl (xT ca) xE (wX ad ca K u) sz)) (va_Qi post (gAt (dC, dI) vwCl (xT ca) (wX ad ca K) (va_A (wX ad ca K u) sz)) (va_A (wX ad ca K u) sz)) (gX (dC, dI) vwCl (xT ca) (wX ad ca K) px (va_A (wX ad ca K u) sz)) 1 6 (va_A (wX ad ca K u) sz) := by
  refine vx_ofW (cc := prog_1_method_10_code) (maxL := 3) (ret := (some .int)) (by decide) rfl ?_
  intro p e s m args below meth c s₁ B hml hno hv
  obtain ⟨rfl, hsz, hP, hK, hD0, hE⟩ := hv
  have hx := B.exec
  have hb := B.bytes
  have hr := B.returns
  have hts : ∀ w ∈ gW, w.before _ s = true := fun w h9 => atoms_spec (ws := (gw ⟨"WorkHall", "shut", "(Z)I"⟩ prog_1_method_10_code 3 (some .int))) B.pre w (List.mem_cons_of_mem _ h9)
  have hown : s.vm.findClass RX0 = some m.cls := findClass_of_methodNamed B.named
  have hlocks := B.notSynchronized
  subst hsz
  have hD := hD0.self (sz := s.heap.size)
  generalize hAe : va_A (wX ad ca K u) s.heap.size = A at hD hE ⊢
  have hA : ∀ q : Nat, s.heap.size ≤ q → A q := fun q h => by rw [← hAe]; exact Or.inr h
  obtain ⟨H, hHe⟩ : ∃ z : Heap, z = s.heap := ⟨_, rfl⟩
  rw [← hHe]
  have hS : va_S A s.heap H [] := by rw [hHe]; exact va_S.rf
  have hP : va_P (dC, dI) vwCl (wX ad ca K u) H := by rw [hHe]; exact hP
  have hl := lv_entry ([.ref (ad 0), .int p1]) (n := 3) (Nat.le_of_ble_eq_true rfl)
  rw [lg_entry_eq]
  generalize (lg_sl ([.ref (ad 0), .int p1]) ++ List.replicate (3 - (lg_sl ([.ref (ad 0), .int p1])).length) Slot.unset).toArray = ls at hl ⊢
  have hl : lv_has ls 3 [(0, .ref (ad 0)), (1, .int p1)] := hl
  clear hAe
  refine lv_aload_n hx hb dX0_shut_0 rfl (lv_at hl 0 rfl) ?_
  refine va_get (D := (dC, dI)) (ci := 0) (v := .int (sI u 0)) (C := RX0) (T := TX0) (N := 12) hx hb hts uwX0 hown hK hP 0 rfl rfl 9 (by decide) (hts _ wd_181) (fun _ h9 => h9) rfl dX0_shut_1 ?_
  refine lv_if_eq (tgt := 17) hx hb dX0_shut_4 (by decide) (fun c1 => ?_) (fun c1 => ?_)
  · have h := h.1 c1
    refine lv_aload_n hx hb dX0_shut_17 rfl (lv_at hl 0 rfl) ?_
    refine lv_iconst (v := 1) hx hb dX0_shut_18 (by decide) ?_
    refine va_put (D := (dC, dI)) (ci := 0) (v := .int 1) (ty := tyX0 9) (C := RX0) (T := TX0) (N := 12) hx hb hts uwX0 tyX0 tyX0_ok nmX0 hown hK hP hD hS 0 rfl rfl 9 (by decide) (hts _ wd_181) (fun _ h9 => h9) rfl (tyX0_ok 9 (by decide)) rfl rfl (Nat.le_of_ble_eq_true rfl) dX0_shut_19 (fun H locs hP hD hS => ?_)
    obtain ⟨u2, eu2⟩ : ∃ z : gS, z = tI u 0 1 := ⟨_, rfl⟩
    have hP : va_P (dC, dI) vwCl (wX ad ca K u2) H := by rw [eu2, wX_f0_phase]; exact hP
    have hD : va_D A (wX ad ca K u2) := by rw [eu2, wX_f0_phase]; exact hD
    have h := h u2 eu2
    refine lv_iload_n hx hb dX0_shut_22 rfl (lv_at hl 1 rfl) ?_
    refine lv_if_eq (tgt := 48) hx hb dX0_shut_23 (by decide) (fun c3 => ?_) (fun c3 => ?_)
    · have h := h.1 c3
      refine lv_iconst (v := 0) hx hb dX0_shut_48 (by decide) ?_
      refine lv_istore_n (lv' := [(2, .int 0), (0, .ref (ad 0)), (1, .int p1)]) hx hb dX0_shut_49 rfl hl (by decide) rfl (fun ls hl => ?_)
      refine lv_aload_n hx hb dX0_shut_50 rfl (lv_at hl 1 rfl) ?_
      refine gc_v (w := wX ad ca K) (u := u2) (va_runV (As := []) (rest := []) ⟨hx, hb, hml, hown, hts⟩ (cX0_endIfSettled l dC dI ad ca K H.size u2 _ h) (cwV 0 hts (gG_V wd_525 wd_527 wd_12 wd_46 wd_528) rfl rfl rfl (by decide +kernel) ⟨Nat.le_of_ble_eq_true rfl, Nat.le_of_ble_eq_true rfl⟩) ⟨gB_blind xE_ok, va_recv hK hP (ci := 0) (q0 := 0) rfl rfl, gB_pre xE_ok hP hK hD hE hS hA⟩ rfl rfl hl.1 rfl (lv_room (Nat.le_of_ble_eq_true rfl)) dX0_shut_51 ⟨Nat.le_of_ble_eq_true rfl, Nat.le_of_ble_eq_true rfl⟩) hD hS hA (fun u5 H locs h hP hD hS => ?_)
      refine lv_iload_n hx hb dX0_shut_54 rfl (lv_at hl 0 rfl) ?_
      refine W.widen (k := 1) (n := 6) (Nat.le_of_ble_eq_true rfl) (Nat.le_of_ble_eq_true rfl) (vx_ret ?_); exact gr_i (w := wX ad ca K) (u := u5) hx hb hr hlocks h hP hK hD hS dX0_shut_55
    · have h := h.2 c3
      refine lv_aload_n hx hb dX0_shut_26 rfl (lv_at hl 0 rfl) ?_
      refine va_get (D := (dC, dI)) (ci := 0) (v := .ref (ad 4)) (C := RX0) (T := TX0) (N := 12) hx hb hts uwX0 hown hK hP 0 rfl rfl 6 (by decide) (hts _ wd_178) (fun _ h9 => h9) rfl dX0_shut_27 ?_
      refine gc_i (w := wX ad ca K) (u := u2) (va_runV (As := []) (rest := []) ⟨hx, hb, hml, hown, hts⟩ (cX2_cancelAll l dC dI ad ca K H.size u2 _ h) (cwV 0 hts (gG_V wd_642 wd_643 wd_644 wd_49 wd_645) rfl rfl rfl (by decide +kernel) ⟨Nat.le_of_ble_eq_true rfl, Nat.le_of_ble_eq_true rfl⟩) ⟨gB_blind xE_ok, va_recv hK hP (ci := 2) (q0 := 4) rfl rfl, gB_pre xE_ok hP hK hD hE hS hA⟩ rfl rfl hl.1 rfl (lv_room (Nat.le_of_ble_eq_true rfl)) dX0_shut_30 ⟨Nat.le_of_ble_eq_true rfl, Nat.le_of_ble_eq_true rfl⟩) hD hS hA (fun r6 u7 H locs h hP hD hS => ?_)
      refine lv_aload_n hx hb dX0_shut_33 rfl (lv_at hl 0 rfl) ?_
      refine va_get (D := (dC, dI)) (ci := 0) (v := .ref (ad 2)) (C := RX0) (T := TX0) (N := 12) hx hb hts uwX0 hown hK hP 0 rfl rfl 5 (by decide) (hts _ wd_177) (fun _ h9 => h9) rfl dX0_shut_34 ?_
      refine lv_aload_n hx hb dX0_shut_37 rfl (lv_at hl 0 rfl) ?_
      refine va_get (D := (dC, dI)) (ci := 0) (v := .double (sD u7 0)) (C := RX0) (T := TX0) (N := 12) hx hb hts uwX0 hown hK hP 0 rfl rfl 11 (by decide) (hts _ wd_183) (fun _ h9 => h9) rfl dX0_shut_38 ?_
      refine gc_i (w := wX ad ca K) (u := u7) (va_runV (As := [.double (sD u7 0)]) (rest := [.int r6]) ⟨hx, hb, hml, hown, hts⟩ (cX1_cancelAll l dC dI ad ca K H.size u7 (sD u7 0) _ h) (cwV 1 hts (gG_V wd_646 wd_647 wd_648 wd_47 wd_649) rfl rfl rfl (by decide +kernel) ⟨Nat.le_of_ble_eq_true rfl, Nat.le_of_ble_eq_true rfl⟩) ⟨gB_blind xE_ok, va_recv hK hP (ci := 1) (q0 := 2) rfl rfl, gB_pre xE_ok hP hK hD hE hS hA⟩ rfl rfl hl.1 rfl (lv_room (Nat.le_of_ble_eq_true rfl)) dX0_shut_41 ⟨Nat.le_of_ble_eq_true rfl, Nat.le_of_ble_eq_true rfl⟩) hD hS hA (fun r8 u9 H locs h hP hD hS => ?_)
      refine lv_iadd hx hb dX0_shut_44 ?_
      refine lv_goto (tgt := 49) hx hb dX0_shut_45 (by decide) ?_
      refine lv_topi (fun x10 ex10 => ?_)
      have h := h x10 ex10
      refine lv_istore_n (lv' := [(2, .int x10), (0, .ref (ad 0)), (1, .int p1)]) hx hb dX0_shut_49 rfl hl (by decide) rfl (fun ls hl => ?_)
      refine lv_aload_n hx hb dX0_shut_50 rfl (lv_at hl 1 rfl) ?_
      refine gc_v (w := wX ad ca K) (u := u9) (va_runV (As := []) (rest := []) ⟨hx, hb, hml, hown, hts⟩ (cX0_endIfSettled l dC dI ad ca K H.size u9 _ h) (cwV 0 hts (gG_V wd_525 wd_527 wd_12 wd_46 wd_528) rfl rfl rfl (by decide +kernel) ⟨Nat.le_of_ble_eq_true rfl, Nat.le_of_ble_eq_true rfl⟩) ⟨gB_blind xE_ok, va_recv hK hP (ci := 0) (q0 := 0) rfl rfl, gB_pre xE_ok hP hK hD hE hS hA⟩ rfl rfl hl.1 rfl (lv_room (Nat.le_of_ble_eq_true rfl)) dX0_shut_51 ⟨Nat.le_of_ble_eq_true rfl, Nat.le_of_ble_eq_true rfl⟩) hD hS hA (fun u12 H locs h hP hD hS => ?_)
      refine lv_iload_n hx hb dX0_shut_54 rfl (lv_at hl 0 rfl) ?_
      refine W.widen (k := 1) (n := 6) (Nat.le_of_ble_eq_true rfl) (Nat.le_of_ble_eq_true rfl) (vx_ret ?_); exact gr_i (w := wX ad ca K) (u := u12) hx hb hr hlocks h hP hK hD hS dX0_shut_55
  · have h := h.2 c1
    obtain ⟨sa9, hs9⟩ := xE_text hE 195 "the pool is not open" (by decide +kernel); exact vx_throwS (names := xSup) hx hb hl9 hown (by decide +kernel) (by decide +kernel) (hts _ wd_295) (hts _ wd_57) hs9 (tw_ise hts (xE_face hE)) tg_ise (xE_U hE) (xE_N hE) hS (hl.1.trans hml.symm) dX0_shut_7 dX0_shut_10 dX0_shut_11 dX0_shut_13 dX0_shut_16 (fun x hx => (hno x hx).elim) (Nat.le_of_ble_eq_true rfl) (Nat.le_of_ble_eq_true rfl) (Nat.le_of_ble_eq_true rfl) (Nat.le_of_ble_eq_true rfl) hlocks (fun t ha hz hq => gx_thrown h hP hK hD hS ha hz hq) hS.2.2 (Nat.le_of_ble_eq_true rfl) (Nat.le_of_ble_eq_true rfl)

theorem dX0_about_0 : decode prog_1_method_11_code 0 = .ok (.iload_n 2, 1) := by decide +kernel
theorem dX0_about_1 : decode prog_1_method_11_code 1 = .ok (.iconst 0, 1) := by decide +kernel
theorem dX0_about_2 : decode prog_1_method_11_code 2 = .ok (.iconst 4, 1) := by decide +kernel
theorem dX0_about_3 : decode prog_1_method_11_code 3 = .ok (.invokestatic 72, 3) := by decide +kernel
theorem dX0_about_6 : decode prog_1_method_11_code 6 = .ok (.aload_n 0, 1) := by decide +kernel
theorem dX0_about_7 : decode prog_1_method_11_code 7 = .ok (.iload_n 1, 1) := by decide +kernel
theorem dX0_about_8 : decode prog_1_method_11_code 8 = .ok (.invokevirtual 86, 3) := by decide +kernel
theorem dX0_about_11 : decode prog_1_method_11_code 11 = .ok (.astore_n 3, 1) := by decide +kernel
theorem dX0_about_12 : decode prog_1_method_11_code 12 = .ok (.iload_n 2, 1) := by decide +kernel
theorem dX0_about_13 : decode prog_1_method_11_code 13 = .ok (.tableswitch 52 0 3 #[31, 36, 41, 46], 31) := by decide +kernel
theorem dX0_about_44 : decode prog_1_method_11_code 44 = .ok (.aload_n 3, 1) := by decide +kernel
theorem dX0_about_45 : decode prog_1_method_11_code 45 = .ok (.getfield 90, 3) := by decide +kernel
theorem dX0_about_48 : decode prog_1_method_11_code 48 = .ok (.ireturn, 1) := by decide +kernel
theorem dX0_about_49 : decode prog_1_method_11_code 49 = .ok (.aload_n 3, 1) := by decide +kernel
theorem dX0_about_50 : decode prog_1_method_11_code 50 = .ok (.getfield 203, 3) := by decide +kernel
theorem dX0_about_53 : decode prog_1_method_11_code 53 = .ok (.ireturn, 1) := by decide +kernel
theorem dX0_about_54 : decode prog_1_method_11_code 54 = .ok (.aload_n 3, 1) := by decide +kernel
theorem dX0_about_55 : decode prog_1_method_11_code 55 = .ok (.invokevirtual 111, 3) := by decide +kernel
theorem dX0_about_58 : decode prog_1_method_11_code 58 = .ok (.ireturn, 1) := by decide +kernel
theorem dX0_about_59 : decode prog_1_method_11_code 59 = .ok (.aload_n 0, 1) := by decide +kernel
theorem dX0_about_60 : decode prog_1_method_11_code 60 = .ok (.aload_n 3, 1) := by decide +kernel
theorem dX0_about_61 : decode prog_1_method_11_code 61 = .ok (.invokevirtual 206, 3) := by decide +kernel
theorem dX0_about_64 : decode prog_1_method_11_code 64 = .ok (.ireturn, 1) := by decide +kernel
theorem dX0_about_65 : decode prog_1_method_11_code 65 = .ok (.aload_n 3, 1) := by decide +kernel
theorem dX0_about_66 : decode prog_1_method_11_code 66 = .ok (.getfield 90, 3) := by decide +kernel
theorem dX0_about_69 : decode prog_1_method_11_code 69 = .ok (.iconst 4, 1) := by decide +kernel
theorem dX0_about_70 : decode prog_1_method_11_code 70 = .ok (.if_icmp .ne 10, 3) := by decide +kernel
theorem dX0_about_73 : decode prog_1_method_11_code 73 = .ok (.aload_n 3, 1) := by decide +kernel
theorem dX0_about_74 : decode prog_1_method_11_code 74 = .ok (.getfield 151, 3) := by decide +kernel
theorem dX0_about_77 : decode prog_1_method_11_code 77 = .ok (.goto 4, 3) := by decide +kernel
theorem dX0_about_80 : decode prog_1_method_11_code 80 = .ok (.iconst 0, 1) := by decide +kernel
theorem dX0_about_81 : decode prog_1_method_11_code 81 = .ok (.ireturn, 1) := by decide +kernel
def wpX0_about (K : KX) (post : Int32 → gS → Prop) (px : String → gS → Prop) (u : gS) (p1 : Int32) (p2 : Int32) : Prop :=
  wpX0_checkRange K (fun (u2 : gS) => wpX0_known K (fun (r3 : Option Nat) (u4 : gS) => ((p2 = 0 → (∃ y6 : Nat, r3 = some y6 ∧ y6 ∈ K.2.2.1 ∧ (post (sA u4 0 y6) u4))) ∧ (¬ p2 = 0 → (((p2 = 1 → (∃ y9 : Nat, r3 = some y9 ∧ y9 ∈ K.2.2.1 ∧ (post (K.2.2.2.1 y9 1) u4))) ∧ (¬ p2 = 1 → (((p2 = 2 → (∃ y12 : Nat, r3 = some y12 ∧ y12 ∈ K.2.2.1 ∧ (wpX5_nextNumber K (fun (r14 : Int32) (u15 : gS) => post r14 u15) u4 y12))) ∧ (¬ p2 = 2 → (((p2 = 3 → (∃ y17 : Nat, r3 = some y17 ∧ y17 ∈ K.2.2.1 ∧ (wpX0_placeOf K (fun (r19 : Int32) (u20 : gS) => post r19 u20) u4 y17))) ∧ (¬ p2 = 3 → (∃ y21 : Nat, r3 = some y21 ∧ y21 ∈ K.2.2.1 ∧ (((¬ (sA u4 0 y21) = 4 → (post 0 u4)) ∧ ((sA u4 0 y21) = 4 → (post (sA u4 2 y21) u4))))))))))))))))) px u2 p1) px u p2 0 4

set_option maxHeartbeats 8000000 in
set_option maxRecDepth 100000 in
theorem cX0_about (l : Launch) (hl9 : l.stackTraces = false) (dC : Nat → ClassId) (dI : Nat → Nat → Nat) (ad : Nat → Nat) (ca : Nat → ClassId) (K : KX) (sz : Nat) (u : gS) (p1 : Int32) (p2 : Int32) (post : Int32 → gS → Prop) (px : String → gS → Prop)  (h : wpX0_about K post px u p1 p2) : vx_Met l ⟨"WorkHall", "about", "(II)I"⟩ (gw ⟨"WorkHall", "about", "(II)I"⟩ prog_1_method_11_code 4 (some .int)) ({ frames := 9, cells := 3, slots := 18, locals := 360 } : Room) (va_Pc [.ref (ad 0), .int p1, .int p2] (gB (dC, dI) vwCl (xT ca) xE (wX ad ca K u) sz)) (va_Qi post (gAt (dC, dI) vwCl (xT ca) (wX ad ca K) (va_A (wX ad ca K u) sz)) (va_A (wX ad ca K u) sz)) (gX (dC, dI) vwCl (xT ca) (wX ad ca K) px (va_A (wX ad ca K u) sz)) 3 18 (va_A (wX ad ca K u) sz) := by
  refine vx_ofW (cc := prog_1_method_11_code) (maxL := 4) (ret := (some .int)) (by decide) rfl ?_
  intro p e s m args below meth c s₁ B hml hno hv
  obtain ⟨rfl, hsz, hP, hK, hD0, hE⟩ := hv
  have hx := B.exec
  have hb := B.bytes
  have hr := B.returns
  have hts : ∀ w ∈ gW, w.before _ s = true := fun w h9 => atoms_spec (ws := (gw ⟨"WorkHall", "about", "(II)I"⟩ prog_1_method_11_code 4 (some .int))) B.pre w (List.mem_cons_of_mem _ h9)
  have hown : s.vm.findClass RX0 = some m.cls := findClass_of_methodNamed B.named
  have hlocks := B.notSynchronized
  subst hsz
  have hD := hD0.self (sz := s.heap.size)
  generalize hAe : va_A (wX ad ca K u) s.heap.size = A at hD hE ⊢
  have hA : ∀ q : Nat, s.heap.size ≤ q → A q := fun q h => by rw [← hAe]; exact Or.inr h
  obtain ⟨H, hHe⟩ : ∃ z : Heap, z = s.heap := ⟨_, rfl⟩
  rw [← hHe]
  have hS : va_S A s.heap H [] := by rw [hHe]; exact va_S.rf
  have hP : va_P (dC, dI) vwCl (wX ad ca K u) H := by rw [hHe]; exact hP
  have hl := lv_entry ([.ref (ad 0), .int p1, .int p2]) (n := 4) (Nat.le_of_ble_eq_true rfl)
  rw [lg_entry_eq]
  generalize (lg_sl ([.ref (ad 0), .int p1, .int p2]) ++ List.replicate (4 - (lg_sl ([.ref (ad 0), .int p1, .int p2])).length) Slot.unset).toArray = ls at hl ⊢
  have hl : lv_has ls 4 [(0, .ref (ad 0)), (1, .int p1), (2, .int p2)] := hl
  clear hAe
  refine lv_iload_n hx hb dX0_about_0 rfl (lv_at hl 2 rfl) ?_
  refine lv_iconst (v := 0) hx hb dX0_about_1 (by decide) ?_
  refine lv_iconst (v := 4) hx hb dX0_about_2 (by decide) ?_
  refine gxc_v (w := wX ad ca K) (u := u) (vx_runS (As := [.int p2, .int 0, .int 4]) (rest := []) ⟨hx, hb, hml, hown, hts⟩ (cX0_checkRange l hl9 dC dI ad ca K H.size u p2 0 4 _ _ h) (va_cwS 3 hts (gG_S wd_221 wd_222 wd_46 wd_223) rfl rfl rfl (by decide +kernel) ⟨Nat.le_of_ble_eq_true rfl, Nat.le_of_ble_eq_true rfl⟩) ⟨gB_blind xE_ok, gB_pre xE_ok hP hK hD hE hS hA⟩ rfl rfl hl.1 rfl (lv_room (Nat.le_of_ble_eq_true rfl)) dX0_about_3 ⟨Nat.le_of_ble_eq_true rfl, Nat.le_of_ble_eq_true rfl⟩) hD hS hA (fun E9 ce9 q9 u9 H locs h hP hD hS hce hcv hcl => gx_out hno hlocks h hP hK hD hS hce hcv hcl (Nat.le_of_ble_eq_true rfl) (Nat.le_of_ble_eq_true rfl)) (fun u2 H locs h hP hD hS => ?_)
  refine lv_aload_n hx hb dX0_about_6 rfl (lv_at hl 0 rfl) ?_
  refine lv_iload_n hx hb dX0_about_7 rfl (lv_at hl 1 rfl) ?_
  refine gxc_q (w := wX ad ca K) (u := u2) (vx_runV (As := [.int p1]) (rest := []) ⟨hx, hb, hml, hown, hts⟩ (cX0_known l hl9 dC dI ad ca K H.size u2 p1 _ _ h) (cwV 1 hts (gG_V wd_364 wd_366 wd_1 wd_46 wd_367) rfl rfl rfl (by decide +kernel) ⟨Nat.le_of_ble_eq_true rfl, Nat.le_of_ble_eq_true rfl⟩) ⟨gB_blind xE_ok, va_recv hK hP (ci := 0) (q0 := 0) rfl rfl, gB_pre xE_ok hP hK hD hE hS hA⟩ rfl rfl hl.1 rfl (lv_room (Nat.le_of_ble_eq_true rfl)) dX0_about_8 ⟨Nat.le_of_ble_eq_true rfl, Nat.le_of_ble_eq_true rfl⟩) hD hS hA (fun E9 ce9 q9 u9 H locs h hP hD hS hce hcv hcl => gx_out hno hlocks h hP hK hD hS hce hcv hcl (Nat.le_of_ble_eq_true rfl) (Nat.le_of_ble_eq_true rfl)) (fun r3 u4 H locs h hP hD hS => ?_)
  refine gq_astore_n (r := r3) (lv' := [(3, va_rf r3), (0, .ref (ad 0)), (1, .int p1), (2, .int p2)]) hx hb dX0_about_11 rfl hl (by decide) rfl (fun ls hl => ?_)
  refine lv_iload_n hx hb dX0_about_12 rfl (lv_at hl 3 rfl) ?_
  by_cases c5 : p2 = 0
  · have h := h.1 c5
    have e27 : (p2).toInt = 0 := by rw [c5]; rfl
    refine lv_tableIn (off := 31) (tgt := 44) hx hb dX0_about_13 (by rw [e27]; decide) (by rw [e27]; decide) (by rw [e27]; rfl) (by decide) ?_
    refine gq_aload_n (r := r3) hx hb dX0_about_44 rfl (lv_at hl 0 rfl) ?_
    obtain ⟨y6, rfl, hy7, h⟩ := h
    obtain ⟨k9, hk9⟩ := xJ_get hy7
    refine va_get (D := (dC, dI)) (ci := 5) (v := .int (sA u4 0 y6)) (C := RX5) (T := TX5) (N := 9) hx hb hts uwX5 hown hK hP k9 hk9 rfl 5 (by decide) (hts _ wd_327) (fun _ h9 => h9) rfl dX0_about_45 ?_
    refine W.widen (k := 3) (n := 18) (Nat.le_of_ble_eq_true rfl) (Nat.le_of_ble_eq_true rfl) (vx_ret ?_); exact gr_i (w := wX ad ca K) (u := u4) hx hb hr hlocks h hP hK hD hS dX0_about_48
  · have h := h.2 c5
    by_cases c8 : p2 = 1
    · have h := h.1 c8
      have e26 : (p2).toInt = 1 := by rw [c8]; rfl
      refine lv_tableIn (off := 36) (tgt := 49) hx hb dX0_about_13 (by rw [e26]; decide) (by rw [e26]; decide) (by rw [e26]; rfl) (by decide) ?_
      refine gq_aload_n (r := r3) hx hb dX0_about_49 rfl (lv_at hl 0 rfl) ?_
      obtain ⟨y9, rfl, hy10, h⟩ := h
      obtain ⟨k9, hk9⟩ := xJ_get hy10
      refine va_get (D := (dC, dI)) (ci := 5) (v := .int (K.2.2.2.1 y9 1)) (C := RX5) (T := TX5) (N := 9) hx hb hts uwX5 hown hK hP k9 hk9 rfl 1 (by decide) (hts _ wd_318) (fun _ h9 => h9) rfl dX0_about_50 ?_
      refine W.widen (k := 3) (n := 18) (Nat.le_of_ble_eq_true rfl) (Nat.le_of_ble_eq_true rfl) (vx_ret ?_); exact gr_i (w := wX ad ca K) (u := u4) hx hb hr hlocks h hP hK hD hS dX0_about_53
    · have h := h.2 c8
      by_cases c11 : p2 = 2
      · have h := h.1 c11
        have e25 : (p2).toInt = 2 := by rw [c11]; rfl
        refine lv_tableIn (off := 41) (tgt := 54) hx hb dX0_about_13 (by rw [e25]; decide) (by rw [e25]; decide) (by rw [e25]; rfl) (by decide) ?_
        refine gq_aload_n (r := r3) hx hb dX0_about_54 rfl (lv_at hl 0 rfl) ?_
        obtain ⟨y12, rfl, hy13, h⟩ := h
        refine gc_i (w := wX ad ca K) (u := u4) (va_runV (As := []) (rest := []) ⟨hx, hb, hml, hown, hts⟩ (cX5_nextNumber l dC dI ad ca K H.size u4 y12 _ hy13 h) (cwV 0 hts (gG_V wd_484 wd_485 wd_486 wd_58 wd_487) rfl rfl rfl (by decide +kernel) ⟨Nat.le_of_ble_eq_true rfl, Nat.le_of_ble_eq_true rfl⟩) ⟨gB_blind xE_ok, (by obtain ⟨k9, hk9⟩ := xJ_get hy13; exact va_recv hK hP (ci := 5) (q0 := k9) rfl hk9), gB_pre xE_ok hP hK hD hE hS hA⟩ rfl rfl hl.1 rfl (lv_room (Nat.le_of_ble_eq_true rfl)) dX0_about_55 ⟨Nat.le_of_ble_eq_true rfl, Nat.le_of_ble_eq_true rfl⟩) hD hS hA (fun r14 u15 H locs h hP hD hS => ?_)
        refine W.widen (k := 3) (n := 18) (Nat.le_of_ble_eq_true rfl) (Nat.le_of_ble_eq_true rfl) (vx_ret ?_); exact gr_i (w := wX ad ca K) (u := u15) hx hb hr hlocks h hP hK hD hS dX0_about_58
      · have h := h.2 c11
        by_cases c16 : p2 = 3
        · have h := h.1 c16
          have e24 : (p2).toInt = 3 := by rw [c16]; rfl
          refine lv_tableIn (off := 46) (tgt := 59) hx hb dX0_about_13 (by rw [e24]; decide) (by rw [e24]; decide) (by rw [e24]; rfl) (by decide) ?_
          refine lv_aload_n hx hb dX0_about_59 rfl (lv_at hl 1 rfl) ?_
          refine gq_aload_n (r := r3) hx hb dX0_about_60 rfl (lv_at hl 0 rfl) ?_
          obtain ⟨y17, rfl, hy18, h⟩ := h
          refine gc_i (w := wX ad ca K) (u := u4) (va_runV (As := [.ref y17]) (rest := []) ⟨hx, hb, hml, hown, hts⟩ (cX0_placeOf l dC dI ad ca K H.size u4 y17 _ hy18 h) (cwV 1 hts (gG_V wd_658 wd_660 wd_15 wd_46 wd_661) rfl rfl rfl (by decide +kernel) ⟨Nat.le_of_ble_eq_true rfl, Nat.le_of_ble_eq_true rfl⟩) ⟨gB_blind xE_ok, va_recv hK hP (ci := 0) (q0 := 0) rfl rfl, gB_pre xE_ok hP hK hD hE hS hA⟩ rfl rfl hl.1 rfl (lv_room (Nat.le_of_ble_eq_true rfl)) dX0_about_61 ⟨Nat.le_of_ble_eq_true rfl, Nat.le_of_ble_eq_true rfl⟩) hD hS hA (fun r19 u20 H locs h hP hD hS => ?_)
          refine W.widen (k := 3) (n := 18) (Nat.le_of_ble_eq_true rfl) (Nat.le_of_ble_eq_true rfl) (vx_ret ?_); exact gr_i (w := wX ad ca K) (u := u20) hx hb hr hlocks h hP hK hD hS dX0_about_64
        · have h := h.2 c16
          refine lv_tableOut (tgt := 65) hx hb dX0_about_13 (by have a0 := lv_neT (a := 0) c5 rfl; have a1 := lv_neT (a := 1) c8 rfl; have a2 := lv_neT (a := 2) c11 rfl; have a3 := lv_neT (a := 3) c16 rfl; omega) (by decide) ?_
          refine gq_aload_n (r := r3) hx hb dX0_about_65 rfl (lv_at hl 0 rfl) ?_
          obtain ⟨y21, rfl, hy22, h⟩ := h
          obtain ⟨k9, hk9⟩ := xJ_get hy22
          refine va_get (D := (dC, dI)) (ci := 5) (v := .int (sA u4 0 y21)) (C := RX5) (T := TX5) (N := 9) hx hb hts uwX5 hown hK hP k9 hk9 rfl 5 (by decide) (hts _ wd_327) (fun _ h9 => h9) rfl dX0_about_66 ?_
          refine lv_iconst (v := 4) hx hb dX0_about_69 (by decide) ?_
          refine lv_icmp_ne (tgt := 80) hx hb dX0_about_70 (by decide) (fun c23 => ?_) (fun c23 => ?_)
          · have h := h.1 c23
            refine lv_iconst (v := 0) hx hb dX0_about_80 (by decide) ?_
            refine W.widen (k := 3) (n := 18) (Nat.le_of_ble_eq_true rfl) (Nat.le_of_ble_eq_true rfl) (vx_ret ?_); exact gr_i (w := wX ad ca K) (u := u4) hx hb hr hlocks h hP hK hD hS dX0_about_81
          · have h := h.2 c23
            refine lv_aload_n hx hb dX0_about_73 rfl (lv_at hl 0 rfl) ?_
            obtain ⟨k9, hk9⟩ := xJ_get hy22
            refine va_get (D := (dC, dI)) (ci := 5) (v := .int (sA u4 2 y21)) (C := RX5) (T := TX5) (N := 9) hx hb hts uwX5 hown hK hP k9 hk9 rfl 7 (by decide) (hts _ wd_333) (fun _ h9 => h9) rfl dX0_about_74 ?_
            refine lv_goto (tgt := 81) hx hb dX0_about_77 (by decide) ?_
            refine W.widen (k := 3) (n := 18) (Nat.le_of_ble_eq_true rfl) (Nat.le_of_ble_eq_true rfl) (vx_ret ?_); exact gr_i (w := wX ad ca K) (u := u4) hx hb hr hlocks h hP hK hD hS dX0_about_81

theorem dX0_worker_0 : decode prog_1_method_12_code 0 = .ok (.aload_n 0, 1) := by decide +kernel
theorem dX0_worker_1 : decode prog_1_method_12_code 1 = .ok (.getfield 18, 3) := by decide +kernel
theorem dX0_worker_4 : decode prog_1_method_12_code 4 = .ok (.iload_n 1, 1) := by decide +kernel
theorem dX0_worker_5 : decode prog_1_method_12_code 5 = .ok (.invokevirtual 135, 3) := by decide +kernel
theorem dX0_worker_8 : decode prog_1_method_12_code 8 = .ok (.astore_n 2, 1) := by decide +kernel
theorem dX0_worker_9 : decode prog_1_method_12_code 9 = .ok (.aload_n 2, 1) := by decide +kernel
theorem dX0_worker_10 : decode prog_1_method_12_code 10 = .ok (.ifnonnull 13, 3) := by decide +kernel
theorem dX0_worker_13 : decode prog_1_method_12_code 13 = .ok (.new 146, 3) := by decide +kernel
theorem dX0_worker_16 : decode prog_1_method_12_code 16 = .ok (.dup, 1) := by decide +kernel
theorem dX0_worker_17 : decode prog_1_method_12_code 17 = .ok (.ldc 207, 2) := by decide +kernel
theorem dX0_worker_19 : decode prog_1_method_12_code 19 = .ok (.invokespecial 150, 3) := by decide +kernel
theorem dX0_worker_22 : decode prog_1_method_12_code 22 = .ok (.athrow, 1) := by decide +kernel
theorem dX0_worker_23 : decode prog_1_method_12_code 23 = .ok (.aload_n 2, 1) := by decide +kernel
theorem dX0_worker_24 : decode prog_1_method_12_code 24 = .ok (.getfield 209, 3) := by decide +kernel
theorem dX0_worker_27 : decode prog_1_method_12_code 27 = .ok (.ireturn, 1) := by decide +kernel
def wpX0_worker (K : KX) (post : Int32 → gS → Prop) (px : String → gS → Prop) (u : gS) (p1 : Int32) : Prop :=
  wpX1_at K (fun (r1 : Option Nat) (u2 : gS) => ((r1 = none → (px "java/util/NoSuchElementException" u2)) ∧ (∀ y3 : Nat, r1 = some y3 → (y3 ∈ K.2.1 ∧ (post (sA u2 3 y3) u2))))) u p1

set_option maxHeartbeats 8000000 in
set_option maxRecDepth 100000 in
theorem cX0_worker (l : Launch) (hl9 : l.stackTraces = false) (dC : Nat → ClassId) (dI : Nat → Nat → Nat) (ad : Nat → Nat) (ca : Nat → ClassId) (K : KX) (sz : Nat) (u : gS) (p1 : Int32) (post : Int32 → gS → Prop) (px : String → gS → Prop)  (h : wpX0_worker K post px u p1) : vx_Met l ⟨"WorkHall", "worker", "(I)I"⟩ (gw ⟨"WorkHall", "worker", "(I)I"⟩ prog_1_method_12_code 3 (some .int)) ({ frames := 7, cells := 1, slots := 6, locals := 280 } : Room) (va_Pc [.ref (ad 0), .int p1] (gB (dC, dI) vwCl (xT ca) xE (wX ad ca K u) sz)) (va_Qi post (gAt (dC, dI) vwCl (xT ca) (wX ad ca K) (va_A (wX ad ca K u) sz)) (va_A (wX ad ca K u) sz)) (gX (dC, dI) vwCl (xT ca) (wX ad ca K) px (va_A (wX ad ca K u) sz)) 1 6 (va_A (wX ad ca K u) sz) := by
  refine vx_ofW (cc := prog_1_method_12_code) (maxL := 3) (ret := (some .int)) (by decide) rfl ?_
  intro p e s m args below meth c s₁ B hml hno hv
  obtain ⟨rfl, hsz, hP, hK, hD0, hE⟩ := hv
  have hx := B.exec
  have hb := B.bytes
  have hr := B.returns
  have hts : ∀ w ∈ gW, w.before _ s = true := fun w h9 => atoms_spec (ws := (gw ⟨"WorkHall", "worker", "(I)I"⟩ prog_1_method_12_code 3 (some .int))) B.pre w (List.mem_cons_of_mem _ h9)
  have hown : s.vm.findClass RX0 = some m.cls := findClass_of_methodNamed B.named
  have hlocks := B.notSynchronized
  subst hsz
  have hD := hD0.self (sz := s.heap.size)
  generalize hAe : va_A (wX ad ca K u) s.heap.size = A at hD hE ⊢
  have hA : ∀ q : Nat, s.heap.size ≤ q → A q := fun q h => by rw [← hAe]; exact Or.inr h
  obtain ⟨H, hHe⟩ : ∃ z : Heap, z = s.heap := ⟨_, rfl⟩
  rw [← hHe]
  have hS : va_S A s.heap H [] := by rw [hHe]; exact va_S.rf
  have hP : va_P (dC, dI) vwCl (wX ad ca K u) H := by rw [hHe]; exact hP
  have hl := lv_entry ([.ref (ad 0), .int p1]) (n := 3) (Nat.le_of_ble_eq_true rfl)
  rw [lg_entry_eq]
  generalize (lg_sl ([.ref (ad 0), .int p1]) ++ List.replicate (3 - (lg_sl ([.ref (ad 0), .int p1])).length) Slot.unset).toArray = ls at hl ⊢
  have hl : lv_has ls 3 [(0, .ref (ad 0)), (1, .int p1)] := hl
  clear hAe
  refine lv_aload_n hx hb dX0_worker_0 rfl (lv_at hl 0 rfl) ?_
  refine va_get (D := (dC, dI)) (ci := 0) (v := .ref (ad 2)) (C := RX0) (T := TX0) (N := 12) hx hb hts uwX0 hown hK hP 0 rfl rfl 5 (by decide) (hts _ wd_177) (fun _ h9 => h9) rfl dX0_worker_1 ?_
  refine lv_iload_n hx hb dX0_worker_4 rfl (lv_at hl 1 rfl) ?_
  refine gc_q (w := wX ad ca K) (u := u) (va_runV (As := [.int p1]) (rest := []) ⟨hx, hb, hml, hown, hts⟩ (cX1_at l dC dI ad ca K H.size u p1 _ h) (cwV 1 hts (gG_V wd_503 wd_402 wd_403 wd_47 wd_404) rfl rfl rfl (by decide +kernel) ⟨Nat.le_of_ble_eq_true rfl, Nat.le_of_ble_eq_true rfl⟩) ⟨gB_blind xE_ok, va_recv hK hP (ci := 1) (q0 := 2) rfl rfl, gB_pre xE_ok hP hK hD hE hS hA⟩ rfl rfl hl.1 rfl (lv_room (Nat.le_of_ble_eq_true rfl)) dX0_worker_5 ⟨Nat.le_of_ble_eq_true rfl, Nat.le_of_ble_eq_true rfl⟩) hD hS hA (fun r1 u2 H locs h hP hD hS => ?_)
  refine gq_astore_n (r := r1) (lv' := [(2, va_rf r1), (0, .ref (ad 0)), (1, .int p1)]) hx hb dX0_worker_8 rfl hl (by decide) rfl (fun ls hl => ?_)
  refine gq_aload_n (r := r1) hx hb dX0_worker_9 rfl (lv_at hl 0 rfl) ?_
  rcases r1 with _ | y3
  · have h := h.1 rfl
    refine lv_ifnonnullN hx hb dX0_worker_10 ?_
    obtain ⟨sa9, hs9⟩ := xE_text hE 207 "there is no such worker" (by decide +kernel); exact vn_throwS (r := xSup1) (Y := "java/lang/RuntimeException") hx hb hl9 dN_0 dN_1 dN_2 dN_5 hown (by decide +kernel) (by decide +kernel) (by decide +kernel) (hts _ wd_372) (hts _ wd_59) hs9 (tw_nse hts (xE_face hE)) tg_nse (xE_U hE) (xE_N hE) hS (hl.1.trans hml.symm) dX0_worker_13 dX0_worker_16 dX0_worker_17 dX0_worker_19 dX0_worker_22 (fun x hx => (hno x hx).elim) (Nat.le_of_ble_eq_true rfl) (Nat.le_of_ble_eq_true rfl) (Nat.le_of_ble_eq_true rfl) (Nat.le_of_ble_eq_true rfl) hlocks (fun t ha hz hq => gx_thrown h hP hK hD hS ha hz hq) hS.2.2 (Nat.le_of_ble_eq_true rfl) (Nat.le_of_ble_eq_true rfl)
  · have h := h.2 y3 rfl
    refine lv_ifnonnull (tgt := 23) hx hb dX0_worker_10 (by decide) ?_
    refine lv_aload_n hx hb dX0_worker_23 rfl (lv_at hl 0 rfl) ?_
    obtain ⟨hy4, h⟩ := h
    obtain ⟨k9, hk9⟩ := xW_get hy4
    refine va_get (D := (dC, dI)) (ci := 4) (v := .int (sA u2 3 y3)) (C := RX4) (T := TX4) (N := 3) hx hb hts uwX4 hown hK hP k9 hk9 rfl 1 (by decide) (hts _ wd_90) (fun _ h9 => h9) rfl dX0_worker_24 ?_
    refine W.widen (k := 1) (n := 6) (Nat.le_of_ble_eq_true rfl) (Nat.le_of_ble_eq_true rfl) (vx_ret ?_); exact gr_i (w := wX ad ca K) (u := u2) hx hb hr hlocks h hP hK hD hS dX0_worker_27

theorem dX0_count_0 : decode prog_1_method_13_code 0 = .ok (.iload_n 1, 1) := by decide +kernel
theorem dX0_count_1 : decode prog_1_method_13_code 1 = .ok (.iconst 0, 1) := by decide +kernel
theorem dX0_count_2 : decode prog_1_method_13_code 2 = .ok (.bipush 7, 2) := by decide +kernel
theorem dX0_count_4 : decode prog_1_method_13_code 4 = .ok (.invokestatic 72, 3) := by decide +kernel
theorem dX0_count_7 : decode prog_1_method_13_code 7 = .ok (.iload_n 1, 1) := by decide +kernel
theorem dX0_count_8 : decode prog_1_method_13_code 8 = .ok (.tableswitch 91 0 6 #[44, 49, 57, 65, 73, 81, 86], 44) := by decide +kernel
theorem dX0_count_52 : decode prog_1_method_13_code 52 = .ok (.aload_n 0, 1) := by decide +kernel
theorem dX0_count_53 : decode prog_1_method_13_code 53 = .ok (.getfield 36, 3) := by decide +kernel
theorem dX0_count_56 : decode prog_1_method_13_code 56 = .ok (.ireturn, 1) := by decide +kernel
theorem dX0_count_57 : decode prog_1_method_13_code 57 = .ok (.aload_n 0, 1) := by decide +kernel
theorem dX0_count_58 : decode prog_1_method_13_code 58 = .ok (.getfield 18, 3) := by decide +kernel
theorem dX0_count_61 : decode prog_1_method_13_code 61 = .ok (.getfield 214, 3) := by decide +kernel
theorem dX0_count_64 : decode prog_1_method_13_code 64 = .ok (.ireturn, 1) := by decide +kernel
theorem dX0_count_65 : decode prog_1_method_13_code 65 = .ok (.aload_n 0, 1) := by decide +kernel
theorem dX0_count_66 : decode prog_1_method_13_code 66 = .ok (.getfield 18, 3) := by decide +kernel
theorem dX0_count_69 : decode prog_1_method_13_code 69 = .ok (.invokevirtual 215, 3) := by decide +kernel
theorem dX0_count_72 : decode prog_1_method_13_code 72 = .ok (.ireturn, 1) := by decide +kernel
theorem dX0_count_73 : decode prog_1_method_13_code 73 = .ok (.aload_n 0, 1) := by decide +kernel
theorem dX0_count_74 : decode prog_1_method_13_code 74 = .ok (.getfield 25, 3) := by decide +kernel
theorem dX0_count_77 : decode prog_1_method_13_code 77 = .ok (.getfield 218, 3) := by decide +kernel
theorem dX0_count_80 : decode prog_1_method_13_code 80 = .ok (.ireturn, 1) := by decide +kernel
theorem dX0_count_81 : decode prog_1_method_13_code 81 = .ok (.aload_n 0, 1) := by decide +kernel
theorem dX0_count_82 : decode prog_1_method_13_code 82 = .ok (.getfield 32, 3) := by decide +kernel
theorem dX0_count_85 : decode prog_1_method_13_code 85 = .ok (.getfield 172, 3) := by decide +kernel
theorem dX0_count_88 : decode prog_1_method_13_code 88 = .ok (.ireturn, 1) := by decide +kernel
theorem dX0_count_89 : decode prog_1_method_13_code 89 = .ok (.aload_n 0, 1) := by decide +kernel
theorem dX0_count_90 : decode prog_1_method_13_code 90 = .ok (.getfield 40, 3) := by decide +kernel
theorem dX0_count_93 : decode prog_1_method_13_code 93 = .ok (.ireturn, 1) := by decide +kernel
theorem dX0_count_94 : decode prog_1_method_13_code 94 = .ok (.aload_n 0, 1) := by decide +kernel
theorem dX0_count_95 : decode prog_1_method_13_code 95 = .ok (.getfield 43, 3) := by decide +kernel
theorem dX0_count_98 : decode prog_1_method_13_code 98 = .ok (.ireturn, 1) := by decide +kernel
theorem dX0_count_99 : decode prog_1_method_13_code 99 = .ok (.aload_n 0, 1) := by decide +kernel
theorem dX0_count_100 : decode prog_1_method_13_code 100 = .ok (.getfield 18, 3) := by decide +kernel
theorem dX0_count_103 : decode prog_1_method_13_code 103 = .ok (.getfield 219, 3) := by decide +kernel
theorem dX0_count_106 : decode prog_1_method_13_code 106 = .ok (.ireturn, 1) := by decide +kernel
def wpX0_count (K : KX) (post : Int32 → gS → Prop) (px : String → gS → Prop) (u : gS) (p1 : Int32) : Prop :=
  wpX0_checkRange K (fun (u2 : gS) => ((p1 = 0 → (post (K.1 4) u2)) ∧ (¬ p1 = 0 → (((p1 = 1 → (post (sI u2 2) u2)) ∧ (¬ p1 = 1 → (((p1 = 2 → (wpX1_busy K (fun (r6 : Int32) (u7 : gS) => post r6 u7) u2)) ∧ (¬ p1 = 2 → (((p1 = 3 → (post (sI u2 4) u2)) ∧ (¬ p1 = 3 → (((p1 = 4 → (post (sI u2 6) u2)) ∧ (¬ p1 = 4 → (((p1 = 5 → (post (sI u2 0) u2)) ∧ (¬ p1 = 5 → (((p1 = 6 → (post (sI u2 1) u2)) ∧ (¬ p1 = 6 → (post (sI u2 3) u2)))))))))))))))))))))) px u p1 0 7

set_option maxHeartbeats 8000000 in
set_option maxRecDepth 100000 in
theorem cX0_count (l : Launch) (hl9 : l.stackTraces = false) (dC : Nat → ClassId) (dI : Nat → Nat → Nat) (ad : Nat → Nat) (ca : Nat → ClassId) (K : KX) (sz : Nat) (u : gS) (p1 : Int32) (post : Int32 → gS → Prop) (px : String → gS → Prop)  (h : wpX0_count K post px u p1) : vx_Met l ⟨"WorkHall", "count", "(I)I"⟩ (gw ⟨"WorkHall", "count", "(I)I"⟩ prog_1_method_13_code 2 (some .int)) ({ frames := 8, cells := 1, slots := 6, locals := 320 } : Room) (va_Pc [.ref (ad 0), .int p1] (gB (dC, dI) vwCl (xT ca) xE (wX ad ca K u) sz)) (va_Qi post (gAt (dC, dI) vwCl (xT ca) (wX ad ca K) (va_A (wX ad ca K u) sz)) (va_A (wX ad ca K u) sz)) (gX (dC, dI) vwCl (xT ca) (wX ad ca K) px (va_A (wX ad ca K u) sz)) 1 6 (va_A (wX ad ca K u) sz) := by
  refine vx_ofW (cc := prog_1_method_13_code) (maxL := 2) (ret := (some .int)) (by decide) rfl ?_
  intro p e s m args below meth c s₁ B hml hno hv
  obtain ⟨rfl, hsz, hP, hK, hD0, hE⟩ := hv
  have hx := B.exec
  have hb := B.bytes
  have hr := B.returns
  have hts : ∀ w ∈ gW, w.before _ s = true := fun w h9 => atoms_spec (ws := (gw ⟨"WorkHall", "count", "(I)I"⟩ prog_1_method_13_code 2 (some .int))) B.pre w (List.mem_cons_of_mem _ h9)
  have hown : s.vm.findClass RX0 = some m.cls := findClass_of_methodNamed B.named
  have hlocks := B.notSynchronized
  subst hsz
  have hD := hD0.self (sz := s.heap.size)
  generalize hAe : va_A (wX ad ca K u) s.heap.size = A at hD hE ⊢
  have hA : ∀ q : Nat, s.heap.size ≤ q → A q := fun q h => by rw [← hAe]; exact Or.inr h
  obtain ⟨H, hHe⟩ : ∃ z : Heap, z = s.heap := ⟨_, rfl⟩
  rw [← hHe]
  have hS : va_S A s.heap H [] := by rw [hHe]; exact va_S.rf
  have hP : va_P (dC, dI) vwCl (wX ad ca K u) H := by rw [hHe]; exact hP
  have hl := lv_entry ([.ref (ad 0), .int p1]) (n := 2) (Nat.le_of_ble_eq_true rfl)
  rw [lg_entry_eq]
  generalize (lg_sl ([.ref (ad 0), .int p1]) ++ List.replicate (2 - (lg_sl ([.ref (ad 0), .int p1])).length) Slot.unset).toArray = ls at hl ⊢
  have hl : lv_has ls 2 [(0, .ref (ad 0)), (1, .int p1)] := hl
  clear hAe
  refine lv_iload_n hx hb dX0_count_0 rfl (lv_at hl 1 rfl) ?_
  refine lv_iconst (v := 0) hx hb dX0_count_1 (by decide) ?_
  refine lv_bipush (v := 7) hx hb dX0_count_2 (by decide) ?_
  refine gxc_v (w := wX ad ca K) (u := u) (vx_runS (As := [.int p1, .int 0, .int 7]) (rest := []) ⟨hx, hb, hml, hown, hts⟩ (cX0_checkRange l hl9 dC dI ad ca K H.size u p1 0 7 _ _ h) (va_cwS 3 hts (gG_S wd_221 wd_222 wd_46 wd_223) rfl rfl rfl (by decide +kernel) ⟨Nat.le_of_ble_eq_true rfl, Nat.le_of_ble_eq_true rfl⟩) ⟨gB_blind xE_ok, gB_pre xE_ok hP hK hD hE hS hA⟩ rfl rfl hl.1 rfl (lv_room (Nat.le_of_ble_eq_true rfl)) dX0_count_4 ⟨Nat.le_of_ble_eq_true rfl, Nat.le_of_ble_eq_true rfl⟩) hD hS hA (fun E9 ce9 q9 u9 H locs h hP hD hS hce hcv hcl => gx_out hno hlocks h hP hK hD hS hce hcv hcl (Nat.le_of_ble_eq_true rfl) (Nat.le_of_ble_eq_true rfl)) (fun u2 H locs h hP hD hS => ?_)
  refine lv_iload_n hx hb dX0_count_7 rfl (lv_at hl 1 rfl) ?_
  by_cases c3 : p1 = 0
  · have h := h.1 c3
    have e18 : (p1).toInt = 0 := by rw [c3]; rfl
    refine lv_tableIn (off := 44) (tgt := 52) hx hb dX0_count_8 (by rw [e18]; decide) (by rw [e18]; decide) (by rw [e18]; rfl) (by decide) ?_
    refine lv_aload_n hx hb dX0_count_52 rfl (lv_at hl 0 rfl) ?_
    refine va_get (D := (dC, dI)) (ci := 0) (v := .int (K.1 4)) (C := RX0) (T := TX0) (N := 12) hx hb hts uwX0 hown hK hP 0 rfl rfl 8 (by decide) (hts _ wd_180) (fun _ h9 => h9) rfl dX0_count_53 ?_
    refine W.widen (k := 1) (n := 6) (Nat.le_of_ble_eq_true rfl) (Nat.le_of_ble_eq_true rfl) (vx_ret ?_); exact gr_i (w := wX ad ca K) (u := u2) hx hb hr hlocks h hP hK hD hS dX0_count_56
  · have h := h.2 c3
    by_cases c4 : p1 = 1
    · have h := h.1 c4
      have e17 : (p1).toInt = 1 := by rw [c4]; rfl
      refine lv_tableIn (off := 49) (tgt := 57) hx hb dX0_count_8 (by rw [e17]; decide) (by rw [e17]; decide) (by rw [e17]; rfl) (by decide) ?_
      refine lv_aload_n hx hb dX0_count_57 rfl (lv_at hl 0 rfl) ?_
      refine va_get (D := (dC, dI)) (ci := 0) (v := .ref (ad 2)) (C := RX0) (T := TX0) (N := 12) hx hb hts uwX0 hown hK hP 0 rfl rfl 5 (by decide) (hts _ wd_177) (fun _ h9 => h9) rfl dX0_count_58 ?_
      refine va_get (D := (dC, dI)) (ci := 1) (v := .int (sI u2 2)) (C := RX1) (T := TX1) (N := 3) hx hb hts uwX1 hown hK hP 2 rfl rfl 1 (by decide) (hts _ wd_102) (fun _ h9 => h9) rfl dX0_count_61 ?_
      refine W.widen (k := 1) (n := 6) (Nat.le_of_ble_eq_true rfl) (Nat.le_of_ble_eq_true rfl) (vx_ret ?_); exact gr_i (w := wX ad ca K) (u := u2) hx hb hr hlocks h hP hK hD hS dX0_count_64
    · have h := h.2 c4
      by_cases c5 : p1 = 2
      · have h := h.1 c5
        have e16 : (p1).toInt = 2 := by rw [c5]; rfl
        refine lv_tableIn (off := 57) (tgt := 65) hx hb dX0_count_8 (by rw [e16]; decide) (by rw [e16]; decide) (by rw [e16]; rfl) (by decide) ?_
        refine lv_aload_n hx hb dX0_count_65 rfl (lv_at hl 0 rfl) ?_
        refine va_get (D := (dC, dI)) (ci := 0) (v := .ref (ad 2)) (C := RX0) (T := TX0) (N := 12) hx hb hts uwX0 hown hK hP 0 rfl rfl 5 (by decide) (hts _ wd_177) (fun _ h9 => h9) rfl dX0_count_66 ?_
        refine gc_i (w := wX ad ca K) (u := u2) (va_runV (As := []) (rest := []) ⟨hx, hb, hml, hown, hts⟩ (cX1_busy l dC dI ad ca K H.size u2 _ h) (cwV 0 hts (gG_V wd_529 wd_530 wd_531 wd_47 wd_532) rfl rfl rfl (by decide +kernel) ⟨Nat.le_of_ble_eq_true rfl, Nat.le_of_ble_eq_true rfl⟩) ⟨gB_blind xE_ok, va_recv hK hP (ci := 1) (q0 := 2) rfl rfl, gB_pre xE_ok hP hK hD hE hS hA⟩ rfl rfl hl.1 rfl (lv_room (Nat.le_of_ble_eq_true rfl)) dX0_count_69 ⟨Nat.le_of_ble_eq_true rfl, Nat.le_of_ble_eq_true rfl⟩) hD hS hA (fun r6 u7 H locs h hP hD hS => ?_)
        refine W.widen (k := 1) (n := 6) (Nat.le_of_ble_eq_true rfl) (Nat.le_of_ble_eq_true rfl) (vx_ret ?_); exact gr_i (w := wX ad ca K) (u := u7) hx hb hr hlocks h hP hK hD hS dX0_count_72
      · have h := h.2 c5
        by_cases c8 : p1 = 3
        · have h := h.1 c8
          have e15 : (p1).toInt = 3 := by rw [c8]; rfl
          refine lv_tableIn (off := 65) (tgt := 73) hx hb dX0_count_8 (by rw [e15]; decide) (by rw [e15]; decide) (by rw [e15]; rfl) (by decide) ?_
          refine lv_aload_n hx hb dX0_count_73 rfl (lv_at hl 0 rfl) ?_
          refine va_get (D := (dC, dI)) (ci := 0) (v := .ref (ad 4)) (C := RX0) (T := TX0) (N := 12) hx hb hts uwX0 hown hK hP 0 rfl rfl 6 (by decide) (hts _ wd_178) (fun _ h9 => h9) rfl dX0_count_74 ?_
          refine va_get (D := (dC, dI)) (ci := 2) (v := .int (sI u2 4)) (C := RX2) (T := TX2) (N := 5) hx hb hts uwX2 hown hK hP 4 rfl rfl 2 (by decide) (hts _ wd_122) (fun _ h9 => h9) rfl dX0_count_77 ?_
          refine W.widen (k := 1) (n := 6) (Nat.le_of_ble_eq_true rfl) (Nat.le_of_ble_eq_true rfl) (vx_ret ?_); exact gr_i (w := wX ad ca K) (u := u2) hx hb hr hlocks h hP hK hD hS dX0_count_80
        · have h := h.2 c8
          by_cases c9 : p1 = 4
          · have h := h.1 c9
            have e14 : (p1).toInt = 4 := by rw [c9]; rfl
            refine lv_tableIn (off := 73) (tgt := 81) hx hb dX0_count_8 (by rw [e14]; decide) (by rw [e14]; decide) (by rw [e14]; rfl) (by decide) ?_
            refine lv_aload_n hx hb dX0_count_81 rfl (lv_at hl 0 rfl) ?_
            refine va_get (D := (dC, dI)) (ci := 0) (v := .ref (ad 7)) (C := RX0) (T := TX0) (N := 12) hx hb hts uwX0 hown hK hP 0 rfl rfl 7 (by decide) (hts _ wd_179) (fun _ h9 => h9) rfl dX0_count_82 ?_
            refine va_get (D := (dC, dI)) (ci := 3) (v := .int (sI u2 6)) (C := RX3) (T := TX3) (N := 4) hx hb hts uwX3 hown hK hP 7 rfl rfl 3 (by decide) (hts _ wd_153) (fun _ h9 => h9) rfl dX0_count_85 ?_
            refine W.widen (k := 1) (n := 6) (Nat.le_of_ble_eq_true rfl) (Nat.le_of_ble_eq_true rfl) (vx_ret ?_); exact gr_i (w := wX ad ca K) (u := u2) hx hb hr hlocks h hP hK hD hS dX0_count_88
          · have h := h.2 c9
            by_cases c10 : p1 = 5
            · have h := h.1 c10
              have e13 : (p1).toInt = 5 := by rw [c10]; rfl
              refine lv_tableIn (off := 81) (tgt := 89) hx hb dX0_count_8 (by rw [e13]; decide) (by rw [e13]; decide) (by rw [e13]; rfl) (by decide) ?_
              refine lv_aload_n hx hb dX0_count_89 rfl (lv_at hl 0 rfl) ?_
              refine va_get (D := (dC, dI)) (ci := 0) (v := .int (sI u2 0)) (C := RX0) (T := TX0) (N := 12) hx hb hts uwX0 hown hK hP 0 rfl rfl 9 (by decide) (hts _ wd_181) (fun _ h9 => h9) rfl dX0_count_90 ?_
              refine W.widen (k := 1) (n := 6) (Nat.le_of_ble_eq_true rfl) (Nat.le_of_ble_eq_true rfl) (vx_ret ?_); exact gr_i (w := wX ad ca K) (u := u2) hx hb hr hlocks h hP hK hD hS dX0_count_93
            · have h := h.2 c10
              by_cases c11 : p1 = 6
              · have h := h.1 c11
                have e12 : (p1).toInt = 6 := by rw [c11]; rfl
                refine lv_tableIn (off := 86) (tgt := 94) hx hb dX0_count_8 (by rw [e12]; decide) (by rw [e12]; decide) (by rw [e12]; rfl) (by decide) ?_
                refine lv_aload_n hx hb dX0_count_94 rfl (lv_at hl 0 rfl) ?_
                refine va_get (D := (dC, dI)) (ci := 0) (v := .int (sI u2 1)) (C := RX0) (T := TX0) (N := 12) hx hb hts uwX0 hown hK hP 0 rfl rfl 10 (by decide) (hts _ wd_182) (fun _ h9 => h9) rfl dX0_count_95 ?_
                refine W.widen (k := 1) (n := 6) (Nat.le_of_ble_eq_true rfl) (Nat.le_of_ble_eq_true rfl) (vx_ret ?_); exact gr_i (w := wX ad ca K) (u := u2) hx hb hr hlocks h hP hK hD hS dX0_count_98
              · have h := h.2 c11
                refine lv_tableOut (tgt := 99) hx hb dX0_count_8 (by have a0 := lv_neT (a := 0) c3 rfl; have a1 := lv_neT (a := 1) c4 rfl; have a2 := lv_neT (a := 2) c5 rfl; have a3 := lv_neT (a := 3) c8 rfl; have a4 := lv_neT (a := 4) c9 rfl; have a5 := lv_neT (a := 5) c10 rfl; have a6 := lv_neT (a := 6) c11 rfl; omega) (by decide) ?_
                refine lv_aload_n hx hb dX0_count_99 rfl (lv_at hl 0 rfl) ?_
                refine va_get (D := (dC, dI)) (ci := 0) (v := .ref (ad 2)) (C := RX0) (T := TX0) (N := 12) hx hb hts uwX0 hown hK hP 0 rfl rfl 5 (by decide) (hts _ wd_177) (fun _ h9 => h9) rfl dX0_count_100 ?_
                refine va_get (D := (dC, dI)) (ci := 1) (v := .int (sI u2 3)) (C := RX1) (T := TX1) (N := 3) hx hb hts uwX1 hown hK hP 2 rfl rfl 2 (by decide) (hts _ wd_104) (fun _ h9 => h9) rfl dX0_count_103 ?_
                refine W.widen (k := 1) (n := 6) (Nat.le_of_ble_eq_true rfl) (Nat.le_of_ble_eq_true rfl) (vx_ret ?_); exact gr_i (w := wX ad ca K) (u := u2) hx hb hr hlocks h hP hK hD hS dX0_count_106

