theorem dX0_cancel_0 : decode prog_1_method_6_code 0 = .ok (.aload_n 0, 1) := by decide +kernel
theorem dX0_cancel_1 : decode prog_1_method_6_code 1 = .ok (.iload_n 1, 1) := by decide +kernel
theorem dX0_cancel_2 : decode prog_1_method_6_code 2 = .ok (.invokevirtual 86, 3) := by decide +kernel
theorem dX0_cancel_5 : decode prog_1_method_6_code 5 = .ok (.astore_n 3, 1) := by decide +kernel
theorem dX0_cancel_6 : decode prog_1_method_6_code 6 = .ok (.aload_n 3, 1) := by decide +kernel
theorem dX0_cancel_7 : decode prog_1_method_6_code 7 = .ok (.getfield 90, 3) := by decide +kernel
theorem dX0_cancel_10 : decode prog_1_method_6_code 10 = .ok (.istore 4, 2) := by decide +kernel
theorem dX0_cancel_12 : decode prog_1_method_6_code 12 = .ok (.iload 4, 2) := by decide +kernel
theorem dX0_cancel_14 : decode prog_1_method_6_code 14 = .ok (.iconst 2, 1) := by decide +kernel
theorem dX0_cancel_15 : decode prog_1_method_6_code 15 = .ok (.if_icmp .gt 13, 3) := by decide +kernel
theorem dX0_cancel_18 : decode prog_1_method_6_code 18 = .ok (.iload 4, 2) := by decide +kernel
theorem dX0_cancel_20 : decode prog_1_method_6_code 20 = .ok (.iconst 2, 1) := by decide +kernel
theorem dX0_cancel_21 : decode prog_1_method_6_code 21 = .ok (.if_icmp .ne 17, 3) := by decide +kernel
theorem dX0_cancel_24 : decode prog_1_method_6_code 24 = .ok (.iload_n 2, 1) := by decide +kernel
theorem dX0_cancel_25 : decode prog_1_method_6_code 25 = .ok (.ifCond .ne 13, 3) := by decide +kernel
theorem dX0_cancel_28 : decode prog_1_method_6_code 28 = .ok (.new 99, 3) := by decide +kernel
theorem dX0_cancel_31 : decode prog_1_method_6_code 31 = .ok (.dup, 1) := by decide +kernel
theorem dX0_cancel_32 : decode prog_1_method_6_code 32 = .ok (.ldc 125, 2) := by decide +kernel
theorem dX0_cancel_34 : decode prog_1_method_6_code 34 = .ok (.invokespecial 103, 3) := by decide +kernel
theorem dX0_cancel_37 : decode prog_1_method_6_code 37 = .ok (.athrow, 1) := by decide +kernel
theorem dX0_cancel_38 : decode prog_1_method_6_code 38 = .ok (.aload_n 3, 1) := by decide +kernel
theorem dX0_cancel_39 : decode prog_1_method_6_code 39 = .ok (.iconst 5, 1) := by decide +kernel
theorem dX0_cancel_40 : decode prog_1_method_6_code 40 = .ok (.putfield 90, 3) := by decide +kernel
theorem dX0_cancel_43 : decode prog_1_method_6_code 43 = .ok (.iload 4, 2) := by decide +kernel
theorem dX0_cancel_45 : decode prog_1_method_6_code 45 = .ok (.iconst 1, 1) := by decide +kernel
theorem dX0_cancel_46 : decode prog_1_method_6_code 46 = .ok (.if_icmp .ne 19, 3) := by decide +kernel
theorem dX0_cancel_49 : decode prog_1_method_6_code 49 = .ok (.aload_n 0, 1) := by decide +kernel
theorem dX0_cancel_50 : decode prog_1_method_6_code 50 = .ok (.getfield 25, 3) := by decide +kernel
theorem dX0_cancel_53 : decode prog_1_method_6_code 53 = .ok (.aload_n 0, 1) := by decide +kernel
theorem dX0_cancel_54 : decode prog_1_method_6_code 54 = .ok (.getfield 25, 3) := by decide +kernel
theorem dX0_cancel_57 : decode prog_1_method_6_code 57 = .ok (.aload_n 3, 1) := by decide +kernel
theorem dX0_cancel_58 : decode prog_1_method_6_code 58 = .ok (.invokevirtual 127, 3) := by decide +kernel
theorem dX0_cancel_61 : decode prog_1_method_6_code 61 = .ok (.invokevirtual 131, 3) := by decide +kernel
theorem dX0_cancel_64 : decode prog_1_method_6_code 64 = .ok (.pop, 1) := by decide +kernel
theorem dX0_cancel_65 : decode prog_1_method_6_code 65 = .ok (.iload 4, 2) := by decide +kernel
theorem dX0_cancel_67 : decode prog_1_method_6_code 67 = .ok (.iconst 2, 1) := by decide +kernel
theorem dX0_cancel_68 : decode prog_1_method_6_code 68 = .ok (.if_icmp .ne 22, 3) := by decide +kernel
theorem dX0_cancel_71 : decode prog_1_method_6_code 71 = .ok (.aload_n 0, 1) := by decide +kernel
theorem dX0_cancel_72 : decode prog_1_method_6_code 72 = .ok (.aload_n 0, 1) := by decide +kernel
theorem dX0_cancel_73 : decode prog_1_method_6_code 73 = .ok (.getfield 18, 3) := by decide +kernel
theorem dX0_cancel_76 : decode prog_1_method_6_code 76 = .ok (.aload_n 0, 1) := by decide +kernel
theorem dX0_cancel_77 : decode prog_1_method_6_code 77 = .ok (.getfield 18, 3) := by decide +kernel
theorem dX0_cancel_80 : decode prog_1_method_6_code 80 = .ok (.aload_n 3, 1) := by decide +kernel
theorem dX0_cancel_81 : decode prog_1_method_6_code 81 = .ok (.invokevirtual 134, 3) := by decide +kernel
theorem dX0_cancel_84 : decode prog_1_method_6_code 84 = .ok (.invokevirtual 135, 3) := by decide +kernel
theorem dX0_cancel_87 : decode prog_1_method_6_code 87 = .ok (.invokevirtual 139, 3) := by decide +kernel
theorem dX0_cancel_90 : decode prog_1_method_6_code 90 = .ok (.aload_n 0, 1) := by decide +kernel
theorem dX0_cancel_91 : decode prog_1_method_6_code 91 = .ok (.invokevirtual 122, 3) := by decide +kernel
theorem dX0_cancel_94 : decode prog_1_method_6_code 94 = .ok (.iload 4, 2) := by decide +kernel
theorem dX0_cancel_96 : decode prog_1_method_6_code 96 = .ok (.ireturn, 1) := by decide +kernel
def wpX0_cancel (K : KX) (post : Int32 → gS → Prop) (px : String → gS → Prop) (u : gS) (p1 : Int32) (p2 : Int32) : Prop :=
  wpX0_known K (fun (r1 : Option Nat) (u2 : gS) => ∃ y3 : Nat, r1 = some y3 ∧ y3 ∈ K.2.2.1 ∧ (∀ x5 : Int32, x5 = sA u2 0 y3 → (((2 < x5 → (px "java/lang/UnsupportedOperationException" u2)) ∧ (¬ 2 < x5 → (((¬ x5 = 2 → (∀ u8 : gS, u8 = tA u2 0 y3 5 → (((¬ x5 = 1 → (((¬ x5 = 2 → (wpX0_endIfSettled K (fun (u12 : gS) => post x5 u12) u8)) ∧ (x5 = 2 → (wpX1_placeOf K (fun (r13 : Int32) (u14 : gS) => wpX1_at K (fun (r15 : Option Nat) (u16 : gS) => wpX0_freeWorker K (fun (u18 : gS) => wpX0_endIfSettled K (fun (u20 : gS) => post x5 u20) u18) u16 r15) u14 r13) u8 (some y3)))))) ∧ (x5 = 1 → (wpX2_placeOf K (fun (r21 : Int32) (u22 : gS) => wpX2_removeAt K (fun (r23 : Option Nat) (u24 : gS) => ((¬ x5 = 2 → (wpX0_endIfSettled K (fun (u27 : gS) => post x5 u27) u24)) ∧ (x5 = 2 → (wpX1_placeOf K (fun (r28 : Int32) (u29 : gS) => wpX1_at K (fun (r30 : Option Nat) (u31 : gS) => wpX0_freeWorker K (fun (u33 : gS) => wpX0_endIfSettled K (fun (u35 : gS) => post x5 u35) u33) u31 r30) u29 r28) u24 (some y3))))) u22 r21) u8 (some y3))))))) ∧ (x5 = 2 → (((¬ p2 = 0 → (∀ u37 : gS, u37 = tA u2 0 y3 5 → (((¬ x5 = 1 → (((¬ x5 = 2 → (wpX0_endIfSettled K (fun (u41 : gS) => post x5 u41) u37)) ∧ (x5 = 2 → (wpX1_placeOf K (fun (r42 : Int32) (u43 : gS) => wpX1_at K (fun (r44 : Option Nat) (u45 : gS) => wpX0_freeWorker K (fun (u47 : gS) => wpX0_endIfSettled K (fun (u49 : gS) => post x5 u49) u47) u45 r44) u43 r42) u37 (some y3)))))) ∧ (x5 = 1 → (wpX2_placeOf K (fun (r50 : Int32) (u51 : gS) => wpX2_removeAt K (fun (r52 : Option Nat) (u53 : gS) => ((¬ x5 = 2 → (wpX0_endIfSettled K (fun (u56 : gS) => post x5 u56) u53)) ∧ (x5 = 2 → (wpX1_placeOf K (fun (r57 : Int32) (u58 : gS) => wpX1_at K (fun (r59 : Option Nat) (u60 : gS) => wpX0_freeWorker K (fun (u62 : gS) => wpX0_endIfSettled K (fun (u64 : gS) => post x5 u64) u62) u60 r59) u58 r57) u53 (some y3))))) u51 r50) u37 (some y3))))))) ∧ (p2 = 0 → (px "java/lang/UnsupportedOperationException" u2)))))))))))) px u p1

set_option maxHeartbeats 8000000 in
set_option maxRecDepth 100000 in
theorem cX0_cancel (l : Launch) (hl9 : l.stackTraces = false) (dC : Nat → ClassId) (dI : Nat → Nat → Nat) (ad : Nat → Nat) (ca : Nat → ClassId) (K : KX) (sz : Nat) (u : gS) (p1 : Int32) (p2 : Int32) (post : Int32 → gS → Prop) (px : String → gS → Prop)  (h : wpX0_cancel K post px u p1 p2) : vx_Met l ⟨"WorkHall", "cancel", "(IZ)I"⟩ (gw ⟨"WorkHall", "cancel", "(IZ)I"⟩ prog_1_method_6_code 5 (some .int)) ({ frames := 9, cells := 3, slots := 18, locals := 360 } : Room) (va_Pc [.ref (ad 0), .int p1, .int p2] (gB (dC, dI) vwCl (xT ca) xE (wX ad ca K u) sz)) (va_Qi post (gAt (dC, dI) vwCl (xT ca) (wX ad ca K) (va_A (wX ad ca K u) sz)) (va_A (wX ad ca K u) sz)) (gX (dC, dI) vwCl (xT ca) (wX ad ca K) px (va_A (wX ad ca K u) sz)) 3 18 (va_A (wX ad ca K u) sz) := by
  refine vx_ofW (cc := prog_1_method_6_code) (maxL := 5) (ret := (some .int)) (by decide) rfl ?_
  intro p e s m args below meth c s₁ B hml hno hv
  obtain ⟨rfl, hsz, hP, hK, hD0, hE⟩ := hv
  have hx := B.exec
  have hb := B.bytes
  have hr := B.returns
  have hts : ∀ w ∈ gW, w.before _ s = true := fun w h9 => atoms_spec (ws := (gw ⟨"WorkHall", "cancel", "(IZ)I"⟩ prog_1_method_6_code 5 (some .int))) B.pre w (List.mem_cons_of_mem _ h9)
  have hown : s.vm.findClass RX0 = some m.cls := findClass_of_methodNamed B.named
  have hlocks := B.notSynchronized
  subst hsz
  have hD := hD0.self (sz := s.heap.size)
  generalize hAe : va_A (wX ad ca K u) s.heap.size = A at hD hE ⊢
  have hA : ∀ q : Nat, s.heap.size ≤ q → A q := fun q h => by rw [← hAe]; exact Or.inr h
  obtain ⟨H, hHe⟩ : ∃ z : Heap, z = s.heap := ⟨_, rfl⟩
  rw [← hHe]
  have hS : va_S A s.heap H [] := by rw [hHe]; exact va_S.rf
  have hP : va_P (dC, dI) vwCl (wX ad ca K u) H := by rw [hHe]; exact hP
  have hl := lv_entry ([.ref (ad 0), .int p1, .int p2]) (n := 5) (Nat.le_of_ble_eq_true rfl)
  rw [lg_entry_eq]
  generalize (lg_sl ([.ref (ad 0), .int p1, .int p2]) ++ List.replicate (5 - (lg_sl ([.ref (ad 0), .int p1, .int p2])).length) Slot.unset).toArray = ls at hl ⊢
  have hl : lv_has ls 5 [(0, .ref (ad 0)), (1, .int p1), (2, .int p2)] := hl
  clear hAe
  refine lv_aload_n hx hb dX0_cancel_0 rfl (lv_at hl 0 rfl) ?_
  refine lv_iload_n hx hb dX0_cancel_1 rfl (lv_at hl 1 rfl) ?_
  refine gxc_q (w := wX ad ca K) (u := u) (vx_runV (As := [.int p1]) (rest := []) ⟨hx, hb, hml, hown, hts⟩ (cX0_known l hl9 dC dI ad ca K H.size u p1 _ _ h) (cwV 1 hts (gG_V wd_364 wd_366 wd_1 wd_46 wd_367) rfl rfl rfl (by decide +kernel) ⟨Nat.le_of_ble_eq_true rfl, Nat.le_of_ble_eq_true rfl⟩) ⟨gB_blind xE_ok, va_recv hK hP (ci := 0) (q0 := 0) rfl rfl, gB_pre xE_ok hP hK hD hE hS hA⟩ rfl rfl hl.1 rfl (lv_room (Nat.le_of_ble_eq_true rfl)) dX0_cancel_2 ⟨Nat.le_of_ble_eq_true rfl, Nat.le_of_ble_eq_true rfl⟩) hD hS hA (fun E9 ce9 q9 u9 H locs h hP hD hS hce hcv hcl => gx_out hno hlocks h hP hK hD hS hce hcv hcl (Nat.le_of_ble_eq_true rfl) (Nat.le_of_ble_eq_true rfl)) (fun r1 u2 H locs h hP hD hS => ?_)
  refine gq_astore_n (r := r1) (lv' := [(3, va_rf r1), (0, .ref (ad 0)), (1, .int p1), (2, .int p2)]) hx hb dX0_cancel_5 rfl hl (by decide) rfl (fun ls hl => ?_)
  refine gq_aload_n (r := r1) hx hb dX0_cancel_6 rfl (lv_at hl 0 rfl) ?_
  obtain ⟨y3, rfl, hy4, h⟩ := h
  obtain ⟨k9, hk9⟩ := xJ_get hy4
  refine va_get (D := (dC, dI)) (ci := 5) (v := .int (sA u2 0 y3)) (C := RX5) (T := TX5) (N := 9) hx hb hts uwX5 hown hK hP k9 hk9 rfl 5 (by decide) (hts _ wd_327) (fun _ h9 => h9) rfl dX0_cancel_7 ?_
  refine lv_topi (fun x5 ex5 => ?_)
  have h := h x5 ex5
  refine lv_istore (lv' := [(4, .int x5), (3, .ref y3), (0, .ref (ad 0)), (1, .int p1), (2, .int p2)]) hx hb dX0_cancel_10 hl (by decide) rfl (fun ls hl => ?_)
  refine lv_iload hx hb dX0_cancel_12 (lv_at hl 0 rfl) ?_
  refine lv_iconst (v := 2) hx hb dX0_cancel_14 (by decide) ?_
  refine lv_icmp_gt (tgt := 28) hx hb dX0_cancel_15 (by decide) (fun c6 => ?_) (fun c6 => ?_)
  · have h := h.1 c6
    obtain ⟨sa9, hs9⟩ := xE_text hE 125 "the job can not be cancelled" (by decide +kernel); exact vx_throwS (names := xSup) hx hb hl9 hown (by decide +kernel) (by decide +kernel) (hts _ wd_459) (hts _ wd_60) hs9 (tw_uoe hts (xE_face hE)) tg_uoe (xE_U hE) (xE_N hE) hS (hl.1.trans hml.symm) dX0_cancel_28 dX0_cancel_31 dX0_cancel_32 dX0_cancel_34 dX0_cancel_37 (fun x hx => (hno x hx).elim) (Nat.le_of_ble_eq_true rfl) (Nat.le_of_ble_eq_true rfl) (Nat.le_of_ble_eq_true rfl) (Nat.le_of_ble_eq_true rfl) hlocks (fun t ha hz hq => gx_thrown h hP hK hD hS ha hz hq) hS.2.2 (Nat.le_of_ble_eq_true rfl) (Nat.le_of_ble_eq_true rfl)
  · have h := h.2 c6
    refine lv_iload hx hb dX0_cancel_18 (lv_at hl 0 rfl) ?_
    refine lv_iconst (v := 2) hx hb dX0_cancel_20 (by decide) ?_
    refine lv_icmp_ne (tgt := 38) hx hb dX0_cancel_21 (by decide) (fun c7 => ?_) (fun c7 => ?_)
    · have h := h.1 c7
      refine lv_aload_n hx hb dX0_cancel_38 rfl (lv_at hl 1 rfl) ?_
      refine lv_iconst (v := 5) hx hb dX0_cancel_39 (by decide) ?_
      obtain ⟨k9, hk9⟩ := xJ_get hy4
      have e9 := xJ_state (v := 5) hD hy4 hk9
      refine va_put (D := (dC, dI)) (ci := 5) (v := .int 5) (ty := tyX5 5) (C := RX5) (T := TX5) (N := 9) hx hb hts uwX5 tyX5 tyX5_ok nmX5 hown hK hP hD hS k9 hk9 rfl 5 (by decide) (hts _ wd_327) (fun _ h9 => h9) rfl (tyX5_ok 5 (by decide)) rfl rfl (Nat.le_of_ble_eq_true rfl) dX0_cancel_40 (fun H locs hP hD hS => ?_)
      obtain ⟨u8, eu8⟩ : ∃ z : gS, z = tA u2 0 y3 5 := ⟨_, rfl⟩
      have hP : va_P (dC, dI) vwCl (wX ad ca K u8) H := by rw [eu8, ← e9]; exact hP
      have hD : va_D A (wX ad ca K u8) := by rw [eu8, ← e9]; exact hD
      have h := h u8 eu8
      refine lv_iload hx hb dX0_cancel_43 (lv_at hl 0 rfl) ?_
      refine lv_iconst (v := 1) hx hb dX0_cancel_45 (by decide) ?_
      refine lv_icmp_ne (tgt := 65) hx hb dX0_cancel_46 (by decide) (fun c9 => ?_) (fun c9 => ?_)
      · have h := h.1 c9
        refine lv_iload hx hb dX0_cancel_65 (lv_at hl 0 rfl) ?_
        refine lv_iconst (v := 2) hx hb dX0_cancel_67 (by decide) ?_
        refine lv_icmp_ne (tgt := 90) hx hb dX0_cancel_68 (by decide) (fun c10 => ?_) (fun c10 => ?_)
        · have h := h.1 c10
          refine lv_aload_n hx hb dX0_cancel_90 rfl (lv_at hl 2 rfl) ?_
          refine gc_v (w := wX ad ca K) (u := u8) (va_runV (As := []) (rest := []) ⟨hx, hb, hml, hown, hts⟩ (cX0_endIfSettled l dC dI ad ca K H.size u8 _ h) (cwV 0 hts (gG_V wd_525 wd_527 wd_12 wd_46 wd_528) rfl rfl rfl (by decide +kernel) ⟨Nat.le_of_ble_eq_true rfl, Nat.le_of_ble_eq_true rfl⟩) ⟨gB_blind xE_ok, va_recv hK hP (ci := 0) (q0 := 0) rfl rfl, gB_pre xE_ok hP hK hD hE hS hA⟩ rfl rfl hl.1 rfl (lv_room (Nat.le_of_ble_eq_true rfl)) dX0_cancel_91 ⟨Nat.le_of_ble_eq_true rfl, Nat.le_of_ble_eq_true rfl⟩) hD hS hA (fun u12 H locs h hP hD hS => ?_)
          refine lv_iload hx hb dX0_cancel_94 (lv_at hl 0 rfl) ?_
          refine W.widen (k := 3) (n := 18) (Nat.le_of_ble_eq_true rfl) (Nat.le_of_ble_eq_true rfl) (vx_ret ?_); exact gr_i (w := wX ad ca K) (u := u12) hx hb hr hlocks h hP hK hD hS dX0_cancel_96
        · have h := h.2 c10
          refine lv_aload_n hx hb dX0_cancel_71 rfl (lv_at hl 2 rfl) ?_
          refine lv_aload_n hx hb dX0_cancel_72 rfl (lv_at hl 2 rfl) ?_
          refine va_get (D := (dC, dI)) (ci := 0) (v := .ref (ad 2)) (C := RX0) (T := TX0) (N := 12) hx hb hts uwX0 hown hK hP 0 rfl rfl 5 (by decide) (hts _ wd_177) (fun _ h9 => h9) rfl dX0_cancel_73 ?_
          refine lv_aload_n hx hb dX0_cancel_76 rfl (lv_at hl 2 rfl) ?_
          refine va_get (D := (dC, dI)) (ci := 0) (v := .ref (ad 2)) (C := RX0) (T := TX0) (N := 12) hx hb hts uwX0 hown hK hP 0 rfl rfl 5 (by decide) (hts _ wd_177) (fun _ h9 => h9) rfl dX0_cancel_77 ?_
          refine lv_aload_n hx hb dX0_cancel_80 rfl (lv_at hl 1 rfl) ?_
          refine gc_i (w := wX ad ca K) (u := u8) (va_runV (As := [va_rf (some y3)]) (rest := [.ref (ad 2), .ref (ad 0)]) ⟨hx, hb, hml, hown, hts⟩ (cX1_placeOf l dC dI ad ca K H.size u8 (some y3) _ h) (cwV 1 hts (gG_V wd_545 wd_398 wd_399 wd_47 wd_400) rfl rfl rfl (by decide +kernel) ⟨Nat.le_of_ble_eq_true rfl, Nat.le_of_ble_eq_true rfl⟩) ⟨gB_blind xE_ok, va_recv hK hP (ci := 1) (q0 := 2) rfl rfl, gB_pre xE_ok hP hK hD hE hS hA⟩ rfl rfl hl.1 rfl (lv_room (Nat.le_of_ble_eq_true rfl)) dX0_cancel_81 ⟨Nat.le_of_ble_eq_true rfl, Nat.le_of_ble_eq_true rfl⟩) hD hS hA (fun r13 u14 H locs h hP hD hS => ?_)
          refine gc_q (w := wX ad ca K) (u := u14) (va_runV (As := [.int r13]) (rest := [.ref (ad 0)]) ⟨hx, hb, hml, hown, hts⟩ (cX1_at l dC dI ad ca K H.size u14 r13 _ h) (cwV 1 hts (gG_V wd_503 wd_402 wd_403 wd_47 wd_404) rfl rfl rfl (by decide +kernel) ⟨Nat.le_of_ble_eq_true rfl, Nat.le_of_ble_eq_true rfl⟩) ⟨gB_blind xE_ok, va_recv hK hP (ci := 1) (q0 := 2) rfl rfl, gB_pre xE_ok hP hK hD hE hS hA⟩ rfl rfl hl.1 rfl (lv_room (Nat.le_of_ble_eq_true rfl)) dX0_cancel_84 ⟨Nat.le_of_ble_eq_true rfl, Nat.le_of_ble_eq_true rfl⟩) hD hS hA (fun r15 u16 H locs h hP hD hS => ?_)
          refine gc_v (w := wX ad ca K) (u := u16) (va_runV (As := [va_rf r15]) (rest := []) ⟨hx, hb, hml, hown, hts⟩ (cX0_freeWorker l dC dI ad ca K H.size u16 r15 _ h) (cwV 1 hts (gG_V wd_517 wd_519 wd_11 wd_46 wd_520) rfl rfl rfl (by decide +kernel) ⟨Nat.le_of_ble_eq_true rfl, Nat.le_of_ble_eq_true rfl⟩) ⟨gB_blind xE_ok, va_recv hK hP (ci := 0) (q0 := 0) rfl rfl, gB_pre xE_ok hP hK hD hE hS hA⟩ rfl rfl hl.1 rfl (lv_room (Nat.le_of_ble_eq_true rfl)) dX0_cancel_87 ⟨Nat.le_of_ble_eq_true rfl, Nat.le_of_ble_eq_true rfl⟩) hD hS hA (fun u18 H locs h hP hD hS => ?_)
          refine lv_aload_n hx hb dX0_cancel_90 rfl (lv_at hl 2 rfl) ?_
          refine gc_v (w := wX ad ca K) (u := u18) (va_runV (As := []) (rest := []) ⟨hx, hb, hml, hown, hts⟩ (cX0_endIfSettled l dC dI ad ca K H.size u18 _ h) (cwV 0 hts (gG_V wd_525 wd_527 wd_12 wd_46 wd_528) rfl rfl rfl (by decide +kernel) ⟨Nat.le_of_ble_eq_true rfl, Nat.le_of_ble_eq_true rfl⟩) ⟨gB_blind xE_ok, va_recv hK hP (ci := 0) (q0 := 0) rfl rfl, gB_pre xE_ok hP hK hD hE hS hA⟩ rfl rfl hl.1 rfl (lv_room (Nat.le_of_ble_eq_true rfl)) dX0_cancel_91 ⟨Nat.le_of_ble_eq_true rfl, Nat.le_of_ble_eq_true rfl⟩) hD hS hA (fun u20 H locs h hP hD hS => ?_)
          refine lv_iload hx hb dX0_cancel_94 (lv_at hl 0 rfl) ?_
          refine W.widen (k := 3) (n := 18) (Nat.le_of_ble_eq_true rfl) (Nat.le_of_ble_eq_true rfl) (vx_ret ?_); exact gr_i (w := wX ad ca K) (u := u20) hx hb hr hlocks h hP hK hD hS dX0_cancel_96
      · have h := h.2 c9
        refine lv_aload_n hx hb dX0_cancel_49 rfl (lv_at hl 2 rfl) ?_
        refine va_get (D := (dC, dI)) (ci := 0) (v := .ref (ad 4)) (C := RX0) (T := TX0) (N := 12) hx hb hts uwX0 hown hK hP 0 rfl rfl 6 (by decide) (hts _ wd_178) (fun _ h9 => h9) rfl dX0_cancel_50 ?_
        refine lv_aload_n hx hb dX0_cancel_53 rfl (lv_at hl 2 rfl) ?_
        refine va_get (D := (dC, dI)) (ci := 0) (v := .ref (ad 4)) (C := RX0) (T := TX0) (N := 12) hx hb hts uwX0 hown hK hP 0 rfl rfl 6 (by decide) (hts _ wd_178) (fun _ h9 => h9) rfl dX0_cancel_54 ?_
        refine lv_aload_n hx hb dX0_cancel_57 rfl (lv_at hl 1 rfl) ?_
        refine gc_i (w := wX ad ca K) (u := u8) (va_runV (As := [va_rf (some y3)]) (rest := [.ref (ad 4)]) ⟨hx, hb, hml, hown, hts⟩ (cX2_placeOf l dC dI ad ca K H.size u8 (some y3) _ h) (cwV 1 hts (gG_V wd_541 wd_542 wd_543 wd_49 wd_544) rfl rfl rfl (by decide +kernel) ⟨Nat.le_of_ble_eq_true rfl, Nat.le_of_ble_eq_true rfl⟩) ⟨gB_blind xE_ok, va_recv hK hP (ci := 2) (q0 := 4) rfl rfl, gB_pre xE_ok hP hK hD hE hS hA⟩ rfl rfl hl.1 rfl (lv_room (Nat.le_of_ble_eq_true rfl)) dX0_cancel_58 ⟨Nat.le_of_ble_eq_true rfl, Nat.le_of_ble_eq_true rfl⟩) hD hS hA (fun r21 u22 H locs h hP hD hS => ?_)
        refine gc_q (w := wX ad ca K) (u := u22) (va_runV (As := [.int r21]) (rest := []) ⟨hx, hb, hml, hown, hts⟩ (cX2_removeAt l dC dI ad ca K H.size u22 r21 _ h) (cwV 1 hts (gG_V wd_423 wd_424 wd_425 wd_49 wd_426) rfl rfl rfl (by decide +kernel) ⟨Nat.le_of_ble_eq_true rfl, Nat.le_of_ble_eq_true rfl⟩) ⟨gB_blind xE_ok, va_recv hK hP (ci := 2) (q0 := 4) rfl rfl, gB_pre xE_ok hP hK hD hE hS hA⟩ rfl rfl hl.1 rfl (lv_room (Nat.le_of_ble_eq_true rfl)) dX0_cancel_61 ⟨Nat.le_of_ble_eq_true rfl, Nat.le_of_ble_eq_true rfl⟩) hD hS hA (fun r23 u24 H locs h hP hD hS => ?_)
        refine lv_pop hx hb dX0_cancel_64 (by cases r23 <;> rfl) ?_
        refine lv_iload hx hb dX0_cancel_65 (lv_at hl 0 rfl) ?_
        refine lv_iconst (v := 2) hx hb dX0_cancel_67 (by decide) ?_
        refine lv_icmp_ne (tgt := 90) hx hb dX0_cancel_68 (by decide) (fun c25 => ?_) (fun c25 => ?_)
        · have h := h.1 c25
          refine lv_aload_n hx hb dX0_cancel_90 rfl (lv_at hl 2 rfl) ?_
          refine gc_v (w := wX ad ca K) (u := u24) (va_runV (As := []) (rest := []) ⟨hx, hb, hml, hown, hts⟩ (cX0_endIfSettled l dC dI ad ca K H.size u24 _ h) (cwV 0 hts (gG_V wd_525 wd_527 wd_12 wd_46 wd_528) rfl rfl rfl (by decide +kernel) ⟨Nat.le_of_ble_eq_true rfl, Nat.le_of_ble_eq_true rfl⟩) ⟨gB_blind xE_ok, va_recv hK hP (ci := 0) (q0 := 0) rfl rfl, gB_pre xE_ok hP hK hD hE hS hA⟩ rfl rfl hl.1 rfl (lv_room (Nat.le_of_ble_eq_true rfl)) dX0_cancel_91 ⟨Nat.le_of_ble_eq_true rfl, Nat.le_of_ble_eq_true rfl⟩) hD hS hA (fun u27 H locs h hP hD hS => ?_)
          refine lv_iload hx hb dX0_cancel_94 (lv_at hl 0 rfl) ?_
          refine W.widen (k := 3) (n := 18) (Nat.le_of_ble_eq_true rfl) (Nat.le_of_ble_eq_true rfl) (vx_ret ?_); exact gr_i (w := wX ad ca K) (u := u27) hx hb hr hlocks h hP hK hD hS dX0_cancel_96
        · have h := h.2 c25
          refine lv_aload_n hx hb dX0_cancel_71 rfl (lv_at hl 2 rfl) ?_
          refine lv_aload_n hx hb dX0_cancel_72 rfl (lv_at hl 2 rfl) ?_
          refine va_get (D := (dC, dI)) (ci := 0) (v := .ref (ad 2)) (C := RX0) (T := TX0) (N := 12) hx hb hts uwX0 hown hK hP 0 rfl rfl 5 (by decide) (hts _ wd_177) (fun _ h9 => h9) rfl dX0_cancel_73 ?_
          refine lv_aload_n hx hb dX0_cancel_76 rfl (lv_at hl 2 rfl) ?_
          refine va_get (D := (dC, dI)) (ci := 0) (v := .ref (ad 2)) (C := RX0) (T := TX0) (N := 12) hx hb hts uwX0 hown hK hP 0 rfl rfl 5 (by decide) (hts _ wd_177) (fun _ h9 => h9) rfl dX0_cancel_77 ?_
          refine lv_aload_n hx hb dX0_cancel_80 rfl (lv_at hl 1 rfl) ?_
          refine gc_i (w := wX ad ca K) (u := u24) (va_runV (As := [va_rf (some y3)]) (rest := [.ref (ad 2), .ref (ad 0)]) ⟨hx, hb, hml, hown, hts⟩ (cX1_placeOf l dC dI ad ca K H.size u24 (some y3) _ h) (cwV 1 hts (gG_V wd_545 wd_398 wd_399 wd_47 wd_400) rfl rfl rfl (by decide +kernel) ⟨Nat.le_of_ble_eq_true rfl, Nat.le_of_ble_eq_true rfl⟩) ⟨gB_blind xE_ok, va_recv hK hP (ci := 1) (q0 := 2) rfl rfl, gB_pre xE_ok hP hK hD hE hS hA⟩ rfl rfl hl.1 rfl (lv_room (Nat.le_of_ble_eq_true rfl)) dX0_cancel_81 ⟨Nat.le_of_ble_eq_true rfl, Nat.le_of_ble_eq_true rfl⟩) hD hS hA (fun r28 u29 H locs h hP hD hS => ?_)
          refine gc_q (w := wX ad ca K) (u := u29) (va_runV (As := [.int r28]) (rest := [.ref (ad 0)]) ⟨hx, hb, hml, hown, hts⟩ (cX1_at l dC dI ad ca K H.size u29 r28 _ h) (cwV 1 hts (gG_V wd_503 wd_402 wd_403 wd_47 wd_404) rfl rfl rfl (by decide +kernel) ⟨Nat.le_of_ble_eq_true rfl, Nat.le_of_ble_eq_true rfl⟩) ⟨gB_blind xE_ok, va_recv hK hP (ci := 1) (q0 := 2) rfl rfl, gB_pre xE_ok hP hK hD hE hS hA⟩ rfl rfl hl.1 rfl (lv_room (Nat.le_of_ble_eq_true rfl)) dX0_cancel_84 ⟨Nat.le_of_ble_eq_true rfl, Nat.le_of_ble_eq_true rfl⟩) hD hS hA (fun r30 u31 H locs h hP hD hS => ?_)
          refine gc_v (w := wX ad ca K) (u := u31) (va_runV (As := [va_rf r30]) (rest := []) ⟨hx, hb, hml, hown, hts⟩ (cX0_freeWorker l dC dI ad ca K H.size u31 r30 _ h) (cwV 1 hts (gG_V wd_517 wd_519 wd_11 wd_46 wd_520) rfl rfl rfl (by decide +kernel) ⟨Nat.le_of_ble_eq_true rfl, Nat.le_of_ble_eq_true rfl⟩) ⟨gB_blind xE_ok, va_recv hK hP (ci := 0) (q0 := 0) rfl rfl, gB_pre xE_ok hP hK hD hE hS hA⟩ rfl rfl hl.1 rfl (lv_room (Nat.le_of_ble_eq_true rfl)) dX0_cancel_87 ⟨Nat.le_of_ble_eq_true rfl, Nat.le_of_ble_eq_true rfl⟩) hD hS hA (fun u33 H locs h hP hD hS => ?_)
          refine lv_aload_n hx hb dX0_cancel_90 rfl (lv_at hl 2 rfl) ?_
          refine gc_v (w := wX ad ca K) (u := u33) (va_runV (As := []) (rest := []) ⟨hx, hb, hml, hown, hts⟩ (cX0_endIfSettled l dC dI ad ca K H.size u33 _ h) (cwV 0 hts (gG_V wd_525 wd_527 wd_12 wd_46 wd_528) rfl rfl rfl (by decide +kernel) ⟨Nat.le_of_ble_eq_true rfl, Nat.le_of_ble_eq_true rfl⟩) ⟨gB_blind xE_ok, va_recv hK hP (ci := 0) (q0 := 0) rfl rfl, gB_pre xE_ok hP hK hD hE hS hA⟩ rfl rfl hl.1 rfl (lv_room (Nat.le_of_ble_eq_true rfl)) dX0_cancel_91 ⟨Nat.le_of_ble_eq_true rfl, Nat.le_of_ble_eq_true rfl⟩) hD hS hA (fun u35 H locs h hP hD hS => ?_)
          refine lv_iload hx hb dX0_cancel_94 (lv_at hl 0 rfl) ?_
          refine W.widen (k := 3) (n := 18) (Nat.le_of_ble_eq_true rfl) (Nat.le_of_ble_eq_true rfl) (vx_ret ?_); exact gr_i (w := wX ad ca K) (u := u35) hx hb hr hlocks h hP hK hD hS dX0_cancel_96
    · have h := h.2 c7
      refine lv_iload_n hx hb dX0_cancel_24 rfl (lv_at hl 4 rfl) ?_
      refine lv_if_ne (tgt := 38) hx hb dX0_cancel_25 (by decide) (fun c36 => ?_) (fun c36 => ?_)
      · have h := h.1 c36
        refine lv_aload_n hx hb dX0_cancel_38 rfl (lv_at hl 1 rfl) ?_
        refine lv_iconst (v := 5) hx hb dX0_cancel_39 (by decide) ?_
        obtain ⟨k9, hk9⟩ := xJ_get hy4
        have e9 := xJ_state (v := 5) hD hy4 hk9
        refine va_put (D := (dC, dI)) (ci := 5) (v := .int 5) (ty := tyX5 5) (C := RX5) (T := TX5) (N := 9) hx hb hts uwX5 tyX5 tyX5_ok nmX5 hown hK hP hD hS k9 hk9 rfl 5 (by decide) (hts _ wd_327) (fun _ h9 => h9) rfl (tyX5_ok 5 (by decide)) rfl rfl (Nat.le_of_ble_eq_true rfl) dX0_cancel_40 (fun H locs hP hD hS => ?_)
        obtain ⟨u37, eu37⟩ : ∃ z : gS, z = tA u2 0 y3 5 := ⟨_, rfl⟩
        have hP : va_P (dC, dI) vwCl (wX ad ca K u37) H := by rw [eu37, ← e9]; exact hP
        have hD : va_D A (wX ad ca K u37) := by rw [eu37, ← e9]; exact hD
        have h := h u37 eu37
        refine lv_iload hx hb dX0_cancel_43 (lv_at hl 0 rfl) ?_
        refine lv_iconst (v := 1) hx hb dX0_cancel_45 (by decide) ?_
        refine lv_icmp_ne (tgt := 65) hx hb dX0_cancel_46 (by decide) (fun c38 => ?_) (fun c38 => ?_)
        · have h := h.1 c38
          refine lv_iload hx hb dX0_cancel_65 (lv_at hl 0 rfl) ?_
          refine lv_iconst (v := 2) hx hb dX0_cancel_67 (by decide) ?_
          refine lv_icmp_ne (tgt := 90) hx hb dX0_cancel_68 (by decide) (fun c39 => ?_) (fun c39 => ?_)
          · have h := h.1 c39
            refine lv_aload_n hx hb dX0_cancel_90 rfl (lv_at hl 2 rfl) ?_
            refine gc_v (w := wX ad ca K) (u := u37) (va_runV (As := []) (rest := []) ⟨hx, hb, hml, hown, hts⟩ (cX0_endIfSettled l dC dI ad ca K H.size u37 _ h) (cwV 0 hts (gG_V wd_525 wd_527 wd_12 wd_46 wd_528) rfl rfl rfl (by decide +kernel) ⟨Nat.le_of_ble_eq_true rfl, Nat.le_of_ble_eq_true rfl⟩) ⟨gB_blind xE_ok, va_recv hK hP (ci := 0) (q0 := 0) rfl rfl, gB_pre xE_ok hP hK hD hE hS hA⟩ rfl rfl hl.1 rfl (lv_room (Nat.le_of_ble_eq_true rfl)) dX0_cancel_91 ⟨Nat.le_of_ble_eq_true rfl, Nat.le_of_ble_eq_true rfl⟩) hD hS hA (fun u41 H locs h hP hD hS => ?_)
            refine lv_iload hx hb dX0_cancel_94 (lv_at hl 0 rfl) ?_
            refine W.widen (k := 3) (n := 18) (Nat.le_of_ble_eq_true rfl) (Nat.le_of_ble_eq_true rfl) (vx_ret ?_); exact gr_i (w := wX ad ca K) (u := u41) hx hb hr hlocks h hP hK hD hS dX0_cancel_96
          · have h := h.2 c39
            refine lv_aload_n hx hb dX0_cancel_71 rfl (lv_at hl 2 rfl) ?_
            refine lv_aload_n hx hb dX0_cancel_72 rfl (lv_at hl 2 rfl) ?_
            refine va_get (D := (dC, dI)) (ci := 0) (v := .ref (ad 2)) (C := RX0) (T := TX0) (N := 12) hx hb hts uwX0 hown hK hP 0 rfl rfl 5 (by decide) (hts _ wd_177) (fun _ h9 => h9) rfl dX0_cancel_73 ?_
            refine lv_aload_n hx hb dX0_cancel_76 rfl (lv_at hl 2 rfl) ?_
            refine va_get (D := (dC, dI)) (ci := 0) (v := .ref (ad 2)) (C := RX0) (T := TX0) (N := 12) hx hb hts uwX0 hown hK hP 0 rfl rfl 5 (by decide) (hts _ wd_177) (fun _ h9 => h9) rfl dX0_cancel_77 ?_
            refine lv_aload_n hx hb dX0_cancel_80 rfl (lv_at hl 1 rfl) ?_
            refine gc_i (w := wX ad ca K) (u := u37) (va_runV (As := [va_rf (some y3)]) (rest := [.ref (ad 2), .ref (ad 0)]) ⟨hx, hb, hml, hown, hts⟩ (cX1_placeOf l dC dI ad ca K H.size u37 (some y3) _ h) (cwV 1 hts (gG_V wd_545 wd_398 wd_399 wd_47 wd_400) rfl rfl rfl (by decide +kernel) ⟨Nat.le_of_ble_eq_true rfl, Nat.le_of_ble_eq_true rfl⟩) ⟨gB_blind xE_ok, va_recv hK hP (ci := 1) (q0 := 2) rfl rfl, gB_pre xE_ok hP hK hD hE hS hA⟩ rfl rfl hl.1 rfl (lv_room (Nat.le_of_ble_eq_true rfl)) dX0_cancel_81 ⟨Nat.le_of_ble_eq_true rfl, Nat.le_of_ble_eq_true rfl⟩) hD hS hA (fun r42 u43 H locs h hP hD hS => ?_)
            refine gc_q (w := wX ad ca K) (u := u43) (va_runV (As := [.int r42]) (rest := [.ref (ad 0)]) ⟨hx, hb, hml, hown, hts⟩ (cX1_at l dC dI ad ca K H.size u43 r42 _ h) (cwV 1 hts (gG_V wd_503 wd_402 wd_403 wd_47 wd_404) rfl rfl rfl (by decide +kernel) ⟨Nat.le_of_ble_eq_true rfl, Nat.le_of_ble_eq_true rfl⟩) ⟨gB_blind xE_ok, va_recv hK hP (ci := 1) (q0 := 2) rfl rfl, gB_pre xE_ok hP hK hD hE hS hA⟩ rfl rfl hl.1 rfl (lv_room (Nat.le_of_ble_eq_true rfl)) dX0_cancel_84 ⟨Nat.le_of_ble_eq_true rfl, Nat.le_of_ble_eq_true rfl⟩) hD hS hA (fun r44 u45 H locs h hP hD hS => ?_)
            refine gc_v (w := wX ad ca K) (u := u45) (va_runV (As := [va_rf r44]) (rest := []) ⟨hx, hb, hml, hown, hts⟩ (cX0_freeWorker l dC dI ad ca K H.size u45 r44 _ h) (cwV 1 hts (gG_V wd_517 wd_519 wd_11 wd_46 wd_520) rfl rfl rfl (by decide +kernel) ⟨Nat.le_of_ble_eq_true rfl, Nat.le_of_ble_eq_true rfl⟩) ⟨gB_blind xE_ok, va_recv hK hP (ci := 0) (q0 := 0) rfl rfl, gB_pre xE_ok hP hK hD hE hS hA⟩ rfl rfl hl.1 rfl (lv_room (Nat.le_of_ble_eq_true rfl)) dX0_cancel_87 ⟨Nat.le_of_ble_eq_true rfl, Nat.le_of_ble_eq_true rfl⟩) hD hS hA (fun u47 H locs h hP hD hS => ?_)
            refine lv_aload_n hx hb dX0_cancel_90 rfl (lv_at hl 2 rfl) ?_
            refine gc_v (w := wX ad ca K) (u := u47) (va_runV (As := []) (rest := []) ⟨hx, hb, hml, hown, hts⟩ (cX0_endIfSettled l dC dI ad ca K H.size u47 _ h) (cwV 0 hts (gG_V wd_525 wd_527 wd_12 wd_46 wd_528) rfl rfl rfl (by decide +kernel) ⟨Nat.le_of_ble_eq_true rfl, Nat.le_of_ble_eq_true rfl⟩) ⟨gB_blind xE_ok, va_recv hK hP (ci := 0) (q0 := 0) rfl rfl, gB_pre xE_ok hP hK hD hE hS hA⟩ rfl rfl hl.1 rfl (lv_room (Nat.le_of_ble_eq_true rfl)) dX0_cancel_91 ⟨Nat.le_of_ble_eq_true rfl, Nat.le_of_ble_eq_true rfl⟩) hD hS hA (fun u49 H locs h hP hD hS => ?_)
            refine lv_iload hx hb dX0_cancel_94 (lv_at hl 0 rfl) ?_
            refine W.widen (k := 3) (n := 18) (Nat.le_of_ble_eq_true rfl) (Nat.le_of_ble_eq_true rfl) (vx_ret ?_); exact gr_i (w := wX ad ca K) (u := u49) hx hb hr hlocks h hP hK hD hS dX0_cancel_96
        · have h := h.2 c38
          refine lv_aload_n hx hb dX0_cancel_49 rfl (lv_at hl 2 rfl) ?_
          refine va_get (D := (dC, dI)) (ci := 0) (v := .ref (ad 4)) (C := RX0) (T := TX0) (N := 12) hx hb hts uwX0 hown hK hP 0 rfl rfl 6 (by decide) (hts _ wd_178) (fun _ h9 => h9) rfl dX0_cancel_50 ?_
          refine lv_aload_n hx hb dX0_cancel_53 rfl (lv_at hl 2 rfl) ?_
          refine va_get (D := (dC, dI)) (ci := 0) (v := .ref (ad 4)) (C := RX0) (T := TX0) (N := 12) hx hb hts uwX0 hown hK hP 0 rfl rfl 6 (by decide) (hts _ wd_178) (fun _ h9 => h9) rfl dX0_cancel_54 ?_
          refine lv_aload_n hx hb dX0_cancel_57 rfl (lv_at hl 1 rfl) ?_
          refine gc_i (w := wX ad ca K) (u := u37) (va_runV (As := [va_rf (some y3)]) (rest := [.ref (ad 4)]) ⟨hx, hb, hml, hown, hts⟩ (cX2_placeOf l dC dI ad ca K H.size u37 (some y3) _ h) (cwV 1 hts (gG_V wd_541 wd_542 wd_543 wd_49 wd_544) rfl rfl rfl (by decide +kernel) ⟨Nat.le_of_ble_eq_true rfl, Nat.le_of_ble_eq_true rfl⟩) ⟨gB_blind xE_ok, va_recv hK hP (ci := 2) (q0 := 4) rfl rfl, gB_pre xE_ok hP hK hD hE hS hA⟩ rfl rfl hl.1 rfl (lv_room (Nat.le_of_ble_eq_true rfl)) dX0_cancel_58 ⟨Nat.le_of_ble_eq_true rfl, Nat.le_of_ble_eq_true rfl⟩) hD hS hA (fun r50 u51 H locs h hP hD hS => ?_)
          refine gc_q (w := wX ad ca K) (u := u51) (va_runV (As := [.int r50]) (rest := []) ⟨hx, hb, hml, hown, hts⟩ (cX2_removeAt l dC dI ad ca K H.size u51 r50 _ h) (cwV 1 hts (gG_V wd_423 wd_424 wd_425 wd_49 wd_426) rfl rfl rfl (by decide +kernel) ⟨Nat.le_of_ble_eq_true rfl, Nat.le_of_ble_eq_true rfl⟩) ⟨gB_blind xE_ok, va_recv hK hP (ci := 2) (q0 := 4) rfl rfl, gB_pre xE_ok hP hK hD hE hS hA⟩ rfl rfl hl.1 rfl (lv_room (Nat.le_of_ble_eq_true rfl)) dX0_cancel_61 ⟨Nat.le_of_ble_eq_true rfl, Nat.le_of_ble_eq_true rfl⟩) hD hS hA (fun r52 u53 H locs h hP hD hS => ?_)
          refine lv_pop hx hb dX0_cancel_64 (by cases r52 <;> rfl) ?_
          refine lv_iload hx hb dX0_cancel_65 (lv_at hl 0 rfl) ?_
          refine lv_iconst (v := 2) hx hb dX0_cancel_67 (by decide) ?_
          refine lv_icmp_ne (tgt := 90) hx hb dX0_cancel_68 (by decide) (fun c54 => ?_) (fun c54 => ?_)
          · have h := h.1 c54
            refine lv_aload_n hx hb dX0_cancel_90 rfl (lv_at hl 2 rfl) ?_
            refine gc_v (w := wX ad ca K) (u := u53) (va_runV (As := []) (rest := []) ⟨hx, hb, hml, hown, hts⟩ (cX0_endIfSettled l dC dI ad ca K H.size u53 _ h) (cwV 0 hts (gG_V wd_525 wd_527 wd_12 wd_46 wd_528) rfl rfl rfl (by decide +kernel) ⟨Nat.le_of_ble_eq_true rfl, Nat.le_of_ble_eq_true rfl⟩) ⟨gB_blind xE_ok, va_recv hK hP (ci := 0) (q0 := 0) rfl rfl, gB_pre xE_ok hP hK hD hE hS hA⟩ rfl rfl hl.1 rfl (lv_room (Nat.le_of_ble_eq_true rfl)) dX0_cancel_91 ⟨Nat.le_of_ble_eq_true rfl, Nat.le_of_ble_eq_true rfl⟩) hD hS hA (fun u56 H locs h hP hD hS => ?_)
            refine lv_iload hx hb dX0_cancel_94 (lv_at hl 0 rfl) ?_
            refine W.widen (k := 3) (n := 18) (Nat.le_of_ble_eq_true rfl) (Nat.le_of_ble_eq_true rfl) (vx_ret ?_); exact gr_i (w := wX ad ca K) (u := u56) hx hb hr hlocks h hP hK hD hS dX0_cancel_96
          · have h := h.2 c54
            refine lv_aload_n hx hb dX0_cancel_71 rfl (lv_at hl 2 rfl) ?_
            refine lv_aload_n hx hb dX0_cancel_72 rfl (lv_at hl 2 rfl) ?_
            refine va_get (D := (dC, dI)) (ci := 0) (v := .ref (ad 2)) (C := RX0) (T := TX0) (N := 12) hx hb hts uwX0 hown hK hP 0 rfl rfl 5 (by decide) (hts _ wd_177) (fun _ h9 => h9) rfl dX0_cancel_73 ?_
            refine lv_aload_n hx hb dX0_cancel_76 rfl (lv_at hl 2 rfl) ?_
            refine va_get (D := (dC, dI)) (ci := 0) (v := .ref (ad 2)) (C := RX0) (T := TX0) (N := 12) hx hb hts uwX0 hown hK hP 0 rfl rfl 5 (by decide) (hts _ wd_177) (fun _ h9 => h9) rfl dX0_cancel_77 ?_
            refine lv_aload_n hx hb dX0_cancel_80 rfl (lv_at hl 1 rfl) ?_
            refine gc_i (w := wX ad ca K) (u := u53) (va_runV (As := [va_rf (some y3)]) (rest := [.ref (ad 2), .ref (ad 0)]) ⟨hx, hb, hml, hown, hts⟩ (cX1_placeOf l dC dI ad ca K H.size u53 (some y3) _ h) (cwV 1 hts (gG_V wd_545 wd_398 wd_399 wd_47 wd_400) rfl rfl rfl (by decide +kernel) ⟨Nat.le_of_ble_eq_true rfl, Nat.le_of_ble_eq_true rfl⟩) ⟨gB_blind xE_ok, va_recv hK hP (ci := 1) (q0 := 2) rfl rfl, gB_pre xE_ok hP hK hD hE hS hA⟩ rfl rfl hl.1 rfl (lv_room (Nat.le_of_ble_eq_true rfl)) dX0_cancel_81 ⟨Nat.le_of_ble_eq_true rfl, Nat.le_of_ble_eq_true rfl⟩) hD hS hA (fun r57 u58 H locs h hP hD hS => ?_)
            refine gc_q (w := wX ad ca K) (u := u58) (va_runV (As := [.int r57]) (rest := [.ref (ad 0)]) ⟨hx, hb, hml, hown, hts⟩ (cX1_at l dC dI ad ca K H.size u58 r57 _ h) (cwV 1 hts (gG_V wd_503 wd_402 wd_403 wd_47 wd_404) rfl rfl rfl (by decide +kernel) ⟨Nat.le_of_ble_eq_true rfl, Nat.le_of_ble_eq_true rfl⟩) ⟨gB_blind xE_ok, va_recv hK hP (ci := 1) (q0 := 2) rfl rfl, gB_pre xE_ok hP hK hD hE hS hA⟩ rfl rfl hl.1 rfl (lv_room (Nat.le_of_ble_eq_true rfl)) dX0_cancel_84 ⟨Nat.le_of_ble_eq_true rfl, Nat.le_of_ble_eq_true rfl⟩) hD hS hA (fun r59 u60 H locs h hP hD hS => ?_)
            refine gc_v (w := wX ad ca K) (u := u60) (va_runV (As := [va_rf r59]) (rest := []) ⟨hx, hb, hml, hown, hts⟩ (cX0_freeWorker l dC dI ad ca K H.size u60 r59 _ h) (cwV 1 hts (gG_V wd_517 wd_519 wd_11 wd_46 wd_520) rfl rfl rfl (by decide +kernel) ⟨Nat.le_of_ble_eq_true rfl, Nat.le_of_ble_eq_true rfl⟩) ⟨gB_blind xE_ok, va_recv hK hP (ci := 0) (q0 := 0) rfl rfl, gB_pre xE_ok hP hK hD hE hS hA⟩ rfl rfl hl.1 rfl (lv_room (Nat.le_of_ble_eq_true rfl)) dX0_cancel_87 ⟨Nat.le_of_ble_eq_true rfl, Nat.le_of_ble_eq_true rfl⟩) hD hS hA (fun u62 H locs h hP hD hS => ?_)
            refine lv_aload_n hx hb dX0_cancel_90 rfl (lv_at hl 2 rfl) ?_
            refine gc_v (w := wX ad ca K) (u := u62) (va_runV (As := []) (rest := []) ⟨hx, hb, hml, hown, hts⟩ (cX0_endIfSettled l dC dI ad ca K H.size u62 _ h) (cwV 0 hts (gG_V wd_525 wd_527 wd_12 wd_46 wd_528) rfl rfl rfl (by decide +kernel) ⟨Nat.le_of_ble_eq_true rfl, Nat.le_of_ble_eq_true rfl⟩) ⟨gB_blind xE_ok, va_recv hK hP (ci := 0) (q0 := 0) rfl rfl, gB_pre xE_ok hP hK hD hE hS hA⟩ rfl rfl hl.1 rfl (lv_room (Nat.le_of_ble_eq_true rfl)) dX0_cancel_91 ⟨Nat.le_of_ble_eq_true rfl, Nat.le_of_ble_eq_true rfl⟩) hD hS hA (fun u64 H locs h hP hD hS => ?_)
            refine lv_iload hx hb dX0_cancel_94 (lv_at hl 0 rfl) ?_
            refine W.widen (k := 3) (n := 18) (Nat.le_of_ble_eq_true rfl) (Nat.le_of_ble_eq_true rfl) (vx_ret ?_); exact gr_i (w := wX ad ca K) (u := u64) hx hb hr hlocks h hP hK hD hS dX0_cancel_96
      · have h := h.2 c36
        obtain ⟨sa9, hs9⟩ := xE_text hE 125 "the job can not be cancelled" (by decide +kernel); exact vx_throwS (names := xSup) hx hb hl9 hown (by decide +kernel) (by decide +kernel) (hts _ wd_459) (hts _ wd_60) hs9 (tw_uoe hts (xE_face hE)) tg_uoe (xE_U hE) (xE_N hE) hS (hl.1.trans hml.symm) dX0_cancel_28 dX0_cancel_31 dX0_cancel_32 dX0_cancel_34 dX0_cancel_37 (fun x hx => (hno x hx).elim) (Nat.le_of_ble_eq_true rfl) (Nat.le_of_ble_eq_true rfl) (Nat.le_of_ble_eq_true rfl) (Nat.le_of_ble_eq_true rfl) hlocks (fun t ha hz hq => gx_thrown h hP hK hD hS ha hz hq) hS.2.2 (Nat.le_of_ble_eq_true rfl) (Nat.le_of_ble_eq_true rfl)

theorem dX0_get_0 : decode prog_1_method_7_code 0 = .ok (.aload_n 0, 1) := by decide +kernel
theorem dX0_get_1 : decode prog_1_method_7_code 1 = .ok (.iload_n 1, 1) := by decide +kernel
theorem dX0_get_2 : decode prog_1_method_7_code 2 = .ok (.invokevirtual 86, 3) := by decide +kernel
theorem dX0_get_5 : decode prog_1_method_7_code 5 = .ok (.astore_n 2, 1) := by decide +kernel
theorem dX0_get_6 : decode prog_1_method_7_code 6 = .ok (.aload_n 2, 1) := by decide +kernel
theorem dX0_get_7 : decode prog_1_method_7_code 7 = .ok (.getfield 90, 3) := by decide +kernel
theorem dX0_get_10 : decode prog_1_method_7_code 10 = .ok (.iconst 3, 1) := by decide +kernel
theorem dX0_get_11 : decode prog_1_method_7_code 11 = .ok (.if_icmp .ne 8, 3) := by decide +kernel
theorem dX0_get_14 : decode prog_1_method_7_code 14 = .ok (.aload_n 2, 1) := by decide +kernel
theorem dX0_get_15 : decode prog_1_method_7_code 15 = .ok (.getfield 143, 3) := by decide +kernel
theorem dX0_get_18 : decode prog_1_method_7_code 18 = .ok (.ireturn, 1) := by decide +kernel
theorem dX0_get_19 : decode prog_1_method_7_code 19 = .ok (.aload_n 2, 1) := by decide +kernel
theorem dX0_get_20 : decode prog_1_method_7_code 20 = .ok (.getfield 90, 3) := by decide +kernel
theorem dX0_get_23 : decode prog_1_method_7_code 23 = .ok (.iconst 4, 1) := by decide +kernel
theorem dX0_get_24 : decode prog_1_method_7_code 24 = .ok (.if_icmp .eq 13, 3) := by decide +kernel
theorem dX0_get_27 : decode prog_1_method_7_code 27 = .ok (.new 146, 3) := by decide +kernel
theorem dX0_get_30 : decode prog_1_method_7_code 30 = .ok (.dup, 1) := by decide +kernel
theorem dX0_get_31 : decode prog_1_method_7_code 31 = .ok (.ldc 148, 2) := by decide +kernel
theorem dX0_get_33 : decode prog_1_method_7_code 33 = .ok (.invokespecial 150, 3) := by decide +kernel
theorem dX0_get_36 : decode prog_1_method_7_code 36 = .ok (.athrow, 1) := by decide +kernel
theorem dX0_get_37 : decode prog_1_method_7_code 37 = .ok (.aload_n 2, 1) := by decide +kernel
theorem dX0_get_38 : decode prog_1_method_7_code 38 = .ok (.getfield 151, 3) := by decide +kernel
theorem dX0_get_41 : decode prog_1_method_7_code 41 = .ok (.tableswitch 61 1 4 #[31, 41, 61, 51], 31) := by decide +kernel
theorem dX0_get_72 : decode prog_1_method_7_code 72 = .ok (.new 154, 3) := by decide +kernel
theorem dX0_get_75 : decode prog_1_method_7_code 75 = .ok (.dup, 1) := by decide +kernel
theorem dX0_get_76 : decode prog_1_method_7_code 76 = .ok (.ldc 156, 2) := by decide +kernel
theorem dX0_get_78 : decode prog_1_method_7_code 78 = .ok (.invokespecial 158, 3) := by decide +kernel
theorem dX0_get_81 : decode prog_1_method_7_code 81 = .ok (.athrow, 1) := by decide +kernel
theorem dX0_get_82 : decode prog_1_method_7_code 82 = .ok (.new 159, 3) := by decide +kernel
theorem dX0_get_85 : decode prog_1_method_7_code 85 = .ok (.dup, 1) := by decide +kernel
theorem dX0_get_86 : decode prog_1_method_7_code 86 = .ok (.ldc 161, 2) := by decide +kernel
theorem dX0_get_88 : decode prog_1_method_7_code 88 = .ok (.invokespecial 163, 3) := by decide +kernel
theorem dX0_get_91 : decode prog_1_method_7_code 91 = .ok (.athrow, 1) := by decide +kernel
theorem dX0_get_92 : decode prog_1_method_7_code 92 = .ok (.new 99, 3) := by decide +kernel
theorem dX0_get_95 : decode prog_1_method_7_code 95 = .ok (.dup, 1) := by decide +kernel
theorem dX0_get_96 : decode prog_1_method_7_code 96 = .ok (.ldc 164, 2) := by decide +kernel
theorem dX0_get_98 : decode prog_1_method_7_code 98 = .ok (.invokespecial 103, 3) := by decide +kernel
theorem dX0_get_101 : decode prog_1_method_7_code 101 = .ok (.athrow, 1) := by decide +kernel
theorem dX0_get_102 : decode prog_1_method_7_code 102 = .ok (.new 76, 3) := by decide +kernel
theorem dX0_get_105 : decode prog_1_method_7_code 105 = .ok (.dup, 1) := by decide +kernel
theorem dX0_get_106 : decode prog_1_method_7_code 106 = .ok (.ldc 166, 2) := by decide +kernel
theorem dX0_get_108 : decode prog_1_method_7_code 108 = .ok (.invokespecial 80, 3) := by decide +kernel
theorem dX0_get_111 : decode prog_1_method_7_code 111 = .ok (.athrow, 1) := by decide +kernel
def wpX0_get (K : KX) (post : Int32 → gS → Prop) (px : String → gS → Prop) (u : gS) (p1 : Int32) : Prop :=
  wpX0_known K (fun (r1 : Option Nat) (u2 : gS) => ∃ y3 : Nat, r1 = some y3 ∧ y3 ∈ K.2.2.1 ∧ (((¬ (sA u2 0 y3) = 3 → ((((sA u2 0 y3) = 4 → ((((sA u2 2 y3) = 1 → (px "java/lang/ArithmeticException" u2)) ∧ (¬ (sA u2 2 y3) = 1 → ((((sA u2 2 y3) = 2 → (px "java/lang/IndexOutOfBoundsException" u2)) ∧ (¬ (sA u2 2 y3) = 2 → ((((sA u2 2 y3) = 3 → (px "java/lang/IllegalStateException" u2)) ∧ (¬ (sA u2 2 y3) = 3 → ((((sA u2 2 y3) = 4 → (px "java/lang/UnsupportedOperationException" u2)) ∧ (¬ (sA u2 2 y3) = 4 → (px "java/lang/IllegalStateException" u2)))))))))))))) ∧ (¬ (sA u2 0 y3) = 4 → (px "java/util/NoSuchElementException" u2))))) ∧ ((sA u2 0 y3) = 3 → (post (sA u2 1 y3) u2))))) px u p1

set_option maxHeartbeats 8000000 in
set_option maxRecDepth 100000 in
theorem cX0_get (l : Launch) (hl9 : l.stackTraces = false) (dC : Nat → ClassId) (dI : Nat → Nat → Nat) (ad : Nat → Nat) (ca : Nat → ClassId) (K : KX) (sz : Nat) (u : gS) (p1 : Int32) (post : Int32 → gS → Prop) (px : String → gS → Prop)  (h : wpX0_get K post px u p1) : vx_Met l ⟨"WorkHall", "get", "(I)I"⟩ (gw ⟨"WorkHall", "get", "(I)I"⟩ prog_1_method_7_code 3 (some .int)) ({ frames := 9, cells := 3, slots := 18, locals := 360 } : Room) (va_Pc [.ref (ad 0), .int p1] (gB (dC, dI) vwCl (xT ca) xE (wX ad ca K u) sz)) (va_Qi post (gAt (dC, dI) vwCl (xT ca) (wX ad ca K) (va_A (wX ad ca K u) sz)) (va_A (wX ad ca K u) sz)) (gX (dC, dI) vwCl (xT ca) (wX ad ca K) px (va_A (wX ad ca K u) sz)) 3 18 (va_A (wX ad ca K u) sz) := by
  refine vx_ofW (cc := prog_1_method_7_code) (maxL := 3) (ret := (some .int)) (by decide) rfl ?_
  intro p e s m args below meth c s₁ B hml hno hv
  obtain ⟨rfl, hsz, hP, hK, hD0, hE⟩ := hv
  have hx := B.exec
  have hb := B.bytes
  have hr := B.returns
  have hts : ∀ w ∈ gW, w.before _ s = true := fun w h9 => atoms_spec (ws := (gw ⟨"WorkHall", "get", "(I)I"⟩ prog_1_method_7_code 3 (some .int))) B.pre w (List.mem_cons_of_mem _ h9)
  have hown : s.vm.findClass RX0 = some m.cls := findClass_of_methodNamed B.named
  have hlocks := B.notSynchronized
  subst hsz
  have hD := hD0.self (sz := s.heap.size)
  generalize hAe : va_A (wX ad ca K u) s.heap.size = A at hD hE ⊢
  have hA : ∀ q : Nat, s.heap.size ≤ q → A q := fun q h => by rw [← hAe]; exact Or.inr h
  obtain ⟨H, hHe⟩ : ∃ z : Heap, z = s.heap := ⟨_, rfl⟩
  rw [← hHe]
  have hS : va_S A s.heap H [] := by rw [hHe]; exact va_S.rf
  have hP : va_P (dC, dI) vwCl (wX ad ca K u) H := by rw [hHe]; exact hP
  have hl := lv_entry ([.ref (ad 0), .int p1]) (n := 3) (Nat.le_of_ble_eq_true rfl)
  rw [lg_entry_eq]
  generalize (lg_sl ([.ref (ad 0), .int p1]) ++ List.replicate (3 - (lg_sl ([.ref (ad 0), .int p1])).length) Slot.unset).toArray = ls at hl ⊢
  have hl : lv_has ls 3 [(0, .ref (ad 0)), (1, .int p1)] := hl
  clear hAe
  refine lv_aload_n hx hb dX0_get_0 rfl (lv_at hl 0 rfl) ?_
  refine lv_iload_n hx hb dX0_get_1 rfl (lv_at hl 1 rfl) ?_
  refine gxc_q (w := wX ad ca K) (u := u) (vx_runV (As := [.int p1]) (rest := []) ⟨hx, hb, hml, hown, hts⟩ (cX0_known l hl9 dC dI ad ca K H.size u p1 _ _ h) (cwV 1 hts (gG_V wd_364 wd_366 wd_1 wd_46 wd_367) rfl rfl rfl (by decide +kernel) ⟨Nat.le_of_ble_eq_true rfl, Nat.le_of_ble_eq_true rfl⟩) ⟨gB_blind xE_ok, va_recv hK hP (ci := 0) (q0 := 0) rfl rfl, gB_pre xE_ok hP hK hD hE hS hA⟩ rfl rfl hl.1 rfl (lv_room (Nat.le_of_ble_eq_true rfl)) dX0_get_2 ⟨Nat.le_of_ble_eq_true rfl, Nat.le_of_ble_eq_true rfl⟩) hD hS hA (fun E9 ce9 q9 u9 H locs h hP hD hS hce hcv hcl => gx_out hno hlocks h hP hK hD hS hce hcv hcl (Nat.le_of_ble_eq_true rfl) (Nat.le_of_ble_eq_true rfl)) (fun r1 u2 H locs h hP hD hS => ?_)
  refine gq_astore_n (r := r1) (lv' := [(2, va_rf r1), (0, .ref (ad 0)), (1, .int p1)]) hx hb dX0_get_5 rfl hl (by decide) rfl (fun ls hl => ?_)
  refine gq_aload_n (r := r1) hx hb dX0_get_6 rfl (lv_at hl 0 rfl) ?_
  obtain ⟨y3, rfl, hy4, h⟩ := h
  obtain ⟨k9, hk9⟩ := xJ_get hy4
  refine va_get (D := (dC, dI)) (ci := 5) (v := .int (sA u2 0 y3)) (C := RX5) (T := TX5) (N := 9) hx hb hts uwX5 hown hK hP k9 hk9 rfl 5 (by decide) (hts _ wd_327) (fun _ h9 => h9) rfl dX0_get_7 ?_
  refine lv_iconst (v := 3) hx hb dX0_get_10 (by decide) ?_
  refine lv_icmp_ne (tgt := 19) hx hb dX0_get_11 (by decide) (fun c5 => ?_) (fun c5 => ?_)
  · have h := h.1 c5
    refine lv_aload_n hx hb dX0_get_19 rfl (lv_at hl 0 rfl) ?_
    obtain ⟨k9, hk9⟩ := xJ_get hy4
    refine va_get (D := (dC, dI)) (ci := 5) (v := .int (sA u2 0 y3)) (C := RX5) (T := TX5) (N := 9) hx hb hts uwX5 hown hK hP k9 hk9 rfl 5 (by decide) (hts _ wd_327) (fun _ h9 => h9) rfl dX0_get_20 ?_
    refine lv_iconst (v := 4) hx hb dX0_get_23 (by decide) ?_
    refine lv_icmp_eq (tgt := 37) hx hb dX0_get_24 (by decide) (fun c6 => ?_) (fun c6 => ?_)
    · have h := h.1 c6
      refine lv_aload_n hx hb dX0_get_37 rfl (lv_at hl 0 rfl) ?_
      obtain ⟨k9, hk9⟩ := xJ_get hy4
      refine va_get (D := (dC, dI)) (ci := 5) (v := .int (sA u2 2 y3)) (C := RX5) (T := TX5) (N := 9) hx hb hts uwX5 hown hK hP k9 hk9 rfl 7 (by decide) (hts _ wd_333) (fun _ h9 => h9) rfl dX0_get_38 ?_
      by_cases c7 : (sA u2 2 y3) = 1
      · have h := h.1 c7
        have e14 : (sA u2 2 y3).toInt = 1 := by rw [c7]; rfl
        refine lv_tableIn (off := 31) (tgt := 72) hx hb dX0_get_41 (by rw [e14]; decide) (by rw [e14]; decide) (by rw [e14]; rfl) (by decide) ?_
        obtain ⟨sa9, hs9⟩ := xE_text hE 156 "the job divided by zero" (by decide +kernel); exact vx_throwS (names := xSup) hx hb hl9 hown (by decide +kernel) (by decide +kernel) (hts _ wd_556) (hts _ wd_61) hs9 (tw_aex hts (xE_face hE)) tg_aex (xE_U hE) (xE_N hE) hS (hl.1.trans hml.symm) dX0_get_72 dX0_get_75 dX0_get_76 dX0_get_78 dX0_get_81 (fun x hx => (hno x hx).elim) (Nat.le_of_ble_eq_true rfl) (Nat.le_of_ble_eq_true rfl) (Nat.le_of_ble_eq_true rfl) (Nat.le_of_ble_eq_true rfl) hlocks (fun t ha hz hq => gx_thrown h hP hK hD hS ha hz hq) hS.2.2 (Nat.le_of_ble_eq_true rfl) (Nat.le_of_ble_eq_true rfl)
      · have h := h.2 c7
        by_cases c8 : (sA u2 2 y3) = 2
        · have h := h.1 c8
          have e13 : (sA u2 2 y3).toInt = 2 := by rw [c8]; rfl
          refine lv_tableIn (off := 41) (tgt := 82) hx hb dX0_get_41 (by rw [e13]; decide) (by rw [e13]; decide) (by rw [e13]; rfl) (by decide) ?_
          obtain ⟨sa9, hs9⟩ := xE_text hE 161 "the job picked beyond the row" (by decide +kernel); exact vx_throwS (names := xSup) hx hb hl9 hown (by decide +kernel) (by decide +kernel) (hts _ wd_572) (hts _ wd_62) hs9 (tw_ioe hts (xE_face hE)) tg_ioe (xE_U hE) (xE_N hE) hS (hl.1.trans hml.symm) dX0_get_82 dX0_get_85 dX0_get_86 dX0_get_88 dX0_get_91 (fun x hx => (hno x hx).elim) (Nat.le_of_ble_eq_true rfl) (Nat.le_of_ble_eq_true rfl) (Nat.le_of_ble_eq_true rfl) (Nat.le_of_ble_eq_true rfl) hlocks (fun t ha hz hq => gx_thrown h hP hK hD hS ha hz hq) hS.2.2 (Nat.le_of_ble_eq_true rfl) (Nat.le_of_ble_eq_true rfl)
        · have h := h.2 c8
          by_cases c9 : (sA u2 2 y3) = 3
          · have h := h.1 c9
            have e12 : (sA u2 2 y3).toInt = 3 := by rw [c9]; rfl
            refine lv_tableIn (off := 61) (tgt := 102) hx hb dX0_get_41 (by rw [e12]; decide) (by rw [e12]; decide) (by rw [e12]; rfl) (by decide) ?_
            obtain ⟨sa9, hs9⟩ := xE_text hE 166 "the job failed" (by decide +kernel); exact vx_throwS (names := xSup) hx hb hl9 hown (by decide +kernel) (by decide +kernel) (hts _ wd_295) (hts _ wd_57) hs9 (tw_ise hts (xE_face hE)) tg_ise (xE_U hE) (xE_N hE) hS (hl.1.trans hml.symm) dX0_get_102 dX0_get_105 dX0_get_106 dX0_get_108 dX0_get_111 (fun x hx => (hno x hx).elim) (Nat.le_of_ble_eq_true rfl) (Nat.le_of_ble_eq_true rfl) (Nat.le_of_ble_eq_true rfl) (Nat.le_of_ble_eq_true rfl) hlocks (fun t ha hz hq => gx_thrown h hP hK hD hS ha hz hq) hS.2.2 (Nat.le_of_ble_eq_true rfl) (Nat.le_of_ble_eq_true rfl)
          · have h := h.2 c9
            by_cases c10 : (sA u2 2 y3) = 4
            · have h := h.1 c10
              have e11 : (sA u2 2 y3).toInt = 4 := by rw [c10]; rfl
              refine lv_tableIn (off := 51) (tgt := 92) hx hb dX0_get_41 (by rw [e11]; decide) (by rw [e11]; decide) (by rw [e11]; rfl) (by decide) ?_
              obtain ⟨sa9, hs9⟩ := xE_text hE 164 "the job could not fork" (by decide +kernel); exact vx_throwS (names := xSup) hx hb hl9 hown (by decide +kernel) (by decide +kernel) (hts _ wd_459) (hts _ wd_60) hs9 (tw_uoe hts (xE_face hE)) tg_uoe (xE_U hE) (xE_N hE) hS (hl.1.trans hml.symm) dX0_get_92 dX0_get_95 dX0_get_96 dX0_get_98 dX0_get_101 (fun x hx => (hno x hx).elim) (Nat.le_of_ble_eq_true rfl) (Nat.le_of_ble_eq_true rfl) (Nat.le_of_ble_eq_true rfl) (Nat.le_of_ble_eq_true rfl) hlocks (fun t ha hz hq => gx_thrown h hP hK hD hS ha hz hq) hS.2.2 (Nat.le_of_ble_eq_true rfl) (Nat.le_of_ble_eq_true rfl)
            · have h := h.2 c10
              refine lv_tableOut (tgt := 102) hx hb dX0_get_41 (by have a0 := lv_neT (a := 1) c7 rfl; have a1 := lv_neT (a := 2) c8 rfl; have a2 := lv_neT (a := 3) c9 rfl; have a3 := lv_neT (a := 4) c10 rfl; omega) (by decide) ?_
              obtain ⟨sa9, hs9⟩ := xE_text hE 166 "the job failed" (by decide +kernel); exact vx_throwS (names := xSup) hx hb hl9 hown (by decide +kernel) (by decide +kernel) (hts _ wd_295) (hts _ wd_57) hs9 (tw_ise hts (xE_face hE)) tg_ise (xE_U hE) (xE_N hE) hS (hl.1.trans hml.symm) dX0_get_102 dX0_get_105 dX0_get_106 dX0_get_108 dX0_get_111 (fun x hx => (hno x hx).elim) (Nat.le_of_ble_eq_true rfl) (Nat.le_of_ble_eq_true rfl) (Nat.le_of_ble_eq_true rfl) (Nat.le_of_ble_eq_true rfl) hlocks (fun t ha hz hq => gx_thrown h hP hK hD hS ha hz hq) hS.2.2 (Nat.le_of_ble_eq_true rfl) (Nat.le_of_ble_eq_true rfl)
    · have h := h.2 c6
      obtain ⟨sa9, hs9⟩ := xE_text hE 148 "the job has no result" (by decide +kernel); exact vn_throwS (r := xSup1) (Y := "java/lang/RuntimeException") hx hb hl9 dN_0 dN_1 dN_2 dN_5 hown (by decide +kernel) (by decide +kernel) (by decide +kernel) (hts _ wd_372) (hts _ wd_59) hs9 (tw_nse hts (xE_face hE)) tg_nse (xE_U hE) (xE_N hE) hS (hl.1.trans hml.symm) dX0_get_27 dX0_get_30 dX0_get_31 dX0_get_33 dX0_get_36 (fun x hx => (hno x hx).elim) (Nat.le_of_ble_eq_true rfl) (Nat.le_of_ble_eq_true rfl) (Nat.le_of_ble_eq_true rfl) (Nat.le_of_ble_eq_true rfl) hlocks (fun t ha hz hq => gx_thrown h hP hK hD hS ha hz hq) hS.2.2 (Nat.le_of_ble_eq_true rfl) (Nat.le_of_ble_eq_true rfl)
  · have h := h.2 c5
    refine lv_aload_n hx hb dX0_get_14 rfl (lv_at hl 0 rfl) ?_
    obtain ⟨k9, hk9⟩ := xJ_get hy4
    refine va_get (D := (dC, dI)) (ci := 5) (v := .int (sA u2 1 y3)) (C := RX5) (T := TX5) (N := 9) hx hb hts uwX5 hown hK hP k9 hk9 rfl 6 (by decide) (hts _ wd_331) (fun _ h9 => h9) rfl dX0_get_15 ?_
    refine W.widen (k := 3) (n := 18) (Nat.le_of_ble_eq_true rfl) (Nat.le_of_ble_eq_true rfl) (vx_ret ?_); exact gr_i (w := wX ad ca K) (u := u2) hx hb hr hlocks h hP hK hD hS dX0_get_18

