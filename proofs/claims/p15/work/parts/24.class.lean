theorem dX0_sum_0 : decode prog_1_method_25_code 0 = .ok (.aload_n 0, 1) := by decide +kernel
theorem dX0_sum_1 : decode prog_1_method_25_code 1 = .ok (.aload_n 1, 1) := by decide +kernel
theorem dX0_sum_2 : decode prog_1_method_25_code 2 = .ok (.getfield 267, 3) := by decide +kernel
theorem dX0_sum_5 : decode prog_1_method_25_code 5 = .ok (.invokevirtual 241, 3) := by decide +kernel
theorem dX0_sum_8 : decode prog_1_method_25_code 8 = .ok (.astore_n 2, 1) := by decide +kernel
theorem dX0_sum_9 : decode prog_1_method_25_code 9 = .ok (.aload_n 0, 1) := by decide +kernel
theorem dX0_sum_10 : decode prog_1_method_25_code 10 = .ok (.aload_n 1, 1) := by decide +kernel
theorem dX0_sum_11 : decode prog_1_method_25_code 11 = .ok (.getfield 288, 3) := by decide +kernel
theorem dX0_sum_14 : decode prog_1_method_25_code 14 = .ok (.invokevirtual 241, 3) := by decide +kernel
theorem dX0_sum_17 : decode prog_1_method_25_code 17 = .ok (.astore_n 3, 1) := by decide +kernel
theorem dX0_sum_18 : decode prog_1_method_25_code 18 = .ok (.aload_n 2, 1) := by decide +kernel
theorem dX0_sum_19 : decode prog_1_method_25_code 19 = .ok (.ifnull 23, 3) := by decide +kernel
theorem dX0_sum_22 : decode prog_1_method_25_code 22 = .ok (.aload_n 3, 1) := by decide +kernel
theorem dX0_sum_23 : decode prog_1_method_25_code 23 = .ok (.ifnull 19, 3) := by decide +kernel
theorem dX0_sum_26 : decode prog_1_method_25_code 26 = .ok (.aload_n 2, 1) := by decide +kernel
theorem dX0_sum_27 : decode prog_1_method_25_code 27 = .ok (.getfield 90, 3) := by decide +kernel
theorem dX0_sum_30 : decode prog_1_method_25_code 30 = .ok (.iconst 3, 1) := by decide +kernel
theorem dX0_sum_31 : decode prog_1_method_25_code 31 = .ok (.if_icmp .ne 11, 3) := by decide +kernel
theorem dX0_sum_34 : decode prog_1_method_25_code 34 = .ok (.aload_n 3, 1) := by decide +kernel
theorem dX0_sum_35 : decode prog_1_method_25_code 35 = .ok (.getfield 90, 3) := by decide +kernel
theorem dX0_sum_38 : decode prog_1_method_25_code 38 = .ok (.iconst 3, 1) := by decide +kernel
theorem dX0_sum_39 : decode prog_1_method_25_code 39 = .ok (.if_icmp .eq 11, 3) := by decide +kernel
theorem dX0_sum_42 : decode prog_1_method_25_code 42 = .ok (.aload_n 1, 1) := by decide +kernel
theorem dX0_sum_43 : decode prog_1_method_25_code 43 = .ok (.iconst 3, 1) := by decide +kernel
theorem dX0_sum_44 : decode prog_1_method_25_code 44 = .ok (.invokevirtual 285, 3) := by decide +kernel
theorem dX0_sum_47 : decode prog_1_method_25_code 47 = .ok (.goto 16, 3) := by decide +kernel
theorem dX0_sum_50 : decode prog_1_method_25_code 50 = .ok (.aload_n 1, 1) := by decide +kernel
theorem dX0_sum_51 : decode prog_1_method_25_code 51 = .ok (.aload_n 2, 1) := by decide +kernel
theorem dX0_sum_52 : decode prog_1_method_25_code 52 = .ok (.getfield 143, 3) := by decide +kernel
theorem dX0_sum_55 : decode prog_1_method_25_code 55 = .ok (.aload_n 3, 1) := by decide +kernel
theorem dX0_sum_56 : decode prog_1_method_25_code 56 = .ok (.getfield 143, 3) := by decide +kernel
theorem dX0_sum_59 : decode prog_1_method_25_code 59 = .ok (.iadd, 1) := by decide +kernel
theorem dX0_sum_60 : decode prog_1_method_25_code 60 = .ok (.invokevirtual 270, 3) := by decide +kernel
theorem dX0_sum_63 : decode prog_1_method_25_code 63 = .ok (.return_, 1) := by decide +kernel
def wpX0_sum (K : KX) (post : gS → Prop) (u : gS) (p1 : Nat) : Prop :=
  wpX0_find K (fun (r1 : Option Nat) (u2 : gS) => wpX0_find K (fun (r3 : Option Nat) (u4 : gS) => ((r1 = none → (wpX5_fail K (fun (u7 : gS) => post u7) u4 p1 3)) ∧ (∀ y5 : Nat, r1 = some y5 → (((r3 = none → (wpX5_fail K (fun (u10 : gS) => post u10) u4 p1 3)) ∧ (∀ y8 : Nat, r3 = some y8 → (y5 ∈ K.2.2.1 ∧ (((¬ (sA u4 0 y5) = 3 → (wpX5_fail K (fun (u14 : gS) => post u14) u4 p1 3)) ∧ ((sA u4 0 y5) = 3 → (y8 ∈ K.2.2.1 ∧ ((((sA u4 0 y8) = 3 → (wpX5_succeed K (fun (u18 : gS) => post u18) u4 p1 ((sA u4 1 y5) + (sA u4 1 y8)))) ∧ (¬ (sA u4 0 y8) = 3 → (wpX5_fail K (fun (u20 : gS) => post u20) u4 p1 3))))))))))))))) u2 (K.2.2.2.1 p1 3)) u (K.2.2.2.1 p1 2)

set_option maxHeartbeats 8000000 in
set_option maxRecDepth 100000 in
theorem cX0_sum (l : Launch) (dC : Nat → ClassId) (dI : Nat → Nat → Nat) (ad : Nat → Nat) (ca : Nat → ClassId) (K : KX) (sz : Nat) (u : gS) (p1 : Nat) (post : gS → Prop) (hp1 : p1 ∈ K.2.2.1) (h : wpX0_sum K post u p1) : Met l ⟨"WorkHall", "sum", "(LWorkHall$Job;)V"⟩ (gw ⟨"WorkHall", "sum", "(LWorkHall$Job;)V"⟩ prog_1_method_25_code 4 none) ({ frames := 2, cells := 0, slots := 0, locals := 80 } : Room) (va_Pc [.ref (ad 0), .ref p1] (gB (dC, dI) vwCl (xT ca) xE (wX ad ca K u) sz)) (va_Qv post (gAt (dC, dI) vwCl (xT ca) (wX ad ca K) (va_A (wX ad ca K u) sz)) (va_A (wX ad ca K u) sz)) 0 0 (va_A (wX ad ca K u) sz) := by
  refine Met.ofW (cc := prog_1_method_25_code) (maxL := 4) (ret := none) (by decide) rfl ?_
  intro p e s m args below meth c s₁ B hml hv
  obtain ⟨rfl, hsz, hP, hK, hD0, hE⟩ := hv
  have hx := B.exec
  have hb := B.bytes
  have hr := B.returns
  have hts : ∀ w ∈ gW, w.before _ s = true := fun w h9 => atoms_spec (ws := (gw ⟨"WorkHall", "sum", "(LWorkHall$Job;)V"⟩ prog_1_method_25_code 4 none)) B.pre w (List.mem_cons_of_mem _ h9)
  have hown : s.vm.findClass RX0 = some m.cls := findClass_of_methodNamed B.named
  have hlocks := B.notSynchronized
  subst hsz
  have hD := hD0.self (sz := s.heap.size)
  generalize hAe : va_A (wX ad ca K u) s.heap.size = A at hD hE ⊢
  have hA : ∀ q : Nat, s.heap.size ≤ q → A q := fun q h => by rw [← hAe]; exact Or.inr h
  obtain ⟨H, hHe⟩ : ∃ z : Heap, z = s.heap := ⟨_, rfl⟩
  rw [← hHe]
  have hS : va_S A s.heap H [] := by rw [hHe]; exact va_S.rf
  have hP : va_P (dC, dI) vwCl (wX ad ca K u) H := by rw [hHe]; exact hP
  have hl := lv_entry ([.ref (ad 0), .ref p1]) (n := 4) (Nat.le_of_ble_eq_true rfl)
  rw [lg_entry_eq]
  generalize (lg_sl ([.ref (ad 0), .ref p1]) ++ List.replicate (4 - (lg_sl ([.ref (ad 0), .ref p1])).length) Slot.unset).toArray = ls at hl ⊢
  have hl : lv_has ls 4 [(0, .ref (ad 0)), (1, .ref p1)] := hl
  clear hAe
  refine lv_aload_n hx hb dX0_sum_0 rfl (lv_at hl 0 rfl) ?_
  refine lv_aload_n hx hb dX0_sum_1 rfl (lv_at hl 1 rfl) ?_
  obtain ⟨k9, hk9⟩ := xJ_get hp1
  refine va_get (D := (dC, dI)) (ci := 5) (v := .int (K.2.2.2.1 p1 2)) (C := RX5) (T := TX5) (N := 9) hx hb hts uwX5 hown hK hP k9 hk9 rfl 2 (by decide) (hts _ wd_320) (fun _ h9 => h9) rfl dX0_sum_2 ?_
  refine gc_q (w := wX ad ca K) (u := u) (va_runV (As := [.int (K.2.2.2.1 p1 2)]) (rest := []) ⟨hx, hb, hml, hown, hts⟩ (cX0_find l dC dI ad ca K H.size u (K.2.2.2.1 p1 2) _ h) (cwV 1 hts (gG_V wd_368 wd_370 wd_2 wd_46 wd_371) rfl rfl rfl (by decide +kernel) ⟨Nat.le_of_ble_eq_true rfl, Nat.le_of_ble_eq_true rfl⟩) ⟨gB_blind xE_ok, va_recv hK hP (ci := 0) (q0 := 0) rfl rfl, gB_pre xE_ok hP hK hD hE hS hA⟩ rfl rfl hl.1 rfl (lv_room (Nat.le_of_ble_eq_true rfl)) dX0_sum_5 ⟨Nat.le_of_ble_eq_true rfl, Nat.le_of_ble_eq_true rfl⟩) hD hS hA (fun r1 u2 H locs h hP hD hS => ?_)
  refine gq_astore_n (r := r1) (lv' := [(2, va_rf r1), (0, .ref (ad 0)), (1, .ref p1)]) hx hb dX0_sum_8 rfl hl (by decide) rfl (fun ls hl => ?_)
  refine lv_aload_n hx hb dX0_sum_9 rfl (lv_at hl 1 rfl) ?_
  refine lv_aload_n hx hb dX0_sum_10 rfl (lv_at hl 2 rfl) ?_
  obtain ⟨k9, hk9⟩ := xJ_get hp1
  refine va_get (D := (dC, dI)) (ci := 5) (v := .int (K.2.2.2.1 p1 3)) (C := RX5) (T := TX5) (N := 9) hx hb hts uwX5 hown hK hP k9 hk9 rfl 3 (by decide) (hts _ wd_322) (fun _ h9 => h9) rfl dX0_sum_11 ?_
  refine gc_q (w := wX ad ca K) (u := u2) (va_runV (As := [.int (K.2.2.2.1 p1 3)]) (rest := []) ⟨hx, hb, hml, hown, hts⟩ (cX0_find l dC dI ad ca K H.size u2 (K.2.2.2.1 p1 3) _ h) (cwV 1 hts (gG_V wd_368 wd_370 wd_2 wd_46 wd_371) rfl rfl rfl (by decide +kernel) ⟨Nat.le_of_ble_eq_true rfl, Nat.le_of_ble_eq_true rfl⟩) ⟨gB_blind xE_ok, va_recv hK hP (ci := 0) (q0 := 0) rfl rfl, gB_pre xE_ok hP hK hD hE hS hA⟩ rfl rfl hl.1 rfl (lv_room (Nat.le_of_ble_eq_true rfl)) dX0_sum_14 ⟨Nat.le_of_ble_eq_true rfl, Nat.le_of_ble_eq_true rfl⟩) hD hS hA (fun r3 u4 H locs h hP hD hS => ?_)
  refine gq_astore_n (r := r3) (lv' := [(3, va_rf r3), (2, va_rf r1), (0, .ref (ad 0)), (1, .ref p1)]) hx hb dX0_sum_17 rfl hl (by decide) (by cases r1 <;> rfl) (fun ls hl => ?_)
  refine gq_aload_n (r := r1) hx hb dX0_sum_18 rfl (lv_at hl 1 rfl) ?_
  rcases r1 with _ | y5
  · have h := h.1 rfl
    refine lv_ifnullN (tgt := 42) hx hb dX0_sum_19 (by decide) ?_
    refine lv_aload_n hx hb dX0_sum_42 rfl (lv_at hl 3 rfl) ?_
    refine lv_iconst (v := 3) hx hb dX0_sum_43 (by decide) ?_
    refine gc_v (w := wX ad ca K) (u := u4) (va_runV (As := [.int 3]) (rest := []) ⟨hx, hb, hml, hown, hts⟩ (cX5_fail l dC dI ad ca K H.size u4 p1 3 _ hp1 h) (cwV 1 hts (gG_V wd_454 wd_440 wd_441 wd_58 wd_442) rfl rfl rfl (by decide +kernel) ⟨Nat.le_of_ble_eq_true rfl, Nat.le_of_ble_eq_true rfl⟩) ⟨gB_blind xE_ok, (by obtain ⟨k9, hk9⟩ := xJ_get hp1; exact va_recv hK hP (ci := 5) (q0 := k9) rfl hk9), gB_pre xE_ok hP hK hD hE hS hA⟩ rfl rfl hl.1 rfl (lv_room (Nat.le_of_ble_eq_true rfl)) dX0_sum_44 ⟨Nat.le_of_ble_eq_true rfl, Nat.le_of_ble_eq_true rfl⟩) hD hS hA (fun u7 H locs h hP hD hS => ?_)
    refine lv_goto (tgt := 63) hx hb dX0_sum_47 (by decide) ?_
    exact gr_v (w := wX ad ca K) (u := u7) hx hb hr hlocks h hP hK hD hS dX0_sum_63
  · have h := h.2 y5 rfl
    refine lv_ifnull hx hb dX0_sum_19 ?_
    refine gq_aload_n (r := r3) hx hb dX0_sum_22 rfl (lv_at hl 0 rfl) ?_
    rcases r3 with _ | y8
    · have h := h.1 rfl
      refine lv_ifnullN (tgt := 42) hx hb dX0_sum_23 (by decide) ?_
      refine lv_aload_n hx hb dX0_sum_42 rfl (lv_at hl 3 rfl) ?_
      refine lv_iconst (v := 3) hx hb dX0_sum_43 (by decide) ?_
      refine gc_v (w := wX ad ca K) (u := u4) (va_runV (As := [.int 3]) (rest := []) ⟨hx, hb, hml, hown, hts⟩ (cX5_fail l dC dI ad ca K H.size u4 p1 3 _ hp1 h) (cwV 1 hts (gG_V wd_454 wd_440 wd_441 wd_58 wd_442) rfl rfl rfl (by decide +kernel) ⟨Nat.le_of_ble_eq_true rfl, Nat.le_of_ble_eq_true rfl⟩) ⟨gB_blind xE_ok, (by obtain ⟨k9, hk9⟩ := xJ_get hp1; exact va_recv hK hP (ci := 5) (q0 := k9) rfl hk9), gB_pre xE_ok hP hK hD hE hS hA⟩ rfl rfl hl.1 rfl (lv_room (Nat.le_of_ble_eq_true rfl)) dX0_sum_44 ⟨Nat.le_of_ble_eq_true rfl, Nat.le_of_ble_eq_true rfl⟩) hD hS hA (fun u10 H locs h hP hD hS => ?_)
      refine lv_goto (tgt := 63) hx hb dX0_sum_47 (by decide) ?_
      exact gr_v (w := wX ad ca K) (u := u10) hx hb hr hlocks h hP hK hD hS dX0_sum_63
    · have h := h.2 y8 rfl
      refine lv_ifnull hx hb dX0_sum_23 ?_
      refine lv_aload_n hx hb dX0_sum_26 rfl (lv_at hl 1 rfl) ?_
      obtain ⟨hy11, h⟩ := h
      obtain ⟨k9, hk9⟩ := xJ_get hy11
      refine va_get (D := (dC, dI)) (ci := 5) (v := .int (sA u4 0 y5)) (C := RX5) (T := TX5) (N := 9) hx hb hts uwX5 hown hK hP k9 hk9 rfl 5 (by decide) (hts _ wd_327) (fun _ h9 => h9) rfl dX0_sum_27 ?_
      refine lv_iconst (v := 3) hx hb dX0_sum_30 (by decide) ?_
      refine lv_icmp_ne (tgt := 42) hx hb dX0_sum_31 (by decide) (fun c12 => ?_) (fun c12 => ?_)
      · have h := h.1 c12
        refine lv_aload_n hx hb dX0_sum_42 rfl (lv_at hl 3 rfl) ?_
        refine lv_iconst (v := 3) hx hb dX0_sum_43 (by decide) ?_
        refine gc_v (w := wX ad ca K) (u := u4) (va_runV (As := [.int 3]) (rest := []) ⟨hx, hb, hml, hown, hts⟩ (cX5_fail l dC dI ad ca K H.size u4 p1 3 _ hp1 h) (cwV 1 hts (gG_V wd_454 wd_440 wd_441 wd_58 wd_442) rfl rfl rfl (by decide +kernel) ⟨Nat.le_of_ble_eq_true rfl, Nat.le_of_ble_eq_true rfl⟩) ⟨gB_blind xE_ok, (by obtain ⟨k9, hk9⟩ := xJ_get hp1; exact va_recv hK hP (ci := 5) (q0 := k9) rfl hk9), gB_pre xE_ok hP hK hD hE hS hA⟩ rfl rfl hl.1 rfl (lv_room (Nat.le_of_ble_eq_true rfl)) dX0_sum_44 ⟨Nat.le_of_ble_eq_true rfl, Nat.le_of_ble_eq_true rfl⟩) hD hS hA (fun u14 H locs h hP hD hS => ?_)
        refine lv_goto (tgt := 63) hx hb dX0_sum_47 (by decide) ?_
        exact gr_v (w := wX ad ca K) (u := u14) hx hb hr hlocks h hP hK hD hS dX0_sum_63
      · have h := h.2 c12
        refine lv_aload_n hx hb dX0_sum_34 rfl (lv_at hl 0 rfl) ?_
        obtain ⟨hy15, h⟩ := h
        obtain ⟨k9, hk9⟩ := xJ_get hy15
        refine va_get (D := (dC, dI)) (ci := 5) (v := .int (sA u4 0 y8)) (C := RX5) (T := TX5) (N := 9) hx hb hts uwX5 hown hK hP k9 hk9 rfl 5 (by decide) (hts _ wd_327) (fun _ h9 => h9) rfl dX0_sum_35 ?_
        refine lv_iconst (v := 3) hx hb dX0_sum_38 (by decide) ?_
        refine lv_icmp_eq (tgt := 50) hx hb dX0_sum_39 (by decide) (fun c16 => ?_) (fun c16 => ?_)
        · have h := h.1 c16
          refine lv_aload_n hx hb dX0_sum_50 rfl (lv_at hl 3 rfl) ?_
          refine lv_aload_n hx hb dX0_sum_51 rfl (lv_at hl 1 rfl) ?_
          obtain ⟨k9, hk9⟩ := xJ_get hy11
          refine va_get (D := (dC, dI)) (ci := 5) (v := .int (sA u4 1 y5)) (C := RX5) (T := TX5) (N := 9) hx hb hts uwX5 hown hK hP k9 hk9 rfl 6 (by decide) (hts _ wd_331) (fun _ h9 => h9) rfl dX0_sum_52 ?_
          refine lv_aload_n hx hb dX0_sum_55 rfl (lv_at hl 0 rfl) ?_
          obtain ⟨k9, hk9⟩ := xJ_get hy15
          refine va_get (D := (dC, dI)) (ci := 5) (v := .int (sA u4 1 y8)) (C := RX5) (T := TX5) (N := 9) hx hb hts uwX5 hown hK hP k9 hk9 rfl 6 (by decide) (hts _ wd_331) (fun _ h9 => h9) rfl dX0_sum_56 ?_
          refine lv_iadd hx hb dX0_sum_59 ?_
          refine gc_v (w := wX ad ca K) (u := u4) (va_runV (As := [.int ((sA u4 1 y5) + (sA u4 1 y8))]) (rest := []) ⟨hx, hb, hml, hown, hts⟩ (cX5_succeed l dC dI ad ca K H.size u4 p1 ((sA u4 1 y5) + (sA u4 1 y8)) _ hp1 h) (cwV 1 hts (gG_V wd_431 wd_432 wd_433 wd_58 wd_434) rfl rfl rfl (by decide +kernel) ⟨Nat.le_of_ble_eq_true rfl, Nat.le_of_ble_eq_true rfl⟩) ⟨gB_blind xE_ok, (by obtain ⟨k9, hk9⟩ := xJ_get hp1; exact va_recv hK hP (ci := 5) (q0 := k9) rfl hk9), gB_pre xE_ok hP hK hD hE hS hA⟩ rfl rfl hl.1 rfl (lv_room (Nat.le_of_ble_eq_true rfl)) dX0_sum_60 ⟨Nat.le_of_ble_eq_true rfl, Nat.le_of_ble_eq_true rfl⟩) hD hS hA (fun u18 H locs h hP hD hS => ?_)
          exact gr_v (w := wX ad ca K) (u := u18) hx hb hr hlocks h hP hK hD hS dX0_sum_63
        · have h := h.2 c16
          refine lv_aload_n hx hb dX0_sum_42 rfl (lv_at hl 3 rfl) ?_
          refine lv_iconst (v := 3) hx hb dX0_sum_43 (by decide) ?_
          refine gc_v (w := wX ad ca K) (u := u4) (va_runV (As := [.int 3]) (rest := []) ⟨hx, hb, hml, hown, hts⟩ (cX5_fail l dC dI ad ca K H.size u4 p1 3 _ hp1 h) (cwV 1 hts (gG_V wd_454 wd_440 wd_441 wd_58 wd_442) rfl rfl rfl (by decide +kernel) ⟨Nat.le_of_ble_eq_true rfl, Nat.le_of_ble_eq_true rfl⟩) ⟨gB_blind xE_ok, (by obtain ⟨k9, hk9⟩ := xJ_get hp1; exact va_recv hK hP (ci := 5) (q0 := k9) rfl hk9), gB_pre xE_ok hP hK hD hE hS hA⟩ rfl rfl hl.1 rfl (lv_room (Nat.le_of_ble_eq_true rfl)) dX0_sum_44 ⟨Nat.le_of_ble_eq_true rfl, Nat.le_of_ble_eq_true rfl⟩) hD hS hA (fun u20 H locs h hP hD hS => ?_)
          refine lv_goto (tgt := 63) hx hb dX0_sum_47 (by decide) ?_
          exact gr_v (w := wX ad ca K) (u := u20) hx hb hr hlocks h hP hK hD hS dX0_sum_63

theorem dX0_endIfSettled_0 : decode prog_1_method_33_code 0 = .ok (.aload_n 0, 1) := by decide +kernel
theorem dX0_endIfSettled_1 : decode prog_1_method_33_code 1 = .ok (.getfield 40, 3) := by decide +kernel
theorem dX0_endIfSettled_4 : decode prog_1_method_33_code 4 = .ok (.iconst 1, 1) := by decide +kernel
theorem dX0_endIfSettled_5 : decode prog_1_method_33_code 5 = .ok (.if_icmp .ne 44, 3) := by decide +kernel
theorem dX0_endIfSettled_8 : decode prog_1_method_33_code 8 = .ok (.aload_n 0, 1) := by decide +kernel
theorem dX0_endIfSettled_9 : decode prog_1_method_33_code 9 = .ok (.getfield 25, 3) := by decide +kernel
theorem dX0_endIfSettled_12 : decode prog_1_method_33_code 12 = .ok (.getfield 218, 3) := by decide +kernel
theorem dX0_endIfSettled_15 : decode prog_1_method_33_code 15 = .ok (.ifCond .ne 34, 3) := by decide +kernel
theorem dX0_endIfSettled_18 : decode prog_1_method_33_code 18 = .ok (.aload_n 0, 1) := by decide +kernel
theorem dX0_endIfSettled_19 : decode prog_1_method_33_code 19 = .ok (.getfield 18, 3) := by decide +kernel
theorem dX0_endIfSettled_22 : decode prog_1_method_33_code 22 = .ok (.invokevirtual 215, 3) := by decide +kernel
theorem dX0_endIfSettled_25 : decode prog_1_method_33_code 25 = .ok (.ifCond .ne 24, 3) := by decide +kernel
theorem dX0_endIfSettled_28 : decode prog_1_method_33_code 28 = .ok (.aload_n 0, 1) := by decide +kernel
theorem dX0_endIfSettled_29 : decode prog_1_method_33_code 29 = .ok (.iconst 2, 1) := by decide +kernel
theorem dX0_endIfSettled_30 : decode prog_1_method_33_code 30 = .ok (.putfield 40, 3) := by decide +kernel
theorem dX0_endIfSettled_33 : decode prog_1_method_33_code 33 = .ok (.aload_n 0, 1) := by decide +kernel
theorem dX0_endIfSettled_34 : decode prog_1_method_33_code 34 = .ok (.getfield 18, 3) := by decide +kernel
theorem dX0_endIfSettled_37 : decode prog_1_method_33_code 37 = .ok (.iconst 0, 1) := by decide +kernel
theorem dX0_endIfSettled_38 : decode prog_1_method_33_code 38 = .ok (.putfield 214, 3) := by decide +kernel
theorem dX0_endIfSettled_41 : decode prog_1_method_33_code 41 = .ok (.aload_n 0, 1) := by decide +kernel
theorem dX0_endIfSettled_42 : decode prog_1_method_33_code 42 = .ok (.getfield 32, 3) := by decide +kernel
theorem dX0_endIfSettled_45 : decode prog_1_method_33_code 45 = .ok (.iconst 0, 1) := by decide +kernel
theorem dX0_endIfSettled_46 : decode prog_1_method_33_code 46 = .ok (.putfield 172, 3) := by decide +kernel
theorem dX0_endIfSettled_49 : decode prog_1_method_33_code 49 = .ok (.return_, 1) := by decide +kernel
def wpX0_endIfSettled (K : KX) (post : gS → Prop) (u : gS)  : Prop :=
  ((¬ (sI u 0) = 1 → (post u)) ∧ ((sI u 0) = 1 → (((¬ (sI u 4) = 0 → (post u)) ∧ ((sI u 4) = 0 → (wpX1_busy K (fun (r3 : Int32) (u4 : gS) => ((¬ r3 = 0 → (post u4)) ∧ (r3 = 0 → (∀ u6 : gS, u6 = tI u4 0 2 → (∀ u7 : gS, u7 = tI u6 2 0 → (∀ u8 : gS, u8 = tI u7 6 0 → (post u8))))))) u))))))

set_option maxHeartbeats 8000000 in
set_option maxRecDepth 100000 in
theorem cX0_endIfSettled (l : Launch) (dC : Nat → ClassId) (dI : Nat → Nat → Nat) (ad : Nat → Nat) (ca : Nat → ClassId) (K : KX) (sz : Nat) (u : gS)  (post : gS → Prop)  (h : wpX0_endIfSettled K post u ) : Met l ⟨"WorkHall", "endIfSettled", "()V"⟩ (gw ⟨"WorkHall", "endIfSettled", "()V"⟩ prog_1_method_33_code 1 none) ({ frames := 2, cells := 0, slots := 0, locals := 80 } : Room) (va_Pc [.ref (ad 0)] (gB (dC, dI) vwCl (xT ca) xE (wX ad ca K u) sz)) (va_Qv post (gAt (dC, dI) vwCl (xT ca) (wX ad ca K) (va_A (wX ad ca K u) sz)) (va_A (wX ad ca K u) sz)) 0 0 (va_A (wX ad ca K u) sz) := by
  refine Met.ofW (cc := prog_1_method_33_code) (maxL := 1) (ret := none) (by decide) rfl ?_
  intro p e s m args below meth c s₁ B hml hv
  obtain ⟨rfl, hsz, hP, hK, hD0, hE⟩ := hv
  have hx := B.exec
  have hb := B.bytes
  have hr := B.returns
  have hts : ∀ w ∈ gW, w.before _ s = true := fun w h9 => atoms_spec (ws := (gw ⟨"WorkHall", "endIfSettled", "()V"⟩ prog_1_method_33_code 1 none)) B.pre w (List.mem_cons_of_mem _ h9)
  have hown : s.vm.findClass RX0 = some m.cls := findClass_of_methodNamed B.named
  have hlocks := B.notSynchronized
  subst hsz
  have hD := hD0.self (sz := s.heap.size)
  generalize hAe : va_A (wX ad ca K u) s.heap.size = A at hD hE ⊢
  have hA : ∀ q : Nat, s.heap.size ≤ q → A q := fun q h => by rw [← hAe]; exact Or.inr h
  obtain ⟨H, hHe⟩ : ∃ z : Heap, z = s.heap := ⟨_, rfl⟩
  rw [← hHe]
  have hS : va_S A s.heap H [] := by rw [hHe]; exact va_S.rf
  have hP : va_P (dC, dI) vwCl (wX ad ca K u) H := by rw [hHe]; exact hP
  have hl := lv_entry ([.ref (ad 0)]) (n := 1) (Nat.le_of_ble_eq_true rfl)
  rw [lg_entry_eq]
  generalize (lg_sl ([.ref (ad 0)]) ++ List.replicate (1 - (lg_sl ([.ref (ad 0)])).length) Slot.unset).toArray = ls at hl ⊢
  have hl : lv_has ls 1 [(0, .ref (ad 0))] := hl
  clear hAe
  refine lv_aload_n hx hb dX0_endIfSettled_0 rfl (lv_at hl 0 rfl) ?_
  refine va_get (D := (dC, dI)) (ci := 0) (v := .int (sI u 0)) (C := RX0) (T := TX0) (N := 12) hx hb hts uwX0 hown hK hP 0 rfl rfl 9 (by decide) (hts _ wd_181) (fun _ h9 => h9) rfl dX0_endIfSettled_1 ?_
  refine lv_iconst (v := 1) hx hb dX0_endIfSettled_4 (by decide) ?_
  refine lv_icmp_ne (tgt := 49) hx hb dX0_endIfSettled_5 (by decide) (fun c1 => ?_) (fun c1 => ?_)
  · have h := h.1 c1
    exact gr_v (w := wX ad ca K) (u := u) hx hb hr hlocks h hP hK hD hS dX0_endIfSettled_49
  · have h := h.2 c1
    refine lv_aload_n hx hb dX0_endIfSettled_8 rfl (lv_at hl 0 rfl) ?_
    refine va_get (D := (dC, dI)) (ci := 0) (v := .ref (ad 4)) (C := RX0) (T := TX0) (N := 12) hx hb hts uwX0 hown hK hP 0 rfl rfl 6 (by decide) (hts _ wd_178) (fun _ h9 => h9) rfl dX0_endIfSettled_9 ?_
    refine va_get (D := (dC, dI)) (ci := 2) (v := .int (sI u 4)) (C := RX2) (T := TX2) (N := 5) hx hb hts uwX2 hown hK hP 4 rfl rfl 2 (by decide) (hts _ wd_122) (fun _ h9 => h9) rfl dX0_endIfSettled_12 ?_
    refine lv_if_ne (tgt := 49) hx hb dX0_endIfSettled_15 (by decide) (fun c2 => ?_) (fun c2 => ?_)
    · have h := h.1 c2
      exact gr_v (w := wX ad ca K) (u := u) hx hb hr hlocks h hP hK hD hS dX0_endIfSettled_49
    · have h := h.2 c2
      refine lv_aload_n hx hb dX0_endIfSettled_18 rfl (lv_at hl 0 rfl) ?_
      refine va_get (D := (dC, dI)) (ci := 0) (v := .ref (ad 2)) (C := RX0) (T := TX0) (N := 12) hx hb hts uwX0 hown hK hP 0 rfl rfl 5 (by decide) (hts _ wd_177) (fun _ h9 => h9) rfl dX0_endIfSettled_19 ?_
      refine gc_i (w := wX ad ca K) (u := u) (va_runV (As := []) (rest := []) ⟨hx, hb, hml, hown, hts⟩ (cX1_busy l dC dI ad ca K H.size u _ h) (cwV 0 hts (gG_V wd_529 wd_530 wd_531 wd_47 wd_532) rfl rfl rfl (by decide +kernel) ⟨Nat.le_of_ble_eq_true rfl, Nat.le_of_ble_eq_true rfl⟩) ⟨gB_blind xE_ok, va_recv hK hP (ci := 1) (q0 := 2) rfl rfl, gB_pre xE_ok hP hK hD hE hS hA⟩ rfl rfl hl.1 rfl (lv_room (Nat.le_of_ble_eq_true rfl)) dX0_endIfSettled_22 ⟨Nat.le_of_ble_eq_true rfl, Nat.le_of_ble_eq_true rfl⟩) hD hS hA (fun r3 u4 H locs h hP hD hS => ?_)
      refine lv_if_ne (tgt := 49) hx hb dX0_endIfSettled_25 (by decide) (fun c5 => ?_) (fun c5 => ?_)
      · have h := h.1 c5
        exact gr_v (w := wX ad ca K) (u := u4) hx hb hr hlocks h hP hK hD hS dX0_endIfSettled_49
      · have h := h.2 c5
        refine lv_aload_n hx hb dX0_endIfSettled_28 rfl (lv_at hl 0 rfl) ?_
        refine lv_iconst (v := 2) hx hb dX0_endIfSettled_29 (by decide) ?_
        refine va_put (D := (dC, dI)) (ci := 0) (v := .int 2) (ty := tyX0 9) (C := RX0) (T := TX0) (N := 12) hx hb hts uwX0 tyX0 tyX0_ok nmX0 hown hK hP hD hS 0 rfl rfl 9 (by decide) (hts _ wd_181) (fun _ h9 => h9) rfl (tyX0_ok 9 (by decide)) rfl rfl (Nat.le_of_ble_eq_true rfl) dX0_endIfSettled_30 (fun H locs hP hD hS => ?_)
        obtain ⟨u6, eu6⟩ : ∃ z : gS, z = tI u4 0 2 := ⟨_, rfl⟩
        have hP : va_P (dC, dI) vwCl (wX ad ca K u6) H := by rw [eu6, wX_f0_phase]; exact hP
        have hD : va_D A (wX ad ca K u6) := by rw [eu6, wX_f0_phase]; exact hD
        have h := h u6 eu6
        refine lv_aload_n hx hb dX0_endIfSettled_33 rfl (lv_at hl 0 rfl) ?_
        refine va_get (D := (dC, dI)) (ci := 0) (v := .ref (ad 2)) (C := RX0) (T := TX0) (N := 12) hx hb hts uwX0 hown hK hP 0 rfl rfl 5 (by decide) (hts _ wd_177) (fun _ h9 => h9) rfl dX0_endIfSettled_34 ?_
        refine lv_iconst (v := 0) hx hb dX0_endIfSettled_37 (by decide) ?_
        refine va_put (D := (dC, dI)) (ci := 1) (v := .int 0) (ty := tyX1 1) (C := RX1) (T := TX1) (N := 3) hx hb hts uwX1 tyX1 tyX1_ok nmX1 hown hK hP hD hS 2 rfl rfl 1 (by decide) (hts _ wd_102) (fun _ h9 => h9) rfl (tyX1_ok 1 (by decide)) rfl rfl (Nat.le_of_ble_eq_true rfl) dX0_endIfSettled_38 (fun H locs hP hD hS => ?_)
        obtain ⟨u7, eu7⟩ : ∃ z : gS, z = tI u6 2 0 := ⟨_, rfl⟩
        have hP : va_P (dC, dI) vwCl (wX ad ca K u7) H := by rw [eu7, wX_f2_size]; exact hP
        have hD : va_D A (wX ad ca K u7) := by rw [eu7, wX_f2_size]; exact hD
        have h := h u7 eu7
        refine lv_aload_n hx hb dX0_endIfSettled_41 rfl (lv_at hl 0 rfl) ?_
        refine va_get (D := (dC, dI)) (ci := 0) (v := .ref (ad 7)) (C := RX0) (T := TX0) (N := 12) hx hb hts uwX0 hown hK hP 0 rfl rfl 7 (by decide) (hts _ wd_179) (fun _ h9 => h9) rfl dX0_endIfSettled_42 ?_
        refine lv_iconst (v := 0) hx hb dX0_endIfSettled_45 (by decide) ?_
        refine va_put (D := (dC, dI)) (ci := 3) (v := .int 0) (ty := tyX3 3) (C := RX3) (T := TX3) (N := 4) hx hb hts uwX3 tyX3 tyX3_ok nmX3 hown hK hP hD hS 7 rfl rfl 3 (by decide) (hts _ wd_153) (fun _ h9 => h9) rfl (tyX3_ok 3 (by decide)) rfl rfl (Nat.le_of_ble_eq_true rfl) dX0_endIfSettled_46 (fun H locs hP hD hS => ?_)
        obtain ⟨u8, eu8⟩ : ∃ z : gS, z = tI u7 6 0 := ⟨_, rfl⟩
        have hP : va_P (dC, dI) vwCl (wX ad ca K u8) H := by rw [eu8, wX_f7_size]; exact hP
        have hD : va_D A (wX ad ca K u8) := by rw [eu8, wX_f7_size]; exact hD
        have h := h u8 eu8
        exact gr_v (w := wX ad ca K) (u := u8) hx hb hr hlocks h hP hK hD hS dX0_endIfSettled_49

theorem dX0_freeWorker_0 : decode prog_1_method_30_code 0 = .ok (.aload_n 1, 1) := by decide +kernel
theorem dX0_freeWorker_1 : decode prog_1_method_30_code 1 = .ok (.ifnonnull 4, 3) := by decide +kernel
theorem dX0_freeWorker_4 : decode prog_1_method_30_code 4 = .ok (.return_, 1) := by decide +kernel
theorem dX0_freeWorker_5 : decode prog_1_method_30_code 5 = .ok (.aload_n 0, 1) := by decide +kernel
theorem dX0_freeWorker_6 : decode prog_1_method_30_code 6 = .ok (.getfield 25, 3) := by decide +kernel
theorem dX0_freeWorker_9 : decode prog_1_method_30_code 9 = .ok (.aload_n 0, 1) := by decide +kernel
theorem dX0_freeWorker_10 : decode prog_1_method_30_code 10 = .ok (.getfield 46, 3) := by decide +kernel
theorem dX0_freeWorker_13 : decode prog_1_method_30_code 13 = .ok (.invokevirtual 304, 3) := by decide +kernel
theorem dX0_freeWorker_16 : decode prog_1_method_30_code 16 = .ok (.astore_n 2, 1) := by decide +kernel
theorem dX0_freeWorker_17 : decode prog_1_method_30_code 17 = .ok (.aload_n 2, 1) := by decide +kernel
theorem dX0_freeWorker_18 : decode prog_1_method_30_code 18 = .ok (.ifnull 11, 3) := by decide +kernel
theorem dX0_freeWorker_21 : decode prog_1_method_30_code 21 = .ok (.aload_n 1, 1) := by decide +kernel
theorem dX0_freeWorker_22 : decode prog_1_method_30_code 22 = .ok (.aload_n 2, 1) := by decide +kernel
theorem dX0_freeWorker_23 : decode prog_1_method_30_code 23 = .ok (.invokevirtual 254, 3) := by decide +kernel
theorem dX0_freeWorker_26 : decode prog_1_method_30_code 26 = .ok (.goto 11, 3) := by decide +kernel
theorem dX0_freeWorker_29 : decode prog_1_method_30_code 29 = .ok (.aload_n 1, 1) := by decide +kernel
theorem dX0_freeWorker_30 : decode prog_1_method_30_code 30 = .ok (.aload_n 0, 1) := by decide +kernel
theorem dX0_freeWorker_31 : decode prog_1_method_30_code 31 = .ok (.getfield 46, 3) := by decide +kernel
theorem dX0_freeWorker_34 : decode prog_1_method_30_code 34 = .ok (.invokevirtual 308, 3) := by decide +kernel
theorem dX0_freeWorker_37 : decode prog_1_method_30_code 37 = .ok (.return_, 1) := by decide +kernel
def wpX0_freeWorker (K : KX) (post : gS → Prop) (u : gS) (p1 : Option Nat) : Prop :=
  ((p1 = none → (post u)) ∧ (∀ y1 : Nat, p1 = some y1 → (wpX2_takeFirst K (fun (r2 : Option Nat) (u3 : gS) => ((r2 = none → (y1 ∈ K.2.1 ∧ (wpX4_rest K (fun (u7 : gS) => post u7) u3 y1 (sD u3 0)))) ∧ (∀ y4 : Nat, r2 = some y4 → (y1 ∈ K.2.1 ∧ (y4 ∈ K.2.2.1 ∧ (wpX4_begin K (fun (u11 : gS) => post u11) u3 y1 y4)))))) u (sD u 0))))

set_option maxHeartbeats 8000000 in
set_option maxRecDepth 100000 in
theorem cX0_freeWorker (l : Launch) (dC : Nat → ClassId) (dI : Nat → Nat → Nat) (ad : Nat → Nat) (ca : Nat → ClassId) (K : KX) (sz : Nat) (u : gS) (p1 : Option Nat) (post : gS → Prop)  (h : wpX0_freeWorker K post u p1) : Met l ⟨"WorkHall", "freeWorker", "(LWorkHall$Worker;)V"⟩ (gw ⟨"WorkHall", "freeWorker", "(LWorkHall$Worker;)V"⟩ prog_1_method_30_code 3 none) ({ frames := 3, cells := 0, slots := 0, locals := 120 } : Room) (va_Pc [.ref (ad 0), va_rf p1] (gB (dC, dI) vwCl (xT ca) xE (wX ad ca K u) sz)) (va_Qv post (gAt (dC, dI) vwCl (xT ca) (wX ad ca K) (va_A (wX ad ca K u) sz)) (va_A (wX ad ca K u) sz)) 0 0 (va_A (wX ad ca K u) sz) := by
  refine Met.ofW (cc := prog_1_method_30_code) (maxL := 3) (ret := none) (by decide) rfl ?_
  intro p e s m args below meth c s₁ B hml hv
  obtain ⟨rfl, hsz, hP, hK, hD0, hE⟩ := hv
  have hx := B.exec
  have hb := B.bytes
  have hr := B.returns
  have hts : ∀ w ∈ gW, w.before _ s = true := fun w h9 => atoms_spec (ws := (gw ⟨"WorkHall", "freeWorker", "(LWorkHall$Worker;)V"⟩ prog_1_method_30_code 3 none)) B.pre w (List.mem_cons_of_mem _ h9)
  have hown : s.vm.findClass RX0 = some m.cls := findClass_of_methodNamed B.named
  have hlocks := B.notSynchronized
  subst hsz
  have hD := hD0.self (sz := s.heap.size)
  generalize hAe : va_A (wX ad ca K u) s.heap.size = A at hD hE ⊢
  have hA : ∀ q : Nat, s.heap.size ≤ q → A q := fun q h => by rw [← hAe]; exact Or.inr h
  obtain ⟨H, hHe⟩ : ∃ z : Heap, z = s.heap := ⟨_, rfl⟩
  rw [← hHe]
  have hS : va_S A s.heap H [] := by rw [hHe]; exact va_S.rf
  have hP : va_P (dC, dI) vwCl (wX ad ca K u) H := by rw [hHe]; exact hP
  have hl := lv_entry ([.ref (ad 0), va_rf p1]) (n := 3) (by cases p1 <;> exact Nat.le_of_ble_eq_true rfl)
  rw [lg_entry_eq]
  generalize (lg_sl ([.ref (ad 0), va_rf p1]) ++ List.replicate (3 - (lg_sl ([.ref (ad 0), va_rf p1])).length) Slot.unset).toArray = ls at hl ⊢
  have hl : lv_has ls 3 [(0, .ref (ad 0)), (1, va_rf p1)] := (by cases p1 <;> exact hl)
  clear hAe
  refine gq_aload_n (r := p1) hx hb dX0_freeWorker_0 rfl (lv_at hl 1 rfl) ?_
  rcases p1 with _ | y1
  · have h := h.1 rfl
    refine lv_ifnonnullN hx hb dX0_freeWorker_1 ?_
    exact gr_v (w := wX ad ca K) (u := u) hx hb hr hlocks h hP hK hD hS dX0_freeWorker_4
  · have h := h.2 y1 rfl
    refine lv_ifnonnull (tgt := 5) hx hb dX0_freeWorker_1 (by decide) ?_
    refine lv_aload_n hx hb dX0_freeWorker_5 rfl (lv_at hl 0 rfl) ?_
    refine va_get (D := (dC, dI)) (ci := 0) (v := .ref (ad 4)) (C := RX0) (T := TX0) (N := 12) hx hb hts uwX0 hown hK hP 0 rfl rfl 6 (by decide) (hts _ wd_178) (fun _ h9 => h9) rfl dX0_freeWorker_6 ?_
    refine lv_aload_n hx hb dX0_freeWorker_9 rfl (lv_at hl 0 rfl) ?_
    refine va_get (D := (dC, dI)) (ci := 0) (v := .double (sD u 0)) (C := RX0) (T := TX0) (N := 12) hx hb hts uwX0 hown hK hP 0 rfl rfl 11 (by decide) (hts _ wd_183) (fun _ h9 => h9) rfl dX0_freeWorker_10 ?_
    refine gc_q (w := wX ad ca K) (u := u) (va_runV (As := [.double (sD u 0)]) (rest := []) ⟨hx, hb, hml, hown, hts⟩ (cX2_takeFirst l dC dI ad ca K H.size u (sD u 0) _ h) (cwV 1 hts (gG_V wd_512 wd_513 wd_514 wd_49 wd_515) rfl rfl rfl (by decide +kernel) ⟨Nat.le_of_ble_eq_true rfl, Nat.le_of_ble_eq_true rfl⟩) ⟨gB_blind xE_ok, va_recv hK hP (ci := 2) (q0 := 4) rfl rfl, gB_pre xE_ok hP hK hD hE hS hA⟩ rfl rfl hl.1 rfl (lv_room (Nat.le_of_ble_eq_true rfl)) dX0_freeWorker_13 ⟨Nat.le_of_ble_eq_true rfl, Nat.le_of_ble_eq_true rfl⟩) hD hS hA (fun r2 u3 H locs h hP hD hS => ?_)
    refine gq_astore_n (r := r2) (lv' := [(2, va_rf r2), (0, .ref (ad 0)), (1, .ref y1)]) hx hb dX0_freeWorker_16 rfl hl (by decide) rfl (fun ls hl => ?_)
    refine gq_aload_n (r := r2) hx hb dX0_freeWorker_17 rfl (lv_at hl 0 rfl) ?_
    rcases r2 with _ | y4
    · have h := h.1 rfl
      refine lv_ifnullN (tgt := 29) hx hb dX0_freeWorker_18 (by decide) ?_
      refine lv_aload_n hx hb dX0_freeWorker_29 rfl (lv_at hl 2 rfl) ?_
      refine lv_aload_n hx hb dX0_freeWorker_30 rfl (lv_at hl 1 rfl) ?_
      refine va_get (D := (dC, dI)) (ci := 0) (v := .double (sD u3 0)) (C := RX0) (T := TX0) (N := 12) hx hb hts uwX0 hown hK hP 0 rfl rfl 11 (by decide) (hts _ wd_183) (fun _ h9 => h9) rfl dX0_freeWorker_31 ?_
      obtain ⟨hy5, h⟩ := h
      refine gc_v (w := wX ad ca K) (u := u3) (va_runV (As := [.double (sD u3 0)]) (rest := []) ⟨hx, hb, hml, hown, hts⟩ (cX4_rest l dC dI ad ca K H.size u3 y1 (sD u3 0) _ hy5 h) (cwV 1 hts (gG_V wd_521 wd_522 wd_523 wd_48 wd_524) rfl rfl rfl (by decide +kernel) ⟨Nat.le_of_ble_eq_true rfl, Nat.le_of_ble_eq_true rfl⟩) ⟨gB_blind xE_ok, (by obtain ⟨k9, hk9⟩ := xW_get hy5; exact va_recv hK hP (ci := 4) (q0 := k9) rfl hk9), gB_pre xE_ok hP hK hD hE hS hA⟩ rfl rfl hl.1 rfl (lv_room (Nat.le_of_ble_eq_true rfl)) dX0_freeWorker_34 ⟨Nat.le_of_ble_eq_true rfl, Nat.le_of_ble_eq_true rfl⟩) hD hS hA (fun u7 H locs h hP hD hS => ?_)
      exact gr_v (w := wX ad ca K) (u := u7) hx hb hr hlocks h hP hK hD hS dX0_freeWorker_37
    · have h := h.2 y4 rfl
      refine lv_ifnull hx hb dX0_freeWorker_18 ?_
      refine lv_aload_n hx hb dX0_freeWorker_21 rfl (lv_at hl 2 rfl) ?_
      refine lv_aload_n hx hb dX0_freeWorker_22 rfl (lv_at hl 0 rfl) ?_
      obtain ⟨hy8, h⟩ := h
      obtain ⟨hy9, h⟩ := h
      refine gc_v (w := wX ad ca K) (u := u3) (va_runV (As := [.ref y4]) (rest := []) ⟨hx, hb, hml, hown, hts⟩ (cX4_begin l dC dI ad ca K H.size u3 y1 y4 _ hy8 hy9 h) (cwV 1 hts (gG_V wd_414 wd_410 wd_411 wd_48 wd_412) rfl rfl rfl (by decide +kernel) ⟨Nat.le_of_ble_eq_true rfl, Nat.le_of_ble_eq_true rfl⟩) ⟨gB_blind xE_ok, (by obtain ⟨k9, hk9⟩ := xW_get hy8; exact va_recv hK hP (ci := 4) (q0 := k9) rfl hk9), gB_pre xE_ok hP hK hD hE hS hA⟩ rfl rfl hl.1 rfl (lv_room (Nat.le_of_ble_eq_true rfl)) dX0_freeWorker_23 ⟨Nat.le_of_ble_eq_true rfl, Nat.le_of_ble_eq_true rfl⟩) hD hS hA (fun u11 H locs h hP hD hS => ?_)
      refine lv_goto (tgt := 37) hx hb dX0_freeWorker_26 (by decide) ?_
      exact gr_v (w := wX ad ca K) (u := u11) hx hb hr hlocks h hP hK hD hS dX0_freeWorker_37

theorem dX0_replaceWorker_0 : decode prog_1_method_29_code 0 = .ok (.aload_n 0, 1) := by decide +kernel
theorem dX0_replaceWorker_1 : decode prog_1_method_29_code 1 = .ok (.getfield 18, 3) := by decide +kernel
theorem dX0_replaceWorker_4 : decode prog_1_method_29_code 4 = .ok (.iload_n 1, 1) := by decide +kernel
theorem dX0_replaceWorker_5 : decode prog_1_method_29_code 5 = .ok (.invokevirtual 301, 3) := by decide +kernel
theorem dX0_replaceWorker_8 : decode prog_1_method_29_code 8 = .ok (.aload_n 0, 1) := by decide +kernel
theorem dX0_replaceWorker_9 : decode prog_1_method_29_code 9 = .ok (.getfield 25, 3) := by decide +kernel
theorem dX0_replaceWorker_12 : decode prog_1_method_29_code 12 = .ok (.aload_n 0, 1) := by decide +kernel
theorem dX0_replaceWorker_13 : decode prog_1_method_29_code 13 = .ok (.getfield 46, 3) := by decide +kernel
theorem dX0_replaceWorker_16 : decode prog_1_method_29_code 16 = .ok (.invokevirtual 304, 3) := by decide +kernel
theorem dX0_replaceWorker_19 : decode prog_1_method_29_code 19 = .ok (.astore_n 2, 1) := by decide +kernel
theorem dX0_replaceWorker_20 : decode prog_1_method_29_code 20 = .ok (.aload_n 2, 1) := by decide +kernel
theorem dX0_replaceWorker_21 : decode prog_1_method_29_code 21 = .ok (.ifnull 11, 3) := by decide +kernel
theorem dX0_replaceWorker_24 : decode prog_1_method_29_code 24 = .ok (.aload_n 0, 1) := by decide +kernel
theorem dX0_replaceWorker_25 : decode prog_1_method_29_code 25 = .ok (.getfield 18, 3) := by decide +kernel
theorem dX0_replaceWorker_28 : decode prog_1_method_29_code 28 = .ok (.aload_n 2, 1) := by decide +kernel
theorem dX0_replaceWorker_29 : decode prog_1_method_29_code 29 = .ok (.invokevirtual 250, 3) := by decide +kernel
theorem dX0_replaceWorker_32 : decode prog_1_method_29_code 32 = .ok (.return_, 1) := by decide +kernel
def wpX0_replaceWorker (K : KX) (post : gS → Prop) (u : gS) (p1 : Int32) : Prop :=
  wpX1_dismiss K (fun (u2 : gS) => wpX2_takeFirst K (fun (r3 : Option Nat) (u4 : gS) => ((r3 = none → (post u4)) ∧ (∀ y5 : Nat, r3 = some y5 → (y5 ∈ K.2.2.1 ∧ (wpX1_hire K (fun (u8 : gS) => post u8) u4 y5))))) u2 (sD u2 0)) u p1

set_option maxHeartbeats 8000000 in
set_option maxRecDepth 100000 in
theorem cX0_replaceWorker (l : Launch) (dC : Nat → ClassId) (dI : Nat → Nat → Nat) (ad : Nat → Nat) (ca : Nat → ClassId) (K : KX) (sz : Nat) (u : gS) (p1 : Int32) (post : gS → Prop)  (h : wpX0_replaceWorker K post u p1) : Met l ⟨"WorkHall", "replaceWorker", "(I)V"⟩ (gw ⟨"WorkHall", "replaceWorker", "(I)V"⟩ prog_1_method_29_code 3 none) ({ frames := 3, cells := 0, slots := 0, locals := 120 } : Room) (va_Pc [.ref (ad 0), .int p1] (gB (dC, dI) vwCl (xT ca) xE (wX ad ca K u) sz)) (va_Qv post (gAt (dC, dI) vwCl (xT ca) (wX ad ca K) (va_A (wX ad ca K u) sz)) (va_A (wX ad ca K u) sz)) 0 0 (va_A (wX ad ca K u) sz) := by
  refine Met.ofW (cc := prog_1_method_29_code) (maxL := 3) (ret := none) (by decide) rfl ?_
  intro p e s m args below meth c s₁ B hml hv
  obtain ⟨rfl, hsz, hP, hK, hD0, hE⟩ := hv
  have hx := B.exec
  have hb := B.bytes
  have hr := B.returns
  have hts : ∀ w ∈ gW, w.before _ s = true := fun w h9 => atoms_spec (ws := (gw ⟨"WorkHall", "replaceWorker", "(I)V"⟩ prog_1_method_29_code 3 none)) B.pre w (List.mem_cons_of_mem _ h9)
  have hown : s.vm.findClass RX0 = some m.cls := findClass_of_methodNamed B.named
  have hlocks := B.notSynchronized
  subst hsz
  have hD := hD0.self (sz := s.heap.size)
  generalize hAe : va_A (wX ad ca K u) s.heap.size = A at hD hE ⊢
  have hA : ∀ q : Nat, s.heap.size ≤ q → A q := fun q h => by rw [← hAe]; exact Or.inr h
  obtain ⟨H, hHe⟩ : ∃ z : Heap, z = s.heap := ⟨_, rfl⟩
  rw [← hHe]
  have hS : va_S A s.heap H [] := by rw [hHe]; exact va_S.rf
  have hP : va_P (dC, dI) vwCl (wX ad ca K u) H := by rw [hHe]; exact hP
  have hl := lv_entry ([.ref (ad 0), .int p1]) (n := 3) (Nat.le_of_ble_eq_true rfl)
  rw [lg_entry_eq]
  generalize (lg_sl ([.ref (ad 0), .int p1]) ++ List.replicate (3 - (lg_sl ([.ref (ad 0), .int p1])).length) Slot.unset).toArray = ls at hl ⊢
  have hl : lv_has ls 3 [(0, .ref (ad 0)), (1, .int p1)] := hl
  clear hAe
  refine lv_aload_n hx hb dX0_replaceWorker_0 rfl (lv_at hl 0 rfl) ?_
  refine va_get (D := (dC, dI)) (ci := 0) (v := .ref (ad 2)) (C := RX0) (T := TX0) (N := 12) hx hb hts uwX0 hown hK hP 0 rfl rfl 5 (by decide) (hts _ wd_177) (fun _ h9 => h9) rfl dX0_replaceWorker_1 ?_
  refine lv_iload_n hx hb dX0_replaceWorker_4 rfl (lv_at hl 1 rfl) ?_
  refine gc_v (w := wX ad ca K) (u := u) (va_runV (As := [.int p1]) (rest := []) ⟨hx, hb, hml, hown, hts⟩ (cX1_dismiss l dC dI ad ca K H.size u p1 _ h) (cwV 1 hts (gG_V wd_508 wd_509 wd_510 wd_47 wd_511) rfl rfl rfl (by decide +kernel) ⟨Nat.le_of_ble_eq_true rfl, Nat.le_of_ble_eq_true rfl⟩) ⟨gB_blind xE_ok, va_recv hK hP (ci := 1) (q0 := 2) rfl rfl, gB_pre xE_ok hP hK hD hE hS hA⟩ rfl rfl hl.1 rfl (lv_room (Nat.le_of_ble_eq_true rfl)) dX0_replaceWorker_5 ⟨Nat.le_of_ble_eq_true rfl, Nat.le_of_ble_eq_true rfl⟩) hD hS hA (fun u2 H locs h hP hD hS => ?_)
  refine lv_aload_n hx hb dX0_replaceWorker_8 rfl (lv_at hl 0 rfl) ?_
  refine va_get (D := (dC, dI)) (ci := 0) (v := .ref (ad 4)) (C := RX0) (T := TX0) (N := 12) hx hb hts uwX0 hown hK hP 0 rfl rfl 6 (by decide) (hts _ wd_178) (fun _ h9 => h9) rfl dX0_replaceWorker_9 ?_
  refine lv_aload_n hx hb dX0_replaceWorker_12 rfl (lv_at hl 0 rfl) ?_
  refine va_get (D := (dC, dI)) (ci := 0) (v := .double (sD u2 0)) (C := RX0) (T := TX0) (N := 12) hx hb hts uwX0 hown hK hP 0 rfl rfl 11 (by decide) (hts _ wd_183) (fun _ h9 => h9) rfl dX0_replaceWorker_13 ?_
  refine gc_q (w := wX ad ca K) (u := u2) (va_runV (As := [.double (sD u2 0)]) (rest := []) ⟨hx, hb, hml, hown, hts⟩ (cX2_takeFirst l dC dI ad ca K H.size u2 (sD u2 0) _ h) (cwV 1 hts (gG_V wd_512 wd_513 wd_514 wd_49 wd_515) rfl rfl rfl (by decide +kernel) ⟨Nat.le_of_ble_eq_true rfl, Nat.le_of_ble_eq_true rfl⟩) ⟨gB_blind xE_ok, va_recv hK hP (ci := 2) (q0 := 4) rfl rfl, gB_pre xE_ok hP hK hD hE hS hA⟩ rfl rfl hl.1 rfl (lv_room (Nat.le_of_ble_eq_true rfl)) dX0_replaceWorker_16 ⟨Nat.le_of_ble_eq_true rfl, Nat.le_of_ble_eq_true rfl⟩) hD hS hA (fun r3 u4 H locs h hP hD hS => ?_)
  refine gq_astore_n (r := r3) (lv' := [(2, va_rf r3), (0, .ref (ad 0)), (1, .int p1)]) hx hb dX0_replaceWorker_19 rfl hl (by decide) rfl (fun ls hl => ?_)
  refine gq_aload_n (r := r3) hx hb dX0_replaceWorker_20 rfl (lv_at hl 0 rfl) ?_
  rcases r3 with _ | y5
  · have h := h.1 rfl
    refine lv_ifnullN (tgt := 32) hx hb dX0_replaceWorker_21 (by decide) ?_
    exact gr_v (w := wX ad ca K) (u := u4) hx hb hr hlocks h hP hK hD hS dX0_replaceWorker_32
  · have h := h.2 y5 rfl
    refine lv_ifnull hx hb dX0_replaceWorker_21 ?_
    refine lv_aload_n hx hb dX0_replaceWorker_24 rfl (lv_at hl 1 rfl) ?_
    refine va_get (D := (dC, dI)) (ci := 0) (v := .ref (ad 2)) (C := RX0) (T := TX0) (N := 12) hx hb hts uwX0 hown hK hP 0 rfl rfl 5 (by decide) (hts _ wd_177) (fun _ h9 => h9) rfl dX0_replaceWorker_25 ?_
    refine lv_aload_n hx hb dX0_replaceWorker_28 rfl (lv_at hl 0 rfl) ?_
    obtain ⟨hy6, h⟩ := h
    refine gc_v (w := wX ad ca K) (u := u4) (va_runV (As := [.ref y5]) (rest := []) ⟨hx, hb, hml, hown, hts⟩ (cX1_hire l dC dI ad ca K H.size u4 y5 _ hy6 h) (cwV 1 hts (gG_V wd_405 wd_406 wd_407 wd_47 wd_408) rfl rfl rfl (by decide +kernel) ⟨Nat.le_of_ble_eq_true rfl, Nat.le_of_ble_eq_true rfl⟩) ⟨gB_blind xE_ok, va_recv hK hP (ci := 1) (q0 := 2) rfl rfl, gB_pre xE_ok hP hK hD hE hS hA⟩ rfl rfl hl.1 rfl (lv_room (Nat.le_of_ble_eq_true rfl)) dX0_replaceWorker_29 ⟨Nat.le_of_ble_eq_true rfl, Nat.le_of_ble_eq_true rfl⟩) hD hS hA (fun u8 H locs h hP hD hS => ?_)
    exact gr_v (w := wX ad ca K) (u := u8) hx hb hr hlocks h hP hK hD hS dX0_replaceWorker_32

