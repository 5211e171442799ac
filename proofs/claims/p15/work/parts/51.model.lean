theorem dM6_clock_0 : decode prog_8_method_37_code 0 = .ok (.aload_n 0, 1) := by decide +kernel
theorem dM6_clock_1 : decode prog_8_method_37_code 1 = .ok (.iconst 0, 1) := by decide +kernel
theorem dM6_clock_2 : decode prog_8_method_37_code 2 = .ok (.putfield 85, 3) := by decide +kernel
theorem dM6_clock_5 : decode prog_8_method_37_code 5 = .ok (.aload_n 0, 1) := by decide +kernel
theorem dM6_clock_6 : decode prog_8_method_37_code 6 = .ok (.iload_n 1, 1) := by decide +kernel
theorem dM6_clock_7 : decode prog_8_method_37_code 7 = .ok (.bipush 24, 2) := by decide +kernel
theorem dM6_clock_9 : decode prog_8_method_37_code 9 = .ok (.invokevirtual 104, 3) := by decide +kernel
theorem dM6_clock_12 : decode prog_8_method_37_code 12 = .ok (.ifCond .ne 33, 3) := by decide +kernel
theorem dM6_clock_15 : decode prog_8_method_37_code 15 = .ok (.dload_n 2, 1) := by decide +kernel
theorem dM6_clock_16 : decode prog_8_method_37_code 16 = .ok (.dconst 0, 1) := by decide +kernel
theorem dM6_clock_17 : decode prog_8_method_37_code 17 = .ok (.dcmp .l, 1) := by decide +kernel
theorem dM6_clock_18 : decode prog_8_method_37_code 18 = .ok (.ifCond .lt 27, 3) := by decide +kernel
theorem dM6_clock_21 : decode prog_8_method_37_code 21 = .ok (.dload_n 2, 1) := by decide +kernel
theorem dM6_clock_22 : decode prog_8_method_37_code 22 = .ok (.ldc2_w 206, 3) := by decide +kernel
theorem dM6_clock_25 : decode prog_8_method_37_code 25 = .ok (.dcmp .g, 1) := by decide +kernel
theorem dM6_clock_26 : decode prog_8_method_37_code 26 = .ok (.ifCond .gt 19, 3) := by decide +kernel
theorem dM6_clock_29 : decode prog_8_method_37_code 29 = .ok (.dload 4, 2) := by decide +kernel
theorem dM6_clock_31 : decode prog_8_method_37_code 31 = .ok (.dconst 0, 1) := by decide +kernel
theorem dM6_clock_32 : decode prog_8_method_37_code 32 = .ok (.dcmp .l, 1) := by decide +kernel
theorem dM6_clock_33 : decode prog_8_method_37_code 33 = .ok (.ifCond .lt 12, 3) := by decide +kernel
theorem dM6_clock_36 : decode prog_8_method_37_code 36 = .ok (.dload 4, 2) := by decide +kernel
theorem dM6_clock_38 : decode prog_8_method_37_code 38 = .ok (.ldc2_w 206, 3) := by decide +kernel
theorem dM6_clock_41 : decode prog_8_method_37_code 41 = .ok (.dcmp .g, 1) := by decide +kernel
theorem dM6_clock_42 : decode prog_8_method_37_code 42 = .ok (.ifCond .le 9, 3) := by decide +kernel
theorem dM6_clock_45 : decode prog_8_method_37_code 45 = .ok (.aload_n 0, 1) := by decide +kernel
theorem dM6_clock_46 : decode prog_8_method_37_code 46 = .ok (.iconst 1, 1) := by decide +kernel
theorem dM6_clock_47 : decode prog_8_method_37_code 47 = .ok (.invokevirtual 108, 3) := by decide +kernel
theorem dM6_clock_50 : decode prog_8_method_37_code 50 = .ok (.ireturn, 1) := by decide +kernel
theorem dM6_clock_51 : decode prog_8_method_37_code 51 = .ok (.iload_n 1, 1) := by decide +kernel
theorem dM6_clock_52 : decode prog_8_method_37_code 52 = .ok (.aload_n 0, 1) := by decide +kernel
theorem dM6_clock_53 : decode prog_8_method_37_code 53 = .ok (.getfield 112, 3) := by decide +kernel
theorem dM6_clock_56 : decode prog_8_method_37_code 56 = .ok (.if_icmp .lt 9, 3) := by decide +kernel
theorem dM6_clock_59 : decode prog_8_method_37_code 59 = .ok (.aload_n 0, 1) := by decide +kernel
theorem dM6_clock_60 : decode prog_8_method_37_code 60 = .ok (.iconst 2, 1) := by decide +kernel
theorem dM6_clock_61 : decode prog_8_method_37_code 61 = .ok (.invokevirtual 108, 3) := by decide +kernel
theorem dM6_clock_64 : decode prog_8_method_37_code 64 = .ok (.ireturn, 1) := by decide +kernel
theorem dM6_clock_65 : decode prog_8_method_37_code 65 = .ok (.aload_n 0, 1) := by decide +kernel
theorem dM6_clock_66 : decode prog_8_method_37_code 66 = .ok (.getfield 88, 3) := by decide +kernel
theorem dM6_clock_69 : decode prog_8_method_37_code 69 = .ok (.ifCond .ne 12, 3) := by decide +kernel
theorem dM6_clock_72 : decode prog_8_method_37_code 72 = .ok (.aload_n 0, 1) := by decide +kernel
theorem dM6_clock_73 : decode prog_8_method_37_code 73 = .ok (.getfield 101, 3) := by decide +kernel
theorem dM6_clock_76 : decode prog_8_method_37_code 76 = .ok (.bipush 10, 2) := by decide +kernel
theorem dM6_clock_78 : decode prog_8_method_37_code 78 = .ok (.if_icmp .ne 9, 3) := by decide +kernel
theorem dM6_clock_81 : decode prog_8_method_37_code 81 = .ok (.aload_n 0, 1) := by decide +kernel
theorem dM6_clock_82 : decode prog_8_method_37_code 82 = .ok (.iconst 3, 1) := by decide +kernel
theorem dM6_clock_83 : decode prog_8_method_37_code 83 = .ok (.invokevirtual 108, 3) := by decide +kernel
theorem dM6_clock_86 : decode prog_8_method_37_code 86 = .ok (.ireturn, 1) := by decide +kernel
theorem dM6_clock_87 : decode prog_8_method_37_code 87 = .ok (.aload_n 0, 1) := by decide +kernel
theorem dM6_clock_88 : decode prog_8_method_37_code 88 = .ok (.iload_n 1, 1) := by decide +kernel
theorem dM6_clock_89 : decode prog_8_method_37_code 89 = .ok (.aload_n 0, 1) := by decide +kernel
theorem dM6_clock_90 : decode prog_8_method_37_code 90 = .ok (.getfield 128, 3) := by decide +kernel
theorem dM6_clock_93 : decode prog_8_method_37_code 93 = .ok (.dload_n 2, 1) := by decide +kernel
theorem dM6_clock_94 : decode prog_8_method_37_code 94 = .ok (.dadd, 1) := by decide +kernel
theorem dM6_clock_95 : decode prog_8_method_37_code 95 = .ok (.dload 4, 2) := by decide +kernel
theorem dM6_clock_97 : decode prog_8_method_37_code 97 = .ok (.invokevirtual 208, 3) := by decide +kernel
theorem dM6_clock_100 : decode prog_8_method_37_code 100 = .ok (.aload_n 0, 1) := by decide +kernel
theorem dM6_clock_101 : decode prog_8_method_37_code 101 = .ok (.aload_n 0, 1) := by decide +kernel
theorem dM6_clock_102 : decode prog_8_method_37_code 102 = .ok (.getfield 101, 3) := by decide +kernel
theorem dM6_clock_105 : decode prog_8_method_37_code 105 = .ok (.invokevirtual 115, 3) := by decide +kernel
theorem dM6_clock_108 : decode prog_8_method_37_code 108 = .ok (.ireturn, 1) := by decide +kernel
def wpM6_clock (K : KM) (post : Int32 → gS → Prop) (u : gS) (p1 : Int32) (p2 : UInt64) (p3 : UInt64) : Prop :=
  ∀ u1 : gS, u1 = tI u 0 0 → (wpM6_out K (fun (r2 : Int32) (u3 : gS) => ((¬ r2 = 0 → (wpM6_fail K (fun (r5 : Int32) (u6 : gS) => post r5 u6) u3 1)) ∧ (r2 = 0 → ((((Op.cmpValue (FP.dcmp p2 FP.dconst0) .l) < 0 → (wpM6_fail K (fun (r8 : Int32) (u9 : gS) => post r8 u9) u3 1)) ∧ (¬ (Op.cmpValue (FP.dcmp p2 FP.dconst0) .l) < 0 → (((0 < (Op.cmpValue (FP.dcmp p2 4652007308841189376) .g) → (wpM6_fail K (fun (r11 : Int32) (u12 : gS) => post r11 u12) u3 1)) ∧ (¬ 0 < (Op.cmpValue (FP.dcmp p2 4652007308841189376) .g) → ((((Op.cmpValue (FP.dcmp p3 FP.dconst0) .l) < 0 → (wpM6_fail K (fun (r14 : Int32) (u15 : gS) => post r14 u15) u3 1)) ∧ (¬ (Op.cmpValue (FP.dcmp p3 FP.dconst0) .l) < 0 → ((((Op.cmpValue (FP.dcmp p3 4652007308841189376) .g) ≤ 0 → (((p1 < (sI u3 1) → (((¬ (sI u3 2) = 0 → (wpM6_fail K (fun (r19 : Int32) (u20 : gS) => post r19 u20) u3 3)) ∧ ((sI u3 2) = 0 → (((¬ (sI u3 7) = 10 → (vf_n64 (FP.dadd (sD u3 0) p2) ∧ (wpM6_put K (fun (u23 : gS) => wpM6_end K (fun (r24 : Int32) (u25 : gS) => post r24 u25) u23 (sI u23 7)) u3 p1 (FP.dadd (sD u3 0) p2) p3))) ∧ ((sI u3 7) = 10 → (wpM6_fail K (fun (r26 : Int32) (u27 : gS) => post r26 u27) u3 3)))))))) ∧ (¬ p1 < (sI u3 1) → (wpM6_fail K (fun (r28 : Int32) (u29 : gS) => post r28 u29) u3 2))))) ∧ (¬ (Op.cmpValue (FP.dcmp p3 4652007308841189376) .g) ≤ 0 → (wpM6_fail K (fun (r30 : Int32) (u31 : gS) => post r30 u31) u3 1)))))))))))))))) u1 p1 24)

set_option maxHeartbeats 8000000 in
set_option maxRecDepth 100000 in
theorem cM6_clock (l : Launch) (dC : Nat → ClassId) (dI : Nat → Nat → Nat) (ad : Nat → Nat) (ca : Nat → ClassId) (K : KM) (sz : Nat) (u : gS) (p1 : Int32) (p2 : UInt64) (p3 : UInt64) (post : Int32 → gS → Prop)  (h : wpM6_clock K post u p1 p2 p3) : Met l ⟨"WorkHallModel", "clock", "(IDD)I"⟩ (gw ⟨"WorkHallModel", "clock", "(IDD)I"⟩ prog_8_method_37_code 6 (some .int)) ({ frames := 3, cells := 0, slots := 0, locals := 120 } : Room) (va_Pc [.ref (ad 0), .int p1, .double p2, .double p3] (gB (dC, dI) vwCl (mT ca) mE (wM ad ca K u) sz)) (va_Qi post (gAt (dC, dI) vwCl (mT ca) (wM ad ca K) (va_A (wM ad ca K u) sz)) (va_A (wM ad ca K u) sz)) 0 0 (va_A (wM ad ca K u) sz) := by
  refine Met.ofW (cc := prog_8_method_37_code) (maxL := 6) (ret := (some .int)) (by decide) rfl ?_
  intro p e s m args below meth c s₁ B hml hv
  obtain ⟨rfl, hsz, hP, hK, hD0, hE⟩ := hv
  have hx := B.exec
  have hb := B.bytes
  have hr := B.returns
  have hts : ∀ w ∈ gW, w.before _ s = true := fun w h9 => atoms_spec (ws := (gw ⟨"WorkHallModel", "clock", "(IDD)I"⟩ prog_8_method_37_code 6 (some .int))) B.pre w (List.mem_cons_of_mem _ h9)
  have hown : s.vm.findClass RX6 = some m.cls := findClass_of_methodNamed B.named
  have hlocks := B.notSynchronized
  subst hsz
  have hD := hD0.self (sz := s.heap.size)
  generalize hAe : va_A (wM ad ca K u) s.heap.size = A at hD hE ⊢
  have hA : ∀ q : Nat, s.heap.size ≤ q → A q := fun q h => by rw [← hAe]; exact Or.inr h
  obtain ⟨H, hHe⟩ : ∃ z : Heap, z = s.heap := ⟨_, rfl⟩
  rw [← hHe]
  have hS : va_S A s.heap H [] := by rw [hHe]; exact va_S.rf
  have hP : va_P (dC, dI) vwCl (wM ad ca K u) H := by rw [hHe]; exact hP
  have hl := lv_entry ([.ref (ad 0), .int p1, .double p2, .double p3]) (n := 6) (Nat.le_of_ble_eq_true rfl)
  rw [lg_entry_eq]
  generalize (lg_sl ([.ref (ad 0), .int p1, .double p2, .double p3]) ++ List.replicate (6 - (lg_sl ([.ref (ad 0), .int p1, .double p2, .double p3])).length) Slot.unset).toArray = ls at hl ⊢
  have hl : lv_has ls 6 [(0, .ref (ad 0)), (1, .int p1), (2, .double p2), (4, .double p3)] := hl
  clear hAe
  refine lv_aload_n hx hb dM6_clock_0 rfl (lv_at hl 0 rfl) ?_
  refine lv_iconst (v := 0) hx hb dM6_clock_1 (by decide) ?_
  refine va_put (D := (dC, dI)) (ci := 6) (v := .int 0) (ty := tyX6 0) (C := RX6) (T := TX6) (N := 36) hx hb hts uwX6 tyX6 tyX6_ok nmX6 hown hK hP hD hS 0 rfl rfl 0 (by decide) (hts _ wd_703) (fun _ h9 => h9) rfl (tyX6_ok 0 (by decide)) rfl rfl (Nat.le_of_ble_eq_true rfl) dM6_clock_2 (fun H locs hP hD hS => ?_)
  obtain ⟨u1, eu1⟩ : ∃ z : gS, z = tI u 0 0 := ⟨_, rfl⟩
  have hP : va_P (dC, dI) vwCl (wM ad ca K u1) H := by rw [eu1, wM_f0_failed]; exact hP
  have hD : va_D A (wM ad ca K u1) := by rw [eu1, wM_f0_failed]; exact hD
  have h := h u1 eu1
  refine lv_aload_n hx hb dM6_clock_5 rfl (lv_at hl 0 rfl) ?_
  refine lv_iload_n hx hb dM6_clock_6 rfl (lv_at hl 1 rfl) ?_
  refine lv_bipush (v := 24) hx hb dM6_clock_7 (by decide) ?_
  refine gc_i (w := wM ad ca K) (u := u1) (va_runV (As := [.int p1, .int 24]) (rest := []) ⟨hx, hb, hml, hown, hts⟩ (cM6_out l dC dI ad ca K H.size u1 p1 24 _ h) (cwV 2 hts (gG_V wd_821 wd_823 wd_17 wd_52 wd_824) rfl rfl rfl (by decide +kernel) ⟨Nat.le_of_ble_eq_true rfl, Nat.le_of_ble_eq_true rfl⟩) ⟨gB_blind mE_ok, va_recv hK hP (ci := 6) (q0 := 0) rfl rfl, gB_pre mE_ok hP hK hD hE hS hA⟩ rfl rfl hl.1 rfl (lv_room (Nat.le_of_ble_eq_true rfl)) dM6_clock_9 ⟨Nat.le_of_ble_eq_true rfl, Nat.le_of_ble_eq_true rfl⟩) hD hS hA (fun r2 u3 H locs h hP hD hS => ?_)
  refine lv_if_ne (tgt := 45) hx hb dM6_clock_12 (by decide) (fun c4 => ?_) (fun c4 => ?_)
  · have h := h.1 c4
    refine lv_aload_n hx hb dM6_clock_45 rfl (lv_at hl 0 rfl) ?_
    refine lv_iconst (v := 1) hx hb dM6_clock_46 (by decide) ?_
    refine gc_i (w := wM ad ca K) (u := u3) (va_runV (As := [.int 1]) (rest := []) ⟨hx, hb, hml, hown, hts⟩ (cM6_fail l dC dI ad ca K H.size u3 1 _ h) (cwV 1 hts (gG_V wd_825 wd_827 wd_18 wd_52 wd_828) rfl rfl rfl (by decide +kernel) ⟨Nat.le_of_ble_eq_true rfl, Nat.le_of_ble_eq_true rfl⟩) ⟨gB_blind mE_ok, va_recv hK hP (ci := 6) (q0 := 0) rfl rfl, gB_pre mE_ok hP hK hD hE hS hA⟩ rfl rfl hl.1 rfl (lv_room (Nat.le_of_ble_eq_true rfl)) dM6_clock_47 ⟨Nat.le_of_ble_eq_true rfl, Nat.le_of_ble_eq_true rfl⟩) hD hS hA (fun r5 u6 H locs h hP hD hS => ?_)
    exact gr_i (w := wM ad ca K) (u := u6) hx hb hr hlocks h hP hK hD hS dM6_clock_50
  · have h := h.2 c4
    refine lv_dload_n hx hb dM6_clock_15 rfl (lv_at hl 2 rfl) ?_
    refine lv_dconst0 hx hb dM6_clock_16 ?_
    refine lv_dcmp hx hb dM6_clock_17 ?_
    refine lv_if_lt (tgt := 45) hx hb dM6_clock_18 (by decide) (fun c7 => ?_) (fun c7 => ?_)
    · have h := h.1 c7
      refine lv_aload_n hx hb dM6_clock_45 rfl (lv_at hl 0 rfl) ?_
      refine lv_iconst (v := 1) hx hb dM6_clock_46 (by decide) ?_
      refine gc_i (w := wM ad ca K) (u := u3) (va_runV (As := [.int 1]) (rest := []) ⟨hx, hb, hml, hown, hts⟩ (cM6_fail l dC dI ad ca K H.size u3 1 _ h) (cwV 1 hts (gG_V wd_825 wd_827 wd_18 wd_52 wd_828) rfl rfl rfl (by decide +kernel) ⟨Nat.le_of_ble_eq_true rfl, Nat.le_of_ble_eq_true rfl⟩) ⟨gB_blind mE_ok, va_recv hK hP (ci := 6) (q0 := 0) rfl rfl, gB_pre mE_ok hP hK hD hE hS hA⟩ rfl rfl hl.1 rfl (lv_room (Nat.le_of_ble_eq_true rfl)) dM6_clock_47 ⟨Nat.le_of_ble_eq_true rfl, Nat.le_of_ble_eq_true rfl⟩) hD hS hA (fun r8 u9 H locs h hP hD hS => ?_)
      exact gr_i (w := wM ad ca K) (u := u9) hx hb hr hlocks h hP hK hD hS dM6_clock_50
    · have h := h.2 c7
      refine lv_dload_n hx hb dM6_clock_21 rfl (lv_at hl 2 rfl) ?_
      refine lv_ldc2d (v := 4652007308841189376) hx hb hown (hts _ wd_945) dM6_clock_22 ?_
      refine lv_dcmp hx hb dM6_clock_25 ?_
      refine lv_if_gt (tgt := 45) hx hb dM6_clock_26 (by decide) (fun c10 => ?_) (fun c10 => ?_)
      · have h := h.1 c10
        refine lv_aload_n hx hb dM6_clock_45 rfl (lv_at hl 0 rfl) ?_
        refine lv_iconst (v := 1) hx hb dM6_clock_46 (by decide) ?_
        refine gc_i (w := wM ad ca K) (u := u3) (va_runV (As := [.int 1]) (rest := []) ⟨hx, hb, hml, hown, hts⟩ (cM6_fail l dC dI ad ca K H.size u3 1 _ h) (cwV 1 hts (gG_V wd_825 wd_827 wd_18 wd_52 wd_828) rfl rfl rfl (by decide +kernel) ⟨Nat.le_of_ble_eq_true rfl, Nat.le_of_ble_eq_true rfl⟩) ⟨gB_blind mE_ok, va_recv hK hP (ci := 6) (q0 := 0) rfl rfl, gB_pre mE_ok hP hK hD hE hS hA⟩ rfl rfl hl.1 rfl (lv_room (Nat.le_of_ble_eq_true rfl)) dM6_clock_47 ⟨Nat.le_of_ble_eq_true rfl, Nat.le_of_ble_eq_true rfl⟩) hD hS hA (fun r11 u12 H locs h hP hD hS => ?_)
        exact gr_i (w := wM ad ca K) (u := u12) hx hb hr hlocks h hP hK hD hS dM6_clock_50
      · have h := h.2 c10
        refine lv_dload hx hb dM6_clock_29 (lv_at hl 3 rfl) ?_
        refine lv_dconst0 hx hb dM6_clock_31 ?_
        refine lv_dcmp hx hb dM6_clock_32 ?_
        refine lv_if_lt (tgt := 45) hx hb dM6_clock_33 (by decide) (fun c13 => ?_) (fun c13 => ?_)
        · have h := h.1 c13
          refine lv_aload_n hx hb dM6_clock_45 rfl (lv_at hl 0 rfl) ?_
          refine lv_iconst (v := 1) hx hb dM6_clock_46 (by decide) ?_
          refine gc_i (w := wM ad ca K) (u := u3) (va_runV (As := [.int 1]) (rest := []) ⟨hx, hb, hml, hown, hts⟩ (cM6_fail l dC dI ad ca K H.size u3 1 _ h) (cwV 1 hts (gG_V wd_825 wd_827 wd_18 wd_52 wd_828) rfl rfl rfl (by decide +kernel) ⟨Nat.le_of_ble_eq_true rfl, Nat.le_of_ble_eq_true rfl⟩) ⟨gB_blind mE_ok, va_recv hK hP (ci := 6) (q0 := 0) rfl rfl, gB_pre mE_ok hP hK hD hE hS hA⟩ rfl rfl hl.1 rfl (lv_room (Nat.le_of_ble_eq_true rfl)) dM6_clock_47 ⟨Nat.le_of_ble_eq_true rfl, Nat.le_of_ble_eq_true rfl⟩) hD hS hA (fun r14 u15 H locs h hP hD hS => ?_)
          exact gr_i (w := wM ad ca K) (u := u15) hx hb hr hlocks h hP hK hD hS dM6_clock_50
        · have h := h.2 c13
          refine lv_dload hx hb dM6_clock_36 (lv_at hl 3 rfl) ?_
          refine lv_ldc2d (v := 4652007308841189376) hx hb hown (hts _ wd_945) dM6_clock_38 ?_
          refine lv_dcmp hx hb dM6_clock_41 ?_
          refine lv_if_le (tgt := 51) hx hb dM6_clock_42 (by decide) (fun c16 => ?_) (fun c16 => ?_)
          · have h := h.1 c16
            refine lv_iload_n hx hb dM6_clock_51 rfl (lv_at hl 1 rfl) ?_
            refine lv_aload_n hx hb dM6_clock_52 rfl (lv_at hl 0 rfl) ?_
            refine va_get (D := (dC, dI)) (ci := 6) (v := .int (sI u3 1)) (C := RX6) (T := TX6) (N := 36) hx hb hts uwX6 hown hK hP 0 rfl rfl 13 (by decide) (hts _ wd_716) (fun _ h9 => h9) rfl dM6_clock_53 ?_
            refine lv_icmp_lt (tgt := 65) hx hb dM6_clock_56 (by decide) (fun c17 => ?_) (fun c17 => ?_)
            · have h := h.1 c17
              refine lv_aload_n hx hb dM6_clock_65 rfl (lv_at hl 0 rfl) ?_
              refine va_get (D := (dC, dI)) (ci := 6) (v := .int (sI u3 2)) (C := RX6) (T := TX6) (N := 36) hx hb hts uwX6 hown hK hP 0 rfl rfl 14 (by decide) (hts _ wd_717) (fun _ h9 => h9) rfl dM6_clock_66 ?_
              refine lv_if_ne (tgt := 81) hx hb dM6_clock_69 (by decide) (fun c18 => ?_) (fun c18 => ?_)
              · have h := h.1 c18
                refine lv_aload_n hx hb dM6_clock_81 rfl (lv_at hl 0 rfl) ?_
                refine lv_iconst (v := 3) hx hb dM6_clock_82 (by decide) ?_
                refine gc_i (w := wM ad ca K) (u := u3) (va_runV (As := [.int 3]) (rest := []) ⟨hx, hb, hml, hown, hts⟩ (cM6_fail l dC dI ad ca K H.size u3 3 _ h) (cwV 1 hts (gG_V wd_825 wd_827 wd_18 wd_52 wd_828) rfl rfl rfl (by decide +kernel) ⟨Nat.le_of_ble_eq_true rfl, Nat.le_of_ble_eq_true rfl⟩) ⟨gB_blind mE_ok, va_recv hK hP (ci := 6) (q0 := 0) rfl rfl, gB_pre mE_ok hP hK hD hE hS hA⟩ rfl rfl hl.1 rfl (lv_room (Nat.le_of_ble_eq_true rfl)) dM6_clock_83 ⟨Nat.le_of_ble_eq_true rfl, Nat.le_of_ble_eq_true rfl⟩) hD hS hA (fun r19 u20 H locs h hP hD hS => ?_)
                exact gr_i (w := wM ad ca K) (u := u20) hx hb hr hlocks h hP hK hD hS dM6_clock_86
              · have h := h.2 c18
                refine lv_aload_n hx hb dM6_clock_72 rfl (lv_at hl 0 rfl) ?_
                refine va_get (D := (dC, dI)) (ci := 6) (v := .int (sI u3 7)) (C := RX6) (T := TX6) (N := 36) hx hb hts uwX6 hown hK hP 0 rfl rfl 28 (by decide) (hts _ wd_731) (fun _ h9 => h9) rfl dM6_clock_73 ?_
                refine lv_bipush (v := 10) hx hb dM6_clock_76 (by decide) ?_
                refine lv_icmp_ne (tgt := 87) hx hb dM6_clock_78 (by decide) (fun c21 => ?_) (fun c21 => ?_)
                · have h := h.1 c21
                  refine lv_aload_n hx hb dM6_clock_87 rfl (lv_at hl 0 rfl) ?_
                  refine lv_iload_n hx hb dM6_clock_88 rfl (lv_at hl 1 rfl) ?_
                  refine lv_aload_n hx hb dM6_clock_89 rfl (lv_at hl 0 rfl) ?_
                  refine va_get (D := (dC, dI)) (ci := 6) (v := .double (sD u3 0)) (C := RX6) (T := TX6) (N := 36) hx hb hts uwX6 hown hK hP 0 rfl rfl 29 (by decide) (hts _ wd_732) (fun _ h9 => h9) rfl dM6_clock_90 ?_
                  refine lv_dload_n hx hb dM6_clock_93 rfl (lv_at hl 2 rfl) ?_
                  refine lv_dadd hx hb dM6_clock_94 h.1 ?_
                  have h := h.2
                  refine lv_dload hx hb dM6_clock_95 (lv_at hl 3 rfl) ?_
                  refine gc_v (w := wM ad ca K) (u := u3) (va_runV (As := [.int p1, .double (FP.dadd (sD u3 0) p2), .double p3]) (rest := []) ⟨hx, hb, hml, hown, hts⟩ (cM6_put l dC dI ad ca K H.size u3 p1 (FP.dadd (sD u3 0) p2) p3 _ h) (cwV 3 hts (gG_V wd_946 wd_948 wd_42 wd_52 wd_949) rfl rfl rfl (by decide +kernel) ⟨Nat.le_of_ble_eq_true rfl, Nat.le_of_ble_eq_true rfl⟩) ⟨gB_blind mE_ok, va_recv hK hP (ci := 6) (q0 := 0) rfl rfl, gB_pre mE_ok hP hK hD hE hS hA⟩ rfl rfl hl.1 rfl (lv_room (Nat.le_of_ble_eq_true rfl)) dM6_clock_97 ⟨Nat.le_of_ble_eq_true rfl, Nat.le_of_ble_eq_true rfl⟩) hD hS hA (fun u23 H locs h hP hD hS => ?_)
                  refine lv_aload_n hx hb dM6_clock_100 rfl (lv_at hl 0 rfl) ?_
                  refine lv_aload_n hx hb dM6_clock_101 rfl (lv_at hl 0 rfl) ?_
                  refine va_get (D := (dC, dI)) (ci := 6) (v := .int (sI u23 7)) (C := RX6) (T := TX6) (N := 36) hx hb hts uwX6 hown hK hP 0 rfl rfl 28 (by decide) (hts _ wd_731) (fun _ h9 => h9) rfl dM6_clock_102 ?_
                  refine gc_i (w := wM ad ca K) (u := u23) (va_runV (As := [.int (sI u23 7)]) (rest := []) ⟨hx, hb, hml, hown, hts⟩ (cM6_end l dC dI ad ca K H.size u23 (sI u23 7) _ h) (cwV 1 hts (gG_V wd_829 wd_831 wd_19 wd_52 wd_832) rfl rfl rfl (by decide +kernel) ⟨Nat.le_of_ble_eq_true rfl, Nat.le_of_ble_eq_true rfl⟩) ⟨gB_blind mE_ok, va_recv hK hP (ci := 6) (q0 := 0) rfl rfl, gB_pre mE_ok hP hK hD hE hS hA⟩ rfl rfl hl.1 rfl (lv_room (Nat.le_of_ble_eq_true rfl)) dM6_clock_105 ⟨Nat.le_of_ble_eq_true rfl, Nat.le_of_ble_eq_true rfl⟩) hD hS hA (fun r24 u25 H locs h hP hD hS => ?_)
                  exact gr_i (w := wM ad ca K) (u := u25) hx hb hr hlocks h hP hK hD hS dM6_clock_108
                · have h := h.2 c21
                  refine lv_aload_n hx hb dM6_clock_81 rfl (lv_at hl 0 rfl) ?_
                  refine lv_iconst (v := 3) hx hb dM6_clock_82 (by decide) ?_
                  refine gc_i (w := wM ad ca K) (u := u3) (va_runV (As := [.int 3]) (rest := []) ⟨hx, hb, hml, hown, hts⟩ (cM6_fail l dC dI ad ca K H.size u3 3 _ h) (cwV 1 hts (gG_V wd_825 wd_827 wd_18 wd_52 wd_828) rfl rfl rfl (by decide +kernel) ⟨Nat.le_of_ble_eq_true rfl, Nat.le_of_ble_eq_true rfl⟩) ⟨gB_blind mE_ok, va_recv hK hP (ci := 6) (q0 := 0) rfl rfl, gB_pre mE_ok hP hK hD hE hS hA⟩ rfl rfl hl.1 rfl (lv_room (Nat.le_of_ble_eq_true rfl)) dM6_clock_83 ⟨Nat.le_of_ble_eq_true rfl, Nat.le_of_ble_eq_true rfl⟩) hD hS hA (fun r26 u27 H locs h hP hD hS => ?_)
                  exact gr_i (w := wM ad ca K) (u := u27) hx hb hr hlocks h hP hK hD hS dM6_clock_86
            · have h := h.2 c17
              refine lv_aload_n hx hb dM6_clock_59 rfl (lv_at hl 0 rfl) ?_
              refine lv_iconst (v := 2) hx hb dM6_clock_60 (by decide) ?_
              refine gc_i (w := wM ad ca K) (u := u3) (va_runV (As := [.int 2]) (rest := []) ⟨hx, hb, hml, hown, hts⟩ (cM6_fail l dC dI ad ca K H.size u3 2 _ h) (cwV 1 hts (gG_V wd_825 wd_827 wd_18 wd_52 wd_828) rfl rfl rfl (by decide +kernel) ⟨Nat.le_of_ble_eq_true rfl, Nat.le_of_ble_eq_true rfl⟩) ⟨gB_blind mE_ok, va_recv hK hP (ci := 6) (q0 := 0) rfl rfl, gB_pre mE_ok hP hK hD hE hS hA⟩ rfl rfl hl.1 rfl (lv_room (Nat.le_of_ble_eq_true rfl)) dM6_clock_61 ⟨Nat.le_of_ble_eq_true rfl, Nat.le_of_ble_eq_true rfl⟩) hD hS hA (fun r28 u29 H locs h hP hD hS => ?_)
              exact gr_i (w := wM ad ca K) (u := u29) hx hb hr hlocks h hP hK hD hS dM6_clock_64
          · have h := h.2 c16
            refine lv_aload_n hx hb dM6_clock_45 rfl (lv_at hl 0 rfl) ?_
            refine lv_iconst (v := 1) hx hb dM6_clock_46 (by decide) ?_
            refine gc_i (w := wM ad ca K) (u := u3) (va_runV (As := [.int 1]) (rest := []) ⟨hx, hb, hml, hown, hts⟩ (cM6_fail l dC dI ad ca K H.size u3 1 _ h) (cwV 1 hts (gG_V wd_825 wd_827 wd_18 wd_52 wd_828) rfl rfl rfl (by decide +kernel) ⟨Nat.le_of_ble_eq_true rfl, Nat.le_of_ble_eq_true rfl⟩) ⟨gB_blind mE_ok, va_recv hK hP (ci := 6) (q0 := 0) rfl rfl, gB_pre mE_ok hP hK hD hE hS hA⟩ rfl rfl hl.1 rfl (lv_room (Nat.le_of_ble_eq_true rfl)) dM6_clock_47 ⟨Nat.le_of_ble_eq_true rfl, Nat.le_of_ble_eq_true rfl⟩) hD hS hA (fun r30 u31 H locs h hP hD hS => ?_)
            exact gr_i (w := wM ad ca K) (u := u31) hx hb hr hlocks h hP hK hD hS dM6_clock_50

