theorem dM6_then_0 : decode prog_8_method_26_code 0 = .ok (.aload_n 0, 1) := by decide +kernel
theorem dM6_then_1 : decode prog_8_method_26_code 1 = .ok (.iconst 0, 1) := by decide +kernel
theorem dM6_then_2 : decode prog_8_method_26_code 2 = .ok (.putfield 85, 3) := by decide +kernel
theorem dM6_then_5 : decode prog_8_method_26_code 5 = .ok (.aload_n 0, 1) := by decide +kernel
theorem dM6_then_6 : decode prog_8_method_26_code 6 = .ok (.iload_n 1, 1) := by decide +kernel
theorem dM6_then_7 : decode prog_8_method_26_code 7 = .ok (.bipush 24, 2) := by decide +kernel
theorem dM6_then_9 : decode prog_8_method_26_code 9 = .ok (.invokevirtual 104, 3) := by decide +kernel
theorem dM6_then_12 : decode prog_8_method_26_code 12 = .ok (.ifCond .ne 18, 3) := by decide +kernel
theorem dM6_then_15 : decode prog_8_method_26_code 15 = .ok (.aload_n 0, 1) := by decide +kernel
theorem dM6_then_16 : decode prog_8_method_26_code 16 = .ok (.iload_n 2, 1) := by decide +kernel
theorem dM6_then_17 : decode prog_8_method_26_code 17 = .ok (.bipush 24, 2) := by decide +kernel
theorem dM6_then_19 : decode prog_8_method_26_code 19 = .ok (.invokevirtual 104, 3) := by decide +kernel
theorem dM6_then_22 : decode prog_8_method_26_code 22 = .ok (.ifCond .ne 8, 3) := by decide +kernel
theorem dM6_then_25 : decode prog_8_method_26_code 25 = .ok (.iload_n 1, 1) := by decide +kernel
theorem dM6_then_26 : decode prog_8_method_26_code 26 = .ok (.iload_n 2, 1) := by decide +kernel
theorem dM6_then_27 : decode prog_8_method_26_code 27 = .ok (.if_icmp .ne 9, 3) := by decide +kernel
theorem dM6_then_30 : decode prog_8_method_26_code 30 = .ok (.aload_n 0, 1) := by decide +kernel
theorem dM6_then_31 : decode prog_8_method_26_code 31 = .ok (.iconst 1, 1) := by decide +kernel
theorem dM6_then_32 : decode prog_8_method_26_code 32 = .ok (.invokevirtual 108, 3) := by decide +kernel
theorem dM6_then_35 : decode prog_8_method_26_code 35 = .ok (.ireturn, 1) := by decide +kernel
theorem dM6_then_36 : decode prog_8_method_26_code 36 = .ok (.iload_n 1, 1) := by decide +kernel
theorem dM6_then_37 : decode prog_8_method_26_code 37 = .ok (.aload_n 0, 1) := by decide +kernel
theorem dM6_then_38 : decode prog_8_method_26_code 38 = .ok (.getfield 112, 3) := by decide +kernel
theorem dM6_then_41 : decode prog_8_method_26_code 41 = .ok (.if_icmp .ge 11, 3) := by decide +kernel
theorem dM6_then_44 : decode prog_8_method_26_code 44 = .ok (.iload_n 2, 1) := by decide +kernel
theorem dM6_then_45 : decode prog_8_method_26_code 45 = .ok (.aload_n 0, 1) := by decide +kernel
theorem dM6_then_46 : decode prog_8_method_26_code 46 = .ok (.getfield 112, 3) := by decide +kernel
theorem dM6_then_49 : decode prog_8_method_26_code 49 = .ok (.if_icmp .lt 9, 3) := by decide +kernel
theorem dM6_then_52 : decode prog_8_method_26_code 52 = .ok (.aload_n 0, 1) := by decide +kernel
theorem dM6_then_53 : decode prog_8_method_26_code 53 = .ok (.iconst 2, 1) := by decide +kernel
theorem dM6_then_54 : decode prog_8_method_26_code 54 = .ok (.invokevirtual 108, 3) := by decide +kernel
theorem dM6_then_57 : decode prog_8_method_26_code 57 = .ok (.ireturn, 1) := by decide +kernel
theorem dM6_then_58 : decode prog_8_method_26_code 58 = .ok (.aload_n 0, 1) := by decide +kernel
theorem dM6_then_59 : decode prog_8_method_26_code 59 = .ok (.getfield 22, 3) := by decide +kernel
theorem dM6_then_62 : decode prog_8_method_26_code 62 = .ok (.iload_n 1, 1) := by decide +kernel
theorem dM6_then_63 : decode prog_8_method_26_code 63 = .ok (.iaload, 1) := by decide +kernel
theorem dM6_then_64 : decode prog_8_method_26_code 64 = .ok (.iconst 2, 1) := by decide +kernel
theorem dM6_then_65 : decode prog_8_method_26_code 65 = .ok (.if_icmp .le 9, 3) := by decide +kernel
theorem dM6_then_68 : decode prog_8_method_26_code 68 = .ok (.aload_n 0, 1) := by decide +kernel
theorem dM6_then_69 : decode prog_8_method_26_code 69 = .ok (.iconst 3, 1) := by decide +kernel
theorem dM6_then_70 : decode prog_8_method_26_code 70 = .ok (.invokevirtual 108, 3) := by decide +kernel
theorem dM6_then_73 : decode prog_8_method_26_code 73 = .ok (.ireturn, 1) := by decide +kernel
theorem dM6_then_74 : decode prog_8_method_26_code 74 = .ok (.aload_n 0, 1) := by decide +kernel
theorem dM6_then_75 : decode prog_8_method_26_code 75 = .ok (.getfield 25, 3) := by decide +kernel
theorem dM6_then_78 : decode prog_8_method_26_code 78 = .ok (.iload_n 1, 1) := by decide +kernel
theorem dM6_then_79 : decode prog_8_method_26_code 79 = .ok (.iaload, 1) := by decide +kernel
theorem dM6_then_80 : decode prog_8_method_26_code 80 = .ok (.istore_n 3, 1) := by decide +kernel
theorem dM6_then_81 : decode prog_8_method_26_code 81 = .ok (.aload_n 0, 1) := by decide +kernel
theorem dM6_then_82 : decode prog_8_method_26_code 82 = .ok (.getfield 25, 3) := by decide +kernel
theorem dM6_then_85 : decode prog_8_method_26_code 85 = .ok (.iload_n 1, 1) := by decide +kernel
theorem dM6_then_86 : decode prog_8_method_26_code 86 = .ok (.iload_n 2, 1) := by decide +kernel
theorem dM6_then_87 : decode prog_8_method_26_code 87 = .ok (.iastore, 1) := by decide +kernel
theorem dM6_then_88 : decode prog_8_method_26_code 88 = .ok (.aload_n 0, 1) := by decide +kernel
theorem dM6_then_89 : decode prog_8_method_26_code 89 = .ok (.iload_n 3, 1) := by decide +kernel
theorem dM6_then_90 : decode prog_8_method_26_code 90 = .ok (.invokevirtual 115, 3) := by decide +kernel
theorem dM6_then_93 : decode prog_8_method_26_code 93 = .ok (.ireturn, 1) := by decide +kernel
def wpM6_then (K : KM) (post : Int32 → gS → Prop) (u : gS) (p1 : Int32) (p2 : Int32) : Prop :=
  ∀ u1 : gS, u1 = tI u 0 0 → (wpM6_out K (fun (r2 : Int32) (u3 : gS) => ((¬ r2 = 0 → (wpM6_fail K (fun (r5 : Int32) (u6 : gS) => post r5 u6) u3 1)) ∧ (r2 = 0 → (wpM6_out K (fun (r7 : Int32) (u8 : gS) => ((¬ r7 = 0 → (wpM6_fail K (fun (r10 : Int32) (u11 : gS) => post r10 u11) u8 1)) ∧ (r7 = 0 → (((¬ p1 = p2 → ((((sI u8 1) ≤ p1 → (wpM6_fail K (fun (r14 : Int32) (u15 : gS) => post r14 u15) u8 2)) ∧ (¬ (sI u8 1) ≤ p1 → (((p2 < (sI u8 1) → (vp_in p1 24 ∧ ((((sA u8 4 p1.toNatClampNeg) ≤ 2 → (vp_in p1 24 ∧ (∀ x18 : Int32, x18 = sA u8 5 p1.toNatClampNeg → (vp_in p1 24 ∧ (∀ u19 : gS, u19 = tA u8 5 p1.toNatClampNeg p2 → (wpM6_end K (fun (r20 : Int32) (u21 : gS) => post r20 u21) u19 x18)))))) ∧ (¬ (sA u8 4 p1.toNatClampNeg) ≤ 2 → (wpM6_fail K (fun (r22 : Int32) (u23 : gS) => post r22 u23) u8 3)))))) ∧ (¬ p2 < (sI u8 1) → (wpM6_fail K (fun (r24 : Int32) (u25 : gS) => post r24 u25) u8 2)))))))) ∧ (p1 = p2 → (wpM6_fail K (fun (r26 : Int32) (u27 : gS) => post r26 u27) u8 1))))))) u3 p2 24)))) u1 p1 24)

set_option maxHeartbeats 8000000 in
set_option maxRecDepth 100000 in
theorem cM6_then (l : Launch) (dC : Nat → ClassId) (dI : Nat → Nat → Nat) (ad : Nat → Nat) (ca : Nat → ClassId) (K : KM) (sz : Nat) (u : gS) (p1 : Int32) (p2 : Int32) (post : Int32 → gS → Prop)  (h : wpM6_then K post u p1 p2) : Met l ⟨"WorkHallModel", "then", "(II)I"⟩ (gw ⟨"WorkHallModel", "then", "(II)I"⟩ prog_8_method_26_code 4 (some .int)) ({ frames := 3, cells := 0, slots := 0, locals := 120 } : Room) (va_Pc [.ref (ad 0), .int p1, .int p2] (gB (dC, dI) vwCl (mT ca) mE (wM ad ca K u) sz)) (va_Qi post (gAt (dC, dI) vwCl (mT ca) (wM ad ca K) (va_A (wM ad ca K u) sz)) (va_A (wM ad ca K u) sz)) 0 0 (va_A (wM ad ca K u) sz) := by
  refine Met.ofW (cc := prog_8_method_26_code) (maxL := 4) (ret := (some .int)) (by decide) rfl ?_
  intro p e s m args below meth c s₁ B hml hv
  obtain ⟨rfl, hsz, hP, hK, hD0, hE⟩ := hv
  have hx := B.exec
  have hb := B.bytes
  have hr := B.returns
  have hts : ∀ w ∈ gW, w.before _ s = true := fun w h9 => atoms_spec (ws := (gw ⟨"WorkHallModel", "then", "(II)I"⟩ prog_8_method_26_code 4 (some .int))) B.pre w (List.mem_cons_of_mem _ h9)
  have hown : s.vm.findClass RX6 = some m.cls := findClass_of_methodNamed B.named
  have hlocks := B.notSynchronized
  subst hsz
  have hD := hD0.self (sz := s.heap.size)
  generalize hAe : va_A (wM ad ca K u) s.heap.size = A at hD hE ⊢
  have hA : ∀ q : Nat, s.heap.size ≤ q → A q := fun q h => by rw [← hAe]; exact Or.inr h
  obtain ⟨H, hHe⟩ : ∃ z : Heap, z = s.heap := ⟨_, rfl⟩
  rw [← hHe]
  have hS : va_S A s.heap H [] := by rw [hHe]; exact va_S.rf
  have hP : va_P (dC, dI) vwCl (wM ad ca K u) H := by rw [hHe]; exact hP
  have hl := lv_entry ([.ref (ad 0), .int p1, .int p2]) (n := 4) (Nat.le_of_ble_eq_true rfl)
  rw [lg_entry_eq]
  generalize (lg_sl ([.ref (ad 0), .int p1, .int p2]) ++ List.replicate (4 - (lg_sl ([.ref (ad 0), .int p1, .int p2])).length) Slot.unset).toArray = ls at hl ⊢
  have hl : lv_has ls 4 [(0, .ref (ad 0)), (1, .int p1), (2, .int p2)] := hl
  clear hAe
  refine lv_aload_n hx hb dM6_then_0 rfl (lv_at hl 0 rfl) ?_
  refine lv_iconst (v := 0) hx hb dM6_then_1 (by decide) ?_
  refine va_put (D := (dC, dI)) (ci := 6) (v := .int 0) (ty := tyX6 0) (C := RX6) (T := TX6) (N := 36) hx hb hts uwX6 tyX6 tyX6_ok nmX6 hown hK hP hD hS 0 rfl rfl 0 (by decide) (hts _ wd_703) (fun _ h9 => h9) rfl (tyX6_ok 0 (by decide)) rfl rfl (Nat.le_of_ble_eq_true rfl) dM6_then_2 (fun H locs hP hD hS => ?_)
  obtain ⟨u1, eu1⟩ : ∃ z : gS, z = tI u 0 0 := ⟨_, rfl⟩
  have hP : va_P (dC, dI) vwCl (wM ad ca K u1) H := by rw [eu1, wM_f0_failed]; exact hP
  have hD : va_D A (wM ad ca K u1) := by rw [eu1, wM_f0_failed]; exact hD
  have h := h u1 eu1
  refine lv_aload_n hx hb dM6_then_5 rfl (lv_at hl 0 rfl) ?_
  refine lv_iload_n hx hb dM6_then_6 rfl (lv_at hl 1 rfl) ?_
  refine lv_bipush (v := 24) hx hb dM6_then_7 (by decide) ?_
  refine gc_i (w := wM ad ca K) (u := u1) (va_runV (As := [.int p1, .int 24]) (rest := []) ⟨hx, hb, hml, hown, hts⟩ (cM6_out l dC dI ad ca K H.size u1 p1 24 _ h) (cwV 2 hts (gG_V wd_821 wd_823 wd_17 wd_52 wd_824) rfl rfl rfl (by decide +kernel) ⟨Nat.le_of_ble_eq_true rfl, Nat.le_of_ble_eq_true rfl⟩) ⟨gB_blind mE_ok, va_recv hK hP (ci := 6) (q0 := 0) rfl rfl, gB_pre mE_ok hP hK hD hE hS hA⟩ rfl rfl hl.1 rfl (lv_room (Nat.le_of_ble_eq_true rfl)) dM6_then_9 ⟨Nat.le_of_ble_eq_true rfl, Nat.le_of_ble_eq_true rfl⟩) hD hS hA (fun r2 u3 H locs h hP hD hS => ?_)
  refine lv_if_ne (tgt := 30) hx hb dM6_then_12 (by decide) (fun c4 => ?_) (fun c4 => ?_)
  · have h := h.1 c4
    refine lv_aload_n hx hb dM6_then_30 rfl (lv_at hl 0 rfl) ?_
    refine lv_iconst (v := 1) hx hb dM6_then_31 (by decide) ?_
    refine gc_i (w := wM ad ca K) (u := u3) (va_runV (As := [.int 1]) (rest := []) ⟨hx, hb, hml, hown, hts⟩ (cM6_fail l dC dI ad ca K H.size u3 1 _ h) (cwV 1 hts (gG_V wd_825 wd_827 wd_18 wd_52 wd_828) rfl rfl rfl (by decide +kernel) ⟨Nat.le_of_ble_eq_true rfl, Nat.le_of_ble_eq_true rfl⟩) ⟨gB_blind mE_ok, va_recv hK hP (ci := 6) (q0 := 0) rfl rfl, gB_pre mE_ok hP hK hD hE hS hA⟩ rfl rfl hl.1 rfl (lv_room (Nat.le_of_ble_eq_true rfl)) dM6_then_32 ⟨Nat.le_of_ble_eq_true rfl, Nat.le_of_ble_eq_true rfl⟩) hD hS hA (fun r5 u6 H locs h hP hD hS => ?_)
    exact gr_i (w := wM ad ca K) (u := u6) hx hb hr hlocks h hP hK hD hS dM6_then_35
  · have h := h.2 c4
    refine lv_aload_n hx hb dM6_then_15 rfl (lv_at hl 0 rfl) ?_
    refine lv_iload_n hx hb dM6_then_16 rfl (lv_at hl 2 rfl) ?_
    refine lv_bipush (v := 24) hx hb dM6_then_17 (by decide) ?_
    refine gc_i (w := wM ad ca K) (u := u3) (va_runV (As := [.int p2, .int 24]) (rest := []) ⟨hx, hb, hml, hown, hts⟩ (cM6_out l dC dI ad ca K H.size u3 p2 24 _ h) (cwV 2 hts (gG_V wd_821 wd_823 wd_17 wd_52 wd_824) rfl rfl rfl (by decide +kernel) ⟨Nat.le_of_ble_eq_true rfl, Nat.le_of_ble_eq_true rfl⟩) ⟨gB_blind mE_ok, va_recv hK hP (ci := 6) (q0 := 0) rfl rfl, gB_pre mE_ok hP hK hD hE hS hA⟩ rfl rfl hl.1 rfl (lv_room (Nat.le_of_ble_eq_true rfl)) dM6_then_19 ⟨Nat.le_of_ble_eq_true rfl, Nat.le_of_ble_eq_true rfl⟩) hD hS hA (fun r7 u8 H locs h hP hD hS => ?_)
    refine lv_if_ne (tgt := 30) hx hb dM6_then_22 (by decide) (fun c9 => ?_) (fun c9 => ?_)
    · have h := h.1 c9
      refine lv_aload_n hx hb dM6_then_30 rfl (lv_at hl 0 rfl) ?_
      refine lv_iconst (v := 1) hx hb dM6_then_31 (by decide) ?_
      refine gc_i (w := wM ad ca K) (u := u8) (va_runV (As := [.int 1]) (rest := []) ⟨hx, hb, hml, hown, hts⟩ (cM6_fail l dC dI ad ca K H.size u8 1 _ h) (cwV 1 hts (gG_V wd_825 wd_827 wd_18 wd_52 wd_828) rfl rfl rfl (by decide +kernel) ⟨Nat.le_of_ble_eq_true rfl, Nat.le_of_ble_eq_true rfl⟩) ⟨gB_blind mE_ok, va_recv hK hP (ci := 6) (q0 := 0) rfl rfl, gB_pre mE_ok hP hK hD hE hS hA⟩ rfl rfl hl.1 rfl (lv_room (Nat.le_of_ble_eq_true rfl)) dM6_then_32 ⟨Nat.le_of_ble_eq_true rfl, Nat.le_of_ble_eq_true rfl⟩) hD hS hA (fun r10 u11 H locs h hP hD hS => ?_)
      exact gr_i (w := wM ad ca K) (u := u11) hx hb hr hlocks h hP hK hD hS dM6_then_35
    · have h := h.2 c9
      refine lv_iload_n hx hb dM6_then_25 rfl (lv_at hl 1 rfl) ?_
      refine lv_iload_n hx hb dM6_then_26 rfl (lv_at hl 2 rfl) ?_
      refine lv_icmp_ne (tgt := 36) hx hb dM6_then_27 (by decide) (fun c12 => ?_) (fun c12 => ?_)
      · have h := h.1 c12
        refine lv_iload_n hx hb dM6_then_36 rfl (lv_at hl 1 rfl) ?_
        refine lv_aload_n hx hb dM6_then_37 rfl (lv_at hl 0 rfl) ?_
        refine va_get (D := (dC, dI)) (ci := 6) (v := .int (sI u8 1)) (C := RX6) (T := TX6) (N := 36) hx hb hts uwX6 hown hK hP 0 rfl rfl 13 (by decide) (hts _ wd_716) (fun _ h9 => h9) rfl dM6_then_38 ?_
        refine lv_icmp_ge (tgt := 52) hx hb dM6_then_41 (by decide) (fun c13 => ?_) (fun c13 => ?_)
        · have h := h.1 c13
          refine lv_aload_n hx hb dM6_then_52 rfl (lv_at hl 0 rfl) ?_
          refine lv_iconst (v := 2) hx hb dM6_then_53 (by decide) ?_
          refine gc_i (w := wM ad ca K) (u := u8) (va_runV (As := [.int 2]) (rest := []) ⟨hx, hb, hml, hown, hts⟩ (cM6_fail l dC dI ad ca K H.size u8 2 _ h) (cwV 1 hts (gG_V wd_825 wd_827 wd_18 wd_52 wd_828) rfl rfl rfl (by decide +kernel) ⟨Nat.le_of_ble_eq_true rfl, Nat.le_of_ble_eq_true rfl⟩) ⟨gB_blind mE_ok, va_recv hK hP (ci := 6) (q0 := 0) rfl rfl, gB_pre mE_ok hP hK hD hE hS hA⟩ rfl rfl hl.1 rfl (lv_room (Nat.le_of_ble_eq_true rfl)) dM6_then_54 ⟨Nat.le_of_ble_eq_true rfl, Nat.le_of_ble_eq_true rfl⟩) hD hS hA (fun r14 u15 H locs h hP hD hS => ?_)
          exact gr_i (w := wM ad ca K) (u := u15) hx hb hr hlocks h hP hK hD hS dM6_then_57
        · have h := h.2 c13
          refine lv_iload_n hx hb dM6_then_44 rfl (lv_at hl 2 rfl) ?_
          refine lv_aload_n hx hb dM6_then_45 rfl (lv_at hl 0 rfl) ?_
          refine va_get (D := (dC, dI)) (ci := 6) (v := .int (sI u8 1)) (C := RX6) (T := TX6) (N := 36) hx hb hts uwX6 hown hK hP 0 rfl rfl 13 (by decide) (hts _ wd_716) (fun _ h9 => h9) rfl dM6_then_46 ?_
          refine lv_icmp_lt (tgt := 58) hx hb dM6_then_49 (by decide) (fun c16 => ?_) (fun c16 => ?_)
          · have h := h.1 c16
            refine lv_aload_n hx hb dM6_then_58 rfl (lv_at hl 0 rfl) ?_
            refine va_get (D := (dC, dI)) (ci := 6) (v := .ref (ad 5)) (C := RX6) (T := TX6) (N := 36) hx hb hts uwX6 hown hK hP 0 rfl rfl 9 (by decide) (hts _ wd_712) (fun _ h9 => h9) rfl dM6_then_59 ?_
            refine lv_iload_n hx hb dM6_then_62 rfl (lv_at hl 1 rfl) ?_
            refine va_iald hx hb hK hP 5 0 rfl rfl h.1 dM6_then_63 ?_
            have h := h.2
            refine lv_iconst (v := 2) hx hb dM6_then_64 (by decide) ?_
            refine lv_icmp_le (tgt := 74) hx hb dM6_then_65 (by decide) (fun c17 => ?_) (fun c17 => ?_)
            · have h := h.1 c17
              refine lv_aload_n hx hb dM6_then_74 rfl (lv_at hl 0 rfl) ?_
              refine va_get (D := (dC, dI)) (ci := 6) (v := .ref (ad 6)) (C := RX6) (T := TX6) (N := 36) hx hb hts uwX6 hown hK hP 0 rfl rfl 10 (by decide) (hts _ wd_713) (fun _ h9 => h9) rfl dM6_then_75 ?_
              refine lv_iload_n hx hb dM6_then_78 rfl (lv_at hl 1 rfl) ?_
              refine va_iald hx hb hK hP 6 0 rfl rfl h.1 dM6_then_79 ?_
              have h := h.2
              refine lv_topi (fun x18 ex18 => ?_)
              have h := h x18 ex18
              refine lv_istore_n (lv' := [(3, .int x18), (0, .ref (ad 0)), (1, .int p1), (2, .int p2)]) hx hb dM6_then_80 rfl hl (by decide) rfl (fun ls hl => ?_)
              refine lv_aload_n hx hb dM6_then_81 rfl (lv_at hl 1 rfl) ?_
              refine va_get (D := (dC, dI)) (ci := 6) (v := .ref (ad 6)) (C := RX6) (T := TX6) (N := 36) hx hb hts uwX6 hown hK hP 0 rfl rfl 10 (by decide) (hts _ wd_713) (fun _ h9 => h9) rfl dM6_then_82 ?_
              refine lv_iload_n hx hb dM6_then_85 rfl (lv_at hl 2 rfl) ?_
              refine lv_iload_n hx hb dM6_then_86 rfl (lv_at hl 3 rfl) ?_
              refine va_iast hx hb hK hP hD hS 6 0 rfl rfl h.1 dM6_then_87 (fun H locs hP hD hS => ?_)
              have h := h.2
              obtain ⟨u19, eu19⟩ : ∃ z : gS, z = tA u8 5 p1.toNatClampNeg p2 := ⟨_, rfl⟩
              have hP : va_P (dC, dI) vwCl (wM ad ca K u19) H := by rw [eu19, wM_a6]; exact hP
              have hD : va_D A (wM ad ca K u19) := by rw [eu19, wM_a6]; exact hD
              have h := h u19 eu19
              refine lv_aload_n hx hb dM6_then_88 rfl (lv_at hl 1 rfl) ?_
              refine lv_iload_n hx hb dM6_then_89 rfl (lv_at hl 0 rfl) ?_
              refine gc_i (w := wM ad ca K) (u := u19) (va_runV (As := [.int x18]) (rest := []) ⟨hx, hb, hml, hown, hts⟩ (cM6_end l dC dI ad ca K H.size u19 x18 _ h) (cwV 1 hts (gG_V wd_829 wd_831 wd_19 wd_52 wd_832) rfl rfl rfl (by decide +kernel) ⟨Nat.le_of_ble_eq_true rfl, Nat.le_of_ble_eq_true rfl⟩) ⟨gB_blind mE_ok, va_recv hK hP (ci := 6) (q0 := 0) rfl rfl, gB_pre mE_ok hP hK hD hE hS hA⟩ rfl rfl hl.1 rfl (lv_room (Nat.le_of_ble_eq_true rfl)) dM6_then_90 ⟨Nat.le_of_ble_eq_true rfl, Nat.le_of_ble_eq_true rfl⟩) hD hS hA (fun r20 u21 H locs h hP hD hS => ?_)
              exact gr_i (w := wM ad ca K) (u := u21) hx hb hr hlocks h hP hK hD hS dM6_then_93
            · have h := h.2 c17
              refine lv_aload_n hx hb dM6_then_68 rfl (lv_at hl 0 rfl) ?_
              refine lv_iconst (v := 3) hx hb dM6_then_69 (by decide) ?_
              refine gc_i (w := wM ad ca K) (u := u8) (va_runV (As := [.int 3]) (rest := []) ⟨hx, hb, hml, hown, hts⟩ (cM6_fail l dC dI ad ca K H.size u8 3 _ h) (cwV 1 hts (gG_V wd_825 wd_827 wd_18 wd_52 wd_828) rfl rfl rfl (by decide +kernel) ⟨Nat.le_of_ble_eq_true rfl, Nat.le_of_ble_eq_true rfl⟩) ⟨gB_blind mE_ok, va_recv hK hP (ci := 6) (q0 := 0) rfl rfl, gB_pre mE_ok hP hK hD hE hS hA⟩ rfl rfl hl.1 rfl (lv_room (Nat.le_of_ble_eq_true rfl)) dM6_then_70 ⟨Nat.le_of_ble_eq_true rfl, Nat.le_of_ble_eq_true rfl⟩) hD hS hA (fun r22 u23 H locs h hP hD hS => ?_)
              exact gr_i (w := wM ad ca K) (u := u23) hx hb hr hlocks h hP hK hD hS dM6_then_73
          · have h := h.2 c16
            refine lv_aload_n hx hb dM6_then_52 rfl (lv_at hl 0 rfl) ?_
            refine lv_iconst (v := 2) hx hb dM6_then_53 (by decide) ?_
            refine gc_i (w := wM ad ca K) (u := u8) (va_runV (As := [.int 2]) (rest := []) ⟨hx, hb, hml, hown, hts⟩ (cM6_fail l dC dI ad ca K H.size u8 2 _ h) (cwV 1 hts (gG_V wd_825 wd_827 wd_18 wd_52 wd_828) rfl rfl rfl (by decide +kernel) ⟨Nat.le_of_ble_eq_true rfl, Nat.le_of_ble_eq_true rfl⟩) ⟨gB_blind mE_ok, va_recv hK hP (ci := 6) (q0 := 0) rfl rfl, gB_pre mE_ok hP hK hD hE hS hA⟩ rfl rfl hl.1 rfl (lv_room (Nat.le_of_ble_eq_true rfl)) dM6_then_54 ⟨Nat.le_of_ble_eq_true rfl, Nat.le_of_ble_eq_true rfl⟩) hD hS hA (fun r24 u25 H locs h hP hD hS => ?_)
            exact gr_i (w := wM ad ca K) (u := u25) hx hb hr hlocks h hP hK hD hS dM6_then_57
      · have h := h.2 c12
        refine lv_aload_n hx hb dM6_then_30 rfl (lv_at hl 0 rfl) ?_
        refine lv_iconst (v := 1) hx hb dM6_then_31 (by decide) ?_
        refine gc_i (w := wM ad ca K) (u := u8) (va_runV (As := [.int 1]) (rest := []) ⟨hx, hb, hml, hown, hts⟩ (cM6_fail l dC dI ad ca K H.size u8 1 _ h) (cwV 1 hts (gG_V wd_825 wd_827 wd_18 wd_52 wd_828) rfl rfl rfl (by decide +kernel) ⟨Nat.le_of_ble_eq_true rfl, Nat.le_of_ble_eq_true rfl⟩) ⟨gB_blind mE_ok, va_recv hK hP (ci := 6) (q0 := 0) rfl rfl, gB_pre mE_ok hP hK hD hE hS hA⟩ rfl rfl hl.1 rfl (lv_room (Nat.le_of_ble_eq_true rfl)) dM6_then_32 ⟨Nat.le_of_ble_eq_true rfl, Nat.le_of_ble_eq_true rfl⟩) hD hS hA (fun r26 u27 H locs h hP hD hS => ?_)
        exact gr_i (w := wM ad ca K) (u := u27) hx hb hr hlocks h hP hK hD hS dM6_then_35

theorem dM6_place0_0 : decode prog_8_method_27_code 0 = .ok (.iconst 0, 1) := by decide +kernel
theorem dM6_place0_1 : decode prog_8_method_27_code 1 = .ok (.istore_n 2, 1) := by decide +kernel
theorem dM6_place0_2 : decode prog_8_method_27_code 2 = .ok (.iload_n 2, 1) := by decide +kernel
theorem dM6_place0_3 : decode prog_8_method_27_code 3 = .ok (.aload_n 0, 1) := by decide +kernel
theorem dM6_place0_4 : decode prog_8_method_27_code 4 = .ok (.getfield 98, 3) := by decide +kernel
theorem dM6_place0_7 : decode prog_8_method_27_code 7 = .ok (.if_icmp .ge 21, 3) := by decide +kernel
theorem dM6_place0_10 : decode prog_8_method_27_code 10 = .ok (.aload_n 0, 1) := by decide +kernel
theorem dM6_place0_11 : decode prog_8_method_27_code 11 = .ok (.getfield 34, 3) := by decide +kernel
theorem dM6_place0_14 : decode prog_8_method_27_code 14 = .ok (.iload_n 2, 1) := by decide +kernel
theorem dM6_place0_15 : decode prog_8_method_27_code 15 = .ok (.iaload, 1) := by decide +kernel
theorem dM6_place0_16 : decode prog_8_method_27_code 16 = .ok (.iload_n 1, 1) := by decide +kernel
theorem dM6_place0_17 : decode prog_8_method_27_code 17 = .ok (.if_icmp .ne 5, 3) := by decide +kernel
theorem dM6_place0_20 : decode prog_8_method_27_code 20 = .ok (.iload_n 2, 1) := by decide +kernel
theorem dM6_place0_21 : decode prog_8_method_27_code 21 = .ok (.ireturn, 1) := by decide +kernel
theorem dM6_place0_22 : decode prog_8_method_27_code 22 = .ok (.iinc 2 1, 3) := by decide +kernel
theorem dM6_place0_25 : decode prog_8_method_27_code 25 = .ok (.goto (-23), 3) := by decide +kernel
theorem dM6_place0_28 : decode prog_8_method_27_code 28 = .ok (.iconst (-1), 1) := by decide +kernel
theorem dM6_place0_29 : decode prog_8_method_27_code 29 = .ok (.ireturn, 1) := by decide +kernel
def wpM6_place0_2 (K : KM) (post : Int32 → gS → Prop) : Nat → Int32 → Int32 → gS → Prop
  | 0 => fun _ _ _ => False
  | n + 1 => fun l1 l2 u => (((sI u 3) ≤ l2 → (post (-1) u)) ∧ (¬ (sI u 3) ≤ l2 → (vp_in l2 8 ∧ (((¬ (sA u 8 l2.toNatClampNeg) = l1 → (∀ x3 : Int32, x3 = l2 + 1 → (wpM6_place0_2 K post n l1 x3 u))) ∧ ((sA u 8 l2.toNatClampNeg) = l1 → (post l2 u)))))))

def wpM6_place0 (K : KM) (post : Int32 → gS → Prop) (u : gS) (p1 : Int32) : Prop :=
  ∃ n2 : Nat, wpM6_place0_2 K post n2 p1 0 u

set_option maxHeartbeats 8000000 in
set_option maxRecDepth 100000 in
theorem wpM6_place0_2_ok {p : Program} {l : Launch} {e : Env} {s : State} {m : MethodId} {args : Array Value} {below : List Frame} {meth : Method} {c : Code} {dC : Nat → ClassId} {dI : Nat → Nat → Nat} {ad : Nat → Nat} {ca : Nat → ClassId} {K : KM} {A : Nat → Prop} {post : Int32 → gS → Prop}   (hx : p.tables.exec = Jvm.exec) (hb : c.code = prog_8_method_27_code) (hr : meth.sig.returnType = (some .int)) (hml : c.maxLocals = 3) (hown : s.vm.findClass RX6 = some m.cls) (hts : ∀ w ∈ gW, w.before args s = true) (hlocks : meth.locks = false) (hK : va_K (dC, dI) vwCl (mT ca) s) (hA : ∀ q, s.heap.size ≤ q → A q) (hE : mE A s s.heap) :
    ∀ (n : Nat) (l1 : Int32) (l2 : Int32) (u : gS) (H : Heap) (locs : List Loc) (ls : Array Slot), wpM6_place0_2 K post n l1 l2 u → va_P (dC, dI) vwCl (wM ad ca K u) H → va_D A (wM ad ca K u) → va_S A s.heap H locs → lv_has ls 3 [(0, .ref (ad 0)), (1, .int l1), (2, .int l2)] → W p l e (headSpec (gw ⟨"WorkHallModel", "place0", "(I)I"⟩ prog_8_method_27_code 3 (some .int)) ({ frames := 1, cells := 0, slots := 0, locals := 40 } : Room)).room s m args below meth c H locs 0 0 (MQ below (va_Qi post (gAt (dC, dI) vwCl (mT ca) (wM ad ca K) (A)) (A)) args s 0 0 A) (F0 m 2 ls []) := by
  intro n
  induction n with
  | zero => exact fun _ _ _ _ _ _ h => h.elim
  | succ n ih =>
    intro l1 l2 u H locs ls h hP hD hS hl
    refine lv_iload_n hx hb dM6_place0_2 rfl (lv_at hl 2 rfl) ?_
    refine lv_aload_n hx hb dM6_place0_3 rfl (lv_at hl 0 rfl) ?_
    refine va_get (D := (dC, dI)) (ci := 6) (v := .int (sI u 3)) (C := RX6) (T := TX6) (N := 36) hx hb hts uwX6 hown hK hP 0 rfl rfl 19 (by decide) (hts _ wd_722) (fun _ h9 => h9) rfl dM6_place0_4 ?_
    refine lv_icmp_ge (tgt := 28) hx hb dM6_place0_7 (by decide) (fun c1 => ?_) (fun c1 => ?_)
    · have h := h.1 c1
      refine lv_iconst (v := (-1)) hx hb dM6_place0_28 (by decide) ?_
      exact gr_i (w := wM ad ca K) (u := u) hx hb hr hlocks h hP hK hD hS dM6_place0_29
    · have h := h.2 c1
      refine lv_aload_n hx hb dM6_place0_10 rfl (lv_at hl 0 rfl) ?_
      refine va_get (D := (dC, dI)) (ci := 6) (v := .ref (ad 9)) (C := RX6) (T := TX6) (N := 36) hx hb hts uwX6 hown hK hP 0 rfl rfl 15 (by decide) (hts _ wd_718) (fun _ h9 => h9) rfl dM6_place0_11 ?_
      refine lv_iload_n hx hb dM6_place0_14 rfl (lv_at hl 2 rfl) ?_
      refine va_iald hx hb hK hP 9 0 rfl rfl h.1 dM6_place0_15 ?_
      have h := h.2
      refine lv_iload_n hx hb dM6_place0_16 rfl (lv_at hl 1 rfl) ?_
      refine lv_icmp_ne (tgt := 22) hx hb dM6_place0_17 (by decide) (fun c2 => ?_) (fun c2 => ?_)
      · have h := h.1 c2
        obtain ⟨x3, ex3⟩ : ∃ y : Int32, y = l2 + 1 := ⟨_, rfl⟩
        have h := h x3 ex3
        refine lv_iinc (v := x3) (lv' := [(2, .int x3), (0, .ref (ad 0)), (1, .int l1)]) hx hb dM6_place0_22 hl (k := 2) rfl (by rw [ex3]; rfl) (by decide) rfl (fun ls hl => ?_)
        refine lv_goto (tgt := 2) hx hb dM6_place0_25 (by decide) ?_
        exact ih l1 x3 u _ _ _ h hP hD hS (lv_sub hl [1, 2, 0] rfl)
      · have h := h.2 c2
        refine lv_iload_n hx hb dM6_place0_20 rfl (lv_at hl 2 rfl) ?_
        exact gr_i (w := wM ad ca K) (u := u) hx hb hr hlocks h hP hK hD hS dM6_place0_21

set_option maxHeartbeats 8000000 in
set_option maxRecDepth 100000 in
theorem cM6_place0 (l : Launch) (dC : Nat → ClassId) (dI : Nat → Nat → Nat) (ad : Nat → Nat) (ca : Nat → ClassId) (K : KM) (sz : Nat) (u : gS) (p1 : Int32) (post : Int32 → gS → Prop)  (h : wpM6_place0 K post u p1) : Met l ⟨"WorkHallModel", "place0", "(I)I"⟩ (gw ⟨"WorkHallModel", "place0", "(I)I"⟩ prog_8_method_27_code 3 (some .int)) ({ frames := 1, cells := 0, slots := 0, locals := 40 } : Room) (va_Pc [.ref (ad 0), .int p1] (gB (dC, dI) vwCl (mT ca) mE (wM ad ca K u) sz)) (va_Qi post (gAt (dC, dI) vwCl (mT ca) (wM ad ca K) (va_A (wM ad ca K u) sz)) (va_A (wM ad ca K u) sz)) 0 0 (va_A (wM ad ca K u) sz) := by
  refine Met.ofW (cc := prog_8_method_27_code) (maxL := 3) (ret := (some .int)) (by decide) rfl ?_
  intro p e s m args below meth c s₁ B hml hv
  obtain ⟨rfl, hsz, hP, hK, hD0, hE⟩ := hv
  have hx := B.exec
  have hb := B.bytes
  have hr := B.returns
  have hts : ∀ w ∈ gW, w.before _ s = true := fun w h9 => atoms_spec (ws := (gw ⟨"WorkHallModel", "place0", "(I)I"⟩ prog_8_method_27_code 3 (some .int))) B.pre w (List.mem_cons_of_mem _ h9)
  have hown : s.vm.findClass RX6 = some m.cls := findClass_of_methodNamed B.named
  have hlocks := B.notSynchronized
  subst hsz
  have hD := hD0.self (sz := s.heap.size)
  generalize hAe : va_A (wM ad ca K u) s.heap.size = A at hD hE ⊢
  have hA : ∀ q : Nat, s.heap.size ≤ q → A q := fun q h => by rw [← hAe]; exact Or.inr h
  obtain ⟨H, hHe⟩ : ∃ z : Heap, z = s.heap := ⟨_, rfl⟩
  rw [← hHe]
  have hS : va_S A s.heap H [] := by rw [hHe]; exact va_S.rf
  have hP : va_P (dC, dI) vwCl (wM ad ca K u) H := by rw [hHe]; exact hP
  have hl := lv_entry ([.ref (ad 0), .int p1]) (n := 3) (Nat.le_of_ble_eq_true rfl)
  rw [lg_entry_eq]
  generalize (lg_sl ([.ref (ad 0), .int p1]) ++ List.replicate (3 - (lg_sl ([.ref (ad 0), .int p1])).length) Slot.unset).toArray = ls at hl ⊢
  have hl : lv_has ls 3 [(0, .ref (ad 0)), (1, .int p1)] := hl
  clear hAe
  refine lv_iconst (v := 0) hx hb dM6_place0_0 (by decide) ?_
  refine lv_istore_n (lv' := [(2, .int 0), (0, .ref (ad 0)), (1, .int p1)]) hx hb dM6_place0_1 rfl hl (by decide) rfl (fun ls hl => ?_)
  obtain ⟨n2, h⟩ := h
  exact wpM6_place0_2_ok hx hb hr hml hown hts hlocks hK hA hE n2 p1 0 u _ _ _ h hP hD hS (lv_sub hl [1, 2, 0] rfl)

theorem dM6_removeWorker_0 : decode prog_8_method_28_code 0 = .ok (.aload_n 0, 1) := by decide +kernel
theorem dM6_removeWorker_1 : decode prog_8_method_28_code 1 = .ok (.dup, 1) := by decide +kernel
theorem dM6_removeWorker_2 : decode prog_8_method_28_code 2 = .ok (.getfield 98, 3) := by decide +kernel
theorem dM6_removeWorker_5 : decode prog_8_method_28_code 5 = .ok (.iconst 1, 1) := by decide +kernel
theorem dM6_removeWorker_6 : decode prog_8_method_28_code 6 = .ok (.isub, 1) := by decide +kernel
theorem dM6_removeWorker_7 : decode prog_8_method_28_code 7 = .ok (.putfield 98, 3) := by decide +kernel
theorem dM6_removeWorker_10 : decode prog_8_method_28_code 10 = .ok (.iload_n 1, 1) := by decide +kernel
theorem dM6_removeWorker_11 : decode prog_8_method_28_code 11 = .ok (.istore_n 2, 1) := by decide +kernel
theorem dM6_removeWorker_12 : decode prog_8_method_28_code 12 = .ok (.iload_n 2, 1) := by decide +kernel
theorem dM6_removeWorker_13 : decode prog_8_method_28_code 13 = .ok (.aload_n 0, 1) := by decide +kernel
theorem dM6_removeWorker_14 : decode prog_8_method_28_code 14 = .ok (.getfield 98, 3) := by decide +kernel
theorem dM6_removeWorker_17 : decode prog_8_method_28_code 17 = .ok (.if_icmp .ge 65, 3) := by decide +kernel
theorem dM6_removeWorker_20 : decode prog_8_method_28_code 20 = .ok (.aload_n 0, 1) := by decide +kernel
theorem dM6_removeWorker_21 : decode prog_8_method_28_code 21 = .ok (.getfield 34, 3) := by decide +kernel
theorem dM6_removeWorker_24 : decode prog_8_method_28_code 24 = .ok (.iload_n 2, 1) := by decide +kernel
theorem dM6_removeWorker_25 : decode prog_8_method_28_code 25 = .ok (.aload_n 0, 1) := by decide +kernel
theorem dM6_removeWorker_26 : decode prog_8_method_28_code 26 = .ok (.getfield 34, 3) := by decide +kernel
theorem dM6_removeWorker_29 : decode prog_8_method_28_code 29 = .ok (.iload_n 2, 1) := by decide +kernel
theorem dM6_removeWorker_30 : decode prog_8_method_28_code 30 = .ok (.iconst 1, 1) := by decide +kernel
theorem dM6_removeWorker_31 : decode prog_8_method_28_code 31 = .ok (.iadd, 1) := by decide +kernel
theorem dM6_removeWorker_32 : decode prog_8_method_28_code 32 = .ok (.iaload, 1) := by decide +kernel
theorem dM6_removeWorker_33 : decode prog_8_method_28_code 33 = .ok (.iastore, 1) := by decide +kernel
theorem dM6_removeWorker_34 : decode prog_8_method_28_code 34 = .ok (.aload_n 0, 1) := by decide +kernel
theorem dM6_removeWorker_35 : decode prog_8_method_28_code 35 = .ok (.getfield 37, 3) := by decide +kernel
theorem dM6_removeWorker_38 : decode prog_8_method_28_code 38 = .ok (.iload_n 2, 1) := by decide +kernel
theorem dM6_removeWorker_39 : decode prog_8_method_28_code 39 = .ok (.aload_n 0, 1) := by decide +kernel
theorem dM6_removeWorker_40 : decode prog_8_method_28_code 40 = .ok (.getfield 37, 3) := by decide +kernel
theorem dM6_removeWorker_43 : decode prog_8_method_28_code 43 = .ok (.iload_n 2, 1) := by decide +kernel
theorem dM6_removeWorker_44 : decode prog_8_method_28_code 44 = .ok (.iconst 1, 1) := by decide +kernel
theorem dM6_removeWorker_45 : decode prog_8_method_28_code 45 = .ok (.iadd, 1) := by decide +kernel
theorem dM6_removeWorker_46 : decode prog_8_method_28_code 46 = .ok (.iaload, 1) := by decide +kernel
theorem dM6_removeWorker_47 : decode prog_8_method_28_code 47 = .ok (.iastore, 1) := by decide +kernel
theorem dM6_removeWorker_48 : decode prog_8_method_28_code 48 = .ok (.aload_n 0, 1) := by decide +kernel
theorem dM6_removeWorker_49 : decode prog_8_method_28_code 49 = .ok (.getfield 40, 3) := by decide +kernel
theorem dM6_removeWorker_52 : decode prog_8_method_28_code 52 = .ok (.iload_n 2, 1) := by decide +kernel
theorem dM6_removeWorker_53 : decode prog_8_method_28_code 53 = .ok (.aload_n 0, 1) := by decide +kernel
theorem dM6_removeWorker_54 : decode prog_8_method_28_code 54 = .ok (.getfield 40, 3) := by decide +kernel
theorem dM6_removeWorker_57 : decode prog_8_method_28_code 57 = .ok (.iload_n 2, 1) := by decide +kernel
theorem dM6_removeWorker_58 : decode prog_8_method_28_code 58 = .ok (.iconst 1, 1) := by decide +kernel
theorem dM6_removeWorker_59 : decode prog_8_method_28_code 59 = .ok (.iadd, 1) := by decide +kernel
theorem dM6_removeWorker_60 : decode prog_8_method_28_code 60 = .ok (.iaload, 1) := by decide +kernel
theorem dM6_removeWorker_61 : decode prog_8_method_28_code 61 = .ok (.iastore, 1) := by decide +kernel
theorem dM6_removeWorker_62 : decode prog_8_method_28_code 62 = .ok (.aload_n 0, 1) := by decide +kernel
theorem dM6_removeWorker_63 : decode prog_8_method_28_code 63 = .ok (.getfield 43, 3) := by decide +kernel
theorem dM6_removeWorker_66 : decode prog_8_method_28_code 66 = .ok (.iload_n 2, 1) := by decide +kernel
theorem dM6_removeWorker_67 : decode prog_8_method_28_code 67 = .ok (.aload_n 0, 1) := by decide +kernel
theorem dM6_removeWorker_68 : decode prog_8_method_28_code 68 = .ok (.getfield 43, 3) := by decide +kernel
theorem dM6_removeWorker_71 : decode prog_8_method_28_code 71 = .ok (.iload_n 2, 1) := by decide +kernel
theorem dM6_removeWorker_72 : decode prog_8_method_28_code 72 = .ok (.iconst 1, 1) := by decide +kernel
theorem dM6_removeWorker_73 : decode prog_8_method_28_code 73 = .ok (.iadd, 1) := by decide +kernel
theorem dM6_removeWorker_74 : decode prog_8_method_28_code 74 = .ok (.daload, 1) := by decide +kernel
theorem dM6_removeWorker_75 : decode prog_8_method_28_code 75 = .ok (.dastore, 1) := by decide +kernel
theorem dM6_removeWorker_76 : decode prog_8_method_28_code 76 = .ok (.iinc 2 1, 3) := by decide +kernel
theorem dM6_removeWorker_79 : decode prog_8_method_28_code 79 = .ok (.goto (-67), 3) := by decide +kernel
theorem dM6_removeWorker_82 : decode prog_8_method_28_code 82 = .ok (.return_, 1) := by decide +kernel
def wpM6_removeWorker_12 (K : KM) (post : gS → Prop) : Nat → Int32 → Int32 → gS → Prop
  | 0 => fun _ _ _ => False
  | n + 1 => fun l1 l2 u => (((sI u 3) ≤ l2 → (post u)) ∧ (¬ (sI u 3) ≤ l2 → (vp_in (l2 + 1) 8 ∧ (vp_in l2 8 ∧ (∀ u3 : gS, u3 = tA u 8 l2.toNatClampNeg (sA u 8 (l2 + 1).toNatClampNeg) → (vp_in (l2 + 1) 8 ∧ (vp_in l2 8 ∧ (∀ u4 : gS, u4 = tA u3 9 l2.toNatClampNeg (sA u3 9 (l2 + 1).toNatClampNeg) → (vp_in (l2 + 1) 8 ∧ (vp_in l2 8 ∧ (∀ u5 : gS, u5 = tA u4 10 l2.toNatClampNeg (sA u4 10 (l2 + 1).toNatClampNeg) → (vp_in (l2 + 1) 8 ∧ (vp_in l2 8 ∧ (∀ u6 : gS, u6 = tB u5 0 l2.toNatClampNeg (sB u5 0 (l2 + 1).toNatClampNeg) → (∀ x7 : Int32, x7 = l2 + 1 → (wpM6_removeWorker_12 K post n l1 x7 u6))))))))))))))))

def wpM6_removeWorker (K : KM) (post : gS → Prop) (u : gS) (p1 : Int32) : Prop :=
  ∀ u1 : gS, u1 = tI u 3 ((sI u 3) - 1) → (∃ n12 : Nat, wpM6_removeWorker_12 K post n12 p1 p1 u1)

set_option maxHeartbeats 8000000 in
set_option maxRecDepth 100000 in
theorem wpM6_removeWorker_12_ok {p : Program} {l : Launch} {e : Env} {s : State} {m : MethodId} {args : Array Value} {below : List Frame} {meth : Method} {c : Code} {dC : Nat → ClassId} {dI : Nat → Nat → Nat} {ad : Nat → Nat} {ca : Nat → ClassId} {K : KM} {A : Nat → Prop} {post : gS → Prop}   (hx : p.tables.exec = Jvm.exec) (hb : c.code = prog_8_method_28_code) (hr : meth.sig.returnType = none) (hml : c.maxLocals = 3) (hown : s.vm.findClass RX6 = some m.cls) (hts : ∀ w ∈ gW, w.before args s = true) (hlocks : meth.locks = false) (hK : va_K (dC, dI) vwCl (mT ca) s) (hA : ∀ q, s.heap.size ≤ q → A q) (hE : mE A s s.heap) :
    ∀ (n : Nat) (l1 : Int32) (l2 : Int32) (u : gS) (H : Heap) (locs : List Loc) (ls : Array Slot), wpM6_removeWorker_12 K post n l1 l2 u → va_P (dC, dI) vwCl (wM ad ca K u) H → va_D A (wM ad ca K u) → va_S A s.heap H locs → lv_has ls 3 [(0, .ref (ad 0)), (1, .int l1), (2, .int l2)] → W p l e (headSpec (gw ⟨"WorkHallModel", "removeWorker", "(I)V"⟩ prog_8_method_28_code 3 none) ({ frames := 1, cells := 0, slots := 0, locals := 40 } : Room)).room s m args below meth c H locs 0 0 (MQ below (va_Qv post (gAt (dC, dI) vwCl (mT ca) (wM ad ca K) (A)) (A)) args s 0 0 A) (F0 m 12 ls []) := by
  intro n
  induction n with
  | zero => exact fun _ _ _ _ _ _ h => h.elim
  | succ n ih =>
    intro l1 l2 u H locs ls h hP hD hS hl
    refine lv_iload_n hx hb dM6_removeWorker_12 rfl (lv_at hl 2 rfl) ?_
    refine lv_aload_n hx hb dM6_removeWorker_13 rfl (lv_at hl 0 rfl) ?_
    refine va_get (D := (dC, dI)) (ci := 6) (v := .int (sI u 3)) (C := RX6) (T := TX6) (N := 36) hx hb hts uwX6 hown hK hP 0 rfl rfl 19 (by decide) (hts _ wd_722) (fun _ h9 => h9) rfl dM6_removeWorker_14 ?_
    refine lv_icmp_ge (tgt := 82) hx hb dM6_removeWorker_17 (by decide) (fun c2 => ?_) (fun c2 => ?_)
    · have h := h.1 c2
      exact gr_v (w := wM ad ca K) (u := u) hx hb hr hlocks h hP hK hD hS dM6_removeWorker_82
    · have h := h.2 c2
      refine lv_aload_n hx hb dM6_removeWorker_20 rfl (lv_at hl 0 rfl) ?_
      refine va_get (D := (dC, dI)) (ci := 6) (v := .ref (ad 9)) (C := RX6) (T := TX6) (N := 36) hx hb hts uwX6 hown hK hP 0 rfl rfl 15 (by decide) (hts _ wd_718) (fun _ h9 => h9) rfl dM6_removeWorker_21 ?_
      refine lv_iload_n hx hb dM6_removeWorker_24 rfl (lv_at hl 2 rfl) ?_
      refine lv_aload_n hx hb dM6_removeWorker_25 rfl (lv_at hl 0 rfl) ?_
      refine va_get (D := (dC, dI)) (ci := 6) (v := .ref (ad 9)) (C := RX6) (T := TX6) (N := 36) hx hb hts uwX6 hown hK hP 0 rfl rfl 15 (by decide) (hts _ wd_718) (fun _ h9 => h9) rfl dM6_removeWorker_26 ?_
      refine lv_iload_n hx hb dM6_removeWorker_29 rfl (lv_at hl 2 rfl) ?_
      refine lv_iconst (v := 1) hx hb dM6_removeWorker_30 (by decide) ?_
      refine lv_iadd hx hb dM6_removeWorker_31 ?_
      refine va_iald hx hb hK hP 9 0 rfl rfl h.1 dM6_removeWorker_32 ?_
      have h := h.2
      refine va_iast hx hb hK hP hD hS 9 0 rfl rfl h.1 dM6_removeWorker_33 (fun H locs hP hD hS => ?_)
      have h := h.2
      obtain ⟨u3, eu3⟩ : ∃ z : gS, z = tA u 8 l2.toNatClampNeg (sA u 8 (l2 + 1).toNatClampNeg) := ⟨_, rfl⟩
      have hP : va_P (dC, dI) vwCl (wM ad ca K u3) H := by rw [eu3, wM_a9]; exact hP
      have hD : va_D A (wM ad ca K u3) := by rw [eu3, wM_a9]; exact hD
      have h := h u3 eu3
      refine lv_aload_n hx hb dM6_removeWorker_34 rfl (lv_at hl 0 rfl) ?_
      refine va_get (D := (dC, dI)) (ci := 6) (v := .ref (ad 10)) (C := RX6) (T := TX6) (N := 36) hx hb hts uwX6 hown hK hP 0 rfl rfl 16 (by decide) (hts _ wd_719) (fun _ h9 => h9) rfl dM6_removeWorker_35 ?_
      refine lv_iload_n hx hb dM6_removeWorker_38 rfl (lv_at hl 2 rfl) ?_
      refine lv_aload_n hx hb dM6_removeWorker_39 rfl (lv_at hl 0 rfl) ?_
      refine va_get (D := (dC, dI)) (ci := 6) (v := .ref (ad 10)) (C := RX6) (T := TX6) (N := 36) hx hb hts uwX6 hown hK hP 0 rfl rfl 16 (by decide) (hts _ wd_719) (fun _ h9 => h9) rfl dM6_removeWorker_40 ?_
      refine lv_iload_n hx hb dM6_removeWorker_43 rfl (lv_at hl 2 rfl) ?_
      refine lv_iconst (v := 1) hx hb dM6_removeWorker_44 (by decide) ?_
      refine lv_iadd hx hb dM6_removeWorker_45 ?_
      refine va_iald hx hb hK hP 10 0 rfl rfl h.1 dM6_removeWorker_46 ?_
      have h := h.2
      refine va_iast hx hb hK hP hD hS 10 0 rfl rfl h.1 dM6_removeWorker_47 (fun H locs hP hD hS => ?_)
      have h := h.2
      obtain ⟨u4, eu4⟩ : ∃ z : gS, z = tA u3 9 l2.toNatClampNeg (sA u3 9 (l2 + 1).toNatClampNeg) := ⟨_, rfl⟩
      have hP : va_P (dC, dI) vwCl (wM ad ca K u4) H := by rw [eu4, wM_a10]; exact hP
      have hD : va_D A (wM ad ca K u4) := by rw [eu4, wM_a10]; exact hD
      have h := h u4 eu4
      refine lv_aload_n hx hb dM6_removeWorker_48 rfl (lv_at hl 0 rfl) ?_
      refine va_get (D := (dC, dI)) (ci := 6) (v := .ref (ad 11)) (C := RX6) (T := TX6) (N := 36) hx hb hts uwX6 hown hK hP 0 rfl rfl 17 (by decide) (hts _ wd_720) (fun _ h9 => h9) rfl dM6_removeWorker_49 ?_
      refine lv_iload_n hx hb dM6_removeWorker_52 rfl (lv_at hl 2 rfl) ?_
      refine lv_aload_n hx hb dM6_removeWorker_53 rfl (lv_at hl 0 rfl) ?_
      refine va_get (D := (dC, dI)) (ci := 6) (v := .ref (ad 11)) (C := RX6) (T := TX6) (N := 36) hx hb hts uwX6 hown hK hP 0 rfl rfl 17 (by decide) (hts _ wd_720) (fun _ h9 => h9) rfl dM6_removeWorker_54 ?_
      refine lv_iload_n hx hb dM6_removeWorker_57 rfl (lv_at hl 2 rfl) ?_
      refine lv_iconst (v := 1) hx hb dM6_removeWorker_58 (by decide) ?_
      refine lv_iadd hx hb dM6_removeWorker_59 ?_
      refine va_iald hx hb hK hP 11 0 rfl rfl h.1 dM6_removeWorker_60 ?_
      have h := h.2
      refine va_iast hx hb hK hP hD hS 11 0 rfl rfl h.1 dM6_removeWorker_61 (fun H locs hP hD hS => ?_)
      have h := h.2
      obtain ⟨u5, eu5⟩ : ∃ z : gS, z = tA u4 10 l2.toNatClampNeg (sA u4 10 (l2 + 1).toNatClampNeg) := ⟨_, rfl⟩
      have hP : va_P (dC, dI) vwCl (wM ad ca K u5) H := by rw [eu5, wM_a11]; exact hP
      have hD : va_D A (wM ad ca K u5) := by rw [eu5, wM_a11]; exact hD
      have h := h u5 eu5
      refine lv_aload_n hx hb dM6_removeWorker_62 rfl (lv_at hl 0 rfl) ?_
      refine va_get (D := (dC, dI)) (ci := 6) (v := .ref (ad 12)) (C := RX6) (T := TX6) (N := 36) hx hb hts uwX6 hown hK hP 0 rfl rfl 18 (by decide) (hts _ wd_721) (fun _ h9 => h9) rfl dM6_removeWorker_63 ?_
      refine lv_iload_n hx hb dM6_removeWorker_66 rfl (lv_at hl 2 rfl) ?_
      refine lv_aload_n hx hb dM6_removeWorker_67 rfl (lv_at hl 0 rfl) ?_
      refine va_get (D := (dC, dI)) (ci := 6) (v := .ref (ad 12)) (C := RX6) (T := TX6) (N := 36) hx hb hts uwX6 hown hK hP 0 rfl rfl 18 (by decide) (hts _ wd_721) (fun _ h9 => h9) rfl dM6_removeWorker_68 ?_
      refine lv_iload_n hx hb dM6_removeWorker_71 rfl (lv_at hl 2 rfl) ?_
      refine lv_iconst (v := 1) hx hb dM6_removeWorker_72 (by decide) ?_
      refine lv_iadd hx hb dM6_removeWorker_73 ?_
      refine va_dald hx hb hK hP 12 1 rfl rfl h.1 dM6_removeWorker_74 ?_
      have h := h.2
      refine va_dast hx hb hK hP hD hS 12 1 rfl rfl h.1 dM6_removeWorker_75 (fun H locs hP hD hS => ?_)
      have h := h.2
      obtain ⟨u6, eu6⟩ : ∃ z : gS, z = tB u5 0 l2.toNatClampNeg (sB u5 0 (l2 + 1).toNatClampNeg) := ⟨_, rfl⟩
      have hP : va_P (dC, dI) vwCl (wM ad ca K u6) H := by rw [eu6, wM_a12]; exact hP
      have hD : va_D A (wM ad ca K u6) := by rw [eu6, wM_a12]; exact hD
      have h := h u6 eu6
      obtain ⟨x7, ex7⟩ : ∃ y : Int32, y = l2 + 1 := ⟨_, rfl⟩
      have h := h x7 ex7
      refine lv_iinc (v := x7) (lv' := [(2, .int x7), (0, .ref (ad 0)), (1, .int l1)]) hx hb dM6_removeWorker_76 hl (k := 2) rfl (by rw [ex7]; rfl) (by decide) rfl (fun ls hl => ?_)
      refine lv_goto (tgt := 12) hx hb dM6_removeWorker_79 (by decide) ?_
      exact ih l1 x7 u6 _ _ _ h hP hD hS (lv_sub hl [1, 2, 0] rfl)

set_option maxHeartbeats 8000000 in
set_option maxRecDepth 100000 in
theorem cM6_removeWorker (l : Launch) (dC : Nat → ClassId) (dI : Nat → Nat → Nat) (ad : Nat → Nat) (ca : Nat → ClassId) (K : KM) (sz : Nat) (u : gS) (p1 : Int32) (post : gS → Prop)  (h : wpM6_removeWorker K post u p1) : Met l ⟨"WorkHallModel", "removeWorker", "(I)V"⟩ (gw ⟨"WorkHallModel", "removeWorker", "(I)V"⟩ prog_8_method_28_code 3 none) ({ frames := 1, cells := 0, slots := 0, locals := 40 } : Room) (va_Pc [.ref (ad 0), .int p1] (gB (dC, dI) vwCl (mT ca) mE (wM ad ca K u) sz)) (va_Qv post (gAt (dC, dI) vwCl (mT ca) (wM ad ca K) (va_A (wM ad ca K u) sz)) (va_A (wM ad ca K u) sz)) 0 0 (va_A (wM ad ca K u) sz) := by
  refine Met.ofW (cc := prog_8_method_28_code) (maxL := 3) (ret := none) (by decide) rfl ?_
  intro p e s m args below meth c s₁ B hml hv
  obtain ⟨rfl, hsz, hP, hK, hD0, hE⟩ := hv
  have hx := B.exec
  have hb := B.bytes
  have hr := B.returns
  have hts : ∀ w ∈ gW, w.before _ s = true := fun w h9 => atoms_spec (ws := (gw ⟨"WorkHallModel", "removeWorker", "(I)V"⟩ prog_8_method_28_code 3 none)) B.pre w (List.mem_cons_of_mem _ h9)
  have hown : s.vm.findClass RX6 = some m.cls := findClass_of_methodNamed B.named
  have hlocks := B.notSynchronized
  subst hsz
  have hD := hD0.self (sz := s.heap.size)
  generalize hAe : va_A (wM ad ca K u) s.heap.size = A at hD hE ⊢
  have hA : ∀ q : Nat, s.heap.size ≤ q → A q := fun q h => by rw [← hAe]; exact Or.inr h
  obtain ⟨H, hHe⟩ : ∃ z : Heap, z = s.heap := ⟨_, rfl⟩
  rw [← hHe]
  have hS : va_S A s.heap H [] := by rw [hHe]; exact va_S.rf
  have hP : va_P (dC, dI) vwCl (wM ad ca K u) H := by rw [hHe]; exact hP
  have hl := lv_entry ([.ref (ad 0), .int p1]) (n := 3) (Nat.le_of_ble_eq_true rfl)
  rw [lg_entry_eq]
  generalize (lg_sl ([.ref (ad 0), .int p1]) ++ List.replicate (3 - (lg_sl ([.ref (ad 0), .int p1])).length) Slot.unset).toArray = ls at hl ⊢
  have hl : lv_has ls 3 [(0, .ref (ad 0)), (1, .int p1)] := hl
  clear hAe
  refine lv_aload_n hx hb dM6_removeWorker_0 rfl (lv_at hl 0 rfl) ?_
  refine lv_dup hx hb dM6_removeWorker_1 rfl ?_
  refine va_get (D := (dC, dI)) (ci := 6) (v := .int (sI u 3)) (C := RX6) (T := TX6) (N := 36) hx hb hts uwX6 hown hK hP 0 rfl rfl 19 (by decide) (hts _ wd_722) (fun _ h9 => h9) rfl dM6_removeWorker_2 ?_
  refine lv_iconst (v := 1) hx hb dM6_removeWorker_5 (by decide) ?_
  refine lv_isub hx hb dM6_removeWorker_6 ?_
  refine va_put (D := (dC, dI)) (ci := 6) (v := .int ((sI u 3) - 1)) (ty := tyX6 19) (C := RX6) (T := TX6) (N := 36) hx hb hts uwX6 tyX6 tyX6_ok nmX6 hown hK hP hD hS 0 rfl rfl 19 (by decide) (hts _ wd_722) (fun _ h9 => h9) rfl (tyX6_ok 19 (by decide)) rfl rfl (Nat.le_of_ble_eq_true rfl) dM6_removeWorker_7 (fun H locs hP hD hS => ?_)
  obtain ⟨u1, eu1⟩ : ∃ z : gS, z = tI u 3 ((sI u 3) - 1) := ⟨_, rfl⟩
  have hP : va_P (dC, dI) vwCl (wM ad ca K u1) H := by rw [eu1, wM_f0_workers]; exact hP
  have hD : va_D A (wM ad ca K u1) := by rw [eu1, wM_f0_workers]; exact hD
  have h := h u1 eu1
  refine lv_iload_n hx hb dM6_removeWorker_10 rfl (lv_at hl 1 rfl) ?_
  refine lv_istore_n (lv' := [(2, .int p1), (0, .ref (ad 0)), (1, .int p1)]) hx hb dM6_removeWorker_11 rfl hl (by decide) rfl (fun ls hl => ?_)
  obtain ⟨n12, h⟩ := h
  exact wpM6_removeWorker_12_ok hx hb hr hml hown hts hlocks hK hA hE n12 p1 p1 u1 _ _ _ h hP hD hS (lv_sub hl [1, 2, 0] rfl)

