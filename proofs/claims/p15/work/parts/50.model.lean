theorem dM6_get_0 : decode prog_8_method_34_code 0 = .ok (.aload_n 0, 1) := by decide +kernel
theorem dM6_get_1 : decode prog_8_method_34_code 1 = .ok (.iconst 0, 1) := by decide +kernel
theorem dM6_get_2 : decode prog_8_method_34_code 2 = .ok (.putfield 85, 3) := by decide +kernel
theorem dM6_get_5 : decode prog_8_method_34_code 5 = .ok (.aload_n 0, 1) := by decide +kernel
theorem dM6_get_6 : decode prog_8_method_34_code 6 = .ok (.iload_n 1, 1) := by decide +kernel
theorem dM6_get_7 : decode prog_8_method_34_code 7 = .ok (.bipush 24, 2) := by decide +kernel
theorem dM6_get_9 : decode prog_8_method_34_code 9 = .ok (.invokevirtual 104, 3) := by decide +kernel
theorem dM6_get_12 : decode prog_8_method_34_code 12 = .ok (.ifCond .eq 9, 3) := by decide +kernel
theorem dM6_get_15 : decode prog_8_method_34_code 15 = .ok (.aload_n 0, 1) := by decide +kernel
theorem dM6_get_16 : decode prog_8_method_34_code 16 = .ok (.iconst 1, 1) := by decide +kernel
theorem dM6_get_17 : decode prog_8_method_34_code 17 = .ok (.invokevirtual 108, 3) := by decide +kernel
theorem dM6_get_20 : decode prog_8_method_34_code 20 = .ok (.ireturn, 1) := by decide +kernel
theorem dM6_get_21 : decode prog_8_method_34_code 21 = .ok (.iload_n 1, 1) := by decide +kernel
theorem dM6_get_22 : decode prog_8_method_34_code 22 = .ok (.aload_n 0, 1) := by decide +kernel
theorem dM6_get_23 : decode prog_8_method_34_code 23 = .ok (.getfield 112, 3) := by decide +kernel
theorem dM6_get_26 : decode prog_8_method_34_code 26 = .ok (.if_icmp .lt 9, 3) := by decide +kernel
theorem dM6_get_29 : decode prog_8_method_34_code 29 = .ok (.aload_n 0, 1) := by decide +kernel
theorem dM6_get_30 : decode prog_8_method_34_code 30 = .ok (.iconst 2, 1) := by decide +kernel
theorem dM6_get_31 : decode prog_8_method_34_code 31 = .ok (.invokevirtual 108, 3) := by decide +kernel
theorem dM6_get_34 : decode prog_8_method_34_code 34 = .ok (.ireturn, 1) := by decide +kernel
theorem dM6_get_35 : decode prog_8_method_34_code 35 = .ok (.aload_n 0, 1) := by decide +kernel
theorem dM6_get_36 : decode prog_8_method_34_code 36 = .ok (.getfield 22, 3) := by decide +kernel
theorem dM6_get_39 : decode prog_8_method_34_code 39 = .ok (.iload_n 1, 1) := by decide +kernel
theorem dM6_get_40 : decode prog_8_method_34_code 40 = .ok (.iaload, 1) := by decide +kernel
theorem dM6_get_41 : decode prog_8_method_34_code 41 = .ok (.iconst 3, 1) := by decide +kernel
theorem dM6_get_42 : decode prog_8_method_34_code 42 = .ok (.if_icmp .ne 14, 3) := by decide +kernel
theorem dM6_get_45 : decode prog_8_method_34_code 45 = .ok (.aload_n 0, 1) := by decide +kernel
theorem dM6_get_46 : decode prog_8_method_34_code 46 = .ok (.aload_n 0, 1) := by decide +kernel
theorem dM6_get_47 : decode prog_8_method_34_code 47 = .ok (.getfield 28, 3) := by decide +kernel
theorem dM6_get_50 : decode prog_8_method_34_code 50 = .ok (.iload_n 1, 1) := by decide +kernel
theorem dM6_get_51 : decode prog_8_method_34_code 51 = .ok (.iaload, 1) := by decide +kernel
theorem dM6_get_52 : decode prog_8_method_34_code 52 = .ok (.invokevirtual 115, 3) := by decide +kernel
theorem dM6_get_55 : decode prog_8_method_34_code 55 = .ok (.ireturn, 1) := by decide +kernel
theorem dM6_get_56 : decode prog_8_method_34_code 56 = .ok (.aload_n 0, 1) := by decide +kernel
theorem dM6_get_57 : decode prog_8_method_34_code 57 = .ok (.getfield 22, 3) := by decide +kernel
theorem dM6_get_60 : decode prog_8_method_34_code 60 = .ok (.iload_n 1, 1) := by decide +kernel
theorem dM6_get_61 : decode prog_8_method_34_code 61 = .ok (.iaload, 1) := by decide +kernel
theorem dM6_get_62 : decode prog_8_method_34_code 62 = .ok (.iconst 4, 1) := by decide +kernel
theorem dM6_get_63 : decode prog_8_method_34_code 63 = .ok (.if_icmp .eq 9, 3) := by decide +kernel
theorem dM6_get_66 : decode prog_8_method_34_code 66 = .ok (.aload_n 0, 1) := by decide +kernel
theorem dM6_get_67 : decode prog_8_method_34_code 67 = .ok (.iconst 2, 1) := by decide +kernel
theorem dM6_get_68 : decode prog_8_method_34_code 68 = .ok (.invokevirtual 108, 3) := by decide +kernel
theorem dM6_get_71 : decode prog_8_method_34_code 71 = .ok (.ireturn, 1) := by decide +kernel
theorem dM6_get_72 : decode prog_8_method_34_code 72 = .ok (.aload_n 0, 1) := by decide +kernel
theorem dM6_get_73 : decode prog_8_method_34_code 73 = .ok (.getfield 31, 3) := by decide +kernel
theorem dM6_get_76 : decode prog_8_method_34_code 76 = .ok (.iload_n 1, 1) := by decide +kernel
theorem dM6_get_77 : decode prog_8_method_34_code 77 = .ok (.iaload, 1) := by decide +kernel
theorem dM6_get_78 : decode prog_8_method_34_code 78 = .ok (.istore_n 2, 1) := by decide +kernel
theorem dM6_get_79 : decode prog_8_method_34_code 79 = .ok (.aload_n 0, 1) := by decide +kernel
theorem dM6_get_80 : decode prog_8_method_34_code 80 = .ok (.iload_n 2, 1) := by decide +kernel
theorem dM6_get_81 : decode prog_8_method_34_code 81 = .ok (.iconst 1, 1) := by decide +kernel
theorem dM6_get_82 : decode prog_8_method_34_code 82 = .ok (.if_icmp .ne 8, 3) := by decide +kernel
theorem dM6_get_85 : decode prog_8_method_34_code 85 = .ok (.bipush 6, 2) := by decide +kernel
theorem dM6_get_87 : decode prog_8_method_34_code 87 = .ok (.goto 22, 3) := by decide +kernel
theorem dM6_get_90 : decode prog_8_method_34_code 90 = .ok (.iload_n 2, 1) := by decide +kernel
theorem dM6_get_91 : decode prog_8_method_34_code 91 = .ok (.iconst 2, 1) := by decide +kernel
theorem dM6_get_92 : decode prog_8_method_34_code 92 = .ok (.if_icmp .ne 7, 3) := by decide +kernel
theorem dM6_get_95 : decode prog_8_method_34_code 95 = .ok (.iconst 5, 1) := by decide +kernel
theorem dM6_get_96 : decode prog_8_method_34_code 96 = .ok (.goto 13, 3) := by decide +kernel
theorem dM6_get_99 : decode prog_8_method_34_code 99 = .ok (.iload_n 2, 1) := by decide +kernel
theorem dM6_get_100 : decode prog_8_method_34_code 100 = .ok (.iconst 4, 1) := by decide +kernel
theorem dM6_get_101 : decode prog_8_method_34_code 101 = .ok (.if_icmp .ne 7, 3) := by decide +kernel
theorem dM6_get_104 : decode prog_8_method_34_code 104 = .ok (.iconst 4, 1) := by decide +kernel
theorem dM6_get_105 : decode prog_8_method_34_code 105 = .ok (.goto 4, 3) := by decide +kernel
theorem dM6_get_108 : decode prog_8_method_34_code 108 = .ok (.iconst 3, 1) := by decide +kernel
theorem dM6_get_109 : decode prog_8_method_34_code 109 = .ok (.invokevirtual 108, 3) := by decide +kernel
theorem dM6_get_112 : decode prog_8_method_34_code 112 = .ok (.ireturn, 1) := by decide +kernel
def wpM6_get (K : KM) (post : Int32 → gS → Prop) (u : gS) (p1 : Int32) : Prop :=
  ∀ u1 : gS, u1 = tI u 0 0 → (wpM6_out K (fun (r2 : Int32) (u3 : gS) => ((r2 = 0 → (((p1 < (sI u3 1) → (vp_in p1 24 ∧ (((¬ (sA u3 4 p1.toNatClampNeg) = 3 → (vp_in p1 24 ∧ ((((sA u3 4 p1.toNatClampNeg) = 4 → (vp_in p1 24 ∧ (∀ x8 : Int32, x8 = sA u3 7 p1.toNatClampNeg → (((¬ x8 = 1 → (((¬ x8 = 2 → (((¬ x8 = 4 → (wpM6_fail K (fun (r12 : Int32) (u13 : gS) => post r12 u13) u3 3)) ∧ (x8 = 4 → (wpM6_fail K (fun (r14 : Int32) (u15 : gS) => post r14 u15) u3 4))))) ∧ (x8 = 2 → (wpM6_fail K (fun (r16 : Int32) (u17 : gS) => post r16 u17) u3 5))))) ∧ (x8 = 1 → (wpM6_fail K (fun (r18 : Int32) (u19 : gS) => post r18 u19) u3 6))))))) ∧ (¬ (sA u3 4 p1.toNatClampNeg) = 4 → (wpM6_fail K (fun (r20 : Int32) (u21 : gS) => post r20 u21) u3 2)))))) ∧ ((sA u3 4 p1.toNatClampNeg) = 3 → (vp_in p1 24 ∧ (wpM6_end K (fun (r22 : Int32) (u23 : gS) => post r22 u23) u3 (sA u3 6 p1.toNatClampNeg)))))))) ∧ (¬ p1 < (sI u3 1) → (wpM6_fail K (fun (r24 : Int32) (u25 : gS) => post r24 u25) u3 2))))) ∧ (¬ r2 = 0 → (wpM6_fail K (fun (r26 : Int32) (u27 : gS) => post r26 u27) u3 1)))) u1 p1 24)

set_option maxHeartbeats 8000000 in
set_option maxRecDepth 100000 in
theorem cM6_get (l : Launch) (dC : Nat → ClassId) (dI : Nat → Nat → Nat) (ad : Nat → Nat) (ca : Nat → ClassId) (K : KM) (sz : Nat) (u : gS) (p1 : Int32) (post : Int32 → gS → Prop)  (h : wpM6_get K post u p1) : Met l ⟨"WorkHallModel", "get", "(I)I"⟩ (gw ⟨"WorkHallModel", "get", "(I)I"⟩ prog_8_method_34_code 3 (some .int)) ({ frames := 3, cells := 0, slots := 0, locals := 120 } : Room) (va_Pc [.ref (ad 0), .int p1] (gB (dC, dI) vwCl (mT ca) mE (wM ad ca K u) sz)) (va_Qi post (gAt (dC, dI) vwCl (mT ca) (wM ad ca K) (va_A (wM ad ca K u) sz)) (va_A (wM ad ca K u) sz)) 0 0 (va_A (wM ad ca K u) sz) := by
  refine Met.ofW (cc := prog_8_method_34_code) (maxL := 3) (ret := (some .int)) (by decide) rfl ?_
  intro p e s m args below meth c s₁ B hml hv
  obtain ⟨rfl, hsz, hP, hK, hD0, hE⟩ := hv
  have hx := B.exec
  have hb := B.bytes
  have hr := B.returns
  have hts : ∀ w ∈ gW, w.before _ s = true := fun w h9 => atoms_spec (ws := (gw ⟨"WorkHallModel", "get", "(I)I"⟩ prog_8_method_34_code 3 (some .int))) B.pre w (List.mem_cons_of_mem _ h9)
  have hown : s.vm.findClass RX6 = some m.cls := findClass_of_methodNamed B.named
  have hlocks := B.notSynchronized
  subst hsz
  have hD := hD0.self (sz := s.heap.size)
  generalize hAe : va_A (wM ad ca K u) s.heap.size = A at hD hE ⊢
  have hA : ∀ q : Nat, s.heap.size ≤ q → A q := fun q h => by rw [← hAe]; exact Or.inr h
  obtain ⟨H, hHe⟩ : ∃ z : Heap, z = s.heap := ⟨_, rfl⟩
  rw [← hHe]
  have hS : va_S A s.heap H [] := by rw [hHe]; exact va_S.rf
  have hP : va_P (dC, dI) vwCl (wM ad ca K u) H := by rw [hHe]; exact hP
  have hl := lv_entry ([.ref (ad 0), .int p1]) (n := 3) (Nat.le_of_ble_eq_true rfl)
  rw [lg_entry_eq]
  generalize (lg_sl ([.ref (ad 0), .int p1]) ++ List.replicate (3 - (lg_sl ([.ref (ad 0), .int p1])).length) Slot.unset).toArray = ls at hl ⊢
  have hl : lv_has ls 3 [(0, .ref (ad 0)), (1, .int p1)] := hl
  clear hAe
  refine lv_aload_n hx hb dM6_get_0 rfl (lv_at hl 0 rfl) ?_
  refine lv_iconst (v := 0) hx hb dM6_get_1 (by decide) ?_
  refine va_put (D := (dC, dI)) (ci := 6) (v := .int 0) (ty := tyX6 0) (C := RX6) (T := TX6) (N := 36) hx hb hts uwX6 tyX6 tyX6_ok nmX6 hown hK hP hD hS 0 rfl rfl 0 (by decide) (hts _ wd_703) (fun _ h9 => h9) rfl (tyX6_ok 0 (by decide)) rfl rfl (Nat.le_of_ble_eq_true rfl) dM6_get_2 (fun H locs hP hD hS => ?_)
  obtain ⟨u1, eu1⟩ : ∃ z : gS, z = tI u 0 0 := ⟨_, rfl⟩
  have hP : va_P (dC, dI) vwCl (wM ad ca K u1) H := by rw [eu1, wM_f0_failed]; exact hP
  have hD : va_D A (wM ad ca K u1) := by rw [eu1, wM_f0_failed]; exact hD
  have h := h u1 eu1
  refine lv_aload_n hx hb dM6_get_5 rfl (lv_at hl 0 rfl) ?_
  refine lv_iload_n hx hb dM6_get_6 rfl (lv_at hl 1 rfl) ?_
  refine lv_bipush (v := 24) hx hb dM6_get_7 (by decide) ?_
  refine gc_i (w := wM ad ca K) (u := u1) (va_runV (As := [.int p1, .int 24]) (rest := []) ⟨hx, hb, hml, hown, hts⟩ (cM6_out l dC dI ad ca K H.size u1 p1 24 _ h) (cwV 2 hts (gG_V wd_821 wd_823 wd_17 wd_52 wd_824) rfl rfl rfl (by decide +kernel) ⟨Nat.le_of_ble_eq_true rfl, Nat.le_of_ble_eq_true rfl⟩) ⟨gB_blind mE_ok, va_recv hK hP (ci := 6) (q0 := 0) rfl rfl, gB_pre mE_ok hP hK hD hE hS hA⟩ rfl rfl hl.1 rfl (lv_room (Nat.le_of_ble_eq_true rfl)) dM6_get_9 ⟨Nat.le_of_ble_eq_true rfl, Nat.le_of_ble_eq_true rfl⟩) hD hS hA (fun r2 u3 H locs h hP hD hS => ?_)
  refine lv_if_eq (tgt := 21) hx hb dM6_get_12 (by decide) (fun c4 => ?_) (fun c4 => ?_)
  · have h := h.1 c4
    refine lv_iload_n hx hb dM6_get_21 rfl (lv_at hl 1 rfl) ?_
    refine lv_aload_n hx hb dM6_get_22 rfl (lv_at hl 0 rfl) ?_
    refine va_get (D := (dC, dI)) (ci := 6) (v := .int (sI u3 1)) (C := RX6) (T := TX6) (N := 36) hx hb hts uwX6 hown hK hP 0 rfl rfl 13 (by decide) (hts _ wd_716) (fun _ h9 => h9) rfl dM6_get_23 ?_
    refine lv_icmp_lt (tgt := 35) hx hb dM6_get_26 (by decide) (fun c5 => ?_) (fun c5 => ?_)
    · have h := h.1 c5
      refine lv_aload_n hx hb dM6_get_35 rfl (lv_at hl 0 rfl) ?_
      refine va_get (D := (dC, dI)) (ci := 6) (v := .ref (ad 5)) (C := RX6) (T := TX6) (N := 36) hx hb hts uwX6 hown hK hP 0 rfl rfl 9 (by decide) (hts _ wd_712) (fun _ h9 => h9) rfl dM6_get_36 ?_
      refine lv_iload_n hx hb dM6_get_39 rfl (lv_at hl 1 rfl) ?_
      refine va_iald hx hb hK hP 5 0 rfl rfl h.1 dM6_get_40 ?_
      have h := h.2
      refine lv_iconst (v := 3) hx hb dM6_get_41 (by decide) ?_
      refine lv_icmp_ne (tgt := 56) hx hb dM6_get_42 (by decide) (fun c6 => ?_) (fun c6 => ?_)
      · have h := h.1 c6
        refine lv_aload_n hx hb dM6_get_56 rfl (lv_at hl 0 rfl) ?_
        refine va_get (D := (dC, dI)) (ci := 6) (v := .ref (ad 5)) (C := RX6) (T := TX6) (N := 36) hx hb hts uwX6 hown hK hP 0 rfl rfl 9 (by decide) (hts _ wd_712) (fun _ h9 => h9) rfl dM6_get_57 ?_
        refine lv_iload_n hx hb dM6_get_60 rfl (lv_at hl 1 rfl) ?_
        refine va_iald hx hb hK hP 5 0 rfl rfl h.1 dM6_get_61 ?_
        have h := h.2
        refine lv_iconst (v := 4) hx hb dM6_get_62 (by decide) ?_
        refine lv_icmp_eq (tgt := 72) hx hb dM6_get_63 (by decide) (fun c7 => ?_) (fun c7 => ?_)
        · have h := h.1 c7
          refine lv_aload_n hx hb dM6_get_72 rfl (lv_at hl 0 rfl) ?_
          refine va_get (D := (dC, dI)) (ci := 6) (v := .ref (ad 8)) (C := RX6) (T := TX6) (N := 36) hx hb hts uwX6 hown hK hP 0 rfl rfl 12 (by decide) (hts _ wd_715) (fun _ h9 => h9) rfl dM6_get_73 ?_
          refine lv_iload_n hx hb dM6_get_76 rfl (lv_at hl 1 rfl) ?_
          refine va_iald hx hb hK hP 8 0 rfl rfl h.1 dM6_get_77 ?_
          have h := h.2
          refine lv_topi (fun x8 ex8 => ?_)
          have h := h x8 ex8
          refine lv_istore_n (lv' := [(2, .int x8), (0, .ref (ad 0)), (1, .int p1)]) hx hb dM6_get_78 rfl hl (by decide) rfl (fun ls hl => ?_)
          refine lv_aload_n hx hb dM6_get_79 rfl (lv_at hl 1 rfl) ?_
          refine lv_iload_n hx hb dM6_get_80 rfl (lv_at hl 0 rfl) ?_
          refine lv_iconst (v := 1) hx hb dM6_get_81 (by decide) ?_
          refine lv_icmp_ne (tgt := 90) hx hb dM6_get_82 (by decide) (fun c9 => ?_) (fun c9 => ?_)
          · have h := h.1 c9
            refine lv_iload_n hx hb dM6_get_90 rfl (lv_at hl 0 rfl) ?_
            refine lv_iconst (v := 2) hx hb dM6_get_91 (by decide) ?_
            refine lv_icmp_ne (tgt := 99) hx hb dM6_get_92 (by decide) (fun c10 => ?_) (fun c10 => ?_)
            · have h := h.1 c10
              refine lv_iload_n hx hb dM6_get_99 rfl (lv_at hl 0 rfl) ?_
              refine lv_iconst (v := 4) hx hb dM6_get_100 (by decide) ?_
              refine lv_icmp_ne (tgt := 108) hx hb dM6_get_101 (by decide) (fun c11 => ?_) (fun c11 => ?_)
              · have h := h.1 c11
                refine lv_iconst (v := 3) hx hb dM6_get_108 (by decide) ?_
                refine gc_i (w := wM ad ca K) (u := u3) (va_runV (As := [.int 3]) (rest := []) ⟨hx, hb, hml, hown, hts⟩ (cM6_fail l dC dI ad ca K H.size u3 3 _ h) (cwV 1 hts (gG_V wd_825 wd_827 wd_18 wd_52 wd_828) rfl rfl rfl (by decide +kernel) ⟨Nat.le_of_ble_eq_true rfl, Nat.le_of_ble_eq_true rfl⟩) ⟨gB_blind mE_ok, va_recv hK hP (ci := 6) (q0 := 0) rfl rfl, gB_pre mE_ok hP hK hD hE hS hA⟩ rfl rfl hl.1 rfl (lv_room (Nat.le_of_ble_eq_true rfl)) dM6_get_109 ⟨Nat.le_of_ble_eq_true rfl, Nat.le_of_ble_eq_true rfl⟩) hD hS hA (fun r12 u13 H locs h hP hD hS => ?_)
                exact gr_i (w := wM ad ca K) (u := u13) hx hb hr hlocks h hP hK hD hS dM6_get_112
              · have h := h.2 c11
                refine lv_iconst (v := 4) hx hb dM6_get_104 (by decide) ?_
                refine lv_goto (tgt := 109) hx hb dM6_get_105 (by decide) ?_
                refine gc_i (w := wM ad ca K) (u := u3) (va_runV (As := [.int 4]) (rest := []) ⟨hx, hb, hml, hown, hts⟩ (cM6_fail l dC dI ad ca K H.size u3 4 _ h) (cwV 1 hts (gG_V wd_825 wd_827 wd_18 wd_52 wd_828) rfl rfl rfl (by decide +kernel) ⟨Nat.le_of_ble_eq_true rfl, Nat.le_of_ble_eq_true rfl⟩) ⟨gB_blind mE_ok, va_recv hK hP (ci := 6) (q0 := 0) rfl rfl, gB_pre mE_ok hP hK hD hE hS hA⟩ rfl rfl hl.1 rfl (lv_room (Nat.le_of_ble_eq_true rfl)) dM6_get_109 ⟨Nat.le_of_ble_eq_true rfl, Nat.le_of_ble_eq_true rfl⟩) hD hS hA (fun r14 u15 H locs h hP hD hS => ?_)
                exact gr_i (w := wM ad ca K) (u := u15) hx hb hr hlocks h hP hK hD hS dM6_get_112
            · have h := h.2 c10
              refine lv_iconst (v := 5) hx hb dM6_get_95 (by decide) ?_
              refine lv_goto (tgt := 109) hx hb dM6_get_96 (by decide) ?_
              refine gc_i (w := wM ad ca K) (u := u3) (va_runV (As := [.int 5]) (rest := []) ⟨hx, hb, hml, hown, hts⟩ (cM6_fail l dC dI ad ca K H.size u3 5 _ h) (cwV 1 hts (gG_V wd_825 wd_827 wd_18 wd_52 wd_828) rfl rfl rfl (by decide +kernel) ⟨Nat.le_of_ble_eq_true rfl, Nat.le_of_ble_eq_true rfl⟩) ⟨gB_blind mE_ok, va_recv hK hP (ci := 6) (q0 := 0) rfl rfl, gB_pre mE_ok hP hK hD hE hS hA⟩ rfl rfl hl.1 rfl (lv_room (Nat.le_of_ble_eq_true rfl)) dM6_get_109 ⟨Nat.le_of_ble_eq_true rfl, Nat.le_of_ble_eq_true rfl⟩) hD hS hA (fun r16 u17 H locs h hP hD hS => ?_)
              exact gr_i (w := wM ad ca K) (u := u17) hx hb hr hlocks h hP hK hD hS dM6_get_112
          · have h := h.2 c9
            refine lv_bipush (v := 6) hx hb dM6_get_85 (by decide) ?_
            refine lv_goto (tgt := 109) hx hb dM6_get_87 (by decide) ?_
            refine gc_i (w := wM ad ca K) (u := u3) (va_runV (As := [.int 6]) (rest := []) ⟨hx, hb, hml, hown, hts⟩ (cM6_fail l dC dI ad ca K H.size u3 6 _ h) (cwV 1 hts (gG_V wd_825 wd_827 wd_18 wd_52 wd_828) rfl rfl rfl (by decide +kernel) ⟨Nat.le_of_ble_eq_true rfl, Nat.le_of_ble_eq_true rfl⟩) ⟨gB_blind mE_ok, va_recv hK hP (ci := 6) (q0 := 0) rfl rfl, gB_pre mE_ok hP hK hD hE hS hA⟩ rfl rfl hl.1 rfl (lv_room (Nat.le_of_ble_eq_true rfl)) dM6_get_109 ⟨Nat.le_of_ble_eq_true rfl, Nat.le_of_ble_eq_true rfl⟩) hD hS hA (fun r18 u19 H locs h hP hD hS => ?_)
            exact gr_i (w := wM ad ca K) (u := u19) hx hb hr hlocks h hP hK hD hS dM6_get_112
        · have h := h.2 c7
          refine lv_aload_n hx hb dM6_get_66 rfl (lv_at hl 0 rfl) ?_
          refine lv_iconst (v := 2) hx hb dM6_get_67 (by decide) ?_
          refine gc_i (w := wM ad ca K) (u := u3) (va_runV (As := [.int 2]) (rest := []) ⟨hx, hb, hml, hown, hts⟩ (cM6_fail l dC dI ad ca K H.size u3 2 _ h) (cwV 1 hts (gG_V wd_825 wd_827 wd_18 wd_52 wd_828) rfl rfl rfl (by decide +kernel) ⟨Nat.le_of_ble_eq_true rfl, Nat.le_of_ble_eq_true rfl⟩) ⟨gB_blind mE_ok, va_recv hK hP (ci := 6) (q0 := 0) rfl rfl, gB_pre mE_ok hP hK hD hE hS hA⟩ rfl rfl hl.1 rfl (lv_room (Nat.le_of_ble_eq_true rfl)) dM6_get_68 ⟨Nat.le_of_ble_eq_true rfl, Nat.le_of_ble_eq_true rfl⟩) hD hS hA (fun r20 u21 H locs h hP hD hS => ?_)
          exact gr_i (w := wM ad ca K) (u := u21) hx hb hr hlocks h hP hK hD hS dM6_get_71
      · have h := h.2 c6
        refine lv_aload_n hx hb dM6_get_45 rfl (lv_at hl 0 rfl) ?_
        refine lv_aload_n hx hb dM6_get_46 rfl (lv_at hl 0 rfl) ?_
        refine va_get (D := (dC, dI)) (ci := 6) (v := .ref (ad 7)) (C := RX6) (T := TX6) (N := 36) hx hb hts uwX6 hown hK hP 0 rfl rfl 11 (by decide) (hts _ wd_714) (fun _ h9 => h9) rfl dM6_get_47 ?_
        refine lv_iload_n hx hb dM6_get_50 rfl (lv_at hl 1 rfl) ?_
        refine va_iald hx hb hK hP 7 0 rfl rfl h.1 dM6_get_51 ?_
        have h := h.2
        refine gc_i (w := wM ad ca K) (u := u3) (va_runV (As := [.int (sA u3 6 p1.toNatClampNeg)]) (rest := []) ⟨hx, hb, hml, hown, hts⟩ (cM6_end l dC dI ad ca K H.size u3 (sA u3 6 p1.toNatClampNeg) _ h) (cwV 1 hts (gG_V wd_829 wd_831 wd_19 wd_52 wd_832) rfl rfl rfl (by decide +kernel) ⟨Nat.le_of_ble_eq_true rfl, Nat.le_of_ble_eq_true rfl⟩) ⟨gB_blind mE_ok, va_recv hK hP (ci := 6) (q0 := 0) rfl rfl, gB_pre mE_ok hP hK hD hE hS hA⟩ rfl rfl hl.1 rfl (lv_room (Nat.le_of_ble_eq_true rfl)) dM6_get_52 ⟨Nat.le_of_ble_eq_true rfl, Nat.le_of_ble_eq_true rfl⟩) hD hS hA (fun r22 u23 H locs h hP hD hS => ?_)
        exact gr_i (w := wM ad ca K) (u := u23) hx hb hr hlocks h hP hK hD hS dM6_get_55
    · have h := h.2 c5
      refine lv_aload_n hx hb dM6_get_29 rfl (lv_at hl 0 rfl) ?_
      refine lv_iconst (v := 2) hx hb dM6_get_30 (by decide) ?_
      refine gc_i (w := wM ad ca K) (u := u3) (va_runV (As := [.int 2]) (rest := []) ⟨hx, hb, hml, hown, hts⟩ (cM6_fail l dC dI ad ca K H.size u3 2 _ h) (cwV 1 hts (gG_V wd_825 wd_827 wd_18 wd_52 wd_828) rfl rfl rfl (by decide +kernel) ⟨Nat.le_of_ble_eq_true rfl, Nat.le_of_ble_eq_true rfl⟩) ⟨gB_blind mE_ok, va_recv hK hP (ci := 6) (q0 := 0) rfl rfl, gB_pre mE_ok hP hK hD hE hS hA⟩ rfl rfl hl.1 rfl (lv_room (Nat.le_of_ble_eq_true rfl)) dM6_get_31 ⟨Nat.le_of_ble_eq_true rfl, Nat.le_of_ble_eq_true rfl⟩) hD hS hA (fun r24 u25 H locs h hP hD hS => ?_)
      exact gr_i (w := wM ad ca K) (u := u25) hx hb hr hlocks h hP hK hD hS dM6_get_34
  · have h := h.2 c4
    refine lv_aload_n hx hb dM6_get_15 rfl (lv_at hl 0 rfl) ?_
    refine lv_iconst (v := 1) hx hb dM6_get_16 (by decide) ?_
    refine gc_i (w := wM ad ca K) (u := u3) (va_runV (As := [.int 1]) (rest := []) ⟨hx, hb, hml, hown, hts⟩ (cM6_fail l dC dI ad ca K H.size u3 1 _ h) (cwV 1 hts (gG_V wd_825 wd_827 wd_18 wd_52 wd_828) rfl rfl rfl (by decide +kernel) ⟨Nat.le_of_ble_eq_true rfl, Nat.le_of_ble_eq_true rfl⟩) ⟨gB_blind mE_ok, va_recv hK hP (ci := 6) (q0 := 0) rfl rfl, gB_pre mE_ok hP hK hD hE hS hA⟩ rfl rfl hl.1 rfl (lv_room (Nat.le_of_ble_eq_true rfl)) dM6_get_17 ⟨Nat.le_of_ble_eq_true rfl, Nat.le_of_ble_eq_true rfl⟩) hD hS hA (fun r26 u27 H locs h hP hD hS => ?_)
    exact gr_i (w := wM ad ca K) (u := u27) hx hb hr hlocks h hP hK hD hS dM6_get_20

theorem dM6_first_0 : decode prog_8_method_35_code 0 = .ok (.iconst (-1), 1) := by decide +kernel
theorem dM6_first_1 : decode prog_8_method_35_code 1 = .ok (.istore_n 1, 1) := by decide +kernel
theorem dM6_first_2 : decode prog_8_method_35_code 2 = .ok (.iconst 0, 1) := by decide +kernel
theorem dM6_first_3 : decode prog_8_method_35_code 3 = .ok (.istore_n 2, 1) := by decide +kernel
theorem dM6_first_4 : decode prog_8_method_35_code 4 = .ok (.iload_n 2, 1) := by decide +kernel
theorem dM6_first_5 : decode prog_8_method_35_code 5 = .ok (.aload_n 0, 1) := by decide +kernel
theorem dM6_first_6 : decode prog_8_method_35_code 6 = .ok (.getfield 101, 3) := by decide +kernel
theorem dM6_first_9 : decode prog_8_method_35_code 9 = .ok (.if_icmp .ge 31, 3) := by decide +kernel
theorem dM6_first_12 : decode prog_8_method_35_code 12 = .ok (.iload_n 1, 1) := by decide +kernel
theorem dM6_first_13 : decode prog_8_method_35_code 13 = .ok (.ifCond .lt 19, 3) := by decide +kernel
theorem dM6_first_16 : decode prog_8_method_35_code 16 = .ok (.aload_n 0, 1) := by decide +kernel
theorem dM6_first_17 : decode prog_8_method_35_code 17 = .ok (.getfield 56, 3) := by decide +kernel
theorem dM6_first_20 : decode prog_8_method_35_code 20 = .ok (.iload_n 2, 1) := by decide +kernel
theorem dM6_first_21 : decode prog_8_method_35_code 21 = .ok (.daload, 1) := by decide +kernel
theorem dM6_first_22 : decode prog_8_method_35_code 22 = .ok (.aload_n 0, 1) := by decide +kernel
theorem dM6_first_23 : decode prog_8_method_35_code 23 = .ok (.getfield 56, 3) := by decide +kernel
theorem dM6_first_26 : decode prog_8_method_35_code 26 = .ok (.iload_n 1, 1) := by decide +kernel
theorem dM6_first_27 : decode prog_8_method_35_code 27 = .ok (.daload, 1) := by decide +kernel
theorem dM6_first_28 : decode prog_8_method_35_code 28 = .ok (.dcmp .g, 1) := by decide +kernel
theorem dM6_first_29 : decode prog_8_method_35_code 29 = .ok (.ifCond .ge 5, 3) := by decide +kernel
theorem dM6_first_32 : decode prog_8_method_35_code 32 = .ok (.iload_n 2, 1) := by decide +kernel
theorem dM6_first_33 : decode prog_8_method_35_code 33 = .ok (.istore_n 1, 1) := by decide +kernel
theorem dM6_first_34 : decode prog_8_method_35_code 34 = .ok (.iinc 2 1, 3) := by decide +kernel
theorem dM6_first_37 : decode prog_8_method_35_code 37 = .ok (.goto (-33), 3) := by decide +kernel
theorem dM6_first_40 : decode prog_8_method_35_code 40 = .ok (.iload_n 1, 1) := by decide +kernel
theorem dM6_first_41 : decode prog_8_method_35_code 41 = .ok (.ireturn, 1) := by decide +kernel
def wpM6_first_4 (K : KM) (post : Int32 → gS → Prop) : Nat → Int32 → Int32 → gS → Prop
  | 0 => fun _ _ _ => False
  | n + 1 => fun l1 l2 u => (((sI u 7) ≤ l2 → (post l1 u)) ∧ (¬ (sI u 7) ≤ l2 → (((l1 < 0 → (∀ x3 : Int32, x3 = l2 + 1 → (wpM6_first_4 K post n l2 x3 u))) ∧ (¬ l1 < 0 → (vp_in l2 12 ∧ (vp_in l1 12 ∧ (((0 ≤ (Op.cmpValue (FP.dcmp (sB u 2 l2.toNatClampNeg) (sB u 2 l1.toNatClampNeg)) .g) → (∀ x5 : Int32, x5 = l2 + 1 → (wpM6_first_4 K post n l1 x5 u))) ∧ (¬ 0 ≤ (Op.cmpValue (FP.dcmp (sB u 2 l2.toNatClampNeg) (sB u 2 l1.toNatClampNeg)) .g) → (∀ x6 : Int32, x6 = l2 + 1 → (wpM6_first_4 K post n l2 x6 u))))))))))))

def wpM6_first (K : KM) (post : Int32 → gS → Prop) (u : gS)  : Prop :=
  ∃ n4 : Nat, wpM6_first_4 K post n4 (-1) 0 u

set_option maxHeartbeats 8000000 in
set_option maxRecDepth 100000 in
theorem wpM6_first_4_ok {p : Program} {l : Launch} {e : Env} {s : State} {m : MethodId} {args : Array Value} {below : List Frame} {meth : Method} {c : Code} {dC : Nat → ClassId} {dI : Nat → Nat → Nat} {ad : Nat → Nat} {ca : Nat → ClassId} {K : KM} {A : Nat → Prop} {post : Int32 → gS → Prop}   (hx : p.tables.exec = Jvm.exec) (hb : c.code = prog_8_method_35_code) (hr : meth.sig.returnType = (some .int)) (hml : c.maxLocals = 3) (hown : s.vm.findClass RX6 = some m.cls) (hts : ∀ w ∈ gW, w.before args s = true) (hlocks : meth.locks = false) (hK : va_K (dC, dI) vwCl (mT ca) s) (hA : ∀ q, s.heap.size ≤ q → A q) (hE : mE A s s.heap) :
    ∀ (n : Nat) (l1 : Int32) (l2 : Int32) (u : gS) (H : Heap) (locs : List Loc) (ls : Array Slot), wpM6_first_4 K post n l1 l2 u → va_P (dC, dI) vwCl (wM ad ca K u) H → va_D A (wM ad ca K u) → va_S A s.heap H locs → lv_has ls 3 [(0, .ref (ad 0)), (1, .int l1), (2, .int l2)] → W p l e (headSpec (gw ⟨"WorkHallModel", "first", "()I"⟩ prog_8_method_35_code 3 (some .int)) ({ frames := 1, cells := 0, slots := 0, locals := 40 } : Room)).room s m args below meth c H locs 0 0 (MQ below (va_Qi post (gAt (dC, dI) vwCl (mT ca) (wM ad ca K) (A)) (A)) args s 0 0 A) (F0 m 4 ls []) := by
  intro n
  induction n with
  | zero => exact fun _ _ _ _ _ _ h => h.elim
  | succ n ih =>
    intro l1 l2 u H locs ls h hP hD hS hl
    refine lv_iload_n hx hb dM6_first_4 rfl (lv_at hl 2 rfl) ?_
    refine lv_aload_n hx hb dM6_first_5 rfl (lv_at hl 0 rfl) ?_
    refine va_get (D := (dC, dI)) (ci := 6) (v := .int (sI u 7)) (C := RX6) (T := TX6) (N := 36) hx hb hts uwX6 hown hK hP 0 rfl rfl 28 (by decide) (hts _ wd_731) (fun _ h9 => h9) rfl dM6_first_6 ?_
    refine lv_icmp_ge (tgt := 40) hx hb dM6_first_9 (by decide) (fun c1 => ?_) (fun c1 => ?_)
    · have h := h.1 c1
      refine lv_iload_n hx hb dM6_first_40 rfl (lv_at hl 1 rfl) ?_
      exact gr_i (w := wM ad ca K) (u := u) hx hb hr hlocks h hP hK hD hS dM6_first_41
    · have h := h.2 c1
      refine lv_iload_n hx hb dM6_first_12 rfl (lv_at hl 1 rfl) ?_
      refine lv_if_lt (tgt := 32) hx hb dM6_first_13 (by decide) (fun c2 => ?_) (fun c2 => ?_)
      · have h := h.1 c2
        refine lv_iload_n hx hb dM6_first_32 rfl (lv_at hl 2 rfl) ?_
        refine lv_istore_n (lv' := [(1, .int l2), (0, .ref (ad 0)), (2, .int l2)]) hx hb dM6_first_33 rfl hl (by decide) rfl (fun ls hl => ?_)
        obtain ⟨x3, ex3⟩ : ∃ y : Int32, y = l2 + 1 := ⟨_, rfl⟩
        have h := h x3 ex3
        refine lv_iinc (v := x3) (lv' := [(2, .int x3), (1, .int l2), (0, .ref (ad 0))]) hx hb dM6_first_34 hl (k := 2) rfl (by rw [ex3]; rfl) (by decide) rfl (fun ls hl => ?_)
        refine lv_goto (tgt := 4) hx hb dM6_first_37 (by decide) ?_
        exact ih l2 x3 u _ _ _ h hP hD hS (lv_sub hl [2, 1, 0] rfl)
      · have h := h.2 c2
        refine lv_aload_n hx hb dM6_first_16 rfl (lv_at hl 0 rfl) ?_
        refine va_get (D := (dC, dI)) (ci := 6) (v := .ref (ad 16)) (C := RX6) (T := TX6) (N := 36) hx hb hts uwX6 hown hK hP 0 rfl rfl 26 (by decide) (hts _ wd_729) (fun _ h9 => h9) rfl dM6_first_17 ?_
        refine lv_iload_n hx hb dM6_first_20 rfl (lv_at hl 2 rfl) ?_
        refine va_dald hx hb hK hP 16 1 rfl rfl h.1 dM6_first_21 ?_
        have h := h.2
        refine lv_aload_n hx hb dM6_first_22 rfl (lv_at hl 0 rfl) ?_
        refine va_get (D := (dC, dI)) (ci := 6) (v := .ref (ad 16)) (C := RX6) (T := TX6) (N := 36) hx hb hts uwX6 hown hK hP 0 rfl rfl 26 (by decide) (hts _ wd_729) (fun _ h9 => h9) rfl dM6_first_23 ?_
        refine lv_iload_n hx hb dM6_first_26 rfl (lv_at hl 1 rfl) ?_
        refine va_dald hx hb hK hP 16 1 rfl rfl h.1 dM6_first_27 ?_
        have h := h.2
        refine lv_dcmp hx hb dM6_first_28 ?_
        refine lv_if_ge (tgt := 34) hx hb dM6_first_29 (by decide) (fun c4 => ?_) (fun c4 => ?_)
        · have h := h.1 c4
          obtain ⟨x5, ex5⟩ : ∃ y : Int32, y = l2 + 1 := ⟨_, rfl⟩
          have h := h x5 ex5
          refine lv_iinc (v := x5) (lv' := [(2, .int x5), (0, .ref (ad 0)), (1, .int l1)]) hx hb dM6_first_34 hl (k := 2) rfl (by rw [ex5]; rfl) (by decide) rfl (fun ls hl => ?_)
          refine lv_goto (tgt := 4) hx hb dM6_first_37 (by decide) ?_
          exact ih l1 x5 u _ _ _ h hP hD hS (lv_sub hl [1, 2, 0] rfl)
        · have h := h.2 c4
          refine lv_iload_n hx hb dM6_first_32 rfl (lv_at hl 2 rfl) ?_
          refine lv_istore_n (lv' := [(1, .int l2), (0, .ref (ad 0)), (2, .int l2)]) hx hb dM6_first_33 rfl hl (by decide) rfl (fun ls hl => ?_)
          obtain ⟨x6, ex6⟩ : ∃ y : Int32, y = l2 + 1 := ⟨_, rfl⟩
          have h := h x6 ex6
          refine lv_iinc (v := x6) (lv' := [(2, .int x6), (1, .int l2), (0, .ref (ad 0))]) hx hb dM6_first_34 hl (k := 2) rfl (by rw [ex6]; rfl) (by decide) rfl (fun ls hl => ?_)
          refine lv_goto (tgt := 4) hx hb dM6_first_37 (by decide) ?_
          exact ih l2 x6 u _ _ _ h hP hD hS (lv_sub hl [2, 1, 0] rfl)

set_option maxHeartbeats 8000000 in
set_option maxRecDepth 100000 in
theorem cM6_first (l : Launch) (dC : Nat → ClassId) (dI : Nat → Nat → Nat) (ad : Nat → Nat) (ca : Nat → ClassId) (K : KM) (sz : Nat) (u : gS)  (post : Int32 → gS → Prop)  (h : wpM6_first K post u ) : Met l ⟨"WorkHallModel", "first", "()I"⟩ (gw ⟨"WorkHallModel", "first", "()I"⟩ prog_8_method_35_code 3 (some .int)) ({ frames := 1, cells := 0, slots := 0, locals := 40 } : Room) (va_Pc [.ref (ad 0)] (gB (dC, dI) vwCl (mT ca) mE (wM ad ca K u) sz)) (va_Qi post (gAt (dC, dI) vwCl (mT ca) (wM ad ca K) (va_A (wM ad ca K u) sz)) (va_A (wM ad ca K u) sz)) 0 0 (va_A (wM ad ca K u) sz) := by
  refine Met.ofW (cc := prog_8_method_35_code) (maxL := 3) (ret := (some .int)) (by decide) rfl ?_
  intro p e s m args below meth c s₁ B hml hv
  obtain ⟨rfl, hsz, hP, hK, hD0, hE⟩ := hv
  have hx := B.exec
  have hb := B.bytes
  have hr := B.returns
  have hts : ∀ w ∈ gW, w.before _ s = true := fun w h9 => atoms_spec (ws := (gw ⟨"WorkHallModel", "first", "()I"⟩ prog_8_method_35_code 3 (some .int))) B.pre w (List.mem_cons_of_mem _ h9)
  have hown : s.vm.findClass RX6 = some m.cls := findClass_of_methodNamed B.named
  have hlocks := B.notSynchronized
  subst hsz
  have hD := hD0.self (sz := s.heap.size)
  generalize hAe : va_A (wM ad ca K u) s.heap.size = A at hD hE ⊢
  have hA : ∀ q : Nat, s.heap.size ≤ q → A q := fun q h => by rw [← hAe]; exact Or.inr h
  obtain ⟨H, hHe⟩ : ∃ z : Heap, z = s.heap := ⟨_, rfl⟩
  rw [← hHe]
  have hS : va_S A s.heap H [] := by rw [hHe]; exact va_S.rf
  have hP : va_P (dC, dI) vwCl (wM ad ca K u) H := by rw [hHe]; exact hP
  have hl := lv_entry ([.ref (ad 0)]) (n := 3) (Nat.le_of_ble_eq_true rfl)
  rw [lg_entry_eq]
  generalize (lg_sl ([.ref (ad 0)]) ++ List.replicate (3 - (lg_sl ([.ref (ad 0)])).length) Slot.unset).toArray = ls at hl ⊢
  have hl : lv_has ls 3 [(0, .ref (ad 0))] := hl
  clear hAe
  refine lv_iconst (v := (-1)) hx hb dM6_first_0 (by decide) ?_
  refine lv_istore_n (lv' := [(1, .int (-1)), (0, .ref (ad 0))]) hx hb dM6_first_1 rfl hl (by decide) rfl (fun ls hl => ?_)
  refine lv_iconst (v := 0) hx hb dM6_first_2 (by decide) ?_
  refine lv_istore_n (lv' := [(2, .int 0), (1, .int (-1)), (0, .ref (ad 0))]) hx hb dM6_first_3 rfl hl (by decide) rfl (fun ls hl => ?_)
  obtain ⟨n4, h⟩ := h
  exact wpM6_first_4_ok hx hb hr hml hown hts hlocks hK hA hE n4 (-1) 0 u _ _ _ h hP hD hS (lv_sub hl [2, 1, 0] rfl)

theorem dM6_put_0 : decode prog_8_method_36_code 0 = .ok (.aload_n 0, 1) := by decide +kernel
theorem dM6_put_1 : decode prog_8_method_36_code 1 = .ok (.getfield 53, 3) := by decide +kernel
theorem dM6_put_4 : decode prog_8_method_36_code 4 = .ok (.aload_n 0, 1) := by decide +kernel
theorem dM6_put_5 : decode prog_8_method_36_code 5 = .ok (.getfield 101, 3) := by decide +kernel
theorem dM6_put_8 : decode prog_8_method_36_code 8 = .ok (.iload_n 1, 1) := by decide +kernel
theorem dM6_put_9 : decode prog_8_method_36_code 9 = .ok (.iastore, 1) := by decide +kernel
theorem dM6_put_10 : decode prog_8_method_36_code 10 = .ok (.aload_n 0, 1) := by decide +kernel
theorem dM6_put_11 : decode prog_8_method_36_code 11 = .ok (.getfield 56, 3) := by decide +kernel
theorem dM6_put_14 : decode prog_8_method_36_code 14 = .ok (.aload_n 0, 1) := by decide +kernel
theorem dM6_put_15 : decode prog_8_method_36_code 15 = .ok (.getfield 101, 3) := by decide +kernel
theorem dM6_put_18 : decode prog_8_method_36_code 18 = .ok (.dload_n 2, 1) := by decide +kernel
theorem dM6_put_19 : decode prog_8_method_36_code 19 = .ok (.dastore, 1) := by decide +kernel
theorem dM6_put_20 : decode prog_8_method_36_code 20 = .ok (.aload_n 0, 1) := by decide +kernel
theorem dM6_put_21 : decode prog_8_method_36_code 21 = .ok (.getfield 59, 3) := by decide +kernel
theorem dM6_put_24 : decode prog_8_method_36_code 24 = .ok (.aload_n 0, 1) := by decide +kernel
theorem dM6_put_25 : decode prog_8_method_36_code 25 = .ok (.getfield 101, 3) := by decide +kernel
theorem dM6_put_28 : decode prog_8_method_36_code 28 = .ok (.dload 4, 2) := by decide +kernel
theorem dM6_put_30 : decode prog_8_method_36_code 30 = .ok (.dastore, 1) := by decide +kernel
theorem dM6_put_31 : decode prog_8_method_36_code 31 = .ok (.aload_n 0, 1) := by decide +kernel
theorem dM6_put_32 : decode prog_8_method_36_code 32 = .ok (.dup, 1) := by decide +kernel
theorem dM6_put_33 : decode prog_8_method_36_code 33 = .ok (.getfield 101, 3) := by decide +kernel
theorem dM6_put_36 : decode prog_8_method_36_code 36 = .ok (.iconst 1, 1) := by decide +kernel
theorem dM6_put_37 : decode prog_8_method_36_code 37 = .ok (.iadd, 1) := by decide +kernel
theorem dM6_put_38 : decode prog_8_method_36_code 38 = .ok (.putfield 101, 3) := by decide +kernel
theorem dM6_put_41 : decode prog_8_method_36_code 41 = .ok (.return_, 1) := by decide +kernel
def wpM6_put (K : KM) (post : gS → Prop) (u : gS) (p1 : Int32) (p2 : UInt64) (p3 : UInt64) : Prop :=
  vp_in (sI u 7) 12 ∧ (∀ u1 : gS, u1 = tA u 12 ((sI u 7).toNatClampNeg) p1 → (vp_in (sI u1 7) 12 ∧ (∀ u2 : gS, u2 = tB u1 2 ((sI u1 7).toNatClampNeg) p2 → (vp_in (sI u2 7) 12 ∧ (∀ u3 : gS, u3 = tB u2 3 ((sI u2 7).toNatClampNeg) p3 → (∀ u4 : gS, u4 = tI u3 7 ((sI u3 7) + 1) → (post u4)))))))

set_option maxHeartbeats 8000000 in
set_option maxRecDepth 100000 in
theorem cM6_put (l : Launch) (dC : Nat → ClassId) (dI : Nat → Nat → Nat) (ad : Nat → Nat) (ca : Nat → ClassId) (K : KM) (sz : Nat) (u : gS) (p1 : Int32) (p2 : UInt64) (p3 : UInt64) (post : gS → Prop)  (h : wpM6_put K post u p1 p2 p3) : Met l ⟨"WorkHallModel", "put", "(IDD)V"⟩ (gw ⟨"WorkHallModel", "put", "(IDD)V"⟩ prog_8_method_36_code 6 none) ({ frames := 1, cells := 0, slots := 0, locals := 40 } : Room) (va_Pc [.ref (ad 0), .int p1, .double p2, .double p3] (gB (dC, dI) vwCl (mT ca) mE (wM ad ca K u) sz)) (va_Qv post (gAt (dC, dI) vwCl (mT ca) (wM ad ca K) (va_A (wM ad ca K u) sz)) (va_A (wM ad ca K u) sz)) 0 0 (va_A (wM ad ca K u) sz) := by
  refine Met.ofW (cc := prog_8_method_36_code) (maxL := 6) (ret := none) (by decide) rfl ?_
  intro p e s m args below meth c s₁ B hml hv
  obtain ⟨rfl, hsz, hP, hK, hD0, hE⟩ := hv
  have hx := B.exec
  have hb := B.bytes
  have hr := B.returns
  have hts : ∀ w ∈ gW, w.before _ s = true := fun w h9 => atoms_spec (ws := (gw ⟨"WorkHallModel", "put", "(IDD)V"⟩ prog_8_method_36_code 6 none)) B.pre w (List.mem_cons_of_mem _ h9)
  have hown : s.vm.findClass RX6 = some m.cls := findClass_of_methodNamed B.named
  have hlocks := B.notSynchronized
  subst hsz
  have hD := hD0.self (sz := s.heap.size)
  generalize hAe : va_A (wM ad ca K u) s.heap.size = A at hD hE ⊢
  have hA : ∀ q : Nat, s.heap.size ≤ q → A q := fun q h => by rw [← hAe]; exact Or.inr h
  obtain ⟨H, hHe⟩ : ∃ z : Heap, z = s.heap := ⟨_, rfl⟩
  rw [← hHe]
  have hS : va_S A s.heap H [] := by rw [hHe]; exact va_S.rf
  have hP : va_P (dC, dI) vwCl (wM ad ca K u) H := by rw [hHe]; exact hP
  have hl := lv_entry ([.ref (ad 0), .int p1, .double p2, .double p3]) (n := 6) (Nat.le_of_ble_eq_true rfl)
  rw [lg_entry_eq]
  generalize (lg_sl ([.ref (ad 0), .int p1, .double p2, .double p3]) ++ List.replicate (6 - (lg_sl ([.ref (ad 0), .int p1, .double p2, .double p3])).length) Slot.unset).toArray = ls at hl ⊢
  have hl : lv_has ls 6 [(0, .ref (ad 0)), (1, .int p1), (2, .double p2), (4, .double p3)] := hl
  clear hAe
  refine lv_aload_n hx hb dM6_put_0 rfl (lv_at hl 0 rfl) ?_
  refine va_get (D := (dC, dI)) (ci := 6) (v := .ref (ad 15)) (C := RX6) (T := TX6) (N := 36) hx hb hts uwX6 hown hK hP 0 rfl rfl 25 (by decide) (hts _ wd_728) (fun _ h9 => h9) rfl dM6_put_1 ?_
  refine lv_aload_n hx hb dM6_put_4 rfl (lv_at hl 0 rfl) ?_
  refine va_get (D := (dC, dI)) (ci := 6) (v := .int (sI u 7)) (C := RX6) (T := TX6) (N := 36) hx hb hts uwX6 hown hK hP 0 rfl rfl 28 (by decide) (hts _ wd_731) (fun _ h9 => h9) rfl dM6_put_5 ?_
  refine lv_iload_n hx hb dM6_put_8 rfl (lv_at hl 1 rfl) ?_
  refine va_iast hx hb hK hP hD hS 15 0 rfl rfl h.1 dM6_put_9 (fun H locs hP hD hS => ?_)
  have h := h.2
  obtain ⟨u1, eu1⟩ : ∃ z : gS, z = tA u 12 ((sI u 7).toNatClampNeg) p1 := ⟨_, rfl⟩
  have hP : va_P (dC, dI) vwCl (wM ad ca K u1) H := by rw [eu1, wM_a15]; exact hP
  have hD : va_D A (wM ad ca K u1) := by rw [eu1, wM_a15]; exact hD
  have h := h u1 eu1
  refine lv_aload_n hx hb dM6_put_10 rfl (lv_at hl 0 rfl) ?_
  refine va_get (D := (dC, dI)) (ci := 6) (v := .ref (ad 16)) (C := RX6) (T := TX6) (N := 36) hx hb hts uwX6 hown hK hP 0 rfl rfl 26 (by decide) (hts _ wd_729) (fun _ h9 => h9) rfl dM6_put_11 ?_
  refine lv_aload_n hx hb dM6_put_14 rfl (lv_at hl 0 rfl) ?_
  refine va_get (D := (dC, dI)) (ci := 6) (v := .int (sI u1 7)) (C := RX6) (T := TX6) (N := 36) hx hb hts uwX6 hown hK hP 0 rfl rfl 28 (by decide) (hts _ wd_731) (fun _ h9 => h9) rfl dM6_put_15 ?_
  refine lv_dload_n hx hb dM6_put_18 rfl (lv_at hl 2 rfl) ?_
  refine va_dast hx hb hK hP hD hS 16 1 rfl rfl h.1 dM6_put_19 (fun H locs hP hD hS => ?_)
  have h := h.2
  obtain ⟨u2, eu2⟩ : ∃ z : gS, z = tB u1 2 ((sI u1 7).toNatClampNeg) p2 := ⟨_, rfl⟩
  have hP : va_P (dC, dI) vwCl (wM ad ca K u2) H := by rw [eu2, wM_a16]; exact hP
  have hD : va_D A (wM ad ca K u2) := by rw [eu2, wM_a16]; exact hD
  have h := h u2 eu2
  refine lv_aload_n hx hb dM6_put_20 rfl (lv_at hl 0 rfl) ?_
  refine va_get (D := (dC, dI)) (ci := 6) (v := .ref (ad 17)) (C := RX6) (T := TX6) (N := 36) hx hb hts uwX6 hown hK hP 0 rfl rfl 27 (by decide) (hts _ wd_730) (fun _ h9 => h9) rfl dM6_put_21 ?_
  refine lv_aload_n hx hb dM6_put_24 rfl (lv_at hl 0 rfl) ?_
  refine va_get (D := (dC, dI)) (ci := 6) (v := .int (sI u2 7)) (C := RX6) (T := TX6) (N := 36) hx hb hts uwX6 hown hK hP 0 rfl rfl 28 (by decide) (hts _ wd_731) (fun _ h9 => h9) rfl dM6_put_25 ?_
  refine lv_dload hx hb dM6_put_28 (lv_at hl 3 rfl) ?_
  refine va_dast hx hb hK hP hD hS 17 1 rfl rfl h.1 dM6_put_30 (fun H locs hP hD hS => ?_)
  have h := h.2
  obtain ⟨u3, eu3⟩ : ∃ z : gS, z = tB u2 3 ((sI u2 7).toNatClampNeg) p3 := ⟨_, rfl⟩
  have hP : va_P (dC, dI) vwCl (wM ad ca K u3) H := by rw [eu3, wM_a17]; exact hP
  have hD : va_D A (wM ad ca K u3) := by rw [eu3, wM_a17]; exact hD
  have h := h u3 eu3
  refine lv_aload_n hx hb dM6_put_31 rfl (lv_at hl 0 rfl) ?_
  refine lv_dup hx hb dM6_put_32 rfl ?_
  refine va_get (D := (dC, dI)) (ci := 6) (v := .int (sI u3 7)) (C := RX6) (T := TX6) (N := 36) hx hb hts uwX6 hown hK hP 0 rfl rfl 28 (by decide) (hts _ wd_731) (fun _ h9 => h9) rfl dM6_put_33 ?_
  refine lv_iconst (v := 1) hx hb dM6_put_36 (by decide) ?_
  refine lv_iadd hx hb dM6_put_37 ?_
  refine va_put (D := (dC, dI)) (ci := 6) (v := .int ((sI u3 7) + 1)) (ty := tyX6 28) (C := RX6) (T := TX6) (N := 36) hx hb hts uwX6 tyX6 tyX6_ok nmX6 hown hK hP hD hS 0 rfl rfl 28 (by decide) (hts _ wd_731) (fun _ h9 => h9) rfl (tyX6_ok 28 (by decide)) rfl rfl (Nat.le_of_ble_eq_true rfl) dM6_put_38 (fun H locs hP hD hS => ?_)
  obtain ⟨u4, eu4⟩ : ∃ z : gS, z = tI u3 7 ((sI u3 7) + 1) := ⟨_, rfl⟩
  have hP : va_P (dC, dI) vwCl (wM ad ca K u4) H := by rw [eu4, wM_f0_entries]; exact hP
  have hD : va_D A (wM ad ca K u4) := by rw [eu4, wM_f0_entries]; exact hD
  have h := h u4 eu4
  exact gr_v (w := wM ad ca K) (u := u4) hx hb hr hlocks h hP hK hD hS dM6_put_41

