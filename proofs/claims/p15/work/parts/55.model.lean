theorem dM6_count_0 : decode prog_8_method_43_code 0 = .ok (.aload_n 0, 1) := by decide +kernel
theorem dM6_count_1 : decode prog_8_method_43_code 1 = .ok (.iconst 0, 1) := by decide +kernel
theorem dM6_count_2 : decode prog_8_method_43_code 2 = .ok (.putfield 85, 3) := by decide +kernel
theorem dM6_count_5 : decode prog_8_method_43_code 5 = .ok (.iload_n 1, 1) := by decide +kernel
theorem dM6_count_6 : decode prog_8_method_43_code 6 = .ok (.tableswitch 86 0 7 #[46, 51, 56, 61, 66, 71, 76, 81], 46) := by decide +kernel
theorem dM6_count_52 : decode prog_8_method_43_code 52 = .ok (.aload_n 0, 1) := by decide +kernel
theorem dM6_count_53 : decode prog_8_method_43_code 53 = .ok (.getfield 112, 3) := by decide +kernel
theorem dM6_count_56 : decode prog_8_method_43_code 56 = .ok (.ireturn, 1) := by decide +kernel
theorem dM6_count_57 : decode prog_8_method_43_code 57 = .ok (.aload_n 0, 1) := by decide +kernel
theorem dM6_count_58 : decode prog_8_method_43_code 58 = .ok (.getfield 98, 3) := by decide +kernel
theorem dM6_count_61 : decode prog_8_method_43_code 61 = .ok (.ireturn, 1) := by decide +kernel
theorem dM6_count_62 : decode prog_8_method_43_code 62 = .ok (.aload_n 0, 1) := by decide +kernel
theorem dM6_count_63 : decode prog_8_method_43_code 63 = .ok (.invokevirtual 94, 3) := by decide +kernel
theorem dM6_count_66 : decode prog_8_method_43_code 66 = .ok (.ireturn, 1) := by decide +kernel
theorem dM6_count_67 : decode prog_8_method_43_code 67 = .ok (.aload_n 0, 1) := by decide +kernel
theorem dM6_count_68 : decode prog_8_method_43_code 68 = .ok (.getfield 91, 3) := by decide +kernel
theorem dM6_count_71 : decode prog_8_method_43_code 71 = .ok (.ireturn, 1) := by decide +kernel
theorem dM6_count_72 : decode prog_8_method_43_code 72 = .ok (.aload_n 0, 1) := by decide +kernel
theorem dM6_count_73 : decode prog_8_method_43_code 73 = .ok (.getfield 101, 3) := by decide +kernel
theorem dM6_count_76 : decode prog_8_method_43_code 76 = .ok (.ireturn, 1) := by decide +kernel
theorem dM6_count_77 : decode prog_8_method_43_code 77 = .ok (.aload_n 0, 1) := by decide +kernel
theorem dM6_count_78 : decode prog_8_method_43_code 78 = .ok (.getfield 88, 3) := by decide +kernel
theorem dM6_count_81 : decode prog_8_method_43_code 81 = .ok (.ireturn, 1) := by decide +kernel
theorem dM6_count_82 : decode prog_8_method_43_code 82 = .ok (.aload_n 0, 1) := by decide +kernel
theorem dM6_count_83 : decode prog_8_method_43_code 83 = .ok (.getfield 179, 3) := by decide +kernel
theorem dM6_count_86 : decode prog_8_method_43_code 86 = .ok (.ireturn, 1) := by decide +kernel
theorem dM6_count_87 : decode prog_8_method_43_code 87 = .ok (.aload_n 0, 1) := by decide +kernel
theorem dM6_count_88 : decode prog_8_method_43_code 88 = .ok (.getfield 121, 3) := by decide +kernel
theorem dM6_count_91 : decode prog_8_method_43_code 91 = .ok (.ireturn, 1) := by decide +kernel
theorem dM6_count_92 : decode prog_8_method_43_code 92 = .ok (.aload_n 0, 1) := by decide +kernel
theorem dM6_count_93 : decode prog_8_method_43_code 93 = .ok (.iconst 1, 1) := by decide +kernel
theorem dM6_count_94 : decode prog_8_method_43_code 94 = .ok (.invokevirtual 108, 3) := by decide +kernel
theorem dM6_count_97 : decode prog_8_method_43_code 97 = .ok (.ireturn, 1) := by decide +kernel
def wpM6_count (K : KM) (post : Int32 → gS → Prop) (u : gS) (p1 : Int32) : Prop :=
  ∀ u1 : gS, u1 = tI u 0 0 → (((p1 = 0 → (post (sI u1 1) u1)) ∧ (¬ p1 = 0 → (((p1 = 1 → (post (sI u1 3) u1)) ∧ (¬ p1 = 1 → (((p1 = 2 → (wpM6_countBusy K (fun (r5 : Int32) (u6 : gS) => post r5 u6) u1)) ∧ (¬ p1 = 2 → (((p1 = 3 → (post (sI u1 6) u1)) ∧ (¬ p1 = 3 → (((p1 = 4 → (post (sI u1 7) u1)) ∧ (¬ p1 = 4 → (((p1 = 5 → (post (sI u1 2) u1)) ∧ (¬ p1 = 5 → (((p1 = 6 → (post (sI u1 8) u1)) ∧ (¬ p1 = 6 → (((p1 = 7 → (post (sI u1 5) u1)) ∧ (¬ p1 = 7 → (wpM6_fail K (fun (r12 : Int32) (u13 : gS) => post r12 u13) u1 1)))))))))))))))))))))))))

set_option maxHeartbeats 8000000 in
set_option maxRecDepth 100000 in
theorem cM6_count (l : Launch) (dC : Nat → ClassId) (dI : Nat → Nat → Nat) (ad : Nat → Nat) (ca : Nat → ClassId) (K : KM) (sz : Nat) (u : gS) (p1 : Int32) (post : Int32 → gS → Prop)  (h : wpM6_count K post u p1) : Met l ⟨"WorkHallModel", "count", "(I)I"⟩ (gw ⟨"WorkHallModel", "count", "(I)I"⟩ prog_8_method_43_code 2 (some .int)) ({ frames := 2, cells := 0, slots := 0, locals := 80 } : Room) (va_Pc [.ref (ad 0), .int p1] (gB (dC, dI) vwCl (mT ca) mE (wM ad ca K u) sz)) (va_Qi post (gAt (dC, dI) vwCl (mT ca) (wM ad ca K) (va_A (wM ad ca K u) sz)) (va_A (wM ad ca K u) sz)) 0 0 (va_A (wM ad ca K u) sz) := by
  refine Met.ofW (cc := prog_8_method_43_code) (maxL := 2) (ret := (some .int)) (by decide) rfl ?_
  intro p e s m args below meth c s₁ B hml hv
  obtain ⟨rfl, hsz, hP, hK, hD0, hE⟩ := hv
  have hx := B.exec
  have hb := B.bytes
  have hr := B.returns
  have hts : ∀ w ∈ gW, w.before _ s = true := fun w h9 => atoms_spec (ws := (gw ⟨"WorkHallModel", "count", "(I)I"⟩ prog_8_method_43_code 2 (some .int))) B.pre w (List.mem_cons_of_mem _ h9)
  have hown : s.vm.findClass RX6 = some m.cls := findClass_of_methodNamed B.named
  have hlocks := B.notSynchronized
  subst hsz
  have hD := hD0.self (sz := s.heap.size)
  generalize hAe : va_A (wM ad ca K u) s.heap.size = A at hD hE ⊢
  have hA : ∀ q : Nat, s.heap.size ≤ q → A q := fun q h => by rw [← hAe]; exact Or.inr h
  obtain ⟨H, hHe⟩ : ∃ z : Heap, z = s.heap := ⟨_, rfl⟩
  rw [← hHe]
  have hS : va_S A s.heap H [] := by rw [hHe]; exact va_S.rf
  have hP : va_P (dC, dI) vwCl (wM ad ca K u) H := by rw [hHe]; exact hP
  have hl := lv_entry ([.ref (ad 0), .int p1]) (n := 2) (Nat.le_of_ble_eq_true rfl)
  rw [lg_entry_eq]
  generalize (lg_sl ([.ref (ad 0), .int p1]) ++ List.replicate (2 - (lg_sl ([.ref (ad 0), .int p1])).length) Slot.unset).toArray = ls at hl ⊢
  have hl : lv_has ls 2 [(0, .ref (ad 0)), (1, .int p1)] := hl
  clear hAe
  refine lv_aload_n hx hb dM6_count_0 rfl (lv_at hl 0 rfl) ?_
  refine lv_iconst (v := 0) hx hb dM6_count_1 (by decide) ?_
  refine va_put (D := (dC, dI)) (ci := 6) (v := .int 0) (ty := tyX6 0) (C := RX6) (T := TX6) (N := 36) hx hb hts uwX6 tyX6 tyX6_ok nmX6 hown hK hP hD hS 0 rfl rfl 0 (by decide) (hts _ wd_703) (fun _ h9 => h9) rfl (tyX6_ok 0 (by decide)) rfl rfl (Nat.le_of_ble_eq_true rfl) dM6_count_2 (fun H locs hP hD hS => ?_)
  obtain ⟨u1, eu1⟩ : ∃ z : gS, z = tI u 0 0 := ⟨_, rfl⟩
  have hP : va_P (dC, dI) vwCl (wM ad ca K u1) H := by rw [eu1, wM_f0_failed]; exact hP
  have hD : va_D A (wM ad ca K u1) := by rw [eu1, wM_f0_failed]; exact hD
  have h := h u1 eu1
  refine lv_iload_n hx hb dM6_count_5 rfl (lv_at hl 1 rfl) ?_
  by_cases c2 : p1 = 0
  · have h := h.1 c2
    have e21 : (p1).toInt = 0 := by rw [c2]; rfl
    refine lv_tableIn (off := 46) (tgt := 52) hx hb dM6_count_6 (by rw [e21]; decide) (by rw [e21]; decide) (by rw [e21]; rfl) (by decide) ?_
    refine lv_aload_n hx hb dM6_count_52 rfl (lv_at hl 0 rfl) ?_
    refine va_get (D := (dC, dI)) (ci := 6) (v := .int (sI u1 1)) (C := RX6) (T := TX6) (N := 36) hx hb hts uwX6 hown hK hP 0 rfl rfl 13 (by decide) (hts _ wd_716) (fun _ h9 => h9) rfl dM6_count_53 ?_
    exact gr_i (w := wM ad ca K) (u := u1) hx hb hr hlocks h hP hK hD hS dM6_count_56
  · have h := h.2 c2
    by_cases c3 : p1 = 1
    · have h := h.1 c3
      have e20 : (p1).toInt = 1 := by rw [c3]; rfl
      refine lv_tableIn (off := 51) (tgt := 57) hx hb dM6_count_6 (by rw [e20]; decide) (by rw [e20]; decide) (by rw [e20]; rfl) (by decide) ?_
      refine lv_aload_n hx hb dM6_count_57 rfl (lv_at hl 0 rfl) ?_
      refine va_get (D := (dC, dI)) (ci := 6) (v := .int (sI u1 3)) (C := RX6) (T := TX6) (N := 36) hx hb hts uwX6 hown hK hP 0 rfl rfl 19 (by decide) (hts _ wd_722) (fun _ h9 => h9) rfl dM6_count_58 ?_
      exact gr_i (w := wM ad ca K) (u := u1) hx hb hr hlocks h hP hK hD hS dM6_count_61
    · have h := h.2 c3
      by_cases c4 : p1 = 2
      · have h := h.1 c4
        have e19 : (p1).toInt = 2 := by rw [c4]; rfl
        refine lv_tableIn (off := 56) (tgt := 62) hx hb dM6_count_6 (by rw [e19]; decide) (by rw [e19]; decide) (by rw [e19]; rfl) (by decide) ?_
        refine lv_aload_n hx hb dM6_count_62 rfl (lv_at hl 0 rfl) ?_
        refine gc_i (w := wM ad ca K) (u := u1) (va_runV (As := []) (rest := []) ⟨hx, hb, hml, hown, hts⟩ (cM6_countBusy l dC dI ad ca K H.size u1 _ h) (cwV 0 hts (gG_V wd_833 wd_835 wd_20 wd_52 wd_836) rfl rfl rfl (by decide +kernel) ⟨Nat.le_of_ble_eq_true rfl, Nat.le_of_ble_eq_true rfl⟩) ⟨gB_blind mE_ok, va_recv hK hP (ci := 6) (q0 := 0) rfl rfl, gB_pre mE_ok hP hK hD hE hS hA⟩ rfl rfl hl.1 rfl (lv_room (Nat.le_of_ble_eq_true rfl)) dM6_count_63 ⟨Nat.le_of_ble_eq_true rfl, Nat.le_of_ble_eq_true rfl⟩) hD hS hA (fun r5 u6 H locs h hP hD hS => ?_)
        exact gr_i (w := wM ad ca K) (u := u6) hx hb hr hlocks h hP hK hD hS dM6_count_66
      · have h := h.2 c4
        by_cases c7 : p1 = 3
        · have h := h.1 c7
          have e18 : (p1).toInt = 3 := by rw [c7]; rfl
          refine lv_tableIn (off := 61) (tgt := 67) hx hb dM6_count_6 (by rw [e18]; decide) (by rw [e18]; decide) (by rw [e18]; rfl) (by decide) ?_
          refine lv_aload_n hx hb dM6_count_67 rfl (lv_at hl 0 rfl) ?_
          refine va_get (D := (dC, dI)) (ci := 6) (v := .int (sI u1 6)) (C := RX6) (T := TX6) (N := 36) hx hb hts uwX6 hown hK hP 0 rfl rfl 24 (by decide) (hts _ wd_727) (fun _ h9 => h9) rfl dM6_count_68 ?_
          exact gr_i (w := wM ad ca K) (u := u1) hx hb hr hlocks h hP hK hD hS dM6_count_71
        · have h := h.2 c7
          by_cases c8 : p1 = 4
          · have h := h.1 c8
            have e17 : (p1).toInt = 4 := by rw [c8]; rfl
            refine lv_tableIn (off := 66) (tgt := 72) hx hb dM6_count_6 (by rw [e17]; decide) (by rw [e17]; decide) (by rw [e17]; rfl) (by decide) ?_
            refine lv_aload_n hx hb dM6_count_72 rfl (lv_at hl 0 rfl) ?_
            refine va_get (D := (dC, dI)) (ci := 6) (v := .int (sI u1 7)) (C := RX6) (T := TX6) (N := 36) hx hb hts uwX6 hown hK hP 0 rfl rfl 28 (by decide) (hts _ wd_731) (fun _ h9 => h9) rfl dM6_count_73 ?_
            exact gr_i (w := wM ad ca K) (u := u1) hx hb hr hlocks h hP hK hD hS dM6_count_76
          · have h := h.2 c8
            by_cases c9 : p1 = 5
            · have h := h.1 c9
              have e16 : (p1).toInt = 5 := by rw [c9]; rfl
              refine lv_tableIn (off := 71) (tgt := 77) hx hb dM6_count_6 (by rw [e16]; decide) (by rw [e16]; decide) (by rw [e16]; rfl) (by decide) ?_
              refine lv_aload_n hx hb dM6_count_77 rfl (lv_at hl 0 rfl) ?_
              refine va_get (D := (dC, dI)) (ci := 6) (v := .int (sI u1 2)) (C := RX6) (T := TX6) (N := 36) hx hb hts uwX6 hown hK hP 0 rfl rfl 14 (by decide) (hts _ wd_717) (fun _ h9 => h9) rfl dM6_count_78 ?_
              exact gr_i (w := wM ad ca K) (u := u1) hx hb hr hlocks h hP hK hD hS dM6_count_81
            · have h := h.2 c9
              by_cases c10 : p1 = 6
              · have h := h.1 c10
                have e15 : (p1).toInt = 6 := by rw [c10]; rfl
                refine lv_tableIn (off := 76) (tgt := 82) hx hb dM6_count_6 (by rw [e15]; decide) (by rw [e15]; decide) (by rw [e15]; rfl) (by decide) ?_
                refine lv_aload_n hx hb dM6_count_82 rfl (lv_at hl 0 rfl) ?_
                refine va_get (D := (dC, dI)) (ci := 6) (v := .int (sI u1 8)) (C := RX6) (T := TX6) (N := 36) hx hb hts uwX6 hown hK hP 0 rfl rfl 30 (by decide) (hts _ wd_733) (fun _ h9 => h9) rfl dM6_count_83 ?_
                exact gr_i (w := wM ad ca K) (u := u1) hx hb hr hlocks h hP hK hD hS dM6_count_86
              · have h := h.2 c10
                by_cases c11 : p1 = 7
                · have h := h.1 c11
                  have e14 : (p1).toInt = 7 := by rw [c11]; rfl
                  refine lv_tableIn (off := 81) (tgt := 87) hx hb dM6_count_6 (by rw [e14]; decide) (by rw [e14]; decide) (by rw [e14]; rfl) (by decide) ?_
                  refine lv_aload_n hx hb dM6_count_87 rfl (lv_at hl 0 rfl) ?_
                  refine va_get (D := (dC, dI)) (ci := 6) (v := .int (sI u1 5)) (C := RX6) (T := TX6) (N := 36) hx hb hts uwX6 hown hK hP 0 rfl rfl 21 (by decide) (hts _ wd_724) (fun _ h9 => h9) rfl dM6_count_88 ?_
                  exact gr_i (w := wM ad ca K) (u := u1) hx hb hr hlocks h hP hK hD hS dM6_count_91
                · have h := h.2 c11
                  refine lv_tableOut (tgt := 92) hx hb dM6_count_6 (by have a0 := lv_neT (a := 0) c2 rfl; have a1 := lv_neT (a := 1) c3 rfl; have a2 := lv_neT (a := 2) c4 rfl; have a3 := lv_neT (a := 3) c7 rfl; have a4 := lv_neT (a := 4) c8 rfl; have a5 := lv_neT (a := 5) c9 rfl; have a6 := lv_neT (a := 6) c10 rfl; have a7 := lv_neT (a := 7) c11 rfl; omega) (by decide) ?_
                  refine lv_aload_n hx hb dM6_count_92 rfl (lv_at hl 0 rfl) ?_
                  refine lv_iconst (v := 1) hx hb dM6_count_93 (by decide) ?_
                  refine gc_i (w := wM ad ca K) (u := u1) (va_runV (As := [.int 1]) (rest := []) ⟨hx, hb, hml, hown, hts⟩ (cM6_fail l dC dI ad ca K H.size u1 1 _ h) (cwV 1 hts (gG_V wd_825 wd_827 wd_18 wd_52 wd_828) rfl rfl rfl (by decide +kernel) ⟨Nat.le_of_ble_eq_true rfl, Nat.le_of_ble_eq_true rfl⟩) ⟨gB_blind mE_ok, va_recv hK hP (ci := 6) (q0 := 0) rfl rfl, gB_pre mE_ok hP hK hD hE hS hA⟩ rfl rfl hl.1 rfl (lv_room (Nat.le_of_ble_eq_true rfl)) dM6_count_94 ⟨Nat.le_of_ble_eq_true rfl, Nat.le_of_ble_eq_true rfl⟩) hD hS hA (fun r12 u13 H locs h hP hD hS => ?_)
                  exact gr_i (w := wM ad ca K) (u := u13) hx hb hr hlocks h hP hK hD hS dM6_count_97

theorem dM6_delay_0 : decode prog_8_method_44_code 0 = .ok (.aload_n 0, 1) := by decide +kernel
theorem dM6_delay_1 : decode prog_8_method_44_code 1 = .ok (.iconst 0, 1) := by decide +kernel
theorem dM6_delay_2 : decode prog_8_method_44_code 2 = .ok (.putfield 85, 3) := by decide +kernel
theorem dM6_delay_5 : decode prog_8_method_44_code 5 = .ok (.aload_n 0, 1) := by decide +kernel
theorem dM6_delay_6 : decode prog_8_method_44_code 6 = .ok (.getfield 135, 3) := by decide +kernel
theorem dM6_delay_9 : decode prog_8_method_44_code 9 = .ok (.ifCond .ne 10, 3) := by decide +kernel
theorem dM6_delay_12 : decode prog_8_method_44_code 12 = .ok (.aload_n 0, 1) := by decide +kernel
theorem dM6_delay_13 : decode prog_8_method_44_code 13 = .ok (.iconst 1, 1) := by decide +kernel
theorem dM6_delay_14 : decode prog_8_method_44_code 14 = .ok (.invokevirtual 108, 3) := by decide +kernel
theorem dM6_delay_17 : decode prog_8_method_44_code 17 = .ok (.i2d, 1) := by decide +kernel
theorem dM6_delay_18 : decode prog_8_method_44_code 18 = .ok (.dreturn, 1) := by decide +kernel
theorem dM6_delay_19 : decode prog_8_method_44_code 19 = .ok (.aload_n 0, 1) := by decide +kernel
theorem dM6_delay_20 : decode prog_8_method_44_code 20 = .ok (.getfield 132, 3) := by decide +kernel
theorem dM6_delay_23 : decode prog_8_method_44_code 23 = .ok (.aload_n 0, 1) := by decide +kernel
theorem dM6_delay_24 : decode prog_8_method_44_code 24 = .ok (.getfield 135, 3) := by decide +kernel
theorem dM6_delay_27 : decode prog_8_method_44_code 27 = .ok (.i2d, 1) := by decide +kernel
theorem dM6_delay_28 : decode prog_8_method_44_code 28 = .ok (.ddiv, 1) := by decide +kernel
theorem dM6_delay_29 : decode prog_8_method_44_code 29 = .ok (.dreturn, 1) := by decide +kernel
def wpM6_delay (K : KM) (post : UInt64 → gS → Prop) (u : gS)  : Prop :=
  ∀ u1 : gS, u1 = tI u 0 0 → (((¬ (sI u1 9) = 0 → (vf_n64 (FP.ddiv (sD u1 1) (FP.i2d (sI u1 9))) ∧ (post (FP.ddiv (sD u1 1) (FP.i2d (sI u1 9))) u1))) ∧ ((sI u1 9) = 0 → (wpM6_fail K (fun (r3 : Int32) (u4 : gS) => post (FP.i2d r3) u4) u1 1))))

set_option maxHeartbeats 8000000 in
set_option maxRecDepth 100000 in
theorem cM6_delay (l : Launch) (dC : Nat → ClassId) (dI : Nat → Nat → Nat) (ad : Nat → Nat) (ca : Nat → ClassId) (K : KM) (sz : Nat) (u : gS)  (post : UInt64 → gS → Prop)  (h : wpM6_delay K post u ) : Met l ⟨"WorkHallModel", "delay", "()D"⟩ (gw ⟨"WorkHallModel", "delay", "()D"⟩ prog_8_method_44_code 1 (some .double)) ({ frames := 2, cells := 0, slots := 0, locals := 80 } : Room) (va_Pc [.ref (ad 0)] (gB (dC, dI) vwCl (mT ca) mE (wM ad ca K u) sz)) (va_Qd post (gAt (dC, dI) vwCl (mT ca) (wM ad ca K) (va_A (wM ad ca K u) sz)) (va_A (wM ad ca K u) sz)) 0 0 (va_A (wM ad ca K u) sz) := by
  refine Met.ofW (cc := prog_8_method_44_code) (maxL := 1) (ret := (some .double)) (by decide) rfl ?_
  intro p e s m args below meth c s₁ B hml hv
  obtain ⟨rfl, hsz, hP, hK, hD0, hE⟩ := hv
  have hx := B.exec
  have hb := B.bytes
  have hr := B.returns
  have hts : ∀ w ∈ gW, w.before _ s = true := fun w h9 => atoms_spec (ws := (gw ⟨"WorkHallModel", "delay", "()D"⟩ prog_8_method_44_code 1 (some .double))) B.pre w (List.mem_cons_of_mem _ h9)
  have hown : s.vm.findClass RX6 = some m.cls := findClass_of_methodNamed B.named
  have hlocks := B.notSynchronized
  subst hsz
  have hD := hD0.self (sz := s.heap.size)
  generalize hAe : va_A (wM ad ca K u) s.heap.size = A at hD hE ⊢
  have hA : ∀ q : Nat, s.heap.size ≤ q → A q := fun q h => by rw [← hAe]; exact Or.inr h
  obtain ⟨H, hHe⟩ : ∃ z : Heap, z = s.heap := ⟨_, rfl⟩
  rw [← hHe]
  have hS : va_S A s.heap H [] := by rw [hHe]; exact va_S.rf
  have hP : va_P (dC, dI) vwCl (wM ad ca K u) H := by rw [hHe]; exact hP
  have hl := lv_entry ([.ref (ad 0)]) (n := 1) (Nat.le_of_ble_eq_true rfl)
  rw [lg_entry_eq]
  generalize (lg_sl ([.ref (ad 0)]) ++ List.replicate (1 - (lg_sl ([.ref (ad 0)])).length) Slot.unset).toArray = ls at hl ⊢
  have hl : lv_has ls 1 [(0, .ref (ad 0))] := hl
  clear hAe
  refine lv_aload_n hx hb dM6_delay_0 rfl (lv_at hl 0 rfl) ?_
  refine lv_iconst (v := 0) hx hb dM6_delay_1 (by decide) ?_
  refine va_put (D := (dC, dI)) (ci := 6) (v := .int 0) (ty := tyX6 0) (C := RX6) (T := TX6) (N := 36) hx hb hts uwX6 tyX6 tyX6_ok nmX6 hown hK hP hD hS 0 rfl rfl 0 (by decide) (hts _ wd_703) (fun _ h9 => h9) rfl (tyX6_ok 0 (by decide)) rfl rfl (Nat.le_of_ble_eq_true rfl) dM6_delay_2 (fun H locs hP hD hS => ?_)
  obtain ⟨u1, eu1⟩ : ∃ z : gS, z = tI u 0 0 := ⟨_, rfl⟩
  have hP : va_P (dC, dI) vwCl (wM ad ca K u1) H := by rw [eu1, wM_f0_failed]; exact hP
  have hD : va_D A (wM ad ca K u1) := by rw [eu1, wM_f0_failed]; exact hD
  have h := h u1 eu1
  refine lv_aload_n hx hb dM6_delay_5 rfl (lv_at hl 0 rfl) ?_
  refine va_get (D := (dC, dI)) (ci := 6) (v := .int (sI u1 9)) (C := RX6) (T := TX6) (N := 36) hx hb hts uwX6 hown hK hP 0 rfl rfl 32 (by decide) (hts _ wd_735) (fun _ h9 => h9) rfl dM6_delay_6 ?_
  refine lv_if_ne (tgt := 19) hx hb dM6_delay_9 (by decide) (fun c2 => ?_) (fun c2 => ?_)
  · have h := h.1 c2
    refine lv_aload_n hx hb dM6_delay_19 rfl (lv_at hl 0 rfl) ?_
    refine va_get (D := (dC, dI)) (ci := 6) (v := .double (sD u1 1)) (C := RX6) (T := TX6) (N := 36) hx hb hts uwX6 hown hK hP 0 rfl rfl 31 (by decide) (hts _ wd_734) (fun _ h9 => h9) rfl dM6_delay_20 ?_
    refine lv_aload_n hx hb dM6_delay_23 rfl (lv_at hl 0 rfl) ?_
    refine va_get (D := (dC, dI)) (ci := 6) (v := .int (sI u1 9)) (C := RX6) (T := TX6) (N := 36) hx hb hts uwX6 hown hK hP 0 rfl rfl 32 (by decide) (hts _ wd_735) (fun _ h9 => h9) rfl dM6_delay_24 ?_
    refine lv_i2d hx hb dM6_delay_27 ?_
    refine lv_ddiv hx hb dM6_delay_28 h.1 ?_
    have h := h.2
    exact gr_d (w := wM ad ca K) (u := u1) hx hb hr hlocks h hP hK hD hS dM6_delay_29
  · have h := h.2 c2
    refine lv_aload_n hx hb dM6_delay_12 rfl (lv_at hl 0 rfl) ?_
    refine lv_iconst (v := 1) hx hb dM6_delay_13 (by decide) ?_
    refine gc_i (w := wM ad ca K) (u := u1) (va_runV (As := [.int 1]) (rest := []) ⟨hx, hb, hml, hown, hts⟩ (cM6_fail l dC dI ad ca K H.size u1 1 _ h) (cwV 1 hts (gG_V wd_825 wd_827 wd_18 wd_52 wd_828) rfl rfl rfl (by decide +kernel) ⟨Nat.le_of_ble_eq_true rfl, Nat.le_of_ble_eq_true rfl⟩) ⟨gB_blind mE_ok, va_recv hK hP (ci := 6) (q0 := 0) rfl rfl, gB_pre mE_ok hP hK hD hE hS hA⟩ rfl rfl hl.1 rfl (lv_room (Nat.le_of_ble_eq_true rfl)) dM6_delay_14 ⟨Nat.le_of_ble_eq_true rfl, Nat.le_of_ble_eq_true rfl⟩) hD hS hA (fun r3 u4 H locs h hP hD hS => ?_)
    refine lv_i2d hx hb dM6_delay_17 ?_
    exact gr_d (w := wM ad ca K) (u := u4) hx hb hr hlocks h hP hK hD hS dM6_delay_18

theorem dM6_due_0 : decode prog_8_method_45_code 0 = .ok (.aload_n 0, 1) := by decide +kernel
theorem dM6_due_1 : decode prog_8_method_45_code 1 = .ok (.iconst 0, 1) := by decide +kernel
theorem dM6_due_2 : decode prog_8_method_45_code 2 = .ok (.putfield 85, 3) := by decide +kernel
theorem dM6_due_5 : decode prog_8_method_45_code 5 = .ok (.aload_n 0, 1) := by decide +kernel
theorem dM6_due_6 : decode prog_8_method_45_code 6 = .ok (.invokevirtual 214, 3) := by decide +kernel
theorem dM6_due_9 : decode prog_8_method_45_code 9 = .ok (.istore_n 1, 1) := by decide +kernel
theorem dM6_due_10 : decode prog_8_method_45_code 10 = .ok (.iload_n 1, 1) := by decide +kernel
theorem dM6_due_11 : decode prog_8_method_45_code 11 = .ok (.ifCond .ge 12, 3) := by decide +kernel
theorem dM6_due_14 : decode prog_8_method_45_code 14 = .ok (.aload_n 0, 1) := by decide +kernel
theorem dM6_due_15 : decode prog_8_method_45_code 15 = .ok (.iconst 1, 1) := by decide +kernel
theorem dM6_due_16 : decode prog_8_method_45_code 16 = .ok (.invokevirtual 108, 3) := by decide +kernel
theorem dM6_due_19 : decode prog_8_method_45_code 19 = .ok (.i2d, 1) := by decide +kernel
theorem dM6_due_20 : decode prog_8_method_45_code 20 = .ok (.goto 9, 3) := by decide +kernel
theorem dM6_due_23 : decode prog_8_method_45_code 23 = .ok (.aload_n 0, 1) := by decide +kernel
theorem dM6_due_24 : decode prog_8_method_45_code 24 = .ok (.getfield 56, 3) := by decide +kernel
theorem dM6_due_27 : decode prog_8_method_45_code 27 = .ok (.iload_n 1, 1) := by decide +kernel
theorem dM6_due_28 : decode prog_8_method_45_code 28 = .ok (.daload, 1) := by decide +kernel
theorem dM6_due_29 : decode prog_8_method_45_code 29 = .ok (.dreturn, 1) := by decide +kernel
def wpM6_due (K : KM) (post : UInt64 → gS → Prop) (u : gS)  : Prop :=
  ∀ u1 : gS, u1 = tI u 0 0 → (wpM6_first K (fun (r2 : Int32) (u3 : gS) => ((0 ≤ r2 → (vp_in r2 12 ∧ (post (sB u3 2 r2.toNatClampNeg) u3))) ∧ (¬ 0 ≤ r2 → (wpM6_fail K (fun (r5 : Int32) (u6 : gS) => post (FP.i2d r5) u6) u3 1)))) u1)

set_option maxHeartbeats 8000000 in
set_option maxRecDepth 100000 in
theorem cM6_due (l : Launch) (dC : Nat → ClassId) (dI : Nat → Nat → Nat) (ad : Nat → Nat) (ca : Nat → ClassId) (K : KM) (sz : Nat) (u : gS)  (post : UInt64 → gS → Prop)  (h : wpM6_due K post u ) : Met l ⟨"WorkHallModel", "due", "()D"⟩ (gw ⟨"WorkHallModel", "due", "()D"⟩ prog_8_method_45_code 2 (some .double)) ({ frames := 2, cells := 0, slots := 0, locals := 80 } : Room) (va_Pc [.ref (ad 0)] (gB (dC, dI) vwCl (mT ca) mE (wM ad ca K u) sz)) (va_Qd post (gAt (dC, dI) vwCl (mT ca) (wM ad ca K) (va_A (wM ad ca K u) sz)) (va_A (wM ad ca K u) sz)) 0 0 (va_A (wM ad ca K u) sz) := by
  refine Met.ofW (cc := prog_8_method_45_code) (maxL := 2) (ret := (some .double)) (by decide) rfl ?_
  intro p e s m args below meth c s₁ B hml hv
  obtain ⟨rfl, hsz, hP, hK, hD0, hE⟩ := hv
  have hx := B.exec
  have hb := B.bytes
  have hr := B.returns
  have hts : ∀ w ∈ gW, w.before _ s = true := fun w h9 => atoms_spec (ws := (gw ⟨"WorkHallModel", "due", "()D"⟩ prog_8_method_45_code 2 (some .double))) B.pre w (List.mem_cons_of_mem _ h9)
  have hown : s.vm.findClass RX6 = some m.cls := findClass_of_methodNamed B.named
  have hlocks := B.notSynchronized
  subst hsz
  have hD := hD0.self (sz := s.heap.size)
  generalize hAe : va_A (wM ad ca K u) s.heap.size = A at hD hE ⊢
  have hA : ∀ q : Nat, s.heap.size ≤ q → A q := fun q h => by rw [← hAe]; exact Or.inr h
  obtain ⟨H, hHe⟩ : ∃ z : Heap, z = s.heap := ⟨_, rfl⟩
  rw [← hHe]
  have hS : va_S A s.heap H [] := by rw [hHe]; exact va_S.rf
  have hP : va_P (dC, dI) vwCl (wM ad ca K u) H := by rw [hHe]; exact hP
  have hl := lv_entry ([.ref (ad 0)]) (n := 2) (Nat.le_of_ble_eq_true rfl)
  rw [lg_entry_eq]
  generalize (lg_sl ([.ref (ad 0)]) ++ List.replicate (2 - (lg_sl ([.ref (ad 0)])).length) Slot.unset).toArray = ls at hl ⊢
  have hl : lv_has ls 2 [(0, .ref (ad 0))] := hl
  clear hAe
  refine lv_aload_n hx hb dM6_due_0 rfl (lv_at hl 0 rfl) ?_
  refine lv_iconst (v := 0) hx hb dM6_due_1 (by decide) ?_
  refine va_put (D := (dC, dI)) (ci := 6) (v := .int 0) (ty := tyX6 0) (C := RX6) (T := TX6) (N := 36) hx hb hts uwX6 tyX6 tyX6_ok nmX6 hown hK hP hD hS 0 rfl rfl 0 (by decide) (hts _ wd_703) (fun _ h9 => h9) rfl (tyX6_ok 0 (by decide)) rfl rfl (Nat.le_of_ble_eq_true rfl) dM6_due_2 (fun H locs hP hD hS => ?_)
  obtain ⟨u1, eu1⟩ : ∃ z : gS, z = tI u 0 0 := ⟨_, rfl⟩
  have hP : va_P (dC, dI) vwCl (wM ad ca K u1) H := by rw [eu1, wM_f0_failed]; exact hP
  have hD : va_D A (wM ad ca K u1) := by rw [eu1, wM_f0_failed]; exact hD
  have h := h u1 eu1
  refine lv_aload_n hx hb dM6_due_5 rfl (lv_at hl 0 rfl) ?_
  refine gc_i (w := wM ad ca K) (u := u1) (va_runV (As := []) (rest := []) ⟨hx, hb, hml, hown, hts⟩ (cM6_first l dC dI ad ca K H.size u1 _ h) (cwV 0 hts (gG_V wd_955 wd_957 wd_43 wd_52 wd_958) rfl rfl rfl (by decide +kernel) ⟨Nat.le_of_ble_eq_true rfl, Nat.le_of_ble_eq_true rfl⟩) ⟨gB_blind mE_ok, va_recv hK hP (ci := 6) (q0 := 0) rfl rfl, gB_pre mE_ok hP hK hD hE hS hA⟩ rfl rfl hl.1 rfl (lv_room (Nat.le_of_ble_eq_true rfl)) dM6_due_6 ⟨Nat.le_of_ble_eq_true rfl, Nat.le_of_ble_eq_true rfl⟩) hD hS hA (fun r2 u3 H locs h hP hD hS => ?_)
  refine lv_istore_n (lv' := [(1, .int r2), (0, .ref (ad 0))]) hx hb dM6_due_9 rfl hl (by decide) rfl (fun ls hl => ?_)
  refine lv_iload_n hx hb dM6_due_10 rfl (lv_at hl 0 rfl) ?_
  refine lv_if_ge (tgt := 23) hx hb dM6_due_11 (by decide) (fun c4 => ?_) (fun c4 => ?_)
  · have h := h.1 c4
    refine lv_aload_n hx hb dM6_due_23 rfl (lv_at hl 1 rfl) ?_
    refine va_get (D := (dC, dI)) (ci := 6) (v := .ref (ad 16)) (C := RX6) (T := TX6) (N := 36) hx hb hts uwX6 hown hK hP 0 rfl rfl 26 (by decide) (hts _ wd_729) (fun _ h9 => h9) rfl dM6_due_24 ?_
    refine lv_iload_n hx hb dM6_due_27 rfl (lv_at hl 0 rfl) ?_
    refine va_dald hx hb hK hP 16 1 rfl rfl h.1 dM6_due_28 ?_
    have h := h.2
    exact gr_d (w := wM ad ca K) (u := u3) hx hb hr hlocks h hP hK hD hS dM6_due_29
  · have h := h.2 c4
    refine lv_aload_n hx hb dM6_due_14 rfl (lv_at hl 1 rfl) ?_
    refine lv_iconst (v := 1) hx hb dM6_due_15 (by decide) ?_
    refine gc_i (w := wM ad ca K) (u := u3) (va_runV (As := [.int 1]) (rest := []) ⟨hx, hb, hml, hown, hts⟩ (cM6_fail l dC dI ad ca K H.size u3 1 _ h) (cwV 1 hts (gG_V wd_825 wd_827 wd_18 wd_52 wd_828) rfl rfl rfl (by decide +kernel) ⟨Nat.le_of_ble_eq_true rfl, Nat.le_of_ble_eq_true rfl⟩) ⟨gB_blind mE_ok, va_recv hK hP (ci := 6) (q0 := 0) rfl rfl, gB_pre mE_ok hP hK hD hE hS hA⟩ rfl rfl hl.1 rfl (lv_room (Nat.le_of_ble_eq_true rfl)) dM6_due_16 ⟨Nat.le_of_ble_eq_true rfl, Nat.le_of_ble_eq_true rfl⟩) hD hS hA (fun r5 u6 H locs h hP hD hS => ?_)
    refine lv_i2d hx hb dM6_due_19 ?_
    refine lv_goto (tgt := 29) hx hb dM6_due_20 (by decide) ?_
    exact gr_d (w := wM ad ca K) (u := u6) hx hb hr hlocks h hP hK hD hS dM6_due_29

