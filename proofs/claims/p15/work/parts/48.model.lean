theorem dM6_turn_0 : decode prog_8_method_29_code 0 = .ok (.aload_n 0, 1) := by decide +kernel
theorem dM6_turn_1 : decode prog_8_method_29_code 1 = .ok (.iload_n 1, 1) := by decide +kernel
theorem dM6_turn_2 : decode prog_8_method_29_code 2 = .ok (.invokevirtual 188, 3) := by decide +kernel
theorem dM6_turn_5 : decode prog_8_method_29_code 5 = .ok (.istore_n 2, 1) := by decide +kernel
theorem dM6_turn_6 : decode prog_8_method_29_code 6 = .ok (.iload_n 2, 1) := by decide +kernel
theorem dM6_turn_7 : decode prog_8_method_29_code 7 = .ok (.ifCond .lt 12, 3) := by decide +kernel
theorem dM6_turn_10 : decode prog_8_method_29_code 10 = .ok (.aload_n 0, 1) := by decide +kernel
theorem dM6_turn_11 : decode prog_8_method_29_code 11 = .ok (.getfield 37, 3) := by decide +kernel
theorem dM6_turn_14 : decode prog_8_method_29_code 14 = .ok (.iload_n 2, 1) := by decide +kernel
theorem dM6_turn_15 : decode prog_8_method_29_code 15 = .ok (.iaload, 1) := by decide +kernel
theorem dM6_turn_16 : decode prog_8_method_29_code 16 = .ok (.ifCond .ge 4, 3) := by decide +kernel
theorem dM6_turn_19 : decode prog_8_method_29_code 19 = .ok (.return_, 1) := by decide +kernel
theorem dM6_turn_20 : decode prog_8_method_29_code 20 = .ok (.aload_n 0, 1) := by decide +kernel
theorem dM6_turn_21 : decode prog_8_method_29_code 21 = .ok (.getfield 40, 3) := by decide +kernel
theorem dM6_turn_24 : decode prog_8_method_29_code 24 = .ok (.iload_n 2, 1) := by decide +kernel
theorem dM6_turn_25 : decode prog_8_method_29_code 25 = .ok (.dup2, 1) := by decide +kernel
theorem dM6_turn_26 : decode prog_8_method_29_code 26 = .ok (.iaload, 1) := by decide +kernel
theorem dM6_turn_27 : decode prog_8_method_29_code 27 = .ok (.iconst 1, 1) := by decide +kernel
theorem dM6_turn_28 : decode prog_8_method_29_code 28 = .ok (.isub, 1) := by decide +kernel
theorem dM6_turn_29 : decode prog_8_method_29_code 29 = .ok (.iastore, 1) := by decide +kernel
theorem dM6_turn_30 : decode prog_8_method_29_code 30 = .ok (.aload_n 0, 1) := by decide +kernel
theorem dM6_turn_31 : decode prog_8_method_29_code 31 = .ok (.getfield 40, 3) := by decide +kernel
theorem dM6_turn_34 : decode prog_8_method_29_code 34 = .ok (.iload_n 2, 1) := by decide +kernel
theorem dM6_turn_35 : decode prog_8_method_29_code 35 = .ok (.iaload, 1) := by decide +kernel
theorem dM6_turn_36 : decode prog_8_method_29_code 36 = .ok (.ifCond .le 4, 3) := by decide +kernel
theorem dM6_turn_39 : decode prog_8_method_29_code 39 = .ok (.return_, 1) := by decide +kernel
theorem dM6_turn_40 : decode prog_8_method_29_code 40 = .ok (.aload_n 0, 1) := by decide +kernel
theorem dM6_turn_41 : decode prog_8_method_29_code 41 = .ok (.getfield 37, 3) := by decide +kernel
theorem dM6_turn_44 : decode prog_8_method_29_code 44 = .ok (.iload_n 2, 1) := by decide +kernel
theorem dM6_turn_45 : decode prog_8_method_29_code 45 = .ok (.iaload, 1) := by decide +kernel
theorem dM6_turn_46 : decode prog_8_method_29_code 46 = .ok (.istore_n 3, 1) := by decide +kernel
theorem dM6_turn_47 : decode prog_8_method_29_code 47 = .ok (.aload_n 0, 1) := by decide +kernel
theorem dM6_turn_48 : decode prog_8_method_29_code 48 = .ok (.iload_n 3, 1) := by decide +kernel
theorem dM6_turn_49 : decode prog_8_method_29_code 49 = .ok (.invokevirtual 182, 3) := by decide +kernel
theorem dM6_turn_52 : decode prog_8_method_29_code 52 = .ok (.aload_n 0, 1) := by decide +kernel
theorem dM6_turn_53 : decode prog_8_method_29_code 53 = .ok (.iload_n 1, 1) := by decide +kernel
theorem dM6_turn_54 : decode prog_8_method_29_code 54 = .ok (.invokevirtual 188, 3) := by decide +kernel
theorem dM6_turn_57 : decode prog_8_method_29_code 57 = .ok (.istore_n 2, 1) := by decide +kernel
theorem dM6_turn_58 : decode prog_8_method_29_code 58 = .ok (.aload_n 0, 1) := by decide +kernel
theorem dM6_turn_59 : decode prog_8_method_29_code 59 = .ok (.getfield 22, 3) := by decide +kernel
theorem dM6_turn_62 : decode prog_8_method_29_code 62 = .ok (.iload_n 3, 1) := by decide +kernel
theorem dM6_turn_63 : decode prog_8_method_29_code 63 = .ok (.iaload, 1) := by decide +kernel
theorem dM6_turn_64 : decode prog_8_method_29_code 64 = .ok (.iconst 4, 1) := by decide +kernel
theorem dM6_turn_65 : decode prog_8_method_29_code 65 = .ok (.if_icmp .ne 38, 3) := by decide +kernel
theorem dM6_turn_68 : decode prog_8_method_29_code 68 = .ok (.aload_n 0, 1) := by decide +kernel
theorem dM6_turn_69 : decode prog_8_method_29_code 69 = .ok (.getfield 31, 3) := by decide +kernel
theorem dM6_turn_72 : decode prog_8_method_29_code 72 = .ok (.iload_n 3, 1) := by decide +kernel
theorem dM6_turn_73 : decode prog_8_method_29_code 73 = .ok (.iaload, 1) := by decide +kernel
theorem dM6_turn_74 : decode prog_8_method_29_code 74 = .ok (.iconst 5, 1) := by decide +kernel
theorem dM6_turn_75 : decode prog_8_method_29_code 75 = .ok (.if_icmp .ne 28, 3) := by decide +kernel
theorem dM6_turn_78 : decode prog_8_method_29_code 78 = .ok (.aload_n 0, 1) := by decide +kernel
theorem dM6_turn_79 : decode prog_8_method_29_code 79 = .ok (.iload_n 2, 1) := by decide +kernel
theorem dM6_turn_80 : decode prog_8_method_29_code 80 = .ok (.invokevirtual 191, 3) := by decide +kernel
theorem dM6_turn_83 : decode prog_8_method_29_code 83 = .ok (.aload_n 0, 1) := by decide +kernel
theorem dM6_turn_84 : decode prog_8_method_29_code 84 = .ok (.invokevirtual 141, 3) := by decide +kernel
theorem dM6_turn_87 : decode prog_8_method_29_code 87 = .ok (.istore 4, 2) := by decide +kernel
theorem dM6_turn_89 : decode prog_8_method_29_code 89 = .ok (.iload 4, 2) := by decide +kernel
theorem dM6_turn_91 : decode prog_8_method_29_code 91 = .ok (.ifCond .lt 9, 3) := by decide +kernel
theorem dM6_turn_94 : decode prog_8_method_29_code 94 = .ok (.aload_n 0, 1) := by decide +kernel
theorem dM6_turn_95 : decode prog_8_method_29_code 95 = .ok (.iload 4, 2) := by decide +kernel
theorem dM6_turn_97 : decode prog_8_method_29_code 97 = .ok (.invokevirtual 148, 3) := by decide +kernel
theorem dM6_turn_100 : decode prog_8_method_29_code 100 = .ok (.goto 8, 3) := by decide +kernel
theorem dM6_turn_103 : decode prog_8_method_29_code 103 = .ok (.aload_n 0, 1) := by decide +kernel
theorem dM6_turn_104 : decode prog_8_method_29_code 104 = .ok (.iload_n 2, 1) := by decide +kernel
theorem dM6_turn_105 : decode prog_8_method_29_code 105 = .ok (.invokevirtual 194, 3) := by decide +kernel
theorem dM6_turn_108 : decode prog_8_method_29_code 108 = .ok (.return_, 1) := by decide +kernel
def wpM6_turn (K : KM) (post : gS → Prop) (u : gS) (p1 : Int32) : Prop :=
  wpM6_place0 K (fun (r1 : Int32) (u2 : gS) => ((r1 < 0 → (post u2)) ∧ (¬ r1 < 0 → (vp_in r1 8 ∧ (((0 ≤ (sA u2 9 r1.toNatClampNeg) → (vp_in r1 8 ∧ (vp_in r1 8 ∧ (∀ u5 : gS, u5 = tA u2 10 r1.toNatClampNeg ((sA u2 10 r1.toNatClampNeg) - 1) → (vp_in r1 8 ∧ ((((sA u5 10 r1.toNatClampNeg) ≤ 0 → (vp_in r1 8 ∧ (∀ x7 : Int32, x7 = sA u5 9 r1.toNatClampNeg → (wpM6_perform K (fun (u9 : gS) => wpM6_place0 K (fun (r10 : Int32) (u11 : gS) => vp_in x7 24 ∧ (((¬ (sA u11 4 x7.toNatClampNeg) = 4 → (wpM6_takeNext K (fun (u14 : gS) => post u14) u11 r10)) ∧ ((sA u11 4 x7.toNatClampNeg) = 4 → (vp_in x7 24 ∧ (((¬ (sA u11 7 x7.toNatClampNeg) = 5 → (wpM6_takeNext K (fun (u17 : gS) => post u17) u11 r10)) ∧ ((sA u11 7 x7.toNatClampNeg) = 5 → (wpM6_removeWorker K (fun (u19 : gS) => wpM6_fetch K (fun (r20 : Int32) (u21 : gS) => ((r20 < 0 → (post u21)) ∧ (¬ r20 < 0 → (wpM6_newWorker K (fun (u24 : gS) => post u24) u21 r20)))) u19) u11 r10))))))))) u9 p1) u5 x7)))) ∧ (¬ (sA u5 10 r1.toNatClampNeg) ≤ 0 → (post u5))))))))) ∧ (¬ 0 ≤ (sA u2 9 r1.toNatClampNeg) → (post u2)))))))) u p1

set_option maxHeartbeats 8000000 in
set_option maxRecDepth 100000 in
theorem cM6_turn (l : Launch) (dC : Nat → ClassId) (dI : Nat → Nat → Nat) (ad : Nat → Nat) (ca : Nat → ClassId) (K : KM) (sz : Nat) (u : gS) (p1 : Int32) (post : gS → Prop)  (h : wpM6_turn K post u p1) : Met l ⟨"WorkHallModel", "turn", "(I)V"⟩ (gw ⟨"WorkHallModel", "turn", "(I)V"⟩ prog_8_method_29_code 5 none) ({ frames := 7, cells := 0, slots := 0, locals := 280 } : Room) (va_Pc [.ref (ad 0), .int p1] (gB (dC, dI) vwCl (mT ca) mE (wM ad ca K u) sz)) (va_Qv post (gAt (dC, dI) vwCl (mT ca) (wM ad ca K) (va_A (wM ad ca K u) sz)) (va_A (wM ad ca K u) sz)) 0 0 (va_A (wM ad ca K u) sz) := by
  refine Met.ofW (cc := prog_8_method_29_code) (maxL := 5) (ret := none) (by decide) rfl ?_
  intro p e s m args below meth c s₁ B hml hv
  obtain ⟨rfl, hsz, hP, hK, hD0, hE⟩ := hv
  have hx := B.exec
  have hb := B.bytes
  have hr := B.returns
  have hts : ∀ w ∈ gW, w.before _ s = true := fun w h9 => atoms_spec (ws := (gw ⟨"WorkHallModel", "turn", "(I)V"⟩ prog_8_method_29_code 5 none)) B.pre w (List.mem_cons_of_mem _ h9)
  have hown : s.vm.findClass RX6 = some m.cls := findClass_of_methodNamed B.named
  have hlocks := B.notSynchronized
  subst hsz
  have hD := hD0.self (sz := s.heap.size)
  generalize hAe : va_A (wM ad ca K u) s.heap.size = A at hD hE ⊢
  have hA : ∀ q : Nat, s.heap.size ≤ q → A q := fun q h => by rw [← hAe]; exact Or.inr h
  obtain ⟨H, hHe⟩ : ∃ z : Heap, z = s.heap := ⟨_, rfl⟩
  rw [← hHe]
  have hS : va_S A s.heap H [] := by rw [hHe]; exact va_S.rf
  have hP : va_P (dC, dI) vwCl (wM ad ca K u) H := by rw [hHe]; exact hP
  have hl := lv_entry ([.ref (ad 0), .int p1]) (n := 5) (Nat.le_of_ble_eq_true rfl)
  rw [lg_entry_eq]
  generalize (lg_sl ([.ref (ad 0), .int p1]) ++ List.replicate (5 - (lg_sl ([.ref (ad 0), .int p1])).length) Slot.unset).toArray = ls at hl ⊢
  have hl : lv_has ls 5 [(0, .ref (ad 0)), (1, .int p1)] := hl
  clear hAe
  refine lv_aload_n hx hb dM6_turn_0 rfl (lv_at hl 0 rfl) ?_
  refine lv_iload_n hx hb dM6_turn_1 rfl (lv_at hl 1 rfl) ?_
  refine gc_i (w := wM ad ca K) (u := u) (va_runV (As := [.int p1]) (rest := []) ⟨hx, hb, hml, hown, hts⟩ (cM6_place0 l dC dI ad ca K H.size u p1 _ h) (cwV 1 hts (gG_V wd_905 wd_907 wd_35 wd_52 wd_908) rfl rfl rfl (by decide +kernel) ⟨Nat.le_of_ble_eq_true rfl, Nat.le_of_ble_eq_true rfl⟩) ⟨gB_blind mE_ok, va_recv hK hP (ci := 6) (q0 := 0) rfl rfl, gB_pre mE_ok hP hK hD hE hS hA⟩ rfl rfl hl.1 rfl (lv_room (Nat.le_of_ble_eq_true rfl)) dM6_turn_2 ⟨Nat.le_of_ble_eq_true rfl, Nat.le_of_ble_eq_true rfl⟩) hD hS hA (fun r1 u2 H locs h hP hD hS => ?_)
  refine lv_istore_n (lv' := [(2, .int r1), (0, .ref (ad 0)), (1, .int p1)]) hx hb dM6_turn_5 rfl hl (by decide) rfl (fun ls hl => ?_)
  refine lv_iload_n hx hb dM6_turn_6 rfl (lv_at hl 0 rfl) ?_
  refine lv_if_lt (tgt := 19) hx hb dM6_turn_7 (by decide) (fun c3 => ?_) (fun c3 => ?_)
  · have h := h.1 c3
    exact gr_v (w := wM ad ca K) (u := u2) hx hb hr hlocks h hP hK hD hS dM6_turn_19
  · have h := h.2 c3
    refine lv_aload_n hx hb dM6_turn_10 rfl (lv_at hl 1 rfl) ?_
    refine va_get (D := (dC, dI)) (ci := 6) (v := .ref (ad 10)) (C := RX6) (T := TX6) (N := 36) hx hb hts uwX6 hown hK hP 0 rfl rfl 16 (by decide) (hts _ wd_719) (fun _ h9 => h9) rfl dM6_turn_11 ?_
    refine lv_iload_n hx hb dM6_turn_14 rfl (lv_at hl 0 rfl) ?_
    refine va_iald hx hb hK hP 10 0 rfl rfl h.1 dM6_turn_15 ?_
    have h := h.2
    refine lv_if_ge (tgt := 20) hx hb dM6_turn_16 (by decide) (fun c4 => ?_) (fun c4 => ?_)
    · have h := h.1 c4
      refine lv_aload_n hx hb dM6_turn_20 rfl (lv_at hl 1 rfl) ?_
      refine va_get (D := (dC, dI)) (ci := 6) (v := .ref (ad 11)) (C := RX6) (T := TX6) (N := 36) hx hb hts uwX6 hown hK hP 0 rfl rfl 17 (by decide) (hts _ wd_720) (fun _ h9 => h9) rfl dM6_turn_21 ?_
      refine lv_iload_n hx hb dM6_turn_24 rfl (lv_at hl 0 rfl) ?_
      refine lv_dup2_11 hx hb dM6_turn_25 rfl rfl ?_
      refine va_iald hx hb hK hP 11 0 rfl rfl h.1 dM6_turn_26 ?_
      have h := h.2
      refine lv_iconst (v := 1) hx hb dM6_turn_27 (by decide) ?_
      refine lv_isub hx hb dM6_turn_28 ?_
      refine va_iast hx hb hK hP hD hS 11 0 rfl rfl h.1 dM6_turn_29 (fun H locs hP hD hS => ?_)
      have h := h.2
      obtain ⟨u5, eu5⟩ : ∃ z : gS, z = tA u2 10 r1.toNatClampNeg ((sA u2 10 r1.toNatClampNeg) - 1) := ⟨_, rfl⟩
      have hP : va_P (dC, dI) vwCl (wM ad ca K u5) H := by rw [eu5, wM_a11]; exact hP
      have hD : va_D A (wM ad ca K u5) := by rw [eu5, wM_a11]; exact hD
      have h := h u5 eu5
      refine lv_aload_n hx hb dM6_turn_30 rfl (lv_at hl 1 rfl) ?_
      refine va_get (D := (dC, dI)) (ci := 6) (v := .ref (ad 11)) (C := RX6) (T := TX6) (N := 36) hx hb hts uwX6 hown hK hP 0 rfl rfl 17 (by decide) (hts _ wd_720) (fun _ h9 => h9) rfl dM6_turn_31 ?_
      refine lv_iload_n hx hb dM6_turn_34 rfl (lv_at hl 0 rfl) ?_
      refine va_iald hx hb hK hP 11 0 rfl rfl h.1 dM6_turn_35 ?_
      have h := h.2
      refine lv_if_le (tgt := 40) hx hb dM6_turn_36 (by decide) (fun c6 => ?_) (fun c6 => ?_)
      · have h := h.1 c6
        refine lv_aload_n hx hb dM6_turn_40 rfl (lv_at hl 1 rfl) ?_
        refine va_get (D := (dC, dI)) (ci := 6) (v := .ref (ad 10)) (C := RX6) (T := TX6) (N := 36) hx hb hts uwX6 hown hK hP 0 rfl rfl 16 (by decide) (hts _ wd_719) (fun _ h9 => h9) rfl dM6_turn_41 ?_
        refine lv_iload_n hx hb dM6_turn_44 rfl (lv_at hl 0 rfl) ?_
        refine va_iald hx hb hK hP 10 0 rfl rfl h.1 dM6_turn_45 ?_
        have h := h.2
        refine lv_topi (fun x7 ex7 => ?_)
        have h := h x7 ex7
        refine lv_istore_n (lv' := [(3, .int x7), (2, .int r1), (0, .ref (ad 0)), (1, .int p1)]) hx hb dM6_turn_46 rfl hl (by decide) rfl (fun ls hl => ?_)
        refine lv_aload_n hx hb dM6_turn_47 rfl (lv_at hl 2 rfl) ?_
        refine lv_iload_n hx hb dM6_turn_48 rfl (lv_at hl 0 rfl) ?_
        refine gc_v (w := wM ad ca K) (u := u5) (va_runV (As := [.int x7]) (rest := []) ⟨hx, hb, hml, hown, hts⟩ (cM6_perform l dC dI ad ca K H.size u5 x7 _ h) (cwV 1 hts (gG_V wd_865 wd_867 wd_27 wd_52 wd_868) rfl rfl rfl (by decide +kernel) ⟨Nat.le_of_ble_eq_true rfl, Nat.le_of_ble_eq_true rfl⟩) ⟨gB_blind mE_ok, va_recv hK hP (ci := 6) (q0 := 0) rfl rfl, gB_pre mE_ok hP hK hD hE hS hA⟩ rfl rfl hl.1 rfl (lv_room (Nat.le_of_ble_eq_true rfl)) dM6_turn_49 ⟨Nat.le_of_ble_eq_true rfl, Nat.le_of_ble_eq_true rfl⟩) hD hS hA (fun u9 H locs h hP hD hS => ?_)
        refine lv_aload_n hx hb dM6_turn_52 rfl (lv_at hl 2 rfl) ?_
        refine lv_iload_n hx hb dM6_turn_53 rfl (lv_at hl 3 rfl) ?_
        refine gc_i (w := wM ad ca K) (u := u9) (va_runV (As := [.int p1]) (rest := []) ⟨hx, hb, hml, hown, hts⟩ (cM6_place0 l dC dI ad ca K H.size u9 p1 _ h) (cwV 1 hts (gG_V wd_905 wd_907 wd_35 wd_52 wd_908) rfl rfl rfl (by decide +kernel) ⟨Nat.le_of_ble_eq_true rfl, Nat.le_of_ble_eq_true rfl⟩) ⟨gB_blind mE_ok, va_recv hK hP (ci := 6) (q0 := 0) rfl rfl, gB_pre mE_ok hP hK hD hE hS hA⟩ rfl rfl hl.1 rfl (lv_room (Nat.le_of_ble_eq_true rfl)) dM6_turn_54 ⟨Nat.le_of_ble_eq_true rfl, Nat.le_of_ble_eq_true rfl⟩) hD hS hA (fun r10 u11 H locs h hP hD hS => ?_)
        refine lv_istore_n (lv' := [(2, .int r10), (3, .int x7), (0, .ref (ad 0)), (1, .int p1)]) hx hb dM6_turn_57 rfl hl (by decide) rfl (fun ls hl => ?_)
        refine lv_aload_n hx hb dM6_turn_58 rfl (lv_at hl 2 rfl) ?_
        refine va_get (D := (dC, dI)) (ci := 6) (v := .ref (ad 5)) (C := RX6) (T := TX6) (N := 36) hx hb hts uwX6 hown hK hP 0 rfl rfl 9 (by decide) (hts _ wd_712) (fun _ h9 => h9) rfl dM6_turn_59 ?_
        refine lv_iload_n hx hb dM6_turn_62 rfl (lv_at hl 1 rfl) ?_
        refine va_iald hx hb hK hP 5 0 rfl rfl h.1 dM6_turn_63 ?_
        have h := h.2
        refine lv_iconst (v := 4) hx hb dM6_turn_64 (by decide) ?_
        refine lv_icmp_ne (tgt := 103) hx hb dM6_turn_65 (by decide) (fun c12 => ?_) (fun c12 => ?_)
        · have h := h.1 c12
          refine lv_aload_n hx hb dM6_turn_103 rfl (lv_at hl 2 rfl) ?_
          refine lv_iload_n hx hb dM6_turn_104 rfl (lv_at hl 0 rfl) ?_
          refine gc_v (w := wM ad ca K) (u := u11) (va_runV (As := [.int r10]) (rest := []) ⟨hx, hb, hml, hown, hts⟩ (cM6_takeNext l dC dI ad ca K H.size u11 r10 _ h) (cwV 1 hts (gG_V wd_917 wd_919 wd_38 wd_52 wd_920) rfl rfl rfl (by decide +kernel) ⟨Nat.le_of_ble_eq_true rfl, Nat.le_of_ble_eq_true rfl⟩) ⟨gB_blind mE_ok, va_recv hK hP (ci := 6) (q0 := 0) rfl rfl, gB_pre mE_ok hP hK hD hE hS hA⟩ rfl rfl hl.1 rfl (lv_room (Nat.le_of_ble_eq_true rfl)) dM6_turn_105 ⟨Nat.le_of_ble_eq_true rfl, Nat.le_of_ble_eq_true rfl⟩) hD hS hA (fun u14 H locs h hP hD hS => ?_)
          exact gr_v (w := wM ad ca K) (u := u14) hx hb hr hlocks h hP hK hD hS dM6_turn_108
        · have h := h.2 c12
          refine lv_aload_n hx hb dM6_turn_68 rfl (lv_at hl 2 rfl) ?_
          refine va_get (D := (dC, dI)) (ci := 6) (v := .ref (ad 8)) (C := RX6) (T := TX6) (N := 36) hx hb hts uwX6 hown hK hP 0 rfl rfl 12 (by decide) (hts _ wd_715) (fun _ h9 => h9) rfl dM6_turn_69 ?_
          refine lv_iload_n hx hb dM6_turn_72 rfl (lv_at hl 1 rfl) ?_
          refine va_iald hx hb hK hP 8 0 rfl rfl h.1 dM6_turn_73 ?_
          have h := h.2
          refine lv_iconst (v := 5) hx hb dM6_turn_74 (by decide) ?_
          refine lv_icmp_ne (tgt := 103) hx hb dM6_turn_75 (by decide) (fun c15 => ?_) (fun c15 => ?_)
          · have h := h.1 c15
            refine lv_aload_n hx hb dM6_turn_103 rfl (lv_at hl 2 rfl) ?_
            refine lv_iload_n hx hb dM6_turn_104 rfl (lv_at hl 0 rfl) ?_
            refine gc_v (w := wM ad ca K) (u := u11) (va_runV (As := [.int r10]) (rest := []) ⟨hx, hb, hml, hown, hts⟩ (cM6_takeNext l dC dI ad ca K H.size u11 r10 _ h) (cwV 1 hts (gG_V wd_917 wd_919 wd_38 wd_52 wd_920) rfl rfl rfl (by decide +kernel) ⟨Nat.le_of_ble_eq_true rfl, Nat.le_of_ble_eq_true rfl⟩) ⟨gB_blind mE_ok, va_recv hK hP (ci := 6) (q0 := 0) rfl rfl, gB_pre mE_ok hP hK hD hE hS hA⟩ rfl rfl hl.1 rfl (lv_room (Nat.le_of_ble_eq_true rfl)) dM6_turn_105 ⟨Nat.le_of_ble_eq_true rfl, Nat.le_of_ble_eq_true rfl⟩) hD hS hA (fun u17 H locs h hP hD hS => ?_)
            exact gr_v (w := wM ad ca K) (u := u17) hx hb hr hlocks h hP hK hD hS dM6_turn_108
          · have h := h.2 c15
            refine lv_aload_n hx hb dM6_turn_78 rfl (lv_at hl 2 rfl) ?_
            refine lv_iload_n hx hb dM6_turn_79 rfl (lv_at hl 0 rfl) ?_
            refine gc_v (w := wM ad ca K) (u := u11) (va_runV (As := [.int r10]) (rest := []) ⟨hx, hb, hml, hown, hts⟩ (cM6_removeWorker l dC dI ad ca K H.size u11 r10 _ h) (cwV 1 hts (gG_V wd_909 wd_911 wd_36 wd_52 wd_912) rfl rfl rfl (by decide +kernel) ⟨Nat.le_of_ble_eq_true rfl, Nat.le_of_ble_eq_true rfl⟩) ⟨gB_blind mE_ok, va_recv hK hP (ci := 6) (q0 := 0) rfl rfl, gB_pre mE_ok hP hK hD hE hS hA⟩ rfl rfl hl.1 rfl (lv_room (Nat.le_of_ble_eq_true rfl)) dM6_turn_80 ⟨Nat.le_of_ble_eq_true rfl, Nat.le_of_ble_eq_true rfl⟩) hD hS hA (fun u19 H locs h hP hD hS => ?_)
            refine lv_aload_n hx hb dM6_turn_83 rfl (lv_at hl 2 rfl) ?_
            refine gc_i (w := wM ad ca K) (u := u19) (va_runV (As := []) (rest := []) ⟨hx, hb, hml, hown, hts⟩ (cM6_fetch l dC dI ad ca K H.size u19 _ h) (cwV 0 hts (gG_V wd_913 wd_915 wd_37 wd_52 wd_916) rfl rfl rfl (by decide +kernel) ⟨Nat.le_of_ble_eq_true rfl, Nat.le_of_ble_eq_true rfl⟩) ⟨gB_blind mE_ok, va_recv hK hP (ci := 6) (q0 := 0) rfl rfl, gB_pre mE_ok hP hK hD hE hS hA⟩ rfl rfl hl.1 rfl (lv_room (Nat.le_of_ble_eq_true rfl)) dM6_turn_84 ⟨Nat.le_of_ble_eq_true rfl, Nat.le_of_ble_eq_true rfl⟩) hD hS hA (fun r20 u21 H locs h hP hD hS => ?_)
            refine lv_istore (lv' := [(4, .int r20), (2, .int r10), (3, .int x7), (0, .ref (ad 0)), (1, .int p1)]) hx hb dM6_turn_87 hl (by decide) rfl (fun ls hl => ?_)
            refine lv_iload hx hb dM6_turn_89 (lv_at hl 0 rfl) ?_
            refine lv_if_lt (tgt := 100) hx hb dM6_turn_91 (by decide) (fun c22 => ?_) (fun c22 => ?_)
            · have h := h.1 c22
              refine lv_goto (tgt := 108) hx hb dM6_turn_100 (by decide) ?_
              exact gr_v (w := wM ad ca K) (u := u21) hx hb hr hlocks h hP hK hD hS dM6_turn_108
            · have h := h.2 c22
              refine lv_aload_n hx hb dM6_turn_94 rfl (lv_at hl 3 rfl) ?_
              refine lv_iload hx hb dM6_turn_95 (lv_at hl 0 rfl) ?_
              refine gc_v (w := wM ad ca K) (u := u21) (va_runV (As := [.int r20]) (rest := []) ⟨hx, hb, hml, hown, hts⟩ (cM6_newWorker l dC dI ad ca K H.size u21 r20 _ h) (cwV 1 hts (gG_V wd_849 wd_851 wd_23 wd_52 wd_852) rfl rfl rfl (by decide +kernel) ⟨Nat.le_of_ble_eq_true rfl, Nat.le_of_ble_eq_true rfl⟩) ⟨gB_blind mE_ok, va_recv hK hP (ci := 6) (q0 := 0) rfl rfl, gB_pre mE_ok hP hK hD hE hS hA⟩ rfl rfl hl.1 rfl (lv_room (Nat.le_of_ble_eq_true rfl)) dM6_turn_97 ⟨Nat.le_of_ble_eq_true rfl, Nat.le_of_ble_eq_true rfl⟩) hD hS hA (fun u24 H locs h hP hD hS => ?_)
              refine lv_goto (tgt := 108) hx hb dM6_turn_100 (by decide) ?_
              exact gr_v (w := wM ad ca K) (u := u24) hx hb hr hlocks h hP hK hD hS dM6_turn_108
      · have h := h.2 c6
        exact gr_v (w := wM ad ca K) (u := u5) hx hb hr hlocks h hP hK hD hS dM6_turn_39
    · have h := h.2 c4
      exact gr_v (w := wM ad ca K) (u := u2) hx hb hr hlocks h hP hK hD hS dM6_turn_19

theorem dM6_step_0 : decode prog_8_method_30_code 0 = .ok (.aload_n 0, 1) := by decide +kernel
theorem dM6_step_1 : decode prog_8_method_30_code 1 = .ok (.iconst 0, 1) := by decide +kernel
theorem dM6_step_2 : decode prog_8_method_30_code 2 = .ok (.putfield 85, 3) := by decide +kernel
theorem dM6_step_5 : decode prog_8_method_30_code 5 = .ok (.iload_n 1, 1) := by decide +kernel
theorem dM6_step_6 : decode prog_8_method_30_code 6 = .ok (.iconst 1, 1) := by decide +kernel
theorem dM6_step_7 : decode prog_8_method_30_code 7 = .ok (.if_icmp .lt 9, 3) := by decide +kernel
theorem dM6_step_10 : decode prog_8_method_30_code 10 = .ok (.iload_n 1, 1) := by decide +kernel
theorem dM6_step_11 : decode prog_8_method_30_code 11 = .ok (.bipush 10, 2) := by decide +kernel
theorem dM6_step_13 : decode prog_8_method_30_code 13 = .ok (.if_icmp .le 9, 3) := by decide +kernel
theorem dM6_step_16 : decode prog_8_method_30_code 16 = .ok (.aload_n 0, 1) := by decide +kernel
theorem dM6_step_17 : decode prog_8_method_30_code 17 = .ok (.iconst 1, 1) := by decide +kernel
theorem dM6_step_18 : decode prog_8_method_30_code 18 = .ok (.invokevirtual 108, 3) := by decide +kernel
theorem dM6_step_21 : decode prog_8_method_30_code 21 = .ok (.ireturn, 1) := by decide +kernel
theorem dM6_step_22 : decode prog_8_method_30_code 22 = .ok (.aload_n 0, 1) := by decide +kernel
theorem dM6_step_23 : decode prog_8_method_30_code 23 = .ok (.getfield 179, 3) := by decide +kernel
theorem dM6_step_26 : decode prog_8_method_30_code 26 = .ok (.istore_n 2, 1) := by decide +kernel
theorem dM6_step_27 : decode prog_8_method_30_code 27 = .ok (.iconst 0, 1) := by decide +kernel
theorem dM6_step_28 : decode prog_8_method_30_code 28 = .ok (.istore_n 3, 1) := by decide +kernel
theorem dM6_step_29 : decode prog_8_method_30_code 29 = .ok (.iload_n 3, 1) := by decide +kernel
theorem dM6_step_30 : decode prog_8_method_30_code 30 = .ok (.iload_n 1, 1) := by decide +kernel
theorem dM6_step_31 : decode prog_8_method_30_code 31 = .ok (.if_icmp .ge 127, 3) := by decide +kernel
theorem dM6_step_34 : decode prog_8_method_30_code 34 = .ok (.aload_n 0, 1) := by decide +kernel
theorem dM6_step_35 : decode prog_8_method_30_code 35 = .ok (.getfield 118, 3) := by decide +kernel
theorem dM6_step_38 : decode prog_8_method_30_code 38 = .ok (.istore 4, 2) := by decide +kernel
theorem dM6_step_40 : decode prog_8_method_30_code 40 = .ok (.iconst (-1), 1) := by decide +kernel
theorem dM6_step_41 : decode prog_8_method_30_code 41 = .ok (.istore 5, 2) := by decide +kernel
theorem dM6_step_43 : decode prog_8_method_30_code 43 = .ok (.iconst 1, 1) := by decide +kernel
theorem dM6_step_44 : decode prog_8_method_30_code 44 = .ok (.istore 6, 2) := by decide +kernel
theorem dM6_step_46 : decode prog_8_method_30_code 46 = .ok (.iload 6, 2) := by decide +kernel
theorem dM6_step_48 : decode prog_8_method_30_code 48 = .ok (.ifCond .eq 104, 3) := by decide +kernel
theorem dM6_step_51 : decode prog_8_method_30_code 51 = .ok (.iconst (-1), 1) := by decide +kernel
theorem dM6_step_52 : decode prog_8_method_30_code 52 = .ok (.istore 7, 2) := by decide +kernel
theorem dM6_step_54 : decode prog_8_method_30_code 54 = .ok (.iconst 0, 1) := by decide +kernel
theorem dM6_step_55 : decode prog_8_method_30_code 55 = .ok (.istore 8, 2) := by decide +kernel
theorem dM6_step_57 : decode prog_8_method_30_code 57 = .ok (.iload 8, 2) := by decide +kernel
theorem dM6_step_59 : decode prog_8_method_30_code 59 = .ok (.aload_n 0, 1) := by decide +kernel
theorem dM6_step_60 : decode prog_8_method_30_code 60 = .ok (.getfield 98, 3) := by decide +kernel
theorem dM6_step_63 : decode prog_8_method_30_code 63 = .ok (.if_icmp .ge 59, 3) := by decide +kernel
theorem dM6_step_66 : decode prog_8_method_30_code 66 = .ok (.aload_n 0, 1) := by decide +kernel
theorem dM6_step_67 : decode prog_8_method_30_code 67 = .ok (.getfield 34, 3) := by decide +kernel
theorem dM6_step_70 : decode prog_8_method_30_code 70 = .ok (.iload 8, 2) := by decide +kernel
theorem dM6_step_72 : decode prog_8_method_30_code 72 = .ok (.iaload, 1) := by decide +kernel
theorem dM6_step_73 : decode prog_8_method_30_code 73 = .ok (.iload 5, 2) := by decide +kernel
theorem dM6_step_75 : decode prog_8_method_30_code 75 = .ok (.if_icmp .le 41, 3) := by decide +kernel
theorem dM6_step_78 : decode prog_8_method_30_code 78 = .ok (.aload_n 0, 1) := by decide +kernel
theorem dM6_step_79 : decode prog_8_method_30_code 79 = .ok (.getfield 34, 3) := by decide +kernel
theorem dM6_step_82 : decode prog_8_method_30_code 82 = .ok (.iload 8, 2) := by decide +kernel
theorem dM6_step_84 : decode prog_8_method_30_code 84 = .ok (.iaload, 1) := by decide +kernel
theorem dM6_step_85 : decode prog_8_method_30_code 85 = .ok (.iload 4, 2) := by decide +kernel
theorem dM6_step_87 : decode prog_8_method_30_code 87 = .ok (.if_icmp .ge 29, 3) := by decide +kernel
theorem dM6_step_90 : decode prog_8_method_30_code 90 = .ok (.iload 7, 2) := by decide +kernel
theorem dM6_step_92 : decode prog_8_method_30_code 92 = .ok (.ifCond .lt 15, 3) := by decide +kernel
theorem dM6_step_95 : decode prog_8_method_30_code 95 = .ok (.aload_n 0, 1) := by decide +kernel
theorem dM6_step_96 : decode prog_8_method_30_code 96 = .ok (.getfield 34, 3) := by decide +kernel
theorem dM6_step_99 : decode prog_8_method_30_code 99 = .ok (.iload 8, 2) := by decide +kernel
theorem dM6_step_101 : decode prog_8_method_30_code 101 = .ok (.iaload, 1) := by decide +kernel
theorem dM6_step_102 : decode prog_8_method_30_code 102 = .ok (.iload 7, 2) := by decide +kernel
theorem dM6_step_104 : decode prog_8_method_30_code 104 = .ok (.if_icmp .ge 12, 3) := by decide +kernel
theorem dM6_step_107 : decode prog_8_method_30_code 107 = .ok (.aload_n 0, 1) := by decide +kernel
theorem dM6_step_108 : decode prog_8_method_30_code 108 = .ok (.getfield 34, 3) := by decide +kernel
theorem dM6_step_111 : decode prog_8_method_30_code 111 = .ok (.iload 8, 2) := by decide +kernel
theorem dM6_step_113 : decode prog_8_method_30_code 113 = .ok (.iaload, 1) := by decide +kernel
theorem dM6_step_114 : decode prog_8_method_30_code 114 = .ok (.istore 7, 2) := by decide +kernel
theorem dM6_step_116 : decode prog_8_method_30_code 116 = .ok (.iinc 8 1, 3) := by decide +kernel
theorem dM6_step_119 : decode prog_8_method_30_code 119 = .ok (.goto (-62), 3) := by decide +kernel
theorem dM6_step_122 : decode prog_8_method_30_code 122 = .ok (.iload 7, 2) := by decide +kernel
theorem dM6_step_124 : decode prog_8_method_30_code 124 = .ok (.ifCond .lt 7, 3) := by decide +kernel
theorem dM6_step_127 : decode prog_8_method_30_code 127 = .ok (.iconst 1, 1) := by decide +kernel
theorem dM6_step_128 : decode prog_8_method_30_code 128 = .ok (.goto 4, 3) := by decide +kernel
theorem dM6_step_131 : decode prog_8_method_30_code 131 = .ok (.iconst 0, 1) := by decide +kernel
theorem dM6_step_132 : decode prog_8_method_30_code 132 = .ok (.istore 6, 2) := by decide +kernel
theorem dM6_step_134 : decode prog_8_method_30_code 134 = .ok (.iload 6, 2) := by decide +kernel
theorem dM6_step_136 : decode prog_8_method_30_code 136 = .ok (.ifCond .eq 9, 3) := by decide +kernel
theorem dM6_step_139 : decode prog_8_method_30_code 139 = .ok (.aload_n 0, 1) := by decide +kernel
theorem dM6_step_140 : decode prog_8_method_30_code 140 = .ok (.iload 7, 2) := by decide +kernel
theorem dM6_step_142 : decode prog_8_method_30_code 142 = .ok (.invokevirtual 197, 3) := by decide +kernel
theorem dM6_step_145 : decode prog_8_method_30_code 145 = .ok (.iload 7, 2) := by decide +kernel
theorem dM6_step_147 : decode prog_8_method_30_code 147 = .ok (.istore 5, 2) := by decide +kernel
theorem dM6_step_149 : decode prog_8_method_30_code 149 = .ok (.goto (-103), 3) := by decide +kernel
theorem dM6_step_152 : decode prog_8_method_30_code 152 = .ok (.iinc 3 1, 3) := by decide +kernel
theorem dM6_step_155 : decode prog_8_method_30_code 155 = .ok (.goto (-126), 3) := by decide +kernel
theorem dM6_step_158 : decode prog_8_method_30_code 158 = .ok (.aload_n 0, 1) := by decide +kernel
theorem dM6_step_159 : decode prog_8_method_30_code 159 = .ok (.aload_n 0, 1) := by decide +kernel
theorem dM6_step_160 : decode prog_8_method_30_code 160 = .ok (.getfield 179, 3) := by decide +kernel
theorem dM6_step_163 : decode prog_8_method_30_code 163 = .ok (.iload_n 2, 1) := by decide +kernel
theorem dM6_step_164 : decode prog_8_method_30_code 164 = .ok (.isub, 1) := by decide +kernel
theorem dM6_step_165 : decode prog_8_method_30_code 165 = .ok (.invokevirtual 115, 3) := by decide +kernel
theorem dM6_step_168 : decode prog_8_method_30_code 168 = .ok (.ireturn, 1) := by decide +kernel
def wpM6_step_57 (K : KM) (post : Int32 → gS → Prop) (k29 : Int32 → Int32 → Int32 → gS → Prop) (k46 : Int32 → Int32 → Int32 → Int32 → Int32 → Int32 → gS → Prop) : Nat → Int32 → Int32 → Int32 → Int32 → Int32 → Int32 → Int32 → Int32 → gS → Prop
  | 0 => fun _ _ _ _ _ _ _ _ _ => False
  | n + 1 => fun l1 l2 l3 l4 l5 l6 l7 l8 u => (((sI u 3) ≤ l8 → (((l7 < 0 → (k46 l1 l2 l3 l4 l7 0 u)) ∧ (¬ l7 < 0 → (wpM6_turn K (fun (u18 : gS) => k46 l1 l2 l3 l4 l7 1 u18) u l7))))) ∧ (¬ (sI u 3) ≤ l8 → (vp_in l8 8 ∧ ((((sA u 8 l8.toNatClampNeg) ≤ l5 → (∀ x20 : Int32, x20 = l8 + 1 → (wpM6_step_57 K post k29 k46 n l1 l2 l3 l4 l5 l6 l7 x20 u))) ∧ (¬ (sA u 8 l8.toNatClampNeg) ≤ l5 → (vp_in l8 8 ∧ (((l4 ≤ (sA u 8 l8.toNatClampNeg) → (∀ x22 : Int32, x22 = l8 + 1 → (wpM6_step_57 K post k29 k46 n l1 l2 l3 l4 l5 l6 l7 x22 u))) ∧ (¬ l4 ≤ (sA u 8 l8.toNatClampNeg) → (((l7 < 0 → (vp_in l8 8 ∧ (∀ x24 : Int32, x24 = sA u 8 l8.toNatClampNeg → (∀ x25 : Int32, x25 = l8 + 1 → (wpM6_step_57 K post k29 k46 n l1 l2 l3 l4 l5 l6 x24 x25 u))))) ∧ (¬ l7 < 0 → (vp_in l8 8 ∧ (((l7 ≤ (sA u 8 l8.toNatClampNeg) → (∀ x27 : Int32, x27 = l8 + 1 → (wpM6_step_57 K post k29 k46 n l1 l2 l3 l4 l5 l6 l7 x27 u))) ∧ (¬ l7 ≤ (sA u 8 l8.toNatClampNeg) → (vp_in l8 8 ∧ (∀ x28 : Int32, x28 = sA u 8 l8.toNatClampNeg → (∀ x29 : Int32, x29 = l8 + 1 → (wpM6_step_57 K post k29 k46 n l1 l2 l3 l4 l5 l6 x28 x29 u)))))))))))))))))))))

def wpM6_step_46 (K : KM) (post : Int32 → gS → Prop) (k29 : Int32 → Int32 → Int32 → gS → Prop) : Nat → Int32 → Int32 → Int32 → Int32 → Int32 → Int32 → gS → Prop
  | 0 => fun _ _ _ _ _ _ _ => False
  | n + 1 => fun l1 l2 l3 l4 l5 l6 u => ((l6 = 0 → (∀ x12 : Int32, x12 = l3 + 1 → (k29 l1 l2 x12 u))) ∧ (¬ l6 = 0 → (∃ n57 : Nat, wpM6_step_57 K post k29 (fun l1 l2 l3 l4 l5 l6 u => wpM6_step_46 K post k29 n l1 l2 l3 l4 l5 l6 u) n57 l1 l2 l3 l4 l5 l6 (-1) 0 u)))

def wpM6_step_29 (K : KM) (post : Int32 → gS → Prop) : Nat → Int32 → Int32 → Int32 → gS → Prop
  | 0 => fun _ _ _ _ => False
  | n + 1 => fun l1 l2 l3 u => ((l1 ≤ l3 → (wpM6_end K (fun (r8 : Int32) (u9 : gS) => post r8 u9) u ((sI u 8) - l2))) ∧ (¬ l1 ≤ l3 → (∀ x10 : Int32, x10 = sI u 4 → (∃ n46 : Nat, wpM6_step_46 K post (fun l1 l2 l3 u => wpM6_step_29 K post n l1 l2 l3 u) n46 l1 l2 l3 x10 (-1) 1 u))))

def wpM6_step (K : KM) (post : Int32 → gS → Prop) (u : gS) (p1 : Int32) : Prop :=
  ∀ u1 : gS, u1 = tI u 0 0 → (((p1 < 1 → (wpM6_fail K (fun (r3 : Int32) (u4 : gS) => post r3 u4) u1 1)) ∧ (¬ p1 < 1 → (((p1 ≤ 10 → (∀ x6 : Int32, x6 = sI u1 8 → (∃ n29 : Nat, wpM6_step_29 K post n29 p1 x6 0 u1))) ∧ (¬ p1 ≤ 10 → (wpM6_fail K (fun (r30 : Int32) (u31 : gS) => post r30 u31) u1 1)))))))

set_option maxHeartbeats 8000000 in
set_option maxRecDepth 100000 in
theorem wpM6_step_57_ok {p : Program} {l : Launch} {e : Env} {s : State} {m : MethodId} {args : Array Value} {below : List Frame} {meth : Method} {c : Code} {dC : Nat → ClassId} {dI : Nat → Nat → Nat} {ad : Nat → Nat} {ca : Nat → ClassId} {K : KM} {A : Nat → Prop} {post : Int32 → gS → Prop}   (hx : p.tables.exec = Jvm.exec) (hb : c.code = prog_8_method_30_code) (hr : meth.sig.returnType = (some .int)) (hml : c.maxLocals = 9) (hown : s.vm.findClass RX6 = some m.cls) (hts : ∀ w ∈ gW, w.before args s = true) (hlocks : meth.locks = false) (hK : va_K (dC, dI) vwCl (mT ca) s) (hA : ∀ q, s.heap.size ≤ q → A q) (hE : mE A s s.heap) (k29 : Int32 → Int32 → Int32 → gS → Prop) (k46 : Int32 → Int32 → Int32 → Int32 → Int32 → Int32 → gS → Prop) (hk29 : ∀ (l1 : Int32) (l2 : Int32) (l3 : Int32) (u : gS) (H : Heap) (locs : List Loc) (ls : Array Slot), k29 l1 l2 l3 u → va_P (dC, dI) vwCl (wM ad ca K u) H → va_D A (wM ad ca K u) → va_S A s.heap H locs → lv_has ls 9 [(0, .ref (ad 0)), (1, .int l1), (2, .int l2), (3, .int l3)] → W p l e (headSpec (gw ⟨"WorkHallModel", "step", "(I)I"⟩ prog_8_method_30_code 9 (some .int)) ({ frames := 8, cells := 0, slots := 0, locals := 320 } : Room)).room s m args below meth c H locs 0 0 (MQ below (va_Qi post (gAt (dC, dI) vwCl (mT ca) (wM ad ca K) (A)) (A)) args s 0 0 A) (F0 m 29 ls [])) (hk46 : ∀ (l1 : Int32) (l2 : Int32) (l3 : Int32) (l4 : Int32) (l5 : Int32) (l6 : Int32) (u : gS) (H : Heap) (locs : List Loc) (ls : Array Slot), k46 l1 l2 l3 l4 l5 l6 u → va_P (dC, dI) vwCl (wM ad ca K u) H → va_D A (wM ad ca K u) → va_S A s.heap H locs → lv_has ls 9 [(0, .ref (ad 0)), (1, .int l1), (2, .int l2), (3, .int l3), (4, .int l4), (5, .int l5), (6, .int l6)] → W p l e (headSpec (gw ⟨"WorkHallModel", "step", "(I)I"⟩ prog_8_method_30_code 9 (some .int)) ({ frames := 8, cells := 0, slots := 0, locals := 320 } : Room)).room s m args below meth c H locs 0 0 (MQ below (va_Qi post (gAt (dC, dI) vwCl (mT ca) (wM ad ca K) (A)) (A)) args s 0 0 A) (F0 m 46 ls [])) :
    ∀ (n : Nat) (l1 : Int32) (l2 : Int32) (l3 : Int32) (l4 : Int32) (l5 : Int32) (l6 : Int32) (l7 : Int32) (l8 : Int32) (u : gS) (H : Heap) (locs : List Loc) (ls : Array Slot), wpM6_step_57 K post k29 k46 n l1 l2 l3 l4 l5 l6 l7 l8 u → va_P (dC, dI) vwCl (wM ad ca K u) H → va_D A (wM ad ca K u) → va_S A s.heap H locs → lv_has ls 9 [(0, .ref (ad 0)), (1, .int l1), (2, .int l2), (3, .int l3), (4, .int l4), (5, .int l5), (6, .int l6), (7, .int l7), (8, .int l8)] → W p l e (headSpec (gw ⟨"WorkHallModel", "step", "(I)I"⟩ prog_8_method_30_code 9 (some .int)) ({ frames := 8, cells := 0, slots := 0, locals := 320 } : Room)).room s m args below meth c H locs 0 0 (MQ below (va_Qi post (gAt (dC, dI) vwCl (mT ca) (wM ad ca K) (A)) (A)) args s 0 0 A) (F0 m 57 ls []) := by
  intro n
  induction n with
  | zero => exact fun _ _ _ _ _ _ _ _ _ _ _ _ h => h.elim
  | succ n ih =>
    intro l1 l2 l3 l4 l5 l6 l7 l8 u H locs ls h hP hD hS hl
    refine lv_iload hx hb dM6_step_57 (lv_at hl 8 rfl) ?_
    refine lv_aload_n hx hb dM6_step_59 rfl (lv_at hl 0 rfl) ?_
    refine va_get (D := (dC, dI)) (ci := 6) (v := .int (sI u 3)) (C := RX6) (T := TX6) (N := 36) hx hb hts uwX6 hown hK hP 0 rfl rfl 19 (by decide) (hts _ wd_722) (fun _ h9 => h9) rfl dM6_step_60 ?_
    refine lv_icmp_ge (tgt := 122) hx hb dM6_step_63 (by decide) (fun c13 => ?_) (fun c13 => ?_)
    · have h := h.1 c13
      refine lv_iload hx hb dM6_step_122 (lv_at hl 7 rfl) ?_
      refine lv_if_lt (tgt := 131) hx hb dM6_step_124 (by decide) (fun c14 => ?_) (fun c14 => ?_)
      · have h := h.1 c14
        refine lv_iconst (v := 0) hx hb dM6_step_131 (by decide) ?_
        refine lv_istore (lv' := [(6, .int 0), (0, .ref (ad 0)), (1, .int l1), (2, .int l2), (3, .int l3), (4, .int l4), (5, .int l5), (7, .int l7), (8, .int l8)]) hx hb dM6_step_132 hl (by decide) rfl (fun ls hl => ?_)
        refine lv_iload hx hb dM6_step_134 (lv_at hl 0 rfl) ?_
        refine lv_if_eq (tgt := 145) hx hb dM6_step_136 (by decide) (fun c9 => ?_) (fun c9 => (absurd c9 (by decide)))
        refine lv_iload hx hb dM6_step_145 (lv_at hl 7 rfl) ?_
        refine lv_istore (lv' := [(5, .int l7), (6, .int 0), (0, .ref (ad 0)), (1, .int l1), (2, .int l2), (3, .int l3), (4, .int l4), (7, .int l7), (8, .int l8)]) hx hb dM6_step_147 hl (by decide) rfl (fun ls hl => ?_)
        refine lv_goto (tgt := 46) hx hb dM6_step_149 (by decide) ?_
        exact hk46 l1 l2 l3 l4 l7 0 u _ _ _ h hP hD hS (lv_sub hl [2, 3, 4, 5, 6, 0, 1] rfl)
      · have h := h.2 c14
        refine lv_iconst (v := 1) hx hb dM6_step_127 (by decide) ?_
        refine lv_goto (tgt := 132) hx hb dM6_step_128 (by decide) ?_
        refine lv_istore (lv' := [(6, .int 1), (0, .ref (ad 0)), (1, .int l1), (2, .int l2), (3, .int l3), (4, .int l4), (5, .int l5), (7, .int l7), (8, .int l8)]) hx hb dM6_step_132 hl (by decide) rfl (fun ls hl => ?_)
        refine lv_iload hx hb dM6_step_134 (lv_at hl 0 rfl) ?_
        refine lv_if_eq (tgt := 145) hx hb dM6_step_136 (by decide) (fun c9 => (absurd c9 (by decide))) (fun c9 => ?_)
        refine lv_aload_n hx hb dM6_step_139 rfl (lv_at hl 1 rfl) ?_
        refine lv_iload hx hb dM6_step_140 (lv_at hl 7 rfl) ?_
        refine gc_v (w := wM ad ca K) (u := u) (va_runV (As := [.int l7]) (rest := []) ⟨hx, hb, hml, hown, hts⟩ (cM6_turn l dC dI ad ca K H.size u l7 _ h) (cwV 1 hts (gG_V wd_901 wd_903 wd_34 wd_52 wd_904) rfl rfl rfl (by decide +kernel) ⟨Nat.le_of_ble_eq_true rfl, Nat.le_of_ble_eq_true rfl⟩) ⟨gB_blind mE_ok, va_recv hK hP (ci := 6) (q0 := 0) rfl rfl, gB_pre mE_ok hP hK hD hE hS hA⟩ rfl rfl hl.1 rfl (lv_room (Nat.le_of_ble_eq_true rfl)) dM6_step_142 ⟨Nat.le_of_ble_eq_true rfl, Nat.le_of_ble_eq_true rfl⟩) hD hS hA (fun u18 H locs h hP hD hS => ?_)
        refine lv_iload hx hb dM6_step_145 (lv_at hl 7 rfl) ?_
        refine lv_istore (lv' := [(5, .int l7), (6, .int 1), (0, .ref (ad 0)), (1, .int l1), (2, .int l2), (3, .int l3), (4, .int l4), (7, .int l7), (8, .int l8)]) hx hb dM6_step_147 hl (by decide) rfl (fun ls hl => ?_)
        refine lv_goto (tgt := 46) hx hb dM6_step_149 (by decide) ?_
        exact hk46 l1 l2 l3 l4 l7 1 u18 _ _ _ h hP hD hS (lv_sub hl [2, 3, 4, 5, 6, 0, 1] rfl)
    · have h := h.2 c13
      refine lv_aload_n hx hb dM6_step_66 rfl (lv_at hl 0 rfl) ?_
      refine va_get (D := (dC, dI)) (ci := 6) (v := .ref (ad 9)) (C := RX6) (T := TX6) (N := 36) hx hb hts uwX6 hown hK hP 0 rfl rfl 15 (by decide) (hts _ wd_718) (fun _ h9 => h9) rfl dM6_step_67 ?_
      refine lv_iload hx hb dM6_step_70 (lv_at hl 8 rfl) ?_
      refine va_iald hx hb hK hP 9 0 rfl rfl h.1 dM6_step_72 ?_
      have h := h.2
      refine lv_iload hx hb dM6_step_73 (lv_at hl 5 rfl) ?_
      refine lv_icmp_le (tgt := 116) hx hb dM6_step_75 (by decide) (fun c19 => ?_) (fun c19 => ?_)
      · have h := h.1 c19
        obtain ⟨x20, ex20⟩ : ∃ y : Int32, y = l8 + 1 := ⟨_, rfl⟩
        have h := h x20 ex20
        refine lv_iinc (v := x20) (lv' := [(8, .int x20), (0, .ref (ad 0)), (1, .int l1), (2, .int l2), (3, .int l3), (4, .int l4), (5, .int l5), (6, .int l6), (7, .int l7)]) hx hb dM6_step_116 hl (k := 8) rfl (by rw [ex20]; rfl) (by decide) rfl (fun ls hl => ?_)
        refine lv_goto (tgt := 57) hx hb dM6_step_119 (by decide) ?_
        exact ih l1 l2 l3 l4 l5 l6 l7 x20 u _ _ _ h hP hD hS (lv_sub hl [1, 2, 3, 4, 5, 6, 7, 8, 0] rfl)
      · have h := h.2 c19
        refine lv_aload_n hx hb dM6_step_78 rfl (lv_at hl 0 rfl) ?_
        refine va_get (D := (dC, dI)) (ci := 6) (v := .ref (ad 9)) (C := RX6) (T := TX6) (N := 36) hx hb hts uwX6 hown hK hP 0 rfl rfl 15 (by decide) (hts _ wd_718) (fun _ h9 => h9) rfl dM6_step_79 ?_
        refine lv_iload hx hb dM6_step_82 (lv_at hl 8 rfl) ?_
        refine va_iald hx hb hK hP 9 0 rfl rfl h.1 dM6_step_84 ?_
        have h := h.2
        refine lv_iload hx hb dM6_step_85 (lv_at hl 4 rfl) ?_
        refine lv_icmp_ge (tgt := 116) hx hb dM6_step_87 (by decide) (fun c21 => ?_) (fun c21 => ?_)
        · have h := h.1 c21
          obtain ⟨x22, ex22⟩ : ∃ y : Int32, y = l8 + 1 := ⟨_, rfl⟩
          have h := h x22 ex22
          refine lv_iinc (v := x22) (lv' := [(8, .int x22), (0, .ref (ad 0)), (1, .int l1), (2, .int l2), (3, .int l3), (4, .int l4), (5, .int l5), (6, .int l6), (7, .int l7)]) hx hb dM6_step_116 hl (k := 8) rfl (by rw [ex22]; rfl) (by decide) rfl (fun ls hl => ?_)
          refine lv_goto (tgt := 57) hx hb dM6_step_119 (by decide) ?_
          exact ih l1 l2 l3 l4 l5 l6 l7 x22 u _ _ _ h hP hD hS (lv_sub hl [1, 2, 3, 4, 5, 6, 7, 8, 0] rfl)
        · have h := h.2 c21
          refine lv_iload hx hb dM6_step_90 (lv_at hl 7 rfl) ?_
          refine lv_if_lt (tgt := 107) hx hb dM6_step_92 (by decide) (fun c23 => ?_) (fun c23 => ?_)
          · have h := h.1 c23
            refine lv_aload_n hx hb dM6_step_107 rfl (lv_at hl 0 rfl) ?_
            refine va_get (D := (dC, dI)) (ci := 6) (v := .ref (ad 9)) (C := RX6) (T := TX6) (N := 36) hx hb hts uwX6 hown hK hP 0 rfl rfl 15 (by decide) (hts _ wd_718) (fun _ h9 => h9) rfl dM6_step_108 ?_
            refine lv_iload hx hb dM6_step_111 (lv_at hl 8 rfl) ?_
            refine va_iald hx hb hK hP 9 0 rfl rfl h.1 dM6_step_113 ?_
            have h := h.2
            refine lv_topi (fun x24 ex24 => ?_)
            have h := h x24 ex24
            refine lv_istore (lv' := [(7, .int x24), (0, .ref (ad 0)), (1, .int l1), (2, .int l2), (3, .int l3), (4, .int l4), (5, .int l5), (6, .int l6), (8, .int l8)]) hx hb dM6_step_114 hl (by decide) rfl (fun ls hl => ?_)
            obtain ⟨x25, ex25⟩ : ∃ y : Int32, y = l8 + 1 := ⟨_, rfl⟩
            have h := h x25 ex25
            refine lv_iinc (v := x25) (lv' := [(8, .int x25), (7, .int x24), (0, .ref (ad 0)), (1, .int l1), (2, .int l2), (3, .int l3), (4, .int l4), (5, .int l5), (6, .int l6)]) hx hb dM6_step_116 hl (k := 8) rfl (by rw [ex25]; rfl) (by decide) rfl (fun ls hl => ?_)
            refine lv_goto (tgt := 57) hx hb dM6_step_119 (by decide) ?_
            exact ih l1 l2 l3 l4 l5 l6 x24 x25 u _ _ _ h hP hD hS (lv_sub hl [2, 3, 4, 5, 6, 7, 8, 1, 0] rfl)
          · have h := h.2 c23
            refine lv_aload_n hx hb dM6_step_95 rfl (lv_at hl 0 rfl) ?_
            refine va_get (D := (dC, dI)) (ci := 6) (v := .ref (ad 9)) (C := RX6) (T := TX6) (N := 36) hx hb hts uwX6 hown hK hP 0 rfl rfl 15 (by decide) (hts _ wd_718) (fun _ h9 => h9) rfl dM6_step_96 ?_
            refine lv_iload hx hb dM6_step_99 (lv_at hl 8 rfl) ?_
            refine va_iald hx hb hK hP 9 0 rfl rfl h.1 dM6_step_101 ?_
            have h := h.2
            refine lv_iload hx hb dM6_step_102 (lv_at hl 7 rfl) ?_
            refine lv_icmp_ge (tgt := 116) hx hb dM6_step_104 (by decide) (fun c26 => ?_) (fun c26 => ?_)
            · have h := h.1 c26
              obtain ⟨x27, ex27⟩ : ∃ y : Int32, y = l8 + 1 := ⟨_, rfl⟩
              have h := h x27 ex27
              refine lv_iinc (v := x27) (lv' := [(8, .int x27), (0, .ref (ad 0)), (1, .int l1), (2, .int l2), (3, .int l3), (4, .int l4), (5, .int l5), (6, .int l6), (7, .int l7)]) hx hb dM6_step_116 hl (k := 8) rfl (by rw [ex27]; rfl) (by decide) rfl (fun ls hl => ?_)
              refine lv_goto (tgt := 57) hx hb dM6_step_119 (by decide) ?_
              exact ih l1 l2 l3 l4 l5 l6 l7 x27 u _ _ _ h hP hD hS (lv_sub hl [1, 2, 3, 4, 5, 6, 7, 8, 0] rfl)
            · have h := h.2 c26
              refine lv_aload_n hx hb dM6_step_107 rfl (lv_at hl 0 rfl) ?_
              refine va_get (D := (dC, dI)) (ci := 6) (v := .ref (ad 9)) (C := RX6) (T := TX6) (N := 36) hx hb hts uwX6 hown hK hP 0 rfl rfl 15 (by decide) (hts _ wd_718) (fun _ h9 => h9) rfl dM6_step_108 ?_
              refine lv_iload hx hb dM6_step_111 (lv_at hl 8 rfl) ?_
              refine va_iald hx hb hK hP 9 0 rfl rfl h.1 dM6_step_113 ?_
              have h := h.2
              refine lv_topi (fun x28 ex28 => ?_)
              have h := h x28 ex28
              refine lv_istore (lv' := [(7, .int x28), (0, .ref (ad 0)), (1, .int l1), (2, .int l2), (3, .int l3), (4, .int l4), (5, .int l5), (6, .int l6), (8, .int l8)]) hx hb dM6_step_114 hl (by decide) rfl (fun ls hl => ?_)
              obtain ⟨x29, ex29⟩ : ∃ y : Int32, y = l8 + 1 := ⟨_, rfl⟩
              have h := h x29 ex29
              refine lv_iinc (v := x29) (lv' := [(8, .int x29), (7, .int x28), (0, .ref (ad 0)), (1, .int l1), (2, .int l2), (3, .int l3), (4, .int l4), (5, .int l5), (6, .int l6)]) hx hb dM6_step_116 hl (k := 8) rfl (by rw [ex29]; rfl) (by decide) rfl (fun ls hl => ?_)
              refine lv_goto (tgt := 57) hx hb dM6_step_119 (by decide) ?_
              exact ih l1 l2 l3 l4 l5 l6 x28 x29 u _ _ _ h hP hD hS (lv_sub hl [2, 3, 4, 5, 6, 7, 8, 1, 0] rfl)

set_option maxHeartbeats 8000000 in
set_option maxRecDepth 100000 in
theorem wpM6_step_46_ok {p : Program} {l : Launch} {e : Env} {s : State} {m : MethodId} {args : Array Value} {below : List Frame} {meth : Method} {c : Code} {dC : Nat → ClassId} {dI : Nat → Nat → Nat} {ad : Nat → Nat} {ca : Nat → ClassId} {K : KM} {A : Nat → Prop} {post : Int32 → gS → Prop}   (hx : p.tables.exec = Jvm.exec) (hb : c.code = prog_8_method_30_code) (hr : meth.sig.returnType = (some .int)) (hml : c.maxLocals = 9) (hown : s.vm.findClass RX6 = some m.cls) (hts : ∀ w ∈ gW, w.before args s = true) (hlocks : meth.locks = false) (hK : va_K (dC, dI) vwCl (mT ca) s) (hA : ∀ q, s.heap.size ≤ q → A q) (hE : mE A s s.heap) (k29 : Int32 → Int32 → Int32 → gS → Prop) (hk29 : ∀ (l1 : Int32) (l2 : Int32) (l3 : Int32) (u : gS) (H : Heap) (locs : List Loc) (ls : Array Slot), k29 l1 l2 l3 u → va_P (dC, dI) vwCl (wM ad ca K u) H → va_D A (wM ad ca K u) → va_S A s.heap H locs → lv_has ls 9 [(0, .ref (ad 0)), (1, .int l1), (2, .int l2), (3, .int l3)] → W p l e (headSpec (gw ⟨"WorkHallModel", "step", "(I)I"⟩ prog_8_method_30_code 9 (some .int)) ({ frames := 8, cells := 0, slots := 0, locals := 320 } : Room)).room s m args below meth c H locs 0 0 (MQ below (va_Qi post (gAt (dC, dI) vwCl (mT ca) (wM ad ca K) (A)) (A)) args s 0 0 A) (F0 m 29 ls [])) :
    ∀ (n : Nat) (l1 : Int32) (l2 : Int32) (l3 : Int32) (l4 : Int32) (l5 : Int32) (l6 : Int32) (u : gS) (H : Heap) (locs : List Loc) (ls : Array Slot), wpM6_step_46 K post k29 n l1 l2 l3 l4 l5 l6 u → va_P (dC, dI) vwCl (wM ad ca K u) H → va_D A (wM ad ca K u) → va_S A s.heap H locs → lv_has ls 9 [(0, .ref (ad 0)), (1, .int l1), (2, .int l2), (3, .int l3), (4, .int l4), (5, .int l5), (6, .int l6)] → W p l e (headSpec (gw ⟨"WorkHallModel", "step", "(I)I"⟩ prog_8_method_30_code 9 (some .int)) ({ frames := 8, cells := 0, slots := 0, locals := 320 } : Room)).room s m args below meth c H locs 0 0 (MQ below (va_Qi post (gAt (dC, dI) vwCl (mT ca) (wM ad ca K) (A)) (A)) args s 0 0 A) (F0 m 46 ls []) := by
  intro n
  induction n with
  | zero => exact fun _ _ _ _ _ _ _ _ _ _ h => h.elim
  | succ n ih =>
    intro l1 l2 l3 l4 l5 l6 u H locs ls h hP hD hS hl
    refine lv_iload hx hb dM6_step_46 (lv_at hl 6 rfl) ?_
    refine lv_if_eq (tgt := 152) hx hb dM6_step_48 (by decide) (fun c11 => ?_) (fun c11 => ?_)
    · have h := h.1 c11
      obtain ⟨x12, ex12⟩ : ∃ y : Int32, y = l3 + 1 := ⟨_, rfl⟩
      have h := h x12 ex12
      refine lv_iinc (v := x12) (lv' := [(3, .int x12), (0, .ref (ad 0)), (1, .int l1), (2, .int l2), (4, .int l4), (5, .int l5), (6, .int l6)]) hx hb dM6_step_152 hl (k := 3) rfl (by rw [ex12]; rfl) (by decide) rfl (fun ls hl => ?_)
      refine lv_goto (tgt := 29) hx hb dM6_step_155 (by decide) ?_
      exact hk29 l1 l2 x12 u _ _ _ h hP hD hS (lv_sub hl [1, 2, 3, 0] rfl)
    · have h := h.2 c11
      refine lv_iconst (v := (-1)) hx hb dM6_step_51 (by decide) ?_
      refine lv_istore (lv' := [(7, .int (-1)), (0, .ref (ad 0)), (1, .int l1), (2, .int l2), (3, .int l3), (4, .int l4), (5, .int l5), (6, .int l6)]) hx hb dM6_step_52 hl (by decide) rfl (fun ls hl => ?_)
      refine lv_iconst (v := 0) hx hb dM6_step_54 (by decide) ?_
      refine lv_istore (lv' := [(8, .int 0), (7, .int (-1)), (0, .ref (ad 0)), (1, .int l1), (2, .int l2), (3, .int l3), (4, .int l4), (5, .int l5), (6, .int l6)]) hx hb dM6_step_55 hl (by decide) rfl (fun ls hl => ?_)
      obtain ⟨n57, h⟩ := h
      exact wpM6_step_57_ok hx hb hr hml hown hts hlocks hK hA hE _ _ hk29 ih n57 l1 l2 l3 l4 l5 l6 (-1) 0 u _ _ _ h hP hD hS (lv_sub hl [2, 3, 4, 5, 6, 7, 8, 1, 0] rfl)

set_option maxHeartbeats 8000000 in
set_option maxRecDepth 100000 in
theorem wpM6_step_29_ok {p : Program} {l : Launch} {e : Env} {s : State} {m : MethodId} {args : Array Value} {below : List Frame} {meth : Method} {c : Code} {dC : Nat → ClassId} {dI : Nat → Nat → Nat} {ad : Nat → Nat} {ca : Nat → ClassId} {K : KM} {A : Nat → Prop} {post : Int32 → gS → Prop}   (hx : p.tables.exec = Jvm.exec) (hb : c.code = prog_8_method_30_code) (hr : meth.sig.returnType = (some .int)) (hml : c.maxLocals = 9) (hown : s.vm.findClass RX6 = some m.cls) (hts : ∀ w ∈ gW, w.before args s = true) (hlocks : meth.locks = false) (hK : va_K (dC, dI) vwCl (mT ca) s) (hA : ∀ q, s.heap.size ≤ q → A q) (hE : mE A s s.heap) :
    ∀ (n : Nat) (l1 : Int32) (l2 : Int32) (l3 : Int32) (u : gS) (H : Heap) (locs : List Loc) (ls : Array Slot), wpM6_step_29 K post n l1 l2 l3 u → va_P (dC, dI) vwCl (wM ad ca K u) H → va_D A (wM ad ca K u) → va_S A s.heap H locs → lv_has ls 9 [(0, .ref (ad 0)), (1, .int l1), (2, .int l2), (3, .int l3)] → W p l e (headSpec (gw ⟨"WorkHallModel", "step", "(I)I"⟩ prog_8_method_30_code 9 (some .int)) ({ frames := 8, cells := 0, slots := 0, locals := 320 } : Room)).room s m args below meth c H locs 0 0 (MQ below (va_Qi post (gAt (dC, dI) vwCl (mT ca) (wM ad ca K) (A)) (A)) args s 0 0 A) (F0 m 29 ls []) := by
  intro n
  induction n with
  | zero => exact fun _ _ _ _ _ _ _ h => h.elim
  | succ n ih =>
    intro l1 l2 l3 u H locs ls h hP hD hS hl
    refine lv_iload_n hx hb dM6_step_29 rfl (lv_at hl 3 rfl) ?_
    refine lv_iload_n hx hb dM6_step_30 rfl (lv_at hl 1 rfl) ?_
    refine lv_icmp_ge (tgt := 158) hx hb dM6_step_31 (by decide) (fun c7 => ?_) (fun c7 => ?_)
    · have h := h.1 c7
      refine lv_aload_n hx hb dM6_step_158 rfl (lv_at hl 0 rfl) ?_
      refine lv_aload_n hx hb dM6_step_159 rfl (lv_at hl 0 rfl) ?_
      refine va_get (D := (dC, dI)) (ci := 6) (v := .int (sI u 8)) (C := RX6) (T := TX6) (N := 36) hx hb hts uwX6 hown hK hP 0 rfl rfl 30 (by decide) (hts _ wd_733) (fun _ h9 => h9) rfl dM6_step_160 ?_
      refine lv_iload_n hx hb dM6_step_163 rfl (lv_at hl 2 rfl) ?_
      refine lv_isub hx hb dM6_step_164 ?_
      refine gc_i (w := wM ad ca K) (u := u) (va_runV (As := [.int ((sI u 8) - l2)]) (rest := []) ⟨hx, hb, hml, hown, hts⟩ (cM6_end l dC dI ad ca K H.size u ((sI u 8) - l2) _ h) (cwV 1 hts (gG_V wd_829 wd_831 wd_19 wd_52 wd_832) rfl rfl rfl (by decide +kernel) ⟨Nat.le_of_ble_eq_true rfl, Nat.le_of_ble_eq_true rfl⟩) ⟨gB_blind mE_ok, va_recv hK hP (ci := 6) (q0 := 0) rfl rfl, gB_pre mE_ok hP hK hD hE hS hA⟩ rfl rfl hl.1 rfl (lv_room (Nat.le_of_ble_eq_true rfl)) dM6_step_165 ⟨Nat.le_of_ble_eq_true rfl, Nat.le_of_ble_eq_true rfl⟩) hD hS hA (fun r8 u9 H locs h hP hD hS => ?_)
      exact gr_i (w := wM ad ca K) (u := u9) hx hb hr hlocks h hP hK hD hS dM6_step_168
    · have h := h.2 c7
      refine lv_aload_n hx hb dM6_step_34 rfl (lv_at hl 0 rfl) ?_
      refine va_get (D := (dC, dI)) (ci := 6) (v := .int (sI u 4)) (C := RX6) (T := TX6) (N := 36) hx hb hts uwX6 hown hK hP 0 rfl rfl 20 (by decide) (hts _ wd_723) (fun _ h9 => h9) rfl dM6_step_35 ?_
      refine lv_topi (fun x10 ex10 => ?_)
      have h := h x10 ex10
      refine lv_istore (lv' := [(4, .int x10), (0, .ref (ad 0)), (1, .int l1), (2, .int l2), (3, .int l3)]) hx hb dM6_step_38 hl (by decide) rfl (fun ls hl => ?_)
      refine lv_iconst (v := (-1)) hx hb dM6_step_40 (by decide) ?_
      refine lv_istore (lv' := [(5, .int (-1)), (4, .int x10), (0, .ref (ad 0)), (1, .int l1), (2, .int l2), (3, .int l3)]) hx hb dM6_step_41 hl (by decide) rfl (fun ls hl => ?_)
      refine lv_iconst (v := 1) hx hb dM6_step_43 (by decide) ?_
      refine lv_istore (lv' := [(6, .int 1), (5, .int (-1)), (4, .int x10), (0, .ref (ad 0)), (1, .int l1), (2, .int l2), (3, .int l3)]) hx hb dM6_step_44 hl (by decide) rfl (fun ls hl => ?_)
      obtain ⟨n46, h⟩ := h
      exact wpM6_step_46_ok hx hb hr hml hown hts hlocks hK hA hE _ ih n46 l1 l2 l3 x10 (-1) 1 u _ _ _ h hP hD hS (lv_sub hl [3, 4, 5, 6, 2, 1, 0] rfl)

set_option maxHeartbeats 8000000 in
set_option maxRecDepth 100000 in
theorem cM6_step (l : Launch) (dC : Nat → ClassId) (dI : Nat → Nat → Nat) (ad : Nat → Nat) (ca : Nat → ClassId) (K : KM) (sz : Nat) (u : gS) (p1 : Int32) (post : Int32 → gS → Prop)  (h : wpM6_step K post u p1) : Met l ⟨"WorkHallModel", "step", "(I)I"⟩ (gw ⟨"WorkHallModel", "step", "(I)I"⟩ prog_8_method_30_code 9 (some .int)) ({ frames := 8, cells := 0, slots := 0, locals := 320 } : Room) (va_Pc [.ref (ad 0), .int p1] (gB (dC, dI) vwCl (mT ca) mE (wM ad ca K u) sz)) (va_Qi post (gAt (dC, dI) vwCl (mT ca) (wM ad ca K) (va_A (wM ad ca K u) sz)) (va_A (wM ad ca K u) sz)) 0 0 (va_A (wM ad ca K u) sz) := by
  refine Met.ofW (cc := prog_8_method_30_code) (maxL := 9) (ret := (some .int)) (by decide) rfl ?_
  intro p e s m args below meth c s₁ B hml hv
  obtain ⟨rfl, hsz, hP, hK, hD0, hE⟩ := hv
  have hx := B.exec
  have hb := B.bytes
  have hr := B.returns
  have hts : ∀ w ∈ gW, w.before _ s = true := fun w h9 => atoms_spec (ws := (gw ⟨"WorkHallModel", "step", "(I)I"⟩ prog_8_method_30_code 9 (some .int))) B.pre w (List.mem_cons_of_mem _ h9)
  have hown : s.vm.findClass RX6 = some m.cls := findClass_of_methodNamed B.named
  have hlocks := B.notSynchronized
  subst hsz
  have hD := hD0.self (sz := s.heap.size)
  generalize hAe : va_A (wM ad ca K u) s.heap.size = A at hD hE ⊢
  have hA : ∀ q : Nat, s.heap.size ≤ q → A q := fun q h => by rw [← hAe]; exact Or.inr h
  obtain ⟨H, hHe⟩ : ∃ z : Heap, z = s.heap := ⟨_, rfl⟩
  rw [← hHe]
  have hS : va_S A s.heap H [] := by rw [hHe]; exact va_S.rf
  have hP : va_P (dC, dI) vwCl (wM ad ca K u) H := by rw [hHe]; exact hP
  have hl := lv_entry ([.ref (ad 0), .int p1]) (n := 9) (Nat.le_of_ble_eq_true rfl)
  rw [lg_entry_eq]
  generalize (lg_sl ([.ref (ad 0), .int p1]) ++ List.replicate (9 - (lg_sl ([.ref (ad 0), .int p1])).length) Slot.unset).toArray = ls at hl ⊢
  have hl : lv_has ls 9 [(0, .ref (ad 0)), (1, .int p1)] := hl
  clear hAe
  refine lv_aload_n hx hb dM6_step_0 rfl (lv_at hl 0 rfl) ?_
  refine lv_iconst (v := 0) hx hb dM6_step_1 (by decide) ?_
  refine va_put (D := (dC, dI)) (ci := 6) (v := .int 0) (ty := tyX6 0) (C := RX6) (T := TX6) (N := 36) hx hb hts uwX6 tyX6 tyX6_ok nmX6 hown hK hP hD hS 0 rfl rfl 0 (by decide) (hts _ wd_703) (fun _ h9 => h9) rfl (tyX6_ok 0 (by decide)) rfl rfl (Nat.le_of_ble_eq_true rfl) dM6_step_2 (fun H locs hP hD hS => ?_)
  obtain ⟨u1, eu1⟩ : ∃ z : gS, z = tI u 0 0 := ⟨_, rfl⟩
  have hP : va_P (dC, dI) vwCl (wM ad ca K u1) H := by rw [eu1, wM_f0_failed]; exact hP
  have hD : va_D A (wM ad ca K u1) := by rw [eu1, wM_f0_failed]; exact hD
  have h := h u1 eu1
  refine lv_iload_n hx hb dM6_step_5 rfl (lv_at hl 1 rfl) ?_
  refine lv_iconst (v := 1) hx hb dM6_step_6 (by decide) ?_
  refine lv_icmp_lt (tgt := 16) hx hb dM6_step_7 (by decide) (fun c2 => ?_) (fun c2 => ?_)
  · have h := h.1 c2
    refine lv_aload_n hx hb dM6_step_16 rfl (lv_at hl 0 rfl) ?_
    refine lv_iconst (v := 1) hx hb dM6_step_17 (by decide) ?_
    refine gc_i (w := wM ad ca K) (u := u1) (va_runV (As := [.int 1]) (rest := []) ⟨hx, hb, hml, hown, hts⟩ (cM6_fail l dC dI ad ca K H.size u1 1 _ h) (cwV 1 hts (gG_V wd_825 wd_827 wd_18 wd_52 wd_828) rfl rfl rfl (by decide +kernel) ⟨Nat.le_of_ble_eq_true rfl, Nat.le_of_ble_eq_true rfl⟩) ⟨gB_blind mE_ok, va_recv hK hP (ci := 6) (q0 := 0) rfl rfl, gB_pre mE_ok hP hK hD hE hS hA⟩ rfl rfl hl.1 rfl (lv_room (Nat.le_of_ble_eq_true rfl)) dM6_step_18 ⟨Nat.le_of_ble_eq_true rfl, Nat.le_of_ble_eq_true rfl⟩) hD hS hA (fun r3 u4 H locs h hP hD hS => ?_)
    exact gr_i (w := wM ad ca K) (u := u4) hx hb hr hlocks h hP hK hD hS dM6_step_21
  · have h := h.2 c2
    refine lv_iload_n hx hb dM6_step_10 rfl (lv_at hl 1 rfl) ?_
    refine lv_bipush (v := 10) hx hb dM6_step_11 (by decide) ?_
    refine lv_icmp_le (tgt := 22) hx hb dM6_step_13 (by decide) (fun c5 => ?_) (fun c5 => ?_)
    · have h := h.1 c5
      refine lv_aload_n hx hb dM6_step_22 rfl (lv_at hl 0 rfl) ?_
      refine va_get (D := (dC, dI)) (ci := 6) (v := .int (sI u1 8)) (C := RX6) (T := TX6) (N := 36) hx hb hts uwX6 hown hK hP 0 rfl rfl 30 (by decide) (hts _ wd_733) (fun _ h9 => h9) rfl dM6_step_23 ?_
      refine lv_topi (fun x6 ex6 => ?_)
      have h := h x6 ex6
      refine lv_istore_n (lv' := [(2, .int x6), (0, .ref (ad 0)), (1, .int p1)]) hx hb dM6_step_26 rfl hl (by decide) rfl (fun ls hl => ?_)
      refine lv_iconst (v := 0) hx hb dM6_step_27 (by decide) ?_
      refine lv_istore_n (lv' := [(3, .int 0), (2, .int x6), (0, .ref (ad 0)), (1, .int p1)]) hx hb dM6_step_28 rfl hl (by decide) rfl (fun ls hl => ?_)
      obtain ⟨n29, h⟩ := h
      exact wpM6_step_29_ok hx hb hr hml hown hts hlocks hK hA hE n29 p1 x6 0 u1 _ _ _ h hP hD hS (lv_sub hl [2, 3, 1, 0] rfl)
    · have h := h.2 c5
      refine lv_aload_n hx hb dM6_step_16 rfl (lv_at hl 0 rfl) ?_
      refine lv_iconst (v := 1) hx hb dM6_step_17 (by decide) ?_
      refine gc_i (w := wM ad ca K) (u := u1) (va_runV (As := [.int 1]) (rest := []) ⟨hx, hb, hml, hown, hts⟩ (cM6_fail l dC dI ad ca K H.size u1 1 _ h) (cwV 1 hts (gG_V wd_825 wd_827 wd_18 wd_52 wd_828) rfl rfl rfl (by decide +kernel) ⟨Nat.le_of_ble_eq_true rfl, Nat.le_of_ble_eq_true rfl⟩) ⟨gB_blind mE_ok, va_recv hK hP (ci := 6) (q0 := 0) rfl rfl, gB_pre mE_ok hP hK hD hE hS hA⟩ rfl rfl hl.1 rfl (lv_room (Nat.le_of_ble_eq_true rfl)) dM6_step_18 ⟨Nat.le_of_ble_eq_true rfl, Nat.le_of_ble_eq_true rfl⟩) hD hS hA (fun r30 u31 H locs h hP hD hS => ?_)
      exact gr_i (w := wM ad ca K) (u := u31) hx hb hr hlocks h hP hK hD hS dM6_step_21

