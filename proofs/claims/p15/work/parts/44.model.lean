theorem dM6_push_0 : decode prog_8_method_17_code 0 = .ok (.aload_n 0, 1) := by decide +kernel
theorem dM6_push_1 : decode prog_8_method_17_code 1 = .ok (.getfield 62, 3) := by decide +kernel
theorem dM6_push_4 : decode prog_8_method_17_code 4 = .ok (.aload_n 0, 1) := by decide +kernel
theorem dM6_push_5 : decode prog_8_method_17_code 5 = .ok (.getfield 154, 3) := by decide +kernel
theorem dM6_push_8 : decode prog_8_method_17_code 8 = .ok (.iload_n 1, 1) := by decide +kernel
theorem dM6_push_9 : decode prog_8_method_17_code 9 = .ok (.iastore, 1) := by decide +kernel
theorem dM6_push_10 : decode prog_8_method_17_code 10 = .ok (.aload_n 0, 1) := by decide +kernel
theorem dM6_push_11 : decode prog_8_method_17_code 11 = .ok (.getfield 65, 3) := by decide +kernel
theorem dM6_push_14 : decode prog_8_method_17_code 14 = .ok (.aload_n 0, 1) := by decide +kernel
theorem dM6_push_15 : decode prog_8_method_17_code 15 = .ok (.getfield 154, 3) := by decide +kernel
theorem dM6_push_18 : decode prog_8_method_17_code 18 = .ok (.iconst 0, 1) := by decide +kernel
theorem dM6_push_19 : decode prog_8_method_17_code 19 = .ok (.iastore, 1) := by decide +kernel
theorem dM6_push_20 : decode prog_8_method_17_code 20 = .ok (.aload_n 0, 1) := by decide +kernel
theorem dM6_push_21 : decode prog_8_method_17_code 21 = .ok (.getfield 22, 3) := by decide +kernel
theorem dM6_push_24 : decode prog_8_method_17_code 24 = .ok (.iload_n 1, 1) := by decide +kernel
theorem dM6_push_25 : decode prog_8_method_17_code 25 = .ok (.iconst 2, 1) := by decide +kernel
theorem dM6_push_26 : decode prog_8_method_17_code 26 = .ok (.iastore, 1) := by decide +kernel
theorem dM6_push_27 : decode prog_8_method_17_code 27 = .ok (.aload_n 0, 1) := by decide +kernel
theorem dM6_push_28 : decode prog_8_method_17_code 28 = .ok (.dup, 1) := by decide +kernel
theorem dM6_push_29 : decode prog_8_method_17_code 29 = .ok (.getfield 154, 3) := by decide +kernel
theorem dM6_push_32 : decode prog_8_method_17_code 32 = .ok (.iconst 1, 1) := by decide +kernel
theorem dM6_push_33 : decode prog_8_method_17_code 33 = .ok (.iadd, 1) := by decide +kernel
theorem dM6_push_34 : decode prog_8_method_17_code 34 = .ok (.putfield 154, 3) := by decide +kernel
theorem dM6_push_37 : decode prog_8_method_17_code 37 = .ok (.return_, 1) := by decide +kernel
def wpM6_push (K : KM) (post : gS → Prop) (u : gS) (p1 : Int32) : Prop :=
  vp_in (sI u 10) 60 ∧ (∀ u1 : gS, u1 = tA u 13 ((sI u 10).toNatClampNeg) p1 → (vp_in (sI u1 10) 60 ∧ (∀ u2 : gS, u2 = tA u1 14 ((sI u1 10).toNatClampNeg) 0 → (vp_in p1 24 ∧ (∀ u3 : gS, u3 = tA u2 4 p1.toNatClampNeg 2 → (∀ u4 : gS, u4 = tI u3 10 ((sI u3 10) + 1) → (post u4)))))))

set_option maxHeartbeats 8000000 in
set_option maxRecDepth 100000 in
theorem cM6_push (l : Launch) (dC : Nat → ClassId) (dI : Nat → Nat → Nat) (ad : Nat → Nat) (ca : Nat → ClassId) (K : KM) (sz : Nat) (u : gS) (p1 : Int32) (post : gS → Prop)  (h : wpM6_push K post u p1) : Met l ⟨"WorkHallModel", "push", "(I)V"⟩ (gw ⟨"WorkHallModel", "push", "(I)V"⟩ prog_8_method_17_code 2 none) ({ frames := 1, cells := 0, slots := 0, locals := 40 } : Room) (va_Pc [.ref (ad 0), .int p1] (gB (dC, dI) vwCl (mT ca) mE (wM ad ca K u) sz)) (va_Qv post (gAt (dC, dI) vwCl (mT ca) (wM ad ca K) (va_A (wM ad ca K u) sz)) (va_A (wM ad ca K u) sz)) 0 0 (va_A (wM ad ca K u) sz) := by
  refine Met.ofW (cc := prog_8_method_17_code) (maxL := 2) (ret := none) (by decide) rfl ?_
  intro p e s m args below meth c s₁ B hml hv
  obtain ⟨rfl, hsz, hP, hK, hD0, hE⟩ := hv
  have hx := B.exec
  have hb := B.bytes
  have hr := B.returns
  have hts : ∀ w ∈ gW, w.before _ s = true := fun w h9 => atoms_spec (ws := (gw ⟨"WorkHallModel", "push", "(I)V"⟩ prog_8_method_17_code 2 none)) B.pre w (List.mem_cons_of_mem _ h9)
  have hown : s.vm.findClass RX6 = some m.cls := findClass_of_methodNamed B.named
  have hlocks := B.notSynchronized
  subst hsz
  have hD := hD0.self (sz := s.heap.size)
  generalize hAe : va_A (wM ad ca K u) s.heap.size = A at hD hE ⊢
  have hA : ∀ q : Nat, s.heap.size ≤ q → A q := fun q h => by rw [← hAe]; exact Or.inr h
  obtain ⟨H, hHe⟩ : ∃ z : Heap, z = s.heap := ⟨_, rfl⟩
  rw [← hHe]
  have hS : va_S A s.heap H [] := by rw [hHe]; exact va_S.rf
  have hP : va_P (dC, dI) vwCl (wM ad ca K u) H := by rw [hHe]; exact hP
  have hl := lv_entry ([.ref (ad 0), .int p1]) (n := 2) (Nat.le_of_ble_eq_true rfl)
  rw [lg_entry_eq]
  generalize (lg_sl ([.ref (ad 0), .int p1]) ++ List.replicate (2 - (lg_sl ([.ref (ad 0), .int p1])).length) Slot.unset).toArray = ls at hl ⊢
  have hl : lv_has ls 2 [(0, .ref (ad 0)), (1, .int p1)] := hl
  clear hAe
  refine lv_aload_n hx hb dM6_push_0 rfl (lv_at hl 0 rfl) ?_
  refine va_get (D := (dC, dI)) (ci := 6) (v := .ref (ad 18)) (C := RX6) (T := TX6) (N := 36) hx hb hts uwX6 hown hK hP 0 rfl rfl 33 (by decide) (hts _ wd_736) (fun _ h9 => h9) rfl dM6_push_1 ?_
  refine lv_aload_n hx hb dM6_push_4 rfl (lv_at hl 0 rfl) ?_
  refine va_get (D := (dC, dI)) (ci := 6) (v := .int (sI u 10)) (C := RX6) (T := TX6) (N := 36) hx hb hts uwX6 hown hK hP 0 rfl rfl 35 (by decide) (hts _ wd_738) (fun _ h9 => h9) rfl dM6_push_5 ?_
  refine lv_iload_n hx hb dM6_push_8 rfl (lv_at hl 1 rfl) ?_
  refine va_iast hx hb hK hP hD hS 18 0 rfl rfl h.1 dM6_push_9 (fun H locs hP hD hS => ?_)
  have h := h.2
  obtain ⟨u1, eu1⟩ : ∃ z : gS, z = tA u 13 ((sI u 10).toNatClampNeg) p1 := ⟨_, rfl⟩
  have hP : va_P (dC, dI) vwCl (wM ad ca K u1) H := by rw [eu1, wM_a18]; exact hP
  have hD : va_D A (wM ad ca K u1) := by rw [eu1, wM_a18]; exact hD
  have h := h u1 eu1
  refine lv_aload_n hx hb dM6_push_10 rfl (lv_at hl 0 rfl) ?_
  refine va_get (D := (dC, dI)) (ci := 6) (v := .ref (ad 19)) (C := RX6) (T := TX6) (N := 36) hx hb hts uwX6 hown hK hP 0 rfl rfl 34 (by decide) (hts _ wd_737) (fun _ h9 => h9) rfl dM6_push_11 ?_
  refine lv_aload_n hx hb dM6_push_14 rfl (lv_at hl 0 rfl) ?_
  refine va_get (D := (dC, dI)) (ci := 6) (v := .int (sI u1 10)) (C := RX6) (T := TX6) (N := 36) hx hb hts uwX6 hown hK hP 0 rfl rfl 35 (by decide) (hts _ wd_738) (fun _ h9 => h9) rfl dM6_push_15 ?_
  refine lv_iconst (v := 0) hx hb dM6_push_18 (by decide) ?_
  refine va_iast hx hb hK hP hD hS 19 0 rfl rfl h.1 dM6_push_19 (fun H locs hP hD hS => ?_)
  have h := h.2
  obtain ⟨u2, eu2⟩ : ∃ z : gS, z = tA u1 14 ((sI u1 10).toNatClampNeg) 0 := ⟨_, rfl⟩
  have hP : va_P (dC, dI) vwCl (wM ad ca K u2) H := by rw [eu2, wM_a19]; exact hP
  have hD : va_D A (wM ad ca K u2) := by rw [eu2, wM_a19]; exact hD
  have h := h u2 eu2
  refine lv_aload_n hx hb dM6_push_20 rfl (lv_at hl 0 rfl) ?_
  refine va_get (D := (dC, dI)) (ci := 6) (v := .ref (ad 5)) (C := RX6) (T := TX6) (N := 36) hx hb hts uwX6 hown hK hP 0 rfl rfl 9 (by decide) (hts _ wd_712) (fun _ h9 => h9) rfl dM6_push_21 ?_
  refine lv_iload_n hx hb dM6_push_24 rfl (lv_at hl 1 rfl) ?_
  refine lv_iconst (v := 2) hx hb dM6_push_25 (by decide) ?_
  refine va_iast hx hb hK hP hD hS 5 0 rfl rfl h.1 dM6_push_26 (fun H locs hP hD hS => ?_)
  have h := h.2
  obtain ⟨u3, eu3⟩ : ∃ z : gS, z = tA u2 4 p1.toNatClampNeg 2 := ⟨_, rfl⟩
  have hP : va_P (dC, dI) vwCl (wM ad ca K u3) H := by rw [eu3, wM_a5]; exact hP
  have hD : va_D A (wM ad ca K u3) := by rw [eu3, wM_a5]; exact hD
  have h := h u3 eu3
  refine lv_aload_n hx hb dM6_push_27 rfl (lv_at hl 0 rfl) ?_
  refine lv_dup hx hb dM6_push_28 rfl ?_
  refine va_get (D := (dC, dI)) (ci := 6) (v := .int (sI u3 10)) (C := RX6) (T := TX6) (N := 36) hx hb hts uwX6 hown hK hP 0 rfl rfl 35 (by decide) (hts _ wd_738) (fun _ h9 => h9) rfl dM6_push_29 ?_
  refine lv_iconst (v := 1) hx hb dM6_push_32 (by decide) ?_
  refine lv_iadd hx hb dM6_push_33 ?_
  refine va_put (D := (dC, dI)) (ci := 6) (v := .int ((sI u3 10) + 1)) (ty := tyX6 35) (C := RX6) (T := TX6) (N := 36) hx hb hts uwX6 tyX6 tyX6_ok nmX6 hown hK hP hD hS 0 rfl rfl 35 (by decide) (hts _ wd_738) (fun _ h9 => h9) rfl (tyX6_ok 35 (by decide)) rfl rfl (Nat.le_of_ble_eq_true rfl) dM6_push_34 (fun H locs hP hD hS => ?_)
  obtain ⟨u4, eu4⟩ : ∃ z : gS, z = tI u3 10 ((sI u3 10) + 1) := ⟨_, rfl⟩
  have hP : va_P (dC, dI) vwCl (wM ad ca K u4) H := by rw [eu4, wM_f0_top]; exact hP
  have hD : va_D A (wM ad ca K u4) := by rw [eu4, wM_f0_top]; exact hD
  have h := h u4 eu4
  exact gr_v (w := wM ad ca K) (u := u4) hx hb hr hlocks h hP hK hD hS dM6_push_37

theorem dM6_isDone_0 : decode prog_8_method_18_code 0 = .ok (.aload_n 0, 1) := by decide +kernel
theorem dM6_isDone_1 : decode prog_8_method_18_code 1 = .ok (.iload_n 1, 1) := by decide +kernel
theorem dM6_isDone_2 : decode prog_8_method_18_code 2 = .ok (.aload_n 0, 1) := by decide +kernel
theorem dM6_isDone_3 : decode prog_8_method_18_code 3 = .ok (.getfield 112, 3) := by decide +kernel
theorem dM6_isDone_6 : decode prog_8_method_18_code 6 = .ok (.invokevirtual 104, 3) := by decide +kernel
theorem dM6_isDone_9 : decode prog_8_method_18_code 9 = .ok (.ifCond .ne 17, 3) := by decide +kernel
theorem dM6_isDone_12 : decode prog_8_method_18_code 12 = .ok (.aload_n 0, 1) := by decide +kernel
theorem dM6_isDone_13 : decode prog_8_method_18_code 13 = .ok (.getfield 22, 3) := by decide +kernel
theorem dM6_isDone_16 : decode prog_8_method_18_code 16 = .ok (.iload_n 1, 1) := by decide +kernel
theorem dM6_isDone_17 : decode prog_8_method_18_code 17 = .ok (.iaload, 1) := by decide +kernel
theorem dM6_isDone_18 : decode prog_8_method_18_code 18 = .ok (.iconst 3, 1) := by decide +kernel
theorem dM6_isDone_19 : decode prog_8_method_18_code 19 = .ok (.if_icmp .ne 7, 3) := by decide +kernel
theorem dM6_isDone_22 : decode prog_8_method_18_code 22 = .ok (.iconst 1, 1) := by decide +kernel
theorem dM6_isDone_23 : decode prog_8_method_18_code 23 = .ok (.goto 4, 3) := by decide +kernel
theorem dM6_isDone_26 : decode prog_8_method_18_code 26 = .ok (.iconst 0, 1) := by decide +kernel
theorem dM6_isDone_27 : decode prog_8_method_18_code 27 = .ok (.ireturn, 1) := by decide +kernel
def wpM6_isDone (K : KM) (post : Int32 → gS → Prop) (u : gS) (p1 : Int32) : Prop :=
  wpM6_out K (fun (r1 : Int32) (u2 : gS) => ((¬ r1 = 0 → (narrow .boolean (.int 0) = .int 0 ∧ post 0 u2)) ∧ (r1 = 0 → (vp_in p1 24 ∧ (((¬ (sA u2 4 p1.toNatClampNeg) = 3 → (narrow .boolean (.int 0) = .int 0 ∧ post 0 u2)) ∧ ((sA u2 4 p1.toNatClampNeg) = 3 → (narrow .boolean (.int 1) = .int 1 ∧ post 1 u2)))))))) u p1 (sI u 1)

set_option maxHeartbeats 8000000 in
set_option maxRecDepth 100000 in
theorem cM6_isDone (l : Launch) (dC : Nat → ClassId) (dI : Nat → Nat → Nat) (ad : Nat → Nat) (ca : Nat → ClassId) (K : KM) (sz : Nat) (u : gS) (p1 : Int32) (post : Int32 → gS → Prop)  (h : wpM6_isDone K post u p1) : Met l ⟨"WorkHallModel", "isDone", "(I)Z"⟩ (gw ⟨"WorkHallModel", "isDone", "(I)Z"⟩ prog_8_method_18_code 2 (some .boolean)) ({ frames := 2, cells := 0, slots := 0, locals := 80 } : Room) (va_Pc [.ref (ad 0), .int p1] (gB (dC, dI) vwCl (mT ca) mE (wM ad ca K u) sz)) (va_Qi post (gAt (dC, dI) vwCl (mT ca) (wM ad ca K) (va_A (wM ad ca K u) sz)) (va_A (wM ad ca K u) sz)) 0 0 (va_A (wM ad ca K u) sz) := by
  refine Met.ofW (cc := prog_8_method_18_code) (maxL := 2) (ret := (some .boolean)) (by decide) rfl ?_
  intro p e s m args below meth c s₁ B hml hv
  obtain ⟨rfl, hsz, hP, hK, hD0, hE⟩ := hv
  have hx := B.exec
  have hb := B.bytes
  have hr := B.returns
  have hts : ∀ w ∈ gW, w.before _ s = true := fun w h9 => atoms_spec (ws := (gw ⟨"WorkHallModel", "isDone", "(I)Z"⟩ prog_8_method_18_code 2 (some .boolean))) B.pre w (List.mem_cons_of_mem _ h9)
  have hown : s.vm.findClass RX6 = some m.cls := findClass_of_methodNamed B.named
  have hlocks := B.notSynchronized
  subst hsz
  have hD := hD0.self (sz := s.heap.size)
  generalize hAe : va_A (wM ad ca K u) s.heap.size = A at hD hE ⊢
  have hA : ∀ q : Nat, s.heap.size ≤ q → A q := fun q h => by rw [← hAe]; exact Or.inr h
  obtain ⟨H, hHe⟩ : ∃ z : Heap, z = s.heap := ⟨_, rfl⟩
  rw [← hHe]
  have hS : va_S A s.heap H [] := by rw [hHe]; exact va_S.rf
  have hP : va_P (dC, dI) vwCl (wM ad ca K u) H := by rw [hHe]; exact hP
  have hl := lv_entry ([.ref (ad 0), .int p1]) (n := 2) (Nat.le_of_ble_eq_true rfl)
  rw [lg_entry_eq]
  generalize (lg_sl ([.ref (ad 0), .int p1]) ++ List.replicate (2 - (lg_sl ([.ref (ad 0), .int p1])).length) Slot.unset).toArray = ls at hl ⊢
  have hl : lv_has ls 2 [(0, .ref (ad 0)), (1, .int p1)] := hl
  clear hAe
  refine lv_aload_n hx hb dM6_isDone_0 rfl (lv_at hl 0 rfl) ?_
  refine lv_iload_n hx hb dM6_isDone_1 rfl (lv_at hl 1 rfl) ?_
  refine lv_aload_n hx hb dM6_isDone_2 rfl (lv_at hl 0 rfl) ?_
  refine va_get (D := (dC, dI)) (ci := 6) (v := .int (sI u 1)) (C := RX6) (T := TX6) (N := 36) hx hb hts uwX6 hown hK hP 0 rfl rfl 13 (by decide) (hts _ wd_716) (fun _ h9 => h9) rfl dM6_isDone_3 ?_
  refine gc_i (w := wM ad ca K) (u := u) (va_runV (As := [.int p1, .int (sI u 1)]) (rest := []) ⟨hx, hb, hml, hown, hts⟩ (cM6_out l dC dI ad ca K H.size u p1 (sI u 1) _ h) (cwV 2 hts (gG_V wd_821 wd_823 wd_17 wd_52 wd_824) rfl rfl rfl (by decide +kernel) ⟨Nat.le_of_ble_eq_true rfl, Nat.le_of_ble_eq_true rfl⟩) ⟨gB_blind mE_ok, va_recv hK hP (ci := 6) (q0 := 0) rfl rfl, gB_pre mE_ok hP hK hD hE hS hA⟩ rfl rfl hl.1 rfl (lv_room (Nat.le_of_ble_eq_true rfl)) dM6_isDone_6 ⟨Nat.le_of_ble_eq_true rfl, Nat.le_of_ble_eq_true rfl⟩) hD hS hA (fun r1 u2 H locs h hP hD hS => ?_)
  refine lv_if_ne (tgt := 26) hx hb dM6_isDone_9 (by decide) (fun c3 => ?_) (fun c3 => ?_)
  · have h := h.1 c3
    refine lv_iconst (v := 0) hx hb dM6_isDone_26 (by decide) ?_
    exact gr_z (w := wM ad ca K) (u := u2) hx hb hr hlocks h.1 h.2 hP hK hD hS dM6_isDone_27
  · have h := h.2 c3
    refine lv_aload_n hx hb dM6_isDone_12 rfl (lv_at hl 0 rfl) ?_
    refine va_get (D := (dC, dI)) (ci := 6) (v := .ref (ad 5)) (C := RX6) (T := TX6) (N := 36) hx hb hts uwX6 hown hK hP 0 rfl rfl 9 (by decide) (hts _ wd_712) (fun _ h9 => h9) rfl dM6_isDone_13 ?_
    refine lv_iload_n hx hb dM6_isDone_16 rfl (lv_at hl 1 rfl) ?_
    refine va_iald hx hb hK hP 5 0 rfl rfl h.1 dM6_isDone_17 ?_
    have h := h.2
    refine lv_iconst (v := 3) hx hb dM6_isDone_18 (by decide) ?_
    refine lv_icmp_ne (tgt := 26) hx hb dM6_isDone_19 (by decide) (fun c4 => ?_) (fun c4 => ?_)
    · have h := h.1 c4
      refine lv_iconst (v := 0) hx hb dM6_isDone_26 (by decide) ?_
      exact gr_z (w := wM ad ca K) (u := u2) hx hb hr hlocks h.1 h.2 hP hK hD hS dM6_isDone_27
    · have h := h.2 c4
      refine lv_iconst (v := 1) hx hb dM6_isDone_22 (by decide) ?_
      refine lv_goto (tgt := 27) hx hb dM6_isDone_23 (by decide) ?_
      exact gr_z (w := wM ad ca K) (u := u2) hx hb hr hlocks h.1 h.2 hP hK hD hS dM6_isDone_27

theorem dM6_done_0 : decode prog_8_method_19_code 0 = .ok (.aload_n 0, 1) := by decide +kernel
theorem dM6_done_1 : decode prog_8_method_19_code 1 = .ok (.getfield 22, 3) := by decide +kernel
theorem dM6_done_4 : decode prog_8_method_19_code 4 = .ok (.iload_n 1, 1) := by decide +kernel
theorem dM6_done_5 : decode prog_8_method_19_code 5 = .ok (.iconst 3, 1) := by decide +kernel
theorem dM6_done_6 : decode prog_8_method_19_code 6 = .ok (.iastore, 1) := by decide +kernel
theorem dM6_done_7 : decode prog_8_method_19_code 7 = .ok (.aload_n 0, 1) := by decide +kernel
theorem dM6_done_8 : decode prog_8_method_19_code 8 = .ok (.getfield 28, 3) := by decide +kernel
theorem dM6_done_11 : decode prog_8_method_19_code 11 = .ok (.iload_n 1, 1) := by decide +kernel
theorem dM6_done_12 : decode prog_8_method_19_code 12 = .ok (.iload_n 2, 1) := by decide +kernel
theorem dM6_done_13 : decode prog_8_method_19_code 13 = .ok (.iastore, 1) := by decide +kernel
theorem dM6_done_14 : decode prog_8_method_19_code 14 = .ok (.return_, 1) := by decide +kernel
def wpM6_done (K : KM) (post : gS → Prop) (u : gS) (p1 : Int32) (p2 : Int32) : Prop :=
  vp_in p1 24 ∧ (∀ u1 : gS, u1 = tA u 4 p1.toNatClampNeg 3 → (vp_in p1 24 ∧ (∀ u2 : gS, u2 = tA u1 6 p1.toNatClampNeg p2 → (post u2))))

set_option maxHeartbeats 8000000 in
set_option maxRecDepth 100000 in
theorem cM6_done (l : Launch) (dC : Nat → ClassId) (dI : Nat → Nat → Nat) (ad : Nat → Nat) (ca : Nat → ClassId) (K : KM) (sz : Nat) (u : gS) (p1 : Int32) (p2 : Int32) (post : gS → Prop)  (h : wpM6_done K post u p1 p2) : Met l ⟨"WorkHallModel", "done", "(II)V"⟩ (gw ⟨"WorkHallModel", "done", "(II)V"⟩ prog_8_method_19_code 3 none) ({ frames := 1, cells := 0, slots := 0, locals := 40 } : Room) (va_Pc [.ref (ad 0), .int p1, .int p2] (gB (dC, dI) vwCl (mT ca) mE (wM ad ca K u) sz)) (va_Qv post (gAt (dC, dI) vwCl (mT ca) (wM ad ca K) (va_A (wM ad ca K u) sz)) (va_A (wM ad ca K u) sz)) 0 0 (va_A (wM ad ca K u) sz) := by
  refine Met.ofW (cc := prog_8_method_19_code) (maxL := 3) (ret := none) (by decide) rfl ?_
  intro p e s m args below meth c s₁ B hml hv
  obtain ⟨rfl, hsz, hP, hK, hD0, hE⟩ := hv
  have hx := B.exec
  have hb := B.bytes
  have hr := B.returns
  have hts : ∀ w ∈ gW, w.before _ s = true := fun w h9 => atoms_spec (ws := (gw ⟨"WorkHallModel", "done", "(II)V"⟩ prog_8_method_19_code 3 none)) B.pre w (List.mem_cons_of_mem _ h9)
  have hown : s.vm.findClass RX6 = some m.cls := findClass_of_methodNamed B.named
  have hlocks := B.notSynchronized
  subst hsz
  have hD := hD0.self (sz := s.heap.size)
  generalize hAe : va_A (wM ad ca K u) s.heap.size = A at hD hE ⊢
  have hA : ∀ q : Nat, s.heap.size ≤ q → A q := fun q h => by rw [← hAe]; exact Or.inr h
  obtain ⟨H, hHe⟩ : ∃ z : Heap, z = s.heap := ⟨_, rfl⟩
  rw [← hHe]
  have hS : va_S A s.heap H [] := by rw [hHe]; exact va_S.rf
  have hP : va_P (dC, dI) vwCl (wM ad ca K u) H := by rw [hHe]; exact hP
  have hl := lv_entry ([.ref (ad 0), .int p1, .int p2]) (n := 3) (Nat.le_of_ble_eq_true rfl)
  rw [lg_entry_eq]
  generalize (lg_sl ([.ref (ad 0), .int p1, .int p2]) ++ List.replicate (3 - (lg_sl ([.ref (ad 0), .int p1, .int p2])).length) Slot.unset).toArray = ls at hl ⊢
  have hl : lv_has ls 3 [(0, .ref (ad 0)), (1, .int p1), (2, .int p2)] := hl
  clear hAe
  refine lv_aload_n hx hb dM6_done_0 rfl (lv_at hl 0 rfl) ?_
  refine va_get (D := (dC, dI)) (ci := 6) (v := .ref (ad 5)) (C := RX6) (T := TX6) (N := 36) hx hb hts uwX6 hown hK hP 0 rfl rfl 9 (by decide) (hts _ wd_712) (fun _ h9 => h9) rfl dM6_done_1 ?_
  refine lv_iload_n hx hb dM6_done_4 rfl (lv_at hl 1 rfl) ?_
  refine lv_iconst (v := 3) hx hb dM6_done_5 (by decide) ?_
  refine va_iast hx hb hK hP hD hS 5 0 rfl rfl h.1 dM6_done_6 (fun H locs hP hD hS => ?_)
  have h := h.2
  obtain ⟨u1, eu1⟩ : ∃ z : gS, z = tA u 4 p1.toNatClampNeg 3 := ⟨_, rfl⟩
  have hP : va_P (dC, dI) vwCl (wM ad ca K u1) H := by rw [eu1, wM_a5]; exact hP
  have hD : va_D A (wM ad ca K u1) := by rw [eu1, wM_a5]; exact hD
  have h := h u1 eu1
  refine lv_aload_n hx hb dM6_done_7 rfl (lv_at hl 0 rfl) ?_
  refine va_get (D := (dC, dI)) (ci := 6) (v := .ref (ad 7)) (C := RX6) (T := TX6) (N := 36) hx hb hts uwX6 hown hK hP 0 rfl rfl 11 (by decide) (hts _ wd_714) (fun _ h9 => h9) rfl dM6_done_8 ?_
  refine lv_iload_n hx hb dM6_done_11 rfl (lv_at hl 1 rfl) ?_
  refine lv_iload_n hx hb dM6_done_12 rfl (lv_at hl 2 rfl) ?_
  refine va_iast hx hb hK hP hD hS 7 0 rfl rfl h.1 dM6_done_13 (fun H locs hP hD hS => ?_)
  have h := h.2
  obtain ⟨u2, eu2⟩ : ∃ z : gS, z = tA u1 6 p1.toNatClampNeg p2 := ⟨_, rfl⟩
  have hP : va_P (dC, dI) vwCl (wM ad ca K u2) H := by rw [eu2, wM_a7]; exact hP
  have hD : va_D A (wM ad ca K u2) := by rw [eu2, wM_a7]; exact hD
  have h := h u2 eu2
  exact gr_v (w := wM ad ca K) (u := u2) hx hb hr hlocks h hP hK hD hS dM6_done_14

theorem dM6_broke_0 : decode prog_8_method_20_code 0 = .ok (.aload_n 0, 1) := by decide +kernel
theorem dM6_broke_1 : decode prog_8_method_20_code 1 = .ok (.getfield 22, 3) := by decide +kernel
theorem dM6_broke_4 : decode prog_8_method_20_code 4 = .ok (.iload_n 1, 1) := by decide +kernel
theorem dM6_broke_5 : decode prog_8_method_20_code 5 = .ok (.iconst 4, 1) := by decide +kernel
theorem dM6_broke_6 : decode prog_8_method_20_code 6 = .ok (.iastore, 1) := by decide +kernel
theorem dM6_broke_7 : decode prog_8_method_20_code 7 = .ok (.aload_n 0, 1) := by decide +kernel
theorem dM6_broke_8 : decode prog_8_method_20_code 8 = .ok (.getfield 31, 3) := by decide +kernel
theorem dM6_broke_11 : decode prog_8_method_20_code 11 = .ok (.iload_n 1, 1) := by decide +kernel
theorem dM6_broke_12 : decode prog_8_method_20_code 12 = .ok (.iload_n 2, 1) := by decide +kernel
theorem dM6_broke_13 : decode prog_8_method_20_code 13 = .ok (.iastore, 1) := by decide +kernel
theorem dM6_broke_14 : decode prog_8_method_20_code 14 = .ok (.return_, 1) := by decide +kernel
def wpM6_broke (K : KM) (post : gS → Prop) (u : gS) (p1 : Int32) (p2 : Int32) : Prop :=
  vp_in p1 24 ∧ (∀ u1 : gS, u1 = tA u 4 p1.toNatClampNeg 4 → (vp_in p1 24 ∧ (∀ u2 : gS, u2 = tA u1 7 p1.toNatClampNeg p2 → (post u2))))

set_option maxHeartbeats 8000000 in
set_option maxRecDepth 100000 in
theorem cM6_broke (l : Launch) (dC : Nat → ClassId) (dI : Nat → Nat → Nat) (ad : Nat → Nat) (ca : Nat → ClassId) (K : KM) (sz : Nat) (u : gS) (p1 : Int32) (p2 : Int32) (post : gS → Prop)  (h : wpM6_broke K post u p1 p2) : Met l ⟨"WorkHallModel", "broke", "(II)V"⟩ (gw ⟨"WorkHallModel", "broke", "(II)V"⟩ prog_8_method_20_code 3 none) ({ frames := 1, cells := 0, slots := 0, locals := 40 } : Room) (va_Pc [.ref (ad 0), .int p1, .int p2] (gB (dC, dI) vwCl (mT ca) mE (wM ad ca K u) sz)) (va_Qv post (gAt (dC, dI) vwCl (mT ca) (wM ad ca K) (va_A (wM ad ca K u) sz)) (va_A (wM ad ca K u) sz)) 0 0 (va_A (wM ad ca K u) sz) := by
  refine Met.ofW (cc := prog_8_method_20_code) (maxL := 3) (ret := none) (by decide) rfl ?_
  intro p e s m args below meth c s₁ B hml hv
  obtain ⟨rfl, hsz, hP, hK, hD0, hE⟩ := hv
  have hx := B.exec
  have hb := B.bytes
  have hr := B.returns
  have hts : ∀ w ∈ gW, w.before _ s = true := fun w h9 => atoms_spec (ws := (gw ⟨"WorkHallModel", "broke", "(II)V"⟩ prog_8_method_20_code 3 none)) B.pre w (List.mem_cons_of_mem _ h9)
  have hown : s.vm.findClass RX6 = some m.cls := findClass_of_methodNamed B.named
  have hlocks := B.notSynchronized
  subst hsz
  have hD := hD0.self (sz := s.heap.size)
  generalize hAe : va_A (wM ad ca K u) s.heap.size = A at hD hE ⊢
  have hA : ∀ q : Nat, s.heap.size ≤ q → A q := fun q h => by rw [← hAe]; exact Or.inr h
  obtain ⟨H, hHe⟩ : ∃ z : Heap, z = s.heap := ⟨_, rfl⟩
  rw [← hHe]
  have hS : va_S A s.heap H [] := by rw [hHe]; exact va_S.rf
  have hP : va_P (dC, dI) vwCl (wM ad ca K u) H := by rw [hHe]; exact hP
  have hl := lv_entry ([.ref (ad 0), .int p1, .int p2]) (n := 3) (Nat.le_of_ble_eq_true rfl)
  rw [lg_entry_eq]
  generalize (lg_sl ([.ref (ad 0), .int p1, .int p2]) ++ List.replicate (3 - (lg_sl ([.ref (ad 0), .int p1, .int p2])).length) Slot.unset).toArray = ls at hl ⊢
  have hl : lv_has ls 3 [(0, .ref (ad 0)), (1, .int p1), (2, .int p2)] := hl
  clear hAe
  refine lv_aload_n hx hb dM6_broke_0 rfl (lv_at hl 0 rfl) ?_
  refine va_get (D := (dC, dI)) (ci := 6) (v := .ref (ad 5)) (C := RX6) (T := TX6) (N := 36) hx hb hts uwX6 hown hK hP 0 rfl rfl 9 (by decide) (hts _ wd_712) (fun _ h9 => h9) rfl dM6_broke_1 ?_
  refine lv_iload_n hx hb dM6_broke_4 rfl (lv_at hl 1 rfl) ?_
  refine lv_iconst (v := 4) hx hb dM6_broke_5 (by decide) ?_
  refine va_iast hx hb hK hP hD hS 5 0 rfl rfl h.1 dM6_broke_6 (fun H locs hP hD hS => ?_)
  have h := h.2
  obtain ⟨u1, eu1⟩ : ∃ z : gS, z = tA u 4 p1.toNatClampNeg 4 := ⟨_, rfl⟩
  have hP : va_P (dC, dI) vwCl (wM ad ca K u1) H := by rw [eu1, wM_a5]; exact hP
  have hD : va_D A (wM ad ca K u1) := by rw [eu1, wM_a5]; exact hD
  have h := h u1 eu1
  refine lv_aload_n hx hb dM6_broke_7 rfl (lv_at hl 0 rfl) ?_
  refine va_get (D := (dC, dI)) (ci := 6) (v := .ref (ad 8)) (C := RX6) (T := TX6) (N := 36) hx hb hts uwX6 hown hK hP 0 rfl rfl 12 (by decide) (hts _ wd_715) (fun _ h9 => h9) rfl dM6_broke_8 ?_
  refine lv_iload_n hx hb dM6_broke_11 rfl (lv_at hl 1 rfl) ?_
  refine lv_iload_n hx hb dM6_broke_12 rfl (lv_at hl 2 rfl) ?_
  refine va_iast hx hb hK hP hD hS 8 0 rfl rfl h.1 dM6_broke_13 (fun H locs hP hD hS => ?_)
  have h := h.2
  obtain ⟨u2, eu2⟩ : ∃ z : gS, z = tA u1 7 p1.toNatClampNeg p2 := ⟨_, rfl⟩
  have hP : va_P (dC, dI) vwCl (wM ad ca K u2) H := by rw [eu2, wM_a8]; exact hP
  have hD : va_D A (wM ad ca K u2) := by rw [eu2, wM_a8]; exact hD
  have h := h u2 eu2
  exact gr_v (w := wM ad ca K) (u := u2) hx hb hr hlocks h hP hK hD hS dM6_broke_14

theorem dM6_fork_0 : decode prog_8_method_21_code 0 = .ok (.aload_n 0, 1) := by decide +kernel
theorem dM6_fork_1 : decode prog_8_method_21_code 1 = .ok (.getfield 13, 3) := by decide +kernel
theorem dM6_fork_4 : decode prog_8_method_21_code 4 = .ok (.iload_n 2, 1) := by decide +kernel
theorem dM6_fork_5 : decode prog_8_method_21_code 5 = .ok (.iaload, 1) := by decide +kernel
theorem dM6_fork_6 : decode prog_8_method_21_code 6 = .ok (.istore_n 3, 1) := by decide +kernel
theorem dM6_fork_7 : decode prog_8_method_21_code 7 = .ok (.aload_n 0, 1) := by decide +kernel
theorem dM6_fork_8 : decode prog_8_method_21_code 8 = .ok (.iload_n 3, 1) := by decide +kernel
theorem dM6_fork_9 : decode prog_8_method_21_code 9 = .ok (.aload_n 0, 1) := by decide +kernel
theorem dM6_fork_10 : decode prog_8_method_21_code 10 = .ok (.getfield 112, 3) := by decide +kernel
theorem dM6_fork_13 : decode prog_8_method_21_code 13 = .ok (.invokevirtual 104, 3) := by decide +kernel
theorem dM6_fork_16 : decode prog_8_method_21_code 16 = .ok (.ifCond .ne 12, 3) := by decide +kernel
theorem dM6_fork_19 : decode prog_8_method_21_code 19 = .ok (.aload_n 0, 1) := by decide +kernel
theorem dM6_fork_20 : decode prog_8_method_21_code 20 = .ok (.getfield 22, 3) := by decide +kernel
theorem dM6_fork_23 : decode prog_8_method_21_code 23 = .ok (.iload_n 3, 1) := by decide +kernel
theorem dM6_fork_24 : decode prog_8_method_21_code 24 = .ok (.iaload, 1) := by decide +kernel
theorem dM6_fork_25 : decode prog_8_method_21_code 25 = .ok (.ifCond .eq 12, 3) := by decide +kernel
theorem dM6_fork_28 : decode prog_8_method_21_code 28 = .ok (.aload_n 0, 1) := by decide +kernel
theorem dM6_fork_29 : decode prog_8_method_21_code 29 = .ok (.iload_n 2, 1) := by decide +kernel
theorem dM6_fork_30 : decode prog_8_method_21_code 30 = .ok (.iconst 4, 1) := by decide +kernel
theorem dM6_fork_31 : decode prog_8_method_21_code 31 = .ok (.invokevirtual 157, 3) := by decide +kernel
theorem dM6_fork_34 : decode prog_8_method_21_code 34 = .ok (.goto 57, 3) := by decide +kernel
theorem dM6_fork_37 : decode prog_8_method_21_code 37 = .ok (.aload_n 0, 1) := by decide +kernel
theorem dM6_fork_38 : decode prog_8_method_21_code 38 = .ok (.iload_n 3, 1) := by decide +kernel
theorem dM6_fork_39 : decode prog_8_method_21_code 39 = .ok (.invokevirtual 160, 3) := by decide +kernel
theorem dM6_fork_42 : decode prog_8_method_21_code 42 = .ok (.ifCond .eq 18, 3) := by decide +kernel
theorem dM6_fork_45 : decode prog_8_method_21_code 45 = .ok (.aload_n 0, 1) := by decide +kernel
theorem dM6_fork_46 : decode prog_8_method_21_code 46 = .ok (.getfield 65, 3) := by decide +kernel
theorem dM6_fork_49 : decode prog_8_method_21_code 49 = .ok (.iload_n 1, 1) := by decide +kernel
theorem dM6_fork_50 : decode prog_8_method_21_code 50 = .ok (.iconst 1, 1) := by decide +kernel
theorem dM6_fork_51 : decode prog_8_method_21_code 51 = .ok (.iastore, 1) := by decide +kernel
theorem dM6_fork_52 : decode prog_8_method_21_code 52 = .ok (.aload_n 0, 1) := by decide +kernel
theorem dM6_fork_53 : decode prog_8_method_21_code 53 = .ok (.iload_n 3, 1) := by decide +kernel
theorem dM6_fork_54 : decode prog_8_method_21_code 54 = .ok (.invokevirtual 164, 3) := by decide +kernel
theorem dM6_fork_57 : decode prog_8_method_21_code 57 = .ok (.goto 34, 3) := by decide +kernel
theorem dM6_fork_60 : decode prog_8_method_21_code 60 = .ok (.aload_n 0, 1) := by decide +kernel
theorem dM6_fork_61 : decode prog_8_method_21_code 61 = .ok (.getfield 22, 3) := by decide +kernel
theorem dM6_fork_64 : decode prog_8_method_21_code 64 = .ok (.iload_n 3, 1) := by decide +kernel
theorem dM6_fork_65 : decode prog_8_method_21_code 65 = .ok (.iaload, 1) := by decide +kernel
theorem dM6_fork_66 : decode prog_8_method_21_code 66 = .ok (.bipush 6, 2) := by decide +kernel
theorem dM6_fork_68 : decode prog_8_method_21_code 68 = .ok (.if_icmp .ne 12, 3) := by decide +kernel
theorem dM6_fork_71 : decode prog_8_method_21_code 71 = .ok (.aload_n 0, 1) := by decide +kernel
theorem dM6_fork_72 : decode prog_8_method_21_code 72 = .ok (.iload_n 2, 1) := by decide +kernel
theorem dM6_fork_73 : decode prog_8_method_21_code 73 = .ok (.iconst 4, 1) := by decide +kernel
theorem dM6_fork_74 : decode prog_8_method_21_code 74 = .ok (.invokevirtual 157, 3) := by decide +kernel
theorem dM6_fork_77 : decode prog_8_method_21_code 77 = .ok (.goto 14, 3) := by decide +kernel
theorem dM6_fork_80 : decode prog_8_method_21_code 80 = .ok (.aload_n 0, 1) := by decide +kernel
theorem dM6_fork_81 : decode prog_8_method_21_code 81 = .ok (.iload_n 2, 1) := by decide +kernel
theorem dM6_fork_82 : decode prog_8_method_21_code 82 = .ok (.aload_n 0, 1) := by decide +kernel
theorem dM6_fork_83 : decode prog_8_method_21_code 83 = .ok (.getfield 22, 3) := by decide +kernel
theorem dM6_fork_86 : decode prog_8_method_21_code 86 = .ok (.iload_n 3, 1) := by decide +kernel
theorem dM6_fork_87 : decode prog_8_method_21_code 87 = .ok (.iaload, 1) := by decide +kernel
theorem dM6_fork_88 : decode prog_8_method_21_code 88 = .ok (.invokevirtual 167, 3) := by decide +kernel
theorem dM6_fork_91 : decode prog_8_method_21_code 91 = .ok (.return_, 1) := by decide +kernel
def wpM6_fork (K : KM) (post : gS → Prop) (u : gS) (p1 : Int32) (p2 : Int32) : Prop :=
  vp_in p2 24 ∧ (∀ x1 : Int32, x1 = sA u 1 p2.toNatClampNeg → (wpM6_out K (fun (r2 : Int32) (u3 : gS) => ((¬ r2 = 0 → (wpM6_broke K (fun (u6 : gS) => post u6) u3 p2 4)) ∧ (r2 = 0 → (vp_in x1 24 ∧ ((((sA u3 4 x1.toNatClampNeg) = 0 → (wpM6_place K (fun (r8 : Int32) (u9 : gS) => ((r8 = 0 → (vp_in x1 24 ∧ (((¬ (sA u9 4 x1.toNatClampNeg) = 6 → (vp_in x1 24 ∧ (wpM6_done K (fun (u13 : gS) => post u13) u9 p2 (sA u9 4 x1.toNatClampNeg)))) ∧ ((sA u9 4 x1.toNatClampNeg) = 6 → (wpM6_broke K (fun (u15 : gS) => post u15) u9 p2 4)))))) ∧ (¬ r8 = 0 → (vp_in p1 60 ∧ (∀ u16 : gS, u16 = tA u9 14 p1.toNatClampNeg 1 → (wpM6_push K (fun (u18 : gS) => post u18) u16 x1)))))) u3 x1)) ∧ (¬ (sA u3 4 x1.toNatClampNeg) = 0 → (wpM6_broke K (fun (u20 : gS) => post u20) u3 p2 4)))))))) u x1 (sI u 1)))

set_option maxHeartbeats 8000000 in
set_option maxRecDepth 100000 in
theorem cM6_fork (l : Launch) (dC : Nat → ClassId) (dI : Nat → Nat → Nat) (ad : Nat → Nat) (ca : Nat → ClassId) (K : KM) (sz : Nat) (u : gS) (p1 : Int32) (p2 : Int32) (post : gS → Prop)  (h : wpM6_fork K post u p1 p2) : Met l ⟨"WorkHallModel", "fork", "(II)V"⟩ (gw ⟨"WorkHallModel", "fork", "(II)V"⟩ prog_8_method_21_code 4 none) ({ frames := 4, cells := 0, slots := 0, locals := 160 } : Room) (va_Pc [.ref (ad 0), .int p1, .int p2] (gB (dC, dI) vwCl (mT ca) mE (wM ad ca K u) sz)) (va_Qv post (gAt (dC, dI) vwCl (mT ca) (wM ad ca K) (va_A (wM ad ca K u) sz)) (va_A (wM ad ca K u) sz)) 0 0 (va_A (wM ad ca K u) sz) := by
  refine Met.ofW (cc := prog_8_method_21_code) (maxL := 4) (ret := none) (by decide) rfl ?_
  intro p e s m args below meth c s₁ B hml hv
  obtain ⟨rfl, hsz, hP, hK, hD0, hE⟩ := hv
  have hx := B.exec
  have hb := B.bytes
  have hr := B.returns
  have hts : ∀ w ∈ gW, w.before _ s = true := fun w h9 => atoms_spec (ws := (gw ⟨"WorkHallModel", "fork", "(II)V"⟩ prog_8_method_21_code 4 none)) B.pre w (List.mem_cons_of_mem _ h9)
  have hown : s.vm.findClass RX6 = some m.cls := findClass_of_methodNamed B.named
  have hlocks := B.notSynchronized
  subst hsz
  have hD := hD0.self (sz := s.heap.size)
  generalize hAe : va_A (wM ad ca K u) s.heap.size = A at hD hE ⊢
  have hA : ∀ q : Nat, s.heap.size ≤ q → A q := fun q h => by rw [← hAe]; exact Or.inr h
  obtain ⟨H, hHe⟩ : ∃ z : Heap, z = s.heap := ⟨_, rfl⟩
  rw [← hHe]
  have hS : va_S A s.heap H [] := by rw [hHe]; exact va_S.rf
  have hP : va_P (dC, dI) vwCl (wM ad ca K u) H := by rw [hHe]; exact hP
  have hl := lv_entry ([.ref (ad 0), .int p1, .int p2]) (n := 4) (Nat.le_of_ble_eq_true rfl)
  rw [lg_entry_eq]
  generalize (lg_sl ([.ref (ad 0), .int p1, .int p2]) ++ List.replicate (4 - (lg_sl ([.ref (ad 0), .int p1, .int p2])).length) Slot.unset).toArray = ls at hl ⊢
  have hl : lv_has ls 4 [(0, .ref (ad 0)), (1, .int p1), (2, .int p2)] := hl
  clear hAe
  refine lv_aload_n hx hb dM6_fork_0 rfl (lv_at hl 0 rfl) ?_
  refine va_get (D := (dC, dI)) (ci := 6) (v := .ref (ad 2)) (C := RX6) (T := TX6) (N := 36) hx hb hts uwX6 hown hK hP 0 rfl rfl 6 (by decide) (hts _ wd_709) (fun _ h9 => h9) rfl dM6_fork_1 ?_
  refine lv_iload_n hx hb dM6_fork_4 rfl (lv_at hl 2 rfl) ?_
  refine va_iald hx hb hK hP 2 0 rfl rfl h.1 dM6_fork_5 ?_
  have h := h.2
  refine lv_topi (fun x1 ex1 => ?_)
  have h := h x1 ex1
  refine lv_istore_n (lv' := [(3, .int x1), (0, .ref (ad 0)), (1, .int p1), (2, .int p2)]) hx hb dM6_fork_6 rfl hl (by decide) rfl (fun ls hl => ?_)
  refine lv_aload_n hx hb dM6_fork_7 rfl (lv_at hl 1 rfl) ?_
  refine lv_iload_n hx hb dM6_fork_8 rfl (lv_at hl 0 rfl) ?_
  refine lv_aload_n hx hb dM6_fork_9 rfl (lv_at hl 1 rfl) ?_
  refine va_get (D := (dC, dI)) (ci := 6) (v := .int (sI u 1)) (C := RX6) (T := TX6) (N := 36) hx hb hts uwX6 hown hK hP 0 rfl rfl 13 (by decide) (hts _ wd_716) (fun _ h9 => h9) rfl dM6_fork_10 ?_
  refine gc_i (w := wM ad ca K) (u := u) (va_runV (As := [.int x1, .int (sI u 1)]) (rest := []) ⟨hx, hb, hml, hown, hts⟩ (cM6_out l dC dI ad ca K H.size u x1 (sI u 1) _ h) (cwV 2 hts (gG_V wd_821 wd_823 wd_17 wd_52 wd_824) rfl rfl rfl (by decide +kernel) ⟨Nat.le_of_ble_eq_true rfl, Nat.le_of_ble_eq_true rfl⟩) ⟨gB_blind mE_ok, va_recv hK hP (ci := 6) (q0 := 0) rfl rfl, gB_pre mE_ok hP hK hD hE hS hA⟩ rfl rfl hl.1 rfl (lv_room (Nat.le_of_ble_eq_true rfl)) dM6_fork_13 ⟨Nat.le_of_ble_eq_true rfl, Nat.le_of_ble_eq_true rfl⟩) hD hS hA (fun r2 u3 H locs h hP hD hS => ?_)
  refine lv_if_ne (tgt := 28) hx hb dM6_fork_16 (by decide) (fun c4 => ?_) (fun c4 => ?_)
  · have h := h.1 c4
    refine lv_aload_n hx hb dM6_fork_28 rfl (lv_at hl 1 rfl) ?_
    refine lv_iload_n hx hb dM6_fork_29 rfl (lv_at hl 3 rfl) ?_
    refine lv_iconst (v := 4) hx hb dM6_fork_30 (by decide) ?_
    refine gc_v (w := wM ad ca K) (u := u3) (va_runV (As := [.int p2, .int 4]) (rest := []) ⟨hx, hb, hml, hown, hts⟩ (cM6_broke l dC dI ad ca K H.size u3 p2 4 _ h) (cwV 2 hts (gG_V wd_881 wd_883 wd_31 wd_52 wd_884) rfl rfl rfl (by decide +kernel) ⟨Nat.le_of_ble_eq_true rfl, Nat.le_of_ble_eq_true rfl⟩) ⟨gB_blind mE_ok, va_recv hK hP (ci := 6) (q0 := 0) rfl rfl, gB_pre mE_ok hP hK hD hE hS hA⟩ rfl rfl hl.1 rfl (lv_room (Nat.le_of_ble_eq_true rfl)) dM6_fork_31 ⟨Nat.le_of_ble_eq_true rfl, Nat.le_of_ble_eq_true rfl⟩) hD hS hA (fun u6 H locs h hP hD hS => ?_)
    refine lv_goto (tgt := 91) hx hb dM6_fork_34 (by decide) ?_
    exact gr_v (w := wM ad ca K) (u := u6) hx hb hr hlocks h hP hK hD hS dM6_fork_91
  · have h := h.2 c4
    refine lv_aload_n hx hb dM6_fork_19 rfl (lv_at hl 1 rfl) ?_
    refine va_get (D := (dC, dI)) (ci := 6) (v := .ref (ad 5)) (C := RX6) (T := TX6) (N := 36) hx hb hts uwX6 hown hK hP 0 rfl rfl 9 (by decide) (hts _ wd_712) (fun _ h9 => h9) rfl dM6_fork_20 ?_
    refine lv_iload_n hx hb dM6_fork_23 rfl (lv_at hl 0 rfl) ?_
    refine va_iald hx hb hK hP 5 0 rfl rfl h.1 dM6_fork_24 ?_
    have h := h.2
    refine lv_if_eq (tgt := 37) hx hb dM6_fork_25 (by decide) (fun c7 => ?_) (fun c7 => ?_)
    · have h := h.1 c7
      refine lv_aload_n hx hb dM6_fork_37 rfl (lv_at hl 1 rfl) ?_
      refine lv_iload_n hx hb dM6_fork_38 rfl (lv_at hl 0 rfl) ?_
      refine gc_i (w := wM ad ca K) (u := u3) (va_runV (As := [.int x1]) (rest := []) ⟨hx, hb, hml, hown, hts⟩ (cM6_place l dC dI ad ca K H.size u3 x1 _ h) (cwV 1 hts (gG_V wd_845 wd_847 wd_22 wd_52 wd_848) rfl rfl rfl (by decide +kernel) ⟨Nat.le_of_ble_eq_true rfl, Nat.le_of_ble_eq_true rfl⟩) ⟨gB_blind mE_ok, va_recv hK hP (ci := 6) (q0 := 0) rfl rfl, gB_pre mE_ok hP hK hD hE hS hA⟩ rfl rfl hl.1 rfl (lv_room (Nat.le_of_ble_eq_true rfl)) dM6_fork_39 ⟨Nat.le_of_ble_eq_true rfl, Nat.le_of_ble_eq_true rfl⟩) hD hS hA (fun r8 u9 H locs h hP hD hS => ?_)
      refine lv_if_eq (tgt := 60) hx hb dM6_fork_42 (by decide) (fun c10 => ?_) (fun c10 => ?_)
      · have h := h.1 c10
        refine lv_aload_n hx hb dM6_fork_60 rfl (lv_at hl 1 rfl) ?_
        refine va_get (D := (dC, dI)) (ci := 6) (v := .ref (ad 5)) (C := RX6) (T := TX6) (N := 36) hx hb hts uwX6 hown hK hP 0 rfl rfl 9 (by decide) (hts _ wd_712) (fun _ h9 => h9) rfl dM6_fork_61 ?_
        refine lv_iload_n hx hb dM6_fork_64 rfl (lv_at hl 0 rfl) ?_
        refine va_iald hx hb hK hP 5 0 rfl rfl h.1 dM6_fork_65 ?_
        have h := h.2
        refine lv_bipush (v := 6) hx hb dM6_fork_66 (by decide) ?_
        refine lv_icmp_ne (tgt := 80) hx hb dM6_fork_68 (by decide) (fun c11 => ?_) (fun c11 => ?_)
        · have h := h.1 c11
          refine lv_aload_n hx hb dM6_fork_80 rfl (lv_at hl 1 rfl) ?_
          refine lv_iload_n hx hb dM6_fork_81 rfl (lv_at hl 3 rfl) ?_
          refine lv_aload_n hx hb dM6_fork_82 rfl (lv_at hl 1 rfl) ?_
          refine va_get (D := (dC, dI)) (ci := 6) (v := .ref (ad 5)) (C := RX6) (T := TX6) (N := 36) hx hb hts uwX6 hown hK hP 0 rfl rfl 9 (by decide) (hts _ wd_712) (fun _ h9 => h9) rfl dM6_fork_83 ?_
          refine lv_iload_n hx hb dM6_fork_86 rfl (lv_at hl 0 rfl) ?_
          refine va_iald hx hb hK hP 5 0 rfl rfl h.1 dM6_fork_87 ?_
          have h := h.2
          refine gc_v (w := wM ad ca K) (u := u9) (va_runV (As := [.int p2, .int (sA u9 4 x1.toNatClampNeg)]) (rest := []) ⟨hx, hb, hml, hown, hts⟩ (cM6_done l dC dI ad ca K H.size u9 p2 (sA u9 4 x1.toNatClampNeg) _ h) (cwV 2 hts (gG_V wd_877 wd_879 wd_30 wd_52 wd_880) rfl rfl rfl (by decide +kernel) ⟨Nat.le_of_ble_eq_true rfl, Nat.le_of_ble_eq_true rfl⟩) ⟨gB_blind mE_ok, va_recv hK hP (ci := 6) (q0 := 0) rfl rfl, gB_pre mE_ok hP hK hD hE hS hA⟩ rfl rfl hl.1 rfl (lv_room (Nat.le_of_ble_eq_true rfl)) dM6_fork_88 ⟨Nat.le_of_ble_eq_true rfl, Nat.le_of_ble_eq_true rfl⟩) hD hS hA (fun u13 H locs h hP hD hS => ?_)
          exact gr_v (w := wM ad ca K) (u := u13) hx hb hr hlocks h hP hK hD hS dM6_fork_91
        · have h := h.2 c11
          refine lv_aload_n hx hb dM6_fork_71 rfl (lv_at hl 1 rfl) ?_
          refine lv_iload_n hx hb dM6_fork_72 rfl (lv_at hl 3 rfl) ?_
          refine lv_iconst (v := 4) hx hb dM6_fork_73 (by decide) ?_
          refine gc_v (w := wM ad ca K) (u := u9) (va_runV (As := [.int p2, .int 4]) (rest := []) ⟨hx, hb, hml, hown, hts⟩ (cM6_broke l dC dI ad ca K H.size u9 p2 4 _ h) (cwV 2 hts (gG_V wd_881 wd_883 wd_31 wd_52 wd_884) rfl rfl rfl (by decide +kernel) ⟨Nat.le_of_ble_eq_true rfl, Nat.le_of_ble_eq_true rfl⟩) ⟨gB_blind mE_ok, va_recv hK hP (ci := 6) (q0 := 0) rfl rfl, gB_pre mE_ok hP hK hD hE hS hA⟩ rfl rfl hl.1 rfl (lv_room (Nat.le_of_ble_eq_true rfl)) dM6_fork_74 ⟨Nat.le_of_ble_eq_true rfl, Nat.le_of_ble_eq_true rfl⟩) hD hS hA (fun u15 H locs h hP hD hS => ?_)
          refine lv_goto (tgt := 91) hx hb dM6_fork_77 (by decide) ?_
          exact gr_v (w := wM ad ca K) (u := u15) hx hb hr hlocks h hP hK hD hS dM6_fork_91
      · have h := h.2 c10
        refine lv_aload_n hx hb dM6_fork_45 rfl (lv_at hl 1 rfl) ?_
        refine va_get (D := (dC, dI)) (ci := 6) (v := .ref (ad 19)) (C := RX6) (T := TX6) (N := 36) hx hb hts uwX6 hown hK hP 0 rfl rfl 34 (by decide) (hts _ wd_737) (fun _ h9 => h9) rfl dM6_fork_46 ?_
        refine lv_iload_n hx hb dM6_fork_49 rfl (lv_at hl 2 rfl) ?_
        refine lv_iconst (v := 1) hx hb dM6_fork_50 (by decide) ?_
        refine va_iast hx hb hK hP hD hS 19 0 rfl rfl h.1 dM6_fork_51 (fun H locs hP hD hS => ?_)
        have h := h.2
        obtain ⟨u16, eu16⟩ : ∃ z : gS, z = tA u9 14 p1.toNatClampNeg 1 := ⟨_, rfl⟩
        have hP : va_P (dC, dI) vwCl (wM ad ca K u16) H := by rw [eu16, wM_a19]; exact hP
        have hD : va_D A (wM ad ca K u16) := by rw [eu16, wM_a19]; exact hD
        have h := h u16 eu16
        refine lv_aload_n hx hb dM6_fork_52 rfl (lv_at hl 1 rfl) ?_
        refine lv_iload_n hx hb dM6_fork_53 rfl (lv_at hl 0 rfl) ?_
        refine gc_v (w := wM ad ca K) (u := u16) (va_runV (As := [.int x1]) (rest := []) ⟨hx, hb, hml, hown, hts⟩ (cM6_push l dC dI ad ca K H.size u16 x1 _ h) (cwV 1 hts (gG_V wd_869 wd_871 wd_28 wd_52 wd_872) rfl rfl rfl (by decide +kernel) ⟨Nat.le_of_ble_eq_true rfl, Nat.le_of_ble_eq_true rfl⟩) ⟨gB_blind mE_ok, va_recv hK hP (ci := 6) (q0 := 0) rfl rfl, gB_pre mE_ok hP hK hD hE hS hA⟩ rfl rfl hl.1 rfl (lv_room (Nat.le_of_ble_eq_true rfl)) dM6_fork_54 ⟨Nat.le_of_ble_eq_true rfl, Nat.le_of_ble_eq_true rfl⟩) hD hS hA (fun u18 H locs h hP hD hS => ?_)
        refine lv_goto (tgt := 91) hx hb dM6_fork_57 (by decide) ?_
        exact gr_v (w := wM ad ca K) (u := u18) hx hb hr hlocks h hP hK hD hS dM6_fork_91
    · have h := h.2 c7
      refine lv_aload_n hx hb dM6_fork_28 rfl (lv_at hl 1 rfl) ?_
      refine lv_iload_n hx hb dM6_fork_29 rfl (lv_at hl 3 rfl) ?_
      refine lv_iconst (v := 4) hx hb dM6_fork_30 (by decide) ?_
      refine gc_v (w := wM ad ca K) (u := u3) (va_runV (As := [.int p2, .int 4]) (rest := []) ⟨hx, hb, hml, hown, hts⟩ (cM6_broke l dC dI ad ca K H.size u3 p2 4 _ h) (cwV 2 hts (gG_V wd_881 wd_883 wd_31 wd_52 wd_884) rfl rfl rfl (by decide +kernel) ⟨Nat.le_of_ble_eq_true rfl, Nat.le_of_ble_eq_true rfl⟩) ⟨gB_blind mE_ok, va_recv hK hP (ci := 6) (q0 := 0) rfl rfl, gB_pre mE_ok hP hK hD hE hS hA⟩ rfl rfl hl.1 rfl (lv_room (Nat.le_of_ble_eq_true rfl)) dM6_fork_31 ⟨Nat.le_of_ble_eq_true rfl, Nat.le_of_ble_eq_true rfl⟩) hD hS hA (fun u20 H locs h hP hD hS => ?_)
      refine lv_goto (tgt := 91) hx hb dM6_fork_34 (by decide) ?_
      exact gr_v (w := wM ad ca K) (u := u20) hx hb hr hlocks h hP hK hD hS dM6_fork_91

