theorem dM6_work_0 : decode prog_8_method_10_code 0 = .ok (.aload_n 0, 1) := by decide +kernel
theorem dM6_work_1 : decode prog_8_method_10_code 1 = .ok (.getfield 37, 3) := by decide +kernel
theorem dM6_work_4 : decode prog_8_method_10_code 4 = .ok (.iload_n 1, 1) := by decide +kernel
theorem dM6_work_5 : decode prog_8_method_10_code 5 = .ok (.iload_n 2, 1) := by decide +kernel
theorem dM6_work_6 : decode prog_8_method_10_code 6 = .ok (.iastore, 1) := by decide +kernel
theorem dM6_work_7 : decode prog_8_method_10_code 7 = .ok (.aload_n 0, 1) := by decide +kernel
theorem dM6_work_8 : decode prog_8_method_10_code 8 = .ok (.getfield 40, 3) := by decide +kernel
theorem dM6_work_11 : decode prog_8_method_10_code 11 = .ok (.iload_n 1, 1) := by decide +kernel
theorem dM6_work_12 : decode prog_8_method_10_code 12 = .ok (.aload_n 0, 1) := by decide +kernel
theorem dM6_work_13 : decode prog_8_method_10_code 13 = .ok (.getfield 19, 3) := by decide +kernel
theorem dM6_work_16 : decode prog_8_method_10_code 16 = .ok (.iload_n 2, 1) := by decide +kernel
theorem dM6_work_17 : decode prog_8_method_10_code 17 = .ok (.iaload, 1) := by decide +kernel
theorem dM6_work_18 : decode prog_8_method_10_code 18 = .ok (.iastore, 1) := by decide +kernel
theorem dM6_work_19 : decode prog_8_method_10_code 19 = .ok (.aload_n 0, 1) := by decide +kernel
theorem dM6_work_20 : decode prog_8_method_10_code 20 = .ok (.getfield 22, 3) := by decide +kernel
theorem dM6_work_23 : decode prog_8_method_10_code 23 = .ok (.iload_n 2, 1) := by decide +kernel
theorem dM6_work_24 : decode prog_8_method_10_code 24 = .ok (.iconst 2, 1) := by decide +kernel
theorem dM6_work_25 : decode prog_8_method_10_code 25 = .ok (.iastore, 1) := by decide +kernel
theorem dM6_work_26 : decode prog_8_method_10_code 26 = .ok (.return_, 1) := by decide +kernel
def wpM6_work (K : KM) (post : gS → Prop) (u : gS) (p1 : Int32) (p2 : Int32) : Prop :=
  vp_in p1 8 ∧ (∀ u1 : gS, u1 = tA u 9 p1.toNatClampNeg p2 → (vp_in p2 24 ∧ (vp_in p1 8 ∧ (∀ u2 : gS, u2 = tA u1 10 p1.toNatClampNeg (sA u1 3 p2.toNatClampNeg) → (vp_in p2 24 ∧ (∀ u3 : gS, u3 = tA u2 4 p2.toNatClampNeg 2 → (post u3)))))))

set_option maxHeartbeats 8000000 in
set_option maxRecDepth 100000 in
theorem cM6_work (l : Launch) (dC : Nat → ClassId) (dI : Nat → Nat → Nat) (ad : Nat → Nat) (ca : Nat → ClassId) (K : KM) (sz : Nat) (u : gS) (p1 : Int32) (p2 : Int32) (post : gS → Prop)  (h : wpM6_work K post u p1 p2) : Met l ⟨"WorkHallModel", "work", "(II)V"⟩ (gw ⟨"WorkHallModel", "work", "(II)V"⟩ prog_8_method_10_code 3 none) ({ frames := 1, cells := 0, slots := 0, locals := 40 } : Room) (va_Pc [.ref (ad 0), .int p1, .int p2] (gB (dC, dI) vwCl (mT ca) mE (wM ad ca K u) sz)) (va_Qv post (gAt (dC, dI) vwCl (mT ca) (wM ad ca K) (va_A (wM ad ca K u) sz)) (va_A (wM ad ca K u) sz)) 0 0 (va_A (wM ad ca K u) sz) := by
  refine Met.ofW (cc := prog_8_method_10_code) (maxL := 3) (ret := none) (by decide) rfl ?_
  intro p e s m args below meth c s₁ B hml hv
  obtain ⟨rfl, hsz, hP, hK, hD0, hE⟩ := hv
  have hx := B.exec
  have hb := B.bytes
  have hr := B.returns
  have hts : ∀ w ∈ gW, w.before _ s = true := fun w h9 => atoms_spec (ws := (gw ⟨"WorkHallModel", "work", "(II)V"⟩ prog_8_method_10_code 3 none)) B.pre w (List.mem_cons_of_mem _ h9)
  have hown : s.vm.findClass RX6 = some m.cls := findClass_of_methodNamed B.named
  have hlocks := B.notSynchronized
  subst hsz
  have hD := hD0.self (sz := s.heap.size)
  generalize hAe : va_A (wM ad ca K u) s.heap.size = A at hD hE ⊢
  have hA : ∀ q : Nat, s.heap.size ≤ q → A q := fun q h => by rw [← hAe]; exact Or.inr h
  obtain ⟨H, hHe⟩ : ∃ z : Heap, z = s.heap := ⟨_, rfl⟩
  rw [← hHe]
  have hS : va_S A s.heap H [] := by rw [hHe]; exact va_S.rf
  have hP : va_P (dC, dI) vwCl (wM ad ca K u) H := by rw [hHe]; exact hP
  have hl := lv_entry ([.ref (ad 0), .int p1, .int p2]) (n := 3) (Nat.le_of_ble_eq_true rfl)
  rw [lg_entry_eq]
  generalize (lg_sl ([.ref (ad 0), .int p1, .int p2]) ++ List.replicate (3 - (lg_sl ([.ref (ad 0), .int p1, .int p2])).length) Slot.unset).toArray = ls at hl ⊢
  have hl : lv_has ls 3 [(0, .ref (ad 0)), (1, .int p1), (2, .int p2)] := hl
  clear hAe
  refine lv_aload_n hx hb dM6_work_0 rfl (lv_at hl 0 rfl) ?_
  refine va_get (D := (dC, dI)) (ci := 6) (v := .ref (ad 10)) (C := RX6) (T := TX6) (N := 36) hx hb hts uwX6 hown hK hP 0 rfl rfl 16 (by decide) (hts _ wd_719) (fun _ h9 => h9) rfl dM6_work_1 ?_
  refine lv_iload_n hx hb dM6_work_4 rfl (lv_at hl 1 rfl) ?_
  refine lv_iload_n hx hb dM6_work_5 rfl (lv_at hl 2 rfl) ?_
  refine va_iast hx hb hK hP hD hS 10 0 rfl rfl h.1 dM6_work_6 (fun H locs hP hD hS => ?_)
  have h := h.2
  obtain ⟨u1, eu1⟩ : ∃ z : gS, z = tA u 9 p1.toNatClampNeg p2 := ⟨_, rfl⟩
  have hP : va_P (dC, dI) vwCl (wM ad ca K u1) H := by rw [eu1, wM_a10]; exact hP
  have hD : va_D A (wM ad ca K u1) := by rw [eu1, wM_a10]; exact hD
  have h := h u1 eu1
  refine lv_aload_n hx hb dM6_work_7 rfl (lv_at hl 0 rfl) ?_
  refine va_get (D := (dC, dI)) (ci := 6) (v := .ref (ad 11)) (C := RX6) (T := TX6) (N := 36) hx hb hts uwX6 hown hK hP 0 rfl rfl 17 (by decide) (hts _ wd_720) (fun _ h9 => h9) rfl dM6_work_8 ?_
  refine lv_iload_n hx hb dM6_work_11 rfl (lv_at hl 1 rfl) ?_
  refine lv_aload_n hx hb dM6_work_12 rfl (lv_at hl 0 rfl) ?_
  refine va_get (D := (dC, dI)) (ci := 6) (v := .ref (ad 4)) (C := RX6) (T := TX6) (N := 36) hx hb hts uwX6 hown hK hP 0 rfl rfl 8 (by decide) (hts _ wd_711) (fun _ h9 => h9) rfl dM6_work_13 ?_
  refine lv_iload_n hx hb dM6_work_16 rfl (lv_at hl 2 rfl) ?_
  refine va_iald hx hb hK hP 4 0 rfl rfl h.1 dM6_work_17 ?_
  have h := h.2
  refine va_iast hx hb hK hP hD hS 11 0 rfl rfl h.1 dM6_work_18 (fun H locs hP hD hS => ?_)
  have h := h.2
  obtain ⟨u2, eu2⟩ : ∃ z : gS, z = tA u1 10 p1.toNatClampNeg (sA u1 3 p2.toNatClampNeg) := ⟨_, rfl⟩
  have hP : va_P (dC, dI) vwCl (wM ad ca K u2) H := by rw [eu2, wM_a11]; exact hP
  have hD : va_D A (wM ad ca K u2) := by rw [eu2, wM_a11]; exact hD
  have h := h u2 eu2
  refine lv_aload_n hx hb dM6_work_19 rfl (lv_at hl 0 rfl) ?_
  refine va_get (D := (dC, dI)) (ci := 6) (v := .ref (ad 5)) (C := RX6) (T := TX6) (N := 36) hx hb hts uwX6 hown hK hP 0 rfl rfl 9 (by decide) (hts _ wd_712) (fun _ h9 => h9) rfl dM6_work_20 ?_
  refine lv_iload_n hx hb dM6_work_23 rfl (lv_at hl 2 rfl) ?_
  refine lv_iconst (v := 2) hx hb dM6_work_24 (by decide) ?_
  refine va_iast hx hb hK hP hD hS 5 0 rfl rfl h.1 dM6_work_25 (fun H locs hP hD hS => ?_)
  have h := h.2
  obtain ⟨u3, eu3⟩ : ∃ z : gS, z = tA u2 4 p2.toNatClampNeg 2 := ⟨_, rfl⟩
  have hP : va_P (dC, dI) vwCl (wM ad ca K u3) H := by rw [eu3, wM_a5]; exact hP
  have hD : va_D A (wM ad ca K u3) := by rw [eu3, wM_a5]; exact hD
  have h := h u3 eu3
  exact gr_v (w := wM ad ca K) (u := u3) hx hb hr hlocks h hP hK hD hS dM6_work_26

theorem dM6_newWorker_0 : decode prog_8_method_9_code 0 = .ok (.aload_n 0, 1) := by decide +kernel
theorem dM6_newWorker_1 : decode prog_8_method_9_code 1 = .ok (.getfield 34, 3) := by decide +kernel
theorem dM6_newWorker_4 : decode prog_8_method_9_code 4 = .ok (.aload_n 0, 1) := by decide +kernel
theorem dM6_newWorker_5 : decode prog_8_method_9_code 5 = .ok (.getfield 98, 3) := by decide +kernel
theorem dM6_newWorker_8 : decode prog_8_method_9_code 8 = .ok (.aload_n 0, 1) := by decide +kernel
theorem dM6_newWorker_9 : decode prog_8_method_9_code 9 = .ok (.getfield 118, 3) := by decide +kernel
theorem dM6_newWorker_12 : decode prog_8_method_9_code 12 = .ok (.iastore, 1) := by decide +kernel
theorem dM6_newWorker_13 : decode prog_8_method_9_code 13 = .ok (.aload_n 0, 1) := by decide +kernel
theorem dM6_newWorker_14 : decode prog_8_method_9_code 14 = .ok (.dup, 1) := by decide +kernel
theorem dM6_newWorker_15 : decode prog_8_method_9_code 15 = .ok (.getfield 118, 3) := by decide +kernel
theorem dM6_newWorker_18 : decode prog_8_method_9_code 18 = .ok (.iconst 1, 1) := by decide +kernel
theorem dM6_newWorker_19 : decode prog_8_method_9_code 19 = .ok (.iadd, 1) := by decide +kernel
theorem dM6_newWorker_20 : decode prog_8_method_9_code 20 = .ok (.putfield 118, 3) := by decide +kernel
theorem dM6_newWorker_23 : decode prog_8_method_9_code 23 = .ok (.aload_n 0, 1) := by decide +kernel
theorem dM6_newWorker_24 : decode prog_8_method_9_code 24 = .ok (.dup, 1) := by decide +kernel
theorem dM6_newWorker_25 : decode prog_8_method_9_code 25 = .ok (.getfield 98, 3) := by decide +kernel
theorem dM6_newWorker_28 : decode prog_8_method_9_code 28 = .ok (.iconst 1, 1) := by decide +kernel
theorem dM6_newWorker_29 : decode prog_8_method_9_code 29 = .ok (.iadd, 1) := by decide +kernel
theorem dM6_newWorker_30 : decode prog_8_method_9_code 30 = .ok (.putfield 98, 3) := by decide +kernel
theorem dM6_newWorker_33 : decode prog_8_method_9_code 33 = .ok (.aload_n 0, 1) := by decide +kernel
theorem dM6_newWorker_34 : decode prog_8_method_9_code 34 = .ok (.getfield 98, 3) := by decide +kernel
theorem dM6_newWorker_37 : decode prog_8_method_9_code 37 = .ok (.aload_n 0, 1) := by decide +kernel
theorem dM6_newWorker_38 : decode prog_8_method_9_code 38 = .ok (.getfield 121, 3) := by decide +kernel
theorem dM6_newWorker_41 : decode prog_8_method_9_code 41 = .ok (.if_icmp .le 11, 3) := by decide +kernel
theorem dM6_newWorker_44 : decode prog_8_method_9_code 44 = .ok (.aload_n 0, 1) := by decide +kernel
theorem dM6_newWorker_45 : decode prog_8_method_9_code 45 = .ok (.aload_n 0, 1) := by decide +kernel
theorem dM6_newWorker_46 : decode prog_8_method_9_code 46 = .ok (.getfield 98, 3) := by decide +kernel
theorem dM6_newWorker_49 : decode prog_8_method_9_code 49 = .ok (.putfield 121, 3) := by decide +kernel
theorem dM6_newWorker_52 : decode prog_8_method_9_code 52 = .ok (.aload_n 0, 1) := by decide +kernel
theorem dM6_newWorker_53 : decode prog_8_method_9_code 53 = .ok (.aload_n 0, 1) := by decide +kernel
theorem dM6_newWorker_54 : decode prog_8_method_9_code 54 = .ok (.getfield 98, 3) := by decide +kernel
theorem dM6_newWorker_57 : decode prog_8_method_9_code 57 = .ok (.iconst 1, 1) := by decide +kernel
theorem dM6_newWorker_58 : decode prog_8_method_9_code 58 = .ok (.isub, 1) := by decide +kernel
theorem dM6_newWorker_59 : decode prog_8_method_9_code 59 = .ok (.iload_n 1, 1) := by decide +kernel
theorem dM6_newWorker_60 : decode prog_8_method_9_code 60 = .ok (.invokevirtual 124, 3) := by decide +kernel
theorem dM6_newWorker_63 : decode prog_8_method_9_code 63 = .ok (.return_, 1) := by decide +kernel
def wpM6_newWorker (K : KM) (post : gS → Prop) (u : gS) (p1 : Int32) : Prop :=
  vp_in (sI u 3) 8 ∧ (∀ u1 : gS, u1 = tA u 8 ((sI u 3).toNatClampNeg) (sI u 4) → (∀ u2 : gS, u2 = tI u1 4 ((sI u1 4) + 1) → (∀ u3 : gS, u3 = tI u2 3 ((sI u2 3) + 1) → ((((sI u3 3) ≤ (sI u3 5) → (wpM6_work K (fun (u6 : gS) => post u6) u3 ((sI u3 3) - 1) p1)) ∧ (¬ (sI u3 3) ≤ (sI u3 5) → (∀ u7 : gS, u7 = tI u3 5 (sI u3 3) → (wpM6_work K (fun (u9 : gS) => post u9) u7 ((sI u7 3) - 1) p1))))))))

set_option maxHeartbeats 8000000 in
set_option maxRecDepth 100000 in
theorem cM6_newWorker (l : Launch) (dC : Nat → ClassId) (dI : Nat → Nat → Nat) (ad : Nat → Nat) (ca : Nat → ClassId) (K : KM) (sz : Nat) (u : gS) (p1 : Int32) (post : gS → Prop)  (h : wpM6_newWorker K post u p1) : Met l ⟨"WorkHallModel", "newWorker", "(I)V"⟩ (gw ⟨"WorkHallModel", "newWorker", "(I)V"⟩ prog_8_method_9_code 2 none) ({ frames := 2, cells := 0, slots := 0, locals := 80 } : Room) (va_Pc [.ref (ad 0), .int p1] (gB (dC, dI) vwCl (mT ca) mE (wM ad ca K u) sz)) (va_Qv post (gAt (dC, dI) vwCl (mT ca) (wM ad ca K) (va_A (wM ad ca K u) sz)) (va_A (wM ad ca K u) sz)) 0 0 (va_A (wM ad ca K u) sz) := by
  refine Met.ofW (cc := prog_8_method_9_code) (maxL := 2) (ret := none) (by decide) rfl ?_
  intro p e s m args below meth c s₁ B hml hv
  obtain ⟨rfl, hsz, hP, hK, hD0, hE⟩ := hv
  have hx := B.exec
  have hb := B.bytes
  have hr := B.returns
  have hts : ∀ w ∈ gW, w.before _ s = true := fun w h9 => atoms_spec (ws := (gw ⟨"WorkHallModel", "newWorker", "(I)V"⟩ prog_8_method_9_code 2 none)) B.pre w (List.mem_cons_of_mem _ h9)
  have hown : s.vm.findClass RX6 = some m.cls := findClass_of_methodNamed B.named
  have hlocks := B.notSynchronized
  subst hsz
  have hD := hD0.self (sz := s.heap.size)
  generalize hAe : va_A (wM ad ca K u) s.heap.size = A at hD hE ⊢
  have hA : ∀ q : Nat, s.heap.size ≤ q → A q := fun q h => by rw [← hAe]; exact Or.inr h
  obtain ⟨H, hHe⟩ : ∃ z : Heap, z = s.heap := ⟨_, rfl⟩
  rw [← hHe]
  have hS : va_S A s.heap H [] := by rw [hHe]; exact va_S.rf
  have hP : va_P (dC, dI) vwCl (wM ad ca K u) H := by rw [hHe]; exact hP
  have hl := lv_entry ([.ref (ad 0), .int p1]) (n := 2) (Nat.le_of_ble_eq_true rfl)
  rw [lg_entry_eq]
  generalize (lg_sl ([.ref (ad 0), .int p1]) ++ List.replicate (2 - (lg_sl ([.ref (ad 0), .int p1])).length) Slot.unset).toArray = ls at hl ⊢
  have hl : lv_has ls 2 [(0, .ref (ad 0)), (1, .int p1)] := hl
  clear hAe
  refine lv_aload_n hx hb dM6_newWorker_0 rfl (lv_at hl 0 rfl) ?_
  refine va_get (D := (dC, dI)) (ci := 6) (v := .ref (ad 9)) (C := RX6) (T := TX6) (N := 36) hx hb hts uwX6 hown hK hP 0 rfl rfl 15 (by decide) (hts _ wd_718) (fun _ h9 => h9) rfl dM6_newWorker_1 ?_
  refine lv_aload_n hx hb dM6_newWorker_4 rfl (lv_at hl 0 rfl) ?_
  refine va_get (D := (dC, dI)) (ci := 6) (v := .int (sI u 3)) (C := RX6) (T := TX6) (N := 36) hx hb hts uwX6 hown hK hP 0 rfl rfl 19 (by decide) (hts _ wd_722) (fun _ h9 => h9) rfl dM6_newWorker_5 ?_
  refine lv_aload_n hx hb dM6_newWorker_8 rfl (lv_at hl 0 rfl) ?_
  refine va_get (D := (dC, dI)) (ci := 6) (v := .int (sI u 4)) (C := RX6) (T := TX6) (N := 36) hx hb hts uwX6 hown hK hP 0 rfl rfl 20 (by decide) (hts _ wd_723) (fun _ h9 => h9) rfl dM6_newWorker_9 ?_
  refine va_iast hx hb hK hP hD hS 9 0 rfl rfl h.1 dM6_newWorker_12 (fun H locs hP hD hS => ?_)
  have h := h.2
  obtain ⟨u1, eu1⟩ : ∃ z : gS, z = tA u 8 ((sI u 3).toNatClampNeg) (sI u 4) := ⟨_, rfl⟩
  have hP : va_P (dC, dI) vwCl (wM ad ca K u1) H := by rw [eu1, wM_a9]; exact hP
  have hD : va_D A (wM ad ca K u1) := by rw [eu1, wM_a9]; exact hD
  have h := h u1 eu1
  refine lv_aload_n hx hb dM6_newWorker_13 rfl (lv_at hl 0 rfl) ?_
  refine lv_dup hx hb dM6_newWorker_14 rfl ?_
  refine va_get (D := (dC, dI)) (ci := 6) (v := .int (sI u1 4)) (C := RX6) (T := TX6) (N := 36) hx hb hts uwX6 hown hK hP 0 rfl rfl 20 (by decide) (hts _ wd_723) (fun _ h9 => h9) rfl dM6_newWorker_15 ?_
  refine lv_iconst (v := 1) hx hb dM6_newWorker_18 (by decide) ?_
  refine lv_iadd hx hb dM6_newWorker_19 ?_
  refine va_put (D := (dC, dI)) (ci := 6) (v := .int ((sI u1 4) + 1)) (ty := tyX6 20) (C := RX6) (T := TX6) (N := 36) hx hb hts uwX6 tyX6 tyX6_ok nmX6 hown hK hP hD hS 0 rfl rfl 20 (by decide) (hts _ wd_723) (fun _ h9 => h9) rfl (tyX6_ok 20 (by decide)) rfl rfl (Nat.le_of_ble_eq_true rfl) dM6_newWorker_20 (fun H locs hP hD hS => ?_)
  obtain ⟨u2, eu2⟩ : ∃ z : gS, z = tI u1 4 ((sI u1 4) + 1) := ⟨_, rfl⟩
  have hP : va_P (dC, dI) vwCl (wM ad ca K u2) H := by rw [eu2, wM_f0_named]; exact hP
  have hD : va_D A (wM ad ca K u2) := by rw [eu2, wM_f0_named]; exact hD
  have h := h u2 eu2
  refine lv_aload_n hx hb dM6_newWorker_23 rfl (lv_at hl 0 rfl) ?_
  refine lv_dup hx hb dM6_newWorker_24 rfl ?_
  refine va_get (D := (dC, dI)) (ci := 6) (v := .int (sI u2 3)) (C := RX6) (T := TX6) (N := 36) hx hb hts uwX6 hown hK hP 0 rfl rfl 19 (by decide) (hts _ wd_722) (fun _ h9 => h9) rfl dM6_newWorker_25 ?_
  refine lv_iconst (v := 1) hx hb dM6_newWorker_28 (by decide) ?_
  refine lv_iadd hx hb dM6_newWorker_29 ?_
  refine va_put (D := (dC, dI)) (ci := 6) (v := .int ((sI u2 3) + 1)) (ty := tyX6 19) (C := RX6) (T := TX6) (N := 36) hx hb hts uwX6 tyX6 tyX6_ok nmX6 hown hK hP hD hS 0 rfl rfl 19 (by decide) (hts _ wd_722) (fun _ h9 => h9) rfl (tyX6_ok 19 (by decide)) rfl rfl (Nat.le_of_ble_eq_true rfl) dM6_newWorker_30 (fun H locs hP hD hS => ?_)
  obtain ⟨u3, eu3⟩ : ∃ z : gS, z = tI u2 3 ((sI u2 3) + 1) := ⟨_, rfl⟩
  have hP : va_P (dC, dI) vwCl (wM ad ca K u3) H := by rw [eu3, wM_f0_workers]; exact hP
  have hD : va_D A (wM ad ca K u3) := by rw [eu3, wM_f0_workers]; exact hD
  have h := h u3 eu3
  refine lv_aload_n hx hb dM6_newWorker_33 rfl (lv_at hl 0 rfl) ?_
  refine va_get (D := (dC, dI)) (ci := 6) (v := .int (sI u3 3)) (C := RX6) (T := TX6) (N := 36) hx hb hts uwX6 hown hK hP 0 rfl rfl 19 (by decide) (hts _ wd_722) (fun _ h9 => h9) rfl dM6_newWorker_34 ?_
  refine lv_aload_n hx hb dM6_newWorker_37 rfl (lv_at hl 0 rfl) ?_
  refine va_get (D := (dC, dI)) (ci := 6) (v := .int (sI u3 5)) (C := RX6) (T := TX6) (N := 36) hx hb hts uwX6 hown hK hP 0 rfl rfl 21 (by decide) (hts _ wd_724) (fun _ h9 => h9) rfl dM6_newWorker_38 ?_
  refine lv_icmp_le (tgt := 52) hx hb dM6_newWorker_41 (by decide) (fun c4 => ?_) (fun c4 => ?_)
  · have h := h.1 c4
    refine lv_aload_n hx hb dM6_newWorker_52 rfl (lv_at hl 0 rfl) ?_
    refine lv_aload_n hx hb dM6_newWorker_53 rfl (lv_at hl 0 rfl) ?_
    refine va_get (D := (dC, dI)) (ci := 6) (v := .int (sI u3 3)) (C := RX6) (T := TX6) (N := 36) hx hb hts uwX6 hown hK hP 0 rfl rfl 19 (by decide) (hts _ wd_722) (fun _ h9 => h9) rfl dM6_newWorker_54 ?_
    refine lv_iconst (v := 1) hx hb dM6_newWorker_57 (by decide) ?_
    refine lv_isub hx hb dM6_newWorker_58 ?_
    refine lv_iload_n hx hb dM6_newWorker_59 rfl (lv_at hl 1 rfl) ?_
    refine gc_v (w := wM ad ca K) (u := u3) (va_runV (As := [.int ((sI u3 3) - 1), .int p1]) (rest := []) ⟨hx, hb, hml, hown, hts⟩ (cM6_work l dC dI ad ca K H.size u3 ((sI u3 3) - 1) p1 _ h) (cwV 2 hts (gG_V wd_853 wd_855 wd_24 wd_52 wd_856) rfl rfl rfl (by decide +kernel) ⟨Nat.le_of_ble_eq_true rfl, Nat.le_of_ble_eq_true rfl⟩) ⟨gB_blind mE_ok, va_recv hK hP (ci := 6) (q0 := 0) rfl rfl, gB_pre mE_ok hP hK hD hE hS hA⟩ rfl rfl hl.1 rfl (lv_room (Nat.le_of_ble_eq_true rfl)) dM6_newWorker_60 ⟨Nat.le_of_ble_eq_true rfl, Nat.le_of_ble_eq_true rfl⟩) hD hS hA (fun u6 H locs h hP hD hS => ?_)
    exact gr_v (w := wM ad ca K) (u := u6) hx hb hr hlocks h hP hK hD hS dM6_newWorker_63
  · have h := h.2 c4
    refine lv_aload_n hx hb dM6_newWorker_44 rfl (lv_at hl 0 rfl) ?_
    refine lv_aload_n hx hb dM6_newWorker_45 rfl (lv_at hl 0 rfl) ?_
    refine va_get (D := (dC, dI)) (ci := 6) (v := .int (sI u3 3)) (C := RX6) (T := TX6) (N := 36) hx hb hts uwX6 hown hK hP 0 rfl rfl 19 (by decide) (hts _ wd_722) (fun _ h9 => h9) rfl dM6_newWorker_46 ?_
    refine va_put (D := (dC, dI)) (ci := 6) (v := .int (sI u3 3)) (ty := tyX6 21) (C := RX6) (T := TX6) (N := 36) hx hb hts uwX6 tyX6 tyX6_ok nmX6 hown hK hP hD hS 0 rfl rfl 21 (by decide) (hts _ wd_724) (fun _ h9 => h9) rfl (tyX6_ok 21 (by decide)) rfl rfl (Nat.le_of_ble_eq_true rfl) dM6_newWorker_49 (fun H locs hP hD hS => ?_)
    obtain ⟨u7, eu7⟩ : ∃ z : gS, z = tI u3 5 (sI u3 3) := ⟨_, rfl⟩
    have hP : va_P (dC, dI) vwCl (wM ad ca K u7) H := by rw [eu7, wM_f0_peak]; exact hP
    have hD : va_D A (wM ad ca K u7) := by rw [eu7, wM_f0_peak]; exact hD
    have h := h u7 eu7
    refine lv_aload_n hx hb dM6_newWorker_52 rfl (lv_at hl 0 rfl) ?_
    refine lv_aload_n hx hb dM6_newWorker_53 rfl (lv_at hl 0 rfl) ?_
    refine va_get (D := (dC, dI)) (ci := 6) (v := .int (sI u7 3)) (C := RX6) (T := TX6) (N := 36) hx hb hts uwX6 hown hK hP 0 rfl rfl 19 (by decide) (hts _ wd_722) (fun _ h9 => h9) rfl dM6_newWorker_54 ?_
    refine lv_iconst (v := 1) hx hb dM6_newWorker_57 (by decide) ?_
    refine lv_isub hx hb dM6_newWorker_58 ?_
    refine lv_iload_n hx hb dM6_newWorker_59 rfl (lv_at hl 1 rfl) ?_
    refine gc_v (w := wM ad ca K) (u := u7) (va_runV (As := [.int ((sI u7 3) - 1), .int p1]) (rest := []) ⟨hx, hb, hml, hown, hts⟩ (cM6_work l dC dI ad ca K H.size u7 ((sI u7 3) - 1) p1 _ h) (cwV 2 hts (gG_V wd_853 wd_855 wd_24 wd_52 wd_856) rfl rfl rfl (by decide +kernel) ⟨Nat.le_of_ble_eq_true rfl, Nat.le_of_ble_eq_true rfl⟩) ⟨gB_blind mE_ok, va_recv hK hP (ci := 6) (q0 := 0) rfl rfl, gB_pre mE_ok hP hK hD hE hS hA⟩ rfl rfl hl.1 rfl (lv_room (Nat.le_of_ble_eq_true rfl)) dM6_newWorker_60 ⟨Nat.le_of_ble_eq_true rfl, Nat.le_of_ble_eq_true rfl⟩) hD hS hA (fun u9 H locs h hP hD hS => ?_)
    exact gr_v (w := wM ad ca K) (u := u9) hx hb hr hlocks h hP hK hD hS dM6_newWorker_63

theorem dM6_rest_0 : decode prog_8_method_11_code 0 = .ok (.aload_n 0, 1) := by decide +kernel
theorem dM6_rest_1 : decode prog_8_method_11_code 1 = .ok (.getfield 37, 3) := by decide +kernel
theorem dM6_rest_4 : decode prog_8_method_11_code 4 = .ok (.iload_n 1, 1) := by decide +kernel
theorem dM6_rest_5 : decode prog_8_method_11_code 5 = .ok (.iconst (-1), 1) := by decide +kernel
theorem dM6_rest_6 : decode prog_8_method_11_code 6 = .ok (.iastore, 1) := by decide +kernel
theorem dM6_rest_7 : decode prog_8_method_11_code 7 = .ok (.aload_n 0, 1) := by decide +kernel
theorem dM6_rest_8 : decode prog_8_method_11_code 8 = .ok (.getfield 40, 3) := by decide +kernel
theorem dM6_rest_11 : decode prog_8_method_11_code 11 = .ok (.iload_n 1, 1) := by decide +kernel
theorem dM6_rest_12 : decode prog_8_method_11_code 12 = .ok (.iconst 0, 1) := by decide +kernel
theorem dM6_rest_13 : decode prog_8_method_11_code 13 = .ok (.iastore, 1) := by decide +kernel
theorem dM6_rest_14 : decode prog_8_method_11_code 14 = .ok (.aload_n 0, 1) := by decide +kernel
theorem dM6_rest_15 : decode prog_8_method_11_code 15 = .ok (.getfield 43, 3) := by decide +kernel
theorem dM6_rest_18 : decode prog_8_method_11_code 18 = .ok (.iload_n 1, 1) := by decide +kernel
theorem dM6_rest_19 : decode prog_8_method_11_code 19 = .ok (.aload_n 0, 1) := by decide +kernel
theorem dM6_rest_20 : decode prog_8_method_11_code 20 = .ok (.getfield 128, 3) := by decide +kernel
theorem dM6_rest_23 : decode prog_8_method_11_code 23 = .ok (.dastore, 1) := by decide +kernel
theorem dM6_rest_24 : decode prog_8_method_11_code 24 = .ok (.return_, 1) := by decide +kernel
def wpM6_rest (K : KM) (post : gS → Prop) (u : gS) (p1 : Int32) : Prop :=
  vp_in p1 8 ∧ (∀ u1 : gS, u1 = tA u 9 p1.toNatClampNeg (-1) → (vp_in p1 8 ∧ (∀ u2 : gS, u2 = tA u1 10 p1.toNatClampNeg 0 → (vp_in p1 8 ∧ (∀ u3 : gS, u3 = tB u2 0 p1.toNatClampNeg (sD u2 0) → (post u3))))))

set_option maxHeartbeats 8000000 in
set_option maxRecDepth 100000 in
theorem cM6_rest (l : Launch) (dC : Nat → ClassId) (dI : Nat → Nat → Nat) (ad : Nat → Nat) (ca : Nat → ClassId) (K : KM) (sz : Nat) (u : gS) (p1 : Int32) (post : gS → Prop)  (h : wpM6_rest K post u p1) : Met l ⟨"WorkHallModel", "rest", "(I)V"⟩ (gw ⟨"WorkHallModel", "rest", "(I)V"⟩ prog_8_method_11_code 2 none) ({ frames := 1, cells := 0, slots := 0, locals := 40 } : Room) (va_Pc [.ref (ad 0), .int p1] (gB (dC, dI) vwCl (mT ca) mE (wM ad ca K u) sz)) (va_Qv post (gAt (dC, dI) vwCl (mT ca) (wM ad ca K) (va_A (wM ad ca K u) sz)) (va_A (wM ad ca K u) sz)) 0 0 (va_A (wM ad ca K u) sz) := by
  refine Met.ofW (cc := prog_8_method_11_code) (maxL := 2) (ret := none) (by decide) rfl ?_
  intro p e s m args below meth c s₁ B hml hv
  obtain ⟨rfl, hsz, hP, hK, hD0, hE⟩ := hv
  have hx := B.exec
  have hb := B.bytes
  have hr := B.returns
  have hts : ∀ w ∈ gW, w.before _ s = true := fun w h9 => atoms_spec (ws := (gw ⟨"WorkHallModel", "rest", "(I)V"⟩ prog_8_method_11_code 2 none)) B.pre w (List.mem_cons_of_mem _ h9)
  have hown : s.vm.findClass RX6 = some m.cls := findClass_of_methodNamed B.named
  have hlocks := B.notSynchronized
  subst hsz
  have hD := hD0.self (sz := s.heap.size)
  generalize hAe : va_A (wM ad ca K u) s.heap.size = A at hD hE ⊢
  have hA : ∀ q : Nat, s.heap.size ≤ q → A q := fun q h => by rw [← hAe]; exact Or.inr h
  obtain ⟨H, hHe⟩ : ∃ z : Heap, z = s.heap := ⟨_, rfl⟩
  rw [← hHe]
  have hS : va_S A s.heap H [] := by rw [hHe]; exact va_S.rf
  have hP : va_P (dC, dI) vwCl (wM ad ca K u) H := by rw [hHe]; exact hP
  have hl := lv_entry ([.ref (ad 0), .int p1]) (n := 2) (Nat.le_of_ble_eq_true rfl)
  rw [lg_entry_eq]
  generalize (lg_sl ([.ref (ad 0), .int p1]) ++ List.replicate (2 - (lg_sl ([.ref (ad 0), .int p1])).length) Slot.unset).toArray = ls at hl ⊢
  have hl : lv_has ls 2 [(0, .ref (ad 0)), (1, .int p1)] := hl
  clear hAe
  refine lv_aload_n hx hb dM6_rest_0 rfl (lv_at hl 0 rfl) ?_
  refine va_get (D := (dC, dI)) (ci := 6) (v := .ref (ad 10)) (C := RX6) (T := TX6) (N := 36) hx hb hts uwX6 hown hK hP 0 rfl rfl 16 (by decide) (hts _ wd_719) (fun _ h9 => h9) rfl dM6_rest_1 ?_
  refine lv_iload_n hx hb dM6_rest_4 rfl (lv_at hl 1 rfl) ?_
  refine lv_iconst (v := (-1)) hx hb dM6_rest_5 (by decide) ?_
  refine va_iast hx hb hK hP hD hS 10 0 rfl rfl h.1 dM6_rest_6 (fun H locs hP hD hS => ?_)
  have h := h.2
  obtain ⟨u1, eu1⟩ : ∃ z : gS, z = tA u 9 p1.toNatClampNeg (-1) := ⟨_, rfl⟩
  have hP : va_P (dC, dI) vwCl (wM ad ca K u1) H := by rw [eu1, wM_a10]; exact hP
  have hD : va_D A (wM ad ca K u1) := by rw [eu1, wM_a10]; exact hD
  have h := h u1 eu1
  refine lv_aload_n hx hb dM6_rest_7 rfl (lv_at hl 0 rfl) ?_
  refine va_get (D := (dC, dI)) (ci := 6) (v := .ref (ad 11)) (C := RX6) (T := TX6) (N := 36) hx hb hts uwX6 hown hK hP 0 rfl rfl 17 (by decide) (hts _ wd_720) (fun _ h9 => h9) rfl dM6_rest_8 ?_
  refine lv_iload_n hx hb dM6_rest_11 rfl (lv_at hl 1 rfl) ?_
  refine lv_iconst (v := 0) hx hb dM6_rest_12 (by decide) ?_
  refine va_iast hx hb hK hP hD hS 11 0 rfl rfl h.1 dM6_rest_13 (fun H locs hP hD hS => ?_)
  have h := h.2
  obtain ⟨u2, eu2⟩ : ∃ z : gS, z = tA u1 10 p1.toNatClampNeg 0 := ⟨_, rfl⟩
  have hP : va_P (dC, dI) vwCl (wM ad ca K u2) H := by rw [eu2, wM_a11]; exact hP
  have hD : va_D A (wM ad ca K u2) := by rw [eu2, wM_a11]; exact hD
  have h := h u2 eu2
  refine lv_aload_n hx hb dM6_rest_14 rfl (lv_at hl 0 rfl) ?_
  refine va_get (D := (dC, dI)) (ci := 6) (v := .ref (ad 12)) (C := RX6) (T := TX6) (N := 36) hx hb hts uwX6 hown hK hP 0 rfl rfl 18 (by decide) (hts _ wd_721) (fun _ h9 => h9) rfl dM6_rest_15 ?_
  refine lv_iload_n hx hb dM6_rest_18 rfl (lv_at hl 1 rfl) ?_
  refine lv_aload_n hx hb dM6_rest_19 rfl (lv_at hl 0 rfl) ?_
  refine va_get (D := (dC, dI)) (ci := 6) (v := .double (sD u2 0)) (C := RX6) (T := TX6) (N := 36) hx hb hts uwX6 hown hK hP 0 rfl rfl 29 (by decide) (hts _ wd_732) (fun _ h9 => h9) rfl dM6_rest_20 ?_
  refine va_dast hx hb hK hP hD hS 12 1 rfl rfl h.1 dM6_rest_23 (fun H locs hP hD hS => ?_)
  have h := h.2
  obtain ⟨u3, eu3⟩ : ∃ z : gS, z = tB u2 0 p1.toNatClampNeg (sD u2 0) := ⟨_, rfl⟩
  have hP : va_P (dC, dI) vwCl (wM ad ca K u3) H := by rw [eu3, wM_a12]; exact hP
  have hD : va_D A (wM ad ca K u3) := by rw [eu3, wM_a12]; exact hD
  have h := h u3 eu3
  exact gr_v (w := wM ad ca K) (u := u3) hx hb hr hlocks h hP hK hD hS dM6_rest_24

theorem dM6_enqueue_0 : decode prog_8_method_12_code 0 = .ok (.aload_n 0, 1) := by decide +kernel
theorem dM6_enqueue_1 : decode prog_8_method_12_code 1 = .ok (.getfield 47, 3) := by decide +kernel
theorem dM6_enqueue_4 : decode prog_8_method_12_code 4 = .ok (.aload_n 0, 1) := by decide +kernel
theorem dM6_enqueue_5 : decode prog_8_method_12_code 5 = .ok (.getfield 91, 3) := by decide +kernel
theorem dM6_enqueue_8 : decode prog_8_method_12_code 8 = .ok (.iload_n 1, 1) := by decide +kernel
theorem dM6_enqueue_9 : decode prog_8_method_12_code 9 = .ok (.iastore, 1) := by decide +kernel
theorem dM6_enqueue_10 : decode prog_8_method_12_code 10 = .ok (.aload_n 0, 1) := by decide +kernel
theorem dM6_enqueue_11 : decode prog_8_method_12_code 11 = .ok (.getfield 50, 3) := by decide +kernel
theorem dM6_enqueue_14 : decode prog_8_method_12_code 14 = .ok (.aload_n 0, 1) := by decide +kernel
theorem dM6_enqueue_15 : decode prog_8_method_12_code 15 = .ok (.getfield 91, 3) := by decide +kernel
theorem dM6_enqueue_18 : decode prog_8_method_12_code 18 = .ok (.aload_n 0, 1) := by decide +kernel
theorem dM6_enqueue_19 : decode prog_8_method_12_code 19 = .ok (.getfield 128, 3) := by decide +kernel
theorem dM6_enqueue_22 : decode prog_8_method_12_code 22 = .ok (.dastore, 1) := by decide +kernel
theorem dM6_enqueue_23 : decode prog_8_method_12_code 23 = .ok (.aload_n 0, 1) := by decide +kernel
theorem dM6_enqueue_24 : decode prog_8_method_12_code 24 = .ok (.dup, 1) := by decide +kernel
theorem dM6_enqueue_25 : decode prog_8_method_12_code 25 = .ok (.getfield 91, 3) := by decide +kernel
theorem dM6_enqueue_28 : decode prog_8_method_12_code 28 = .ok (.iconst 1, 1) := by decide +kernel
theorem dM6_enqueue_29 : decode prog_8_method_12_code 29 = .ok (.iadd, 1) := by decide +kernel
theorem dM6_enqueue_30 : decode prog_8_method_12_code 30 = .ok (.putfield 91, 3) := by decide +kernel
theorem dM6_enqueue_33 : decode prog_8_method_12_code 33 = .ok (.aload_n 0, 1) := by decide +kernel
theorem dM6_enqueue_34 : decode prog_8_method_12_code 34 = .ok (.getfield 22, 3) := by decide +kernel
theorem dM6_enqueue_37 : decode prog_8_method_12_code 37 = .ok (.iload_n 1, 1) := by decide +kernel
theorem dM6_enqueue_38 : decode prog_8_method_12_code 38 = .ok (.iconst 1, 1) := by decide +kernel
theorem dM6_enqueue_39 : decode prog_8_method_12_code 39 = .ok (.iastore, 1) := by decide +kernel
theorem dM6_enqueue_40 : decode prog_8_method_12_code 40 = .ok (.return_, 1) := by decide +kernel
def wpM6_enqueue (K : KM) (post : gS → Prop) (u : gS) (p1 : Int32) : Prop :=
  vp_in (sI u 6) 8 ∧ (∀ u1 : gS, u1 = tA u 11 ((sI u 6).toNatClampNeg) p1 → (vp_in (sI u1 6) 8 ∧ (∀ u2 : gS, u2 = tB u1 1 ((sI u1 6).toNatClampNeg) (sD u1 0) → (∀ u3 : gS, u3 = tI u2 6 ((sI u2 6) + 1) → (vp_in p1 24 ∧ (∀ u4 : gS, u4 = tA u3 4 p1.toNatClampNeg 1 → (post u4)))))))

set_option maxHeartbeats 8000000 in
set_option maxRecDepth 100000 in
theorem cM6_enqueue (l : Launch) (dC : Nat → ClassId) (dI : Nat → Nat → Nat) (ad : Nat → Nat) (ca : Nat → ClassId) (K : KM) (sz : Nat) (u : gS) (p1 : Int32) (post : gS → Prop)  (h : wpM6_enqueue K post u p1) : Met l ⟨"WorkHallModel", "enqueue", "(I)V"⟩ (gw ⟨"WorkHallModel", "enqueue", "(I)V"⟩ prog_8_method_12_code 2 none) ({ frames := 1, cells := 0, slots := 0, locals := 40 } : Room) (va_Pc [.ref (ad 0), .int p1] (gB (dC, dI) vwCl (mT ca) mE (wM ad ca K u) sz)) (va_Qv post (gAt (dC, dI) vwCl (mT ca) (wM ad ca K) (va_A (wM ad ca K u) sz)) (va_A (wM ad ca K u) sz)) 0 0 (va_A (wM ad ca K u) sz) := by
  refine Met.ofW (cc := prog_8_method_12_code) (maxL := 2) (ret := none) (by decide) rfl ?_
  intro p e s m args below meth c s₁ B hml hv
  obtain ⟨rfl, hsz, hP, hK, hD0, hE⟩ := hv
  have hx := B.exec
  have hb := B.bytes
  have hr := B.returns
  have hts : ∀ w ∈ gW, w.before _ s = true := fun w h9 => atoms_spec (ws := (gw ⟨"WorkHallModel", "enqueue", "(I)V"⟩ prog_8_method_12_code 2 none)) B.pre w (List.mem_cons_of_mem _ h9)
  have hown : s.vm.findClass RX6 = some m.cls := findClass_of_methodNamed B.named
  have hlocks := B.notSynchronized
  subst hsz
  have hD := hD0.self (sz := s.heap.size)
  generalize hAe : va_A (wM ad ca K u) s.heap.size = A at hD hE ⊢
  have hA : ∀ q : Nat, s.heap.size ≤ q → A q := fun q h => by rw [← hAe]; exact Or.inr h
  obtain ⟨H, hHe⟩ : ∃ z : Heap, z = s.heap := ⟨_, rfl⟩
  rw [← hHe]
  have hS : va_S A s.heap H [] := by rw [hHe]; exact va_S.rf
  have hP : va_P (dC, dI) vwCl (wM ad ca K u) H := by rw [hHe]; exact hP
  have hl := lv_entry ([.ref (ad 0), .int p1]) (n := 2) (Nat.le_of_ble_eq_true rfl)
  rw [lg_entry_eq]
  generalize (lg_sl ([.ref (ad 0), .int p1]) ++ List.replicate (2 - (lg_sl ([.ref (ad 0), .int p1])).length) Slot.unset).toArray = ls at hl ⊢
  have hl : lv_has ls 2 [(0, .ref (ad 0)), (1, .int p1)] := hl
  clear hAe
  refine lv_aload_n hx hb dM6_enqueue_0 rfl (lv_at hl 0 rfl) ?_
  refine va_get (D := (dC, dI)) (ci := 6) (v := .ref (ad 13)) (C := RX6) (T := TX6) (N := 36) hx hb hts uwX6 hown hK hP 0 rfl rfl 22 (by decide) (hts _ wd_725) (fun _ h9 => h9) rfl dM6_enqueue_1 ?_
  refine lv_aload_n hx hb dM6_enqueue_4 rfl (lv_at hl 0 rfl) ?_
  refine va_get (D := (dC, dI)) (ci := 6) (v := .int (sI u 6)) (C := RX6) (T := TX6) (N := 36) hx hb hts uwX6 hown hK hP 0 rfl rfl 24 (by decide) (hts _ wd_727) (fun _ h9 => h9) rfl dM6_enqueue_5 ?_
  refine lv_iload_n hx hb dM6_enqueue_8 rfl (lv_at hl 1 rfl) ?_
  refine va_iast hx hb hK hP hD hS 13 0 rfl rfl h.1 dM6_enqueue_9 (fun H locs hP hD hS => ?_)
  have h := h.2
  obtain ⟨u1, eu1⟩ : ∃ z : gS, z = tA u 11 ((sI u 6).toNatClampNeg) p1 := ⟨_, rfl⟩
  have hP : va_P (dC, dI) vwCl (wM ad ca K u1) H := by rw [eu1, wM_a13]; exact hP
  have hD : va_D A (wM ad ca K u1) := by rw [eu1, wM_a13]; exact hD
  have h := h u1 eu1
  refine lv_aload_n hx hb dM6_enqueue_10 rfl (lv_at hl 0 rfl) ?_
  refine va_get (D := (dC, dI)) (ci := 6) (v := .ref (ad 14)) (C := RX6) (T := TX6) (N := 36) hx hb hts uwX6 hown hK hP 0 rfl rfl 23 (by decide) (hts _ wd_726) (fun _ h9 => h9) rfl dM6_enqueue_11 ?_
  refine lv_aload_n hx hb dM6_enqueue_14 rfl (lv_at hl 0 rfl) ?_
  refine va_get (D := (dC, dI)) (ci := 6) (v := .int (sI u1 6)) (C := RX6) (T := TX6) (N := 36) hx hb hts uwX6 hown hK hP 0 rfl rfl 24 (by decide) (hts _ wd_727) (fun _ h9 => h9) rfl dM6_enqueue_15 ?_
  refine lv_aload_n hx hb dM6_enqueue_18 rfl (lv_at hl 0 rfl) ?_
  refine va_get (D := (dC, dI)) (ci := 6) (v := .double (sD u1 0)) (C := RX6) (T := TX6) (N := 36) hx hb hts uwX6 hown hK hP 0 rfl rfl 29 (by decide) (hts _ wd_732) (fun _ h9 => h9) rfl dM6_enqueue_19 ?_
  refine va_dast hx hb hK hP hD hS 14 1 rfl rfl h.1 dM6_enqueue_22 (fun H locs hP hD hS => ?_)
  have h := h.2
  obtain ⟨u2, eu2⟩ : ∃ z : gS, z = tB u1 1 ((sI u1 6).toNatClampNeg) (sD u1 0) := ⟨_, rfl⟩
  have hP : va_P (dC, dI) vwCl (wM ad ca K u2) H := by rw [eu2, wM_a14]; exact hP
  have hD : va_D A (wM ad ca K u2) := by rw [eu2, wM_a14]; exact hD
  have h := h u2 eu2
  refine lv_aload_n hx hb dM6_enqueue_23 rfl (lv_at hl 0 rfl) ?_
  refine lv_dup hx hb dM6_enqueue_24 rfl ?_
  refine va_get (D := (dC, dI)) (ci := 6) (v := .int (sI u2 6)) (C := RX6) (T := TX6) (N := 36) hx hb hts uwX6 hown hK hP 0 rfl rfl 24 (by decide) (hts _ wd_727) (fun _ h9 => h9) rfl dM6_enqueue_25 ?_
  refine lv_iconst (v := 1) hx hb dM6_enqueue_28 (by decide) ?_
  refine lv_iadd hx hb dM6_enqueue_29 ?_
  refine va_put (D := (dC, dI)) (ci := 6) (v := .int ((sI u2 6) + 1)) (ty := tyX6 24) (C := RX6) (T := TX6) (N := 36) hx hb hts uwX6 tyX6 tyX6_ok nmX6 hown hK hP hD hS 0 rfl rfl 24 (by decide) (hts _ wd_727) (fun _ h9 => h9) rfl (tyX6_ok 24 (by decide)) rfl rfl (Nat.le_of_ble_eq_true rfl) dM6_enqueue_30 (fun H locs hP hD hS => ?_)
  obtain ⟨u3, eu3⟩ : ∃ z : gS, z = tI u2 6 ((sI u2 6) + 1) := ⟨_, rfl⟩
  have hP : va_P (dC, dI) vwCl (wM ad ca K u3) H := by rw [eu3, wM_f0_queued]; exact hP
  have hD : va_D A (wM ad ca K u3) := by rw [eu3, wM_f0_queued]; exact hD
  have h := h u3 eu3
  refine lv_aload_n hx hb dM6_enqueue_33 rfl (lv_at hl 0 rfl) ?_
  refine va_get (D := (dC, dI)) (ci := 6) (v := .ref (ad 5)) (C := RX6) (T := TX6) (N := 36) hx hb hts uwX6 hown hK hP 0 rfl rfl 9 (by decide) (hts _ wd_712) (fun _ h9 => h9) rfl dM6_enqueue_34 ?_
  refine lv_iload_n hx hb dM6_enqueue_37 rfl (lv_at hl 1 rfl) ?_
  refine lv_iconst (v := 1) hx hb dM6_enqueue_38 (by decide) ?_
  refine va_iast hx hb hK hP hD hS 5 0 rfl rfl h.1 dM6_enqueue_39 (fun H locs hP hD hS => ?_)
  have h := h.2
  obtain ⟨u4, eu4⟩ : ∃ z : gS, z = tA u3 4 p1.toNatClampNeg 1 := ⟨_, rfl⟩
  have hP : va_P (dC, dI) vwCl (wM ad ca K u4) H := by rw [eu4, wM_a5]; exact hP
  have hD : va_D A (wM ad ca K u4) := by rw [eu4, wM_a5]; exact hD
  have h := h u4 eu4
  exact gr_v (w := wM ad ca K) (u := u4) hx hb hr hlocks h hP hK hD hS dM6_enqueue_40

theorem dM6_dequeue_0 : decode prog_8_method_13_code 0 = .ok (.aload_n 0, 1) := by decide +kernel
theorem dM6_dequeue_1 : decode prog_8_method_13_code 1 = .ok (.getfield 47, 3) := by decide +kernel
theorem dM6_dequeue_4 : decode prog_8_method_13_code 4 = .ok (.iload_n 1, 1) := by decide +kernel
theorem dM6_dequeue_5 : decode prog_8_method_13_code 5 = .ok (.iaload, 1) := by decide +kernel
theorem dM6_dequeue_6 : decode prog_8_method_13_code 6 = .ok (.istore_n 2, 1) := by decide +kernel
theorem dM6_dequeue_7 : decode prog_8_method_13_code 7 = .ok (.aload_n 0, 1) := by decide +kernel
theorem dM6_dequeue_8 : decode prog_8_method_13_code 8 = .ok (.dup, 1) := by decide +kernel
theorem dM6_dequeue_9 : decode prog_8_method_13_code 9 = .ok (.getfield 91, 3) := by decide +kernel
theorem dM6_dequeue_12 : decode prog_8_method_13_code 12 = .ok (.iconst 1, 1) := by decide +kernel
theorem dM6_dequeue_13 : decode prog_8_method_13_code 13 = .ok (.isub, 1) := by decide +kernel
theorem dM6_dequeue_14 : decode prog_8_method_13_code 14 = .ok (.putfield 91, 3) := by decide +kernel
theorem dM6_dequeue_17 : decode prog_8_method_13_code 17 = .ok (.iload_n 1, 1) := by decide +kernel
theorem dM6_dequeue_18 : decode prog_8_method_13_code 18 = .ok (.istore_n 3, 1) := by decide +kernel
theorem dM6_dequeue_19 : decode prog_8_method_13_code 19 = .ok (.iload_n 3, 1) := by decide +kernel
theorem dM6_dequeue_20 : decode prog_8_method_13_code 20 = .ok (.aload_n 0, 1) := by decide +kernel
theorem dM6_dequeue_21 : decode prog_8_method_13_code 21 = .ok (.getfield 91, 3) := by decide +kernel
theorem dM6_dequeue_24 : decode prog_8_method_13_code 24 = .ok (.if_icmp .ge 37, 3) := by decide +kernel
theorem dM6_dequeue_27 : decode prog_8_method_13_code 27 = .ok (.aload_n 0, 1) := by decide +kernel
theorem dM6_dequeue_28 : decode prog_8_method_13_code 28 = .ok (.getfield 47, 3) := by decide +kernel
theorem dM6_dequeue_31 : decode prog_8_method_13_code 31 = .ok (.iload_n 3, 1) := by decide +kernel
theorem dM6_dequeue_32 : decode prog_8_method_13_code 32 = .ok (.aload_n 0, 1) := by decide +kernel
theorem dM6_dequeue_33 : decode prog_8_method_13_code 33 = .ok (.getfield 47, 3) := by decide +kernel
theorem dM6_dequeue_36 : decode prog_8_method_13_code 36 = .ok (.iload_n 3, 1) := by decide +kernel
theorem dM6_dequeue_37 : decode prog_8_method_13_code 37 = .ok (.iconst 1, 1) := by decide +kernel
theorem dM6_dequeue_38 : decode prog_8_method_13_code 38 = .ok (.iadd, 1) := by decide +kernel
theorem dM6_dequeue_39 : decode prog_8_method_13_code 39 = .ok (.iaload, 1) := by decide +kernel
theorem dM6_dequeue_40 : decode prog_8_method_13_code 40 = .ok (.iastore, 1) := by decide +kernel
theorem dM6_dequeue_41 : decode prog_8_method_13_code 41 = .ok (.aload_n 0, 1) := by decide +kernel
theorem dM6_dequeue_42 : decode prog_8_method_13_code 42 = .ok (.getfield 50, 3) := by decide +kernel
theorem dM6_dequeue_45 : decode prog_8_method_13_code 45 = .ok (.iload_n 3, 1) := by decide +kernel
theorem dM6_dequeue_46 : decode prog_8_method_13_code 46 = .ok (.aload_n 0, 1) := by decide +kernel
theorem dM6_dequeue_47 : decode prog_8_method_13_code 47 = .ok (.getfield 50, 3) := by decide +kernel
theorem dM6_dequeue_50 : decode prog_8_method_13_code 50 = .ok (.iload_n 3, 1) := by decide +kernel
theorem dM6_dequeue_51 : decode prog_8_method_13_code 51 = .ok (.iconst 1, 1) := by decide +kernel
theorem dM6_dequeue_52 : decode prog_8_method_13_code 52 = .ok (.iadd, 1) := by decide +kernel
theorem dM6_dequeue_53 : decode prog_8_method_13_code 53 = .ok (.daload, 1) := by decide +kernel
theorem dM6_dequeue_54 : decode prog_8_method_13_code 54 = .ok (.dastore, 1) := by decide +kernel
theorem dM6_dequeue_55 : decode prog_8_method_13_code 55 = .ok (.iinc 3 1, 3) := by decide +kernel
theorem dM6_dequeue_58 : decode prog_8_method_13_code 58 = .ok (.goto (-39), 3) := by decide +kernel
theorem dM6_dequeue_61 : decode prog_8_method_13_code 61 = .ok (.iload_n 2, 1) := by decide +kernel
theorem dM6_dequeue_62 : decode prog_8_method_13_code 62 = .ok (.ireturn, 1) := by decide +kernel
def wpM6_dequeue_19 (K : KM) (post : Int32 → gS → Prop) : Nat → Int32 → Int32 → Int32 → gS → Prop
  | 0 => fun _ _ _ _ => False
  | n + 1 => fun l1 l2 l3 u => (((sI u 6) ≤ l3 → (post l2 u)) ∧ (¬ (sI u 6) ≤ l3 → (vp_in (l3 + 1) 8 ∧ (vp_in l3 8 ∧ (∀ u4 : gS, u4 = tA u 11 l3.toNatClampNeg (sA u 11 (l3 + 1).toNatClampNeg) → (vp_in (l3 + 1) 8 ∧ (vp_in l3 8 ∧ (∀ u5 : gS, u5 = tB u4 1 l3.toNatClampNeg (sB u4 1 (l3 + 1).toNatClampNeg) → (∀ x6 : Int32, x6 = l3 + 1 → (wpM6_dequeue_19 K post n l1 l2 x6 u5))))))))))

def wpM6_dequeue (K : KM) (post : Int32 → gS → Prop) (u : gS) (p1 : Int32) : Prop :=
  vp_in p1 8 ∧ (∀ x1 : Int32, x1 = sA u 11 p1.toNatClampNeg → (∀ u2 : gS, u2 = tI u 6 ((sI u 6) - 1) → (∃ n19 : Nat, wpM6_dequeue_19 K post n19 p1 x1 p1 u2)))

set_option maxHeartbeats 8000000 in
set_option maxRecDepth 100000 in
theorem wpM6_dequeue_19_ok {p : Program} {l : Launch} {e : Env} {s : State} {m : MethodId} {args : Array Value} {below : List Frame} {meth : Method} {c : Code} {dC : Nat → ClassId} {dI : Nat → Nat → Nat} {ad : Nat → Nat} {ca : Nat → ClassId} {K : KM} {A : Nat → Prop} {post : Int32 → gS → Prop}   (hx : p.tables.exec = Jvm.exec) (hb : c.code = prog_8_method_13_code) (hr : meth.sig.returnType = (some .int)) (hml : c.maxLocals = 4) (hown : s.vm.findClass RX6 = some m.cls) (hts : ∀ w ∈ gW, w.before args s = true) (hlocks : meth.locks = false) (hK : va_K (dC, dI) vwCl (mT ca) s) (hA : ∀ q, s.heap.size ≤ q → A q) (hE : mE A s s.heap) :
    ∀ (n : Nat) (l1 : Int32) (l2 : Int32) (l3 : Int32) (u : gS) (H : Heap) (locs : List Loc) (ls : Array Slot), wpM6_dequeue_19 K post n l1 l2 l3 u → va_P (dC, dI) vwCl (wM ad ca K u) H → va_D A (wM ad ca K u) → va_S A s.heap H locs → lv_has ls 4 [(0, .ref (ad 0)), (1, .int l1), (2, .int l2), (3, .int l3)] → W p l e (headSpec (gw ⟨"WorkHallModel", "dequeue", "(I)I"⟩ prog_8_method_13_code 4 (some .int)) ({ frames := 1, cells := 0, slots := 0, locals := 40 } : Room)).room s m args below meth c H locs 0 0 (MQ below (va_Qi post (gAt (dC, dI) vwCl (mT ca) (wM ad ca K) (A)) (A)) args s 0 0 A) (F0 m 19 ls []) := by
  intro n
  induction n with
  | zero => exact fun _ _ _ _ _ _ _ h => h.elim
  | succ n ih =>
    intro l1 l2 l3 u H locs ls h hP hD hS hl
    refine lv_iload_n hx hb dM6_dequeue_19 rfl (lv_at hl 3 rfl) ?_
    refine lv_aload_n hx hb dM6_dequeue_20 rfl (lv_at hl 0 rfl) ?_
    refine va_get (D := (dC, dI)) (ci := 6) (v := .int (sI u 6)) (C := RX6) (T := TX6) (N := 36) hx hb hts uwX6 hown hK hP 0 rfl rfl 24 (by decide) (hts _ wd_727) (fun _ h9 => h9) rfl dM6_dequeue_21 ?_
    refine lv_icmp_ge (tgt := 61) hx hb dM6_dequeue_24 (by decide) (fun c3 => ?_) (fun c3 => ?_)
    · have h := h.1 c3
      refine lv_iload_n hx hb dM6_dequeue_61 rfl (lv_at hl 2 rfl) ?_
      exact gr_i (w := wM ad ca K) (u := u) hx hb hr hlocks h hP hK hD hS dM6_dequeue_62
    · have h := h.2 c3
      refine lv_aload_n hx hb dM6_dequeue_27 rfl (lv_at hl 0 rfl) ?_
      refine va_get (D := (dC, dI)) (ci := 6) (v := .ref (ad 13)) (C := RX6) (T := TX6) (N := 36) hx hb hts uwX6 hown hK hP 0 rfl rfl 22 (by decide) (hts _ wd_725) (fun _ h9 => h9) rfl dM6_dequeue_28 ?_
      refine lv_iload_n hx hb dM6_dequeue_31 rfl (lv_at hl 3 rfl) ?_
      refine lv_aload_n hx hb dM6_dequeue_32 rfl (lv_at hl 0 rfl) ?_
      refine va_get (D := (dC, dI)) (ci := 6) (v := .ref (ad 13)) (C := RX6) (T := TX6) (N := 36) hx hb hts uwX6 hown hK hP 0 rfl rfl 22 (by decide) (hts _ wd_725) (fun _ h9 => h9) rfl dM6_dequeue_33 ?_
      refine lv_iload_n hx hb dM6_dequeue_36 rfl (lv_at hl 3 rfl) ?_
      refine lv_iconst (v := 1) hx hb dM6_dequeue_37 (by decide) ?_
      refine lv_iadd hx hb dM6_dequeue_38 ?_
      refine va_iald hx hb hK hP 13 0 rfl rfl h.1 dM6_dequeue_39 ?_
      have h := h.2
      refine va_iast hx hb hK hP hD hS 13 0 rfl rfl h.1 dM6_dequeue_40 (fun H locs hP hD hS => ?_)
      have h := h.2
      obtain ⟨u4, eu4⟩ : ∃ z : gS, z = tA u 11 l3.toNatClampNeg (sA u 11 (l3 + 1).toNatClampNeg) := ⟨_, rfl⟩
      have hP : va_P (dC, dI) vwCl (wM ad ca K u4) H := by rw [eu4, wM_a13]; exact hP
      have hD : va_D A (wM ad ca K u4) := by rw [eu4, wM_a13]; exact hD
      have h := h u4 eu4
      refine lv_aload_n hx hb dM6_dequeue_41 rfl (lv_at hl 0 rfl) ?_
      refine va_get (D := (dC, dI)) (ci := 6) (v := .ref (ad 14)) (C := RX6) (T := TX6) (N := 36) hx hb hts uwX6 hown hK hP 0 rfl rfl 23 (by decide) (hts _ wd_726) (fun _ h9 => h9) rfl dM6_dequeue_42 ?_
      refine lv_iload_n hx hb dM6_dequeue_45 rfl (lv_at hl 3 rfl) ?_
      refine lv_aload_n hx hb dM6_dequeue_46 rfl (lv_at hl 0 rfl) ?_
      refine va_get (D := (dC, dI)) (ci := 6) (v := .ref (ad 14)) (C := RX6) (T := TX6) (N := 36) hx hb hts uwX6 hown hK hP 0 rfl rfl 23 (by decide) (hts _ wd_726) (fun _ h9 => h9) rfl dM6_dequeue_47 ?_
      refine lv_iload_n hx hb dM6_dequeue_50 rfl (lv_at hl 3 rfl) ?_
      refine lv_iconst (v := 1) hx hb dM6_dequeue_51 (by decide) ?_
      refine lv_iadd hx hb dM6_dequeue_52 ?_
      refine va_dald hx hb hK hP 14 1 rfl rfl h.1 dM6_dequeue_53 ?_
      have h := h.2
      refine va_dast hx hb hK hP hD hS 14 1 rfl rfl h.1 dM6_dequeue_54 (fun H locs hP hD hS => ?_)
      have h := h.2
      obtain ⟨u5, eu5⟩ : ∃ z : gS, z = tB u4 1 l3.toNatClampNeg (sB u4 1 (l3 + 1).toNatClampNeg) := ⟨_, rfl⟩
      have hP : va_P (dC, dI) vwCl (wM ad ca K u5) H := by rw [eu5, wM_a14]; exact hP
      have hD : va_D A (wM ad ca K u5) := by rw [eu5, wM_a14]; exact hD
      have h := h u5 eu5
      obtain ⟨x6, ex6⟩ : ∃ y : Int32, y = l3 + 1 := ⟨_, rfl⟩
      have h := h x6 ex6
      refine lv_iinc (v := x6) (lv' := [(3, .int x6), (0, .ref (ad 0)), (1, .int l1), (2, .int l2)]) hx hb dM6_dequeue_55 hl (k := 3) rfl (by rw [ex6]; rfl) (by decide) rfl (fun ls hl => ?_)
      refine lv_goto (tgt := 19) hx hb dM6_dequeue_58 (by decide) ?_
      exact ih l1 l2 x6 u5 _ _ _ h hP hD hS (lv_sub hl [1, 2, 3, 0] rfl)

set_option maxHeartbeats 8000000 in
set_option maxRecDepth 100000 in
theorem cM6_dequeue (l : Launch) (dC : Nat → ClassId) (dI : Nat → Nat → Nat) (ad : Nat → Nat) (ca : Nat → ClassId) (K : KM) (sz : Nat) (u : gS) (p1 : Int32) (post : Int32 → gS → Prop)  (h : wpM6_dequeue K post u p1) : Met l ⟨"WorkHallModel", "dequeue", "(I)I"⟩ (gw ⟨"WorkHallModel", "dequeue", "(I)I"⟩ prog_8_method_13_code 4 (some .int)) ({ frames := 1, cells := 0, slots := 0, locals := 40 } : Room) (va_Pc [.ref (ad 0), .int p1] (gB (dC, dI) vwCl (mT ca) mE (wM ad ca K u) sz)) (va_Qi post (gAt (dC, dI) vwCl (mT ca) (wM ad ca K) (va_A (wM ad ca K u) sz)) (va_A (wM ad ca K u) sz)) 0 0 (va_A (wM ad ca K u) sz) := by
  refine Met.ofW (cc := prog_8_method_13_code) (maxL := 4) (ret := (some .int)) (by decide) rfl ?_
  intro p e s m args below meth c s₁ B hml hv
  obtain ⟨rfl, hsz, hP, hK, hD0, hE⟩ := hv
  have hx := B.exec
  have hb := B.bytes
  have hr := B.returns
  have hts : ∀ w ∈ gW, w.before _ s = true := fun w h9 => atoms_spec (ws := (gw ⟨"WorkHallModel", "dequeue", "(I)I"⟩ prog_8_method_13_code 4 (some .int))) B.pre w (List.mem_cons_of_mem _ h9)
  have hown : s.vm.findClass RX6 = some m.cls := findClass_of_methodNamed B.named
  have hlocks := B.notSynchronized
  subst hsz
  have hD := hD0.self (sz := s.heap.size)
  generalize hAe : va_A (wM ad ca K u) s.heap.size = A at hD hE ⊢
  have hA : ∀ q : Nat, s.heap.size ≤ q → A q := fun q h => by rw [← hAe]; exact Or.inr h
  obtain ⟨H, hHe⟩ : ∃ z : Heap, z = s.heap := ⟨_, rfl⟩
  rw [← hHe]
  have hS : va_S A s.heap H [] := by rw [hHe]; exact va_S.rf
  have hP : va_P (dC, dI) vwCl (wM ad ca K u) H := by rw [hHe]; exact hP
  have hl := lv_entry ([.ref (ad 0), .int p1]) (n := 4) (Nat.le_of_ble_eq_true rfl)
  rw [lg_entry_eq]
  generalize (lg_sl ([.ref (ad 0), .int p1]) ++ List.replicate (4 - (lg_sl ([.ref (ad 0), .int p1])).length) Slot.unset).toArray = ls at hl ⊢
  have hl : lv_has ls 4 [(0, .ref (ad 0)), (1, .int p1)] := hl
  clear hAe
  refine lv_aload_n hx hb dM6_dequeue_0 rfl (lv_at hl 0 rfl) ?_
  refine va_get (D := (dC, dI)) (ci := 6) (v := .ref (ad 13)) (C := RX6) (T := TX6) (N := 36) hx hb hts uwX6 hown hK hP 0 rfl rfl 22 (by decide) (hts _ wd_725) (fun _ h9 => h9) rfl dM6_dequeue_1 ?_
  refine lv_iload_n hx hb dM6_dequeue_4 rfl (lv_at hl 1 rfl) ?_
  refine va_iald hx hb hK hP 13 0 rfl rfl h.1 dM6_dequeue_5 ?_
  have h := h.2
  refine lv_topi (fun x1 ex1 => ?_)
  have h := h x1 ex1
  refine lv_istore_n (lv' := [(2, .int x1), (0, .ref (ad 0)), (1, .int p1)]) hx hb dM6_dequeue_6 rfl hl (by decide) rfl (fun ls hl => ?_)
  refine lv_aload_n hx hb dM6_dequeue_7 rfl (lv_at hl 1 rfl) ?_
  refine lv_dup hx hb dM6_dequeue_8 rfl ?_
  refine va_get (D := (dC, dI)) (ci := 6) (v := .int (sI u 6)) (C := RX6) (T := TX6) (N := 36) hx hb hts uwX6 hown hK hP 0 rfl rfl 24 (by decide) (hts _ wd_727) (fun _ h9 => h9) rfl dM6_dequeue_9 ?_
  refine lv_iconst (v := 1) hx hb dM6_dequeue_12 (by decide) ?_
  refine lv_isub hx hb dM6_dequeue_13 ?_
  refine va_put (D := (dC, dI)) (ci := 6) (v := .int ((sI u 6) - 1)) (ty := tyX6 24) (C := RX6) (T := TX6) (N := 36) hx hb hts uwX6 tyX6 tyX6_ok nmX6 hown hK hP hD hS 0 rfl rfl 24 (by decide) (hts _ wd_727) (fun _ h9 => h9) rfl (tyX6_ok 24 (by decide)) rfl rfl (Nat.le_of_ble_eq_true rfl) dM6_dequeue_14 (fun H locs hP hD hS => ?_)
  obtain ⟨u2, eu2⟩ : ∃ z : gS, z = tI u 6 ((sI u 6) - 1) := ⟨_, rfl⟩
  have hP : va_P (dC, dI) vwCl (wM ad ca K u2) H := by rw [eu2, wM_f0_queued]; exact hP
  have hD : va_D A (wM ad ca K u2) := by rw [eu2, wM_f0_queued]; exact hD
  have h := h u2 eu2
  refine lv_iload_n hx hb dM6_dequeue_17 rfl (lv_at hl 2 rfl) ?_
  refine lv_istore_n (lv' := [(3, .int p1), (2, .int x1), (0, .ref (ad 0)), (1, .int p1)]) hx hb dM6_dequeue_18 rfl hl (by decide) rfl (fun ls hl => ?_)
  obtain ⟨n19, h⟩ := h
  exact wpM6_dequeue_19_ok hx hb hr hml hown hts hlocks hK hA hE n19 p1 x1 p1 u2 _ _ _ h hP hD hS (lv_sub hl [2, 3, 1, 0] rfl)

theorem dM6_fetch_0 : decode prog_8_method_14_code 0 = .ok (.aload_n 0, 1) := by decide +kernel
theorem dM6_fetch_1 : decode prog_8_method_14_code 1 = .ok (.getfield 91, 3) := by decide +kernel
theorem dM6_fetch_4 : decode prog_8_method_14_code 4 = .ok (.ifCond .ne 5, 3) := by decide +kernel
theorem dM6_fetch_7 : decode prog_8_method_14_code 7 = .ok (.iconst (-1), 1) := by decide +kernel
theorem dM6_fetch_8 : decode prog_8_method_14_code 8 = .ok (.ireturn, 1) := by decide +kernel
theorem dM6_fetch_9 : decode prog_8_method_14_code 9 = .ok (.aload_n 0, 1) := by decide +kernel
theorem dM6_fetch_10 : decode prog_8_method_14_code 10 = .ok (.dup, 1) := by decide +kernel
theorem dM6_fetch_11 : decode prog_8_method_14_code 11 = .ok (.getfield 132, 3) := by decide +kernel
theorem dM6_fetch_14 : decode prog_8_method_14_code 14 = .ok (.aload_n 0, 1) := by decide +kernel
theorem dM6_fetch_15 : decode prog_8_method_14_code 15 = .ok (.getfield 128, 3) := by decide +kernel
theorem dM6_fetch_18 : decode prog_8_method_14_code 18 = .ok (.aload_n 0, 1) := by decide +kernel
theorem dM6_fetch_19 : decode prog_8_method_14_code 19 = .ok (.getfield 50, 3) := by decide +kernel
theorem dM6_fetch_22 : decode prog_8_method_14_code 22 = .ok (.iconst 0, 1) := by decide +kernel
theorem dM6_fetch_23 : decode prog_8_method_14_code 23 = .ok (.daload, 1) := by decide +kernel
theorem dM6_fetch_24 : decode prog_8_method_14_code 24 = .ok (.dsub, 1) := by decide +kernel
theorem dM6_fetch_25 : decode prog_8_method_14_code 25 = .ok (.dadd, 1) := by decide +kernel
theorem dM6_fetch_26 : decode prog_8_method_14_code 26 = .ok (.putfield 132, 3) := by decide +kernel
theorem dM6_fetch_29 : decode prog_8_method_14_code 29 = .ok (.aload_n 0, 1) := by decide +kernel
theorem dM6_fetch_30 : decode prog_8_method_14_code 30 = .ok (.dup, 1) := by decide +kernel
theorem dM6_fetch_31 : decode prog_8_method_14_code 31 = .ok (.getfield 135, 3) := by decide +kernel
theorem dM6_fetch_34 : decode prog_8_method_14_code 34 = .ok (.iconst 1, 1) := by decide +kernel
theorem dM6_fetch_35 : decode prog_8_method_14_code 35 = .ok (.iadd, 1) := by decide +kernel
theorem dM6_fetch_36 : decode prog_8_method_14_code 36 = .ok (.putfield 135, 3) := by decide +kernel
theorem dM6_fetch_39 : decode prog_8_method_14_code 39 = .ok (.aload_n 0, 1) := by decide +kernel
theorem dM6_fetch_40 : decode prog_8_method_14_code 40 = .ok (.iconst 0, 1) := by decide +kernel
theorem dM6_fetch_41 : decode prog_8_method_14_code 41 = .ok (.invokevirtual 138, 3) := by decide +kernel
theorem dM6_fetch_44 : decode prog_8_method_14_code 44 = .ok (.ireturn, 1) := by decide +kernel
def wpM6_fetch (K : KM) (post : Int32 → gS → Prop) (u : gS)  : Prop :=
  ((¬ (sI u 6) = 0 → (vp_in 0 8 ∧ (vf_n64 (FP.dsub (sD u 0) (sB u 1 (0 : Int32).toNatClampNeg)) ∧ (vf_n64 (FP.dadd (sD u 1) (FP.dsub (sD u 0) (sB u 1 (0 : Int32).toNatClampNeg))) ∧ (∀ u2 : gS, u2 = tD u 1 (FP.dadd (sD u 1) (FP.dsub (sD u 0) (sB u 1 (0 : Int32).toNatClampNeg))) → (∀ u3 : gS, u3 = tI u2 9 ((sI u2 9) + 1) → (wpM6_dequeue K (fun (r4 : Int32) (u5 : gS) => post r4 u5) u3 0))))))) ∧ ((sI u 6) = 0 → (post (-1) u)))

set_option maxHeartbeats 8000000 in
set_option maxRecDepth 100000 in
theorem cM6_fetch (l : Launch) (dC : Nat → ClassId) (dI : Nat → Nat → Nat) (ad : Nat → Nat) (ca : Nat → ClassId) (K : KM) (sz : Nat) (u : gS)  (post : Int32 → gS → Prop)  (h : wpM6_fetch K post u ) : Met l ⟨"WorkHallModel", "fetch", "()I"⟩ (gw ⟨"WorkHallModel", "fetch", "()I"⟩ prog_8_method_14_code 1 (some .int)) ({ frames := 2, cells := 0, slots := 0, locals := 80 } : Room) (va_Pc [.ref (ad 0)] (gB (dC, dI) vwCl (mT ca) mE (wM ad ca K u) sz)) (va_Qi post (gAt (dC, dI) vwCl (mT ca) (wM ad ca K) (va_A (wM ad ca K u) sz)) (va_A (wM ad ca K u) sz)) 0 0 (va_A (wM ad ca K u) sz) := by
  refine Met.ofW (cc := prog_8_method_14_code) (maxL := 1) (ret := (some .int)) (by decide) rfl ?_
  intro p e s m args below meth c s₁ B hml hv
  obtain ⟨rfl, hsz, hP, hK, hD0, hE⟩ := hv
  have hx := B.exec
  have hb := B.bytes
  have hr := B.returns
  have hts : ∀ w ∈ gW, w.before _ s = true := fun w h9 => atoms_spec (ws := (gw ⟨"WorkHallModel", "fetch", "()I"⟩ prog_8_method_14_code 1 (some .int))) B.pre w (List.mem_cons_of_mem _ h9)
  have hown : s.vm.findClass RX6 = some m.cls := findClass_of_methodNamed B.named
  have hlocks := B.notSynchronized
  subst hsz
  have hD := hD0.self (sz := s.heap.size)
  generalize hAe : va_A (wM ad ca K u) s.heap.size = A at hD hE ⊢
  have hA : ∀ q : Nat, s.heap.size ≤ q → A q := fun q h => by rw [← hAe]; exact Or.inr h
  obtain ⟨H, hHe⟩ : ∃ z : Heap, z = s.heap := ⟨_, rfl⟩
  rw [← hHe]
  have hS : va_S A s.heap H [] := by rw [hHe]; exact va_S.rf
  have hP : va_P (dC, dI) vwCl (wM ad ca K u) H := by rw [hHe]; exact hP
  have hl := lv_entry ([.ref (ad 0)]) (n := 1) (Nat.le_of_ble_eq_true rfl)
  rw [lg_entry_eq]
  generalize (lg_sl ([.ref (ad 0)]) ++ List.replicate (1 - (lg_sl ([.ref (ad 0)])).length) Slot.unset).toArray = ls at hl ⊢
  have hl : lv_has ls 1 [(0, .ref (ad 0))] := hl
  clear hAe
  refine lv_aload_n hx hb dM6_fetch_0 rfl (lv_at hl 0 rfl) ?_
  refine va_get (D := (dC, dI)) (ci := 6) (v := .int (sI u 6)) (C := RX6) (T := TX6) (N := 36) hx hb hts uwX6 hown hK hP 0 rfl rfl 24 (by decide) (hts _ wd_727) (fun _ h9 => h9) rfl dM6_fetch_1 ?_
  refine lv_if_ne (tgt := 9) hx hb dM6_fetch_4 (by decide) (fun c1 => ?_) (fun c1 => ?_)
  · have h := h.1 c1
    refine lv_aload_n hx hb dM6_fetch_9 rfl (lv_at hl 0 rfl) ?_
    refine lv_dup hx hb dM6_fetch_10 rfl ?_
    refine va_get (D := (dC, dI)) (ci := 6) (v := .double (sD u 1)) (C := RX6) (T := TX6) (N := 36) hx hb hts uwX6 hown hK hP 0 rfl rfl 31 (by decide) (hts _ wd_734) (fun _ h9 => h9) rfl dM6_fetch_11 ?_
    refine lv_aload_n hx hb dM6_fetch_14 rfl (lv_at hl 0 rfl) ?_
    refine va_get (D := (dC, dI)) (ci := 6) (v := .double (sD u 0)) (C := RX6) (T := TX6) (N := 36) hx hb hts uwX6 hown hK hP 0 rfl rfl 29 (by decide) (hts _ wd_732) (fun _ h9 => h9) rfl dM6_fetch_15 ?_
    refine lv_aload_n hx hb dM6_fetch_18 rfl (lv_at hl 0 rfl) ?_
    refine va_get (D := (dC, dI)) (ci := 6) (v := .ref (ad 14)) (C := RX6) (T := TX6) (N := 36) hx hb hts uwX6 hown hK hP 0 rfl rfl 23 (by decide) (hts _ wd_726) (fun _ h9 => h9) rfl dM6_fetch_19 ?_
    refine lv_iconst (v := 0) hx hb dM6_fetch_22 (by decide) ?_
    refine va_dald hx hb hK hP 14 1 rfl rfl h.1 dM6_fetch_23 ?_
    have h := h.2
    refine lv_dsub hx hb dM6_fetch_24 h.1 ?_
    have h := h.2
    refine lv_dadd hx hb dM6_fetch_25 h.1 ?_
    have h := h.2
    refine va_put (D := (dC, dI)) (ci := 6) (v := .double (FP.dadd (sD u 1) (FP.dsub (sD u 0) (sB u 1 (0 : Int32).toNatClampNeg)))) (ty := tyX6 31) (C := RX6) (T := TX6) (N := 36) hx hb hts uwX6 tyX6 tyX6_ok nmX6 hown hK hP hD hS 0 rfl rfl 31 (by decide) (hts _ wd_734) (fun _ h9 => h9) rfl (tyX6_ok 31 (by decide)) rfl rfl (Nat.le_of_ble_eq_true rfl) dM6_fetch_26 (fun H locs hP hD hS => ?_)
    obtain ⟨u2, eu2⟩ : ∃ z : gS, z = tD u 1 (FP.dadd (sD u 1) (FP.dsub (sD u 0) (sB u 1 (0 : Int32).toNatClampNeg))) := ⟨_, rfl⟩
    have hP : va_P (dC, dI) vwCl (wM ad ca K u2) H := by rw [eu2, wM_f0_delaySum]; exact hP
    have hD : va_D A (wM ad ca K u2) := by rw [eu2, wM_f0_delaySum]; exact hD
    have h := h u2 eu2
    refine lv_aload_n hx hb dM6_fetch_29 rfl (lv_at hl 0 rfl) ?_
    refine lv_dup hx hb dM6_fetch_30 rfl ?_
    refine va_get (D := (dC, dI)) (ci := 6) (v := .int (sI u2 9)) (C := RX6) (T := TX6) (N := 36) hx hb hts uwX6 hown hK hP 0 rfl rfl 32 (by decide) (hts _ wd_735) (fun _ h9 => h9) rfl dM6_fetch_31 ?_
    refine lv_iconst (v := 1) hx hb dM6_fetch_34 (by decide) ?_
    refine lv_iadd hx hb dM6_fetch_35 ?_
    refine va_put (D := (dC, dI)) (ci := 6) (v := .int ((sI u2 9) + 1)) (ty := tyX6 32) (C := RX6) (T := TX6) (N := 36) hx hb hts uwX6 tyX6 tyX6_ok nmX6 hown hK hP hD hS 0 rfl rfl 32 (by decide) (hts _ wd_735) (fun _ h9 => h9) rfl (tyX6_ok 32 (by decide)) rfl rfl (Nat.le_of_ble_eq_true rfl) dM6_fetch_36 (fun H locs hP hD hS => ?_)
    obtain ⟨u3, eu3⟩ : ∃ z : gS, z = tI u2 9 ((sI u2 9) + 1) := ⟨_, rfl⟩
    have hP : va_P (dC, dI) vwCl (wM ad ca K u3) H := by rw [eu3, wM_f0_delayCount]; exact hP
    have hD : va_D A (wM ad ca K u3) := by rw [eu3, wM_f0_delayCount]; exact hD
    have h := h u3 eu3
    refine lv_aload_n hx hb dM6_fetch_39 rfl (lv_at hl 0 rfl) ?_
    refine lv_iconst (v := 0) hx hb dM6_fetch_40 (by decide) ?_
    refine gc_i (w := wM ad ca K) (u := u3) (va_runV (As := [.int 0]) (rest := []) ⟨hx, hb, hml, hown, hts⟩ (cM6_dequeue l dC dI ad ca K H.size u3 0 _ h) (cwV 1 hts (gG_V wd_861 wd_863 wd_26 wd_52 wd_864) rfl rfl rfl (by decide +kernel) ⟨Nat.le_of_ble_eq_true rfl, Nat.le_of_ble_eq_true rfl⟩) ⟨gB_blind mE_ok, va_recv hK hP (ci := 6) (q0 := 0) rfl rfl, gB_pre mE_ok hP hK hD hE hS hA⟩ rfl rfl hl.1 rfl (lv_room (Nat.le_of_ble_eq_true rfl)) dM6_fetch_41 ⟨Nat.le_of_ble_eq_true rfl, Nat.le_of_ble_eq_true rfl⟩) hD hS hA (fun r4 u5 H locs h hP hD hS => ?_)
    exact gr_i (w := wM ad ca K) (u := u5) hx hb hr hlocks h hP hK hD hS dM6_fetch_44
  · have h := h.2 c1
    refine lv_iconst (v := (-1)) hx hb dM6_fetch_7 (by decide) ?_
    exact gr_i (w := wM ad ca K) (u := u) hx hb hr hlocks h hP hK hD hS dM6_fetch_8

