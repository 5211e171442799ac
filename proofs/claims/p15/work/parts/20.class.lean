theorem dX4_begin_0 : decode prog_6_method_2_code 0 = .ok (.aload_n 1, 1) := by decide +kernel
theorem dX4_begin_1 : decode prog_6_method_2_code 1 = .ok (.iconst 2, 1) := by decide +kernel
theorem dX4_begin_2 : decode prog_6_method_2_code 2 = .ok (.putfield 23, 3) := by decide +kernel
theorem dX4_begin_5 : decode prog_6_method_2_code 5 = .ok (.aload_n 0, 1) := by decide +kernel
theorem dX4_begin_6 : decode prog_6_method_2_code 6 = .ok (.aload_n 1, 1) := by decide +kernel
theorem dX4_begin_7 : decode prog_6_method_2_code 7 = .ok (.putfield 9, 3) := by decide +kernel
theorem dX4_begin_10 : decode prog_6_method_2_code 10 = .ok (.aload_n 0, 1) := by decide +kernel
theorem dX4_begin_11 : decode prog_6_method_2_code 11 = .ok (.aload_n 1, 1) := by decide +kernel
theorem dX4_begin_12 : decode prog_6_method_2_code 12 = .ok (.getfield 28, 3) := by decide +kernel
theorem dX4_begin_15 : decode prog_6_method_2_code 15 = .ok (.putfield 15, 3) := by decide +kernel
theorem dX4_begin_18 : decode prog_6_method_2_code 18 = .ok (.return_, 1) := by decide +kernel
def wpX4_begin (K : KX) (post : gS → Prop) (u : gS) (y0 : Nat) (p1 : Nat) : Prop :=
  ∀ u1 : gS, u1 = tA u 0 p1 2 → (∀ u2 : gS, u2 = tQ u1 4 y0 (some p1) → (∀ u3 : gS, u3 = tA u2 3 y0 (K.2.2.2.1 p1 4) → (post u3)))

set_option maxHeartbeats 8000000 in
set_option maxRecDepth 100000 in
theorem cX4_begin (l : Launch) (dC : Nat → ClassId) (dI : Nat → Nat → Nat) (ad : Nat → Nat) (ca : Nat → ClassId) (K : KX) (sz : Nat) (u : gS) (y0 : Nat) (p1 : Nat) (post : gS → Prop) (hy0 : y0 ∈ K.2.1) (hp1 : p1 ∈ K.2.2.1) (h : wpX4_begin K post u y0 p1) : Met l ⟨"WorkHall$Worker", "begin", "(LWorkHall$Job;)V"⟩ (gw ⟨"WorkHall$Worker", "begin", "(LWorkHall$Job;)V"⟩ prog_6_method_2_code 2 none) ({ frames := 1, cells := 0, slots := 0, locals := 40 } : Room) (va_Pc [.ref y0, .ref p1] (gB (dC, dI) vwCl (xT ca) xE (wX ad ca K u) sz)) (va_Qv post (gAt (dC, dI) vwCl (xT ca) (wX ad ca K) (va_A (wX ad ca K u) sz)) (va_A (wX ad ca K u) sz)) 0 0 (va_A (wX ad ca K u) sz) := by
  refine Met.ofW (cc := prog_6_method_2_code) (maxL := 2) (ret := none) (by decide) rfl ?_
  intro p e s m args below meth c s₁ B hml hv
  obtain ⟨rfl, hsz, hP, hK, hD0, hE⟩ := hv
  have hx := B.exec
  have hb := B.bytes
  have hr := B.returns
  have hts : ∀ w ∈ gW, w.before _ s = true := fun w h9 => atoms_spec (ws := (gw ⟨"WorkHall$Worker", "begin", "(LWorkHall$Job;)V"⟩ prog_6_method_2_code 2 none)) B.pre w (List.mem_cons_of_mem _ h9)
  have hown : s.vm.findClass RX4 = some m.cls := findClass_of_methodNamed B.named
  have hlocks := B.notSynchronized
  subst hsz
  have hD := hD0.self (sz := s.heap.size)
  generalize hAe : va_A (wX ad ca K u) s.heap.size = A at hD hE ⊢
  have hA : ∀ q : Nat, s.heap.size ≤ q → A q := fun q h => by rw [← hAe]; exact Or.inr h
  obtain ⟨H, hHe⟩ : ∃ z : Heap, z = s.heap := ⟨_, rfl⟩
  rw [← hHe]
  have hS : va_S A s.heap H [] := by rw [hHe]; exact va_S.rf
  have hP : va_P (dC, dI) vwCl (wX ad ca K u) H := by rw [hHe]; exact hP
  have hl := lv_entry ([.ref y0, .ref p1]) (n := 2) (Nat.le_of_ble_eq_true rfl)
  rw [lg_entry_eq]
  generalize (lg_sl ([.ref y0, .ref p1]) ++ List.replicate (2 - (lg_sl ([.ref y0, .ref p1])).length) Slot.unset).toArray = ls at hl ⊢
  have hl : lv_has ls 2 [(0, .ref y0), (1, .ref p1)] := hl
  clear hAe
  refine lv_aload_n hx hb dX4_begin_0 rfl (lv_at hl 1 rfl) ?_
  refine lv_iconst (v := 2) hx hb dX4_begin_1 (by decide) ?_
  obtain ⟨k9, hk9⟩ := xJ_get hp1
  have e9 := xJ_state (v := 2) hD hp1 hk9
  refine va_put (D := (dC, dI)) (ci := 5) (v := .int 2) (ty := tyX5 5) (C := RX5) (T := TX5) (N := 9) hx hb hts uwX5 tyX5 tyX5_ok nmX5 hown hK hP hD hS k9 hk9 rfl 5 (by decide) (hts _ wd_326) (fun _ h9 => h9) rfl (tyX5_ok 5 (by decide)) rfl rfl (Nat.le_of_ble_eq_true rfl) dX4_begin_2 (fun H locs hP hD hS => ?_)
  obtain ⟨u1, eu1⟩ : ∃ z : gS, z = tA u 0 p1 2 := ⟨_, rfl⟩
  have hP : va_P (dC, dI) vwCl (wX ad ca K u1) H := by rw [eu1, ← e9]; exact hP
  have hD : va_D A (wX ad ca K u1) := by rw [eu1, ← e9]; exact hD
  have h := h u1 eu1
  refine lv_aload_n hx hb dX4_begin_5 rfl (lv_at hl 0 rfl) ?_
  refine lv_aload_n hx hb dX4_begin_6 rfl (lv_at hl 1 rfl) ?_
  obtain ⟨k9, hk9⟩ := xW_get hy0
  have e9 := xW_job (v := (some p1)) hD hy0 hk9
  refine va_put (D := (dC, dI)) (ci := 4) (v := va_rf (some p1)) (ty := tyX4 0) (C := RX4) (T := TX4) (N := 3) hx hb hts uwX4 tyX4 tyX4_ok nmX4 hown hK hP hD hS k9 hk9 rfl 0 (by decide) (hts _ wd_86) (fun _ h9 => h9) rfl (tyX4_ok 0 (by decide)) rfl rfl (Nat.le_of_ble_eq_true rfl) dX4_begin_7 (fun H locs hP hD hS => ?_)
  obtain ⟨u2, eu2⟩ : ∃ z : gS, z = tQ u1 4 y0 (some p1) := ⟨_, rfl⟩
  have hP : va_P (dC, dI) vwCl (wX ad ca K u2) H := by rw [eu2, ← e9]; exact hP
  have hD : va_D A (wX ad ca K u2) := by rw [eu2, ← e9]; exact hD
  have h := h u2 eu2
  refine lv_aload_n hx hb dX4_begin_10 rfl (lv_at hl 0 rfl) ?_
  refine lv_aload_n hx hb dX4_begin_11 rfl (lv_at hl 1 rfl) ?_
  obtain ⟨k9, hk9⟩ := xJ_get hp1
  refine va_get (D := (dC, dI)) (ci := 5) (v := .int (K.2.2.2.1 p1 4)) (C := RX5) (T := TX5) (N := 9) hx hb hts uwX5 hown hK hP k9 hk9 rfl 4 (by decide) (hts _ wd_324) (fun _ h9 => h9) rfl dX4_begin_12 ?_
  obtain ⟨k9, hk9⟩ := xW_get hy0
  have e9 := xW_left (v := K.2.2.2.1 p1 4) hD hy0 hk9
  refine va_put (D := (dC, dI)) (ci := 4) (v := .int (K.2.2.2.1 p1 4)) (ty := tyX4 1) (C := RX4) (T := TX4) (N := 3) hx hb hts uwX4 tyX4 tyX4_ok nmX4 hown hK hP hD hS k9 hk9 rfl 1 (by decide) (hts _ wd_89) (fun _ h9 => h9) rfl (tyX4_ok 1 (by decide)) rfl rfl (Nat.le_of_ble_eq_true rfl) dX4_begin_15 (fun H locs hP hD hS => ?_)
  obtain ⟨u3, eu3⟩ : ∃ z : gS, z = tA u2 3 y0 (K.2.2.2.1 p1 4) := ⟨_, rfl⟩
  have hP : va_P (dC, dI) vwCl (wX ad ca K u3) H := by rw [eu3, ← e9]; exact hP
  have hD : va_D A (wX ad ca K u3) := by rw [eu3, ← e9]; exact hD
  have h := h u3 eu3
  exact gr_v (w := wX ad ca K) (u := u3) hx hb hr hlocks h hP hK hD hS dX4_begin_18

theorem dX4_rest_0 : decode prog_6_method_3_code 0 = .ok (.aload_n 0, 1) := by decide +kernel
theorem dX4_rest_1 : decode prog_6_method_3_code 1 = .ok (.aconst_null, 1) := by decide +kernel
theorem dX4_rest_2 : decode prog_6_method_3_code 2 = .ok (.putfield 9, 3) := by decide +kernel
theorem dX4_rest_5 : decode prog_6_method_3_code 5 = .ok (.aload_n 0, 1) := by decide +kernel
theorem dX4_rest_6 : decode prog_6_method_3_code 6 = .ok (.iconst 0, 1) := by decide +kernel
theorem dX4_rest_7 : decode prog_6_method_3_code 7 = .ok (.putfield 15, 3) := by decide +kernel
theorem dX4_rest_10 : decode prog_6_method_3_code 10 = .ok (.aload_n 0, 1) := by decide +kernel
theorem dX4_rest_11 : decode prog_6_method_3_code 11 = .ok (.dload_n 1, 1) := by decide +kernel
theorem dX4_rest_12 : decode prog_6_method_3_code 12 = .ok (.putfield 19, 3) := by decide +kernel
theorem dX4_rest_15 : decode prog_6_method_3_code 15 = .ok (.return_, 1) := by decide +kernel
def wpX4_rest (K : KX) (post : gS → Prop) (u : gS) (y0 : Nat) (p1 : UInt64) : Prop :=
  ∀ u1 : gS, u1 = tQ u 4 y0 none → (∀ u2 : gS, u2 = tA u1 3 y0 0 → (∀ u3 : gS, u3 = tB u2 3 y0 p1 → (post u3)))

set_option maxHeartbeats 8000000 in
set_option maxRecDepth 100000 in
theorem cX4_rest (l : Launch) (dC : Nat → ClassId) (dI : Nat → Nat → Nat) (ad : Nat → Nat) (ca : Nat → ClassId) (K : KX) (sz : Nat) (u : gS) (y0 : Nat) (p1 : UInt64) (post : gS → Prop) (hy0 : y0 ∈ K.2.1) (h : wpX4_rest K post u y0 p1) : Met l ⟨"WorkHall$Worker", "rest", "(D)V"⟩ (gw ⟨"WorkHall$Worker", "rest", "(D)V"⟩ prog_6_method_3_code 3 none) ({ frames := 1, cells := 0, slots := 0, locals := 40 } : Room) (va_Pc [.ref y0, .double p1] (gB (dC, dI) vwCl (xT ca) xE (wX ad ca K u) sz)) (va_Qv post (gAt (dC, dI) vwCl (xT ca) (wX ad ca K) (va_A (wX ad ca K u) sz)) (va_A (wX ad ca K u) sz)) 0 0 (va_A (wX ad ca K u) sz) := by
  refine Met.ofW (cc := prog_6_method_3_code) (maxL := 3) (ret := none) (by decide) rfl ?_
  intro p e s m args below meth c s₁ B hml hv
  obtain ⟨rfl, hsz, hP, hK, hD0, hE⟩ := hv
  have hx := B.exec
  have hb := B.bytes
  have hr := B.returns
  have hts : ∀ w ∈ gW, w.before _ s = true := fun w h9 => atoms_spec (ws := (gw ⟨"WorkHall$Worker", "rest", "(D)V"⟩ prog_6_method_3_code 3 none)) B.pre w (List.mem_cons_of_mem _ h9)
  have hown : s.vm.findClass RX4 = some m.cls := findClass_of_methodNamed B.named
  have hlocks := B.notSynchronized
  subst hsz
  have hD := hD0.self (sz := s.heap.size)
  generalize hAe : va_A (wX ad ca K u) s.heap.size = A at hD hE ⊢
  have hA : ∀ q : Nat, s.heap.size ≤ q → A q := fun q h => by rw [← hAe]; exact Or.inr h
  obtain ⟨H, hHe⟩ : ∃ z : Heap, z = s.heap := ⟨_, rfl⟩
  rw [← hHe]
  have hS : va_S A s.heap H [] := by rw [hHe]; exact va_S.rf
  have hP : va_P (dC, dI) vwCl (wX ad ca K u) H := by rw [hHe]; exact hP
  have hl := lv_entry ([.ref y0, .double p1]) (n := 3) (Nat.le_of_ble_eq_true rfl)
  rw [lg_entry_eq]
  generalize (lg_sl ([.ref y0, .double p1]) ++ List.replicate (3 - (lg_sl ([.ref y0, .double p1])).length) Slot.unset).toArray = ls at hl ⊢
  have hl : lv_has ls 3 [(0, .ref y0), (1, .double p1)] := hl
  clear hAe
  refine lv_aload_n hx hb dX4_rest_0 rfl (lv_at hl 0 rfl) ?_
  refine lv_null hx hb dX4_rest_1 ?_
  obtain ⟨k9, hk9⟩ := xW_get hy0
  have e9 := xW_job (v := none) hD hy0 hk9
  refine va_put (D := (dC, dI)) (ci := 4) (v := va_rf none) (ty := tyX4 0) (C := RX4) (T := TX4) (N := 3) hx hb hts uwX4 tyX4 tyX4_ok nmX4 hown hK hP hD hS k9 hk9 rfl 0 (by decide) (hts _ wd_86) (fun _ h9 => h9) rfl (tyX4_ok 0 (by decide)) rfl rfl (Nat.le_of_ble_eq_true rfl) dX4_rest_2 (fun H locs hP hD hS => ?_)
  obtain ⟨u1, eu1⟩ : ∃ z : gS, z = tQ u 4 y0 none := ⟨_, rfl⟩
  have hP : va_P (dC, dI) vwCl (wX ad ca K u1) H := by rw [eu1, ← e9]; exact hP
  have hD : va_D A (wX ad ca K u1) := by rw [eu1, ← e9]; exact hD
  have h := h u1 eu1
  refine lv_aload_n hx hb dX4_rest_5 rfl (lv_at hl 0 rfl) ?_
  refine lv_iconst (v := 0) hx hb dX4_rest_6 (by decide) ?_
  obtain ⟨k9, hk9⟩ := xW_get hy0
  have e9 := xW_left (v := 0) hD hy0 hk9
  refine va_put (D := (dC, dI)) (ci := 4) (v := .int 0) (ty := tyX4 1) (C := RX4) (T := TX4) (N := 3) hx hb hts uwX4 tyX4 tyX4_ok nmX4 hown hK hP hD hS k9 hk9 rfl 1 (by decide) (hts _ wd_89) (fun _ h9 => h9) rfl (tyX4_ok 1 (by decide)) rfl rfl (Nat.le_of_ble_eq_true rfl) dX4_rest_7 (fun H locs hP hD hS => ?_)
  obtain ⟨u2, eu2⟩ : ∃ z : gS, z = tA u1 3 y0 0 := ⟨_, rfl⟩
  have hP : va_P (dC, dI) vwCl (wX ad ca K u2) H := by rw [eu2, ← e9]; exact hP
  have hD : va_D A (wX ad ca K u2) := by rw [eu2, ← e9]; exact hD
  have h := h u2 eu2
  refine lv_aload_n hx hb dX4_rest_10 rfl (lv_at hl 0 rfl) ?_
  refine lv_dload_n hx hb dX4_rest_11 rfl (lv_at hl 1 rfl) ?_
  obtain ⟨k9, hk9⟩ := xW_get hy0
  have e9 := xW_idleSince (v := p1) hD hy0 hk9
  refine va_put (D := (dC, dI)) (ci := 4) (v := .double p1) (ty := tyX4 2) (C := RX4) (T := TX4) (N := 3) hx hb hts uwX4 tyX4 tyX4_ok nmX4 hown hK hP hD hS k9 hk9 rfl 2 (by decide) (hts _ wd_91) (fun _ h9 => h9) rfl (tyX4_ok 2 (by decide)) rfl rfl (Nat.le_of_ble_eq_true rfl) dX4_rest_12 (fun H locs hP hD hS => ?_)
  obtain ⟨u3, eu3⟩ : ∃ z : gS, z = tB u2 3 y0 p1 := ⟨_, rfl⟩
  have hP : va_P (dC, dI) vwCl (wX ad ca K u3) H := by rw [eu3, ← e9]; exact hP
  have hD : va_D A (wX ad ca K u3) := by rw [eu3, ← e9]; exact hD
  have h := h u3 eu3
  exact gr_v (w := wX ad ca K) (u := u3) hx hb hr hlocks h hP hK hD hS dX4_rest_15

theorem dX5_nextNumber_0 : decode prog_3_method_2_code 0 = .ok (.aload_n 0, 1) := by decide +kernel
theorem dX5_nextNumber_1 : decode prog_3_method_2_code 1 = .ok (.getfield 21, 3) := by decide +kernel
theorem dX5_nextNumber_4 : decode prog_3_method_2_code 4 = .ok (.ifnonnull 7, 3) := by decide +kernel
theorem dX5_nextNumber_7 : decode prog_3_method_2_code 7 = .ok (.iconst (-1), 1) := by decide +kernel
theorem dX5_nextNumber_8 : decode prog_3_method_2_code 8 = .ok (.goto 10, 3) := by decide +kernel
theorem dX5_nextNumber_11 : decode prog_3_method_2_code 11 = .ok (.aload_n 0, 1) := by decide +kernel
theorem dX5_nextNumber_12 : decode prog_3_method_2_code 12 = .ok (.getfield 21, 3) := by decide +kernel
theorem dX5_nextNumber_15 : decode prog_3_method_2_code 15 = .ok (.getfield 25, 3) := by decide +kernel
theorem dX5_nextNumber_18 : decode prog_3_method_2_code 18 = .ok (.ireturn, 1) := by decide +kernel
def wpX5_nextNumber (K : KX) (post : Int32 → gS → Prop) (u : gS) (y0 : Nat) : Prop :=
  ∀ r1 : Option Nat, r1 = sQ u 3 y0 → (((r1 = none → (post (-1) u)) ∧ (∀ y2 : Nat, r1 = some y2 → (∀ r3 : Option Nat, r3 = sQ u 3 y0 → (∃ y4 : Nat, r3 = some y4 ∧ y4 ∈ K.2.2.1 ∧ (post (K.2.2.2.1 y4 0) u))))))

set_option maxHeartbeats 8000000 in
set_option maxRecDepth 100000 in
theorem cX5_nextNumber (l : Launch) (dC : Nat → ClassId) (dI : Nat → Nat → Nat) (ad : Nat → Nat) (ca : Nat → ClassId) (K : KX) (sz : Nat) (u : gS) (y0 : Nat) (post : Int32 → gS → Prop) (hy0 : y0 ∈ K.2.2.1) (h : wpX5_nextNumber K post u y0) : Met l ⟨"WorkHall$Job", "nextNumber", "()I"⟩ (gw ⟨"WorkHall$Job", "nextNumber", "()I"⟩ prog_3_method_2_code 1 (some .int)) ({ frames := 1, cells := 0, slots := 0, locals := 40 } : Room) (va_Pc [.ref y0] (gB (dC, dI) vwCl (xT ca) xE (wX ad ca K u) sz)) (va_Qi post (gAt (dC, dI) vwCl (xT ca) (wX ad ca K) (va_A (wX ad ca K u) sz)) (va_A (wX ad ca K u) sz)) 0 0 (va_A (wX ad ca K u) sz) := by
  refine Met.ofW (cc := prog_3_method_2_code) (maxL := 1) (ret := (some .int)) (by decide) rfl ?_
  intro p e s m args below meth c s₁ B hml hv
  obtain ⟨rfl, hsz, hP, hK, hD0, hE⟩ := hv
  have hx := B.exec
  have hb := B.bytes
  have hr := B.returns
  have hts : ∀ w ∈ gW, w.before _ s = true := fun w h9 => atoms_spec (ws := (gw ⟨"WorkHall$Job", "nextNumber", "()I"⟩ prog_3_method_2_code 1 (some .int))) B.pre w (List.mem_cons_of_mem _ h9)
  have hown : s.vm.findClass RX5 = some m.cls := findClass_of_methodNamed B.named
  have hlocks := B.notSynchronized
  subst hsz
  have hD := hD0.self (sz := s.heap.size)
  generalize hAe : va_A (wX ad ca K u) s.heap.size = A at hD hE ⊢
  have hA : ∀ q : Nat, s.heap.size ≤ q → A q := fun q h => by rw [← hAe]; exact Or.inr h
  obtain ⟨H, hHe⟩ : ∃ z : Heap, z = s.heap := ⟨_, rfl⟩
  rw [← hHe]
  have hS : va_S A s.heap H [] := by rw [hHe]; exact va_S.rf
  have hP : va_P (dC, dI) vwCl (wX ad ca K u) H := by rw [hHe]; exact hP
  have hl := lv_entry ([.ref y0]) (n := 1) (Nat.le_of_ble_eq_true rfl)
  rw [lg_entry_eq]
  generalize (lg_sl ([.ref y0]) ++ List.replicate (1 - (lg_sl ([.ref y0])).length) Slot.unset).toArray = ls at hl ⊢
  have hl : lv_has ls 1 [(0, .ref y0)] := hl
  clear hAe
  refine lv_aload_n hx hb dX5_nextNumber_0 rfl (lv_at hl 0 rfl) ?_
  obtain ⟨k9, hk9⟩ := xJ_get hy0
  refine va_get (D := (dC, dI)) (ci := 5) (v := va_rf (sQ u 3 y0)) (C := RX5) (T := TX5) (N := 9) hx hb hts uwX5 hown hK hP k9 hk9 rfl 8 (by decide) (hts _ wd_334) (fun _ h9 => h9) rfl dX5_nextNumber_1 ?_
  refine gq_top (fun r1 er1 => ?_)
  have h := h r1 er1
  rcases r1 with _ | y2
  · have h := h.1 rfl
    refine lv_ifnonnullN hx hb dX5_nextNumber_4 ?_
    refine lv_iconst (v := (-1)) hx hb dX5_nextNumber_7 (by decide) ?_
    refine lv_goto (tgt := 18) hx hb dX5_nextNumber_8 (by decide) ?_
    exact gr_i (w := wX ad ca K) (u := u) hx hb hr hlocks h hP hK hD hS dX5_nextNumber_18
  · have h := h.2 y2 rfl
    refine lv_ifnonnull (tgt := 11) hx hb dX5_nextNumber_4 (by decide) ?_
    refine lv_aload_n hx hb dX5_nextNumber_11 rfl (lv_at hl 0 rfl) ?_
    obtain ⟨k9, hk9⟩ := xJ_get hy0
    refine va_get (D := (dC, dI)) (ci := 5) (v := va_rf (sQ u 3 y0)) (C := RX5) (T := TX5) (N := 9) hx hb hts uwX5 hown hK hP k9 hk9 rfl 8 (by decide) (hts _ wd_334) (fun _ h9 => h9) rfl dX5_nextNumber_12 ?_
    refine gq_top (fun r3 er3 => ?_)
    have h := h r3 er3
    obtain ⟨y4, rfl, hy5, h⟩ := h
    obtain ⟨k9, hk9⟩ := xJ_get hy5
    refine va_get (D := (dC, dI)) (ci := 5) (v := .int (K.2.2.2.1 y4 0)) (C := RX5) (T := TX5) (N := 9) hx hb hts uwX5 hown hK hP k9 hk9 rfl 0 (by decide) (hts _ wd_316) (fun _ h9 => h9) rfl dX5_nextNumber_15 ?_
    exact gr_i (w := wX ad ca K) (u := u) hx hb hr hlocks h hP hK hD hS dX5_nextNumber_18

theorem dX5_succeed_0 : decode prog_3_method_3_code 0 = .ok (.aload_n 0, 1) := by decide +kernel
theorem dX5_succeed_1 : decode prog_3_method_3_code 1 = .ok (.iconst 3, 1) := by decide +kernel
theorem dX5_succeed_2 : decode prog_3_method_3_code 2 = .ok (.putfield 9, 3) := by decide +kernel
theorem dX5_succeed_5 : decode prog_3_method_3_code 5 = .ok (.aload_n 0, 1) := by decide +kernel
theorem dX5_succeed_6 : decode prog_3_method_3_code 6 = .ok (.iload_n 1, 1) := by decide +kernel
theorem dX5_succeed_7 : decode prog_3_method_3_code 7 = .ok (.putfield 15, 3) := by decide +kernel
theorem dX5_succeed_10 : decode prog_3_method_3_code 10 = .ok (.return_, 1) := by decide +kernel
def wpX5_succeed (K : KX) (post : gS → Prop) (u : gS) (y0 : Nat) (p1 : Int32) : Prop :=
  ∀ u1 : gS, u1 = tA u 0 y0 3 → (∀ u2 : gS, u2 = tA u1 1 y0 p1 → (post u2))

set_option maxHeartbeats 8000000 in
set_option maxRecDepth 100000 in
theorem cX5_succeed (l : Launch) (dC : Nat → ClassId) (dI : Nat → Nat → Nat) (ad : Nat → Nat) (ca : Nat → ClassId) (K : KX) (sz : Nat) (u : gS) (y0 : Nat) (p1 : Int32) (post : gS → Prop) (hy0 : y0 ∈ K.2.2.1) (h : wpX5_succeed K post u y0 p1) : Met l ⟨"WorkHall$Job", "succeed", "(I)V"⟩ (gw ⟨"WorkHall$Job", "succeed", "(I)V"⟩ prog_3_method_3_code 2 none) ({ frames := 1, cells := 0, slots := 0, locals := 40 } : Room) (va_Pc [.ref y0, .int p1] (gB (dC, dI) vwCl (xT ca) xE (wX ad ca K u) sz)) (va_Qv post (gAt (dC, dI) vwCl (xT ca) (wX ad ca K) (va_A (wX ad ca K u) sz)) (va_A (wX ad ca K u) sz)) 0 0 (va_A (wX ad ca K u) sz) := by
  refine Met.ofW (cc := prog_3_method_3_code) (maxL := 2) (ret := none) (by decide) rfl ?_
  intro p e s m args below meth c s₁ B hml hv
  obtain ⟨rfl, hsz, hP, hK, hD0, hE⟩ := hv
  have hx := B.exec
  have hb := B.bytes
  have hr := B.returns
  have hts : ∀ w ∈ gW, w.before _ s = true := fun w h9 => atoms_spec (ws := (gw ⟨"WorkHall$Job", "succeed", "(I)V"⟩ prog_3_method_3_code 2 none)) B.pre w (List.mem_cons_of_mem _ h9)
  have hown : s.vm.findClass RX5 = some m.cls := findClass_of_methodNamed B.named
  have hlocks := B.notSynchronized
  subst hsz
  have hD := hD0.self (sz := s.heap.size)
  generalize hAe : va_A (wX ad ca K u) s.heap.size = A at hD hE ⊢
  have hA : ∀ q : Nat, s.heap.size ≤ q → A q := fun q h => by rw [← hAe]; exact Or.inr h
  obtain ⟨H, hHe⟩ : ∃ z : Heap, z = s.heap := ⟨_, rfl⟩
  rw [← hHe]
  have hS : va_S A s.heap H [] := by rw [hHe]; exact va_S.rf
  have hP : va_P (dC, dI) vwCl (wX ad ca K u) H := by rw [hHe]; exact hP
  have hl := lv_entry ([.ref y0, .int p1]) (n := 2) (Nat.le_of_ble_eq_true rfl)
  rw [lg_entry_eq]
  generalize (lg_sl ([.ref y0, .int p1]) ++ List.replicate (2 - (lg_sl ([.ref y0, .int p1])).length) Slot.unset).toArray = ls at hl ⊢
  have hl : lv_has ls 2 [(0, .ref y0), (1, .int p1)] := hl
  clear hAe
  refine lv_aload_n hx hb dX5_succeed_0 rfl (lv_at hl 0 rfl) ?_
  refine lv_iconst (v := 3) hx hb dX5_succeed_1 (by decide) ?_
  obtain ⟨k9, hk9⟩ := xJ_get hy0
  have e9 := xJ_state (v := 3) hD hy0 hk9
  refine va_put (D := (dC, dI)) (ci := 5) (v := .int 3) (ty := tyX5 5) (C := RX5) (T := TX5) (N := 9) hx hb hts uwX5 tyX5 tyX5_ok nmX5 hown hK hP hD hS k9 hk9 rfl 5 (by decide) (hts _ wd_325) (fun _ h9 => h9) rfl (tyX5_ok 5 (by decide)) rfl rfl (Nat.le_of_ble_eq_true rfl) dX5_succeed_2 (fun H locs hP hD hS => ?_)
  obtain ⟨u1, eu1⟩ : ∃ z : gS, z = tA u 0 y0 3 := ⟨_, rfl⟩
  have hP : va_P (dC, dI) vwCl (wX ad ca K u1) H := by rw [eu1, ← e9]; exact hP
  have hD : va_D A (wX ad ca K u1) := by rw [eu1, ← e9]; exact hD
  have h := h u1 eu1
  refine lv_aload_n hx hb dX5_succeed_5 rfl (lv_at hl 0 rfl) ?_
  refine lv_iload_n hx hb dX5_succeed_6 rfl (lv_at hl 1 rfl) ?_
  obtain ⟨k9, hk9⟩ := xJ_get hy0
  have e9 := xJ_result (v := p1) hD hy0 hk9
  refine va_put (D := (dC, dI)) (ci := 5) (v := .int p1) (ty := tyX5 6) (C := RX5) (T := TX5) (N := 9) hx hb hts uwX5 tyX5 tyX5_ok nmX5 hown hK hP hD hS k9 hk9 rfl 6 (by decide) (hts _ wd_330) (fun _ h9 => h9) rfl (tyX5_ok 6 (by decide)) rfl rfl (Nat.le_of_ble_eq_true rfl) dX5_succeed_7 (fun H locs hP hD hS => ?_)
  obtain ⟨u2, eu2⟩ : ∃ z : gS, z = tA u1 1 y0 p1 := ⟨_, rfl⟩
  have hP : va_P (dC, dI) vwCl (wX ad ca K u2) H := by rw [eu2, ← e9]; exact hP
  have hD : va_D A (wX ad ca K u2) := by rw [eu2, ← e9]; exact hD
  have h := h u2 eu2
  exact gr_v (w := wX ad ca K) (u := u2) hx hb hr hlocks h hP hK hD hS dX5_succeed_10

theorem dX5_fail_0 : decode prog_3_method_4_code 0 = .ok (.aload_n 0, 1) := by decide +kernel
theorem dX5_fail_1 : decode prog_3_method_4_code 1 = .ok (.iconst 4, 1) := by decide +kernel
theorem dX5_fail_2 : decode prog_3_method_4_code 2 = .ok (.putfield 9, 3) := by decide +kernel
theorem dX5_fail_5 : decode prog_3_method_4_code 5 = .ok (.aload_n 0, 1) := by decide +kernel
theorem dX5_fail_6 : decode prog_3_method_4_code 6 = .ok (.iload_n 1, 1) := by decide +kernel
theorem dX5_fail_7 : decode prog_3_method_4_code 7 = .ok (.putfield 18, 3) := by decide +kernel
theorem dX5_fail_10 : decode prog_3_method_4_code 10 = .ok (.return_, 1) := by decide +kernel
def wpX5_fail (K : KX) (post : gS → Prop) (u : gS) (y0 : Nat) (p1 : Int32) : Prop :=
  ∀ u1 : gS, u1 = tA u 0 y0 4 → (∀ u2 : gS, u2 = tA u1 2 y0 p1 → (post u2))

set_option maxHeartbeats 8000000 in
set_option maxRecDepth 100000 in
theorem cX5_fail (l : Launch) (dC : Nat → ClassId) (dI : Nat → Nat → Nat) (ad : Nat → Nat) (ca : Nat → ClassId) (K : KX) (sz : Nat) (u : gS) (y0 : Nat) (p1 : Int32) (post : gS → Prop) (hy0 : y0 ∈ K.2.2.1) (h : wpX5_fail K post u y0 p1) : Met l ⟨"WorkHall$Job", "fail", "(I)V"⟩ (gw ⟨"WorkHall$Job", "fail", "(I)V"⟩ prog_3_method_4_code 2 none) ({ frames := 1, cells := 0, slots := 0, locals := 40 } : Room) (va_Pc [.ref y0, .int p1] (gB (dC, dI) vwCl (xT ca) xE (wX ad ca K u) sz)) (va_Qv post (gAt (dC, dI) vwCl (xT ca) (wX ad ca K) (va_A (wX ad ca K u) sz)) (va_A (wX ad ca K u) sz)) 0 0 (va_A (wX ad ca K u) sz) := by
  refine Met.ofW (cc := prog_3_method_4_code) (maxL := 2) (ret := none) (by decide) rfl ?_
  intro p e s m args below meth c s₁ B hml hv
  obtain ⟨rfl, hsz, hP, hK, hD0, hE⟩ := hv
  have hx := B.exec
  have hb := B.bytes
  have hr := B.returns
  have hts : ∀ w ∈ gW, w.before _ s = true := fun w h9 => atoms_spec (ws := (gw ⟨"WorkHall$Job", "fail", "(I)V"⟩ prog_3_method_4_code 2 none)) B.pre w (List.mem_cons_of_mem _ h9)
  have hown : s.vm.findClass RX5 = some m.cls := findClass_of_methodNamed B.named
  have hlocks := B.notSynchronized
  subst hsz
  have hD := hD0.self (sz := s.heap.size)
  generalize hAe : va_A (wX ad ca K u) s.heap.size = A at hD hE ⊢
  have hA : ∀ q : Nat, s.heap.size ≤ q → A q := fun q h => by rw [← hAe]; exact Or.inr h
  obtain ⟨H, hHe⟩ : ∃ z : Heap, z = s.heap := ⟨_, rfl⟩
  rw [← hHe]
  have hS : va_S A s.heap H [] := by rw [hHe]; exact va_S.rf
  have hP : va_P (dC, dI) vwCl (wX ad ca K u) H := by rw [hHe]; exact hP
  have hl := lv_entry ([.ref y0, .int p1]) (n := 2) (Nat.le_of_ble_eq_true rfl)
  rw [lg_entry_eq]
  generalize (lg_sl ([.ref y0, .int p1]) ++ List.replicate (2 - (lg_sl ([.ref y0, .int p1])).length) Slot.unset).toArray = ls at hl ⊢
  have hl : lv_has ls 2 [(0, .ref y0), (1, .int p1)] := hl
  clear hAe
  refine lv_aload_n hx hb dX5_fail_0 rfl (lv_at hl 0 rfl) ?_
  refine lv_iconst (v := 4) hx hb dX5_fail_1 (by decide) ?_
  obtain ⟨k9, hk9⟩ := xJ_get hy0
  have e9 := xJ_state (v := 4) hD hy0 hk9
  refine va_put (D := (dC, dI)) (ci := 5) (v := .int 4) (ty := tyX5 5) (C := RX5) (T := TX5) (N := 9) hx hb hts uwX5 tyX5 tyX5_ok nmX5 hown hK hP hD hS k9 hk9 rfl 5 (by decide) (hts _ wd_325) (fun _ h9 => h9) rfl (tyX5_ok 5 (by decide)) rfl rfl (Nat.le_of_ble_eq_true rfl) dX5_fail_2 (fun H locs hP hD hS => ?_)
  obtain ⟨u1, eu1⟩ : ∃ z : gS, z = tA u 0 y0 4 := ⟨_, rfl⟩
  have hP : va_P (dC, dI) vwCl (wX ad ca K u1) H := by rw [eu1, ← e9]; exact hP
  have hD : va_D A (wX ad ca K u1) := by rw [eu1, ← e9]; exact hD
  have h := h u1 eu1
  refine lv_aload_n hx hb dX5_fail_5 rfl (lv_at hl 0 rfl) ?_
  refine lv_iload_n hx hb dX5_fail_6 rfl (lv_at hl 1 rfl) ?_
  obtain ⟨k9, hk9⟩ := xJ_get hy0
  have e9 := xJ_thrown (v := p1) hD hy0 hk9
  refine va_put (D := (dC, dI)) (ci := 5) (v := .int p1) (ty := tyX5 7) (C := RX5) (T := TX5) (N := 9) hx hb hts uwX5 tyX5 tyX5_ok nmX5 hown hK hP hD hS k9 hk9 rfl 7 (by decide) (hts _ wd_332) (fun _ h9 => h9) rfl (tyX5_ok 7 (by decide)) rfl rfl (Nat.le_of_ble_eq_true rfl) dX5_fail_7 (fun H locs hP hD hS => ?_)
  obtain ⟨u2, eu2⟩ : ∃ z : gS, z = tA u1 2 y0 p1 := ⟨_, rfl⟩
  have hP : va_P (dC, dI) vwCl (wX ad ca K u2) H := by rw [eu2, ← e9]; exact hP
  have hD : va_D A (wX ad ca K u2) := by rw [eu2, ← e9]; exact hD
  have h := h u2 eu2
  exact gr_v (w := wX ad ca K) (u := u2) hx hb hr hlocks h hP hK hD hS dX5_fail_10

theorem dX5_divide_0 : decode prog_3_method_5_code 0 = .ok (.aload_n 0, 1) := by decide +kernel
theorem dX5_divide_1 : decode prog_3_method_5_code 1 = .ok (.getfield 34, 3) := by decide +kernel
theorem dX5_divide_4 : decode prog_3_method_5_code 4 = .ok (.ifCond .ne 11, 3) := by decide +kernel
theorem dX5_divide_7 : decode prog_3_method_5_code 7 = .ok (.aload_n 0, 1) := by decide +kernel
theorem dX5_divide_8 : decode prog_3_method_5_code 8 = .ok (.iconst 1, 1) := by decide +kernel
theorem dX5_divide_9 : decode prog_3_method_5_code 9 = .ok (.invokevirtual 40, 3) := by decide +kernel
theorem dX5_divide_12 : decode prog_3_method_5_code 12 = .ok (.goto 16, 3) := by decide +kernel
theorem dX5_divide_15 : decode prog_3_method_5_code 15 = .ok (.aload_n 0, 1) := by decide +kernel
theorem dX5_divide_16 : decode prog_3_method_5_code 16 = .ok (.aload_n 0, 1) := by decide +kernel
theorem dX5_divide_17 : decode prog_3_method_5_code 17 = .ok (.getfield 31, 3) := by decide +kernel
theorem dX5_divide_20 : decode prog_3_method_5_code 20 = .ok (.aload_n 0, 1) := by decide +kernel
theorem dX5_divide_21 : decode prog_3_method_5_code 21 = .ok (.getfield 34, 3) := by decide +kernel
theorem dX5_divide_24 : decode prog_3_method_5_code 24 = .ok (.idiv, 1) := by decide +kernel
theorem dX5_divide_25 : decode prog_3_method_5_code 25 = .ok (.invokevirtual 44, 3) := by decide +kernel
theorem dX5_divide_28 : decode prog_3_method_5_code 28 = .ok (.return_, 1) := by decide +kernel
def wpX5_divide (K : KX) (post : gS → Prop) (u : gS) (y0 : Nat) : Prop :=
  ((¬ (K.2.2.2.1 y0 3) = 0 → ((¬ (K.2.2.2.1 y0 3) = 0) ∧ (wpX5_succeed K (fun (u3 : gS) => post u3) u y0 ((K.2.2.2.1 y0 2) / (K.2.2.2.1 y0 3))))) ∧ ((K.2.2.2.1 y0 3) = 0 → (wpX5_fail K (fun (u5 : gS) => post u5) u y0 1)))

set_option maxHeartbeats 8000000 in
set_option maxRecDepth 100000 in
theorem cX5_divide (l : Launch) (dC : Nat → ClassId) (dI : Nat → Nat → Nat) (ad : Nat → Nat) (ca : Nat → ClassId) (K : KX) (sz : Nat) (u : gS) (y0 : Nat) (post : gS → Prop) (hy0 : y0 ∈ K.2.2.1) (h : wpX5_divide K post u y0) : Met l ⟨"WorkHall$Job", "divide", "()V"⟩ (gw ⟨"WorkHall$Job", "divide", "()V"⟩ prog_3_method_5_code 1 none) ({ frames := 2, cells := 0, slots := 0, locals := 80 } : Room) (va_Pc [.ref y0] (gB (dC, dI) vwCl (xT ca) xE (wX ad ca K u) sz)) (va_Qv post (gAt (dC, dI) vwCl (xT ca) (wX ad ca K) (va_A (wX ad ca K u) sz)) (va_A (wX ad ca K u) sz)) 0 0 (va_A (wX ad ca K u) sz) := by
  refine Met.ofW (cc := prog_3_method_5_code) (maxL := 1) (ret := none) (by decide) rfl ?_
  intro p e s m args below meth c s₁ B hml hv
  obtain ⟨rfl, hsz, hP, hK, hD0, hE⟩ := hv
  have hx := B.exec
  have hb := B.bytes
  have hr := B.returns
  have hts : ∀ w ∈ gW, w.before _ s = true := fun w h9 => atoms_spec (ws := (gw ⟨"WorkHall$Job", "divide", "()V"⟩ prog_3_method_5_code 1 none)) B.pre w (List.mem_cons_of_mem _ h9)
  have hown : s.vm.findClass RX5 = some m.cls := findClass_of_methodNamed B.named
  have hlocks := B.notSynchronized
  subst hsz
  have hD := hD0.self (sz := s.heap.size)
  generalize hAe : va_A (wX ad ca K u) s.heap.size = A at hD hE ⊢
  have hA : ∀ q : Nat, s.heap.size ≤ q → A q := fun q h => by rw [← hAe]; exact Or.inr h
  obtain ⟨H, hHe⟩ : ∃ z : Heap, z = s.heap := ⟨_, rfl⟩
  rw [← hHe]
  have hS : va_S A s.heap H [] := by rw [hHe]; exact va_S.rf
  have hP : va_P (dC, dI) vwCl (wX ad ca K u) H := by rw [hHe]; exact hP
  have hl := lv_entry ([.ref y0]) (n := 1) (Nat.le_of_ble_eq_true rfl)
  rw [lg_entry_eq]
  generalize (lg_sl ([.ref y0]) ++ List.replicate (1 - (lg_sl ([.ref y0])).length) Slot.unset).toArray = ls at hl ⊢
  have hl : lv_has ls 1 [(0, .ref y0)] := hl
  clear hAe
  refine lv_aload_n hx hb dX5_divide_0 rfl (lv_at hl 0 rfl) ?_
  obtain ⟨k9, hk9⟩ := xJ_get hy0
  refine va_get (D := (dC, dI)) (ci := 5) (v := .int (K.2.2.2.1 y0 3)) (C := RX5) (T := TX5) (N := 9) hx hb hts uwX5 hown hK hP k9 hk9 rfl 3 (by decide) (hts _ wd_321) (fun _ h9 => h9) rfl dX5_divide_1 ?_
  refine lv_if_ne (tgt := 15) hx hb dX5_divide_4 (by decide) (fun c1 => ?_) (fun c1 => ?_)
  · have h := h.1 c1
    refine lv_aload_n hx hb dX5_divide_15 rfl (lv_at hl 0 rfl) ?_
    refine lv_aload_n hx hb dX5_divide_16 rfl (lv_at hl 0 rfl) ?_
    obtain ⟨k9, hk9⟩ := xJ_get hy0
    refine va_get (D := (dC, dI)) (ci := 5) (v := .int (K.2.2.2.1 y0 2)) (C := RX5) (T := TX5) (N := 9) hx hb hts uwX5 hown hK hP k9 hk9 rfl 2 (by decide) (hts _ wd_319) (fun _ h9 => h9) rfl dX5_divide_17 ?_
    refine lv_aload_n hx hb dX5_divide_20 rfl (lv_at hl 0 rfl) ?_
    obtain ⟨k9, hk9⟩ := xJ_get hy0
    refine va_get (D := (dC, dI)) (ci := 5) (v := .int (K.2.2.2.1 y0 3)) (C := RX5) (T := TX5) (N := 9) hx hb hts uwX5 hown hK hP k9 hk9 rfl 3 (by decide) (hts _ wd_321) (fun _ h9 => h9) rfl dX5_divide_21 ?_
    refine lv_idiv hx hb dX5_divide_24 h.1 ?_
    have h := h.2
    refine gc_v (w := wX ad ca K) (u := u) (va_runV (As := [.int ((K.2.2.2.1 y0 2) / (K.2.2.2.1 y0 3))]) (rest := []) ⟨hx, hb, hml, hown, hts⟩ (cX5_succeed l dC dI ad ca K H.size u y0 ((K.2.2.2.1 y0 2) / (K.2.2.2.1 y0 3)) _ hy0 h) (cwV 1 hts (gG_V wd_443 wd_432 wd_433 wd_58 wd_434) rfl rfl rfl (by decide +kernel) ⟨Nat.le_of_ble_eq_true rfl, Nat.le_of_ble_eq_true rfl⟩) ⟨gB_blind xE_ok, (by obtain ⟨k9, hk9⟩ := xJ_get hy0; exact va_recv hK hP (ci := 5) (q0 := k9) rfl hk9), gB_pre xE_ok hP hK hD hE hS hA⟩ rfl rfl hl.1 rfl (lv_room (Nat.le_of_ble_eq_true rfl)) dX5_divide_25 ⟨Nat.le_of_ble_eq_true rfl, Nat.le_of_ble_eq_true rfl⟩) hD hS hA (fun u3 H locs h hP hD hS => ?_)
    exact gr_v (w := wX ad ca K) (u := u3) hx hb hr hlocks h hP hK hD hS dX5_divide_28
  · have h := h.2 c1
    refine lv_aload_n hx hb dX5_divide_7 rfl (lv_at hl 0 rfl) ?_
    refine lv_iconst (v := 1) hx hb dX5_divide_8 (by decide) ?_
    refine gc_v (w := wX ad ca K) (u := u) (va_runV (As := [.int 1]) (rest := []) ⟨hx, hb, hml, hown, hts⟩ (cX5_fail l dC dI ad ca K H.size u y0 1 _ hy0 h) (cwV 1 hts (gG_V wd_439 wd_440 wd_441 wd_58 wd_442) rfl rfl rfl (by decide +kernel) ⟨Nat.le_of_ble_eq_true rfl, Nat.le_of_ble_eq_true rfl⟩) ⟨gB_blind xE_ok, (by obtain ⟨k9, hk9⟩ := xJ_get hy0; exact va_recv hK hP (ci := 5) (q0 := k9) rfl hk9), gB_pre xE_ok hP hK hD hE hS hA⟩ rfl rfl hl.1 rfl (lv_room (Nat.le_of_ble_eq_true rfl)) dX5_divide_9 ⟨Nat.le_of_ble_eq_true rfl, Nat.le_of_ble_eq_true rfl⟩) hD hS hA (fun u5 H locs h hP hD hS => ?_)
    refine lv_goto (tgt := 28) hx hb dX5_divide_12 (by decide) ?_
    exact gr_v (w := wX ad ca K) (u := u5) hx hb hr hlocks h hP hK hD hS dX5_divide_28

theorem dX5_pick_0 : decode prog_3_method_6_code 0 = .ok (.aload_n 0, 1) := by decide +kernel
theorem dX5_pick_1 : decode prog_3_method_6_code 1 = .ok (.getfield 31, 3) := by decide +kernel
theorem dX5_pick_4 : decode prog_3_method_6_code 4 = .ok (.ifCond .lt 29, 3) := by decide +kernel
theorem dX5_pick_7 : decode prog_3_method_6_code 7 = .ok (.aload_n 0, 1) := by decide +kernel
theorem dX5_pick_8 : decode prog_3_method_6_code 8 = .ok (.getfield 31, 3) := by decide +kernel
theorem dX5_pick_11 : decode prog_3_method_6_code 11 = .ok (.getstatic 47, 3) := by decide +kernel
theorem dX5_pick_14 : decode prog_3_method_6_code 14 = .ok (.arraylength, 1) := by decide +kernel
theorem dX5_pick_15 : decode prog_3_method_6_code 15 = .ok (.if_icmp .ge 18, 3) := by decide +kernel
theorem dX5_pick_18 : decode prog_3_method_6_code 18 = .ok (.aload_n 0, 1) := by decide +kernel
theorem dX5_pick_19 : decode prog_3_method_6_code 19 = .ok (.getstatic 47, 3) := by decide +kernel
theorem dX5_pick_22 : decode prog_3_method_6_code 22 = .ok (.aload_n 0, 1) := by decide +kernel
theorem dX5_pick_23 : decode prog_3_method_6_code 23 = .ok (.getfield 31, 3) := by decide +kernel
theorem dX5_pick_26 : decode prog_3_method_6_code 26 = .ok (.iaload, 1) := by decide +kernel
theorem dX5_pick_27 : decode prog_3_method_6_code 27 = .ok (.invokevirtual 44, 3) := by decide +kernel
theorem dX5_pick_30 : decode prog_3_method_6_code 30 = .ok (.goto 30, 3) := by decide +kernel
theorem dX5_pick_33 : decode prog_3_method_6_code 33 = .ok (.aload_n 0, 1) := by decide +kernel
theorem dX5_pick_34 : decode prog_3_method_6_code 34 = .ok (.getfield 31, 3) := by decide +kernel
theorem dX5_pick_37 : decode prog_3_method_6_code 37 = .ok (.getstatic 47, 3) := by decide +kernel
theorem dX5_pick_40 : decode prog_3_method_6_code 40 = .ok (.arraylength, 1) := by decide +kernel
theorem dX5_pick_41 : decode prog_3_method_6_code 41 = .ok (.if_icmp .ne 14, 3) := by decide +kernel
theorem dX5_pick_44 : decode prog_3_method_6_code 44 = .ok (.aload_n 0, 1) := by decide +kernel
theorem dX5_pick_45 : decode prog_3_method_6_code 45 = .ok (.aload_n 0, 1) := by decide +kernel
theorem dX5_pick_46 : decode prog_3_method_6_code 46 = .ok (.getfield 34, 3) := by decide +kernel
theorem dX5_pick_49 : decode prog_3_method_6_code 49 = .ok (.invokevirtual 44, 3) := by decide +kernel
theorem dX5_pick_52 : decode prog_3_method_6_code 52 = .ok (.goto 8, 3) := by decide +kernel
theorem dX5_pick_55 : decode prog_3_method_6_code 55 = .ok (.aload_n 0, 1) := by decide +kernel
theorem dX5_pick_56 : decode prog_3_method_6_code 56 = .ok (.iconst 2, 1) := by decide +kernel
theorem dX5_pick_57 : decode prog_3_method_6_code 57 = .ok (.invokevirtual 40, 3) := by decide +kernel
theorem dX5_pick_60 : decode prog_3_method_6_code 60 = .ok (.return_, 1) := by decide +kernel
def wpX5_pick (K : KX) (post : gS → Prop) (u : gS) (y0 : Nat) : Prop :=
  (((K.2.2.2.1 y0 2) < 0 → (((¬ (K.2.2.2.1 y0 2) = 4 → (wpX5_fail K (fun (u4 : gS) => post u4) u y0 2)) ∧ ((K.2.2.2.1 y0 2) = 4 → (wpX5_succeed K (fun (u6 : gS) => post u6) u y0 (K.2.2.2.1 y0 3)))))) ∧ (¬ (K.2.2.2.1 y0 2) < 0 → (((4 ≤ (K.2.2.2.1 y0 2) → (((¬ (K.2.2.2.1 y0 2) = 4 → (wpX5_fail K (fun (u10 : gS) => post u10) u y0 2)) ∧ ((K.2.2.2.1 y0 2) = 4 → (wpX5_succeed K (fun (u12 : gS) => post u12) u y0 (K.2.2.2.1 y0 3)))))) ∧ (¬ 4 ≤ (K.2.2.2.1 y0 2) → (vp_in (K.2.2.2.1 y0 2) 4 ∧ (wpX5_succeed K (fun (u14 : gS) => post u14) u y0 (xPicks (K.2.2.2.1 y0 2).toNatClampNeg))))))))

set_option maxHeartbeats 8000000 in
set_option maxRecDepth 100000 in
theorem cX5_pick (l : Launch) (dC : Nat → ClassId) (dI : Nat → Nat → Nat) (ad : Nat → Nat) (ca : Nat → ClassId) (K : KX) (sz : Nat) (u : gS) (y0 : Nat) (post : gS → Prop) (hy0 : y0 ∈ K.2.2.1) (h : wpX5_pick K post u y0) : Met l ⟨"WorkHall$Job", "pick", "()V"⟩ (gw ⟨"WorkHall$Job", "pick", "()V"⟩ prog_3_method_6_code 1 none) ({ frames := 2, cells := 0, slots := 0, locals := 80 } : Room) (va_Pc [.ref y0] (gB (dC, dI) vwCl (xT ca) xE (wX ad ca K u) sz)) (va_Qv post (gAt (dC, dI) vwCl (xT ca) (wX ad ca K) (va_A (wX ad ca K u) sz)) (va_A (wX ad ca K u) sz)) 0 0 (va_A (wX ad ca K u) sz) := by
  refine Met.ofW (cc := prog_3_method_6_code) (maxL := 1) (ret := none) (by decide) rfl ?_
  intro p e s m args below meth c s₁ B hml hv
  obtain ⟨rfl, hsz, hP, hK, hD0, hE⟩ := hv
  have hx := B.exec
  have hb := B.bytes
  have hr := B.returns
  have hts : ∀ w ∈ gW, w.before _ s = true := fun w h9 => atoms_spec (ws := (gw ⟨"WorkHall$Job", "pick", "()V"⟩ prog_3_method_6_code 1 none)) B.pre w (List.mem_cons_of_mem _ h9)
  have hown : s.vm.findClass RX5 = some m.cls := findClass_of_methodNamed B.named
  have hlocks := B.notSynchronized
  subst hsz
  have hD := hD0.self (sz := s.heap.size)
  generalize hAe : va_A (wX ad ca K u) s.heap.size = A at hD hE ⊢
  have hA : ∀ q : Nat, s.heap.size ≤ q → A q := fun q h => by rw [← hAe]; exact Or.inr h
  obtain ⟨H, hHe⟩ : ∃ z : Heap, z = s.heap := ⟨_, rfl⟩
  rw [← hHe]
  have hS : va_S A s.heap H [] := by rw [hHe]; exact va_S.rf
  have hP : va_P (dC, dI) vwCl (wX ad ca K u) H := by rw [hHe]; exact hP
  have hl := lv_entry ([.ref y0]) (n := 1) (Nat.le_of_ble_eq_true rfl)
  rw [lg_entry_eq]
  generalize (lg_sl ([.ref y0]) ++ List.replicate (1 - (lg_sl ([.ref y0])).length) Slot.unset).toArray = ls at hl ⊢
  have hl : lv_has ls 1 [(0, .ref y0)] := hl
  clear hAe
  refine lv_aload_n hx hb dX5_pick_0 rfl (lv_at hl 0 rfl) ?_
  obtain ⟨k9, hk9⟩ := xJ_get hy0
  refine va_get (D := (dC, dI)) (ci := 5) (v := .int (K.2.2.2.1 y0 2)) (C := RX5) (T := TX5) (N := 9) hx hb hts uwX5 hown hK hP k9 hk9 rfl 2 (by decide) (hts _ wd_319) (fun _ h9 => h9) rfl dX5_pick_1 ?_
  refine lv_if_lt (tgt := 33) hx hb dX5_pick_4 (by decide) (fun c1 => ?_) (fun c1 => ?_)
  · have h := h.1 c1
    refine lv_aload_n hx hb dX5_pick_33 rfl (lv_at hl 0 rfl) ?_
    obtain ⟨k9, hk9⟩ := xJ_get hy0
    refine va_get (D := (dC, dI)) (ci := 5) (v := .int (K.2.2.2.1 y0 2)) (C := RX5) (T := TX5) (N := 9) hx hb hts uwX5 hown hK hP k9 hk9 rfl 2 (by decide) (hts _ wd_319) (fun _ h9 => h9) rfl dX5_pick_34 ?_
    obtain ⟨t9, hZ9, hT9⟩ := xE_pick hE; refine va_getsN hx hb hZ9 hS hown (xE_nest hE) (fun _ h9 => h9) dX5_pick_37 ?_
    refine va_tlen (v := 4) hx hb hT9 hS rfl dX5_pick_40 ?_
    refine lv_icmp_ne (tgt := 55) hx hb dX5_pick_41 (by decide) (fun c2 => ?_) (fun c2 => ?_)
    · have h := h.1 c2
      refine lv_aload_n hx hb dX5_pick_55 rfl (lv_at hl 0 rfl) ?_
      refine lv_iconst (v := 2) hx hb dX5_pick_56 (by decide) ?_
      refine gc_v (w := wX ad ca K) (u := u) (va_runV (As := [.int 2]) (rest := []) ⟨hx, hb, hml, hown, hts⟩ (cX5_fail l dC dI ad ca K H.size u y0 2 _ hy0 h) (cwV 1 hts (gG_V wd_439 wd_440 wd_441 wd_58 wd_442) rfl rfl rfl (by decide +kernel) ⟨Nat.le_of_ble_eq_true rfl, Nat.le_of_ble_eq_true rfl⟩) ⟨gB_blind xE_ok, (by obtain ⟨k9, hk9⟩ := xJ_get hy0; exact va_recv hK hP (ci := 5) (q0 := k9) rfl hk9), gB_pre xE_ok hP hK hD hE hS hA⟩ rfl rfl hl.1 rfl (lv_room (Nat.le_of_ble_eq_true rfl)) dX5_pick_57 ⟨Nat.le_of_ble_eq_true rfl, Nat.le_of_ble_eq_true rfl⟩) hD hS hA (fun u4 H locs h hP hD hS => ?_)
      exact gr_v (w := wX ad ca K) (u := u4) hx hb hr hlocks h hP hK hD hS dX5_pick_60
    · have h := h.2 c2
      refine lv_aload_n hx hb dX5_pick_44 rfl (lv_at hl 0 rfl) ?_
      refine lv_aload_n hx hb dX5_pick_45 rfl (lv_at hl 0 rfl) ?_
      obtain ⟨k9, hk9⟩ := xJ_get hy0
      refine va_get (D := (dC, dI)) (ci := 5) (v := .int (K.2.2.2.1 y0 3)) (C := RX5) (T := TX5) (N := 9) hx hb hts uwX5 hown hK hP k9 hk9 rfl 3 (by decide) (hts _ wd_321) (fun _ h9 => h9) rfl dX5_pick_46 ?_
      refine gc_v (w := wX ad ca K) (u := u) (va_runV (As := [.int (K.2.2.2.1 y0 3)]) (rest := []) ⟨hx, hb, hml, hown, hts⟩ (cX5_succeed l dC dI ad ca K H.size u y0 (K.2.2.2.1 y0 3) _ hy0 h) (cwV 1 hts (gG_V wd_443 wd_432 wd_433 wd_58 wd_434) rfl rfl rfl (by decide +kernel) ⟨Nat.le_of_ble_eq_true rfl, Nat.le_of_ble_eq_true rfl⟩) ⟨gB_blind xE_ok, (by obtain ⟨k9, hk9⟩ := xJ_get hy0; exact va_recv hK hP (ci := 5) (q0 := k9) rfl hk9), gB_pre xE_ok hP hK hD hE hS hA⟩ rfl rfl hl.1 rfl (lv_room (Nat.le_of_ble_eq_true rfl)) dX5_pick_49 ⟨Nat.le_of_ble_eq_true rfl, Nat.le_of_ble_eq_true rfl⟩) hD hS hA (fun u6 H locs h hP hD hS => ?_)
      refine lv_goto (tgt := 60) hx hb dX5_pick_52 (by decide) ?_
      exact gr_v (w := wX ad ca K) (u := u6) hx hb hr hlocks h hP hK hD hS dX5_pick_60
  · have h := h.2 c1
    refine lv_aload_n hx hb dX5_pick_7 rfl (lv_at hl 0 rfl) ?_
    obtain ⟨k9, hk9⟩ := xJ_get hy0
    refine va_get (D := (dC, dI)) (ci := 5) (v := .int (K.2.2.2.1 y0 2)) (C := RX5) (T := TX5) (N := 9) hx hb hts uwX5 hown hK hP k9 hk9 rfl 2 (by decide) (hts _ wd_319) (fun _ h9 => h9) rfl dX5_pick_8 ?_
    obtain ⟨t9, hZ9, hT9⟩ := xE_pick hE; refine va_getsN hx hb hZ9 hS hown (xE_nest hE) (fun _ h9 => h9) dX5_pick_11 ?_
    refine va_tlen (v := 4) hx hb hT9 hS rfl dX5_pick_14 ?_
    refine lv_icmp_ge (tgt := 33) hx hb dX5_pick_15 (by decide) (fun c7 => ?_) (fun c7 => ?_)
    · have h := h.1 c7
      refine lv_aload_n hx hb dX5_pick_33 rfl (lv_at hl 0 rfl) ?_
      obtain ⟨k9, hk9⟩ := xJ_get hy0
      refine va_get (D := (dC, dI)) (ci := 5) (v := .int (K.2.2.2.1 y0 2)) (C := RX5) (T := TX5) (N := 9) hx hb hts uwX5 hown hK hP k9 hk9 rfl 2 (by decide) (hts _ wd_319) (fun _ h9 => h9) rfl dX5_pick_34 ?_
      obtain ⟨t9, hZ9, hT9⟩ := xE_pick hE; refine va_getsN hx hb hZ9 hS hown (xE_nest hE) (fun _ h9 => h9) dX5_pick_37 ?_
      refine va_tlen (v := 4) hx hb hT9 hS rfl dX5_pick_40 ?_
      refine lv_icmp_ne (tgt := 55) hx hb dX5_pick_41 (by decide) (fun c8 => ?_) (fun c8 => ?_)
      · have h := h.1 c8
        refine lv_aload_n hx hb dX5_pick_55 rfl (lv_at hl 0 rfl) ?_
        refine lv_iconst (v := 2) hx hb dX5_pick_56 (by decide) ?_
        refine gc_v (w := wX ad ca K) (u := u) (va_runV (As := [.int 2]) (rest := []) ⟨hx, hb, hml, hown, hts⟩ (cX5_fail l dC dI ad ca K H.size u y0 2 _ hy0 h) (cwV 1 hts (gG_V wd_439 wd_440 wd_441 wd_58 wd_442) rfl rfl rfl (by decide +kernel) ⟨Nat.le_of_ble_eq_true rfl, Nat.le_of_ble_eq_true rfl⟩) ⟨gB_blind xE_ok, (by obtain ⟨k9, hk9⟩ := xJ_get hy0; exact va_recv hK hP (ci := 5) (q0 := k9) rfl hk9), gB_pre xE_ok hP hK hD hE hS hA⟩ rfl rfl hl.1 rfl (lv_room (Nat.le_of_ble_eq_true rfl)) dX5_pick_57 ⟨Nat.le_of_ble_eq_true rfl, Nat.le_of_ble_eq_true rfl⟩) hD hS hA (fun u10 H locs h hP hD hS => ?_)
        exact gr_v (w := wX ad ca K) (u := u10) hx hb hr hlocks h hP hK hD hS dX5_pick_60
      · have h := h.2 c8
        refine lv_aload_n hx hb dX5_pick_44 rfl (lv_at hl 0 rfl) ?_
        refine lv_aload_n hx hb dX5_pick_45 rfl (lv_at hl 0 rfl) ?_
        obtain ⟨k9, hk9⟩ := xJ_get hy0
        refine va_get (D := (dC, dI)) (ci := 5) (v := .int (K.2.2.2.1 y0 3)) (C := RX5) (T := TX5) (N := 9) hx hb hts uwX5 hown hK hP k9 hk9 rfl 3 (by decide) (hts _ wd_321) (fun _ h9 => h9) rfl dX5_pick_46 ?_
        refine gc_v (w := wX ad ca K) (u := u) (va_runV (As := [.int (K.2.2.2.1 y0 3)]) (rest := []) ⟨hx, hb, hml, hown, hts⟩ (cX5_succeed l dC dI ad ca K H.size u y0 (K.2.2.2.1 y0 3) _ hy0 h) (cwV 1 hts (gG_V wd_443 wd_432 wd_433 wd_58 wd_434) rfl rfl rfl (by decide +kernel) ⟨Nat.le_of_ble_eq_true rfl, Nat.le_of_ble_eq_true rfl⟩) ⟨gB_blind xE_ok, (by obtain ⟨k9, hk9⟩ := xJ_get hy0; exact va_recv hK hP (ci := 5) (q0 := k9) rfl hk9), gB_pre xE_ok hP hK hD hE hS hA⟩ rfl rfl hl.1 rfl (lv_room (Nat.le_of_ble_eq_true rfl)) dX5_pick_49 ⟨Nat.le_of_ble_eq_true rfl, Nat.le_of_ble_eq_true rfl⟩) hD hS hA (fun u12 H locs h hP hD hS => ?_)
        refine lv_goto (tgt := 60) hx hb dX5_pick_52 (by decide) ?_
        exact gr_v (w := wX ad ca K) (u := u12) hx hb hr hlocks h hP hK hD hS dX5_pick_60
    · have h := h.2 c7
      refine lv_aload_n hx hb dX5_pick_18 rfl (lv_at hl 0 rfl) ?_
      obtain ⟨t9, hZ9, hT9⟩ := xE_pick hE; refine va_getsN hx hb hZ9 hS hown (xE_nest hE) (fun _ h9 => h9) dX5_pick_19 ?_
      refine lv_aload_n hx hb dX5_pick_22 rfl (lv_at hl 0 rfl) ?_
      obtain ⟨k9, hk9⟩ := xJ_get hy0
      refine va_get (D := (dC, dI)) (ci := 5) (v := .int (K.2.2.2.1 y0 2)) (C := RX5) (T := TX5) (N := 9) hx hb hts uwX5 hown hK hP k9 hk9 rfl 2 (by decide) (hts _ wd_319) (fun _ h9 => h9) rfl dX5_pick_23 ?_
      refine va_ti hx hb hT9 hS h.1 rfl dX5_pick_26 ?_
      have h := h.2
      refine gc_v (w := wX ad ca K) (u := u) (va_runV (As := [.int (xPicks (K.2.2.2.1 y0 2).toNatClampNeg)]) (rest := []) ⟨hx, hb, hml, hown, hts⟩ (cX5_succeed l dC dI ad ca K H.size u y0 (xPicks (K.2.2.2.1 y0 2).toNatClampNeg) _ hy0 h) (cwV 1 hts (gG_V wd_443 wd_432 wd_433 wd_58 wd_434) rfl rfl rfl (by decide +kernel) ⟨Nat.le_of_ble_eq_true rfl, Nat.le_of_ble_eq_true rfl⟩) ⟨gB_blind xE_ok, (by obtain ⟨k9, hk9⟩ := xJ_get hy0; exact va_recv hK hP (ci := 5) (q0 := k9) rfl hk9), gB_pre xE_ok hP hK hD hE hS hA⟩ rfl rfl hl.1 rfl (lv_room (Nat.le_of_ble_eq_true rfl)) dX5_pick_27 ⟨Nat.le_of_ble_eq_true rfl, Nat.le_of_ble_eq_true rfl⟩) hD hS hA (fun u14 H locs h hP hD hS => ?_)
      refine lv_goto (tgt := 60) hx hb dX5_pick_30 (by decide) ?_
      exact gr_v (w := wX ad ca K) (u := u14) hx hb hr hlocks h hP hK hD hS dX5_pick_60

theorem dX1_at_0 : decode prog_2_method_2_code 0 = .ok (.iload_n 1, 1) := by decide +kernel
theorem dX1_at_1 : decode prog_2_method_2_code 1 = .ok (.ifCond .lt 20, 3) := by decide +kernel
theorem dX1_at_4 : decode prog_2_method_2_code 4 = .ok (.iload_n 1, 1) := by decide +kernel
theorem dX1_at_5 : decode prog_2_method_2_code 5 = .ok (.aload_n 0, 1) := by decide +kernel
theorem dX1_at_6 : decode prog_2_method_2_code 6 = .ok (.getfield 17, 3) := by decide +kernel
theorem dX1_at_9 : decode prog_2_method_2_code 9 = .ok (.if_icmp .ge 12, 3) := by decide +kernel
theorem dX1_at_12 : decode prog_2_method_2_code 12 = .ok (.aload_n 0, 1) := by decide +kernel
theorem dX1_at_13 : decode prog_2_method_2_code 13 = .ok (.getfield 11, 3) := by decide +kernel
theorem dX1_at_16 : decode prog_2_method_2_code 16 = .ok (.iload_n 1, 1) := by decide +kernel
theorem dX1_at_17 : decode prog_2_method_2_code 17 = .ok (.aaload, 1) := by decide +kernel
theorem dX1_at_18 : decode prog_2_method_2_code 18 = .ok (.goto 4, 3) := by decide +kernel
theorem dX1_at_21 : decode prog_2_method_2_code 21 = .ok (.aconst_null, 1) := by decide +kernel
theorem dX1_at_22 : decode prog_2_method_2_code 22 = .ok (.areturn, 1) := by decide +kernel
def wpX1_at (K : KX) (post : Option Nat → gS → Prop) (u : gS) (p1 : Int32) : Prop :=
  ((p1 < 0 → (post none u)) ∧ (¬ p1 < 0 → ((((sI u 2) ≤ p1 → (post none u)) ∧ (¬ (sI u 2) ≤ p1 → (vp_in p1 5 ∧ (∀ r3 : Option Nat, r3 = sQ u 0 p1.toNatClampNeg → (post r3 u))))))))

set_option maxHeartbeats 8000000 in
set_option maxRecDepth 100000 in
theorem cX1_at (l : Launch) (dC : Nat → ClassId) (dI : Nat → Nat → Nat) (ad : Nat → Nat) (ca : Nat → ClassId) (K : KX) (sz : Nat) (u : gS) (p1 : Int32) (post : Option Nat → gS → Prop)  (h : wpX1_at K post u p1) : Met l ⟨"WorkHall$Crew", "at", "(I)LWorkHall$Worker;"⟩ (gw ⟨"WorkHall$Crew", "at", "(I)LWorkHall$Worker;"⟩ prog_2_method_2_code 2 (some (.object "WorkHall$Worker"))) ({ frames := 1, cells := 0, slots := 0, locals := 40 } : Room) (va_Pc [.ref (ad 2), .int p1] (gB (dC, dI) vwCl (xT ca) xE (wX ad ca K u) sz)) (va_Qq post (gAt (dC, dI) vwCl (xT ca) (wX ad ca K) (va_A (wX ad ca K u) sz)) (va_A (wX ad ca K u) sz)) 0 0 (va_A (wX ad ca K u) sz) := by
  refine Met.ofW (cc := prog_2_method_2_code) (maxL := 2) (ret := (some (.object "WorkHall$Worker"))) (by decide) rfl ?_
  intro p e s m args below meth c s₁ B hml hv
  obtain ⟨rfl, hsz, hP, hK, hD0, hE⟩ := hv
  have hx := B.exec
  have hb := B.bytes
  have hr := B.returns
  have hts : ∀ w ∈ gW, w.before _ s = true := fun w h9 => atoms_spec (ws := (gw ⟨"WorkHall$Crew", "at", "(I)LWorkHall$Worker;"⟩ prog_2_method_2_code 2 (some (.object "WorkHall$Worker")))) B.pre w (List.mem_cons_of_mem _ h9)
  have hown : s.vm.findClass RX1 = some m.cls := findClass_of_methodNamed B.named
  have hlocks := B.notSynchronized
  subst hsz
  have hD := hD0.self (sz := s.heap.size)
  generalize hAe : va_A (wX ad ca K u) s.heap.size = A at hD hE ⊢
  have hA : ∀ q : Nat, s.heap.size ≤ q → A q := fun q h => by rw [← hAe]; exact Or.inr h
  obtain ⟨H, hHe⟩ : ∃ z : Heap, z = s.heap := ⟨_, rfl⟩
  rw [← hHe]
  have hS : va_S A s.heap H [] := by rw [hHe]; exact va_S.rf
  have hP : va_P (dC, dI) vwCl (wX ad ca K u) H := by rw [hHe]; exact hP
  have hl := lv_entry ([.ref (ad 2), .int p1]) (n := 2) (Nat.le_of_ble_eq_true rfl)
  rw [lg_entry_eq]
  generalize (lg_sl ([.ref (ad 2), .int p1]) ++ List.replicate (2 - (lg_sl ([.ref (ad 2), .int p1])).length) Slot.unset).toArray = ls at hl ⊢
  have hl : lv_has ls 2 [(0, .ref (ad 2)), (1, .int p1)] := hl
  clear hAe
  refine lv_iload_n hx hb dX1_at_0 rfl (lv_at hl 1 rfl) ?_
  refine lv_if_lt (tgt := 21) hx hb dX1_at_1 (by decide) (fun c1 => ?_) (fun c1 => ?_)
  · have h := h.1 c1
    refine lv_null hx hb dX1_at_21 ?_
    exact gr_q (w := wX ad ca K) (u := u) (v := none) hx hb hr hlocks h hP hK hD hS dX1_at_22
  · have h := h.2 c1
    refine lv_iload_n hx hb dX1_at_4 rfl (lv_at hl 1 rfl) ?_
    refine lv_aload_n hx hb dX1_at_5 rfl (lv_at hl 0 rfl) ?_
    refine va_get (D := (dC, dI)) (ci := 1) (v := .int (sI u 2)) (C := RX1) (T := TX1) (N := 3) hx hb hts uwX1 hown hK hP 2 rfl rfl 1 (by decide) (hts _ wd_101) (fun _ h9 => h9) rfl dX1_at_6 ?_
    refine lv_icmp_ge (tgt := 21) hx hb dX1_at_9 (by decide) (fun c2 => ?_) (fun c2 => ?_)
    · have h := h.1 c2
      refine lv_null hx hb dX1_at_21 ?_
      exact gr_q (w := wX ad ca K) (u := u) (v := none) hx hb hr hlocks h hP hK hD hS dX1_at_22
    · have h := h.2 c2
      refine lv_aload_n hx hb dX1_at_12 rfl (lv_at hl 0 rfl) ?_
      refine va_get (D := (dC, dI)) (ci := 1) (v := .ref (ad 3)) (C := RX1) (T := TX1) (N := 3) hx hb hts uwX1 hown hK hP 2 rfl rfl 0 (by decide) (hts _ wd_100) (fun _ h9 => h9) rfl dX1_at_13 ?_
      refine lv_iload_n hx hb dX1_at_16 rfl (lv_at hl 1 rfl) ?_
      refine va_aldq (C := RX4) hx hb hK hP 3 1 rfl rfl h.1 dX1_at_17 ?_
      have h := h.2
      refine gq_top (fun r3 er3 => ?_)
      have h := h r3 er3
      refine lv_goto (tgt := 22) hx hb dX1_at_18 (by decide) ?_
      exact gr_q (w := wX ad ca K) (u := u) (v := r3) hx hb hr hlocks h hP hK hD hS dX1_at_22

theorem dX1_placeOf_0 : decode prog_2_method_4_code 0 = .ok (.iconst 0, 1) := by decide +kernel
theorem dX1_placeOf_1 : decode prog_2_method_4_code 1 = .ok (.istore_n 2, 1) := by decide +kernel
theorem dX1_placeOf_2 : decode prog_2_method_4_code 2 = .ok (.iload_n 2, 1) := by decide +kernel
theorem dX1_placeOf_3 : decode prog_2_method_4_code 3 = .ok (.aload_n 0, 1) := by decide +kernel
theorem dX1_placeOf_4 : decode prog_2_method_4_code 4 = .ok (.getfield 17, 3) := by decide +kernel
theorem dX1_placeOf_7 : decode prog_2_method_4_code 7 = .ok (.if_icmp .ge 24, 3) := by decide +kernel
theorem dX1_placeOf_10 : decode prog_2_method_4_code 10 = .ok (.aload_n 0, 1) := by decide +kernel
theorem dX1_placeOf_11 : decode prog_2_method_4_code 11 = .ok (.getfield 11, 3) := by decide +kernel
theorem dX1_placeOf_14 : decode prog_2_method_4_code 14 = .ok (.iload_n 2, 1) := by decide +kernel
theorem dX1_placeOf_15 : decode prog_2_method_4_code 15 = .ok (.aaload, 1) := by decide +kernel
theorem dX1_placeOf_16 : decode prog_2_method_4_code 16 = .ok (.getfield 33, 3) := by decide +kernel
theorem dX1_placeOf_19 : decode prog_2_method_4_code 19 = .ok (.aload_n 1, 1) := by decide +kernel
theorem dX1_placeOf_20 : decode prog_2_method_4_code 20 = .ok (.if_acmp .ne 5, 3) := by decide +kernel
theorem dX1_placeOf_23 : decode prog_2_method_4_code 23 = .ok (.iload_n 2, 1) := by decide +kernel
theorem dX1_placeOf_24 : decode prog_2_method_4_code 24 = .ok (.ireturn, 1) := by decide +kernel
theorem dX1_placeOf_25 : decode prog_2_method_4_code 25 = .ok (.iinc 2 1, 3) := by decide +kernel
theorem dX1_placeOf_28 : decode prog_2_method_4_code 28 = .ok (.goto (-26), 3) := by decide +kernel
theorem dX1_placeOf_31 : decode prog_2_method_4_code 31 = .ok (.iconst (-1), 1) := by decide +kernel
theorem dX1_placeOf_32 : decode prog_2_method_4_code 32 = .ok (.ireturn, 1) := by decide +kernel
def wpX1_placeOf_2 (K : KX) (post : Int32 → gS → Prop) : Nat → Option Nat → Int32 → gS → Prop
  | 0 => fun _ _ _ => False
  | n + 1 => fun l1 l2 u => (((sI u 2) ≤ l2 → (post (-1) u)) ∧ (¬ (sI u 2) ≤ l2 → (vp_in l2 5 ∧ (∀ r2 : Option Nat, r2 = sQ u 0 l2.toNatClampNeg → (∃ y3 : Nat, r2 = some y3 ∧ y3 ∈ K.2.1 ∧ (∀ r5 : Option Nat, r5 = sQ u 4 y3 → (((¬ r5 = l1 → (∀ x7 : Int32, x7 = l2 + 1 → (wpX1_placeOf_2 K post n l1 x7 u))) ∧ (r5 = l1 → (post l2 u))))))))))

def wpX1_placeOf (K : KX) (post : Int32 → gS → Prop) (u : gS) (p1 : Option Nat) : Prop :=
  ∃ n2 : Nat, wpX1_placeOf_2 K post n2 p1 0 u

set_option maxHeartbeats 8000000 in
set_option maxRecDepth 100000 in
theorem wpX1_placeOf_2_ok {p : Program} {l : Launch} {e : Env} {s : State} {m : MethodId} {args : Array Value} {below : List Frame} {meth : Method} {c : Code} {dC : Nat → ClassId} {dI : Nat → Nat → Nat} {ad : Nat → Nat} {ca : Nat → ClassId} {K : KX} {A : Nat → Prop} {post : Int32 → gS → Prop}   (hx : p.tables.exec = Jvm.exec) (hb : c.code = prog_2_method_4_code) (hr : meth.sig.returnType = (some .int)) (hml : c.maxLocals = 3) (hown : s.vm.findClass RX1 = some m.cls) (hts : ∀ w ∈ gW, w.before args s = true) (hlocks : meth.locks = false) (hK : va_K (dC, dI) vwCl (xT ca) s) (hA : ∀ q, s.heap.size ≤ q → A q) (hE : xE A s s.heap) :
    ∀ (n : Nat) (l1 : Option Nat) (l2 : Int32) (u : gS) (H : Heap) (locs : List Loc) (ls : Array Slot), wpX1_placeOf_2 K post n l1 l2 u → va_P (dC, dI) vwCl (wX ad ca K u) H → va_D A (wX ad ca K u) → va_S A s.heap H locs → lv_has ls 3 [(0, .ref (ad 2)), (1, va_rf l1), (2, .int l2)] → W p l e (headSpec (gw ⟨"WorkHall$Crew", "placeOf", "(LWorkHall$Job;)I"⟩ prog_2_method_4_code 3 (some .int)) ({ frames := 1, cells := 0, slots := 0, locals := 40 } : Room)).room s m args below meth c H locs 0 0 (MQ below (va_Qi post (gAt (dC, dI) vwCl (xT ca) (wX ad ca K) (A)) (A)) args s 0 0 A) (F0 m 2 ls []) := by
  intro n
  induction n with
  | zero => exact fun _ _ _ _ _ _ h => h.elim
  | succ n ih =>
    intro l1 l2 u H locs ls h hP hD hS hl
    refine lv_iload_n hx hb dX1_placeOf_2 rfl (lv_at hl 2 rfl) ?_
    refine lv_aload_n hx hb dX1_placeOf_3 rfl (lv_at hl 0 rfl) ?_
    refine va_get (D := (dC, dI)) (ci := 1) (v := .int (sI u 2)) (C := RX1) (T := TX1) (N := 3) hx hb hts uwX1 hown hK hP 2 rfl rfl 1 (by decide) (hts _ wd_101) (fun _ h9 => h9) rfl dX1_placeOf_4 ?_
    refine lv_icmp_ge (tgt := 31) hx hb dX1_placeOf_7 (by decide) (fun c1 => ?_) (fun c1 => ?_)
    · have h := h.1 c1
      refine lv_iconst (v := (-1)) hx hb dX1_placeOf_31 (by decide) ?_
      exact gr_i (w := wX ad ca K) (u := u) hx hb hr hlocks h hP hK hD hS dX1_placeOf_32
    · have h := h.2 c1
      refine lv_aload_n hx hb dX1_placeOf_10 rfl (lv_at hl 0 rfl) ?_
      refine va_get (D := (dC, dI)) (ci := 1) (v := .ref (ad 3)) (C := RX1) (T := TX1) (N := 3) hx hb hts uwX1 hown hK hP 2 rfl rfl 0 (by decide) (hts _ wd_100) (fun _ h9 => h9) rfl dX1_placeOf_11 ?_
      refine lv_iload_n hx hb dX1_placeOf_14 rfl (lv_at hl 2 rfl) ?_
      refine va_aldq (C := RX4) hx hb hK hP 3 1 rfl rfl h.1 dX1_placeOf_15 ?_
      have h := h.2
      refine gq_top (fun r2 er2 => ?_)
      have h := h r2 er2
      obtain ⟨y3, rfl, hy4, h⟩ := h
      obtain ⟨k9, hk9⟩ := xW_get hy4
      refine va_get (D := (dC, dI)) (ci := 4) (v := va_rf (sQ u 4 y3)) (C := RX4) (T := TX4) (N := 3) hx hb hts uwX4 hown hK hP k9 hk9 rfl 0 (by decide) (hts _ wd_87) (fun _ h9 => h9) rfl dX1_placeOf_16 ?_
      refine gq_top (fun r5 er5 => ?_)
      have h := h r5 er5
      refine gq_aload_n (r := l1) hx hb dX1_placeOf_19 rfl (lv_at hl 1 rfl) ?_
      refine lv_acmp_ne (rx := r5) (ry := l1) (tgt := 25) hx hb dX1_placeOf_20 (by decide) (fun c6 => ?_) (fun c6 => ?_)
      · have h := h.1 c6
        obtain ⟨x7, ex7⟩ : ∃ y : Int32, y = l2 + 1 := ⟨_, rfl⟩
        have h := h x7 ex7
        refine lv_iinc (v := x7) (lv' := [(2, .int x7), (0, .ref (ad 2)), (1, va_rf l1)]) hx hb dX1_placeOf_25 hl (k := 2) rfl (by rw [ex7]; rfl) (by decide) (by cases l1 <;> rfl) (fun ls hl => ?_)
        refine lv_goto (tgt := 2) hx hb dX1_placeOf_28 (by decide) ?_
        exact ih l1 x7 u _ _ _ h hP hD hS (lv_sub hl [1, 2, 0] rfl)
      · have h := h.2 c6
        refine lv_iload_n hx hb dX1_placeOf_23 rfl (lv_at hl 2 rfl) ?_
        exact gr_i (w := wX ad ca K) (u := u) hx hb hr hlocks h hP hK hD hS dX1_placeOf_24

set_option maxHeartbeats 8000000 in
set_option maxRecDepth 100000 in
theorem cX1_placeOf (l : Launch) (dC : Nat → ClassId) (dI : Nat → Nat → Nat) (ad : Nat → Nat) (ca : Nat → ClassId) (K : KX) (sz : Nat) (u : gS) (p1 : Option Nat) (post : Int32 → gS → Prop)  (h : wpX1_placeOf K post u p1) : Met l ⟨"WorkHall$Crew", "placeOf", "(LWorkHall$Job;)I"⟩ (gw ⟨"WorkHall$Crew", "placeOf", "(LWorkHall$Job;)I"⟩ prog_2_method_4_code 3 (some .int)) ({ frames := 1, cells := 0, slots := 0, locals := 40 } : Room) (va_Pc [.ref (ad 2), va_rf p1] (gB (dC, dI) vwCl (xT ca) xE (wX ad ca K u) sz)) (va_Qi post (gAt (dC, dI) vwCl (xT ca) (wX ad ca K) (va_A (wX ad ca K u) sz)) (va_A (wX ad ca K u) sz)) 0 0 (va_A (wX ad ca K u) sz) := by
  refine Met.ofW (cc := prog_2_method_4_code) (maxL := 3) (ret := (some .int)) (by decide) rfl ?_
  intro p e s m args below meth c s₁ B hml hv
  obtain ⟨rfl, hsz, hP, hK, hD0, hE⟩ := hv
  have hx := B.exec
  have hb := B.bytes
  have hr := B.returns
  have hts : ∀ w ∈ gW, w.before _ s = true := fun w h9 => atoms_spec (ws := (gw ⟨"WorkHall$Crew", "placeOf", "(LWorkHall$Job;)I"⟩ prog_2_method_4_code 3 (some .int))) B.pre w (List.mem_cons_of_mem _ h9)
  have hown : s.vm.findClass RX1 = some m.cls := findClass_of_methodNamed B.named
  have hlocks := B.notSynchronized
  subst hsz
  have hD := hD0.self (sz := s.heap.size)
  generalize hAe : va_A (wX ad ca K u) s.heap.size = A at hD hE ⊢
  have hA : ∀ q : Nat, s.heap.size ≤ q → A q := fun q h => by rw [← hAe]; exact Or.inr h
  obtain ⟨H, hHe⟩ : ∃ z : Heap, z = s.heap := ⟨_, rfl⟩
  rw [← hHe]
  have hS : va_S A s.heap H [] := by rw [hHe]; exact va_S.rf
  have hP : va_P (dC, dI) vwCl (wX ad ca K u) H := by rw [hHe]; exact hP
  have hl := lv_entry ([.ref (ad 2), va_rf p1]) (n := 3) (by cases p1 <;> exact Nat.le_of_ble_eq_true rfl)
  rw [lg_entry_eq]
  generalize (lg_sl ([.ref (ad 2), va_rf p1]) ++ List.replicate (3 - (lg_sl ([.ref (ad 2), va_rf p1])).length) Slot.unset).toArray = ls at hl ⊢
  have hl : lv_has ls 3 [(0, .ref (ad 2)), (1, va_rf p1)] := (by cases p1 <;> exact hl)
  clear hAe
  refine lv_iconst (v := 0) hx hb dX1_placeOf_0 (by decide) ?_
  refine lv_istore_n (lv' := [(2, .int 0), (0, .ref (ad 2)), (1, va_rf p1)]) hx hb dX1_placeOf_1 rfl hl (by decide) (by cases p1 <;> rfl) (fun ls hl => ?_)
  obtain ⟨n2, h⟩ := h
  exact wpX1_placeOf_2_ok hx hb hr hml hown hts hlocks hK hA hE n2 p1 0 u _ _ _ h hP hD hS (lv_sub hl [1, 2, 0] rfl)

