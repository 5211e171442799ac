theorem dM6_clamp_0 : decode prog_8_method_2_code 0 = .ok (.iload_n 1, 1) := by decide +kernel
theorem dM6_clamp_1 : decode prog_8_method_2_code 1 = .ok (.iload_n 2, 1) := by decide +kernel
theorem dM6_clamp_2 : decode prog_8_method_2_code 2 = .ok (.if_icmp .ge 7, 3) := by decide +kernel
theorem dM6_clamp_5 : decode prog_8_method_2_code 5 = .ok (.iload_n 2, 1) := by decide +kernel
theorem dM6_clamp_6 : decode prog_8_method_2_code 6 = .ok (.goto 13, 3) := by decide +kernel
theorem dM6_clamp_9 : decode prog_8_method_2_code 9 = .ok (.iload_n 1, 1) := by decide +kernel
theorem dM6_clamp_10 : decode prog_8_method_2_code 10 = .ok (.iload_n 3, 1) := by decide +kernel
theorem dM6_clamp_11 : decode prog_8_method_2_code 11 = .ok (.if_icmp .le 7, 3) := by decide +kernel
theorem dM6_clamp_14 : decode prog_8_method_2_code 14 = .ok (.iload_n 3, 1) := by decide +kernel
theorem dM6_clamp_15 : decode prog_8_method_2_code 15 = .ok (.goto 4, 3) := by decide +kernel
theorem dM6_clamp_18 : decode prog_8_method_2_code 18 = .ok (.iload_n 1, 1) := by decide +kernel
theorem dM6_clamp_19 : decode prog_8_method_2_code 19 = .ok (.ireturn, 1) := by decide +kernel
def wpM6_clamp (K : KM) (post : Int32 → gS → Prop) (u : gS) (p1 : Int32) (p2 : Int32) (p3 : Int32) : Prop :=
  ((p2 ≤ p1 → (((p1 ≤ p3 → (post p1 u)) ∧ (¬ p1 ≤ p3 → (post p3 u))))) ∧ (¬ p2 ≤ p1 → (post p2 u)))

set_option maxHeartbeats 8000000 in
set_option maxRecDepth 100000 in
theorem cM6_clamp (l : Launch) (dC : Nat → ClassId) (dI : Nat → Nat → Nat) (ad : Nat → Nat) (ca : Nat → ClassId) (K : KM) (sz : Nat) (u : gS) (p1 : Int32) (p2 : Int32) (p3 : Int32) (post : Int32 → gS → Prop)  (h : wpM6_clamp K post u p1 p2 p3) : Met l ⟨"WorkHallModel", "clamp", "(III)I"⟩ (gw ⟨"WorkHallModel", "clamp", "(III)I"⟩ prog_8_method_2_code 4 (some .int)) ({ frames := 1, cells := 0, slots := 0, locals := 40 } : Room) (va_Pc [.ref (ad 0), .int p1, .int p2, .int p3] (gB (dC, dI) vwCl (mT ca) mE (wM ad ca K u) sz)) (va_Qi post (gAt (dC, dI) vwCl (mT ca) (wM ad ca K) (va_A (wM ad ca K u) sz)) (va_A (wM ad ca K u) sz)) 0 0 (va_A (wM ad ca K u) sz) := by
  refine Met.ofW (cc := prog_8_method_2_code) (maxL := 4) (ret := (some .int)) (by decide) rfl ?_
  intro p e s m args below meth c s₁ B hml hv
  obtain ⟨rfl, hsz, hP, hK, hD0, hE⟩ := hv
  have hx := B.exec
  have hb := B.bytes
  have hr := B.returns
  have hts : ∀ w ∈ gW, w.before _ s = true := fun w h9 => atoms_spec (ws := (gw ⟨"WorkHallModel", "clamp", "(III)I"⟩ prog_8_method_2_code 4 (some .int))) B.pre w (List.mem_cons_of_mem _ h9)
  have hown : s.vm.findClass RX6 = some m.cls := findClass_of_methodNamed B.named
  have hlocks := B.notSynchronized
  subst hsz
  have hD := hD0.self (sz := s.heap.size)
  generalize hAe : va_A (wM ad ca K u) s.heap.size = A at hD hE ⊢
  have hA : ∀ q : Nat, s.heap.size ≤ q → A q := fun q h => by rw [← hAe]; exact Or.inr h
  obtain ⟨H, hHe⟩ : ∃ z : Heap, z = s.heap := ⟨_, rfl⟩
  rw [← hHe]
  have hS : va_S A s.heap H [] := by rw [hHe]; exact va_S.rf
  have hP : va_P (dC, dI) vwCl (wM ad ca K u) H := by rw [hHe]; exact hP
  have hl := lv_entry ([.ref (ad 0), .int p1, .int p2, .int p3]) (n := 4) (Nat.le_of_ble_eq_true rfl)
  rw [lg_entry_eq]
  generalize (lg_sl ([.ref (ad 0), .int p1, .int p2, .int p3]) ++ List.replicate (4 - (lg_sl ([.ref (ad 0), .int p1, .int p2, .int p3])).length) Slot.unset).toArray = ls at hl ⊢
  have hl : lv_has ls 4 [(0, .ref (ad 0)), (1, .int p1), (2, .int p2), (3, .int p3)] := hl
  clear hAe
  refine lv_iload_n hx hb dM6_clamp_0 rfl (lv_at hl 1 rfl) ?_
  refine lv_iload_n hx hb dM6_clamp_1 rfl (lv_at hl 2 rfl) ?_
  refine lv_icmp_ge (tgt := 9) hx hb dM6_clamp_2 (by decide) (fun c1 => ?_) (fun c1 => ?_)
  · have h := h.1 c1
    refine lv_iload_n hx hb dM6_clamp_9 rfl (lv_at hl 1 rfl) ?_
    refine lv_iload_n hx hb dM6_clamp_10 rfl (lv_at hl 3 rfl) ?_
    refine lv_icmp_le (tgt := 18) hx hb dM6_clamp_11 (by decide) (fun c2 => ?_) (fun c2 => ?_)
    · have h := h.1 c2
      refine lv_iload_n hx hb dM6_clamp_18 rfl (lv_at hl 1 rfl) ?_
      exact gr_i (w := wM ad ca K) (u := u) hx hb hr hlocks h hP hK hD hS dM6_clamp_19
    · have h := h.2 c2
      refine lv_iload_n hx hb dM6_clamp_14 rfl (lv_at hl 3 rfl) ?_
      refine lv_goto (tgt := 19) hx hb dM6_clamp_15 (by decide) ?_
      exact gr_i (w := wM ad ca K) (u := u) hx hb hr hlocks h hP hK hD hS dM6_clamp_19
  · have h := h.2 c1
    refine lv_iload_n hx hb dM6_clamp_5 rfl (lv_at hl 2 rfl) ?_
    refine lv_goto (tgt := 19) hx hb dM6_clamp_6 (by decide) ?_
    exact gr_i (w := wM ad ca K) (u := u) hx hb hr hlocks h hP hK hD hS dM6_clamp_19

theorem dM6_thrown_0 : decode prog_8_method_3_code 0 = .ok (.aload_n 0, 1) := by decide +kernel
theorem dM6_thrown_1 : decode prog_8_method_3_code 1 = .ok (.getfield 85, 3) := by decide +kernel
theorem dM6_thrown_4 : decode prog_8_method_3_code 4 = .ok (.ireturn, 1) := by decide +kernel
def wpM6_thrown (K : KM) (post : Int32 → gS → Prop) (u : gS)  : Prop :=
  post (sI u 0) u

set_option maxHeartbeats 8000000 in
set_option maxRecDepth 100000 in
theorem cM6_thrown (l : Launch) (dC : Nat → ClassId) (dI : Nat → Nat → Nat) (ad : Nat → Nat) (ca : Nat → ClassId) (K : KM) (sz : Nat) (u : gS)  (post : Int32 → gS → Prop)  (h : wpM6_thrown K post u ) : Met l ⟨"WorkHallModel", "thrown", "()I"⟩ (gw ⟨"WorkHallModel", "thrown", "()I"⟩ prog_8_method_3_code 1 (some .int)) ({ frames := 1, cells := 0, slots := 0, locals := 40 } : Room) (va_Pc [.ref (ad 0)] (gB (dC, dI) vwCl (mT ca) mE (wM ad ca K u) sz)) (va_Qi post (gAt (dC, dI) vwCl (mT ca) (wM ad ca K) (va_A (wM ad ca K u) sz)) (va_A (wM ad ca K u) sz)) 0 0 (va_A (wM ad ca K u) sz) := by
  refine Met.ofW (cc := prog_8_method_3_code) (maxL := 1) (ret := (some .int)) (by decide) rfl ?_
  intro p e s m args below meth c s₁ B hml hv
  obtain ⟨rfl, hsz, hP, hK, hD0, hE⟩ := hv
  have hx := B.exec
  have hb := B.bytes
  have hr := B.returns
  have hts : ∀ w ∈ gW, w.before _ s = true := fun w h9 => atoms_spec (ws := (gw ⟨"WorkHallModel", "thrown", "()I"⟩ prog_8_method_3_code 1 (some .int))) B.pre w (List.mem_cons_of_mem _ h9)
  have hown : s.vm.findClass RX6 = some m.cls := findClass_of_methodNamed B.named
  have hlocks := B.notSynchronized
  subst hsz
  have hD := hD0.self (sz := s.heap.size)
  generalize hAe : va_A (wM ad ca K u) s.heap.size = A at hD hE ⊢
  have hA : ∀ q : Nat, s.heap.size ≤ q → A q := fun q h => by rw [← hAe]; exact Or.inr h
  obtain ⟨H, hHe⟩ : ∃ z : Heap, z = s.heap := ⟨_, rfl⟩
  rw [← hHe]
  have hS : va_S A s.heap H [] := by rw [hHe]; exact va_S.rf
  have hP : va_P (dC, dI) vwCl (wM ad ca K u) H := by rw [hHe]; exact hP
  have hl := lv_entry ([.ref (ad 0)]) (n := 1) (Nat.le_of_ble_eq_true rfl)
  rw [lg_entry_eq]
  generalize (lg_sl ([.ref (ad 0)]) ++ List.replicate (1 - (lg_sl ([.ref (ad 0)])).length) Slot.unset).toArray = ls at hl ⊢
  have hl : lv_has ls 1 [(0, .ref (ad 0))] := hl
  clear hAe
  refine lv_aload_n hx hb dM6_thrown_0 rfl (lv_at hl 0 rfl) ?_
  refine va_get (D := (dC, dI)) (ci := 6) (v := .int (sI u 0)) (C := RX6) (T := TX6) (N := 36) hx hb hts uwX6 hown hK hP 0 rfl rfl 0 (by decide) (hts _ wd_703) (fun _ h9 => h9) rfl dM6_thrown_1 ?_
  exact gr_i (w := wM ad ca K) (u := u) hx hb hr hlocks h hP hK hD hS dM6_thrown_4

theorem dM6_fail_0 : decode prog_8_method_4_code 0 = .ok (.aload_n 0, 1) := by decide +kernel
theorem dM6_fail_1 : decode prog_8_method_4_code 1 = .ok (.iload_n 1, 1) := by decide +kernel
theorem dM6_fail_2 : decode prog_8_method_4_code 2 = .ok (.putfield 85, 3) := by decide +kernel
theorem dM6_fail_5 : decode prog_8_method_4_code 5 = .ok (.iconst 0, 1) := by decide +kernel
theorem dM6_fail_6 : decode prog_8_method_4_code 6 = .ok (.ireturn, 1) := by decide +kernel
def wpM6_fail (K : KM) (post : Int32 → gS → Prop) (u : gS) (p1 : Int32) : Prop :=
  ∀ u1 : gS, u1 = tI u 0 p1 → (post 0 u1)

set_option maxHeartbeats 8000000 in
set_option maxRecDepth 100000 in
theorem cM6_fail (l : Launch) (dC : Nat → ClassId) (dI : Nat → Nat → Nat) (ad : Nat → Nat) (ca : Nat → ClassId) (K : KM) (sz : Nat) (u : gS) (p1 : Int32) (post : Int32 → gS → Prop)  (h : wpM6_fail K post u p1) : Met l ⟨"WorkHallModel", "fail", "(I)I"⟩ (gw ⟨"WorkHallModel", "fail", "(I)I"⟩ prog_8_method_4_code 2 (some .int)) ({ frames := 1, cells := 0, slots := 0, locals := 40 } : Room) (va_Pc [.ref (ad 0), .int p1] (gB (dC, dI) vwCl (mT ca) mE (wM ad ca K u) sz)) (va_Qi post (gAt (dC, dI) vwCl (mT ca) (wM ad ca K) (va_A (wM ad ca K u) sz)) (va_A (wM ad ca K u) sz)) 0 0 (va_A (wM ad ca K u) sz) := by
  refine Met.ofW (cc := prog_8_method_4_code) (maxL := 2) (ret := (some .int)) (by decide) rfl ?_
  intro p e s m args below meth c s₁ B hml hv
  obtain ⟨rfl, hsz, hP, hK, hD0, hE⟩ := hv
  have hx := B.exec
  have hb := B.bytes
  have hr := B.returns
  have hts : ∀ w ∈ gW, w.before _ s = true := fun w h9 => atoms_spec (ws := (gw ⟨"WorkHallModel", "fail", "(I)I"⟩ prog_8_method_4_code 2 (some .int))) B.pre w (List.mem_cons_of_mem _ h9)
  have hown : s.vm.findClass RX6 = some m.cls := findClass_of_methodNamed B.named
  have hlocks := B.notSynchronized
  subst hsz
  have hD := hD0.self (sz := s.heap.size)
  generalize hAe : va_A (wM ad ca K u) s.heap.size = A at hD hE ⊢
  have hA : ∀ q : Nat, s.heap.size ≤ q → A q := fun q h => by rw [← hAe]; exact Or.inr h
  obtain ⟨H, hHe⟩ : ∃ z : Heap, z = s.heap := ⟨_, rfl⟩
  rw [← hHe]
  have hS : va_S A s.heap H [] := by rw [hHe]; exact va_S.rf
  have hP : va_P (dC, dI) vwCl (wM ad ca K u) H := by rw [hHe]; exact hP
  have hl := lv_entry ([.ref (ad 0), .int p1]) (n := 2) (Nat.le_of_ble_eq_true rfl)
  rw [lg_entry_eq]
  generalize (lg_sl ([.ref (ad 0), .int p1]) ++ List.replicate (2 - (lg_sl ([.ref (ad 0), .int p1])).length) Slot.unset).toArray = ls at hl ⊢
  have hl : lv_has ls 2 [(0, .ref (ad 0)), (1, .int p1)] := hl
  clear hAe
  refine lv_aload_n hx hb dM6_fail_0 rfl (lv_at hl 0 rfl) ?_
  refine lv_iload_n hx hb dM6_fail_1 rfl (lv_at hl 1 rfl) ?_
  refine va_put (D := (dC, dI)) (ci := 6) (v := .int p1) (ty := tyX6 0) (C := RX6) (T := TX6) (N := 36) hx hb hts uwX6 tyX6 tyX6_ok nmX6 hown hK hP hD hS 0 rfl rfl 0 (by decide) (hts _ wd_703) (fun _ h9 => h9) rfl (tyX6_ok 0 (by decide)) rfl rfl (Nat.le_of_ble_eq_true rfl) dM6_fail_2 (fun H locs hP hD hS => ?_)
  obtain ⟨u1, eu1⟩ : ∃ z : gS, z = tI u 0 p1 := ⟨_, rfl⟩
  have hP : va_P (dC, dI) vwCl (wM ad ca K u1) H := by rw [eu1, wM_f0_failed]; exact hP
  have hD : va_D A (wM ad ca K u1) := by rw [eu1, wM_f0_failed]; exact hD
  have h := h u1 eu1
  refine lv_iconst (v := 0) hx hb dM6_fail_5 (by decide) ?_
  exact gr_i (w := wM ad ca K) (u := u1) hx hb hr hlocks h hP hK hD hS dM6_fail_6

theorem dM6_out_0 : decode prog_8_method_5_code 0 = .ok (.iload_n 1, 1) := by decide +kernel
theorem dM6_out_1 : decode prog_8_method_5_code 1 = .ok (.ifCond .lt 8, 3) := by decide +kernel
theorem dM6_out_4 : decode prog_8_method_5_code 4 = .ok (.iload_n 1, 1) := by decide +kernel
theorem dM6_out_5 : decode prog_8_method_5_code 5 = .ok (.iload_n 2, 1) := by decide +kernel
theorem dM6_out_6 : decode prog_8_method_5_code 6 = .ok (.if_icmp .lt 7, 3) := by decide +kernel
theorem dM6_out_9 : decode prog_8_method_5_code 9 = .ok (.iconst 1, 1) := by decide +kernel
theorem dM6_out_10 : decode prog_8_method_5_code 10 = .ok (.goto 4, 3) := by decide +kernel
theorem dM6_out_13 : decode prog_8_method_5_code 13 = .ok (.iconst 0, 1) := by decide +kernel
theorem dM6_out_14 : decode prog_8_method_5_code 14 = .ok (.ireturn, 1) := by decide +kernel
def wpM6_out (K : KM) (post : Int32 → gS → Prop) (u : gS) (p1 : Int32) (p2 : Int32) : Prop :=
  ((p1 < 0 → (narrow .boolean (.int 1) = .int 1 ∧ post 1 u)) ∧ (¬ p1 < 0 → (((p1 < p2 → (narrow .boolean (.int 0) = .int 0 ∧ post 0 u)) ∧ (¬ p1 < p2 → (narrow .boolean (.int 1) = .int 1 ∧ post 1 u))))))

set_option maxHeartbeats 8000000 in
set_option maxRecDepth 100000 in
theorem cM6_out (l : Launch) (dC : Nat → ClassId) (dI : Nat → Nat → Nat) (ad : Nat → Nat) (ca : Nat → ClassId) (K : KM) (sz : Nat) (u : gS) (p1 : Int32) (p2 : Int32) (post : Int32 → gS → Prop)  (h : wpM6_out K post u p1 p2) : Met l ⟨"WorkHallModel", "out", "(II)Z"⟩ (gw ⟨"WorkHallModel", "out", "(II)Z"⟩ prog_8_method_5_code 3 (some .boolean)) ({ frames := 1, cells := 0, slots := 0, locals := 40 } : Room) (va_Pc [.ref (ad 0), .int p1, .int p2] (gB (dC, dI) vwCl (mT ca) mE (wM ad ca K u) sz)) (va_Qi post (gAt (dC, dI) vwCl (mT ca) (wM ad ca K) (va_A (wM ad ca K u) sz)) (va_A (wM ad ca K u) sz)) 0 0 (va_A (wM ad ca K u) sz) := by
  refine Met.ofW (cc := prog_8_method_5_code) (maxL := 3) (ret := (some .boolean)) (by decide) rfl ?_
  intro p e s m args below meth c s₁ B hml hv
  obtain ⟨rfl, hsz, hP, hK, hD0, hE⟩ := hv
  have hx := B.exec
  have hb := B.bytes
  have hr := B.returns
  have hts : ∀ w ∈ gW, w.before _ s = true := fun w h9 => atoms_spec (ws := (gw ⟨"WorkHallModel", "out", "(II)Z"⟩ prog_8_method_5_code 3 (some .boolean))) B.pre w (List.mem_cons_of_mem _ h9)
  have hown : s.vm.findClass RX6 = some m.cls := findClass_of_methodNamed B.named
  have hlocks := B.notSynchronized
  subst hsz
  have hD := hD0.self (sz := s.heap.size)
  generalize hAe : va_A (wM ad ca K u) s.heap.size = A at hD hE ⊢
  have hA : ∀ q : Nat, s.heap.size ≤ q → A q := fun q h => by rw [← hAe]; exact Or.inr h
  obtain ⟨H, hHe⟩ : ∃ z : Heap, z = s.heap := ⟨_, rfl⟩
  rw [← hHe]
  have hS : va_S A s.heap H [] := by rw [hHe]; exact va_S.rf
  have hP : va_P (dC, dI) vwCl (wM ad ca K u) H := by rw [hHe]; exact hP
  have hl := lv_entry ([.ref (ad 0), .int p1, .int p2]) (n := 3) (Nat.le_of_ble_eq_true rfl)
  rw [lg_entry_eq]
  generalize (lg_sl ([.ref (ad 0), .int p1, .int p2]) ++ List.replicate (3 - (lg_sl ([.ref (ad 0), .int p1, .int p2])).length) Slot.unset).toArray = ls at hl ⊢
  have hl : lv_has ls 3 [(0, .ref (ad 0)), (1, .int p1), (2, .int p2)] := hl
  clear hAe
  refine lv_iload_n hx hb dM6_out_0 rfl (lv_at hl 1 rfl) ?_
  refine lv_if_lt (tgt := 9) hx hb dM6_out_1 (by decide) (fun c1 => ?_) (fun c1 => ?_)
  · have h := h.1 c1
    refine lv_iconst (v := 1) hx hb dM6_out_9 (by decide) ?_
    refine lv_goto (tgt := 14) hx hb dM6_out_10 (by decide) ?_
    exact gr_z (w := wM ad ca K) (u := u) hx hb hr hlocks h.1 h.2 hP hK hD hS dM6_out_14
  · have h := h.2 c1
    refine lv_iload_n hx hb dM6_out_4 rfl (lv_at hl 1 rfl) ?_
    refine lv_iload_n hx hb dM6_out_5 rfl (lv_at hl 2 rfl) ?_
    refine lv_icmp_lt (tgt := 13) hx hb dM6_out_6 (by decide) (fun c2 => ?_) (fun c2 => ?_)
    · have h := h.1 c2
      refine lv_iconst (v := 0) hx hb dM6_out_13 (by decide) ?_
      exact gr_z (w := wM ad ca K) (u := u) hx hb hr hlocks h.1 h.2 hP hK hD hS dM6_out_14
    · have h := h.2 c2
      refine lv_iconst (v := 1) hx hb dM6_out_9 (by decide) ?_
      refine lv_goto (tgt := 14) hx hb dM6_out_10 (by decide) ?_
      exact gr_z (w := wM ad ca K) (u := u) hx hb hr hlocks h.1 h.2 hP hK hD hS dM6_out_14

theorem dM6_countBusy_0 : decode prog_8_method_7_code 0 = .ok (.iconst 0, 1) := by decide +kernel
theorem dM6_countBusy_1 : decode prog_8_method_7_code 1 = .ok (.istore_n 1, 1) := by decide +kernel
theorem dM6_countBusy_2 : decode prog_8_method_7_code 2 = .ok (.iconst 0, 1) := by decide +kernel
theorem dM6_countBusy_3 : decode prog_8_method_7_code 3 = .ok (.istore_n 2, 1) := by decide +kernel
theorem dM6_countBusy_4 : decode prog_8_method_7_code 4 = .ok (.iload_n 2, 1) := by decide +kernel
theorem dM6_countBusy_5 : decode prog_8_method_7_code 5 = .ok (.aload_n 0, 1) := by decide +kernel
theorem dM6_countBusy_6 : decode prog_8_method_7_code 6 = .ok (.getfield 98, 3) := by decide +kernel
theorem dM6_countBusy_9 : decode prog_8_method_7_code 9 = .ok (.if_icmp .ge 26, 3) := by decide +kernel
theorem dM6_countBusy_12 : decode prog_8_method_7_code 12 = .ok (.iload_n 1, 1) := by decide +kernel
theorem dM6_countBusy_13 : decode prog_8_method_7_code 13 = .ok (.aload_n 0, 1) := by decide +kernel
theorem dM6_countBusy_14 : decode prog_8_method_7_code 14 = .ok (.getfield 37, 3) := by decide +kernel
theorem dM6_countBusy_17 : decode prog_8_method_7_code 17 = .ok (.iload_n 2, 1) := by decide +kernel
theorem dM6_countBusy_18 : decode prog_8_method_7_code 18 = .ok (.iaload, 1) := by decide +kernel
theorem dM6_countBusy_19 : decode prog_8_method_7_code 19 = .ok (.ifCond .lt 7, 3) := by decide +kernel
theorem dM6_countBusy_22 : decode prog_8_method_7_code 22 = .ok (.iconst 1, 1) := by decide +kernel
theorem dM6_countBusy_23 : decode prog_8_method_7_code 23 = .ok (.goto 4, 3) := by decide +kernel
theorem dM6_countBusy_26 : decode prog_8_method_7_code 26 = .ok (.iconst 0, 1) := by decide +kernel
theorem dM6_countBusy_27 : decode prog_8_method_7_code 27 = .ok (.iadd, 1) := by decide +kernel
theorem dM6_countBusy_28 : decode prog_8_method_7_code 28 = .ok (.istore_n 1, 1) := by decide +kernel
theorem dM6_countBusy_29 : decode prog_8_method_7_code 29 = .ok (.iinc 2 1, 3) := by decide +kernel
theorem dM6_countBusy_32 : decode prog_8_method_7_code 32 = .ok (.goto (-28), 3) := by decide +kernel
theorem dM6_countBusy_35 : decode prog_8_method_7_code 35 = .ok (.iload_n 1, 1) := by decide +kernel
theorem dM6_countBusy_36 : decode prog_8_method_7_code 36 = .ok (.ireturn, 1) := by decide +kernel
def wpM6_countBusy_4 (K : KM) (post : Int32 → gS → Prop) : Nat → Int32 → Int32 → gS → Prop
  | 0 => fun _ _ _ => False
  | n + 1 => fun l1 l2 u => (((sI u 3) ≤ l2 → (post l1 u)) ∧ (¬ (sI u 3) ≤ l2 → (vp_in l2 8 ∧ ((((sA u 9 l2.toNatClampNeg) < 0 → (∀ x3 : Int32, x3 = l1 + 0 → (∀ x4 : Int32, x4 = l2 + 1 → (wpM6_countBusy_4 K post n x3 x4 u)))) ∧ (¬ (sA u 9 l2.toNatClampNeg) < 0 → (∀ x5 : Int32, x5 = l1 + 1 → (∀ x6 : Int32, x6 = l2 + 1 → (wpM6_countBusy_4 K post n x5 x6 u)))))))))

def wpM6_countBusy (K : KM) (post : Int32 → gS → Prop) (u : gS)  : Prop :=
  ∃ n4 : Nat, wpM6_countBusy_4 K post n4 0 0 u

set_option maxHeartbeats 8000000 in
set_option maxRecDepth 100000 in
theorem wpM6_countBusy_4_ok {p : Program} {l : Launch} {e : Env} {s : State} {m : MethodId} {args : Array Value} {below : List Frame} {meth : Method} {c : Code} {dC : Nat → ClassId} {dI : Nat → Nat → Nat} {ad : Nat → Nat} {ca : Nat → ClassId} {K : KM} {A : Nat → Prop} {post : Int32 → gS → Prop}   (hx : p.tables.exec = Jvm.exec) (hb : c.code = prog_8_method_7_code) (hr : meth.sig.returnType = (some .int)) (hml : c.maxLocals = 3) (hown : s.vm.findClass RX6 = some m.cls) (hts : ∀ w ∈ gW, w.before args s = true) (hlocks : meth.locks = false) (hK : va_K (dC, dI) vwCl (mT ca) s) (hA : ∀ q, s.heap.size ≤ q → A q) (hE : mE A s s.heap) :
    ∀ (n : Nat) (l1 : Int32) (l2 : Int32) (u : gS) (H : Heap) (locs : List Loc) (ls : Array Slot), wpM6_countBusy_4 K post n l1 l2 u → va_P (dC, dI) vwCl (wM ad ca K u) H → va_D A (wM ad ca K u) → va_S A s.heap H locs → lv_has ls 3 [(0, .ref (ad 0)), (1, .int l1), (2, .int l2)] → W p l e (headSpec (gw ⟨"WorkHallModel", "countBusy", "()I"⟩ prog_8_method_7_code 3 (some .int)) ({ frames := 1, cells := 0, slots := 0, locals := 40 } : Room)).room s m args below meth c H locs 0 0 (MQ below (va_Qi post (gAt (dC, dI) vwCl (mT ca) (wM ad ca K) (A)) (A)) args s 0 0 A) (F0 m 4 ls []) := by
  intro n
  induction n with
  | zero => exact fun _ _ _ _ _ _ h => h.elim
  | succ n ih =>
    intro l1 l2 u H locs ls h hP hD hS hl
    refine lv_iload_n hx hb dM6_countBusy_4 rfl (lv_at hl 2 rfl) ?_
    refine lv_aload_n hx hb dM6_countBusy_5 rfl (lv_at hl 0 rfl) ?_
    refine va_get (D := (dC, dI)) (ci := 6) (v := .int (sI u 3)) (C := RX6) (T := TX6) (N := 36) hx hb hts uwX6 hown hK hP 0 rfl rfl 19 (by decide) (hts _ wd_722) (fun _ h9 => h9) rfl dM6_countBusy_6 ?_
    refine lv_icmp_ge (tgt := 35) hx hb dM6_countBusy_9 (by decide) (fun c1 => ?_) (fun c1 => ?_)
    · have h := h.1 c1
      refine lv_iload_n hx hb dM6_countBusy_35 rfl (lv_at hl 1 rfl) ?_
      exact gr_i (w := wM ad ca K) (u := u) hx hb hr hlocks h hP hK hD hS dM6_countBusy_36
    · have h := h.2 c1
      refine lv_iload_n hx hb dM6_countBusy_12 rfl (lv_at hl 1 rfl) ?_
      refine lv_aload_n hx hb dM6_countBusy_13 rfl (lv_at hl 0 rfl) ?_
      refine va_get (D := (dC, dI)) (ci := 6) (v := .ref (ad 10)) (C := RX6) (T := TX6) (N := 36) hx hb hts uwX6 hown hK hP 0 rfl rfl 16 (by decide) (hts _ wd_719) (fun _ h9 => h9) rfl dM6_countBusy_14 ?_
      refine lv_iload_n hx hb dM6_countBusy_17 rfl (lv_at hl 2 rfl) ?_
      refine va_iald hx hb hK hP 10 0 rfl rfl h.1 dM6_countBusy_18 ?_
      have h := h.2
      refine lv_if_lt (tgt := 26) hx hb dM6_countBusy_19 (by decide) (fun c2 => ?_) (fun c2 => ?_)
      · have h := h.1 c2
        refine lv_iconst (v := 0) hx hb dM6_countBusy_26 (by decide) ?_
        refine lv_iadd hx hb dM6_countBusy_27 ?_
        refine lv_topi (fun x3 ex3 => ?_)
        have h := h x3 ex3
        refine lv_istore_n (lv' := [(1, .int x3), (0, .ref (ad 0)), (2, .int l2)]) hx hb dM6_countBusy_28 rfl hl (by decide) rfl (fun ls hl => ?_)
        obtain ⟨x4, ex4⟩ : ∃ y : Int32, y = l2 + 1 := ⟨_, rfl⟩
        have h := h x4 ex4
        refine lv_iinc (v := x4) (lv' := [(2, .int x4), (1, .int x3), (0, .ref (ad 0))]) hx hb dM6_countBusy_29 hl (k := 2) rfl (by rw [ex4]; rfl) (by decide) rfl (fun ls hl => ?_)
        refine lv_goto (tgt := 4) hx hb dM6_countBusy_32 (by decide) ?_
        exact ih x3 x4 u _ _ _ h hP hD hS (lv_sub hl [2, 1, 0] rfl)
      · have h := h.2 c2
        refine lv_iconst (v := 1) hx hb dM6_countBusy_22 (by decide) ?_
        refine lv_goto (tgt := 27) hx hb dM6_countBusy_23 (by decide) ?_
        refine lv_iadd hx hb dM6_countBusy_27 ?_
        refine lv_topi (fun x5 ex5 => ?_)
        have h := h x5 ex5
        refine lv_istore_n (lv' := [(1, .int x5), (0, .ref (ad 0)), (2, .int l2)]) hx hb dM6_countBusy_28 rfl hl (by decide) rfl (fun ls hl => ?_)
        obtain ⟨x6, ex6⟩ : ∃ y : Int32, y = l2 + 1 := ⟨_, rfl⟩
        have h := h x6 ex6
        refine lv_iinc (v := x6) (lv' := [(2, .int x6), (1, .int x5), (0, .ref (ad 0))]) hx hb dM6_countBusy_29 hl (k := 2) rfl (by rw [ex6]; rfl) (by decide) rfl (fun ls hl => ?_)
        refine lv_goto (tgt := 4) hx hb dM6_countBusy_32 (by decide) ?_
        exact ih x5 x6 u _ _ _ h hP hD hS (lv_sub hl [2, 1, 0] rfl)

set_option maxHeartbeats 8000000 in
set_option maxRecDepth 100000 in
theorem cM6_countBusy (l : Launch) (dC : Nat → ClassId) (dI : Nat → Nat → Nat) (ad : Nat → Nat) (ca : Nat → ClassId) (K : KM) (sz : Nat) (u : gS)  (post : Int32 → gS → Prop)  (h : wpM6_countBusy K post u ) : Met l ⟨"WorkHallModel", "countBusy", "()I"⟩ (gw ⟨"WorkHallModel", "countBusy", "()I"⟩ prog_8_method_7_code 3 (some .int)) ({ frames := 1, cells := 0, slots := 0, locals := 40 } : Room) (va_Pc [.ref (ad 0)] (gB (dC, dI) vwCl (mT ca) mE (wM ad ca K u) sz)) (va_Qi post (gAt (dC, dI) vwCl (mT ca) (wM ad ca K) (va_A (wM ad ca K u) sz)) (va_A (wM ad ca K u) sz)) 0 0 (va_A (wM ad ca K u) sz) := by
  refine Met.ofW (cc := prog_8_method_7_code) (maxL := 3) (ret := (some .int)) (by decide) rfl ?_
  intro p e s m args below meth c s₁ B hml hv
  obtain ⟨rfl, hsz, hP, hK, hD0, hE⟩ := hv
  have hx := B.exec
  have hb := B.bytes
  have hr := B.returns
  have hts : ∀ w ∈ gW, w.before _ s = true := fun w h9 => atoms_spec (ws := (gw ⟨"WorkHallModel", "countBusy", "()I"⟩ prog_8_method_7_code 3 (some .int))) B.pre w (List.mem_cons_of_mem _ h9)
  have hown : s.vm.findClass RX6 = some m.cls := findClass_of_methodNamed B.named
  have hlocks := B.notSynchronized
  subst hsz
  have hD := hD0.self (sz := s.heap.size)
  generalize hAe : va_A (wM ad ca K u) s.heap.size = A at hD hE ⊢
  have hA : ∀ q : Nat, s.heap.size ≤ q → A q := fun q h => by rw [← hAe]; exact Or.inr h
  obtain ⟨H, hHe⟩ : ∃ z : Heap, z = s.heap := ⟨_, rfl⟩
  rw [← hHe]
  have hS : va_S A s.heap H [] := by rw [hHe]; exact va_S.rf
  have hP : va_P (dC, dI) vwCl (wM ad ca K u) H := by rw [hHe]; exact hP
  have hl := lv_entry ([.ref (ad 0)]) (n := 3) (Nat.le_of_ble_eq_true rfl)
  rw [lg_entry_eq]
  generalize (lg_sl ([.ref (ad 0)]) ++ List.replicate (3 - (lg_sl ([.ref (ad 0)])).length) Slot.unset).toArray = ls at hl ⊢
  have hl : lv_has ls 3 [(0, .ref (ad 0))] := hl
  clear hAe
  refine lv_iconst (v := 0) hx hb dM6_countBusy_0 (by decide) ?_
  refine lv_istore_n (lv' := [(1, .int 0), (0, .ref (ad 0))]) hx hb dM6_countBusy_1 rfl hl (by decide) rfl (fun ls hl => ?_)
  refine lv_iconst (v := 0) hx hb dM6_countBusy_2 (by decide) ?_
  refine lv_istore_n (lv' := [(2, .int 0), (1, .int 0), (0, .ref (ad 0))]) hx hb dM6_countBusy_3 rfl hl (by decide) rfl (fun ls hl => ?_)
  obtain ⟨n4, h⟩ := h
  exact wpM6_countBusy_4_ok hx hb hr hml hown hts hlocks hK hA hE n4 0 0 u _ _ _ h hP hD hS (lv_sub hl [2, 1, 0] rfl)

theorem dM6_end_0 : decode prog_8_method_6_code 0 = .ok (.aload_n 0, 1) := by decide +kernel
theorem dM6_end_1 : decode prog_8_method_6_code 1 = .ok (.getfield 88, 3) := by decide +kernel
theorem dM6_end_4 : decode prog_8_method_6_code 4 = .ok (.iconst 1, 1) := by decide +kernel
theorem dM6_end_5 : decode prog_8_method_6_code 5 = .ok (.if_icmp .ne 32, 3) := by decide +kernel
theorem dM6_end_8 : decode prog_8_method_6_code 8 = .ok (.aload_n 0, 1) := by decide +kernel
theorem dM6_end_9 : decode prog_8_method_6_code 9 = .ok (.getfield 91, 3) := by decide +kernel
theorem dM6_end_12 : decode prog_8_method_6_code 12 = .ok (.ifCond .ne 25, 3) := by decide +kernel
theorem dM6_end_15 : decode prog_8_method_6_code 15 = .ok (.aload_n 0, 1) := by decide +kernel
theorem dM6_end_16 : decode prog_8_method_6_code 16 = .ok (.invokevirtual 94, 3) := by decide +kernel
theorem dM6_end_19 : decode prog_8_method_6_code 19 = .ok (.ifCond .ne 18, 3) := by decide +kernel
theorem dM6_end_22 : decode prog_8_method_6_code 22 = .ok (.aload_n 0, 1) := by decide +kernel
theorem dM6_end_23 : decode prog_8_method_6_code 23 = .ok (.iconst 2, 1) := by decide +kernel
theorem dM6_end_24 : decode prog_8_method_6_code 24 = .ok (.putfield 88, 3) := by decide +kernel
theorem dM6_end_27 : decode prog_8_method_6_code 27 = .ok (.aload_n 0, 1) := by decide +kernel
theorem dM6_end_28 : decode prog_8_method_6_code 28 = .ok (.iconst 0, 1) := by decide +kernel
theorem dM6_end_29 : decode prog_8_method_6_code 29 = .ok (.putfield 98, 3) := by decide +kernel
theorem dM6_end_32 : decode prog_8_method_6_code 32 = .ok (.aload_n 0, 1) := by decide +kernel
theorem dM6_end_33 : decode prog_8_method_6_code 33 = .ok (.iconst 0, 1) := by decide +kernel
theorem dM6_end_34 : decode prog_8_method_6_code 34 = .ok (.putfield 101, 3) := by decide +kernel
theorem dM6_end_37 : decode prog_8_method_6_code 37 = .ok (.iload_n 1, 1) := by decide +kernel
theorem dM6_end_38 : decode prog_8_method_6_code 38 = .ok (.ireturn, 1) := by decide +kernel
def wpM6_end (K : KM) (post : Int32 → gS → Prop) (u : gS) (p1 : Int32) : Prop :=
  ((¬ (sI u 2) = 1 → (post p1 u)) ∧ ((sI u 2) = 1 → (((¬ (sI u 6) = 0 → (post p1 u)) ∧ ((sI u 6) = 0 → (wpM6_countBusy K (fun (r3 : Int32) (u4 : gS) => ((¬ r3 = 0 → (post p1 u4)) ∧ (r3 = 0 → (∀ u6 : gS, u6 = tI u4 2 2 → (∀ u7 : gS, u7 = tI u6 3 0 → (∀ u8 : gS, u8 = tI u7 7 0 → (post p1 u8))))))) u))))))

set_option maxHeartbeats 8000000 in
set_option maxRecDepth 100000 in
theorem cM6_end (l : Launch) (dC : Nat → ClassId) (dI : Nat → Nat → Nat) (ad : Nat → Nat) (ca : Nat → ClassId) (K : KM) (sz : Nat) (u : gS) (p1 : Int32) (post : Int32 → gS → Prop)  (h : wpM6_end K post u p1) : Met l ⟨"WorkHallModel", "end", "(I)I"⟩ (gw ⟨"WorkHallModel", "end", "(I)I"⟩ prog_8_method_6_code 2 (some .int)) ({ frames := 2, cells := 0, slots := 0, locals := 80 } : Room) (va_Pc [.ref (ad 0), .int p1] (gB (dC, dI) vwCl (mT ca) mE (wM ad ca K u) sz)) (va_Qi post (gAt (dC, dI) vwCl (mT ca) (wM ad ca K) (va_A (wM ad ca K u) sz)) (va_A (wM ad ca K u) sz)) 0 0 (va_A (wM ad ca K u) sz) := by
  refine Met.ofW (cc := prog_8_method_6_code) (maxL := 2) (ret := (some .int)) (by decide) rfl ?_
  intro p e s m args below meth c s₁ B hml hv
  obtain ⟨rfl, hsz, hP, hK, hD0, hE⟩ := hv
  have hx := B.exec
  have hb := B.bytes
  have hr := B.returns
  have hts : ∀ w ∈ gW, w.before _ s = true := fun w h9 => atoms_spec (ws := (gw ⟨"WorkHallModel", "end", "(I)I"⟩ prog_8_method_6_code 2 (some .int))) B.pre w (List.mem_cons_of_mem _ h9)
  have hown : s.vm.findClass RX6 = some m.cls := findClass_of_methodNamed B.named
  have hlocks := B.notSynchronized
  subst hsz
  have hD := hD0.self (sz := s.heap.size)
  generalize hAe : va_A (wM ad ca K u) s.heap.size = A at hD hE ⊢
  have hA : ∀ q : Nat, s.heap.size ≤ q → A q := fun q h => by rw [← hAe]; exact Or.inr h
  obtain ⟨H, hHe⟩ : ∃ z : Heap, z = s.heap := ⟨_, rfl⟩
  rw [← hHe]
  have hS : va_S A s.heap H [] := by rw [hHe]; exact va_S.rf
  have hP : va_P (dC, dI) vwCl (wM ad ca K u) H := by rw [hHe]; exact hP
  have hl := lv_entry ([.ref (ad 0), .int p1]) (n := 2) (Nat.le_of_ble_eq_true rfl)
  rw [lg_entry_eq]
  generalize (lg_sl ([.ref (ad 0), .int p1]) ++ List.replicate (2 - (lg_sl ([.ref (ad 0), .int p1])).length) Slot.unset).toArray = ls at hl ⊢
  have hl : lv_has ls 2 [(0, .ref (ad 0)), (1, .int p1)] := hl
  clear hAe
  refine lv_aload_n hx hb dM6_end_0 rfl (lv_at hl 0 rfl) ?_
  refine va_get (D := (dC, dI)) (ci := 6) (v := .int (sI u 2)) (C := RX6) (T := TX6) (N := 36) hx hb hts uwX6 hown hK hP 0 rfl rfl 14 (by decide) (hts _ wd_717) (fun _ h9 => h9) rfl dM6_end_1 ?_
  refine lv_iconst (v := 1) hx hb dM6_end_4 (by decide) ?_
  refine lv_icmp_ne (tgt := 37) hx hb dM6_end_5 (by decide) (fun c1 => ?_) (fun c1 => ?_)
  · have h := h.1 c1
    refine lv_iload_n hx hb dM6_end_37 rfl (lv_at hl 1 rfl) ?_
    exact gr_i (w := wM ad ca K) (u := u) hx hb hr hlocks h hP hK hD hS dM6_end_38
  · have h := h.2 c1
    refine lv_aload_n hx hb dM6_end_8 rfl (lv_at hl 0 rfl) ?_
    refine va_get (D := (dC, dI)) (ci := 6) (v := .int (sI u 6)) (C := RX6) (T := TX6) (N := 36) hx hb hts uwX6 hown hK hP 0 rfl rfl 24 (by decide) (hts _ wd_727) (fun _ h9 => h9) rfl dM6_end_9 ?_
    refine lv_if_ne (tgt := 37) hx hb dM6_end_12 (by decide) (fun c2 => ?_) (fun c2 => ?_)
    · have h := h.1 c2
      refine lv_iload_n hx hb dM6_end_37 rfl (lv_at hl 1 rfl) ?_
      exact gr_i (w := wM ad ca K) (u := u) hx hb hr hlocks h hP hK hD hS dM6_end_38
    · have h := h.2 c2
      refine lv_aload_n hx hb dM6_end_15 rfl (lv_at hl 0 rfl) ?_
      refine gc_i (w := wM ad ca K) (u := u) (va_runV (As := []) (rest := []) ⟨hx, hb, hml, hown, hts⟩ (cM6_countBusy l dC dI ad ca K H.size u _ h) (cwV 0 hts (gG_V wd_833 wd_835 wd_20 wd_52 wd_836) rfl rfl rfl (by decide +kernel) ⟨Nat.le_of_ble_eq_true rfl, Nat.le_of_ble_eq_true rfl⟩) ⟨gB_blind mE_ok, va_recv hK hP (ci := 6) (q0 := 0) rfl rfl, gB_pre mE_ok hP hK hD hE hS hA⟩ rfl rfl hl.1 rfl (lv_room (Nat.le_of_ble_eq_true rfl)) dM6_end_16 ⟨Nat.le_of_ble_eq_true rfl, Nat.le_of_ble_eq_true rfl⟩) hD hS hA (fun r3 u4 H locs h hP hD hS => ?_)
      refine lv_if_ne (tgt := 37) hx hb dM6_end_19 (by decide) (fun c5 => ?_) (fun c5 => ?_)
      · have h := h.1 c5
        refine lv_iload_n hx hb dM6_end_37 rfl (lv_at hl 1 rfl) ?_
        exact gr_i (w := wM ad ca K) (u := u4) hx hb hr hlocks h hP hK hD hS dM6_end_38
      · have h := h.2 c5
        refine lv_aload_n hx hb dM6_end_22 rfl (lv_at hl 0 rfl) ?_
        refine lv_iconst (v := 2) hx hb dM6_end_23 (by decide) ?_
        refine va_put (D := (dC, dI)) (ci := 6) (v := .int 2) (ty := tyX6 14) (C := RX6) (T := TX6) (N := 36) hx hb hts uwX6 tyX6 tyX6_ok nmX6 hown hK hP hD hS 0 rfl rfl 14 (by decide) (hts _ wd_717) (fun _ h9 => h9) rfl (tyX6_ok 14 (by decide)) rfl rfl (Nat.le_of_ble_eq_true rfl) dM6_end_24 (fun H locs hP hD hS => ?_)
        obtain ⟨u6, eu6⟩ : ∃ z : gS, z = tI u4 2 2 := ⟨_, rfl⟩
        have hP : va_P (dC, dI) vwCl (wM ad ca K u6) H := by rw [eu6, wM_f0_pool]; exact hP
        have hD : va_D A (wM ad ca K u6) := by rw [eu6, wM_f0_pool]; exact hD
        have h := h u6 eu6
        refine lv_aload_n hx hb dM6_end_27 rfl (lv_at hl 0 rfl) ?_
        refine lv_iconst (v := 0) hx hb dM6_end_28 (by decide) ?_
        refine va_put (D := (dC, dI)) (ci := 6) (v := .int 0) (ty := tyX6 19) (C := RX6) (T := TX6) (N := 36) hx hb hts uwX6 tyX6 tyX6_ok nmX6 hown hK hP hD hS 0 rfl rfl 19 (by decide) (hts _ wd_722) (fun _ h9 => h9) rfl (tyX6_ok 19 (by decide)) rfl rfl (Nat.le_of_ble_eq_true rfl) dM6_end_29 (fun H locs hP hD hS => ?_)
        obtain ⟨u7, eu7⟩ : ∃ z : gS, z = tI u6 3 0 := ⟨_, rfl⟩
        have hP : va_P (dC, dI) vwCl (wM ad ca K u7) H := by rw [eu7, wM_f0_workers]; exact hP
        have hD : va_D A (wM ad ca K u7) := by rw [eu7, wM_f0_workers]; exact hD
        have h := h u7 eu7
        refine lv_aload_n hx hb dM6_end_32 rfl (lv_at hl 0 rfl) ?_
        refine lv_iconst (v := 0) hx hb dM6_end_33 (by decide) ?_
        refine va_put (D := (dC, dI)) (ci := 6) (v := .int 0) (ty := tyX6 28) (C := RX6) (T := TX6) (N := 36) hx hb hts uwX6 tyX6 tyX6_ok nmX6 hown hK hP hD hS 0 rfl rfl 28 (by decide) (hts _ wd_731) (fun _ h9 => h9) rfl (tyX6_ok 28 (by decide)) rfl rfl (Nat.le_of_ble_eq_true rfl) dM6_end_34 (fun H locs hP hD hS => ?_)
        obtain ⟨u8, eu8⟩ : ∃ z : gS, z = tI u7 7 0 := ⟨_, rfl⟩
        have hP : va_P (dC, dI) vwCl (wM ad ca K u8) H := by rw [eu8, wM_f0_entries]; exact hP
        have hD : va_D A (wM ad ca K u8) := by rw [eu8, wM_f0_entries]; exact hD
        have h := h u8 eu8
        refine lv_iload_n hx hb dM6_end_37 rfl (lv_at hl 1 rfl) ?_
        exact gr_i (w := wM ad ca K) (u := u8) hx hb hr hlocks h hP hK hD hS dM6_end_38

theorem dM6_job_0 : decode prog_8_method_8_code 0 = .ok (.aload_n 0, 1) := by decide +kernel
theorem dM6_job_1 : decode prog_8_method_8_code 1 = .ok (.iconst 0, 1) := by decide +kernel
theorem dM6_job_2 : decode prog_8_method_8_code 2 = .ok (.putfield 85, 3) := by decide +kernel
theorem dM6_job_5 : decode prog_8_method_8_code 5 = .ok (.aload_n 0, 1) := by decide +kernel
theorem dM6_job_6 : decode prog_8_method_8_code 6 = .ok (.iload_n 1, 1) := by decide +kernel
theorem dM6_job_7 : decode prog_8_method_8_code 7 = .ok (.bipush 6, 2) := by decide +kernel
theorem dM6_job_9 : decode prog_8_method_8_code 9 = .ok (.invokevirtual 104, 3) := by decide +kernel
theorem dM6_job_12 : decode prog_8_method_8_code 12 = .ok (.ifCond .ne 15, 3) := by decide +kernel
theorem dM6_job_15 : decode prog_8_method_8_code 15 = .ok (.aload_n 0, 1) := by decide +kernel
theorem dM6_job_16 : decode prog_8_method_8_code 16 = .ok (.iload 4, 2) := by decide +kernel
theorem dM6_job_18 : decode prog_8_method_8_code 18 = .ok (.iconst 1, 1) := by decide +kernel
theorem dM6_job_19 : decode prog_8_method_8_code 19 = .ok (.isub, 1) := by decide +kernel
theorem dM6_job_20 : decode prog_8_method_8_code 20 = .ok (.iconst 5, 1) := by decide +kernel
theorem dM6_job_21 : decode prog_8_method_8_code 21 = .ok (.invokevirtual 104, 3) := by decide +kernel
theorem dM6_job_24 : decode prog_8_method_8_code 24 = .ok (.ifCond .eq 9, 3) := by decide +kernel
theorem dM6_job_27 : decode prog_8_method_8_code 27 = .ok (.aload_n 0, 1) := by decide +kernel
theorem dM6_job_28 : decode prog_8_method_8_code 28 = .ok (.iconst 1, 1) := by decide +kernel
theorem dM6_job_29 : decode prog_8_method_8_code 29 = .ok (.invokevirtual 108, 3) := by decide +kernel
theorem dM6_job_32 : decode prog_8_method_8_code 32 = .ok (.ireturn, 1) := by decide +kernel
theorem dM6_job_33 : decode prog_8_method_8_code 33 = .ok (.aload_n 0, 1) := by decide +kernel
theorem dM6_job_34 : decode prog_8_method_8_code 34 = .ok (.getfield 112, 3) := by decide +kernel
theorem dM6_job_37 : decode prog_8_method_8_code 37 = .ok (.bipush 24, 2) := by decide +kernel
theorem dM6_job_39 : decode prog_8_method_8_code 39 = .ok (.if_icmp .ne 9, 3) := by decide +kernel
theorem dM6_job_42 : decode prog_8_method_8_code 42 = .ok (.aload_n 0, 1) := by decide +kernel
theorem dM6_job_43 : decode prog_8_method_8_code 43 = .ok (.iconst 2, 1) := by decide +kernel
theorem dM6_job_44 : decode prog_8_method_8_code 44 = .ok (.invokevirtual 108, 3) := by decide +kernel
theorem dM6_job_47 : decode prog_8_method_8_code 47 = .ok (.ireturn, 1) := by decide +kernel
theorem dM6_job_48 : decode prog_8_method_8_code 48 = .ok (.aload_n 0, 1) := by decide +kernel
theorem dM6_job_49 : decode prog_8_method_8_code 49 = .ok (.getfield 7, 3) := by decide +kernel
theorem dM6_job_52 : decode prog_8_method_8_code 52 = .ok (.aload_n 0, 1) := by decide +kernel
theorem dM6_job_53 : decode prog_8_method_8_code 53 = .ok (.getfield 112, 3) := by decide +kernel
theorem dM6_job_56 : decode prog_8_method_8_code 56 = .ok (.iload_n 1, 1) := by decide +kernel
theorem dM6_job_57 : decode prog_8_method_8_code 57 = .ok (.iastore, 1) := by decide +kernel
theorem dM6_job_58 : decode prog_8_method_8_code 58 = .ok (.aload_n 0, 1) := by decide +kernel
theorem dM6_job_59 : decode prog_8_method_8_code 59 = .ok (.getfield 13, 3) := by decide +kernel
theorem dM6_job_62 : decode prog_8_method_8_code 62 = .ok (.aload_n 0, 1) := by decide +kernel
theorem dM6_job_63 : decode prog_8_method_8_code 63 = .ok (.getfield 112, 3) := by decide +kernel
theorem dM6_job_66 : decode prog_8_method_8_code 66 = .ok (.iload_n 2, 1) := by decide +kernel
theorem dM6_job_67 : decode prog_8_method_8_code 67 = .ok (.iastore, 1) := by decide +kernel
theorem dM6_job_68 : decode prog_8_method_8_code 68 = .ok (.aload_n 0, 1) := by decide +kernel
theorem dM6_job_69 : decode prog_8_method_8_code 69 = .ok (.getfield 16, 3) := by decide +kernel
theorem dM6_job_72 : decode prog_8_method_8_code 72 = .ok (.aload_n 0, 1) := by decide +kernel
theorem dM6_job_73 : decode prog_8_method_8_code 73 = .ok (.getfield 112, 3) := by decide +kernel
theorem dM6_job_76 : decode prog_8_method_8_code 76 = .ok (.iload_n 3, 1) := by decide +kernel
theorem dM6_job_77 : decode prog_8_method_8_code 77 = .ok (.iastore, 1) := by decide +kernel
theorem dM6_job_78 : decode prog_8_method_8_code 78 = .ok (.aload_n 0, 1) := by decide +kernel
theorem dM6_job_79 : decode prog_8_method_8_code 79 = .ok (.getfield 19, 3) := by decide +kernel
theorem dM6_job_82 : decode prog_8_method_8_code 82 = .ok (.aload_n 0, 1) := by decide +kernel
theorem dM6_job_83 : decode prog_8_method_8_code 83 = .ok (.getfield 112, 3) := by decide +kernel
theorem dM6_job_86 : decode prog_8_method_8_code 86 = .ok (.iload 4, 2) := by decide +kernel
theorem dM6_job_88 : decode prog_8_method_8_code 88 = .ok (.iastore, 1) := by decide +kernel
theorem dM6_job_89 : decode prog_8_method_8_code 89 = .ok (.aload_n 0, 1) := by decide +kernel
theorem dM6_job_90 : decode prog_8_method_8_code 90 = .ok (.getfield 25, 3) := by decide +kernel
theorem dM6_job_93 : decode prog_8_method_8_code 93 = .ok (.aload_n 0, 1) := by decide +kernel
theorem dM6_job_94 : decode prog_8_method_8_code 94 = .ok (.getfield 112, 3) := by decide +kernel
theorem dM6_job_97 : decode prog_8_method_8_code 97 = .ok (.iconst (-1), 1) := by decide +kernel
theorem dM6_job_98 : decode prog_8_method_8_code 98 = .ok (.iastore, 1) := by decide +kernel
theorem dM6_job_99 : decode prog_8_method_8_code 99 = .ok (.aload_n 0, 1) := by decide +kernel
theorem dM6_job_100 : decode prog_8_method_8_code 100 = .ok (.dup, 1) := by decide +kernel
theorem dM6_job_101 : decode prog_8_method_8_code 101 = .ok (.getfield 112, 3) := by decide +kernel
theorem dM6_job_104 : decode prog_8_method_8_code 104 = .ok (.iconst 1, 1) := by decide +kernel
theorem dM6_job_105 : decode prog_8_method_8_code 105 = .ok (.iadd, 1) := by decide +kernel
theorem dM6_job_106 : decode prog_8_method_8_code 106 = .ok (.putfield 112, 3) := by decide +kernel
theorem dM6_job_109 : decode prog_8_method_8_code 109 = .ok (.aload_n 0, 1) := by decide +kernel
theorem dM6_job_110 : decode prog_8_method_8_code 110 = .ok (.aload_n 0, 1) := by decide +kernel
theorem dM6_job_111 : decode prog_8_method_8_code 111 = .ok (.getfield 112, 3) := by decide +kernel
theorem dM6_job_114 : decode prog_8_method_8_code 114 = .ok (.iconst 1, 1) := by decide +kernel
theorem dM6_job_115 : decode prog_8_method_8_code 115 = .ok (.isub, 1) := by decide +kernel
theorem dM6_job_116 : decode prog_8_method_8_code 116 = .ok (.invokevirtual 115, 3) := by decide +kernel
theorem dM6_job_119 : decode prog_8_method_8_code 119 = .ok (.ireturn, 1) := by decide +kernel
def wpM6_job (K : KM) (post : Int32 → gS → Prop) (u : gS) (p1 : Int32) (p2 : Int32) (p3 : Int32) (p4 : Int32) : Prop :=
  ∀ u1 : gS, u1 = tI u 0 0 → (wpM6_out K (fun (r2 : Int32) (u3 : gS) => ((¬ r2 = 0 → (wpM6_fail K (fun (r5 : Int32) (u6 : gS) => post r5 u6) u3 1)) ∧ (r2 = 0 → (wpM6_out K (fun (r7 : Int32) (u8 : gS) => ((r7 = 0 → (((¬ (sI u8 1) = 24 → (vp_in (sI u8 1) 24 ∧ (∀ u11 : gS, u11 = tA u8 0 ((sI u8 1).toNatClampNeg) p1 → (vp_in (sI u11 1) 24 ∧ (∀ u12 : gS, u12 = tA u11 1 ((sI u11 1).toNatClampNeg) p2 → (vp_in (sI u12 1) 24 ∧ (∀ u13 : gS, u13 = tA u12 2 ((sI u12 1).toNatClampNeg) p3 → (vp_in (sI u13 1) 24 ∧ (∀ u14 : gS, u14 = tA u13 3 ((sI u13 1).toNatClampNeg) p4 → (vp_in (sI u14 1) 24 ∧ (∀ u15 : gS, u15 = tA u14 5 ((sI u14 1).toNatClampNeg) (-1) → (∀ u16 : gS, u16 = tI u15 1 ((sI u15 1) + 1) → (wpM6_end K (fun (r17 : Int32) (u18 : gS) => post r17 u18) u16 ((sI u16 1) - 1)))))))))))))) ∧ ((sI u8 1) = 24 → (wpM6_fail K (fun (r19 : Int32) (u20 : gS) => post r19 u20) u8 2))))) ∧ (¬ r7 = 0 → (wpM6_fail K (fun (r21 : Int32) (u22 : gS) => post r21 u22) u8 1)))) u3 (p4 - 1) 5)))) u1 p1 6)

set_option maxHeartbeats 8000000 in
set_option maxRecDepth 100000 in
theorem cM6_job (l : Launch) (dC : Nat → ClassId) (dI : Nat → Nat → Nat) (ad : Nat → Nat) (ca : Nat → ClassId) (K : KM) (sz : Nat) (u : gS) (p1 : Int32) (p2 : Int32) (p3 : Int32) (p4 : Int32) (post : Int32 → gS → Prop)  (h : wpM6_job K post u p1 p2 p3 p4) : Met l ⟨"WorkHallModel", "job", "(IIII)I"⟩ (gw ⟨"WorkHallModel", "job", "(IIII)I"⟩ prog_8_method_8_code 5 (some .int)) ({ frames := 3, cells := 0, slots := 0, locals := 120 } : Room) (va_Pc [.ref (ad 0), .int p1, .int p2, .int p3, .int p4] (gB (dC, dI) vwCl (mT ca) mE (wM ad ca K u) sz)) (va_Qi post (gAt (dC, dI) vwCl (mT ca) (wM ad ca K) (va_A (wM ad ca K u) sz)) (va_A (wM ad ca K u) sz)) 0 0 (va_A (wM ad ca K u) sz) := by
  refine Met.ofW (cc := prog_8_method_8_code) (maxL := 5) (ret := (some .int)) (by decide) rfl ?_
  intro p e s m args below meth c s₁ B hml hv
  obtain ⟨rfl, hsz, hP, hK, hD0, hE⟩ := hv
  have hx := B.exec
  have hb := B.bytes
  have hr := B.returns
  have hts : ∀ w ∈ gW, w.before _ s = true := fun w h9 => atoms_spec (ws := (gw ⟨"WorkHallModel", "job", "(IIII)I"⟩ prog_8_method_8_code 5 (some .int))) B.pre w (List.mem_cons_of_mem _ h9)
  have hown : s.vm.findClass RX6 = some m.cls := findClass_of_methodNamed B.named
  have hlocks := B.notSynchronized
  subst hsz
  have hD := hD0.self (sz := s.heap.size)
  generalize hAe : va_A (wM ad ca K u) s.heap.size = A at hD hE ⊢
  have hA : ∀ q : Nat, s.heap.size ≤ q → A q := fun q h => by rw [← hAe]; exact Or.inr h
  obtain ⟨H, hHe⟩ : ∃ z : Heap, z = s.heap := ⟨_, rfl⟩
  rw [← hHe]
  have hS : va_S A s.heap H [] := by rw [hHe]; exact va_S.rf
  have hP : va_P (dC, dI) vwCl (wM ad ca K u) H := by rw [hHe]; exact hP
  have hl := lv_entry ([.ref (ad 0), .int p1, .int p2, .int p3, .int p4]) (n := 5) (Nat.le_of_ble_eq_true rfl)
  rw [lg_entry_eq]
  generalize (lg_sl ([.ref (ad 0), .int p1, .int p2, .int p3, .int p4]) ++ List.replicate (5 - (lg_sl ([.ref (ad 0), .int p1, .int p2, .int p3, .int p4])).length) Slot.unset).toArray = ls at hl ⊢
  have hl : lv_has ls 5 [(0, .ref (ad 0)), (1, .int p1), (2, .int p2), (3, .int p3), (4, .int p4)] := hl
  clear hAe
  refine lv_aload_n hx hb dM6_job_0 rfl (lv_at hl 0 rfl) ?_
  refine lv_iconst (v := 0) hx hb dM6_job_1 (by decide) ?_
  refine va_put (D := (dC, dI)) (ci := 6) (v := .int 0) (ty := tyX6 0) (C := RX6) (T := TX6) (N := 36) hx hb hts uwX6 tyX6 tyX6_ok nmX6 hown hK hP hD hS 0 rfl rfl 0 (by decide) (hts _ wd_703) (fun _ h9 => h9) rfl (tyX6_ok 0 (by decide)) rfl rfl (Nat.le_of_ble_eq_true rfl) dM6_job_2 (fun H locs hP hD hS => ?_)
  obtain ⟨u1, eu1⟩ : ∃ z : gS, z = tI u 0 0 := ⟨_, rfl⟩
  have hP : va_P (dC, dI) vwCl (wM ad ca K u1) H := by rw [eu1, wM_f0_failed]; exact hP
  have hD : va_D A (wM ad ca K u1) := by rw [eu1, wM_f0_failed]; exact hD
  have h := h u1 eu1
  refine lv_aload_n hx hb dM6_job_5 rfl (lv_at hl 0 rfl) ?_
  refine lv_iload_n hx hb dM6_job_6 rfl (lv_at hl 1 rfl) ?_
  refine lv_bipush (v := 6) hx hb dM6_job_7 (by decide) ?_
  refine gc_i (w := wM ad ca K) (u := u1) (va_runV (As := [.int p1, .int 6]) (rest := []) ⟨hx, hb, hml, hown, hts⟩ (cM6_out l dC dI ad ca K H.size u1 p1 6 _ h) (cwV 2 hts (gG_V wd_821 wd_823 wd_17 wd_52 wd_824) rfl rfl rfl (by decide +kernel) ⟨Nat.le_of_ble_eq_true rfl, Nat.le_of_ble_eq_true rfl⟩) ⟨gB_blind mE_ok, va_recv hK hP (ci := 6) (q0 := 0) rfl rfl, gB_pre mE_ok hP hK hD hE hS hA⟩ rfl rfl hl.1 rfl (lv_room (Nat.le_of_ble_eq_true rfl)) dM6_job_9 ⟨Nat.le_of_ble_eq_true rfl, Nat.le_of_ble_eq_true rfl⟩) hD hS hA (fun r2 u3 H locs h hP hD hS => ?_)
  refine lv_if_ne (tgt := 27) hx hb dM6_job_12 (by decide) (fun c4 => ?_) (fun c4 => ?_)
  · have h := h.1 c4
    refine lv_aload_n hx hb dM6_job_27 rfl (lv_at hl 0 rfl) ?_
    refine lv_iconst (v := 1) hx hb dM6_job_28 (by decide) ?_
    refine gc_i (w := wM ad ca K) (u := u3) (va_runV (As := [.int 1]) (rest := []) ⟨hx, hb, hml, hown, hts⟩ (cM6_fail l dC dI ad ca K H.size u3 1 _ h) (cwV 1 hts (gG_V wd_825 wd_827 wd_18 wd_52 wd_828) rfl rfl rfl (by decide +kernel) ⟨Nat.le_of_ble_eq_true rfl, Nat.le_of_ble_eq_true rfl⟩) ⟨gB_blind mE_ok, va_recv hK hP (ci := 6) (q0 := 0) rfl rfl, gB_pre mE_ok hP hK hD hE hS hA⟩ rfl rfl hl.1 rfl (lv_room (Nat.le_of_ble_eq_true rfl)) dM6_job_29 ⟨Nat.le_of_ble_eq_true rfl, Nat.le_of_ble_eq_true rfl⟩) hD hS hA (fun r5 u6 H locs h hP hD hS => ?_)
    exact gr_i (w := wM ad ca K) (u := u6) hx hb hr hlocks h hP hK hD hS dM6_job_32
  · have h := h.2 c4
    refine lv_aload_n hx hb dM6_job_15 rfl (lv_at hl 0 rfl) ?_
    refine lv_iload hx hb dM6_job_16 (lv_at hl 4 rfl) ?_
    refine lv_iconst (v := 1) hx hb dM6_job_18 (by decide) ?_
    refine lv_isub hx hb dM6_job_19 ?_
    refine lv_iconst (v := 5) hx hb dM6_job_20 (by decide) ?_
    refine gc_i (w := wM ad ca K) (u := u3) (va_runV (As := [.int (p4 - 1), .int 5]) (rest := []) ⟨hx, hb, hml, hown, hts⟩ (cM6_out l dC dI ad ca K H.size u3 (p4 - 1) 5 _ h) (cwV 2 hts (gG_V wd_821 wd_823 wd_17 wd_52 wd_824) rfl rfl rfl (by decide +kernel) ⟨Nat.le_of_ble_eq_true rfl, Nat.le_of_ble_eq_true rfl⟩) ⟨gB_blind mE_ok, va_recv hK hP (ci := 6) (q0 := 0) rfl rfl, gB_pre mE_ok hP hK hD hE hS hA⟩ rfl rfl hl.1 rfl (lv_room (Nat.le_of_ble_eq_true rfl)) dM6_job_21 ⟨Nat.le_of_ble_eq_true rfl, Nat.le_of_ble_eq_true rfl⟩) hD hS hA (fun r7 u8 H locs h hP hD hS => ?_)
    refine lv_if_eq (tgt := 33) hx hb dM6_job_24 (by decide) (fun c9 => ?_) (fun c9 => ?_)
    · have h := h.1 c9
      refine lv_aload_n hx hb dM6_job_33 rfl (lv_at hl 0 rfl) ?_
      refine va_get (D := (dC, dI)) (ci := 6) (v := .int (sI u8 1)) (C := RX6) (T := TX6) (N := 36) hx hb hts uwX6 hown hK hP 0 rfl rfl 13 (by decide) (hts _ wd_716) (fun _ h9 => h9) rfl dM6_job_34 ?_
      refine lv_bipush (v := 24) hx hb dM6_job_37 (by decide) ?_
      refine lv_icmp_ne (tgt := 48) hx hb dM6_job_39 (by decide) (fun c10 => ?_) (fun c10 => ?_)
      · have h := h.1 c10
        refine lv_aload_n hx hb dM6_job_48 rfl (lv_at hl 0 rfl) ?_
        refine va_get (D := (dC, dI)) (ci := 6) (v := .ref (ad 1)) (C := RX6) (T := TX6) (N := 36) hx hb hts uwX6 hown hK hP 0 rfl rfl 5 (by decide) (hts _ wd_708) (fun _ h9 => h9) rfl dM6_job_49 ?_
        refine lv_aload_n hx hb dM6_job_52 rfl (lv_at hl 0 rfl) ?_
        refine va_get (D := (dC, dI)) (ci := 6) (v := .int (sI u8 1)) (C := RX6) (T := TX6) (N := 36) hx hb hts uwX6 hown hK hP 0 rfl rfl 13 (by decide) (hts _ wd_716) (fun _ h9 => h9) rfl dM6_job_53 ?_
        refine lv_iload_n hx hb dM6_job_56 rfl (lv_at hl 1 rfl) ?_
        refine va_iast hx hb hK hP hD hS 1 0 rfl rfl h.1 dM6_job_57 (fun H locs hP hD hS => ?_)
        have h := h.2
        obtain ⟨u11, eu11⟩ : ∃ z : gS, z = tA u8 0 ((sI u8 1).toNatClampNeg) p1 := ⟨_, rfl⟩
        have hP : va_P (dC, dI) vwCl (wM ad ca K u11) H := by rw [eu11, wM_a1]; exact hP
        have hD : va_D A (wM ad ca K u11) := by rw [eu11, wM_a1]; exact hD
        have h := h u11 eu11
        refine lv_aload_n hx hb dM6_job_58 rfl (lv_at hl 0 rfl) ?_
        refine va_get (D := (dC, dI)) (ci := 6) (v := .ref (ad 2)) (C := RX6) (T := TX6) (N := 36) hx hb hts uwX6 hown hK hP 0 rfl rfl 6 (by decide) (hts _ wd_709) (fun _ h9 => h9) rfl dM6_job_59 ?_
        refine lv_aload_n hx hb dM6_job_62 rfl (lv_at hl 0 rfl) ?_
        refine va_get (D := (dC, dI)) (ci := 6) (v := .int (sI u11 1)) (C := RX6) (T := TX6) (N := 36) hx hb hts uwX6 hown hK hP 0 rfl rfl 13 (by decide) (hts _ wd_716) (fun _ h9 => h9) rfl dM6_job_63 ?_
        refine lv_iload_n hx hb dM6_job_66 rfl (lv_at hl 2 rfl) ?_
        refine va_iast hx hb hK hP hD hS 2 0 rfl rfl h.1 dM6_job_67 (fun H locs hP hD hS => ?_)
        have h := h.2
        obtain ⟨u12, eu12⟩ : ∃ z : gS, z = tA u11 1 ((sI u11 1).toNatClampNeg) p2 := ⟨_, rfl⟩
        have hP : va_P (dC, dI) vwCl (wM ad ca K u12) H := by rw [eu12, wM_a2]; exact hP
        have hD : va_D A (wM ad ca K u12) := by rw [eu12, wM_a2]; exact hD
        have h := h u12 eu12
        refine lv_aload_n hx hb dM6_job_68 rfl (lv_at hl 0 rfl) ?_
        refine va_get (D := (dC, dI)) (ci := 6) (v := .ref (ad 3)) (C := RX6) (T := TX6) (N := 36) hx hb hts uwX6 hown hK hP 0 rfl rfl 7 (by decide) (hts _ wd_710) (fun _ h9 => h9) rfl dM6_job_69 ?_
        refine lv_aload_n hx hb dM6_job_72 rfl (lv_at hl 0 rfl) ?_
        refine va_get (D := (dC, dI)) (ci := 6) (v := .int (sI u12 1)) (C := RX6) (T := TX6) (N := 36) hx hb hts uwX6 hown hK hP 0 rfl rfl 13 (by decide) (hts _ wd_716) (fun _ h9 => h9) rfl dM6_job_73 ?_
        refine lv_iload_n hx hb dM6_job_76 rfl (lv_at hl 3 rfl) ?_
        refine va_iast hx hb hK hP hD hS 3 0 rfl rfl h.1 dM6_job_77 (fun H locs hP hD hS => ?_)
        have h := h.2
        obtain ⟨u13, eu13⟩ : ∃ z : gS, z = tA u12 2 ((sI u12 1).toNatClampNeg) p3 := ⟨_, rfl⟩
        have hP : va_P (dC, dI) vwCl (wM ad ca K u13) H := by rw [eu13, wM_a3]; exact hP
        have hD : va_D A (wM ad ca K u13) := by rw [eu13, wM_a3]; exact hD
        have h := h u13 eu13
        refine lv_aload_n hx hb dM6_job_78 rfl (lv_at hl 0 rfl) ?_
        refine va_get (D := (dC, dI)) (ci := 6) (v := .ref (ad 4)) (C := RX6) (T := TX6) (N := 36) hx hb hts uwX6 hown hK hP 0 rfl rfl 8 (by decide) (hts _ wd_711) (fun _ h9 => h9) rfl dM6_job_79 ?_
        refine lv_aload_n hx hb dM6_job_82 rfl (lv_at hl 0 rfl) ?_
        refine va_get (D := (dC, dI)) (ci := 6) (v := .int (sI u13 1)) (C := RX6) (T := TX6) (N := 36) hx hb hts uwX6 hown hK hP 0 rfl rfl 13 (by decide) (hts _ wd_716) (fun _ h9 => h9) rfl dM6_job_83 ?_
        refine lv_iload hx hb dM6_job_86 (lv_at hl 4 rfl) ?_
        refine va_iast hx hb hK hP hD hS 4 0 rfl rfl h.1 dM6_job_88 (fun H locs hP hD hS => ?_)
        have h := h.2
        obtain ⟨u14, eu14⟩ : ∃ z : gS, z = tA u13 3 ((sI u13 1).toNatClampNeg) p4 := ⟨_, rfl⟩
        have hP : va_P (dC, dI) vwCl (wM ad ca K u14) H := by rw [eu14, wM_a4]; exact hP
        have hD : va_D A (wM ad ca K u14) := by rw [eu14, wM_a4]; exact hD
        have h := h u14 eu14
        refine lv_aload_n hx hb dM6_job_89 rfl (lv_at hl 0 rfl) ?_
        refine va_get (D := (dC, dI)) (ci := 6) (v := .ref (ad 6)) (C := RX6) (T := TX6) (N := 36) hx hb hts uwX6 hown hK hP 0 rfl rfl 10 (by decide) (hts _ wd_713) (fun _ h9 => h9) rfl dM6_job_90 ?_
        refine lv_aload_n hx hb dM6_job_93 rfl (lv_at hl 0 rfl) ?_
        refine va_get (D := (dC, dI)) (ci := 6) (v := .int (sI u14 1)) (C := RX6) (T := TX6) (N := 36) hx hb hts uwX6 hown hK hP 0 rfl rfl 13 (by decide) (hts _ wd_716) (fun _ h9 => h9) rfl dM6_job_94 ?_
        refine lv_iconst (v := (-1)) hx hb dM6_job_97 (by decide) ?_
        refine va_iast hx hb hK hP hD hS 6 0 rfl rfl h.1 dM6_job_98 (fun H locs hP hD hS => ?_)
        have h := h.2
        obtain ⟨u15, eu15⟩ : ∃ z : gS, z = tA u14 5 ((sI u14 1).toNatClampNeg) (-1) := ⟨_, rfl⟩
        have hP : va_P (dC, dI) vwCl (wM ad ca K u15) H := by rw [eu15, wM_a6]; exact hP
        have hD : va_D A (wM ad ca K u15) := by rw [eu15, wM_a6]; exact hD
        have h := h u15 eu15
        refine lv_aload_n hx hb dM6_job_99 rfl (lv_at hl 0 rfl) ?_
        refine lv_dup hx hb dM6_job_100 rfl ?_
        refine va_get (D := (dC, dI)) (ci := 6) (v := .int (sI u15 1)) (C := RX6) (T := TX6) (N := 36) hx hb hts uwX6 hown hK hP 0 rfl rfl 13 (by decide) (hts _ wd_716) (fun _ h9 => h9) rfl dM6_job_101 ?_
        refine lv_iconst (v := 1) hx hb dM6_job_104 (by decide) ?_
        refine lv_iadd hx hb dM6_job_105 ?_
        refine va_put (D := (dC, dI)) (ci := 6) (v := .int ((sI u15 1) + 1)) (ty := tyX6 13) (C := RX6) (T := TX6) (N := 36) hx hb hts uwX6 tyX6 tyX6_ok nmX6 hown hK hP hD hS 0 rfl rfl 13 (by decide) (hts _ wd_716) (fun _ h9 => h9) rfl (tyX6_ok 13 (by decide)) rfl rfl (Nat.le_of_ble_eq_true rfl) dM6_job_106 (fun H locs hP hD hS => ?_)
        obtain ⟨u16, eu16⟩ : ∃ z : gS, z = tI u15 1 ((sI u15 1) + 1) := ⟨_, rfl⟩
        have hP : va_P (dC, dI) vwCl (wM ad ca K u16) H := by rw [eu16, wM_f0_jobs]; exact hP
        have hD : va_D A (wM ad ca K u16) := by rw [eu16, wM_f0_jobs]; exact hD
        have h := h u16 eu16
        refine lv_aload_n hx hb dM6_job_109 rfl (lv_at hl 0 rfl) ?_
        refine lv_aload_n hx hb dM6_job_110 rfl (lv_at hl 0 rfl) ?_
        refine va_get (D := (dC, dI)) (ci := 6) (v := .int (sI u16 1)) (C := RX6) (T := TX6) (N := 36) hx hb hts uwX6 hown hK hP 0 rfl rfl 13 (by decide) (hts _ wd_716) (fun _ h9 => h9) rfl dM6_job_111 ?_
        refine lv_iconst (v := 1) hx hb dM6_job_114 (by decide) ?_
        refine lv_isub hx hb dM6_job_115 ?_
        refine gc_i (w := wM ad ca K) (u := u16) (va_runV (As := [.int ((sI u16 1) - 1)]) (rest := []) ⟨hx, hb, hml, hown, hts⟩ (cM6_end l dC dI ad ca K H.size u16 ((sI u16 1) - 1) _ h) (cwV 1 hts (gG_V wd_829 wd_831 wd_19 wd_52 wd_832) rfl rfl rfl (by decide +kernel) ⟨Nat.le_of_ble_eq_true rfl, Nat.le_of_ble_eq_true rfl⟩) ⟨gB_blind mE_ok, va_recv hK hP (ci := 6) (q0 := 0) rfl rfl, gB_pre mE_ok hP hK hD hE hS hA⟩ rfl rfl hl.1 rfl (lv_room (Nat.le_of_ble_eq_true rfl)) dM6_job_116 ⟨Nat.le_of_ble_eq_true rfl, Nat.le_of_ble_eq_true rfl⟩) hD hS hA (fun r17 u18 H locs h hP hD hS => ?_)
        exact gr_i (w := wM ad ca K) (u := u18) hx hb hr hlocks h hP hK hD hS dM6_job_119
      · have h := h.2 c10
        refine lv_aload_n hx hb dM6_job_42 rfl (lv_at hl 0 rfl) ?_
        refine lv_iconst (v := 2) hx hb dM6_job_43 (by decide) ?_
        refine gc_i (w := wM ad ca K) (u := u8) (va_runV (As := [.int 2]) (rest := []) ⟨hx, hb, hml, hown, hts⟩ (cM6_fail l dC dI ad ca K H.size u8 2 _ h) (cwV 1 hts (gG_V wd_825 wd_827 wd_18 wd_52 wd_828) rfl rfl rfl (by decide +kernel) ⟨Nat.le_of_ble_eq_true rfl, Nat.le_of_ble_eq_true rfl⟩) ⟨gB_blind mE_ok, va_recv hK hP (ci := 6) (q0 := 0) rfl rfl, gB_pre mE_ok hP hK hD hE hS hA⟩ rfl rfl hl.1 rfl (lv_room (Nat.le_of_ble_eq_true rfl)) dM6_job_44 ⟨Nat.le_of_ble_eq_true rfl, Nat.le_of_ble_eq_true rfl⟩) hD hS hA (fun r19 u20 H locs h hP hD hS => ?_)
        exact gr_i (w := wM ad ca K) (u := u20) hx hb hr hlocks h hP hK hD hS dM6_job_47
    · have h := h.2 c9
      refine lv_aload_n hx hb dM6_job_27 rfl (lv_at hl 0 rfl) ?_
      refine lv_iconst (v := 1) hx hb dM6_job_28 (by decide) ?_
      refine gc_i (w := wM ad ca K) (u := u8) (va_runV (As := [.int 1]) (rest := []) ⟨hx, hb, hml, hown, hts⟩ (cM6_fail l dC dI ad ca K H.size u8 1 _ h) (cwV 1 hts (gG_V wd_825 wd_827 wd_18 wd_52 wd_828) rfl rfl rfl (by decide +kernel) ⟨Nat.le_of_ble_eq_true rfl, Nat.le_of_ble_eq_true rfl⟩) ⟨gB_blind mE_ok, va_recv hK hP (ci := 6) (q0 := 0) rfl rfl, gB_pre mE_ok hP hK hD hE hS hA⟩ rfl rfl hl.1 rfl (lv_room (Nat.le_of_ble_eq_true rfl)) dM6_job_29 ⟨Nat.le_of_ble_eq_true rfl, Nat.le_of_ble_eq_true rfl⟩) hD hS hA (fun r21 u22 H locs h hP hD hS => ?_)
      exact gr_i (w := wM ad ca K) (u := u22) hx hb hr hlocks h hP hK hD hS dM6_job_32

