theorem dM6_takeNext_0 : decode prog_8_method_15_code 0 = .ok (.aload_n 0, 1) := by decide +kernel
theorem dM6_takeNext_1 : decode prog_8_method_15_code 1 = .ok (.invokevirtual 141, 3) := by decide +kernel
theorem dM6_takeNext_4 : decode prog_8_method_15_code 4 = .ok (.istore_n 2, 1) := by decide +kernel
theorem dM6_takeNext_5 : decode prog_8_method_15_code 5 = .ok (.iload_n 2, 1) := by decide +kernel
theorem dM6_takeNext_6 : decode prog_8_method_15_code 6 = .ok (.ifCond .lt 12, 3) := by decide +kernel
theorem dM6_takeNext_9 : decode prog_8_method_15_code 9 = .ok (.aload_n 0, 1) := by decide +kernel
theorem dM6_takeNext_10 : decode prog_8_method_15_code 10 = .ok (.iload_n 1, 1) := by decide +kernel
theorem dM6_takeNext_11 : decode prog_8_method_15_code 11 = .ok (.iload_n 2, 1) := by decide +kernel
theorem dM6_takeNext_12 : decode prog_8_method_15_code 12 = .ok (.invokevirtual 124, 3) := by decide +kernel
theorem dM6_takeNext_15 : decode prog_8_method_15_code 15 = .ok (.goto 8, 3) := by decide +kernel
theorem dM6_takeNext_18 : decode prog_8_method_15_code 18 = .ok (.aload_n 0, 1) := by decide +kernel
theorem dM6_takeNext_19 : decode prog_8_method_15_code 19 = .ok (.iload_n 1, 1) := by decide +kernel
theorem dM6_takeNext_20 : decode prog_8_method_15_code 20 = .ok (.invokevirtual 144, 3) := by decide +kernel
theorem dM6_takeNext_23 : decode prog_8_method_15_code 23 = .ok (.return_, 1) := by decide +kernel
def wpM6_takeNext (K : KM) (post : gS → Prop) (u : gS) (p1 : Int32) : Prop :=
  wpM6_fetch K (fun (r1 : Int32) (u2 : gS) => ((r1 < 0 → (wpM6_rest K (fun (u5 : gS) => post u5) u2 p1)) ∧ (¬ r1 < 0 → (wpM6_work K (fun (u7 : gS) => post u7) u2 p1 r1)))) u

set_option maxHeartbeats 8000000 in
set_option maxRecDepth 100000 in
theorem cM6_takeNext (l : Launch) (dC : Nat → ClassId) (dI : Nat → Nat → Nat) (ad : Nat → Nat) (ca : Nat → ClassId) (K : KM) (sz : Nat) (u : gS) (p1 : Int32) (post : gS → Prop)  (h : wpM6_takeNext K post u p1) : Met l ⟨"WorkHallModel", "takeNext", "(I)V"⟩ (gw ⟨"WorkHallModel", "takeNext", "(I)V"⟩ prog_8_method_15_code 3 none) ({ frames := 3, cells := 0, slots := 0, locals := 120 } : Room) (va_Pc [.ref (ad 0), .int p1] (gB (dC, dI) vwCl (mT ca) mE (wM ad ca K u) sz)) (va_Qv post (gAt (dC, dI) vwCl (mT ca) (wM ad ca K) (va_A (wM ad ca K u) sz)) (va_A (wM ad ca K u) sz)) 0 0 (va_A (wM ad ca K u) sz) := by
  refine Met.ofW (cc := prog_8_method_15_code) (maxL := 3) (ret := none) (by decide) rfl ?_
  intro p e s m args below meth c s₁ B hml hv
  obtain ⟨rfl, hsz, hP, hK, hD0, hE⟩ := hv
  have hx := B.exec
  have hb := B.bytes
  have hr := B.returns
  have hts : ∀ w ∈ gW, w.before _ s = true := fun w h9 => atoms_spec (ws := (gw ⟨"WorkHallModel", "takeNext", "(I)V"⟩ prog_8_method_15_code 3 none)) B.pre w (List.mem_cons_of_mem _ h9)
  have hown : s.vm.findClass RX6 = some m.cls := findClass_of_methodNamed B.named
  have hlocks := B.notSynchronized
  subst hsz
  have hD := hD0.self (sz := s.heap.size)
  generalize hAe : va_A (wM ad ca K u) s.heap.size = A at hD hE ⊢
  have hA : ∀ q : Nat, s.heap.size ≤ q → A q := fun q h => by rw [← hAe]; exact Or.inr h
  obtain ⟨H, hHe⟩ : ∃ z : Heap, z = s.heap := ⟨_, rfl⟩
  rw [← hHe]
  have hS : va_S A s.heap H [] := by rw [hHe]; exact va_S.rf
  have hP : va_P (dC, dI) vwCl (wM ad ca K u) H := by rw [hHe]; exact hP
  have hl := lv_entry ([.ref (ad 0), .int p1]) (n := 3) (Nat.le_of_ble_eq_true rfl)
  rw [lg_entry_eq]
  generalize (lg_sl ([.ref (ad 0), .int p1]) ++ List.replicate (3 - (lg_sl ([.ref (ad 0), .int p1])).length) Slot.unset).toArray = ls at hl ⊢
  have hl : lv_has ls 3 [(0, .ref (ad 0)), (1, .int p1)] := hl
  clear hAe
  refine lv_aload_n hx hb dM6_takeNext_0 rfl (lv_at hl 0 rfl) ?_
  refine gc_i (w := wM ad ca K) (u := u) (va_runV (As := []) (rest := []) ⟨hx, hb, hml, hown, hts⟩ (cM6_fetch l dC dI ad ca K H.size u _ h) (cwV 0 hts (gG_V wd_913 wd_915 wd_37 wd_52 wd_916) rfl rfl rfl (by decide +kernel) ⟨Nat.le_of_ble_eq_true rfl, Nat.le_of_ble_eq_true rfl⟩) ⟨gB_blind mE_ok, va_recv hK hP (ci := 6) (q0 := 0) rfl rfl, gB_pre mE_ok hP hK hD hE hS hA⟩ rfl rfl hl.1 rfl (lv_room (Nat.le_of_ble_eq_true rfl)) dM6_takeNext_1 ⟨Nat.le_of_ble_eq_true rfl, Nat.le_of_ble_eq_true rfl⟩) hD hS hA (fun r1 u2 H locs h hP hD hS => ?_)
  refine lv_istore_n (lv' := [(2, .int r1), (0, .ref (ad 0)), (1, .int p1)]) hx hb dM6_takeNext_4 rfl hl (by decide) rfl (fun ls hl => ?_)
  refine lv_iload_n hx hb dM6_takeNext_5 rfl (lv_at hl 0 rfl) ?_
  refine lv_if_lt (tgt := 18) hx hb dM6_takeNext_6 (by decide) (fun c3 => ?_) (fun c3 => ?_)
  · have h := h.1 c3
    refine lv_aload_n hx hb dM6_takeNext_18 rfl (lv_at hl 1 rfl) ?_
    refine lv_iload_n hx hb dM6_takeNext_19 rfl (lv_at hl 2 rfl) ?_
    refine gc_v (w := wM ad ca K) (u := u2) (va_runV (As := [.int p1]) (rest := []) ⟨hx, hb, hml, hown, hts⟩ (cM6_rest l dC dI ad ca K H.size u2 p1 _ h) (cwV 1 hts (gG_V wd_921 wd_923 wd_39 wd_52 wd_924) rfl rfl rfl (by decide +kernel) ⟨Nat.le_of_ble_eq_true rfl, Nat.le_of_ble_eq_true rfl⟩) ⟨gB_blind mE_ok, va_recv hK hP (ci := 6) (q0 := 0) rfl rfl, gB_pre mE_ok hP hK hD hE hS hA⟩ rfl rfl hl.1 rfl (lv_room (Nat.le_of_ble_eq_true rfl)) dM6_takeNext_20 ⟨Nat.le_of_ble_eq_true rfl, Nat.le_of_ble_eq_true rfl⟩) hD hS hA (fun u5 H locs h hP hD hS => ?_)
    exact gr_v (w := wM ad ca K) (u := u5) hx hb hr hlocks h hP hK hD hS dM6_takeNext_23
  · have h := h.2 c3
    refine lv_aload_n hx hb dM6_takeNext_9 rfl (lv_at hl 1 rfl) ?_
    refine lv_iload_n hx hb dM6_takeNext_10 rfl (lv_at hl 2 rfl) ?_
    refine lv_iload_n hx hb dM6_takeNext_11 rfl (lv_at hl 0 rfl) ?_
    refine gc_v (w := wM ad ca K) (u := u2) (va_runV (As := [.int p1, .int r1]) (rest := []) ⟨hx, hb, hml, hown, hts⟩ (cM6_work l dC dI ad ca K H.size u2 p1 r1 _ h) (cwV 2 hts (gG_V wd_853 wd_855 wd_24 wd_52 wd_856) rfl rfl rfl (by decide +kernel) ⟨Nat.le_of_ble_eq_true rfl, Nat.le_of_ble_eq_true rfl⟩) ⟨gB_blind mE_ok, va_recv hK hP (ci := 6) (q0 := 0) rfl rfl, gB_pre mE_ok hP hK hD hE hS hA⟩ rfl rfl hl.1 rfl (lv_room (Nat.le_of_ble_eq_true rfl)) dM6_takeNext_12 ⟨Nat.le_of_ble_eq_true rfl, Nat.le_of_ble_eq_true rfl⟩) hD hS hA (fun u7 H locs h hP hD hS => ?_)
    refine lv_goto (tgt := 23) hx hb dM6_takeNext_15 (by decide) ?_
    exact gr_v (w := wM ad ca K) (u := u7) hx hb hr hlocks h hP hK hD hS dM6_takeNext_23

