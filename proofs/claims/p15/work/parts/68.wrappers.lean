theorem dL_job_0 : decode method_3_code 0 = .ok (.aload 5, 2) := by decide +kernel
theorem dL_job_2 : decode method_3_code 2 = .ok (.iconst 0, 1) := by decide +kernel
theorem dL_job_3 : decode method_3_code 3 = .ok (.aload_n 0, 1) := by decide +kernel
theorem dL_job_4 : decode method_3_code 4 = .ok (.iload_n 1, 1) := by decide +kernel
theorem dL_job_5 : decode method_3_code 5 = .ok (.iload_n 2, 1) := by decide +kernel
theorem dL_job_6 : decode method_3_code 6 = .ok (.iload_n 3, 1) := by decide +kernel
theorem dL_job_7 : decode method_3_code 7 = .ok (.iload 4, 2) := by decide +kernel
theorem dL_job_9 : decode method_3_code 9 = .ok (.invokevirtual 7, 3) := by decide +kernel
theorem dL_job_12 : decode method_3_code 12 = .ok (.i2l, 1) := by decide +kernel
theorem dL_job_13 : decode method_3_code 13 = .ok (.lastore, 1) := by decide +kernel
theorem dL_job_14 : decode method_3_code 14 = .ok (.goto 11, 3) := by decide +kernel
theorem dL_job_17 : decode method_3_code 17 = .ok (.astore 6, 2) := by decide +kernel
theorem dL_job_19 : decode method_3_code 19 = .ok (.iconst 1, 1) := by decide +kernel
theorem dL_job_20 : decode method_3_code 20 = .ok (.ireturn, 1) := by decide +kernel
theorem dL_job_21 : decode method_3_code 21 = .ok (.astore 6, 2) := by decide +kernel
theorem dL_job_23 : decode method_3_code 23 = .ok (.iconst 2, 1) := by decide +kernel
theorem dL_job_24 : decode method_3_code 24 = .ok (.ireturn, 1) := by decide +kernel
theorem dL_job_25 : decode method_3_code 25 = .ok (.iconst 0, 1) := by decide +kernel
theorem dL_job_26 : decode method_3_code 26 = .ok (.ireturn, 1) := by decide +kernel
def wpL_job (K : KX) (post : Int32 → (KX × gS) × (Nat → Int64) → Prop) (u : gS) (f : Nat → Int64) (p1 : Int32) (p2 : Int32) (p3 : Int32) (p4 : Int32) : Prop :=
  wpX0_job K (fun (r : Int32) (u1 : (KX × gS)) => post 0 (u1, vp_updL f (0 : Int32).toNatClampNeg r.toInt64)) (fun (E : String) (u1 : (KX × gS)) => (E = "java/lang/IllegalArgumentException" ∧ post 1 (u1, f)) ∨ (E = "java/lang/IllegalStateException" ∧ post 2 (u1, f))) u p1 p2 p3 p4
set_option maxHeartbeats 8000000 in
set_option maxRecDepth 100000 in
theorem cL_job (l : Launch) (hl9 : l.stackTraces = false) (dC : Nat → ClassId) (dI : Nat → Nat → Nat) (ad : Nat → Nat) (ca : Nat → ClassId) (K : KX) (o : Nat) (cO : ClassId) (sz : Nat) (u : gS) (f : Nat → Int64) (p1 : Int32) (p2 : Int32) (p3 : Int32) (p4 : Int32) (post : Int32 → (KX × gS) × (Nat → Int64) → Prop) (h : wpL_job K post u f p1 p2 p3 p4) : Met l ⟨"WorkHallLaw", "job", "(LWorkHall;IIII[J)I"⟩ (gwH ⟨"WorkHallLaw", "job", "(LWorkHall;IIII[J)I"⟩ method_3_code 7 (some .int) [(0, 14, 17, 13), (0, 14, 21, 15)]) ({ frames := 9, cells := 3, slots := 21, locals := 360 } : Room) (va_Pc [.ref (ad 0), .int p1, .int p2, .int p3, .int p4, .ref o] (gB (dC, dI) vwCl (lT ca cO) lE (wO o cO f ++ wX ad ca K u) sz)) (va_Qi post (gAt (dC, dI) vwCl (lT ca cO) (fun z : (KX × gS) × (Nat → Int64) => wO o cO z.2 ++ wX2 ad ca z.1) (va_A (wO o cO f ++ wX ad ca K u) sz)) (va_A (wO o cO f ++ wX ad ca K u) sz)) 3 21 (va_A (wO o cO f ++ wX ad ca K u) sz) := by
  refine gl_ofWH (cc := method_3_code) (maxL := 7) (ret := (some .int)) (hh := [(0, 14, 17, 13), (0, 14, 21, 15)]) (by decide) rfl ?_
  intro p e s m args below meth c s₁ B hml hv
  obtain ⟨rfl, hsz, hP, hK, hD0, hE⟩ := hv
  have hx := B.exec
  have hb := B.bytes
  have hr := B.returns
  have hts0 := atoms_spec (ws := (gwH ⟨"WorkHallLaw", "job", "(LWorkHall;IIII[J)I"⟩ method_3_code 7 (some .int) [(0, 14, 17, 13), (0, 14, 21, 15)])) B.pre
  have htab := vx_table (x := ⟨"WorkHallLaw", "job", "(LWorkHall;IIII[J)I"⟩) B (hts0 _ List.mem_cons_self)
  have hts : ∀ w ∈ gW, w.before _ s = true := fun w h9 => hts0 w (List.mem_cons_of_mem _ h9)
  have hown : s.vm.findClass RL = some m.cls := findClass_of_methodNamed B.named
  have hlocks := B.notSynchronized
  subst hsz
  have hD := hD0.self (sz := s.heap.size)
  generalize hAe : va_A (wO o cO f ++ wX ad ca K u) s.heap.size = A at hD hE ⊢
  have hA : ∀ q : Nat, s.heap.size ≤ q → A q := fun q h => by rw [← hAe]; exact Or.inr h
  obtain ⟨H, hHe⟩ : ∃ z : Heap, z = s.heap := ⟨_, rfl⟩
  rw [← hHe]
  have hS : va_S A s.heap H [] := by rw [hHe]; exact va_S.rf
  have hP : va_P (dC, dI) vwCl (wO o cO f ++ wX ad ca K u) H := by rw [hHe]; exact hP
  have hl := lv_entry ([.ref (ad 0), .int p1, .int p2, .int p3, .int p4, .ref o]) (n := 7) (Nat.le_of_ble_eq_true rfl)
  rw [lg_entry_eq]
  generalize (lg_sl ([.ref (ad 0), .int p1, .int p2, .int p3, .int p4, .ref o]) ++ List.replicate (7 - (lg_sl ([.ref (ad 0), .int p1, .int p2, .int p3, .int p4, .ref o])).length) Slot.unset).toArray = ls at hl ⊢
  have hl : lv_has ls 7 [(0, .ref (ad 0)), (1, .int p1), (2, .int p2), (3, .int p3), (4, .int p4), (5, .ref o)] := hl
  clear hAe
  refine lv_aload hx hb dL_job_0 (lv_at hl 5 rfl) ?_
  refine lv_iconst (v := 0) hx hb dL_job_2 (by decide) ?_
  refine lv_aload_n hx hb dL_job_3 rfl (lv_at hl 0 rfl) ?_
  refine lv_iload_n hx hb dL_job_4 rfl (lv_at hl 1 rfl) ?_
  refine lv_iload_n hx hb dL_job_5 rfl (lv_at hl 2 rfl) ?_
  refine lv_iload_n hx hb dL_job_6 rfl (lv_at hl 3 rfl) ?_
  refine lv_iload hx hb dL_job_7 (lv_at hl 4 rfl) ?_
  have hPx := gP_r hP
  have hDx := gD_r hD
  have hKx : va_K (dC, dI) vwCl (xT ca) s := hK.sub [0, 1, 2] rfl
  refine gxl_i (w := wX2 ad ca) (w0 := wX ad ca K u) (wr := wO o cO f) (vx_runV (As := [.int p1, .int p2, .int p3, .int p4]) (rest := [.int 0, .ref o]) ⟨hx, hb, hml, hown, hts⟩ (cX0_job l hl9 dC dI ad ca K H.size u p1 p2 p3 p4 _ _ h) (cwV 4 hts (gG_V wd_217 wd_218 wd_219 wd_46 wd_220) rfl rfl rfl (by decide +kernel) ⟨(Nat.le_of_ble_eq_true rfl), (Nat.le_of_ble_eq_true rfl)⟩) ⟨gB_blind xE_ok, va_recv hKx hPx (ci := 0) (q0 := 0) rfl rfl, gB_pre xE_ok hPx hKx hDx hE.1 hS hA⟩ rfl rfl hl.1 rfl (lv_room (Nat.le_of_ble_eq_true rfl)) dL_job_9 ⟨(Nat.le_of_ble_eq_true rfl), (Nat.le_of_ble_eq_true rfl)⟩) hP hD hS hA (fun E9 ce9 q9 u9 H locs h hP hD hS hce hcv hcl => ?_) (fun r1 u1 H locs h hP hD hS => ?_)
  · rcases h with ⟨rfl, h⟩ | ⟨rfl, h⟩
    · refine vx_catch hown [] ⟨0, 14, 17, 13⟩ [⟨0, 14, 21, 15⟩] (by rw [htab]; rfl) (fun _ h9 => nomatch h9) (by decide) (by decide) (hts _ wd_215) (va_tabs rfl rfl (xE_face hE.1 (.castable "java/lang/IllegalArgumentException" "java/lang/IllegalArgumentException") (by decide +kernel))) hce hcv hcl ?_
      refine lv_astore (lv' := [(6, .ref q9), (0, .ref (ad 0)), (1, .int p1), (2, .int p2), (3, .int p3), (4, .int p4), (5, .ref o)]) hx hb dL_job_17 hl (by decide) rfl (fun ls hl => ?_)
      refine lv_iconst (v := 1) hx hb dL_job_19 (by decide) ?_
      refine W.widen (k := 3) (n := 21) (Nat.le_of_ble_eq_true rfl) (Nat.le_of_ble_eq_true rfl) ?_
      exact gr_i (w := (fun z : (KX × gS) × (Nat → Int64) => wO o cO z.2 ++ wX2 ad ca z.1)) (u := (u9, f)) hx hb hr hlocks h hP hK hD hS dL_job_20
    · refine vx_catch hown [⟨0, 14, 17, 13⟩] ⟨0, 14, 21, 15⟩ [] (by rw [htab]; rfl) (List.forall_mem_cons.mpr ⟨Or.inr ⟨by decide, "java/lang/IllegalArgumentException", hts _ wd_215, hE.2 ("java/lang/IllegalStateException", "java/lang/IllegalArgumentException") (by decide +kernel)⟩, (fun _ h9 => nomatch h9)⟩) (by decide) (by decide) (hts _ wd_216) (va_tabs rfl rfl (xE_face hE.1 (.castable "java/lang/IllegalStateException" "java/lang/IllegalStateException") (by decide +kernel))) hce hcv hcl ?_
      refine lv_astore (lv' := [(6, .ref q9), (0, .ref (ad 0)), (1, .int p1), (2, .int p2), (3, .int p3), (4, .int p4), (5, .ref o)]) hx hb dL_job_21 hl (by decide) rfl (fun ls hl => ?_)
      refine lv_iconst (v := 2) hx hb dL_job_23 (by decide) ?_
      refine W.widen (k := 3) (n := 21) (Nat.le_of_ble_eq_true rfl) (Nat.le_of_ble_eq_true rfl) ?_
      exact gr_i (w := (fun z : (KX × gS) × (Nat → Int64) => wO o cO z.2 ++ wX2 ad ca z.1)) (u := (u9, f)) hx hb hr hlocks h hP hK hD hS dL_job_24
  · refine lv_i2l (v := r1.toInt64) hx hb dL_job_12 rfl ?_
    refine va_last hx hb hK hP hD hS 0 3 rfl rfl (by unfold vp_in; decide) dL_job_13 (fun H locs hP hD hS => ?_)
    have hP : va_P (dC, dI) vwCl (wO o cO (vp_updL f (0 : Int32).toNatClampNeg r1.toInt64) ++ wX2 ad ca u1) H := hP
    have hD : va_D A (wO o cO (vp_updL f (0 : Int32).toNatClampNeg r1.toInt64) ++ wX2 ad ca u1) := hD
    refine lv_goto (tgt := 25) hx hb dL_job_14 (by decide) ?_
    refine lv_iconst (v := 0) hx hb dL_job_25 (by decide) ?_
    refine W.widen (k := 3) (n := 21) (Nat.le_of_ble_eq_true rfl) (Nat.le_of_ble_eq_true rfl) ?_
    exact gr_i (w := (fun z : (KX × gS) × (Nat → Int64) => wO o cO z.2 ++ wX2 ad ca z.1)) (u := (u1, vp_updL f (0 : Int32).toNatClampNeg r1.toInt64)) hx hb hr hlocks h hP hK hD hS dL_job_26

theorem dL_submit_0 : decode method_4_code 0 = .ok (.aload_n 2, 1) := by decide +kernel
theorem dL_submit_1 : decode method_4_code 1 = .ok (.iconst 0, 1) := by decide +kernel
theorem dL_submit_2 : decode method_4_code 2 = .ok (.aload_n 0, 1) := by decide +kernel
theorem dL_submit_3 : decode method_4_code 3 = .ok (.iload_n 1, 1) := by decide +kernel
theorem dL_submit_4 : decode method_4_code 4 = .ok (.invokevirtual 17, 3) := by decide +kernel
theorem dL_submit_7 : decode method_4_code 7 = .ok (.i2l, 1) := by decide +kernel
theorem dL_submit_8 : decode method_4_code 8 = .ok (.lastore, 1) := by decide +kernel
theorem dL_submit_9 : decode method_4_code 9 = .ok (.goto 15, 3) := by decide +kernel
theorem dL_submit_12 : decode method_4_code 12 = .ok (.astore_n 3, 1) := by decide +kernel
theorem dL_submit_13 : decode method_4_code 13 = .ok (.iconst 1, 1) := by decide +kernel
theorem dL_submit_14 : decode method_4_code 14 = .ok (.ireturn, 1) := by decide +kernel
theorem dL_submit_15 : decode method_4_code 15 = .ok (.astore_n 3, 1) := by decide +kernel
theorem dL_submit_16 : decode method_4_code 16 = .ok (.iconst 2, 1) := by decide +kernel
theorem dL_submit_17 : decode method_4_code 17 = .ok (.ireturn, 1) := by decide +kernel
theorem dL_submit_18 : decode method_4_code 18 = .ok (.astore_n 3, 1) := by decide +kernel
theorem dL_submit_19 : decode method_4_code 19 = .ok (.iconst 3, 1) := by decide +kernel
theorem dL_submit_20 : decode method_4_code 20 = .ok (.ireturn, 1) := by decide +kernel
theorem dL_submit_21 : decode method_4_code 21 = .ok (.astore_n 3, 1) := by decide +kernel
theorem dL_submit_22 : decode method_4_code 22 = .ok (.iconst 4, 1) := by decide +kernel
theorem dL_submit_23 : decode method_4_code 23 = .ok (.ireturn, 1) := by decide +kernel
theorem dL_submit_24 : decode method_4_code 24 = .ok (.iconst 0, 1) := by decide +kernel
theorem dL_submit_25 : decode method_4_code 25 = .ok (.ireturn, 1) := by decide +kernel
def wpL_submit (K : KX) (post : Int32 → gS × (Nat → Int64) → Prop) (u : gS) (f : Nat → Int64) (p1 : Int32) : Prop :=
  wpX0_submit K (fun (r : Int32) (u1 : gS) => post 0 (u1, vp_updL f (0 : Int32).toNatClampNeg r.toInt64)) (fun (E : String) (u1 : gS) => (E = "java/lang/IllegalArgumentException" ∧ post 1 (u1, f)) ∨ (E = "java/util/NoSuchElementException" ∧ post 2 (u1, f)) ∨ (E = "java/lang/IllegalStateException" ∧ post 3 (u1, f)) ∨ (E = "java/lang/UnsupportedOperationException" ∧ post 4 (u1, f))) u p1
set_option maxHeartbeats 8000000 in
set_option maxRecDepth 100000 in
theorem cL_submit (l : Launch) (hl9 : l.stackTraces = false) (dC : Nat → ClassId) (dI : Nat → Nat → Nat) (ad : Nat → Nat) (ca : Nat → ClassId) (K : KX) (o : Nat) (cO : ClassId) (sz : Nat) (u : gS) (f : Nat → Int64) (p1 : Int32) (post : Int32 → gS × (Nat → Int64) → Prop) (h : wpL_submit K post u f p1) : Met l ⟨"WorkHallLaw", "submit", "(LWorkHall;I[J)I"⟩ (gwH ⟨"WorkHallLaw", "submit", "(LWorkHall;I[J)I"⟩ method_4_code 4 (some .int) [(0, 9, 12, 13), (0, 9, 15, 21), (0, 9, 18, 15), (0, 9, 21, 23)]) ({ frames := 110, cells := 3, slots := 18, locals := 4400 } : Room) (va_Pc [.ref (ad 0), .int p1, .ref o] (gB (dC, dI) vwCl (lT ca cO) lE (wO o cO f ++ wX ad ca K u) sz)) (va_Qi post (gAt (dC, dI) vwCl (lT ca cO) (fun z : gS × (Nat → Int64) => wO o cO z.2 ++ wX ad ca K z.1) (va_A (wO o cO f ++ wX ad ca K u) sz)) (va_A (wO o cO f ++ wX ad ca K u) sz)) 3 18 (va_A (wO o cO f ++ wX ad ca K u) sz) := by
  refine gl_ofWH (cc := method_4_code) (maxL := 4) (ret := (some .int)) (hh := [(0, 9, 12, 13), (0, 9, 15, 21), (0, 9, 18, 15), (0, 9, 21, 23)]) (by decide) rfl ?_
  intro p e s m args below meth c s₁ B hml hv
  obtain ⟨rfl, hsz, hP, hK, hD0, hE⟩ := hv
  have hx := B.exec
  have hb := B.bytes
  have hr := B.returns
  have hts0 := atoms_spec (ws := (gwH ⟨"WorkHallLaw", "submit", "(LWorkHall;I[J)I"⟩ method_4_code 4 (some .int) [(0, 9, 12, 13), (0, 9, 15, 21), (0, 9, 18, 15), (0, 9, 21, 23)])) B.pre
  have htab := vx_table (x := ⟨"WorkHallLaw", "submit", "(LWorkHall;I[J)I"⟩) B (hts0 _ List.mem_cons_self)
  have hts : ∀ w ∈ gW, w.before _ s = true := fun w h9 => hts0 w (List.mem_cons_of_mem _ h9)
  have hown : s.vm.findClass RL = some m.cls := findClass_of_methodNamed B.named
  have hlocks := B.notSynchronized
  subst hsz
  have hD := hD0.self (sz := s.heap.size)
  generalize hAe : va_A (wO o cO f ++ wX ad ca K u) s.heap.size = A at hD hE ⊢
  have hA : ∀ q : Nat, s.heap.size ≤ q → A q := fun q h => by rw [← hAe]; exact Or.inr h
  obtain ⟨H, hHe⟩ : ∃ z : Heap, z = s.heap := ⟨_, rfl⟩
  rw [← hHe]
  have hS : va_S A s.heap H [] := by rw [hHe]; exact va_S.rf
  have hP : va_P (dC, dI) vwCl (wO o cO f ++ wX ad ca K u) H := by rw [hHe]; exact hP
  have hl := lv_entry ([.ref (ad 0), .int p1, .ref o]) (n := 4) (Nat.le_of_ble_eq_true rfl)
  rw [lg_entry_eq]
  generalize (lg_sl ([.ref (ad 0), .int p1, .ref o]) ++ List.replicate (4 - (lg_sl ([.ref (ad 0), .int p1, .ref o])).length) Slot.unset).toArray = ls at hl ⊢
  have hl : lv_has ls 4 [(0, .ref (ad 0)), (1, .int p1), (2, .ref o)] := hl
  clear hAe
  refine lv_aload_n hx hb dL_submit_0 rfl (lv_at hl 2 rfl) ?_
  refine lv_iconst (v := 0) hx hb dL_submit_1 (by decide) ?_
  refine lv_aload_n hx hb dL_submit_2 rfl (lv_at hl 0 rfl) ?_
  refine lv_iload_n hx hb dL_submit_3 rfl (lv_at hl 1 rfl) ?_
  have hPx := gP_r hP
  have hDx := gD_r hD
  have hKx : va_K (dC, dI) vwCl (xT ca) s := hK.sub [0, 1, 2] rfl
  refine gxl_i (w := wX ad ca K) (w0 := wX ad ca K u) (wr := wO o cO f) (vx_runV (As := [.int p1]) (rest := [.int 0, .ref o]) ⟨hx, hb, hml, hown, hts⟩ (cX0_submit l hl9 dC dI ad ca K H.size u p1 _ _ h) (cwV 1 hts (gG_V wd_360 wd_361 wd_362 wd_46 wd_363) rfl rfl rfl (by decide +kernel) ⟨(Nat.le_of_ble_eq_true rfl), (Nat.le_of_ble_eq_true rfl)⟩) ⟨gB_blind xE_ok, va_recv hKx hPx (ci := 0) (q0 := 0) rfl rfl, gB_pre xE_ok hPx hKx hDx hE.1 hS hA⟩ rfl rfl hl.1 rfl (lv_room (Nat.le_of_ble_eq_true rfl)) dL_submit_4 ⟨(Nat.le_of_ble_eq_true rfl), (Nat.le_of_ble_eq_true rfl)⟩) hP hD hS hA (fun E9 ce9 q9 u9 H locs h hP hD hS hce hcv hcl => ?_) (fun r1 u1 H locs h hP hD hS => ?_)
  · rcases h with ⟨rfl, h⟩ | ⟨rfl, h⟩ | ⟨rfl, h⟩ | ⟨rfl, h⟩
    · refine vx_catch hown [] ⟨0, 9, 12, 13⟩ [⟨0, 9, 15, 21⟩, ⟨0, 9, 18, 15⟩, ⟨0, 9, 21, 23⟩] (by rw [htab]; rfl) (fun _ h9 => nomatch h9) (by decide) (by decide) (hts _ wd_215) (va_tabs rfl rfl (xE_face hE.1 (.castable "java/lang/IllegalArgumentException" "java/lang/IllegalArgumentException") (by decide +kernel))) hce hcv hcl ?_
      refine lv_astore_n (lv' := [(3, .ref q9), (0, .ref (ad 0)), (1, .int p1), (2, .ref o)]) hx hb dL_submit_12 rfl hl (by decide) rfl (fun ls hl => ?_)
      refine lv_iconst (v := 1) hx hb dL_submit_13 (by decide) ?_
      refine W.widen (k := 3) (n := 18) (Nat.le_of_ble_eq_true rfl) (Nat.le_of_ble_eq_true rfl) ?_
      exact gr_i (w := (fun z : gS × (Nat → Int64) => wO o cO z.2 ++ wX ad ca K z.1)) (u := (u9, f)) hx hb hr hlocks h hP hK hD hS dL_submit_14
    · refine vx_catch hown [⟨0, 9, 12, 13⟩] ⟨0, 9, 15, 21⟩ [⟨0, 9, 18, 15⟩, ⟨0, 9, 21, 23⟩] (by rw [htab]; rfl) (List.forall_mem_cons.mpr ⟨Or.inr ⟨by decide, "java/lang/IllegalArgumentException", hts _ wd_215, hE.2 ("java/util/NoSuchElementException", "java/lang/IllegalArgumentException") (by decide +kernel)⟩, (fun _ h9 => nomatch h9)⟩) (by decide) (by decide) (hts _ wd_358) (va_tabs rfl rfl (xE_face hE.1 (.castable "java/util/NoSuchElementException" "java/util/NoSuchElementException") (by decide +kernel))) hce hcv hcl ?_
      refine lv_astore_n (lv' := [(3, .ref q9), (0, .ref (ad 0)), (1, .int p1), (2, .ref o)]) hx hb dL_submit_15 rfl hl (by decide) rfl (fun ls hl => ?_)
      refine lv_iconst (v := 2) hx hb dL_submit_16 (by decide) ?_
      refine W.widen (k := 3) (n := 18) (Nat.le_of_ble_eq_true rfl) (Nat.le_of_ble_eq_true rfl) ?_
      exact gr_i (w := (fun z : gS × (Nat → Int64) => wO o cO z.2 ++ wX ad ca K z.1)) (u := (u9, f)) hx hb hr hlocks h hP hK hD hS dL_submit_17
    · refine vx_catch hown [⟨0, 9, 12, 13⟩, ⟨0, 9, 15, 21⟩] ⟨0, 9, 18, 15⟩ [⟨0, 9, 21, 23⟩] (by rw [htab]; rfl) (List.forall_mem_cons.mpr ⟨Or.inr ⟨by decide, "java/lang/IllegalArgumentException", hts _ wd_215, hE.2 ("java/lang/IllegalStateException", "java/lang/IllegalArgumentException") (by decide +kernel)⟩, (List.forall_mem_cons.mpr ⟨Or.inr ⟨by decide, "java/util/NoSuchElementException", hts _ wd_358, hE.2 ("java/lang/IllegalStateException", "java/util/NoSuchElementException") (by decide +kernel)⟩, (fun _ h9 => nomatch h9)⟩)⟩) (by decide) (by decide) (hts _ wd_216) (va_tabs rfl rfl (xE_face hE.1 (.castable "java/lang/IllegalStateException" "java/lang/IllegalStateException") (by decide +kernel))) hce hcv hcl ?_
      refine lv_astore_n (lv' := [(3, .ref q9), (0, .ref (ad 0)), (1, .int p1), (2, .ref o)]) hx hb dL_submit_18 rfl hl (by decide) rfl (fun ls hl => ?_)
      refine lv_iconst (v := 3) hx hb dL_submit_19 (by decide) ?_
      refine W.widen (k := 3) (n := 18) (Nat.le_of_ble_eq_true rfl) (Nat.le_of_ble_eq_true rfl) ?_
      exact gr_i (w := (fun z : gS × (Nat → Int64) => wO o cO z.2 ++ wX ad ca K z.1)) (u := (u9, f)) hx hb hr hlocks h hP hK hD hS dL_submit_20
    · refine vx_catch hown [⟨0, 9, 12, 13⟩, ⟨0, 9, 15, 21⟩, ⟨0, 9, 18, 15⟩] ⟨0, 9, 21, 23⟩ [] (by rw [htab]; rfl) (List.forall_mem_cons.mpr ⟨Or.inr ⟨by decide, "java/lang/IllegalArgumentException", hts _ wd_215, hE.2 ("java/lang/UnsupportedOperationException", "java/lang/IllegalArgumentException") (by decide +kernel)⟩, (List.forall_mem_cons.mpr ⟨Or.inr ⟨by decide, "java/util/NoSuchElementException", hts _ wd_358, hE.2 ("java/lang/UnsupportedOperationException", "java/util/NoSuchElementException") (by decide +kernel)⟩, (List.forall_mem_cons.mpr ⟨Or.inr ⟨by decide, "java/lang/IllegalStateException", hts _ wd_216, hE.2 ("java/lang/UnsupportedOperationException", "java/lang/IllegalStateException") (by decide +kernel)⟩, (fun _ h9 => nomatch h9)⟩)⟩)⟩) (by decide) (by decide) (hts _ wd_359) (va_tabs rfl rfl (xE_face hE.1 (.castable "java/lang/UnsupportedOperationException" "java/lang/UnsupportedOperationException") (by decide +kernel))) hce hcv hcl ?_
      refine lv_astore_n (lv' := [(3, .ref q9), (0, .ref (ad 0)), (1, .int p1), (2, .ref o)]) hx hb dL_submit_21 rfl hl (by decide) rfl (fun ls hl => ?_)
      refine lv_iconst (v := 4) hx hb dL_submit_22 (by decide) ?_
      refine W.widen (k := 3) (n := 18) (Nat.le_of_ble_eq_true rfl) (Nat.le_of_ble_eq_true rfl) ?_
      exact gr_i (w := (fun z : gS × (Nat → Int64) => wO o cO z.2 ++ wX ad ca K z.1)) (u := (u9, f)) hx hb hr hlocks h hP hK hD hS dL_submit_23
  · refine lv_i2l (v := r1.toInt64) hx hb dL_submit_7 rfl ?_
    refine va_last hx hb hK hP hD hS 0 3 rfl rfl (by unfold vp_in; decide) dL_submit_8 (fun H locs hP hD hS => ?_)
    have hP : va_P (dC, dI) vwCl (wO o cO (vp_updL f (0 : Int32).toNatClampNeg r1.toInt64) ++ wX ad ca K u1) H := hP
    have hD : va_D A (wO o cO (vp_updL f (0 : Int32).toNatClampNeg r1.toInt64) ++ wX ad ca K u1) := hD
    refine lv_goto (tgt := 24) hx hb dL_submit_9 (by decide) ?_
    refine lv_iconst (v := 0) hx hb dL_submit_24 (by decide) ?_
    refine W.widen (k := 3) (n := 18) (Nat.le_of_ble_eq_true rfl) (Nat.le_of_ble_eq_true rfl) ?_
    exact gr_i (w := (fun z : gS × (Nat → Int64) => wO o cO z.2 ++ wX ad ca K z.1)) (u := (u1, vp_updL f (0 : Int32).toNatClampNeg r1.toInt64)) hx hb hr hlocks h hP hK hD hS dL_submit_25

theorem dL_then_0 : decode method_5_code 0 = .ok (.aload_n 3, 1) := by decide +kernel
theorem dL_then_1 : decode method_5_code 1 = .ok (.iconst 0, 1) := by decide +kernel
theorem dL_then_2 : decode method_5_code 2 = .ok (.aload_n 0, 1) := by decide +kernel
theorem dL_then_3 : decode method_5_code 3 = .ok (.iload_n 1, 1) := by decide +kernel
theorem dL_then_4 : decode method_5_code 4 = .ok (.iload_n 2, 1) := by decide +kernel
theorem dL_then_5 : decode method_5_code 5 = .ok (.invokevirtual 25, 3) := by decide +kernel
theorem dL_then_8 : decode method_5_code 8 = .ok (.i2l, 1) := by decide +kernel
theorem dL_then_9 : decode method_5_code 9 = .ok (.lastore, 1) := by decide +kernel
theorem dL_then_10 : decode method_5_code 10 = .ok (.goto 15, 3) := by decide +kernel
theorem dL_then_13 : decode method_5_code 13 = .ok (.astore 4, 2) := by decide +kernel
theorem dL_then_15 : decode method_5_code 15 = .ok (.iconst 1, 1) := by decide +kernel
theorem dL_then_16 : decode method_5_code 16 = .ok (.ireturn, 1) := by decide +kernel
theorem dL_then_17 : decode method_5_code 17 = .ok (.astore 4, 2) := by decide +kernel
theorem dL_then_19 : decode method_5_code 19 = .ok (.iconst 2, 1) := by decide +kernel
theorem dL_then_20 : decode method_5_code 20 = .ok (.ireturn, 1) := by decide +kernel
theorem dL_then_21 : decode method_5_code 21 = .ok (.astore 4, 2) := by decide +kernel
theorem dL_then_23 : decode method_5_code 23 = .ok (.iconst 3, 1) := by decide +kernel
theorem dL_then_24 : decode method_5_code 24 = .ok (.ireturn, 1) := by decide +kernel
theorem dL_then_25 : decode method_5_code 25 = .ok (.iconst 0, 1) := by decide +kernel
theorem dL_then_26 : decode method_5_code 26 = .ok (.ireturn, 1) := by decide +kernel
def wpL_then (K : KX) (post : Int32 → gS × (Nat → Int64) → Prop) (u : gS) (f : Nat → Int64) (p1 : Int32) (p2 : Int32) : Prop :=
  wpX0_then K (fun (r : Int32) (u1 : gS) => post 0 (u1, vp_updL f (0 : Int32).toNatClampNeg r.toInt64)) (fun (E : String) (u1 : gS) => (E = "java/lang/IllegalArgumentException" ∧ post 1 (u1, f)) ∨ (E = "java/util/NoSuchElementException" ∧ post 2 (u1, f)) ∨ (E = "java/lang/IllegalStateException" ∧ post 3 (u1, f))) u p1 p2
set_option maxHeartbeats 8000000 in
set_option maxRecDepth 100000 in
theorem cL_then (l : Launch) (hl9 : l.stackTraces = false) (dC : Nat → ClassId) (dI : Nat → Nat → Nat) (ad : Nat → Nat) (ca : Nat → ClassId) (K : KX) (o : Nat) (cO : ClassId) (sz : Nat) (u : gS) (f : Nat → Int64) (p1 : Int32) (p2 : Int32) (post : Int32 → gS × (Nat → Int64) → Prop) (h : wpL_then K post u f p1 p2) : Met l ⟨"WorkHallLaw", "then", "(LWorkHall;II[J)I"⟩ (gwH ⟨"WorkHallLaw", "then", "(LWorkHall;II[J)I"⟩ method_5_code 5 (some .int) [(0, 10, 13, 13), (0, 10, 17, 21), (0, 10, 21, 15)]) ({ frames := 10, cells := 6, slots := 36, locals := 400 } : Room) (va_Pc [.ref (ad 0), .int p1, .int p2, .ref o] (gB (dC, dI) vwCl (lT ca cO) lE (wO o cO f ++ wX ad ca K u) sz)) (va_Qi post (gAt (dC, dI) vwCl (lT ca cO) (fun z : gS × (Nat → Int64) => wO o cO z.2 ++ wX ad ca K z.1) (va_A (wO o cO f ++ wX ad ca K u) sz)) (va_A (wO o cO f ++ wX ad ca K u) sz)) 6 36 (va_A (wO o cO f ++ wX ad ca K u) sz) := by
  refine gl_ofWH (cc := method_5_code) (maxL := 5) (ret := (some .int)) (hh := [(0, 10, 13, 13), (0, 10, 17, 21), (0, 10, 21, 15)]) (by decide) rfl ?_
  intro p e s m args below meth c s₁ B hml hv
  obtain ⟨rfl, hsz, hP, hK, hD0, hE⟩ := hv
  have hx := B.exec
  have hb := B.bytes
  have hr := B.returns
  have hts0 := atoms_spec (ws := (gwH ⟨"WorkHallLaw", "then", "(LWorkHall;II[J)I"⟩ method_5_code 5 (some .int) [(0, 10, 13, 13), (0, 10, 17, 21), (0, 10, 21, 15)])) B.pre
  have htab := vx_table (x := ⟨"WorkHallLaw", "then", "(LWorkHall;II[J)I"⟩) B (hts0 _ List.mem_cons_self)
  have hts : ∀ w ∈ gW, w.before _ s = true := fun w h9 => hts0 w (List.mem_cons_of_mem _ h9)
  have hown : s.vm.findClass RL = some m.cls := findClass_of_methodNamed B.named
  have hlocks := B.notSynchronized
  subst hsz
  have hD := hD0.self (sz := s.heap.size)
  generalize hAe : va_A (wO o cO f ++ wX ad ca K u) s.heap.size = A at hD hE ⊢
  have hA : ∀ q : Nat, s.heap.size ≤ q → A q := fun q h => by rw [← hAe]; exact Or.inr h
  obtain ⟨H, hHe⟩ : ∃ z : Heap, z = s.heap := ⟨_, rfl⟩
  rw [← hHe]
  have hS : va_S A s.heap H [] := by rw [hHe]; exact va_S.rf
  have hP : va_P (dC, dI) vwCl (wO o cO f ++ wX ad ca K u) H := by rw [hHe]; exact hP
  have hl := lv_entry ([.ref (ad 0), .int p1, .int p2, .ref o]) (n := 5) (Nat.le_of_ble_eq_true rfl)
  rw [lg_entry_eq]
  generalize (lg_sl ([.ref (ad 0), .int p1, .int p2, .ref o]) ++ List.replicate (5 - (lg_sl ([.ref (ad 0), .int p1, .int p2, .ref o])).length) Slot.unset).toArray = ls at hl ⊢
  have hl : lv_has ls 5 [(0, .ref (ad 0)), (1, .int p1), (2, .int p2), (3, .ref o)] := hl
  clear hAe
  refine lv_aload_n hx hb dL_then_0 rfl (lv_at hl 3 rfl) ?_
  refine lv_iconst (v := 0) hx hb dL_then_1 (by decide) ?_
  refine lv_aload_n hx hb dL_then_2 rfl (lv_at hl 0 rfl) ?_
  refine lv_iload_n hx hb dL_then_3 rfl (lv_at hl 1 rfl) ?_
  refine lv_iload_n hx hb dL_then_4 rfl (lv_at hl 2 rfl) ?_
  have hPx := gP_r hP
  have hDx := gD_r hD
  have hKx : va_K (dC, dI) vwCl (xT ca) s := hK.sub [0, 1, 2] rfl
  refine gxl_i (w := wX ad ca K) (w0 := wX ad ca K u) (wr := wO o cO f) (vx_runV (As := [.int p1, .int p2]) (rest := [.int 0, .ref o]) ⟨hx, hb, hml, hown, hts⟩ (cX0_then l hl9 dC dI ad ca K H.size u p1 p2 _ _ h) (cwV 2 hts (gG_V wd_478 wd_479 wd_480 wd_46 wd_481) rfl rfl rfl (by decide +kernel) ⟨(Nat.le_of_ble_eq_true rfl), (Nat.le_of_ble_eq_true rfl)⟩) ⟨gB_blind xE_ok, va_recv hKx hPx (ci := 0) (q0 := 0) rfl rfl, gB_pre xE_ok hPx hKx hDx hE.1 hS hA⟩ rfl rfl hl.1 rfl (lv_room (Nat.le_of_ble_eq_true rfl)) dL_then_5 ⟨(Nat.le_of_ble_eq_true rfl), (Nat.le_of_ble_eq_true rfl)⟩) hP hD hS hA (fun E9 ce9 q9 u9 H locs h hP hD hS hce hcv hcl => ?_) (fun r1 u1 H locs h hP hD hS => ?_)
  · rcases h with ⟨rfl, h⟩ | ⟨rfl, h⟩ | ⟨rfl, h⟩
    · refine vx_catch hown [] ⟨0, 10, 13, 13⟩ [⟨0, 10, 17, 21⟩, ⟨0, 10, 21, 15⟩] (by rw [htab]; rfl) (fun _ h9 => nomatch h9) (by decide) (by decide) (hts _ wd_215) (va_tabs rfl rfl (xE_face hE.1 (.castable "java/lang/IllegalArgumentException" "java/lang/IllegalArgumentException") (by decide +kernel))) hce hcv hcl ?_
      refine lv_astore (lv' := [(4, .ref q9), (0, .ref (ad 0)), (1, .int p1), (2, .int p2), (3, .ref o)]) hx hb dL_then_13 hl (by decide) rfl (fun ls hl => ?_)
      refine lv_iconst (v := 1) hx hb dL_then_15 (by decide) ?_
      refine W.widen (k := 6) (n := 36) (Nat.le_of_ble_eq_true rfl) (Nat.le_of_ble_eq_true rfl) ?_
      exact gr_i (w := (fun z : gS × (Nat → Int64) => wO o cO z.2 ++ wX ad ca K z.1)) (u := (u9, f)) hx hb hr hlocks h hP hK hD hS dL_then_16
    · refine vx_catch hown [⟨0, 10, 13, 13⟩] ⟨0, 10, 17, 21⟩ [⟨0, 10, 21, 15⟩] (by rw [htab]; rfl) (List.forall_mem_cons.mpr ⟨Or.inr ⟨by decide, "java/lang/IllegalArgumentException", hts _ wd_215, hE.2 ("java/util/NoSuchElementException", "java/lang/IllegalArgumentException") (by decide +kernel)⟩, (fun _ h9 => nomatch h9)⟩) (by decide) (by decide) (hts _ wd_358) (va_tabs rfl rfl (xE_face hE.1 (.castable "java/util/NoSuchElementException" "java/util/NoSuchElementException") (by decide +kernel))) hce hcv hcl ?_
      refine lv_astore (lv' := [(4, .ref q9), (0, .ref (ad 0)), (1, .int p1), (2, .int p2), (3, .ref o)]) hx hb dL_then_17 hl (by decide) rfl (fun ls hl => ?_)
      refine lv_iconst (v := 2) hx hb dL_then_19 (by decide) ?_
      refine W.widen (k := 6) (n := 36) (Nat.le_of_ble_eq_true rfl) (Nat.le_of_ble_eq_true rfl) ?_
      exact gr_i (w := (fun z : gS × (Nat → Int64) => wO o cO z.2 ++ wX ad ca K z.1)) (u := (u9, f)) hx hb hr hlocks h hP hK hD hS dL_then_20
    · refine vx_catch hown [⟨0, 10, 13, 13⟩, ⟨0, 10, 17, 21⟩] ⟨0, 10, 21, 15⟩ [] (by rw [htab]; rfl) (List.forall_mem_cons.mpr ⟨Or.inr ⟨by decide, "java/lang/IllegalArgumentException", hts _ wd_215, hE.2 ("java/lang/IllegalStateException", "java/lang/IllegalArgumentException") (by decide +kernel)⟩, (List.forall_mem_cons.mpr ⟨Or.inr ⟨by decide, "java/util/NoSuchElementException", hts _ wd_358, hE.2 ("java/lang/IllegalStateException", "java/util/NoSuchElementException") (by decide +kernel)⟩, (fun _ h9 => nomatch h9)⟩)⟩) (by decide) (by decide) (hts _ wd_216) (va_tabs rfl rfl (xE_face hE.1 (.castable "java/lang/IllegalStateException" "java/lang/IllegalStateException") (by decide +kernel))) hce hcv hcl ?_
      refine lv_astore (lv' := [(4, .ref q9), (0, .ref (ad 0)), (1, .int p1), (2, .int p2), (3, .ref o)]) hx hb dL_then_21 hl (by decide) rfl (fun ls hl => ?_)
      refine lv_iconst (v := 3) hx hb dL_then_23 (by decide) ?_
      refine W.widen (k := 6) (n := 36) (Nat.le_of_ble_eq_true rfl) (Nat.le_of_ble_eq_true rfl) ?_
      exact gr_i (w := (fun z : gS × (Nat → Int64) => wO o cO z.2 ++ wX ad ca K z.1)) (u := (u9, f)) hx hb hr hlocks h hP hK hD hS dL_then_24
  · refine lv_i2l (v := r1.toInt64) hx hb dL_then_8 rfl ?_
    refine va_last hx hb hK hP hD hS 0 3 rfl rfl (by unfold vp_in; decide) dL_then_9 (fun H locs hP hD hS => ?_)
    have hP : va_P (dC, dI) vwCl (wO o cO (vp_updL f (0 : Int32).toNatClampNeg r1.toInt64) ++ wX ad ca K u1) H := hP
    have hD : va_D A (wO o cO (vp_updL f (0 : Int32).toNatClampNeg r1.toInt64) ++ wX ad ca K u1) := hD
    refine lv_goto (tgt := 25) hx hb dL_then_10 (by decide) ?_
    refine lv_iconst (v := 0) hx hb dL_then_25 (by decide) ?_
    refine W.widen (k := 6) (n := 36) (Nat.le_of_ble_eq_true rfl) (Nat.le_of_ble_eq_true rfl) ?_
    exact gr_i (w := (fun z : gS × (Nat → Int64) => wO o cO z.2 ++ wX ad ca K z.1)) (u := (u1, vp_updL f (0 : Int32).toNatClampNeg r1.toInt64)) hx hb hr hlocks h hP hK hD hS dL_then_26

theorem dL_step_0 : decode method_6_code 0 = .ok (.aload_n 2, 1) := by decide +kernel
theorem dL_step_1 : decode method_6_code 1 = .ok (.iconst 0, 1) := by decide +kernel
theorem dL_step_2 : decode method_6_code 2 = .ok (.aload_n 0, 1) := by decide +kernel
theorem dL_step_3 : decode method_6_code 3 = .ok (.iload_n 1, 1) := by decide +kernel
theorem dL_step_4 : decode method_6_code 4 = .ok (.invokevirtual 29, 3) := by decide +kernel
theorem dL_step_7 : decode method_6_code 7 = .ok (.i2l, 1) := by decide +kernel
theorem dL_step_8 : decode method_6_code 8 = .ok (.lastore, 1) := by decide +kernel
theorem dL_step_9 : decode method_6_code 9 = .ok (.goto 6, 3) := by decide +kernel
theorem dL_step_12 : decode method_6_code 12 = .ok (.astore_n 3, 1) := by decide +kernel
theorem dL_step_13 : decode method_6_code 13 = .ok (.iconst 1, 1) := by decide +kernel
theorem dL_step_14 : decode method_6_code 14 = .ok (.ireturn, 1) := by decide +kernel
theorem dL_step_15 : decode method_6_code 15 = .ok (.iconst 0, 1) := by decide +kernel
theorem dL_step_16 : decode method_6_code 16 = .ok (.ireturn, 1) := by decide +kernel
def wpL_step (K : KX) (post : Int32 → gS × (Nat → Int64) → Prop) (u : gS) (f : Nat → Int64) (p1 : Int32) : Prop :=
  wpX0_step K (fun (r : Int32) (u1 : gS) => post 0 (u1, vp_updL f (0 : Int32).toNatClampNeg r.toInt64)) (fun (E : String) (u1 : gS) => (E = "java/lang/IllegalArgumentException" ∧ post 1 (u1, f))) u p1
set_option maxHeartbeats 8000000 in
set_option maxRecDepth 100000 in
theorem cL_step (l : Launch) (hl9 : l.stackTraces = false) (dC : Nat → ClassId) (dI : Nat → Nat → Nat) (ad : Nat → Nat) (ca : Nat → ClassId) (K : KX) (o : Nat) (cO : ClassId) (sz : Nat) (u : gS) (f : Nat → Int64) (p1 : Int32) (post : Int32 → gS × (Nat → Int64) → Prop) (h : wpL_step K post u f p1) : Met l ⟨"WorkHallLaw", "step", "(LWorkHall;I[J)I"⟩ (gwH ⟨"WorkHallLaw", "step", "(LWorkHall;I[J)I"⟩ method_6_code 4 (some .int) [(0, 9, 12, 13)]) ({ frames := 114, cells := 1, slots := 6, locals := 4560 } : Room) (va_Pc [.ref (ad 0), .int p1, .ref o] (gB (dC, dI) vwCl (lT ca cO) lE (wO o cO f ++ wX ad ca K u) sz)) (va_Qi post (gAt (dC, dI) vwCl (lT ca cO) (fun z : gS × (Nat → Int64) => wO o cO z.2 ++ wX ad ca K z.1) (va_A (wO o cO f ++ wX ad ca K u) sz)) (va_A (wO o cO f ++ wX ad ca K u) sz)) 1 6 (va_A (wO o cO f ++ wX ad ca K u) sz) := by
  refine gl_ofWH (cc := method_6_code) (maxL := 4) (ret := (some .int)) (hh := [(0, 9, 12, 13)]) (by decide) rfl ?_
  intro p e s m args below meth c s₁ B hml hv
  obtain ⟨rfl, hsz, hP, hK, hD0, hE⟩ := hv
  have hx := B.exec
  have hb := B.bytes
  have hr := B.returns
  have hts0 := atoms_spec (ws := (gwH ⟨"WorkHallLaw", "step", "(LWorkHall;I[J)I"⟩ method_6_code 4 (some .int) [(0, 9, 12, 13)])) B.pre
  have htab := vx_table (x := ⟨"WorkHallLaw", "step", "(LWorkHall;I[J)I"⟩) B (hts0 _ List.mem_cons_self)
  have hts : ∀ w ∈ gW, w.before _ s = true := fun w h9 => hts0 w (List.mem_cons_of_mem _ h9)
  have hown : s.vm.findClass RL = some m.cls := findClass_of_methodNamed B.named
  have hlocks := B.notSynchronized
  subst hsz
  have hD := hD0.self (sz := s.heap.size)
  generalize hAe : va_A (wO o cO f ++ wX ad ca K u) s.heap.size = A at hD hE ⊢
  have hA : ∀ q : Nat, s.heap.size ≤ q → A q := fun q h => by rw [← hAe]; exact Or.inr h
  obtain ⟨H, hHe⟩ : ∃ z : Heap, z = s.heap := ⟨_, rfl⟩
  rw [← hHe]
  have hS : va_S A s.heap H [] := by rw [hHe]; exact va_S.rf
  have hP : va_P (dC, dI) vwCl (wO o cO f ++ wX ad ca K u) H := by rw [hHe]; exact hP
  have hl := lv_entry ([.ref (ad 0), .int p1, .ref o]) (n := 4) (Nat.le_of_ble_eq_true rfl)
  rw [lg_entry_eq]
  generalize (lg_sl ([.ref (ad 0), .int p1, .ref o]) ++ List.replicate (4 - (lg_sl ([.ref (ad 0), .int p1, .ref o])).length) Slot.unset).toArray = ls at hl ⊢
  have hl : lv_has ls 4 [(0, .ref (ad 0)), (1, .int p1), (2, .ref o)] := hl
  clear hAe
  refine lv_aload_n hx hb dL_step_0 rfl (lv_at hl 2 rfl) ?_
  refine lv_iconst (v := 0) hx hb dL_step_1 (by decide) ?_
  refine lv_aload_n hx hb dL_step_2 rfl (lv_at hl 0 rfl) ?_
  refine lv_iload_n hx hb dL_step_3 rfl (lv_at hl 1 rfl) ?_
  have hPx := gP_r hP
  have hDx := gD_r hD
  have hKx : va_K (dC, dI) vwCl (xT ca) s := hK.sub [0, 1, 2] rfl
  refine gxl_i (w := wX ad ca K) (w0 := wX ad ca K u) (wr := wO o cO f) (vx_runV (As := [.int p1]) (rest := [.int 0, .ref o]) ⟨hx, hb, hml, hown, hts⟩ (cX0_step l hl9 dC dI ad ca K H.size u p1 _ _ h) (cwV 1 hts (gG_V wd_491 wd_492 wd_493 wd_46 wd_494) rfl rfl rfl (by decide +kernel) ⟨(Nat.le_of_ble_eq_true rfl), (Nat.le_of_ble_eq_true rfl)⟩) ⟨gB_blind xE_ok, va_recv hKx hPx (ci := 0) (q0 := 0) rfl rfl, gB_pre xE_ok hPx hKx hDx hE.1 hS hA⟩ rfl rfl hl.1 rfl (lv_room (Nat.le_of_ble_eq_true rfl)) dL_step_4 ⟨(Nat.le_of_ble_eq_true rfl), (Nat.le_of_ble_eq_true rfl)⟩) hP hD hS hA (fun E9 ce9 q9 u9 H locs h hP hD hS hce hcv hcl => ?_) (fun r1 u1 H locs h hP hD hS => ?_)
  · obtain ⟨rfl, h⟩ := h
    refine vx_catch hown [] ⟨0, 9, 12, 13⟩ [] (by rw [htab]; rfl) (fun _ h9 => nomatch h9) (by decide) (by decide) (hts _ wd_215) (va_tabs rfl rfl (xE_face hE.1 (.castable "java/lang/IllegalArgumentException" "java/lang/IllegalArgumentException") (by decide +kernel))) hce hcv hcl ?_
    refine lv_astore_n (lv' := [(3, .ref q9), (0, .ref (ad 0)), (1, .int p1), (2, .ref o)]) hx hb dL_step_12 rfl hl (by decide) rfl (fun ls hl => ?_)
    refine lv_iconst (v := 1) hx hb dL_step_13 (by decide) ?_
    refine W.widen (k := 1) (n := 6) (Nat.le_of_ble_eq_true rfl) (Nat.le_of_ble_eq_true rfl) ?_
    exact gr_i (w := (fun z : gS × (Nat → Int64) => wO o cO z.2 ++ wX ad ca K z.1)) (u := (u9, f)) hx hb hr hlocks h hP hK hD hS dL_step_14
  · refine lv_i2l (v := r1.toInt64) hx hb dL_step_7 rfl ?_
    refine va_last hx hb hK hP hD hS 0 3 rfl rfl (by unfold vp_in; decide) dL_step_8 (fun H locs hP hD hS => ?_)
    have hP : va_P (dC, dI) vwCl (wO o cO (vp_updL f (0 : Int32).toNatClampNeg r1.toInt64) ++ wX ad ca K u1) H := hP
    have hD : va_D A (wO o cO (vp_updL f (0 : Int32).toNatClampNeg r1.toInt64) ++ wX ad ca K u1) := hD
    refine lv_goto (tgt := 15) hx hb dL_step_9 (by decide) ?_
    refine lv_iconst (v := 0) hx hb dL_step_15 (by decide) ?_
    refine W.widen (k := 1) (n := 6) (Nat.le_of_ble_eq_true rfl) (Nat.le_of_ble_eq_true rfl) ?_
    exact gr_i (w := (fun z : gS × (Nat → Int64) => wO o cO z.2 ++ wX ad ca K z.1)) (u := (u1, vp_updL f (0 : Int32).toNatClampNeg r1.toInt64)) hx hb hr hlocks h hP hK hD hS dL_step_16

theorem dL_cancel_0 : decode method_7_code 0 = .ok (.aload_n 3, 1) := by decide +kernel
theorem dL_cancel_1 : decode method_7_code 1 = .ok (.iconst 0, 1) := by decide +kernel
theorem dL_cancel_2 : decode method_7_code 2 = .ok (.aload_n 0, 1) := by decide +kernel
theorem dL_cancel_3 : decode method_7_code 3 = .ok (.iload_n 1, 1) := by decide +kernel
theorem dL_cancel_4 : decode method_7_code 4 = .ok (.iload_n 2, 1) := by decide +kernel
theorem dL_cancel_5 : decode method_7_code 5 = .ok (.invokevirtual 32, 3) := by decide +kernel
theorem dL_cancel_8 : decode method_7_code 8 = .ok (.i2l, 1) := by decide +kernel
theorem dL_cancel_9 : decode method_7_code 9 = .ok (.lastore, 1) := by decide +kernel
theorem dL_cancel_10 : decode method_7_code 10 = .ok (.goto 15, 3) := by decide +kernel
theorem dL_cancel_13 : decode method_7_code 13 = .ok (.astore 4, 2) := by decide +kernel
theorem dL_cancel_15 : decode method_7_code 15 = .ok (.iconst 1, 1) := by decide +kernel
theorem dL_cancel_16 : decode method_7_code 16 = .ok (.ireturn, 1) := by decide +kernel
theorem dL_cancel_17 : decode method_7_code 17 = .ok (.astore 4, 2) := by decide +kernel
theorem dL_cancel_19 : decode method_7_code 19 = .ok (.iconst 2, 1) := by decide +kernel
theorem dL_cancel_20 : decode method_7_code 20 = .ok (.ireturn, 1) := by decide +kernel
theorem dL_cancel_21 : decode method_7_code 21 = .ok (.astore 4, 2) := by decide +kernel
theorem dL_cancel_23 : decode method_7_code 23 = .ok (.iconst 3, 1) := by decide +kernel
theorem dL_cancel_24 : decode method_7_code 24 = .ok (.ireturn, 1) := by decide +kernel
theorem dL_cancel_25 : decode method_7_code 25 = .ok (.iconst 0, 1) := by decide +kernel
theorem dL_cancel_26 : decode method_7_code 26 = .ok (.ireturn, 1) := by decide +kernel
def wpL_cancel (K : KX) (post : Int32 → gS × (Nat → Int64) → Prop) (u : gS) (f : Nat → Int64) (p1 : Int32) (p2 : Int32) : Prop :=
  wpX0_cancel K (fun (r : Int32) (u1 : gS) => post 0 (u1, vp_updL f (0 : Int32).toNatClampNeg r.toInt64)) (fun (E : String) (u1 : gS) => (E = "java/lang/IllegalArgumentException" ∧ post 1 (u1, f)) ∨ (E = "java/util/NoSuchElementException" ∧ post 2 (u1, f)) ∨ (E = "java/lang/UnsupportedOperationException" ∧ post 3 (u1, f))) u p1 p2
set_option maxHeartbeats 8000000 in
set_option maxRecDepth 100000 in
theorem cL_cancel (l : Launch) (hl9 : l.stackTraces = false) (dC : Nat → ClassId) (dI : Nat → Nat → Nat) (ad : Nat → Nat) (ca : Nat → ClassId) (K : KX) (o : Nat) (cO : ClassId) (sz : Nat) (u : gS) (f : Nat → Int64) (p1 : Int32) (p2 : Int32) (post : Int32 → gS × (Nat → Int64) → Prop) (h : wpL_cancel K post u f p1 p2) : Met l ⟨"WorkHallLaw", "cancel", "(LWorkHall;IZ[J)I"⟩ (gwH ⟨"WorkHallLaw", "cancel", "(LWorkHall;IZ[J)I"⟩ method_7_code 5 (some .int) [(0, 10, 13, 13), (0, 10, 17, 21), (0, 10, 21, 23)]) ({ frames := 10, cells := 3, slots := 18, locals := 400 } : Room) (va_Pc [.ref (ad 0), .int p1, .int p2, .ref o] (gB (dC, dI) vwCl (lT ca cO) lE (wO o cO f ++ wX ad ca K u) sz)) (va_Qi post (gAt (dC, dI) vwCl (lT ca cO) (fun z : gS × (Nat → Int64) => wO o cO z.2 ++ wX ad ca K z.1) (va_A (wO o cO f ++ wX ad ca K u) sz)) (va_A (wO o cO f ++ wX ad ca K u) sz)) 3 18 (va_A (wO o cO f ++ wX ad ca K u) sz) := by
  refine gl_ofWH (cc := method_7_code) (maxL := 5) (ret := (some .int)) (hh := [(0, 10, 13, 13), (0, 10, 17, 21), (0, 10, 21, 23)]) (by decide) rfl ?_
  intro p e s m args below meth c s₁ B hml hv
  obtain ⟨rfl, hsz, hP, hK, hD0, hE⟩ := hv
  have hx := B.exec
  have hb := B.bytes
  have hr := B.returns
  have hts0 := atoms_spec (ws := (gwH ⟨"WorkHallLaw", "cancel", "(LWorkHall;IZ[J)I"⟩ method_7_code 5 (some .int) [(0, 10, 13, 13), (0, 10, 17, 21), (0, 10, 21, 23)])) B.pre
  have htab := vx_table (x := ⟨"WorkHallLaw", "cancel", "(LWorkHall;IZ[J)I"⟩) B (hts0 _ List.mem_cons_self)
  have hts : ∀ w ∈ gW, w.before _ s = true := fun w h9 => hts0 w (List.mem_cons_of_mem _ h9)
  have hown : s.vm.findClass RL = some m.cls := findClass_of_methodNamed B.named
  have hlocks := B.notSynchronized
  subst hsz
  have hD := hD0.self (sz := s.heap.size)
  generalize hAe : va_A (wO o cO f ++ wX ad ca K u) s.heap.size = A at hD hE ⊢
  have hA : ∀ q : Nat, s.heap.size ≤ q → A q := fun q h => by rw [← hAe]; exact Or.inr h
  obtain ⟨H, hHe⟩ : ∃ z : Heap, z = s.heap := ⟨_, rfl⟩
  rw [← hHe]
  have hS : va_S A s.heap H [] := by rw [hHe]; exact va_S.rf
  have hP : va_P (dC, dI) vwCl (wO o cO f ++ wX ad ca K u) H := by rw [hHe]; exact hP
  have hl := lv_entry ([.ref (ad 0), .int p1, .int p2, .ref o]) (n := 5) (Nat.le_of_ble_eq_true rfl)
  rw [lg_entry_eq]
  generalize (lg_sl ([.ref (ad 0), .int p1, .int p2, .ref o]) ++ List.replicate (5 - (lg_sl ([.ref (ad 0), .int p1, .int p2, .ref o])).length) Slot.unset).toArray = ls at hl ⊢
  have hl : lv_has ls 5 [(0, .ref (ad 0)), (1, .int p1), (2, .int p2), (3, .ref o)] := hl
  clear hAe
  refine lv_aload_n hx hb dL_cancel_0 rfl (lv_at hl 3 rfl) ?_
  refine lv_iconst (v := 0) hx hb dL_cancel_1 (by decide) ?_
  refine lv_aload_n hx hb dL_cancel_2 rfl (lv_at hl 0 rfl) ?_
  refine lv_iload_n hx hb dL_cancel_3 rfl (lv_at hl 1 rfl) ?_
  refine lv_iload_n hx hb dL_cancel_4 rfl (lv_at hl 2 rfl) ?_
  have hPx := gP_r hP
  have hDx := gD_r hD
  have hKx : va_K (dC, dI) vwCl (xT ca) s := hK.sub [0, 1, 2] rfl
  refine gxl_i (w := wX ad ca K) (w0 := wX ad ca K u) (wr := wO o cO f) (vx_runV (As := [.int p1, .int p2]) (rest := [.int 0, .ref o]) ⟨hx, hb, hml, hown, hts⟩ (cX0_cancel l hl9 dC dI ad ca K H.size u p1 p2 _ _ h) (cwV 2 hts (gG_V wd_536 wd_537 wd_538 wd_46 wd_539) rfl rfl rfl (by decide +kernel) ⟨(Nat.le_of_ble_eq_true rfl), (Nat.le_of_ble_eq_true rfl)⟩) ⟨gB_blind xE_ok, va_recv hKx hPx (ci := 0) (q0 := 0) rfl rfl, gB_pre xE_ok hPx hKx hDx hE.1 hS hA⟩ rfl rfl hl.1 rfl (lv_room (Nat.le_of_ble_eq_true rfl)) dL_cancel_5 ⟨(Nat.le_of_ble_eq_true rfl), (Nat.le_of_ble_eq_true rfl)⟩) hP hD hS hA (fun E9 ce9 q9 u9 H locs h hP hD hS hce hcv hcl => ?_) (fun r1 u1 H locs h hP hD hS => ?_)
  · rcases h with ⟨rfl, h⟩ | ⟨rfl, h⟩ | ⟨rfl, h⟩
    · refine vx_catch hown [] ⟨0, 10, 13, 13⟩ [⟨0, 10, 17, 21⟩, ⟨0, 10, 21, 23⟩] (by rw [htab]; rfl) (fun _ h9 => nomatch h9) (by decide) (by decide) (hts _ wd_215) (va_tabs rfl rfl (xE_face hE.1 (.castable "java/lang/IllegalArgumentException" "java/lang/IllegalArgumentException") (by decide +kernel))) hce hcv hcl ?_
      refine lv_astore (lv' := [(4, .ref q9), (0, .ref (ad 0)), (1, .int p1), (2, .int p2), (3, .ref o)]) hx hb dL_cancel_13 hl (by decide) rfl (fun ls hl => ?_)
      refine lv_iconst (v := 1) hx hb dL_cancel_15 (by decide) ?_
      refine W.widen (k := 3) (n := 18) (Nat.le_of_ble_eq_true rfl) (Nat.le_of_ble_eq_true rfl) ?_
      exact gr_i (w := (fun z : gS × (Nat → Int64) => wO o cO z.2 ++ wX ad ca K z.1)) (u := (u9, f)) hx hb hr hlocks h hP hK hD hS dL_cancel_16
    · refine vx_catch hown [⟨0, 10, 13, 13⟩] ⟨0, 10, 17, 21⟩ [⟨0, 10, 21, 23⟩] (by rw [htab]; rfl) (List.forall_mem_cons.mpr ⟨Or.inr ⟨by decide, "java/lang/IllegalArgumentException", hts _ wd_215, hE.2 ("java/util/NoSuchElementException", "java/lang/IllegalArgumentException") (by decide +kernel)⟩, (fun _ h9 => nomatch h9)⟩) (by decide) (by decide) (hts _ wd_358) (va_tabs rfl rfl (xE_face hE.1 (.castable "java/util/NoSuchElementException" "java/util/NoSuchElementException") (by decide +kernel))) hce hcv hcl ?_
      refine lv_astore (lv' := [(4, .ref q9), (0, .ref (ad 0)), (1, .int p1), (2, .int p2), (3, .ref o)]) hx hb dL_cancel_17 hl (by decide) rfl (fun ls hl => ?_)
      refine lv_iconst (v := 2) hx hb dL_cancel_19 (by decide) ?_
      refine W.widen (k := 3) (n := 18) (Nat.le_of_ble_eq_true rfl) (Nat.le_of_ble_eq_true rfl) ?_
      exact gr_i (w := (fun z : gS × (Nat → Int64) => wO o cO z.2 ++ wX ad ca K z.1)) (u := (u9, f)) hx hb hr hlocks h hP hK hD hS dL_cancel_20
    · refine vx_catch hown [⟨0, 10, 13, 13⟩, ⟨0, 10, 17, 21⟩] ⟨0, 10, 21, 23⟩ [] (by rw [htab]; rfl) (List.forall_mem_cons.mpr ⟨Or.inr ⟨by decide, "java/lang/IllegalArgumentException", hts _ wd_215, hE.2 ("java/lang/UnsupportedOperationException", "java/lang/IllegalArgumentException") (by decide +kernel)⟩, (List.forall_mem_cons.mpr ⟨Or.inr ⟨by decide, "java/util/NoSuchElementException", hts _ wd_358, hE.2 ("java/lang/UnsupportedOperationException", "java/util/NoSuchElementException") (by decide +kernel)⟩, (fun _ h9 => nomatch h9)⟩)⟩) (by decide) (by decide) (hts _ wd_359) (va_tabs rfl rfl (xE_face hE.1 (.castable "java/lang/UnsupportedOperationException" "java/lang/UnsupportedOperationException") (by decide +kernel))) hce hcv hcl ?_
      refine lv_astore (lv' := [(4, .ref q9), (0, .ref (ad 0)), (1, .int p1), (2, .int p2), (3, .ref o)]) hx hb dL_cancel_21 hl (by decide) rfl (fun ls hl => ?_)
      refine lv_iconst (v := 3) hx hb dL_cancel_23 (by decide) ?_
      refine W.widen (k := 3) (n := 18) (Nat.le_of_ble_eq_true rfl) (Nat.le_of_ble_eq_true rfl) ?_
      exact gr_i (w := (fun z : gS × (Nat → Int64) => wO o cO z.2 ++ wX ad ca K z.1)) (u := (u9, f)) hx hb hr hlocks h hP hK hD hS dL_cancel_24
  · refine lv_i2l (v := r1.toInt64) hx hb dL_cancel_8 rfl ?_
    refine va_last hx hb hK hP hD hS 0 3 rfl rfl (by unfold vp_in; decide) dL_cancel_9 (fun H locs hP hD hS => ?_)
    have hP : va_P (dC, dI) vwCl (wO o cO (vp_updL f (0 : Int32).toNatClampNeg r1.toInt64) ++ wX ad ca K u1) H := hP
    have hD : va_D A (wO o cO (vp_updL f (0 : Int32).toNatClampNeg r1.toInt64) ++ wX ad ca K u1) := hD
    refine lv_goto (tgt := 25) hx hb dL_cancel_10 (by decide) ?_
    refine lv_iconst (v := 0) hx hb dL_cancel_25 (by decide) ?_
    refine W.widen (k := 3) (n := 18) (Nat.le_of_ble_eq_true rfl) (Nat.le_of_ble_eq_true rfl) ?_
    exact gr_i (w := (fun z : gS × (Nat → Int64) => wO o cO z.2 ++ wX ad ca K z.1)) (u := (u1, vp_updL f (0 : Int32).toNatClampNeg r1.toInt64)) hx hb hr hlocks h hP hK hD hS dL_cancel_26

theorem dL_get_0 : decode method_8_code 0 = .ok (.aload_n 2, 1) := by decide +kernel
theorem dL_get_1 : decode method_8_code 1 = .ok (.iconst 0, 1) := by decide +kernel
theorem dL_get_2 : decode method_8_code 2 = .ok (.aload_n 0, 1) := by decide +kernel
theorem dL_get_3 : decode method_8_code 3 = .ok (.iload_n 1, 1) := by decide +kernel
theorem dL_get_4 : decode method_8_code 4 = .ok (.invokevirtual 36, 3) := by decide +kernel
theorem dL_get_7 : decode method_8_code 7 = .ok (.i2l, 1) := by decide +kernel
theorem dL_get_8 : decode method_8_code 8 = .ok (.lastore, 1) := by decide +kernel
theorem dL_get_9 : decode method_8_code 9 = .ok (.goto 22, 3) := by decide +kernel
theorem dL_get_12 : decode method_8_code 12 = .ok (.astore_n 3, 1) := by decide +kernel
theorem dL_get_13 : decode method_8_code 13 = .ok (.iconst 1, 1) := by decide +kernel
theorem dL_get_14 : decode method_8_code 14 = .ok (.ireturn, 1) := by decide +kernel
theorem dL_get_15 : decode method_8_code 15 = .ok (.astore_n 3, 1) := by decide +kernel
theorem dL_get_16 : decode method_8_code 16 = .ok (.iconst 2, 1) := by decide +kernel
theorem dL_get_17 : decode method_8_code 17 = .ok (.ireturn, 1) := by decide +kernel
theorem dL_get_18 : decode method_8_code 18 = .ok (.astore_n 3, 1) := by decide +kernel
theorem dL_get_19 : decode method_8_code 19 = .ok (.iconst 3, 1) := by decide +kernel
theorem dL_get_20 : decode method_8_code 20 = .ok (.ireturn, 1) := by decide +kernel
theorem dL_get_21 : decode method_8_code 21 = .ok (.astore_n 3, 1) := by decide +kernel
theorem dL_get_22 : decode method_8_code 22 = .ok (.iconst 4, 1) := by decide +kernel
theorem dL_get_23 : decode method_8_code 23 = .ok (.ireturn, 1) := by decide +kernel
theorem dL_get_24 : decode method_8_code 24 = .ok (.astore_n 3, 1) := by decide +kernel
theorem dL_get_25 : decode method_8_code 25 = .ok (.iconst 5, 1) := by decide +kernel
theorem dL_get_26 : decode method_8_code 26 = .ok (.ireturn, 1) := by decide +kernel
theorem dL_get_27 : decode method_8_code 27 = .ok (.astore_n 3, 1) := by decide +kernel
theorem dL_get_28 : decode method_8_code 28 = .ok (.bipush 6, 2) := by decide +kernel
theorem dL_get_30 : decode method_8_code 30 = .ok (.ireturn, 1) := by decide +kernel
theorem dL_get_31 : decode method_8_code 31 = .ok (.iconst 0, 1) := by decide +kernel
theorem dL_get_32 : decode method_8_code 32 = .ok (.ireturn, 1) := by decide +kernel
def wpL_get (K : KX) (post : Int32 → gS × (Nat → Int64) → Prop) (u : gS) (f : Nat → Int64) (p1 : Int32) : Prop :=
  wpX0_get K (fun (r : Int32) (u1 : gS) => post 0 (u1, vp_updL f (0 : Int32).toNatClampNeg r.toInt64)) (fun (E : String) (u1 : gS) => (E = "java/lang/IllegalArgumentException" ∧ post 1 (u1, f)) ∨ (E = "java/util/NoSuchElementException" ∧ post 2 (u1, f)) ∨ (E = "java/lang/IllegalStateException" ∧ post 3 (u1, f)) ∨ (E = "java/lang/UnsupportedOperationException" ∧ post 4 (u1, f)) ∨ (E = "java/lang/IndexOutOfBoundsException" ∧ post 5 (u1, f)) ∨ (E = "java/lang/ArithmeticException" ∧ post 6 (u1, f))) u p1
set_option maxHeartbeats 8000000 in
set_option maxRecDepth 100000 in
theorem cL_get (l : Launch) (hl9 : l.stackTraces = false) (dC : Nat → ClassId) (dI : Nat → Nat → Nat) (ad : Nat → Nat) (ca : Nat → ClassId) (K : KX) (o : Nat) (cO : ClassId) (sz : Nat) (u : gS) (f : Nat → Int64) (p1 : Int32) (post : Int32 → gS × (Nat → Int64) → Prop) (h : wpL_get K post u f p1) : Met l ⟨"WorkHallLaw", "get", "(LWorkHall;I[J)I"⟩ (gwH ⟨"WorkHallLaw", "get", "(LWorkHall;I[J)I"⟩ method_8_code 4 (some .int) [(0, 9, 12, 13), (0, 9, 15, 21), (0, 9, 18, 15), (0, 9, 21, 23), (0, 9, 24, 39), (0, 9, 27, 41)]) ({ frames := 10, cells := 3, slots := 18, locals := 400 } : Room) (va_Pc [.ref (ad 0), .int p1, .ref o] (gB (dC, dI) vwCl (lT ca cO) lE (wO o cO f ++ wX ad ca K u) sz)) (va_Qi post (gAt (dC, dI) vwCl (lT ca cO) (fun z : gS × (Nat → Int64) => wO o cO z.2 ++ wX ad ca K z.1) (va_A (wO o cO f ++ wX ad ca K u) sz)) (va_A (wO o cO f ++ wX ad ca K u) sz)) 3 18 (va_A (wO o cO f ++ wX ad ca K u) sz) := by
  refine gl_ofWH (cc := method_8_code) (maxL := 4) (ret := (some .int)) (hh := [(0, 9, 12, 13), (0, 9, 15, 21), (0, 9, 18, 15), (0, 9, 21, 23), (0, 9, 24, 39), (0, 9, 27, 41)]) (by decide) rfl ?_
  intro p e s m args below meth c s₁ B hml hv
  obtain ⟨rfl, hsz, hP, hK, hD0, hE⟩ := hv
  have hx := B.exec
  have hb := B.bytes
  have hr := B.returns
  have hts0 := atoms_spec (ws := (gwH ⟨"WorkHallLaw", "get", "(LWorkHall;I[J)I"⟩ method_8_code 4 (some .int) [(0, 9, 12, 13), (0, 9, 15, 21), (0, 9, 18, 15), (0, 9, 21, 23), (0, 9, 24, 39), (0, 9, 27, 41)])) B.pre
  have htab := vx_table (x := ⟨"WorkHallLaw", "get", "(LWorkHall;I[J)I"⟩) B (hts0 _ List.mem_cons_self)
  have hts : ∀ w ∈ gW, w.before _ s = true := fun w h9 => hts0 w (List.mem_cons_of_mem _ h9)
  have hown : s.vm.findClass RL = some m.cls := findClass_of_methodNamed B.named
  have hlocks := B.notSynchronized
  subst hsz
  have hD := hD0.self (sz := s.heap.size)
  generalize hAe : va_A (wO o cO f ++ wX ad ca K u) s.heap.size = A at hD hE ⊢
  have hA : ∀ q : Nat, s.heap.size ≤ q → A q := fun q h => by rw [← hAe]; exact Or.inr h
  obtain ⟨H, hHe⟩ : ∃ z : Heap, z = s.heap := ⟨_, rfl⟩
  rw [← hHe]
  have hS : va_S A s.heap H [] := by rw [hHe]; exact va_S.rf
  have hP : va_P (dC, dI) vwCl (wO o cO f ++ wX ad ca K u) H := by rw [hHe]; exact hP
  have hl := lv_entry ([.ref (ad 0), .int p1, .ref o]) (n := 4) (Nat.le_of_ble_eq_true rfl)
  rw [lg_entry_eq]
  generalize (lg_sl ([.ref (ad 0), .int p1, .ref o]) ++ List.replicate (4 - (lg_sl ([.ref (ad 0), .int p1, .ref o])).length) Slot.unset).toArray = ls at hl ⊢
  have hl : lv_has ls 4 [(0, .ref (ad 0)), (1, .int p1), (2, .ref o)] := hl
  clear hAe
  refine lv_aload_n hx hb dL_get_0 rfl (lv_at hl 2 rfl) ?_
  refine lv_iconst (v := 0) hx hb dL_get_1 (by decide) ?_
  refine lv_aload_n hx hb dL_get_2 rfl (lv_at hl 0 rfl) ?_
  refine lv_iload_n hx hb dL_get_3 rfl (lv_at hl 1 rfl) ?_
  have hPx := gP_r hP
  have hDx := gD_r hD
  have hKx : va_K (dC, dI) vwCl (xT ca) s := hK.sub [0, 1, 2] rfl
  refine gxl_i (w := wX ad ca K) (w0 := wX ad ca K u) (wr := wO o cO f) (vx_runV (As := [.int p1]) (rest := [.int 0, .ref o]) ⟨hx, hb, hml, hown, hts⟩ (cX0_get l hl9 dC dI ad ca K H.size u p1 _ _ h) (cwV 1 hts (gG_V wd_551 wd_552 wd_553 wd_46 wd_554) rfl rfl rfl (by decide +kernel) ⟨(Nat.le_of_ble_eq_true rfl), (Nat.le_of_ble_eq_true rfl)⟩) ⟨gB_blind xE_ok, va_recv hKx hPx (ci := 0) (q0 := 0) rfl rfl, gB_pre xE_ok hPx hKx hDx hE.1 hS hA⟩ rfl rfl hl.1 rfl (lv_room (Nat.le_of_ble_eq_true rfl)) dL_get_4 ⟨(Nat.le_of_ble_eq_true rfl), (Nat.le_of_ble_eq_true rfl)⟩) hP hD hS hA (fun E9 ce9 q9 u9 H locs h hP hD hS hce hcv hcl => ?_) (fun r1 u1 H locs h hP hD hS => ?_)
  · rcases h with ⟨rfl, h⟩ | ⟨rfl, h⟩ | ⟨rfl, h⟩ | ⟨rfl, h⟩ | ⟨rfl, h⟩ | ⟨rfl, h⟩
    · refine vx_catch hown [] ⟨0, 9, 12, 13⟩ [⟨0, 9, 15, 21⟩, ⟨0, 9, 18, 15⟩, ⟨0, 9, 21, 23⟩, ⟨0, 9, 24, 39⟩, ⟨0, 9, 27, 41⟩] (by rw [htab]; rfl) (fun _ h9 => nomatch h9) (by decide) (by decide) (hts _ wd_215) (va_tabs rfl rfl (xE_face hE.1 (.castable "java/lang/IllegalArgumentException" "java/lang/IllegalArgumentException") (by decide +kernel))) hce hcv hcl ?_
      refine lv_astore_n (lv' := [(3, .ref q9), (0, .ref (ad 0)), (1, .int p1), (2, .ref o)]) hx hb dL_get_12 rfl hl (by decide) rfl (fun ls hl => ?_)
      refine lv_iconst (v := 1) hx hb dL_get_13 (by decide) ?_
      refine W.widen (k := 3) (n := 18) (Nat.le_of_ble_eq_true rfl) (Nat.le_of_ble_eq_true rfl) ?_
      exact gr_i (w := (fun z : gS × (Nat → Int64) => wO o cO z.2 ++ wX ad ca K z.1)) (u := (u9, f)) hx hb hr hlocks h hP hK hD hS dL_get_14
    · refine vx_catch hown [⟨0, 9, 12, 13⟩] ⟨0, 9, 15, 21⟩ [⟨0, 9, 18, 15⟩, ⟨0, 9, 21, 23⟩, ⟨0, 9, 24, 39⟩, ⟨0, 9, 27, 41⟩] (by rw [htab]; rfl) (List.forall_mem_cons.mpr ⟨Or.inr ⟨by decide, "java/lang/IllegalArgumentException", hts _ wd_215, hE.2 ("java/util/NoSuchElementException", "java/lang/IllegalArgumentException") (by decide +kernel)⟩, (fun _ h9 => nomatch h9)⟩) (by decide) (by decide) (hts _ wd_358) (va_tabs rfl rfl (xE_face hE.1 (.castable "java/util/NoSuchElementException" "java/util/NoSuchElementException") (by decide +kernel))) hce hcv hcl ?_
      refine lv_astore_n (lv' := [(3, .ref q9), (0, .ref (ad 0)), (1, .int p1), (2, .ref o)]) hx hb dL_get_15 rfl hl (by decide) rfl (fun ls hl => ?_)
      refine lv_iconst (v := 2) hx hb dL_get_16 (by decide) ?_
      refine W.widen (k := 3) (n := 18) (Nat.le_of_ble_eq_true rfl) (Nat.le_of_ble_eq_true rfl) ?_
      exact gr_i (w := (fun z : gS × (Nat → Int64) => wO o cO z.2 ++ wX ad ca K z.1)) (u := (u9, f)) hx hb hr hlocks h hP hK hD hS dL_get_17
    · refine vx_catch hown [⟨0, 9, 12, 13⟩, ⟨0, 9, 15, 21⟩] ⟨0, 9, 18, 15⟩ [⟨0, 9, 21, 23⟩, ⟨0, 9, 24, 39⟩, ⟨0, 9, 27, 41⟩] (by rw [htab]; rfl) (List.forall_mem_cons.mpr ⟨Or.inr ⟨by decide, "java/lang/IllegalArgumentException", hts _ wd_215, hE.2 ("java/lang/IllegalStateException", "java/lang/IllegalArgumentException") (by decide +kernel)⟩, (List.forall_mem_cons.mpr ⟨Or.inr ⟨by decide, "java/util/NoSuchElementException", hts _ wd_358, hE.2 ("java/lang/IllegalStateException", "java/util/NoSuchElementException") (by decide +kernel)⟩, (fun _ h9 => nomatch h9)⟩)⟩) (by decide) (by decide) (hts _ wd_216) (va_tabs rfl rfl (xE_face hE.1 (.castable "java/lang/IllegalStateException" "java/lang/IllegalStateException") (by decide +kernel))) hce hcv hcl ?_
      refine lv_astore_n (lv' := [(3, .ref q9), (0, .ref (ad 0)), (1, .int p1), (2, .ref o)]) hx hb dL_get_18 rfl hl (by decide) rfl (fun ls hl => ?_)
      refine lv_iconst (v := 3) hx hb dL_get_19 (by decide) ?_
      refine W.widen (k := 3) (n := 18) (Nat.le_of_ble_eq_true rfl) (Nat.le_of_ble_eq_true rfl) ?_
      exact gr_i (w := (fun z : gS × (Nat → Int64) => wO o cO z.2 ++ wX ad ca K z.1)) (u := (u9, f)) hx hb hr hlocks h hP hK hD hS dL_get_20
    · refine vx_catch hown [⟨0, 9, 12, 13⟩, ⟨0, 9, 15, 21⟩, ⟨0, 9, 18, 15⟩] ⟨0, 9, 21, 23⟩ [⟨0, 9, 24, 39⟩, ⟨0, 9, 27, 41⟩] (by rw [htab]; rfl) (List.forall_mem_cons.mpr ⟨Or.inr ⟨by decide, "java/lang/IllegalArgumentException", hts _ wd_215, hE.2 ("java/lang/UnsupportedOperationException", "java/lang/IllegalArgumentException") (by decide +kernel)⟩, (List.forall_mem_cons.mpr ⟨Or.inr ⟨by decide, "java/util/NoSuchElementException", hts _ wd_358, hE.2 ("java/lang/UnsupportedOperationException", "java/util/NoSuchElementException") (by decide +kernel)⟩, (List.forall_mem_cons.mpr ⟨Or.inr ⟨by decide, "java/lang/IllegalStateException", hts _ wd_216, hE.2 ("java/lang/UnsupportedOperationException", "java/lang/IllegalStateException") (by decide +kernel)⟩, (fun _ h9 => nomatch h9)⟩)⟩)⟩) (by decide) (by decide) (hts _ wd_359) (va_tabs rfl rfl (xE_face hE.1 (.castable "java/lang/UnsupportedOperationException" "java/lang/UnsupportedOperationException") (by decide +kernel))) hce hcv hcl ?_
      refine lv_astore_n (lv' := [(3, .ref q9), (0, .ref (ad 0)), (1, .int p1), (2, .ref o)]) hx hb dL_get_21 rfl hl (by decide) rfl (fun ls hl => ?_)
      refine lv_iconst (v := 4) hx hb dL_get_22 (by decide) ?_
      refine W.widen (k := 3) (n := 18) (Nat.le_of_ble_eq_true rfl) (Nat.le_of_ble_eq_true rfl) ?_
      exact gr_i (w := (fun z : gS × (Nat → Int64) => wO o cO z.2 ++ wX ad ca K z.1)) (u := (u9, f)) hx hb hr hlocks h hP hK hD hS dL_get_23
    · refine vx_catch hown [⟨0, 9, 12, 13⟩, ⟨0, 9, 15, 21⟩, ⟨0, 9, 18, 15⟩, ⟨0, 9, 21, 23⟩] ⟨0, 9, 24, 39⟩ [⟨0, 9, 27, 41⟩] (by rw [htab]; rfl) (List.forall_mem_cons.mpr ⟨Or.inr ⟨by decide, "java/lang/IllegalArgumentException", hts _ wd_215, hE.2 ("java/lang/IndexOutOfBoundsException", "java/lang/IllegalArgumentException") (by decide +kernel)⟩, (List.forall_mem_cons.mpr ⟨Or.inr ⟨by decide, "java/util/NoSuchElementException", hts _ wd_358, hE.2 ("java/lang/IndexOutOfBoundsException", "java/util/NoSuchElementException") (by decide +kernel)⟩, (List.forall_mem_cons.mpr ⟨Or.inr ⟨by decide, "java/lang/IllegalStateException", hts _ wd_216, hE.2 ("java/lang/IndexOutOfBoundsException", "java/lang/IllegalStateException") (by decide +kernel)⟩, (List.forall_mem_cons.mpr ⟨Or.inr ⟨by decide, "java/lang/UnsupportedOperationException", hts _ wd_359, hE.2 ("java/lang/IndexOutOfBoundsException", "java/lang/UnsupportedOperationException") (by decide +kernel)⟩, (fun _ h9 => nomatch h9)⟩)⟩)⟩)⟩) (by decide) (by decide) (hts _ wd_549) (va_tabs rfl rfl (xE_face hE.1 (.castable "java/lang/IndexOutOfBoundsException" "java/lang/IndexOutOfBoundsException") (by decide +kernel))) hce hcv hcl ?_
      refine lv_astore_n (lv' := [(3, .ref q9), (0, .ref (ad 0)), (1, .int p1), (2, .ref o)]) hx hb dL_get_24 rfl hl (by decide) rfl (fun ls hl => ?_)
      refine lv_iconst (v := 5) hx hb dL_get_25 (by decide) ?_
      refine W.widen (k := 3) (n := 18) (Nat.le_of_ble_eq_true rfl) (Nat.le_of_ble_eq_true rfl) ?_
      exact gr_i (w := (fun z : gS × (Nat → Int64) => wO o cO z.2 ++ wX ad ca K z.1)) (u := (u9, f)) hx hb hr hlocks h hP hK hD hS dL_get_26
    · refine vx_catch hown [⟨0, 9, 12, 13⟩, ⟨0, 9, 15, 21⟩, ⟨0, 9, 18, 15⟩, ⟨0, 9, 21, 23⟩, ⟨0, 9, 24, 39⟩] ⟨0, 9, 27, 41⟩ [] (by rw [htab]; rfl) (List.forall_mem_cons.mpr ⟨Or.inr ⟨by decide, "java/lang/IllegalArgumentException", hts _ wd_215, hE.2 ("java/lang/ArithmeticException", "java/lang/IllegalArgumentException") (by decide +kernel)⟩, (List.forall_mem_cons.mpr ⟨Or.inr ⟨by decide, "java/util/NoSuchElementException", hts _ wd_358, hE.2 ("java/lang/ArithmeticException", "java/util/NoSuchElementException") (by decide +kernel)⟩, (List.forall_mem_cons.mpr ⟨Or.inr ⟨by decide, "java/lang/IllegalStateException", hts _ wd_216, hE.2 ("java/lang/ArithmeticException", "java/lang/IllegalStateException") (by decide +kernel)⟩, (List.forall_mem_cons.mpr ⟨Or.inr ⟨by decide, "java/lang/UnsupportedOperationException", hts _ wd_359, hE.2 ("java/lang/ArithmeticException", "java/lang/UnsupportedOperationException") (by decide +kernel)⟩, (List.forall_mem_cons.mpr ⟨Or.inr ⟨by decide, "java/lang/IndexOutOfBoundsException", hts _ wd_549, hE.2 ("java/lang/ArithmeticException", "java/lang/IndexOutOfBoundsException") (by decide +kernel)⟩, (fun _ h9 => nomatch h9)⟩)⟩)⟩)⟩)⟩) (by decide) (by decide) (hts _ wd_550) (va_tabs rfl rfl (xE_face hE.1 (.castable "java/lang/ArithmeticException" "java/lang/ArithmeticException") (by decide +kernel))) hce hcv hcl ?_
      refine lv_astore_n (lv' := [(3, .ref q9), (0, .ref (ad 0)), (1, .int p1), (2, .ref o)]) hx hb dL_get_27 rfl hl (by decide) rfl (fun ls hl => ?_)
      refine lv_bipush (v := 6) hx hb dL_get_28 (by decide) ?_
      refine W.widen (k := 3) (n := 18) (Nat.le_of_ble_eq_true rfl) (Nat.le_of_ble_eq_true rfl) ?_
      exact gr_i (w := (fun z : gS × (Nat → Int64) => wO o cO z.2 ++ wX ad ca K z.1)) (u := (u9, f)) hx hb hr hlocks h hP hK hD hS dL_get_30
  · refine lv_i2l (v := r1.toInt64) hx hb dL_get_7 rfl ?_
    refine va_last hx hb hK hP hD hS 0 3 rfl rfl (by unfold vp_in; decide) dL_get_8 (fun H locs hP hD hS => ?_)
    have hP : va_P (dC, dI) vwCl (wO o cO (vp_updL f (0 : Int32).toNatClampNeg r1.toInt64) ++ wX ad ca K u1) H := hP
    have hD : va_D A (wO o cO (vp_updL f (0 : Int32).toNatClampNeg r1.toInt64) ++ wX ad ca K u1) := hD
    refine lv_goto (tgt := 31) hx hb dL_get_9 (by decide) ?_
    refine lv_iconst (v := 0) hx hb dL_get_31 (by decide) ?_
    refine W.widen (k := 3) (n := 18) (Nat.le_of_ble_eq_true rfl) (Nat.le_of_ble_eq_true rfl) ?_
    exact gr_i (w := (fun z : gS × (Nat → Int64) => wO o cO z.2 ++ wX ad ca K z.1)) (u := (u1, vp_updL f (0 : Int32).toNatClampNeg r1.toInt64)) hx hb hr hlocks h hP hK hD hS dL_get_32

theorem dL_clock_0 : decode method_9_code 0 = .ok (.aload 6, 2) := by decide +kernel
theorem dL_clock_2 : decode method_9_code 2 = .ok (.iconst 0, 1) := by decide +kernel
theorem dL_clock_3 : decode method_9_code 3 = .ok (.aload_n 0, 1) := by decide +kernel
theorem dL_clock_4 : decode method_9_code 4 = .ok (.iload_n 1, 1) := by decide +kernel
theorem dL_clock_5 : decode method_9_code 5 = .ok (.dload_n 2, 1) := by decide +kernel
theorem dL_clock_6 : decode method_9_code 6 = .ok (.dload 4, 2) := by decide +kernel
theorem dL_clock_8 : decode method_9_code 8 = .ok (.invokevirtual 43, 3) := by decide +kernel
theorem dL_clock_11 : decode method_9_code 11 = .ok (.i2l, 1) := by decide +kernel
theorem dL_clock_12 : decode method_9_code 12 = .ok (.lastore, 1) := by decide +kernel
theorem dL_clock_13 : decode method_9_code 13 = .ok (.goto 15, 3) := by decide +kernel
theorem dL_clock_16 : decode method_9_code 16 = .ok (.astore 7, 2) := by decide +kernel
theorem dL_clock_18 : decode method_9_code 18 = .ok (.iconst 1, 1) := by decide +kernel
theorem dL_clock_19 : decode method_9_code 19 = .ok (.ireturn, 1) := by decide +kernel
theorem dL_clock_20 : decode method_9_code 20 = .ok (.astore 7, 2) := by decide +kernel
theorem dL_clock_22 : decode method_9_code 22 = .ok (.iconst 2, 1) := by decide +kernel
theorem dL_clock_23 : decode method_9_code 23 = .ok (.ireturn, 1) := by decide +kernel
theorem dL_clock_24 : decode method_9_code 24 = .ok (.astore 7, 2) := by decide +kernel
theorem dL_clock_26 : decode method_9_code 26 = .ok (.iconst 3, 1) := by decide +kernel
theorem dL_clock_27 : decode method_9_code 27 = .ok (.ireturn, 1) := by decide +kernel
theorem dL_clock_28 : decode method_9_code 28 = .ok (.iconst 0, 1) := by decide +kernel
theorem dL_clock_29 : decode method_9_code 29 = .ok (.ireturn, 1) := by decide +kernel
def wpL_clock (K : KX) (post : Int32 → gS × (Nat → Int64) → Prop) (u : gS) (f : Nat → Int64) (p1 : Int32) (p2 : UInt64) (p3 : UInt64) : Prop :=
  wpX0_clock K (fun (r : Int32) (u1 : gS) => post 0 (u1, vp_updL f (0 : Int32).toNatClampNeg r.toInt64)) (fun (E : String) (u1 : gS) => (E = "java/lang/IllegalArgumentException" ∧ post 1 (u1, f)) ∨ (E = "java/util/NoSuchElementException" ∧ post 2 (u1, f)) ∨ (E = "java/lang/IllegalStateException" ∧ post 3 (u1, f))) u p1 p2 p3
set_option maxHeartbeats 8000000 in
set_option maxRecDepth 100000 in
theorem cL_clock (l : Launch) (hl9 : l.stackTraces = false) (dC : Nat → ClassId) (dI : Nat → Nat → Nat) (ad : Nat → Nat) (ca : Nat → ClassId) (K : KX) (o : Nat) (cO : ClassId) (sz : Nat) (u : gS) (f : Nat → Int64) (p1 : Int32) (p2 : UInt64) (p3 : UInt64) (post : Int32 → gS × (Nat → Int64) → Prop) (h : wpL_clock K post u f p1 p2 p3) : Met l ⟨"WorkHallLaw", "clock", "(LWorkHall;IDD[J)I"⟩ (gwH ⟨"WorkHallLaw", "clock", "(LWorkHall;IDD[J)I"⟩ method_9_code 8 (some .int) [(0, 13, 16, 13), (0, 13, 20, 21), (0, 13, 24, 15)]) ({ frames := 10, cells := 5, slots := 30, locals := 400 } : Room) (va_Pc [.ref (ad 0), .int p1, .double p2, .double p3, .ref o] (gB (dC, dI) vwCl (lT ca cO) lE (wO o cO f ++ wX ad ca K u) sz)) (va_Qi post (gAt (dC, dI) vwCl (lT ca cO) (fun z : gS × (Nat → Int64) => wO o cO z.2 ++ wX ad ca K z.1) (va_A (wO o cO f ++ wX ad ca K u) sz)) (va_A (wO o cO f ++ wX ad ca K u) sz)) 5 30 (va_A (wO o cO f ++ wX ad ca K u) sz) := by
  refine gl_ofWH (cc := method_9_code) (maxL := 8) (ret := (some .int)) (hh := [(0, 13, 16, 13), (0, 13, 20, 21), (0, 13, 24, 15)]) (by decide) rfl ?_
  intro p e s m args below meth c s₁ B hml hv
  obtain ⟨rfl, hsz, hP, hK, hD0, hE⟩ := hv
  have hx := B.exec
  have hb := B.bytes
  have hr := B.returns
  have hts0 := atoms_spec (ws := (gwH ⟨"WorkHallLaw", "clock", "(LWorkHall;IDD[J)I"⟩ method_9_code 8 (some .int) [(0, 13, 16, 13), (0, 13, 20, 21), (0, 13, 24, 15)])) B.pre
  have htab := vx_table (x := ⟨"WorkHallLaw", "clock", "(LWorkHall;IDD[J)I"⟩) B (hts0 _ List.mem_cons_self)
  have hts : ∀ w ∈ gW, w.before _ s = true := fun w h9 => hts0 w (List.mem_cons_of_mem _ h9)
  have hown : s.vm.findClass RL = some m.cls := findClass_of_methodNamed B.named
  have hlocks := B.notSynchronized
  subst hsz
  have hD := hD0.self (sz := s.heap.size)
  generalize hAe : va_A (wO o cO f ++ wX ad ca K u) s.heap.size = A at hD hE ⊢
  have hA : ∀ q : Nat, s.heap.size ≤ q → A q := fun q h => by rw [← hAe]; exact Or.inr h
  obtain ⟨H, hHe⟩ : ∃ z : Heap, z = s.heap := ⟨_, rfl⟩
  rw [← hHe]
  have hS : va_S A s.heap H [] := by rw [hHe]; exact va_S.rf
  have hP : va_P (dC, dI) vwCl (wO o cO f ++ wX ad ca K u) H := by rw [hHe]; exact hP
  have hl := lv_entry ([.ref (ad 0), .int p1, .double p2, .double p3, .ref o]) (n := 8) (Nat.le_of_ble_eq_true rfl)
  rw [lg_entry_eq]
  generalize (lg_sl ([.ref (ad 0), .int p1, .double p2, .double p3, .ref o]) ++ List.replicate (8 - (lg_sl ([.ref (ad 0), .int p1, .double p2, .double p3, .ref o])).length) Slot.unset).toArray = ls at hl ⊢
  have hl : lv_has ls 8 [(0, .ref (ad 0)), (1, .int p1), (2, .double p2), (4, .double p3), (6, .ref o)] := hl
  clear hAe
  refine lv_aload hx hb dL_clock_0 (lv_at hl 4 rfl) ?_
  refine lv_iconst (v := 0) hx hb dL_clock_2 (by decide) ?_
  refine lv_aload_n hx hb dL_clock_3 rfl (lv_at hl 0 rfl) ?_
  refine lv_iload_n hx hb dL_clock_4 rfl (lv_at hl 1 rfl) ?_
  refine lv_dload_n hx hb dL_clock_5 rfl (lv_at hl 2 rfl) ?_
  refine lv_dload hx hb dL_clock_6 (lv_at hl 3 rfl) ?_
  have hPx := gP_r hP
  have hDx := gD_r hD
  have hKx : va_K (dC, dI) vwCl (xT ca) s := hK.sub [0, 1, 2] rfl
  refine gxl_i (w := wX ad ca K) (w0 := wX ad ca K u) (wr := wO o cO f) (vx_runV (As := [.int p1, .double p2, .double p3]) (rest := [.int 0, .ref o]) ⟨hx, hb, hml, hown, hts⟩ (cX0_clock l hl9 dC dI ad ca K H.size u p1 p2 p3 _ _ h) (cwV 3 hts (gG_V wd_593 wd_594 wd_595 wd_46 wd_596) rfl rfl rfl (by decide +kernel) ⟨(Nat.le_of_ble_eq_true rfl), (Nat.le_of_ble_eq_true rfl)⟩) ⟨gB_blind xE_ok, va_recv hKx hPx (ci := 0) (q0 := 0) rfl rfl, gB_pre xE_ok hPx hKx hDx hE.1 hS hA⟩ rfl rfl hl.1 rfl (lv_room (Nat.le_of_ble_eq_true rfl)) dL_clock_8 ⟨(Nat.le_of_ble_eq_true rfl), (Nat.le_of_ble_eq_true rfl)⟩) hP hD hS hA (fun E9 ce9 q9 u9 H locs h hP hD hS hce hcv hcl => ?_) (fun r1 u1 H locs h hP hD hS => ?_)
  · rcases h with ⟨rfl, h⟩ | ⟨rfl, h⟩ | ⟨rfl, h⟩
    · refine vx_catch hown [] ⟨0, 13, 16, 13⟩ [⟨0, 13, 20, 21⟩, ⟨0, 13, 24, 15⟩] (by rw [htab]; rfl) (fun _ h9 => nomatch h9) (by decide) (by decide) (hts _ wd_215) (va_tabs rfl rfl (xE_face hE.1 (.castable "java/lang/IllegalArgumentException" "java/lang/IllegalArgumentException") (by decide +kernel))) hce hcv hcl ?_
      refine lv_astore (lv' := [(7, .ref q9), (0, .ref (ad 0)), (1, .int p1), (2, .double p2), (4, .double p3), (6, .ref o)]) hx hb dL_clock_16 hl (by decide) rfl (fun ls hl => ?_)
      refine lv_iconst (v := 1) hx hb dL_clock_18 (by decide) ?_
      refine W.widen (k := 5) (n := 30) (Nat.le_of_ble_eq_true rfl) (Nat.le_of_ble_eq_true rfl) ?_
      exact gr_i (w := (fun z : gS × (Nat → Int64) => wO o cO z.2 ++ wX ad ca K z.1)) (u := (u9, f)) hx hb hr hlocks h hP hK hD hS dL_clock_19
    · refine vx_catch hown [⟨0, 13, 16, 13⟩] ⟨0, 13, 20, 21⟩ [⟨0, 13, 24, 15⟩] (by rw [htab]; rfl) (List.forall_mem_cons.mpr ⟨Or.inr ⟨by decide, "java/lang/IllegalArgumentException", hts _ wd_215, hE.2 ("java/util/NoSuchElementException", "java/lang/IllegalArgumentException") (by decide +kernel)⟩, (fun _ h9 => nomatch h9)⟩) (by decide) (by decide) (hts _ wd_358) (va_tabs rfl rfl (xE_face hE.1 (.castable "java/util/NoSuchElementException" "java/util/NoSuchElementException") (by decide +kernel))) hce hcv hcl ?_
      refine lv_astore (lv' := [(7, .ref q9), (0, .ref (ad 0)), (1, .int p1), (2, .double p2), (4, .double p3), (6, .ref o)]) hx hb dL_clock_20 hl (by decide) rfl (fun ls hl => ?_)
      refine lv_iconst (v := 2) hx hb dL_clock_22 (by decide) ?_
      refine W.widen (k := 5) (n := 30) (Nat.le_of_ble_eq_true rfl) (Nat.le_of_ble_eq_true rfl) ?_
      exact gr_i (w := (fun z : gS × (Nat → Int64) => wO o cO z.2 ++ wX ad ca K z.1)) (u := (u9, f)) hx hb hr hlocks h hP hK hD hS dL_clock_23
    · refine vx_catch hown [⟨0, 13, 16, 13⟩, ⟨0, 13, 20, 21⟩] ⟨0, 13, 24, 15⟩ [] (by rw [htab]; rfl) (List.forall_mem_cons.mpr ⟨Or.inr ⟨by decide, "java/lang/IllegalArgumentException", hts _ wd_215, hE.2 ("java/lang/IllegalStateException", "java/lang/IllegalArgumentException") (by decide +kernel)⟩, (List.forall_mem_cons.mpr ⟨Or.inr ⟨by decide, "java/util/NoSuchElementException", hts _ wd_358, hE.2 ("java/lang/IllegalStateException", "java/util/NoSuchElementException") (by decide +kernel)⟩, (fun _ h9 => nomatch h9)⟩)⟩) (by decide) (by decide) (hts _ wd_216) (va_tabs rfl rfl (xE_face hE.1 (.castable "java/lang/IllegalStateException" "java/lang/IllegalStateException") (by decide +kernel))) hce hcv hcl ?_
      refine lv_astore (lv' := [(7, .ref q9), (0, .ref (ad 0)), (1, .int p1), (2, .double p2), (4, .double p3), (6, .ref o)]) hx hb dL_clock_24 hl (by decide) rfl (fun ls hl => ?_)
      refine lv_iconst (v := 3) hx hb dL_clock_26 (by decide) ?_
      refine W.widen (k := 5) (n := 30) (Nat.le_of_ble_eq_true rfl) (Nat.le_of_ble_eq_true rfl) ?_
      exact gr_i (w := (fun z : gS × (Nat → Int64) => wO o cO z.2 ++ wX ad ca K z.1)) (u := (u9, f)) hx hb hr hlocks h hP hK hD hS dL_clock_27
  · refine lv_i2l (v := r1.toInt64) hx hb dL_clock_11 rfl ?_
    refine va_last hx hb hK hP hD hS 0 3 rfl rfl (by unfold vp_in; decide) dL_clock_12 (fun H locs hP hD hS => ?_)
    have hP : va_P (dC, dI) vwCl (wO o cO (vp_updL f (0 : Int32).toNatClampNeg r1.toInt64) ++ wX ad ca K u1) H := hP
    have hD : va_D A (wO o cO (vp_updL f (0 : Int32).toNatClampNeg r1.toInt64) ++ wX ad ca K u1) := hD
    refine lv_goto (tgt := 28) hx hb dL_clock_13 (by decide) ?_
    refine lv_iconst (v := 0) hx hb dL_clock_28 (by decide) ?_
    refine W.widen (k := 5) (n := 30) (Nat.le_of_ble_eq_true rfl) (Nat.le_of_ble_eq_true rfl) ?_
    exact gr_i (w := (fun z : gS × (Nat → Int64) => wO o cO z.2 ++ wX ad ca K z.1)) (u := (u1, vp_updL f (0 : Int32).toNatClampNeg r1.toInt64)) hx hb hr hlocks h hP hK hD hS dL_clock_29

theorem dL_tick_0 : decode method_10_code 0 = .ok (.aload_n 3, 1) := by decide +kernel
theorem dL_tick_1 : decode method_10_code 1 = .ok (.iconst 0, 1) := by decide +kernel
theorem dL_tick_2 : decode method_10_code 2 = .ok (.aload_n 0, 1) := by decide +kernel
theorem dL_tick_3 : decode method_10_code 3 = .ok (.dload_n 1, 1) := by decide +kernel
theorem dL_tick_4 : decode method_10_code 4 = .ok (.invokevirtual 47, 3) := by decide +kernel
theorem dL_tick_7 : decode method_10_code 7 = .ok (.i2l, 1) := by decide +kernel
theorem dL_tick_8 : decode method_10_code 8 = .ok (.lastore, 1) := by decide +kernel
theorem dL_tick_9 : decode method_10_code 9 = .ok (.goto 7, 3) := by decide +kernel
theorem dL_tick_12 : decode method_10_code 12 = .ok (.astore 4, 2) := by decide +kernel
theorem dL_tick_14 : decode method_10_code 14 = .ok (.iconst 1, 1) := by decide +kernel
theorem dL_tick_15 : decode method_10_code 15 = .ok (.ireturn, 1) := by decide +kernel
theorem dL_tick_16 : decode method_10_code 16 = .ok (.iconst 0, 1) := by decide +kernel
theorem dL_tick_17 : decode method_10_code 17 = .ok (.ireturn, 1) := by decide +kernel
def wpL_tick (K : KX) (post : Int32 → gS × (Nat → Int64) → Prop) (u : gS) (f : Nat → Int64) (p1 : UInt64) : Prop :=
  wpX0_tick K (fun (r : Int32) (u1 : gS) => post 0 (u1, vp_updL f (0 : Int32).toNatClampNeg r.toInt64)) (fun (E : String) (u1 : gS) => (E = "java/lang/IllegalArgumentException" ∧ post 1 (u1, f))) u p1
set_option maxHeartbeats 8000000 in
set_option maxRecDepth 100000 in
theorem cL_tick (l : Launch) (hl9 : l.stackTraces = false) (dC : Nat → ClassId) (dI : Nat → Nat → Nat) (ad : Nat → Nat) (ca : Nat → ClassId) (K : KX) (o : Nat) (cO : ClassId) (sz : Nat) (u : gS) (f : Nat → Int64) (p1 : UInt64) (post : Int32 → gS × (Nat → Int64) → Prop) (h : wpL_tick K post u f p1) : Met l ⟨"WorkHallLaw", "tick", "(LWorkHall;D[J)I"⟩ (gwH ⟨"WorkHallLaw", "tick", "(LWorkHall;D[J)I"⟩ method_10_code 5 (some .int) [(0, 9, 12, 13)]) ({ frames := 111, cells := 1, slots := 6, locals := 4440 } : Room) (va_Pc [.ref (ad 0), .double p1, .ref o] (gB (dC, dI) vwCl (lT ca cO) lE (wO o cO f ++ wX ad ca K u) sz)) (va_Qi post (gAt (dC, dI) vwCl (lT ca cO) (fun z : gS × (Nat → Int64) => wO o cO z.2 ++ wX ad ca K z.1) (va_A (wO o cO f ++ wX ad ca K u) sz)) (va_A (wO o cO f ++ wX ad ca K u) sz)) 1 6 (va_A (wO o cO f ++ wX ad ca K u) sz) := by
  refine gl_ofWH (cc := method_10_code) (maxL := 5) (ret := (some .int)) (hh := [(0, 9, 12, 13)]) (by decide) rfl ?_
  intro p e s m args below meth c s₁ B hml hv
  obtain ⟨rfl, hsz, hP, hK, hD0, hE⟩ := hv
  have hx := B.exec
  have hb := B.bytes
  have hr := B.returns
  have hts0 := atoms_spec (ws := (gwH ⟨"WorkHallLaw", "tick", "(LWorkHall;D[J)I"⟩ method_10_code 5 (some .int) [(0, 9, 12, 13)])) B.pre
  have htab := vx_table (x := ⟨"WorkHallLaw", "tick", "(LWorkHall;D[J)I"⟩) B (hts0 _ List.mem_cons_self)
  have hts : ∀ w ∈ gW, w.before _ s = true := fun w h9 => hts0 w (List.mem_cons_of_mem _ h9)
  have hown : s.vm.findClass RL = some m.cls := findClass_of_methodNamed B.named
  have hlocks := B.notSynchronized
  subst hsz
  have hD := hD0.self (sz := s.heap.size)
  generalize hAe : va_A (wO o cO f ++ wX ad ca K u) s.heap.size = A at hD hE ⊢
  have hA : ∀ q : Nat, s.heap.size ≤ q → A q := fun q h => by rw [← hAe]; exact Or.inr h
  obtain ⟨H, hHe⟩ : ∃ z : Heap, z = s.heap := ⟨_, rfl⟩
  rw [← hHe]
  have hS : va_S A s.heap H [] := by rw [hHe]; exact va_S.rf
  have hP : va_P (dC, dI) vwCl (wO o cO f ++ wX ad ca K u) H := by rw [hHe]; exact hP
  have hl := lv_entry ([.ref (ad 0), .double p1, .ref o]) (n := 5) (Nat.le_of_ble_eq_true rfl)
  rw [lg_entry_eq]
  generalize (lg_sl ([.ref (ad 0), .double p1, .ref o]) ++ List.replicate (5 - (lg_sl ([.ref (ad 0), .double p1, .ref o])).length) Slot.unset).toArray = ls at hl ⊢
  have hl : lv_has ls 5 [(0, .ref (ad 0)), (1, .double p1), (3, .ref o)] := hl
  clear hAe
  refine lv_aload_n hx hb dL_tick_0 rfl (lv_at hl 2 rfl) ?_
  refine lv_iconst (v := 0) hx hb dL_tick_1 (by decide) ?_
  refine lv_aload_n hx hb dL_tick_2 rfl (lv_at hl 0 rfl) ?_
  refine lv_dload_n hx hb dL_tick_3 rfl (lv_at hl 1 rfl) ?_
  have hPx := gP_r hP
  have hDx := gD_r hD
  have hKx : va_K (dC, dI) vwCl (xT ca) s := hK.sub [0, 1, 2] rfl
  refine gxl_i (w := wX ad ca K) (w0 := wX ad ca K u) (wr := wO o cO f) (vx_runV (As := [.double p1]) (rest := [.int 0, .ref o]) ⟨hx, hb, hml, hown, hts⟩ (cX0_tick l hl9 dC dI ad ca K H.size u p1 _ _ h) (cwV 1 hts (gG_V wd_608 wd_609 wd_610 wd_46 wd_611) rfl rfl rfl (by decide +kernel) ⟨(Nat.le_of_ble_eq_true rfl), (Nat.le_of_ble_eq_true rfl)⟩) ⟨gB_blind xE_ok, va_recv hKx hPx (ci := 0) (q0 := 0) rfl rfl, gB_pre xE_ok hPx hKx hDx hE.1 hS hA⟩ rfl rfl hl.1 rfl (lv_room (Nat.le_of_ble_eq_true rfl)) dL_tick_4 ⟨(Nat.le_of_ble_eq_true rfl), (Nat.le_of_ble_eq_true rfl)⟩) hP hD hS hA (fun E9 ce9 q9 u9 H locs h hP hD hS hce hcv hcl => ?_) (fun r1 u1 H locs h hP hD hS => ?_)
  · obtain ⟨rfl, h⟩ := h
    refine vx_catch hown [] ⟨0, 9, 12, 13⟩ [] (by rw [htab]; rfl) (fun _ h9 => nomatch h9) (by decide) (by decide) (hts _ wd_215) (va_tabs rfl rfl (xE_face hE.1 (.castable "java/lang/IllegalArgumentException" "java/lang/IllegalArgumentException") (by decide +kernel))) hce hcv hcl ?_
    refine lv_astore (lv' := [(4, .ref q9), (0, .ref (ad 0)), (1, .double p1), (3, .ref o)]) hx hb dL_tick_12 hl (by decide) rfl (fun ls hl => ?_)
    refine lv_iconst (v := 1) hx hb dL_tick_14 (by decide) ?_
    refine W.widen (k := 1) (n := 6) (Nat.le_of_ble_eq_true rfl) (Nat.le_of_ble_eq_true rfl) ?_
    exact gr_i (w := (fun z : gS × (Nat → Int64) => wO o cO z.2 ++ wX ad ca K z.1)) (u := (u9, f)) hx hb hr hlocks h hP hK hD hS dL_tick_15
  · refine lv_i2l (v := r1.toInt64) hx hb dL_tick_7 rfl ?_
    refine va_last hx hb hK hP hD hS 0 3 rfl rfl (by unfold vp_in; decide) dL_tick_8 (fun H locs hP hD hS => ?_)
    have hP : va_P (dC, dI) vwCl (wO o cO (vp_updL f (0 : Int32).toNatClampNeg r1.toInt64) ++ wX ad ca K u1) H := hP
    have hD : va_D A (wO o cO (vp_updL f (0 : Int32).toNatClampNeg r1.toInt64) ++ wX ad ca K u1) := hD
    refine lv_goto (tgt := 16) hx hb dL_tick_9 (by decide) ?_
    refine lv_iconst (v := 0) hx hb dL_tick_16 (by decide) ?_
    refine W.widen (k := 1) (n := 6) (Nat.le_of_ble_eq_true rfl) (Nat.le_of_ble_eq_true rfl) ?_
    exact gr_i (w := (fun z : gS × (Nat → Int64) => wO o cO z.2 ++ wX ad ca K z.1)) (u := (u1, vp_updL f (0 : Int32).toNatClampNeg r1.toInt64)) hx hb hr hlocks h hP hK hD hS dL_tick_17

theorem dL_shut_0 : decode method_11_code 0 = .ok (.aload_n 2, 1) := by decide +kernel
theorem dL_shut_1 : decode method_11_code 1 = .ok (.iconst 0, 1) := by decide +kernel
theorem dL_shut_2 : decode method_11_code 2 = .ok (.aload_n 0, 1) := by decide +kernel
theorem dL_shut_3 : decode method_11_code 3 = .ok (.iload_n 1, 1) := by decide +kernel
theorem dL_shut_4 : decode method_11_code 4 = .ok (.invokevirtual 51, 3) := by decide +kernel
theorem dL_shut_7 : decode method_11_code 7 = .ok (.i2l, 1) := by decide +kernel
theorem dL_shut_8 : decode method_11_code 8 = .ok (.lastore, 1) := by decide +kernel
theorem dL_shut_9 : decode method_11_code 9 = .ok (.goto 6, 3) := by decide +kernel
theorem dL_shut_12 : decode method_11_code 12 = .ok (.astore_n 3, 1) := by decide +kernel
theorem dL_shut_13 : decode method_11_code 13 = .ok (.iconst 1, 1) := by decide +kernel
theorem dL_shut_14 : decode method_11_code 14 = .ok (.ireturn, 1) := by decide +kernel
theorem dL_shut_15 : decode method_11_code 15 = .ok (.iconst 0, 1) := by decide +kernel
theorem dL_shut_16 : decode method_11_code 16 = .ok (.ireturn, 1) := by decide +kernel
def wpL_shut (K : KX) (post : Int32 → gS × (Nat → Int64) → Prop) (u : gS) (f : Nat → Int64) (p1 : Int32) : Prop :=
  wpX0_shut K (fun (r : Int32) (u1 : gS) => post 0 (u1, vp_updL f (0 : Int32).toNatClampNeg r.toInt64)) (fun (E : String) (u1 : gS) => (E = "java/lang/IllegalStateException" ∧ post 1 (u1, f))) u p1
set_option maxHeartbeats 8000000 in
set_option maxRecDepth 100000 in
theorem cL_shut (l : Launch) (hl9 : l.stackTraces = false) (dC : Nat → ClassId) (dI : Nat → Nat → Nat) (ad : Nat → Nat) (ca : Nat → ClassId) (K : KX) (o : Nat) (cO : ClassId) (sz : Nat) (u : gS) (f : Nat → Int64) (p1 : Int32) (post : Int32 → gS × (Nat → Int64) → Prop) (h : wpL_shut K post u f p1) : Met l ⟨"WorkHallLaw", "shut", "(LWorkHall;Z[J)I"⟩ (gwH ⟨"WorkHallLaw", "shut", "(LWorkHall;Z[J)I"⟩ method_11_code 4 (some .int) [(0, 9, 12, 15)]) ({ frames := 8, cells := 1, slots := 6, locals := 320 } : Room) (va_Pc [.ref (ad 0), .int p1, .ref o] (gB (dC, dI) vwCl (lT ca cO) lE (wO o cO f ++ wX ad ca K u) sz)) (va_Qi post (gAt (dC, dI) vwCl (lT ca cO) (fun z : gS × (Nat → Int64) => wO o cO z.2 ++ wX ad ca K z.1) (va_A (wO o cO f ++ wX ad ca K u) sz)) (va_A (wO o cO f ++ wX ad ca K u) sz)) 1 6 (va_A (wO o cO f ++ wX ad ca K u) sz) := by
  refine gl_ofWH (cc := method_11_code) (maxL := 4) (ret := (some .int)) (hh := [(0, 9, 12, 15)]) (by decide) rfl ?_
  intro p e s m args below meth c s₁ B hml hv
  obtain ⟨rfl, hsz, hP, hK, hD0, hE⟩ := hv
  have hx := B.exec
  have hb := B.bytes
  have hr := B.returns
  have hts0 := atoms_spec (ws := (gwH ⟨"WorkHallLaw", "shut", "(LWorkHall;Z[J)I"⟩ method_11_code 4 (some .int) [(0, 9, 12, 15)])) B.pre
  have htab := vx_table (x := ⟨"WorkHallLaw", "shut", "(LWorkHall;Z[J)I"⟩) B (hts0 _ List.mem_cons_self)
  have hts : ∀ w ∈ gW, w.before _ s = true := fun w h9 => hts0 w (List.mem_cons_of_mem _ h9)
  have hown : s.vm.findClass RL = some m.cls := findClass_of_methodNamed B.named
  have hlocks := B.notSynchronized
  subst hsz
  have hD := hD0.self (sz := s.heap.size)
  generalize hAe : va_A (wO o cO f ++ wX ad ca K u) s.heap.size = A at hD hE ⊢
  have hA : ∀ q : Nat, s.heap.size ≤ q → A q := fun q h => by rw [← hAe]; exact Or.inr h
  obtain ⟨H, hHe⟩ : ∃ z : Heap, z = s.heap := ⟨_, rfl⟩
  rw [← hHe]
  have hS : va_S A s.heap H [] := by rw [hHe]; exact va_S.rf
  have hP : va_P (dC, dI) vwCl (wO o cO f ++ wX ad ca K u) H := by rw [hHe]; exact hP
  have hl := lv_entry ([.ref (ad 0), .int p1, .ref o]) (n := 4) (Nat.le_of_ble_eq_true rfl)
  rw [lg_entry_eq]
  generalize (lg_sl ([.ref (ad 0), .int p1, .ref o]) ++ List.replicate (4 - (lg_sl ([.ref (ad 0), .int p1, .ref o])).length) Slot.unset).toArray = ls at hl ⊢
  have hl : lv_has ls 4 [(0, .ref (ad 0)), (1, .int p1), (2, .ref o)] := hl
  clear hAe
  refine lv_aload_n hx hb dL_shut_0 rfl (lv_at hl 2 rfl) ?_
  refine lv_iconst (v := 0) hx hb dL_shut_1 (by decide) ?_
  refine lv_aload_n hx hb dL_shut_2 rfl (lv_at hl 0 rfl) ?_
  refine lv_iload_n hx hb dL_shut_3 rfl (lv_at hl 1 rfl) ?_
  have hPx := gP_r hP
  have hDx := gD_r hD
  have hKx : va_K (dC, dI) vwCl (xT ca) s := hK.sub [0, 1, 2] rfl
  refine gxl_i (w := wX ad ca K) (w0 := wX ad ca K u) (wr := wO o cO f) (vx_runV (As := [.int p1]) (rest := [.int 0, .ref o]) ⟨hx, hb, hml, hown, hts⟩ (cX0_shut l hl9 dC dI ad ca K H.size u p1 _ _ h) (cwV 1 hts (gG_V wd_637 wd_638 wd_639 wd_46 wd_640) rfl rfl rfl (by decide +kernel) ⟨(Nat.le_of_ble_eq_true rfl), (Nat.le_of_ble_eq_true rfl)⟩) ⟨gB_blind xE_ok, va_recv hKx hPx (ci := 0) (q0 := 0) rfl rfl, gB_pre xE_ok hPx hKx hDx hE.1 hS hA⟩ rfl rfl hl.1 rfl (lv_room (Nat.le_of_ble_eq_true rfl)) dL_shut_4 ⟨(Nat.le_of_ble_eq_true rfl), (Nat.le_of_ble_eq_true rfl)⟩) hP hD hS hA (fun E9 ce9 q9 u9 H locs h hP hD hS hce hcv hcl => ?_) (fun r1 u1 H locs h hP hD hS => ?_)
  · obtain ⟨rfl, h⟩ := h
    refine vx_catch hown [] ⟨0, 9, 12, 15⟩ [] (by rw [htab]; rfl) (fun _ h9 => nomatch h9) (by decide) (by decide) (hts _ wd_216) (va_tabs rfl rfl (xE_face hE.1 (.castable "java/lang/IllegalStateException" "java/lang/IllegalStateException") (by decide +kernel))) hce hcv hcl ?_
    refine lv_astore_n (lv' := [(3, .ref q9), (0, .ref (ad 0)), (1, .int p1), (2, .ref o)]) hx hb dL_shut_12 rfl hl (by decide) rfl (fun ls hl => ?_)
    refine lv_iconst (v := 1) hx hb dL_shut_13 (by decide) ?_
    refine W.widen (k := 1) (n := 6) (Nat.le_of_ble_eq_true rfl) (Nat.le_of_ble_eq_true rfl) ?_
    exact gr_i (w := (fun z : gS × (Nat → Int64) => wO o cO z.2 ++ wX ad ca K z.1)) (u := (u9, f)) hx hb hr hlocks h hP hK hD hS dL_shut_14
  · refine lv_i2l (v := r1.toInt64) hx hb dL_shut_7 rfl ?_
    refine va_last hx hb hK hP hD hS 0 3 rfl rfl (by unfold vp_in; decide) dL_shut_8 (fun H locs hP hD hS => ?_)
    have hP : va_P (dC, dI) vwCl (wO o cO (vp_updL f (0 : Int32).toNatClampNeg r1.toInt64) ++ wX ad ca K u1) H := hP
    have hD : va_D A (wO o cO (vp_updL f (0 : Int32).toNatClampNeg r1.toInt64) ++ wX ad ca K u1) := hD
    refine lv_goto (tgt := 15) hx hb dL_shut_9 (by decide) ?_
    refine lv_iconst (v := 0) hx hb dL_shut_15 (by decide) ?_
    refine W.widen (k := 1) (n := 6) (Nat.le_of_ble_eq_true rfl) (Nat.le_of_ble_eq_true rfl) ?_
    exact gr_i (w := (fun z : gS × (Nat → Int64) => wO o cO z.2 ++ wX ad ca K z.1)) (u := (u1, vp_updL f (0 : Int32).toNatClampNeg r1.toInt64)) hx hb hr hlocks h hP hK hD hS dL_shut_16

theorem dL_about_0 : decode method_12_code 0 = .ok (.aload_n 3, 1) := by decide +kernel
theorem dL_about_1 : decode method_12_code 1 = .ok (.iconst 0, 1) := by decide +kernel
theorem dL_about_2 : decode method_12_code 2 = .ok (.aload_n 0, 1) := by decide +kernel
theorem dL_about_3 : decode method_12_code 3 = .ok (.iload_n 1, 1) := by decide +kernel
theorem dL_about_4 : decode method_12_code 4 = .ok (.iload_n 2, 1) := by decide +kernel
theorem dL_about_5 : decode method_12_code 5 = .ok (.invokevirtual 55, 3) := by decide +kernel
theorem dL_about_8 : decode method_12_code 8 = .ok (.i2l, 1) := by decide +kernel
theorem dL_about_9 : decode method_12_code 9 = .ok (.lastore, 1) := by decide +kernel
theorem dL_about_10 : decode method_12_code 10 = .ok (.goto 11, 3) := by decide +kernel
theorem dL_about_13 : decode method_12_code 13 = .ok (.astore 4, 2) := by decide +kernel
theorem dL_about_15 : decode method_12_code 15 = .ok (.iconst 1, 1) := by decide +kernel
theorem dL_about_16 : decode method_12_code 16 = .ok (.ireturn, 1) := by decide +kernel
theorem dL_about_17 : decode method_12_code 17 = .ok (.astore 4, 2) := by decide +kernel
theorem dL_about_19 : decode method_12_code 19 = .ok (.iconst 2, 1) := by decide +kernel
theorem dL_about_20 : decode method_12_code 20 = .ok (.ireturn, 1) := by decide +kernel
theorem dL_about_21 : decode method_12_code 21 = .ok (.iconst 0, 1) := by decide +kernel
theorem dL_about_22 : decode method_12_code 22 = .ok (.ireturn, 1) := by decide +kernel
def wpL_about (K : KX) (post : Int32 → gS × (Nat → Int64) → Prop) (u : gS) (f : Nat → Int64) (p1 : Int32) (p2 : Int32) : Prop :=
  wpX0_about K (fun (r : Int32) (u1 : gS) => post 0 (u1, vp_updL f (0 : Int32).toNatClampNeg r.toInt64)) (fun (E : String) (u1 : gS) => (E = "java/lang/IllegalArgumentException" ∧ post 1 (u1, f)) ∨ (E = "java/util/NoSuchElementException" ∧ post 2 (u1, f))) u p1 p2
set_option maxHeartbeats 8000000 in
set_option maxRecDepth 100000 in
theorem cL_about (l : Launch) (hl9 : l.stackTraces = false) (dC : Nat → ClassId) (dI : Nat → Nat → Nat) (ad : Nat → Nat) (ca : Nat → ClassId) (K : KX) (o : Nat) (cO : ClassId) (sz : Nat) (u : gS) (f : Nat → Int64) (p1 : Int32) (p2 : Int32) (post : Int32 → gS × (Nat → Int64) → Prop) (h : wpL_about K post u f p1 p2) : Met l ⟨"WorkHallLaw", "about", "(LWorkHall;II[J)I"⟩ (gwH ⟨"WorkHallLaw", "about", "(LWorkHall;II[J)I"⟩ method_12_code 5 (some .int) [(0, 10, 13, 13), (0, 10, 17, 21)]) ({ frames := 10, cells := 3, slots := 18, locals := 400 } : Room) (va_Pc [.ref (ad 0), .int p1, .int p2, .ref o] (gB (dC, dI) vwCl (lT ca cO) lE (wO o cO f ++ wX ad ca K u) sz)) (va_Qi post (gAt (dC, dI) vwCl (lT ca cO) (fun z : gS × (Nat → Int64) => wO o cO z.2 ++ wX ad ca K z.1) (va_A (wO o cO f ++ wX ad ca K u) sz)) (va_A (wO o cO f ++ wX ad ca K u) sz)) 3 18 (va_A (wO o cO f ++ wX ad ca K u) sz) := by
  refine gl_ofWH (cc := method_12_code) (maxL := 5) (ret := (some .int)) (hh := [(0, 10, 13, 13), (0, 10, 17, 21)]) (by decide) rfl ?_
  intro p e s m args below meth c s₁ B hml hv
  obtain ⟨rfl, hsz, hP, hK, hD0, hE⟩ := hv
  have hx := B.exec
  have hb := B.bytes
  have hr := B.returns
  have hts0 := atoms_spec (ws := (gwH ⟨"WorkHallLaw", "about", "(LWorkHall;II[J)I"⟩ method_12_code 5 (some .int) [(0, 10, 13, 13), (0, 10, 17, 21)])) B.pre
  have htab := vx_table (x := ⟨"WorkHallLaw", "about", "(LWorkHall;II[J)I"⟩) B (hts0 _ List.mem_cons_self)
  have hts : ∀ w ∈ gW, w.before _ s = true := fun w h9 => hts0 w (List.mem_cons_of_mem _ h9)
  have hown : s.vm.findClass RL = some m.cls := findClass_of_methodNamed B.named
  have hlocks := B.notSynchronized
  subst hsz
  have hD := hD0.self (sz := s.heap.size)
  generalize hAe : va_A (wO o cO f ++ wX ad ca K u) s.heap.size = A at hD hE ⊢
  have hA : ∀ q : Nat, s.heap.size ≤ q → A q := fun q h => by rw [← hAe]; exact Or.inr h
  obtain ⟨H, hHe⟩ : ∃ z : Heap, z = s.heap := ⟨_, rfl⟩
  rw [← hHe]
  have hS : va_S A s.heap H [] := by rw [hHe]; exact va_S.rf
  have hP : va_P (dC, dI) vwCl (wO o cO f ++ wX ad ca K u) H := by rw [hHe]; exact hP
  have hl := lv_entry ([.ref (ad 0), .int p1, .int p2, .ref o]) (n := 5) (Nat.le_of_ble_eq_true rfl)
  rw [lg_entry_eq]
  generalize (lg_sl ([.ref (ad 0), .int p1, .int p2, .ref o]) ++ List.replicate (5 - (lg_sl ([.ref (ad 0), .int p1, .int p2, .ref o])).length) Slot.unset).toArray = ls at hl ⊢
  have hl : lv_has ls 5 [(0, .ref (ad 0)), (1, .int p1), (2, .int p2), (3, .ref o)] := hl
  clear hAe
  refine lv_aload_n hx hb dL_about_0 rfl (lv_at hl 3 rfl) ?_
  refine lv_iconst (v := 0) hx hb dL_about_1 (by decide) ?_
  refine lv_aload_n hx hb dL_about_2 rfl (lv_at hl 0 rfl) ?_
  refine lv_iload_n hx hb dL_about_3 rfl (lv_at hl 1 rfl) ?_
  refine lv_iload_n hx hb dL_about_4 rfl (lv_at hl 2 rfl) ?_
  have hPx := gP_r hP
  have hDx := gD_r hD
  have hKx : va_K (dC, dI) vwCl (xT ca) s := hK.sub [0, 1, 2] rfl
  refine gxl_i (w := wX ad ca K) (w0 := wX ad ca K u) (wr := wO o cO f) (vx_runV (As := [.int p1, .int p2]) (rest := [.int 0, .ref o]) ⟨hx, hb, hml, hown, hts⟩ (cX0_about l hl9 dC dI ad ca K H.size u p1 p2 _ _ h) (cwV 2 hts (gG_V wd_654 wd_655 wd_656 wd_46 wd_657) rfl rfl rfl (by decide +kernel) ⟨(Nat.le_of_ble_eq_true rfl), (Nat.le_of_ble_eq_true rfl)⟩) ⟨gB_blind xE_ok, va_recv hKx hPx (ci := 0) (q0 := 0) rfl rfl, gB_pre xE_ok hPx hKx hDx hE.1 hS hA⟩ rfl rfl hl.1 rfl (lv_room (Nat.le_of_ble_eq_true rfl)) dL_about_5 ⟨(Nat.le_of_ble_eq_true rfl), (Nat.le_of_ble_eq_true rfl)⟩) hP hD hS hA (fun E9 ce9 q9 u9 H locs h hP hD hS hce hcv hcl => ?_) (fun r1 u1 H locs h hP hD hS => ?_)
  · rcases h with ⟨rfl, h⟩ | ⟨rfl, h⟩
    · refine vx_catch hown [] ⟨0, 10, 13, 13⟩ [⟨0, 10, 17, 21⟩] (by rw [htab]; rfl) (fun _ h9 => nomatch h9) (by decide) (by decide) (hts _ wd_215) (va_tabs rfl rfl (xE_face hE.1 (.castable "java/lang/IllegalArgumentException" "java/lang/IllegalArgumentException") (by decide +kernel))) hce hcv hcl ?_
      refine lv_astore (lv' := [(4, .ref q9), (0, .ref (ad 0)), (1, .int p1), (2, .int p2), (3, .ref o)]) hx hb dL_about_13 hl (by decide) rfl (fun ls hl => ?_)
      refine lv_iconst (v := 1) hx hb dL_about_15 (by decide) ?_
      refine W.widen (k := 3) (n := 18) (Nat.le_of_ble_eq_true rfl) (Nat.le_of_ble_eq_true rfl) ?_
      exact gr_i (w := (fun z : gS × (Nat → Int64) => wO o cO z.2 ++ wX ad ca K z.1)) (u := (u9, f)) hx hb hr hlocks h hP hK hD hS dL_about_16
    · refine vx_catch hown [⟨0, 10, 13, 13⟩] ⟨0, 10, 17, 21⟩ [] (by rw [htab]; rfl) (List.forall_mem_cons.mpr ⟨Or.inr ⟨by decide, "java/lang/IllegalArgumentException", hts _ wd_215, hE.2 ("java/util/NoSuchElementException", "java/lang/IllegalArgumentException") (by decide +kernel)⟩, (fun _ h9 => nomatch h9)⟩) (by decide) (by decide) (hts _ wd_358) (va_tabs rfl rfl (xE_face hE.1 (.castable "java/util/NoSuchElementException" "java/util/NoSuchElementException") (by decide +kernel))) hce hcv hcl ?_
      refine lv_astore (lv' := [(4, .ref q9), (0, .ref (ad 0)), (1, .int p1), (2, .int p2), (3, .ref o)]) hx hb dL_about_17 hl (by decide) rfl (fun ls hl => ?_)
      refine lv_iconst (v := 2) hx hb dL_about_19 (by decide) ?_
      refine W.widen (k := 3) (n := 18) (Nat.le_of_ble_eq_true rfl) (Nat.le_of_ble_eq_true rfl) ?_
      exact gr_i (w := (fun z : gS × (Nat → Int64) => wO o cO z.2 ++ wX ad ca K z.1)) (u := (u9, f)) hx hb hr hlocks h hP hK hD hS dL_about_20
  · refine lv_i2l (v := r1.toInt64) hx hb dL_about_8 rfl ?_
    refine va_last hx hb hK hP hD hS 0 3 rfl rfl (by unfold vp_in; decide) dL_about_9 (fun H locs hP hD hS => ?_)
    have hP : va_P (dC, dI) vwCl (wO o cO (vp_updL f (0 : Int32).toNatClampNeg r1.toInt64) ++ wX ad ca K u1) H := hP
    have hD : va_D A (wO o cO (vp_updL f (0 : Int32).toNatClampNeg r1.toInt64) ++ wX ad ca K u1) := hD
    refine lv_goto (tgt := 21) hx hb dL_about_10 (by decide) ?_
    refine lv_iconst (v := 0) hx hb dL_about_21 (by decide) ?_
    refine W.widen (k := 3) (n := 18) (Nat.le_of_ble_eq_true rfl) (Nat.le_of_ble_eq_true rfl) ?_
    exact gr_i (w := (fun z : gS × (Nat → Int64) => wO o cO z.2 ++ wX ad ca K z.1)) (u := (u1, vp_updL f (0 : Int32).toNatClampNeg r1.toInt64)) hx hb hr hlocks h hP hK hD hS dL_about_22

theorem dL_worker_0 : decode method_13_code 0 = .ok (.aload_n 2, 1) := by decide +kernel
theorem dL_worker_1 : decode method_13_code 1 = .ok (.iconst 0, 1) := by decide +kernel
theorem dL_worker_2 : decode method_13_code 2 = .ok (.aload_n 0, 1) := by decide +kernel
theorem dL_worker_3 : decode method_13_code 3 = .ok (.iload_n 1, 1) := by decide +kernel
theorem dL_worker_4 : decode method_13_code 4 = .ok (.invokevirtual 58, 3) := by decide +kernel
theorem dL_worker_7 : decode method_13_code 7 = .ok (.i2l, 1) := by decide +kernel
theorem dL_worker_8 : decode method_13_code 8 = .ok (.lastore, 1) := by decide +kernel
theorem dL_worker_9 : decode method_13_code 9 = .ok (.goto 6, 3) := by decide +kernel
theorem dL_worker_12 : decode method_13_code 12 = .ok (.astore_n 3, 1) := by decide +kernel
theorem dL_worker_13 : decode method_13_code 13 = .ok (.iconst 1, 1) := by decide +kernel
theorem dL_worker_14 : decode method_13_code 14 = .ok (.ireturn, 1) := by decide +kernel
theorem dL_worker_15 : decode method_13_code 15 = .ok (.iconst 0, 1) := by decide +kernel
theorem dL_worker_16 : decode method_13_code 16 = .ok (.ireturn, 1) := by decide +kernel
def wpL_worker (K : KX) (post : Int32 → gS × (Nat → Int64) → Prop) (u : gS) (f : Nat → Int64) (p1 : Int32) : Prop :=
  wpX0_worker K (fun (r : Int32) (u1 : gS) => post 0 (u1, vp_updL f (0 : Int32).toNatClampNeg r.toInt64)) (fun (E : String) (u1 : gS) => (E = "java/util/NoSuchElementException" ∧ post 1 (u1, f))) u p1
set_option maxHeartbeats 8000000 in
set_option maxRecDepth 100000 in
theorem cL_worker (l : Launch) (hl9 : l.stackTraces = false) (dC : Nat → ClassId) (dI : Nat → Nat → Nat) (ad : Nat → Nat) (ca : Nat → ClassId) (K : KX) (o : Nat) (cO : ClassId) (sz : Nat) (u : gS) (f : Nat → Int64) (p1 : Int32) (post : Int32 → gS × (Nat → Int64) → Prop) (h : wpL_worker K post u f p1) : Met l ⟨"WorkHallLaw", "worker", "(LWorkHall;I[J)I"⟩ (gwH ⟨"WorkHallLaw", "worker", "(LWorkHall;I[J)I"⟩ method_13_code 4 (some .int) [(0, 9, 12, 21)]) ({ frames := 8, cells := 1, slots := 6, locals := 320 } : Room) (va_Pc [.ref (ad 0), .int p1, .ref o] (gB (dC, dI) vwCl (lT ca cO) lE (wO o cO f ++ wX ad ca K u) sz)) (va_Qi post (gAt (dC, dI) vwCl (lT ca cO) (fun z : gS × (Nat → Int64) => wO o cO z.2 ++ wX ad ca K z.1) (va_A (wO o cO f ++ wX ad ca K u) sz)) (va_A (wO o cO f ++ wX ad ca K u) sz)) 1 6 (va_A (wO o cO f ++ wX ad ca K u) sz) := by
  refine gl_ofWH (cc := method_13_code) (maxL := 4) (ret := (some .int)) (hh := [(0, 9, 12, 21)]) (by decide) rfl ?_
  intro p e s m args below meth c s₁ B hml hv
  obtain ⟨rfl, hsz, hP, hK, hD0, hE⟩ := hv
  have hx := B.exec
  have hb := B.bytes
  have hr := B.returns
  have hts0 := atoms_spec (ws := (gwH ⟨"WorkHallLaw", "worker", "(LWorkHall;I[J)I"⟩ method_13_code 4 (some .int) [(0, 9, 12, 21)])) B.pre
  have htab := vx_table (x := ⟨"WorkHallLaw", "worker", "(LWorkHall;I[J)I"⟩) B (hts0 _ List.mem_cons_self)
  have hts : ∀ w ∈ gW, w.before _ s = true := fun w h9 => hts0 w (List.mem_cons_of_mem _ h9)
  have hown : s.vm.findClass RL = some m.cls := findClass_of_methodNamed B.named
  have hlocks := B.notSynchronized
  subst hsz
  have hD := hD0.self (sz := s.heap.size)
  generalize hAe : va_A (wO o cO f ++ wX ad ca K u) s.heap.size = A at hD hE ⊢
  have hA : ∀ q : Nat, s.heap.size ≤ q → A q := fun q h => by rw [← hAe]; exact Or.inr h
  obtain ⟨H, hHe⟩ : ∃ z : Heap, z = s.heap := ⟨_, rfl⟩
  rw [← hHe]
  have hS : va_S A s.heap H [] := by rw [hHe]; exact va_S.rf
  have hP : va_P (dC, dI) vwCl (wO o cO f ++ wX ad ca K u) H := by rw [hHe]; exact hP
  have hl := lv_entry ([.ref (ad 0), .int p1, .ref o]) (n := 4) (Nat.le_of_ble_eq_true rfl)
  rw [lg_entry_eq]
  generalize (lg_sl ([.ref (ad 0), .int p1, .ref o]) ++ List.replicate (4 - (lg_sl ([.ref (ad 0), .int p1, .ref o])).length) Slot.unset).toArray = ls at hl ⊢
  have hl : lv_has ls 4 [(0, .ref (ad 0)), (1, .int p1), (2, .ref o)] := hl
  clear hAe
  refine lv_aload_n hx hb dL_worker_0 rfl (lv_at hl 2 rfl) ?_
  refine lv_iconst (v := 0) hx hb dL_worker_1 (by decide) ?_
  refine lv_aload_n hx hb dL_worker_2 rfl (lv_at hl 0 rfl) ?_
  refine lv_iload_n hx hb dL_worker_3 rfl (lv_at hl 1 rfl) ?_
  have hPx := gP_r hP
  have hDx := gD_r hD
  have hKx : va_K (dC, dI) vwCl (xT ca) s := hK.sub [0, 1, 2] rfl
  refine gxl_i (w := wX ad ca K) (w0 := wX ad ca K u) (wr := wO o cO f) (vx_runV (As := [.int p1]) (rest := [.int 0, .ref o]) ⟨hx, hb, hml, hown, hts⟩ (cX0_worker l hl9 dC dI ad ca K H.size u p1 _ _ h) (cwV 1 hts (gG_V wd_665 wd_666 wd_667 wd_46 wd_668) rfl rfl rfl (by decide +kernel) ⟨(Nat.le_of_ble_eq_true rfl), (Nat.le_of_ble_eq_true rfl)⟩) ⟨gB_blind xE_ok, va_recv hKx hPx (ci := 0) (q0 := 0) rfl rfl, gB_pre xE_ok hPx hKx hDx hE.1 hS hA⟩ rfl rfl hl.1 rfl (lv_room (Nat.le_of_ble_eq_true rfl)) dL_worker_4 ⟨(Nat.le_of_ble_eq_true rfl), (Nat.le_of_ble_eq_true rfl)⟩) hP hD hS hA (fun E9 ce9 q9 u9 H locs h hP hD hS hce hcv hcl => ?_) (fun r1 u1 H locs h hP hD hS => ?_)
  · obtain ⟨rfl, h⟩ := h
    refine vx_catch hown [] ⟨0, 9, 12, 21⟩ [] (by rw [htab]; rfl) (fun _ h9 => nomatch h9) (by decide) (by decide) (hts _ wd_358) (va_tabs rfl rfl (xE_face hE.1 (.castable "java/util/NoSuchElementException" "java/util/NoSuchElementException") (by decide +kernel))) hce hcv hcl ?_
    refine lv_astore_n (lv' := [(3, .ref q9), (0, .ref (ad 0)), (1, .int p1), (2, .ref o)]) hx hb dL_worker_12 rfl hl (by decide) rfl (fun ls hl => ?_)
    refine lv_iconst (v := 1) hx hb dL_worker_13 (by decide) ?_
    refine W.widen (k := 1) (n := 6) (Nat.le_of_ble_eq_true rfl) (Nat.le_of_ble_eq_true rfl) ?_
    exact gr_i (w := (fun z : gS × (Nat → Int64) => wO o cO z.2 ++ wX ad ca K z.1)) (u := (u9, f)) hx hb hr hlocks h hP hK hD hS dL_worker_14
  · refine lv_i2l (v := r1.toInt64) hx hb dL_worker_7 rfl ?_
    refine va_last hx hb hK hP hD hS 0 3 rfl rfl (by unfold vp_in; decide) dL_worker_8 (fun H locs hP hD hS => ?_)
    have hP : va_P (dC, dI) vwCl (wO o cO (vp_updL f (0 : Int32).toNatClampNeg r1.toInt64) ++ wX ad ca K u1) H := hP
    have hD : va_D A (wO o cO (vp_updL f (0 : Int32).toNatClampNeg r1.toInt64) ++ wX ad ca K u1) := hD
    refine lv_goto (tgt := 15) hx hb dL_worker_9 (by decide) ?_
    refine lv_iconst (v := 0) hx hb dL_worker_15 (by decide) ?_
    refine W.widen (k := 1) (n := 6) (Nat.le_of_ble_eq_true rfl) (Nat.le_of_ble_eq_true rfl) ?_
    exact gr_i (w := (fun z : gS × (Nat → Int64) => wO o cO z.2 ++ wX ad ca K z.1)) (u := (u1, vp_updL f (0 : Int32).toNatClampNeg r1.toInt64)) hx hb hr hlocks h hP hK hD hS dL_worker_16

theorem dL_count_0 : decode method_14_code 0 = .ok (.aload_n 2, 1) := by decide +kernel
theorem dL_count_1 : decode method_14_code 1 = .ok (.iconst 0, 1) := by decide +kernel
theorem dL_count_2 : decode method_14_code 2 = .ok (.aload_n 0, 1) := by decide +kernel
theorem dL_count_3 : decode method_14_code 3 = .ok (.iload_n 1, 1) := by decide +kernel
theorem dL_count_4 : decode method_14_code 4 = .ok (.invokevirtual 61, 3) := by decide +kernel
theorem dL_count_7 : decode method_14_code 7 = .ok (.i2l, 1) := by decide +kernel
theorem dL_count_8 : decode method_14_code 8 = .ok (.lastore, 1) := by decide +kernel
theorem dL_count_9 : decode method_14_code 9 = .ok (.goto 6, 3) := by decide +kernel
theorem dL_count_12 : decode method_14_code 12 = .ok (.astore_n 3, 1) := by decide +kernel
theorem dL_count_13 : decode method_14_code 13 = .ok (.iconst 1, 1) := by decide +kernel
theorem dL_count_14 : decode method_14_code 14 = .ok (.ireturn, 1) := by decide +kernel
theorem dL_count_15 : decode method_14_code 15 = .ok (.iconst 0, 1) := by decide +kernel
theorem dL_count_16 : decode method_14_code 16 = .ok (.ireturn, 1) := by decide +kernel
def wpL_count (K : KX) (post : Int32 → gS × (Nat → Int64) → Prop) (u : gS) (f : Nat → Int64) (p1 : Int32) : Prop :=
  wpX0_count K (fun (r : Int32) (u1 : gS) => post 0 (u1, vp_updL f (0 : Int32).toNatClampNeg r.toInt64)) (fun (E : String) (u1 : gS) => (E = "java/lang/IllegalArgumentException" ∧ post 1 (u1, f))) u p1
set_option maxHeartbeats 8000000 in
set_option maxRecDepth 100000 in
theorem cL_count (l : Launch) (hl9 : l.stackTraces = false) (dC : Nat → ClassId) (dI : Nat → Nat → Nat) (ad : Nat → Nat) (ca : Nat → ClassId) (K : KX) (o : Nat) (cO : ClassId) (sz : Nat) (u : gS) (f : Nat → Int64) (p1 : Int32) (post : Int32 → gS × (Nat → Int64) → Prop) (h : wpL_count K post u f p1) : Met l ⟨"WorkHallLaw", "count", "(LWorkHall;I[J)I"⟩ (gwH ⟨"WorkHallLaw", "count", "(LWorkHall;I[J)I"⟩ method_14_code 4 (some .int) [(0, 9, 12, 13)]) ({ frames := 9, cells := 1, slots := 6, locals := 360 } : Room) (va_Pc [.ref (ad 0), .int p1, .ref o] (gB (dC, dI) vwCl (lT ca cO) lE (wO o cO f ++ wX ad ca K u) sz)) (va_Qi post (gAt (dC, dI) vwCl (lT ca cO) (fun z : gS × (Nat → Int64) => wO o cO z.2 ++ wX ad ca K z.1) (va_A (wO o cO f ++ wX ad ca K u) sz)) (va_A (wO o cO f ++ wX ad ca K u) sz)) 1 6 (va_A (wO o cO f ++ wX ad ca K u) sz) := by
  refine gl_ofWH (cc := method_14_code) (maxL := 4) (ret := (some .int)) (hh := [(0, 9, 12, 13)]) (by decide) rfl ?_
  intro p e s m args below meth c s₁ B hml hv
  obtain ⟨rfl, hsz, hP, hK, hD0, hE⟩ := hv
  have hx := B.exec
  have hb := B.bytes
  have hr := B.returns
  have hts0 := atoms_spec (ws := (gwH ⟨"WorkHallLaw", "count", "(LWorkHall;I[J)I"⟩ method_14_code 4 (some .int) [(0, 9, 12, 13)])) B.pre
  have htab := vx_table (x := ⟨"WorkHallLaw", "count", "(LWorkHall;I[J)I"⟩) B (hts0 _ List.mem_cons_self)
  have hts : ∀ w ∈ gW, w.before _ s = true := fun w h9 => hts0 w (List.mem_cons_of_mem _ h9)
  have hown : s.vm.findClass RL = some m.cls := findClass_of_methodNamed B.named
  have hlocks := B.notSynchronized
  subst hsz
  have hD := hD0.self (sz := s.heap.size)
  generalize hAe : va_A (wO o cO f ++ wX ad ca K u) s.heap.size = A at hD hE ⊢
  have hA : ∀ q : Nat, s.heap.size ≤ q → A q := fun q h => by rw [← hAe]; exact Or.inr h
  obtain ⟨H, hHe⟩ : ∃ z : Heap, z = s.heap := ⟨_, rfl⟩
  rw [← hHe]
  have hS : va_S A s.heap H [] := by rw [hHe]; exact va_S.rf
  have hP : va_P (dC, dI) vwCl (wO o cO f ++ wX ad ca K u) H := by rw [hHe]; exact hP
  have hl := lv_entry ([.ref (ad 0), .int p1, .ref o]) (n := 4) (Nat.le_of_ble_eq_true rfl)
  rw [lg_entry_eq]
  generalize (lg_sl ([.ref (ad 0), .int p1, .ref o]) ++ List.replicate (4 - (lg_sl ([.ref (ad 0), .int p1, .ref o])).length) Slot.unset).toArray = ls at hl ⊢
  have hl : lv_has ls 4 [(0, .ref (ad 0)), (1, .int p1), (2, .ref o)] := hl
  clear hAe
  refine lv_aload_n hx hb dL_count_0 rfl (lv_at hl 2 rfl) ?_
  refine lv_iconst (v := 0) hx hb dL_count_1 (by decide) ?_
  refine lv_aload_n hx hb dL_count_2 rfl (lv_at hl 0 rfl) ?_
  refine lv_iload_n hx hb dL_count_3 rfl (lv_at hl 1 rfl) ?_
  have hPx := gP_r hP
  have hDx := gD_r hD
  have hKx : va_K (dC, dI) vwCl (xT ca) s := hK.sub [0, 1, 2] rfl
  refine gxl_i (w := wX ad ca K) (w0 := wX ad ca K u) (wr := wO o cO f) (vx_runV (As := [.int p1]) (rest := [.int 0, .ref o]) ⟨hx, hb, hml, hown, hts⟩ (cX0_count l hl9 dC dI ad ca K H.size u p1 _ _ h) (cwV 1 hts (gG_V wd_673 wd_674 wd_675 wd_46 wd_676) rfl rfl rfl (by decide +kernel) ⟨(Nat.le_of_ble_eq_true rfl), (Nat.le_of_ble_eq_true rfl)⟩) ⟨gB_blind xE_ok, va_recv hKx hPx (ci := 0) (q0 := 0) rfl rfl, gB_pre xE_ok hPx hKx hDx hE.1 hS hA⟩ rfl rfl hl.1 rfl (lv_room (Nat.le_of_ble_eq_true rfl)) dL_count_4 ⟨(Nat.le_of_ble_eq_true rfl), (Nat.le_of_ble_eq_true rfl)⟩) hP hD hS hA (fun E9 ce9 q9 u9 H locs h hP hD hS hce hcv hcl => ?_) (fun r1 u1 H locs h hP hD hS => ?_)
  · obtain ⟨rfl, h⟩ := h
    refine vx_catch hown [] ⟨0, 9, 12, 13⟩ [] (by rw [htab]; rfl) (fun _ h9 => nomatch h9) (by decide) (by decide) (hts _ wd_215) (va_tabs rfl rfl (xE_face hE.1 (.castable "java/lang/IllegalArgumentException" "java/lang/IllegalArgumentException") (by decide +kernel))) hce hcv hcl ?_
    refine lv_astore_n (lv' := [(3, .ref q9), (0, .ref (ad 0)), (1, .int p1), (2, .ref o)]) hx hb dL_count_12 rfl hl (by decide) rfl (fun ls hl => ?_)
    refine lv_iconst (v := 1) hx hb dL_count_13 (by decide) ?_
    refine W.widen (k := 1) (n := 6) (Nat.le_of_ble_eq_true rfl) (Nat.le_of_ble_eq_true rfl) ?_
    exact gr_i (w := (fun z : gS × (Nat → Int64) => wO o cO z.2 ++ wX ad ca K z.1)) (u := (u9, f)) hx hb hr hlocks h hP hK hD hS dL_count_14
  · refine lv_i2l (v := r1.toInt64) hx hb dL_count_7 rfl ?_
    refine va_last hx hb hK hP hD hS 0 3 rfl rfl (by unfold vp_in; decide) dL_count_8 (fun H locs hP hD hS => ?_)
    have hP : va_P (dC, dI) vwCl (wO o cO (vp_updL f (0 : Int32).toNatClampNeg r1.toInt64) ++ wX ad ca K u1) H := hP
    have hD : va_D A (wO o cO (vp_updL f (0 : Int32).toNatClampNeg r1.toInt64) ++ wX ad ca K u1) := hD
    refine lv_goto (tgt := 15) hx hb dL_count_9 (by decide) ?_
    refine lv_iconst (v := 0) hx hb dL_count_15 (by decide) ?_
    refine W.widen (k := 1) (n := 6) (Nat.le_of_ble_eq_true rfl) (Nat.le_of_ble_eq_true rfl) ?_
    exact gr_i (w := (fun z : gS × (Nat → Int64) => wO o cO z.2 ++ wX ad ca K z.1)) (u := (u1, vp_updL f (0 : Int32).toNatClampNeg r1.toInt64)) hx hb hr hlocks h hP hK hD hS dL_count_16

theorem dL_delay_0 : decode method_15_code 0 = .ok (.aload_n 1, 1) := by decide +kernel
theorem dL_delay_1 : decode method_15_code 1 = .ok (.iconst 0, 1) := by decide +kernel
theorem dL_delay_2 : decode method_15_code 2 = .ok (.aload_n 0, 1) := by decide +kernel
theorem dL_delay_3 : decode method_15_code 3 = .ok (.invokevirtual 64, 3) := by decide +kernel
theorem dL_delay_6 : decode method_15_code 6 = .ok (.dastore, 1) := by decide +kernel
theorem dL_delay_7 : decode method_15_code 7 = .ok (.goto 6, 3) := by decide +kernel
theorem dL_delay_10 : decode method_15_code 10 = .ok (.astore_n 2, 1) := by decide +kernel
theorem dL_delay_11 : decode method_15_code 11 = .ok (.iconst 1, 1) := by decide +kernel
theorem dL_delay_12 : decode method_15_code 12 = .ok (.ireturn, 1) := by decide +kernel
theorem dL_delay_13 : decode method_15_code 13 = .ok (.iconst 0, 1) := by decide +kernel
theorem dL_delay_14 : decode method_15_code 14 = .ok (.ireturn, 1) := by decide +kernel
def wpL_delay (K : KX) (post : Int32 → gS × (Nat → UInt64) → Prop) (u : gS) (f : Nat → UInt64) : Prop :=
  wpX0_delay K (fun (r : UInt64) (u1 : gS) => post 0 (u1, vf_upd f (0 : Int32).toNatClampNeg r)) (fun (E : String) (u1 : gS) => (E = "java/lang/ArithmeticException" ∧ post 1 (u1, f))) u
set_option maxHeartbeats 8000000 in
set_option maxRecDepth 100000 in
theorem cL_delay (l : Launch) (hl9 : l.stackTraces = false) (dC : Nat → ClassId) (dI : Nat → Nat → Nat) (ad : Nat → Nat) (ca : Nat → ClassId) (K : KX) (o : Nat) (sz : Nat) (u : gS) (f : Nat → UInt64) (post : Int32 → gS × (Nat → UInt64) → Prop) (h : wpL_delay K post u f) : Met l ⟨"WorkHallLaw", "delay", "(LWorkHall;[D)I"⟩ (gwH ⟨"WorkHallLaw", "delay", "(LWorkHall;[D)I"⟩ method_15_code 3 (some .int) [(0, 7, 10, 41)]) ({ frames := 8, cells := 1, slots := 6, locals := 320 } : Room) (va_Pc [.ref (ad 0), .ref o] (gB (dC, dI) vwCl (xT ca) lE (wP o (ca 2) f ++ wX ad ca K u) sz)) (va_Qi post (gAt (dC, dI) vwCl (xT ca) (fun z : gS × (Nat → UInt64) => wP o (ca 2) z.2 ++ wX ad ca K z.1) (va_A (wP o (ca 2) f ++ wX ad ca K u) sz)) (va_A (wP o (ca 2) f ++ wX ad ca K u) sz)) 1 6 (va_A (wP o (ca 2) f ++ wX ad ca K u) sz) := by
  refine gl_ofWH (cc := method_15_code) (maxL := 3) (ret := (some .int)) (hh := [(0, 7, 10, 41)]) (by decide) rfl ?_
  intro p e s m args below meth c s₁ B hml hv
  obtain ⟨rfl, hsz, hP, hK, hD0, hE⟩ := hv
  have hx := B.exec
  have hb := B.bytes
  have hr := B.returns
  have hts0 := atoms_spec (ws := (gwH ⟨"WorkHallLaw", "delay", "(LWorkHall;[D)I"⟩ method_15_code 3 (some .int) [(0, 7, 10, 41)])) B.pre
  have htab := vx_table (x := ⟨"WorkHallLaw", "delay", "(LWorkHall;[D)I"⟩) B (hts0 _ List.mem_cons_self)
  have hts : ∀ w ∈ gW, w.before _ s = true := fun w h9 => hts0 w (List.mem_cons_of_mem _ h9)
  have hown : s.vm.findClass RL = some m.cls := findClass_of_methodNamed B.named
  have hlocks := B.notSynchronized
  subst hsz
  have hD := hD0.self (sz := s.heap.size)
  generalize hAe : va_A (wP o (ca 2) f ++ wX ad ca K u) s.heap.size = A at hD hE ⊢
  have hA : ∀ q : Nat, s.heap.size ≤ q → A q := fun q h => by rw [← hAe]; exact Or.inr h
  obtain ⟨H, hHe⟩ : ∃ z : Heap, z = s.heap := ⟨_, rfl⟩
  rw [← hHe]
  have hS : va_S A s.heap H [] := by rw [hHe]; exact va_S.rf
  have hP : va_P (dC, dI) vwCl (wP o (ca 2) f ++ wX ad ca K u) H := by rw [hHe]; exact hP
  have hl := lv_entry ([.ref (ad 0), .ref o]) (n := 3) (Nat.le_of_ble_eq_true rfl)
  rw [lg_entry_eq]
  generalize (lg_sl ([.ref (ad 0), .ref o]) ++ List.replicate (3 - (lg_sl ([.ref (ad 0), .ref o])).length) Slot.unset).toArray = ls at hl ⊢
  have hl : lv_has ls 3 [(0, .ref (ad 0)), (1, .ref o)] := hl
  clear hAe
  refine lv_aload_n hx hb dL_delay_0 rfl (lv_at hl 1 rfl) ?_
  refine lv_iconst (v := 0) hx hb dL_delay_1 (by decide) ?_
  refine lv_aload_n hx hb dL_delay_2 rfl (lv_at hl 0 rfl) ?_
  have hPx := gP_r hP
  have hDx := gD_r hD
  have hKx : va_K (dC, dI) vwCl (xT ca) s := hK
  refine gxl_d (w := wX ad ca K) (w0 := wX ad ca K u) (wr := wP o (ca 2) f) (vx_runV (As := []) (rest := [.int 0, .ref o]) ⟨hx, hb, hml, hown, hts⟩ (cX0_delay l hl9 dC dI ad ca K H.size u _ _ h) (cwV 0 hts (gG_V wd_680 wd_681 wd_682 wd_46 wd_683) rfl rfl rfl (by decide +kernel) ⟨(Nat.le_of_ble_eq_true rfl), (Nat.le_of_ble_eq_true rfl)⟩) ⟨gB_blind xE_ok, va_recv hKx hPx (ci := 0) (q0 := 0) rfl rfl, gB_pre xE_ok hPx hKx hDx hE.1 hS hA⟩ rfl rfl hl.1 rfl (lv_room (Nat.le_of_ble_eq_true rfl)) dL_delay_3 ⟨(Nat.le_of_ble_eq_true rfl), (Nat.le_of_ble_eq_true rfl)⟩) hP hD hS hA (fun E9 ce9 q9 u9 H locs h hP hD hS hce hcv hcl => ?_) (fun r1 u1 H locs h hP hD hS => ?_)
  · obtain ⟨rfl, h⟩ := h
    refine vx_catch hown [] ⟨0, 7, 10, 41⟩ [] (by rw [htab]; rfl) (fun _ h9 => nomatch h9) (by decide) (by decide) (hts _ wd_550) (va_tabs rfl rfl (xE_face hE.1 (.castable "java/lang/ArithmeticException" "java/lang/ArithmeticException") (by decide +kernel))) hce hcv hcl ?_
    refine lv_astore_n (lv' := [(2, .ref q9), (0, .ref (ad 0)), (1, .ref o)]) hx hb dL_delay_10 rfl hl (by decide) rfl (fun ls hl => ?_)
    refine lv_iconst (v := 1) hx hb dL_delay_11 (by decide) ?_
    refine W.widen (k := 1) (n := 6) (Nat.le_of_ble_eq_true rfl) (Nat.le_of_ble_eq_true rfl) ?_
    exact gr_i (w := (fun z : gS × (Nat → UInt64) => wP o (ca 2) z.2 ++ wX ad ca K z.1)) (u := (u9, f)) hx hb hr hlocks h hP hK hD hS dL_delay_12
  · refine va_dast hx hb hK hP hD hS 0 2 rfl rfl (by unfold vp_in; decide) dL_delay_6 (fun H locs hP hD hS => ?_)
    have hP : va_P (dC, dI) vwCl (wP o (ca 2) (vf_upd f (0 : Int32).toNatClampNeg r1) ++ wX ad ca K u1) H := hP
    have hD : va_D A (wP o (ca 2) (vf_upd f (0 : Int32).toNatClampNeg r1) ++ wX ad ca K u1) := hD
    refine lv_goto (tgt := 13) hx hb dL_delay_7 (by decide) ?_
    refine lv_iconst (v := 0) hx hb dL_delay_13 (by decide) ?_
    refine W.widen (k := 1) (n := 6) (Nat.le_of_ble_eq_true rfl) (Nat.le_of_ble_eq_true rfl) ?_
    exact gr_i (w := (fun z : gS × (Nat → UInt64) => wP o (ca 2) z.2 ++ wX ad ca K z.1)) (u := (u1, vf_upd f (0 : Int32).toNatClampNeg r1)) hx hb hr hlocks h hP hK hD hS dL_delay_14

theorem dL_due_0 : decode method_16_code 0 = .ok (.aload_n 1, 1) := by decide +kernel
theorem dL_due_1 : decode method_16_code 1 = .ok (.iconst 0, 1) := by decide +kernel
theorem dL_due_2 : decode method_16_code 2 = .ok (.aload_n 0, 1) := by decide +kernel
theorem dL_due_3 : decode method_16_code 3 = .ok (.invokevirtual 68, 3) := by decide +kernel
theorem dL_due_6 : decode method_16_code 6 = .ok (.dastore, 1) := by decide +kernel
theorem dL_due_7 : decode method_16_code 7 = .ok (.goto 6, 3) := by decide +kernel
theorem dL_due_10 : decode method_16_code 10 = .ok (.astore_n 2, 1) := by decide +kernel
theorem dL_due_11 : decode method_16_code 11 = .ok (.iconst 1, 1) := by decide +kernel
theorem dL_due_12 : decode method_16_code 12 = .ok (.ireturn, 1) := by decide +kernel
theorem dL_due_13 : decode method_16_code 13 = .ok (.iconst 0, 1) := by decide +kernel
theorem dL_due_14 : decode method_16_code 14 = .ok (.ireturn, 1) := by decide +kernel
def wpL_due (K : KX) (post : Int32 → gS × (Nat → UInt64) → Prop) (u : gS) (f : Nat → UInt64) : Prop :=
  wpX0_due K (fun (r : UInt64) (u1 : gS) => post 0 (u1, vf_upd f (0 : Int32).toNatClampNeg r)) (fun (E : String) (u1 : gS) => (E = "java/util/NoSuchElementException" ∧ post 1 (u1, f))) u
set_option maxHeartbeats 8000000 in
set_option maxRecDepth 100000 in
theorem cL_due (l : Launch) (hl9 : l.stackTraces = false) (dC : Nat → ClassId) (dI : Nat → Nat → Nat) (ad : Nat → Nat) (ca : Nat → ClassId) (K : KX) (o : Nat) (sz : Nat) (u : gS) (f : Nat → UInt64) (post : Int32 → gS × (Nat → UInt64) → Prop) (h : wpL_due K post u f) : Met l ⟨"WorkHallLaw", "due", "(LWorkHall;[D)I"⟩ (gwH ⟨"WorkHallLaw", "due", "(LWorkHall;[D)I"⟩ method_16_code 3 (some .int) [(0, 7, 10, 21)]) ({ frames := 8, cells := 1, slots := 6, locals := 320 } : Room) (va_Pc [.ref (ad 0), .ref o] (gB (dC, dI) vwCl (xT ca) lE (wP o (ca 2) f ++ wX ad ca K u) sz)) (va_Qi post (gAt (dC, dI) vwCl (xT ca) (fun z : gS × (Nat → UInt64) => wP o (ca 2) z.2 ++ wX ad ca K z.1) (va_A (wP o (ca 2) f ++ wX ad ca K u) sz)) (va_A (wP o (ca 2) f ++ wX ad ca K u) sz)) 1 6 (va_A (wP o (ca 2) f ++ wX ad ca K u) sz) := by
  refine gl_ofWH (cc := method_16_code) (maxL := 3) (ret := (some .int)) (hh := [(0, 7, 10, 21)]) (by decide) rfl ?_
  intro p e s m args below meth c s₁ B hml hv
  obtain ⟨rfl, hsz, hP, hK, hD0, hE⟩ := hv
  have hx := B.exec
  have hb := B.bytes
  have hr := B.returns
  have hts0 := atoms_spec (ws := (gwH ⟨"WorkHallLaw", "due", "(LWorkHall;[D)I"⟩ method_16_code 3 (some .int) [(0, 7, 10, 21)])) B.pre
  have htab := vx_table (x := ⟨"WorkHallLaw", "due", "(LWorkHall;[D)I"⟩) B (hts0 _ List.mem_cons_self)
  have hts : ∀ w ∈ gW, w.before _ s = true := fun w h9 => hts0 w (List.mem_cons_of_mem _ h9)
  have hown : s.vm.findClass RL = some m.cls := findClass_of_methodNamed B.named
  have hlocks := B.notSynchronized
  subst hsz
  have hD := hD0.self (sz := s.heap.size)
  generalize hAe : va_A (wP o (ca 2) f ++ wX ad ca K u) s.heap.size = A at hD hE ⊢
  have hA : ∀ q : Nat, s.heap.size ≤ q → A q := fun q h => by rw [← hAe]; exact Or.inr h
  obtain ⟨H, hHe⟩ : ∃ z : Heap, z = s.heap := ⟨_, rfl⟩
  rw [← hHe]
  have hS : va_S A s.heap H [] := by rw [hHe]; exact va_S.rf
  have hP : va_P (dC, dI) vwCl (wP o (ca 2) f ++ wX ad ca K u) H := by rw [hHe]; exact hP
  have hl := lv_entry ([.ref (ad 0), .ref o]) (n := 3) (Nat.le_of_ble_eq_true rfl)
  rw [lg_entry_eq]
  generalize (lg_sl ([.ref (ad 0), .ref o]) ++ List.replicate (3 - (lg_sl ([.ref (ad 0), .ref o])).length) Slot.unset).toArray = ls at hl ⊢
  have hl : lv_has ls 3 [(0, .ref (ad 0)), (1, .ref o)] := hl
  clear hAe
  refine lv_aload_n hx hb dL_due_0 rfl (lv_at hl 1 rfl) ?_
  refine lv_iconst (v := 0) hx hb dL_due_1 (by decide) ?_
  refine lv_aload_n hx hb dL_due_2 rfl (lv_at hl 0 rfl) ?_
  have hPx := gP_r hP
  have hDx := gD_r hD
  have hKx : va_K (dC, dI) vwCl (xT ca) s := hK
  refine gxl_d (w := wX ad ca K) (w0 := wX ad ca K u) (wr := wP o (ca 2) f) (vx_runV (As := []) (rest := [.int 0, .ref o]) ⟨hx, hb, hml, hown, hts⟩ (cX0_due l hl9 dC dI ad ca K H.size u _ _ h) (cwV 0 hts (gG_V wd_688 wd_689 wd_690 wd_46 wd_691) rfl rfl rfl (by decide +kernel) ⟨(Nat.le_of_ble_eq_true rfl), (Nat.le_of_ble_eq_true rfl)⟩) ⟨gB_blind xE_ok, va_recv hKx hPx (ci := 0) (q0 := 0) rfl rfl, gB_pre xE_ok hPx hKx hDx hE.1 hS hA⟩ rfl rfl hl.1 rfl (lv_room (Nat.le_of_ble_eq_true rfl)) dL_due_3 ⟨(Nat.le_of_ble_eq_true rfl), (Nat.le_of_ble_eq_true rfl)⟩) hP hD hS hA (fun E9 ce9 q9 u9 H locs h hP hD hS hce hcv hcl => ?_) (fun r1 u1 H locs h hP hD hS => ?_)
  · obtain ⟨rfl, h⟩ := h
    refine vx_catch hown [] ⟨0, 7, 10, 21⟩ [] (by rw [htab]; rfl) (fun _ h9 => nomatch h9) (by decide) (by decide) (hts _ wd_358) (va_tabs rfl rfl (xE_face hE.1 (.castable "java/util/NoSuchElementException" "java/util/NoSuchElementException") (by decide +kernel))) hce hcv hcl ?_
    refine lv_astore_n (lv' := [(2, .ref q9), (0, .ref (ad 0)), (1, .ref o)]) hx hb dL_due_10 rfl hl (by decide) rfl (fun ls hl => ?_)
    refine lv_iconst (v := 1) hx hb dL_due_11 (by decide) ?_
    refine W.widen (k := 1) (n := 6) (Nat.le_of_ble_eq_true rfl) (Nat.le_of_ble_eq_true rfl) ?_
    exact gr_i (w := (fun z : gS × (Nat → UInt64) => wP o (ca 2) z.2 ++ wX ad ca K z.1)) (u := (u9, f)) hx hb hr hlocks h hP hK hD hS dL_due_12
  · refine va_dast hx hb hK hP hD hS 0 2 rfl rfl (by unfold vp_in; decide) dL_due_6 (fun H locs hP hD hS => ?_)
    have hP : va_P (dC, dI) vwCl (wP o (ca 2) (vf_upd f (0 : Int32).toNatClampNeg r1) ++ wX ad ca K u1) H := hP
    have hD : va_D A (wP o (ca 2) (vf_upd f (0 : Int32).toNatClampNeg r1) ++ wX ad ca K u1) := hD
    refine lv_goto (tgt := 13) hx hb dL_due_7 (by decide) ?_
    refine lv_iconst (v := 0) hx hb dL_due_13 (by decide) ?_
    refine W.widen (k := 1) (n := 6) (Nat.le_of_ble_eq_true rfl) (Nat.le_of_ble_eq_true rfl) ?_
    exact gr_i (w := (fun z : gS × (Nat → UInt64) => wP o (ca 2) z.2 ++ wX ad ca K z.1)) (u := (u1, vf_upd f (0 : Int32).toNatClampNeg r1)) hx hb hr hlocks h hP hK hD hS dL_due_14

