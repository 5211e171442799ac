theorem wo_init : Cond.code Lib.objectInit ⟨#[0xb1]⟩ 1 none ∈ gW := gw_mem 70 (by decide +kernel) (by decide +kernel)
theorem dX4_init_0 : decode prog_6_method_1_code 0 = .ok (.aload_n 0, 1) := by decide +kernel
theorem dX4_init_1 : decode prog_6_method_1_code 1 = .ok (.invokespecial 3, 3) := by decide +kernel
theorem dX4_init_4 : decode prog_6_method_1_code 4 = .ok (.aload_n 0, 1) := by decide +kernel
theorem dX4_init_5 : decode prog_6_method_1_code 5 = .ok (.aconst_null, 1) := by decide +kernel
theorem dX4_init_6 : decode prog_6_method_1_code 6 = .ok (.putfield 9, 3) := by decide +kernel
theorem dX4_init_9 : decode prog_6_method_1_code 9 = .ok (.aload_n 0, 1) := by decide +kernel
theorem dX4_init_10 : decode prog_6_method_1_code 10 = .ok (.iconst 0, 1) := by decide +kernel
theorem dX4_init_11 : decode prog_6_method_1_code 11 = .ok (.putfield 15, 3) := by decide +kernel
theorem dX4_init_14 : decode prog_6_method_1_code 14 = .ok (.aload_n 0, 1) := by decide +kernel
theorem dX4_init_15 : decode prog_6_method_1_code 15 = .ok (.dconst 0, 1) := by decide +kernel
theorem dX4_init_16 : decode prog_6_method_1_code 16 = .ok (.putfield 19, 3) := by decide +kernel
theorem dX4_init_19 : decode prog_6_method_1_code 19 = .ok (.return_, 1) := by decide +kernel
def wX4_init (h0 : Nat) (u : cS) : va_W := [(h0, .inr (4, [.null, .int 0, .double FP.dconst0]))]
def tX4_init (u : cS) : List (ClassId × FieldType) := []
set_option maxHeartbeats 8000000 in
set_option maxRecDepth 100000 in
theorem cX4_init (l : Launch) (dC : Nat → ClassId) (dI : Nat → Nat → Nat) (h0 sz : Nat) : Met l ⟨"WorkHall$Worker", "<init>", "()V"⟩ (gw ⟨"WorkHall$Worker", "<init>", "()V"⟩ prog_6_method_1_code 1 none) ({ frames := 1, cells := 0, slots := 0, locals := 40 } : Room) (va_Pc [.ref h0] (gB (dC, dI) vwCl [] nE [(h0, .inr (4, [.null, .int 0, .double 0]))] sz)) (va_Qv (fun _ : cS => True) (cAt (dC, dI) vwCl tX4_init (wX4_init h0) (va_A [(h0, .inr (4, [.null, .int 0, .double 0]))] sz)) (va_A [(h0, .inr (4, [.null, .int 0, .double 0]))] sz)) 0 0 (va_A [(h0, .inr (4, [.null, .int 0, .double 0]))] sz) := by
  refine Met.ofW (cc := prog_6_method_1_code) (maxL := 1) (ret := none) (by decide) rfl ?_
  intro p e s m args below meth c s₁ B hml hv
  obtain ⟨rfl, hsz, hP, hK, hD0, hE⟩ := hv
  have hx := B.exec
  have hb := B.bytes
  have hr := B.returns
  have hts : ∀ w ∈ gW, w.before _ s = true := fun w h9 => atoms_spec (ws := (gw ⟨"WorkHall$Worker", "<init>", "()V"⟩ prog_6_method_1_code 1 none)) B.pre w (List.mem_cons_of_mem _ h9)
  have hown : s.vm.findClass RX4 = some m.cls := findClass_of_methodNamed B.named
  have hlocks := B.notSynchronized
  have hin : meth.name = "<init>" := (name_of_methodNamed B.named B.method).1
  subst hsz
  have hD := hD0.self (sz := s.heap.size)
  generalize hAe : va_A [(h0, .inr (4, [.null, .int 0, .double 0]))] s.heap.size = A at hD hE ⊢
  have hA : ∀ q : Nat, s.heap.size ≤ q → A q := fun q h => by rw [← hAe]; exact Or.inr h
  obtain ⟨H, hHe⟩ : ∃ z : Heap, z = s.heap := ⟨_, rfl⟩
  rw [← hHe]
  have hS : va_S A s.heap H [] := by rw [hHe]; exact va_S.rf
  have hP : va_P (dC, dI) vwCl [(h0, .inr (4, [.null, .int 0, .double 0]))] H := by rw [hHe]; exact hP
  have hl := lv_entry ([.ref h0]) (n := 1) (Nat.le_of_ble_eq_true rfl)
  rw [lg_entry_eq]
  generalize (lg_sl ([.ref h0]) ++ List.replicate (1 - (lg_sl ([.ref h0])).length) Slot.unset).toArray = ls at hl ⊢
  clear hAe
  have hl : lv_has ls 1 [(0, .ref h0)] := hl
  refine lv_aload_n hx hb dX4_init_0 rfl (lv_at hl 0 rfl) ?_
  refine W.objInit hx hb hown (hts _ wd_85) (hts _ wd_69) (hts _ wo_init) rfl (by rw [hml]; exact hl.1) rfl dX4_init_1 (Nat.le_of_ble_eq_true rfl) (Nat.le_of_ble_eq_true rfl) ?_
  refine W.eq (g2 := F0 m 4 ls []) rfl ?_
  refine lv_aload_n hx hb dX4_init_4 rfl (lv_at hl 0 rfl) ?_
  refine lv_null hx hb dX4_init_5 ?_
  refine va_put (D := (dC, dI)) (ci := 4) (v := .null) (ty := tyX4 0) (C := RX4) (T := TX4) (N := 3) hx hb hts uwX4 tyX4 tyX4_ok nmX4 hown hK hP hD hS 0 rfl rfl 0 (by decide) (hts _ wd_86) (fun _ h9 => h9) rfl (tyX4_ok 0 (by decide)) rfl rfl (Nat.le_of_ble_eq_true rfl) dX4_init_6 (fun H locs hP hD hS => ?_)
  have hP : va_P (dC, dI) vwCl [(h0, .inr (4, [.null, .int 0, .double 0]))] H := hP
  have hD : va_D A [(h0, .inr (4, [.null, .int 0, .double 0]))] := hD
  refine lv_aload_n hx hb dX4_init_9 rfl (lv_at hl 0 rfl) ?_
  refine lv_iconst (v := 0) hx hb dX4_init_10 (by decide) ?_
  refine va_put (D := (dC, dI)) (ci := 4) (v := .int 0) (ty := tyX4 1) (C := RX4) (T := TX4) (N := 3) hx hb hts uwX4 tyX4 tyX4_ok nmX4 hown hK hP hD hS 0 rfl rfl 1 (by decide) (hts _ wd_89) (fun _ h9 => h9) rfl (tyX4_ok 1 (by decide)) rfl rfl (Nat.le_of_ble_eq_true rfl) dX4_init_11 (fun H locs hP hD hS => ?_)
  have hP : va_P (dC, dI) vwCl [(h0, .inr (4, [.null, .int 0, .double 0]))] H := hP
  have hD : va_D A [(h0, .inr (4, [.null, .int 0, .double 0]))] := hD
  refine lv_aload_n hx hb dX4_init_14 rfl (lv_at hl 0 rfl) ?_
  refine lv_dconst0 hx hb dX4_init_15 ?_
  refine va_put (D := (dC, dI)) (ci := 4) (v := .double FP.dconst0) (ty := tyX4 2) (C := RX4) (T := TX4) (N := 3) hx hb hts uwX4 tyX4 tyX4_ok nmX4 hown hK hP hD hS 0 rfl rfl 2 (by decide) (hts _ wd_91) (fun _ h9 => h9) rfl (tyX4_ok 2 (by decide)) rfl rfl (Nat.le_of_ble_eq_true rfl) dX4_init_16 (fun H locs hP hD hS => ?_)
  have hP : va_P (dC, dI) vwCl [(h0, .inr (4, [.null, .int 0, .double FP.dconst0]))] H := hP
  have hD : va_D A [(h0, .inr (4, [.null, .int 0, .double FP.dconst0]))] := hD
  refine W.widen (k := 0) (n := 0) (Nat.le_of_ble_eq_true rfl) (Nat.le_of_ble_eq_true rfl) ?_
  exact W.vret hx hb hr (fun t ht hW => ⟨⟨(fun _ => 0, fun _ => dC 0), rfl, trivial, by rw [ht]; exact hP, va_K.moved hW.alike hK, hD⟩, hS.F ht⟩) hS.2.2 dX4_init_19

theorem dX5_init_0 : decode prog_3_method_1_code 0 = .ok (.aload_n 0, 1) := by decide +kernel
theorem dX5_init_1 : decode prog_3_method_1_code 1 = .ok (.invokespecial 3, 3) := by decide +kernel
theorem dX5_init_4 : decode prog_3_method_1_code 4 = .ok (.aload_n 0, 1) := by decide +kernel
theorem dX5_init_5 : decode prog_3_method_1_code 5 = .ok (.iconst 0, 1) := by decide +kernel
theorem dX5_init_6 : decode prog_3_method_1_code 6 = .ok (.putfield 9, 3) := by decide +kernel
theorem dX5_init_9 : decode prog_3_method_1_code 9 = .ok (.aload_n 0, 1) := by decide +kernel
theorem dX5_init_10 : decode prog_3_method_1_code 10 = .ok (.iconst 0, 1) := by decide +kernel
theorem dX5_init_11 : decode prog_3_method_1_code 11 = .ok (.putfield 15, 3) := by decide +kernel
theorem dX5_init_14 : decode prog_3_method_1_code 14 = .ok (.aload_n 0, 1) := by decide +kernel
theorem dX5_init_15 : decode prog_3_method_1_code 15 = .ok (.iconst 0, 1) := by decide +kernel
theorem dX5_init_16 : decode prog_3_method_1_code 16 = .ok (.putfield 18, 3) := by decide +kernel
theorem dX5_init_19 : decode prog_3_method_1_code 19 = .ok (.aload_n 0, 1) := by decide +kernel
theorem dX5_init_20 : decode prog_3_method_1_code 20 = .ok (.aconst_null, 1) := by decide +kernel
theorem dX5_init_21 : decode prog_3_method_1_code 21 = .ok (.putfield 21, 3) := by decide +kernel
theorem dX5_init_24 : decode prog_3_method_1_code 24 = .ok (.aload_n 0, 1) := by decide +kernel
theorem dX5_init_25 : decode prog_3_method_1_code 25 = .ok (.iload_n 1, 1) := by decide +kernel
theorem dX5_init_26 : decode prog_3_method_1_code 26 = .ok (.putfield 25, 3) := by decide +kernel
theorem dX5_init_29 : decode prog_3_method_1_code 29 = .ok (.aload_n 0, 1) := by decide +kernel
theorem dX5_init_30 : decode prog_3_method_1_code 30 = .ok (.iload_n 2, 1) := by decide +kernel
theorem dX5_init_31 : decode prog_3_method_1_code 31 = .ok (.putfield 28, 3) := by decide +kernel
theorem dX5_init_34 : decode prog_3_method_1_code 34 = .ok (.aload_n 0, 1) := by decide +kernel
theorem dX5_init_35 : decode prog_3_method_1_code 35 = .ok (.iload_n 3, 1) := by decide +kernel
theorem dX5_init_36 : decode prog_3_method_1_code 36 = .ok (.putfield 31, 3) := by decide +kernel
theorem dX5_init_39 : decode prog_3_method_1_code 39 = .ok (.aload_n 0, 1) := by decide +kernel
theorem dX5_init_40 : decode prog_3_method_1_code 40 = .ok (.iload 4, 2) := by decide +kernel
theorem dX5_init_42 : decode prog_3_method_1_code 42 = .ok (.putfield 34, 3) := by decide +kernel
theorem dX5_init_45 : decode prog_3_method_1_code 45 = .ok (.aload_n 0, 1) := by decide +kernel
theorem dX5_init_46 : decode prog_3_method_1_code 46 = .ok (.iload 5, 2) := by decide +kernel
theorem dX5_init_48 : decode prog_3_method_1_code 48 = .ok (.putfield 37, 3) := by decide +kernel
theorem dX5_init_51 : decode prog_3_method_1_code 51 = .ok (.return_, 1) := by decide +kernel
def wX5_init (h0 : Nat) (p1 : Int32) (p2 : Int32) (p3 : Int32) (p4 : Int32) (p5 : Int32) (u : cS) : va_W := [(h0, .inr (5, [.int p1, .int p2, .int p3, .int p4, .int p5, .int 0, .int 0, .int 0, .null]))]
def tX5_init (u : cS) : List (ClassId × FieldType) := []
set_option maxHeartbeats 8000000 in
set_option maxRecDepth 100000 in
theorem cX5_init (l : Launch) (dC : Nat → ClassId) (dI : Nat → Nat → Nat) (h0 sz : Nat) (p1 : Int32) (p2 : Int32) (p3 : Int32) (p4 : Int32) (p5 : Int32) : Met l ⟨"WorkHall$Job", "<init>", "(IIIII)V"⟩ (gw ⟨"WorkHall$Job", "<init>", "(IIIII)V"⟩ prog_3_method_1_code 6 none) ({ frames := 1, cells := 0, slots := 0, locals := 40 } : Room) (va_Pc [.ref h0, .int p1, .int p2, .int p3, .int p4, .int p5] (gB (dC, dI) vwCl [] mE [(h0, .inr (5, [.int 0, .int 0, .int 0, .int 0, .int 0, .int 0, .int 0, .int 0, .null]))] sz)) (va_Qv (fun _ : cS => True) (cAt (dC, dI) vwCl tX5_init (wX5_init h0 p1 p2 p3 p4 p5) (va_A [(h0, .inr (5, [.int 0, .int 0, .int 0, .int 0, .int 0, .int 0, .int 0, .int 0, .null]))] sz)) (va_A [(h0, .inr (5, [.int 0, .int 0, .int 0, .int 0, .int 0, .int 0, .int 0, .int 0, .null]))] sz)) 0 0 (va_A [(h0, .inr (5, [.int 0, .int 0, .int 0, .int 0, .int 0, .int 0, .int 0, .int 0, .null]))] sz) := by
  refine Met.ofW (cc := prog_3_method_1_code) (maxL := 6) (ret := none) (by decide) rfl ?_
  intro p e s m args below meth c s₁ B hml hv
  obtain ⟨rfl, hsz, hP, hK, hD0, hE⟩ := hv
  have hx := B.exec
  have hb := B.bytes
  have hr := B.returns
  have hts : ∀ w ∈ gW, w.before _ s = true := fun w h9 => atoms_spec (ws := (gw ⟨"WorkHall$Job", "<init>", "(IIIII)V"⟩ prog_3_method_1_code 6 none)) B.pre w (List.mem_cons_of_mem _ h9)
  have hown : s.vm.findClass RX5 = some m.cls := findClass_of_methodNamed B.named
  have hlocks := B.notSynchronized
  have hin : meth.name = "<init>" := (name_of_methodNamed B.named B.method).1
  subst hsz
  have hD := hD0.self (sz := s.heap.size)
  generalize hAe : va_A [(h0, .inr (5, [.int 0, .int 0, .int 0, .int 0, .int 0, .int 0, .int 0, .int 0, .null]))] s.heap.size = A at hD hE ⊢
  have hA : ∀ q : Nat, s.heap.size ≤ q → A q := fun q h => by rw [← hAe]; exact Or.inr h
  obtain ⟨H, hHe⟩ : ∃ z : Heap, z = s.heap := ⟨_, rfl⟩
  rw [← hHe]
  have hS : va_S A s.heap H [] := by rw [hHe]; exact va_S.rf
  have hP : va_P (dC, dI) vwCl [(h0, .inr (5, [.int 0, .int 0, .int 0, .int 0, .int 0, .int 0, .int 0, .int 0, .null]))] H := by rw [hHe]; exact hP
  have hl := lv_entry ([.ref h0, .int p1, .int p2, .int p3, .int p4, .int p5]) (n := 6) (Nat.le_of_ble_eq_true rfl)
  rw [lg_entry_eq]
  generalize (lg_sl ([.ref h0, .int p1, .int p2, .int p3, .int p4, .int p5]) ++ List.replicate (6 - (lg_sl ([.ref h0, .int p1, .int p2, .int p3, .int p4, .int p5])).length) Slot.unset).toArray = ls at hl ⊢
  clear hAe
  have hl : lv_has ls 6 [(0, .ref h0), (1, .int p1), (2, .int p2), (3, .int p3), (4, .int p4), (5, .int p5)] := hl
  refine lv_aload_n hx hb dX5_init_0 rfl (lv_at hl 0 rfl) ?_
  refine W.objInit hx hb hown (hts _ wd_315) (hts _ wd_69) (hts _ wo_init) rfl (by rw [hml]; exact hl.1) rfl dX5_init_1 (Nat.le_of_ble_eq_true rfl) (Nat.le_of_ble_eq_true rfl) ?_
  refine W.eq (g2 := F0 m 4 ls []) rfl ?_
  refine lv_aload_n hx hb dX5_init_4 rfl (lv_at hl 0 rfl) ?_
  refine lv_iconst (v := 0) hx hb dX5_init_5 (by decide) ?_
  refine va_put (D := (dC, dI)) (ci := 5) (v := .int 0) (ty := tyX5 5) (C := RX5) (T := TX5) (N := 9) hx hb hts uwX5 tyX5 tyX5_ok nmX5 hown hK hP hD hS 0 rfl rfl 5 (by decide) (hts _ wd_325) (fun _ h9 => h9) rfl (tyX5_ok 5 (by decide)) rfl rfl (Nat.le_of_ble_eq_true rfl) dX5_init_6 (fun H locs hP hD hS => ?_)
  have hP : va_P (dC, dI) vwCl [(h0, .inr (5, [.int 0, .int 0, .int 0, .int 0, .int 0, .int 0, .int 0, .int 0, .null]))] H := hP
  have hD : va_D A [(h0, .inr (5, [.int 0, .int 0, .int 0, .int 0, .int 0, .int 0, .int 0, .int 0, .null]))] := hD
  refine lv_aload_n hx hb dX5_init_9 rfl (lv_at hl 0 rfl) ?_
  refine lv_iconst (v := 0) hx hb dX5_init_10 (by decide) ?_
  refine va_put (D := (dC, dI)) (ci := 5) (v := .int 0) (ty := tyX5 6) (C := RX5) (T := TX5) (N := 9) hx hb hts uwX5 tyX5 tyX5_ok nmX5 hown hK hP hD hS 0 rfl rfl 6 (by decide) (hts _ wd_330) (fun _ h9 => h9) rfl (tyX5_ok 6 (by decide)) rfl rfl (Nat.le_of_ble_eq_true rfl) dX5_init_11 (fun H locs hP hD hS => ?_)
  have hP : va_P (dC, dI) vwCl [(h0, .inr (5, [.int 0, .int 0, .int 0, .int 0, .int 0, .int 0, .int 0, .int 0, .null]))] H := hP
  have hD : va_D A [(h0, .inr (5, [.int 0, .int 0, .int 0, .int 0, .int 0, .int 0, .int 0, .int 0, .null]))] := hD
  refine lv_aload_n hx hb dX5_init_14 rfl (lv_at hl 0 rfl) ?_
  refine lv_iconst (v := 0) hx hb dX5_init_15 (by decide) ?_
  refine va_put (D := (dC, dI)) (ci := 5) (v := .int 0) (ty := tyX5 7) (C := RX5) (T := TX5) (N := 9) hx hb hts uwX5 tyX5 tyX5_ok nmX5 hown hK hP hD hS 0 rfl rfl 7 (by decide) (hts _ wd_332) (fun _ h9 => h9) rfl (tyX5_ok 7 (by decide)) rfl rfl (Nat.le_of_ble_eq_true rfl) dX5_init_16 (fun H locs hP hD hS => ?_)
  have hP : va_P (dC, dI) vwCl [(h0, .inr (5, [.int 0, .int 0, .int 0, .int 0, .int 0, .int 0, .int 0, .int 0, .null]))] H := hP
  have hD : va_D A [(h0, .inr (5, [.int 0, .int 0, .int 0, .int 0, .int 0, .int 0, .int 0, .int 0, .null]))] := hD
  refine lv_aload_n hx hb dX5_init_19 rfl (lv_at hl 0 rfl) ?_
  refine lv_null hx hb dX5_init_20 ?_
  refine va_put (D := (dC, dI)) (ci := 5) (v := .null) (ty := tyX5 8) (C := RX5) (T := TX5) (N := 9) hx hb hts uwX5 tyX5 tyX5_ok nmX5 hown hK hP hD hS 0 rfl rfl 8 (by decide) (hts _ wd_334) (fun _ h9 => h9) rfl (tyX5_ok 8 (by decide)) rfl rfl (Nat.le_of_ble_eq_true rfl) dX5_init_21 (fun H locs hP hD hS => ?_)
  have hP : va_P (dC, dI) vwCl [(h0, .inr (5, [.int 0, .int 0, .int 0, .int 0, .int 0, .int 0, .int 0, .int 0, .null]))] H := hP
  have hD : va_D A [(h0, .inr (5, [.int 0, .int 0, .int 0, .int 0, .int 0, .int 0, .int 0, .int 0, .null]))] := hD
  refine lv_aload_n hx hb dX5_init_24 rfl (lv_at hl 0 rfl) ?_
  refine lv_iload_n hx hb dX5_init_25 rfl (lv_at hl 1 rfl) ?_
  refine va_putF (D := (dC, dI)) (ci := 5) (v := .int p1) (ty := tyX5 0) (C := RX5) (T := TX5) (N := 9) hx hb hts uwX5 tyX5 tyX5_ok nmX5 hown hK hP hD hS 0 rfl rfl 0 (by decide) (hts _ wd_316) (fun _ h9 => h9) rfl hin rfl (tyX5_ok 0 (by decide)) rfl rfl (Nat.le_of_ble_eq_true rfl) dX5_init_26 (fun H locs hP hD hS => ?_)
  have hP : va_P (dC, dI) vwCl [(h0, .inr (5, [.int p1, .int 0, .int 0, .int 0, .int 0, .int 0, .int 0, .int 0, .null]))] H := hP
  have hD : va_D A [(h0, .inr (5, [.int p1, .int 0, .int 0, .int 0, .int 0, .int 0, .int 0, .int 0, .null]))] := hD
  refine lv_aload_n hx hb dX5_init_29 rfl (lv_at hl 0 rfl) ?_
  refine lv_iload_n hx hb dX5_init_30 rfl (lv_at hl 2 rfl) ?_
  refine va_putF (D := (dC, dI)) (ci := 5) (v := .int p2) (ty := tyX5 1) (C := RX5) (T := TX5) (N := 9) hx hb hts uwX5 tyX5 tyX5_ok nmX5 hown hK hP hD hS 0 rfl rfl 1 (by decide) (hts _ wd_317) (fun _ h9 => h9) rfl hin rfl (tyX5_ok 1 (by decide)) rfl rfl (Nat.le_of_ble_eq_true rfl) dX5_init_31 (fun H locs hP hD hS => ?_)
  have hP : va_P (dC, dI) vwCl [(h0, .inr (5, [.int p1, .int p2, .int 0, .int 0, .int 0, .int 0, .int 0, .int 0, .null]))] H := hP
  have hD : va_D A [(h0, .inr (5, [.int p1, .int p2, .int 0, .int 0, .int 0, .int 0, .int 0, .int 0, .null]))] := hD
  refine lv_aload_n hx hb dX5_init_34 rfl (lv_at hl 0 rfl) ?_
  refine lv_iload_n hx hb dX5_init_35 rfl (lv_at hl 3 rfl) ?_
  refine va_putF (D := (dC, dI)) (ci := 5) (v := .int p3) (ty := tyX5 2) (C := RX5) (T := TX5) (N := 9) hx hb hts uwX5 tyX5 tyX5_ok nmX5 hown hK hP hD hS 0 rfl rfl 2 (by decide) (hts _ wd_319) (fun _ h9 => h9) rfl hin rfl (tyX5_ok 2 (by decide)) rfl rfl (Nat.le_of_ble_eq_true rfl) dX5_init_36 (fun H locs hP hD hS => ?_)
  have hP : va_P (dC, dI) vwCl [(h0, .inr (5, [.int p1, .int p2, .int p3, .int 0, .int 0, .int 0, .int 0, .int 0, .null]))] H := hP
  have hD : va_D A [(h0, .inr (5, [.int p1, .int p2, .int p3, .int 0, .int 0, .int 0, .int 0, .int 0, .null]))] := hD
  refine lv_aload_n hx hb dX5_init_39 rfl (lv_at hl 0 rfl) ?_
  refine lv_iload hx hb dX5_init_40 (lv_at hl 4 rfl) ?_
  refine va_putF (D := (dC, dI)) (ci := 5) (v := .int p4) (ty := tyX5 3) (C := RX5) (T := TX5) (N := 9) hx hb hts uwX5 tyX5 tyX5_ok nmX5 hown hK hP hD hS 0 rfl rfl 3 (by decide) (hts _ wd_321) (fun _ h9 => h9) rfl hin rfl (tyX5_ok 3 (by decide)) rfl rfl (Nat.le_of_ble_eq_true rfl) dX5_init_42 (fun H locs hP hD hS => ?_)
  have hP : va_P (dC, dI) vwCl [(h0, .inr (5, [.int p1, .int p2, .int p3, .int p4, .int 0, .int 0, .int 0, .int 0, .null]))] H := hP
  have hD : va_D A [(h0, .inr (5, [.int p1, .int p2, .int p3, .int p4, .int 0, .int 0, .int 0, .int 0, .null]))] := hD
  refine lv_aload_n hx hb dX5_init_45 rfl (lv_at hl 0 rfl) ?_
  refine lv_iload hx hb dX5_init_46 (lv_at hl 5 rfl) ?_
  refine va_putF (D := (dC, dI)) (ci := 5) (v := .int p5) (ty := tyX5 4) (C := RX5) (T := TX5) (N := 9) hx hb hts uwX5 tyX5 tyX5_ok nmX5 hown hK hP hD hS 0 rfl rfl 4 (by decide) (hts _ wd_323) (fun _ h9 => h9) rfl hin rfl (tyX5_ok 4 (by decide)) rfl rfl (Nat.le_of_ble_eq_true rfl) dX5_init_48 (fun H locs hP hD hS => ?_)
  have hP : va_P (dC, dI) vwCl [(h0, .inr (5, [.int p1, .int p2, .int p3, .int p4, .int p5, .int 0, .int 0, .int 0, .null]))] H := hP
  have hD : va_D A [(h0, .inr (5, [.int p1, .int p2, .int p3, .int p4, .int p5, .int 0, .int 0, .int 0, .null]))] := hD
  refine W.widen (k := 0) (n := 0) (Nat.le_of_ble_eq_true rfl) (Nat.le_of_ble_eq_true rfl) ?_
  exact W.vret hx hb hr (fun t ht hW => ⟨⟨(fun _ => 0, fun _ => dC 0), rfl, trivial, by rw [ht]; exact hP, va_K.moved hW.alike hK, hD⟩, hS.F ht⟩) hS.2.2 dX5_init_51

theorem dX1_init_0 : decode prog_2_method_1_code 0 = .ok (.aload_n 0, 1) := by decide +kernel
theorem dX1_init_1 : decode prog_2_method_1_code 1 = .ok (.invokespecial 3, 3) := by decide +kernel
theorem dX1_init_4 : decode prog_2_method_1_code 4 = .ok (.aload_n 0, 1) := by decide +kernel
theorem dX1_init_5 : decode prog_2_method_1_code 5 = .ok (.iconst 5, 1) := by decide +kernel
theorem dX1_init_6 : decode prog_2_method_1_code 6 = .ok (.anewarray 9, 3) := by decide +kernel
theorem dX1_init_9 : decode prog_2_method_1_code 9 = .ok (.putfield 11, 3) := by decide +kernel
theorem dX1_init_12 : decode prog_2_method_1_code 12 = .ok (.aload_n 0, 1) := by decide +kernel
theorem dX1_init_13 : decode prog_2_method_1_code 13 = .ok (.iconst 0, 1) := by decide +kernel
theorem dX1_init_14 : decode prog_2_method_1_code 14 = .ok (.putfield 17, 3) := by decide +kernel
theorem dX1_init_17 : decode prog_2_method_1_code 17 = .ok (.aload_n 0, 1) := by decide +kernel
theorem dX1_init_18 : decode prog_2_method_1_code 18 = .ok (.iconst 0, 1) := by decide +kernel
theorem dX1_init_19 : decode prog_2_method_1_code 19 = .ok (.putfield 21, 3) := by decide +kernel
theorem dX1_init_22 : decode prog_2_method_1_code 22 = .ok (.iconst 0, 1) := by decide +kernel
theorem dX1_init_23 : decode prog_2_method_1_code 23 = .ok (.istore_n 1, 1) := by decide +kernel
theorem dX1_init_24 : decode prog_2_method_1_code 24 = .ok (.iload_n 1, 1) := by decide +kernel
theorem dX1_init_25 : decode prog_2_method_1_code 25 = .ok (.iconst 5, 1) := by decide +kernel
theorem dX1_init_26 : decode prog_2_method_1_code 26 = .ok (.if_icmp .ge 22, 3) := by decide +kernel
theorem dX1_init_29 : decode prog_2_method_1_code 29 = .ok (.aload_n 0, 1) := by decide +kernel
theorem dX1_init_30 : decode prog_2_method_1_code 30 = .ok (.getfield 11, 3) := by decide +kernel
theorem dX1_init_33 : decode prog_2_method_1_code 33 = .ok (.iload_n 1, 1) := by decide +kernel
theorem dX1_init_34 : decode prog_2_method_1_code 34 = .ok (.new 9, 3) := by decide +kernel
theorem dX1_init_37 : decode prog_2_method_1_code 37 = .ok (.dup, 1) := by decide +kernel
theorem dX1_init_38 : decode prog_2_method_1_code 38 = .ok (.invokespecial 24, 3) := by decide +kernel
theorem dX1_init_41 : decode prog_2_method_1_code 41 = .ok (.aastore, 1) := by decide +kernel
theorem dX1_init_42 : decode prog_2_method_1_code 42 = .ok (.iinc 1 1, 3) := by decide +kernel
theorem dX1_init_45 : decode prog_2_method_1_code 45 = .ok (.goto (-21), 3) := by decide +kernel
theorem dX1_init_48 : decode prog_2_method_1_code 48 = .ok (.return_, 1) := by decide +kernel
def wX1_init (h0 : Nat) (u : cS) : va_W := [(h0, .inr (1, [.ref (u.1 0), .int 0, .int 0])), ((u.1 0), .inl ((u.2 0), 5, .inr (.inr (.inr (.inr (va_up (va_up (va_up (va_up (va_up (fun _ => none) 0 (some (u.1 1))) 1 (some (u.1 2))) 2 (some (u.1 3))) 3 (some (u.1 4))) 4 (some (u.1 5)))))))), ((u.1 1), .inr (4, [.null, .int 0, .double FP.dconst0])), ((u.1 2), .inr (4, [.null, .int 0, .double FP.dconst0])), ((u.1 3), .inr (4, [.null, .int 0, .double FP.dconst0])), ((u.1 4), .inr (4, [.null, .int 0, .double FP.dconst0])), ((u.1 5), .inr (4, [.null, .int 0, .double FP.dconst0]))]
def tX1_init (u : cS) : List (ClassId × FieldType) := [((u.2 0), .object "WorkHall$Worker")]
set_option maxHeartbeats 8000000 in
set_option maxRecDepth 100000 in
theorem cX1_init (l : Launch) (dC : Nat → ClassId) (dI : Nat → Nat → Nat) (h0 sz : Nat) : Met l ⟨"WorkHall$Crew", "<init>", "()V"⟩ (gw ⟨"WorkHall$Crew", "<init>", "()V"⟩ prog_2_method_1_code 2 none) ({ frames := 2, cells := 6, slots := 20, locals := 80 } : Room) (va_Pc [.ref h0] (gB (dC, dI) vwCl [] nE [(h0, .inr (1, [.null, .int 0, .int 0]))] sz)) (va_Qv (fun _ : cS => True) (cAt (dC, dI) vwCl tX1_init (wX1_init h0) (va_A [(h0, .inr (1, [.null, .int 0, .int 0]))] sz)) (va_A [(h0, .inr (1, [.null, .int 0, .int 0]))] sz)) 6 20 (va_A [(h0, .inr (1, [.null, .int 0, .int 0]))] sz) := by
  refine Met.ofW (cc := prog_2_method_1_code) (maxL := 2) (ret := none) (by decide) rfl ?_
  intro p e s m args below meth c s₁ B hml hv
  obtain ⟨rfl, hsz, hP, hK, hD0, hE⟩ := hv
  have hx := B.exec
  have hb := B.bytes
  have hr := B.returns
  have hts : ∀ w ∈ gW, w.before _ s = true := fun w h9 => atoms_spec (ws := (gw ⟨"WorkHall$Crew", "<init>", "()V"⟩ prog_2_method_1_code 2 none)) B.pre w (List.mem_cons_of_mem _ h9)
  have hown : s.vm.findClass RX1 = some m.cls := findClass_of_methodNamed B.named
  have hlocks := B.notSynchronized
  have hin : meth.name = "<init>" := (name_of_methodNamed B.named B.method).1
  subst hsz
  have hD := hD0.self (sz := s.heap.size)
  generalize hAe : va_A [(h0, .inr (1, [.null, .int 0, .int 0]))] s.heap.size = A at hD hE ⊢
  have hA : ∀ q : Nat, s.heap.size ≤ q → A q := fun q h => by rw [← hAe]; exact Or.inr h
  obtain ⟨H, hHe⟩ : ∃ z : Heap, z = s.heap := ⟨_, rfl⟩
  rw [← hHe]
  have hS : va_S A s.heap H [] := by rw [hHe]; exact va_S.rf
  have hP : va_P (dC, dI) vwCl [(h0, .inr (1, [.null, .int 0, .int 0]))] H := by rw [hHe]; exact hP
  have hl := lv_entry ([.ref h0]) (n := 2) (Nat.le_of_ble_eq_true rfl)
  rw [lg_entry_eq]
  generalize (lg_sl ([.ref h0]) ++ List.replicate (2 - (lg_sl ([.ref h0])).length) Slot.unset).toArray = ls at hl ⊢
  clear hAe
  have hl : lv_has ls 2 [(0, .ref h0)] := hl
  refine lv_aload_n hx hb dX1_init_0 rfl (lv_at hl 0 rfl) ?_
  refine W.objInit hx hb hown (hts _ wd_78) (hts _ wd_69) (hts _ wo_init) rfl (by rw [hml]; exact hl.1) rfl dX1_init_1 (Nat.le_of_ble_eq_true rfl) (Nat.le_of_ble_eq_true rfl) ?_
  refine W.eq (g2 := F0 m 4 ls []) rfl ?_
  refine lv_aload_n hx hb dX1_init_4 rfl (lv_at hl 0 rfl) ?_
  refine lv_iconst (v := 5) hx hb dX1_init_5 (by decide) ?_
  refine va_newq (N' := 5) hx hb hown (hts _ wd_79) (nE_W hE) hK hP hD hS hA (by decide) (by decide) (by decide) (Nat.le_of_ble_eq_true rfl) (Nat.le_of_ble_eq_true rfl) dX1_init_6 (fun q1 c2 H hK hP hD hS => ?_)
  have hP : va_P (dC, dI) vwCl [(h0, .inr (1, [.null, .int 0, .int 0])), (q1, .inl (c2, 5, .inr (.inr (.inr (.inr (fun _ => none))))))] H := hP
  have hD : va_D A [(h0, .inr (1, [.null, .int 0, .int 0])), (q1, .inl (c2, 5, .inr (.inr (.inr (.inr (fun _ => none))))))] := hD
  have hK : va_K (dC, dI) vwCl [(c2, .object "WorkHall$Worker")] s := hK
  refine va_putF (D := (dC, dI)) (ci := 1) (v := .ref q1) (ty := tyX1 0) (C := RX1) (T := TX1) (N := 3) hx hb hts uwX1 tyX1 tyX1_ok nmX1 hown hK hP hD hS 0 rfl rfl 0 (by decide) (hts _ wd_100) (fun _ h9 => h9) rfl hin rfl (tyX1_ok 0 (by decide)) rfl rfl (Nat.le_of_ble_eq_true rfl) dX1_init_9 (fun H locs hP hD hS => ?_)
  have hP : va_P (dC, dI) vwCl [(h0, .inr (1, [.ref q1, .int 0, .int 0])), (q1, .inl (c2, 5, .inr (.inr (.inr (.inr (fun _ => none))))))] H := hP
  have hD : va_D A [(h0, .inr (1, [.ref q1, .int 0, .int 0])), (q1, .inl (c2, 5, .inr (.inr (.inr (.inr (fun _ => none))))))] := hD
  refine lv_aload_n hx hb dX1_init_12 rfl (lv_at hl 0 rfl) ?_
  refine lv_iconst (v := 0) hx hb dX1_init_13 (by decide) ?_
  refine va_put (D := (dC, dI)) (ci := 1) (v := .int 0) (ty := tyX1 1) (C := RX1) (T := TX1) (N := 3) hx hb hts uwX1 tyX1 tyX1_ok nmX1 hown hK hP hD hS 0 rfl rfl 1 (by decide) (hts _ wd_101) (fun _ h9 => h9) rfl (tyX1_ok 1 (by decide)) rfl rfl (Nat.le_of_ble_eq_true rfl) dX1_init_14 (fun H locs hP hD hS => ?_)
  have hP : va_P (dC, dI) vwCl [(h0, .inr (1, [.ref q1, .int 0, .int 0])), (q1, .inl (c2, 5, .inr (.inr (.inr (.inr (fun _ => none))))))] H := hP
  have hD : va_D A [(h0, .inr (1, [.ref q1, .int 0, .int 0])), (q1, .inl (c2, 5, .inr (.inr (.inr (.inr (fun _ => none))))))] := hD
  refine lv_aload_n hx hb dX1_init_17 rfl (lv_at hl 0 rfl) ?_
  refine lv_iconst (v := 0) hx hb dX1_init_18 (by decide) ?_
  refine va_put (D := (dC, dI)) (ci := 1) (v := .int 0) (ty := tyX1 2) (C := RX1) (T := TX1) (N := 3) hx hb hts uwX1 tyX1 tyX1_ok nmX1 hown hK hP hD hS 0 rfl rfl 2 (by decide) (hts _ wd_103) (fun _ h9 => h9) rfl (tyX1_ok 2 (by decide)) rfl rfl (Nat.le_of_ble_eq_true rfl) dX1_init_19 (fun H locs hP hD hS => ?_)
  have hP : va_P (dC, dI) vwCl [(h0, .inr (1, [.ref q1, .int 0, .int 0])), (q1, .inl (c2, 5, .inr (.inr (.inr (.inr (fun _ => none))))))] H := hP
  have hD : va_D A [(h0, .inr (1, [.ref q1, .int 0, .int 0])), (q1, .inl (c2, 5, .inr (.inr (.inr (.inr (fun _ => none))))))] := hD
  refine lv_iconst (v := 0) hx hb dX1_init_22 (by decide) ?_
  refine lv_istore_n (lv' := [(1, .int 0), (0, .ref h0)]) hx hb dX1_init_23 rfl hl (by decide) rfl (fun ls hl => ?_)
  refine lv_iload_n hx hb dX1_init_24 rfl (lv_at hl 0 rfl) ?_
  refine lv_iconst (v := 5) hx hb dX1_init_25 (by decide) ?_
  refine lv_icmp_ge (tgt := 48) hx hb dX1_init_26 (by decide) (fun c9 => absurd c9 (by decide)) (fun c9 => ?_)
  refine lv_aload_n hx hb dX1_init_29 rfl (lv_at hl 1 rfl) ?_
  refine va_get (D := (dC, dI)) (ci := 1) (v := .ref q1) (C := RX1) (T := TX1) (N := 3) hx hb hts uwX1 hown hK hP 0 rfl rfl 0 (by decide) (hts _ wd_100) (fun _ h9 => h9) rfl dX1_init_30 ?_
  refine lv_iload_n hx hb dX1_init_33 rfl (lv_at hl 0 rfl) ?_
  refine va_new (ci := 4) (fs := [.null, .int 0, .double 0]) (C := RX4) (T := TX4) (N := 3) hx hb hts uwX4 tyX4 tyX4_ok hown (hts _ wd_79) (hts _ wd_81) (hts _ wd_48) hK hP hD hS hA rfl (fun j hj => by rcases (show j = 0 ∨ j = 1 ∨ j = 2 by omega) with rfl | rfl | rfl <;> rfl) (Nat.le_of_ble_eq_true rfl) (Nat.le_of_ble_eq_true rfl) dX1_init_34 (fun q3 H hP hD hS => ?_)
  have hP : va_P (dC, dI) vwCl [(h0, .inr (1, [.ref q1, .int 0, .int 0])), (q1, .inl (c2, 5, .inr (.inr (.inr (.inr (fun _ => none)))))), (q3, .inr (4, [.null, .int 0, .double 0]))] H := hP
  have hD : va_D A [(h0, .inr (1, [.ref q1, .int 0, .int 0])), (q1, .inl (c2, 5, .inr (.inr (.inr (.inr (fun _ => none)))))), (q3, .inr (4, [.null, .int 0, .double 0]))] := hD
  refine lv_dup hx hb dX1_init_37 rfl ?_
  refine gk_v (wc := [(q3, .inr (4, [.null, .int 0, .double 0]))]) (wr := [(h0, .inr (1, [.ref q1, .int 0, .int 0])), (q1, .inl (c2, 5, .inr (.inr (.inr (.inr (fun _ => none))))))]) (w1 := wX4_init q3) (va_runIN (As := []) (rest := [.ref q3, .int 0, .ref q1]) ⟨hx, hb, hml, hown, hts⟩ (cX4_init l dC dI q3 H.size) ⟨va_cnB 0 hts (gG wd_84) rfl rfl rfl (nE_n1 hE) (hts _ wd_48) (by decide +kernel) ⟨(Nat.le_of_ble_eq_true rfl), (Nat.le_of_ble_eq_true rfl)⟩, rfl, hts _ wd_83⟩ ⟨gB_blind nE_ok, gB_pre nE_ok (w := [(q3, .inr (4, [.null, .int 0, .double 0]))]) (hP.sub [2] rfl) (hK.sub (tys' := []) [] rfl) (hD.sub [2] (by decide) rfl) (nE_nE hE) hS hA⟩ rfl rfl hl.1 rfl (lv_room (Nat.le_of_ble_eq_true rfl)) dX1_init_38 ⟨(Nat.le_of_ble_eq_true rfl), (Nat.le_of_ble_eq_true rfl)⟩) hP hD hK hS hA [2] [0, 1] rfl rfl (by decide) (by decide) (fun u4 H locs hP hD hK hS => ?_)
  have hP : va_P (dC, dI) vwCl [(h0, .inr (1, [.ref q1, .int 0, .int 0])), (q1, .inl (c2, 5, .inr (.inr (.inr (.inr (fun _ => none)))))), (q3, .inr (4, [.null, .int 0, .double FP.dconst0]))] H := hP
  have hD : va_D A [(h0, .inr (1, [.ref q1, .int 0, .int 0])), (q1, .inl (c2, 5, .inr (.inr (.inr (.inr (fun _ => none)))))), (q3, .inr (4, [.null, .int 0, .double FP.dconst0]))] := hD
  have hK : va_K (dC, dI) vwCl [(c2, .object "WorkHall$Worker")] s := hK
  refine va_astq (r := (RX4, TX4, 3)) hx hb hK hP hD hS 1 0 2 4 rfl rfl rfl rfl (by unfold vp_in; decide) dX1_init_41 (fun H locs hP hD hS => ?_)
  have hP : va_P (dC, dI) vwCl [(h0, .inr (1, [.ref q1, .int 0, .int 0])), (q1, .inl (c2, 5, .inr (.inr (.inr (.inr (va_up (fun _ => none) 0 (some q3))))))), (q3, .inr (4, [.null, .int 0, .double FP.dconst0]))] H := hP
  have hD : va_D A [(h0, .inr (1, [.ref q1, .int 0, .int 0])), (q1, .inl (c2, 5, .inr (.inr (.inr (.inr (va_up (fun _ => none) 0 (some q3))))))), (q3, .inr (4, [.null, .int 0, .double FP.dconst0]))] := hD
  refine lv_iinc (v := 1) (lv' := [(1, .int 1), (0, .ref h0)]) hx hb dX1_init_42 hl (k := 0) rfl (by decide) (by decide) rfl (fun ls hl => ?_)
  refine lv_goto (tgt := 24) hx hb dX1_init_45 (by decide) ?_
  refine lv_iload_n hx hb dX1_init_24 rfl (lv_at hl 0 rfl) ?_
  refine lv_iconst (v := 5) hx hb dX1_init_25 (by decide) ?_
  refine lv_icmp_ge (tgt := 48) hx hb dX1_init_26 (by decide) (fun c9 => absurd c9 (by decide)) (fun c9 => ?_)
  refine lv_aload_n hx hb dX1_init_29 rfl (lv_at hl 1 rfl) ?_
  refine va_get (D := (dC, dI)) (ci := 1) (v := .ref q1) (C := RX1) (T := TX1) (N := 3) hx hb hts uwX1 hown hK hP 0 rfl rfl 0 (by decide) (hts _ wd_100) (fun _ h9 => h9) rfl dX1_init_30 ?_
  refine lv_iload_n hx hb dX1_init_33 rfl (lv_at hl 0 rfl) ?_
  refine va_new (ci := 4) (fs := [.null, .int 0, .double 0]) (C := RX4) (T := TX4) (N := 3) hx hb hts uwX4 tyX4 tyX4_ok hown (hts _ wd_79) (hts _ wd_81) (hts _ wd_48) hK hP hD hS hA rfl (fun j hj => by rcases (show j = 0 ∨ j = 1 ∨ j = 2 by omega) with rfl | rfl | rfl <;> rfl) (Nat.le_of_ble_eq_true rfl) (Nat.le_of_ble_eq_true rfl) dX1_init_34 (fun q5 H hP hD hS => ?_)
  have hP : va_P (dC, dI) vwCl [(h0, .inr (1, [.ref q1, .int 0, .int 0])), (q1, .inl (c2, 5, .inr (.inr (.inr (.inr (va_up (fun _ => none) 0 (some q3))))))), (q3, .inr (4, [.null, .int 0, .double FP.dconst0])), (q5, .inr (4, [.null, .int 0, .double 0]))] H := hP
  have hD : va_D A [(h0, .inr (1, [.ref q1, .int 0, .int 0])), (q1, .inl (c2, 5, .inr (.inr (.inr (.inr (va_up (fun _ => none) 0 (some q3))))))), (q3, .inr (4, [.null, .int 0, .double FP.dconst0])), (q5, .inr (4, [.null, .int 0, .double 0]))] := hD
  refine lv_dup hx hb dX1_init_37 rfl ?_
  refine gk_v (wc := [(q5, .inr (4, [.null, .int 0, .double 0]))]) (wr := [(h0, .inr (1, [.ref q1, .int 0, .int 0])), (q1, .inl (c2, 5, .inr (.inr (.inr (.inr (va_up (fun _ => none) 0 (some q3))))))), (q3, .inr (4, [.null, .int 0, .double FP.dconst0]))]) (w1 := wX4_init q5) (va_runIN (As := []) (rest := [.ref q5, .int 1, .ref q1]) ⟨hx, hb, hml, hown, hts⟩ (cX4_init l dC dI q5 H.size) ⟨va_cnB 0 hts (gG wd_84) rfl rfl rfl (nE_n1 hE) (hts _ wd_48) (by decide +kernel) ⟨(Nat.le_of_ble_eq_true rfl), (Nat.le_of_ble_eq_true rfl)⟩, rfl, hts _ wd_83⟩ ⟨gB_blind nE_ok, gB_pre nE_ok (w := [(q5, .inr (4, [.null, .int 0, .double 0]))]) (hP.sub [3] rfl) (hK.sub (tys' := []) [] rfl) (hD.sub [3] (by decide) rfl) (nE_nE hE) hS hA⟩ rfl rfl hl.1 rfl (lv_room (Nat.le_of_ble_eq_true rfl)) dX1_init_38 ⟨(Nat.le_of_ble_eq_true rfl), (Nat.le_of_ble_eq_true rfl)⟩) hP hD hK hS hA [3] [0, 1, 2] rfl rfl (by decide) (by decide) (fun u6 H locs hP hD hK hS => ?_)
  have hP : va_P (dC, dI) vwCl [(h0, .inr (1, [.ref q1, .int 0, .int 0])), (q1, .inl (c2, 5, .inr (.inr (.inr (.inr (va_up (fun _ => none) 0 (some q3))))))), (q3, .inr (4, [.null, .int 0, .double FP.dconst0])), (q5, .inr (4, [.null, .int 0, .double FP.dconst0]))] H := hP
  have hD : va_D A [(h0, .inr (1, [.ref q1, .int 0, .int 0])), (q1, .inl (c2, 5, .inr (.inr (.inr (.inr (va_up (fun _ => none) 0 (some q3))))))), (q3, .inr (4, [.null, .int 0, .double FP.dconst0])), (q5, .inr (4, [.null, .int 0, .double FP.dconst0]))] := hD
  have hK : va_K (dC, dI) vwCl [(c2, .object "WorkHall$Worker")] s := hK
  refine va_astq (r := (RX4, TX4, 3)) hx hb hK hP hD hS 1 0 3 4 rfl rfl rfl rfl (by unfold vp_in; decide) dX1_init_41 (fun H locs hP hD hS => ?_)
  have hP : va_P (dC, dI) vwCl [(h0, .inr (1, [.ref q1, .int 0, .int 0])), (q1, .inl (c2, 5, .inr (.inr (.inr (.inr (va_up (va_up (fun _ => none) 0 (some q3)) 1 (some q5))))))), (q3, .inr (4, [.null, .int 0, .double FP.dconst0])), (q5, .inr (4, [.null, .int 0, .double FP.dconst0]))] H := hP
  have hD : va_D A [(h0, .inr (1, [.ref q1, .int 0, .int 0])), (q1, .inl (c2, 5, .inr (.inr (.inr (.inr (va_up (va_up (fun _ => none) 0 (some q3)) 1 (some q5))))))), (q3, .inr (4, [.null, .int 0, .double FP.dconst0])), (q5, .inr (4, [.null, .int 0, .double FP.dconst0]))] := hD
  refine lv_iinc (v := 2) (lv' := [(1, .int 2), (0, .ref h0)]) hx hb dX1_init_42 hl (k := 0) rfl (by decide) (by decide) rfl (fun ls hl => ?_)
  refine lv_goto (tgt := 24) hx hb dX1_init_45 (by decide) ?_
  refine lv_iload_n hx hb dX1_init_24 rfl (lv_at hl 0 rfl) ?_
  refine lv_iconst (v := 5) hx hb dX1_init_25 (by decide) ?_
  refine lv_icmp_ge (tgt := 48) hx hb dX1_init_26 (by decide) (fun c9 => absurd c9 (by decide)) (fun c9 => ?_)
  refine lv_aload_n hx hb dX1_init_29 rfl (lv_at hl 1 rfl) ?_
  refine va_get (D := (dC, dI)) (ci := 1) (v := .ref q1) (C := RX1) (T := TX1) (N := 3) hx hb hts uwX1 hown hK hP 0 rfl rfl 0 (by decide) (hts _ wd_100) (fun _ h9 => h9) rfl dX1_init_30 ?_
  refine lv_iload_n hx hb dX1_init_33 rfl (lv_at hl 0 rfl) ?_
  refine va_new (ci := 4) (fs := [.null, .int 0, .double 0]) (C := RX4) (T := TX4) (N := 3) hx hb hts uwX4 tyX4 tyX4_ok hown (hts _ wd_79) (hts _ wd_81) (hts _ wd_48) hK hP hD hS hA rfl (fun j hj => by rcases (show j = 0 ∨ j = 1 ∨ j = 2 by omega) with rfl | rfl | rfl <;> rfl) (Nat.le_of_ble_eq_true rfl) (Nat.le_of_ble_eq_true rfl) dX1_init_34 (fun q7 H hP hD hS => ?_)
  have hP : va_P (dC, dI) vwCl [(h0, .inr (1, [.ref q1, .int 0, .int 0])), (q1, .inl (c2, 5, .inr (.inr (.inr (.inr (va_up (va_up (fun _ => none) 0 (some q3)) 1 (some q5))))))), (q3, .inr (4, [.null, .int 0, .double FP.dconst0])), (q5, .inr (4, [.null, .int 0, .double FP.dconst0])), (q7, .inr (4, [.null, .int 0, .double 0]))] H := hP
  have hD : va_D A [(h0, .inr (1, [.ref q1, .int 0, .int 0])), (q1, .inl (c2, 5, .inr (.inr (.inr (.inr (va_up (va_up (fun _ => none) 0 (some q3)) 1 (some q5))))))), (q3, .inr (4, [.null, .int 0, .double FP.dconst0])), (q5, .inr (4, [.null, .int 0, .double FP.dconst0])), (q7, .inr (4, [.null, .int 0, .double 0]))] := hD
  refine lv_dup hx hb dX1_init_37 rfl ?_
  refine gk_v (wc := [(q7, .inr (4, [.null, .int 0, .double 0]))]) (wr := [(h0, .inr (1, [.ref q1, .int 0, .int 0])), (q1, .inl (c2, 5, .inr (.inr (.inr (.inr (va_up (va_up (fun _ => none) 0 (some q3)) 1 (some q5))))))), (q3, .inr (4, [.null, .int 0, .double FP.dconst0])), (q5, .inr (4, [.null, .int 0, .double FP.dconst0]))]) (w1 := wX4_init q7) (va_runIN (As := []) (rest := [.ref q7, .int 2, .ref q1]) ⟨hx, hb, hml, hown, hts⟩ (cX4_init l dC dI q7 H.size) ⟨va_cnB 0 hts (gG wd_84) rfl rfl rfl (nE_n1 hE) (hts _ wd_48) (by decide +kernel) ⟨(Nat.le_of_ble_eq_true rfl), (Nat.le_of_ble_eq_true rfl)⟩, rfl, hts _ wd_83⟩ ⟨gB_blind nE_ok, gB_pre nE_ok (w := [(q7, .inr (4, [.null, .int 0, .double 0]))]) (hP.sub [4] rfl) (hK.sub (tys' := []) [] rfl) (hD.sub [4] (by decide) rfl) (nE_nE hE) hS hA⟩ rfl rfl hl.1 rfl (lv_room (Nat.le_of_ble_eq_true rfl)) dX1_init_38 ⟨(Nat.le_of_ble_eq_true rfl), (Nat.le_of_ble_eq_true rfl)⟩) hP hD hK hS hA [4] [0, 1, 2, 3] rfl rfl (by decide) (by decide) (fun u8 H locs hP hD hK hS => ?_)
  have hP : va_P (dC, dI) vwCl [(h0, .inr (1, [.ref q1, .int 0, .int 0])), (q1, .inl (c2, 5, .inr (.inr (.inr (.inr (va_up (va_up (fun _ => none) 0 (some q3)) 1 (some q5))))))), (q3, .inr (4, [.null, .int 0, .double FP.dconst0])), (q5, .inr (4, [.null, .int 0, .double FP.dconst0])), (q7, .inr (4, [.null, .int 0, .double FP.dconst0]))] H := hP
  have hD : va_D A [(h0, .inr (1, [.ref q1, .int 0, .int 0])), (q1, .inl (c2, 5, .inr (.inr (.inr (.inr (va_up (va_up (fun _ => none) 0 (some q3)) 1 (some q5))))))), (q3, .inr (4, [.null, .int 0, .double FP.dconst0])), (q5, .inr (4, [.null, .int 0, .double FP.dconst0])), (q7, .inr (4, [.null, .int 0, .double FP.dconst0]))] := hD
  have hK : va_K (dC, dI) vwCl [(c2, .object "WorkHall$Worker")] s := hK
  refine va_astq (r := (RX4, TX4, 3)) hx hb hK hP hD hS 1 0 4 4 rfl rfl rfl rfl (by unfold vp_in; decide) dX1_init_41 (fun H locs hP hD hS => ?_)
  have hP : va_P (dC, dI) vwCl [(h0, .inr (1, [.ref q1, .int 0, .int 0])), (q1, .inl (c2, 5, .inr (.inr (.inr (.inr (va_up (va_up (va_up (fun _ => none) 0 (some q3)) 1 (some q5)) 2 (some q7))))))), (q3, .inr (4, [.null, .int 0, .double FP.dconst0])), (q5, .inr (4, [.null, .int 0, .double FP.dconst0])), (q7, .inr (4, [.null, .int 0, .double FP.dconst0]))] H := hP
  have hD : va_D A [(h0, .inr (1, [.ref q1, .int 0, .int 0])), (q1, .inl (c2, 5, .inr (.inr (.inr (.inr (va_up (va_up (va_up (fun _ => none) 0 (some q3)) 1 (some q5)) 2 (some q7))))))), (q3, .inr (4, [.null, .int 0, .double FP.dconst0])), (q5, .inr (4, [.null, .int 0, .double FP.dconst0])), (q7, .inr (4, [.null, .int 0, .double FP.dconst0]))] := hD
  refine lv_iinc (v := 3) (lv' := [(1, .int 3), (0, .ref h0)]) hx hb dX1_init_42 hl (k := 0) rfl (by decide) (by decide) rfl (fun ls hl => ?_)
  refine lv_goto (tgt := 24) hx hb dX1_init_45 (by decide) ?_
  refine lv_iload_n hx hb dX1_init_24 rfl (lv_at hl 0 rfl) ?_
  refine lv_iconst (v := 5) hx hb dX1_init_25 (by decide) ?_
  refine lv_icmp_ge (tgt := 48) hx hb dX1_init_26 (by decide) (fun c9 => absurd c9 (by decide)) (fun c9 => ?_)
  refine lv_aload_n hx hb dX1_init_29 rfl (lv_at hl 1 rfl) ?_
  refine va_get (D := (dC, dI)) (ci := 1) (v := .ref q1) (C := RX1) (T := TX1) (N := 3) hx hb hts uwX1 hown hK hP 0 rfl rfl 0 (by decide) (hts _ wd_100) (fun _ h9 => h9) rfl dX1_init_30 ?_
  refine lv_iload_n hx hb dX1_init_33 rfl (lv_at hl 0 rfl) ?_
  refine va_new (ci := 4) (fs := [.null, .int 0, .double 0]) (C := RX4) (T := TX4) (N := 3) hx hb hts uwX4 tyX4 tyX4_ok hown (hts _ wd_79) (hts _ wd_81) (hts _ wd_48) hK hP hD hS hA rfl (fun j hj => by rcases (show j = 0 ∨ j = 1 ∨ j = 2 by omega) with rfl | rfl | rfl <;> rfl) (Nat.le_of_ble_eq_true rfl) (Nat.le_of_ble_eq_true rfl) dX1_init_34 (fun q9 H hP hD hS => ?_)
  have hP : va_P (dC, dI) vwCl [(h0, .inr (1, [.ref q1, .int 0, .int 0])), (q1, .inl (c2, 5, .inr (.inr (.inr (.inr (va_up (va_up (va_up (fun _ => none) 0 (some q3)) 1 (some q5)) 2 (some q7))))))), (q3, .inr (4, [.null, .int 0, .double FP.dconst0])), (q5, .inr (4, [.null, .int 0, .double FP.dconst0])), (q7, .inr (4, [.null, .int 0, .double FP.dconst0])), (q9, .inr (4, [.null, .int 0, .double 0]))] H := hP
  have hD : va_D A [(h0, .inr (1, [.ref q1, .int 0, .int 0])), (q1, .inl (c2, 5, .inr (.inr (.inr (.inr (va_up (va_up (va_up (fun _ => none) 0 (some q3)) 1 (some q5)) 2 (some q7))))))), (q3, .inr (4, [.null, .int 0, .double FP.dconst0])), (q5, .inr (4, [.null, .int 0, .double FP.dconst0])), (q7, .inr (4, [.null, .int 0, .double FP.dconst0])), (q9, .inr (4, [.null, .int 0, .double 0]))] := hD
  refine lv_dup hx hb dX1_init_37 rfl ?_
  refine gk_v (wc := [(q9, .inr (4, [.null, .int 0, .double 0]))]) (wr := [(h0, .inr (1, [.ref q1, .int 0, .int 0])), (q1, .inl (c2, 5, .inr (.inr (.inr (.inr (va_up (va_up (va_up (fun _ => none) 0 (some q3)) 1 (some q5)) 2 (some q7))))))), (q3, .inr (4, [.null, .int 0, .double FP.dconst0])), (q5, .inr (4, [.null, .int 0, .double FP.dconst0])), (q7, .inr (4, [.null, .int 0, .double FP.dconst0]))]) (w1 := wX4_init q9) (va_runIN (As := []) (rest := [.ref q9, .int 3, .ref q1]) ⟨hx, hb, hml, hown, hts⟩ (cX4_init l dC dI q9 H.size) ⟨va_cnB 0 hts (gG wd_84) rfl rfl rfl (nE_n1 hE) (hts _ wd_48) (by decide +kernel) ⟨(Nat.le_of_ble_eq_true rfl), (Nat.le_of_ble_eq_true rfl)⟩, rfl, hts _ wd_83⟩ ⟨gB_blind nE_ok, gB_pre nE_ok (w := [(q9, .inr (4, [.null, .int 0, .double 0]))]) (hP.sub [5] rfl) (hK.sub (tys' := []) [] rfl) (hD.sub [5] (by decide) rfl) (nE_nE hE) hS hA⟩ rfl rfl hl.1 rfl (lv_room (Nat.le_of_ble_eq_true rfl)) dX1_init_38 ⟨(Nat.le_of_ble_eq_true rfl), (Nat.le_of_ble_eq_true rfl)⟩) hP hD hK hS hA [5] [0, 1, 2, 3, 4] rfl rfl (by decide) (by decide) (fun u10 H locs hP hD hK hS => ?_)
  have hP : va_P (dC, dI) vwCl [(h0, .inr (1, [.ref q1, .int 0, .int 0])), (q1, .inl (c2, 5, .inr (.inr (.inr (.inr (va_up (va_up (va_up (fun _ => none) 0 (some q3)) 1 (some q5)) 2 (some q7))))))), (q3, .inr (4, [.null, .int 0, .double FP.dconst0])), (q5, .inr (4, [.null, .int 0, .double FP.dconst0])), (q7, .inr (4, [.null, .int 0, .double FP.dconst0])), (q9, .inr (4, [.null, .int 0, .double FP.dconst0]))] H := hP
  have hD : va_D A [(h0, .inr (1, [.ref q1, .int 0, .int 0])), (q1, .inl (c2, 5, .inr (.inr (.inr (.inr (va_up (va_up (va_up (fun _ => none) 0 (some q3)) 1 (some q5)) 2 (some q7))))))), (q3, .inr (4, [.null, .int 0, .double FP.dconst0])), (q5, .inr (4, [.null, .int 0, .double FP.dconst0])), (q7, .inr (4, [.null, .int 0, .double FP.dconst0])), (q9, .inr (4, [.null, .int 0, .double FP.dconst0]))] := hD
  have hK : va_K (dC, dI) vwCl [(c2, .object "WorkHall$Worker")] s := hK
  refine va_astq (r := (RX4, TX4, 3)) hx hb hK hP hD hS 1 0 5 4 rfl rfl rfl rfl (by unfold vp_in; decide) dX1_init_41 (fun H locs hP hD hS => ?_)
  have hP : va_P (dC, dI) vwCl [(h0, .inr (1, [.ref q1, .int 0, .int 0])), (q1, .inl (c2, 5, .inr (.inr (.inr (.inr (va_up (va_up (va_up (va_up (fun _ => none) 0 (some q3)) 1 (some q5)) 2 (some q7)) 3 (some q9))))))), (q3, .inr (4, [.null, .int 0, .double FP.dconst0])), (q5, .inr (4, [.null, .int 0, .double FP.dconst0])), (q7, .inr (4, [.null, .int 0, .double FP.dconst0])), (q9, .inr (4, [.null, .int 0, .double FP.dconst0]))] H := hP
  have hD : va_D A [(h0, .inr (1, [.ref q1, .int 0, .int 0])), (q1, .inl (c2, 5, .inr (.inr (.inr (.inr (va_up (va_up (va_up (va_up (fun _ => none) 0 (some q3)) 1 (some q5)) 2 (some q7)) 3 (some q9))))))), (q3, .inr (4, [.null, .int 0, .double FP.dconst0])), (q5, .inr (4, [.null, .int 0, .double FP.dconst0])), (q7, .inr (4, [.null, .int 0, .double FP.dconst0])), (q9, .inr (4, [.null, .int 0, .double FP.dconst0]))] := hD
  refine lv_iinc (v := 4) (lv' := [(1, .int 4), (0, .ref h0)]) hx hb dX1_init_42 hl (k := 0) rfl (by decide) (by decide) rfl (fun ls hl => ?_)
  refine lv_goto (tgt := 24) hx hb dX1_init_45 (by decide) ?_
  refine lv_iload_n hx hb dX1_init_24 rfl (lv_at hl 0 rfl) ?_
  refine lv_iconst (v := 5) hx hb dX1_init_25 (by decide) ?_
  refine lv_icmp_ge (tgt := 48) hx hb dX1_init_26 (by decide) (fun c9 => absurd c9 (by decide)) (fun c9 => ?_)
  refine lv_aload_n hx hb dX1_init_29 rfl (lv_at hl 1 rfl) ?_
  refine va_get (D := (dC, dI)) (ci := 1) (v := .ref q1) (C := RX1) (T := TX1) (N := 3) hx hb hts uwX1 hown hK hP 0 rfl rfl 0 (by decide) (hts _ wd_100) (fun _ h9 => h9) rfl dX1_init_30 ?_
  refine lv_iload_n hx hb dX1_init_33 rfl (lv_at hl 0 rfl) ?_
  refine va_new (ci := 4) (fs := [.null, .int 0, .double 0]) (C := RX4) (T := TX4) (N := 3) hx hb hts uwX4 tyX4 tyX4_ok hown (hts _ wd_79) (hts _ wd_81) (hts _ wd_48) hK hP hD hS hA rfl (fun j hj => by rcases (show j = 0 ∨ j = 1 ∨ j = 2 by omega) with rfl | rfl | rfl <;> rfl) (Nat.le_of_ble_eq_true rfl) (Nat.le_of_ble_eq_true rfl) dX1_init_34 (fun q11 H hP hD hS => ?_)
  have hP : va_P (dC, dI) vwCl [(h0, .inr (1, [.ref q1, .int 0, .int 0])), (q1, .inl (c2, 5, .inr (.inr (.inr (.inr (va_up (va_up (va_up (va_up (fun _ => none) 0 (some q3)) 1 (some q5)) 2 (some q7)) 3 (some q9))))))), (q3, .inr (4, [.null, .int 0, .double FP.dconst0])), (q5, .inr (4, [.null, .int 0, .double FP.dconst0])), (q7, .inr (4, [.null, .int 0, .double FP.dconst0])), (q9, .inr (4, [.null, .int 0, .double FP.dconst0])), (q11, .inr (4, [.null, .int 0, .double 0]))] H := hP
  have hD : va_D A [(h0, .inr (1, [.ref q1, .int 0, .int 0])), (q1, .inl (c2, 5, .inr (.inr (.inr (.inr (va_up (va_up (va_up (va_up (fun _ => none) 0 (some q3)) 1 (some q5)) 2 (some q7)) 3 (some q9))))))), (q3, .inr (4, [.null, .int 0, .double FP.dconst0])), (q5, .inr (4, [.null, .int 0, .double FP.dconst0])), (q7, .inr (4, [.null, .int 0, .double FP.dconst0])), (q9, .inr (4, [.null, .int 0, .double FP.dconst0])), (q11, .inr (4, [.null, .int 0, .double 0]))] := hD
  refine lv_dup hx hb dX1_init_37 rfl ?_
  refine gk_v (wc := [(q11, .inr (4, [.null, .int 0, .double 0]))]) (wr := [(h0, .inr (1, [.ref q1, .int 0, .int 0])), (q1, .inl (c2, 5, .inr (.inr (.inr (.inr (va_up (va_up (va_up (va_up (fun _ => none) 0 (some q3)) 1 (some q5)) 2 (some q7)) 3 (some q9))))))), (q3, .inr (4, [.null, .int 0, .double FP.dconst0])), (q5, .inr (4, [.null, .int 0, .double FP.dconst0])), (q7, .inr (4, [.null, .int 0, .double FP.dconst0])), (q9, .inr (4, [.null, .int 0, .double FP.dconst0]))]) (w1 := wX4_init q11) (va_runIN (As := []) (rest := [.ref q11, .int 4, .ref q1]) ⟨hx, hb, hml, hown, hts⟩ (cX4_init l dC dI q11 H.size) ⟨va_cnB 0 hts (gG wd_84) rfl rfl rfl (nE_n1 hE) (hts _ wd_48) (by decide +kernel) ⟨(Nat.le_of_ble_eq_true rfl), (Nat.le_of_ble_eq_true rfl)⟩, rfl, hts _ wd_83⟩ ⟨gB_blind nE_ok, gB_pre nE_ok (w := [(q11, .inr (4, [.null, .int 0, .double 0]))]) (hP.sub [6] rfl) (hK.sub (tys' := []) [] rfl) (hD.sub [6] (by decide) rfl) (nE_nE hE) hS hA⟩ rfl rfl hl.1 rfl (lv_room (Nat.le_of_ble_eq_true rfl)) dX1_init_38 ⟨(Nat.le_of_ble_eq_true rfl), (Nat.le_of_ble_eq_true rfl)⟩) hP hD hK hS hA [6] [0, 1, 2, 3, 4, 5] rfl rfl (by decide) (by decide) (fun u12 H locs hP hD hK hS => ?_)
  have hP : va_P (dC, dI) vwCl [(h0, .inr (1, [.ref q1, .int 0, .int 0])), (q1, .inl (c2, 5, .inr (.inr (.inr (.inr (va_up (va_up (va_up (va_up (fun _ => none) 0 (some q3)) 1 (some q5)) 2 (some q7)) 3 (some q9))))))), (q3, .inr (4, [.null, .int 0, .double FP.dconst0])), (q5, .inr (4, [.null, .int 0, .double FP.dconst0])), (q7, .inr (4, [.null, .int 0, .double FP.dconst0])), (q9, .inr (4, [.null, .int 0, .double FP.dconst0])), (q11, .inr (4, [.null, .int 0, .double FP.dconst0]))] H := hP
  have hD : va_D A [(h0, .inr (1, [.ref q1, .int 0, .int 0])), (q1, .inl (c2, 5, .inr (.inr (.inr (.inr (va_up (va_up (va_up (va_up (fun _ => none) 0 (some q3)) 1 (some q5)) 2 (some q7)) 3 (some q9))))))), (q3, .inr (4, [.null, .int 0, .double FP.dconst0])), (q5, .inr (4, [.null, .int 0, .double FP.dconst0])), (q7, .inr (4, [.null, .int 0, .double FP.dconst0])), (q9, .inr (4, [.null, .int 0, .double FP.dconst0])), (q11, .inr (4, [.null, .int 0, .double FP.dconst0]))] := hD
  have hK : va_K (dC, dI) vwCl [(c2, .object "WorkHall$Worker")] s := hK
  refine va_astq (r := (RX4, TX4, 3)) hx hb hK hP hD hS 1 0 6 4 rfl rfl rfl rfl (by unfold vp_in; decide) dX1_init_41 (fun H locs hP hD hS => ?_)
  have hP : va_P (dC, dI) vwCl [(h0, .inr (1, [.ref q1, .int 0, .int 0])), (q1, .inl (c2, 5, .inr (.inr (.inr (.inr (va_up (va_up (va_up (va_up (va_up (fun _ => none) 0 (some q3)) 1 (some q5)) 2 (some q7)) 3 (some q9)) 4 (some q11))))))), (q3, .inr (4, [.null, .int 0, .double FP.dconst0])), (q5, .inr (4, [.null, .int 0, .double FP.dconst0])), (q7, .inr (4, [.null, .int 0, .double FP.dconst0])), (q9, .inr (4, [.null, .int 0, .double FP.dconst0])), (q11, .inr (4, [.null, .int 0, .double FP.dconst0]))] H := hP
  have hD : va_D A [(h0, .inr (1, [.ref q1, .int 0, .int 0])), (q1, .inl (c2, 5, .inr (.inr (.inr (.inr (va_up (va_up (va_up (va_up (va_up (fun _ => none) 0 (some q3)) 1 (some q5)) 2 (some q7)) 3 (some q9)) 4 (some q11))))))), (q3, .inr (4, [.null, .int 0, .double FP.dconst0])), (q5, .inr (4, [.null, .int 0, .double FP.dconst0])), (q7, .inr (4, [.null, .int 0, .double FP.dconst0])), (q9, .inr (4, [.null, .int 0, .double FP.dconst0])), (q11, .inr (4, [.null, .int 0, .double FP.dconst0]))] := hD
  refine lv_iinc (v := 5) (lv' := [(1, .int 5), (0, .ref h0)]) hx hb dX1_init_42 hl (k := 0) rfl (by decide) (by decide) rfl (fun ls hl => ?_)
  refine lv_goto (tgt := 24) hx hb dX1_init_45 (by decide) ?_
  refine lv_iload_n hx hb dX1_init_24 rfl (lv_at hl 0 rfl) ?_
  refine lv_iconst (v := 5) hx hb dX1_init_25 (by decide) ?_
  refine lv_icmp_ge (tgt := 48) hx hb dX1_init_26 (by decide) (fun c9 => ?_) (fun c9 => absurd c9 (by decide))
  refine W.widen (k := 6) (n := 20) (Nat.le_of_ble_eq_true rfl) (Nat.le_of_ble_eq_true rfl) ?_
  exact W.vret hx hb hr (fun t ht hW => ⟨⟨((fun k => match k with | 0 => q1 | 1 => q3 | 2 => q5 | 3 => q7 | 4 => q9 | 5 => q11 | _ => 0), (fun k => match k with | 0 => c2 | _ => dC 0)), rfl, trivial, by rw [ht]; exact hP, va_K.moved hW.alike hK, hD⟩, hS.F ht⟩) hS.2.2 dX1_init_48

theorem dX2_init_0 : decode prog_4_method_1_code 0 = .ok (.aload_n 0, 1) := by decide +kernel
theorem dX2_init_1 : decode prog_4_method_1_code 1 = .ok (.invokespecial 3, 3) := by decide +kernel
theorem dX2_init_4 : decode prog_4_method_1_code 4 = .ok (.aload_n 0, 1) := by decide +kernel
theorem dX2_init_5 : decode prog_4_method_1_code 5 = .ok (.iconst 4, 1) := by decide +kernel
theorem dX2_init_6 : decode prog_4_method_1_code 6 = .ok (.anewarray 9, 3) := by decide +kernel
theorem dX2_init_9 : decode prog_4_method_1_code 9 = .ok (.putfield 11, 3) := by decide +kernel
theorem dX2_init_12 : decode prog_4_method_1_code 12 = .ok (.aload_n 0, 1) := by decide +kernel
theorem dX2_init_13 : decode prog_4_method_1_code 13 = .ok (.iconst 4, 1) := by decide +kernel
theorem dX2_init_14 : decode prog_4_method_1_code 14 = .ok (.newarray .double, 2) := by decide +kernel
theorem dX2_init_16 : decode prog_4_method_1_code 16 = .ok (.putfield 17, 3) := by decide +kernel
theorem dX2_init_19 : decode prog_4_method_1_code 19 = .ok (.aload_n 0, 1) := by decide +kernel
theorem dX2_init_20 : decode prog_4_method_1_code 20 = .ok (.iconst 0, 1) := by decide +kernel
theorem dX2_init_21 : decode prog_4_method_1_code 21 = .ok (.putfield 21, 3) := by decide +kernel
theorem dX2_init_24 : decode prog_4_method_1_code 24 = .ok (.aload_n 0, 1) := by decide +kernel
theorem dX2_init_25 : decode prog_4_method_1_code 25 = .ok (.iconst 0, 1) := by decide +kernel
theorem dX2_init_26 : decode prog_4_method_1_code 26 = .ok (.putfield 25, 3) := by decide +kernel
theorem dX2_init_29 : decode prog_4_method_1_code 29 = .ok (.aload_n 0, 1) := by decide +kernel
theorem dX2_init_30 : decode prog_4_method_1_code 30 = .ok (.dconst 0, 1) := by decide +kernel
theorem dX2_init_31 : decode prog_4_method_1_code 31 = .ok (.putfield 28, 3) := by decide +kernel
theorem dX2_init_34 : decode prog_4_method_1_code 34 = .ok (.return_, 1) := by decide +kernel
def wX2_init (h0 : Nat) (u : cS) : va_W := [(h0, .inr (2, [.ref (u.1 0), .ref (u.1 1), .int 0, .int 0, .double FP.dconst0])), ((u.1 0), .inl ((u.2 0), 4, .inr (.inr (.inr (.inr (fun _ => none)))))), ((u.1 1), .inl ((u.2 1), 4, .inr (.inr (.inr (.inl (fun _ => 0))))))]
def tX2_init (u : cS) : List (ClassId × FieldType) := [((u.2 0), .object "WorkHall$Job"), ((u.2 1), .double)]
set_option maxHeartbeats 8000000 in
set_option maxRecDepth 100000 in
theorem cX2_init (l : Launch) (dC : Nat → ClassId) (dI : Nat → Nat → Nat) (h0 sz : Nat) : Met l ⟨"WorkHall$Line", "<init>", "()V"⟩ (gw ⟨"WorkHall$Line", "<init>", "()V"⟩ prog_4_method_1_code 1 none) ({ frames := 1, cells := 2, slots := 8, locals := 40 } : Room) (va_Pc [.ref h0] (gB (dC, dI) vwCl [] nE [(h0, .inr (2, [.null, .null, .int 0, .int 0, .double 0]))] sz)) (va_Qv (fun _ : cS => True) (cAt (dC, dI) vwCl tX2_init (wX2_init h0) (va_A [(h0, .inr (2, [.null, .null, .int 0, .int 0, .double 0]))] sz)) (va_A [(h0, .inr (2, [.null, .null, .int 0, .int 0, .double 0]))] sz)) 2 8 (va_A [(h0, .inr (2, [.null, .null, .int 0, .int 0, .double 0]))] sz) := by
  refine Met.ofW (cc := prog_4_method_1_code) (maxL := 1) (ret := none) (by decide) rfl ?_
  intro p e s m args below meth c s₁ B hml hv
  obtain ⟨rfl, hsz, hP, hK, hD0, hE⟩ := hv
  have hx := B.exec
  have hb := B.bytes
  have hr := B.returns
  have hts : ∀ w ∈ gW, w.before _ s = true := fun w h9 => atoms_spec (ws := (gw ⟨"WorkHall$Line", "<init>", "()V"⟩ prog_4_method_1_code 1 none)) B.pre w (List.mem_cons_of_mem _ h9)
  have hown : s.vm.findClass RX2 = some m.cls := findClass_of_methodNamed B.named
  have hlocks := B.notSynchronized
  have hin : meth.name = "<init>" := (name_of_methodNamed B.named B.method).1
  subst hsz
  have hD := hD0.self (sz := s.heap.size)
  generalize hAe : va_A [(h0, .inr (2, [.null, .null, .int 0, .int 0, .double 0]))] s.heap.size = A at hD hE ⊢
  have hA : ∀ q : Nat, s.heap.size ≤ q → A q := fun q h => by rw [← hAe]; exact Or.inr h
  obtain ⟨H, hHe⟩ : ∃ z : Heap, z = s.heap := ⟨_, rfl⟩
  rw [← hHe]
  have hS : va_S A s.heap H [] := by rw [hHe]; exact va_S.rf
  have hP : va_P (dC, dI) vwCl [(h0, .inr (2, [.null, .null, .int 0, .int 0, .double 0]))] H := by rw [hHe]; exact hP
  have hl := lv_entry ([.ref h0]) (n := 1) (Nat.le_of_ble_eq_true rfl)
  rw [lg_entry_eq]
  generalize (lg_sl ([.ref h0]) ++ List.replicate (1 - (lg_sl ([.ref h0])).length) Slot.unset).toArray = ls at hl ⊢
  clear hAe
  have hl : lv_has ls 1 [(0, .ref h0)] := hl
  refine lv_aload_n hx hb dX2_init_0 rfl (lv_at hl 0 rfl) ?_
  refine W.objInit hx hb hown (hts _ wd_117) (hts _ wd_69) (hts _ wo_init) rfl (by rw [hml]; exact hl.1) rfl dX2_init_1 (Nat.le_of_ble_eq_true rfl) (Nat.le_of_ble_eq_true rfl) ?_
  refine W.eq (g2 := F0 m 4 ls []) rfl ?_
  refine lv_aload_n hx hb dX2_init_4 rfl (lv_at hl 0 rfl) ?_
  refine lv_iconst (v := 4) hx hb dX2_init_5 (by decide) ?_
  refine va_newq (N' := 4) hx hb hown (hts _ wd_118) (nE_J hE) hK hP hD hS hA (by decide) (by decide) (by decide) (Nat.le_of_ble_eq_true rfl) (Nat.le_of_ble_eq_true rfl) dX2_init_6 (fun q1 c2 H hK hP hD hS => ?_)
  have hP : va_P (dC, dI) vwCl [(h0, .inr (2, [.null, .null, .int 0, .int 0, .double 0])), (q1, .inl (c2, 4, .inr (.inr (.inr (.inr (fun _ => none))))))] H := hP
  have hD : va_D A [(h0, .inr (2, [.null, .null, .int 0, .int 0, .double 0])), (q1, .inl (c2, 4, .inr (.inr (.inr (.inr (fun _ => none))))))] := hD
  have hK : va_K (dC, dI) vwCl [(c2, .object "WorkHall$Job")] s := hK
  refine va_putF (D := (dC, dI)) (ci := 2) (v := .ref q1) (ty := tyX2 0) (C := RX2) (T := TX2) (N := 5) hx hb hts uwX2 tyX2 tyX2_ok nmX2 hown hK hP hD hS 0 rfl rfl 0 (by decide) (hts _ wd_119) (fun _ h9 => h9) rfl hin rfl (tyX2_ok 0 (by decide)) rfl rfl (Nat.le_of_ble_eq_true rfl) dX2_init_9 (fun H locs hP hD hS => ?_)
  have hP : va_P (dC, dI) vwCl [(h0, .inr (2, [.ref q1, .null, .int 0, .int 0, .double 0])), (q1, .inl (c2, 4, .inr (.inr (.inr (.inr (fun _ => none))))))] H := hP
  have hD : va_D A [(h0, .inr (2, [.ref q1, .null, .int 0, .int 0, .double 0])), (q1, .inl (c2, 4, .inr (.inr (.inr (.inr (fun _ => none))))))] := hD
  refine lv_aload_n hx hb dX2_init_12 rfl (lv_at hl 0 rfl) ?_
  refine lv_iconst (v := 4) hx hb dX2_init_13 (by decide) ?_
  refine va_newa (atype := .double) (ty := .double) (N' := 4) (a0 := (4, .inr (.inr (.inr (.inl (fun _ => 0)))))) hx hb (hts _ wd_138) rfl hK hP hD hS hA (fun _ => rfl) (by decide) (by decide) (by decide) (Nat.le_of_ble_eq_true rfl) (Nat.le_of_ble_eq_true rfl) dX2_init_14 (fun q3 c4 H hK hP hD hS => ?_)
  have hP : va_P (dC, dI) vwCl [(h0, .inr (2, [.ref q1, .null, .int 0, .int 0, .double 0])), (q1, .inl (c2, 4, .inr (.inr (.inr (.inr (fun _ => none)))))), (q3, .inl (c4, 4, .inr (.inr (.inr (.inl (fun _ => 0))))))] H := hP
  have hD : va_D A [(h0, .inr (2, [.ref q1, .null, .int 0, .int 0, .double 0])), (q1, .inl (c2, 4, .inr (.inr (.inr (.inr (fun _ => none)))))), (q3, .inl (c4, 4, .inr (.inr (.inr (.inl (fun _ => 0))))))] := hD
  have hK : va_K (dC, dI) vwCl [(c2, .object "WorkHall$Job"), (c4, .double)] s := hK
  refine va_putF (D := (dC, dI)) (ci := 2) (v := .ref q3) (ty := tyX2 1) (C := RX2) (T := TX2) (N := 5) hx hb hts uwX2 tyX2 tyX2_ok nmX2 hown hK hP hD hS 0 rfl rfl 1 (by decide) (hts _ wd_120) (fun _ h9 => h9) rfl hin rfl (tyX2_ok 1 (by decide)) rfl rfl (Nat.le_of_ble_eq_true rfl) dX2_init_16 (fun H locs hP hD hS => ?_)
  have hP : va_P (dC, dI) vwCl [(h0, .inr (2, [.ref q1, .ref q3, .int 0, .int 0, .double 0])), (q1, .inl (c2, 4, .inr (.inr (.inr (.inr (fun _ => none)))))), (q3, .inl (c4, 4, .inr (.inr (.inr (.inl (fun _ => 0))))))] H := hP
  have hD : va_D A [(h0, .inr (2, [.ref q1, .ref q3, .int 0, .int 0, .double 0])), (q1, .inl (c2, 4, .inr (.inr (.inr (.inr (fun _ => none)))))), (q3, .inl (c4, 4, .inr (.inr (.inr (.inl (fun _ => 0))))))] := hD
  refine lv_aload_n hx hb dX2_init_19 rfl (lv_at hl 0 rfl) ?_
  refine lv_iconst (v := 0) hx hb dX2_init_20 (by decide) ?_
  refine va_put (D := (dC, dI)) (ci := 2) (v := .int 0) (ty := tyX2 2) (C := RX2) (T := TX2) (N := 5) hx hb hts uwX2 tyX2 tyX2_ok nmX2 hown hK hP hD hS 0 rfl rfl 2 (by decide) (hts _ wd_121) (fun _ h9 => h9) rfl (tyX2_ok 2 (by decide)) rfl rfl (Nat.le_of_ble_eq_true rfl) dX2_init_21 (fun H locs hP hD hS => ?_)
  have hP : va_P (dC, dI) vwCl [(h0, .inr (2, [.ref q1, .ref q3, .int 0, .int 0, .double 0])), (q1, .inl (c2, 4, .inr (.inr (.inr (.inr (fun _ => none)))))), (q3, .inl (c4, 4, .inr (.inr (.inr (.inl (fun _ => 0))))))] H := hP
  have hD : va_D A [(h0, .inr (2, [.ref q1, .ref q3, .int 0, .int 0, .double 0])), (q1, .inl (c2, 4, .inr (.inr (.inr (.inr (fun _ => none)))))), (q3, .inl (c4, 4, .inr (.inr (.inr (.inl (fun _ => 0))))))] := hD
  refine lv_aload_n hx hb dX2_init_24 rfl (lv_at hl 0 rfl) ?_
  refine lv_iconst (v := 0) hx hb dX2_init_25 (by decide) ?_
  refine va_put (D := (dC, dI)) (ci := 2) (v := .int 0) (ty := tyX2 3) (C := RX2) (T := TX2) (N := 5) hx hb hts uwX2 tyX2 tyX2_ok nmX2 hown hK hP hD hS 0 rfl rfl 3 (by decide) (hts _ wd_123) (fun _ h9 => h9) rfl (tyX2_ok 3 (by decide)) rfl rfl (Nat.le_of_ble_eq_true rfl) dX2_init_26 (fun H locs hP hD hS => ?_)
  have hP : va_P (dC, dI) vwCl [(h0, .inr (2, [.ref q1, .ref q3, .int 0, .int 0, .double 0])), (q1, .inl (c2, 4, .inr (.inr (.inr (.inr (fun _ => none)))))), (q3, .inl (c4, 4, .inr (.inr (.inr (.inl (fun _ => 0))))))] H := hP
  have hD : va_D A [(h0, .inr (2, [.ref q1, .ref q3, .int 0, .int 0, .double 0])), (q1, .inl (c2, 4, .inr (.inr (.inr (.inr (fun _ => none)))))), (q3, .inl (c4, 4, .inr (.inr (.inr (.inl (fun _ => 0))))))] := hD
  refine lv_aload_n hx hb dX2_init_29 rfl (lv_at hl 0 rfl) ?_
  refine lv_dconst0 hx hb dX2_init_30 ?_
  refine va_put (D := (dC, dI)) (ci := 2) (v := .double FP.dconst0) (ty := tyX2 4) (C := RX2) (T := TX2) (N := 5) hx hb hts uwX2 tyX2 tyX2_ok nmX2 hown hK hP hD hS 0 rfl rfl 4 (by decide) (hts _ wd_125) (fun _ h9 => h9) rfl (tyX2_ok 4 (by decide)) rfl rfl (Nat.le_of_ble_eq_true rfl) dX2_init_31 (fun H locs hP hD hS => ?_)
  have hP : va_P (dC, dI) vwCl [(h0, .inr (2, [.ref q1, .ref q3, .int 0, .int 0, .double FP.dconst0])), (q1, .inl (c2, 4, .inr (.inr (.inr (.inr (fun _ => none)))))), (q3, .inl (c4, 4, .inr (.inr (.inr (.inl (fun _ => 0))))))] H := hP
  have hD : va_D A [(h0, .inr (2, [.ref q1, .ref q3, .int 0, .int 0, .double FP.dconst0])), (q1, .inl (c2, 4, .inr (.inr (.inr (.inr (fun _ => none)))))), (q3, .inl (c4, 4, .inr (.inr (.inr (.inl (fun _ => 0))))))] := hD
  refine W.widen (k := 2) (n := 8) (Nat.le_of_ble_eq_true rfl) (Nat.le_of_ble_eq_true rfl) ?_
  exact W.vret hx hb hr (fun t ht hW => ⟨⟨((fun k => match k with | 0 => q1 | 1 => q3 | _ => 0), (fun k => match k with | 0 => c2 | 1 => c4 | _ => dC 0)), rfl, trivial, by rw [ht]; exact hP, va_K.moved hW.alike hK, hD⟩, hS.F ht⟩) hS.2.2 dX2_init_34

theorem dX3_init_0 : decode prog_5_method_1_code 0 = .ok (.aload_n 0, 1) := by decide +kernel
theorem dX3_init_1 : decode prog_5_method_1_code 1 = .ok (.invokespecial 3, 3) := by decide +kernel
theorem dX3_init_4 : decode prog_5_method_1_code 4 = .ok (.aload_n 0, 1) := by decide +kernel
theorem dX3_init_5 : decode prog_5_method_1_code 5 = .ok (.bipush 10, 2) := by decide +kernel
theorem dX3_init_7 : decode prog_5_method_1_code 7 = .ok (.anewarray 9, 3) := by decide +kernel
theorem dX3_init_10 : decode prog_5_method_1_code 10 = .ok (.putfield 11, 3) := by decide +kernel
theorem dX3_init_13 : decode prog_5_method_1_code 13 = .ok (.aload_n 0, 1) := by decide +kernel
theorem dX3_init_14 : decode prog_5_method_1_code 14 = .ok (.bipush 10, 2) := by decide +kernel
theorem dX3_init_16 : decode prog_5_method_1_code 16 = .ok (.newarray .double, 2) := by decide +kernel
theorem dX3_init_18 : decode prog_5_method_1_code 18 = .ok (.putfield 17, 3) := by decide +kernel
theorem dX3_init_21 : decode prog_5_method_1_code 21 = .ok (.aload_n 0, 1) := by decide +kernel
theorem dX3_init_22 : decode prog_5_method_1_code 22 = .ok (.bipush 10, 2) := by decide +kernel
theorem dX3_init_24 : decode prog_5_method_1_code 24 = .ok (.newarray .double, 2) := by decide +kernel
theorem dX3_init_26 : decode prog_5_method_1_code 26 = .ok (.putfield 21, 3) := by decide +kernel
theorem dX3_init_29 : decode prog_5_method_1_code 29 = .ok (.aload_n 0, 1) := by decide +kernel
theorem dX3_init_30 : decode prog_5_method_1_code 30 = .ok (.iconst 0, 1) := by decide +kernel
theorem dX3_init_31 : decode prog_5_method_1_code 31 = .ok (.putfield 24, 3) := by decide +kernel
theorem dX3_init_34 : decode prog_5_method_1_code 34 = .ok (.return_, 1) := by decide +kernel
def wX3_init (h0 : Nat) (u : cS) : va_W := [(h0, .inr (3, [.ref (u.1 0), .ref (u.1 1), .ref (u.1 2), .int 0])), ((u.1 0), .inl ((u.2 0), 10, .inr (.inr (.inr (.inr (fun _ => none)))))), ((u.1 1), .inl ((u.2 1), 10, .inr (.inr (.inr (.inl (fun _ => 0)))))), ((u.1 2), .inl ((u.2 2), 10, .inr (.inr (.inr (.inl (fun _ => 0))))))]
def tX3_init (u : cS) : List (ClassId × FieldType) := [((u.2 0), .object "WorkHall$Job"), ((u.2 1), .double), ((u.2 2), .double)]
set_option maxHeartbeats 8000000 in
set_option maxRecDepth 100000 in
theorem cX3_init (l : Launch) (dC : Nat → ClassId) (dI : Nat → Nat → Nat) (h0 sz : Nat) : Met l ⟨"WorkHall$Timetable", "<init>", "()V"⟩ (gw ⟨"WorkHall$Timetable", "<init>", "()V"⟩ prog_5_method_1_code 1 none) ({ frames := 1, cells := 3, slots := 30, locals := 40 } : Room) (va_Pc [.ref h0] (gB (dC, dI) vwCl [] nE [(h0, .inr (3, [.null, .null, .null, .int 0]))] sz)) (va_Qv (fun _ : cS => True) (cAt (dC, dI) vwCl tX3_init (wX3_init h0) (va_A [(h0, .inr (3, [.null, .null, .null, .int 0]))] sz)) (va_A [(h0, .inr (3, [.null, .null, .null, .int 0]))] sz)) 3 30 (va_A [(h0, .inr (3, [.null, .null, .null, .int 0]))] sz) := by
  refine Met.ofW (cc := prog_5_method_1_code) (maxL := 1) (ret := none) (by decide) rfl ?_
  intro p e s m args below meth c s₁ B hml hv
  obtain ⟨rfl, hsz, hP, hK, hD0, hE⟩ := hv
  have hx := B.exec
  have hb := B.bytes
  have hr := B.returns
  have hts : ∀ w ∈ gW, w.before _ s = true := fun w h9 => atoms_spec (ws := (gw ⟨"WorkHall$Timetable", "<init>", "()V"⟩ prog_5_method_1_code 1 none)) B.pre w (List.mem_cons_of_mem _ h9)
  have hown : s.vm.findClass RX3 = some m.cls := findClass_of_methodNamed B.named
  have hlocks := B.notSynchronized
  have hin : meth.name = "<init>" := (name_of_methodNamed B.named B.method).1
  subst hsz
  have hD := hD0.self (sz := s.heap.size)
  generalize hAe : va_A [(h0, .inr (3, [.null, .null, .null, .int 0]))] s.heap.size = A at hD hE ⊢
  have hA : ∀ q : Nat, s.heap.size ≤ q → A q := fun q h => by rw [← hAe]; exact Or.inr h
  obtain ⟨H, hHe⟩ : ∃ z : Heap, z = s.heap := ⟨_, rfl⟩
  rw [← hHe]
  have hS : va_S A s.heap H [] := by rw [hHe]; exact va_S.rf
  have hP : va_P (dC, dI) vwCl [(h0, .inr (3, [.null, .null, .null, .int 0]))] H := by rw [hHe]; exact hP
  have hl := lv_entry ([.ref h0]) (n := 1) (Nat.le_of_ble_eq_true rfl)
  rw [lg_entry_eq]
  generalize (lg_sl ([.ref h0]) ++ List.replicate (1 - (lg_sl ([.ref h0])).length) Slot.unset).toArray = ls at hl ⊢
  clear hAe
  have hl : lv_has ls 1 [(0, .ref h0)] := hl
  refine lv_aload_n hx hb dX3_init_0 rfl (lv_at hl 0 rfl) ?_
  refine W.objInit hx hb hown (hts _ wd_144) (hts _ wd_69) (hts _ wo_init) rfl (by rw [hml]; exact hl.1) rfl dX3_init_1 (Nat.le_of_ble_eq_true rfl) (Nat.le_of_ble_eq_true rfl) ?_
  refine W.eq (g2 := F0 m 4 ls []) rfl ?_
  refine lv_aload_n hx hb dX3_init_4 rfl (lv_at hl 0 rfl) ?_
  refine lv_bipush (v := 10) hx hb dX3_init_5 (by decide) ?_
  refine va_newq (N' := 10) hx hb hown (hts _ wd_145) (nE_J hE) hK hP hD hS hA (by decide) (by decide) (by decide) (Nat.le_of_ble_eq_true rfl) (Nat.le_of_ble_eq_true rfl) dX3_init_7 (fun q1 c2 H hK hP hD hS => ?_)
  have hP : va_P (dC, dI) vwCl [(h0, .inr (3, [.null, .null, .null, .int 0])), (q1, .inl (c2, 10, .inr (.inr (.inr (.inr (fun _ => none))))))] H := hP
  have hD : va_D A [(h0, .inr (3, [.null, .null, .null, .int 0])), (q1, .inl (c2, 10, .inr (.inr (.inr (.inr (fun _ => none))))))] := hD
  have hK : va_K (dC, dI) vwCl [(c2, .object "WorkHall$Job")] s := hK
  refine va_putF (D := (dC, dI)) (ci := 3) (v := .ref q1) (ty := tyX3 0) (C := RX3) (T := TX3) (N := 4) hx hb hts uwX3 tyX3 tyX3_ok nmX3 hown hK hP hD hS 0 rfl rfl 0 (by decide) (hts _ wd_146) (fun _ h9 => h9) rfl hin rfl (tyX3_ok 0 (by decide)) rfl rfl (Nat.le_of_ble_eq_true rfl) dX3_init_10 (fun H locs hP hD hS => ?_)
  have hP : va_P (dC, dI) vwCl [(h0, .inr (3, [.ref q1, .null, .null, .int 0])), (q1, .inl (c2, 10, .inr (.inr (.inr (.inr (fun _ => none))))))] H := hP
  have hD : va_D A [(h0, .inr (3, [.ref q1, .null, .null, .int 0])), (q1, .inl (c2, 10, .inr (.inr (.inr (.inr (fun _ => none))))))] := hD
  refine lv_aload_n hx hb dX3_init_13 rfl (lv_at hl 0 rfl) ?_
  refine lv_bipush (v := 10) hx hb dX3_init_14 (by decide) ?_
  refine va_newa (atype := .double) (ty := .double) (N' := 10) (a0 := (10, .inr (.inr (.inr (.inl (fun _ => 0)))))) hx hb (hts _ wd_138) rfl hK hP hD hS hA (fun _ => rfl) (by decide) (by decide) (by decide) (Nat.le_of_ble_eq_true rfl) (Nat.le_of_ble_eq_true rfl) dX3_init_16 (fun q3 c4 H hK hP hD hS => ?_)
  have hP : va_P (dC, dI) vwCl [(h0, .inr (3, [.ref q1, .null, .null, .int 0])), (q1, .inl (c2, 10, .inr (.inr (.inr (.inr (fun _ => none)))))), (q3, .inl (c4, 10, .inr (.inr (.inr (.inl (fun _ => 0))))))] H := hP
  have hD : va_D A [(h0, .inr (3, [.ref q1, .null, .null, .int 0])), (q1, .inl (c2, 10, .inr (.inr (.inr (.inr (fun _ => none)))))), (q3, .inl (c4, 10, .inr (.inr (.inr (.inl (fun _ => 0))))))] := hD
  have hK : va_K (dC, dI) vwCl [(c2, .object "WorkHall$Job"), (c4, .double)] s := hK
  refine va_putF (D := (dC, dI)) (ci := 3) (v := .ref q3) (ty := tyX3 1) (C := RX3) (T := TX3) (N := 4) hx hb hts uwX3 tyX3 tyX3_ok nmX3 hown hK hP hD hS 0 rfl rfl 1 (by decide) (hts _ wd_148) (fun _ h9 => h9) rfl hin rfl (tyX3_ok 1 (by decide)) rfl rfl (Nat.le_of_ble_eq_true rfl) dX3_init_18 (fun H locs hP hD hS => ?_)
  have hP : va_P (dC, dI) vwCl [(h0, .inr (3, [.ref q1, .ref q3, .null, .int 0])), (q1, .inl (c2, 10, .inr (.inr (.inr (.inr (fun _ => none)))))), (q3, .inl (c4, 10, .inr (.inr (.inr (.inl (fun _ => 0))))))] H := hP
  have hD : va_D A [(h0, .inr (3, [.ref q1, .ref q3, .null, .int 0])), (q1, .inl (c2, 10, .inr (.inr (.inr (.inr (fun _ => none)))))), (q3, .inl (c4, 10, .inr (.inr (.inr (.inl (fun _ => 0))))))] := hD
  refine lv_aload_n hx hb dX3_init_21 rfl (lv_at hl 0 rfl) ?_
  refine lv_bipush (v := 10) hx hb dX3_init_22 (by decide) ?_
  refine va_newa (atype := .double) (ty := .double) (N' := 10) (a0 := (10, .inr (.inr (.inr (.inl (fun _ => 0)))))) hx hb (hts _ wd_138) rfl hK hP hD hS hA (fun _ => rfl) (by decide) (by decide) (by decide) (Nat.le_of_ble_eq_true rfl) (Nat.le_of_ble_eq_true rfl) dX3_init_24 (fun q5 c6 H hK hP hD hS => ?_)
  have hP : va_P (dC, dI) vwCl [(h0, .inr (3, [.ref q1, .ref q3, .null, .int 0])), (q1, .inl (c2, 10, .inr (.inr (.inr (.inr (fun _ => none)))))), (q3, .inl (c4, 10, .inr (.inr (.inr (.inl (fun _ => 0)))))), (q5, .inl (c6, 10, .inr (.inr (.inr (.inl (fun _ => 0))))))] H := hP
  have hD : va_D A [(h0, .inr (3, [.ref q1, .ref q3, .null, .int 0])), (q1, .inl (c2, 10, .inr (.inr (.inr (.inr (fun _ => none)))))), (q3, .inl (c4, 10, .inr (.inr (.inr (.inl (fun _ => 0)))))), (q5, .inl (c6, 10, .inr (.inr (.inr (.inl (fun _ => 0))))))] := hD
  have hK : va_K (dC, dI) vwCl [(c2, .object "WorkHall$Job"), (c4, .double), (c6, .double)] s := hK
  refine va_putF (D := (dC, dI)) (ci := 3) (v := .ref q5) (ty := tyX3 2) (C := RX3) (T := TX3) (N := 4) hx hb hts uwX3 tyX3 tyX3_ok nmX3 hown hK hP hD hS 0 rfl rfl 2 (by decide) (hts _ wd_150) (fun _ h9 => h9) rfl hin rfl (tyX3_ok 2 (by decide)) rfl rfl (Nat.le_of_ble_eq_true rfl) dX3_init_26 (fun H locs hP hD hS => ?_)
  have hP : va_P (dC, dI) vwCl [(h0, .inr (3, [.ref q1, .ref q3, .ref q5, .int 0])), (q1, .inl (c2, 10, .inr (.inr (.inr (.inr (fun _ => none)))))), (q3, .inl (c4, 10, .inr (.inr (.inr (.inl (fun _ => 0)))))), (q5, .inl (c6, 10, .inr (.inr (.inr (.inl (fun _ => 0))))))] H := hP
  have hD : va_D A [(h0, .inr (3, [.ref q1, .ref q3, .ref q5, .int 0])), (q1, .inl (c2, 10, .inr (.inr (.inr (.inr (fun _ => none)))))), (q3, .inl (c4, 10, .inr (.inr (.inr (.inl (fun _ => 0)))))), (q5, .inl (c6, 10, .inr (.inr (.inr (.inl (fun _ => 0))))))] := hD
  refine lv_aload_n hx hb dX3_init_29 rfl (lv_at hl 0 rfl) ?_
  refine lv_iconst (v := 0) hx hb dX3_init_30 (by decide) ?_
  refine va_put (D := (dC, dI)) (ci := 3) (v := .int 0) (ty := tyX3 3) (C := RX3) (T := TX3) (N := 4) hx hb hts uwX3 tyX3 tyX3_ok nmX3 hown hK hP hD hS 0 rfl rfl 3 (by decide) (hts _ wd_152) (fun _ h9 => h9) rfl (tyX3_ok 3 (by decide)) rfl rfl (Nat.le_of_ble_eq_true rfl) dX3_init_31 (fun H locs hP hD hS => ?_)
  have hP : va_P (dC, dI) vwCl [(h0, .inr (3, [.ref q1, .ref q3, .ref q5, .int 0])), (q1, .inl (c2, 10, .inr (.inr (.inr (.inr (fun _ => none)))))), (q3, .inl (c4, 10, .inr (.inr (.inr (.inl (fun _ => 0)))))), (q5, .inl (c6, 10, .inr (.inr (.inr (.inl (fun _ => 0))))))] H := hP
  have hD : va_D A [(h0, .inr (3, [.ref q1, .ref q3, .ref q5, .int 0])), (q1, .inl (c2, 10, .inr (.inr (.inr (.inr (fun _ => none)))))), (q3, .inl (c4, 10, .inr (.inr (.inr (.inl (fun _ => 0)))))), (q5, .inl (c6, 10, .inr (.inr (.inr (.inl (fun _ => 0))))))] := hD
  refine W.widen (k := 3) (n := 30) (Nat.le_of_ble_eq_true rfl) (Nat.le_of_ble_eq_true rfl) ?_
  exact W.vret hx hb hr (fun t ht hW => ⟨⟨((fun k => match k with | 0 => q1 | 1 => q3 | 2 => q5 | _ => 0), (fun k => match k with | 0 => c2 | 1 => c4 | 2 => c6 | _ => dC 0)), rfl, trivial, by rw [ht]; exact hP, va_K.moved hW.alike hK, hD⟩, hS.F ht⟩) hS.2.2 dX3_init_34

