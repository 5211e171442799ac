theorem dX0_job_0 : decode prog_1_method_2_code 0 = .ok (.iload_n 1, 1) := by decide +kernel
theorem dX0_job_1 : decode prog_1_method_2_code 1 = .ok (.iconst 0, 1) := by decide +kernel
theorem dX0_job_2 : decode prog_1_method_2_code 2 = .ok (.iconst 5, 1) := by decide +kernel
theorem dX0_job_3 : decode prog_1_method_2_code 3 = .ok (.invokestatic 72, 3) := by decide +kernel
theorem dX0_job_6 : decode prog_1_method_2_code 6 = .ok (.iload 4, 2) := by decide +kernel
theorem dX0_job_8 : decode prog_1_method_2_code 8 = .ok (.iconst 1, 1) := by decide +kernel
theorem dX0_job_9 : decode prog_1_method_2_code 9 = .ok (.iconst 5, 1) := by decide +kernel
theorem dX0_job_10 : decode prog_1_method_2_code 10 = .ok (.invokestatic 72, 3) := by decide +kernel
theorem dX0_job_13 : decode prog_1_method_2_code 13 = .ok (.aload_n 0, 1) := by decide +kernel
theorem dX0_job_14 : decode prog_1_method_2_code 14 = .ok (.getfield 36, 3) := by decide +kernel
theorem dX0_job_17 : decode prog_1_method_2_code 17 = .ok (.bipush 24, 2) := by decide +kernel
theorem dX0_job_19 : decode prog_1_method_2_code 19 = .ok (.if_icmp .lt 13, 3) := by decide +kernel
theorem dX0_job_22 : decode prog_1_method_2_code 22 = .ok (.new 76, 3) := by decide +kernel
theorem dX0_job_25 : decode prog_1_method_2_code 25 = .ok (.dup, 1) := by decide +kernel
theorem dX0_job_26 : decode prog_1_method_2_code 26 = .ok (.ldc 78, 2) := by decide +kernel
theorem dX0_job_28 : decode prog_1_method_2_code 28 = .ok (.invokespecial 80, 3) := by decide +kernel
theorem dX0_job_31 : decode prog_1_method_2_code 31 = .ok (.athrow, 1) := by decide +kernel
theorem dX0_job_32 : decode prog_1_method_2_code 32 = .ok (.aload_n 0, 1) := by decide +kernel
theorem dX0_job_33 : decode prog_1_method_2_code 33 = .ok (.getfield 11, 3) := by decide +kernel
theorem dX0_job_36 : decode prog_1_method_2_code 36 = .ok (.aload_n 0, 1) := by decide +kernel
theorem dX0_job_37 : decode prog_1_method_2_code 37 = .ok (.getfield 36, 3) := by decide +kernel
theorem dX0_job_40 : decode prog_1_method_2_code 40 = .ok (.new 9, 3) := by decide +kernel
theorem dX0_job_43 : decode prog_1_method_2_code 43 = .ok (.dup, 1) := by decide +kernel
theorem dX0_job_44 : decode prog_1_method_2_code 44 = .ok (.aload_n 0, 1) := by decide +kernel
theorem dX0_job_45 : decode prog_1_method_2_code 45 = .ok (.getfield 36, 3) := by decide +kernel
theorem dX0_job_48 : decode prog_1_method_2_code 48 = .ok (.iload_n 1, 1) := by decide +kernel
theorem dX0_job_49 : decode prog_1_method_2_code 49 = .ok (.iload_n 2, 1) := by decide +kernel
theorem dX0_job_50 : decode prog_1_method_2_code 50 = .ok (.iload_n 3, 1) := by decide +kernel
theorem dX0_job_51 : decode prog_1_method_2_code 51 = .ok (.iload 4, 2) := by decide +kernel
theorem dX0_job_53 : decode prog_1_method_2_code 53 = .ok (.invokespecial 83, 3) := by decide +kernel
theorem dX0_job_56 : decode prog_1_method_2_code 56 = .ok (.aastore, 1) := by decide +kernel
theorem dX0_job_57 : decode prog_1_method_2_code 57 = .ok (.aload_n 0, 1) := by decide +kernel
theorem dX0_job_58 : decode prog_1_method_2_code 58 = .ok (.dup, 1) := by decide +kernel
theorem dX0_job_59 : decode prog_1_method_2_code 59 = .ok (.getfield 36, 3) := by decide +kernel
theorem dX0_job_62 : decode prog_1_method_2_code 62 = .ok (.iconst 1, 1) := by decide +kernel
theorem dX0_job_63 : decode prog_1_method_2_code 63 = .ok (.iadd, 1) := by decide +kernel
theorem dX0_job_64 : decode prog_1_method_2_code 64 = .ok (.putfield 36, 3) := by decide +kernel
theorem dX0_job_67 : decode prog_1_method_2_code 67 = .ok (.aload_n 0, 1) := by decide +kernel
theorem dX0_job_68 : decode prog_1_method_2_code 68 = .ok (.getfield 36, 3) := by decide +kernel
theorem dX0_job_71 : decode prog_1_method_2_code 71 = .ok (.iconst 1, 1) := by decide +kernel
theorem dX0_job_72 : decode prog_1_method_2_code 72 = .ok (.isub, 1) := by decide +kernel
theorem dX0_job_73 : decode prog_1_method_2_code 73 = .ok (.ireturn, 1) := by decide +kernel
def xKj (K : KX) (q : Nat) (p1 p2 p3 p4 : Int32) : KX := (va_up K.1 4 (K.1 4 + 1), K.2.1, K.2.2.1 ++ [q], va_up K.2.2.2.1 q (xJ5 (K.1 4) p1 p2 p3 p4), va_up K.2.2.2.2 (K.1 4).toNatClampNeg (some q))
abbrev wX2 (ad : Nat → Nat) (ca : Nat → ClassId) (z : KX × gS) : va_W := wX ad ca z.1 z.2
def wpX0_job (K : KX) (post : Int32 → KX × gS → Prop) (px : String → KX × gS → Prop) (u : gS) (p1 p2 p3 p4 : Int32) : Prop :=
  wpX0_checkRange K (fun u1 => wpX0_checkRange K (fun u2 => ((K.1 4) < 24 → vp_in (K.1 4) 24 ∧ ∀ q : Nat, q ∉ K.2.2.1 → post (K.1 4 + 1 - 1) (xKj K q p1 p2 p3 p4, xUj u2 q)) ∧ (¬ (K.1 4) < 24 → px "java/lang/IllegalStateException" (K, u2))) (fun E u2 => px E (K, u2)) u1 p4 1 5) (fun E u1 => px E (K, u1)) u p1 0 5
set_option maxHeartbeats 8000000 in
set_option maxRecDepth 100000 in
theorem cX0_job (l : Launch) (hl9 : l.stackTraces = false) (dC : Nat → ClassId) (dI : Nat → Nat → Nat) (ad : Nat → Nat) (ca : Nat → ClassId) (K : KX) (sz : Nat) (u : gS) (p1 p2 p3 p4 : Int32) (post : Int32 → KX × gS → Prop) (px : String → KX × gS → Prop) (h : wpX0_job K post px u p1 p2 p3 p4) : vx_Met l ⟨"WorkHall", "job", "(IIII)I"⟩ (gw ⟨"WorkHall", "job", "(IIII)I"⟩ prog_1_method_2_code 5 (some .int)) ({ frames := 8, cells := 3, slots := 21, locals := 320 } : Room) (va_Pc [.ref (ad 0), .int p1, .int p2, .int p3, .int p4] (gB (dC, dI) vwCl (xT ca) xE (wX ad ca K u) sz)) (va_Qi post (gAt (dC, dI) vwCl (xT ca) (wX2 ad ca) (va_A (wX ad ca K u) sz)) (va_A (wX ad ca K u) sz)) (gX (dC, dI) vwCl (xT ca) (wX2 ad ca) px (va_A (wX ad ca K u) sz)) 3 21 (va_A (wX ad ca K u) sz) := by
  refine vx_ofW (cc := prog_1_method_2_code) (maxL := 5) (ret := (some .int)) (by decide) rfl ?_
  intro p e s m args below meth c s₁ B hml hno hv
  obtain ⟨rfl, hsz, hP, hK, hD0, hE⟩ := hv
  have hx := B.exec
  have hb := B.bytes
  have hr := B.returns
  have hts : ∀ w ∈ gW, w.before _ s = true := fun w h9 => atoms_spec (ws := (gw ⟨"WorkHall", "job", "(IIII)I"⟩ prog_1_method_2_code 5 (some .int))) B.pre w (List.mem_cons_of_mem _ h9)
  have hown : s.vm.findClass RX0 = some m.cls := findClass_of_methodNamed B.named
  have hlocks := B.notSynchronized
  subst hsz
  have hD := hD0.self (sz := s.heap.size)
  generalize hAe : va_A (wX ad ca K u) s.heap.size = A at hD hE ⊢
  have hA : ∀ q : Nat, s.heap.size ≤ q → A q := fun q h => by rw [← hAe]; exact Or.inr h
  obtain ⟨H, hHe⟩ : ∃ z : Heap, z = s.heap := ⟨_, rfl⟩
  rw [← hHe]
  have hS : va_S A s.heap H [] := by rw [hHe]; exact va_S.rf
  have hP : va_P (dC, dI) vwCl (wX ad ca K u) H := by rw [hHe]; exact hP
  have hl := lv_entry ([.ref (ad 0), .int p1, .int p2, .int p3, .int p4]) (n := 5) (Nat.le_of_ble_eq_true rfl)
  rw [lg_entry_eq]
  generalize (lg_sl ([.ref (ad 0), .int p1, .int p2, .int p3, .int p4]) ++ List.replicate (5 - (lg_sl ([.ref (ad 0), .int p1, .int p2, .int p3, .int p4])).length) Slot.unset).toArray = ls at hl ⊢
  have hl : lv_has ls 5 [(0, .ref (ad 0)), (1, .int p1), (2, .int p2), (3, .int p3), (4, .int p4)] := hl
  clear hAe
  refine lv_iload_n hx hb dX0_job_0 rfl (lv_at hl 1 rfl) ?_
  refine lv_iconst (v := 0) hx hb dX0_job_1 (by decide) ?_
  refine lv_iconst (v := 5) hx hb dX0_job_2 (by decide) ?_
  refine gxc_v (w := wX ad ca K) (u := u) (vx_runS (As := [.int p1, .int 0, .int 5]) (rest := []) ⟨hx, hb, hml, hown, hts⟩ (cX0_checkRange l hl9 dC dI ad ca K H.size u p1 0 5 _ _ h) (va_cwS 3 hts (gG_S wd_221 wd_222 wd_46 wd_223) rfl rfl rfl (by decide +kernel) ⟨(Nat.le_of_ble_eq_true rfl), (Nat.le_of_ble_eq_true rfl)⟩) ⟨gB_blind xE_ok, gB_pre xE_ok hP hK hD hE hS hA⟩ rfl rfl hl.1 rfl (lv_room (Nat.le_of_ble_eq_true rfl)) dX0_job_3 ⟨(Nat.le_of_ble_eq_true rfl), (Nat.le_of_ble_eq_true rfl)⟩) hD hS hA (fun E9 ce9 q9 u9 H locs h hP hD hS hce hcv hcl => gx_out (w := wX2 ad ca) (u := (K, u9)) hno hlocks h hP hK hD hS hce hcv hcl (Nat.le_of_ble_eq_true rfl) (Nat.le_of_ble_eq_true rfl)) (fun u1 H locs h hP hD hS => ?_)
  refine lv_iload hx hb dX0_job_6 (lv_at hl 4 rfl) ?_
  refine lv_iconst (v := 1) hx hb dX0_job_8 (by decide) ?_
  refine lv_iconst (v := 5) hx hb dX0_job_9 (by decide) ?_
  refine gxc_v (w := wX ad ca K) (u := u1) (vx_runS (As := [.int p4, .int 1, .int 5]) (rest := []) ⟨hx, hb, hml, hown, hts⟩ (cX0_checkRange l hl9 dC dI ad ca K H.size u1 p4 1 5 _ _ h) (va_cwS 3 hts (gG_S wd_221 wd_222 wd_46 wd_223) rfl rfl rfl (by decide +kernel) ⟨(Nat.le_of_ble_eq_true rfl), (Nat.le_of_ble_eq_true rfl)⟩) ⟨gB_blind xE_ok, gB_pre xE_ok hP hK hD hE hS hA⟩ rfl rfl hl.1 rfl (lv_room (Nat.le_of_ble_eq_true rfl)) dX0_job_10 ⟨(Nat.le_of_ble_eq_true rfl), (Nat.le_of_ble_eq_true rfl)⟩) hD hS hA (fun E9 ce9 q9 u9 H locs h hP hD hS hce hcv hcl => gx_out (w := wX2 ad ca) (u := (K, u9)) hno hlocks h hP hK hD hS hce hcv hcl (Nat.le_of_ble_eq_true rfl) (Nat.le_of_ble_eq_true rfl)) (fun u2 H locs h hP hD hS => ?_)
  refine lv_aload_n hx hb dX0_job_13 rfl (lv_at hl 0 rfl) ?_
  refine va_get (D := (dC, dI)) (ci := 0) (v := .int (K.1 4)) (C := RX0) (T := TX0) (N := 12) hx hb hts uwX0 hown hK hP 0 rfl rfl 8 (by decide) (hts _ wd_180) (fun _ h9 => h9) rfl dX0_job_14 ?_
  refine lv_bipush (v := 24) hx hb dX0_job_17 (by decide) ?_
  refine lv_icmp_lt (tgt := 32) hx hb dX0_job_19 (by decide) (fun c1 => ?_) (fun c1 => ?_)
  · have h := h.1 c1
    obtain ⟨hin4, h⟩ := h
    refine lv_aload_n hx hb dX0_job_32 rfl (lv_at hl 0 rfl) ?_
    refine va_get (D := (dC, dI)) (ci := 0) (v := .ref (ad 1)) (C := RX0) (T := TX0) (N := 12) hx hb hts uwX0 hown hK hP 0 rfl rfl 4 (by decide) (hts _ wd_176) (fun _ h9 => h9) rfl dX0_job_33 ?_
    refine lv_aload_n hx hb dX0_job_36 rfl (lv_at hl 0 rfl) ?_
    refine va_get (D := (dC, dI)) (ci := 0) (v := .int (K.1 4)) (C := RX0) (T := TX0) (N := 12) hx hb hts uwX0 hown hK hP 0 rfl rfl 8 (by decide) (hts _ wd_180) (fun _ h9 => h9) rfl dX0_job_37 ?_
    refine va_new (ci := 5) (fs := [.int 0, .int 0, .int 0, .int 0, .int 0, .int 0, .int 0, .int 0, .null]) (C := RX5) (T := TX5) (N := 9) hx hb hts uwX5 tyX5 tyX5_ok hown (hts _ wd_71) (hts _ wd_311) (hts _ wd_58) hK hP hD hS hA rfl (fun j hj => by rcases (show j = 0 ∨ j = 1 ∨ j = 2 ∨ j = 3 ∨ j = 4 ∨ j = 5 ∨ j = 6 ∨ j = 7 ∨ j = 8 by omega) with rfl | rfl | rfl | rfl | rfl | rfl | rfl | rfl | rfl <;> rfl) (Nat.le_of_ble_eq_true rfl) (Nat.le_of_ble_eq_true rfl) dX0_job_40 (fun q H hP hD hS => ?_)
    refine lv_dup hx hb dX0_job_43 rfl ?_
    refine lv_aload_n hx hb dX0_job_44 rfl (lv_at hl 0 rfl) ?_
    refine va_get (D := (dC, dI)) (ci := 0) (v := .int (K.1 4)) (C := RX0) (T := TX0) (N := 12) hx hb hts uwX0 hown hK hP 0 rfl rfl 8 (by decide) (hts _ wd_180) (fun _ h9 => h9) rfl dX0_job_45 ?_
    refine lv_iload_n hx hb dX0_job_48 rfl (lv_at hl 1 rfl) ?_
    refine lv_iload_n hx hb dX0_job_49 rfl (lv_at hl 2 rfl) ?_
    refine lv_iload_n hx hb dX0_job_50 rfl (lv_at hl 3 rfl) ?_
    refine lv_iload hx hb dX0_job_51 (lv_at hl 4 rfl) ?_
    have hPc := gP_r hP
    have hDc := gD_r hD
    refine gk2_v (wc := [(q, .inr (5, [.int 0, .int 0, .int 0, .int 0, .int 0, .int 0, .int 0, .int 0, .null]))]) (wr := wX ad ca K u2) (w1 := wX5_init q (K.1 4) p1 p2 p3 p4) (va_runI (As := [.int (K.1 4), .int p1, .int p2, .int p3, .int p4]) (rest := [.ref q, .int (K.1 4), .ref (ad 1)]) ⟨hx, hb, hml, hown, hts⟩ (cX5_init l dC dI q H.size (K.1 4) p1 p2 p3 p4) (cwI 5 hts (gG wd_314) rfl rfl rfl (hts _ wd_58) (hts _ wd_312) (hts _ wd_313) rfl (by decide +kernel) ⟨(Nat.le_of_ble_eq_true rfl), (Nat.le_of_ble_eq_true rfl)⟩) ⟨gB_blind mE_ok, gB_pre mE_ok hPc (hK.sub (tys' := []) [] rfl) hDc trivial hS hA⟩ rfl rfl hl.1 rfl (lv_room (Nat.le_of_ble_eq_true rfl)) dX0_job_53 ⟨(Nat.le_of_ble_eq_true rfl), (Nat.le_of_ble_eq_true rfl)⟩) hP hD hS hA (fun u5 H locs _ _ hP hD hS => ?_)
    have hnew : q ∉ K.2.2.1 := va_pl_fresh2 (X := wXc ad ca K u2 ++ va_pl K.2.1 (xW K u2)) (f := xJ K u2) hD
    have hP : va_P (dC, dI) vwCl (wX ad ca K u2 ++ [(q, .inr (5, [.int (K.1 4), .int p1, .int p2, .int p3, .int p4, .int 0, .int 0, .int 0, .null]))]) H := hP
    have hD : va_D A (wX ad ca K u2 ++ [(q, .inr (5, [.int (K.1 4), .int p1, .int p2, .int p3, .int p4, .int 0, .int 0, .int 0, .null]))]) := hD
    rw [xJ_push hnew] at hP hD
    obtain ⟨K1, eK1⟩ : ∃ z : KX, z = (K.1, K.2.1, K.2.2.1 ++ [q], va_up K.2.2.2.1 q (xJ5 (K.1 4) p1 p2 p3 p4), K.2.2.2.2) := ⟨_, rfl⟩
    rw [← eK1] at hP hD
    obtain ⟨u3, eu3⟩ : ∃ z : gS, z = xUj u2 q := ⟨_, rfl⟩
    rw [← eu3] at hP hD
    have hq : q ∈ K1.2.2.1 := by rw [eK1]; exact List.mem_append_right _ List.mem_cons_self
    have h4 : K1.1 4 = K.1 4 := by rw [eK1]
    rw [← h4] at hin4
    have hst : (F0 m 56 ls [.ref q, .int (K1.1 4), .ref (ad 1)]) = F0 m 56 ls [.ref q, .int (K.1 4), .ref (ad 1)] := by rw [h4]
    refine W.eq (g2 := F0 m 56 ls [.ref q, .int (K1.1 4), .ref (ad 1)]) (by rw [hst]) ?_
    refine gq_aast (v := some q) (r := (RX5, TX5, 9)) hx hb hK hP hD hS 1 0 5 rfl rfl (fun y9 e9 => by cases e9; obtain ⟨k9, hk9⟩ := xJ_get hq; exact ⟨k9, _, hk9⟩) rfl hin4 dX0_job_56 (fun H locs hP hD hS => ?_)
    obtain ⟨K2, eK2⟩ : ∃ z : KX, z = (K1.1, K1.2.1, K1.2.2.1, K1.2.2.2.1, va_up K1.2.2.2.2 (K1.1 4).toNatClampNeg (some q)) := ⟨_, rfl⟩
    have hP : va_P (dC, dI) vwCl (wX ad ca K2 u3) H := by rw [eK2]; exact hP
    have hD : va_D A (wX ad ca K2 u3) := by rw [eK2]; exact hD
    refine lv_aload_n hx hb dX0_job_57 rfl (lv_at hl 0 rfl) ?_
    refine lv_dup hx hb dX0_job_58 rfl ?_
    refine va_get (D := (dC, dI)) (ci := 0) (v := .int (K2.1 4)) (C := RX0) (T := TX0) (N := 12) hx hb hts uwX0 hown hK hP 0 rfl rfl 8 (by decide) (hts _ wd_180) (fun _ h9 => h9) rfl dX0_job_59 ?_
    refine lv_iconst (v := 1) hx hb dX0_job_62 (by decide) ?_
    refine lv_iadd hx hb dX0_job_63 ?_
    refine va_put (D := (dC, dI)) (ci := 0) (v := .int (K2.1 4 + 1)) (ty := tyX0 8) (C := RX0) (T := TX0) (N := 12) hx hb hts uwX0 tyX0 tyX0_ok nmX0 hown hK hP hD hS 0 rfl rfl 8 (by decide) (hts _ wd_180) (fun _ h9 => h9) rfl (tyX0_ok 8 (by decide)) rfl rfl (Nat.le_of_ble_eq_true rfl) dX0_job_64 (fun H locs hP hD hS => ?_)
    obtain ⟨K3, eK3⟩ : ∃ z : KX, z = (va_up K2.1 4 (K2.1 4 + 1), K2.2) := ⟨_, rfl⟩
    have hP : va_P (dC, dI) vwCl (wX ad ca K3 u3) H := by rw [eK3]; exact hP
    have hD : va_D A (wX ad ca K3 u3) := by rw [eK3]; exact hD
    refine lv_aload_n hx hb dX0_job_67 rfl (lv_at hl 0 rfl) ?_
    refine va_get (D := (dC, dI)) (ci := 0) (v := .int (K3.1 4)) (C := RX0) (T := TX0) (N := 12) hx hb hts uwX0 hown hK hP 0 rfl rfl 8 (by decide) (hts _ wd_180) (fun _ h9 => h9) rfl dX0_job_68 ?_
    refine lv_iconst (v := 1) hx hb dX0_job_71 (by decide) ?_
    refine lv_isub hx hb dX0_job_72 ?_
    have h := h q hnew
    have e3 : K3 = xKj K q p1 p2 p3 p4 := by rw [eK3, eK2, eK1]; rfl
    have e4 : K3.1 4 = K.1 4 + 1 := by rw [e3]; rfl
    refine W.widen (k := 3) (n := 21) (Nat.le_of_ble_eq_true rfl) (Nat.le_of_ble_eq_true rfl) (vx_ret ?_)
    exact gr_i (w := wX2 ad ca) (u := (K3, u3)) hx hb hr hlocks (by rw [e4, e3, eu3]; exact h) hP hK hD hS dX0_job_73
  · have h := h.2 c1
    obtain ⟨sa9, hs9⟩ := xE_text hE 78 "no more jobs can be made" (by decide +kernel); exact vx_throwS (names := xSup) hx hb hl9 hown (by decide +kernel) (by decide +kernel) (hts _ wd_295) (hts _ wd_57) hs9 (tw_ise hts (xE_face hE)) tg_ise (xE_U hE) (xE_N hE) hS (hl.1.trans hml.symm) dX0_job_22 dX0_job_25 dX0_job_26 dX0_job_28 dX0_job_31 (fun x hx => (hno x hx).elim) (Nat.le_of_ble_eq_true rfl) (Nat.le_of_ble_eq_true rfl) (Nat.le_of_ble_eq_true rfl) (Nat.le_of_ble_eq_true rfl) hlocks (fun t ha hz hq => gx_thrown (w := wX2 ad ca) (u := (K, u2)) h hP hK hD hS ha hz hq) hS.2.2 (Nat.le_of_ble_eq_true rfl) (Nat.le_of_ble_eq_true rfl)

