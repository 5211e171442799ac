theorem dX0_tick_0 : decode prog_1_method_9_code 0 = .ok (.dload_n 1, 1) := by decide +kernel
theorem dX0_tick_1 : decode prog_1_method_9_code 1 = .ok (.bipush 100, 2) := by decide +kernel
theorem dX0_tick_3 : decode prog_1_method_9_code 3 = .ok (.invokestatic 168, 3) := by decide +kernel
theorem dX0_tick_6 : decode prog_1_method_9_code 6 = .ok (.aload_n 0, 1) := by decide +kernel
theorem dX0_tick_7 : decode prog_1_method_9_code 7 = .ok (.getfield 46, 3) := by decide +kernel
theorem dX0_tick_10 : decode prog_1_method_9_code 10 = .ok (.dload_n 1, 1) := by decide +kernel
theorem dX0_tick_11 : decode prog_1_method_9_code 11 = .ok (.dadd, 1) := by decide +kernel
theorem dX0_tick_12 : decode prog_1_method_9_code 12 = .ok (.dstore_n 3, 1) := by decide +kernel
theorem dX0_tick_13 : decode prog_1_method_9_code 13 = .ok (.iconst 0, 1) := by decide +kernel
theorem dX0_tick_14 : decode prog_1_method_9_code 14 = .ok (.istore 5, 2) := by decide +kernel
theorem dX0_tick_16 : decode prog_1_method_9_code 16 = .ok (.iload 5, 2) := by decide +kernel
theorem dX0_tick_18 : decode prog_1_method_9_code 18 = .ok (.bipush 20, 2) := by decide +kernel
theorem dX0_tick_20 : decode prog_1_method_9_code 20 = .ok (.if_icmp .ge 31, 3) := by decide +kernel
theorem dX0_tick_23 : decode prog_1_method_9_code 23 = .ok (.aload_n 0, 1) := by decide +kernel
theorem dX0_tick_24 : decode prog_1_method_9_code 24 = .ok (.getfield 32, 3) := by decide +kernel
theorem dX0_tick_27 : decode prog_1_method_9_code 27 = .ok (.dload_n 3, 1) := by decide +kernel
theorem dX0_tick_28 : decode prog_1_method_9_code 28 = .ok (.invokevirtual 181, 3) := by decide +kernel
theorem dX0_tick_31 : decode prog_1_method_9_code 31 = .ok (.ifCond .eq 20, 3) := by decide +kernel
theorem dX0_tick_34 : decode prog_1_method_9_code 34 = .ok (.aload_n 0, 1) := by decide +kernel
theorem dX0_tick_35 : decode prog_1_method_9_code 35 = .ok (.aload_n 0, 1) := by decide +kernel
theorem dX0_tick_36 : decode prog_1_method_9_code 36 = .ok (.getfield 32, 3) := by decide +kernel
theorem dX0_tick_39 : decode prog_1_method_9_code 39 = .ok (.invokevirtual 185, 3) := by decide +kernel
theorem dX0_tick_42 : decode prog_1_method_9_code 42 = .ok (.invokevirtual 188, 3) := by decide +kernel
theorem dX0_tick_45 : decode prog_1_method_9_code 45 = .ok (.iinc 5 1, 3) := by decide +kernel
theorem dX0_tick_48 : decode prog_1_method_9_code 48 = .ok (.goto (-32), 3) := by decide +kernel
theorem dX0_tick_51 : decode prog_1_method_9_code 51 = .ok (.aload_n 0, 1) := by decide +kernel
theorem dX0_tick_52 : decode prog_1_method_9_code 52 = .ok (.dload_n 3, 1) := by decide +kernel
theorem dX0_tick_53 : decode prog_1_method_9_code 53 = .ok (.putfield 46, 3) := by decide +kernel
theorem dX0_tick_56 : decode prog_1_method_9_code 56 = .ok (.aload_n 0, 1) := by decide +kernel
theorem dX0_tick_57 : decode prog_1_method_9_code 57 = .ok (.invokevirtual 192, 3) := by decide +kernel
theorem dX0_tick_60 : decode prog_1_method_9_code 60 = .ok (.iload 5, 2) := by decide +kernel
theorem dX0_tick_62 : decode prog_1_method_9_code 62 = .ok (.ireturn, 1) := by decide +kernel
def wpX0_tick_16 (K : KX) (post : Int32 → gS → Prop) (px : String → gS → Prop) : Nat → UInt64 → UInt64 → Int32 → gS → Prop
  | 0 => fun _ _ _ _ => False
  | n + 1 => fun l1 l3 l5 u => ((20 ≤ l5 → (∀ u5 : gS, u5 = tD u 0 l3 → (wpX0_dismissLongIdle K (fun (u7 : gS) => post l5 u7) u5))) ∧ (¬ 20 ≤ l5 → (wpX3_hasEntryUpTo K (fun (r8 : Int32) (u9 : gS) => ((r8 = 0 → (∀ u11 : gS, u11 = tD u9 0 l3 → (wpX0_dismissLongIdle K (fun (u13 : gS) => post l5 u13) u11))) ∧ (¬ r8 = 0 → (wpX3_firstPlace K (fun (r14 : Int32) (u15 : gS) => wpX0_fire K (fun (u17 : gS) => ∀ x18 : Int32, x18 = l5 + 1 → (wpX0_tick_16 K post px n l1 l3 x18 u17)) u15 r14) u9)))) u l3)))

def wpX0_tick (K : KX) (post : Int32 → gS → Prop) (px : String → gS → Prop) (u : gS) (p1 : UInt64) : Prop :=
  wpX0_checkSpan K (fun (u2 : gS) => vf_n64 (FP.dadd (sD u2 0) p1) ∧ (∀ x3 : UInt64, x3 = FP.dadd (sD u2 0) p1 → (∃ n16 : Nat, wpX0_tick_16 K post px n16 p1 x3 0 u2))) px u p1 100

set_option maxHeartbeats 8000000 in
set_option maxRecDepth 100000 in
theorem wpX0_tick_16_ok {p : Program} {l : Launch} {e : Env} {s : State} {m : MethodId} {args : Array Value} {below : List Frame} {meth : Method} {c : Code} {dC : Nat → ClassId} {dI : Nat → Nat → Nat} {ad : Nat → Nat} {ca : Nat → ClassId} {K : KX} {A : Nat → Prop} {post : Int32 → gS → Prop} {px : String → gS → Prop}   (hx : p.tables.exec = Jvm.exec) (hb : c.code = prog_1_method_9_code) (hr : meth.sig.returnType = (some .int)) (hml : c.maxLocals = 6) (hown : s.vm.findClass RX0 = some m.cls) (hts : ∀ w ∈ gW, w.before args s = true) (hlocks : meth.locks = false) (hK : va_K (dC, dI) vwCl (xT ca) s) (hA : ∀ q, s.heap.size ≤ q → A q) (hE : xE A s s.heap) (hno : ∀ x ∈ c.exceptionTable.toList, False) (hl9 : l.stackTraces = false) :
    ∀ (n : Nat) (l1 : UInt64) (l3 : UInt64) (l5 : Int32) (u : gS) (H : Heap) (locs : List Loc) (ls : Array Slot), wpX0_tick_16 K post px n l1 l3 l5 u → va_P (dC, dI) vwCl (wX ad ca K u) H → va_D A (wX ad ca K u) → va_S A s.heap H locs → lv_has ls 6 [(0, .ref (ad 0)), (1, .double l1), (3, .double l3), (5, .int l5)] → W p l e (headSpec (gw ⟨"WorkHall", "tick", "(D)I"⟩ prog_1_method_9_code 6 (some .int)) ({ frames := 110, cells := 1, slots := 6, locals := 4400 } : Room)).room s m args below meth c H locs 1 6 (vx_MQ below (va_Qi post (gAt (dC, dI) vwCl (xT ca) (wX ad ca K) (A)) (A)) (gX (dC, dI) vwCl (xT ca) (wX ad ca K) px (A)) args s 1 6 A) (F0 m 16 ls []) := by
  intro n
  induction n with
  | zero => exact fun _ _ _ _ _ _ _ h => h.elim
  | succ n ih =>
    intro l1 l3 l5 u H locs ls h hP hD hS hl
    refine lv_iload hx hb dX0_tick_16 (lv_at hl 3 rfl) ?_
    refine lv_bipush (v := 20) hx hb dX0_tick_18 (by decide) ?_
    refine lv_icmp_ge (tgt := 51) hx hb dX0_tick_20 (by decide) (fun c4 => ?_) (fun c4 => ?_)
    · have h := h.1 c4
      refine lv_aload_n hx hb dX0_tick_51 rfl (lv_at hl 0 rfl) ?_
      refine lv_dload_n hx hb dX0_tick_52 rfl (lv_at hl 2 rfl) ?_
      refine va_put (D := (dC, dI)) (ci := 0) (v := .double l3) (ty := tyX0 11) (C := RX0) (T := TX0) (N := 12) hx hb hts uwX0 tyX0 tyX0_ok nmX0 hown hK hP hD hS 0 rfl rfl 11 (by decide) (hts _ wd_183) (fun _ h9 => h9) rfl (tyX0_ok 11 (by decide)) rfl rfl (Nat.le_of_ble_eq_true rfl) dX0_tick_53 (fun H locs hP hD hS => ?_)
      obtain ⟨u5, eu5⟩ : ∃ z : gS, z = tD u 0 l3 := ⟨_, rfl⟩
      have hP : va_P (dC, dI) vwCl (wX ad ca K u5) H := by rw [eu5, wX_f0_time]; exact hP
      have hD : va_D A (wX ad ca K u5) := by rw [eu5, wX_f0_time]; exact hD
      have h := h u5 eu5
      refine lv_aload_n hx hb dX0_tick_56 rfl (lv_at hl 0 rfl) ?_
      refine gc_v (w := wX ad ca K) (u := u5) (va_runV (As := []) (rest := []) ⟨hx, hb, hml, hown, hts⟩ (cX0_dismissLongIdle l dC dI ad ca K H.size u5 _ h) (cwV 0 hts (gG_V wd_629 wd_631 wd_14 wd_46 wd_632) rfl rfl rfl (by decide +kernel) ⟨Nat.le_of_ble_eq_true rfl, Nat.le_of_ble_eq_true rfl⟩) ⟨gB_blind xE_ok, va_recv hK hP (ci := 0) (q0 := 0) rfl rfl, gB_pre xE_ok hP hK hD hE hS hA⟩ rfl rfl hl.1 rfl (lv_room (Nat.le_of_ble_eq_true rfl)) dX0_tick_57 ⟨Nat.le_of_ble_eq_true rfl, Nat.le_of_ble_eq_true rfl⟩) hD hS hA (fun u7 H locs h hP hD hS => ?_)
      refine lv_iload hx hb dX0_tick_60 (lv_at hl 3 rfl) ?_
      refine W.widen (k := 1) (n := 6) (Nat.le_of_ble_eq_true rfl) (Nat.le_of_ble_eq_true rfl) (vx_ret ?_); exact gr_i (w := wX ad ca K) (u := u7) hx hb hr hlocks h hP hK hD hS dX0_tick_62
    · have h := h.2 c4
      refine lv_aload_n hx hb dX0_tick_23 rfl (lv_at hl 0 rfl) ?_
      refine va_get (D := (dC, dI)) (ci := 0) (v := .ref (ad 7)) (C := RX0) (T := TX0) (N := 12) hx hb hts uwX0 hown hK hP 0 rfl rfl 7 (by decide) (hts _ wd_179) (fun _ h9 => h9) rfl dX0_tick_24 ?_
      refine lv_dload_n hx hb dX0_tick_27 rfl (lv_at hl 2 rfl) ?_
      refine gc_i (w := wX ad ca K) (u := u) (va_runV (As := [.double l3]) (rest := []) ⟨hx, hb, hml, hown, hts⟩ (cX3_hasEntryUpTo l dC dI ad ca K H.size u l3 _ h) (cwV 1 hts (gG_V wd_612 wd_613 wd_614 wd_50 wd_615) rfl rfl rfl (by decide +kernel) ⟨Nat.le_of_ble_eq_true rfl, Nat.le_of_ble_eq_true rfl⟩) ⟨gB_blind xE_ok, va_recv hK hP (ci := 3) (q0 := 7) rfl rfl, gB_pre xE_ok hP hK hD hE hS hA⟩ rfl rfl hl.1 rfl (lv_room (Nat.le_of_ble_eq_true rfl)) dX0_tick_28 ⟨Nat.le_of_ble_eq_true rfl, Nat.le_of_ble_eq_true rfl⟩) hD hS hA (fun r8 u9 H locs h hP hD hS => ?_)
      refine lv_if_eq (tgt := 51) hx hb dX0_tick_31 (by decide) (fun c10 => ?_) (fun c10 => ?_)
      · have h := h.1 c10
        refine lv_aload_n hx hb dX0_tick_51 rfl (lv_at hl 0 rfl) ?_
        refine lv_dload_n hx hb dX0_tick_52 rfl (lv_at hl 2 rfl) ?_
        refine va_put (D := (dC, dI)) (ci := 0) (v := .double l3) (ty := tyX0 11) (C := RX0) (T := TX0) (N := 12) hx hb hts uwX0 tyX0 tyX0_ok nmX0 hown hK hP hD hS 0 rfl rfl 11 (by decide) (hts _ wd_183) (fun _ h9 => h9) rfl (tyX0_ok 11 (by decide)) rfl rfl (Nat.le_of_ble_eq_true rfl) dX0_tick_53 (fun H locs hP hD hS => ?_)
        obtain ⟨u11, eu11⟩ : ∃ z : gS, z = tD u9 0 l3 := ⟨_, rfl⟩
        have hP : va_P (dC, dI) vwCl (wX ad ca K u11) H := by rw [eu11, wX_f0_time]; exact hP
        have hD : va_D A (wX ad ca K u11) := by rw [eu11, wX_f0_time]; exact hD
        have h := h u11 eu11
        refine lv_aload_n hx hb dX0_tick_56 rfl (lv_at hl 0 rfl) ?_
        refine gc_v (w := wX ad ca K) (u := u11) (va_runV (As := []) (rest := []) ⟨hx, hb, hml, hown, hts⟩ (cX0_dismissLongIdle l dC dI ad ca K H.size u11 _ h) (cwV 0 hts (gG_V wd_629 wd_631 wd_14 wd_46 wd_632) rfl rfl rfl (by decide +kernel) ⟨Nat.le_of_ble_eq_true rfl, Nat.le_of_ble_eq_true rfl⟩) ⟨gB_blind xE_ok, va_recv hK hP (ci := 0) (q0 := 0) rfl rfl, gB_pre xE_ok hP hK hD hE hS hA⟩ rfl rfl hl.1 rfl (lv_room (Nat.le_of_ble_eq_true rfl)) dX0_tick_57 ⟨Nat.le_of_ble_eq_true rfl, Nat.le_of_ble_eq_true rfl⟩) hD hS hA (fun u13 H locs h hP hD hS => ?_)
        refine lv_iload hx hb dX0_tick_60 (lv_at hl 3 rfl) ?_
        refine W.widen (k := 1) (n := 6) (Nat.le_of_ble_eq_true rfl) (Nat.le_of_ble_eq_true rfl) (vx_ret ?_); exact gr_i (w := wX ad ca K) (u := u13) hx hb hr hlocks h hP hK hD hS dX0_tick_62
      · have h := h.2 c10
        refine lv_aload_n hx hb dX0_tick_34 rfl (lv_at hl 0 rfl) ?_
        refine lv_aload_n hx hb dX0_tick_35 rfl (lv_at hl 0 rfl) ?_
        refine va_get (D := (dC, dI)) (ci := 0) (v := .ref (ad 7)) (C := RX0) (T := TX0) (N := 12) hx hb hts uwX0 hown hK hP 0 rfl rfl 7 (by decide) (hts _ wd_179) (fun _ h9 => h9) rfl dX0_tick_36 ?_
        refine gc_i (w := wX ad ca K) (u := u9) (va_runV (As := []) (rest := [.ref (ad 0)]) ⟨hx, hb, hml, hown, hts⟩ (cX3_firstPlace l dC dI ad ca K H.size u9 _ h) (cwV 0 hts (gG_V wd_620 wd_617 wd_618 wd_50 wd_619) rfl rfl rfl (by decide +kernel) ⟨Nat.le_of_ble_eq_true rfl, Nat.le_of_ble_eq_true rfl⟩) ⟨gB_blind xE_ok, va_recv hK hP (ci := 3) (q0 := 7) rfl rfl, gB_pre xE_ok hP hK hD hE hS hA⟩ rfl rfl hl.1 rfl (lv_room (Nat.le_of_ble_eq_true rfl)) dX0_tick_39 ⟨Nat.le_of_ble_eq_true rfl, Nat.le_of_ble_eq_true rfl⟩) hD hS hA (fun r14 u15 H locs h hP hD hS => ?_)
        refine gc_v (w := wX ad ca K) (u := u15) (va_runV (As := [.int r14]) (rest := []) ⟨hx, hb, hml, hown, hts⟩ (cX0_fire l dC dI ad ca K H.size u15 r14 _ h) (cwV 1 hts (gG_V wd_621 wd_623 wd_13 wd_46 wd_624) rfl rfl rfl (by decide +kernel) ⟨Nat.le_of_ble_eq_true rfl, Nat.le_of_ble_eq_true rfl⟩) ⟨gB_blind xE_ok, va_recv hK hP (ci := 0) (q0 := 0) rfl rfl, gB_pre xE_ok hP hK hD hE hS hA⟩ rfl rfl hl.1 rfl (lv_room (Nat.le_of_ble_eq_true rfl)) dX0_tick_42 ⟨Nat.le_of_ble_eq_true rfl, Nat.le_of_ble_eq_true rfl⟩) hD hS hA (fun u17 H locs h hP hD hS => ?_)
        obtain ⟨x18, ex18⟩ : ∃ y : Int32, y = l5 + 1 := ⟨_, rfl⟩
        have h := h x18 ex18
        refine lv_iinc (v := x18) (lv' := [(5, .int x18), (0, .ref (ad 0)), (1, .double l1), (3, .double l3)]) hx hb dX0_tick_45 hl (k := 3) rfl (by rw [ex18]; rfl) (by decide) rfl (fun ls hl => ?_)
        refine lv_goto (tgt := 16) hx hb dX0_tick_48 (by decide) ?_
        exact ih l1 l3 x18 u17 _ _ _ h hP hD hS (lv_sub hl [1, 2, 3, 0] rfl)

set_option maxHeartbeats 8000000 in
set_option maxRecDepth 100000 in
theorem cX0_tick (l : Launch) (hl9 : l.stackTraces = false) (dC : Nat → ClassId) (dI : Nat → Nat → Nat) (ad : Nat → Nat) (ca : Nat → ClassId) (K : KX) (sz : Nat) (u : gS) (p1 : UInt64) (post : Int32 → gS → Prop) (px : String → gS → Prop)  (h : wpX0_tick K post px u p1) : vx_Met l ⟨"WorkHall", "tick", "(D)I"⟩ (gw ⟨"WorkHall", "tick", "(D)I"⟩ prog_1_method_9_code 6 (some .int)) ({ frames := 110, cells := 1, slots := 6, locals := 4400 } : Room) (va_Pc [.ref (ad 0), .double p1] (gB (dC, dI) vwCl (xT ca) xE (wX ad ca K u) sz)) (va_Qi post (gAt (dC, dI) vwCl (xT ca) (wX ad ca K) (va_A (wX ad ca K u) sz)) (va_A (wX ad ca K u) sz)) (gX (dC, dI) vwCl (xT ca) (wX ad ca K) px (va_A (wX ad ca K u) sz)) 1 6 (va_A (wX ad ca K u) sz) := by
  refine vx_ofW (cc := prog_1_method_9_code) (maxL := 6) (ret := (some .int)) (by decide) rfl ?_
  intro p e s m args below meth c s₁ B hml hno hv
  obtain ⟨rfl, hsz, hP, hK, hD0, hE⟩ := hv
  have hx := B.exec
  have hb := B.bytes
  have hr := B.returns
  have hts : ∀ w ∈ gW, w.before _ s = true := fun w h9 => atoms_spec (ws := (gw ⟨"WorkHall", "tick", "(D)I"⟩ prog_1_method_9_code 6 (some .int))) B.pre w (List.mem_cons_of_mem _ h9)
  have hown : s.vm.findClass RX0 = some m.cls := findClass_of_methodNamed B.named
  have hlocks := B.notSynchronized
  subst hsz
  have hD := hD0.self (sz := s.heap.size)
  generalize hAe : va_A (wX ad ca K u) s.heap.size = A at hD hE ⊢
  have hA : ∀ q : Nat, s.heap.size ≤ q → A q := fun q h => by rw [← hAe]; exact Or.inr h
  obtain ⟨H, hHe⟩ : ∃ z : Heap, z = s.heap := ⟨_, rfl⟩
  rw [← hHe]
  have hS : va_S A s.heap H [] := by rw [hHe]; exact va_S.rf
  have hP : va_P (dC, dI) vwCl (wX ad ca K u) H := by rw [hHe]; exact hP
  have hl := lv_entry ([.ref (ad 0), .double p1]) (n := 6) (Nat.le_of_ble_eq_true rfl)
  rw [lg_entry_eq]
  generalize (lg_sl ([.ref (ad 0), .double p1]) ++ List.replicate (6 - (lg_sl ([.ref (ad 0), .double p1])).length) Slot.unset).toArray = ls at hl ⊢
  have hl : lv_has ls 6 [(0, .ref (ad 0)), (1, .double p1)] := hl
  clear hAe
  refine lv_dload_n hx hb dX0_tick_0 rfl (lv_at hl 1 rfl) ?_
  refine lv_bipush (v := 100) hx hb dX0_tick_1 (by decide) ?_
  refine gxc_v (w := wX ad ca K) (u := u) (vx_runS (As := [.double p1, .int 100]) (rest := []) ⟨hx, hb, hml, hown, hts⟩ (cX0_checkSpan l hl9 dC dI ad ca K H.size u p1 100 _ _ h) (va_cwS 2 hts (gG_S wd_597 wd_598 wd_46 wd_599) rfl rfl rfl (by decide +kernel) ⟨Nat.le_of_ble_eq_true rfl, Nat.le_of_ble_eq_true rfl⟩) ⟨gB_blind xE_ok, gB_pre xE_ok hP hK hD hE hS hA⟩ rfl rfl hl.1 rfl (lv_room (Nat.le_of_ble_eq_true rfl)) dX0_tick_3 ⟨Nat.le_of_ble_eq_true rfl, Nat.le_of_ble_eq_true rfl⟩) hD hS hA (fun E9 ce9 q9 u9 H locs h hP hD hS hce hcv hcl => gx_out hno hlocks h hP hK hD hS hce hcv hcl (Nat.le_of_ble_eq_true rfl) (Nat.le_of_ble_eq_true rfl)) (fun u2 H locs h hP hD hS => ?_)
  refine lv_aload_n hx hb dX0_tick_6 rfl (lv_at hl 0 rfl) ?_
  refine va_get (D := (dC, dI)) (ci := 0) (v := .double (sD u2 0)) (C := RX0) (T := TX0) (N := 12) hx hb hts uwX0 hown hK hP 0 rfl rfl 11 (by decide) (hts _ wd_183) (fun _ h9 => h9) rfl dX0_tick_7 ?_
  refine lv_dload_n hx hb dX0_tick_10 rfl (lv_at hl 1 rfl) ?_
  refine lv_dadd hx hb dX0_tick_11 h.1 ?_
  have h := h.2
  refine lv_topd (fun x3 ex3 => ?_)
  have h := h x3 ex3
  refine lv_dstore_n (lv' := [(3, .double x3), (0, .ref (ad 0)), (1, .double p1)]) hx hb dX0_tick_12 rfl hl (by decide) rfl (fun ls hl => ?_)
  refine lv_iconst (v := 0) hx hb dX0_tick_13 (by decide) ?_
  refine lv_istore (lv' := [(5, .int 0), (3, .double x3), (0, .ref (ad 0)), (1, .double p1)]) hx hb dX0_tick_14 hl (by decide) rfl (fun ls hl => ?_)
  obtain ⟨n16, h⟩ := h
  exact wpX0_tick_16_ok hx hb hr hml hown hts hlocks hK hA hE hno hl9 n16 p1 x3 0 u2 _ _ _ h hP hD hS (lv_sub hl [2, 3, 1, 0] rfl)

theorem dX0_step_0 : decode prog_1_method_5_code 0 = .ok (.iload_n 1, 1) := by decide +kernel
theorem dX0_step_1 : decode prog_1_method_5_code 1 = .ok (.iconst 1, 1) := by decide +kernel
theorem dX0_step_2 : decode prog_1_method_5_code 2 = .ok (.bipush 10, 2) := by decide +kernel
theorem dX0_step_4 : decode prog_1_method_5_code 4 = .ok (.invokestatic 72, 3) := by decide +kernel
theorem dX0_step_7 : decode prog_1_method_5_code 7 = .ok (.aload_n 0, 1) := by decide +kernel
theorem dX0_step_8 : decode prog_1_method_5_code 8 = .ok (.getfield 43, 3) := by decide +kernel
theorem dX0_step_11 : decode prog_1_method_5_code 11 = .ok (.istore_n 2, 1) := by decide +kernel
theorem dX0_step_12 : decode prog_1_method_5_code 12 = .ok (.iconst 0, 1) := by decide +kernel
theorem dX0_step_13 : decode prog_1_method_5_code 13 = .ok (.istore_n 3, 1) := by decide +kernel
theorem dX0_step_14 : decode prog_1_method_5_code 14 = .ok (.iload_n 3, 1) := by decide +kernel
theorem dX0_step_15 : decode prog_1_method_5_code 15 = .ok (.iload_n 1, 1) := by decide +kernel
theorem dX0_step_16 : decode prog_1_method_5_code 16 = .ok (.if_icmp .ge 13, 3) := by decide +kernel
theorem dX0_step_19 : decode prog_1_method_5_code 19 = .ok (.aload_n 0, 1) := by decide +kernel
theorem dX0_step_20 : decode prog_1_method_5_code 20 = .ok (.invokevirtual 119, 3) := by decide +kernel
theorem dX0_step_23 : decode prog_1_method_5_code 23 = .ok (.iinc 3 1, 3) := by decide +kernel
theorem dX0_step_26 : decode prog_1_method_5_code 26 = .ok (.goto (-12), 3) := by decide +kernel
theorem dX0_step_29 : decode prog_1_method_5_code 29 = .ok (.aload_n 0, 1) := by decide +kernel
theorem dX0_step_30 : decode prog_1_method_5_code 30 = .ok (.invokevirtual 122, 3) := by decide +kernel
theorem dX0_step_33 : decode prog_1_method_5_code 33 = .ok (.aload_n 0, 1) := by decide +kernel
theorem dX0_step_34 : decode prog_1_method_5_code 34 = .ok (.getfield 43, 3) := by decide +kernel
theorem dX0_step_37 : decode prog_1_method_5_code 37 = .ok (.iload_n 2, 1) := by decide +kernel
theorem dX0_step_38 : decode prog_1_method_5_code 38 = .ok (.isub, 1) := by decide +kernel
theorem dX0_step_39 : decode prog_1_method_5_code 39 = .ok (.ireturn, 1) := by decide +kernel
def wpX0_step_14 (K : KX) (post : Int32 → gS → Prop) (px : String → gS → Prop) : Nat → Int32 → Int32 → Int32 → gS → Prop
  | 0 => fun _ _ _ _ => False
  | n + 1 => fun l1 l2 l3 u => ((l1 ≤ l3 → (wpX0_endIfSettled K (fun (u6 : gS) => post ((sI u6 1) - l2) u6) u)) ∧ (¬ l1 ≤ l3 → (wpX0_runStep K (fun (u8 : gS) => ∀ x9 : Int32, x9 = l3 + 1 → (wpX0_step_14 K post px n l1 l2 x9 u8)) u)))

def wpX0_step (K : KX) (post : Int32 → gS → Prop) (px : String → gS → Prop) (u : gS) (p1 : Int32) : Prop :=
  wpX0_checkRange K (fun (u2 : gS) => ∀ x3 : Int32, x3 = sI u2 1 → (∃ n14 : Nat, wpX0_step_14 K post px n14 p1 x3 0 u2)) px u p1 1 10

set_option maxHeartbeats 8000000 in
set_option maxRecDepth 100000 in
theorem wpX0_step_14_ok {p : Program} {l : Launch} {e : Env} {s : State} {m : MethodId} {args : Array Value} {below : List Frame} {meth : Method} {c : Code} {dC : Nat → ClassId} {dI : Nat → Nat → Nat} {ad : Nat → Nat} {ca : Nat → ClassId} {K : KX} {A : Nat → Prop} {post : Int32 → gS → Prop} {px : String → gS → Prop}   (hx : p.tables.exec = Jvm.exec) (hb : c.code = prog_1_method_5_code) (hr : meth.sig.returnType = (some .int)) (hml : c.maxLocals = 4) (hown : s.vm.findClass RX0 = some m.cls) (hts : ∀ w ∈ gW, w.before args s = true) (hlocks : meth.locks = false) (hK : va_K (dC, dI) vwCl (xT ca) s) (hA : ∀ q, s.heap.size ≤ q → A q) (hE : xE A s s.heap) (hno : ∀ x ∈ c.exceptionTable.toList, False) (hl9 : l.stackTraces = false) :
    ∀ (n : Nat) (l1 : Int32) (l2 : Int32) (l3 : Int32) (u : gS) (H : Heap) (locs : List Loc) (ls : Array Slot), wpX0_step_14 K post px n l1 l2 l3 u → va_P (dC, dI) vwCl (wX ad ca K u) H → va_D A (wX ad ca K u) → va_S A s.heap H locs → lv_has ls 4 [(0, .ref (ad 0)), (1, .int l1), (2, .int l2), (3, .int l3)] → W p l e (headSpec (gw ⟨"WorkHall", "step", "(I)I"⟩ prog_1_method_5_code 4 (some .int)) ({ frames := 113, cells := 1, slots := 6, locals := 4520 } : Room)).room s m args below meth c H locs 1 6 (vx_MQ below (va_Qi post (gAt (dC, dI) vwCl (xT ca) (wX ad ca K) (A)) (A)) (gX (dC, dI) vwCl (xT ca) (wX ad ca K) px (A)) args s 1 6 A) (F0 m 14 ls []) := by
  intro n
  induction n with
  | zero => exact fun _ _ _ _ _ _ _ h => h.elim
  | succ n ih =>
    intro l1 l2 l3 u H locs ls h hP hD hS hl
    refine lv_iload_n hx hb dX0_step_14 rfl (lv_at hl 3 rfl) ?_
    refine lv_iload_n hx hb dX0_step_15 rfl (lv_at hl 1 rfl) ?_
    refine lv_icmp_ge (tgt := 29) hx hb dX0_step_16 (by decide) (fun c4 => ?_) (fun c4 => ?_)
    · have h := h.1 c4
      refine lv_aload_n hx hb dX0_step_29 rfl (lv_at hl 0 rfl) ?_
      refine gc_v (w := wX ad ca K) (u := u) (va_runV (As := []) (rest := []) ⟨hx, hb, hml, hown, hts⟩ (cX0_endIfSettled l dC dI ad ca K H.size u _ h) (cwV 0 hts (gG_V wd_525 wd_527 wd_12 wd_46 wd_528) rfl rfl rfl (by decide +kernel) ⟨Nat.le_of_ble_eq_true rfl, Nat.le_of_ble_eq_true rfl⟩) ⟨gB_blind xE_ok, va_recv hK hP (ci := 0) (q0 := 0) rfl rfl, gB_pre xE_ok hP hK hD hE hS hA⟩ rfl rfl hl.1 rfl (lv_room (Nat.le_of_ble_eq_true rfl)) dX0_step_30 ⟨Nat.le_of_ble_eq_true rfl, Nat.le_of_ble_eq_true rfl⟩) hD hS hA (fun u6 H locs h hP hD hS => ?_)
      refine lv_aload_n hx hb dX0_step_33 rfl (lv_at hl 0 rfl) ?_
      refine va_get (D := (dC, dI)) (ci := 0) (v := .int (sI u6 1)) (C := RX0) (T := TX0) (N := 12) hx hb hts uwX0 hown hK hP 0 rfl rfl 10 (by decide) (hts _ wd_182) (fun _ h9 => h9) rfl dX0_step_34 ?_
      refine lv_iload_n hx hb dX0_step_37 rfl (lv_at hl 2 rfl) ?_
      refine lv_isub hx hb dX0_step_38 ?_
      refine W.widen (k := 1) (n := 6) (Nat.le_of_ble_eq_true rfl) (Nat.le_of_ble_eq_true rfl) (vx_ret ?_); exact gr_i (w := wX ad ca K) (u := u6) hx hb hr hlocks h hP hK hD hS dX0_step_39
    · have h := h.2 c4
      refine lv_aload_n hx hb dX0_step_19 rfl (lv_at hl 0 rfl) ?_
      refine gc_v (w := wX ad ca K) (u := u) (va_runV (As := []) (rest := []) ⟨hx, hb, hml, hown, hts⟩ (cX0_runStep l dC dI ad ca K H.size u _ h) (cwV 0 hts (gG_V wd_495 wd_497 wd_8 wd_46 wd_498) rfl rfl rfl (by decide +kernel) ⟨Nat.le_of_ble_eq_true rfl, Nat.le_of_ble_eq_true rfl⟩) ⟨gB_blind xE_ok, va_recv hK hP (ci := 0) (q0 := 0) rfl rfl, gB_pre xE_ok hP hK hD hE hS hA⟩ rfl rfl hl.1 rfl (lv_room (Nat.le_of_ble_eq_true rfl)) dX0_step_20 ⟨Nat.le_of_ble_eq_true rfl, Nat.le_of_ble_eq_true rfl⟩) hD hS hA (fun u8 H locs h hP hD hS => ?_)
      obtain ⟨x9, ex9⟩ : ∃ y : Int32, y = l3 + 1 := ⟨_, rfl⟩
      have h := h x9 ex9
      refine lv_iinc (v := x9) (lv' := [(3, .int x9), (0, .ref (ad 0)), (1, .int l1), (2, .int l2)]) hx hb dX0_step_23 hl (k := 3) rfl (by rw [ex9]; rfl) (by decide) rfl (fun ls hl => ?_)
      refine lv_goto (tgt := 14) hx hb dX0_step_26 (by decide) ?_
      exact ih l1 l2 x9 u8 _ _ _ h hP hD hS (lv_sub hl [1, 2, 3, 0] rfl)

set_option maxHeartbeats 8000000 in
set_option maxRecDepth 100000 in
theorem cX0_step (l : Launch) (hl9 : l.stackTraces = false) (dC : Nat → ClassId) (dI : Nat → Nat → Nat) (ad : Nat → Nat) (ca : Nat → ClassId) (K : KX) (sz : Nat) (u : gS) (p1 : Int32) (post : Int32 → gS → Prop) (px : String → gS → Prop)  (h : wpX0_step K post px u p1) : vx_Met l ⟨"WorkHall", "step", "(I)I"⟩ (gw ⟨"WorkHall", "step", "(I)I"⟩ prog_1_method_5_code 4 (some .int)) ({ frames := 113, cells := 1, slots := 6, locals := 4520 } : Room) (va_Pc [.ref (ad 0), .int p1] (gB (dC, dI) vwCl (xT ca) xE (wX ad ca K u) sz)) (va_Qi post (gAt (dC, dI) vwCl (xT ca) (wX ad ca K) (va_A (wX ad ca K u) sz)) (va_A (wX ad ca K u) sz)) (gX (dC, dI) vwCl (xT ca) (wX ad ca K) px (va_A (wX ad ca K u) sz)) 1 6 (va_A (wX ad ca K u) sz) := by
  refine vx_ofW (cc := prog_1_method_5_code) (maxL := 4) (ret := (some .int)) (by decide) rfl ?_
  intro p e s m args below meth c s₁ B hml hno hv
  obtain ⟨rfl, hsz, hP, hK, hD0, hE⟩ := hv
  have hx := B.exec
  have hb := B.bytes
  have hr := B.returns
  have hts : ∀ w ∈ gW, w.before _ s = true := fun w h9 => atoms_spec (ws := (gw ⟨"WorkHall", "step", "(I)I"⟩ prog_1_method_5_code 4 (some .int))) B.pre w (List.mem_cons_of_mem _ h9)
  have hown : s.vm.findClass RX0 = some m.cls := findClass_of_methodNamed B.named
  have hlocks := B.notSynchronized
  subst hsz
  have hD := hD0.self (sz := s.heap.size)
  generalize hAe : va_A (wX ad ca K u) s.heap.size = A at hD hE ⊢
  have hA : ∀ q : Nat, s.heap.size ≤ q → A q := fun q h => by rw [← hAe]; exact Or.inr h
  obtain ⟨H, hHe⟩ : ∃ z : Heap, z = s.heap := ⟨_, rfl⟩
  rw [← hHe]
  have hS : va_S A s.heap H [] := by rw [hHe]; exact va_S.rf
  have hP : va_P (dC, dI) vwCl (wX ad ca K u) H := by rw [hHe]; exact hP
  have hl := lv_entry ([.ref (ad 0), .int p1]) (n := 4) (Nat.le_of_ble_eq_true rfl)
  rw [lg_entry_eq]
  generalize (lg_sl ([.ref (ad 0), .int p1]) ++ List.replicate (4 - (lg_sl ([.ref (ad 0), .int p1])).length) Slot.unset).toArray = ls at hl ⊢
  have hl : lv_has ls 4 [(0, .ref (ad 0)), (1, .int p1)] := hl
  clear hAe
  refine lv_iload_n hx hb dX0_step_0 rfl (lv_at hl 1 rfl) ?_
  refine lv_iconst (v := 1) hx hb dX0_step_1 (by decide) ?_
  refine lv_bipush (v := 10) hx hb dX0_step_2 (by decide) ?_
  refine gxc_v (w := wX ad ca K) (u := u) (vx_runS (As := [.int p1, .int 1, .int 10]) (rest := []) ⟨hx, hb, hml, hown, hts⟩ (cX0_checkRange l hl9 dC dI ad ca K H.size u p1 1 10 _ _ h) (va_cwS 3 hts (gG_S wd_221 wd_222 wd_46 wd_223) rfl rfl rfl (by decide +kernel) ⟨Nat.le_of_ble_eq_true rfl, Nat.le_of_ble_eq_true rfl⟩) ⟨gB_blind xE_ok, gB_pre xE_ok hP hK hD hE hS hA⟩ rfl rfl hl.1 rfl (lv_room (Nat.le_of_ble_eq_true rfl)) dX0_step_4 ⟨Nat.le_of_ble_eq_true rfl, Nat.le_of_ble_eq_true rfl⟩) hD hS hA (fun E9 ce9 q9 u9 H locs h hP hD hS hce hcv hcl => gx_out hno hlocks h hP hK hD hS hce hcv hcl (Nat.le_of_ble_eq_true rfl) (Nat.le_of_ble_eq_true rfl)) (fun u2 H locs h hP hD hS => ?_)
  refine lv_aload_n hx hb dX0_step_7 rfl (lv_at hl 0 rfl) ?_
  refine va_get (D := (dC, dI)) (ci := 0) (v := .int (sI u2 1)) (C := RX0) (T := TX0) (N := 12) hx hb hts uwX0 hown hK hP 0 rfl rfl 10 (by decide) (hts _ wd_182) (fun _ h9 => h9) rfl dX0_step_8 ?_
  refine lv_topi (fun x3 ex3 => ?_)
  have h := h x3 ex3
  refine lv_istore_n (lv' := [(2, .int x3), (0, .ref (ad 0)), (1, .int p1)]) hx hb dX0_step_11 rfl hl (by decide) rfl (fun ls hl => ?_)
  refine lv_iconst (v := 0) hx hb dX0_step_12 (by decide) ?_
  refine lv_istore_n (lv' := [(3, .int 0), (2, .int x3), (0, .ref (ad 0)), (1, .int p1)]) hx hb dX0_step_13 rfl hl (by decide) rfl (fun ls hl => ?_)
  obtain ⟨n14, h⟩ := h
  exact wpX0_step_14_ok hx hb hr hml hown hts hlocks hK hA hE hno hl9 n14 p1 x3 0 u2 _ _ _ h hP hD hS (lv_sub hl [2, 3, 1, 0] rfl)

theorem dX0_submit_0 : decode prog_1_method_3_code 0 = .ok (.aload_n 0, 1) := by decide +kernel
theorem dX0_submit_1 : decode prog_1_method_3_code 1 = .ok (.iload_n 1, 1) := by decide +kernel
theorem dX0_submit_2 : decode prog_1_method_3_code 2 = .ok (.invokevirtual 86, 3) := by decide +kernel
theorem dX0_submit_5 : decode prog_1_method_3_code 5 = .ok (.astore_n 2, 1) := by decide +kernel
theorem dX0_submit_6 : decode prog_1_method_3_code 6 = .ok (.aload_n 2, 1) := by decide +kernel
theorem dX0_submit_7 : decode prog_1_method_3_code 7 = .ok (.getfield 90, 3) := by decide +kernel
theorem dX0_submit_10 : decode prog_1_method_3_code 10 = .ok (.ifCond .eq 13, 3) := by decide +kernel
theorem dX0_submit_13 : decode prog_1_method_3_code 13 = .ok (.new 76, 3) := by decide +kernel
theorem dX0_submit_16 : decode prog_1_method_3_code 16 = .ok (.dup, 1) := by decide +kernel
theorem dX0_submit_17 : decode prog_1_method_3_code 17 = .ok (.ldc 93, 2) := by decide +kernel
theorem dX0_submit_19 : decode prog_1_method_3_code 19 = .ok (.invokespecial 80, 3) := by decide +kernel
theorem dX0_submit_22 : decode prog_1_method_3_code 22 = .ok (.athrow, 1) := by decide +kernel
theorem dX0_submit_23 : decode prog_1_method_3_code 23 = .ok (.aload_n 0, 1) := by decide +kernel
theorem dX0_submit_24 : decode prog_1_method_3_code 24 = .ok (.aload_n 2, 1) := by decide +kernel
theorem dX0_submit_25 : decode prog_1_method_3_code 25 = .ok (.iconst 0, 1) := by decide +kernel
theorem dX0_submit_26 : decode prog_1_method_3_code 26 = .ok (.invokevirtual 95, 3) := by decide +kernel
theorem dX0_submit_29 : decode prog_1_method_3_code 29 = .ok (.aload_n 2, 1) := by decide +kernel
theorem dX0_submit_30 : decode prog_1_method_3_code 30 = .ok (.getfield 90, 3) := by decide +kernel
theorem dX0_submit_33 : decode prog_1_method_3_code 33 = .ok (.bipush 6, 2) := by decide +kernel
theorem dX0_submit_35 : decode prog_1_method_3_code 35 = .ok (.if_icmp .ne 13, 3) := by decide +kernel
theorem dX0_submit_38 : decode prog_1_method_3_code 38 = .ok (.new 99, 3) := by decide +kernel
theorem dX0_submit_41 : decode prog_1_method_3_code 41 = .ok (.dup, 1) := by decide +kernel
theorem dX0_submit_42 : decode prog_1_method_3_code 42 = .ok (.ldc 101, 2) := by decide +kernel
theorem dX0_submit_44 : decode prog_1_method_3_code 44 = .ok (.invokespecial 103, 3) := by decide +kernel
theorem dX0_submit_47 : decode prog_1_method_3_code 47 = .ok (.athrow, 1) := by decide +kernel
theorem dX0_submit_48 : decode prog_1_method_3_code 48 = .ok (.aload_n 2, 1) := by decide +kernel
theorem dX0_submit_49 : decode prog_1_method_3_code 49 = .ok (.getfield 90, 3) := by decide +kernel
theorem dX0_submit_52 : decode prog_1_method_3_code 52 = .ok (.ireturn, 1) := by decide +kernel
def wpX0_submit (K : KX) (post : Int32 → gS → Prop) (px : String → gS → Prop) (u : gS) (p1 : Int32) : Prop :=
  wpX0_known K (fun (r1 : Option Nat) (u2 : gS) => ∃ y3 : Nat, r1 = some y3 ∧ y3 ∈ K.2.2.1 ∧ ((((sA u2 0 y3) = 0 → (wpX0_admit 26 K (fun (u7 : gS) => ((¬ (sA u7 0 y3) = 6 → (post (sA u7 0 y3) u7)) ∧ ((sA u7 0 y3) = 6 → (px "java/lang/UnsupportedOperationException" u7)))) u2 y3 0)) ∧ (¬ (sA u2 0 y3) = 0 → (px "java/lang/IllegalStateException" u2))))) px u p1

set_option maxHeartbeats 8000000 in
set_option maxRecDepth 100000 in
theorem cX0_submit (l : Launch) (hl9 : l.stackTraces = false) (dC : Nat → ClassId) (dI : Nat → Nat → Nat) (ad : Nat → Nat) (ca : Nat → ClassId) (K : KX) (sz : Nat) (u : gS) (p1 : Int32) (post : Int32 → gS → Prop) (px : String → gS → Prop)  (h : wpX0_submit K post px u p1) : vx_Met l ⟨"WorkHall", "submit", "(I)I"⟩ (gw ⟨"WorkHall", "submit", "(I)I"⟩ prog_1_method_3_code 3 (some .int)) ({ frames := 109, cells := 3, slots := 18, locals := 4360 } : Room) (va_Pc [.ref (ad 0), .int p1] (gB (dC, dI) vwCl (xT ca) xE (wX ad ca K u) sz)) (va_Qi post (gAt (dC, dI) vwCl (xT ca) (wX ad ca K) (va_A (wX ad ca K u) sz)) (va_A (wX ad ca K u) sz)) (gX (dC, dI) vwCl (xT ca) (wX ad ca K) px (va_A (wX ad ca K u) sz)) 3 18 (va_A (wX ad ca K u) sz) := by
  refine vx_ofW (cc := prog_1_method_3_code) (maxL := 3) (ret := (some .int)) (by decide) rfl ?_
  intro p e s m args below meth c s₁ B hml hno hv
  obtain ⟨rfl, hsz, hP, hK, hD0, hE⟩ := hv
  have hx := B.exec
  have hb := B.bytes
  have hr := B.returns
  have hts : ∀ w ∈ gW, w.before _ s = true := fun w h9 => atoms_spec (ws := (gw ⟨"WorkHall", "submit", "(I)I"⟩ prog_1_method_3_code 3 (some .int))) B.pre w (List.mem_cons_of_mem _ h9)
  have hown : s.vm.findClass RX0 = some m.cls := findClass_of_methodNamed B.named
  have hlocks := B.notSynchronized
  subst hsz
  have hD := hD0.self (sz := s.heap.size)
  generalize hAe : va_A (wX ad ca K u) s.heap.size = A at hD hE ⊢
  have hA : ∀ q : Nat, s.heap.size ≤ q → A q := fun q h => by rw [← hAe]; exact Or.inr h
  obtain ⟨H, hHe⟩ : ∃ z : Heap, z = s.heap := ⟨_, rfl⟩
  rw [← hHe]
  have hS : va_S A s.heap H [] := by rw [hHe]; exact va_S.rf
  have hP : va_P (dC, dI) vwCl (wX ad ca K u) H := by rw [hHe]; exact hP
  have hl := lv_entry ([.ref (ad 0), .int p1]) (n := 3) (Nat.le_of_ble_eq_true rfl)
  rw [lg_entry_eq]
  generalize (lg_sl ([.ref (ad 0), .int p1]) ++ List.replicate (3 - (lg_sl ([.ref (ad 0), .int p1])).length) Slot.unset).toArray = ls at hl ⊢
  have hl : lv_has ls 3 [(0, .ref (ad 0)), (1, .int p1)] := hl
  clear hAe
  refine lv_aload_n hx hb dX0_submit_0 rfl (lv_at hl 0 rfl) ?_
  refine lv_iload_n hx hb dX0_submit_1 rfl (lv_at hl 1 rfl) ?_
  refine gxc_q (w := wX ad ca K) (u := u) (vx_runV (As := [.int p1]) (rest := []) ⟨hx, hb, hml, hown, hts⟩ (cX0_known l hl9 dC dI ad ca K H.size u p1 _ _ h) (cwV 1 hts (gG_V wd_364 wd_366 wd_1 wd_46 wd_367) rfl rfl rfl (by decide +kernel) ⟨Nat.le_of_ble_eq_true rfl, Nat.le_of_ble_eq_true rfl⟩) ⟨gB_blind xE_ok, va_recv hK hP (ci := 0) (q0 := 0) rfl rfl, gB_pre xE_ok hP hK hD hE hS hA⟩ rfl rfl hl.1 rfl (lv_room (Nat.le_of_ble_eq_true rfl)) dX0_submit_2 ⟨Nat.le_of_ble_eq_true rfl, Nat.le_of_ble_eq_true rfl⟩) hD hS hA (fun E9 ce9 q9 u9 H locs h hP hD hS hce hcv hcl => gx_out hno hlocks h hP hK hD hS hce hcv hcl (Nat.le_of_ble_eq_true rfl) (Nat.le_of_ble_eq_true rfl)) (fun r1 u2 H locs h hP hD hS => ?_)
  refine gq_astore_n (r := r1) (lv' := [(2, va_rf r1), (0, .ref (ad 0)), (1, .int p1)]) hx hb dX0_submit_5 rfl hl (by decide) rfl (fun ls hl => ?_)
  refine gq_aload_n (r := r1) hx hb dX0_submit_6 rfl (lv_at hl 0 rfl) ?_
  obtain ⟨y3, rfl, hy4, h⟩ := h
  obtain ⟨k9, hk9⟩ := xJ_get hy4
  refine va_get (D := (dC, dI)) (ci := 5) (v := .int (sA u2 0 y3)) (C := RX5) (T := TX5) (N := 9) hx hb hts uwX5 hown hK hP k9 hk9 rfl 5 (by decide) (hts _ wd_327) (fun _ h9 => h9) rfl dX0_submit_7 ?_
  refine lv_if_eq (tgt := 23) hx hb dX0_submit_10 (by decide) (fun c5 => ?_) (fun c5 => ?_)
  · have h := h.1 c5
    refine lv_aload_n hx hb dX0_submit_23 rfl (lv_at hl 1 rfl) ?_
    refine lv_aload_n hx hb dX0_submit_24 rfl (lv_at hl 0 rfl) ?_
    refine lv_iconst (v := 0) hx hb dX0_submit_25 (by decide) ?_
    refine gc_v (w := wX ad ca K) (u := u2) (va_runV (As := [.ref y3, .int 0]) (rest := []) ⟨hx, hb, hml, hown, hts⟩ (cX0_admit l dC dI ad ca K 26 H.size u2 y3 0 _ hy4 h) (cwV 2 hts (gG_V wd_389 wd_391 wd_3 wd_46 wd_392) rfl rfl rfl (by decide +kernel) ⟨Nat.le_of_ble_eq_true rfl, Nat.le_of_ble_eq_true rfl⟩) ⟨gB_blind xE_ok, va_recv hK hP (ci := 0) (q0 := 0) rfl rfl, gB_pre xE_ok hP hK hD hE hS hA⟩ rfl rfl hl.1 rfl (lv_room (Nat.le_of_ble_eq_true rfl)) dX0_submit_26 ⟨Nat.le_of_ble_eq_true rfl, Nat.le_of_ble_eq_true rfl⟩) hD hS hA (fun u7 H locs h hP hD hS => ?_)
    refine lv_aload_n hx hb dX0_submit_29 rfl (lv_at hl 0 rfl) ?_
    obtain ⟨k9, hk9⟩ := xJ_get hy4
    refine va_get (D := (dC, dI)) (ci := 5) (v := .int (sA u7 0 y3)) (C := RX5) (T := TX5) (N := 9) hx hb hts uwX5 hown hK hP k9 hk9 rfl 5 (by decide) (hts _ wd_327) (fun _ h9 => h9) rfl dX0_submit_30 ?_
    refine lv_bipush (v := 6) hx hb dX0_submit_33 (by decide) ?_
    refine lv_icmp_ne (tgt := 48) hx hb dX0_submit_35 (by decide) (fun c8 => ?_) (fun c8 => ?_)
    · have h := h.1 c8
      refine lv_aload_n hx hb dX0_submit_48 rfl (lv_at hl 0 rfl) ?_
      obtain ⟨k9, hk9⟩ := xJ_get hy4
      refine va_get (D := (dC, dI)) (ci := 5) (v := .int (sA u7 0 y3)) (C := RX5) (T := TX5) (N := 9) hx hb hts uwX5 hown hK hP k9 hk9 rfl 5 (by decide) (hts _ wd_327) (fun _ h9 => h9) rfl dX0_submit_49 ?_
      refine W.widen (k := 3) (n := 18) (Nat.le_of_ble_eq_true rfl) (Nat.le_of_ble_eq_true rfl) (vx_ret ?_); exact gr_i (w := wX ad ca K) (u := u7) hx hb hr hlocks h hP hK hD hS dX0_submit_52
    · have h := h.2 c8
      obtain ⟨sa9, hs9⟩ := xE_text hE 101 "the job is refused" (by decide +kernel); exact vx_throwS (names := xSup) hx hb hl9 hown (by decide +kernel) (by decide +kernel) (hts _ wd_459) (hts _ wd_60) hs9 (tw_uoe hts (xE_face hE)) tg_uoe (xE_U hE) (xE_N hE) hS (hl.1.trans hml.symm) dX0_submit_38 dX0_submit_41 dX0_submit_42 dX0_submit_44 dX0_submit_47 (fun x hx => (hno x hx).elim) (Nat.le_of_ble_eq_true rfl) (Nat.le_of_ble_eq_true rfl) (Nat.le_of_ble_eq_true rfl) (Nat.le_of_ble_eq_true rfl) hlocks (fun t ha hz hq => gx_thrown h hP hK hD hS ha hz hq) hS.2.2 (Nat.le_of_ble_eq_true rfl) (Nat.le_of_ble_eq_true rfl)
  · have h := h.2 c5
    obtain ⟨sa9, hs9⟩ := xE_text hE 93 "the job is not new" (by decide +kernel); exact vx_throwS (names := xSup) hx hb hl9 hown (by decide +kernel) (by decide +kernel) (hts _ wd_295) (hts _ wd_57) hs9 (tw_ise hts (xE_face hE)) tg_ise (xE_U hE) (xE_N hE) hS (hl.1.trans hml.symm) dX0_submit_13 dX0_submit_16 dX0_submit_17 dX0_submit_19 dX0_submit_22 (fun x hx => (hno x hx).elim) (Nat.le_of_ble_eq_true rfl) (Nat.le_of_ble_eq_true rfl) (Nat.le_of_ble_eq_true rfl) (Nat.le_of_ble_eq_true rfl) hlocks (fun t ha hz hq => gx_thrown h hP hK hD hS ha hz hq) hS.2.2 (Nat.le_of_ble_eq_true rfl) (Nat.le_of_ble_eq_true rfl)

