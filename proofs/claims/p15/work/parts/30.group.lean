def rmN (k : Nat) : Room := { frames := k, cells := 0, slots := 0, locals := 40 * k }
theorem rmN_le {w : List Cond} {k k' maxL : Nat} (h : k + 1 ≤ k') (hm : maxL ≤ 21) : (rmN k).frames + 1 ≤ (headSpec w (rmN k')).room.frames ∧ 8 + (maxL + 11) + (rmN k).locals ≤ (headSpec w (rmN k')).room.locals := ⟨h, by show 8 + (maxL + 11) + 40 * k ≤ 40 * k'; omega⟩
theorem dX0_fork_0 : decode prog_1_method_26_code 0 = .ok (.aload_n 0, 1) := by decide +kernel
theorem dX0_fork_1 : decode prog_1_method_26_code 1 = .ok (.aload_n 1, 1) := by decide +kernel
theorem dX0_fork_2 : decode prog_1_method_26_code 2 = .ok (.getfield 267, 3) := by decide +kernel
theorem dX0_fork_5 : decode prog_1_method_26_code 5 = .ok (.invokevirtual 241, 3) := by decide +kernel
theorem dX0_fork_8 : decode prog_1_method_26_code 8 = .ok (.astore_n 3, 1) := by decide +kernel
theorem dX0_fork_9 : decode prog_1_method_26_code 9 = .ok (.aload_n 3, 1) := by decide +kernel
theorem dX0_fork_10 : decode prog_1_method_26_code 10 = .ok (.ifnull 10, 3) := by decide +kernel
theorem dX0_fork_13 : decode prog_1_method_26_code 13 = .ok (.aload_n 3, 1) := by decide +kernel
theorem dX0_fork_14 : decode prog_1_method_26_code 14 = .ok (.getfield 90, 3) := by decide +kernel
theorem dX0_fork_17 : decode prog_1_method_26_code 17 = .ok (.ifCond .eq 9, 3) := by decide +kernel
theorem dX0_fork_20 : decode prog_1_method_26_code 20 = .ok (.aload_n 1, 1) := by decide +kernel
theorem dX0_fork_21 : decode prog_1_method_26_code 21 = .ok (.iconst 4, 1) := by decide +kernel
theorem dX0_fork_22 : decode prog_1_method_26_code 22 = .ok (.invokevirtual 285, 3) := by decide +kernel
theorem dX0_fork_25 : decode prog_1_method_26_code 25 = .ok (.return_, 1) := by decide +kernel
theorem dX0_fork_26 : decode prog_1_method_26_code 26 = .ok (.aload_n 0, 1) := by decide +kernel
theorem dX0_fork_27 : decode prog_1_method_26_code 27 = .ok (.aload_n 3, 1) := by decide +kernel
theorem dX0_fork_28 : decode prog_1_method_26_code 28 = .ok (.iload_n 2, 1) := by decide +kernel
theorem dX0_fork_29 : decode prog_1_method_26_code 29 = .ok (.iconst 1, 1) := by decide +kernel
theorem dX0_fork_30 : decode prog_1_method_26_code 30 = .ok (.iadd, 1) := by decide +kernel
theorem dX0_fork_31 : decode prog_1_method_26_code 31 = .ok (.invokevirtual 95, 3) := by decide +kernel
theorem dX0_fork_34 : decode prog_1_method_26_code 34 = .ok (.aload_n 3, 1) := by decide +kernel
theorem dX0_fork_35 : decode prog_1_method_26_code 35 = .ok (.getfield 90, 3) := by decide +kernel
theorem dX0_fork_38 : decode prog_1_method_26_code 38 = .ok (.bipush 6, 2) := by decide +kernel
theorem dX0_fork_40 : decode prog_1_method_26_code 40 = .ok (.if_icmp .ne 11, 3) := by decide +kernel
theorem dX0_fork_43 : decode prog_1_method_26_code 43 = .ok (.aload_n 1, 1) := by decide +kernel
theorem dX0_fork_44 : decode prog_1_method_26_code 44 = .ok (.iconst 4, 1) := by decide +kernel
theorem dX0_fork_45 : decode prog_1_method_26_code 45 = .ok (.invokevirtual 285, 3) := by decide +kernel
theorem dX0_fork_48 : decode prog_1_method_26_code 48 = .ok (.goto 11, 3) := by decide +kernel
theorem dX0_fork_51 : decode prog_1_method_26_code 51 = .ok (.aload_n 1, 1) := by decide +kernel
theorem dX0_fork_52 : decode prog_1_method_26_code 52 = .ok (.aload_n 3, 1) := by decide +kernel
theorem dX0_fork_53 : decode prog_1_method_26_code 53 = .ok (.getfield 90, 3) := by decide +kernel
theorem dX0_fork_56 : decode prog_1_method_26_code 56 = .ok (.invokevirtual 270, 3) := by decide +kernel
theorem dX0_fork_59 : decode prog_1_method_26_code 59 = .ok (.return_, 1) := by decide +kernel
def wpX0_fork (K : KX) (adm : KX → (gS → Prop) → gS → Nat → Int32 → Prop) (post : gS → Prop) (u : gS) (p1 : Nat) (p2 : Int32) : Prop :=
  wpX0_find K (fun (r1 : Option Nat) (u2 : gS) => ((r1 = none → (wpX5_fail K (fun (u5 : gS) => post u5) u2 p1 4)) ∧ (∀ y3 : Nat, r1 = some y3 → (y3 ∈ K.2.2.1 ∧ ((((sA u2 0 y3) = 0 → (adm K (fun (u9 : gS) => ((¬ (sA u9 0 y3) = 6 → (wpX5_succeed K (fun (u12 : gS) => post u12) u9 p1 (sA u9 0 y3))) ∧ ((sA u9 0 y3) = 6 → (wpX5_fail K (fun (u14 : gS) => post u14) u9 p1 4)))) u2 y3 (p2 + 1))) ∧ (¬ (sA u2 0 y3) = 0 → (wpX5_fail K (fun (u16 : gS) => post u16) u2 p1 4)))))))) u (K.2.2.2.1 p1 2)

set_option maxHeartbeats 8000000 in
set_option maxRecDepth 100000 in
theorem cX0_fork (l : Launch) (dC : Nat → ClassId) (dI : Nat → Nat → Nat) (ad : Nat → Nat) (ca : Nat → ClassId) (K : KX) (n : Nat) (adm : KX → (gS → Prop) → gS → Nat → Int32 → Prop) (sz : Nat) (u : gS) (p1 : Nat) (p2 : Int32) (post : gS → Prop) (hp1 : p1 ∈ K.2.2.1) (h : wpX0_fork K adm post u p1 p2) (hadm : ∀ (sz : Nat) (u : gS) (p1 : Nat) (p2 : Int32) (post : gS → Prop), p1 ∈ K.2.2.1 → adm K post u p1 p2 → Met l nAdm (gw nAdm prog_1_method_22_code 4 none) (rmN (4 * n + 4)) (va_Pc [.ref (ad 0), .ref p1, .int p2] (gB (dC, dI) vwCl (xT ca) xE (wX ad ca K u) sz)) (va_Qv post (gAt (dC, dI) vwCl (xT ca) (wX ad ca K) (va_A (wX ad ca K u) sz)) (va_A (wX ad ca K u) sz)) 0 0 (va_A (wX ad ca K u) sz)) : Met l ⟨"WorkHall", "fork", "(LWorkHall$Job;I)V"⟩ (gw ⟨"WorkHall", "fork", "(LWorkHall$Job;I)V"⟩ prog_1_method_26_code 4 none) (rmN (4 * n + 5)) (va_Pc [.ref (ad 0), .ref p1, .int p2] (gB (dC, dI) vwCl (xT ca) xE (wX ad ca K u) sz)) (va_Qv post (gAt (dC, dI) vwCl (xT ca) (wX ad ca K) (va_A (wX ad ca K u) sz)) (va_A (wX ad ca K u) sz)) 0 0 (va_A (wX ad ca K u) sz) := by
  refine Met.ofW (cc := prog_1_method_26_code) (maxL := 4) (ret := none) (by decide) rfl ?_
  intro p e s m args below meth c s₁ B hml hv
  obtain ⟨rfl, hsz, hP, hK, hD0, hE⟩ := hv
  have hx := B.exec
  have hb := B.bytes
  have hr := B.returns
  have hts : ∀ w ∈ gW, w.before _ s = true := fun w h9 => atoms_spec (ws := (gw ⟨"WorkHall", "fork", "(LWorkHall$Job;I)V"⟩ prog_1_method_26_code 4 none)) B.pre w (List.mem_cons_of_mem _ h9)
  have hown : s.vm.findClass RX0 = some m.cls := findClass_of_methodNamed B.named
  have hlocks := B.notSynchronized
  subst hsz
  have hD := hD0.self (sz := s.heap.size)
  generalize hAe : va_A (wX ad ca K u) s.heap.size = A at hD hE ⊢
  have hA : ∀ q : Nat, s.heap.size ≤ q → A q := fun q h => by rw [← hAe]; exact Or.inr h
  obtain ⟨H, hHe⟩ : ∃ z : Heap, z = s.heap := ⟨_, rfl⟩
  rw [← hHe]
  have hS : va_S A s.heap H [] := by rw [hHe]; exact va_S.rf
  have hP : va_P (dC, dI) vwCl (wX ad ca K u) H := by rw [hHe]; exact hP
  have hl := lv_entry ([.ref (ad 0), .ref p1, .int p2]) (n := 4) (Nat.le_of_ble_eq_true rfl)
  rw [lg_entry_eq]
  generalize (lg_sl ([.ref (ad 0), .ref p1, .int p2]) ++ List.replicate (4 - (lg_sl ([.ref (ad 0), .ref p1, .int p2])).length) Slot.unset).toArray = ls at hl ⊢
  have hl : lv_has ls 4 [(0, .ref (ad 0)), (1, .ref p1), (2, .int p2)] := hl
  clear hAe
  refine lv_aload_n hx hb dX0_fork_0 rfl (lv_at hl 0 rfl) ?_
  refine lv_aload_n hx hb dX0_fork_1 rfl (lv_at hl 1 rfl) ?_
  obtain ⟨k9, hk9⟩ := xJ_get hp1
  refine va_get (D := (dC, dI)) (ci := 5) (v := .int (K.2.2.2.1 p1 2)) (C := RX5) (T := TX5) (N := 9) hx hb hts uwX5 hown hK hP k9 hk9 rfl 2 (by decide) (hts _ wd_320) (fun _ h9 => h9) rfl dX0_fork_2 ?_
  refine gc_q (w := wX ad ca K) (u := u) (va_runV (As := [.int (K.2.2.2.1 p1 2)]) (rest := []) ⟨hx, hb, hml, hown, hts⟩ (cX0_find l dC dI ad ca K H.size u (K.2.2.2.1 p1 2) _ h) (cwV 1 hts (gG_V wd_368 wd_370 wd_2 wd_46 wd_371) rfl rfl rfl (by decide +kernel) (rmN_le (k := 1) (by omega) (by decide))) ⟨gB_blind xE_ok, va_recv hK hP (ci := 0) (q0 := 0) rfl rfl, gB_pre xE_ok hP hK hD hE hS hA⟩ rfl rfl hl.1 rfl (lv_room (Nat.le_of_ble_eq_true rfl)) dX0_fork_5 ⟨Nat.le_of_ble_eq_true rfl, Nat.le_of_ble_eq_true rfl⟩) hD hS hA (fun r1 u2 H locs h hP hD hS => ?_)
  refine gq_astore_n (r := r1) (lv' := [(3, va_rf r1), (0, .ref (ad 0)), (1, .ref p1), (2, .int p2)]) hx hb dX0_fork_8 rfl hl (by decide) rfl (fun ls hl => ?_)
  refine gq_aload_n (r := r1) hx hb dX0_fork_9 rfl (lv_at hl 0 rfl) ?_
  rcases r1 with _ | y3
  · have h := h.1 rfl
    refine lv_ifnullN (tgt := 20) hx hb dX0_fork_10 (by decide) ?_
    refine lv_aload_n hx hb dX0_fork_20 rfl (lv_at hl 2 rfl) ?_
    refine lv_iconst (v := 4) hx hb dX0_fork_21 (by decide) ?_
    refine gc_v (w := wX ad ca K) (u := u2) (va_runV (As := [.int 4]) (rest := []) ⟨hx, hb, hml, hown, hts⟩ (cX5_fail l dC dI ad ca K H.size u2 p1 4 _ hp1 h) (cwV 1 hts (gG_V wd_454 wd_440 wd_441 wd_58 wd_442) rfl rfl rfl (by decide +kernel) (rmN_le (k := 1) (by omega) (by decide))) ⟨gB_blind xE_ok, (by obtain ⟨k9, hk9⟩ := xJ_get hp1; exact va_recv hK hP (ci := 5) (q0 := k9) rfl hk9), gB_pre xE_ok hP hK hD hE hS hA⟩ rfl rfl hl.1 rfl (lv_room (Nat.le_of_ble_eq_true rfl)) dX0_fork_22 ⟨Nat.le_of_ble_eq_true rfl, Nat.le_of_ble_eq_true rfl⟩) hD hS hA (fun u5 H locs h hP hD hS => ?_)
    exact gr_v (w := wX ad ca K) (u := u5) hx hb hr hlocks h hP hK hD hS dX0_fork_25
  · have h := h.2 y3 rfl
    refine lv_ifnull hx hb dX0_fork_10 ?_
    refine lv_aload_n hx hb dX0_fork_13 rfl (lv_at hl 0 rfl) ?_
    obtain ⟨hy6, h⟩ := h
    obtain ⟨k9, hk9⟩ := xJ_get hy6
    refine va_get (D := (dC, dI)) (ci := 5) (v := .int (sA u2 0 y3)) (C := RX5) (T := TX5) (N := 9) hx hb hts uwX5 hown hK hP k9 hk9 rfl 5 (by decide) (hts _ wd_327) (fun _ h9 => h9) rfl dX0_fork_14 ?_
    refine lv_if_eq (tgt := 26) hx hb dX0_fork_17 (by decide) (fun c7 => ?_) (fun c7 => ?_)
    · have h := h.1 c7
      refine lv_aload_n hx hb dX0_fork_26 rfl (lv_at hl 1 rfl) ?_
      refine lv_aload_n hx hb dX0_fork_27 rfl (lv_at hl 0 rfl) ?_
      refine lv_iload_n hx hb dX0_fork_28 rfl (lv_at hl 3 rfl) ?_
      refine lv_iconst (v := 1) hx hb dX0_fork_29 (by decide) ?_
      refine lv_iadd hx hb dX0_fork_30 ?_
      refine gc_v (w := wX ad ca K) (u := u2) (va_runV (As := [.ref y3, .int (p2 + 1)]) (rest := []) ⟨hx, hb, hml, hown, hts⟩ (hadm H.size u2 y3 (p2 + 1) _ hy6 h) (cwV 2 hts (gG_V wd_389 wd_391 wd_3 wd_46 wd_392) rfl rfl rfl (by decide +kernel) (rmN_le (k := 4 * n + 4) (by omega) (by decide))) ⟨gB_blind xE_ok, va_recv hK hP (ci := 0) (q0 := 0) rfl rfl, gB_pre xE_ok hP hK hD hE hS hA⟩ rfl rfl hl.1 rfl (lv_room (Nat.le_of_ble_eq_true rfl)) dX0_fork_31 ⟨Nat.le_of_ble_eq_true rfl, Nat.le_of_ble_eq_true rfl⟩) hD hS hA (fun u9 H locs h hP hD hS => ?_)
      refine lv_aload_n hx hb dX0_fork_34 rfl (lv_at hl 0 rfl) ?_
      obtain ⟨k9, hk9⟩ := xJ_get hy6
      refine va_get (D := (dC, dI)) (ci := 5) (v := .int (sA u9 0 y3)) (C := RX5) (T := TX5) (N := 9) hx hb hts uwX5 hown hK hP k9 hk9 rfl 5 (by decide) (hts _ wd_327) (fun _ h9 => h9) rfl dX0_fork_35 ?_
      refine lv_bipush (v := 6) hx hb dX0_fork_38 (by decide) ?_
      refine lv_icmp_ne (tgt := 51) hx hb dX0_fork_40 (by decide) (fun c10 => ?_) (fun c10 => ?_)
      · have h := h.1 c10
        refine lv_aload_n hx hb dX0_fork_51 rfl (lv_at hl 2 rfl) ?_
        refine lv_aload_n hx hb dX0_fork_52 rfl (lv_at hl 0 rfl) ?_
        obtain ⟨k9, hk9⟩ := xJ_get hy6
        refine va_get (D := (dC, dI)) (ci := 5) (v := .int (sA u9 0 y3)) (C := RX5) (T := TX5) (N := 9) hx hb hts uwX5 hown hK hP k9 hk9 rfl 5 (by decide) (hts _ wd_327) (fun _ h9 => h9) rfl dX0_fork_53 ?_
        refine gc_v (w := wX ad ca K) (u := u9) (va_runV (As := [.int (sA u9 0 y3)]) (rest := []) ⟨hx, hb, hml, hown, hts⟩ (cX5_succeed l dC dI ad ca K H.size u9 p1 (sA u9 0 y3) _ hp1 h) (cwV 1 hts (gG_V wd_431 wd_432 wd_433 wd_58 wd_434) rfl rfl rfl (by decide +kernel) (rmN_le (k := 1) (by omega) (by decide))) ⟨gB_blind xE_ok, (by obtain ⟨k9, hk9⟩ := xJ_get hp1; exact va_recv hK hP (ci := 5) (q0 := k9) rfl hk9), gB_pre xE_ok hP hK hD hE hS hA⟩ rfl rfl hl.1 rfl (lv_room (Nat.le_of_ble_eq_true rfl)) dX0_fork_56 ⟨Nat.le_of_ble_eq_true rfl, Nat.le_of_ble_eq_true rfl⟩) hD hS hA (fun u12 H locs h hP hD hS => ?_)
        exact gr_v (w := wX ad ca K) (u := u12) hx hb hr hlocks h hP hK hD hS dX0_fork_59
      · have h := h.2 c10
        refine lv_aload_n hx hb dX0_fork_43 rfl (lv_at hl 2 rfl) ?_
        refine lv_iconst (v := 4) hx hb dX0_fork_44 (by decide) ?_
        refine gc_v (w := wX ad ca K) (u := u9) (va_runV (As := [.int 4]) (rest := []) ⟨hx, hb, hml, hown, hts⟩ (cX5_fail l dC dI ad ca K H.size u9 p1 4 _ hp1 h) (cwV 1 hts (gG_V wd_454 wd_440 wd_441 wd_58 wd_442) rfl rfl rfl (by decide +kernel) (rmN_le (k := 1) (by omega) (by decide))) ⟨gB_blind xE_ok, (by obtain ⟨k9, hk9⟩ := xJ_get hp1; exact va_recv hK hP (ci := 5) (q0 := k9) rfl hk9), gB_pre xE_ok hP hK hD hE hS hA⟩ rfl rfl hl.1 rfl (lv_room (Nat.le_of_ble_eq_true rfl)) dX0_fork_45 ⟨Nat.le_of_ble_eq_true rfl, Nat.le_of_ble_eq_true rfl⟩) hD hS hA (fun u14 H locs h hP hD hS => ?_)
        refine lv_goto (tgt := 59) hx hb dX0_fork_48 (by decide) ?_
        exact gr_v (w := wX ad ca K) (u := u14) hx hb hr hlocks h hP hK hD hS dX0_fork_59
    · have h := h.2 c7
      refine lv_aload_n hx hb dX0_fork_20 rfl (lv_at hl 2 rfl) ?_
      refine lv_iconst (v := 4) hx hb dX0_fork_21 (by decide) ?_
      refine gc_v (w := wX ad ca K) (u := u2) (va_runV (As := [.int 4]) (rest := []) ⟨hx, hb, hml, hown, hts⟩ (cX5_fail l dC dI ad ca K H.size u2 p1 4 _ hp1 h) (cwV 1 hts (gG_V wd_454 wd_440 wd_441 wd_58 wd_442) rfl rfl rfl (by decide +kernel) (rmN_le (k := 1) (by omega) (by decide))) ⟨gB_blind xE_ok, (by obtain ⟨k9, hk9⟩ := xJ_get hp1; exact va_recv hK hP (ci := 5) (q0 := k9) rfl hk9), gB_pre xE_ok hP hK hD hE hS hA⟩ rfl rfl hl.1 rfl (lv_room (Nat.le_of_ble_eq_true rfl)) dX0_fork_22 ⟨Nat.le_of_ble_eq_true rfl, Nat.le_of_ble_eq_true rfl⟩) hD hS hA (fun u16 H locs h hP hD hS => ?_)
      exact gr_v (w := wX ad ca K) (u := u16) hx hb hr hlocks h hP hK hD hS dX0_fork_25

theorem dX0_performAndEnd_0 : decode prog_1_method_24_code 0 = .ok (.aload_n 1, 1) := by decide +kernel
theorem dX0_performAndEnd_1 : decode prog_1_method_24_code 1 = .ok (.getfield 203, 3) := by decide +kernel
theorem dX0_performAndEnd_4 : decode prog_1_method_24_code 4 = .ok (.tableswitch 78 0 4 #[36, 47, 54, 61, 69], 36) := by decide +kernel
theorem dX0_performAndEnd_40 : decode prog_1_method_24_code 40 = .ok (.aload_n 1, 1) := by decide +kernel
theorem dX0_performAndEnd_41 : decode prog_1_method_24_code 41 = .ok (.aload_n 1, 1) := by decide +kernel
theorem dX0_performAndEnd_42 : decode prog_1_method_24_code 42 = .ok (.getfield 267, 3) := by decide +kernel
theorem dX0_performAndEnd_45 : decode prog_1_method_24_code 45 = .ok (.invokevirtual 270, 3) := by decide +kernel
theorem dX0_performAndEnd_48 : decode prog_1_method_24_code 48 = .ok (.goto 39, 3) := by decide +kernel
theorem dX0_performAndEnd_51 : decode prog_1_method_24_code 51 = .ok (.aload_n 1, 1) := by decide +kernel
theorem dX0_performAndEnd_52 : decode prog_1_method_24_code 52 = .ok (.invokevirtual 273, 3) := by decide +kernel
theorem dX0_performAndEnd_55 : decode prog_1_method_24_code 55 = .ok (.goto 32, 3) := by decide +kernel
theorem dX0_performAndEnd_58 : decode prog_1_method_24_code 58 = .ok (.aload_n 1, 1) := by decide +kernel
theorem dX0_performAndEnd_59 : decode prog_1_method_24_code 59 = .ok (.invokevirtual 276, 3) := by decide +kernel
theorem dX0_performAndEnd_62 : decode prog_1_method_24_code 62 = .ok (.goto 25, 3) := by decide +kernel
theorem dX0_performAndEnd_65 : decode prog_1_method_24_code 65 = .ok (.aload_n 0, 1) := by decide +kernel
theorem dX0_performAndEnd_66 : decode prog_1_method_24_code 66 = .ok (.aload_n 1, 1) := by decide +kernel
theorem dX0_performAndEnd_67 : decode prog_1_method_24_code 67 = .ok (.invokevirtual 279, 3) := by decide +kernel
theorem dX0_performAndEnd_70 : decode prog_1_method_24_code 70 = .ok (.goto 17, 3) := by decide +kernel
theorem dX0_performAndEnd_73 : decode prog_1_method_24_code 73 = .ok (.aload_n 0, 1) := by decide +kernel
theorem dX0_performAndEnd_74 : decode prog_1_method_24_code 74 = .ok (.aload_n 1, 1) := by decide +kernel
theorem dX0_performAndEnd_75 : decode prog_1_method_24_code 75 = .ok (.iload_n 2, 1) := by decide +kernel
theorem dX0_performAndEnd_76 : decode prog_1_method_24_code 76 = .ok (.invokevirtual 282, 3) := by decide +kernel
theorem dX0_performAndEnd_79 : decode prog_1_method_24_code 79 = .ok (.goto 8, 3) := by decide +kernel
theorem dX0_performAndEnd_82 : decode prog_1_method_24_code 82 = .ok (.aload_n 1, 1) := by decide +kernel
theorem dX0_performAndEnd_83 : decode prog_1_method_24_code 83 = .ok (.iconst 5, 1) := by decide +kernel
theorem dX0_performAndEnd_84 : decode prog_1_method_24_code 84 = .ok (.invokevirtual 285, 3) := by decide +kernel
theorem dX0_performAndEnd_87 : decode prog_1_method_24_code 87 = .ok (.aload_n 0, 1) := by decide +kernel
theorem dX0_performAndEnd_88 : decode prog_1_method_24_code 88 = .ok (.dup, 1) := by decide +kernel
theorem dX0_performAndEnd_89 : decode prog_1_method_24_code 89 = .ok (.getfield 43, 3) := by decide +kernel
theorem dX0_performAndEnd_92 : decode prog_1_method_24_code 92 = .ok (.iconst 1, 1) := by decide +kernel
theorem dX0_performAndEnd_93 : decode prog_1_method_24_code 93 = .ok (.iadd, 1) := by decide +kernel
theorem dX0_performAndEnd_94 : decode prog_1_method_24_code 94 = .ok (.putfield 43, 3) := by decide +kernel
theorem dX0_performAndEnd_97 : decode prog_1_method_24_code 97 = .ok (.aload_n 1, 1) := by decide +kernel
theorem dX0_performAndEnd_98 : decode prog_1_method_24_code 98 = .ok (.getfield 115, 3) := by decide +kernel
theorem dX0_performAndEnd_101 : decode prog_1_method_24_code 101 = .ok (.astore_n 3, 1) := by decide +kernel
theorem dX0_performAndEnd_102 : decode prog_1_method_24_code 102 = .ok (.aload_n 1, 1) := by decide +kernel
theorem dX0_performAndEnd_103 : decode prog_1_method_24_code 103 = .ok (.getfield 90, 3) := by decide +kernel
theorem dX0_performAndEnd_106 : decode prog_1_method_24_code 106 = .ok (.iconst 3, 1) := by decide +kernel
theorem dX0_performAndEnd_107 : decode prog_1_method_24_code 107 = .ok (.if_icmp .ne 22, 3) := by decide +kernel
theorem dX0_performAndEnd_110 : decode prog_1_method_24_code 110 = .ok (.aload_n 3, 1) := by decide +kernel
theorem dX0_performAndEnd_111 : decode prog_1_method_24_code 111 = .ok (.ifnull 18, 3) := by decide +kernel
theorem dX0_performAndEnd_114 : decode prog_1_method_24_code 114 = .ok (.aload_n 3, 1) := by decide +kernel
theorem dX0_performAndEnd_115 : decode prog_1_method_24_code 115 = .ok (.getfield 90, 3) := by decide +kernel
theorem dX0_performAndEnd_118 : decode prog_1_method_24_code 118 = .ok (.ifCond .ne 11, 3) := by decide +kernel
theorem dX0_performAndEnd_121 : decode prog_1_method_24_code 121 = .ok (.aload_n 0, 1) := by decide +kernel
theorem dX0_performAndEnd_122 : decode prog_1_method_24_code 122 = .ok (.aload_n 3, 1) := by decide +kernel
theorem dX0_performAndEnd_123 : decode prog_1_method_24_code 123 = .ok (.iload_n 2, 1) := by decide +kernel
theorem dX0_performAndEnd_124 : decode prog_1_method_24_code 124 = .ok (.iconst 1, 1) := by decide +kernel
theorem dX0_performAndEnd_125 : decode prog_1_method_24_code 125 = .ok (.iadd, 1) := by decide +kernel
theorem dX0_performAndEnd_126 : decode prog_1_method_24_code 126 = .ok (.invokevirtual 95, 3) := by decide +kernel
theorem dX0_performAndEnd_129 : decode prog_1_method_24_code 129 = .ok (.return_, 1) := by decide +kernel
def wpX0_performAndEnd (K : KX) (adm : KX → (gS → Prop) → gS → Nat → Int32 → Prop) (post : gS → Prop) (u : gS) (p1 : Nat) (p2 : Int32) : Prop :=
  (((K.2.2.2.1 p1 1) = 0 → (wpX5_succeed K (fun (u3 : gS) => ∀ u4 : gS, u4 = tI u3 1 ((sI u3 1) + 1) → (∀ r5 : Option Nat, r5 = sQ u4 3 p1 → (((¬ (sA u4 0 p1) = 3 → (post u4)) ∧ ((sA u4 0 p1) = 3 → (((r5 = none → (post u4)) ∧ (∀ y7 : Nat, r5 = some y7 → (y7 ∈ K.2.2.1 ∧ (((¬ (sA u4 0 y7) = 0 → (post u4)) ∧ ((sA u4 0 y7) = 0 → (adm K (fun (u11 : gS) => post u11) u4 y7 (p2 + 1)))))))))))))) u p1 (K.2.2.2.1 p1 2))) ∧ (¬ (K.2.2.2.1 p1 1) = 0 → ((((K.2.2.2.1 p1 1) = 1 → (wpX5_divide K (fun (u14 : gS) => ∀ u15 : gS, u15 = tI u14 1 ((sI u14 1) + 1) → (∀ r16 : Option Nat, r16 = sQ u15 3 p1 → (((¬ (sA u15 0 p1) = 3 → (post u15)) ∧ ((sA u15 0 p1) = 3 → (((r16 = none → (post u15)) ∧ (∀ y18 : Nat, r16 = some y18 → (y18 ∈ K.2.2.1 ∧ (((¬ (sA u15 0 y18) = 0 → (post u15)) ∧ ((sA u15 0 y18) = 0 → (adm K (fun (u22 : gS) => post u22) u15 y18 (p2 + 1)))))))))))))) u p1)) ∧ (¬ (K.2.2.2.1 p1 1) = 1 → ((((K.2.2.2.1 p1 1) = 2 → (wpX5_pick K (fun (u25 : gS) => ∀ u26 : gS, u26 = tI u25 1 ((sI u25 1) + 1) → (∀ r27 : Option Nat, r27 = sQ u26 3 p1 → (((¬ (sA u26 0 p1) = 3 → (post u26)) ∧ ((sA u26 0 p1) = 3 → (((r27 = none → (post u26)) ∧ (∀ y29 : Nat, r27 = some y29 → (y29 ∈ K.2.2.1 ∧ (((¬ (sA u26 0 y29) = 0 → (post u26)) ∧ ((sA u26 0 y29) = 0 → (adm K (fun (u33 : gS) => post u33) u26 y29 (p2 + 1)))))))))))))) u p1)) ∧ (¬ (K.2.2.2.1 p1 1) = 2 → ((((K.2.2.2.1 p1 1) = 3 → (wpX0_sum K (fun (u36 : gS) => ∀ u37 : gS, u37 = tI u36 1 ((sI u36 1) + 1) → (∀ r38 : Option Nat, r38 = sQ u37 3 p1 → (((¬ (sA u37 0 p1) = 3 → (post u37)) ∧ ((sA u37 0 p1) = 3 → (((r38 = none → (post u37)) ∧ (∀ y40 : Nat, r38 = some y40 → (y40 ∈ K.2.2.1 ∧ (((¬ (sA u37 0 y40) = 0 → (post u37)) ∧ ((sA u37 0 y40) = 0 → (adm K (fun (u44 : gS) => post u44) u37 y40 (p2 + 1)))))))))))))) u p1)) ∧ (¬ (K.2.2.2.1 p1 1) = 3 → ((((K.2.2.2.1 p1 1) = 4 → (wpX0_fork K adm (fun (u47 : gS) => ∀ u48 : gS, u48 = tI u47 1 ((sI u47 1) + 1) → (∀ r49 : Option Nat, r49 = sQ u48 3 p1 → (((¬ (sA u48 0 p1) = 3 → (post u48)) ∧ ((sA u48 0 p1) = 3 → (((r49 = none → (post u48)) ∧ (∀ y51 : Nat, r49 = some y51 → (y51 ∈ K.2.2.1 ∧ (((¬ (sA u48 0 y51) = 0 → (post u48)) ∧ ((sA u48 0 y51) = 0 → (adm K (fun (u55 : gS) => post u55) u48 y51 (p2 + 1)))))))))))))) u p1 p2)) ∧ (¬ (K.2.2.2.1 p1 1) = 4 → (wpX5_fail K (fun (u57 : gS) => ∀ u58 : gS, u58 = tI u57 1 ((sI u57 1) + 1) → (∀ r59 : Option Nat, r59 = sQ u58 3 p1 → (((¬ (sA u58 0 p1) = 3 → (post u58)) ∧ ((sA u58 0 p1) = 3 → (((r59 = none → (post u58)) ∧ (∀ y61 : Nat, r59 = some y61 → (y61 ∈ K.2.2.1 ∧ (((¬ (sA u58 0 y61) = 0 → (post u58)) ∧ ((sA u58 0 y61) = 0 → (adm K (fun (u65 : gS) => post u65) u58 y61 (p2 + 1)))))))))))))) u p1 5)))))))))))))))

set_option maxHeartbeats 8000000 in
set_option maxRecDepth 100000 in
theorem cX0_performAndEnd (l : Launch) (dC : Nat → ClassId) (dI : Nat → Nat → Nat) (ad : Nat → Nat) (ca : Nat → ClassId) (K : KX) (n : Nat) (adm : KX → (gS → Prop) → gS → Nat → Int32 → Prop) (sz : Nat) (u : gS) (p1 : Nat) (p2 : Int32) (post : gS → Prop) (hp1 : p1 ∈ K.2.2.1) (h : wpX0_performAndEnd K adm post u p1 p2) (hadm : ∀ (sz : Nat) (u : gS) (p1 : Nat) (p2 : Int32) (post : gS → Prop), p1 ∈ K.2.2.1 → adm K post u p1 p2 → Met l nAdm (gw nAdm prog_1_method_22_code 4 none) (rmN (4 * n + 4)) (va_Pc [.ref (ad 0), .ref p1, .int p2] (gB (dC, dI) vwCl (xT ca) xE (wX ad ca K u) sz)) (va_Qv post (gAt (dC, dI) vwCl (xT ca) (wX ad ca K) (va_A (wX ad ca K u) sz)) (va_A (wX ad ca K u) sz)) 0 0 (va_A (wX ad ca K u) sz)) : Met l ⟨"WorkHall", "performAndEnd", "(LWorkHall$Job;I)V"⟩ (gw ⟨"WorkHall", "performAndEnd", "(LWorkHall$Job;I)V"⟩ prog_1_method_24_code 4 none) (rmN (4 * n + 6)) (va_Pc [.ref (ad 0), .ref p1, .int p2] (gB (dC, dI) vwCl (xT ca) xE (wX ad ca K u) sz)) (va_Qv post (gAt (dC, dI) vwCl (xT ca) (wX ad ca K) (va_A (wX ad ca K u) sz)) (va_A (wX ad ca K u) sz)) 0 0 (va_A (wX ad ca K u) sz) := by
  refine Met.ofW (cc := prog_1_method_24_code) (maxL := 4) (ret := none) (by decide) rfl ?_
  intro p e s m args below meth c s₁ B hml hv
  obtain ⟨rfl, hsz, hP, hK, hD0, hE⟩ := hv
  have hx := B.exec
  have hb := B.bytes
  have hr := B.returns
  have hts : ∀ w ∈ gW, w.before _ s = true := fun w h9 => atoms_spec (ws := (gw ⟨"WorkHall", "performAndEnd", "(LWorkHall$Job;I)V"⟩ prog_1_method_24_code 4 none)) B.pre w (List.mem_cons_of_mem _ h9)
  have hown : s.vm.findClass RX0 = some m.cls := findClass_of_methodNamed B.named
  have hlocks := B.notSynchronized
  subst hsz
  have hD := hD0.self (sz := s.heap.size)
  generalize hAe : va_A (wX ad ca K u) s.heap.size = A at hD hE ⊢
  have hA : ∀ q : Nat, s.heap.size ≤ q → A q := fun q h => by rw [← hAe]; exact Or.inr h
  obtain ⟨H, hHe⟩ : ∃ z : Heap, z = s.heap := ⟨_, rfl⟩
  rw [← hHe]
  have hS : va_S A s.heap H [] := by rw [hHe]; exact va_S.rf
  have hP : va_P (dC, dI) vwCl (wX ad ca K u) H := by rw [hHe]; exact hP
  have hl := lv_entry ([.ref (ad 0), .ref p1, .int p2]) (n := 4) (Nat.le_of_ble_eq_true rfl)
  rw [lg_entry_eq]
  generalize (lg_sl ([.ref (ad 0), .ref p1, .int p2]) ++ List.replicate (4 - (lg_sl ([.ref (ad 0), .ref p1, .int p2])).length) Slot.unset).toArray = ls at hl ⊢
  have hl : lv_has ls 4 [(0, .ref (ad 0)), (1, .ref p1), (2, .int p2)] := hl
  clear hAe
  refine lv_aload_n hx hb dX0_performAndEnd_0 rfl (lv_at hl 1 rfl) ?_
  obtain ⟨k9, hk9⟩ := xJ_get hp1
  refine va_get (D := (dC, dI)) (ci := 5) (v := .int (K.2.2.2.1 p1 1)) (C := RX5) (T := TX5) (N := 9) hx hb hts uwX5 hown hK hP k9 hk9 rfl 1 (by decide) (hts _ wd_318) (fun _ h9 => h9) rfl dX0_performAndEnd_1 ?_
  by_cases c1 : (K.2.2.2.1 p1 1) = 0
  · have h := h.1 c1
    have e70 : (K.2.2.2.1 p1 1).toInt = 0 := by rw [c1]; rfl
    refine lv_tableIn (off := 36) (tgt := 40) hx hb dX0_performAndEnd_4 (by rw [e70]; decide) (by rw [e70]; decide) (by rw [e70]; rfl) (by decide) ?_
    refine lv_aload_n hx hb dX0_performAndEnd_40 rfl (lv_at hl 1 rfl) ?_
    refine lv_aload_n hx hb dX0_performAndEnd_41 rfl (lv_at hl 1 rfl) ?_
    obtain ⟨k9, hk9⟩ := xJ_get hp1
    refine va_get (D := (dC, dI)) (ci := 5) (v := .int (K.2.2.2.1 p1 2)) (C := RX5) (T := TX5) (N := 9) hx hb hts uwX5 hown hK hP k9 hk9 rfl 2 (by decide) (hts _ wd_320) (fun _ h9 => h9) rfl dX0_performAndEnd_42 ?_
    refine gc_v (w := wX ad ca K) (u := u) (va_runV (As := [.int (K.2.2.2.1 p1 2)]) (rest := []) ⟨hx, hb, hml, hown, hts⟩ (cX5_succeed l dC dI ad ca K H.size u p1 (K.2.2.2.1 p1 2) _ hp1 h) (cwV 1 hts (gG_V wd_431 wd_432 wd_433 wd_58 wd_434) rfl rfl rfl (by decide +kernel) (rmN_le (k := 1) (by omega) (by decide))) ⟨gB_blind xE_ok, (by obtain ⟨k9, hk9⟩ := xJ_get hp1; exact va_recv hK hP (ci := 5) (q0 := k9) rfl hk9), gB_pre xE_ok hP hK hD hE hS hA⟩ rfl rfl hl.1 rfl (lv_room (Nat.le_of_ble_eq_true rfl)) dX0_performAndEnd_45 ⟨Nat.le_of_ble_eq_true rfl, Nat.le_of_ble_eq_true rfl⟩) hD hS hA (fun u3 H locs h hP hD hS => ?_)
    refine lv_goto (tgt := 87) hx hb dX0_performAndEnd_48 (by decide) ?_
    refine lv_aload_n hx hb dX0_performAndEnd_87 rfl (lv_at hl 0 rfl) ?_
    refine lv_dup hx hb dX0_performAndEnd_88 rfl ?_
    refine va_get (D := (dC, dI)) (ci := 0) (v := .int (sI u3 1)) (C := RX0) (T := TX0) (N := 12) hx hb hts uwX0 hown hK hP 0 rfl rfl 10 (by decide) (hts _ wd_182) (fun _ h9 => h9) rfl dX0_performAndEnd_89 ?_
    refine lv_iconst (v := 1) hx hb dX0_performAndEnd_92 (by decide) ?_
    refine lv_iadd hx hb dX0_performAndEnd_93 ?_
    refine va_put (D := (dC, dI)) (ci := 0) (v := .int ((sI u3 1) + 1)) (ty := tyX0 10) (C := RX0) (T := TX0) (N := 12) hx hb hts uwX0 tyX0 tyX0_ok nmX0 hown hK hP hD hS 0 rfl rfl 10 (by decide) (hts _ wd_182) (fun _ h9 => h9) rfl (tyX0_ok 10 (by decide)) rfl rfl (Nat.le_of_ble_eq_true rfl) dX0_performAndEnd_94 (fun H locs hP hD hS => ?_)
    obtain ⟨u4, eu4⟩ : ∃ z : gS, z = tI u3 1 ((sI u3 1) + 1) := ⟨_, rfl⟩
    have hP : va_P (dC, dI) vwCl (wX ad ca K u4) H := by rw [eu4, wX_f0_finished]; exact hP
    have hD : va_D A (wX ad ca K u4) := by rw [eu4, wX_f0_finished]; exact hD
    have h := h u4 eu4
    refine lv_aload_n hx hb dX0_performAndEnd_97 rfl (lv_at hl 1 rfl) ?_
    obtain ⟨k9, hk9⟩ := xJ_get hp1
    refine va_get (D := (dC, dI)) (ci := 5) (v := va_rf (sQ u4 3 p1)) (C := RX5) (T := TX5) (N := 9) hx hb hts uwX5 hown hK hP k9 hk9 rfl 8 (by decide) (hts _ wd_335) (fun _ h9 => h9) rfl dX0_performAndEnd_98 ?_
    refine gq_top (fun r5 er5 => ?_)
    have h := h r5 er5
    refine gq_astore_n (r := r5) (lv' := [(3, va_rf r5), (0, .ref (ad 0)), (1, .ref p1), (2, .int p2)]) hx hb dX0_performAndEnd_101 rfl hl (by decide) rfl (fun ls hl => ?_)
    refine lv_aload_n hx hb dX0_performAndEnd_102 rfl (lv_at hl 2 rfl) ?_
    obtain ⟨k9, hk9⟩ := xJ_get hp1
    refine va_get (D := (dC, dI)) (ci := 5) (v := .int (sA u4 0 p1)) (C := RX5) (T := TX5) (N := 9) hx hb hts uwX5 hown hK hP k9 hk9 rfl 5 (by decide) (hts _ wd_327) (fun _ h9 => h9) rfl dX0_performAndEnd_103 ?_
    refine lv_iconst (v := 3) hx hb dX0_performAndEnd_106 (by decide) ?_
    refine lv_icmp_ne (tgt := 129) hx hb dX0_performAndEnd_107 (by decide) (fun c6 => ?_) (fun c6 => ?_)
    · have h := h.1 c6
      exact gr_v (w := wX ad ca K) (u := u4) hx hb hr hlocks h hP hK hD hS dX0_performAndEnd_129
    · have h := h.2 c6
      refine gq_aload_n (r := r5) hx hb dX0_performAndEnd_110 rfl (lv_at hl 0 rfl) ?_
      rcases r5 with _ | y7
      · have h := h.1 rfl
        refine lv_ifnullN (tgt := 129) hx hb dX0_performAndEnd_111 (by decide) ?_
        exact gr_v (w := wX ad ca K) (u := u4) hx hb hr hlocks h hP hK hD hS dX0_performAndEnd_129
      · have h := h.2 y7 rfl
        refine lv_ifnull hx hb dX0_performAndEnd_111 ?_
        refine lv_aload_n hx hb dX0_performAndEnd_114 rfl (lv_at hl 0 rfl) ?_
        obtain ⟨hy8, h⟩ := h
        obtain ⟨k9, hk9⟩ := xJ_get hy8
        refine va_get (D := (dC, dI)) (ci := 5) (v := .int (sA u4 0 y7)) (C := RX5) (T := TX5) (N := 9) hx hb hts uwX5 hown hK hP k9 hk9 rfl 5 (by decide) (hts _ wd_327) (fun _ h9 => h9) rfl dX0_performAndEnd_115 ?_
        refine lv_if_ne (tgt := 129) hx hb dX0_performAndEnd_118 (by decide) (fun c9 => ?_) (fun c9 => ?_)
        · have h := h.1 c9
          exact gr_v (w := wX ad ca K) (u := u4) hx hb hr hlocks h hP hK hD hS dX0_performAndEnd_129
        · have h := h.2 c9
          refine lv_aload_n hx hb dX0_performAndEnd_121 rfl (lv_at hl 1 rfl) ?_
          refine lv_aload_n hx hb dX0_performAndEnd_122 rfl (lv_at hl 0 rfl) ?_
          refine lv_iload_n hx hb dX0_performAndEnd_123 rfl (lv_at hl 3 rfl) ?_
          refine lv_iconst (v := 1) hx hb dX0_performAndEnd_124 (by decide) ?_
          refine lv_iadd hx hb dX0_performAndEnd_125 ?_
          refine gc_v (w := wX ad ca K) (u := u4) (va_runV (As := [.ref y7, .int (p2 + 1)]) (rest := []) ⟨hx, hb, hml, hown, hts⟩ (hadm H.size u4 y7 (p2 + 1) _ hy8 h) (cwV 2 hts (gG_V wd_389 wd_391 wd_3 wd_46 wd_392) rfl rfl rfl (by decide +kernel) (rmN_le (k := 4 * n + 4) (by omega) (by decide))) ⟨gB_blind xE_ok, va_recv hK hP (ci := 0) (q0 := 0) rfl rfl, gB_pre xE_ok hP hK hD hE hS hA⟩ rfl rfl hl.1 rfl (lv_room (Nat.le_of_ble_eq_true rfl)) dX0_performAndEnd_126 ⟨Nat.le_of_ble_eq_true rfl, Nat.le_of_ble_eq_true rfl⟩) hD hS hA (fun u11 H locs h hP hD hS => ?_)
          exact gr_v (w := wX ad ca K) (u := u11) hx hb hr hlocks h hP hK hD hS dX0_performAndEnd_129
  · have h := h.2 c1
    by_cases c12 : (K.2.2.2.1 p1 1) = 1
    · have h := h.1 c12
      have e69 : (K.2.2.2.1 p1 1).toInt = 1 := by rw [c12]; rfl
      refine lv_tableIn (off := 47) (tgt := 51) hx hb dX0_performAndEnd_4 (by rw [e69]; decide) (by rw [e69]; decide) (by rw [e69]; rfl) (by decide) ?_
      refine lv_aload_n hx hb dX0_performAndEnd_51 rfl (lv_at hl 1 rfl) ?_
      refine gc_v (w := wX ad ca K) (u := u) (va_runV (As := []) (rest := []) ⟨hx, hb, hml, hown, hts⟩ (cX5_divide l dC dI ad ca K H.size u p1 _ hp1 h) (cwV 0 hts (gG_V wd_435 wd_436 wd_437 wd_58 wd_438) rfl rfl rfl (by decide +kernel) (rmN_le (k := 2) (by omega) (by decide))) ⟨gB_blind xE_ok, (by obtain ⟨k9, hk9⟩ := xJ_get hp1; exact va_recv hK hP (ci := 5) (q0 := k9) rfl hk9), gB_pre xE_ok hP hK hD hE hS hA⟩ rfl rfl hl.1 rfl (lv_room (Nat.le_of_ble_eq_true rfl)) dX0_performAndEnd_52 ⟨Nat.le_of_ble_eq_true rfl, Nat.le_of_ble_eq_true rfl⟩) hD hS hA (fun u14 H locs h hP hD hS => ?_)
      refine lv_goto (tgt := 87) hx hb dX0_performAndEnd_55 (by decide) ?_
      refine lv_aload_n hx hb dX0_performAndEnd_87 rfl (lv_at hl 0 rfl) ?_
      refine lv_dup hx hb dX0_performAndEnd_88 rfl ?_
      refine va_get (D := (dC, dI)) (ci := 0) (v := .int (sI u14 1)) (C := RX0) (T := TX0) (N := 12) hx hb hts uwX0 hown hK hP 0 rfl rfl 10 (by decide) (hts _ wd_182) (fun _ h9 => h9) rfl dX0_performAndEnd_89 ?_
      refine lv_iconst (v := 1) hx hb dX0_performAndEnd_92 (by decide) ?_
      refine lv_iadd hx hb dX0_performAndEnd_93 ?_
      refine va_put (D := (dC, dI)) (ci := 0) (v := .int ((sI u14 1) + 1)) (ty := tyX0 10) (C := RX0) (T := TX0) (N := 12) hx hb hts uwX0 tyX0 tyX0_ok nmX0 hown hK hP hD hS 0 rfl rfl 10 (by decide) (hts _ wd_182) (fun _ h9 => h9) rfl (tyX0_ok 10 (by decide)) rfl rfl (Nat.le_of_ble_eq_true rfl) dX0_performAndEnd_94 (fun H locs hP hD hS => ?_)
      obtain ⟨u15, eu15⟩ : ∃ z : gS, z = tI u14 1 ((sI u14 1) + 1) := ⟨_, rfl⟩
      have hP : va_P (dC, dI) vwCl (wX ad ca K u15) H := by rw [eu15, wX_f0_finished]; exact hP
      have hD : va_D A (wX ad ca K u15) := by rw [eu15, wX_f0_finished]; exact hD
      have h := h u15 eu15
      refine lv_aload_n hx hb dX0_performAndEnd_97 rfl (lv_at hl 1 rfl) ?_
      obtain ⟨k9, hk9⟩ := xJ_get hp1
      refine va_get (D := (dC, dI)) (ci := 5) (v := va_rf (sQ u15 3 p1)) (C := RX5) (T := TX5) (N := 9) hx hb hts uwX5 hown hK hP k9 hk9 rfl 8 (by decide) (hts _ wd_335) (fun _ h9 => h9) rfl dX0_performAndEnd_98 ?_
      refine gq_top (fun r16 er16 => ?_)
      have h := h r16 er16
      refine gq_astore_n (r := r16) (lv' := [(3, va_rf r16), (0, .ref (ad 0)), (1, .ref p1), (2, .int p2)]) hx hb dX0_performAndEnd_101 rfl hl (by decide) rfl (fun ls hl => ?_)
      refine lv_aload_n hx hb dX0_performAndEnd_102 rfl (lv_at hl 2 rfl) ?_
      obtain ⟨k9, hk9⟩ := xJ_get hp1
      refine va_get (D := (dC, dI)) (ci := 5) (v := .int (sA u15 0 p1)) (C := RX5) (T := TX5) (N := 9) hx hb hts uwX5 hown hK hP k9 hk9 rfl 5 (by decide) (hts _ wd_327) (fun _ h9 => h9) rfl dX0_performAndEnd_103 ?_
      refine lv_iconst (v := 3) hx hb dX0_performAndEnd_106 (by decide) ?_
      refine lv_icmp_ne (tgt := 129) hx hb dX0_performAndEnd_107 (by decide) (fun c17 => ?_) (fun c17 => ?_)
      · have h := h.1 c17
        exact gr_v (w := wX ad ca K) (u := u15) hx hb hr hlocks h hP hK hD hS dX0_performAndEnd_129
      · have h := h.2 c17
        refine gq_aload_n (r := r16) hx hb dX0_performAndEnd_110 rfl (lv_at hl 0 rfl) ?_
        rcases r16 with _ | y18
        · have h := h.1 rfl
          refine lv_ifnullN (tgt := 129) hx hb dX0_performAndEnd_111 (by decide) ?_
          exact gr_v (w := wX ad ca K) (u := u15) hx hb hr hlocks h hP hK hD hS dX0_performAndEnd_129
        · have h := h.2 y18 rfl
          refine lv_ifnull hx hb dX0_performAndEnd_111 ?_
          refine lv_aload_n hx hb dX0_performAndEnd_114 rfl (lv_at hl 0 rfl) ?_
          obtain ⟨hy19, h⟩ := h
          obtain ⟨k9, hk9⟩ := xJ_get hy19
          refine va_get (D := (dC, dI)) (ci := 5) (v := .int (sA u15 0 y18)) (C := RX5) (T := TX5) (N := 9) hx hb hts uwX5 hown hK hP k9 hk9 rfl 5 (by decide) (hts _ wd_327) (fun _ h9 => h9) rfl dX0_performAndEnd_115 ?_
          refine lv_if_ne (tgt := 129) hx hb dX0_performAndEnd_118 (by decide) (fun c20 => ?_) (fun c20 => ?_)
          · have h := h.1 c20
            exact gr_v (w := wX ad ca K) (u := u15) hx hb hr hlocks h hP hK hD hS dX0_performAndEnd_129
          · have h := h.2 c20
            refine lv_aload_n hx hb dX0_performAndEnd_121 rfl (lv_at hl 1 rfl) ?_
            refine lv_aload_n hx hb dX0_performAndEnd_122 rfl (lv_at hl 0 rfl) ?_
            refine lv_iload_n hx hb dX0_performAndEnd_123 rfl (lv_at hl 3 rfl) ?_
            refine lv_iconst (v := 1) hx hb dX0_performAndEnd_124 (by decide) ?_
            refine lv_iadd hx hb dX0_performAndEnd_125 ?_
            refine gc_v (w := wX ad ca K) (u := u15) (va_runV (As := [.ref y18, .int (p2 + 1)]) (rest := []) ⟨hx, hb, hml, hown, hts⟩ (hadm H.size u15 y18 (p2 + 1) _ hy19 h) (cwV 2 hts (gG_V wd_389 wd_391 wd_3 wd_46 wd_392) rfl rfl rfl (by decide +kernel) (rmN_le (k := 4 * n + 4) (by omega) (by decide))) ⟨gB_blind xE_ok, va_recv hK hP (ci := 0) (q0 := 0) rfl rfl, gB_pre xE_ok hP hK hD hE hS hA⟩ rfl rfl hl.1 rfl (lv_room (Nat.le_of_ble_eq_true rfl)) dX0_performAndEnd_126 ⟨Nat.le_of_ble_eq_true rfl, Nat.le_of_ble_eq_true rfl⟩) hD hS hA (fun u22 H locs h hP hD hS => ?_)
            exact gr_v (w := wX ad ca K) (u := u22) hx hb hr hlocks h hP hK hD hS dX0_performAndEnd_129
    · have h := h.2 c12
      by_cases c23 : (K.2.2.2.1 p1 1) = 2
      · have h := h.1 c23
        have e68 : (K.2.2.2.1 p1 1).toInt = 2 := by rw [c23]; rfl
        refine lv_tableIn (off := 54) (tgt := 58) hx hb dX0_performAndEnd_4 (by rw [e68]; decide) (by rw [e68]; decide) (by rw [e68]; rfl) (by decide) ?_
        refine lv_aload_n hx hb dX0_performAndEnd_58 rfl (lv_at hl 1 rfl) ?_
        refine gc_v (w := wX ad ca K) (u := u) (va_runV (As := []) (rest := []) ⟨hx, hb, hml, hown, hts⟩ (cX5_pick l dC dI ad ca K H.size u p1 _ hp1 h) (cwV 0 hts (gG_V wd_444 wd_445 wd_446 wd_58 wd_447) rfl rfl rfl (by decide +kernel) (rmN_le (k := 2) (by omega) (by decide))) ⟨gB_blind xE_ok, (by obtain ⟨k9, hk9⟩ := xJ_get hp1; exact va_recv hK hP (ci := 5) (q0 := k9) rfl hk9), gB_pre xE_ok hP hK hD hE hS hA⟩ rfl rfl hl.1 rfl (lv_room (Nat.le_of_ble_eq_true rfl)) dX0_performAndEnd_59 ⟨Nat.le_of_ble_eq_true rfl, Nat.le_of_ble_eq_true rfl⟩) hD hS hA (fun u25 H locs h hP hD hS => ?_)
        refine lv_goto (tgt := 87) hx hb dX0_performAndEnd_62 (by decide) ?_
        refine lv_aload_n hx hb dX0_performAndEnd_87 rfl (lv_at hl 0 rfl) ?_
        refine lv_dup hx hb dX0_performAndEnd_88 rfl ?_
        refine va_get (D := (dC, dI)) (ci := 0) (v := .int (sI u25 1)) (C := RX0) (T := TX0) (N := 12) hx hb hts uwX0 hown hK hP 0 rfl rfl 10 (by decide) (hts _ wd_182) (fun _ h9 => h9) rfl dX0_performAndEnd_89 ?_
        refine lv_iconst (v := 1) hx hb dX0_performAndEnd_92 (by decide) ?_
        refine lv_iadd hx hb dX0_performAndEnd_93 ?_
        refine va_put (D := (dC, dI)) (ci := 0) (v := .int ((sI u25 1) + 1)) (ty := tyX0 10) (C := RX0) (T := TX0) (N := 12) hx hb hts uwX0 tyX0 tyX0_ok nmX0 hown hK hP hD hS 0 rfl rfl 10 (by decide) (hts _ wd_182) (fun _ h9 => h9) rfl (tyX0_ok 10 (by decide)) rfl rfl (Nat.le_of_ble_eq_true rfl) dX0_performAndEnd_94 (fun H locs hP hD hS => ?_)
        obtain ⟨u26, eu26⟩ : ∃ z : gS, z = tI u25 1 ((sI u25 1) + 1) := ⟨_, rfl⟩
        have hP : va_P (dC, dI) vwCl (wX ad ca K u26) H := by rw [eu26, wX_f0_finished]; exact hP
        have hD : va_D A (wX ad ca K u26) := by rw [eu26, wX_f0_finished]; exact hD
        have h := h u26 eu26
        refine lv_aload_n hx hb dX0_performAndEnd_97 rfl (lv_at hl 1 rfl) ?_
        obtain ⟨k9, hk9⟩ := xJ_get hp1
        refine va_get (D := (dC, dI)) (ci := 5) (v := va_rf (sQ u26 3 p1)) (C := RX5) (T := TX5) (N := 9) hx hb hts uwX5 hown hK hP k9 hk9 rfl 8 (by decide) (hts _ wd_335) (fun _ h9 => h9) rfl dX0_performAndEnd_98 ?_
        refine gq_top (fun r27 er27 => ?_)
        have h := h r27 er27
        refine gq_astore_n (r := r27) (lv' := [(3, va_rf r27), (0, .ref (ad 0)), (1, .ref p1), (2, .int p2)]) hx hb dX0_performAndEnd_101 rfl hl (by decide) rfl (fun ls hl => ?_)
        refine lv_aload_n hx hb dX0_performAndEnd_102 rfl (lv_at hl 2 rfl) ?_
        obtain ⟨k9, hk9⟩ := xJ_get hp1
        refine va_get (D := (dC, dI)) (ci := 5) (v := .int (sA u26 0 p1)) (C := RX5) (T := TX5) (N := 9) hx hb hts uwX5 hown hK hP k9 hk9 rfl 5 (by decide) (hts _ wd_327) (fun _ h9 => h9) rfl dX0_performAndEnd_103 ?_
        refine lv_iconst (v := 3) hx hb dX0_performAndEnd_106 (by decide) ?_
        refine lv_icmp_ne (tgt := 129) hx hb dX0_performAndEnd_107 (by decide) (fun c28 => ?_) (fun c28 => ?_)
        · have h := h.1 c28
          exact gr_v (w := wX ad ca K) (u := u26) hx hb hr hlocks h hP hK hD hS dX0_performAndEnd_129
        · have h := h.2 c28
          refine gq_aload_n (r := r27) hx hb dX0_performAndEnd_110 rfl (lv_at hl 0 rfl) ?_
          rcases r27 with _ | y29
          · have h := h.1 rfl
            refine lv_ifnullN (tgt := 129) hx hb dX0_performAndEnd_111 (by decide) ?_
            exact gr_v (w := wX ad ca K) (u := u26) hx hb hr hlocks h hP hK hD hS dX0_performAndEnd_129
          · have h := h.2 y29 rfl
            refine lv_ifnull hx hb dX0_performAndEnd_111 ?_
            refine lv_aload_n hx hb dX0_performAndEnd_114 rfl (lv_at hl 0 rfl) ?_
            obtain ⟨hy30, h⟩ := h
            obtain ⟨k9, hk9⟩ := xJ_get hy30
            refine va_get (D := (dC, dI)) (ci := 5) (v := .int (sA u26 0 y29)) (C := RX5) (T := TX5) (N := 9) hx hb hts uwX5 hown hK hP k9 hk9 rfl 5 (by decide) (hts _ wd_327) (fun _ h9 => h9) rfl dX0_performAndEnd_115 ?_
            refine lv_if_ne (tgt := 129) hx hb dX0_performAndEnd_118 (by decide) (fun c31 => ?_) (fun c31 => ?_)
            · have h := h.1 c31
              exact gr_v (w := wX ad ca K) (u := u26) hx hb hr hlocks h hP hK hD hS dX0_performAndEnd_129
            · have h := h.2 c31
              refine lv_aload_n hx hb dX0_performAndEnd_121 rfl (lv_at hl 1 rfl) ?_
              refine lv_aload_n hx hb dX0_performAndEnd_122 rfl (lv_at hl 0 rfl) ?_
              refine lv_iload_n hx hb dX0_performAndEnd_123 rfl (lv_at hl 3 rfl) ?_
              refine lv_iconst (v := 1) hx hb dX0_performAndEnd_124 (by decide) ?_
              refine lv_iadd hx hb dX0_performAndEnd_125 ?_
              refine gc_v (w := wX ad ca K) (u := u26) (va_runV (As := [.ref y29, .int (p2 + 1)]) (rest := []) ⟨hx, hb, hml, hown, hts⟩ (hadm H.size u26 y29 (p2 + 1) _ hy30 h) (cwV 2 hts (gG_V wd_389 wd_391 wd_3 wd_46 wd_392) rfl rfl rfl (by decide +kernel) (rmN_le (k := 4 * n + 4) (by omega) (by decide))) ⟨gB_blind xE_ok, va_recv hK hP (ci := 0) (q0 := 0) rfl rfl, gB_pre xE_ok hP hK hD hE hS hA⟩ rfl rfl hl.1 rfl (lv_room (Nat.le_of_ble_eq_true rfl)) dX0_performAndEnd_126 ⟨Nat.le_of_ble_eq_true rfl, Nat.le_of_ble_eq_true rfl⟩) hD hS hA (fun u33 H locs h hP hD hS => ?_)
              exact gr_v (w := wX ad ca K) (u := u33) hx hb hr hlocks h hP hK hD hS dX0_performAndEnd_129
      · have h := h.2 c23
        by_cases c34 : (K.2.2.2.1 p1 1) = 3
        · have h := h.1 c34
          have e67 : (K.2.2.2.1 p1 1).toInt = 3 := by rw [c34]; rfl
          refine lv_tableIn (off := 61) (tgt := 65) hx hb dX0_performAndEnd_4 (by rw [e67]; decide) (by rw [e67]; decide) (by rw [e67]; rfl) (by decide) ?_
          refine lv_aload_n hx hb dX0_performAndEnd_65 rfl (lv_at hl 0 rfl) ?_
          refine lv_aload_n hx hb dX0_performAndEnd_66 rfl (lv_at hl 1 rfl) ?_
          refine gc_v (w := wX ad ca K) (u := u) (va_runV (As := [.ref p1]) (rest := []) ⟨hx, hb, hml, hown, hts⟩ (cX0_sum l dC dI ad ca K H.size u p1 _ hp1 h) (cwV 1 hts (gG_V wd_450 wd_452 wd_6 wd_46 wd_453) rfl rfl rfl (by decide +kernel) (rmN_le (k := 2) (by omega) (by decide))) ⟨gB_blind xE_ok, va_recv hK hP (ci := 0) (q0 := 0) rfl rfl, gB_pre xE_ok hP hK hD hE hS hA⟩ rfl rfl hl.1 rfl (lv_room (Nat.le_of_ble_eq_true rfl)) dX0_performAndEnd_67 ⟨Nat.le_of_ble_eq_true rfl, Nat.le_of_ble_eq_true rfl⟩) hD hS hA (fun u36 H locs h hP hD hS => ?_)
          refine lv_goto (tgt := 87) hx hb dX0_performAndEnd_70 (by decide) ?_
          refine lv_aload_n hx hb dX0_performAndEnd_87 rfl (lv_at hl 0 rfl) ?_
          refine lv_dup hx hb dX0_performAndEnd_88 rfl ?_
          refine va_get (D := (dC, dI)) (ci := 0) (v := .int (sI u36 1)) (C := RX0) (T := TX0) (N := 12) hx hb hts uwX0 hown hK hP 0 rfl rfl 10 (by decide) (hts _ wd_182) (fun _ h9 => h9) rfl dX0_performAndEnd_89 ?_
          refine lv_iconst (v := 1) hx hb dX0_performAndEnd_92 (by decide) ?_
          refine lv_iadd hx hb dX0_performAndEnd_93 ?_
          refine va_put (D := (dC, dI)) (ci := 0) (v := .int ((sI u36 1) + 1)) (ty := tyX0 10) (C := RX0) (T := TX0) (N := 12) hx hb hts uwX0 tyX0 tyX0_ok nmX0 hown hK hP hD hS 0 rfl rfl 10 (by decide) (hts _ wd_182) (fun _ h9 => h9) rfl (tyX0_ok 10 (by decide)) rfl rfl (Nat.le_of_ble_eq_true rfl) dX0_performAndEnd_94 (fun H locs hP hD hS => ?_)
          obtain ⟨u37, eu37⟩ : ∃ z : gS, z = tI u36 1 ((sI u36 1) + 1) := ⟨_, rfl⟩
          have hP : va_P (dC, dI) vwCl (wX ad ca K u37) H := by rw [eu37, wX_f0_finished]; exact hP
          have hD : va_D A (wX ad ca K u37) := by rw [eu37, wX_f0_finished]; exact hD
          have h := h u37 eu37
          refine lv_aload_n hx hb dX0_performAndEnd_97 rfl (lv_at hl 1 rfl) ?_
          obtain ⟨k9, hk9⟩ := xJ_get hp1
          refine va_get (D := (dC, dI)) (ci := 5) (v := va_rf (sQ u37 3 p1)) (C := RX5) (T := TX5) (N := 9) hx hb hts uwX5 hown hK hP k9 hk9 rfl 8 (by decide) (hts _ wd_335) (fun _ h9 => h9) rfl dX0_performAndEnd_98 ?_
          refine gq_top (fun r38 er38 => ?_)
          have h := h r38 er38
          refine gq_astore_n (r := r38) (lv' := [(3, va_rf r38), (0, .ref (ad 0)), (1, .ref p1), (2, .int p2)]) hx hb dX0_performAndEnd_101 rfl hl (by decide) rfl (fun ls hl => ?_)
          refine lv_aload_n hx hb dX0_performAndEnd_102 rfl (lv_at hl 2 rfl) ?_
          obtain ⟨k9, hk9⟩ := xJ_get hp1
          refine va_get (D := (dC, dI)) (ci := 5) (v := .int (sA u37 0 p1)) (C := RX5) (T := TX5) (N := 9) hx hb hts uwX5 hown hK hP k9 hk9 rfl 5 (by decide) (hts _ wd_327) (fun _ h9 => h9) rfl dX0_performAndEnd_103 ?_
          refine lv_iconst (v := 3) hx hb dX0_performAndEnd_106 (by decide) ?_
          refine lv_icmp_ne (tgt := 129) hx hb dX0_performAndEnd_107 (by decide) (fun c39 => ?_) (fun c39 => ?_)
          · have h := h.1 c39
            exact gr_v (w := wX ad ca K) (u := u37) hx hb hr hlocks h hP hK hD hS dX0_performAndEnd_129
          · have h := h.2 c39
            refine gq_aload_n (r := r38) hx hb dX0_performAndEnd_110 rfl (lv_at hl 0 rfl) ?_
            rcases r38 with _ | y40
            · have h := h.1 rfl
              refine lv_ifnullN (tgt := 129) hx hb dX0_performAndEnd_111 (by decide) ?_
              exact gr_v (w := wX ad ca K) (u := u37) hx hb hr hlocks h hP hK hD hS dX0_performAndEnd_129
            · have h := h.2 y40 rfl
              refine lv_ifnull hx hb dX0_performAndEnd_111 ?_
              refine lv_aload_n hx hb dX0_performAndEnd_114 rfl (lv_at hl 0 rfl) ?_
              obtain ⟨hy41, h⟩ := h
              obtain ⟨k9, hk9⟩ := xJ_get hy41
              refine va_get (D := (dC, dI)) (ci := 5) (v := .int (sA u37 0 y40)) (C := RX5) (T := TX5) (N := 9) hx hb hts uwX5 hown hK hP k9 hk9 rfl 5 (by decide) (hts _ wd_327) (fun _ h9 => h9) rfl dX0_performAndEnd_115 ?_
              refine lv_if_ne (tgt := 129) hx hb dX0_performAndEnd_118 (by decide) (fun c42 => ?_) (fun c42 => ?_)
              · have h := h.1 c42
                exact gr_v (w := wX ad ca K) (u := u37) hx hb hr hlocks h hP hK hD hS dX0_performAndEnd_129
              · have h := h.2 c42
                refine lv_aload_n hx hb dX0_performAndEnd_121 rfl (lv_at hl 1 rfl) ?_
                refine lv_aload_n hx hb dX0_performAndEnd_122 rfl (lv_at hl 0 rfl) ?_
                refine lv_iload_n hx hb dX0_performAndEnd_123 rfl (lv_at hl 3 rfl) ?_
                refine lv_iconst (v := 1) hx hb dX0_performAndEnd_124 (by decide) ?_
                refine lv_iadd hx hb dX0_performAndEnd_125 ?_
                refine gc_v (w := wX ad ca K) (u := u37) (va_runV (As := [.ref y40, .int (p2 + 1)]) (rest := []) ⟨hx, hb, hml, hown, hts⟩ (hadm H.size u37 y40 (p2 + 1) _ hy41 h) (cwV 2 hts (gG_V wd_389 wd_391 wd_3 wd_46 wd_392) rfl rfl rfl (by decide +kernel) (rmN_le (k := 4 * n + 4) (by omega) (by decide))) ⟨gB_blind xE_ok, va_recv hK hP (ci := 0) (q0 := 0) rfl rfl, gB_pre xE_ok hP hK hD hE hS hA⟩ rfl rfl hl.1 rfl (lv_room (Nat.le_of_ble_eq_true rfl)) dX0_performAndEnd_126 ⟨Nat.le_of_ble_eq_true rfl, Nat.le_of_ble_eq_true rfl⟩) hD hS hA (fun u44 H locs h hP hD hS => ?_)
                exact gr_v (w := wX ad ca K) (u := u44) hx hb hr hlocks h hP hK hD hS dX0_performAndEnd_129
        · have h := h.2 c34
          by_cases c45 : (K.2.2.2.1 p1 1) = 4
          · have h := h.1 c45
            have e66 : (K.2.2.2.1 p1 1).toInt = 4 := by rw [c45]; rfl
            refine lv_tableIn (off := 69) (tgt := 73) hx hb dX0_performAndEnd_4 (by rw [e66]; decide) (by rw [e66]; decide) (by rw [e66]; rfl) (by decide) ?_
            refine lv_aload_n hx hb dX0_performAndEnd_73 rfl (lv_at hl 0 rfl) ?_
            refine lv_aload_n hx hb dX0_performAndEnd_74 rfl (lv_at hl 1 rfl) ?_
            refine lv_iload_n hx hb dX0_performAndEnd_75 rfl (lv_at hl 2 rfl) ?_
            refine gc_v (w := wX ad ca K) (u := u) (va_runV (As := [.ref p1, .int p2]) (rest := []) ⟨hx, hb, hml, hown, hts⟩ (cX0_fork l dC dI ad ca K n adm H.size u p1 p2 _ hp1 h hadm) (cwV 2 hts (gG_V wd_455 wd_457 wd_7 wd_46 wd_458) rfl rfl rfl (by decide +kernel) (rmN_le (k := 4 * n + 5) (by omega) (by decide))) ⟨gB_blind xE_ok, va_recv hK hP (ci := 0) (q0 := 0) rfl rfl, gB_pre xE_ok hP hK hD hE hS hA⟩ rfl rfl hl.1 rfl (lv_room (Nat.le_of_ble_eq_true rfl)) dX0_performAndEnd_76 ⟨Nat.le_of_ble_eq_true rfl, Nat.le_of_ble_eq_true rfl⟩) hD hS hA (fun u47 H locs h hP hD hS => ?_)
            refine lv_goto (tgt := 87) hx hb dX0_performAndEnd_79 (by decide) ?_
            refine lv_aload_n hx hb dX0_performAndEnd_87 rfl (lv_at hl 0 rfl) ?_
            refine lv_dup hx hb dX0_performAndEnd_88 rfl ?_
            refine va_get (D := (dC, dI)) (ci := 0) (v := .int (sI u47 1)) (C := RX0) (T := TX0) (N := 12) hx hb hts uwX0 hown hK hP 0 rfl rfl 10 (by decide) (hts _ wd_182) (fun _ h9 => h9) rfl dX0_performAndEnd_89 ?_
            refine lv_iconst (v := 1) hx hb dX0_performAndEnd_92 (by decide) ?_
            refine lv_iadd hx hb dX0_performAndEnd_93 ?_
            refine va_put (D := (dC, dI)) (ci := 0) (v := .int ((sI u47 1) + 1)) (ty := tyX0 10) (C := RX0) (T := TX0) (N := 12) hx hb hts uwX0 tyX0 tyX0_ok nmX0 hown hK hP hD hS 0 rfl rfl 10 (by decide) (hts _ wd_182) (fun _ h9 => h9) rfl (tyX0_ok 10 (by decide)) rfl rfl (Nat.le_of_ble_eq_true rfl) dX0_performAndEnd_94 (fun H locs hP hD hS => ?_)
            obtain ⟨u48, eu48⟩ : ∃ z : gS, z = tI u47 1 ((sI u47 1) + 1) := ⟨_, rfl⟩
            have hP : va_P (dC, dI) vwCl (wX ad ca K u48) H := by rw [eu48, wX_f0_finished]; exact hP
            have hD : va_D A (wX ad ca K u48) := by rw [eu48, wX_f0_finished]; exact hD
            have h := h u48 eu48
            refine lv_aload_n hx hb dX0_performAndEnd_97 rfl (lv_at hl 1 rfl) ?_
            obtain ⟨k9, hk9⟩ := xJ_get hp1
            refine va_get (D := (dC, dI)) (ci := 5) (v := va_rf (sQ u48 3 p1)) (C := RX5) (T := TX5) (N := 9) hx hb hts uwX5 hown hK hP k9 hk9 rfl 8 (by decide) (hts _ wd_335) (fun _ h9 => h9) rfl dX0_performAndEnd_98 ?_
            refine gq_top (fun r49 er49 => ?_)
            have h := h r49 er49
            refine gq_astore_n (r := r49) (lv' := [(3, va_rf r49), (0, .ref (ad 0)), (1, .ref p1), (2, .int p2)]) hx hb dX0_performAndEnd_101 rfl hl (by decide) rfl (fun ls hl => ?_)
            refine lv_aload_n hx hb dX0_performAndEnd_102 rfl (lv_at hl 2 rfl) ?_
            obtain ⟨k9, hk9⟩ := xJ_get hp1
            refine va_get (D := (dC, dI)) (ci := 5) (v := .int (sA u48 0 p1)) (C := RX5) (T := TX5) (N := 9) hx hb hts uwX5 hown hK hP k9 hk9 rfl 5 (by decide) (hts _ wd_327) (fun _ h9 => h9) rfl dX0_performAndEnd_103 ?_
            refine lv_iconst (v := 3) hx hb dX0_performAndEnd_106 (by decide) ?_
            refine lv_icmp_ne (tgt := 129) hx hb dX0_performAndEnd_107 (by decide) (fun c50 => ?_) (fun c50 => ?_)
            · have h := h.1 c50
              exact gr_v (w := wX ad ca K) (u := u48) hx hb hr hlocks h hP hK hD hS dX0_performAndEnd_129
            · have h := h.2 c50
              refine gq_aload_n (r := r49) hx hb dX0_performAndEnd_110 rfl (lv_at hl 0 rfl) ?_
              rcases r49 with _ | y51
              · have h := h.1 rfl
                refine lv_ifnullN (tgt := 129) hx hb dX0_performAndEnd_111 (by decide) ?_
                exact gr_v (w := wX ad ca K) (u := u48) hx hb hr hlocks h hP hK hD hS dX0_performAndEnd_129
              · have h := h.2 y51 rfl
                refine lv_ifnull hx hb dX0_performAndEnd_111 ?_
                refine lv_aload_n hx hb dX0_performAndEnd_114 rfl (lv_at hl 0 rfl) ?_
                obtain ⟨hy52, h⟩ := h
                obtain ⟨k9, hk9⟩ := xJ_get hy52
                refine va_get (D := (dC, dI)) (ci := 5) (v := .int (sA u48 0 y51)) (C := RX5) (T := TX5) (N := 9) hx hb hts uwX5 hown hK hP k9 hk9 rfl 5 (by decide) (hts _ wd_327) (fun _ h9 => h9) rfl dX0_performAndEnd_115 ?_
                refine lv_if_ne (tgt := 129) hx hb dX0_performAndEnd_118 (by decide) (fun c53 => ?_) (fun c53 => ?_)
                · have h := h.1 c53
                  exact gr_v (w := wX ad ca K) (u := u48) hx hb hr hlocks h hP hK hD hS dX0_performAndEnd_129
                · have h := h.2 c53
                  refine lv_aload_n hx hb dX0_performAndEnd_121 rfl (lv_at hl 1 rfl) ?_
                  refine lv_aload_n hx hb dX0_performAndEnd_122 rfl (lv_at hl 0 rfl) ?_
                  refine lv_iload_n hx hb dX0_performAndEnd_123 rfl (lv_at hl 3 rfl) ?_
                  refine lv_iconst (v := 1) hx hb dX0_performAndEnd_124 (by decide) ?_
                  refine lv_iadd hx hb dX0_performAndEnd_125 ?_
                  refine gc_v (w := wX ad ca K) (u := u48) (va_runV (As := [.ref y51, .int (p2 + 1)]) (rest := []) ⟨hx, hb, hml, hown, hts⟩ (hadm H.size u48 y51 (p2 + 1) _ hy52 h) (cwV 2 hts (gG_V wd_389 wd_391 wd_3 wd_46 wd_392) rfl rfl rfl (by decide +kernel) (rmN_le (k := 4 * n + 4) (by omega) (by decide))) ⟨gB_blind xE_ok, va_recv hK hP (ci := 0) (q0 := 0) rfl rfl, gB_pre xE_ok hP hK hD hE hS hA⟩ rfl rfl hl.1 rfl (lv_room (Nat.le_of_ble_eq_true rfl)) dX0_performAndEnd_126 ⟨Nat.le_of_ble_eq_true rfl, Nat.le_of_ble_eq_true rfl⟩) hD hS hA (fun u55 H locs h hP hD hS => ?_)
                  exact gr_v (w := wX ad ca K) (u := u55) hx hb hr hlocks h hP hK hD hS dX0_performAndEnd_129
          · have h := h.2 c45
            refine lv_tableOut (tgt := 82) hx hb dX0_performAndEnd_4 (by have a0 := lv_neT (a := 0) c1 rfl; have a1 := lv_neT (a := 1) c12 rfl; have a2 := lv_neT (a := 2) c23 rfl; have a3 := lv_neT (a := 3) c34 rfl; have a4 := lv_neT (a := 4) c45 rfl; omega) (by decide) ?_
            refine lv_aload_n hx hb dX0_performAndEnd_82 rfl (lv_at hl 1 rfl) ?_
            refine lv_iconst (v := 5) hx hb dX0_performAndEnd_83 (by decide) ?_
            refine gc_v (w := wX ad ca K) (u := u) (va_runV (As := [.int 5]) (rest := []) ⟨hx, hb, hml, hown, hts⟩ (cX5_fail l dC dI ad ca K H.size u p1 5 _ hp1 h) (cwV 1 hts (gG_V wd_454 wd_440 wd_441 wd_58 wd_442) rfl rfl rfl (by decide +kernel) (rmN_le (k := 1) (by omega) (by decide))) ⟨gB_blind xE_ok, (by obtain ⟨k9, hk9⟩ := xJ_get hp1; exact va_recv hK hP (ci := 5) (q0 := k9) rfl hk9), gB_pre xE_ok hP hK hD hE hS hA⟩ rfl rfl hl.1 rfl (lv_room (Nat.le_of_ble_eq_true rfl)) dX0_performAndEnd_84 ⟨Nat.le_of_ble_eq_true rfl, Nat.le_of_ble_eq_true rfl⟩) hD hS hA (fun u57 H locs h hP hD hS => ?_)
            refine lv_aload_n hx hb dX0_performAndEnd_87 rfl (lv_at hl 0 rfl) ?_
            refine lv_dup hx hb dX0_performAndEnd_88 rfl ?_
            refine va_get (D := (dC, dI)) (ci := 0) (v := .int (sI u57 1)) (C := RX0) (T := TX0) (N := 12) hx hb hts uwX0 hown hK hP 0 rfl rfl 10 (by decide) (hts _ wd_182) (fun _ h9 => h9) rfl dX0_performAndEnd_89 ?_
            refine lv_iconst (v := 1) hx hb dX0_performAndEnd_92 (by decide) ?_
            refine lv_iadd hx hb dX0_performAndEnd_93 ?_
            refine va_put (D := (dC, dI)) (ci := 0) (v := .int ((sI u57 1) + 1)) (ty := tyX0 10) (C := RX0) (T := TX0) (N := 12) hx hb hts uwX0 tyX0 tyX0_ok nmX0 hown hK hP hD hS 0 rfl rfl 10 (by decide) (hts _ wd_182) (fun _ h9 => h9) rfl (tyX0_ok 10 (by decide)) rfl rfl (Nat.le_of_ble_eq_true rfl) dX0_performAndEnd_94 (fun H locs hP hD hS => ?_)
            obtain ⟨u58, eu58⟩ : ∃ z : gS, z = tI u57 1 ((sI u57 1) + 1) := ⟨_, rfl⟩
            have hP : va_P (dC, dI) vwCl (wX ad ca K u58) H := by rw [eu58, wX_f0_finished]; exact hP
            have hD : va_D A (wX ad ca K u58) := by rw [eu58, wX_f0_finished]; exact hD
            have h := h u58 eu58
            refine lv_aload_n hx hb dX0_performAndEnd_97 rfl (lv_at hl 1 rfl) ?_
            obtain ⟨k9, hk9⟩ := xJ_get hp1
            refine va_get (D := (dC, dI)) (ci := 5) (v := va_rf (sQ u58 3 p1)) (C := RX5) (T := TX5) (N := 9) hx hb hts uwX5 hown hK hP k9 hk9 rfl 8 (by decide) (hts _ wd_335) (fun _ h9 => h9) rfl dX0_performAndEnd_98 ?_
            refine gq_top (fun r59 er59 => ?_)
            have h := h r59 er59
            refine gq_astore_n (r := r59) (lv' := [(3, va_rf r59), (0, .ref (ad 0)), (1, .ref p1), (2, .int p2)]) hx hb dX0_performAndEnd_101 rfl hl (by decide) rfl (fun ls hl => ?_)
            refine lv_aload_n hx hb dX0_performAndEnd_102 rfl (lv_at hl 2 rfl) ?_
            obtain ⟨k9, hk9⟩ := xJ_get hp1
            refine va_get (D := (dC, dI)) (ci := 5) (v := .int (sA u58 0 p1)) (C := RX5) (T := TX5) (N := 9) hx hb hts uwX5 hown hK hP k9 hk9 rfl 5 (by decide) (hts _ wd_327) (fun _ h9 => h9) rfl dX0_performAndEnd_103 ?_
            refine lv_iconst (v := 3) hx hb dX0_performAndEnd_106 (by decide) ?_
            refine lv_icmp_ne (tgt := 129) hx hb dX0_performAndEnd_107 (by decide) (fun c60 => ?_) (fun c60 => ?_)
            · have h := h.1 c60
              exact gr_v (w := wX ad ca K) (u := u58) hx hb hr hlocks h hP hK hD hS dX0_performAndEnd_129
            · have h := h.2 c60
              refine gq_aload_n (r := r59) hx hb dX0_performAndEnd_110 rfl (lv_at hl 0 rfl) ?_
              rcases r59 with _ | y61
              · have h := h.1 rfl
                refine lv_ifnullN (tgt := 129) hx hb dX0_performAndEnd_111 (by decide) ?_
                exact gr_v (w := wX ad ca K) (u := u58) hx hb hr hlocks h hP hK hD hS dX0_performAndEnd_129
              · have h := h.2 y61 rfl
                refine lv_ifnull hx hb dX0_performAndEnd_111 ?_
                refine lv_aload_n hx hb dX0_performAndEnd_114 rfl (lv_at hl 0 rfl) ?_
                obtain ⟨hy62, h⟩ := h
                obtain ⟨k9, hk9⟩ := xJ_get hy62
                refine va_get (D := (dC, dI)) (ci := 5) (v := .int (sA u58 0 y61)) (C := RX5) (T := TX5) (N := 9) hx hb hts uwX5 hown hK hP k9 hk9 rfl 5 (by decide) (hts _ wd_327) (fun _ h9 => h9) rfl dX0_performAndEnd_115 ?_
                refine lv_if_ne (tgt := 129) hx hb dX0_performAndEnd_118 (by decide) (fun c63 => ?_) (fun c63 => ?_)
                · have h := h.1 c63
                  exact gr_v (w := wX ad ca K) (u := u58) hx hb hr hlocks h hP hK hD hS dX0_performAndEnd_129
                · have h := h.2 c63
                  refine lv_aload_n hx hb dX0_performAndEnd_121 rfl (lv_at hl 1 rfl) ?_
                  refine lv_aload_n hx hb dX0_performAndEnd_122 rfl (lv_at hl 0 rfl) ?_
                  refine lv_iload_n hx hb dX0_performAndEnd_123 rfl (lv_at hl 3 rfl) ?_
                  refine lv_iconst (v := 1) hx hb dX0_performAndEnd_124 (by decide) ?_
                  refine lv_iadd hx hb dX0_performAndEnd_125 ?_
                  refine gc_v (w := wX ad ca K) (u := u58) (va_runV (As := [.ref y61, .int (p2 + 1)]) (rest := []) ⟨hx, hb, hml, hown, hts⟩ (hadm H.size u58 y61 (p2 + 1) _ hy62 h) (cwV 2 hts (gG_V wd_389 wd_391 wd_3 wd_46 wd_392) rfl rfl rfl (by decide +kernel) (rmN_le (k := 4 * n + 4) (by omega) (by decide))) ⟨gB_blind xE_ok, va_recv hK hP (ci := 0) (q0 := 0) rfl rfl, gB_pre xE_ok hP hK hD hE hS hA⟩ rfl rfl hl.1 rfl (lv_room (Nat.le_of_ble_eq_true rfl)) dX0_performAndEnd_126 ⟨Nat.le_of_ble_eq_true rfl, Nat.le_of_ble_eq_true rfl⟩) hD hS hA (fun u65 H locs h hP hD hS => ?_)
                  exact gr_v (w := wX ad ca K) (u := u65) hx hb hr hlocks h hP hK hD hS dX0_performAndEnd_129

theorem dX0_turnAway_0 : decode prog_1_method_23_code 0 = .ok (.aload_n 0, 1) := by decide +kernel
theorem dX0_turnAway_1 : decode prog_1_method_23_code 1 = .ok (.getfield 69, 3) := by decide +kernel
theorem dX0_turnAway_4 : decode prog_1_method_23_code 4 = .ok (.tableswitch 86 0 2 #[28, 37, 45], 28) := by decide +kernel
theorem dX0_turnAway_32 : decode prog_1_method_23_code 32 = .ok (.aload_n 1, 1) := by decide +kernel
theorem dX0_turnAway_33 : decode prog_1_method_23_code 33 = .ok (.bipush 6, 2) := by decide +kernel
theorem dX0_turnAway_35 : decode prog_1_method_23_code 35 = .ok (.putfield 90, 3) := by decide +kernel
theorem dX0_turnAway_38 : decode prog_1_method_23_code 38 = .ok (.goto 63, 3) := by decide +kernel
theorem dX0_turnAway_41 : decode prog_1_method_23_code 41 = .ok (.aload_n 1, 1) := by decide +kernel
theorem dX0_turnAway_42 : decode prog_1_method_23_code 42 = .ok (.iconst 5, 1) := by decide +kernel
theorem dX0_turnAway_43 : decode prog_1_method_23_code 43 = .ok (.putfield 90, 3) := by decide +kernel
theorem dX0_turnAway_46 : decode prog_1_method_23_code 46 = .ok (.goto 55, 3) := by decide +kernel
theorem dX0_turnAway_49 : decode prog_1_method_23_code 49 = .ok (.aload_n 0, 1) := by decide +kernel
theorem dX0_turnAway_50 : decode prog_1_method_23_code 50 = .ok (.getfield 25, 3) := by decide +kernel
theorem dX0_turnAway_53 : decode prog_1_method_23_code 53 = .ok (.iconst 0, 1) := by decide +kernel
theorem dX0_turnAway_54 : decode prog_1_method_23_code 54 = .ok (.invokevirtual 131, 3) := by decide +kernel
theorem dX0_turnAway_57 : decode prog_1_method_23_code 57 = .ok (.astore_n 3, 1) := by decide +kernel
theorem dX0_turnAway_58 : decode prog_1_method_23_code 58 = .ok (.aload_n 3, 1) := by decide +kernel
theorem dX0_turnAway_59 : decode prog_1_method_23_code 59 = .ok (.ifnonnull 11, 3) := by decide +kernel
theorem dX0_turnAway_62 : decode prog_1_method_23_code 62 = .ok (.aload_n 1, 1) := by decide +kernel
theorem dX0_turnAway_63 : decode prog_1_method_23_code 63 = .ok (.iconst 5, 1) := by decide +kernel
theorem dX0_turnAway_64 : decode prog_1_method_23_code 64 = .ok (.putfield 90, 3) := by decide +kernel
theorem dX0_turnAway_67 : decode prog_1_method_23_code 67 = .ok (.goto 34, 3) := by decide +kernel
theorem dX0_turnAway_70 : decode prog_1_method_23_code 70 = .ok (.aload_n 3, 1) := by decide +kernel
theorem dX0_turnAway_71 : decode prog_1_method_23_code 71 = .ok (.iconst 5, 1) := by decide +kernel
theorem dX0_turnAway_72 : decode prog_1_method_23_code 72 = .ok (.putfield 90, 3) := by decide +kernel
theorem dX0_turnAway_75 : decode prog_1_method_23_code 75 = .ok (.aload_n 0, 1) := by decide +kernel
theorem dX0_turnAway_76 : decode prog_1_method_23_code 76 = .ok (.getfield 25, 3) := by decide +kernel
theorem dX0_turnAway_79 : decode prog_1_method_23_code 79 = .ok (.aload_n 1, 1) := by decide +kernel
theorem dX0_turnAway_80 : decode prog_1_method_23_code 80 = .ok (.aload_n 0, 1) := by decide +kernel
theorem dX0_turnAway_81 : decode prog_1_method_23_code 81 = .ok (.getfield 46, 3) := by decide +kernel
theorem dX0_turnAway_84 : decode prog_1_method_23_code 84 = .ok (.invokevirtual 257, 3) := by decide +kernel
theorem dX0_turnAway_87 : decode prog_1_method_23_code 87 = .ok (.goto 14, 3) := by decide +kernel
theorem dX0_turnAway_90 : decode prog_1_method_23_code 90 = .ok (.aload_n 1, 1) := by decide +kernel
theorem dX0_turnAway_91 : decode prog_1_method_23_code 91 = .ok (.iconst 2, 1) := by decide +kernel
theorem dX0_turnAway_92 : decode prog_1_method_23_code 92 = .ok (.putfield 90, 3) := by decide +kernel
theorem dX0_turnAway_95 : decode prog_1_method_23_code 95 = .ok (.aload_n 0, 1) := by decide +kernel
theorem dX0_turnAway_96 : decode prog_1_method_23_code 96 = .ok (.aload_n 1, 1) := by decide +kernel
theorem dX0_turnAway_97 : decode prog_1_method_23_code 97 = .ok (.iload_n 2, 1) := by decide +kernel
theorem dX0_turnAway_98 : decode prog_1_method_23_code 98 = .ok (.invokevirtual 264, 3) := by decide +kernel
theorem dX0_turnAway_101 : decode prog_1_method_23_code 101 = .ok (.return_, 1) := by decide +kernel
def wpX0_turnAway (K : KX) (adm : KX → (gS → Prop) → gS → Nat → Int32 → Prop) (post : gS → Prop) (u : gS) (p1 : Nat) (p2 : Int32) : Prop :=
  (((K.1 3) = 0 → (∀ u2 : gS, u2 = tA u 0 p1 6 → (post u2))) ∧ (¬ (K.1 3) = 0 → ((((K.1 3) = 1 → (∀ u4 : gS, u4 = tA u 0 p1 5 → (post u4))) ∧ (¬ (K.1 3) = 1 → ((((K.1 3) = 2 → (wpX2_removeAt K (fun (r6 : Option Nat) (u7 : gS) => ((r6 = none → (∀ u9 : gS, u9 = tA u7 0 p1 5 → (post u9))) ∧ (∀ y8 : Nat, r6 = some y8 → (y8 ∈ K.2.2.1 ∧ (∀ u11 : gS, u11 = tA u7 0 y8 5 → (wpX2_add K (fun (u13 : gS) => post u13) u11 p1 (sD u11 0))))))) u 0)) ∧ (¬ (K.1 3) = 2 → (∀ u14 : gS, u14 = tA u 0 p1 2 → (wpX0_performAndEnd K adm (fun (u16 : gS) => post u16) u14 p1 p2))))))))))

set_option maxHeartbeats 8000000 in
set_option maxRecDepth 100000 in
theorem cX0_turnAway (l : Launch) (dC : Nat → ClassId) (dI : Nat → Nat → Nat) (ad : Nat → Nat) (ca : Nat → ClassId) (K : KX) (n : Nat) (adm : KX → (gS → Prop) → gS → Nat → Int32 → Prop) (sz : Nat) (u : gS) (p1 : Nat) (p2 : Int32) (post : gS → Prop) (hp1 : p1 ∈ K.2.2.1) (h : wpX0_turnAway K adm post u p1 p2) (hadm : ∀ (sz : Nat) (u : gS) (p1 : Nat) (p2 : Int32) (post : gS → Prop), p1 ∈ K.2.2.1 → adm K post u p1 p2 → Met l nAdm (gw nAdm prog_1_method_22_code 4 none) (rmN (4 * n + 4)) (va_Pc [.ref (ad 0), .ref p1, .int p2] (gB (dC, dI) vwCl (xT ca) xE (wX ad ca K u) sz)) (va_Qv post (gAt (dC, dI) vwCl (xT ca) (wX ad ca K) (va_A (wX ad ca K u) sz)) (va_A (wX ad ca K u) sz)) 0 0 (va_A (wX ad ca K u) sz)) : Met l ⟨"WorkHall", "turnAway", "(LWorkHall$Job;I)V"⟩ (gw ⟨"WorkHall", "turnAway", "(LWorkHall$Job;I)V"⟩ prog_1_method_23_code 4 none) (rmN (4 * n + 7)) (va_Pc [.ref (ad 0), .ref p1, .int p2] (gB (dC, dI) vwCl (xT ca) xE (wX ad ca K u) sz)) (va_Qv post (gAt (dC, dI) vwCl (xT ca) (wX ad ca K) (va_A (wX ad ca K u) sz)) (va_A (wX ad ca K u) sz)) 0 0 (va_A (wX ad ca K u) sz) := by
  refine Met.ofW (cc := prog_1_method_23_code) (maxL := 4) (ret := none) (by decide) rfl ?_
  intro p e s m args below meth c s₁ B hml hv
  obtain ⟨rfl, hsz, hP, hK, hD0, hE⟩ := hv
  have hx := B.exec
  have hb := B.bytes
  have hr := B.returns
  have hts : ∀ w ∈ gW, w.before _ s = true := fun w h9 => atoms_spec (ws := (gw ⟨"WorkHall", "turnAway", "(LWorkHall$Job;I)V"⟩ prog_1_method_23_code 4 none)) B.pre w (List.mem_cons_of_mem _ h9)
  have hown : s.vm.findClass RX0 = some m.cls := findClass_of_methodNamed B.named
  have hlocks := B.notSynchronized
  subst hsz
  have hD := hD0.self (sz := s.heap.size)
  generalize hAe : va_A (wX ad ca K u) s.heap.size = A at hD hE ⊢
  have hA : ∀ q : Nat, s.heap.size ≤ q → A q := fun q h => by rw [← hAe]; exact Or.inr h
  obtain ⟨H, hHe⟩ : ∃ z : Heap, z = s.heap := ⟨_, rfl⟩
  rw [← hHe]
  have hS : va_S A s.heap H [] := by rw [hHe]; exact va_S.rf
  have hP : va_P (dC, dI) vwCl (wX ad ca K u) H := by rw [hHe]; exact hP
  have hl := lv_entry ([.ref (ad 0), .ref p1, .int p2]) (n := 4) (Nat.le_of_ble_eq_true rfl)
  rw [lg_entry_eq]
  generalize (lg_sl ([.ref (ad 0), .ref p1, .int p2]) ++ List.replicate (4 - (lg_sl ([.ref (ad 0), .ref p1, .int p2])).length) Slot.unset).toArray = ls at hl ⊢
  have hl : lv_has ls 4 [(0, .ref (ad 0)), (1, .ref p1), (2, .int p2)] := hl
  clear hAe
  refine lv_aload_n hx hb dX0_turnAway_0 rfl (lv_at hl 0 rfl) ?_
  refine va_get (D := (dC, dI)) (ci := 0) (v := .int (K.1 3)) (C := RX0) (T := TX0) (N := 12) hx hb hts uwX0 hown hK hP 0 rfl rfl 3 (by decide) (hts _ wd_175) (fun _ h9 => h9) rfl dX0_turnAway_1 ?_
  by_cases c1 : (K.1 3) = 0
  · have h := h.1 c1
    have e19 : (K.1 3).toInt = 0 := by rw [c1]; rfl
    refine lv_tableIn (off := 28) (tgt := 32) hx hb dX0_turnAway_4 (by rw [e19]; decide) (by rw [e19]; decide) (by rw [e19]; rfl) (by decide) ?_
    refine lv_aload_n hx hb dX0_turnAway_32 rfl (lv_at hl 1 rfl) ?_
    refine lv_bipush (v := 6) hx hb dX0_turnAway_33 (by decide) ?_
    obtain ⟨k9, hk9⟩ := xJ_get hp1
    have e9 := xJ_state (v := 6) hD hp1 hk9
    refine va_put (D := (dC, dI)) (ci := 5) (v := .int 6) (ty := tyX5 5) (C := RX5) (T := TX5) (N := 9) hx hb hts uwX5 tyX5 tyX5_ok nmX5 hown hK hP hD hS k9 hk9 rfl 5 (by decide) (hts _ wd_327) (fun _ h9 => h9) rfl (tyX5_ok 5 (by decide)) rfl rfl (Nat.le_of_ble_eq_true rfl) dX0_turnAway_35 (fun H locs hP hD hS => ?_)
    obtain ⟨u2, eu2⟩ : ∃ z : gS, z = tA u 0 p1 6 := ⟨_, rfl⟩
    have hP : va_P (dC, dI) vwCl (wX ad ca K u2) H := by rw [eu2, ← e9]; exact hP
    have hD : va_D A (wX ad ca K u2) := by rw [eu2, ← e9]; exact hD
    have h := h u2 eu2
    refine lv_goto (tgt := 101) hx hb dX0_turnAway_38 (by decide) ?_
    exact gr_v (w := wX ad ca K) (u := u2) hx hb hr hlocks h hP hK hD hS dX0_turnAway_101
  · have h := h.2 c1
    by_cases c3 : (K.1 3) = 1
    · have h := h.1 c3
      have e18 : (K.1 3).toInt = 1 := by rw [c3]; rfl
      refine lv_tableIn (off := 37) (tgt := 41) hx hb dX0_turnAway_4 (by rw [e18]; decide) (by rw [e18]; decide) (by rw [e18]; rfl) (by decide) ?_
      refine lv_aload_n hx hb dX0_turnAway_41 rfl (lv_at hl 1 rfl) ?_
      refine lv_iconst (v := 5) hx hb dX0_turnAway_42 (by decide) ?_
      obtain ⟨k9, hk9⟩ := xJ_get hp1
      have e9 := xJ_state (v := 5) hD hp1 hk9
      refine va_put (D := (dC, dI)) (ci := 5) (v := .int 5) (ty := tyX5 5) (C := RX5) (T := TX5) (N := 9) hx hb hts uwX5 tyX5 tyX5_ok nmX5 hown hK hP hD hS k9 hk9 rfl 5 (by decide) (hts _ wd_327) (fun _ h9 => h9) rfl (tyX5_ok 5 (by decide)) rfl rfl (Nat.le_of_ble_eq_true rfl) dX0_turnAway_43 (fun H locs hP hD hS => ?_)
      obtain ⟨u4, eu4⟩ : ∃ z : gS, z = tA u 0 p1 5 := ⟨_, rfl⟩
      have hP : va_P (dC, dI) vwCl (wX ad ca K u4) H := by rw [eu4, ← e9]; exact hP
      have hD : va_D A (wX ad ca K u4) := by rw [eu4, ← e9]; exact hD
      have h := h u4 eu4
      refine lv_goto (tgt := 101) hx hb dX0_turnAway_46 (by decide) ?_
      exact gr_v (w := wX ad ca K) (u := u4) hx hb hr hlocks h hP hK hD hS dX0_turnAway_101
    · have h := h.2 c3
      by_cases c5 : (K.1 3) = 2
      · have h := h.1 c5
        have e17 : (K.1 3).toInt = 2 := by rw [c5]; rfl
        refine lv_tableIn (off := 45) (tgt := 49) hx hb dX0_turnAway_4 (by rw [e17]; decide) (by rw [e17]; decide) (by rw [e17]; rfl) (by decide) ?_
        refine lv_aload_n hx hb dX0_turnAway_49 rfl (lv_at hl 0 rfl) ?_
        refine va_get (D := (dC, dI)) (ci := 0) (v := .ref (ad 4)) (C := RX0) (T := TX0) (N := 12) hx hb hts uwX0 hown hK hP 0 rfl rfl 6 (by decide) (hts _ wd_178) (fun _ h9 => h9) rfl dX0_turnAway_50 ?_
        refine lv_iconst (v := 0) hx hb dX0_turnAway_53 (by decide) ?_
        refine gc_q (w := wX ad ca K) (u := u) (va_runV (As := [.int 0]) (rest := []) ⟨hx, hb, hml, hown, hts⟩ (cX2_removeAt l dC dI ad ca K H.size u 0 _ h) (cwV 1 hts (gG_V wd_423 wd_424 wd_425 wd_49 wd_426) rfl rfl rfl (by decide +kernel) (rmN_le (k := 1) (by omega) (by decide))) ⟨gB_blind xE_ok, va_recv hK hP (ci := 2) (q0 := 4) rfl rfl, gB_pre xE_ok hP hK hD hE hS hA⟩ rfl rfl hl.1 rfl (lv_room (Nat.le_of_ble_eq_true rfl)) dX0_turnAway_54 ⟨Nat.le_of_ble_eq_true rfl, Nat.le_of_ble_eq_true rfl⟩) hD hS hA (fun r6 u7 H locs h hP hD hS => ?_)
        refine gq_astore_n (r := r6) (lv' := [(3, va_rf r6), (0, .ref (ad 0)), (1, .ref p1), (2, .int p2)]) hx hb dX0_turnAway_57 rfl hl (by decide) rfl (fun ls hl => ?_)
        refine gq_aload_n (r := r6) hx hb dX0_turnAway_58 rfl (lv_at hl 0 rfl) ?_
        rcases r6 with _ | y8
        · have h := h.1 rfl
          refine lv_ifnonnullN hx hb dX0_turnAway_59 ?_
          refine lv_aload_n hx hb dX0_turnAway_62 rfl (lv_at hl 2 rfl) ?_
          refine lv_iconst (v := 5) hx hb dX0_turnAway_63 (by decide) ?_
          obtain ⟨k9, hk9⟩ := xJ_get hp1
          have e9 := xJ_state (v := 5) hD hp1 hk9
          refine va_put (D := (dC, dI)) (ci := 5) (v := .int 5) (ty := tyX5 5) (C := RX5) (T := TX5) (N := 9) hx hb hts uwX5 tyX5 tyX5_ok nmX5 hown hK hP hD hS k9 hk9 rfl 5 (by decide) (hts _ wd_327) (fun _ h9 => h9) rfl (tyX5_ok 5 (by decide)) rfl rfl (Nat.le_of_ble_eq_true rfl) dX0_turnAway_64 (fun H locs hP hD hS => ?_)
          obtain ⟨u9, eu9⟩ : ∃ z : gS, z = tA u7 0 p1 5 := ⟨_, rfl⟩
          have hP : va_P (dC, dI) vwCl (wX ad ca K u9) H := by rw [eu9, ← e9]; exact hP
          have hD : va_D A (wX ad ca K u9) := by rw [eu9, ← e9]; exact hD
          have h := h u9 eu9
          refine lv_goto (tgt := 101) hx hb dX0_turnAway_67 (by decide) ?_
          exact gr_v (w := wX ad ca K) (u := u9) hx hb hr hlocks h hP hK hD hS dX0_turnAway_101
        · have h := h.2 y8 rfl
          refine lv_ifnonnull (tgt := 70) hx hb dX0_turnAway_59 (by decide) ?_
          refine lv_aload_n hx hb dX0_turnAway_70 rfl (lv_at hl 0 rfl) ?_
          refine lv_iconst (v := 5) hx hb dX0_turnAway_71 (by decide) ?_
          obtain ⟨hy10, h⟩ := h
          obtain ⟨k9, hk9⟩ := xJ_get hy10
          have e9 := xJ_state (v := 5) hD hy10 hk9
          refine va_put (D := (dC, dI)) (ci := 5) (v := .int 5) (ty := tyX5 5) (C := RX5) (T := TX5) (N := 9) hx hb hts uwX5 tyX5 tyX5_ok nmX5 hown hK hP hD hS k9 hk9 rfl 5 (by decide) (hts _ wd_327) (fun _ h9 => h9) rfl (tyX5_ok 5 (by decide)) rfl rfl (Nat.le_of_ble_eq_true rfl) dX0_turnAway_72 (fun H locs hP hD hS => ?_)
          obtain ⟨u11, eu11⟩ : ∃ z : gS, z = tA u7 0 y8 5 := ⟨_, rfl⟩
          have hP : va_P (dC, dI) vwCl (wX ad ca K u11) H := by rw [eu11, ← e9]; exact hP
          have hD : va_D A (wX ad ca K u11) := by rw [eu11, ← e9]; exact hD
          have h := h u11 eu11
          refine lv_aload_n hx hb dX0_turnAway_75 rfl (lv_at hl 1 rfl) ?_
          refine va_get (D := (dC, dI)) (ci := 0) (v := .ref (ad 4)) (C := RX0) (T := TX0) (N := 12) hx hb hts uwX0 hown hK hP 0 rfl rfl 6 (by decide) (hts _ wd_178) (fun _ h9 => h9) rfl dX0_turnAway_76 ?_
          refine lv_aload_n hx hb dX0_turnAway_79 rfl (lv_at hl 2 rfl) ?_
          refine lv_aload_n hx hb dX0_turnAway_80 rfl (lv_at hl 1 rfl) ?_
          refine va_get (D := (dC, dI)) (ci := 0) (v := .double (sD u11 0)) (C := RX0) (T := TX0) (N := 12) hx hb hts uwX0 hown hK hP 0 rfl rfl 11 (by decide) (hts _ wd_183) (fun _ h9 => h9) rfl dX0_turnAway_81 ?_
          refine gc_v (w := wX ad ca K) (u := u11) (va_runV (As := [.ref p1, .double (sD u11 0)]) (rest := []) ⟨hx, hb, hml, hown, hts⟩ (cX2_add l dC dI ad ca K H.size u11 p1 (sD u11 0) _ hp1 h) (cwV 2 hts (gG_V wd_415 wd_416 wd_417 wd_49 wd_418) rfl rfl rfl (by decide +kernel) (rmN_le (k := 1) (by omega) (by decide))) ⟨gB_blind xE_ok, va_recv hK hP (ci := 2) (q0 := 4) rfl rfl, gB_pre xE_ok hP hK hD hE hS hA⟩ rfl rfl hl.1 rfl (lv_room (Nat.le_of_ble_eq_true rfl)) dX0_turnAway_84 ⟨Nat.le_of_ble_eq_true rfl, Nat.le_of_ble_eq_true rfl⟩) hD hS hA (fun u13 H locs h hP hD hS => ?_)
          refine lv_goto (tgt := 101) hx hb dX0_turnAway_87 (by decide) ?_
          exact gr_v (w := wX ad ca K) (u := u13) hx hb hr hlocks h hP hK hD hS dX0_turnAway_101
      · have h := h.2 c5
        refine lv_tableOut (tgt := 90) hx hb dX0_turnAway_4 (by have a0 := lv_neT (a := 0) c1 rfl; have a1 := lv_neT (a := 1) c3 rfl; have a2 := lv_neT (a := 2) c5 rfl; omega) (by decide) ?_
        refine lv_aload_n hx hb dX0_turnAway_90 rfl (lv_at hl 1 rfl) ?_
        refine lv_iconst (v := 2) hx hb dX0_turnAway_91 (by decide) ?_
        obtain ⟨k9, hk9⟩ := xJ_get hp1
        have e9 := xJ_state (v := 2) hD hp1 hk9
        refine va_put (D := (dC, dI)) (ci := 5) (v := .int 2) (ty := tyX5 5) (C := RX5) (T := TX5) (N := 9) hx hb hts uwX5 tyX5 tyX5_ok nmX5 hown hK hP hD hS k9 hk9 rfl 5 (by decide) (hts _ wd_327) (fun _ h9 => h9) rfl (tyX5_ok 5 (by decide)) rfl rfl (Nat.le_of_ble_eq_true rfl) dX0_turnAway_92 (fun H locs hP hD hS => ?_)
        obtain ⟨u14, eu14⟩ : ∃ z : gS, z = tA u 0 p1 2 := ⟨_, rfl⟩
        have hP : va_P (dC, dI) vwCl (wX ad ca K u14) H := by rw [eu14, ← e9]; exact hP
        have hD : va_D A (wX ad ca K u14) := by rw [eu14, ← e9]; exact hD
        have h := h u14 eu14
        refine lv_aload_n hx hb dX0_turnAway_95 rfl (lv_at hl 0 rfl) ?_
        refine lv_aload_n hx hb dX0_turnAway_96 rfl (lv_at hl 1 rfl) ?_
        refine lv_iload_n hx hb dX0_turnAway_97 rfl (lv_at hl 2 rfl) ?_
        refine gc_v (w := wX ad ca K) (u := u14) (va_runV (As := [.ref p1, .int p2]) (rest := []) ⟨hx, hb, hml, hown, hts⟩ (cX0_performAndEnd l dC dI ad ca K n adm H.size u14 p1 p2 _ hp1 h hadm) (cwV 2 hts (gG_V wd_427 wd_429 wd_5 wd_46 wd_430) rfl rfl rfl (by decide +kernel) (rmN_le (k := 4 * n + 6) (by omega) (by decide))) ⟨gB_blind xE_ok, va_recv hK hP (ci := 0) (q0 := 0) rfl rfl, gB_pre xE_ok hP hK hD hE hS hA⟩ rfl rfl hl.1 rfl (lv_room (Nat.le_of_ble_eq_true rfl)) dX0_turnAway_98 ⟨Nat.le_of_ble_eq_true rfl, Nat.le_of_ble_eq_true rfl⟩) hD hS hA (fun u16 H locs h hP hD hS => ?_)
        exact gr_v (w := wX ad ca K) (u := u16) hx hb hr hlocks h hP hK hD hS dX0_turnAway_101

theorem dX0_admit_0 : decode prog_1_method_22_code 0 = .ok (.aload_n 0, 1) := by decide +kernel
theorem dX0_admit_1 : decode prog_1_method_22_code 1 = .ok (.getfield 18, 3) := by decide +kernel
theorem dX0_admit_4 : decode prog_1_method_22_code 4 = .ok (.invokevirtual 246, 3) := by decide +kernel
theorem dX0_admit_7 : decode prog_1_method_22_code 7 = .ok (.astore_n 3, 1) := by decide +kernel
theorem dX0_admit_8 : decode prog_1_method_22_code 8 = .ok (.aload_n 0, 1) := by decide +kernel
theorem dX0_admit_9 : decode prog_1_method_22_code 9 = .ok (.getfield 40, 3) := by decide +kernel
theorem dX0_admit_12 : decode prog_1_method_22_code 12 = .ok (.ifCond .ne 9, 3) := by decide +kernel
theorem dX0_admit_15 : decode prog_1_method_22_code 15 = .ok (.iload_n 2, 1) := by decide +kernel
theorem dX0_admit_16 : decode prog_1_method_22_code 16 = .ok (.bipush 24, 2) := by decide +kernel
theorem dX0_admit_18 : decode prog_1_method_22_code 18 = .ok (.if_icmp .le 12, 3) := by decide +kernel
theorem dX0_admit_21 : decode prog_1_method_22_code 21 = .ok (.aload_n 1, 1) := by decide +kernel
theorem dX0_admit_22 : decode prog_1_method_22_code 22 = .ok (.bipush 6, 2) := by decide +kernel
theorem dX0_admit_24 : decode prog_1_method_22_code 24 = .ok (.putfield 90, 3) := by decide +kernel
theorem dX0_admit_27 : decode prog_1_method_22_code 27 = .ok (.goto 100, 3) := by decide +kernel
theorem dX0_admit_30 : decode prog_1_method_22_code 30 = .ok (.aload_n 0, 1) := by decide +kernel
theorem dX0_admit_31 : decode prog_1_method_22_code 31 = .ok (.getfield 18, 3) := by decide +kernel
theorem dX0_admit_34 : decode prog_1_method_22_code 34 = .ok (.getfield 214, 3) := by decide +kernel
theorem dX0_admit_37 : decode prog_1_method_22_code 37 = .ok (.aload_n 0, 1) := by decide +kernel
theorem dX0_admit_38 : decode prog_1_method_22_code 38 = .ok (.getfield 54, 3) := by decide +kernel
theorem dX0_admit_41 : decode prog_1_method_22_code 41 = .ok (.if_icmp .ge 14, 3) := by decide +kernel
theorem dX0_admit_44 : decode prog_1_method_22_code 44 = .ok (.aload_n 0, 1) := by decide +kernel
theorem dX0_admit_45 : decode prog_1_method_22_code 45 = .ok (.getfield 18, 3) := by decide +kernel
theorem dX0_admit_48 : decode prog_1_method_22_code 48 = .ok (.aload_n 1, 1) := by decide +kernel
theorem dX0_admit_49 : decode prog_1_method_22_code 49 = .ok (.invokevirtual 250, 3) := by decide +kernel
theorem dX0_admit_52 : decode prog_1_method_22_code 52 = .ok (.goto 75, 3) := by decide +kernel
theorem dX0_admit_55 : decode prog_1_method_22_code 55 = .ok (.aload_n 3, 1) := by decide +kernel
theorem dX0_admit_56 : decode prog_1_method_22_code 56 = .ok (.ifnull 11, 3) := by decide +kernel
theorem dX0_admit_59 : decode prog_1_method_22_code 59 = .ok (.aload_n 3, 1) := by decide +kernel
theorem dX0_admit_60 : decode prog_1_method_22_code 60 = .ok (.aload_n 1, 1) := by decide +kernel
theorem dX0_admit_61 : decode prog_1_method_22_code 61 = .ok (.invokevirtual 254, 3) := by decide +kernel
theorem dX0_admit_64 : decode prog_1_method_22_code 64 = .ok (.goto 63, 3) := by decide +kernel
theorem dX0_admit_67 : decode prog_1_method_22_code 67 = .ok (.aload_n 0, 1) := by decide +kernel
theorem dX0_admit_68 : decode prog_1_method_22_code 68 = .ok (.getfield 25, 3) := by decide +kernel
theorem dX0_admit_71 : decode prog_1_method_22_code 71 = .ok (.getfield 218, 3) := by decide +kernel
theorem dX0_admit_74 : decode prog_1_method_22_code 74 = .ok (.aload_n 0, 1) := by decide +kernel
theorem dX0_admit_75 : decode prog_1_method_22_code 75 = .ok (.getfield 66, 3) := by decide +kernel
theorem dX0_admit_78 : decode prog_1_method_22_code 78 = .ok (.if_icmp .ge 18, 3) := by decide +kernel
theorem dX0_admit_81 : decode prog_1_method_22_code 81 = .ok (.aload_n 0, 1) := by decide +kernel
theorem dX0_admit_82 : decode prog_1_method_22_code 82 = .ok (.getfield 25, 3) := by decide +kernel
theorem dX0_admit_85 : decode prog_1_method_22_code 85 = .ok (.aload_n 1, 1) := by decide +kernel
theorem dX0_admit_86 : decode prog_1_method_22_code 86 = .ok (.aload_n 0, 1) := by decide +kernel
theorem dX0_admit_87 : decode prog_1_method_22_code 87 = .ok (.getfield 46, 3) := by decide +kernel
theorem dX0_admit_90 : decode prog_1_method_22_code 90 = .ok (.invokevirtual 257, 3) := by decide +kernel
theorem dX0_admit_93 : decode prog_1_method_22_code 93 = .ok (.goto 34, 3) := by decide +kernel
theorem dX0_admit_96 : decode prog_1_method_22_code 96 = .ok (.aload_n 0, 1) := by decide +kernel
theorem dX0_admit_97 : decode prog_1_method_22_code 97 = .ok (.getfield 18, 3) := by decide +kernel
theorem dX0_admit_100 : decode prog_1_method_22_code 100 = .ok (.getfield 214, 3) := by decide +kernel
theorem dX0_admit_103 : decode prog_1_method_22_code 103 = .ok (.aload_n 0, 1) := by decide +kernel
theorem dX0_admit_104 : decode prog_1_method_22_code 104 = .ok (.getfield 63, 3) := by decide +kernel
theorem dX0_admit_107 : decode prog_1_method_22_code 107 = .ok (.if_icmp .ge 14, 3) := by decide +kernel
theorem dX0_admit_110 : decode prog_1_method_22_code 110 = .ok (.aload_n 0, 1) := by decide +kernel
theorem dX0_admit_111 : decode prog_1_method_22_code 111 = .ok (.getfield 18, 3) := by decide +kernel
theorem dX0_admit_114 : decode prog_1_method_22_code 114 = .ok (.aload_n 1, 1) := by decide +kernel
theorem dX0_admit_115 : decode prog_1_method_22_code 115 = .ok (.invokevirtual 250, 3) := by decide +kernel
theorem dX0_admit_118 : decode prog_1_method_22_code 118 = .ok (.goto 9, 3) := by decide +kernel
theorem dX0_admit_121 : decode prog_1_method_22_code 121 = .ok (.aload_n 0, 1) := by decide +kernel
theorem dX0_admit_122 : decode prog_1_method_22_code 122 = .ok (.aload_n 1, 1) := by decide +kernel
theorem dX0_admit_123 : decode prog_1_method_22_code 123 = .ok (.iload_n 2, 1) := by decide +kernel
theorem dX0_admit_124 : decode prog_1_method_22_code 124 = .ok (.invokevirtual 261, 3) := by decide +kernel
theorem dX0_admit_127 : decode prog_1_method_22_code 127 = .ok (.return_, 1) := by decide +kernel
def wpX0_admitF (K : KX) (adm : KX → (gS → Prop) → gS → Nat → Int32 → Prop) (post : gS → Prop) (u : gS) (p1 : Nat) (p2 : Int32) : Prop :=
  wpX1_firstIdle K (fun (r1 : Option Nat) (u2 : gS) => ((¬ (sI u2 0) = 0 → (∀ u4 : gS, u4 = tA u2 0 p1 6 → (post u4))) ∧ ((sI u2 0) = 0 → (((p2 ≤ 24 → ((((K.1 0) ≤ (sI u2 2) → (((r1 = none → ((((K.1 2) ≤ (sI u2 4) → ((((K.1 1) ≤ (sI u2 2) → (wpX0_turnAway K adm (fun (u11 : gS) => post u11) u2 p1 p2)) ∧ (¬ (K.1 1) ≤ (sI u2 2) → (wpX1_hire K (fun (u13 : gS) => post u13) u2 p1))))) ∧ (¬ (K.1 2) ≤ (sI u2 4) → (wpX2_add K (fun (u15 : gS) => post u15) u2 p1 (sD u2 0)))))) ∧ (∀ y7 : Nat, r1 = some y7 → (y7 ∈ K.2.1 ∧ (wpX4_begin K (fun (u18 : gS) => post u18) u2 y7 p1)))))) ∧ (¬ (K.1 0) ≤ (sI u2 2) → (wpX1_hire K (fun (u20 : gS) => post u20) u2 p1))))) ∧ (¬ p2 ≤ 24 → (∀ u21 : gS, u21 = tA u2 0 p1 6 → (post u21)))))))) u

set_option maxHeartbeats 8000000 in
set_option maxRecDepth 100000 in
theorem cX0_admitF (l : Launch) (dC : Nat → ClassId) (dI : Nat → Nat → Nat) (ad : Nat → Nat) (ca : Nat → ClassId) (K : KX) (n : Nat) (adm : KX → (gS → Prop) → gS → Nat → Int32 → Prop) (sz : Nat) (u : gS) (p1 : Nat) (p2 : Int32) (post : gS → Prop) (hp1 : p1 ∈ K.2.2.1) (h : wpX0_admitF K adm post u p1 p2) (hadm : ∀ (sz : Nat) (u : gS) (p1 : Nat) (p2 : Int32) (post : gS → Prop), p1 ∈ K.2.2.1 → adm K post u p1 p2 → Met l nAdm (gw nAdm prog_1_method_22_code 4 none) (rmN (4 * n + 4)) (va_Pc [.ref (ad 0), .ref p1, .int p2] (gB (dC, dI) vwCl (xT ca) xE (wX ad ca K u) sz)) (va_Qv post (gAt (dC, dI) vwCl (xT ca) (wX ad ca K) (va_A (wX ad ca K u) sz)) (va_A (wX ad ca K u) sz)) 0 0 (va_A (wX ad ca K u) sz)) : Met l nAdm (gw nAdm prog_1_method_22_code 4 none) (rmN (4 * n + 8)) (va_Pc [.ref (ad 0), .ref p1, .int p2] (gB (dC, dI) vwCl (xT ca) xE (wX ad ca K u) sz)) (va_Qv post (gAt (dC, dI) vwCl (xT ca) (wX ad ca K) (va_A (wX ad ca K u) sz)) (va_A (wX ad ca K u) sz)) 0 0 (va_A (wX ad ca K u) sz) := by
  refine Met.ofW (cc := prog_1_method_22_code) (maxL := 4) (ret := none) (by decide) rfl ?_
  intro p e s m args below meth c s₁ B hml hv
  obtain ⟨rfl, hsz, hP, hK, hD0, hE⟩ := hv
  have hx := B.exec
  have hb := B.bytes
  have hr := B.returns
  have hts : ∀ w ∈ gW, w.before _ s = true := fun w h9 => atoms_spec (ws := (gw nAdm prog_1_method_22_code 4 none)) B.pre w (List.mem_cons_of_mem _ h9)
  have hown : s.vm.findClass RX0 = some m.cls := findClass_of_methodNamed B.named
  have hlocks := B.notSynchronized
  subst hsz
  have hD := hD0.self (sz := s.heap.size)
  generalize hAe : va_A (wX ad ca K u) s.heap.size = A at hD hE ⊢
  have hA : ∀ q : Nat, s.heap.size ≤ q → A q := fun q h => by rw [← hAe]; exact Or.inr h
  obtain ⟨H, hHe⟩ : ∃ z : Heap, z = s.heap := ⟨_, rfl⟩
  rw [← hHe]
  have hS : va_S A s.heap H [] := by rw [hHe]; exact va_S.rf
  have hP : va_P (dC, dI) vwCl (wX ad ca K u) H := by rw [hHe]; exact hP
  have hl := lv_entry ([.ref (ad 0), .ref p1, .int p2]) (n := 4) (Nat.le_of_ble_eq_true rfl)
  rw [lg_entry_eq]
  generalize (lg_sl ([.ref (ad 0), .ref p1, .int p2]) ++ List.replicate (4 - (lg_sl ([.ref (ad 0), .ref p1, .int p2])).length) Slot.unset).toArray = ls at hl ⊢
  have hl : lv_has ls 4 [(0, .ref (ad 0)), (1, .ref p1), (2, .int p2)] := hl
  clear hAe
  refine lv_aload_n hx hb dX0_admit_0 rfl (lv_at hl 0 rfl) ?_
  refine va_get (D := (dC, dI)) (ci := 0) (v := .ref (ad 2)) (C := RX0) (T := TX0) (N := 12) hx hb hts uwX0 hown hK hP 0 rfl rfl 5 (by decide) (hts _ wd_177) (fun _ h9 => h9) rfl dX0_admit_1 ?_
  refine gc_q (w := wX ad ca K) (u := u) (va_runV (As := []) (rest := []) ⟨hx, hb, hml, hown, hts⟩ (cX1_firstIdle l dC dI ad ca K H.size u _ h) (cwV 0 hts (gG_V wd_393 wd_394 wd_395 wd_47 wd_396) rfl rfl rfl (by decide +kernel) (rmN_le (k := 2) (by omega) (by decide))) ⟨gB_blind xE_ok, va_recv hK hP (ci := 1) (q0 := 2) rfl rfl, gB_pre xE_ok hP hK hD hE hS hA⟩ rfl rfl hl.1 rfl (lv_room (Nat.le_of_ble_eq_true rfl)) dX0_admit_4 ⟨Nat.le_of_ble_eq_true rfl, Nat.le_of_ble_eq_true rfl⟩) hD hS hA (fun r1 u2 H locs h hP hD hS => ?_)
  refine gq_astore_n (r := r1) (lv' := [(3, va_rf r1), (0, .ref (ad 0)), (1, .ref p1), (2, .int p2)]) hx hb dX0_admit_7 rfl hl (by decide) rfl (fun ls hl => ?_)
  refine lv_aload_n hx hb dX0_admit_8 rfl (lv_at hl 1 rfl) ?_
  refine va_get (D := (dC, dI)) (ci := 0) (v := .int (sI u2 0)) (C := RX0) (T := TX0) (N := 12) hx hb hts uwX0 hown hK hP 0 rfl rfl 9 (by decide) (hts _ wd_181) (fun _ h9 => h9) rfl dX0_admit_9 ?_
  refine lv_if_ne (tgt := 21) hx hb dX0_admit_12 (by decide) (fun c3 => ?_) (fun c3 => ?_)
  · have h := h.1 c3
    refine lv_aload_n hx hb dX0_admit_21 rfl (lv_at hl 2 rfl) ?_
    refine lv_bipush (v := 6) hx hb dX0_admit_22 (by decide) ?_
    obtain ⟨k9, hk9⟩ := xJ_get hp1
    have e9 := xJ_state (v := 6) hD hp1 hk9
    refine va_put (D := (dC, dI)) (ci := 5) (v := .int 6) (ty := tyX5 5) (C := RX5) (T := TX5) (N := 9) hx hb hts uwX5 tyX5 tyX5_ok nmX5 hown hK hP hD hS k9 hk9 rfl 5 (by decide) (hts _ wd_327) (fun _ h9 => h9) rfl (tyX5_ok 5 (by decide)) rfl rfl (Nat.le_of_ble_eq_true rfl) dX0_admit_24 (fun H locs hP hD hS => ?_)
    obtain ⟨u4, eu4⟩ : ∃ z : gS, z = tA u2 0 p1 6 := ⟨_, rfl⟩
    have hP : va_P (dC, dI) vwCl (wX ad ca K u4) H := by rw [eu4, ← e9]; exact hP
    have hD : va_D A (wX ad ca K u4) := by rw [eu4, ← e9]; exact hD
    have h := h u4 eu4
    refine lv_goto (tgt := 127) hx hb dX0_admit_27 (by decide) ?_
    exact gr_v (w := wX ad ca K) (u := u4) hx hb hr hlocks h hP hK hD hS dX0_admit_127
  · have h := h.2 c3
    refine lv_iload_n hx hb dX0_admit_15 rfl (lv_at hl 3 rfl) ?_
    refine lv_bipush (v := 24) hx hb dX0_admit_16 (by decide) ?_
    refine lv_icmp_le (tgt := 30) hx hb dX0_admit_18 (by decide) (fun c5 => ?_) (fun c5 => ?_)
    · have h := h.1 c5
      refine lv_aload_n hx hb dX0_admit_30 rfl (lv_at hl 1 rfl) ?_
      refine va_get (D := (dC, dI)) (ci := 0) (v := .ref (ad 2)) (C := RX0) (T := TX0) (N := 12) hx hb hts uwX0 hown hK hP 0 rfl rfl 5 (by decide) (hts _ wd_177) (fun _ h9 => h9) rfl dX0_admit_31 ?_
      refine va_get (D := (dC, dI)) (ci := 1) (v := .int (sI u2 2)) (C := RX1) (T := TX1) (N := 3) hx hb hts uwX1 hown hK hP 2 rfl rfl 1 (by decide) (hts _ wd_102) (fun _ h9 => h9) rfl dX0_admit_34 ?_
      refine lv_aload_n hx hb dX0_admit_37 rfl (lv_at hl 1 rfl) ?_
      refine va_get (D := (dC, dI)) (ci := 0) (v := .int (K.1 0)) (C := RX0) (T := TX0) (N := 12) hx hb hts uwX0 hown hK hP 0 rfl rfl 0 (by decide) (hts _ wd_172) (fun _ h9 => h9) rfl dX0_admit_38 ?_
      refine lv_icmp_ge (tgt := 55) hx hb dX0_admit_41 (by decide) (fun c6 => ?_) (fun c6 => ?_)
      · have h := h.1 c6
        refine gq_aload_n (r := r1) hx hb dX0_admit_55 rfl (lv_at hl 0 rfl) ?_
        rcases r1 with _ | y7
        · have h := h.1 rfl
          refine lv_ifnullN (tgt := 67) hx hb dX0_admit_56 (by decide) ?_
          refine lv_aload_n hx hb dX0_admit_67 rfl (lv_at hl 1 rfl) ?_
          refine va_get (D := (dC, dI)) (ci := 0) (v := .ref (ad 4)) (C := RX0) (T := TX0) (N := 12) hx hb hts uwX0 hown hK hP 0 rfl rfl 6 (by decide) (hts _ wd_178) (fun _ h9 => h9) rfl dX0_admit_68 ?_
          refine va_get (D := (dC, dI)) (ci := 2) (v := .int (sI u2 4)) (C := RX2) (T := TX2) (N := 5) hx hb hts uwX2 hown hK hP 4 rfl rfl 2 (by decide) (hts _ wd_122) (fun _ h9 => h9) rfl dX0_admit_71 ?_
          refine lv_aload_n hx hb dX0_admit_74 rfl (lv_at hl 1 rfl) ?_
          refine va_get (D := (dC, dI)) (ci := 0) (v := .int (K.1 2)) (C := RX0) (T := TX0) (N := 12) hx hb hts uwX0 hown hK hP 0 rfl rfl 2 (by decide) (hts _ wd_174) (fun _ h9 => h9) rfl dX0_admit_75 ?_
          refine lv_icmp_ge (tgt := 96) hx hb dX0_admit_78 (by decide) (fun c8 => ?_) (fun c8 => ?_)
          · have h := h.1 c8
            refine lv_aload_n hx hb dX0_admit_96 rfl (lv_at hl 1 rfl) ?_
            refine va_get (D := (dC, dI)) (ci := 0) (v := .ref (ad 2)) (C := RX0) (T := TX0) (N := 12) hx hb hts uwX0 hown hK hP 0 rfl rfl 5 (by decide) (hts _ wd_177) (fun _ h9 => h9) rfl dX0_admit_97 ?_
            refine va_get (D := (dC, dI)) (ci := 1) (v := .int (sI u2 2)) (C := RX1) (T := TX1) (N := 3) hx hb hts uwX1 hown hK hP 2 rfl rfl 1 (by decide) (hts _ wd_102) (fun _ h9 => h9) rfl dX0_admit_100 ?_
            refine lv_aload_n hx hb dX0_admit_103 rfl (lv_at hl 1 rfl) ?_
            refine va_get (D := (dC, dI)) (ci := 0) (v := .int (K.1 1)) (C := RX0) (T := TX0) (N := 12) hx hb hts uwX0 hown hK hP 0 rfl rfl 1 (by decide) (hts _ wd_173) (fun _ h9 => h9) rfl dX0_admit_104 ?_
            refine lv_icmp_ge (tgt := 121) hx hb dX0_admit_107 (by decide) (fun c9 => ?_) (fun c9 => ?_)
            · have h := h.1 c9
              refine lv_aload_n hx hb dX0_admit_121 rfl (lv_at hl 1 rfl) ?_
              refine lv_aload_n hx hb dX0_admit_122 rfl (lv_at hl 2 rfl) ?_
              refine lv_iload_n hx hb dX0_admit_123 rfl (lv_at hl 3 rfl) ?_
              refine gc_v (w := wX ad ca K) (u := u2) (va_runV (As := [.ref p1, .int p2]) (rest := []) ⟨hx, hb, hml, hown, hts⟩ (cX0_turnAway l dC dI ad ca K n adm H.size u2 p1 p2 _ hp1 h hadm) (cwV 2 hts (gG_V wd_419 wd_421 wd_4 wd_46 wd_422) rfl rfl rfl (by decide +kernel) (rmN_le (k := 4 * n + 7) (by omega) (by decide))) ⟨gB_blind xE_ok, va_recv hK hP (ci := 0) (q0 := 0) rfl rfl, gB_pre xE_ok hP hK hD hE hS hA⟩ rfl rfl hl.1 rfl (lv_room (Nat.le_of_ble_eq_true rfl)) dX0_admit_124 ⟨Nat.le_of_ble_eq_true rfl, Nat.le_of_ble_eq_true rfl⟩) hD hS hA (fun u11 H locs h hP hD hS => ?_)
              exact gr_v (w := wX ad ca K) (u := u11) hx hb hr hlocks h hP hK hD hS dX0_admit_127
            · have h := h.2 c9
              refine lv_aload_n hx hb dX0_admit_110 rfl (lv_at hl 1 rfl) ?_
              refine va_get (D := (dC, dI)) (ci := 0) (v := .ref (ad 2)) (C := RX0) (T := TX0) (N := 12) hx hb hts uwX0 hown hK hP 0 rfl rfl 5 (by decide) (hts _ wd_177) (fun _ h9 => h9) rfl dX0_admit_111 ?_
              refine lv_aload_n hx hb dX0_admit_114 rfl (lv_at hl 2 rfl) ?_
              refine gc_v (w := wX ad ca K) (u := u2) (va_runV (As := [.ref p1]) (rest := []) ⟨hx, hb, hml, hown, hts⟩ (cX1_hire l dC dI ad ca K H.size u2 p1 _ hp1 h) (cwV 1 hts (gG_V wd_405 wd_406 wd_407 wd_47 wd_408) rfl rfl rfl (by decide +kernel) (rmN_le (k := 2) (by omega) (by decide))) ⟨gB_blind xE_ok, va_recv hK hP (ci := 1) (q0 := 2) rfl rfl, gB_pre xE_ok hP hK hD hE hS hA⟩ rfl rfl hl.1 rfl (lv_room (Nat.le_of_ble_eq_true rfl)) dX0_admit_115 ⟨Nat.le_of_ble_eq_true rfl, Nat.le_of_ble_eq_true rfl⟩) hD hS hA (fun u13 H locs h hP hD hS => ?_)
              refine lv_goto (tgt := 127) hx hb dX0_admit_118 (by decide) ?_
              exact gr_v (w := wX ad ca K) (u := u13) hx hb hr hlocks h hP hK hD hS dX0_admit_127
          · have h := h.2 c8
            refine lv_aload_n hx hb dX0_admit_81 rfl (lv_at hl 1 rfl) ?_
            refine va_get (D := (dC, dI)) (ci := 0) (v := .ref (ad 4)) (C := RX0) (T := TX0) (N := 12) hx hb hts uwX0 hown hK hP 0 rfl rfl 6 (by decide) (hts _ wd_178) (fun _ h9 => h9) rfl dX0_admit_82 ?_
            refine lv_aload_n hx hb dX0_admit_85 rfl (lv_at hl 2 rfl) ?_
            refine lv_aload_n hx hb dX0_admit_86 rfl (lv_at hl 1 rfl) ?_
            refine va_get (D := (dC, dI)) (ci := 0) (v := .double (sD u2 0)) (C := RX0) (T := TX0) (N := 12) hx hb hts uwX0 hown hK hP 0 rfl rfl 11 (by decide) (hts _ wd_183) (fun _ h9 => h9) rfl dX0_admit_87 ?_
            refine gc_v (w := wX ad ca K) (u := u2) (va_runV (As := [.ref p1, .double (sD u2 0)]) (rest := []) ⟨hx, hb, hml, hown, hts⟩ (cX2_add l dC dI ad ca K H.size u2 p1 (sD u2 0) _ hp1 h) (cwV 2 hts (gG_V wd_415 wd_416 wd_417 wd_49 wd_418) rfl rfl rfl (by decide +kernel) (rmN_le (k := 1) (by omega) (by decide))) ⟨gB_blind xE_ok, va_recv hK hP (ci := 2) (q0 := 4) rfl rfl, gB_pre xE_ok hP hK hD hE hS hA⟩ rfl rfl hl.1 rfl (lv_room (Nat.le_of_ble_eq_true rfl)) dX0_admit_90 ⟨Nat.le_of_ble_eq_true rfl, Nat.le_of_ble_eq_true rfl⟩) hD hS hA (fun u15 H locs h hP hD hS => ?_)
            refine lv_goto (tgt := 127) hx hb dX0_admit_93 (by decide) ?_
            exact gr_v (w := wX ad ca K) (u := u15) hx hb hr hlocks h hP hK hD hS dX0_admit_127
        · have h := h.2 y7 rfl
          refine lv_ifnull hx hb dX0_admit_56 ?_
          refine lv_aload_n hx hb dX0_admit_59 rfl (lv_at hl 0 rfl) ?_
          refine lv_aload_n hx hb dX0_admit_60 rfl (lv_at hl 2 rfl) ?_
          obtain ⟨hy16, h⟩ := h
          refine gc_v (w := wX ad ca K) (u := u2) (va_runV (As := [.ref p1]) (rest := []) ⟨hx, hb, hml, hown, hts⟩ (cX4_begin l dC dI ad ca K H.size u2 y7 p1 _ hy16 hp1 h) (cwV 1 hts (gG_V wd_414 wd_410 wd_411 wd_48 wd_412) rfl rfl rfl (by decide +kernel) (rmN_le (k := 1) (by omega) (by decide))) ⟨gB_blind xE_ok, (by obtain ⟨k9, hk9⟩ := xW_get hy16; exact va_recv hK hP (ci := 4) (q0 := k9) rfl hk9), gB_pre xE_ok hP hK hD hE hS hA⟩ rfl rfl hl.1 rfl (lv_room (Nat.le_of_ble_eq_true rfl)) dX0_admit_61 ⟨Nat.le_of_ble_eq_true rfl, Nat.le_of_ble_eq_true rfl⟩) hD hS hA (fun u18 H locs h hP hD hS => ?_)
          refine lv_goto (tgt := 127) hx hb dX0_admit_64 (by decide) ?_
          exact gr_v (w := wX ad ca K) (u := u18) hx hb hr hlocks h hP hK hD hS dX0_admit_127
      · have h := h.2 c6
        refine lv_aload_n hx hb dX0_admit_44 rfl (lv_at hl 1 rfl) ?_
        refine va_get (D := (dC, dI)) (ci := 0) (v := .ref (ad 2)) (C := RX0) (T := TX0) (N := 12) hx hb hts uwX0 hown hK hP 0 rfl rfl 5 (by decide) (hts _ wd_177) (fun _ h9 => h9) rfl dX0_admit_45 ?_
        refine lv_aload_n hx hb dX0_admit_48 rfl (lv_at hl 2 rfl) ?_
        refine gc_v (w := wX ad ca K) (u := u2) (va_runV (As := [.ref p1]) (rest := []) ⟨hx, hb, hml, hown, hts⟩ (cX1_hire l dC dI ad ca K H.size u2 p1 _ hp1 h) (cwV 1 hts (gG_V wd_405 wd_406 wd_407 wd_47 wd_408) rfl rfl rfl (by decide +kernel) (rmN_le (k := 2) (by omega) (by decide))) ⟨gB_blind xE_ok, va_recv hK hP (ci := 1) (q0 := 2) rfl rfl, gB_pre xE_ok hP hK hD hE hS hA⟩ rfl rfl hl.1 rfl (lv_room (Nat.le_of_ble_eq_true rfl)) dX0_admit_49 ⟨Nat.le_of_ble_eq_true rfl, Nat.le_of_ble_eq_true rfl⟩) hD hS hA (fun u20 H locs h hP hD hS => ?_)
        refine lv_goto (tgt := 127) hx hb dX0_admit_52 (by decide) ?_
        exact gr_v (w := wX ad ca K) (u := u20) hx hb hr hlocks h hP hK hD hS dX0_admit_127
    · have h := h.2 c5
      refine lv_aload_n hx hb dX0_admit_21 rfl (lv_at hl 2 rfl) ?_
      refine lv_bipush (v := 6) hx hb dX0_admit_22 (by decide) ?_
      obtain ⟨k9, hk9⟩ := xJ_get hp1
      have e9 := xJ_state (v := 6) hD hp1 hk9
      refine va_put (D := (dC, dI)) (ci := 5) (v := .int 6) (ty := tyX5 5) (C := RX5) (T := TX5) (N := 9) hx hb hts uwX5 tyX5 tyX5_ok nmX5 hown hK hP hD hS k9 hk9 rfl 5 (by decide) (hts _ wd_327) (fun _ h9 => h9) rfl (tyX5_ok 5 (by decide)) rfl rfl (Nat.le_of_ble_eq_true rfl) dX0_admit_24 (fun H locs hP hD hS => ?_)
      obtain ⟨u21, eu21⟩ : ∃ z : gS, z = tA u2 0 p1 6 := ⟨_, rfl⟩
      have hP : va_P (dC, dI) vwCl (wX ad ca K u21) H := by rw [eu21, ← e9]; exact hP
      have hD : va_D A (wX ad ca K u21) := by rw [eu21, ← e9]; exact hD
      have h := h u21 eu21
      refine lv_goto (tgt := 127) hx hb dX0_admit_27 (by decide) ?_
      exact gr_v (w := wX ad ca K) (u := u21) hx hb hr hlocks h hP hK hD hS dX0_admit_127

def wpX0_admit : Nat → KX → (gS → Prop) → gS → Nat → Int32 → Prop
  | 0 => fun _ _ _ _ _ => False
  | n + 1 => fun K post u p1 p2 => wpX0_admitF K (wpX0_admit n) post u p1 p2
theorem cX0_admit (l : Launch) (dC : Nat → ClassId) (dI : Nat → Nat → Nat) (ad : Nat → Nat) (ca : Nat → ClassId) (K : KX) : ∀ (n sz : Nat) (u : gS) (p1 : Nat) (p2 : Int32) (post : gS → Prop), p1 ∈ K.2.2.1 → wpX0_admit n K post u p1 p2 → Met l nAdm (gw nAdm prog_1_method_22_code 4 none) (rmN (4 * n + 4)) (va_Pc [.ref (ad 0), .ref p1, .int p2] (gB (dC, dI) vwCl (xT ca) xE (wX ad ca K u) sz)) (va_Qv post (gAt (dC, dI) vwCl (xT ca) (wX ad ca K) (va_A (wX ad ca K u) sz)) (va_A (wX ad ca K u) sz)) 0 0 (va_A (wX ad ca K u) sz) := by
  intro n
  induction n with
  | zero => exact fun _ _ _ _ _ _ h => h.elim
  | succ n ih =>
    intro sz u p1 p2 post hp1 h
    exact cX0_admitF l dC dI ad ca K n (wpX0_admit n) sz u p1 p2 post hp1 h ih
