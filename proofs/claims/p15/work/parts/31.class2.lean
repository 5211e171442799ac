theorem dX0_staysAfterTurn_0 : decode prog_1_method_28_code 0 = .ok (.aload_n 0, 1) := by decide +kernel
theorem dX0_staysAfterTurn_1 : decode prog_1_method_28_code 1 = .ok (.getfield 18, 3) := by decide +kernel
theorem dX0_staysAfterTurn_4 : decode prog_1_method_28_code 4 = .ok (.iload_n 1, 1) := by decide +kernel
theorem dX0_staysAfterTurn_5 : decode prog_1_method_28_code 5 = .ok (.invokevirtual 135, 3) := by decide +kernel
theorem dX0_staysAfterTurn_8 : decode prog_1_method_28_code 8 = .ok (.astore_n 2, 1) := by decide +kernel
theorem dX0_staysAfterTurn_9 : decode prog_1_method_28_code 9 = .ok (.aload_n 2, 1) := by decide +kernel
theorem dX0_staysAfterTurn_10 : decode prog_1_method_28_code 10 = .ok (.ifnull 10, 3) := by decide +kernel
theorem dX0_staysAfterTurn_13 : decode prog_1_method_28_code 13 = .ok (.aload_n 2, 1) := by decide +kernel
theorem dX0_staysAfterTurn_14 : decode prog_1_method_28_code 14 = .ok (.getfield 295, 3) := by decide +kernel
theorem dX0_staysAfterTurn_17 : decode prog_1_method_28_code 17 = .ok (.ifnonnull 5, 3) := by decide +kernel
theorem dX0_staysAfterTurn_20 : decode prog_1_method_28_code 20 = .ok (.iconst 1, 1) := by decide +kernel
theorem dX0_staysAfterTurn_21 : decode prog_1_method_28_code 21 = .ok (.ireturn, 1) := by decide +kernel
theorem dX0_staysAfterTurn_22 : decode prog_1_method_28_code 22 = .ok (.aload_n 2, 1) := by decide +kernel
theorem dX0_staysAfterTurn_23 : decode prog_1_method_28_code 23 = .ok (.dup, 1) := by decide +kernel
theorem dX0_staysAfterTurn_24 : decode prog_1_method_28_code 24 = .ok (.getfield 209, 3) := by decide +kernel
theorem dX0_staysAfterTurn_27 : decode prog_1_method_28_code 27 = .ok (.iconst 1, 1) := by decide +kernel
theorem dX0_staysAfterTurn_28 : decode prog_1_method_28_code 28 = .ok (.isub, 1) := by decide +kernel
theorem dX0_staysAfterTurn_29 : decode prog_1_method_28_code 29 = .ok (.putfield 209, 3) := by decide +kernel
theorem dX0_staysAfterTurn_32 : decode prog_1_method_28_code 32 = .ok (.aload_n 2, 1) := by decide +kernel
theorem dX0_staysAfterTurn_33 : decode prog_1_method_28_code 33 = .ok (.getfield 209, 3) := by decide +kernel
theorem dX0_staysAfterTurn_36 : decode prog_1_method_28_code 36 = .ok (.ifCond .le 5, 3) := by decide +kernel
theorem dX0_staysAfterTurn_39 : decode prog_1_method_28_code 39 = .ok (.iconst 1, 1) := by decide +kernel
theorem dX0_staysAfterTurn_40 : decode prog_1_method_28_code 40 = .ok (.ireturn, 1) := by decide +kernel
theorem dX0_staysAfterTurn_41 : decode prog_1_method_28_code 41 = .ok (.aload_n 2, 1) := by decide +kernel
theorem dX0_staysAfterTurn_42 : decode prog_1_method_28_code 42 = .ok (.getfield 295, 3) := by decide +kernel
theorem dX0_staysAfterTurn_45 : decode prog_1_method_28_code 45 = .ok (.astore_n 3, 1) := by decide +kernel
theorem dX0_staysAfterTurn_46 : decode prog_1_method_28_code 46 = .ok (.aload_n 0, 1) := by decide +kernel
theorem dX0_staysAfterTurn_47 : decode prog_1_method_28_code 47 = .ok (.aload_n 3, 1) := by decide +kernel
theorem dX0_staysAfterTurn_48 : decode prog_1_method_28_code 48 = .ok (.iconst 0, 1) := by decide +kernel
theorem dX0_staysAfterTurn_49 : decode prog_1_method_28_code 49 = .ok (.invokevirtual 264, 3) := by decide +kernel
theorem dX0_staysAfterTurn_52 : decode prog_1_method_28_code 52 = .ok (.aload_n 3, 1) := by decide +kernel
theorem dX0_staysAfterTurn_53 : decode prog_1_method_28_code 53 = .ok (.getfield 90, 3) := by decide +kernel
theorem dX0_staysAfterTurn_56 : decode prog_1_method_28_code 56 = .ok (.iconst 4, 1) := by decide +kernel
theorem dX0_staysAfterTurn_57 : decode prog_1_method_28_code 57 = .ok (.if_icmp .ne 18, 3) := by decide +kernel
theorem dX0_staysAfterTurn_60 : decode prog_1_method_28_code 60 = .ok (.aload_n 3, 1) := by decide +kernel
theorem dX0_staysAfterTurn_61 : decode prog_1_method_28_code 61 = .ok (.getfield 151, 3) := by decide +kernel
theorem dX0_staysAfterTurn_64 : decode prog_1_method_28_code 64 = .ok (.iconst 5, 1) := by decide +kernel
theorem dX0_staysAfterTurn_65 : decode prog_1_method_28_code 65 = .ok (.if_icmp .ne 10, 3) := by decide +kernel
theorem dX0_staysAfterTurn_68 : decode prog_1_method_28_code 68 = .ok (.aload_n 0, 1) := by decide +kernel
theorem dX0_staysAfterTurn_69 : decode prog_1_method_28_code 69 = .ok (.iload_n 1, 1) := by decide +kernel
theorem dX0_staysAfterTurn_70 : decode prog_1_method_28_code 70 = .ok (.invokevirtual 298, 3) := by decide +kernel
theorem dX0_staysAfterTurn_73 : decode prog_1_method_28_code 73 = .ok (.iconst 0, 1) := by decide +kernel
theorem dX0_staysAfterTurn_74 : decode prog_1_method_28_code 74 = .ok (.ireturn, 1) := by decide +kernel
theorem dX0_staysAfterTurn_75 : decode prog_1_method_28_code 75 = .ok (.aload_n 0, 1) := by decide +kernel
theorem dX0_staysAfterTurn_76 : decode prog_1_method_28_code 76 = .ok (.aload_n 2, 1) := by decide +kernel
theorem dX0_staysAfterTurn_77 : decode prog_1_method_28_code 77 = .ok (.invokevirtual 139, 3) := by decide +kernel
theorem dX0_staysAfterTurn_80 : decode prog_1_method_28_code 80 = .ok (.iconst 1, 1) := by decide +kernel
theorem dX0_staysAfterTurn_81 : decode prog_1_method_28_code 81 = .ok (.ireturn, 1) := by decide +kernel
def wpX0_staysAfterTurn (K : KX) (post : Int32 → gS → Prop) (u : gS) (p1 : Int32) : Prop :=
  wpX1_at K (fun (r1 : Option Nat) (u2 : gS) => ((r1 = none → (narrow .boolean (.int 1) = .int 1 ∧ post 1 u2)) ∧ (∀ y3 : Nat, r1 = some y3 → (y3 ∈ K.2.1 ∧ (∀ r5 : Option Nat, r5 = sQ u2 4 y3 → (((r5 = none → (narrow .boolean (.int 1) = .int 1 ∧ post 1 u2)) ∧ (∀ y6 : Nat, r5 = some y6 → (∀ u7 : gS, u7 = tA u2 3 y3 ((sA u2 3 y3) - 1) → ((((sA u7 3 y3) ≤ 0 → (∀ r9 : Option Nat, r9 = sQ u7 4 y3 → (∃ y10 : Nat, r9 = some y10 ∧ y10 ∈ K.2.2.1 ∧ (wpX0_performAndEnd K (wpX0_admit 26) (fun (u13 : gS) => ((¬ (sA u13 0 y10) = 4 → (wpX0_freeWorker K (fun (u16 : gS) => narrow .boolean (.int 1) = .int 1 ∧ post 1 u16) u13 (some y3))) ∧ ((sA u13 0 y10) = 4 → (((¬ (sA u13 2 y10) = 5 → (wpX0_freeWorker K (fun (u19 : gS) => narrow .boolean (.int 1) = .int 1 ∧ post 1 u19) u13 (some y3))) ∧ ((sA u13 2 y10) = 5 → (wpX0_replaceWorker K (fun (u21 : gS) => narrow .boolean (.int 0) = .int 0 ∧ post 0 u21) u13 p1))))))) u7 y10 0)))) ∧ (¬ (sA u7 3 y3) ≤ 0 → (narrow .boolean (.int 1) = .int 1 ∧ post 1 u7))))))))))))) u p1

set_option maxHeartbeats 8000000 in
set_option maxRecDepth 100000 in
theorem cX0_staysAfterTurn (l : Launch) (dC : Nat → ClassId) (dI : Nat → Nat → Nat) (ad : Nat → Nat) (ca : Nat → ClassId) (K : KX) (sz : Nat) (u : gS) (p1 : Int32) (post : Int32 → gS → Prop)  (h : wpX0_staysAfterTurn K post u p1) : Met l ⟨"WorkHall", "staysAfterTurn", "(I)Z"⟩ (gw ⟨"WorkHall", "staysAfterTurn", "(I)Z"⟩ prog_1_method_28_code 4 (some .boolean)) ({ frames := 111, cells := 0, slots := 0, locals := 4440 } : Room) (va_Pc [.ref (ad 0), .int p1] (gB (dC, dI) vwCl (xT ca) xE (wX ad ca K u) sz)) (va_Qi post (gAt (dC, dI) vwCl (xT ca) (wX ad ca K) (va_A (wX ad ca K u) sz)) (va_A (wX ad ca K u) sz)) 0 0 (va_A (wX ad ca K u) sz) := by
  refine Met.ofW (cc := prog_1_method_28_code) (maxL := 4) (ret := (some .boolean)) (by decide) rfl ?_
  intro p e s m args below meth c s₁ B hml hv
  obtain ⟨rfl, hsz, hP, hK, hD0, hE⟩ := hv
  have hx := B.exec
  have hb := B.bytes
  have hr := B.returns
  have hts : ∀ w ∈ gW, w.before _ s = true := fun w h9 => atoms_spec (ws := (gw ⟨"WorkHall", "staysAfterTurn", "(I)Z"⟩ prog_1_method_28_code 4 (some .boolean))) B.pre w (List.mem_cons_of_mem _ h9)
  have hown : s.vm.findClass RX0 = some m.cls := findClass_of_methodNamed B.named
  have hlocks := B.notSynchronized
  subst hsz
  have hD := hD0.self (sz := s.heap.size)
  generalize hAe : va_A (wX ad ca K u) s.heap.size = A at hD hE ⊢
  have hA : ∀ q : Nat, s.heap.size ≤ q → A q := fun q h => by rw [← hAe]; exact Or.inr h
  obtain ⟨H, hHe⟩ : ∃ z : Heap, z = s.heap := ⟨_, rfl⟩
  rw [← hHe]
  have hS : va_S A s.heap H [] := by rw [hHe]; exact va_S.rf
  have hP : va_P (dC, dI) vwCl (wX ad ca K u) H := by rw [hHe]; exact hP
  have hl := lv_entry ([.ref (ad 0), .int p1]) (n := 4) (Nat.le_of_ble_eq_true rfl)
  rw [lg_entry_eq]
  generalize (lg_sl ([.ref (ad 0), .int p1]) ++ List.replicate (4 - (lg_sl ([.ref (ad 0), .int p1])).length) Slot.unset).toArray = ls at hl ⊢
  have hl : lv_has ls 4 [(0, .ref (ad 0)), (1, .int p1)] := hl
  clear hAe
  refine lv_aload_n hx hb dX0_staysAfterTurn_0 rfl (lv_at hl 0 rfl) ?_
  refine va_get (D := (dC, dI)) (ci := 0) (v := .ref (ad 2)) (C := RX0) (T := TX0) (N := 12) hx hb hts uwX0 hown hK hP 0 rfl rfl 5 (by decide) (hts _ wd_177) (fun _ h9 => h9) rfl dX0_staysAfterTurn_1 ?_
  refine lv_iload_n hx hb dX0_staysAfterTurn_4 rfl (lv_at hl 1 rfl) ?_
  refine gc_q (w := wX ad ca K) (u := u) (va_runV (As := [.int p1]) (rest := []) ⟨hx, hb, hml, hown, hts⟩ (cX1_at l dC dI ad ca K H.size u p1 _ h) (cwV 1 hts (gG_V wd_503 wd_402 wd_403 wd_47 wd_404) rfl rfl rfl (by decide +kernel) ⟨Nat.le_of_ble_eq_true rfl, Nat.le_of_ble_eq_true rfl⟩) ⟨gB_blind xE_ok, va_recv hK hP (ci := 1) (q0 := 2) rfl rfl, gB_pre xE_ok hP hK hD hE hS hA⟩ rfl rfl hl.1 rfl (lv_room (Nat.le_of_ble_eq_true rfl)) dX0_staysAfterTurn_5 ⟨Nat.le_of_ble_eq_true rfl, Nat.le_of_ble_eq_true rfl⟩) hD hS hA (fun r1 u2 H locs h hP hD hS => ?_)
  refine gq_astore_n (r := r1) (lv' := [(2, va_rf r1), (0, .ref (ad 0)), (1, .int p1)]) hx hb dX0_staysAfterTurn_8 rfl hl (by decide) rfl (fun ls hl => ?_)
  refine gq_aload_n (r := r1) hx hb dX0_staysAfterTurn_9 rfl (lv_at hl 0 rfl) ?_
  rcases r1 with _ | y3
  · have h := h.1 rfl
    refine lv_ifnullN (tgt := 20) hx hb dX0_staysAfterTurn_10 (by decide) ?_
    refine lv_iconst (v := 1) hx hb dX0_staysAfterTurn_20 (by decide) ?_
    exact gr_z (w := wX ad ca K) (u := u2) hx hb hr hlocks h.1 h.2 hP hK hD hS dX0_staysAfterTurn_21
  · have h := h.2 y3 rfl
    refine lv_ifnull hx hb dX0_staysAfterTurn_10 ?_
    refine lv_aload_n hx hb dX0_staysAfterTurn_13 rfl (lv_at hl 0 rfl) ?_
    obtain ⟨hy4, h⟩ := h
    obtain ⟨k9, hk9⟩ := xW_get hy4
    refine va_get (D := (dC, dI)) (ci := 4) (v := va_rf (sQ u2 4 y3)) (C := RX4) (T := TX4) (N := 3) hx hb hts uwX4 hown hK hP k9 hk9 rfl 0 (by decide) (hts _ wd_88) (fun _ h9 => h9) rfl dX0_staysAfterTurn_14 ?_
    refine gq_top (fun r5 er5 => ?_)
    have h := h r5 er5
    rcases r5 with _ | y6
    · have h := h.1 rfl
      refine lv_ifnonnullN hx hb dX0_staysAfterTurn_17 ?_
      refine lv_iconst (v := 1) hx hb dX0_staysAfterTurn_20 (by decide) ?_
      exact gr_z (w := wX ad ca K) (u := u2) hx hb hr hlocks h.1 h.2 hP hK hD hS dX0_staysAfterTurn_21
    · have h := h.2 y6 rfl
      refine lv_ifnonnull (tgt := 22) hx hb dX0_staysAfterTurn_17 (by decide) ?_
      refine lv_aload_n hx hb dX0_staysAfterTurn_22 rfl (lv_at hl 0 rfl) ?_
      refine lv_dup hx hb dX0_staysAfterTurn_23 rfl ?_
      obtain ⟨k9, hk9⟩ := xW_get hy4
      refine va_get (D := (dC, dI)) (ci := 4) (v := .int (sA u2 3 y3)) (C := RX4) (T := TX4) (N := 3) hx hb hts uwX4 hown hK hP k9 hk9 rfl 1 (by decide) (hts _ wd_90) (fun _ h9 => h9) rfl dX0_staysAfterTurn_24 ?_
      refine lv_iconst (v := 1) hx hb dX0_staysAfterTurn_27 (by decide) ?_
      refine lv_isub hx hb dX0_staysAfterTurn_28 ?_
      obtain ⟨k9, hk9⟩ := xW_get hy4
      have e9 := xW_left (v := (sA u2 3 y3) - 1) hD hy4 hk9
      refine va_put (D := (dC, dI)) (ci := 4) (v := .int ((sA u2 3 y3) - 1)) (ty := tyX4 1) (C := RX4) (T := TX4) (N := 3) hx hb hts uwX4 tyX4 tyX4_ok nmX4 hown hK hP hD hS k9 hk9 rfl 1 (by decide) (hts _ wd_90) (fun _ h9 => h9) rfl (tyX4_ok 1 (by decide)) rfl rfl (Nat.le_of_ble_eq_true rfl) dX0_staysAfterTurn_29 (fun H locs hP hD hS => ?_)
      obtain ⟨u7, eu7⟩ : ∃ z : gS, z = tA u2 3 y3 ((sA u2 3 y3) - 1) := ⟨_, rfl⟩
      have hP : va_P (dC, dI) vwCl (wX ad ca K u7) H := by rw [eu7, ← e9]; exact hP
      have hD : va_D A (wX ad ca K u7) := by rw [eu7, ← e9]; exact hD
      have h := h u7 eu7
      refine lv_aload_n hx hb dX0_staysAfterTurn_32 rfl (lv_at hl 0 rfl) ?_
      obtain ⟨k9, hk9⟩ := xW_get hy4
      refine va_get (D := (dC, dI)) (ci := 4) (v := .int (sA u7 3 y3)) (C := RX4) (T := TX4) (N := 3) hx hb hts uwX4 hown hK hP k9 hk9 rfl 1 (by decide) (hts _ wd_90) (fun _ h9 => h9) rfl dX0_staysAfterTurn_33 ?_
      refine lv_if_le (tgt := 41) hx hb dX0_staysAfterTurn_36 (by decide) (fun c8 => ?_) (fun c8 => ?_)
      · have h := h.1 c8
        refine lv_aload_n hx hb dX0_staysAfterTurn_41 rfl (lv_at hl 0 rfl) ?_
        obtain ⟨k9, hk9⟩ := xW_get hy4
        refine va_get (D := (dC, dI)) (ci := 4) (v := va_rf (sQ u7 4 y3)) (C := RX4) (T := TX4) (N := 3) hx hb hts uwX4 hown hK hP k9 hk9 rfl 0 (by decide) (hts _ wd_88) (fun _ h9 => h9) rfl dX0_staysAfterTurn_42 ?_
        refine gq_top (fun r9 er9 => ?_)
        have h := h r9 er9
        refine gq_astore_n (r := r9) (lv' := [(3, va_rf r9), (2, .ref y3), (0, .ref (ad 0)), (1, .int p1)]) hx hb dX0_staysAfterTurn_45 rfl hl (by decide) rfl (fun ls hl => ?_)
        refine lv_aload_n hx hb dX0_staysAfterTurn_46 rfl (lv_at hl 2 rfl) ?_
        refine gq_aload_n (r := r9) hx hb dX0_staysAfterTurn_47 rfl (lv_at hl 0 rfl) ?_
        refine lv_iconst (v := 0) hx hb dX0_staysAfterTurn_48 (by decide) ?_
        obtain ⟨y10, rfl, hy11, h⟩ := h
        refine gc_v (w := wX ad ca K) (u := u7) (va_runV (As := [.ref y10, .int 0]) (rest := []) ⟨hx, hb, hml, hown, hts⟩ (cX0_performAndEnd l dC dI ad ca K 26 (wpX0_admit 26) H.size u7 y10 0 _ hy11 h (cX0_admit l dC dI ad ca K 26)) (cwV 2 hts (gG_V wd_427 wd_429 wd_5 wd_46 wd_430) rfl rfl rfl (by decide +kernel) ⟨Nat.le_of_ble_eq_true rfl, Nat.le_of_ble_eq_true rfl⟩) ⟨gB_blind xE_ok, va_recv hK hP (ci := 0) (q0 := 0) rfl rfl, gB_pre xE_ok hP hK hD hE hS hA⟩ rfl rfl hl.1 rfl (lv_room (Nat.le_of_ble_eq_true rfl)) dX0_staysAfterTurn_49 ⟨Nat.le_of_ble_eq_true rfl, Nat.le_of_ble_eq_true rfl⟩) hD hS hA (fun u13 H locs h hP hD hS => ?_)
        refine lv_aload_n hx hb dX0_staysAfterTurn_52 rfl (lv_at hl 0 rfl) ?_
        obtain ⟨k9, hk9⟩ := xJ_get hy11
        refine va_get (D := (dC, dI)) (ci := 5) (v := .int (sA u13 0 y10)) (C := RX5) (T := TX5) (N := 9) hx hb hts uwX5 hown hK hP k9 hk9 rfl 5 (by decide) (hts _ wd_327) (fun _ h9 => h9) rfl dX0_staysAfterTurn_53 ?_
        refine lv_iconst (v := 4) hx hb dX0_staysAfterTurn_56 (by decide) ?_
        refine lv_icmp_ne (tgt := 75) hx hb dX0_staysAfterTurn_57 (by decide) (fun c14 => ?_) (fun c14 => ?_)
        · have h := h.1 c14
          refine lv_aload_n hx hb dX0_staysAfterTurn_75 rfl (lv_at hl 2 rfl) ?_
          refine lv_aload_n hx hb dX0_staysAfterTurn_76 rfl (lv_at hl 1 rfl) ?_
          refine gc_v (w := wX ad ca K) (u := u13) (va_runV (As := [va_rf (some y3)]) (rest := []) ⟨hx, hb, hml, hown, hts⟩ (cX0_freeWorker l dC dI ad ca K H.size u13 (some y3) _ h) (cwV 1 hts (gG_V wd_517 wd_519 wd_11 wd_46 wd_520) rfl rfl rfl (by decide +kernel) ⟨Nat.le_of_ble_eq_true rfl, Nat.le_of_ble_eq_true rfl⟩) ⟨gB_blind xE_ok, va_recv hK hP (ci := 0) (q0 := 0) rfl rfl, gB_pre xE_ok hP hK hD hE hS hA⟩ rfl rfl hl.1 rfl (lv_room (Nat.le_of_ble_eq_true rfl)) dX0_staysAfterTurn_77 ⟨Nat.le_of_ble_eq_true rfl, Nat.le_of_ble_eq_true rfl⟩) hD hS hA (fun u16 H locs h hP hD hS => ?_)
          refine lv_iconst (v := 1) hx hb dX0_staysAfterTurn_80 (by decide) ?_
          exact gr_z (w := wX ad ca K) (u := u16) hx hb hr hlocks h.1 h.2 hP hK hD hS dX0_staysAfterTurn_81
        · have h := h.2 c14
          refine lv_aload_n hx hb dX0_staysAfterTurn_60 rfl (lv_at hl 0 rfl) ?_
          obtain ⟨k9, hk9⟩ := xJ_get hy11
          refine va_get (D := (dC, dI)) (ci := 5) (v := .int (sA u13 2 y10)) (C := RX5) (T := TX5) (N := 9) hx hb hts uwX5 hown hK hP k9 hk9 rfl 7 (by decide) (hts _ wd_333) (fun _ h9 => h9) rfl dX0_staysAfterTurn_61 ?_
          refine lv_iconst (v := 5) hx hb dX0_staysAfterTurn_64 (by decide) ?_
          refine lv_icmp_ne (tgt := 75) hx hb dX0_staysAfterTurn_65 (by decide) (fun c17 => ?_) (fun c17 => ?_)
          · have h := h.1 c17
            refine lv_aload_n hx hb dX0_staysAfterTurn_75 rfl (lv_at hl 2 rfl) ?_
            refine lv_aload_n hx hb dX0_staysAfterTurn_76 rfl (lv_at hl 1 rfl) ?_
            refine gc_v (w := wX ad ca K) (u := u13) (va_runV (As := [va_rf (some y3)]) (rest := []) ⟨hx, hb, hml, hown, hts⟩ (cX0_freeWorker l dC dI ad ca K H.size u13 (some y3) _ h) (cwV 1 hts (gG_V wd_517 wd_519 wd_11 wd_46 wd_520) rfl rfl rfl (by decide +kernel) ⟨Nat.le_of_ble_eq_true rfl, Nat.le_of_ble_eq_true rfl⟩) ⟨gB_blind xE_ok, va_recv hK hP (ci := 0) (q0 := 0) rfl rfl, gB_pre xE_ok hP hK hD hE hS hA⟩ rfl rfl hl.1 rfl (lv_room (Nat.le_of_ble_eq_true rfl)) dX0_staysAfterTurn_77 ⟨Nat.le_of_ble_eq_true rfl, Nat.le_of_ble_eq_true rfl⟩) hD hS hA (fun u19 H locs h hP hD hS => ?_)
            refine lv_iconst (v := 1) hx hb dX0_staysAfterTurn_80 (by decide) ?_
            exact gr_z (w := wX ad ca K) (u := u19) hx hb hr hlocks h.1 h.2 hP hK hD hS dX0_staysAfterTurn_81
          · have h := h.2 c17
            refine lv_aload_n hx hb dX0_staysAfterTurn_68 rfl (lv_at hl 2 rfl) ?_
            refine lv_iload_n hx hb dX0_staysAfterTurn_69 rfl (lv_at hl 3 rfl) ?_
            refine gc_v (w := wX ad ca K) (u := u13) (va_runV (As := [.int p1]) (rest := []) ⟨hx, hb, hml, hown, hts⟩ (cX0_replaceWorker l dC dI ad ca K H.size u13 p1 _ h) (cwV 1 hts (gG_V wd_504 wd_506 wd_10 wd_46 wd_507) rfl rfl rfl (by decide +kernel) ⟨Nat.le_of_ble_eq_true rfl, Nat.le_of_ble_eq_true rfl⟩) ⟨gB_blind xE_ok, va_recv hK hP (ci := 0) (q0 := 0) rfl rfl, gB_pre xE_ok hP hK hD hE hS hA⟩ rfl rfl hl.1 rfl (lv_room (Nat.le_of_ble_eq_true rfl)) dX0_staysAfterTurn_70 ⟨Nat.le_of_ble_eq_true rfl, Nat.le_of_ble_eq_true rfl⟩) hD hS hA (fun u21 H locs h hP hD hS => ?_)
            refine lv_iconst (v := 0) hx hb dX0_staysAfterTurn_73 (by decide) ?_
            exact gr_z (w := wX ad ca K) (u := u21) hx hb hr hlocks h.1 h.2 hP hK hD hS dX0_staysAfterTurn_74
      · have h := h.2 c8
        refine lv_iconst (v := 1) hx hb dX0_staysAfterTurn_39 (by decide) ?_
        exact gr_z (w := wX ad ca K) (u := u7) hx hb hr hlocks h.1 h.2 hP hK hD hS dX0_staysAfterTurn_40

theorem dX0_runStep_0 : decode prog_1_method_27_code 0 = .ok (.aload_n 0, 1) := by decide +kernel
theorem dX0_runStep_1 : decode prog_1_method_27_code 1 = .ok (.getfield 18, 3) := by decide +kernel
theorem dX0_runStep_4 : decode prog_1_method_27_code 4 = .ok (.getfield 214, 3) := by decide +kernel
theorem dX0_runStep_7 : decode prog_1_method_27_code 7 = .ok (.istore_n 1, 1) := by decide +kernel
theorem dX0_runStep_8 : decode prog_1_method_27_code 8 = .ok (.iconst 0, 1) := by decide +kernel
theorem dX0_runStep_9 : decode prog_1_method_27_code 9 = .ok (.istore_n 2, 1) := by decide +kernel
theorem dX0_runStep_10 : decode prog_1_method_27_code 10 = .ok (.iconst 0, 1) := by decide +kernel
theorem dX0_runStep_11 : decode prog_1_method_27_code 11 = .ok (.istore_n 3, 1) := by decide +kernel
theorem dX0_runStep_12 : decode prog_1_method_27_code 12 = .ok (.iload_n 3, 1) := by decide +kernel
theorem dX0_runStep_13 : decode prog_1_method_27_code 13 = .ok (.iload_n 1, 1) := by decide +kernel
theorem dX0_runStep_14 : decode prog_1_method_27_code 14 = .ok (.if_icmp .ge 20, 3) := by decide +kernel
theorem dX0_runStep_17 : decode prog_1_method_27_code 17 = .ok (.aload_n 0, 1) := by decide +kernel
theorem dX0_runStep_18 : decode prog_1_method_27_code 18 = .ok (.iload_n 2, 1) := by decide +kernel
theorem dX0_runStep_19 : decode prog_1_method_27_code 19 = .ok (.invokevirtual 291, 3) := by decide +kernel
theorem dX0_runStep_22 : decode prog_1_method_27_code 22 = .ok (.ifCond .eq 6, 3) := by decide +kernel
theorem dX0_runStep_25 : decode prog_1_method_27_code 25 = .ok (.iinc 2 1, 3) := by decide +kernel
theorem dX0_runStep_28 : decode prog_1_method_27_code 28 = .ok (.iinc 3 1, 3) := by decide +kernel
theorem dX0_runStep_31 : decode prog_1_method_27_code 31 = .ok (.goto (-19), 3) := by decide +kernel
theorem dX0_runStep_34 : decode prog_1_method_27_code 34 = .ok (.return_, 1) := by decide +kernel
def wpX0_runStep_12 (K : KX) (post : gS → Prop) : Nat → Int32 → Int32 → Int32 → gS → Prop
  | 0 => fun _ _ _ _ => False
  | n + 1 => fun l1 l2 l3 u => ((l1 ≤ l3 → (post u)) ∧ (¬ l1 ≤ l3 → (wpX0_staysAfterTurn K (fun (r3 : Int32) (u4 : gS) => ((r3 = 0 → (∀ x6 : Int32, x6 = l3 + 1 → (wpX0_runStep_12 K post n l1 l2 x6 u4))) ∧ (¬ r3 = 0 → (∀ x7 : Int32, x7 = l2 + 1 → (∀ x8 : Int32, x8 = l3 + 1 → (wpX0_runStep_12 K post n l1 x7 x8 u4)))))) u l2)))

def wpX0_runStep (K : KX) (post : gS → Prop) (u : gS)  : Prop :=
  ∀ x1 : Int32, x1 = sI u 2 → (∃ n12 : Nat, wpX0_runStep_12 K post n12 x1 0 0 u)

set_option maxHeartbeats 8000000 in
set_option maxRecDepth 100000 in
theorem wpX0_runStep_12_ok {p : Program} {l : Launch} {e : Env} {s : State} {m : MethodId} {args : Array Value} {below : List Frame} {meth : Method} {c : Code} {dC : Nat → ClassId} {dI : Nat → Nat → Nat} {ad : Nat → Nat} {ca : Nat → ClassId} {K : KX} {A : Nat → Prop} {post : gS → Prop}   (hx : p.tables.exec = Jvm.exec) (hb : c.code = prog_1_method_27_code) (hr : meth.sig.returnType = none) (hml : c.maxLocals = 4) (hown : s.vm.findClass RX0 = some m.cls) (hts : ∀ w ∈ gW, w.before args s = true) (hlocks : meth.locks = false) (hK : va_K (dC, dI) vwCl (xT ca) s) (hA : ∀ q, s.heap.size ≤ q → A q) (hE : xE A s s.heap) :
    ∀ (n : Nat) (l1 : Int32) (l2 : Int32) (l3 : Int32) (u : gS) (H : Heap) (locs : List Loc) (ls : Array Slot), wpX0_runStep_12 K post n l1 l2 l3 u → va_P (dC, dI) vwCl (wX ad ca K u) H → va_D A (wX ad ca K u) → va_S A s.heap H locs → lv_has ls 4 [(0, .ref (ad 0)), (1, .int l1), (2, .int l2), (3, .int l3)] → W p l e (headSpec (gw ⟨"WorkHall", "runStep", "()V"⟩ prog_1_method_27_code 4 none) ({ frames := 112, cells := 0, slots := 0, locals := 4480 } : Room)).room s m args below meth c H locs 0 0 (MQ below (va_Qv post (gAt (dC, dI) vwCl (xT ca) (wX ad ca K) (A)) (A)) args s 0 0 A) (F0 m 12 ls []) := by
  intro n
  induction n with
  | zero => exact fun _ _ _ _ _ _ _ h => h.elim
  | succ n ih =>
    intro l1 l2 l3 u H locs ls h hP hD hS hl
    refine lv_iload_n hx hb dX0_runStep_12 rfl (lv_at hl 3 rfl) ?_
    refine lv_iload_n hx hb dX0_runStep_13 rfl (lv_at hl 1 rfl) ?_
    refine lv_icmp_ge (tgt := 34) hx hb dX0_runStep_14 (by decide) (fun c2 => ?_) (fun c2 => ?_)
    · have h := h.1 c2
      exact gr_v (w := wX ad ca K) (u := u) hx hb hr hlocks h hP hK hD hS dX0_runStep_34
    · have h := h.2 c2
      refine lv_aload_n hx hb dX0_runStep_17 rfl (lv_at hl 0 rfl) ?_
      refine lv_iload_n hx hb dX0_runStep_18 rfl (lv_at hl 2 rfl) ?_
      refine gc_i (w := wX ad ca K) (u := u) (va_runV (As := [.int l2]) (rest := []) ⟨hx, hb, hml, hown, hts⟩ (cX0_staysAfterTurn l dC dI ad ca K H.size u l2 _ h) (cwV 1 hts (gG_V wd_499 wd_501 wd_9 wd_46 wd_502) rfl rfl rfl (by decide +kernel) ⟨Nat.le_of_ble_eq_true rfl, Nat.le_of_ble_eq_true rfl⟩) ⟨gB_blind xE_ok, va_recv hK hP (ci := 0) (q0 := 0) rfl rfl, gB_pre xE_ok hP hK hD hE hS hA⟩ rfl rfl hl.1 rfl (lv_room (Nat.le_of_ble_eq_true rfl)) dX0_runStep_19 ⟨Nat.le_of_ble_eq_true rfl, Nat.le_of_ble_eq_true rfl⟩) hD hS hA (fun r3 u4 H locs h hP hD hS => ?_)
      refine lv_if_eq (tgt := 28) hx hb dX0_runStep_22 (by decide) (fun c5 => ?_) (fun c5 => ?_)
      · have h := h.1 c5
        obtain ⟨x6, ex6⟩ : ∃ y : Int32, y = l3 + 1 := ⟨_, rfl⟩
        have h := h x6 ex6
        refine lv_iinc (v := x6) (lv' := [(3, .int x6), (0, .ref (ad 0)), (1, .int l1), (2, .int l2)]) hx hb dX0_runStep_28 hl (k := 3) rfl (by rw [ex6]; rfl) (by decide) rfl (fun ls hl => ?_)
        refine lv_goto (tgt := 12) hx hb dX0_runStep_31 (by decide) ?_
        exact ih l1 l2 x6 u4 _ _ _ h hP hD hS (lv_sub hl [1, 2, 3, 0] rfl)
      · have h := h.2 c5
        obtain ⟨x7, ex7⟩ : ∃ y : Int32, y = l2 + 1 := ⟨_, rfl⟩
        have h := h x7 ex7
        refine lv_iinc (v := x7) (lv' := [(2, .int x7), (0, .ref (ad 0)), (1, .int l1), (3, .int l3)]) hx hb dX0_runStep_25 hl (k := 2) rfl (by rw [ex7]; rfl) (by decide) rfl (fun ls hl => ?_)
        obtain ⟨x8, ex8⟩ : ∃ y : Int32, y = l3 + 1 := ⟨_, rfl⟩
        have h := h x8 ex8
        refine lv_iinc (v := x8) (lv' := [(3, .int x8), (2, .int x7), (0, .ref (ad 0)), (1, .int l1)]) hx hb dX0_runStep_28 hl (k := 3) rfl (by rw [ex8]; rfl) (by decide) rfl (fun ls hl => ?_)
        refine lv_goto (tgt := 12) hx hb dX0_runStep_31 (by decide) ?_
        exact ih l1 x7 x8 u4 _ _ _ h hP hD hS (lv_sub hl [2, 3, 1, 0] rfl)

set_option maxHeartbeats 8000000 in
set_option maxRecDepth 100000 in
theorem cX0_runStep (l : Launch) (dC : Nat → ClassId) (dI : Nat → Nat → Nat) (ad : Nat → Nat) (ca : Nat → ClassId) (K : KX) (sz : Nat) (u : gS)  (post : gS → Prop)  (h : wpX0_runStep K post u ) : Met l ⟨"WorkHall", "runStep", "()V"⟩ (gw ⟨"WorkHall", "runStep", "()V"⟩ prog_1_method_27_code 4 none) ({ frames := 112, cells := 0, slots := 0, locals := 4480 } : Room) (va_Pc [.ref (ad 0)] (gB (dC, dI) vwCl (xT ca) xE (wX ad ca K u) sz)) (va_Qv post (gAt (dC, dI) vwCl (xT ca) (wX ad ca K) (va_A (wX ad ca K u) sz)) (va_A (wX ad ca K u) sz)) 0 0 (va_A (wX ad ca K u) sz) := by
  refine Met.ofW (cc := prog_1_method_27_code) (maxL := 4) (ret := none) (by decide) rfl ?_
  intro p e s m args below meth c s₁ B hml hv
  obtain ⟨rfl, hsz, hP, hK, hD0, hE⟩ := hv
  have hx := B.exec
  have hb := B.bytes
  have hr := B.returns
  have hts : ∀ w ∈ gW, w.before _ s = true := fun w h9 => atoms_spec (ws := (gw ⟨"WorkHall", "runStep", "()V"⟩ prog_1_method_27_code 4 none)) B.pre w (List.mem_cons_of_mem _ h9)
  have hown : s.vm.findClass RX0 = some m.cls := findClass_of_methodNamed B.named
  have hlocks := B.notSynchronized
  subst hsz
  have hD := hD0.self (sz := s.heap.size)
  generalize hAe : va_A (wX ad ca K u) s.heap.size = A at hD hE ⊢
  have hA : ∀ q : Nat, s.heap.size ≤ q → A q := fun q h => by rw [← hAe]; exact Or.inr h
  obtain ⟨H, hHe⟩ : ∃ z : Heap, z = s.heap := ⟨_, rfl⟩
  rw [← hHe]
  have hS : va_S A s.heap H [] := by rw [hHe]; exact va_S.rf
  have hP : va_P (dC, dI) vwCl (wX ad ca K u) H := by rw [hHe]; exact hP
  have hl := lv_entry ([.ref (ad 0)]) (n := 4) (Nat.le_of_ble_eq_true rfl)
  rw [lg_entry_eq]
  generalize (lg_sl ([.ref (ad 0)]) ++ List.replicate (4 - (lg_sl ([.ref (ad 0)])).length) Slot.unset).toArray = ls at hl ⊢
  have hl : lv_has ls 4 [(0, .ref (ad 0))] := hl
  clear hAe
  refine lv_aload_n hx hb dX0_runStep_0 rfl (lv_at hl 0 rfl) ?_
  refine va_get (D := (dC, dI)) (ci := 0) (v := .ref (ad 2)) (C := RX0) (T := TX0) (N := 12) hx hb hts uwX0 hown hK hP 0 rfl rfl 5 (by decide) (hts _ wd_177) (fun _ h9 => h9) rfl dX0_runStep_1 ?_
  refine va_get (D := (dC, dI)) (ci := 1) (v := .int (sI u 2)) (C := RX1) (T := TX1) (N := 3) hx hb hts uwX1 hown hK hP 2 rfl rfl 1 (by decide) (hts _ wd_102) (fun _ h9 => h9) rfl dX0_runStep_4 ?_
  refine lv_topi (fun x1 ex1 => ?_)
  have h := h x1 ex1
  refine lv_istore_n (lv' := [(1, .int x1), (0, .ref (ad 0))]) hx hb dX0_runStep_7 rfl hl (by decide) rfl (fun ls hl => ?_)
  refine lv_iconst (v := 0) hx hb dX0_runStep_8 (by decide) ?_
  refine lv_istore_n (lv' := [(2, .int 0), (1, .int x1), (0, .ref (ad 0))]) hx hb dX0_runStep_9 rfl hl (by decide) rfl (fun ls hl => ?_)
  refine lv_iconst (v := 0) hx hb dX0_runStep_10 (by decide) ?_
  refine lv_istore_n (lv' := [(3, .int 0), (2, .int 0), (1, .int x1), (0, .ref (ad 0))]) hx hb dX0_runStep_11 rfl hl (by decide) rfl (fun ls hl => ?_)
  obtain ⟨n12, h⟩ := h
  exact wpX0_runStep_12_ok hx hb hr hml hown hts hlocks hK hA hE n12 x1 0 0 u _ _ _ h hP hD hS (lv_sub hl [3, 2, 1, 0] rfl)

