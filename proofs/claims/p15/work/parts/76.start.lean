set_option maxHeartbeats 8000000 in
set_option maxRecDepth 100000 in
theorem whole_start {p : Program} {e : Env} {s : State} {m : MethodId} {below : List Frame} {meth : Method} {c : Code} (l : Launch) (hl9 : l.stackTraces = false) {b L : Nat} {xs : Nat → Int32} (hL : L ≤ 2564) (C0 : lw_At p s m meth c b L xs) (Inv : KM → Nat → KX → gS → gS → Prop) (hO : ∀ p1 p2 p3 p4 : Int32, lObl (mK0 p1 p2 p3 p4) (Inv (mK0 p1 p2 p3 p4))) (hI0 : ∀ (p1 p2 p3 p4 : Int32) (w : Nat → Nat), (∀ a b : Nat, a < 5 → b < 5 → w a = w b → a = b) → Inv (mK0 p1 p2 p3 p4) 0 (xK0 p1 p2 p3 p4, [w 0, w 1, w 2, w 3, w 4], [], (fun _ _ => 0), (fun _ => none)) (xU0 w) mU0) : W p l e room_1 s m #[Value.ref b] below meth c s.heap [] 0 0 (lw_Z below #[Value.ref b] s) (entryFrame m ([Value.ref b] : List Value).toArray 9) := by
  obtain ⟨hx, hb, hr, hml, hown0, hts0, hX0, hbl, hlocks, hgv⟩ := id C0
  have hown : s.vm.findClass RL = some m.cls := hown0
  have hts : ∀ w ∈ gW, w.before _ s = true := fun w h9 => hts0 w (List.mem_filter.mp h9).1
  obtain ⟨A, eA⟩ : ∃ z : Nat → Prop, z = (fun q : Nat => s.heap.size ≤ q) := ⟨_, rfl⟩
  have hA : ∀ q : Nat, s.heap.size ≤ q → A q := fun q h => by rw [eA]; exact h
  have hAn : ∀ a : Nat, a < s.heap.size → ¬ A a := fun a h => by rw [eA]; exact Nat.not_le.mpr h
  have hX : sE b L xs A s s.heap := sE_of hX0 (hAn b hbl)
  have hkE : kE A s s.heap := ⟨st_nE hts0, st_xE hts0 hgv hAn⟩
  have hE : lE A s s.heap := ⟨hkE.2, st_nc hgv⟩
  obtain ⟨c0, i0, hKn0⟩ := u_known (C := RX0) (T := TX0) (N := 12) (n := 12) hts uwX0 (hts _ wd_64)
  obtain ⟨c1, i1, hKn1⟩ := u_known (C := RX1) (T := TX1) (N := 3) (n := 3) hts uwX1 (hts _ wd_74)
  obtain ⟨c2, i2, hKn2⟩ := u_known (C := RX2) (T := TX2) (N := 5) (n := 5) hts uwX2 (hts _ wd_113)
  obtain ⟨c3, i3, hKn3⟩ := u_known (C := RX3) (T := TX3) (N := 4) (n := 4) hts uwX3 (hts _ wd_140)
  obtain ⟨c4, i4, hKn4⟩ := u_known (C := RX4) (T := TX4) (N := 3) (n := 3) hts uwX4 (hts _ wd_81)
  obtain ⟨c5, i5, hKn5⟩ := u_known (C := RX5) (T := TX5) (N := 9) (n := 9) hts uwX5 (hts _ wd_311)
  obtain ⟨c6, i6, hKn6⟩ := u_known (C := RX6) (T := TX6) (N := 36) (n := 36) hts uwX6 (hts _ wd_694)
  obtain ⟨dC, dI, hKc⟩ : ∃ (dC : Nat → ClassId) (dI : Nat → Nat → Nat), ∀ (k : Nat) (q : vw_C), vwCl[k]? = some q → u_Kn s q.1 q.2.1 q.2.2 (dC k) (dI k) := by
    refine ⟨fun k => ([c0, c1, c2, c3, c4, c5, c6] : List ClassId).getD k c0, fun k => ([i0, i1, i2, i3, i4, i5, i6] : List (Nat → Nat)).getD k i0, ?_⟩
    intro k q hq
    match k, hq with
    | 0, hq => cases hq; exact hKn0
    | 1, hq => cases hq; exact hKn1
    | 2, hq => cases hq; exact hKn2
    | 3, hq => cases hq; exact hKn3
    | 4, hq => cases hq; exact hKn4
    | 5, hq => cases hq; exact hKn5
    | 6, hq => cases hq; exact hKn6
    | k + 7, hq => simp [vwCl] at hq
  have hK : va_K (dC, dI) vwCl [] s := ⟨hKc, fun k q h => by simp at h⟩
  obtain ⟨H, hHe⟩ : ∃ z : Heap, z = s.heap := ⟨_, rfl⟩
  rw [← hHe]
  have hS : va_S A s.heap H [] := by rw [hHe]; exact va_S.rf
  have hP : va_P (dC, dI) vwCl [] H := fun k q h => by simp at h
  have hD : va_D A [] := ⟨fun i j p q h => by simp at h, fun k q h => by simp at h⟩
  have hl := lv_entry ([.ref b]) (n := 9) (Nat.le_of_ble_eq_true rfl)
  rw [lg_entry_eq]
  generalize (lg_sl ([.ref b]) ++ List.replicate (9 - (lg_sl ([.ref b])).length) Slot.unset).toArray = ls at hl ⊢
  have hl : lv_has ls 9 [(0, .ref b)] := hl
  refine va_new (ci := 0) (fs := [.int 0, .int 0, .int 0, .int 0, .null, .null, .null, .null, .int 0, .int 0, .int 0, .double 0]) (C := RX0) (T := TX0) (N := 12) hx hb hts uwX0 tyX0 tyX0_ok hown (hts _ wd_63) (hts _ wd_64) (hts _ wd_46) hK hP hD hS hA rfl (fun j hj => by rcases (show j = 0 ∨ j = 1 ∨ j = 2 ∨ j = 3 ∨ j = 4 ∨ j = 5 ∨ j = 6 ∨ j = 7 ∨ j = 8 ∨ j = 9 ∨ j = 10 ∨ j = 11 by omega) with rfl | rfl | rfl | rfl | rfl | rfl | rfl | rfl | rfl | rfl | rfl | rfl <;> rfl) (Nat.le_of_ble_eq_true rfl) (Nat.le_of_ble_eq_true rfl) dL_law_0 (fun q0 H hP hD hS => ?_)
  refine lv_dup hx hb dL_law_3 rfl ?_
  refine lv_aload_n hx hb dL_law_4 rfl (lv_at hl 0 rfl) ?_
  refine lv_iconst (v := 0) hx hb dL_law_5 (by decide) ?_
  refine gyc_i (va_runS (As := [.ref b, .int 0]) (rest := [.ref q0, .ref q0]) ⟨hx, hb, hml, hown, hts⟩ (cL_cell l dC dI b L xs H.size 0 (by decide) (by omega)) (va_cwS 2 hts (gG_S wd_209 wd_210 wd_45 wd_211) rfl rfl rfl (by decide +kernel) ⟨(Nat.le_of_ble_eq_true rfl), (Nat.le_of_ble_eq_true rfl)⟩) ⟨gB_blind (sE_ok b L xs), gB_pre (sE_ok b L xs) (w := []) (fun k9 q9 h9 => by simp at h9) (hK.sub (tys' := []) [] rfl) (⟨fun i j p q h9 => by simp at h9, fun k9 q9 h9 => by simp at h9⟩ : va_D A []) hX hS hA⟩ rfl rfl hl.1 rfl (lv_room (Nat.le_of_ble_eq_true rfl)) dL_law_6 ⟨(Nat.le_of_ble_eq_true rfl), (Nat.le_of_ble_eq_true rfl)⟩) hP hS hA (fun r1 H locs er1 hP hS => ?_)
  refine lv_aload_n hx hb dL_law_9 rfl (lv_at hl 0 rfl) ?_
  refine lv_iconst (v := 1) hx hb dL_law_10 (by decide) ?_
  refine gyc_i (va_runS (As := [.ref b, .int 1]) (rest := [.int r1, .ref q0, .ref q0]) ⟨hx, hb, hml, hown, hts⟩ (cL_cell l dC dI b L xs H.size 1 (by decide) (by omega)) (va_cwS 2 hts (gG_S wd_209 wd_210 wd_45 wd_211) rfl rfl rfl (by decide +kernel) ⟨(Nat.le_of_ble_eq_true rfl), (Nat.le_of_ble_eq_true rfl)⟩) ⟨gB_blind (sE_ok b L xs), gB_pre (sE_ok b L xs) (w := []) (fun k9 q9 h9 => by simp at h9) (hK.sub (tys' := []) [] rfl) (⟨fun i j p q h9 => by simp at h9, fun k9 q9 h9 => by simp at h9⟩ : va_D A []) hX hS hA⟩ rfl rfl hl.1 rfl (lv_room (Nat.le_of_ble_eq_true rfl)) dL_law_11 ⟨(Nat.le_of_ble_eq_true rfl), (Nat.le_of_ble_eq_true rfl)⟩) hP hS hA (fun r2 H locs er2 hP hS => ?_)
  refine lv_aload_n hx hb dL_law_14 rfl (lv_at hl 0 rfl) ?_
  refine lv_iconst (v := 2) hx hb dL_law_15 (by decide) ?_
  refine gyc_i (va_runS (As := [.ref b, .int 2]) (rest := [.int r2, .int r1, .ref q0, .ref q0]) ⟨hx, hb, hml, hown, hts⟩ (cL_cell l dC dI b L xs H.size 2 (by decide) (by omega)) (va_cwS 2 hts (gG_S wd_209 wd_210 wd_45 wd_211) rfl rfl rfl (by decide +kernel) ⟨(Nat.le_of_ble_eq_true rfl), (Nat.le_of_ble_eq_true rfl)⟩) ⟨gB_blind (sE_ok b L xs), gB_pre (sE_ok b L xs) (w := []) (fun k9 q9 h9 => by simp at h9) (hK.sub (tys' := []) [] rfl) (⟨fun i j p q h9 => by simp at h9, fun k9 q9 h9 => by simp at h9⟩ : va_D A []) hX hS hA⟩ rfl rfl hl.1 rfl (lv_room (Nat.le_of_ble_eq_true rfl)) dL_law_16 ⟨(Nat.le_of_ble_eq_true rfl), (Nat.le_of_ble_eq_true rfl)⟩) hP hS hA (fun r3 H locs er3 hP hS => ?_)
  refine lv_aload_n hx hb dL_law_19 rfl (lv_at hl 0 rfl) ?_
  refine lv_iconst (v := 3) hx hb dL_law_20 (by decide) ?_
  refine gyc_i (va_runS (As := [.ref b, .int 3]) (rest := [.int r3, .int r2, .int r1, .ref q0, .ref q0]) ⟨hx, hb, hml, hown, hts⟩ (cL_cell l dC dI b L xs H.size 3 (by decide) (by omega)) (va_cwS 2 hts (gG_S wd_209 wd_210 wd_45 wd_211) rfl rfl rfl (by decide +kernel) ⟨(Nat.le_of_ble_eq_true rfl), (Nat.le_of_ble_eq_true rfl)⟩) ⟨gB_blind (sE_ok b L xs), gB_pre (sE_ok b L xs) (w := []) (fun k9 q9 h9 => by simp at h9) (hK.sub (tys' := []) [] rfl) (⟨fun i j p q h9 => by simp at h9, fun k9 q9 h9 => by simp at h9⟩ : va_D A []) hX hS hA⟩ rfl rfl hl.1 rfl (lv_room (Nat.le_of_ble_eq_true rfl)) dL_law_21 ⟨(Nat.le_of_ble_eq_true rfl), (Nat.le_of_ble_eq_true rfl)⟩) hP hS hA (fun r4 H locs er4 hP hS => ?_)
  have hPc := gP_r hP
  have hDc := gD_r hD
  refine gk2_v (wc := [(q0, .inr (0, [.int 0, .int 0, .int 0, .int 0, .null, .null, .null, .null, .int 0, .int 0, .int 0, .double 0]))]) (wr := []) (w1 := (fun z : xS => wX z.1 z.2.1 z.2.2.1 z.2.2.2)) (va_runI (As := [.int r1, .int r2, .int r3, .int r4]) (rest := [.ref q0]) ⟨hx, hb, hml, hown, hts⟩ (cX0_init l dC dI q0 H.size r1 r2 r3 r4) (cwI 4 hts (gG wd_67) rfl rfl rfl (hts _ wd_46) (hts _ wd_65) (hts _ wd_66) rfl (by decide +kernel) ⟨(Nat.le_of_ble_eq_true rfl), (Nat.le_of_ble_eq_true rfl)⟩) ⟨gB_blind kE_ok, gB_pre kE_ok hPc (hK.sub (tys' := []) [] rfl) hDc hkE hS hA⟩ rfl rfl hl.1 rfl (lv_room (Nat.le_of_ble_eq_true rfl)) dL_law_24 ⟨(Nat.le_of_ble_eq_true rfl), (Nat.le_of_ble_eq_true rfl)⟩) hP hD hS hA (fun z H locs hz hKz hP hD hS => ?_)
  obtain ⟨hz0, w, hzK, hzu⟩ := hz
  obtain ⟨ad, ca, K, u⟩ := z
  have hz0 : ad 0 = q0 := hz0
  have hzK : K = _ := hzK
  have hzu : u = _ := hzu
  have hP : va_P (dC, dI) vwCl (wX ad ca K u) H := hP
  have hD : va_D A (wX ad ca K u) := hD
  have hK : va_K (dC, dI) vwCl (xT ca) s := hKz
  rw [← hz0]
  refine lv_astore_n (lv' := [(1, .ref (ad 0)), (0, .ref b)]) hx hb dL_law_27 rfl hl (by decide) rfl (fun ls hl => ?_)
  have hl : lv_has ls 9 [(0, .ref b), (1, .ref (ad 0))] := lv_sub hl [1, 0] rfl
  refine va_new (ci := 6) (fs := [.int 0, .int 0, .int 0, .int 0, .int 0, .null, .null, .null, .null, .null, .null, .null, .null, .int 0, .int 0, .null, .null, .null, .null, .int 0, .int 0, .int 0, .null, .null, .int 0, .null, .null, .null, .int 0, .double 0, .int 0, .double 0, .int 0, .null, .null, .int 0]) (C := RX6) (T := TX6) (N := 36) hx hb hts uwX6 tyX6 tyX6_ok hown (hts _ wd_693) (hts _ wd_694) (hts _ wd_52) hK hP hD hS hA rfl (fun j hj => by rcases (show j = 0 ∨ j = 1 ∨ j = 2 ∨ j = 3 ∨ j = 4 ∨ j = 5 ∨ j = 6 ∨ j = 7 ∨ j = 8 ∨ j = 9 ∨ j = 10 ∨ j = 11 ∨ j = 12 ∨ j = 13 ∨ j = 14 ∨ j = 15 ∨ j = 16 ∨ j = 17 ∨ j = 18 ∨ j = 19 ∨ j = 20 ∨ j = 21 ∨ j = 22 ∨ j = 23 ∨ j = 24 ∨ j = 25 ∨ j = 26 ∨ j = 27 ∨ j = 28 ∨ j = 29 ∨ j = 30 ∨ j = 31 ∨ j = 32 ∨ j = 33 ∨ j = 34 ∨ j = 35 by omega) with rfl | rfl | rfl | rfl | rfl | rfl | rfl | rfl | rfl | rfl | rfl | rfl | rfl | rfl | rfl | rfl | rfl | rfl | rfl | rfl | rfl | rfl | rfl | rfl | rfl | rfl | rfl | rfl | rfl | rfl | rfl | rfl | rfl | rfl | rfl | rfl <;> rfl) (Nat.le_of_ble_eq_true rfl) (Nat.le_of_ble_eq_true rfl) dL_law_28 (fun q1 H hP hD hS => ?_)
  refine lv_dup hx hb dL_law_31 rfl ?_
  refine lv_aload_n hx hb dL_law_32 rfl (lv_at hl 0 rfl) ?_
  refine lv_iconst (v := 0) hx hb dL_law_33 (by decide) ?_
  refine gyc_i (va_runS (As := [.ref b, .int 0]) (rest := [.ref q1, .ref q1]) ⟨hx, hb, hml, hown, hts⟩ (cL_cell l dC dI b L xs H.size 0 (by decide) (by omega)) (va_cwS 2 hts (gG_S wd_209 wd_210 wd_45 wd_211) rfl rfl rfl (by decide +kernel) ⟨(Nat.le_of_ble_eq_true rfl), (Nat.le_of_ble_eq_true rfl)⟩) ⟨gB_blind (sE_ok b L xs), gB_pre (sE_ok b L xs) (w := []) (fun k9 q9 h9 => by simp at h9) (hK.sub (tys' := []) [] rfl) (⟨fun i j p q h9 => by simp at h9, fun k9 q9 h9 => by simp at h9⟩ : va_D A []) hX hS hA⟩ rfl rfl hl.1 rfl (lv_room (Nat.le_of_ble_eq_true rfl)) dL_law_34 ⟨(Nat.le_of_ble_eq_true rfl), (Nat.le_of_ble_eq_true rfl)⟩) hP hS hA (fun s1 H locs es1 hP hS => ?_)
  refine lv_aload_n hx hb dL_law_37 rfl (lv_at hl 0 rfl) ?_
  refine lv_iconst (v := 1) hx hb dL_law_38 (by decide) ?_
  refine gyc_i (va_runS (As := [.ref b, .int 1]) (rest := [.int s1, .ref q1, .ref q1]) ⟨hx, hb, hml, hown, hts⟩ (cL_cell l dC dI b L xs H.size 1 (by decide) (by omega)) (va_cwS 2 hts (gG_S wd_209 wd_210 wd_45 wd_211) rfl rfl rfl (by decide +kernel) ⟨(Nat.le_of_ble_eq_true rfl), (Nat.le_of_ble_eq_true rfl)⟩) ⟨gB_blind (sE_ok b L xs), gB_pre (sE_ok b L xs) (w := []) (fun k9 q9 h9 => by simp at h9) (hK.sub (tys' := []) [] rfl) (⟨fun i j p q h9 => by simp at h9, fun k9 q9 h9 => by simp at h9⟩ : va_D A []) hX hS hA⟩ rfl rfl hl.1 rfl (lv_room (Nat.le_of_ble_eq_true rfl)) dL_law_39 ⟨(Nat.le_of_ble_eq_true rfl), (Nat.le_of_ble_eq_true rfl)⟩) hP hS hA (fun s2 H locs es2 hP hS => ?_)
  refine lv_aload_n hx hb dL_law_42 rfl (lv_at hl 0 rfl) ?_
  refine lv_iconst (v := 2) hx hb dL_law_43 (by decide) ?_
  refine gyc_i (va_runS (As := [.ref b, .int 2]) (rest := [.int s2, .int s1, .ref q1, .ref q1]) ⟨hx, hb, hml, hown, hts⟩ (cL_cell l dC dI b L xs H.size 2 (by decide) (by omega)) (va_cwS 2 hts (gG_S wd_209 wd_210 wd_45 wd_211) rfl rfl rfl (by decide +kernel) ⟨(Nat.le_of_ble_eq_true rfl), (Nat.le_of_ble_eq_true rfl)⟩) ⟨gB_blind (sE_ok b L xs), gB_pre (sE_ok b L xs) (w := []) (fun k9 q9 h9 => by simp at h9) (hK.sub (tys' := []) [] rfl) (⟨fun i j p q h9 => by simp at h9, fun k9 q9 h9 => by simp at h9⟩ : va_D A []) hX hS hA⟩ rfl rfl hl.1 rfl (lv_room (Nat.le_of_ble_eq_true rfl)) dL_law_44 ⟨(Nat.le_of_ble_eq_true rfl), (Nat.le_of_ble_eq_true rfl)⟩) hP hS hA (fun s3 H locs es3 hP hS => ?_)
  refine lv_aload_n hx hb dL_law_47 rfl (lv_at hl 0 rfl) ?_
  refine lv_iconst (v := 3) hx hb dL_law_48 (by decide) ?_
  refine gyc_i (va_runS (As := [.ref b, .int 3]) (rest := [.int s3, .int s2, .int s1, .ref q1, .ref q1]) ⟨hx, hb, hml, hown, hts⟩ (cL_cell l dC dI b L xs H.size 3 (by decide) (by omega)) (va_cwS 2 hts (gG_S wd_209 wd_210 wd_45 wd_211) rfl rfl rfl (by decide +kernel) ⟨(Nat.le_of_ble_eq_true rfl), (Nat.le_of_ble_eq_true rfl)⟩) ⟨gB_blind (sE_ok b L xs), gB_pre (sE_ok b L xs) (w := []) (fun k9 q9 h9 => by simp at h9) (hK.sub (tys' := []) [] rfl) (⟨fun i j p q h9 => by simp at h9, fun k9 q9 h9 => by simp at h9⟩ : va_D A []) hX hS hA⟩ rfl rfl hl.1 rfl (lv_room (Nat.le_of_ble_eq_true rfl)) dL_law_49 ⟨(Nat.le_of_ble_eq_true rfl), (Nat.le_of_ble_eq_true rfl)⟩) hP hS hA (fun s4 H locs es4 hP hS => ?_)
  have hPc := gP_r hP
  have hDc := gD_r hD
  refine gk2_v (wc := [(q1, .inr (6, [.int 0, .int 0, .int 0, .int 0, .int 0, .null, .null, .null, .null, .null, .null, .null, .null, .int 0, .int 0, .null, .null, .null, .null, .int 0, .int 0, .int 0, .null, .null, .int 0, .null, .null, .null, .int 0, .double 0, .int 0, .double 0, .int 0, .null, .null, .int 0]))]) (wr := wX ad ca K u) (w1 := (fun z : mS => wM z.1 z.2.1 z.2.2 mU0)) (va_runI (As := [.int s1, .int s2, .int s3, .int s4]) (rest := [.ref q1]) ⟨hx, hb, hml, hown, hts⟩ (cM6_init l dC dI q1 H.size s1 s2 s3 s4) (cwI 4 hts (gG wd_697) rfl rfl rfl (hts _ wd_52) (hts _ wd_695) (hts _ wd_696) rfl (by decide +kernel) ⟨(Nat.le_of_ble_eq_true rfl), (Nat.le_of_ble_eq_true rfl)⟩) ⟨gB_blind mE_ok, gB_pre mE_ok hPc (hK.sub (tys' := []) [] rfl) hDc trivial hS hA⟩ rfl rfl hl.1 rfl (lv_room (Nat.le_of_ble_eq_true rfl)) dL_law_52 ⟨(Nat.le_of_ble_eq_true rfl), (Nat.le_of_ble_eq_true rfl)⟩) hP hD hS hA (fun y H locs hy hKy hP hD hS => ?_)
  obtain ⟨hy0, hyK⟩ := hy
  obtain ⟨am, cm, KMv⟩ := y
  have hy0 : am 0 = q1 := hy0
  have hyK : KMv = mK0 s1 s2 s3 s4 := hyK
  have hP : va_P (dC, dI) vwCl (wX ad ca K u ++ wM am cm KMv mU0) H := hP
  have hD : va_D A (wX ad ca K u ++ wM am cm KMv mU0) := hD
  have hK : va_K (dC, dI) vwCl [(ca 0, .object "WorkHall$Job"), (ca 1, .object "WorkHall$Worker"), (ca 2, .double), (cm 0, .int), (cm 1, .double)] s := hK.app hKy
  rw [← hy0]
  refine lv_astore_n (lv' := [(2, .ref (am 0)), (0, .ref b), (1, .ref (ad 0))]) hx hb dL_law_55 rfl hl (by decide) rfl (fun ls hl => ?_)
  refine lv_iconst (v := 1) hx hb dL_law_56 (by decide) ?_
  refine va_newa (atype := .long) (ty := .long) (N' := 1) (a0 := (1, .inr (.inl (fun _ => 0)))) hx hb (hts _ wd_989) rfl hK hP hD hS hA (fun _ => rfl) (by decide) (by decide) (by decide) (Nat.le_of_ble_eq_true rfl) (Nat.le_of_ble_eq_true rfl) dL_law_57 (fun o cO H hK hP hD hS => ?_)
  refine lv_astore_n (lv' := [(3, .ref o), (2, .ref (am 0)), (0, .ref b), (1, .ref (ad 0))]) hx hb dL_law_59 rfl hl (by decide) rfl (fun ls hl => ?_)
  refine lv_iconst (v := 1) hx hb dL_law_60 (by decide) ?_
  refine va_newa (atype := .double) (ty := .double) (N' := 1) (a0 := (1, .inr (.inr (.inr (.inl (fun _ => 0)))))) hx hb (hts _ wd_138) rfl hK hP hD hS hA (fun _ => rfl) (by decide) (by decide) (by decide) (Nat.le_of_ble_eq_true rfl) (Nat.le_of_ble_eq_true rfl) dL_law_61 (fun d cd H hK hP hD hS => ?_)
  have hK : va_K (dC, dI) vwCl [(ca 0, .object "WorkHall$Job"), (ca 1, .object "WorkHall$Worker"), (ca 2, .double), (cm 0, .int), (cm 1, .double), (cO, .long), (cd, .double)] s := hK
  have ecd : cd = ca 2 := g_same hK 6 2 rfl rfl (Or.inr (Or.inl rfl))
  rw [ecd] at hP hD
  refine lv_astore (lv' := [(4, .ref d), (3, .ref o), (2, .ref (am 0)), (0, .ref b), (1, .ref (ad 0))]) hx hb dL_law_63 hl (by decide) rfl (fun ls hl => ?_)
  refine lv_iconst (v := 4) hx hb dL_law_65 (by decide) ?_
  refine lv_istore (lv' := [(5, .int 4), (4, .ref d), (3, .ref o), (2, .ref (am 0)), (0, .ref b), (1, .ref (ad 0))]) hx hb dL_law_66 hl (by decide) rfl (fun ls hl => ?_)
  have hW : lW (dC, dI) am cm KMv o cO d (ca 2) A H (wX ad ca K u) mU0 (fun _ => 0) (fun _ => 0) := by
    have h1 := gP_l (gP_l (gP_l hP)); have h2 := gP_r (gP_l (gP_l hP)); have h3 := gP_r (gP_l hP); have h4 := gP_r hP
    have d1 := gD_l (gD_l (gD_l hD)); have d2 := gD_r (gD_l (gD_l hD)); have d3 := gD_r (gD_l hD); have d4 := gD_r hD
    have x1 := (gD_ap hD).symm; have x2 := (gD_ap (gD_l hD)).symm; have x3 := gD_ap (gD_l (gD_l hD))
    exact ⟨h3, h4, h2, h1, ⟨d3, d4, d2, d1⟩, (gAp_2 x1).symm, gAp_2 x2, gAp_1 x2, gAp_2 (gAp_1 x1), gAp_1 (gAp_1 x1), x3.symm⟩
  have hIn : Inv KMv 0 K u mU0 := by
    rw [hyK, hzK, hzu, er1, er2, er3, er4, es1, es2, es3, es4]
    exact hI0 _ _ _ _ w (w_dist (by rw [hzK]) hW.2.2.2.2.1.2.2.2)
  rw [eA] at hX hE hS hW
  exact law_loop hl9 hL C0 hX hE (hK.sub [0, 1, 2, 5, 3, 4] rfl) (Inv KMv) (by rw [hyK]; exact hO _ _ _ _) 600 0 4 rfl (by omega) (by omega) K u mU0 _ _ H _ ls _ _ hIn hW hS (lv_sub hl [4, 5, 3, 2, 1, 0] rfl) (Nat.le_of_ble_eq_true rfl) (Nat.le_of_ble_eq_true rfl)

