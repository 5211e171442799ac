theorem dX0_dismissLongIdle_0 : decode prog_1_method_32_code 0 = .ok (.aload_n 0, 1) := by decide +kernel
theorem dX0_dismissLongIdle_1 : decode prog_1_method_32_code 1 = .ok (.getfield 18, 3) := by decide +kernel
theorem dX0_dismissLongIdle_4 : decode prog_1_method_32_code 4 = .ok (.getfield 214, 3) := by decide +kernel
theorem dX0_dismissLongIdle_7 : decode prog_1_method_32_code 7 = .ok (.istore_n 1, 1) := by decide +kernel
theorem dX0_dismissLongIdle_8 : decode prog_1_method_32_code 8 = .ok (.iconst 0, 1) := by decide +kernel
theorem dX0_dismissLongIdle_9 : decode prog_1_method_32_code 9 = .ok (.istore_n 2, 1) := by decide +kernel
theorem dX0_dismissLongIdle_10 : decode prog_1_method_32_code 10 = .ok (.iconst 0, 1) := by decide +kernel
theorem dX0_dismissLongIdle_11 : decode prog_1_method_32_code 11 = .ok (.istore_n 3, 1) := by decide +kernel
theorem dX0_dismissLongIdle_12 : decode prog_1_method_32_code 12 = .ok (.iload_n 3, 1) := by decide +kernel
theorem dX0_dismissLongIdle_13 : decode prog_1_method_32_code 13 = .ok (.iload_n 1, 1) := by decide +kernel
theorem dX0_dismissLongIdle_14 : decode prog_1_method_32_code 14 = .ok (.if_icmp .ge 77, 3) := by decide +kernel
theorem dX0_dismissLongIdle_17 : decode prog_1_method_32_code 17 = .ok (.aload_n 0, 1) := by decide +kernel
theorem dX0_dismissLongIdle_18 : decode prog_1_method_32_code 18 = .ok (.getfield 18, 3) := by decide +kernel
theorem dX0_dismissLongIdle_21 : decode prog_1_method_32_code 21 = .ok (.getfield 214, 3) := by decide +kernel
theorem dX0_dismissLongIdle_24 : decode prog_1_method_32_code 24 = .ok (.aload_n 0, 1) := by decide +kernel
theorem dX0_dismissLongIdle_25 : decode prog_1_method_32_code 25 = .ok (.getfield 54, 3) := by decide +kernel
theorem dX0_dismissLongIdle_28 : decode prog_1_method_32_code 28 = .ok (.if_icmp .le 63, 3) := by decide +kernel
theorem dX0_dismissLongIdle_31 : decode prog_1_method_32_code 31 = .ok (.aload_n 0, 1) := by decide +kernel
theorem dX0_dismissLongIdle_32 : decode prog_1_method_32_code 32 = .ok (.getfield 18, 3) := by decide +kernel
theorem dX0_dismissLongIdle_35 : decode prog_1_method_32_code 35 = .ok (.iload_n 2, 1) := by decide +kernel
theorem dX0_dismissLongIdle_36 : decode prog_1_method_32_code 36 = .ok (.invokevirtual 135, 3) := by decide +kernel
theorem dX0_dismissLongIdle_39 : decode prog_1_method_32_code 39 = .ok (.astore 4, 2) := by decide +kernel
theorem dX0_dismissLongIdle_41 : decode prog_1_method_32_code 41 = .ok (.aload 4, 2) := by decide +kernel
theorem dX0_dismissLongIdle_43 : decode prog_1_method_32_code 43 = .ok (.ifnull 39, 3) := by decide +kernel
theorem dX0_dismissLongIdle_46 : decode prog_1_method_32_code 46 = .ok (.aload 4, 2) := by decide +kernel
theorem dX0_dismissLongIdle_48 : decode prog_1_method_32_code 48 = .ok (.getfield 295, 3) := by decide +kernel
theorem dX0_dismissLongIdle_51 : decode prog_1_method_32_code 51 = .ok (.ifnonnull 31, 3) := by decide +kernel
theorem dX0_dismissLongIdle_54 : decode prog_1_method_32_code 54 = .ok (.aload_n 0, 1) := by decide +kernel
theorem dX0_dismissLongIdle_55 : decode prog_1_method_32_code 55 = .ok (.getfield 46, 3) := by decide +kernel
theorem dX0_dismissLongIdle_58 : decode prog_1_method_32_code 58 = .ok (.aload 4, 2) := by decide +kernel
theorem dX0_dismissLongIdle_60 : decode prog_1_method_32_code 60 = .ok (.getfield 318, 3) := by decide +kernel
theorem dX0_dismissLongIdle_63 : decode prog_1_method_32_code 63 = .ok (.dsub, 1) := by decide +kernel
theorem dX0_dismissLongIdle_64 : decode prog_1_method_32_code 64 = .ok (.ldc2_w 321, 3) := by decide +kernel
theorem dX0_dismissLongIdle_67 : decode prog_1_method_32_code 67 = .ok (.dcmp .l, 1) := by decide +kernel
theorem dX0_dismissLongIdle_68 : decode prog_1_method_32_code 68 = .ok (.ifCond .lt 14, 3) := by decide +kernel
theorem dX0_dismissLongIdle_71 : decode prog_1_method_32_code 71 = .ok (.aload_n 0, 1) := by decide +kernel
theorem dX0_dismissLongIdle_72 : decode prog_1_method_32_code 72 = .ok (.getfield 18, 3) := by decide +kernel
theorem dX0_dismissLongIdle_75 : decode prog_1_method_32_code 75 = .ok (.iload_n 2, 1) := by decide +kernel
theorem dX0_dismissLongIdle_76 : decode prog_1_method_32_code 76 = .ok (.invokevirtual 301, 3) := by decide +kernel
theorem dX0_dismissLongIdle_79 : decode prog_1_method_32_code 79 = .ok (.goto 6, 3) := by decide +kernel
theorem dX0_dismissLongIdle_82 : decode prog_1_method_32_code 82 = .ok (.iinc 2 1, 3) := by decide +kernel
theorem dX0_dismissLongIdle_85 : decode prog_1_method_32_code 85 = .ok (.iinc 3 1, 3) := by decide +kernel
theorem dX0_dismissLongIdle_88 : decode prog_1_method_32_code 88 = .ok (.goto (-76), 3) := by decide +kernel
theorem dX0_dismissLongIdle_91 : decode prog_1_method_32_code 91 = .ok (.return_, 1) := by decide +kernel
def wpX0_dismissLongIdle_12 (K : KX) (post : gS → Prop) : Nat → Int32 → Int32 → Int32 → gS → Prop
  | 0 => fun _ _ _ _ => False
  | n + 1 => fun l1 l2 l3 u => ((l1 ≤ l3 → (post u)) ∧ (¬ l1 ≤ l3 → ((((sI u 2) ≤ (K.1 0) → (post u)) ∧ (¬ (sI u 2) ≤ (K.1 0) → (wpX1_at K (fun (r4 : Option Nat) (u5 : gS) => ((r4 = none → (∀ x7 : Int32, x7 = l2 + 1 → (∀ x8 : Int32, x8 = l3 + 1 → (wpX0_dismissLongIdle_12 K post n l1 x7 x8 u5)))) ∧ (∀ y6 : Nat, r4 = some y6 → (y6 ∈ K.2.1 ∧ (∀ r10 : Option Nat, r10 = sQ u5 4 y6 → (((r10 = none → (vf_n64 (FP.dsub (sD u5 0) (sB u5 3 y6)) ∧ ((((Op.cmpValue (FP.dcmp (FP.dsub (sD u5 0) (sB u5 3 y6)) 4626322717216342016) .l) < 0 → (∀ x13 : Int32, x13 = l2 + 1 → (∀ x14 : Int32, x14 = l3 + 1 → (wpX0_dismissLongIdle_12 K post n l1 x13 x14 u5)))) ∧ (¬ (Op.cmpValue (FP.dcmp (FP.dsub (sD u5 0) (sB u5 3 y6)) 4626322717216342016) .l) < 0 → (wpX1_dismiss K (fun (u16 : gS) => ∀ x17 : Int32, x17 = l3 + 1 → (wpX0_dismissLongIdle_12 K post n l1 l2 x17 u16)) u5 l2)))))) ∧ (∀ y11 : Nat, r10 = some y11 → (∀ x18 : Int32, x18 = l2 + 1 → (∀ x19 : Int32, x19 = l3 + 1 → (wpX0_dismissLongIdle_12 K post n l1 x18 x19 u5))))))))))) u l2))))))

def wpX0_dismissLongIdle (K : KX) (post : gS → Prop) (u : gS)  : Prop :=
  ∀ x1 : Int32, x1 = sI u 2 → (∃ n12 : Nat, wpX0_dismissLongIdle_12 K post n12 x1 0 0 u)

set_option maxHeartbeats 8000000 in
set_option maxRecDepth 100000 in
theorem wpX0_dismissLongIdle_12_ok {p : Program} {l : Launch} {e : Env} {s : State} {m : MethodId} {args : Array Value} {below : List Frame} {meth : Method} {c : Code} {dC : Nat → ClassId} {dI : Nat → Nat → Nat} {ad : Nat → Nat} {ca : Nat → ClassId} {K : KX} {A : Nat → Prop} {post : gS → Prop}   (hx : p.tables.exec = Jvm.exec) (hb : c.code = prog_1_method_32_code) (hr : meth.sig.returnType = none) (hml : c.maxLocals = 5) (hown : s.vm.findClass RX0 = some m.cls) (hts : ∀ w ∈ gW, w.before args s = true) (hlocks : meth.locks = false) (hK : va_K (dC, dI) vwCl (xT ca) s) (hA : ∀ q, s.heap.size ≤ q → A q) (hE : xE A s s.heap) :
    ∀ (n : Nat) (l1 : Int32) (l2 : Int32) (l3 : Int32) (u : gS) (H : Heap) (locs : List Loc) (ls : Array Slot), wpX0_dismissLongIdle_12 K post n l1 l2 l3 u → va_P (dC, dI) vwCl (wX ad ca K u) H → va_D A (wX ad ca K u) → va_S A s.heap H locs → lv_has ls 5 [(0, .ref (ad 0)), (1, .int l1), (2, .int l2), (3, .int l3)] → W p l e (headSpec (gw ⟨"WorkHall", "dismissLongIdle", "()V"⟩ prog_1_method_32_code 5 none) ({ frames := 3, cells := 0, slots := 0, locals := 120 } : Room)).room s m args below meth c H locs 0 0 (MQ below (va_Qv post (gAt (dC, dI) vwCl (xT ca) (wX ad ca K) (A)) (A)) args s 0 0 A) (F0 m 12 ls []) := by
  intro n
  induction n with
  | zero => exact fun _ _ _ _ _ _ _ h => h.elim
  | succ n ih =>
    intro l1 l2 l3 u H locs ls h hP hD hS hl
    refine lv_iload_n hx hb dX0_dismissLongIdle_12 rfl (lv_at hl 3 rfl) ?_
    refine lv_iload_n hx hb dX0_dismissLongIdle_13 rfl (lv_at hl 1 rfl) ?_
    refine lv_icmp_ge (tgt := 91) hx hb dX0_dismissLongIdle_14 (by decide) (fun c2 => ?_) (fun c2 => ?_)
    · have h := h.1 c2
      exact gr_v (w := wX ad ca K) (u := u) hx hb hr hlocks h hP hK hD hS dX0_dismissLongIdle_91
    · have h := h.2 c2
      refine lv_aload_n hx hb dX0_dismissLongIdle_17 rfl (lv_at hl 0 rfl) ?_
      refine va_get (D := (dC, dI)) (ci := 0) (v := .ref (ad 2)) (C := RX0) (T := TX0) (N := 12) hx hb hts uwX0 hown hK hP 0 rfl rfl 5 (by decide) (hts _ wd_177) (fun _ h9 => h9) rfl dX0_dismissLongIdle_18 ?_
      refine va_get (D := (dC, dI)) (ci := 1) (v := .int (sI u 2)) (C := RX1) (T := TX1) (N := 3) hx hb hts uwX1 hown hK hP 2 rfl rfl 1 (by decide) (hts _ wd_102) (fun _ h9 => h9) rfl dX0_dismissLongIdle_21 ?_
      refine lv_aload_n hx hb dX0_dismissLongIdle_24 rfl (lv_at hl 0 rfl) ?_
      refine va_get (D := (dC, dI)) (ci := 0) (v := .int (K.1 0)) (C := RX0) (T := TX0) (N := 12) hx hb hts uwX0 hown hK hP 0 rfl rfl 0 (by decide) (hts _ wd_172) (fun _ h9 => h9) rfl dX0_dismissLongIdle_25 ?_
      refine lv_icmp_le (tgt := 91) hx hb dX0_dismissLongIdle_28 (by decide) (fun c3 => ?_) (fun c3 => ?_)
      · have h := h.1 c3
        exact gr_v (w := wX ad ca K) (u := u) hx hb hr hlocks h hP hK hD hS dX0_dismissLongIdle_91
      · have h := h.2 c3
        refine lv_aload_n hx hb dX0_dismissLongIdle_31 rfl (lv_at hl 0 rfl) ?_
        refine va_get (D := (dC, dI)) (ci := 0) (v := .ref (ad 2)) (C := RX0) (T := TX0) (N := 12) hx hb hts uwX0 hown hK hP 0 rfl rfl 5 (by decide) (hts _ wd_177) (fun _ h9 => h9) rfl dX0_dismissLongIdle_32 ?_
        refine lv_iload_n hx hb dX0_dismissLongIdle_35 rfl (lv_at hl 2 rfl) ?_
        refine gc_q (w := wX ad ca K) (u := u) (va_runV (As := [.int l2]) (rest := []) ⟨hx, hb, hml, hown, hts⟩ (cX1_at l dC dI ad ca K H.size u l2 _ h) (cwV 1 hts (gG_V wd_503 wd_402 wd_403 wd_47 wd_404) rfl rfl rfl (by decide +kernel) ⟨Nat.le_of_ble_eq_true rfl, Nat.le_of_ble_eq_true rfl⟩) ⟨gB_blind xE_ok, va_recv hK hP (ci := 1) (q0 := 2) rfl rfl, gB_pre xE_ok hP hK hD hE hS hA⟩ rfl rfl hl.1 rfl (lv_room (Nat.le_of_ble_eq_true rfl)) dX0_dismissLongIdle_36 ⟨Nat.le_of_ble_eq_true rfl, Nat.le_of_ble_eq_true rfl⟩) hD hS hA (fun r4 u5 H locs h hP hD hS => ?_)
        refine gq_astore (r := r4) (lv' := [(4, va_rf r4), (0, .ref (ad 0)), (1, .int l1), (2, .int l2), (3, .int l3)]) hx hb dX0_dismissLongIdle_39 hl (by decide) rfl (fun ls hl => ?_)
        refine gq_aload (r := r4) hx hb dX0_dismissLongIdle_41 (lv_at hl 0 rfl) ?_
        rcases r4 with _ | y6
        · have h := h.1 rfl
          refine lv_ifnullN (tgt := 82) hx hb dX0_dismissLongIdle_43 (by decide) ?_
          obtain ⟨x7, ex7⟩ : ∃ y : Int32, y = l2 + 1 := ⟨_, rfl⟩
          have h := h x7 ex7
          refine lv_iinc (v := x7) (lv' := [(2, .int x7), (4, .null), (0, .ref (ad 0)), (1, .int l1), (3, .int l3)]) hx hb dX0_dismissLongIdle_82 hl (k := 3) rfl (by rw [ex7]; rfl) (by decide) rfl (fun ls hl => ?_)
          obtain ⟨x8, ex8⟩ : ∃ y : Int32, y = l3 + 1 := ⟨_, rfl⟩
          have h := h x8 ex8
          refine lv_iinc (v := x8) (lv' := [(3, .int x8), (2, .int x7), (4, .null), (0, .ref (ad 0)), (1, .int l1)]) hx hb dX0_dismissLongIdle_85 hl (k := 4) rfl (by rw [ex8]; rfl) (by decide) rfl (fun ls hl => ?_)
          refine lv_goto (tgt := 12) hx hb dX0_dismissLongIdle_88 (by decide) ?_
          exact ih l1 x7 x8 u5 _ _ _ h hP hD hS (lv_sub hl [3, 4, 1, 0] rfl)
        · have h := h.2 y6 rfl
          refine lv_ifnull hx hb dX0_dismissLongIdle_43 ?_
          refine lv_aload hx hb dX0_dismissLongIdle_46 (lv_at hl 0 rfl) ?_
          obtain ⟨hy9, h⟩ := h
          obtain ⟨k9, hk9⟩ := xW_get hy9
          refine va_get (D := (dC, dI)) (ci := 4) (v := va_rf (sQ u5 4 y6)) (C := RX4) (T := TX4) (N := 3) hx hb hts uwX4 hown hK hP k9 hk9 rfl 0 (by decide) (hts _ wd_88) (fun _ h9 => h9) rfl dX0_dismissLongIdle_48 ?_
          refine gq_top (fun r10 er10 => ?_)
          have h := h r10 er10
          rcases r10 with _ | y11
          · have h := h.1 rfl
            refine lv_ifnonnullN hx hb dX0_dismissLongIdle_51 ?_
            refine lv_aload_n hx hb dX0_dismissLongIdle_54 rfl (lv_at hl 1 rfl) ?_
            refine va_get (D := (dC, dI)) (ci := 0) (v := .double (sD u5 0)) (C := RX0) (T := TX0) (N := 12) hx hb hts uwX0 hown hK hP 0 rfl rfl 11 (by decide) (hts _ wd_183) (fun _ h9 => h9) rfl dX0_dismissLongIdle_55 ?_
            refine lv_aload hx hb dX0_dismissLongIdle_58 (lv_at hl 0 rfl) ?_
            obtain ⟨k9, hk9⟩ := xW_get hy9
            refine va_get (D := (dC, dI)) (ci := 4) (v := .double (sB u5 3 y6)) (C := RX4) (T := TX4) (N := 3) hx hb hts uwX4 hown hK hP k9 hk9 rfl 2 (by decide) (hts _ wd_92) (fun _ h9 => h9) rfl dX0_dismissLongIdle_60 ?_
            refine lv_dsub hx hb dX0_dismissLongIdle_63 h.1 ?_
            have h := h.2
            refine lv_ldc2d (v := 4626322717216342016) hx hb hown (hts _ wd_633) dX0_dismissLongIdle_64 ?_
            refine lv_dcmp hx hb dX0_dismissLongIdle_67 ?_
            refine lv_if_lt (tgt := 82) hx hb dX0_dismissLongIdle_68 (by decide) (fun c12 => ?_) (fun c12 => ?_)
            · have h := h.1 c12
              obtain ⟨x13, ex13⟩ : ∃ y : Int32, y = l2 + 1 := ⟨_, rfl⟩
              have h := h x13 ex13
              refine lv_iinc (v := x13) (lv' := [(2, .int x13), (4, .ref y6), (0, .ref (ad 0)), (1, .int l1), (3, .int l3)]) hx hb dX0_dismissLongIdle_82 hl (k := 3) rfl (by rw [ex13]; rfl) (by decide) rfl (fun ls hl => ?_)
              obtain ⟨x14, ex14⟩ : ∃ y : Int32, y = l3 + 1 := ⟨_, rfl⟩
              have h := h x14 ex14
              refine lv_iinc (v := x14) (lv' := [(3, .int x14), (2, .int x13), (4, .ref y6), (0, .ref (ad 0)), (1, .int l1)]) hx hb dX0_dismissLongIdle_85 hl (k := 4) rfl (by rw [ex14]; rfl) (by decide) rfl (fun ls hl => ?_)
              refine lv_goto (tgt := 12) hx hb dX0_dismissLongIdle_88 (by decide) ?_
              exact ih l1 x13 x14 u5 _ _ _ h hP hD hS (lv_sub hl [3, 4, 1, 0] rfl)
            · have h := h.2 c12
              refine lv_aload_n hx hb dX0_dismissLongIdle_71 rfl (lv_at hl 1 rfl) ?_
              refine va_get (D := (dC, dI)) (ci := 0) (v := .ref (ad 2)) (C := RX0) (T := TX0) (N := 12) hx hb hts uwX0 hown hK hP 0 rfl rfl 5 (by decide) (hts _ wd_177) (fun _ h9 => h9) rfl dX0_dismissLongIdle_72 ?_
              refine lv_iload_n hx hb dX0_dismissLongIdle_75 rfl (lv_at hl 3 rfl) ?_
              refine gc_v (w := wX ad ca K) (u := u5) (va_runV (As := [.int l2]) (rest := []) ⟨hx, hb, hml, hown, hts⟩ (cX1_dismiss l dC dI ad ca K H.size u5 l2 _ h) (cwV 1 hts (gG_V wd_508 wd_509 wd_510 wd_47 wd_511) rfl rfl rfl (by decide +kernel) ⟨Nat.le_of_ble_eq_true rfl, Nat.le_of_ble_eq_true rfl⟩) ⟨gB_blind xE_ok, va_recv hK hP (ci := 1) (q0 := 2) rfl rfl, gB_pre xE_ok hP hK hD hE hS hA⟩ rfl rfl hl.1 rfl (lv_room (Nat.le_of_ble_eq_true rfl)) dX0_dismissLongIdle_76 ⟨Nat.le_of_ble_eq_true rfl, Nat.le_of_ble_eq_true rfl⟩) hD hS hA (fun u16 H locs h hP hD hS => ?_)
              refine lv_goto (tgt := 85) hx hb dX0_dismissLongIdle_79 (by decide) ?_
              obtain ⟨x17, ex17⟩ : ∃ y : Int32, y = l3 + 1 := ⟨_, rfl⟩
              have h := h x17 ex17
              refine lv_iinc (v := x17) (lv' := [(3, .int x17), (4, .ref y6), (0, .ref (ad 0)), (1, .int l1), (2, .int l2)]) hx hb dX0_dismissLongIdle_85 hl (k := 4) rfl (by rw [ex17]; rfl) (by decide) rfl (fun ls hl => ?_)
              refine lv_goto (tgt := 12) hx hb dX0_dismissLongIdle_88 (by decide) ?_
              exact ih l1 l2 x17 u16 _ _ _ h hP hD hS (lv_sub hl [2, 3, 4, 0] rfl)
          · have h := h.2 y11 rfl
            refine lv_ifnonnull (tgt := 82) hx hb dX0_dismissLongIdle_51 (by decide) ?_
            obtain ⟨x18, ex18⟩ : ∃ y : Int32, y = l2 + 1 := ⟨_, rfl⟩
            have h := h x18 ex18
            refine lv_iinc (v := x18) (lv' := [(2, .int x18), (4, .ref y6), (0, .ref (ad 0)), (1, .int l1), (3, .int l3)]) hx hb dX0_dismissLongIdle_82 hl (k := 3) rfl (by rw [ex18]; rfl) (by decide) rfl (fun ls hl => ?_)
            obtain ⟨x19, ex19⟩ : ∃ y : Int32, y = l3 + 1 := ⟨_, rfl⟩
            have h := h x19 ex19
            refine lv_iinc (v := x19) (lv' := [(3, .int x19), (2, .int x18), (4, .ref y6), (0, .ref (ad 0)), (1, .int l1)]) hx hb dX0_dismissLongIdle_85 hl (k := 4) rfl (by rw [ex19]; rfl) (by decide) rfl (fun ls hl => ?_)
            refine lv_goto (tgt := 12) hx hb dX0_dismissLongIdle_88 (by decide) ?_
            exact ih l1 x18 x19 u5 _ _ _ h hP hD hS (lv_sub hl [3, 4, 1, 0] rfl)

set_option maxHeartbeats 8000000 in
set_option maxRecDepth 100000 in
theorem cX0_dismissLongIdle (l : Launch) (dC : Nat → ClassId) (dI : Nat → Nat → Nat) (ad : Nat → Nat) (ca : Nat → ClassId) (K : KX) (sz : Nat) (u : gS)  (post : gS → Prop)  (h : wpX0_dismissLongIdle K post u ) : Met l ⟨"WorkHall", "dismissLongIdle", "()V"⟩ (gw ⟨"WorkHall", "dismissLongIdle", "()V"⟩ prog_1_method_32_code 5 none) ({ frames := 3, cells := 0, slots := 0, locals := 120 } : Room) (va_Pc [.ref (ad 0)] (gB (dC, dI) vwCl (xT ca) xE (wX ad ca K u) sz)) (va_Qv post (gAt (dC, dI) vwCl (xT ca) (wX ad ca K) (va_A (wX ad ca K u) sz)) (va_A (wX ad ca K u) sz)) 0 0 (va_A (wX ad ca K u) sz) := by
  refine Met.ofW (cc := prog_1_method_32_code) (maxL := 5) (ret := none) (by decide) rfl ?_
  intro p e s m args below meth c s₁ B hml hv
  obtain ⟨rfl, hsz, hP, hK, hD0, hE⟩ := hv
  have hx := B.exec
  have hb := B.bytes
  have hr := B.returns
  have hts : ∀ w ∈ gW, w.before _ s = true := fun w h9 => atoms_spec (ws := (gw ⟨"WorkHall", "dismissLongIdle", "()V"⟩ prog_1_method_32_code 5 none)) B.pre w (List.mem_cons_of_mem _ h9)
  have hown : s.vm.findClass RX0 = some m.cls := findClass_of_methodNamed B.named
  have hlocks := B.notSynchronized
  subst hsz
  have hD := hD0.self (sz := s.heap.size)
  generalize hAe : va_A (wX ad ca K u) s.heap.size = A at hD hE ⊢
  have hA : ∀ q : Nat, s.heap.size ≤ q → A q := fun q h => by rw [← hAe]; exact Or.inr h
  obtain ⟨H, hHe⟩ : ∃ z : Heap, z = s.heap := ⟨_, rfl⟩
  rw [← hHe]
  have hS : va_S A s.heap H [] := by rw [hHe]; exact va_S.rf
  have hP : va_P (dC, dI) vwCl (wX ad ca K u) H := by rw [hHe]; exact hP
  have hl := lv_entry ([.ref (ad 0)]) (n := 5) (Nat.le_of_ble_eq_true rfl)
  rw [lg_entry_eq]
  generalize (lg_sl ([.ref (ad 0)]) ++ List.replicate (5 - (lg_sl ([.ref (ad 0)])).length) Slot.unset).toArray = ls at hl ⊢
  have hl : lv_has ls 5 [(0, .ref (ad 0))] := hl
  clear hAe
  refine lv_aload_n hx hb dX0_dismissLongIdle_0 rfl (lv_at hl 0 rfl) ?_
  refine va_get (D := (dC, dI)) (ci := 0) (v := .ref (ad 2)) (C := RX0) (T := TX0) (N := 12) hx hb hts uwX0 hown hK hP 0 rfl rfl 5 (by decide) (hts _ wd_177) (fun _ h9 => h9) rfl dX0_dismissLongIdle_1 ?_
  refine va_get (D := (dC, dI)) (ci := 1) (v := .int (sI u 2)) (C := RX1) (T := TX1) (N := 3) hx hb hts uwX1 hown hK hP 2 rfl rfl 1 (by decide) (hts _ wd_102) (fun _ h9 => h9) rfl dX0_dismissLongIdle_4 ?_
  refine lv_topi (fun x1 ex1 => ?_)
  have h := h x1 ex1
  refine lv_istore_n (lv' := [(1, .int x1), (0, .ref (ad 0))]) hx hb dX0_dismissLongIdle_7 rfl hl (by decide) rfl (fun ls hl => ?_)
  refine lv_iconst (v := 0) hx hb dX0_dismissLongIdle_8 (by decide) ?_
  refine lv_istore_n (lv' := [(2, .int 0), (1, .int x1), (0, .ref (ad 0))]) hx hb dX0_dismissLongIdle_9 rfl hl (by decide) rfl (fun ls hl => ?_)
  refine lv_iconst (v := 0) hx hb dX0_dismissLongIdle_10 (by decide) ?_
  refine lv_istore_n (lv' := [(3, .int 0), (2, .int 0), (1, .int x1), (0, .ref (ad 0))]) hx hb dX0_dismissLongIdle_11 rfl hl (by decide) rfl (fun ls hl => ?_)
  obtain ⟨n12, h⟩ := h
  exact wpX0_dismissLongIdle_12_ok hx hb hr hml hown hts hlocks hK hA hE n12 x1 0 0 u _ _ _ h hP hD hS (lv_sub hl [3, 2, 1, 0] rfl)

theorem dX0_checkRange_0 : decode prog_1_method_17_code 0 = .ok (.iload_n 0, 1) := by decide +kernel
theorem dX0_checkRange_1 : decode prog_1_method_17_code 1 = .ok (.iload_n 1, 1) := by decide +kernel
theorem dX0_checkRange_2 : decode prog_1_method_17_code 2 = .ok (.if_icmp .lt 8, 3) := by decide +kernel
theorem dX0_checkRange_5 : decode prog_1_method_17_code 5 = .ok (.iload_n 0, 1) := by decide +kernel
theorem dX0_checkRange_6 : decode prog_1_method_17_code 6 = .ok (.iload_n 2, 1) := by decide +kernel
theorem dX0_checkRange_7 : decode prog_1_method_17_code 7 = .ok (.if_icmp .le 13, 3) := by decide +kernel
theorem dX0_checkRange_10 : decode prog_1_method_17_code 10 = .ok (.new 104, 3) := by decide +kernel
theorem dX0_checkRange_13 : decode prog_1_method_17_code 13 = .ok (.dup, 1) := by decide +kernel
theorem dX0_checkRange_14 : decode prog_1_method_17_code 14 = .ok (.ldc 239, 2) := by decide +kernel
theorem dX0_checkRange_16 : decode prog_1_method_17_code 16 = .ok (.invokespecial 108, 3) := by decide +kernel
theorem dX0_checkRange_19 : decode prog_1_method_17_code 19 = .ok (.athrow, 1) := by decide +kernel
theorem dX0_checkRange_20 : decode prog_1_method_17_code 20 = .ok (.return_, 1) := by decide +kernel
def wpX0_checkRange (K : KX) (post : gS → Prop) (px : String → gS → Prop) (u : gS) (p1 : Int32) (p2 : Int32) (p3 : Int32) : Prop :=
  ((p1 < p2 → (px "java/lang/IllegalArgumentException" u)) ∧ (¬ p1 < p2 → (((p1 ≤ p3 → (post u)) ∧ (¬ p1 ≤ p3 → (px "java/lang/IllegalArgumentException" u))))))

set_option maxHeartbeats 8000000 in
set_option maxRecDepth 100000 in
theorem cX0_checkRange (l : Launch) (hl9 : l.stackTraces = false) (dC : Nat → ClassId) (dI : Nat → Nat → Nat) (ad : Nat → Nat) (ca : Nat → ClassId) (K : KX) (sz : Nat) (u : gS) (p1 : Int32) (p2 : Int32) (p3 : Int32) (post : gS → Prop) (px : String → gS → Prop)  (h : wpX0_checkRange K post px u p1 p2 p3) : vx_Met l ⟨"WorkHall", "checkRange", "(III)V"⟩ (gw ⟨"WorkHall", "checkRange", "(III)V"⟩ prog_1_method_17_code 3 none) ({ frames := 7, cells := 1, slots := 6, locals := 280 } : Room) (va_Pc [.int p1, .int p2, .int p3] (gB (dC, dI) vwCl (xT ca) xE (wX ad ca K u) sz)) (va_Qv post (gAt (dC, dI) vwCl (xT ca) (wX ad ca K) (va_A (wX ad ca K u) sz)) (va_A (wX ad ca K u) sz)) (gX (dC, dI) vwCl (xT ca) (wX ad ca K) px (va_A (wX ad ca K u) sz)) 1 6 (va_A (wX ad ca K u) sz) := by
  refine vx_ofW (cc := prog_1_method_17_code) (maxL := 3) (ret := none) (by decide) rfl ?_
  intro p e s m args below meth c s₁ B hml hno hv
  obtain ⟨rfl, hsz, hP, hK, hD0, hE⟩ := hv
  have hx := B.exec
  have hb := B.bytes
  have hr := B.returns
  have hts : ∀ w ∈ gW, w.before _ s = true := fun w h9 => atoms_spec (ws := (gw ⟨"WorkHall", "checkRange", "(III)V"⟩ prog_1_method_17_code 3 none)) B.pre w (List.mem_cons_of_mem _ h9)
  have hown : s.vm.findClass RX0 = some m.cls := findClass_of_methodNamed B.named
  have hlocks := B.notSynchronized
  subst hsz
  have hD := hD0.self (sz := s.heap.size)
  generalize hAe : va_A (wX ad ca K u) s.heap.size = A at hD hE ⊢
  have hA : ∀ q : Nat, s.heap.size ≤ q → A q := fun q h => by rw [← hAe]; exact Or.inr h
  obtain ⟨H, hHe⟩ : ∃ z : Heap, z = s.heap := ⟨_, rfl⟩
  rw [← hHe]
  have hS : va_S A s.heap H [] := by rw [hHe]; exact va_S.rf
  have hP : va_P (dC, dI) vwCl (wX ad ca K u) H := by rw [hHe]; exact hP
  have hl := lv_entry ([.int p1, .int p2, .int p3]) (n := 3) (Nat.le_of_ble_eq_true rfl)
  rw [lg_entry_eq]
  generalize (lg_sl ([.int p1, .int p2, .int p3]) ++ List.replicate (3 - (lg_sl ([.int p1, .int p2, .int p3])).length) Slot.unset).toArray = ls at hl ⊢
  have hl : lv_has ls 3 [(0, .int p1), (1, .int p2), (2, .int p3)] := hl
  clear hAe
  refine lv_iload_n hx hb dX0_checkRange_0 rfl (lv_at hl 0 rfl) ?_
  refine lv_iload_n hx hb dX0_checkRange_1 rfl (lv_at hl 1 rfl) ?_
  refine lv_icmp_lt (tgt := 10) hx hb dX0_checkRange_2 (by decide) (fun c1 => ?_) (fun c1 => ?_)
  · have h := h.1 c1
    obtain ⟨sa9, hs9⟩ := xE_text hE 239 "a number is out of range" (by decide +kernel); exact vx_throwS (names := xSup) hx hb hl9 hown (by decide +kernel) (by decide +kernel) (hts _ wd_224) (hts _ wd_56) hs9 (tw_iae hts (xE_face hE)) tg_iae (xE_U hE) (xE_N hE) hS (hl.1.trans hml.symm) dX0_checkRange_10 dX0_checkRange_13 dX0_checkRange_14 dX0_checkRange_16 dX0_checkRange_19 (fun x hx => (hno x hx).elim) (Nat.le_of_ble_eq_true rfl) (Nat.le_of_ble_eq_true rfl) (Nat.le_of_ble_eq_true rfl) (Nat.le_of_ble_eq_true rfl) hlocks (fun t ha hz hq => gx_thrown h hP hK hD hS ha hz hq) hS.2.2 (Nat.le_of_ble_eq_true rfl) (Nat.le_of_ble_eq_true rfl)
  · have h := h.2 c1
    refine lv_iload_n hx hb dX0_checkRange_5 rfl (lv_at hl 0 rfl) ?_
    refine lv_iload_n hx hb dX0_checkRange_6 rfl (lv_at hl 2 rfl) ?_
    refine lv_icmp_le (tgt := 20) hx hb dX0_checkRange_7 (by decide) (fun c2 => ?_) (fun c2 => ?_)
    · have h := h.1 c2
      refine W.widen (k := 1) (n := 6) (Nat.le_of_ble_eq_true rfl) (Nat.le_of_ble_eq_true rfl) (vx_ret ?_); exact gr_v (w := wX ad ca K) (u := u) hx hb hr hlocks h hP hK hD hS dX0_checkRange_20
    · have h := h.2 c2
      obtain ⟨sa9, hs9⟩ := xE_text hE 239 "a number is out of range" (by decide +kernel); exact vx_throwS (names := xSup) hx hb hl9 hown (by decide +kernel) (by decide +kernel) (hts _ wd_224) (hts _ wd_56) hs9 (tw_iae hts (xE_face hE)) tg_iae (xE_U hE) (xE_N hE) hS (hl.1.trans hml.symm) dX0_checkRange_10 dX0_checkRange_13 dX0_checkRange_14 dX0_checkRange_16 dX0_checkRange_19 (fun x hx => (hno x hx).elim) (Nat.le_of_ble_eq_true rfl) (Nat.le_of_ble_eq_true rfl) (Nat.le_of_ble_eq_true rfl) (Nat.le_of_ble_eq_true rfl) hlocks (fun t ha hz hq => gx_thrown h hP hK hD hS ha hz hq) hS.2.2 (Nat.le_of_ble_eq_true rfl) (Nat.le_of_ble_eq_true rfl)

theorem dX0_checkSpan_0 : decode prog_1_method_18_code 0 = .ok (.dload_n 0, 1) := by decide +kernel
theorem dX0_checkSpan_1 : decode prog_1_method_18_code 1 = .ok (.dconst 0, 1) := by decide +kernel
theorem dX0_checkSpan_2 : decode prog_1_method_18_code 2 = .ok (.dcmp .l, 1) := by decide +kernel
theorem dX0_checkSpan_3 : decode prog_1_method_18_code 3 = .ok (.ifCond .lt 10, 3) := by decide +kernel
theorem dX0_checkSpan_6 : decode prog_1_method_18_code 6 = .ok (.dload_n 0, 1) := by decide +kernel
theorem dX0_checkSpan_7 : decode prog_1_method_18_code 7 = .ok (.iload_n 2, 1) := by decide +kernel
theorem dX0_checkSpan_8 : decode prog_1_method_18_code 8 = .ok (.i2d, 1) := by decide +kernel
theorem dX0_checkSpan_9 : decode prog_1_method_18_code 9 = .ok (.dcmp .g, 1) := by decide +kernel
theorem dX0_checkSpan_10 : decode prog_1_method_18_code 10 = .ok (.ifCond .le 13, 3) := by decide +kernel
theorem dX0_checkSpan_13 : decode prog_1_method_18_code 13 = .ok (.new 104, 3) := by decide +kernel
theorem dX0_checkSpan_16 : decode prog_1_method_18_code 16 = .ok (.dup, 1) := by decide +kernel
theorem dX0_checkSpan_17 : decode prog_1_method_18_code 17 = .ok (.ldc 239, 2) := by decide +kernel
theorem dX0_checkSpan_19 : decode prog_1_method_18_code 19 = .ok (.invokespecial 108, 3) := by decide +kernel
theorem dX0_checkSpan_22 : decode prog_1_method_18_code 22 = .ok (.athrow, 1) := by decide +kernel
theorem dX0_checkSpan_23 : decode prog_1_method_18_code 23 = .ok (.return_, 1) := by decide +kernel
def wpX0_checkSpan (K : KX) (post : gS → Prop) (px : String → gS → Prop) (u : gS) (p1 : UInt64) (p2 : Int32) : Prop :=
  (((Op.cmpValue (FP.dcmp p1 FP.dconst0) .l) < 0 → (px "java/lang/IllegalArgumentException" u)) ∧ (¬ (Op.cmpValue (FP.dcmp p1 FP.dconst0) .l) < 0 → ((((Op.cmpValue (FP.dcmp p1 (FP.i2d p2)) .g) ≤ 0 → (post u)) ∧ (¬ (Op.cmpValue (FP.dcmp p1 (FP.i2d p2)) .g) ≤ 0 → (px "java/lang/IllegalArgumentException" u))))))

set_option maxHeartbeats 8000000 in
set_option maxRecDepth 100000 in
theorem cX0_checkSpan (l : Launch) (hl9 : l.stackTraces = false) (dC : Nat → ClassId) (dI : Nat → Nat → Nat) (ad : Nat → Nat) (ca : Nat → ClassId) (K : KX) (sz : Nat) (u : gS) (p1 : UInt64) (p2 : Int32) (post : gS → Prop) (px : String → gS → Prop)  (h : wpX0_checkSpan K post px u p1 p2) : vx_Met l ⟨"WorkHall", "checkSpan", "(DI)V"⟩ (gw ⟨"WorkHall", "checkSpan", "(DI)V"⟩ prog_1_method_18_code 3 none) ({ frames := 7, cells := 1, slots := 6, locals := 280 } : Room) (va_Pc [.double p1, .int p2] (gB (dC, dI) vwCl (xT ca) xE (wX ad ca K u) sz)) (va_Qv post (gAt (dC, dI) vwCl (xT ca) (wX ad ca K) (va_A (wX ad ca K u) sz)) (va_A (wX ad ca K u) sz)) (gX (dC, dI) vwCl (xT ca) (wX ad ca K) px (va_A (wX ad ca K u) sz)) 1 6 (va_A (wX ad ca K u) sz) := by
  refine vx_ofW (cc := prog_1_method_18_code) (maxL := 3) (ret := none) (by decide) rfl ?_
  intro p e s m args below meth c s₁ B hml hno hv
  obtain ⟨rfl, hsz, hP, hK, hD0, hE⟩ := hv
  have hx := B.exec
  have hb := B.bytes
  have hr := B.returns
  have hts : ∀ w ∈ gW, w.before _ s = true := fun w h9 => atoms_spec (ws := (gw ⟨"WorkHall", "checkSpan", "(DI)V"⟩ prog_1_method_18_code 3 none)) B.pre w (List.mem_cons_of_mem _ h9)
  have hown : s.vm.findClass RX0 = some m.cls := findClass_of_methodNamed B.named
  have hlocks := B.notSynchronized
  subst hsz
  have hD := hD0.self (sz := s.heap.size)
  generalize hAe : va_A (wX ad ca K u) s.heap.size = A at hD hE ⊢
  have hA : ∀ q : Nat, s.heap.size ≤ q → A q := fun q h => by rw [← hAe]; exact Or.inr h
  obtain ⟨H, hHe⟩ : ∃ z : Heap, z = s.heap := ⟨_, rfl⟩
  rw [← hHe]
  have hS : va_S A s.heap H [] := by rw [hHe]; exact va_S.rf
  have hP : va_P (dC, dI) vwCl (wX ad ca K u) H := by rw [hHe]; exact hP
  have hl := lv_entry ([.double p1, .int p2]) (n := 3) (Nat.le_of_ble_eq_true rfl)
  rw [lg_entry_eq]
  generalize (lg_sl ([.double p1, .int p2]) ++ List.replicate (3 - (lg_sl ([.double p1, .int p2])).length) Slot.unset).toArray = ls at hl ⊢
  have hl : lv_has ls 3 [(0, .double p1), (2, .int p2)] := hl
  clear hAe
  refine lv_dload_n hx hb dX0_checkSpan_0 rfl (lv_at hl 0 rfl) ?_
  refine lv_dconst0 hx hb dX0_checkSpan_1 ?_
  refine lv_dcmp hx hb dX0_checkSpan_2 ?_
  refine lv_if_lt (tgt := 13) hx hb dX0_checkSpan_3 (by decide) (fun c1 => ?_) (fun c1 => ?_)
  · have h := h.1 c1
    obtain ⟨sa9, hs9⟩ := xE_text hE 239 "a number is out of range" (by decide +kernel); exact vx_throwS (names := xSup) hx hb hl9 hown (by decide +kernel) (by decide +kernel) (hts _ wd_224) (hts _ wd_56) hs9 (tw_iae hts (xE_face hE)) tg_iae (xE_U hE) (xE_N hE) hS (hl.1.trans hml.symm) dX0_checkSpan_13 dX0_checkSpan_16 dX0_checkSpan_17 dX0_checkSpan_19 dX0_checkSpan_22 (fun x hx => (hno x hx).elim) (Nat.le_of_ble_eq_true rfl) (Nat.le_of_ble_eq_true rfl) (Nat.le_of_ble_eq_true rfl) (Nat.le_of_ble_eq_true rfl) hlocks (fun t ha hz hq => gx_thrown h hP hK hD hS ha hz hq) hS.2.2 (Nat.le_of_ble_eq_true rfl) (Nat.le_of_ble_eq_true rfl)
  · have h := h.2 c1
    refine lv_dload_n hx hb dX0_checkSpan_6 rfl (lv_at hl 0 rfl) ?_
    refine lv_iload_n hx hb dX0_checkSpan_7 rfl (lv_at hl 1 rfl) ?_
    refine lv_i2d hx hb dX0_checkSpan_8 ?_
    refine lv_dcmp hx hb dX0_checkSpan_9 ?_
    refine lv_if_le (tgt := 23) hx hb dX0_checkSpan_10 (by decide) (fun c2 => ?_) (fun c2 => ?_)
    · have h := h.1 c2
      refine W.widen (k := 1) (n := 6) (Nat.le_of_ble_eq_true rfl) (Nat.le_of_ble_eq_true rfl) (vx_ret ?_); exact gr_v (w := wX ad ca K) (u := u) hx hb hr hlocks h hP hK hD hS dX0_checkSpan_23
    · have h := h.2 c2
      obtain ⟨sa9, hs9⟩ := xE_text hE 239 "a number is out of range" (by decide +kernel); exact vx_throwS (names := xSup) hx hb hl9 hown (by decide +kernel) (by decide +kernel) (hts _ wd_224) (hts _ wd_56) hs9 (tw_iae hts (xE_face hE)) tg_iae (xE_U hE) (xE_N hE) hS (hl.1.trans hml.symm) dX0_checkSpan_13 dX0_checkSpan_16 dX0_checkSpan_17 dX0_checkSpan_19 dX0_checkSpan_22 (fun x hx => (hno x hx).elim) (Nat.le_of_ble_eq_true rfl) (Nat.le_of_ble_eq_true rfl) (Nat.le_of_ble_eq_true rfl) (Nat.le_of_ble_eq_true rfl) hlocks (fun t ha hz hq => gx_thrown h hP hK hD hS ha hz hq) hS.2.2 (Nat.le_of_ble_eq_true rfl) (Nat.le_of_ble_eq_true rfl)

theorem dX0_known_0 : decode prog_1_method_19_code 0 = .ok (.iload_n 1, 1) := by decide +kernel
theorem dX0_known_1 : decode prog_1_method_19_code 1 = .ok (.iconst 0, 1) := by decide +kernel
theorem dX0_known_2 : decode prog_1_method_19_code 2 = .ok (.bipush 23, 2) := by decide +kernel
theorem dX0_known_4 : decode prog_1_method_19_code 4 = .ok (.invokestatic 72, 3) := by decide +kernel
theorem dX0_known_7 : decode prog_1_method_19_code 7 = .ok (.aload_n 0, 1) := by decide +kernel
theorem dX0_known_8 : decode prog_1_method_19_code 8 = .ok (.iload_n 1, 1) := by decide +kernel
theorem dX0_known_9 : decode prog_1_method_19_code 9 = .ok (.invokevirtual 241, 3) := by decide +kernel
theorem dX0_known_12 : decode prog_1_method_19_code 12 = .ok (.astore_n 2, 1) := by decide +kernel
theorem dX0_known_13 : decode prog_1_method_19_code 13 = .ok (.aload_n 2, 1) := by decide +kernel
theorem dX0_known_14 : decode prog_1_method_19_code 14 = .ok (.ifnonnull 13, 3) := by decide +kernel
theorem dX0_known_17 : decode prog_1_method_19_code 17 = .ok (.new 146, 3) := by decide +kernel
theorem dX0_known_20 : decode prog_1_method_19_code 20 = .ok (.dup, 1) := by decide +kernel
theorem dX0_known_21 : decode prog_1_method_19_code 21 = .ok (.ldc 244, 2) := by decide +kernel
theorem dX0_known_23 : decode prog_1_method_19_code 23 = .ok (.invokespecial 150, 3) := by decide +kernel
theorem dX0_known_26 : decode prog_1_method_19_code 26 = .ok (.athrow, 1) := by decide +kernel
theorem dX0_known_27 : decode prog_1_method_19_code 27 = .ok (.aload_n 2, 1) := by decide +kernel
theorem dX0_known_28 : decode prog_1_method_19_code 28 = .ok (.areturn, 1) := by decide +kernel
def wpX0_known (K : KX) (post : Option Nat → gS → Prop) (px : String → gS → Prop) (u : gS) (p1 : Int32) : Prop :=
  wpX0_checkRange K (fun (u2 : gS) => wpX0_find K (fun (r3 : Option Nat) (u4 : gS) => ((r3 = none → (px "java/util/NoSuchElementException" u4)) ∧ (∀ y5 : Nat, r3 = some y5 → (post (some y5) u4)))) u2 p1) px u p1 0 23

set_option maxHeartbeats 8000000 in
set_option maxRecDepth 100000 in
theorem cX0_known (l : Launch) (hl9 : l.stackTraces = false) (dC : Nat → ClassId) (dI : Nat → Nat → Nat) (ad : Nat → Nat) (ca : Nat → ClassId) (K : KX) (sz : Nat) (u : gS) (p1 : Int32) (post : Option Nat → gS → Prop) (px : String → gS → Prop)  (h : wpX0_known K post px u p1) : vx_Met l ⟨"WorkHall", "known", "(I)LWorkHall$Job;"⟩ (gw ⟨"WorkHall", "known", "(I)LWorkHall$Job;"⟩ prog_1_method_19_code 3 (some (.object "WorkHall$Job"))) ({ frames := 8, cells := 2, slots := 12, locals := 320 } : Room) (va_Pc [.ref (ad 0), .int p1] (gB (dC, dI) vwCl (xT ca) xE (wX ad ca K u) sz)) (va_Qq post (gAt (dC, dI) vwCl (xT ca) (wX ad ca K) (va_A (wX ad ca K u) sz)) (va_A (wX ad ca K u) sz)) (gX (dC, dI) vwCl (xT ca) (wX ad ca K) px (va_A (wX ad ca K u) sz)) 2 12 (va_A (wX ad ca K u) sz) := by
  refine vx_ofW (cc := prog_1_method_19_code) (maxL := 3) (ret := (some (.object "WorkHall$Job"))) (by decide) rfl ?_
  intro p e s m args below meth c s₁ B hml hno hv
  obtain ⟨rfl, hsz, hP, hK, hD0, hE⟩ := hv
  have hx := B.exec
  have hb := B.bytes
  have hr := B.returns
  have hts : ∀ w ∈ gW, w.before _ s = true := fun w h9 => atoms_spec (ws := (gw ⟨"WorkHall", "known", "(I)LWorkHall$Job;"⟩ prog_1_method_19_code 3 (some (.object "WorkHall$Job")))) B.pre w (List.mem_cons_of_mem _ h9)
  have hown : s.vm.findClass RX0 = some m.cls := findClass_of_methodNamed B.named
  have hlocks := B.notSynchronized
  subst hsz
  have hD := hD0.self (sz := s.heap.size)
  generalize hAe : va_A (wX ad ca K u) s.heap.size = A at hD hE ⊢
  have hA : ∀ q : Nat, s.heap.size ≤ q → A q := fun q h => by rw [← hAe]; exact Or.inr h
  obtain ⟨H, hHe⟩ : ∃ z : Heap, z = s.heap := ⟨_, rfl⟩
  rw [← hHe]
  have hS : va_S A s.heap H [] := by rw [hHe]; exact va_S.rf
  have hP : va_P (dC, dI) vwCl (wX ad ca K u) H := by rw [hHe]; exact hP
  have hl := lv_entry ([.ref (ad 0), .int p1]) (n := 3) (Nat.le_of_ble_eq_true rfl)
  rw [lg_entry_eq]
  generalize (lg_sl ([.ref (ad 0), .int p1]) ++ List.replicate (3 - (lg_sl ([.ref (ad 0), .int p1])).length) Slot.unset).toArray = ls at hl ⊢
  have hl : lv_has ls 3 [(0, .ref (ad 0)), (1, .int p1)] := hl
  clear hAe
  refine lv_iload_n hx hb dX0_known_0 rfl (lv_at hl 1 rfl) ?_
  refine lv_iconst (v := 0) hx hb dX0_known_1 (by decide) ?_
  refine lv_bipush (v := 23) hx hb dX0_known_2 (by decide) ?_
  refine gxc_v (w := wX ad ca K) (u := u) (vx_runS (As := [.int p1, .int 0, .int 23]) (rest := []) ⟨hx, hb, hml, hown, hts⟩ (cX0_checkRange l hl9 dC dI ad ca K H.size u p1 0 23 _ _ h) (va_cwS 3 hts (gG_S wd_221 wd_222 wd_46 wd_223) rfl rfl rfl (by decide +kernel) ⟨Nat.le_of_ble_eq_true rfl, Nat.le_of_ble_eq_true rfl⟩) ⟨gB_blind xE_ok, gB_pre xE_ok hP hK hD hE hS hA⟩ rfl rfl hl.1 rfl (lv_room (Nat.le_of_ble_eq_true rfl)) dX0_known_4 ⟨Nat.le_of_ble_eq_true rfl, Nat.le_of_ble_eq_true rfl⟩) hD hS hA (fun E9 ce9 q9 u9 H locs h hP hD hS hce hcv hcl => gx_out hno hlocks h hP hK hD hS hce hcv hcl (Nat.le_of_ble_eq_true rfl) (Nat.le_of_ble_eq_true rfl)) (fun u2 H locs h hP hD hS => ?_)
  refine lv_aload_n hx hb dX0_known_7 rfl (lv_at hl 0 rfl) ?_
  refine lv_iload_n hx hb dX0_known_8 rfl (lv_at hl 1 rfl) ?_
  refine gc_q (w := wX ad ca K) (u := u2) (va_runV (As := [.int p1]) (rest := []) ⟨hx, hb, hml, hown, hts⟩ (cX0_find l dC dI ad ca K H.size u2 p1 _ h) (cwV 1 hts (gG_V wd_368 wd_370 wd_2 wd_46 wd_371) rfl rfl rfl (by decide +kernel) ⟨Nat.le_of_ble_eq_true rfl, Nat.le_of_ble_eq_true rfl⟩) ⟨gB_blind xE_ok, va_recv hK hP (ci := 0) (q0 := 0) rfl rfl, gB_pre xE_ok hP hK hD hE hS hA⟩ rfl rfl hl.1 rfl (lv_room (Nat.le_of_ble_eq_true rfl)) dX0_known_9 ⟨Nat.le_of_ble_eq_true rfl, Nat.le_of_ble_eq_true rfl⟩) hD hS hA (fun r3 u4 H locs h hP hD hS => ?_)
  refine gq_astore_n (r := r3) (lv' := [(2, va_rf r3), (0, .ref (ad 0)), (1, .int p1)]) hx hb dX0_known_12 rfl hl (by decide) rfl (fun ls hl => ?_)
  refine gq_aload_n (r := r3) hx hb dX0_known_13 rfl (lv_at hl 0 rfl) ?_
  rcases r3 with _ | y5
  · have h := h.1 rfl
    refine lv_ifnonnullN hx hb dX0_known_14 ?_
    obtain ⟨sa9, hs9⟩ := xE_text hE 244 "there is no such job" (by decide +kernel); exact vn_throwS (r := xSup1) (Y := "java/lang/RuntimeException") hx hb hl9 dN_0 dN_1 dN_2 dN_5 hown (by decide +kernel) (by decide +kernel) (by decide +kernel) (hts _ wd_372) (hts _ wd_59) hs9 (tw_nse hts (xE_face hE)) tg_nse (xE_U hE) (xE_N hE) hS (hl.1.trans hml.symm) dX0_known_17 dX0_known_20 dX0_known_21 dX0_known_23 dX0_known_26 (fun x hx => (hno x hx).elim) (Nat.le_of_ble_eq_true rfl) (Nat.le_of_ble_eq_true rfl) (Nat.le_of_ble_eq_true rfl) (Nat.le_of_ble_eq_true rfl) hlocks (fun t ha hz hq => gx_thrown h hP hK hD hS ha hz hq) hS.2.2 (Nat.le_of_ble_eq_true rfl) (Nat.le_of_ble_eq_true rfl)
  · have h := h.2 y5 rfl
    refine lv_ifnonnull (tgt := 27) hx hb dX0_known_14 (by decide) ?_
    refine lv_aload_n hx hb dX0_known_27 rfl (lv_at hl 0 rfl) ?_
    refine W.widen (k := 2) (n := 12) (Nat.le_of_ble_eq_true rfl) (Nat.le_of_ble_eq_true rfl) (vx_ret ?_); exact gr_q (w := wX ad ca K) (u := u4) (v := (some y5)) hx hb hr hlocks h hP hK hD hS dX0_known_28

theorem dX0_then_0 : decode prog_1_method_4_code 0 = .ok (.iload_n 2, 1) := by decide +kernel
theorem dX0_then_1 : decode prog_1_method_4_code 1 = .ok (.iconst 0, 1) := by decide +kernel
theorem dX0_then_2 : decode prog_1_method_4_code 2 = .ok (.bipush 23, 2) := by decide +kernel
theorem dX0_then_4 : decode prog_1_method_4_code 4 = .ok (.invokestatic 72, 3) := by decide +kernel
theorem dX0_then_7 : decode prog_1_method_4_code 7 = .ok (.aload_n 0, 1) := by decide +kernel
theorem dX0_then_8 : decode prog_1_method_4_code 8 = .ok (.iload_n 1, 1) := by decide +kernel
theorem dX0_then_9 : decode prog_1_method_4_code 9 = .ok (.invokevirtual 86, 3) := by decide +kernel
theorem dX0_then_12 : decode prog_1_method_4_code 12 = .ok (.astore_n 3, 1) := by decide +kernel
theorem dX0_then_13 : decode prog_1_method_4_code 13 = .ok (.aload_n 0, 1) := by decide +kernel
theorem dX0_then_14 : decode prog_1_method_4_code 14 = .ok (.iload_n 2, 1) := by decide +kernel
theorem dX0_then_15 : decode prog_1_method_4_code 15 = .ok (.invokevirtual 86, 3) := by decide +kernel
theorem dX0_then_18 : decode prog_1_method_4_code 18 = .ok (.astore 4, 2) := by decide +kernel
theorem dX0_then_20 : decode prog_1_method_4_code 20 = .ok (.aload_n 3, 1) := by decide +kernel
theorem dX0_then_21 : decode prog_1_method_4_code 21 = .ok (.aload 4, 2) := by decide +kernel
theorem dX0_then_23 : decode prog_1_method_4_code 23 = .ok (.if_acmp .ne 13, 3) := by decide +kernel
theorem dX0_then_26 : decode prog_1_method_4_code 26 = .ok (.new 104, 3) := by decide +kernel
theorem dX0_then_29 : decode prog_1_method_4_code 29 = .ok (.dup, 1) := by decide +kernel
theorem dX0_then_30 : decode prog_1_method_4_code 30 = .ok (.ldc 106, 2) := by decide +kernel
theorem dX0_then_32 : decode prog_1_method_4_code 32 = .ok (.invokespecial 108, 3) := by decide +kernel
theorem dX0_then_35 : decode prog_1_method_4_code 35 = .ok (.athrow, 1) := by decide +kernel
theorem dX0_then_36 : decode prog_1_method_4_code 36 = .ok (.aload_n 3, 1) := by decide +kernel
theorem dX0_then_37 : decode prog_1_method_4_code 37 = .ok (.getfield 90, 3) := by decide +kernel
theorem dX0_then_40 : decode prog_1_method_4_code 40 = .ok (.iconst 2, 1) := by decide +kernel
theorem dX0_then_41 : decode prog_1_method_4_code 41 = .ok (.if_icmp .le 13, 3) := by decide +kernel
theorem dX0_then_44 : decode prog_1_method_4_code 44 = .ok (.new 76, 3) := by decide +kernel
theorem dX0_then_47 : decode prog_1_method_4_code 47 = .ok (.dup, 1) := by decide +kernel
theorem dX0_then_48 : decode prog_1_method_4_code 48 = .ok (.ldc 109, 2) := by decide +kernel
theorem dX0_then_50 : decode prog_1_method_4_code 50 = .ok (.invokespecial 80, 3) := by decide +kernel
theorem dX0_then_53 : decode prog_1_method_4_code 53 = .ok (.athrow, 1) := by decide +kernel
theorem dX0_then_54 : decode prog_1_method_4_code 54 = .ok (.aload_n 3, 1) := by decide +kernel
theorem dX0_then_55 : decode prog_1_method_4_code 55 = .ok (.invokevirtual 111, 3) := by decide +kernel
theorem dX0_then_58 : decode prog_1_method_4_code 58 = .ok (.istore 5, 2) := by decide +kernel
theorem dX0_then_60 : decode prog_1_method_4_code 60 = .ok (.aload_n 3, 1) := by decide +kernel
theorem dX0_then_61 : decode prog_1_method_4_code 61 = .ok (.aload 4, 2) := by decide +kernel
theorem dX0_then_63 : decode prog_1_method_4_code 63 = .ok (.putfield 115, 3) := by decide +kernel
theorem dX0_then_66 : decode prog_1_method_4_code 66 = .ok (.iload 5, 2) := by decide +kernel
theorem dX0_then_68 : decode prog_1_method_4_code 68 = .ok (.ireturn, 1) := by decide +kernel
def wpX0_then (K : KX) (post : Int32 → gS → Prop) (px : String → gS → Prop) (u : gS) (p1 : Int32) (p2 : Int32) : Prop :=
  wpX0_checkRange K (fun (u2 : gS) => wpX0_known K (fun (r3 : Option Nat) (u4 : gS) => wpX0_known K (fun (r5 : Option Nat) (u6 : gS) => ((¬ r3 = r5 → (∃ y8 : Nat, r3 = some y8 ∧ y8 ∈ K.2.2.1 ∧ ((((sA u6 0 y8) ≤ 2 → (wpX5_nextNumber K (fun (r11 : Int32) (u12 : gS) => ∀ u13 : gS, u13 = tQ u12 3 y8 r5 → (post r11 u13)) u6 y8)) ∧ (¬ (sA u6 0 y8) ≤ 2 → (px "java/lang/IllegalStateException" u6)))))) ∧ (r3 = r5 → (px "java/lang/IllegalArgumentException" u6)))) px u4 p2) px u2 p1) px u p2 0 23

set_option maxHeartbeats 8000000 in
set_option maxRecDepth 100000 in
theorem cX0_then (l : Launch) (hl9 : l.stackTraces = false) (dC : Nat → ClassId) (dI : Nat → Nat → Nat) (ad : Nat → Nat) (ca : Nat → ClassId) (K : KX) (sz : Nat) (u : gS) (p1 : Int32) (p2 : Int32) (post : Int32 → gS → Prop) (px : String → gS → Prop)  (h : wpX0_then K post px u p1 p2) : vx_Met l ⟨"WorkHall", "then", "(II)I"⟩ (gw ⟨"WorkHall", "then", "(II)I"⟩ prog_1_method_4_code 6 (some .int)) ({ frames := 9, cells := 6, slots := 36, locals := 360 } : Room) (va_Pc [.ref (ad 0), .int p1, .int p2] (gB (dC, dI) vwCl (xT ca) xE (wX ad ca K u) sz)) (va_Qi post (gAt (dC, dI) vwCl (xT ca) (wX ad ca K) (va_A (wX ad ca K u) sz)) (va_A (wX ad ca K u) sz)) (gX (dC, dI) vwCl (xT ca) (wX ad ca K) px (va_A (wX ad ca K u) sz)) 6 36 (va_A (wX ad ca K u) sz) := by
  refine vx_ofW (cc := prog_1_method_4_code) (maxL := 6) (ret := (some .int)) (by decide) rfl ?_
  intro p e s m args below meth c s₁ B hml hno hv
  obtain ⟨rfl, hsz, hP, hK, hD0, hE⟩ := hv
  have hx := B.exec
  have hb := B.bytes
  have hr := B.returns
  have hts : ∀ w ∈ gW, w.before _ s = true := fun w h9 => atoms_spec (ws := (gw ⟨"WorkHall", "then", "(II)I"⟩ prog_1_method_4_code 6 (some .int))) B.pre w (List.mem_cons_of_mem _ h9)
  have hown : s.vm.findClass RX0 = some m.cls := findClass_of_methodNamed B.named
  have hlocks := B.notSynchronized
  subst hsz
  have hD := hD0.self (sz := s.heap.size)
  generalize hAe : va_A (wX ad ca K u) s.heap.size = A at hD hE ⊢
  have hA : ∀ q : Nat, s.heap.size ≤ q → A q := fun q h => by rw [← hAe]; exact Or.inr h
  obtain ⟨H, hHe⟩ : ∃ z : Heap, z = s.heap := ⟨_, rfl⟩
  rw [← hHe]
  have hS : va_S A s.heap H [] := by rw [hHe]; exact va_S.rf
  have hP : va_P (dC, dI) vwCl (wX ad ca K u) H := by rw [hHe]; exact hP
  have hl := lv_entry ([.ref (ad 0), .int p1, .int p2]) (n := 6) (Nat.le_of_ble_eq_true rfl)
  rw [lg_entry_eq]
  generalize (lg_sl ([.ref (ad 0), .int p1, .int p2]) ++ List.replicate (6 - (lg_sl ([.ref (ad 0), .int p1, .int p2])).length) Slot.unset).toArray = ls at hl ⊢
  have hl : lv_has ls 6 [(0, .ref (ad 0)), (1, .int p1), (2, .int p2)] := hl
  clear hAe
  refine lv_iload_n hx hb dX0_then_0 rfl (lv_at hl 2 rfl) ?_
  refine lv_iconst (v := 0) hx hb dX0_then_1 (by decide) ?_
  refine lv_bipush (v := 23) hx hb dX0_then_2 (by decide) ?_
  refine gxc_v (w := wX ad ca K) (u := u) (vx_runS (As := [.int p2, .int 0, .int 23]) (rest := []) ⟨hx, hb, hml, hown, hts⟩ (cX0_checkRange l hl9 dC dI ad ca K H.size u p2 0 23 _ _ h) (va_cwS 3 hts (gG_S wd_221 wd_222 wd_46 wd_223) rfl rfl rfl (by decide +kernel) ⟨Nat.le_of_ble_eq_true rfl, Nat.le_of_ble_eq_true rfl⟩) ⟨gB_blind xE_ok, gB_pre xE_ok hP hK hD hE hS hA⟩ rfl rfl hl.1 rfl (lv_room (Nat.le_of_ble_eq_true rfl)) dX0_then_4 ⟨Nat.le_of_ble_eq_true rfl, Nat.le_of_ble_eq_true rfl⟩) hD hS hA (fun E9 ce9 q9 u9 H locs h hP hD hS hce hcv hcl => gx_out hno hlocks h hP hK hD hS hce hcv hcl (Nat.le_of_ble_eq_true rfl) (Nat.le_of_ble_eq_true rfl)) (fun u2 H locs h hP hD hS => ?_)
  refine lv_aload_n hx hb dX0_then_7 rfl (lv_at hl 0 rfl) ?_
  refine lv_iload_n hx hb dX0_then_8 rfl (lv_at hl 1 rfl) ?_
  refine gxc_q (w := wX ad ca K) (u := u2) (vx_runV (As := [.int p1]) (rest := []) ⟨hx, hb, hml, hown, hts⟩ (cX0_known l hl9 dC dI ad ca K H.size u2 p1 _ _ h) (cwV 1 hts (gG_V wd_364 wd_366 wd_1 wd_46 wd_367) rfl rfl rfl (by decide +kernel) ⟨Nat.le_of_ble_eq_true rfl, Nat.le_of_ble_eq_true rfl⟩) ⟨gB_blind xE_ok, va_recv hK hP (ci := 0) (q0 := 0) rfl rfl, gB_pre xE_ok hP hK hD hE hS hA⟩ rfl rfl hl.1 rfl (lv_room (Nat.le_of_ble_eq_true rfl)) dX0_then_9 ⟨Nat.le_of_ble_eq_true rfl, Nat.le_of_ble_eq_true rfl⟩) hD hS hA (fun E9 ce9 q9 u9 H locs h hP hD hS hce hcv hcl => gx_out hno hlocks h hP hK hD hS hce hcv hcl (Nat.le_of_ble_eq_true rfl) (Nat.le_of_ble_eq_true rfl)) (fun r3 u4 H locs h hP hD hS => ?_)
  refine gq_astore_n (r := r3) (lv' := [(3, va_rf r3), (0, .ref (ad 0)), (1, .int p1), (2, .int p2)]) hx hb dX0_then_12 rfl hl (by decide) rfl (fun ls hl => ?_)
  refine lv_aload_n hx hb dX0_then_13 rfl (lv_at hl 1 rfl) ?_
  refine lv_iload_n hx hb dX0_then_14 rfl (lv_at hl 3 rfl) ?_
  refine gxc_q (w := wX ad ca K) (u := u4) (vx_runV (As := [.int p2]) (rest := []) ⟨hx, hb, hml, hown, hts⟩ (cX0_known l hl9 dC dI ad ca K H.size u4 p2 _ _ h) (cwV 1 hts (gG_V wd_364 wd_366 wd_1 wd_46 wd_367) rfl rfl rfl (by decide +kernel) ⟨Nat.le_of_ble_eq_true rfl, Nat.le_of_ble_eq_true rfl⟩) ⟨gB_blind xE_ok, va_recv hK hP (ci := 0) (q0 := 0) rfl rfl, gB_pre xE_ok hP hK hD hE hS hA⟩ rfl rfl hl.1 rfl (lv_room (Nat.le_of_ble_eq_true rfl)) dX0_then_15 ⟨Nat.le_of_ble_eq_true rfl, Nat.le_of_ble_eq_true rfl⟩) hD hS hA (fun E9 ce9 q9 u9 H locs h hP hD hS hce hcv hcl => gx_out hno hlocks h hP hK hD hS hce hcv hcl (Nat.le_of_ble_eq_true rfl) (Nat.le_of_ble_eq_true rfl)) (fun r5 u6 H locs h hP hD hS => ?_)
  refine gq_astore (r := r5) (lv' := [(4, va_rf r5), (3, va_rf r3), (0, .ref (ad 0)), (1, .int p1), (2, .int p2)]) hx hb dX0_then_18 hl (by decide) (by cases r3 <;> rfl) (fun ls hl => ?_)
  refine gq_aload_n (r := r3) hx hb dX0_then_20 rfl (lv_at hl 1 rfl) ?_
  refine gq_aload (r := r5) hx hb dX0_then_21 (lv_at hl 0 rfl) ?_
  refine lv_acmp_ne (rx := r3) (ry := r5) (tgt := 36) hx hb dX0_then_23 (by decide) (fun c7 => ?_) (fun c7 => ?_)
  · have h := h.1 c7
    refine gq_aload_n (r := r3) hx hb dX0_then_36 rfl (lv_at hl 1 rfl) ?_
    obtain ⟨y8, rfl, hy9, h⟩ := h
    obtain ⟨k9, hk9⟩ := xJ_get hy9
    refine va_get (D := (dC, dI)) (ci := 5) (v := .int (sA u6 0 y8)) (C := RX5) (T := TX5) (N := 9) hx hb hts uwX5 hown hK hP k9 hk9 rfl 5 (by decide) (hts _ wd_327) (fun _ h9 => h9) rfl dX0_then_37 ?_
    refine lv_iconst (v := 2) hx hb dX0_then_40 (by decide) ?_
    refine lv_icmp_le (tgt := 54) hx hb dX0_then_41 (by decide) (fun c10 => ?_) (fun c10 => ?_)
    · have h := h.1 c10
      refine lv_aload_n hx hb dX0_then_54 rfl (lv_at hl 1 rfl) ?_
      refine gc_i (w := wX ad ca K) (u := u6) (va_runV (As := []) (rest := []) ⟨hx, hb, hml, hown, hts⟩ (cX5_nextNumber l dC dI ad ca K H.size u6 y8 _ hy9 h) (cwV 0 hts (gG_V wd_484 wd_485 wd_486 wd_58 wd_487) rfl rfl rfl (by decide +kernel) ⟨Nat.le_of_ble_eq_true rfl, Nat.le_of_ble_eq_true rfl⟩) ⟨gB_blind xE_ok, (by obtain ⟨k9, hk9⟩ := xJ_get hy9; exact va_recv hK hP (ci := 5) (q0 := k9) rfl hk9), gB_pre xE_ok hP hK hD hE hS hA⟩ rfl rfl hl.1 rfl (lv_room (Nat.le_of_ble_eq_true rfl)) dX0_then_55 ⟨Nat.le_of_ble_eq_true rfl, Nat.le_of_ble_eq_true rfl⟩) hD hS hA (fun r11 u12 H locs h hP hD hS => ?_)
      refine lv_istore (lv' := [(5, .int r11), (4, va_rf r5), (3, .ref y8), (0, .ref (ad 0)), (1, .int p1), (2, .int p2)]) hx hb dX0_then_58 hl (by decide) (by cases r5 <;> rfl) (fun ls hl => ?_)
      refine lv_aload_n hx hb dX0_then_60 rfl (lv_at hl 2 rfl) ?_
      refine gq_aload (r := r5) hx hb dX0_then_61 (lv_at hl 1 rfl) ?_
      obtain ⟨k9, hk9⟩ := xJ_get hy9
      have e9 := xJ_next (v := r5) hD hy9 hk9
      refine va_put (D := (dC, dI)) (ci := 5) (v := va_rf r5) (ty := tyX5 8) (C := RX5) (T := TX5) (N := 9) hx hb hts uwX5 tyX5 tyX5_ok nmX5 hown hK hP hD hS k9 hk9 rfl 8 (by decide) (hts _ wd_335) (fun _ h9 => h9) rfl (tyX5_ok 8 (by decide)) (by cases r5 <;> rfl) (by cases r5 <;> rfl) (Nat.le_of_ble_eq_true rfl) dX0_then_63 (fun H locs hP hD hS => ?_)
      obtain ⟨u13, eu13⟩ : ∃ z : gS, z = tQ u12 3 y8 r5 := ⟨_, rfl⟩
      have hP : va_P (dC, dI) vwCl (wX ad ca K u13) H := by rw [eu13, ← e9]; exact hP
      have hD : va_D A (wX ad ca K u13) := by rw [eu13, ← e9]; exact hD
      have h := h u13 eu13
      refine lv_iload hx hb dX0_then_66 (lv_at hl 0 rfl) ?_
      refine W.widen (k := 6) (n := 36) (Nat.le_of_ble_eq_true rfl) (Nat.le_of_ble_eq_true rfl) (vx_ret ?_); exact gr_i (w := wX ad ca K) (u := u13) hx hb hr hlocks h hP hK hD hS dX0_then_68
    · have h := h.2 c10
      obtain ⟨sa9, hs9⟩ := xE_text hE 109 "the job is over" (by decide +kernel); exact vx_throwS (names := xSup) hx hb hl9 hown (by decide +kernel) (by decide +kernel) (hts _ wd_295) (hts _ wd_57) hs9 (tw_ise hts (xE_face hE)) tg_ise (xE_U hE) (xE_N hE) hS (hl.1.trans hml.symm) dX0_then_44 dX0_then_47 dX0_then_48 dX0_then_50 dX0_then_53 (fun x hx => (hno x hx).elim) (Nat.le_of_ble_eq_true rfl) (Nat.le_of_ble_eq_true rfl) (Nat.le_of_ble_eq_true rfl) (Nat.le_of_ble_eq_true rfl) hlocks (fun t ha hz hq => gx_thrown h hP hK hD hS ha hz hq) hS.2.2 (Nat.le_of_ble_eq_true rfl) (Nat.le_of_ble_eq_true rfl)
  · have h := h.2 c7
    obtain ⟨sa9, hs9⟩ := xE_text hE 106 "a job can not follow on itself" (by decide +kernel); exact vx_throwS (names := xSup) hx hb hl9 hown (by decide +kernel) (by decide +kernel) (hts _ wd_224) (hts _ wd_56) hs9 (tw_iae hts (xE_face hE)) tg_iae (xE_U hE) (xE_N hE) hS (hl.1.trans hml.symm) dX0_then_26 dX0_then_29 dX0_then_30 dX0_then_32 dX0_then_35 (fun x hx => (hno x hx).elim) (Nat.le_of_ble_eq_true rfl) (Nat.le_of_ble_eq_true rfl) (Nat.le_of_ble_eq_true rfl) (Nat.le_of_ble_eq_true rfl) hlocks (fun t ha hz hq => gx_thrown h hP hK hD hS ha hz hq) hS.2.2 (Nat.le_of_ble_eq_true rfl) (Nat.le_of_ble_eq_true rfl)

