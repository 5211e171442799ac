theorem dM6_shut_0 : decode prog_8_method_40_code 0 = .ok (.aload_n 0, 1) := by decide +kernel
theorem dM6_shut_1 : decode prog_8_method_40_code 1 = .ok (.iconst 0, 1) := by decide +kernel
theorem dM6_shut_2 : decode prog_8_method_40_code 2 = .ok (.putfield 85, 3) := by decide +kernel
theorem dM6_shut_5 : decode prog_8_method_40_code 5 = .ok (.aload_n 0, 1) := by decide +kernel
theorem dM6_shut_6 : decode prog_8_method_40_code 6 = .ok (.getfield 88, 3) := by decide +kernel
theorem dM6_shut_9 : decode prog_8_method_40_code 9 = .ok (.ifCond .eq 9, 3) := by decide +kernel
theorem dM6_shut_12 : decode prog_8_method_40_code 12 = .ok (.aload_n 0, 1) := by decide +kernel
theorem dM6_shut_13 : decode prog_8_method_40_code 13 = .ok (.iconst 1, 1) := by decide +kernel
theorem dM6_shut_14 : decode prog_8_method_40_code 14 = .ok (.invokevirtual 108, 3) := by decide +kernel
theorem dM6_shut_17 : decode prog_8_method_40_code 17 = .ok (.ireturn, 1) := by decide +kernel
theorem dM6_shut_18 : decode prog_8_method_40_code 18 = .ok (.aload_n 0, 1) := by decide +kernel
theorem dM6_shut_19 : decode prog_8_method_40_code 19 = .ok (.iconst 1, 1) := by decide +kernel
theorem dM6_shut_20 : decode prog_8_method_40_code 20 = .ok (.putfield 88, 3) := by decide +kernel
theorem dM6_shut_23 : decode prog_8_method_40_code 23 = .ok (.iconst 0, 1) := by decide +kernel
theorem dM6_shut_24 : decode prog_8_method_40_code 24 = .ok (.istore_n 2, 1) := by decide +kernel
theorem dM6_shut_25 : decode prog_8_method_40_code 25 = .ok (.iload_n 1, 1) := by decide +kernel
theorem dM6_shut_26 : decode prog_8_method_40_code 26 = .ok (.ifCond .eq 27, 3) := by decide +kernel
theorem dM6_shut_29 : decode prog_8_method_40_code 29 = .ok (.aload_n 0, 1) := by decide +kernel
theorem dM6_shut_30 : decode prog_8_method_40_code 30 = .ok (.getfield 91, 3) := by decide +kernel
theorem dM6_shut_33 : decode prog_8_method_40_code 33 = .ok (.ifCond .le 20, 3) := by decide +kernel
theorem dM6_shut_36 : decode prog_8_method_40_code 36 = .ok (.aload_n 0, 1) := by decide +kernel
theorem dM6_shut_37 : decode prog_8_method_40_code 37 = .ok (.getfield 22, 3) := by decide +kernel
theorem dM6_shut_40 : decode prog_8_method_40_code 40 = .ok (.aload_n 0, 1) := by decide +kernel
theorem dM6_shut_41 : decode prog_8_method_40_code 41 = .ok (.iconst 0, 1) := by decide +kernel
theorem dM6_shut_42 : decode prog_8_method_40_code 42 = .ok (.invokevirtual 138, 3) := by decide +kernel
theorem dM6_shut_45 : decode prog_8_method_40_code 45 = .ok (.iconst 5, 1) := by decide +kernel
theorem dM6_shut_46 : decode prog_8_method_40_code 46 = .ok (.iastore, 1) := by decide +kernel
theorem dM6_shut_47 : decode prog_8_method_40_code 47 = .ok (.iinc 2 1, 3) := by decide +kernel
theorem dM6_shut_50 : decode prog_8_method_40_code 50 = .ok (.goto (-25), 3) := by decide +kernel
theorem dM6_shut_53 : decode prog_8_method_40_code 53 = .ok (.iconst 0, 1) := by decide +kernel
theorem dM6_shut_54 : decode prog_8_method_40_code 54 = .ok (.istore_n 3, 1) := by decide +kernel
theorem dM6_shut_55 : decode prog_8_method_40_code 55 = .ok (.iload_n 1, 1) := by decide +kernel
theorem dM6_shut_56 : decode prog_8_method_40_code 56 = .ok (.ifCond .eq 46, 3) := by decide +kernel
theorem dM6_shut_59 : decode prog_8_method_40_code 59 = .ok (.iload_n 3, 1) := by decide +kernel
theorem dM6_shut_60 : decode prog_8_method_40_code 60 = .ok (.aload_n 0, 1) := by decide +kernel
theorem dM6_shut_61 : decode prog_8_method_40_code 61 = .ok (.getfield 98, 3) := by decide +kernel
theorem dM6_shut_64 : decode prog_8_method_40_code 64 = .ok (.if_icmp .ge 38, 3) := by decide +kernel
theorem dM6_shut_67 : decode prog_8_method_40_code 67 = .ok (.aload_n 0, 1) := by decide +kernel
theorem dM6_shut_68 : decode prog_8_method_40_code 68 = .ok (.getfield 37, 3) := by decide +kernel
theorem dM6_shut_71 : decode prog_8_method_40_code 71 = .ok (.iload_n 3, 1) := by decide +kernel
theorem dM6_shut_72 : decode prog_8_method_40_code 72 = .ok (.iaload, 1) := by decide +kernel
theorem dM6_shut_73 : decode prog_8_method_40_code 73 = .ok (.ifCond .lt 23, 3) := by decide +kernel
theorem dM6_shut_76 : decode prog_8_method_40_code 76 = .ok (.aload_n 0, 1) := by decide +kernel
theorem dM6_shut_77 : decode prog_8_method_40_code 77 = .ok (.getfield 22, 3) := by decide +kernel
theorem dM6_shut_80 : decode prog_8_method_40_code 80 = .ok (.aload_n 0, 1) := by decide +kernel
theorem dM6_shut_81 : decode prog_8_method_40_code 81 = .ok (.getfield 37, 3) := by decide +kernel
theorem dM6_shut_84 : decode prog_8_method_40_code 84 = .ok (.iload_n 3, 1) := by decide +kernel
theorem dM6_shut_85 : decode prog_8_method_40_code 85 = .ok (.iaload, 1) := by decide +kernel
theorem dM6_shut_86 : decode prog_8_method_40_code 86 = .ok (.iconst 5, 1) := by decide +kernel
theorem dM6_shut_87 : decode prog_8_method_40_code 87 = .ok (.iastore, 1) := by decide +kernel
theorem dM6_shut_88 : decode prog_8_method_40_code 88 = .ok (.iinc 2 1, 3) := by decide +kernel
theorem dM6_shut_91 : decode prog_8_method_40_code 91 = .ok (.aload_n 0, 1) := by decide +kernel
theorem dM6_shut_92 : decode prog_8_method_40_code 92 = .ok (.iload_n 3, 1) := by decide +kernel
theorem dM6_shut_93 : decode prog_8_method_40_code 93 = .ok (.invokevirtual 144, 3) := by decide +kernel
theorem dM6_shut_96 : decode prog_8_method_40_code 96 = .ok (.iinc 3 1, 3) := by decide +kernel
theorem dM6_shut_99 : decode prog_8_method_40_code 99 = .ok (.goto (-44), 3) := by decide +kernel
theorem dM6_shut_102 : decode prog_8_method_40_code 102 = .ok (.aload_n 0, 1) := by decide +kernel
theorem dM6_shut_103 : decode prog_8_method_40_code 103 = .ok (.iload_n 2, 1) := by decide +kernel
theorem dM6_shut_104 : decode prog_8_method_40_code 104 = .ok (.invokevirtual 115, 3) := by decide +kernel
theorem dM6_shut_107 : decode prog_8_method_40_code 107 = .ok (.ireturn, 1) := by decide +kernel
def wpM6_shut_55 (K : KM) (post : Int32 → gS → Prop) (k25 : Int32 → Int32 → gS → Prop) : Nat → Int32 → Int32 → Int32 → gS → Prop
  | 0 => fun _ _ _ _ => False
  | n + 1 => fun l1 l2 l3 u => ((l1 = 0 → (wpM6_end K (fun (r6 : Int32) (u7 : gS) => post r6 u7) u l2)) ∧ (¬ l1 = 0 → ((((sI u 3) ≤ l3 → (wpM6_end K (fun (r9 : Int32) (u10 : gS) => post r9 u10) u l2)) ∧ (¬ (sI u 3) ≤ l3 → (vp_in l3 8 ∧ ((((sA u 9 l3.toNatClampNeg) < 0 → (∀ x12 : Int32, x12 = l3 + 1 → (wpM6_shut_55 K post k25 n l1 l2 x12 u))) ∧ (¬ (sA u 9 l3.toNatClampNeg) < 0 → (vp_in l3 8 ∧ (vp_in (sA u 9 l3.toNatClampNeg) 24 ∧ (∀ u13 : gS, u13 = tA u 4 ((sA u 9 l3.toNatClampNeg).toNatClampNeg) 5 → (∀ x14 : Int32, x14 = l2 + 1 → (wpM6_rest K (fun (u16 : gS) => ∀ x17 : Int32, x17 = l3 + 1 → (wpM6_shut_55 K post k25 n l1 x14 x17 u16)) u13 l3))))))))))))))

def wpM6_shut_25 (K : KM) (post : Int32 → gS → Prop) : Nat → Int32 → Int32 → gS → Prop
  | 0 => fun _ _ _ => False
  | n + 1 => fun l1 l2 u => ((l1 = 0 → (∃ n55 : Nat, wpM6_shut_55 K post (fun l1 l2 u => wpM6_shut_25 K post n l1 l2 u) n55 l1 l2 0 u)) ∧ (¬ l1 = 0 → ((((sI u 6) ≤ 0 → (∃ n55 : Nat, wpM6_shut_55 K post (fun l1 l2 u => wpM6_shut_25 K post n l1 l2 u) n55 l1 l2 0 u)) ∧ (¬ (sI u 6) ≤ 0 → (wpM6_dequeue K (fun (r19 : Int32) (u20 : gS) => vp_in r19 24 ∧ (∀ u21 : gS, u21 = tA u20 4 r19.toNatClampNeg 5 → (∀ x22 : Int32, x22 = l2 + 1 → (wpM6_shut_25 K post n l1 x22 u21)))) u 0))))))

def wpM6_shut (K : KM) (post : Int32 → gS → Prop) (u : gS) (p1 : Int32) : Prop :=
  ∀ u1 : gS, u1 = tI u 0 0 → ((((sI u1 2) = 0 → (∀ u3 : gS, u3 = tI u1 2 1 → (∃ n25 : Nat, wpM6_shut_25 K post n25 p1 0 u3))) ∧ (¬ (sI u1 2) = 0 → (wpM6_fail K (fun (r23 : Int32) (u24 : gS) => post r23 u24) u1 1))))

set_option maxHeartbeats 8000000 in
set_option maxRecDepth 100000 in
theorem wpM6_shut_55_ok {p : Program} {l : Launch} {e : Env} {s : State} {m : MethodId} {args : Array Value} {below : List Frame} {meth : Method} {c : Code} {dC : Nat → ClassId} {dI : Nat → Nat → Nat} {ad : Nat → Nat} {ca : Nat → ClassId} {K : KM} {A : Nat → Prop} {post : Int32 → gS → Prop}   (hx : p.tables.exec = Jvm.exec) (hb : c.code = prog_8_method_40_code) (hr : meth.sig.returnType = (some .int)) (hml : c.maxLocals = 4) (hown : s.vm.findClass RX6 = some m.cls) (hts : ∀ w ∈ gW, w.before args s = true) (hlocks : meth.locks = false) (hK : va_K (dC, dI) vwCl (mT ca) s) (hA : ∀ q, s.heap.size ≤ q → A q) (hE : mE A s s.heap) (k25 : Int32 → Int32 → gS → Prop) (hk25 : ∀ (l1 : Int32) (l2 : Int32) (u : gS) (H : Heap) (locs : List Loc) (ls : Array Slot), k25 l1 l2 u → va_P (dC, dI) vwCl (wM ad ca K u) H → va_D A (wM ad ca K u) → va_S A s.heap H locs → lv_has ls 4 [(0, .ref (ad 0)), (1, .int l1), (2, .int l2)] → W p l e (headSpec (gw ⟨"WorkHallModel", "shut", "(Z)I"⟩ prog_8_method_40_code 4 (some .int)) ({ frames := 3, cells := 0, slots := 0, locals := 120 } : Room)).room s m args below meth c H locs 0 0 (MQ below (va_Qi post (gAt (dC, dI) vwCl (mT ca) (wM ad ca K) (A)) (A)) args s 0 0 A) (F0 m 25 ls [])) :
    ∀ (n : Nat) (l1 : Int32) (l2 : Int32) (l3 : Int32) (u : gS) (H : Heap) (locs : List Loc) (ls : Array Slot), wpM6_shut_55 K post k25 n l1 l2 l3 u → va_P (dC, dI) vwCl (wM ad ca K u) H → va_D A (wM ad ca K u) → va_S A s.heap H locs → lv_has ls 4 [(0, .ref (ad 0)), (1, .int l1), (2, .int l2), (3, .int l3)] → W p l e (headSpec (gw ⟨"WorkHallModel", "shut", "(Z)I"⟩ prog_8_method_40_code 4 (some .int)) ({ frames := 3, cells := 0, slots := 0, locals := 120 } : Room)).room s m args below meth c H locs 0 0 (MQ below (va_Qi post (gAt (dC, dI) vwCl (mT ca) (wM ad ca K) (A)) (A)) args s 0 0 A) (F0 m 55 ls []) := by
  intro n
  induction n with
  | zero => exact fun _ _ _ _ _ _ _ h => h.elim
  | succ n ih =>
    intro l1 l2 l3 u H locs ls h hP hD hS hl
    refine lv_iload_n hx hb dM6_shut_55 rfl (lv_at hl 1 rfl) ?_
    refine lv_if_eq (tgt := 102) hx hb dM6_shut_56 (by decide) (fun c5 => ?_) (fun c5 => ?_)
    · have h := h.1 c5
      refine lv_aload_n hx hb dM6_shut_102 rfl (lv_at hl 0 rfl) ?_
      refine lv_iload_n hx hb dM6_shut_103 rfl (lv_at hl 2 rfl) ?_
      refine gc_i (w := wM ad ca K) (u := u) (va_runV (As := [.int l2]) (rest := []) ⟨hx, hb, hml, hown, hts⟩ (cM6_end l dC dI ad ca K H.size u l2 _ h) (cwV 1 hts (gG_V wd_829 wd_831 wd_19 wd_52 wd_832) rfl rfl rfl (by decide +kernel) ⟨Nat.le_of_ble_eq_true rfl, Nat.le_of_ble_eq_true rfl⟩) ⟨gB_blind mE_ok, va_recv hK hP (ci := 6) (q0 := 0) rfl rfl, gB_pre mE_ok hP hK hD hE hS hA⟩ rfl rfl hl.1 rfl (lv_room (Nat.le_of_ble_eq_true rfl)) dM6_shut_104 ⟨Nat.le_of_ble_eq_true rfl, Nat.le_of_ble_eq_true rfl⟩) hD hS hA (fun r6 u7 H locs h hP hD hS => ?_)
      exact gr_i (w := wM ad ca K) (u := u7) hx hb hr hlocks h hP hK hD hS dM6_shut_107
    · have h := h.2 c5
      refine lv_iload_n hx hb dM6_shut_59 rfl (lv_at hl 3 rfl) ?_
      refine lv_aload_n hx hb dM6_shut_60 rfl (lv_at hl 0 rfl) ?_
      refine va_get (D := (dC, dI)) (ci := 6) (v := .int (sI u 3)) (C := RX6) (T := TX6) (N := 36) hx hb hts uwX6 hown hK hP 0 rfl rfl 19 (by decide) (hts _ wd_722) (fun _ h9 => h9) rfl dM6_shut_61 ?_
      refine lv_icmp_ge (tgt := 102) hx hb dM6_shut_64 (by decide) (fun c8 => ?_) (fun c8 => ?_)
      · have h := h.1 c8
        refine lv_aload_n hx hb dM6_shut_102 rfl (lv_at hl 0 rfl) ?_
        refine lv_iload_n hx hb dM6_shut_103 rfl (lv_at hl 2 rfl) ?_
        refine gc_i (w := wM ad ca K) (u := u) (va_runV (As := [.int l2]) (rest := []) ⟨hx, hb, hml, hown, hts⟩ (cM6_end l dC dI ad ca K H.size u l2 _ h) (cwV 1 hts (gG_V wd_829 wd_831 wd_19 wd_52 wd_832) rfl rfl rfl (by decide +kernel) ⟨Nat.le_of_ble_eq_true rfl, Nat.le_of_ble_eq_true rfl⟩) ⟨gB_blind mE_ok, va_recv hK hP (ci := 6) (q0 := 0) rfl rfl, gB_pre mE_ok hP hK hD hE hS hA⟩ rfl rfl hl.1 rfl (lv_room (Nat.le_of_ble_eq_true rfl)) dM6_shut_104 ⟨Nat.le_of_ble_eq_true rfl, Nat.le_of_ble_eq_true rfl⟩) hD hS hA (fun r9 u10 H locs h hP hD hS => ?_)
        exact gr_i (w := wM ad ca K) (u := u10) hx hb hr hlocks h hP hK hD hS dM6_shut_107
      · have h := h.2 c8
        refine lv_aload_n hx hb dM6_shut_67 rfl (lv_at hl 0 rfl) ?_
        refine va_get (D := (dC, dI)) (ci := 6) (v := .ref (ad 10)) (C := RX6) (T := TX6) (N := 36) hx hb hts uwX6 hown hK hP 0 rfl rfl 16 (by decide) (hts _ wd_719) (fun _ h9 => h9) rfl dM6_shut_68 ?_
        refine lv_iload_n hx hb dM6_shut_71 rfl (lv_at hl 3 rfl) ?_
        refine va_iald hx hb hK hP 10 0 rfl rfl h.1 dM6_shut_72 ?_
        have h := h.2
        refine lv_if_lt (tgt := 96) hx hb dM6_shut_73 (by decide) (fun c11 => ?_) (fun c11 => ?_)
        · have h := h.1 c11
          obtain ⟨x12, ex12⟩ : ∃ y : Int32, y = l3 + 1 := ⟨_, rfl⟩
          have h := h x12 ex12
          refine lv_iinc (v := x12) (lv' := [(3, .int x12), (0, .ref (ad 0)), (1, .int l1), (2, .int l2)]) hx hb dM6_shut_96 hl (k := 3) rfl (by rw [ex12]; rfl) (by decide) rfl (fun ls hl => ?_)
          refine lv_goto (tgt := 55) hx hb dM6_shut_99 (by decide) ?_
          exact ih l1 l2 x12 u _ _ _ h hP hD hS (lv_sub hl [1, 2, 3, 0] rfl)
        · have h := h.2 c11
          refine lv_aload_n hx hb dM6_shut_76 rfl (lv_at hl 0 rfl) ?_
          refine va_get (D := (dC, dI)) (ci := 6) (v := .ref (ad 5)) (C := RX6) (T := TX6) (N := 36) hx hb hts uwX6 hown hK hP 0 rfl rfl 9 (by decide) (hts _ wd_712) (fun _ h9 => h9) rfl dM6_shut_77 ?_
          refine lv_aload_n hx hb dM6_shut_80 rfl (lv_at hl 0 rfl) ?_
          refine va_get (D := (dC, dI)) (ci := 6) (v := .ref (ad 10)) (C := RX6) (T := TX6) (N := 36) hx hb hts uwX6 hown hK hP 0 rfl rfl 16 (by decide) (hts _ wd_719) (fun _ h9 => h9) rfl dM6_shut_81 ?_
          refine lv_iload_n hx hb dM6_shut_84 rfl (lv_at hl 3 rfl) ?_
          refine va_iald hx hb hK hP 10 0 rfl rfl h.1 dM6_shut_85 ?_
          have h := h.2
          refine lv_iconst (v := 5) hx hb dM6_shut_86 (by decide) ?_
          refine va_iast hx hb hK hP hD hS 5 0 rfl rfl h.1 dM6_shut_87 (fun H locs hP hD hS => ?_)
          have h := h.2
          obtain ⟨u13, eu13⟩ : ∃ z : gS, z = tA u 4 ((sA u 9 l3.toNatClampNeg).toNatClampNeg) 5 := ⟨_, rfl⟩
          have hP : va_P (dC, dI) vwCl (wM ad ca K u13) H := by rw [eu13, wM_a5]; exact hP
          have hD : va_D A (wM ad ca K u13) := by rw [eu13, wM_a5]; exact hD
          have h := h u13 eu13
          obtain ⟨x14, ex14⟩ : ∃ y : Int32, y = l2 + 1 := ⟨_, rfl⟩
          have h := h x14 ex14
          refine lv_iinc (v := x14) (lv' := [(2, .int x14), (0, .ref (ad 0)), (1, .int l1), (3, .int l3)]) hx hb dM6_shut_88 hl (k := 2) rfl (by rw [ex14]; rfl) (by decide) rfl (fun ls hl => ?_)
          refine lv_aload_n hx hb dM6_shut_91 rfl (lv_at hl 1 rfl) ?_
          refine lv_iload_n hx hb dM6_shut_92 rfl (lv_at hl 3 rfl) ?_
          refine gc_v (w := wM ad ca K) (u := u13) (va_runV (As := [.int l3]) (rest := []) ⟨hx, hb, hml, hown, hts⟩ (cM6_rest l dC dI ad ca K H.size u13 l3 _ h) (cwV 1 hts (gG_V wd_921 wd_923 wd_39 wd_52 wd_924) rfl rfl rfl (by decide +kernel) ⟨Nat.le_of_ble_eq_true rfl, Nat.le_of_ble_eq_true rfl⟩) ⟨gB_blind mE_ok, va_recv hK hP (ci := 6) (q0 := 0) rfl rfl, gB_pre mE_ok hP hK hD hE hS hA⟩ rfl rfl hl.1 rfl (lv_room (Nat.le_of_ble_eq_true rfl)) dM6_shut_93 ⟨Nat.le_of_ble_eq_true rfl, Nat.le_of_ble_eq_true rfl⟩) hD hS hA (fun u16 H locs h hP hD hS => ?_)
          obtain ⟨x17, ex17⟩ : ∃ y : Int32, y = l3 + 1 := ⟨_, rfl⟩
          have h := h x17 ex17
          refine lv_iinc (v := x17) (lv' := [(3, .int x17), (2, .int x14), (0, .ref (ad 0)), (1, .int l1)]) hx hb dM6_shut_96 hl (k := 3) rfl (by rw [ex17]; rfl) (by decide) rfl (fun ls hl => ?_)
          refine lv_goto (tgt := 55) hx hb dM6_shut_99 (by decide) ?_
          exact ih l1 x14 x17 u16 _ _ _ h hP hD hS (lv_sub hl [2, 3, 1, 0] rfl)

set_option maxHeartbeats 8000000 in
set_option maxRecDepth 100000 in
theorem wpM6_shut_25_ok {p : Program} {l : Launch} {e : Env} {s : State} {m : MethodId} {args : Array Value} {below : List Frame} {meth : Method} {c : Code} {dC : Nat → ClassId} {dI : Nat → Nat → Nat} {ad : Nat → Nat} {ca : Nat → ClassId} {K : KM} {A : Nat → Prop} {post : Int32 → gS → Prop}   (hx : p.tables.exec = Jvm.exec) (hb : c.code = prog_8_method_40_code) (hr : meth.sig.returnType = (some .int)) (hml : c.maxLocals = 4) (hown : s.vm.findClass RX6 = some m.cls) (hts : ∀ w ∈ gW, w.before args s = true) (hlocks : meth.locks = false) (hK : va_K (dC, dI) vwCl (mT ca) s) (hA : ∀ q, s.heap.size ≤ q → A q) (hE : mE A s s.heap) :
    ∀ (n : Nat) (l1 : Int32) (l2 : Int32) (u : gS) (H : Heap) (locs : List Loc) (ls : Array Slot), wpM6_shut_25 K post n l1 l2 u → va_P (dC, dI) vwCl (wM ad ca K u) H → va_D A (wM ad ca K u) → va_S A s.heap H locs → lv_has ls 4 [(0, .ref (ad 0)), (1, .int l1), (2, .int l2)] → W p l e (headSpec (gw ⟨"WorkHallModel", "shut", "(Z)I"⟩ prog_8_method_40_code 4 (some .int)) ({ frames := 3, cells := 0, slots := 0, locals := 120 } : Room)).room s m args below meth c H locs 0 0 (MQ below (va_Qi post (gAt (dC, dI) vwCl (mT ca) (wM ad ca K) (A)) (A)) args s 0 0 A) (F0 m 25 ls []) := by
  intro n
  induction n with
  | zero => exact fun _ _ _ _ _ _ h => h.elim
  | succ n ih =>
    intro l1 l2 u H locs ls h hP hD hS hl
    refine lv_iload_n hx hb dM6_shut_25 rfl (lv_at hl 1 rfl) ?_
    refine lv_if_eq (tgt := 53) hx hb dM6_shut_26 (by decide) (fun c4 => ?_) (fun c4 => ?_)
    · have h := h.1 c4
      refine lv_iconst (v := 0) hx hb dM6_shut_53 (by decide) ?_
      refine lv_istore_n (lv' := [(3, .int 0), (0, .ref (ad 0)), (1, .int l1), (2, .int l2)]) hx hb dM6_shut_54 rfl hl (by decide) rfl (fun ls hl => ?_)
      obtain ⟨n55, h⟩ := h
      exact wpM6_shut_55_ok hx hb hr hml hown hts hlocks hK hA hE _ ih n55 l1 l2 0 u _ _ _ h hP hD hS (lv_sub hl [1, 2, 3, 0] rfl)
    · have h := h.2 c4
      refine lv_aload_n hx hb dM6_shut_29 rfl (lv_at hl 0 rfl) ?_
      refine va_get (D := (dC, dI)) (ci := 6) (v := .int (sI u 6)) (C := RX6) (T := TX6) (N := 36) hx hb hts uwX6 hown hK hP 0 rfl rfl 24 (by decide) (hts _ wd_727) (fun _ h9 => h9) rfl dM6_shut_30 ?_
      refine lv_if_le (tgt := 53) hx hb dM6_shut_33 (by decide) (fun c18 => ?_) (fun c18 => ?_)
      · have h := h.1 c18
        refine lv_iconst (v := 0) hx hb dM6_shut_53 (by decide) ?_
        refine lv_istore_n (lv' := [(3, .int 0), (0, .ref (ad 0)), (1, .int l1), (2, .int l2)]) hx hb dM6_shut_54 rfl hl (by decide) rfl (fun ls hl => ?_)
        obtain ⟨n55, h⟩ := h
        exact wpM6_shut_55_ok hx hb hr hml hown hts hlocks hK hA hE _ ih n55 l1 l2 0 u _ _ _ h hP hD hS (lv_sub hl [1, 2, 3, 0] rfl)
      · have h := h.2 c18
        refine lv_aload_n hx hb dM6_shut_36 rfl (lv_at hl 0 rfl) ?_
        refine va_get (D := (dC, dI)) (ci := 6) (v := .ref (ad 5)) (C := RX6) (T := TX6) (N := 36) hx hb hts uwX6 hown hK hP 0 rfl rfl 9 (by decide) (hts _ wd_712) (fun _ h9 => h9) rfl dM6_shut_37 ?_
        refine lv_aload_n hx hb dM6_shut_40 rfl (lv_at hl 0 rfl) ?_
        refine lv_iconst (v := 0) hx hb dM6_shut_41 (by decide) ?_
        refine gc_i (w := wM ad ca K) (u := u) (va_runV (As := [.int 0]) (rest := [.ref (ad 5)]) ⟨hx, hb, hml, hown, hts⟩ (cM6_dequeue l dC dI ad ca K H.size u 0 _ h) (cwV 1 hts (gG_V wd_861 wd_863 wd_26 wd_52 wd_864) rfl rfl rfl (by decide +kernel) ⟨Nat.le_of_ble_eq_true rfl, Nat.le_of_ble_eq_true rfl⟩) ⟨gB_blind mE_ok, va_recv hK hP (ci := 6) (q0 := 0) rfl rfl, gB_pre mE_ok hP hK hD hE hS hA⟩ rfl rfl hl.1 rfl (lv_room (Nat.le_of_ble_eq_true rfl)) dM6_shut_42 ⟨Nat.le_of_ble_eq_true rfl, Nat.le_of_ble_eq_true rfl⟩) hD hS hA (fun r19 u20 H locs h hP hD hS => ?_)
        refine lv_iconst (v := 5) hx hb dM6_shut_45 (by decide) ?_
        refine va_iast hx hb hK hP hD hS 5 0 rfl rfl h.1 dM6_shut_46 (fun H locs hP hD hS => ?_)
        have h := h.2
        obtain ⟨u21, eu21⟩ : ∃ z : gS, z = tA u20 4 r19.toNatClampNeg 5 := ⟨_, rfl⟩
        have hP : va_P (dC, dI) vwCl (wM ad ca K u21) H := by rw [eu21, wM_a5]; exact hP
        have hD : va_D A (wM ad ca K u21) := by rw [eu21, wM_a5]; exact hD
        have h := h u21 eu21
        obtain ⟨x22, ex22⟩ : ∃ y : Int32, y = l2 + 1 := ⟨_, rfl⟩
        have h := h x22 ex22
        refine lv_iinc (v := x22) (lv' := [(2, .int x22), (0, .ref (ad 0)), (1, .int l1)]) hx hb dM6_shut_47 hl (k := 2) rfl (by rw [ex22]; rfl) (by decide) rfl (fun ls hl => ?_)
        refine lv_goto (tgt := 25) hx hb dM6_shut_50 (by decide) ?_
        exact ih l1 x22 u21 _ _ _ h hP hD hS (lv_sub hl [1, 2, 0] rfl)

set_option maxHeartbeats 8000000 in
set_option maxRecDepth 100000 in
theorem cM6_shut (l : Launch) (dC : Nat → ClassId) (dI : Nat → Nat → Nat) (ad : Nat → Nat) (ca : Nat → ClassId) (K : KM) (sz : Nat) (u : gS) (p1 : Int32) (post : Int32 → gS → Prop)  (h : wpM6_shut K post u p1) : Met l ⟨"WorkHallModel", "shut", "(Z)I"⟩ (gw ⟨"WorkHallModel", "shut", "(Z)I"⟩ prog_8_method_40_code 4 (some .int)) ({ frames := 3, cells := 0, slots := 0, locals := 120 } : Room) (va_Pc [.ref (ad 0), .int p1] (gB (dC, dI) vwCl (mT ca) mE (wM ad ca K u) sz)) (va_Qi post (gAt (dC, dI) vwCl (mT ca) (wM ad ca K) (va_A (wM ad ca K u) sz)) (va_A (wM ad ca K u) sz)) 0 0 (va_A (wM ad ca K u) sz) := by
  refine Met.ofW (cc := prog_8_method_40_code) (maxL := 4) (ret := (some .int)) (by decide) rfl ?_
  intro p e s m args below meth c s₁ B hml hv
  obtain ⟨rfl, hsz, hP, hK, hD0, hE⟩ := hv
  have hx := B.exec
  have hb := B.bytes
  have hr := B.returns
  have hts : ∀ w ∈ gW, w.before _ s = true := fun w h9 => atoms_spec (ws := (gw ⟨"WorkHallModel", "shut", "(Z)I"⟩ prog_8_method_40_code 4 (some .int))) B.pre w (List.mem_cons_of_mem _ h9)
  have hown : s.vm.findClass RX6 = some m.cls := findClass_of_methodNamed B.named
  have hlocks := B.notSynchronized
  subst hsz
  have hD := hD0.self (sz := s.heap.size)
  generalize hAe : va_A (wM ad ca K u) s.heap.size = A at hD hE ⊢
  have hA : ∀ q : Nat, s.heap.size ≤ q → A q := fun q h => by rw [← hAe]; exact Or.inr h
  obtain ⟨H, hHe⟩ : ∃ z : Heap, z = s.heap := ⟨_, rfl⟩
  rw [← hHe]
  have hS : va_S A s.heap H [] := by rw [hHe]; exact va_S.rf
  have hP : va_P (dC, dI) vwCl (wM ad ca K u) H := by rw [hHe]; exact hP
  have hl := lv_entry ([.ref (ad 0), .int p1]) (n := 4) (Nat.le_of_ble_eq_true rfl)
  rw [lg_entry_eq]
  generalize (lg_sl ([.ref (ad 0), .int p1]) ++ List.replicate (4 - (lg_sl ([.ref (ad 0), .int p1])).length) Slot.unset).toArray = ls at hl ⊢
  have hl : lv_has ls 4 [(0, .ref (ad 0)), (1, .int p1)] := hl
  clear hAe
  refine lv_aload_n hx hb dM6_shut_0 rfl (lv_at hl 0 rfl) ?_
  refine lv_iconst (v := 0) hx hb dM6_shut_1 (by decide) ?_
  refine va_put (D := (dC, dI)) (ci := 6) (v := .int 0) (ty := tyX6 0) (C := RX6) (T := TX6) (N := 36) hx hb hts uwX6 tyX6 tyX6_ok nmX6 hown hK hP hD hS 0 rfl rfl 0 (by decide) (hts _ wd_703) (fun _ h9 => h9) rfl (tyX6_ok 0 (by decide)) rfl rfl (Nat.le_of_ble_eq_true rfl) dM6_shut_2 (fun H locs hP hD hS => ?_)
  obtain ⟨u1, eu1⟩ : ∃ z : gS, z = tI u 0 0 := ⟨_, rfl⟩
  have hP : va_P (dC, dI) vwCl (wM ad ca K u1) H := by rw [eu1, wM_f0_failed]; exact hP
  have hD : va_D A (wM ad ca K u1) := by rw [eu1, wM_f0_failed]; exact hD
  have h := h u1 eu1
  refine lv_aload_n hx hb dM6_shut_5 rfl (lv_at hl 0 rfl) ?_
  refine va_get (D := (dC, dI)) (ci := 6) (v := .int (sI u1 2)) (C := RX6) (T := TX6) (N := 36) hx hb hts uwX6 hown hK hP 0 rfl rfl 14 (by decide) (hts _ wd_717) (fun _ h9 => h9) rfl dM6_shut_6 ?_
  refine lv_if_eq (tgt := 18) hx hb dM6_shut_9 (by decide) (fun c2 => ?_) (fun c2 => ?_)
  · have h := h.1 c2
    refine lv_aload_n hx hb dM6_shut_18 rfl (lv_at hl 0 rfl) ?_
    refine lv_iconst (v := 1) hx hb dM6_shut_19 (by decide) ?_
    refine va_put (D := (dC, dI)) (ci := 6) (v := .int 1) (ty := tyX6 14) (C := RX6) (T := TX6) (N := 36) hx hb hts uwX6 tyX6 tyX6_ok nmX6 hown hK hP hD hS 0 rfl rfl 14 (by decide) (hts _ wd_717) (fun _ h9 => h9) rfl (tyX6_ok 14 (by decide)) rfl rfl (Nat.le_of_ble_eq_true rfl) dM6_shut_20 (fun H locs hP hD hS => ?_)
    obtain ⟨u3, eu3⟩ : ∃ z : gS, z = tI u1 2 1 := ⟨_, rfl⟩
    have hP : va_P (dC, dI) vwCl (wM ad ca K u3) H := by rw [eu3, wM_f0_pool]; exact hP
    have hD : va_D A (wM ad ca K u3) := by rw [eu3, wM_f0_pool]; exact hD
    have h := h u3 eu3
    refine lv_iconst (v := 0) hx hb dM6_shut_23 (by decide) ?_
    refine lv_istore_n (lv' := [(2, .int 0), (0, .ref (ad 0)), (1, .int p1)]) hx hb dM6_shut_24 rfl hl (by decide) rfl (fun ls hl => ?_)
    obtain ⟨n25, h⟩ := h
    exact wpM6_shut_25_ok hx hb hr hml hown hts hlocks hK hA hE n25 p1 0 u3 _ _ _ h hP hD hS (lv_sub hl [1, 2, 0] rfl)
  · have h := h.2 c2
    refine lv_aload_n hx hb dM6_shut_12 rfl (lv_at hl 0 rfl) ?_
    refine lv_iconst (v := 1) hx hb dM6_shut_13 (by decide) ?_
    refine gc_i (w := wM ad ca K) (u := u1) (va_runV (As := [.int 1]) (rest := []) ⟨hx, hb, hml, hown, hts⟩ (cM6_fail l dC dI ad ca K H.size u1 1 _ h) (cwV 1 hts (gG_V wd_825 wd_827 wd_18 wd_52 wd_828) rfl rfl rfl (by decide +kernel) ⟨Nat.le_of_ble_eq_true rfl, Nat.le_of_ble_eq_true rfl⟩) ⟨gB_blind mE_ok, va_recv hK hP (ci := 6) (q0 := 0) rfl rfl, gB_pre mE_ok hP hK hD hE hS hA⟩ rfl rfl hl.1 rfl (lv_room (Nat.le_of_ble_eq_true rfl)) dM6_shut_14 ⟨Nat.le_of_ble_eq_true rfl, Nat.le_of_ble_eq_true rfl⟩) hD hS hA (fun r23 u24 H locs h hP hD hS => ?_)
    exact gr_i (w := wM ad ca K) (u := u24) hx hb hr hlocks h hP hK hD hS dM6_shut_17

theorem dM6_about_0 : decode prog_8_method_41_code 0 = .ok (.aload_n 0, 1) := by decide +kernel
theorem dM6_about_1 : decode prog_8_method_41_code 1 = .ok (.iconst 0, 1) := by decide +kernel
theorem dM6_about_2 : decode prog_8_method_41_code 2 = .ok (.putfield 85, 3) := by decide +kernel
theorem dM6_about_5 : decode prog_8_method_41_code 5 = .ok (.aload_n 0, 1) := by decide +kernel
theorem dM6_about_6 : decode prog_8_method_41_code 6 = .ok (.iload_n 1, 1) := by decide +kernel
theorem dM6_about_7 : decode prog_8_method_41_code 7 = .ok (.bipush 24, 2) := by decide +kernel
theorem dM6_about_9 : decode prog_8_method_41_code 9 = .ok (.invokevirtual 104, 3) := by decide +kernel
theorem dM6_about_12 : decode prog_8_method_41_code 12 = .ok (.ifCond .ne 12, 3) := by decide +kernel
theorem dM6_about_15 : decode prog_8_method_41_code 15 = .ok (.aload_n 0, 1) := by decide +kernel
theorem dM6_about_16 : decode prog_8_method_41_code 16 = .ok (.iload_n 2, 1) := by decide +kernel
theorem dM6_about_17 : decode prog_8_method_41_code 17 = .ok (.iconst 5, 1) := by decide +kernel
theorem dM6_about_18 : decode prog_8_method_41_code 18 = .ok (.invokevirtual 104, 3) := by decide +kernel
theorem dM6_about_21 : decode prog_8_method_41_code 21 = .ok (.ifCond .eq 9, 3) := by decide +kernel
theorem dM6_about_24 : decode prog_8_method_41_code 24 = .ok (.aload_n 0, 1) := by decide +kernel
theorem dM6_about_25 : decode prog_8_method_41_code 25 = .ok (.iconst 1, 1) := by decide +kernel
theorem dM6_about_26 : decode prog_8_method_41_code 26 = .ok (.invokevirtual 108, 3) := by decide +kernel
theorem dM6_about_29 : decode prog_8_method_41_code 29 = .ok (.ireturn, 1) := by decide +kernel
theorem dM6_about_30 : decode prog_8_method_41_code 30 = .ok (.iload_n 1, 1) := by decide +kernel
theorem dM6_about_31 : decode prog_8_method_41_code 31 = .ok (.aload_n 0, 1) := by decide +kernel
theorem dM6_about_32 : decode prog_8_method_41_code 32 = .ok (.getfield 112, 3) := by decide +kernel
theorem dM6_about_35 : decode prog_8_method_41_code 35 = .ok (.if_icmp .lt 9, 3) := by decide +kernel
theorem dM6_about_38 : decode prog_8_method_41_code 38 = .ok (.aload_n 0, 1) := by decide +kernel
theorem dM6_about_39 : decode prog_8_method_41_code 39 = .ok (.iconst 2, 1) := by decide +kernel
theorem dM6_about_40 : decode prog_8_method_41_code 40 = .ok (.invokevirtual 108, 3) := by decide +kernel
theorem dM6_about_43 : decode prog_8_method_41_code 43 = .ok (.ireturn, 1) := by decide +kernel
theorem dM6_about_44 : decode prog_8_method_41_code 44 = .ok (.iload_n 2, 1) := by decide +kernel
theorem dM6_about_45 : decode prog_8_method_41_code 45 = .ok (.ifCond .ne 10, 3) := by decide +kernel
theorem dM6_about_48 : decode prog_8_method_41_code 48 = .ok (.aload_n 0, 1) := by decide +kernel
theorem dM6_about_49 : decode prog_8_method_41_code 49 = .ok (.getfield 22, 3) := by decide +kernel
theorem dM6_about_52 : decode prog_8_method_41_code 52 = .ok (.iload_n 1, 1) := by decide +kernel
theorem dM6_about_53 : decode prog_8_method_41_code 53 = .ok (.iaload, 1) := by decide +kernel
theorem dM6_about_54 : decode prog_8_method_41_code 54 = .ok (.ireturn, 1) := by decide +kernel
theorem dM6_about_55 : decode prog_8_method_41_code 55 = .ok (.iload_n 2, 1) := by decide +kernel
theorem dM6_about_56 : decode prog_8_method_41_code 56 = .ok (.iconst 1, 1) := by decide +kernel
theorem dM6_about_57 : decode prog_8_method_41_code 57 = .ok (.if_icmp .ne 10, 3) := by decide +kernel
theorem dM6_about_60 : decode prog_8_method_41_code 60 = .ok (.aload_n 0, 1) := by decide +kernel
theorem dM6_about_61 : decode prog_8_method_41_code 61 = .ok (.getfield 7, 3) := by decide +kernel
theorem dM6_about_64 : decode prog_8_method_41_code 64 = .ok (.iload_n 1, 1) := by decide +kernel
theorem dM6_about_65 : decode prog_8_method_41_code 65 = .ok (.iaload, 1) := by decide +kernel
theorem dM6_about_66 : decode prog_8_method_41_code 66 = .ok (.ireturn, 1) := by decide +kernel
theorem dM6_about_67 : decode prog_8_method_41_code 67 = .ok (.iload_n 2, 1) := by decide +kernel
theorem dM6_about_68 : decode prog_8_method_41_code 68 = .ok (.iconst 2, 1) := by decide +kernel
theorem dM6_about_69 : decode prog_8_method_41_code 69 = .ok (.if_icmp .ne 10, 3) := by decide +kernel
theorem dM6_about_72 : decode prog_8_method_41_code 72 = .ok (.aload_n 0, 1) := by decide +kernel
theorem dM6_about_73 : decode prog_8_method_41_code 73 = .ok (.getfield 25, 3) := by decide +kernel
theorem dM6_about_76 : decode prog_8_method_41_code 76 = .ok (.iload_n 1, 1) := by decide +kernel
theorem dM6_about_77 : decode prog_8_method_41_code 77 = .ok (.iaload, 1) := by decide +kernel
theorem dM6_about_78 : decode prog_8_method_41_code 78 = .ok (.ireturn, 1) := by decide +kernel
theorem dM6_about_79 : decode prog_8_method_41_code 79 = .ok (.iload_n 2, 1) := by decide +kernel
theorem dM6_about_80 : decode prog_8_method_41_code 80 = .ok (.iconst 3, 1) := by decide +kernel
theorem dM6_about_81 : decode prog_8_method_41_code 81 = .ok (.if_icmp .ne 25, 3) := by decide +kernel
theorem dM6_about_84 : decode prog_8_method_41_code 84 = .ok (.aload_n 0, 1) := by decide +kernel
theorem dM6_about_85 : decode prog_8_method_41_code 85 = .ok (.iload_n 1, 1) := by decide +kernel
theorem dM6_about_86 : decode prog_8_method_41_code 86 = .ok (.invokevirtual 200, 3) := by decide +kernel
theorem dM6_about_89 : decode prog_8_method_41_code 89 = .ok (.ifCond .lt 11, 3) := by decide +kernel
theorem dM6_about_92 : decode prog_8_method_41_code 92 = .ok (.aload_n 0, 1) := by decide +kernel
theorem dM6_about_93 : decode prog_8_method_41_code 93 = .ok (.iload_n 1, 1) := by decide +kernel
theorem dM6_about_94 : decode prog_8_method_41_code 94 = .ok (.invokevirtual 200, 3) := by decide +kernel
theorem dM6_about_97 : decode prog_8_method_41_code 97 = .ok (.goto 8, 3) := by decide +kernel
theorem dM6_about_100 : decode prog_8_method_41_code 100 = .ok (.aload_n 0, 1) := by decide +kernel
theorem dM6_about_101 : decode prog_8_method_41_code 101 = .ok (.iload_n 1, 1) := by decide +kernel
theorem dM6_about_102 : decode prog_8_method_41_code 102 = .ok (.invokevirtual 203, 3) := by decide +kernel
theorem dM6_about_105 : decode prog_8_method_41_code 105 = .ok (.ireturn, 1) := by decide +kernel
theorem dM6_about_106 : decode prog_8_method_41_code 106 = .ok (.aload_n 0, 1) := by decide +kernel
theorem dM6_about_107 : decode prog_8_method_41_code 107 = .ok (.getfield 22, 3) := by decide +kernel
theorem dM6_about_110 : decode prog_8_method_41_code 110 = .ok (.iload_n 1, 1) := by decide +kernel
theorem dM6_about_111 : decode prog_8_method_41_code 111 = .ok (.iaload, 1) := by decide +kernel
theorem dM6_about_112 : decode prog_8_method_41_code 112 = .ok (.iconst 4, 1) := by decide +kernel
theorem dM6_about_113 : decode prog_8_method_41_code 113 = .ok (.if_icmp .ne 12, 3) := by decide +kernel
theorem dM6_about_116 : decode prog_8_method_41_code 116 = .ok (.aload_n 0, 1) := by decide +kernel
theorem dM6_about_117 : decode prog_8_method_41_code 117 = .ok (.getfield 31, 3) := by decide +kernel
theorem dM6_about_120 : decode prog_8_method_41_code 120 = .ok (.iload_n 1, 1) := by decide +kernel
theorem dM6_about_121 : decode prog_8_method_41_code 121 = .ok (.iaload, 1) := by decide +kernel
theorem dM6_about_122 : decode prog_8_method_41_code 122 = .ok (.goto 4, 3) := by decide +kernel
theorem dM6_about_125 : decode prog_8_method_41_code 125 = .ok (.iconst 0, 1) := by decide +kernel
theorem dM6_about_126 : decode prog_8_method_41_code 126 = .ok (.ireturn, 1) := by decide +kernel
def wpM6_about (K : KM) (post : Int32 → gS → Prop) (u : gS) (p1 : Int32) (p2 : Int32) : Prop :=
  ∀ u1 : gS, u1 = tI u 0 0 → (wpM6_out K (fun (r2 : Int32) (u3 : gS) => ((¬ r2 = 0 → (wpM6_fail K (fun (r5 : Int32) (u6 : gS) => post r5 u6) u3 1)) ∧ (r2 = 0 → (wpM6_out K (fun (r7 : Int32) (u8 : gS) => ((r7 = 0 → (((p1 < (sI u8 1) → (((¬ p2 = 0 → (((¬ p2 = 1 → (((¬ p2 = 2 → (((¬ p2 = 3 → (vp_in p1 24 ∧ (((¬ (sA u8 4 p1.toNatClampNeg) = 4 → (post 0 u8)) ∧ ((sA u8 4 p1.toNatClampNeg) = 4 → (vp_in p1 24 ∧ (post (sA u8 7 p1.toNatClampNeg) u8))))))) ∧ (p2 = 3 → (wpM6_placeInQueue K (fun (r16 : Int32) (u17 : gS) => ((r16 < 0 → (wpM6_workerOf K (fun (r19 : Int32) (u20 : gS) => post r19 u20) u17 p1)) ∧ (¬ r16 < 0 → (wpM6_placeInQueue K (fun (r21 : Int32) (u22 : gS) => post r21 u22) u17 p1)))) u8 p1))))) ∧ (p2 = 2 → (vp_in p1 24 ∧ (post (sA u8 5 p1.toNatClampNeg) u8)))))) ∧ (p2 = 1 → (vp_in p1 24 ∧ (post (sA u8 0 p1.toNatClampNeg) u8)))))) ∧ (p2 = 0 → (vp_in p1 24 ∧ (post (sA u8 4 p1.toNatClampNeg) u8)))))) ∧ (¬ p1 < (sI u8 1) → (wpM6_fail K (fun (r23 : Int32) (u24 : gS) => post r23 u24) u8 2))))) ∧ (¬ r7 = 0 → (wpM6_fail K (fun (r25 : Int32) (u26 : gS) => post r25 u26) u8 1)))) u3 p2 5)))) u1 p1 24)

set_option maxHeartbeats 8000000 in
set_option maxRecDepth 100000 in
theorem cM6_about (l : Launch) (dC : Nat → ClassId) (dI : Nat → Nat → Nat) (ad : Nat → Nat) (ca : Nat → ClassId) (K : KM) (sz : Nat) (u : gS) (p1 : Int32) (p2 : Int32) (post : Int32 → gS → Prop)  (h : wpM6_about K post u p1 p2) : Met l ⟨"WorkHallModel", "about", "(II)I"⟩ (gw ⟨"WorkHallModel", "about", "(II)I"⟩ prog_8_method_41_code 3 (some .int)) ({ frames := 2, cells := 0, slots := 0, locals := 80 } : Room) (va_Pc [.ref (ad 0), .int p1, .int p2] (gB (dC, dI) vwCl (mT ca) mE (wM ad ca K u) sz)) (va_Qi post (gAt (dC, dI) vwCl (mT ca) (wM ad ca K) (va_A (wM ad ca K u) sz)) (va_A (wM ad ca K u) sz)) 0 0 (va_A (wM ad ca K u) sz) := by
  refine Met.ofW (cc := prog_8_method_41_code) (maxL := 3) (ret := (some .int)) (by decide) rfl ?_
  intro p e s m args below meth c s₁ B hml hv
  obtain ⟨rfl, hsz, hP, hK, hD0, hE⟩ := hv
  have hx := B.exec
  have hb := B.bytes
  have hr := B.returns
  have hts : ∀ w ∈ gW, w.before _ s = true := fun w h9 => atoms_spec (ws := (gw ⟨"WorkHallModel", "about", "(II)I"⟩ prog_8_method_41_code 3 (some .int))) B.pre w (List.mem_cons_of_mem _ h9)
  have hown : s.vm.findClass RX6 = some m.cls := findClass_of_methodNamed B.named
  have hlocks := B.notSynchronized
  subst hsz
  have hD := hD0.self (sz := s.heap.size)
  generalize hAe : va_A (wM ad ca K u) s.heap.size = A at hD hE ⊢
  have hA : ∀ q : Nat, s.heap.size ≤ q → A q := fun q h => by rw [← hAe]; exact Or.inr h
  obtain ⟨H, hHe⟩ : ∃ z : Heap, z = s.heap := ⟨_, rfl⟩
  rw [← hHe]
  have hS : va_S A s.heap H [] := by rw [hHe]; exact va_S.rf
  have hP : va_P (dC, dI) vwCl (wM ad ca K u) H := by rw [hHe]; exact hP
  have hl := lv_entry ([.ref (ad 0), .int p1, .int p2]) (n := 3) (Nat.le_of_ble_eq_true rfl)
  rw [lg_entry_eq]
  generalize (lg_sl ([.ref (ad 0), .int p1, .int p2]) ++ List.replicate (3 - (lg_sl ([.ref (ad 0), .int p1, .int p2])).length) Slot.unset).toArray = ls at hl ⊢
  have hl : lv_has ls 3 [(0, .ref (ad 0)), (1, .int p1), (2, .int p2)] := hl
  clear hAe
  refine lv_aload_n hx hb dM6_about_0 rfl (lv_at hl 0 rfl) ?_
  refine lv_iconst (v := 0) hx hb dM6_about_1 (by decide) ?_
  refine va_put (D := (dC, dI)) (ci := 6) (v := .int 0) (ty := tyX6 0) (C := RX6) (T := TX6) (N := 36) hx hb hts uwX6 tyX6 tyX6_ok nmX6 hown hK hP hD hS 0 rfl rfl 0 (by decide) (hts _ wd_703) (fun _ h9 => h9) rfl (tyX6_ok 0 (by decide)) rfl rfl (Nat.le_of_ble_eq_true rfl) dM6_about_2 (fun H locs hP hD hS => ?_)
  obtain ⟨u1, eu1⟩ : ∃ z : gS, z = tI u 0 0 := ⟨_, rfl⟩
  have hP : va_P (dC, dI) vwCl (wM ad ca K u1) H := by rw [eu1, wM_f0_failed]; exact hP
  have hD : va_D A (wM ad ca K u1) := by rw [eu1, wM_f0_failed]; exact hD
  have h := h u1 eu1
  refine lv_aload_n hx hb dM6_about_5 rfl (lv_at hl 0 rfl) ?_
  refine lv_iload_n hx hb dM6_about_6 rfl (lv_at hl 1 rfl) ?_
  refine lv_bipush (v := 24) hx hb dM6_about_7 (by decide) ?_
  refine gc_i (w := wM ad ca K) (u := u1) (va_runV (As := [.int p1, .int 24]) (rest := []) ⟨hx, hb, hml, hown, hts⟩ (cM6_out l dC dI ad ca K H.size u1 p1 24 _ h) (cwV 2 hts (gG_V wd_821 wd_823 wd_17 wd_52 wd_824) rfl rfl rfl (by decide +kernel) ⟨Nat.le_of_ble_eq_true rfl, Nat.le_of_ble_eq_true rfl⟩) ⟨gB_blind mE_ok, va_recv hK hP (ci := 6) (q0 := 0) rfl rfl, gB_pre mE_ok hP hK hD hE hS hA⟩ rfl rfl hl.1 rfl (lv_room (Nat.le_of_ble_eq_true rfl)) dM6_about_9 ⟨Nat.le_of_ble_eq_true rfl, Nat.le_of_ble_eq_true rfl⟩) hD hS hA (fun r2 u3 H locs h hP hD hS => ?_)
  refine lv_if_ne (tgt := 24) hx hb dM6_about_12 (by decide) (fun c4 => ?_) (fun c4 => ?_)
  · have h := h.1 c4
    refine lv_aload_n hx hb dM6_about_24 rfl (lv_at hl 0 rfl) ?_
    refine lv_iconst (v := 1) hx hb dM6_about_25 (by decide) ?_
    refine gc_i (w := wM ad ca K) (u := u3) (va_runV (As := [.int 1]) (rest := []) ⟨hx, hb, hml, hown, hts⟩ (cM6_fail l dC dI ad ca K H.size u3 1 _ h) (cwV 1 hts (gG_V wd_825 wd_827 wd_18 wd_52 wd_828) rfl rfl rfl (by decide +kernel) ⟨Nat.le_of_ble_eq_true rfl, Nat.le_of_ble_eq_true rfl⟩) ⟨gB_blind mE_ok, va_recv hK hP (ci := 6) (q0 := 0) rfl rfl, gB_pre mE_ok hP hK hD hE hS hA⟩ rfl rfl hl.1 rfl (lv_room (Nat.le_of_ble_eq_true rfl)) dM6_about_26 ⟨Nat.le_of_ble_eq_true rfl, Nat.le_of_ble_eq_true rfl⟩) hD hS hA (fun r5 u6 H locs h hP hD hS => ?_)
    exact gr_i (w := wM ad ca K) (u := u6) hx hb hr hlocks h hP hK hD hS dM6_about_29
  · have h := h.2 c4
    refine lv_aload_n hx hb dM6_about_15 rfl (lv_at hl 0 rfl) ?_
    refine lv_iload_n hx hb dM6_about_16 rfl (lv_at hl 2 rfl) ?_
    refine lv_iconst (v := 5) hx hb dM6_about_17 (by decide) ?_
    refine gc_i (w := wM ad ca K) (u := u3) (va_runV (As := [.int p2, .int 5]) (rest := []) ⟨hx, hb, hml, hown, hts⟩ (cM6_out l dC dI ad ca K H.size u3 p2 5 _ h) (cwV 2 hts (gG_V wd_821 wd_823 wd_17 wd_52 wd_824) rfl rfl rfl (by decide +kernel) ⟨Nat.le_of_ble_eq_true rfl, Nat.le_of_ble_eq_true rfl⟩) ⟨gB_blind mE_ok, va_recv hK hP (ci := 6) (q0 := 0) rfl rfl, gB_pre mE_ok hP hK hD hE hS hA⟩ rfl rfl hl.1 rfl (lv_room (Nat.le_of_ble_eq_true rfl)) dM6_about_18 ⟨Nat.le_of_ble_eq_true rfl, Nat.le_of_ble_eq_true rfl⟩) hD hS hA (fun r7 u8 H locs h hP hD hS => ?_)
    refine lv_if_eq (tgt := 30) hx hb dM6_about_21 (by decide) (fun c9 => ?_) (fun c9 => ?_)
    · have h := h.1 c9
      refine lv_iload_n hx hb dM6_about_30 rfl (lv_at hl 1 rfl) ?_
      refine lv_aload_n hx hb dM6_about_31 rfl (lv_at hl 0 rfl) ?_
      refine va_get (D := (dC, dI)) (ci := 6) (v := .int (sI u8 1)) (C := RX6) (T := TX6) (N := 36) hx hb hts uwX6 hown hK hP 0 rfl rfl 13 (by decide) (hts _ wd_716) (fun _ h9 => h9) rfl dM6_about_32 ?_
      refine lv_icmp_lt (tgt := 44) hx hb dM6_about_35 (by decide) (fun c10 => ?_) (fun c10 => ?_)
      · have h := h.1 c10
        refine lv_iload_n hx hb dM6_about_44 rfl (lv_at hl 2 rfl) ?_
        refine lv_if_ne (tgt := 55) hx hb dM6_about_45 (by decide) (fun c11 => ?_) (fun c11 => ?_)
        · have h := h.1 c11
          refine lv_iload_n hx hb dM6_about_55 rfl (lv_at hl 2 rfl) ?_
          refine lv_iconst (v := 1) hx hb dM6_about_56 (by decide) ?_
          refine lv_icmp_ne (tgt := 67) hx hb dM6_about_57 (by decide) (fun c12 => ?_) (fun c12 => ?_)
          · have h := h.1 c12
            refine lv_iload_n hx hb dM6_about_67 rfl (lv_at hl 2 rfl) ?_
            refine lv_iconst (v := 2) hx hb dM6_about_68 (by decide) ?_
            refine lv_icmp_ne (tgt := 79) hx hb dM6_about_69 (by decide) (fun c13 => ?_) (fun c13 => ?_)
            · have h := h.1 c13
              refine lv_iload_n hx hb dM6_about_79 rfl (lv_at hl 2 rfl) ?_
              refine lv_iconst (v := 3) hx hb dM6_about_80 (by decide) ?_
              refine lv_icmp_ne (tgt := 106) hx hb dM6_about_81 (by decide) (fun c14 => ?_) (fun c14 => ?_)
              · have h := h.1 c14
                refine lv_aload_n hx hb dM6_about_106 rfl (lv_at hl 0 rfl) ?_
                refine va_get (D := (dC, dI)) (ci := 6) (v := .ref (ad 5)) (C := RX6) (T := TX6) (N := 36) hx hb hts uwX6 hown hK hP 0 rfl rfl 9 (by decide) (hts _ wd_712) (fun _ h9 => h9) rfl dM6_about_107 ?_
                refine lv_iload_n hx hb dM6_about_110 rfl (lv_at hl 1 rfl) ?_
                refine va_iald hx hb hK hP 5 0 rfl rfl h.1 dM6_about_111 ?_
                have h := h.2
                refine lv_iconst (v := 4) hx hb dM6_about_112 (by decide) ?_
                refine lv_icmp_ne (tgt := 125) hx hb dM6_about_113 (by decide) (fun c15 => ?_) (fun c15 => ?_)
                · have h := h.1 c15
                  refine lv_iconst (v := 0) hx hb dM6_about_125 (by decide) ?_
                  exact gr_i (w := wM ad ca K) (u := u8) hx hb hr hlocks h hP hK hD hS dM6_about_126
                · have h := h.2 c15
                  refine lv_aload_n hx hb dM6_about_116 rfl (lv_at hl 0 rfl) ?_
                  refine va_get (D := (dC, dI)) (ci := 6) (v := .ref (ad 8)) (C := RX6) (T := TX6) (N := 36) hx hb hts uwX6 hown hK hP 0 rfl rfl 12 (by decide) (hts _ wd_715) (fun _ h9 => h9) rfl dM6_about_117 ?_
                  refine lv_iload_n hx hb dM6_about_120 rfl (lv_at hl 1 rfl) ?_
                  refine va_iald hx hb hK hP 8 0 rfl rfl h.1 dM6_about_121 ?_
                  have h := h.2
                  refine lv_goto (tgt := 126) hx hb dM6_about_122 (by decide) ?_
                  exact gr_i (w := wM ad ca K) (u := u8) hx hb hr hlocks h hP hK hD hS dM6_about_126
              · have h := h.2 c14
                refine lv_aload_n hx hb dM6_about_84 rfl (lv_at hl 0 rfl) ?_
                refine lv_iload_n hx hb dM6_about_85 rfl (lv_at hl 1 rfl) ?_
                refine gc_i (w := wM ad ca K) (u := u8) (va_runV (As := [.int p1]) (rest := []) ⟨hx, hb, hml, hown, hts⟩ (cM6_placeInQueue l dC dI ad ca K H.size u8 p1 _ h) (cwV 1 hts (gG_V wd_929 wd_931 wd_40 wd_52 wd_932) rfl rfl rfl (by decide +kernel) ⟨Nat.le_of_ble_eq_true rfl, Nat.le_of_ble_eq_true rfl⟩) ⟨gB_blind mE_ok, va_recv hK hP (ci := 6) (q0 := 0) rfl rfl, gB_pre mE_ok hP hK hD hE hS hA⟩ rfl rfl hl.1 rfl (lv_room (Nat.le_of_ble_eq_true rfl)) dM6_about_86 ⟨Nat.le_of_ble_eq_true rfl, Nat.le_of_ble_eq_true rfl⟩) hD hS hA (fun r16 u17 H locs h hP hD hS => ?_)
                refine lv_if_lt (tgt := 100) hx hb dM6_about_89 (by decide) (fun c18 => ?_) (fun c18 => ?_)
                · have h := h.1 c18
                  refine lv_aload_n hx hb dM6_about_100 rfl (lv_at hl 0 rfl) ?_
                  refine lv_iload_n hx hb dM6_about_101 rfl (lv_at hl 1 rfl) ?_
                  refine gc_i (w := wM ad ca K) (u := u17) (va_runV (As := [.int p1]) (rest := []) ⟨hx, hb, hml, hown, hts⟩ (cM6_workerOf l dC dI ad ca K H.size u17 p1 _ h) (cwV 1 hts (gG_V wd_933 wd_935 wd_41 wd_52 wd_936) rfl rfl rfl (by decide +kernel) ⟨Nat.le_of_ble_eq_true rfl, Nat.le_of_ble_eq_true rfl⟩) ⟨gB_blind mE_ok, va_recv hK hP (ci := 6) (q0 := 0) rfl rfl, gB_pre mE_ok hP hK hD hE hS hA⟩ rfl rfl hl.1 rfl (lv_room (Nat.le_of_ble_eq_true rfl)) dM6_about_102 ⟨Nat.le_of_ble_eq_true rfl, Nat.le_of_ble_eq_true rfl⟩) hD hS hA (fun r19 u20 H locs h hP hD hS => ?_)
                  exact gr_i (w := wM ad ca K) (u := u20) hx hb hr hlocks h hP hK hD hS dM6_about_105
                · have h := h.2 c18
                  refine lv_aload_n hx hb dM6_about_92 rfl (lv_at hl 0 rfl) ?_
                  refine lv_iload_n hx hb dM6_about_93 rfl (lv_at hl 1 rfl) ?_
                  refine gc_i (w := wM ad ca K) (u := u17) (va_runV (As := [.int p1]) (rest := []) ⟨hx, hb, hml, hown, hts⟩ (cM6_placeInQueue l dC dI ad ca K H.size u17 p1 _ h) (cwV 1 hts (gG_V wd_929 wd_931 wd_40 wd_52 wd_932) rfl rfl rfl (by decide +kernel) ⟨Nat.le_of_ble_eq_true rfl, Nat.le_of_ble_eq_true rfl⟩) ⟨gB_blind mE_ok, va_recv hK hP (ci := 6) (q0 := 0) rfl rfl, gB_pre mE_ok hP hK hD hE hS hA⟩ rfl rfl hl.1 rfl (lv_room (Nat.le_of_ble_eq_true rfl)) dM6_about_94 ⟨Nat.le_of_ble_eq_true rfl, Nat.le_of_ble_eq_true rfl⟩) hD hS hA (fun r21 u22 H locs h hP hD hS => ?_)
                  refine lv_goto (tgt := 105) hx hb dM6_about_97 (by decide) ?_
                  exact gr_i (w := wM ad ca K) (u := u22) hx hb hr hlocks h hP hK hD hS dM6_about_105
            · have h := h.2 c13
              refine lv_aload_n hx hb dM6_about_72 rfl (lv_at hl 0 rfl) ?_
              refine va_get (D := (dC, dI)) (ci := 6) (v := .ref (ad 6)) (C := RX6) (T := TX6) (N := 36) hx hb hts uwX6 hown hK hP 0 rfl rfl 10 (by decide) (hts _ wd_713) (fun _ h9 => h9) rfl dM6_about_73 ?_
              refine lv_iload_n hx hb dM6_about_76 rfl (lv_at hl 1 rfl) ?_
              refine va_iald hx hb hK hP 6 0 rfl rfl h.1 dM6_about_77 ?_
              have h := h.2
              exact gr_i (w := wM ad ca K) (u := u8) hx hb hr hlocks h hP hK hD hS dM6_about_78
          · have h := h.2 c12
            refine lv_aload_n hx hb dM6_about_60 rfl (lv_at hl 0 rfl) ?_
            refine va_get (D := (dC, dI)) (ci := 6) (v := .ref (ad 1)) (C := RX6) (T := TX6) (N := 36) hx hb hts uwX6 hown hK hP 0 rfl rfl 5 (by decide) (hts _ wd_708) (fun _ h9 => h9) rfl dM6_about_61 ?_
            refine lv_iload_n hx hb dM6_about_64 rfl (lv_at hl 1 rfl) ?_
            refine va_iald hx hb hK hP 1 0 rfl rfl h.1 dM6_about_65 ?_
            have h := h.2
            exact gr_i (w := wM ad ca K) (u := u8) hx hb hr hlocks h hP hK hD hS dM6_about_66
        · have h := h.2 c11
          refine lv_aload_n hx hb dM6_about_48 rfl (lv_at hl 0 rfl) ?_
          refine va_get (D := (dC, dI)) (ci := 6) (v := .ref (ad 5)) (C := RX6) (T := TX6) (N := 36) hx hb hts uwX6 hown hK hP 0 rfl rfl 9 (by decide) (hts _ wd_712) (fun _ h9 => h9) rfl dM6_about_49 ?_
          refine lv_iload_n hx hb dM6_about_52 rfl (lv_at hl 1 rfl) ?_
          refine va_iald hx hb hK hP 5 0 rfl rfl h.1 dM6_about_53 ?_
          have h := h.2
          exact gr_i (w := wM ad ca K) (u := u8) hx hb hr hlocks h hP hK hD hS dM6_about_54
      · have h := h.2 c10
        refine lv_aload_n hx hb dM6_about_38 rfl (lv_at hl 0 rfl) ?_
        refine lv_iconst (v := 2) hx hb dM6_about_39 (by decide) ?_
        refine gc_i (w := wM ad ca K) (u := u8) (va_runV (As := [.int 2]) (rest := []) ⟨hx, hb, hml, hown, hts⟩ (cM6_fail l dC dI ad ca K H.size u8 2 _ h) (cwV 1 hts (gG_V wd_825 wd_827 wd_18 wd_52 wd_828) rfl rfl rfl (by decide +kernel) ⟨Nat.le_of_ble_eq_true rfl, Nat.le_of_ble_eq_true rfl⟩) ⟨gB_blind mE_ok, va_recv hK hP (ci := 6) (q0 := 0) rfl rfl, gB_pre mE_ok hP hK hD hE hS hA⟩ rfl rfl hl.1 rfl (lv_room (Nat.le_of_ble_eq_true rfl)) dM6_about_40 ⟨Nat.le_of_ble_eq_true rfl, Nat.le_of_ble_eq_true rfl⟩) hD hS hA (fun r23 u24 H locs h hP hD hS => ?_)
        exact gr_i (w := wM ad ca K) (u := u24) hx hb hr hlocks h hP hK hD hS dM6_about_43
    · have h := h.2 c9
      refine lv_aload_n hx hb dM6_about_24 rfl (lv_at hl 0 rfl) ?_
      refine lv_iconst (v := 1) hx hb dM6_about_25 (by decide) ?_
      refine gc_i (w := wM ad ca K) (u := u8) (va_runV (As := [.int 1]) (rest := []) ⟨hx, hb, hml, hown, hts⟩ (cM6_fail l dC dI ad ca K H.size u8 1 _ h) (cwV 1 hts (gG_V wd_825 wd_827 wd_18 wd_52 wd_828) rfl rfl rfl (by decide +kernel) ⟨Nat.le_of_ble_eq_true rfl, Nat.le_of_ble_eq_true rfl⟩) ⟨gB_blind mE_ok, va_recv hK hP (ci := 6) (q0 := 0) rfl rfl, gB_pre mE_ok hP hK hD hE hS hA⟩ rfl rfl hl.1 rfl (lv_room (Nat.le_of_ble_eq_true rfl)) dM6_about_26 ⟨Nat.le_of_ble_eq_true rfl, Nat.le_of_ble_eq_true rfl⟩) hD hS hA (fun r25 u26 H locs h hP hD hS => ?_)
      exact gr_i (w := wM ad ca K) (u := u26) hx hb hr hlocks h hP hK hD hS dM6_about_29

theorem dM6_worker_0 : decode prog_8_method_42_code 0 = .ok (.aload_n 0, 1) := by decide +kernel
theorem dM6_worker_1 : decode prog_8_method_42_code 1 = .ok (.iconst 0, 1) := by decide +kernel
theorem dM6_worker_2 : decode prog_8_method_42_code 2 = .ok (.putfield 85, 3) := by decide +kernel
theorem dM6_worker_5 : decode prog_8_method_42_code 5 = .ok (.aload_n 0, 1) := by decide +kernel
theorem dM6_worker_6 : decode prog_8_method_42_code 6 = .ok (.iload_n 1, 1) := by decide +kernel
theorem dM6_worker_7 : decode prog_8_method_42_code 7 = .ok (.aload_n 0, 1) := by decide +kernel
theorem dM6_worker_8 : decode prog_8_method_42_code 8 = .ok (.getfield 98, 3) := by decide +kernel
theorem dM6_worker_11 : decode prog_8_method_42_code 11 = .ok (.invokevirtual 104, 3) := by decide +kernel
theorem dM6_worker_14 : decode prog_8_method_42_code 14 = .ok (.ifCond .eq 11, 3) := by decide +kernel
theorem dM6_worker_17 : decode prog_8_method_42_code 17 = .ok (.aload_n 0, 1) := by decide +kernel
theorem dM6_worker_18 : decode prog_8_method_42_code 18 = .ok (.iconst 1, 1) := by decide +kernel
theorem dM6_worker_19 : decode prog_8_method_42_code 19 = .ok (.invokevirtual 108, 3) := by decide +kernel
theorem dM6_worker_22 : decode prog_8_method_42_code 22 = .ok (.goto 9, 3) := by decide +kernel
theorem dM6_worker_25 : decode prog_8_method_42_code 25 = .ok (.aload_n 0, 1) := by decide +kernel
theorem dM6_worker_26 : decode prog_8_method_42_code 26 = .ok (.getfield 40, 3) := by decide +kernel
theorem dM6_worker_29 : decode prog_8_method_42_code 29 = .ok (.iload_n 1, 1) := by decide +kernel
theorem dM6_worker_30 : decode prog_8_method_42_code 30 = .ok (.iaload, 1) := by decide +kernel
theorem dM6_worker_31 : decode prog_8_method_42_code 31 = .ok (.ireturn, 1) := by decide +kernel
def wpM6_worker (K : KM) (post : Int32 → gS → Prop) (u : gS) (p1 : Int32) : Prop :=
  ∀ u1 : gS, u1 = tI u 0 0 → (wpM6_out K (fun (r2 : Int32) (u3 : gS) => ((r2 = 0 → (vp_in p1 8 ∧ (post (sA u3 10 p1.toNatClampNeg) u3))) ∧ (¬ r2 = 0 → (wpM6_fail K (fun (r5 : Int32) (u6 : gS) => post r5 u6) u3 1)))) u1 p1 (sI u1 3))

set_option maxHeartbeats 8000000 in
set_option maxRecDepth 100000 in
theorem cM6_worker (l : Launch) (dC : Nat → ClassId) (dI : Nat → Nat → Nat) (ad : Nat → Nat) (ca : Nat → ClassId) (K : KM) (sz : Nat) (u : gS) (p1 : Int32) (post : Int32 → gS → Prop)  (h : wpM6_worker K post u p1) : Met l ⟨"WorkHallModel", "worker", "(I)I"⟩ (gw ⟨"WorkHallModel", "worker", "(I)I"⟩ prog_8_method_42_code 2 (some .int)) ({ frames := 2, cells := 0, slots := 0, locals := 80 } : Room) (va_Pc [.ref (ad 0), .int p1] (gB (dC, dI) vwCl (mT ca) mE (wM ad ca K u) sz)) (va_Qi post (gAt (dC, dI) vwCl (mT ca) (wM ad ca K) (va_A (wM ad ca K u) sz)) (va_A (wM ad ca K u) sz)) 0 0 (va_A (wM ad ca K u) sz) := by
  refine Met.ofW (cc := prog_8_method_42_code) (maxL := 2) (ret := (some .int)) (by decide) rfl ?_
  intro p e s m args below meth c s₁ B hml hv
  obtain ⟨rfl, hsz, hP, hK, hD0, hE⟩ := hv
  have hx := B.exec
  have hb := B.bytes
  have hr := B.returns
  have hts : ∀ w ∈ gW, w.before _ s = true := fun w h9 => atoms_spec (ws := (gw ⟨"WorkHallModel", "worker", "(I)I"⟩ prog_8_method_42_code 2 (some .int))) B.pre w (List.mem_cons_of_mem _ h9)
  have hown : s.vm.findClass RX6 = some m.cls := findClass_of_methodNamed B.named
  have hlocks := B.notSynchronized
  subst hsz
  have hD := hD0.self (sz := s.heap.size)
  generalize hAe : va_A (wM ad ca K u) s.heap.size = A at hD hE ⊢
  have hA : ∀ q : Nat, s.heap.size ≤ q → A q := fun q h => by rw [← hAe]; exact Or.inr h
  obtain ⟨H, hHe⟩ : ∃ z : Heap, z = s.heap := ⟨_, rfl⟩
  rw [← hHe]
  have hS : va_S A s.heap H [] := by rw [hHe]; exact va_S.rf
  have hP : va_P (dC, dI) vwCl (wM ad ca K u) H := by rw [hHe]; exact hP
  have hl := lv_entry ([.ref (ad 0), .int p1]) (n := 2) (Nat.le_of_ble_eq_true rfl)
  rw [lg_entry_eq]
  generalize (lg_sl ([.ref (ad 0), .int p1]) ++ List.replicate (2 - (lg_sl ([.ref (ad 0), .int p1])).length) Slot.unset).toArray = ls at hl ⊢
  have hl : lv_has ls 2 [(0, .ref (ad 0)), (1, .int p1)] := hl
  clear hAe
  refine lv_aload_n hx hb dM6_worker_0 rfl (lv_at hl 0 rfl) ?_
  refine lv_iconst (v := 0) hx hb dM6_worker_1 (by decide) ?_
  refine va_put (D := (dC, dI)) (ci := 6) (v := .int 0) (ty := tyX6 0) (C := RX6) (T := TX6) (N := 36) hx hb hts uwX6 tyX6 tyX6_ok nmX6 hown hK hP hD hS 0 rfl rfl 0 (by decide) (hts _ wd_703) (fun _ h9 => h9) rfl (tyX6_ok 0 (by decide)) rfl rfl (Nat.le_of_ble_eq_true rfl) dM6_worker_2 (fun H locs hP hD hS => ?_)
  obtain ⟨u1, eu1⟩ : ∃ z : gS, z = tI u 0 0 := ⟨_, rfl⟩
  have hP : va_P (dC, dI) vwCl (wM ad ca K u1) H := by rw [eu1, wM_f0_failed]; exact hP
  have hD : va_D A (wM ad ca K u1) := by rw [eu1, wM_f0_failed]; exact hD
  have h := h u1 eu1
  refine lv_aload_n hx hb dM6_worker_5 rfl (lv_at hl 0 rfl) ?_
  refine lv_iload_n hx hb dM6_worker_6 rfl (lv_at hl 1 rfl) ?_
  refine lv_aload_n hx hb dM6_worker_7 rfl (lv_at hl 0 rfl) ?_
  refine va_get (D := (dC, dI)) (ci := 6) (v := .int (sI u1 3)) (C := RX6) (T := TX6) (N := 36) hx hb hts uwX6 hown hK hP 0 rfl rfl 19 (by decide) (hts _ wd_722) (fun _ h9 => h9) rfl dM6_worker_8 ?_
  refine gc_i (w := wM ad ca K) (u := u1) (va_runV (As := [.int p1, .int (sI u1 3)]) (rest := []) ⟨hx, hb, hml, hown, hts⟩ (cM6_out l dC dI ad ca K H.size u1 p1 (sI u1 3) _ h) (cwV 2 hts (gG_V wd_821 wd_823 wd_17 wd_52 wd_824) rfl rfl rfl (by decide +kernel) ⟨Nat.le_of_ble_eq_true rfl, Nat.le_of_ble_eq_true rfl⟩) ⟨gB_blind mE_ok, va_recv hK hP (ci := 6) (q0 := 0) rfl rfl, gB_pre mE_ok hP hK hD hE hS hA⟩ rfl rfl hl.1 rfl (lv_room (Nat.le_of_ble_eq_true rfl)) dM6_worker_11 ⟨Nat.le_of_ble_eq_true rfl, Nat.le_of_ble_eq_true rfl⟩) hD hS hA (fun r2 u3 H locs h hP hD hS => ?_)
  refine lv_if_eq (tgt := 25) hx hb dM6_worker_14 (by decide) (fun c4 => ?_) (fun c4 => ?_)
  · have h := h.1 c4
    refine lv_aload_n hx hb dM6_worker_25 rfl (lv_at hl 0 rfl) ?_
    refine va_get (D := (dC, dI)) (ci := 6) (v := .ref (ad 11)) (C := RX6) (T := TX6) (N := 36) hx hb hts uwX6 hown hK hP 0 rfl rfl 17 (by decide) (hts _ wd_720) (fun _ h9 => h9) rfl dM6_worker_26 ?_
    refine lv_iload_n hx hb dM6_worker_29 rfl (lv_at hl 1 rfl) ?_
    refine va_iald hx hb hK hP 11 0 rfl rfl h.1 dM6_worker_30 ?_
    have h := h.2
    exact gr_i (w := wM ad ca K) (u := u3) hx hb hr hlocks h hP hK hD hS dM6_worker_31
  · have h := h.2 c4
    refine lv_aload_n hx hb dM6_worker_17 rfl (lv_at hl 0 rfl) ?_
    refine lv_iconst (v := 1) hx hb dM6_worker_18 (by decide) ?_
    refine gc_i (w := wM ad ca K) (u := u3) (va_runV (As := [.int 1]) (rest := []) ⟨hx, hb, hml, hown, hts⟩ (cM6_fail l dC dI ad ca K H.size u3 1 _ h) (cwV 1 hts (gG_V wd_825 wd_827 wd_18 wd_52 wd_828) rfl rfl rfl (by decide +kernel) ⟨Nat.le_of_ble_eq_true rfl, Nat.le_of_ble_eq_true rfl⟩) ⟨gB_blind mE_ok, va_recv hK hP (ci := 6) (q0 := 0) rfl rfl, gB_pre mE_ok hP hK hD hE hS hA⟩ rfl rfl hl.1 rfl (lv_room (Nat.le_of_ble_eq_true rfl)) dM6_worker_19 ⟨Nat.le_of_ble_eq_true rfl, Nat.le_of_ble_eq_true rfl⟩) hD hS hA (fun r5 u6 H locs h hP hD hS => ?_)
    refine lv_goto (tgt := 31) hx hb dM6_worker_22 (by decide) ?_
    exact gr_i (w := wM ad ca K) (u := u6) hx hb hr hlocks h hP hK hD hS dM6_worker_31

