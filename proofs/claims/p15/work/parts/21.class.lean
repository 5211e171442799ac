theorem dX1_firstIdle_0 : decode prog_2_method_3_code 0 = .ok (.aload_n 0, 1) := by decide +kernel
theorem dX1_firstIdle_1 : decode prog_2_method_3_code 1 = .ok (.aload_n 0, 1) := by decide +kernel
theorem dX1_firstIdle_2 : decode prog_2_method_3_code 2 = .ok (.aconst_null, 1) := by decide +kernel
theorem dX1_firstIdle_3 : decode prog_2_method_3_code 3 = .ok (.invokevirtual 25, 3) := by decide +kernel
theorem dX1_firstIdle_6 : decode prog_2_method_3_code 6 = .ok (.invokevirtual 29, 3) := by decide +kernel
theorem dX1_firstIdle_9 : decode prog_2_method_3_code 9 = .ok (.areturn, 1) := by decide +kernel
def wpX1_firstIdle (K : KX) (post : Option Nat → gS → Prop) (u : gS)  : Prop :=
  wpX1_placeOf K (fun (r1 : Int32) (u2 : gS) => wpX1_at K (fun (r3 : Option Nat) (u4 : gS) => post r3 u4) u2 r1) u none

set_option maxHeartbeats 8000000 in
set_option maxRecDepth 100000 in
theorem cX1_firstIdle (l : Launch) (dC : Nat → ClassId) (dI : Nat → Nat → Nat) (ad : Nat → Nat) (ca : Nat → ClassId) (K : KX) (sz : Nat) (u : gS)  (post : Option Nat → gS → Prop)  (h : wpX1_firstIdle K post u ) : Met l ⟨"WorkHall$Crew", "firstIdle", "()LWorkHall$Worker;"⟩ (gw ⟨"WorkHall$Crew", "firstIdle", "()LWorkHall$Worker;"⟩ prog_2_method_3_code 1 (some (.object "WorkHall$Worker"))) ({ frames := 2, cells := 0, slots := 0, locals := 80 } : Room) (va_Pc [.ref (ad 2)] (gB (dC, dI) vwCl (xT ca) xE (wX ad ca K u) sz)) (va_Qq post (gAt (dC, dI) vwCl (xT ca) (wX ad ca K) (va_A (wX ad ca K u) sz)) (va_A (wX ad ca K u) sz)) 0 0 (va_A (wX ad ca K u) sz) := by
  refine Met.ofW (cc := prog_2_method_3_code) (maxL := 1) (ret := (some (.object "WorkHall$Worker"))) (by decide) rfl ?_
  intro p e s m args below meth c s₁ B hml hv
  obtain ⟨rfl, hsz, hP, hK, hD0, hE⟩ := hv
  have hx := B.exec
  have hb := B.bytes
  have hr := B.returns
  have hts : ∀ w ∈ gW, w.before _ s = true := fun w h9 => atoms_spec (ws := (gw ⟨"WorkHall$Crew", "firstIdle", "()LWorkHall$Worker;"⟩ prog_2_method_3_code 1 (some (.object "WorkHall$Worker")))) B.pre w (List.mem_cons_of_mem _ h9)
  have hown : s.vm.findClass RX1 = some m.cls := findClass_of_methodNamed B.named
  have hlocks := B.notSynchronized
  subst hsz
  have hD := hD0.self (sz := s.heap.size)
  generalize hAe : va_A (wX ad ca K u) s.heap.size = A at hD hE ⊢
  have hA : ∀ q : Nat, s.heap.size ≤ q → A q := fun q h => by rw [← hAe]; exact Or.inr h
  obtain ⟨H, hHe⟩ : ∃ z : Heap, z = s.heap := ⟨_, rfl⟩
  rw [← hHe]
  have hS : va_S A s.heap H [] := by rw [hHe]; exact va_S.rf
  have hP : va_P (dC, dI) vwCl (wX ad ca K u) H := by rw [hHe]; exact hP
  have hl := lv_entry ([.ref (ad 2)]) (n := 1) (Nat.le_of_ble_eq_true rfl)
  rw [lg_entry_eq]
  generalize (lg_sl ([.ref (ad 2)]) ++ List.replicate (1 - (lg_sl ([.ref (ad 2)])).length) Slot.unset).toArray = ls at hl ⊢
  have hl : lv_has ls 1 [(0, .ref (ad 2))] := hl
  clear hAe
  refine lv_aload_n hx hb dX1_firstIdle_0 rfl (lv_at hl 0 rfl) ?_
  refine lv_aload_n hx hb dX1_firstIdle_1 rfl (lv_at hl 0 rfl) ?_
  refine lv_null hx hb dX1_firstIdle_2 ?_
  refine gc_i (w := wX ad ca K) (u := u) (va_runV (As := [va_rf none]) (rest := [.ref (ad 2)]) ⟨hx, hb, hml, hown, hts⟩ (cX1_placeOf l dC dI ad ca K H.size u none _ h) (cwV 1 hts (gG_V wd_397 wd_398 wd_399 wd_47 wd_400) rfl rfl rfl (by decide +kernel) ⟨Nat.le_of_ble_eq_true rfl, Nat.le_of_ble_eq_true rfl⟩) ⟨gB_blind xE_ok, va_recv hK hP (ci := 1) (q0 := 2) rfl rfl, gB_pre xE_ok hP hK hD hE hS hA⟩ rfl rfl hl.1 rfl (lv_room (Nat.le_of_ble_eq_true rfl)) dX1_firstIdle_3 ⟨Nat.le_of_ble_eq_true rfl, Nat.le_of_ble_eq_true rfl⟩) hD hS hA (fun r1 u2 H locs h hP hD hS => ?_)
  refine gc_q (w := wX ad ca K) (u := u2) (va_runV (As := [.int r1]) (rest := []) ⟨hx, hb, hml, hown, hts⟩ (cX1_at l dC dI ad ca K H.size u2 r1 _ h) (cwV 1 hts (gG_V wd_401 wd_402 wd_403 wd_47 wd_404) rfl rfl rfl (by decide +kernel) ⟨Nat.le_of_ble_eq_true rfl, Nat.le_of_ble_eq_true rfl⟩) ⟨gB_blind xE_ok, va_recv hK hP (ci := 1) (q0 := 2) rfl rfl, gB_pre xE_ok hP hK hD hE hS hA⟩ rfl rfl hl.1 rfl (lv_room (Nat.le_of_ble_eq_true rfl)) dX1_firstIdle_6 ⟨Nat.le_of_ble_eq_true rfl, Nat.le_of_ble_eq_true rfl⟩) hD hS hA (fun r3 u4 H locs h hP hD hS => ?_)
  exact gr_q (w := wX ad ca K) (u := u4) (v := r3) hx hb hr hlocks h hP hK hD hS dX1_firstIdle_9

theorem dX1_busy_0 : decode prog_2_method_5_code 0 = .ok (.iconst 0, 1) := by decide +kernel
theorem dX1_busy_1 : decode prog_2_method_5_code 1 = .ok (.istore_n 1, 1) := by decide +kernel
theorem dX1_busy_2 : decode prog_2_method_5_code 2 = .ok (.iconst 0, 1) := by decide +kernel
theorem dX1_busy_3 : decode prog_2_method_5_code 3 = .ok (.istore_n 2, 1) := by decide +kernel
theorem dX1_busy_4 : decode prog_2_method_5_code 4 = .ok (.iload_n 2, 1) := by decide +kernel
theorem dX1_busy_5 : decode prog_2_method_5_code 5 = .ok (.aload_n 0, 1) := by decide +kernel
theorem dX1_busy_6 : decode prog_2_method_5_code 6 = .ok (.getfield 17, 3) := by decide +kernel
theorem dX1_busy_9 : decode prog_2_method_5_code 9 = .ok (.if_icmp .ge 24, 3) := by decide +kernel
theorem dX1_busy_12 : decode prog_2_method_5_code 12 = .ok (.aload_n 0, 1) := by decide +kernel
theorem dX1_busy_13 : decode prog_2_method_5_code 13 = .ok (.getfield 11, 3) := by decide +kernel
theorem dX1_busy_16 : decode prog_2_method_5_code 16 = .ok (.iload_n 2, 1) := by decide +kernel
theorem dX1_busy_17 : decode prog_2_method_5_code 17 = .ok (.aaload, 1) := by decide +kernel
theorem dX1_busy_18 : decode prog_2_method_5_code 18 = .ok (.getfield 33, 3) := by decide +kernel
theorem dX1_busy_21 : decode prog_2_method_5_code 21 = .ok (.ifnull 6, 3) := by decide +kernel
theorem dX1_busy_24 : decode prog_2_method_5_code 24 = .ok (.iinc 1 1, 3) := by decide +kernel
theorem dX1_busy_27 : decode prog_2_method_5_code 27 = .ok (.iinc 2 1, 3) := by decide +kernel
theorem dX1_busy_30 : decode prog_2_method_5_code 30 = .ok (.goto (-26), 3) := by decide +kernel
theorem dX1_busy_33 : decode prog_2_method_5_code 33 = .ok (.iload_n 1, 1) := by decide +kernel
theorem dX1_busy_34 : decode prog_2_method_5_code 34 = .ok (.ireturn, 1) := by decide +kernel
def wpX1_busy_4 (K : KX) (post : Int32 → gS → Prop) : Nat → Int32 → Int32 → gS → Prop
  | 0 => fun _ _ _ => False
  | n + 1 => fun l1 l2 u => (((sI u 2) ≤ l2 → (post l1 u)) ∧ (¬ (sI u 2) ≤ l2 → (vp_in l2 5 ∧ (∀ r2 : Option Nat, r2 = sQ u 0 l2.toNatClampNeg → (∃ y3 : Nat, r2 = some y3 ∧ y3 ∈ K.2.1 ∧ (∀ r5 : Option Nat, r5 = sQ u 4 y3 → (((r5 = none → (∀ x7 : Int32, x7 = l2 + 1 → (wpX1_busy_4 K post n l1 x7 u))) ∧ (∀ y6 : Nat, r5 = some y6 → (∀ x8 : Int32, x8 = l1 + 1 → (∀ x9 : Int32, x9 = l2 + 1 → (wpX1_busy_4 K post n x8 x9 u))))))))))))

def wpX1_busy (K : KX) (post : Int32 → gS → Prop) (u : gS)  : Prop :=
  ∃ n4 : Nat, wpX1_busy_4 K post n4 0 0 u

set_option maxHeartbeats 8000000 in
set_option maxRecDepth 100000 in
theorem wpX1_busy_4_ok {p : Program} {l : Launch} {e : Env} {s : State} {m : MethodId} {args : Array Value} {below : List Frame} {meth : Method} {c : Code} {dC : Nat → ClassId} {dI : Nat → Nat → Nat} {ad : Nat → Nat} {ca : Nat → ClassId} {K : KX} {A : Nat → Prop} {post : Int32 → gS → Prop}   (hx : p.tables.exec = Jvm.exec) (hb : c.code = prog_2_method_5_code) (hr : meth.sig.returnType = (some .int)) (hml : c.maxLocals = 3) (hown : s.vm.findClass RX1 = some m.cls) (hts : ∀ w ∈ gW, w.before args s = true) (hlocks : meth.locks = false) (hK : va_K (dC, dI) vwCl (xT ca) s) (hA : ∀ q, s.heap.size ≤ q → A q) (hE : xE A s s.heap) :
    ∀ (n : Nat) (l1 : Int32) (l2 : Int32) (u : gS) (H : Heap) (locs : List Loc) (ls : Array Slot), wpX1_busy_4 K post n l1 l2 u → va_P (dC, dI) vwCl (wX ad ca K u) H → va_D A (wX ad ca K u) → va_S A s.heap H locs → lv_has ls 3 [(0, .ref (ad 2)), (1, .int l1), (2, .int l2)] → W p l e (headSpec (gw ⟨"WorkHall$Crew", "busy", "()I"⟩ prog_2_method_5_code 3 (some .int)) ({ frames := 1, cells := 0, slots := 0, locals := 40 } : Room)).room s m args below meth c H locs 0 0 (MQ below (va_Qi post (gAt (dC, dI) vwCl (xT ca) (wX ad ca K) (A)) (A)) args s 0 0 A) (F0 m 4 ls []) := by
  intro n
  induction n with
  | zero => exact fun _ _ _ _ _ _ h => h.elim
  | succ n ih =>
    intro l1 l2 u H locs ls h hP hD hS hl
    refine lv_iload_n hx hb dX1_busy_4 rfl (lv_at hl 2 rfl) ?_
    refine lv_aload_n hx hb dX1_busy_5 rfl (lv_at hl 0 rfl) ?_
    refine va_get (D := (dC, dI)) (ci := 1) (v := .int (sI u 2)) (C := RX1) (T := TX1) (N := 3) hx hb hts uwX1 hown hK hP 2 rfl rfl 1 (by decide) (hts _ wd_101) (fun _ h9 => h9) rfl dX1_busy_6 ?_
    refine lv_icmp_ge (tgt := 33) hx hb dX1_busy_9 (by decide) (fun c1 => ?_) (fun c1 => ?_)
    · have h := h.1 c1
      refine lv_iload_n hx hb dX1_busy_33 rfl (lv_at hl 1 rfl) ?_
      exact gr_i (w := wX ad ca K) (u := u) hx hb hr hlocks h hP hK hD hS dX1_busy_34
    · have h := h.2 c1
      refine lv_aload_n hx hb dX1_busy_12 rfl (lv_at hl 0 rfl) ?_
      refine va_get (D := (dC, dI)) (ci := 1) (v := .ref (ad 3)) (C := RX1) (T := TX1) (N := 3) hx hb hts uwX1 hown hK hP 2 rfl rfl 0 (by decide) (hts _ wd_100) (fun _ h9 => h9) rfl dX1_busy_13 ?_
      refine lv_iload_n hx hb dX1_busy_16 rfl (lv_at hl 2 rfl) ?_
      refine va_aldq (C := RX4) hx hb hK hP 3 1 rfl rfl h.1 dX1_busy_17 ?_
      have h := h.2
      refine gq_top (fun r2 er2 => ?_)
      have h := h r2 er2
      obtain ⟨y3, rfl, hy4, h⟩ := h
      obtain ⟨k9, hk9⟩ := xW_get hy4
      refine va_get (D := (dC, dI)) (ci := 4) (v := va_rf (sQ u 4 y3)) (C := RX4) (T := TX4) (N := 3) hx hb hts uwX4 hown hK hP k9 hk9 rfl 0 (by decide) (hts _ wd_87) (fun _ h9 => h9) rfl dX1_busy_18 ?_
      refine gq_top (fun r5 er5 => ?_)
      have h := h r5 er5
      rcases r5 with _ | y6
      · have h := h.1 rfl
        refine lv_ifnullN (tgt := 27) hx hb dX1_busy_21 (by decide) ?_
        obtain ⟨x7, ex7⟩ : ∃ y : Int32, y = l2 + 1 := ⟨_, rfl⟩
        have h := h x7 ex7
        refine lv_iinc (v := x7) (lv' := [(2, .int x7), (0, .ref (ad 2)), (1, .int l1)]) hx hb dX1_busy_27 hl (k := 2) rfl (by rw [ex7]; rfl) (by decide) rfl (fun ls hl => ?_)
        refine lv_goto (tgt := 4) hx hb dX1_busy_30 (by decide) ?_
        exact ih l1 x7 u _ _ _ h hP hD hS (lv_sub hl [1, 2, 0] rfl)
      · have h := h.2 y6 rfl
        refine lv_ifnull hx hb dX1_busy_21 ?_
        obtain ⟨x8, ex8⟩ : ∃ y : Int32, y = l1 + 1 := ⟨_, rfl⟩
        have h := h x8 ex8
        refine lv_iinc (v := x8) (lv' := [(1, .int x8), (0, .ref (ad 2)), (2, .int l2)]) hx hb dX1_busy_24 hl (k := 1) rfl (by rw [ex8]; rfl) (by decide) rfl (fun ls hl => ?_)
        obtain ⟨x9, ex9⟩ : ∃ y : Int32, y = l2 + 1 := ⟨_, rfl⟩
        have h := h x9 ex9
        refine lv_iinc (v := x9) (lv' := [(2, .int x9), (1, .int x8), (0, .ref (ad 2))]) hx hb dX1_busy_27 hl (k := 2) rfl (by rw [ex9]; rfl) (by decide) rfl (fun ls hl => ?_)
        refine lv_goto (tgt := 4) hx hb dX1_busy_30 (by decide) ?_
        exact ih x8 x9 u _ _ _ h hP hD hS (lv_sub hl [2, 1, 0] rfl)

set_option maxHeartbeats 8000000 in
set_option maxRecDepth 100000 in
theorem cX1_busy (l : Launch) (dC : Nat → ClassId) (dI : Nat → Nat → Nat) (ad : Nat → Nat) (ca : Nat → ClassId) (K : KX) (sz : Nat) (u : gS)  (post : Int32 → gS → Prop)  (h : wpX1_busy K post u ) : Met l ⟨"WorkHall$Crew", "busy", "()I"⟩ (gw ⟨"WorkHall$Crew", "busy", "()I"⟩ prog_2_method_5_code 3 (some .int)) ({ frames := 1, cells := 0, slots := 0, locals := 40 } : Room) (va_Pc [.ref (ad 2)] (gB (dC, dI) vwCl (xT ca) xE (wX ad ca K u) sz)) (va_Qi post (gAt (dC, dI) vwCl (xT ca) (wX ad ca K) (va_A (wX ad ca K u) sz)) (va_A (wX ad ca K u) sz)) 0 0 (va_A (wX ad ca K u) sz) := by
  refine Met.ofW (cc := prog_2_method_5_code) (maxL := 3) (ret := (some .int)) (by decide) rfl ?_
  intro p e s m args below meth c s₁ B hml hv
  obtain ⟨rfl, hsz, hP, hK, hD0, hE⟩ := hv
  have hx := B.exec
  have hb := B.bytes
  have hr := B.returns
  have hts : ∀ w ∈ gW, w.before _ s = true := fun w h9 => atoms_spec (ws := (gw ⟨"WorkHall$Crew", "busy", "()I"⟩ prog_2_method_5_code 3 (some .int))) B.pre w (List.mem_cons_of_mem _ h9)
  have hown : s.vm.findClass RX1 = some m.cls := findClass_of_methodNamed B.named
  have hlocks := B.notSynchronized
  subst hsz
  have hD := hD0.self (sz := s.heap.size)
  generalize hAe : va_A (wX ad ca K u) s.heap.size = A at hD hE ⊢
  have hA : ∀ q : Nat, s.heap.size ≤ q → A q := fun q h => by rw [← hAe]; exact Or.inr h
  obtain ⟨H, hHe⟩ : ∃ z : Heap, z = s.heap := ⟨_, rfl⟩
  rw [← hHe]
  have hS : va_S A s.heap H [] := by rw [hHe]; exact va_S.rf
  have hP : va_P (dC, dI) vwCl (wX ad ca K u) H := by rw [hHe]; exact hP
  have hl := lv_entry ([.ref (ad 2)]) (n := 3) (Nat.le_of_ble_eq_true rfl)
  rw [lg_entry_eq]
  generalize (lg_sl ([.ref (ad 2)]) ++ List.replicate (3 - (lg_sl ([.ref (ad 2)])).length) Slot.unset).toArray = ls at hl ⊢
  have hl : lv_has ls 3 [(0, .ref (ad 2))] := hl
  clear hAe
  refine lv_iconst (v := 0) hx hb dX1_busy_0 (by decide) ?_
  refine lv_istore_n (lv' := [(1, .int 0), (0, .ref (ad 2))]) hx hb dX1_busy_1 rfl hl (by decide) rfl (fun ls hl => ?_)
  refine lv_iconst (v := 0) hx hb dX1_busy_2 (by decide) ?_
  refine lv_istore_n (lv' := [(2, .int 0), (1, .int 0), (0, .ref (ad 2))]) hx hb dX1_busy_3 rfl hl (by decide) rfl (fun ls hl => ?_)
  obtain ⟨n4, h⟩ := h
  exact wpX1_busy_4_ok hx hb hr hml hown hts hlocks hK hA hE n4 0 0 u _ _ _ h hP hD hS (lv_sub hl [2, 1, 0] rfl)

theorem dX1_hire_0 : decode prog_2_method_6_code 0 = .ok (.aload_n 0, 1) := by decide +kernel
theorem dX1_hire_1 : decode prog_2_method_6_code 1 = .ok (.getfield 17, 3) := by decide +kernel
theorem dX1_hire_4 : decode prog_2_method_6_code 4 = .ok (.iconst 5, 1) := by decide +kernel
theorem dX1_hire_5 : decode prog_2_method_6_code 5 = .ok (.if_icmp .lt 4, 3) := by decide +kernel
theorem dX1_hire_8 : decode prog_2_method_6_code 8 = .ok (.return_, 1) := by decide +kernel
theorem dX1_hire_9 : decode prog_2_method_6_code 9 = .ok (.aload_n 0, 1) := by decide +kernel
theorem dX1_hire_10 : decode prog_2_method_6_code 10 = .ok (.getfield 11, 3) := by decide +kernel
theorem dX1_hire_13 : decode prog_2_method_6_code 13 = .ok (.aload_n 0, 1) := by decide +kernel
theorem dX1_hire_14 : decode prog_2_method_6_code 14 = .ok (.getfield 17, 3) := by decide +kernel
theorem dX1_hire_17 : decode prog_2_method_6_code 17 = .ok (.aaload, 1) := by decide +kernel
theorem dX1_hire_18 : decode prog_2_method_6_code 18 = .ok (.aload_n 1, 1) := by decide +kernel
theorem dX1_hire_19 : decode prog_2_method_6_code 19 = .ok (.invokevirtual 37, 3) := by decide +kernel
theorem dX1_hire_22 : decode prog_2_method_6_code 22 = .ok (.aload_n 0, 1) := by decide +kernel
theorem dX1_hire_23 : decode prog_2_method_6_code 23 = .ok (.dup, 1) := by decide +kernel
theorem dX1_hire_24 : decode prog_2_method_6_code 24 = .ok (.getfield 17, 3) := by decide +kernel
theorem dX1_hire_27 : decode prog_2_method_6_code 27 = .ok (.iconst 1, 1) := by decide +kernel
theorem dX1_hire_28 : decode prog_2_method_6_code 28 = .ok (.iadd, 1) := by decide +kernel
theorem dX1_hire_29 : decode prog_2_method_6_code 29 = .ok (.putfield 17, 3) := by decide +kernel
theorem dX1_hire_32 : decode prog_2_method_6_code 32 = .ok (.aload_n 0, 1) := by decide +kernel
theorem dX1_hire_33 : decode prog_2_method_6_code 33 = .ok (.aload_n 0, 1) := by decide +kernel
theorem dX1_hire_34 : decode prog_2_method_6_code 34 = .ok (.getfield 21, 3) := by decide +kernel
theorem dX1_hire_37 : decode prog_2_method_6_code 37 = .ok (.aload_n 0, 1) := by decide +kernel
theorem dX1_hire_38 : decode prog_2_method_6_code 38 = .ok (.getfield 17, 3) := by decide +kernel
theorem dX1_hire_41 : decode prog_2_method_6_code 41 = .ok (.invokestatic 41, 3) := by decide +kernel
theorem dX1_hire_44 : decode prog_2_method_6_code 44 = .ok (.putfield 21, 3) := by decide +kernel
theorem dX1_hire_47 : decode prog_2_method_6_code 47 = .ok (.return_, 1) := by decide +kernel
def wpX1_hire (K : KX) (post : gS → Prop) (u : gS) (p1 : Nat) : Prop :=
  (((sI u 2) < 5 → (vp_in (sI u 2) 5 ∧ (∀ r2 : Option Nat, r2 = sQ u 0 (sI u 2).toNatClampNeg → (∃ y3 : Nat, r2 = some y3 ∧ y3 ∈ K.2.1 ∧ (wpX4_begin K (fun (u6 : gS) => ∀ u7 : gS, u7 = tI u6 2 ((sI u6 2) + 1) → (∀ u8 : gS, u8 = tI u7 3 (if (sI u7 3) < (sI u7 2) then (sI u7 2) else (sI u7 3)) → (post u8))) u y3 p1))))) ∧ (¬ (sI u 2) < 5 → (post u)))

set_option maxHeartbeats 8000000 in
set_option maxRecDepth 100000 in
theorem cX1_hire (l : Launch) (dC : Nat → ClassId) (dI : Nat → Nat → Nat) (ad : Nat → Nat) (ca : Nat → ClassId) (K : KX) (sz : Nat) (u : gS) (p1 : Nat) (post : gS → Prop) (hp1 : p1 ∈ K.2.2.1) (h : wpX1_hire K post u p1) : Met l ⟨"WorkHall$Crew", "hire", "(LWorkHall$Job;)V"⟩ (gw ⟨"WorkHall$Crew", "hire", "(LWorkHall$Job;)V"⟩ prog_2_method_6_code 2 none) ({ frames := 2, cells := 0, slots := 0, locals := 80 } : Room) (va_Pc [.ref (ad 2), .ref p1] (gB (dC, dI) vwCl (xT ca) xE (wX ad ca K u) sz)) (va_Qv post (gAt (dC, dI) vwCl (xT ca) (wX ad ca K) (va_A (wX ad ca K u) sz)) (va_A (wX ad ca K u) sz)) 0 0 (va_A (wX ad ca K u) sz) := by
  refine Met.ofW (cc := prog_2_method_6_code) (maxL := 2) (ret := none) (by decide) rfl ?_
  intro p e s m args below meth c s₁ B hml hv
  obtain ⟨rfl, hsz, hP, hK, hD0, hE⟩ := hv
  have hx := B.exec
  have hb := B.bytes
  have hr := B.returns
  have hts : ∀ w ∈ gW, w.before _ s = true := fun w h9 => atoms_spec (ws := (gw ⟨"WorkHall$Crew", "hire", "(LWorkHall$Job;)V"⟩ prog_2_method_6_code 2 none)) B.pre w (List.mem_cons_of_mem _ h9)
  have hown : s.vm.findClass RX1 = some m.cls := findClass_of_methodNamed B.named
  have hlocks := B.notSynchronized
  subst hsz
  have hD := hD0.self (sz := s.heap.size)
  generalize hAe : va_A (wX ad ca K u) s.heap.size = A at hD hE ⊢
  have hA : ∀ q : Nat, s.heap.size ≤ q → A q := fun q h => by rw [← hAe]; exact Or.inr h
  obtain ⟨H, hHe⟩ : ∃ z : Heap, z = s.heap := ⟨_, rfl⟩
  rw [← hHe]
  have hS : va_S A s.heap H [] := by rw [hHe]; exact va_S.rf
  have hP : va_P (dC, dI) vwCl (wX ad ca K u) H := by rw [hHe]; exact hP
  have hl := lv_entry ([.ref (ad 2), .ref p1]) (n := 2) (Nat.le_of_ble_eq_true rfl)
  rw [lg_entry_eq]
  generalize (lg_sl ([.ref (ad 2), .ref p1]) ++ List.replicate (2 - (lg_sl ([.ref (ad 2), .ref p1])).length) Slot.unset).toArray = ls at hl ⊢
  have hl : lv_has ls 2 [(0, .ref (ad 2)), (1, .ref p1)] := hl
  clear hAe
  refine lv_aload_n hx hb dX1_hire_0 rfl (lv_at hl 0 rfl) ?_
  refine va_get (D := (dC, dI)) (ci := 1) (v := .int (sI u 2)) (C := RX1) (T := TX1) (N := 3) hx hb hts uwX1 hown hK hP 2 rfl rfl 1 (by decide) (hts _ wd_101) (fun _ h9 => h9) rfl dX1_hire_1 ?_
  refine lv_iconst (v := 5) hx hb dX1_hire_4 (by decide) ?_
  refine lv_icmp_lt (tgt := 9) hx hb dX1_hire_5 (by decide) (fun c1 => ?_) (fun c1 => ?_)
  · have h := h.1 c1
    refine lv_aload_n hx hb dX1_hire_9 rfl (lv_at hl 0 rfl) ?_
    refine va_get (D := (dC, dI)) (ci := 1) (v := .ref (ad 3)) (C := RX1) (T := TX1) (N := 3) hx hb hts uwX1 hown hK hP 2 rfl rfl 0 (by decide) (hts _ wd_100) (fun _ h9 => h9) rfl dX1_hire_10 ?_
    refine lv_aload_n hx hb dX1_hire_13 rfl (lv_at hl 0 rfl) ?_
    refine va_get (D := (dC, dI)) (ci := 1) (v := .int (sI u 2)) (C := RX1) (T := TX1) (N := 3) hx hb hts uwX1 hown hK hP 2 rfl rfl 1 (by decide) (hts _ wd_101) (fun _ h9 => h9) rfl dX1_hire_14 ?_
    refine va_aldq (C := RX4) hx hb hK hP 3 1 rfl rfl h.1 dX1_hire_17 ?_
    have h := h.2
    refine gq_top (fun r2 er2 => ?_)
    have h := h r2 er2
    refine lv_aload_n hx hb dX1_hire_18 rfl (lv_at hl 1 rfl) ?_
    obtain ⟨y3, rfl, hy4, h⟩ := h
    refine gc_v (w := wX ad ca K) (u := u) (va_runV (As := [.ref p1]) (rest := []) ⟨hx, hb, hml, hown, hts⟩ (cX4_begin l dC dI ad ca K H.size u y3 p1 _ hy4 hp1 h) (cwV 1 hts (gG_V wd_409 wd_410 wd_411 wd_48 wd_412) rfl rfl rfl (by decide +kernel) ⟨Nat.le_of_ble_eq_true rfl, Nat.le_of_ble_eq_true rfl⟩) ⟨gB_blind xE_ok, (by obtain ⟨k9, hk9⟩ := xW_get hy4; exact va_recv hK hP (ci := 4) (q0 := k9) rfl hk9), gB_pre xE_ok hP hK hD hE hS hA⟩ rfl rfl hl.1 rfl (lv_room (Nat.le_of_ble_eq_true rfl)) dX1_hire_19 ⟨Nat.le_of_ble_eq_true rfl, Nat.le_of_ble_eq_true rfl⟩) hD hS hA (fun u6 H locs h hP hD hS => ?_)
    refine lv_aload_n hx hb dX1_hire_22 rfl (lv_at hl 0 rfl) ?_
    refine lv_dup hx hb dX1_hire_23 rfl ?_
    refine va_get (D := (dC, dI)) (ci := 1) (v := .int (sI u6 2)) (C := RX1) (T := TX1) (N := 3) hx hb hts uwX1 hown hK hP 2 rfl rfl 1 (by decide) (hts _ wd_101) (fun _ h9 => h9) rfl dX1_hire_24 ?_
    refine lv_iconst (v := 1) hx hb dX1_hire_27 (by decide) ?_
    refine lv_iadd hx hb dX1_hire_28 ?_
    refine va_put (D := (dC, dI)) (ci := 1) (v := .int ((sI u6 2) + 1)) (ty := tyX1 1) (C := RX1) (T := TX1) (N := 3) hx hb hts uwX1 tyX1 tyX1_ok nmX1 hown hK hP hD hS 2 rfl rfl 1 (by decide) (hts _ wd_101) (fun _ h9 => h9) rfl (tyX1_ok 1 (by decide)) rfl rfl (Nat.le_of_ble_eq_true rfl) dX1_hire_29 (fun H locs hP hD hS => ?_)
    obtain ⟨u7, eu7⟩ : ∃ z : gS, z = tI u6 2 ((sI u6 2) + 1) := ⟨_, rfl⟩
    have hP : va_P (dC, dI) vwCl (wX ad ca K u7) H := by rw [eu7, wX_f2_size]; exact hP
    have hD : va_D A (wX ad ca K u7) := by rw [eu7, wX_f2_size]; exact hD
    have h := h u7 eu7
    refine lv_aload_n hx hb dX1_hire_32 rfl (lv_at hl 0 rfl) ?_
    refine lv_aload_n hx hb dX1_hire_33 rfl (lv_at hl 0 rfl) ?_
    refine va_get (D := (dC, dI)) (ci := 1) (v := .int (sI u7 3)) (C := RX1) (T := TX1) (N := 3) hx hb hts uwX1 hown hK hP 2 rfl rfl 2 (by decide) (hts _ wd_103) (fun _ h9 => h9) rfl dX1_hire_34 ?_
    refine lv_aload_n hx hb dX1_hire_37 rfl (lv_at hl 0 rfl) ?_
    refine va_get (D := (dC, dI)) (ci := 1) (v := .int (sI u7 2)) (C := RX1) (T := TX1) (N := 3) hx hb hts uwX1 hown hK hP 2 rfl rfl 1 (by decide) (hts _ wd_101) (fun _ h9 => h9) rfl dX1_hire_38 ?_
    refine va_mmax hx hb (hml.trans hl.1.symm) hown (hts _ wd_413) (hts _ wd_167) (hts _ wd_51) (hts _ wm_max) (Nat.le_of_ble_eq_true rfl) (Nat.le_of_ble_eq_true rfl) (Nat.zero_le _) (Nat.zero_le _) dX1_hire_41 ?_
    refine va_put (D := (dC, dI)) (ci := 1) (v := .int (if (sI u7 3) < (sI u7 2) then (sI u7 2) else (sI u7 3))) (ty := tyX1 2) (C := RX1) (T := TX1) (N := 3) hx hb hts uwX1 tyX1 tyX1_ok nmX1 hown hK hP hD hS 2 rfl rfl 2 (by decide) (hts _ wd_103) (fun _ h9 => h9) rfl (tyX1_ok 2 (by decide)) rfl rfl (Nat.le_of_ble_eq_true rfl) dX1_hire_44 (fun H locs hP hD hS => ?_)
    obtain ⟨u8, eu8⟩ : ∃ z : gS, z = tI u7 3 (if (sI u7 3) < (sI u7 2) then (sI u7 2) else (sI u7 3)) := ⟨_, rfl⟩
    have hP : va_P (dC, dI) vwCl (wX ad ca K u8) H := by rw [eu8, wX_f2_mostSeen]; exact hP
    have hD : va_D A (wX ad ca K u8) := by rw [eu8, wX_f2_mostSeen]; exact hD
    have h := h u8 eu8
    exact gr_v (w := wX ad ca K) (u := u8) hx hb hr hlocks h hP hK hD hS dX1_hire_47
  · have h := h.2 c1
    exact gr_v (w := wX ad ca K) (u := u) hx hb hr hlocks h hP hK hD hS dX1_hire_8

theorem dX1_dismiss_0 : decode prog_2_method_7_code 0 = .ok (.aload_n 0, 1) := by decide +kernel
theorem dX1_dismiss_1 : decode prog_2_method_7_code 1 = .ok (.iload_n 1, 1) := by decide +kernel
theorem dX1_dismiss_2 : decode prog_2_method_7_code 2 = .ok (.invokevirtual 29, 3) := by decide +kernel
theorem dX1_dismiss_5 : decode prog_2_method_7_code 5 = .ok (.astore_n 2, 1) := by decide +kernel
theorem dX1_dismiss_6 : decode prog_2_method_7_code 6 = .ok (.aload_n 2, 1) := by decide +kernel
theorem dX1_dismiss_7 : decode prog_2_method_7_code 7 = .ok (.ifnonnull 4, 3) := by decide +kernel
theorem dX1_dismiss_10 : decode prog_2_method_7_code 10 = .ok (.return_, 1) := by decide +kernel
theorem dX1_dismiss_11 : decode prog_2_method_7_code 11 = .ok (.iload_n 1, 1) := by decide +kernel
theorem dX1_dismiss_12 : decode prog_2_method_7_code 12 = .ok (.istore_n 3, 1) := by decide +kernel
theorem dX1_dismiss_13 : decode prog_2_method_7_code 13 = .ok (.iload_n 3, 1) := by decide +kernel
theorem dX1_dismiss_14 : decode prog_2_method_7_code 14 = .ok (.aload_n 0, 1) := by decide +kernel
theorem dX1_dismiss_15 : decode prog_2_method_7_code 15 = .ok (.getfield 17, 3) := by decide +kernel
theorem dX1_dismiss_18 : decode prog_2_method_7_code 18 = .ok (.iconst 1, 1) := by decide +kernel
theorem dX1_dismiss_19 : decode prog_2_method_7_code 19 = .ok (.isub, 1) := by decide +kernel
theorem dX1_dismiss_20 : decode prog_2_method_7_code 20 = .ok (.if_icmp .ge 23, 3) := by decide +kernel
theorem dX1_dismiss_23 : decode prog_2_method_7_code 23 = .ok (.aload_n 0, 1) := by decide +kernel
theorem dX1_dismiss_24 : decode prog_2_method_7_code 24 = .ok (.getfield 11, 3) := by decide +kernel
theorem dX1_dismiss_27 : decode prog_2_method_7_code 27 = .ok (.iload_n 3, 1) := by decide +kernel
theorem dX1_dismiss_28 : decode prog_2_method_7_code 28 = .ok (.aload_n 0, 1) := by decide +kernel
theorem dX1_dismiss_29 : decode prog_2_method_7_code 29 = .ok (.getfield 11, 3) := by decide +kernel
theorem dX1_dismiss_32 : decode prog_2_method_7_code 32 = .ok (.iload_n 3, 1) := by decide +kernel
theorem dX1_dismiss_33 : decode prog_2_method_7_code 33 = .ok (.iconst 1, 1) := by decide +kernel
theorem dX1_dismiss_34 : decode prog_2_method_7_code 34 = .ok (.iadd, 1) := by decide +kernel
theorem dX1_dismiss_35 : decode prog_2_method_7_code 35 = .ok (.aaload, 1) := by decide +kernel
theorem dX1_dismiss_36 : decode prog_2_method_7_code 36 = .ok (.aastore, 1) := by decide +kernel
theorem dX1_dismiss_37 : decode prog_2_method_7_code 37 = .ok (.iinc 3 1, 3) := by decide +kernel
theorem dX1_dismiss_40 : decode prog_2_method_7_code 40 = .ok (.goto (-27), 3) := by decide +kernel
theorem dX1_dismiss_43 : decode prog_2_method_7_code 43 = .ok (.aload_n 0, 1) := by decide +kernel
theorem dX1_dismiss_44 : decode prog_2_method_7_code 44 = .ok (.dup, 1) := by decide +kernel
theorem dX1_dismiss_45 : decode prog_2_method_7_code 45 = .ok (.getfield 17, 3) := by decide +kernel
theorem dX1_dismiss_48 : decode prog_2_method_7_code 48 = .ok (.iconst 1, 1) := by decide +kernel
theorem dX1_dismiss_49 : decode prog_2_method_7_code 49 = .ok (.isub, 1) := by decide +kernel
theorem dX1_dismiss_50 : decode prog_2_method_7_code 50 = .ok (.putfield 17, 3) := by decide +kernel
theorem dX1_dismiss_53 : decode prog_2_method_7_code 53 = .ok (.aload_n 0, 1) := by decide +kernel
theorem dX1_dismiss_54 : decode prog_2_method_7_code 54 = .ok (.getfield 11, 3) := by decide +kernel
theorem dX1_dismiss_57 : decode prog_2_method_7_code 57 = .ok (.aload_n 0, 1) := by decide +kernel
theorem dX1_dismiss_58 : decode prog_2_method_7_code 58 = .ok (.getfield 17, 3) := by decide +kernel
theorem dX1_dismiss_61 : decode prog_2_method_7_code 61 = .ok (.aload_n 2, 1) := by decide +kernel
theorem dX1_dismiss_62 : decode prog_2_method_7_code 62 = .ok (.aastore, 1) := by decide +kernel
theorem dX1_dismiss_63 : decode prog_2_method_7_code 63 = .ok (.return_, 1) := by decide +kernel
def wpX1_dismiss_13 (K : KX) (post : gS → Prop) : Nat → Int32 → Nat → Int32 → gS → Prop
  | 0 => fun _ _ _ _ => False
  | n + 1 => fun l1 l2 l3 u => ((((sI u 2) - 1) ≤ l3 → (∀ u5 : gS, u5 = tI u 2 ((sI u 2) - 1) → (l2 ∈ K.2.1 ∧ (vp_in (sI u5 2) 5 ∧ (∀ u7 : gS, u7 = tQ u5 0 ((sI u5 2).toNatClampNeg) (some l2) → (post u7)))))) ∧ (¬ ((sI u 2) - 1) ≤ l3 → (vp_in (l3 + 1) 5 ∧ (∀ r8 : Option Nat, r8 = sQ u 0 (l3 + 1).toNatClampNeg → ((∀ y9 : Nat, r8 = some y9 → y9 ∈ K.2.1) ∧ (vp_in l3 5 ∧ (∀ u10 : gS, u10 = tQ u 0 l3.toNatClampNeg r8 → (∀ x11 : Int32, x11 = l3 + 1 → (wpX1_dismiss_13 K post n l1 l2 x11 u10)))))))))

def wpX1_dismiss (K : KX) (post : gS → Prop) (u : gS) (p1 : Int32) : Prop :=
  wpX1_at K (fun (r1 : Option Nat) (u2 : gS) => ((r1 = none → (post u2)) ∧ (∀ y3 : Nat, r1 = some y3 → (∃ n13 : Nat, wpX1_dismiss_13 K post n13 p1 y3 p1 u2)))) u p1

set_option maxHeartbeats 8000000 in
set_option maxRecDepth 100000 in
theorem wpX1_dismiss_13_ok {p : Program} {l : Launch} {e : Env} {s : State} {m : MethodId} {args : Array Value} {below : List Frame} {meth : Method} {c : Code} {dC : Nat → ClassId} {dI : Nat → Nat → Nat} {ad : Nat → Nat} {ca : Nat → ClassId} {K : KX} {A : Nat → Prop} {post : gS → Prop}   (hx : p.tables.exec = Jvm.exec) (hb : c.code = prog_2_method_7_code) (hr : meth.sig.returnType = none) (hml : c.maxLocals = 4) (hown : s.vm.findClass RX1 = some m.cls) (hts : ∀ w ∈ gW, w.before args s = true) (hlocks : meth.locks = false) (hK : va_K (dC, dI) vwCl (xT ca) s) (hA : ∀ q, s.heap.size ≤ q → A q) (hE : xE A s s.heap) :
    ∀ (n : Nat) (l1 : Int32) (l2 : Nat) (l3 : Int32) (u : gS) (H : Heap) (locs : List Loc) (ls : Array Slot), wpX1_dismiss_13 K post n l1 l2 l3 u → va_P (dC, dI) vwCl (wX ad ca K u) H → va_D A (wX ad ca K u) → va_S A s.heap H locs → lv_has ls 4 [(0, .ref (ad 2)), (1, .int l1), (2, .ref l2), (3, .int l3)] → W p l e (headSpec (gw ⟨"WorkHall$Crew", "dismiss", "(I)V"⟩ prog_2_method_7_code 4 none) ({ frames := 2, cells := 0, slots := 0, locals := 80 } : Room)).room s m args below meth c H locs 0 0 (MQ below (va_Qv post (gAt (dC, dI) vwCl (xT ca) (wX ad ca K) (A)) (A)) args s 0 0 A) (F0 m 13 ls []) := by
  intro n
  induction n with
  | zero => exact fun _ _ _ _ _ _ _ h => h.elim
  | succ n ih =>
    intro l1 l2 l3 u H locs ls h hP hD hS hl
    refine lv_iload_n hx hb dX1_dismiss_13 rfl (lv_at hl 3 rfl) ?_
    refine lv_aload_n hx hb dX1_dismiss_14 rfl (lv_at hl 0 rfl) ?_
    refine va_get (D := (dC, dI)) (ci := 1) (v := .int (sI u 2)) (C := RX1) (T := TX1) (N := 3) hx hb hts uwX1 hown hK hP 2 rfl rfl 1 (by decide) (hts _ wd_101) (fun _ h9 => h9) rfl dX1_dismiss_15 ?_
    refine lv_iconst (v := 1) hx hb dX1_dismiss_18 (by decide) ?_
    refine lv_isub hx hb dX1_dismiss_19 ?_
    refine lv_icmp_ge (tgt := 43) hx hb dX1_dismiss_20 (by decide) (fun c4 => ?_) (fun c4 => ?_)
    · have h := h.1 c4
      refine lv_aload_n hx hb dX1_dismiss_43 rfl (lv_at hl 0 rfl) ?_
      refine lv_dup hx hb dX1_dismiss_44 rfl ?_
      refine va_get (D := (dC, dI)) (ci := 1) (v := .int (sI u 2)) (C := RX1) (T := TX1) (N := 3) hx hb hts uwX1 hown hK hP 2 rfl rfl 1 (by decide) (hts _ wd_101) (fun _ h9 => h9) rfl dX1_dismiss_45 ?_
      refine lv_iconst (v := 1) hx hb dX1_dismiss_48 (by decide) ?_
      refine lv_isub hx hb dX1_dismiss_49 ?_
      refine va_put (D := (dC, dI)) (ci := 1) (v := .int ((sI u 2) - 1)) (ty := tyX1 1) (C := RX1) (T := TX1) (N := 3) hx hb hts uwX1 tyX1 tyX1_ok nmX1 hown hK hP hD hS 2 rfl rfl 1 (by decide) (hts _ wd_101) (fun _ h9 => h9) rfl (tyX1_ok 1 (by decide)) rfl rfl (Nat.le_of_ble_eq_true rfl) dX1_dismiss_50 (fun H locs hP hD hS => ?_)
      obtain ⟨u5, eu5⟩ : ∃ z : gS, z = tI u 2 ((sI u 2) - 1) := ⟨_, rfl⟩
      have hP : va_P (dC, dI) vwCl (wX ad ca K u5) H := by rw [eu5, wX_f2_size]; exact hP
      have hD : va_D A (wX ad ca K u5) := by rw [eu5, wX_f2_size]; exact hD
      have h := h u5 eu5
      refine lv_aload_n hx hb dX1_dismiss_53 rfl (lv_at hl 0 rfl) ?_
      refine va_get (D := (dC, dI)) (ci := 1) (v := .ref (ad 3)) (C := RX1) (T := TX1) (N := 3) hx hb hts uwX1 hown hK hP 2 rfl rfl 0 (by decide) (hts _ wd_100) (fun _ h9 => h9) rfl dX1_dismiss_54 ?_
      refine lv_aload_n hx hb dX1_dismiss_57 rfl (lv_at hl 0 rfl) ?_
      refine va_get (D := (dC, dI)) (ci := 1) (v := .int (sI u5 2)) (C := RX1) (T := TX1) (N := 3) hx hb hts uwX1 hown hK hP 2 rfl rfl 1 (by decide) (hts _ wd_101) (fun _ h9 => h9) rfl dX1_dismiss_58 ?_
      refine lv_aload_n hx hb dX1_dismiss_61 rfl (lv_at hl 2 rfl) ?_
      obtain ⟨hy6, h⟩ := h
      refine gq_aast (v := (some l2)) (r := (RX4, TX4, 3)) hx hb hK hP hD hS 3 1 4 rfl rfl (fun y9 e9 => by cases e9; obtain ⟨k9, hk9⟩ := xW_get hy6; exact ⟨k9, _, hk9⟩) rfl h.1 dX1_dismiss_62 (fun H locs hP hD hS => ?_)
      have h := h.2
      obtain ⟨u7, eu7⟩ : ∃ z : gS, z = tQ u5 0 ((sI u5 2).toNatClampNeg) (some l2) := ⟨_, rfl⟩
      have hP : va_P (dC, dI) vwCl (wX ad ca K u7) H := by rw [eu7, wX_a3]; exact hP
      have hD : va_D A (wX ad ca K u7) := by rw [eu7, wX_a3]; exact hD
      have h := h u7 eu7
      exact gr_v (w := wX ad ca K) (u := u7) hx hb hr hlocks h hP hK hD hS dX1_dismiss_63
    · have h := h.2 c4
      refine lv_aload_n hx hb dX1_dismiss_23 rfl (lv_at hl 0 rfl) ?_
      refine va_get (D := (dC, dI)) (ci := 1) (v := .ref (ad 3)) (C := RX1) (T := TX1) (N := 3) hx hb hts uwX1 hown hK hP 2 rfl rfl 0 (by decide) (hts _ wd_100) (fun _ h9 => h9) rfl dX1_dismiss_24 ?_
      refine lv_iload_n hx hb dX1_dismiss_27 rfl (lv_at hl 3 rfl) ?_
      refine lv_aload_n hx hb dX1_dismiss_28 rfl (lv_at hl 0 rfl) ?_
      refine va_get (D := (dC, dI)) (ci := 1) (v := .ref (ad 3)) (C := RX1) (T := TX1) (N := 3) hx hb hts uwX1 hown hK hP 2 rfl rfl 0 (by decide) (hts _ wd_100) (fun _ h9 => h9) rfl dX1_dismiss_29 ?_
      refine lv_iload_n hx hb dX1_dismiss_32 rfl (lv_at hl 3 rfl) ?_
      refine lv_iconst (v := 1) hx hb dX1_dismiss_33 (by decide) ?_
      refine lv_iadd hx hb dX1_dismiss_34 ?_
      refine va_aldq (C := RX4) hx hb hK hP 3 1 rfl rfl h.1 dX1_dismiss_35 ?_
      have h := h.2
      refine gq_top (fun r8 er8 => ?_)
      have h := h r8 er8
      obtain ⟨hy9, h⟩ := h
      refine gq_aast (v := r8) (r := (RX4, TX4, 3)) hx hb hK hP hD hS 3 1 4 rfl rfl (fun y9 e9 => by obtain ⟨k9, hk9⟩ := xW_get (hy9 y9 e9); exact ⟨k9, _, hk9⟩) rfl h.1 dX1_dismiss_36 (fun H locs hP hD hS => ?_)
      have h := h.2
      obtain ⟨u10, eu10⟩ : ∃ z : gS, z = tQ u 0 l3.toNatClampNeg r8 := ⟨_, rfl⟩
      have hP : va_P (dC, dI) vwCl (wX ad ca K u10) H := by rw [eu10, wX_a3]; exact hP
      have hD : va_D A (wX ad ca K u10) := by rw [eu10, wX_a3]; exact hD
      have h := h u10 eu10
      obtain ⟨x11, ex11⟩ : ∃ y : Int32, y = l3 + 1 := ⟨_, rfl⟩
      have h := h x11 ex11
      refine lv_iinc (v := x11) (lv' := [(3, .int x11), (0, .ref (ad 2)), (1, .int l1), (2, .ref l2)]) hx hb dX1_dismiss_37 hl (k := 3) rfl (by rw [ex11]; rfl) (by decide) rfl (fun ls hl => ?_)
      refine lv_goto (tgt := 13) hx hb dX1_dismiss_40 (by decide) ?_
      exact ih l1 l2 x11 u10 _ _ _ h hP hD hS (lv_sub hl [1, 2, 3, 0] rfl)

set_option maxHeartbeats 8000000 in
set_option maxRecDepth 100000 in
theorem cX1_dismiss (l : Launch) (dC : Nat → ClassId) (dI : Nat → Nat → Nat) (ad : Nat → Nat) (ca : Nat → ClassId) (K : KX) (sz : Nat) (u : gS) (p1 : Int32) (post : gS → Prop)  (h : wpX1_dismiss K post u p1) : Met l ⟨"WorkHall$Crew", "dismiss", "(I)V"⟩ (gw ⟨"WorkHall$Crew", "dismiss", "(I)V"⟩ prog_2_method_7_code 4 none) ({ frames := 2, cells := 0, slots := 0, locals := 80 } : Room) (va_Pc [.ref (ad 2), .int p1] (gB (dC, dI) vwCl (xT ca) xE (wX ad ca K u) sz)) (va_Qv post (gAt (dC, dI) vwCl (xT ca) (wX ad ca K) (va_A (wX ad ca K u) sz)) (va_A (wX ad ca K u) sz)) 0 0 (va_A (wX ad ca K u) sz) := by
  refine Met.ofW (cc := prog_2_method_7_code) (maxL := 4) (ret := none) (by decide) rfl ?_
  intro p e s m args below meth c s₁ B hml hv
  obtain ⟨rfl, hsz, hP, hK, hD0, hE⟩ := hv
  have hx := B.exec
  have hb := B.bytes
  have hr := B.returns
  have hts : ∀ w ∈ gW, w.before _ s = true := fun w h9 => atoms_spec (ws := (gw ⟨"WorkHall$Crew", "dismiss", "(I)V"⟩ prog_2_method_7_code 4 none)) B.pre w (List.mem_cons_of_mem _ h9)
  have hown : s.vm.findClass RX1 = some m.cls := findClass_of_methodNamed B.named
  have hlocks := B.notSynchronized
  subst hsz
  have hD := hD0.self (sz := s.heap.size)
  generalize hAe : va_A (wX ad ca K u) s.heap.size = A at hD hE ⊢
  have hA : ∀ q : Nat, s.heap.size ≤ q → A q := fun q h => by rw [← hAe]; exact Or.inr h
  obtain ⟨H, hHe⟩ : ∃ z : Heap, z = s.heap := ⟨_, rfl⟩
  rw [← hHe]
  have hS : va_S A s.heap H [] := by rw [hHe]; exact va_S.rf
  have hP : va_P (dC, dI) vwCl (wX ad ca K u) H := by rw [hHe]; exact hP
  have hl := lv_entry ([.ref (ad 2), .int p1]) (n := 4) (Nat.le_of_ble_eq_true rfl)
  rw [lg_entry_eq]
  generalize (lg_sl ([.ref (ad 2), .int p1]) ++ List.replicate (4 - (lg_sl ([.ref (ad 2), .int p1])).length) Slot.unset).toArray = ls at hl ⊢
  have hl : lv_has ls 4 [(0, .ref (ad 2)), (1, .int p1)] := hl
  clear hAe
  refine lv_aload_n hx hb dX1_dismiss_0 rfl (lv_at hl 0 rfl) ?_
  refine lv_iload_n hx hb dX1_dismiss_1 rfl (lv_at hl 1 rfl) ?_
  refine gc_q (w := wX ad ca K) (u := u) (va_runV (As := [.int p1]) (rest := []) ⟨hx, hb, hml, hown, hts⟩ (cX1_at l dC dI ad ca K H.size u p1 _ h) (cwV 1 hts (gG_V wd_401 wd_402 wd_403 wd_47 wd_404) rfl rfl rfl (by decide +kernel) ⟨Nat.le_of_ble_eq_true rfl, Nat.le_of_ble_eq_true rfl⟩) ⟨gB_blind xE_ok, va_recv hK hP (ci := 1) (q0 := 2) rfl rfl, gB_pre xE_ok hP hK hD hE hS hA⟩ rfl rfl hl.1 rfl (lv_room (Nat.le_of_ble_eq_true rfl)) dX1_dismiss_2 ⟨Nat.le_of_ble_eq_true rfl, Nat.le_of_ble_eq_true rfl⟩) hD hS hA (fun r1 u2 H locs h hP hD hS => ?_)
  refine gq_astore_n (r := r1) (lv' := [(2, va_rf r1), (0, .ref (ad 2)), (1, .int p1)]) hx hb dX1_dismiss_5 rfl hl (by decide) rfl (fun ls hl => ?_)
  refine gq_aload_n (r := r1) hx hb dX1_dismiss_6 rfl (lv_at hl 0 rfl) ?_
  rcases r1 with _ | y3
  · have h := h.1 rfl
    refine lv_ifnonnullN hx hb dX1_dismiss_7 ?_
    exact gr_v (w := wX ad ca K) (u := u2) hx hb hr hlocks h hP hK hD hS dX1_dismiss_10
  · have h := h.2 y3 rfl
    refine lv_ifnonnull (tgt := 11) hx hb dX1_dismiss_7 (by decide) ?_
    refine lv_iload_n hx hb dX1_dismiss_11 rfl (lv_at hl 2 rfl) ?_
    refine lv_istore_n (lv' := [(3, .int p1), (2, .ref y3), (0, .ref (ad 2)), (1, .int p1)]) hx hb dX1_dismiss_12 rfl hl (by decide) rfl (fun ls hl => ?_)
    obtain ⟨n13, h⟩ := h
    exact wpX1_dismiss_13_ok hx hb hr hml hown hts hlocks hK hA hE n13 p1 y3 p1 u2 _ _ _ h hP hD hS (lv_sub hl [2, 3, 1, 0] rfl)

theorem dX1_cancelAll_0 : decode prog_2_method_8_code 0 = .ok (.iconst 0, 1) := by decide +kernel
theorem dX1_cancelAll_1 : decode prog_2_method_8_code 1 = .ok (.istore_n 3, 1) := by decide +kernel
theorem dX1_cancelAll_2 : decode prog_2_method_8_code 2 = .ok (.iconst 0, 1) := by decide +kernel
theorem dX1_cancelAll_3 : decode prog_2_method_8_code 3 = .ok (.istore 4, 2) := by decide +kernel
theorem dX1_cancelAll_5 : decode prog_2_method_8_code 5 = .ok (.iload 4, 2) := by decide +kernel
theorem dX1_cancelAll_7 : decode prog_2_method_8_code 7 = .ok (.aload_n 0, 1) := by decide +kernel
theorem dX1_cancelAll_8 : decode prog_2_method_8_code 8 = .ok (.getfield 17, 3) := by decide +kernel
theorem dX1_cancelAll_11 : decode prog_2_method_8_code 11 = .ok (.if_icmp .ge 46, 3) := by decide +kernel
theorem dX1_cancelAll_14 : decode prog_2_method_8_code 14 = .ok (.aload_n 0, 1) := by decide +kernel
theorem dX1_cancelAll_15 : decode prog_2_method_8_code 15 = .ok (.getfield 11, 3) := by decide +kernel
theorem dX1_cancelAll_18 : decode prog_2_method_8_code 18 = .ok (.iload 4, 2) := by decide +kernel
theorem dX1_cancelAll_20 : decode prog_2_method_8_code 20 = .ok (.aaload, 1) := by decide +kernel
theorem dX1_cancelAll_21 : decode prog_2_method_8_code 21 = .ok (.getfield 33, 3) := by decide +kernel
theorem dX1_cancelAll_24 : decode prog_2_method_8_code 24 = .ok (.astore 5, 2) := by decide +kernel
theorem dX1_cancelAll_26 : decode prog_2_method_8_code 26 = .ok (.aload 5, 2) := by decide +kernel
theorem dX1_cancelAll_28 : decode prog_2_method_8_code 28 = .ok (.ifnull 23, 3) := by decide +kernel
theorem dX1_cancelAll_31 : decode prog_2_method_8_code 31 = .ok (.aload 5, 2) := by decide +kernel
theorem dX1_cancelAll_33 : decode prog_2_method_8_code 33 = .ok (.iconst 5, 1) := by decide +kernel
theorem dX1_cancelAll_34 : decode prog_2_method_8_code 34 = .ok (.putfield 47, 3) := by decide +kernel
theorem dX1_cancelAll_37 : decode prog_2_method_8_code 37 = .ok (.aload_n 0, 1) := by decide +kernel
theorem dX1_cancelAll_38 : decode prog_2_method_8_code 38 = .ok (.getfield 11, 3) := by decide +kernel
theorem dX1_cancelAll_41 : decode prog_2_method_8_code 41 = .ok (.iload 4, 2) := by decide +kernel
theorem dX1_cancelAll_43 : decode prog_2_method_8_code 43 = .ok (.aaload, 1) := by decide +kernel
theorem dX1_cancelAll_44 : decode prog_2_method_8_code 44 = .ok (.dload_n 1, 1) := by decide +kernel
theorem dX1_cancelAll_45 : decode prog_2_method_8_code 45 = .ok (.invokevirtual 52, 3) := by decide +kernel
theorem dX1_cancelAll_48 : decode prog_2_method_8_code 48 = .ok (.iinc 3 1, 3) := by decide +kernel
theorem dX1_cancelAll_51 : decode prog_2_method_8_code 51 = .ok (.iinc 4 1, 3) := by decide +kernel
theorem dX1_cancelAll_54 : decode prog_2_method_8_code 54 = .ok (.goto (-49), 3) := by decide +kernel
theorem dX1_cancelAll_57 : decode prog_2_method_8_code 57 = .ok (.iload_n 3, 1) := by decide +kernel
theorem dX1_cancelAll_58 : decode prog_2_method_8_code 58 = .ok (.ireturn, 1) := by decide +kernel
def wpX1_cancelAll_5 (K : KX) (post : Int32 → gS → Prop) : Nat → UInt64 → Int32 → Int32 → gS → Prop
  | 0 => fun _ _ _ _ => False
  | n + 1 => fun l1 l3 l4 u => (((sI u 2) ≤ l4 → (post l3 u)) ∧ (¬ (sI u 2) ≤ l4 → (vp_in l4 5 ∧ (∀ r2 : Option Nat, r2 = sQ u 0 l4.toNatClampNeg → (∃ y3 : Nat, r2 = some y3 ∧ y3 ∈ K.2.1 ∧ (∀ r5 : Option Nat, r5 = sQ u 4 y3 → (((r5 = none → (∀ x7 : Int32, x7 = l4 + 1 → (wpX1_cancelAll_5 K post n l1 l3 x7 u))) ∧ (∀ y6 : Nat, r5 = some y6 → (y6 ∈ K.2.2.1 ∧ (∀ u9 : gS, u9 = tA u 0 y6 5 → (vp_in l4 5 ∧ (∀ r10 : Option Nat, r10 = sQ u9 0 l4.toNatClampNeg → (∃ y11 : Nat, r10 = some y11 ∧ y11 ∈ K.2.1 ∧ (wpX4_rest K (fun (u14 : gS) => ∀ x15 : Int32, x15 = l3 + 1 → (∀ x16 : Int32, x16 = l4 + 1 → (wpX1_cancelAll_5 K post n l1 x15 x16 u14))) u9 y11 l1)))))))))))))))

def wpX1_cancelAll (K : KX) (post : Int32 → gS → Prop) (u : gS) (p1 : UInt64) : Prop :=
  ∃ n5 : Nat, wpX1_cancelAll_5 K post n5 p1 0 0 u

set_option maxHeartbeats 8000000 in
set_option maxRecDepth 100000 in
theorem wpX1_cancelAll_5_ok {p : Program} {l : Launch} {e : Env} {s : State} {m : MethodId} {args : Array Value} {below : List Frame} {meth : Method} {c : Code} {dC : Nat → ClassId} {dI : Nat → Nat → Nat} {ad : Nat → Nat} {ca : Nat → ClassId} {K : KX} {A : Nat → Prop} {post : Int32 → gS → Prop}   (hx : p.tables.exec = Jvm.exec) (hb : c.code = prog_2_method_8_code) (hr : meth.sig.returnType = (some .int)) (hml : c.maxLocals = 6) (hown : s.vm.findClass RX1 = some m.cls) (hts : ∀ w ∈ gW, w.before args s = true) (hlocks : meth.locks = false) (hK : va_K (dC, dI) vwCl (xT ca) s) (hA : ∀ q, s.heap.size ≤ q → A q) (hE : xE A s s.heap) :
    ∀ (n : Nat) (l1 : UInt64) (l3 : Int32) (l4 : Int32) (u : gS) (H : Heap) (locs : List Loc) (ls : Array Slot), wpX1_cancelAll_5 K post n l1 l3 l4 u → va_P (dC, dI) vwCl (wX ad ca K u) H → va_D A (wX ad ca K u) → va_S A s.heap H locs → lv_has ls 6 [(0, .ref (ad 2)), (1, .double l1), (3, .int l3), (4, .int l4)] → W p l e (headSpec (gw ⟨"WorkHall$Crew", "cancelAll", "(D)I"⟩ prog_2_method_8_code 6 (some .int)) ({ frames := 2, cells := 0, slots := 0, locals := 80 } : Room)).room s m args below meth c H locs 0 0 (MQ below (va_Qi post (gAt (dC, dI) vwCl (xT ca) (wX ad ca K) (A)) (A)) args s 0 0 A) (F0 m 5 ls []) := by
  intro n
  induction n with
  | zero => exact fun _ _ _ _ _ _ _ h => h.elim
  | succ n ih =>
    intro l1 l3 l4 u H locs ls h hP hD hS hl
    refine lv_iload hx hb dX1_cancelAll_5 (lv_at hl 3 rfl) ?_
    refine lv_aload_n hx hb dX1_cancelAll_7 rfl (lv_at hl 0 rfl) ?_
    refine va_get (D := (dC, dI)) (ci := 1) (v := .int (sI u 2)) (C := RX1) (T := TX1) (N := 3) hx hb hts uwX1 hown hK hP 2 rfl rfl 1 (by decide) (hts _ wd_101) (fun _ h9 => h9) rfl dX1_cancelAll_8 ?_
    refine lv_icmp_ge (tgt := 57) hx hb dX1_cancelAll_11 (by decide) (fun c1 => ?_) (fun c1 => ?_)
    · have h := h.1 c1
      refine lv_iload_n hx hb dX1_cancelAll_57 rfl (lv_at hl 2 rfl) ?_
      exact gr_i (w := wX ad ca K) (u := u) hx hb hr hlocks h hP hK hD hS dX1_cancelAll_58
    · have h := h.2 c1
      refine lv_aload_n hx hb dX1_cancelAll_14 rfl (lv_at hl 0 rfl) ?_
      refine va_get (D := (dC, dI)) (ci := 1) (v := .ref (ad 3)) (C := RX1) (T := TX1) (N := 3) hx hb hts uwX1 hown hK hP 2 rfl rfl 0 (by decide) (hts _ wd_100) (fun _ h9 => h9) rfl dX1_cancelAll_15 ?_
      refine lv_iload hx hb dX1_cancelAll_18 (lv_at hl 3 rfl) ?_
      refine va_aldq (C := RX4) hx hb hK hP 3 1 rfl rfl h.1 dX1_cancelAll_20 ?_
      have h := h.2
      refine gq_top (fun r2 er2 => ?_)
      have h := h r2 er2
      obtain ⟨y3, rfl, hy4, h⟩ := h
      obtain ⟨k9, hk9⟩ := xW_get hy4
      refine va_get (D := (dC, dI)) (ci := 4) (v := va_rf (sQ u 4 y3)) (C := RX4) (T := TX4) (N := 3) hx hb hts uwX4 hown hK hP k9 hk9 rfl 0 (by decide) (hts _ wd_87) (fun _ h9 => h9) rfl dX1_cancelAll_21 ?_
      refine gq_top (fun r5 er5 => ?_)
      have h := h r5 er5
      refine gq_astore (r := r5) (lv' := [(5, va_rf r5), (0, .ref (ad 2)), (1, .double l1), (3, .int l3), (4, .int l4)]) hx hb dX1_cancelAll_24 hl (by decide) rfl (fun ls hl => ?_)
      refine gq_aload (r := r5) hx hb dX1_cancelAll_26 (lv_at hl 0 rfl) ?_
      rcases r5 with _ | y6
      · have h := h.1 rfl
        refine lv_ifnullN (tgt := 51) hx hb dX1_cancelAll_28 (by decide) ?_
        obtain ⟨x7, ex7⟩ : ∃ y : Int32, y = l4 + 1 := ⟨_, rfl⟩
        have h := h x7 ex7
        refine lv_iinc (v := x7) (lv' := [(4, .int x7), (5, .null), (0, .ref (ad 2)), (1, .double l1), (3, .int l3)]) hx hb dX1_cancelAll_51 hl (k := 4) rfl (by rw [ex7]; rfl) (by decide) rfl (fun ls hl => ?_)
        refine lv_goto (tgt := 5) hx hb dX1_cancelAll_54 (by decide) ?_
        exact ih l1 l3 x7 u _ _ _ h hP hD hS (lv_sub hl [2, 3, 4, 0] rfl)
      · have h := h.2 y6 rfl
        refine lv_ifnull hx hb dX1_cancelAll_28 ?_
        refine lv_aload hx hb dX1_cancelAll_31 (lv_at hl 0 rfl) ?_
        refine lv_iconst (v := 5) hx hb dX1_cancelAll_33 (by decide) ?_
        obtain ⟨hy8, h⟩ := h
        obtain ⟨k9, hk9⟩ := xJ_get hy8
        have e9 := xJ_state (v := 5) hD hy8 hk9
        refine va_put (D := (dC, dI)) (ci := 5) (v := .int 5) (ty := tyX5 5) (C := RX5) (T := TX5) (N := 9) hx hb hts uwX5 tyX5 tyX5_ok nmX5 hown hK hP hD hS k9 hk9 rfl 5 (by decide) (hts _ wd_329) (fun _ h9 => h9) rfl (tyX5_ok 5 (by decide)) rfl rfl (Nat.le_of_ble_eq_true rfl) dX1_cancelAll_34 (fun H locs hP hD hS => ?_)
        obtain ⟨u9, eu9⟩ : ∃ z : gS, z = tA u 0 y6 5 := ⟨_, rfl⟩
        have hP : va_P (dC, dI) vwCl (wX ad ca K u9) H := by rw [eu9, ← e9]; exact hP
        have hD : va_D A (wX ad ca K u9) := by rw [eu9, ← e9]; exact hD
        have h := h u9 eu9
        refine lv_aload_n hx hb dX1_cancelAll_37 rfl (lv_at hl 1 rfl) ?_
        refine va_get (D := (dC, dI)) (ci := 1) (v := .ref (ad 3)) (C := RX1) (T := TX1) (N := 3) hx hb hts uwX1 hown hK hP 2 rfl rfl 0 (by decide) (hts _ wd_100) (fun _ h9 => h9) rfl dX1_cancelAll_38 ?_
        refine lv_iload hx hb dX1_cancelAll_41 (lv_at hl 4 rfl) ?_
        refine va_aldq (C := RX4) hx hb hK hP 3 1 rfl rfl h.1 dX1_cancelAll_43 ?_
        have h := h.2
        refine gq_top (fun r10 er10 => ?_)
        have h := h r10 er10
        refine lv_dload_n hx hb dX1_cancelAll_44 rfl (lv_at hl 2 rfl) ?_
        obtain ⟨y11, rfl, hy12, h⟩ := h
        refine gc_v (w := wX ad ca K) (u := u9) (va_runV (As := [.double l1]) (rest := []) ⟨hx, hb, hml, hown, hts⟩ (cX4_rest l dC dI ad ca K H.size u9 y11 l1 _ hy12 h) (cwV 1 hts (gG_V wd_650 wd_522 wd_523 wd_48 wd_524) rfl rfl rfl (by decide +kernel) ⟨Nat.le_of_ble_eq_true rfl, Nat.le_of_ble_eq_true rfl⟩) ⟨gB_blind xE_ok, (by obtain ⟨k9, hk9⟩ := xW_get hy12; exact va_recv hK hP (ci := 4) (q0 := k9) rfl hk9), gB_pre xE_ok hP hK hD hE hS hA⟩ rfl rfl hl.1 rfl (lv_room (Nat.le_of_ble_eq_true rfl)) dX1_cancelAll_45 ⟨Nat.le_of_ble_eq_true rfl, Nat.le_of_ble_eq_true rfl⟩) hD hS hA (fun u14 H locs h hP hD hS => ?_)
        obtain ⟨x15, ex15⟩ : ∃ y : Int32, y = l3 + 1 := ⟨_, rfl⟩
        have h := h x15 ex15
        refine lv_iinc (v := x15) (lv' := [(3, .int x15), (5, .ref y6), (0, .ref (ad 2)), (1, .double l1), (4, .int l4)]) hx hb dX1_cancelAll_48 hl (k := 3) rfl (by rw [ex15]; rfl) (by decide) rfl (fun ls hl => ?_)
        obtain ⟨x16, ex16⟩ : ∃ y : Int32, y = l4 + 1 := ⟨_, rfl⟩
        have h := h x16 ex16
        refine lv_iinc (v := x16) (lv' := [(4, .int x16), (3, .int x15), (5, .ref y6), (0, .ref (ad 2)), (1, .double l1)]) hx hb dX1_cancelAll_51 hl (k := 4) rfl (by rw [ex16]; rfl) (by decide) rfl (fun ls hl => ?_)
        refine lv_goto (tgt := 5) hx hb dX1_cancelAll_54 (by decide) ?_
        exact ih l1 x15 x16 u14 _ _ _ h hP hD hS (lv_sub hl [3, 4, 1, 0] rfl)

set_option maxHeartbeats 8000000 in
set_option maxRecDepth 100000 in
theorem cX1_cancelAll (l : Launch) (dC : Nat → ClassId) (dI : Nat → Nat → Nat) (ad : Nat → Nat) (ca : Nat → ClassId) (K : KX) (sz : Nat) (u : gS) (p1 : UInt64) (post : Int32 → gS → Prop)  (h : wpX1_cancelAll K post u p1) : Met l ⟨"WorkHall$Crew", "cancelAll", "(D)I"⟩ (gw ⟨"WorkHall$Crew", "cancelAll", "(D)I"⟩ prog_2_method_8_code 6 (some .int)) ({ frames := 2, cells := 0, slots := 0, locals := 80 } : Room) (va_Pc [.ref (ad 2), .double p1] (gB (dC, dI) vwCl (xT ca) xE (wX ad ca K u) sz)) (va_Qi post (gAt (dC, dI) vwCl (xT ca) (wX ad ca K) (va_A (wX ad ca K u) sz)) (va_A (wX ad ca K u) sz)) 0 0 (va_A (wX ad ca K u) sz) := by
  refine Met.ofW (cc := prog_2_method_8_code) (maxL := 6) (ret := (some .int)) (by decide) rfl ?_
  intro p e s m args below meth c s₁ B hml hv
  obtain ⟨rfl, hsz, hP, hK, hD0, hE⟩ := hv
  have hx := B.exec
  have hb := B.bytes
  have hr := B.returns
  have hts : ∀ w ∈ gW, w.before _ s = true := fun w h9 => atoms_spec (ws := (gw ⟨"WorkHall$Crew", "cancelAll", "(D)I"⟩ prog_2_method_8_code 6 (some .int))) B.pre w (List.mem_cons_of_mem _ h9)
  have hown : s.vm.findClass RX1 = some m.cls := findClass_of_methodNamed B.named
  have hlocks := B.notSynchronized
  subst hsz
  have hD := hD0.self (sz := s.heap.size)
  generalize hAe : va_A (wX ad ca K u) s.heap.size = A at hD hE ⊢
  have hA : ∀ q : Nat, s.heap.size ≤ q → A q := fun q h => by rw [← hAe]; exact Or.inr h
  obtain ⟨H, hHe⟩ : ∃ z : Heap, z = s.heap := ⟨_, rfl⟩
  rw [← hHe]
  have hS : va_S A s.heap H [] := by rw [hHe]; exact va_S.rf
  have hP : va_P (dC, dI) vwCl (wX ad ca K u) H := by rw [hHe]; exact hP
  have hl := lv_entry ([.ref (ad 2), .double p1]) (n := 6) (Nat.le_of_ble_eq_true rfl)
  rw [lg_entry_eq]
  generalize (lg_sl ([.ref (ad 2), .double p1]) ++ List.replicate (6 - (lg_sl ([.ref (ad 2), .double p1])).length) Slot.unset).toArray = ls at hl ⊢
  have hl : lv_has ls 6 [(0, .ref (ad 2)), (1, .double p1)] := hl
  clear hAe
  refine lv_iconst (v := 0) hx hb dX1_cancelAll_0 (by decide) ?_
  refine lv_istore_n (lv' := [(3, .int 0), (0, .ref (ad 2)), (1, .double p1)]) hx hb dX1_cancelAll_1 rfl hl (by decide) rfl (fun ls hl => ?_)
  refine lv_iconst (v := 0) hx hb dX1_cancelAll_2 (by decide) ?_
  refine lv_istore (lv' := [(4, .int 0), (3, .int 0), (0, .ref (ad 2)), (1, .double p1)]) hx hb dX1_cancelAll_3 hl (by decide) rfl (fun ls hl => ?_)
  obtain ⟨n5, h⟩ := h
  exact wpX1_cancelAll_5_ok hx hb hr hml hown hts hlocks hK hA hE n5 p1 0 0 u _ _ _ h hP hD hS (lv_sub hl [2, 3, 1, 0] rfl)

theorem dX2_placeOf_0 : decode prog_4_method_2_code 0 = .ok (.iconst 0, 1) := by decide +kernel
theorem dX2_placeOf_1 : decode prog_4_method_2_code 1 = .ok (.istore_n 2, 1) := by decide +kernel
theorem dX2_placeOf_2 : decode prog_4_method_2_code 2 = .ok (.iload_n 2, 1) := by decide +kernel
theorem dX2_placeOf_3 : decode prog_4_method_2_code 3 = .ok (.aload_n 0, 1) := by decide +kernel
theorem dX2_placeOf_4 : decode prog_4_method_2_code 4 = .ok (.getfield 21, 3) := by decide +kernel
theorem dX2_placeOf_7 : decode prog_4_method_2_code 7 = .ok (.if_icmp .ge 21, 3) := by decide +kernel
theorem dX2_placeOf_10 : decode prog_4_method_2_code 10 = .ok (.aload_n 0, 1) := by decide +kernel
theorem dX2_placeOf_11 : decode prog_4_method_2_code 11 = .ok (.getfield 11, 3) := by decide +kernel
theorem dX2_placeOf_14 : decode prog_4_method_2_code 14 = .ok (.iload_n 2, 1) := by decide +kernel
theorem dX2_placeOf_15 : decode prog_4_method_2_code 15 = .ok (.aaload, 1) := by decide +kernel
theorem dX2_placeOf_16 : decode prog_4_method_2_code 16 = .ok (.aload_n 1, 1) := by decide +kernel
theorem dX2_placeOf_17 : decode prog_4_method_2_code 17 = .ok (.if_acmp .ne 5, 3) := by decide +kernel
theorem dX2_placeOf_20 : decode prog_4_method_2_code 20 = .ok (.iload_n 2, 1) := by decide +kernel
theorem dX2_placeOf_21 : decode prog_4_method_2_code 21 = .ok (.ireturn, 1) := by decide +kernel
theorem dX2_placeOf_22 : decode prog_4_method_2_code 22 = .ok (.iinc 2 1, 3) := by decide +kernel
theorem dX2_placeOf_25 : decode prog_4_method_2_code 25 = .ok (.goto (-23), 3) := by decide +kernel
theorem dX2_placeOf_28 : decode prog_4_method_2_code 28 = .ok (.iconst (-1), 1) := by decide +kernel
theorem dX2_placeOf_29 : decode prog_4_method_2_code 29 = .ok (.ireturn, 1) := by decide +kernel
def wpX2_placeOf_2 (K : KX) (post : Int32 → gS → Prop) : Nat → Option Nat → Int32 → gS → Prop
  | 0 => fun _ _ _ => False
  | n + 1 => fun l1 l2 u => (((sI u 4) ≤ l2 → (post (-1) u)) ∧ (¬ (sI u 4) ≤ l2 → (vp_in l2 4 ∧ (∀ r2 : Option Nat, r2 = sQ u 1 l2.toNatClampNeg → (((¬ r2 = l1 → (∀ x4 : Int32, x4 = l2 + 1 → (wpX2_placeOf_2 K post n l1 x4 u))) ∧ (r2 = l1 → (post l2 u))))))))

def wpX2_placeOf (K : KX) (post : Int32 → gS → Prop) (u : gS) (p1 : Option Nat) : Prop :=
  ∃ n2 : Nat, wpX2_placeOf_2 K post n2 p1 0 u

set_option maxHeartbeats 8000000 in
set_option maxRecDepth 100000 in
theorem wpX2_placeOf_2_ok {p : Program} {l : Launch} {e : Env} {s : State} {m : MethodId} {args : Array Value} {below : List Frame} {meth : Method} {c : Code} {dC : Nat → ClassId} {dI : Nat → Nat → Nat} {ad : Nat → Nat} {ca : Nat → ClassId} {K : KX} {A : Nat → Prop} {post : Int32 → gS → Prop}   (hx : p.tables.exec = Jvm.exec) (hb : c.code = prog_4_method_2_code) (hr : meth.sig.returnType = (some .int)) (hml : c.maxLocals = 3) (hown : s.vm.findClass RX2 = some m.cls) (hts : ∀ w ∈ gW, w.before args s = true) (hlocks : meth.locks = false) (hK : va_K (dC, dI) vwCl (xT ca) s) (hA : ∀ q, s.heap.size ≤ q → A q) (hE : xE A s s.heap) :
    ∀ (n : Nat) (l1 : Option Nat) (l2 : Int32) (u : gS) (H : Heap) (locs : List Loc) (ls : Array Slot), wpX2_placeOf_2 K post n l1 l2 u → va_P (dC, dI) vwCl (wX ad ca K u) H → va_D A (wX ad ca K u) → va_S A s.heap H locs → lv_has ls 3 [(0, .ref (ad 4)), (1, va_rf l1), (2, .int l2)] → W p l e (headSpec (gw ⟨"WorkHall$Line", "placeOf", "(LWorkHall$Job;)I"⟩ prog_4_method_2_code 3 (some .int)) ({ frames := 1, cells := 0, slots := 0, locals := 40 } : Room)).room s m args below meth c H locs 0 0 (MQ below (va_Qi post (gAt (dC, dI) vwCl (xT ca) (wX ad ca K) (A)) (A)) args s 0 0 A) (F0 m 2 ls []) := by
  intro n
  induction n with
  | zero => exact fun _ _ _ _ _ _ h => h.elim
  | succ n ih =>
    intro l1 l2 u H locs ls h hP hD hS hl
    refine lv_iload_n hx hb dX2_placeOf_2 rfl (lv_at hl 2 rfl) ?_
    refine lv_aload_n hx hb dX2_placeOf_3 rfl (lv_at hl 0 rfl) ?_
    refine va_get (D := (dC, dI)) (ci := 2) (v := .int (sI u 4)) (C := RX2) (T := TX2) (N := 5) hx hb hts uwX2 hown hK hP 4 rfl rfl 2 (by decide) (hts _ wd_121) (fun _ h9 => h9) rfl dX2_placeOf_4 ?_
    refine lv_icmp_ge (tgt := 28) hx hb dX2_placeOf_7 (by decide) (fun c1 => ?_) (fun c1 => ?_)
    · have h := h.1 c1
      refine lv_iconst (v := (-1)) hx hb dX2_placeOf_28 (by decide) ?_
      exact gr_i (w := wX ad ca K) (u := u) hx hb hr hlocks h hP hK hD hS dX2_placeOf_29
    · have h := h.2 c1
      refine lv_aload_n hx hb dX2_placeOf_10 rfl (lv_at hl 0 rfl) ?_
      refine va_get (D := (dC, dI)) (ci := 2) (v := .ref (ad 5)) (C := RX2) (T := TX2) (N := 5) hx hb hts uwX2 hown hK hP 4 rfl rfl 0 (by decide) (hts _ wd_119) (fun _ h9 => h9) rfl dX2_placeOf_11 ?_
      refine lv_iload_n hx hb dX2_placeOf_14 rfl (lv_at hl 2 rfl) ?_
      refine va_aldq (C := RX5) hx hb hK hP 5 0 rfl rfl h.1 dX2_placeOf_15 ?_
      have h := h.2
      refine gq_top (fun r2 er2 => ?_)
      have h := h r2 er2
      refine gq_aload_n (r := l1) hx hb dX2_placeOf_16 rfl (lv_at hl 1 rfl) ?_
      refine lv_acmp_ne (rx := r2) (ry := l1) (tgt := 22) hx hb dX2_placeOf_17 (by decide) (fun c3 => ?_) (fun c3 => ?_)
      · have h := h.1 c3
        obtain ⟨x4, ex4⟩ : ∃ y : Int32, y = l2 + 1 := ⟨_, rfl⟩
        have h := h x4 ex4
        refine lv_iinc (v := x4) (lv' := [(2, .int x4), (0, .ref (ad 4)), (1, va_rf l1)]) hx hb dX2_placeOf_22 hl (k := 2) rfl (by rw [ex4]; rfl) (by decide) (by cases l1 <;> rfl) (fun ls hl => ?_)
        refine lv_goto (tgt := 2) hx hb dX2_placeOf_25 (by decide) ?_
        exact ih l1 x4 u _ _ _ h hP hD hS (lv_sub hl [1, 2, 0] rfl)
      · have h := h.2 c3
        refine lv_iload_n hx hb dX2_placeOf_20 rfl (lv_at hl 2 rfl) ?_
        exact gr_i (w := wX ad ca K) (u := u) hx hb hr hlocks h hP hK hD hS dX2_placeOf_21

set_option maxHeartbeats 8000000 in
set_option maxRecDepth 100000 in
theorem cX2_placeOf (l : Launch) (dC : Nat → ClassId) (dI : Nat → Nat → Nat) (ad : Nat → Nat) (ca : Nat → ClassId) (K : KX) (sz : Nat) (u : gS) (p1 : Option Nat) (post : Int32 → gS → Prop)  (h : wpX2_placeOf K post u p1) : Met l ⟨"WorkHall$Line", "placeOf", "(LWorkHall$Job;)I"⟩ (gw ⟨"WorkHall$Line", "placeOf", "(LWorkHall$Job;)I"⟩ prog_4_method_2_code 3 (some .int)) ({ frames := 1, cells := 0, slots := 0, locals := 40 } : Room) (va_Pc [.ref (ad 4), va_rf p1] (gB (dC, dI) vwCl (xT ca) xE (wX ad ca K u) sz)) (va_Qi post (gAt (dC, dI) vwCl (xT ca) (wX ad ca K) (va_A (wX ad ca K u) sz)) (va_A (wX ad ca K u) sz)) 0 0 (va_A (wX ad ca K u) sz) := by
  refine Met.ofW (cc := prog_4_method_2_code) (maxL := 3) (ret := (some .int)) (by decide) rfl ?_
  intro p e s m args below meth c s₁ B hml hv
  obtain ⟨rfl, hsz, hP, hK, hD0, hE⟩ := hv
  have hx := B.exec
  have hb := B.bytes
  have hr := B.returns
  have hts : ∀ w ∈ gW, w.before _ s = true := fun w h9 => atoms_spec (ws := (gw ⟨"WorkHall$Line", "placeOf", "(LWorkHall$Job;)I"⟩ prog_4_method_2_code 3 (some .int))) B.pre w (List.mem_cons_of_mem _ h9)
  have hown : s.vm.findClass RX2 = some m.cls := findClass_of_methodNamed B.named
  have hlocks := B.notSynchronized
  subst hsz
  have hD := hD0.self (sz := s.heap.size)
  generalize hAe : va_A (wX ad ca K u) s.heap.size = A at hD hE ⊢
  have hA : ∀ q : Nat, s.heap.size ≤ q → A q := fun q h => by rw [← hAe]; exact Or.inr h
  obtain ⟨H, hHe⟩ : ∃ z : Heap, z = s.heap := ⟨_, rfl⟩
  rw [← hHe]
  have hS : va_S A s.heap H [] := by rw [hHe]; exact va_S.rf
  have hP : va_P (dC, dI) vwCl (wX ad ca K u) H := by rw [hHe]; exact hP
  have hl := lv_entry ([.ref (ad 4), va_rf p1]) (n := 3) (by cases p1 <;> exact Nat.le_of_ble_eq_true rfl)
  rw [lg_entry_eq]
  generalize (lg_sl ([.ref (ad 4), va_rf p1]) ++ List.replicate (3 - (lg_sl ([.ref (ad 4), va_rf p1])).length) Slot.unset).toArray = ls at hl ⊢
  have hl : lv_has ls 3 [(0, .ref (ad 4)), (1, va_rf p1)] := (by cases p1 <;> exact hl)
  clear hAe
  refine lv_iconst (v := 0) hx hb dX2_placeOf_0 (by decide) ?_
  refine lv_istore_n (lv' := [(2, .int 0), (0, .ref (ad 4)), (1, va_rf p1)]) hx hb dX2_placeOf_1 rfl hl (by decide) (by cases p1 <;> rfl) (fun ls hl => ?_)
  obtain ⟨n2, h⟩ := h
  exact wpX2_placeOf_2_ok hx hb hr hml hown hts hlocks hK hA hE n2 p1 0 u _ _ _ h hP hD hS (lv_sub hl [1, 2, 0] rfl)

