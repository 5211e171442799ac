theorem dM6_workerOf_0 : decode prog_8_method_31_code 0 = .ok (.iconst 0, 1) := by decide +kernel
theorem dM6_workerOf_1 : decode prog_8_method_31_code 1 = .ok (.istore_n 2, 1) := by decide +kernel
theorem dM6_workerOf_2 : decode prog_8_method_31_code 2 = .ok (.iload_n 2, 1) := by decide +kernel
theorem dM6_workerOf_3 : decode prog_8_method_31_code 3 = .ok (.aload_n 0, 1) := by decide +kernel
theorem dM6_workerOf_4 : decode prog_8_method_31_code 4 = .ok (.getfield 98, 3) := by decide +kernel
theorem dM6_workerOf_7 : decode prog_8_method_31_code 7 = .ok (.if_icmp .ge 21, 3) := by decide +kernel
theorem dM6_workerOf_10 : decode prog_8_method_31_code 10 = .ok (.aload_n 0, 1) := by decide +kernel
theorem dM6_workerOf_11 : decode prog_8_method_31_code 11 = .ok (.getfield 37, 3) := by decide +kernel
theorem dM6_workerOf_14 : decode prog_8_method_31_code 14 = .ok (.iload_n 2, 1) := by decide +kernel
theorem dM6_workerOf_15 : decode prog_8_method_31_code 15 = .ok (.iaload, 1) := by decide +kernel
theorem dM6_workerOf_16 : decode prog_8_method_31_code 16 = .ok (.iload_n 1, 1) := by decide +kernel
theorem dM6_workerOf_17 : decode prog_8_method_31_code 17 = .ok (.if_icmp .ne 5, 3) := by decide +kernel
theorem dM6_workerOf_20 : decode prog_8_method_31_code 20 = .ok (.iload_n 2, 1) := by decide +kernel
theorem dM6_workerOf_21 : decode prog_8_method_31_code 21 = .ok (.ireturn, 1) := by decide +kernel
theorem dM6_workerOf_22 : decode prog_8_method_31_code 22 = .ok (.iinc 2 1, 3) := by decide +kernel
theorem dM6_workerOf_25 : decode prog_8_method_31_code 25 = .ok (.goto (-23), 3) := by decide +kernel
theorem dM6_workerOf_28 : decode prog_8_method_31_code 28 = .ok (.iconst (-1), 1) := by decide +kernel
theorem dM6_workerOf_29 : decode prog_8_method_31_code 29 = .ok (.ireturn, 1) := by decide +kernel
def wpM6_workerOf_2 (K : KM) (post : Int32 → gS → Prop) : Nat → Int32 → Int32 → gS → Prop
  | 0 => fun _ _ _ => False
  | n + 1 => fun l1 l2 u => (((sI u 3) ≤ l2 → (post (-1) u)) ∧ (¬ (sI u 3) ≤ l2 → (vp_in l2 8 ∧ (((¬ (sA u 9 l2.toNatClampNeg) = l1 → (∀ x3 : Int32, x3 = l2 + 1 → (wpM6_workerOf_2 K post n l1 x3 u))) ∧ ((sA u 9 l2.toNatClampNeg) = l1 → (post l2 u)))))))

def wpM6_workerOf (K : KM) (post : Int32 → gS → Prop) (u : gS) (p1 : Int32) : Prop :=
  ∃ n2 : Nat, wpM6_workerOf_2 K post n2 p1 0 u

set_option maxHeartbeats 8000000 in
set_option maxRecDepth 100000 in
theorem wpM6_workerOf_2_ok {p : Program} {l : Launch} {e : Env} {s : State} {m : MethodId} {args : Array Value} {below : List Frame} {meth : Method} {c : Code} {dC : Nat → ClassId} {dI : Nat → Nat → Nat} {ad : Nat → Nat} {ca : Nat → ClassId} {K : KM} {A : Nat → Prop} {post : Int32 → gS → Prop}   (hx : p.tables.exec = Jvm.exec) (hb : c.code = prog_8_method_31_code) (hr : meth.sig.returnType = (some .int)) (hml : c.maxLocals = 3) (hown : s.vm.findClass RX6 = some m.cls) (hts : ∀ w ∈ gW, w.before args s = true) (hlocks : meth.locks = false) (hK : va_K (dC, dI) vwCl (mT ca) s) (hA : ∀ q, s.heap.size ≤ q → A q) (hE : mE A s s.heap) :
    ∀ (n : Nat) (l1 : Int32) (l2 : Int32) (u : gS) (H : Heap) (locs : List Loc) (ls : Array Slot), wpM6_workerOf_2 K post n l1 l2 u → va_P (dC, dI) vwCl (wM ad ca K u) H → va_D A (wM ad ca K u) → va_S A s.heap H locs → lv_has ls 3 [(0, .ref (ad 0)), (1, .int l1), (2, .int l2)] → W p l e (headSpec (gw ⟨"WorkHallModel", "workerOf", "(I)I"⟩ prog_8_method_31_code 3 (some .int)) ({ frames := 1, cells := 0, slots := 0, locals := 40 } : Room)).room s m args below meth c H locs 0 0 (MQ below (va_Qi post (gAt (dC, dI) vwCl (mT ca) (wM ad ca K) (A)) (A)) args s 0 0 A) (F0 m 2 ls []) := by
  intro n
  induction n with
  | zero => exact fun _ _ _ _ _ _ h => h.elim
  | succ n ih =>
    intro l1 l2 u H locs ls h hP hD hS hl
    refine lv_iload_n hx hb dM6_workerOf_2 rfl (lv_at hl 2 rfl) ?_
    refine lv_aload_n hx hb dM6_workerOf_3 rfl (lv_at hl 0 rfl) ?_
    refine va_get (D := (dC, dI)) (ci := 6) (v := .int (sI u 3)) (C := RX6) (T := TX6) (N := 36) hx hb hts uwX6 hown hK hP 0 rfl rfl 19 (by decide) (hts _ wd_722) (fun _ h9 => h9) rfl dM6_workerOf_4 ?_
    refine lv_icmp_ge (tgt := 28) hx hb dM6_workerOf_7 (by decide) (fun c1 => ?_) (fun c1 => ?_)
    · have h := h.1 c1
      refine lv_iconst (v := (-1)) hx hb dM6_workerOf_28 (by decide) ?_
      exact gr_i (w := wM ad ca K) (u := u) hx hb hr hlocks h hP hK hD hS dM6_workerOf_29
    · have h := h.2 c1
      refine lv_aload_n hx hb dM6_workerOf_10 rfl (lv_at hl 0 rfl) ?_
      refine va_get (D := (dC, dI)) (ci := 6) (v := .ref (ad 10)) (C := RX6) (T := TX6) (N := 36) hx hb hts uwX6 hown hK hP 0 rfl rfl 16 (by decide) (hts _ wd_719) (fun _ h9 => h9) rfl dM6_workerOf_11 ?_
      refine lv_iload_n hx hb dM6_workerOf_14 rfl (lv_at hl 2 rfl) ?_
      refine va_iald hx hb hK hP 10 0 rfl rfl h.1 dM6_workerOf_15 ?_
      have h := h.2
      refine lv_iload_n hx hb dM6_workerOf_16 rfl (lv_at hl 1 rfl) ?_
      refine lv_icmp_ne (tgt := 22) hx hb dM6_workerOf_17 (by decide) (fun c2 => ?_) (fun c2 => ?_)
      · have h := h.1 c2
        obtain ⟨x3, ex3⟩ : ∃ y : Int32, y = l2 + 1 := ⟨_, rfl⟩
        have h := h x3 ex3
        refine lv_iinc (v := x3) (lv' := [(2, .int x3), (0, .ref (ad 0)), (1, .int l1)]) hx hb dM6_workerOf_22 hl (k := 2) rfl (by rw [ex3]; rfl) (by decide) rfl (fun ls hl => ?_)
        refine lv_goto (tgt := 2) hx hb dM6_workerOf_25 (by decide) ?_
        exact ih l1 x3 u _ _ _ h hP hD hS (lv_sub hl [1, 2, 0] rfl)
      · have h := h.2 c2
        refine lv_iload_n hx hb dM6_workerOf_20 rfl (lv_at hl 2 rfl) ?_
        exact gr_i (w := wM ad ca K) (u := u) hx hb hr hlocks h hP hK hD hS dM6_workerOf_21

set_option maxHeartbeats 8000000 in
set_option maxRecDepth 100000 in
theorem cM6_workerOf (l : Launch) (dC : Nat → ClassId) (dI : Nat → Nat → Nat) (ad : Nat → Nat) (ca : Nat → ClassId) (K : KM) (sz : Nat) (u : gS) (p1 : Int32) (post : Int32 → gS → Prop)  (h : wpM6_workerOf K post u p1) : Met l ⟨"WorkHallModel", "workerOf", "(I)I"⟩ (gw ⟨"WorkHallModel", "workerOf", "(I)I"⟩ prog_8_method_31_code 3 (some .int)) ({ frames := 1, cells := 0, slots := 0, locals := 40 } : Room) (va_Pc [.ref (ad 0), .int p1] (gB (dC, dI) vwCl (mT ca) mE (wM ad ca K u) sz)) (va_Qi post (gAt (dC, dI) vwCl (mT ca) (wM ad ca K) (va_A (wM ad ca K u) sz)) (va_A (wM ad ca K u) sz)) 0 0 (va_A (wM ad ca K u) sz) := by
  refine Met.ofW (cc := prog_8_method_31_code) (maxL := 3) (ret := (some .int)) (by decide) rfl ?_
  intro p e s m args below meth c s₁ B hml hv
  obtain ⟨rfl, hsz, hP, hK, hD0, hE⟩ := hv
  have hx := B.exec
  have hb := B.bytes
  have hr := B.returns
  have hts : ∀ w ∈ gW, w.before _ s = true := fun w h9 => atoms_spec (ws := (gw ⟨"WorkHallModel", "workerOf", "(I)I"⟩ prog_8_method_31_code 3 (some .int))) B.pre w (List.mem_cons_of_mem _ h9)
  have hown : s.vm.findClass RX6 = some m.cls := findClass_of_methodNamed B.named
  have hlocks := B.notSynchronized
  subst hsz
  have hD := hD0.self (sz := s.heap.size)
  generalize hAe : va_A (wM ad ca K u) s.heap.size = A at hD hE ⊢
  have hA : ∀ q : Nat, s.heap.size ≤ q → A q := fun q h => by rw [← hAe]; exact Or.inr h
  obtain ⟨H, hHe⟩ : ∃ z : Heap, z = s.heap := ⟨_, rfl⟩
  rw [← hHe]
  have hS : va_S A s.heap H [] := by rw [hHe]; exact va_S.rf
  have hP : va_P (dC, dI) vwCl (wM ad ca K u) H := by rw [hHe]; exact hP
  have hl := lv_entry ([.ref (ad 0), .int p1]) (n := 3) (Nat.le_of_ble_eq_true rfl)
  rw [lg_entry_eq]
  generalize (lg_sl ([.ref (ad 0), .int p1]) ++ List.replicate (3 - (lg_sl ([.ref (ad 0), .int p1])).length) Slot.unset).toArray = ls at hl ⊢
  have hl : lv_has ls 3 [(0, .ref (ad 0)), (1, .int p1)] := hl
  clear hAe
  refine lv_iconst (v := 0) hx hb dM6_workerOf_0 (by decide) ?_
  refine lv_istore_n (lv' := [(2, .int 0), (0, .ref (ad 0)), (1, .int p1)]) hx hb dM6_workerOf_1 rfl hl (by decide) rfl (fun ls hl => ?_)
  obtain ⟨n2, h⟩ := h
  exact wpM6_workerOf_2_ok hx hb hr hml hown hts hlocks hK hA hE n2 p1 0 u _ _ _ h hP hD hS (lv_sub hl [1, 2, 0] rfl)

theorem dM6_placeInQueue_0 : decode prog_8_method_32_code 0 = .ok (.iconst 0, 1) := by decide +kernel
theorem dM6_placeInQueue_1 : decode prog_8_method_32_code 1 = .ok (.istore_n 2, 1) := by decide +kernel
theorem dM6_placeInQueue_2 : decode prog_8_method_32_code 2 = .ok (.iload_n 2, 1) := by decide +kernel
theorem dM6_placeInQueue_3 : decode prog_8_method_32_code 3 = .ok (.aload_n 0, 1) := by decide +kernel
theorem dM6_placeInQueue_4 : decode prog_8_method_32_code 4 = .ok (.getfield 91, 3) := by decide +kernel
theorem dM6_placeInQueue_7 : decode prog_8_method_32_code 7 = .ok (.if_icmp .ge 21, 3) := by decide +kernel
theorem dM6_placeInQueue_10 : decode prog_8_method_32_code 10 = .ok (.aload_n 0, 1) := by decide +kernel
theorem dM6_placeInQueue_11 : decode prog_8_method_32_code 11 = .ok (.getfield 47, 3) := by decide +kernel
theorem dM6_placeInQueue_14 : decode prog_8_method_32_code 14 = .ok (.iload_n 2, 1) := by decide +kernel
theorem dM6_placeInQueue_15 : decode prog_8_method_32_code 15 = .ok (.iaload, 1) := by decide +kernel
theorem dM6_placeInQueue_16 : decode prog_8_method_32_code 16 = .ok (.iload_n 1, 1) := by decide +kernel
theorem dM6_placeInQueue_17 : decode prog_8_method_32_code 17 = .ok (.if_icmp .ne 5, 3) := by decide +kernel
theorem dM6_placeInQueue_20 : decode prog_8_method_32_code 20 = .ok (.iload_n 2, 1) := by decide +kernel
theorem dM6_placeInQueue_21 : decode prog_8_method_32_code 21 = .ok (.ireturn, 1) := by decide +kernel
theorem dM6_placeInQueue_22 : decode prog_8_method_32_code 22 = .ok (.iinc 2 1, 3) := by decide +kernel
theorem dM6_placeInQueue_25 : decode prog_8_method_32_code 25 = .ok (.goto (-23), 3) := by decide +kernel
theorem dM6_placeInQueue_28 : decode prog_8_method_32_code 28 = .ok (.iconst (-1), 1) := by decide +kernel
theorem dM6_placeInQueue_29 : decode prog_8_method_32_code 29 = .ok (.ireturn, 1) := by decide +kernel
def wpM6_placeInQueue_2 (K : KM) (post : Int32 → gS → Prop) : Nat → Int32 → Int32 → gS → Prop
  | 0 => fun _ _ _ => False
  | n + 1 => fun l1 l2 u => (((sI u 6) ≤ l2 → (post (-1) u)) ∧ (¬ (sI u 6) ≤ l2 → (vp_in l2 8 ∧ (((¬ (sA u 11 l2.toNatClampNeg) = l1 → (∀ x3 : Int32, x3 = l2 + 1 → (wpM6_placeInQueue_2 K post n l1 x3 u))) ∧ ((sA u 11 l2.toNatClampNeg) = l1 → (post l2 u)))))))

def wpM6_placeInQueue (K : KM) (post : Int32 → gS → Prop) (u : gS) (p1 : Int32) : Prop :=
  ∃ n2 : Nat, wpM6_placeInQueue_2 K post n2 p1 0 u

set_option maxHeartbeats 8000000 in
set_option maxRecDepth 100000 in
theorem wpM6_placeInQueue_2_ok {p : Program} {l : Launch} {e : Env} {s : State} {m : MethodId} {args : Array Value} {below : List Frame} {meth : Method} {c : Code} {dC : Nat → ClassId} {dI : Nat → Nat → Nat} {ad : Nat → Nat} {ca : Nat → ClassId} {K : KM} {A : Nat → Prop} {post : Int32 → gS → Prop}   (hx : p.tables.exec = Jvm.exec) (hb : c.code = prog_8_method_32_code) (hr : meth.sig.returnType = (some .int)) (hml : c.maxLocals = 3) (hown : s.vm.findClass RX6 = some m.cls) (hts : ∀ w ∈ gW, w.before args s = true) (hlocks : meth.locks = false) (hK : va_K (dC, dI) vwCl (mT ca) s) (hA : ∀ q, s.heap.size ≤ q → A q) (hE : mE A s s.heap) :
    ∀ (n : Nat) (l1 : Int32) (l2 : Int32) (u : gS) (H : Heap) (locs : List Loc) (ls : Array Slot), wpM6_placeInQueue_2 K post n l1 l2 u → va_P (dC, dI) vwCl (wM ad ca K u) H → va_D A (wM ad ca K u) → va_S A s.heap H locs → lv_has ls 3 [(0, .ref (ad 0)), (1, .int l1), (2, .int l2)] → W p l e (headSpec (gw ⟨"WorkHallModel", "placeInQueue", "(I)I"⟩ prog_8_method_32_code 3 (some .int)) ({ frames := 1, cells := 0, slots := 0, locals := 40 } : Room)).room s m args below meth c H locs 0 0 (MQ below (va_Qi post (gAt (dC, dI) vwCl (mT ca) (wM ad ca K) (A)) (A)) args s 0 0 A) (F0 m 2 ls []) := by
  intro n
  induction n with
  | zero => exact fun _ _ _ _ _ _ h => h.elim
  | succ n ih =>
    intro l1 l2 u H locs ls h hP hD hS hl
    refine lv_iload_n hx hb dM6_placeInQueue_2 rfl (lv_at hl 2 rfl) ?_
    refine lv_aload_n hx hb dM6_placeInQueue_3 rfl (lv_at hl 0 rfl) ?_
    refine va_get (D := (dC, dI)) (ci := 6) (v := .int (sI u 6)) (C := RX6) (T := TX6) (N := 36) hx hb hts uwX6 hown hK hP 0 rfl rfl 24 (by decide) (hts _ wd_727) (fun _ h9 => h9) rfl dM6_placeInQueue_4 ?_
    refine lv_icmp_ge (tgt := 28) hx hb dM6_placeInQueue_7 (by decide) (fun c1 => ?_) (fun c1 => ?_)
    · have h := h.1 c1
      refine lv_iconst (v := (-1)) hx hb dM6_placeInQueue_28 (by decide) ?_
      exact gr_i (w := wM ad ca K) (u := u) hx hb hr hlocks h hP hK hD hS dM6_placeInQueue_29
    · have h := h.2 c1
      refine lv_aload_n hx hb dM6_placeInQueue_10 rfl (lv_at hl 0 rfl) ?_
      refine va_get (D := (dC, dI)) (ci := 6) (v := .ref (ad 13)) (C := RX6) (T := TX6) (N := 36) hx hb hts uwX6 hown hK hP 0 rfl rfl 22 (by decide) (hts _ wd_725) (fun _ h9 => h9) rfl dM6_placeInQueue_11 ?_
      refine lv_iload_n hx hb dM6_placeInQueue_14 rfl (lv_at hl 2 rfl) ?_
      refine va_iald hx hb hK hP 13 0 rfl rfl h.1 dM6_placeInQueue_15 ?_
      have h := h.2
      refine lv_iload_n hx hb dM6_placeInQueue_16 rfl (lv_at hl 1 rfl) ?_
      refine lv_icmp_ne (tgt := 22) hx hb dM6_placeInQueue_17 (by decide) (fun c2 => ?_) (fun c2 => ?_)
      · have h := h.1 c2
        obtain ⟨x3, ex3⟩ : ∃ y : Int32, y = l2 + 1 := ⟨_, rfl⟩
        have h := h x3 ex3
        refine lv_iinc (v := x3) (lv' := [(2, .int x3), (0, .ref (ad 0)), (1, .int l1)]) hx hb dM6_placeInQueue_22 hl (k := 2) rfl (by rw [ex3]; rfl) (by decide) rfl (fun ls hl => ?_)
        refine lv_goto (tgt := 2) hx hb dM6_placeInQueue_25 (by decide) ?_
        exact ih l1 x3 u _ _ _ h hP hD hS (lv_sub hl [1, 2, 0] rfl)
      · have h := h.2 c2
        refine lv_iload_n hx hb dM6_placeInQueue_20 rfl (lv_at hl 2 rfl) ?_
        exact gr_i (w := wM ad ca K) (u := u) hx hb hr hlocks h hP hK hD hS dM6_placeInQueue_21

set_option maxHeartbeats 8000000 in
set_option maxRecDepth 100000 in
theorem cM6_placeInQueue (l : Launch) (dC : Nat → ClassId) (dI : Nat → Nat → Nat) (ad : Nat → Nat) (ca : Nat → ClassId) (K : KM) (sz : Nat) (u : gS) (p1 : Int32) (post : Int32 → gS → Prop)  (h : wpM6_placeInQueue K post u p1) : Met l ⟨"WorkHallModel", "placeInQueue", "(I)I"⟩ (gw ⟨"WorkHallModel", "placeInQueue", "(I)I"⟩ prog_8_method_32_code 3 (some .int)) ({ frames := 1, cells := 0, slots := 0, locals := 40 } : Room) (va_Pc [.ref (ad 0), .int p1] (gB (dC, dI) vwCl (mT ca) mE (wM ad ca K u) sz)) (va_Qi post (gAt (dC, dI) vwCl (mT ca) (wM ad ca K) (va_A (wM ad ca K u) sz)) (va_A (wM ad ca K u) sz)) 0 0 (va_A (wM ad ca K u) sz) := by
  refine Met.ofW (cc := prog_8_method_32_code) (maxL := 3) (ret := (some .int)) (by decide) rfl ?_
  intro p e s m args below meth c s₁ B hml hv
  obtain ⟨rfl, hsz, hP, hK, hD0, hE⟩ := hv
  have hx := B.exec
  have hb := B.bytes
  have hr := B.returns
  have hts : ∀ w ∈ gW, w.before _ s = true := fun w h9 => atoms_spec (ws := (gw ⟨"WorkHallModel", "placeInQueue", "(I)I"⟩ prog_8_method_32_code 3 (some .int))) B.pre w (List.mem_cons_of_mem _ h9)
  have hown : s.vm.findClass RX6 = some m.cls := findClass_of_methodNamed B.named
  have hlocks := B.notSynchronized
  subst hsz
  have hD := hD0.self (sz := s.heap.size)
  generalize hAe : va_A (wM ad ca K u) s.heap.size = A at hD hE ⊢
  have hA : ∀ q : Nat, s.heap.size ≤ q → A q := fun q h => by rw [← hAe]; exact Or.inr h
  obtain ⟨H, hHe⟩ : ∃ z : Heap, z = s.heap := ⟨_, rfl⟩
  rw [← hHe]
  have hS : va_S A s.heap H [] := by rw [hHe]; exact va_S.rf
  have hP : va_P (dC, dI) vwCl (wM ad ca K u) H := by rw [hHe]; exact hP
  have hl := lv_entry ([.ref (ad 0), .int p1]) (n := 3) (Nat.le_of_ble_eq_true rfl)
  rw [lg_entry_eq]
  generalize (lg_sl ([.ref (ad 0), .int p1]) ++ List.replicate (3 - (lg_sl ([.ref (ad 0), .int p1])).length) Slot.unset).toArray = ls at hl ⊢
  have hl : lv_has ls 3 [(0, .ref (ad 0)), (1, .int p1)] := hl
  clear hAe
  refine lv_iconst (v := 0) hx hb dM6_placeInQueue_0 (by decide) ?_
  refine lv_istore_n (lv' := [(2, .int 0), (0, .ref (ad 0)), (1, .int p1)]) hx hb dM6_placeInQueue_1 rfl hl (by decide) rfl (fun ls hl => ?_)
  obtain ⟨n2, h⟩ := h
  exact wpM6_placeInQueue_2_ok hx hb hr hml hown hts hlocks hK hA hE n2 p1 0 u _ _ _ h hP hD hS (lv_sub hl [1, 2, 0] rfl)

theorem dM6_cancel_0 : decode prog_8_method_33_code 0 = .ok (.aload_n 0, 1) := by decide +kernel
theorem dM6_cancel_1 : decode prog_8_method_33_code 1 = .ok (.iconst 0, 1) := by decide +kernel
theorem dM6_cancel_2 : decode prog_8_method_33_code 2 = .ok (.putfield 85, 3) := by decide +kernel
theorem dM6_cancel_5 : decode prog_8_method_33_code 5 = .ok (.aload_n 0, 1) := by decide +kernel
theorem dM6_cancel_6 : decode prog_8_method_33_code 6 = .ok (.iload_n 1, 1) := by decide +kernel
theorem dM6_cancel_7 : decode prog_8_method_33_code 7 = .ok (.bipush 24, 2) := by decide +kernel
theorem dM6_cancel_9 : decode prog_8_method_33_code 9 = .ok (.invokevirtual 104, 3) := by decide +kernel
theorem dM6_cancel_12 : decode prog_8_method_33_code 12 = .ok (.ifCond .eq 9, 3) := by decide +kernel
theorem dM6_cancel_15 : decode prog_8_method_33_code 15 = .ok (.aload_n 0, 1) := by decide +kernel
theorem dM6_cancel_16 : decode prog_8_method_33_code 16 = .ok (.iconst 1, 1) := by decide +kernel
theorem dM6_cancel_17 : decode prog_8_method_33_code 17 = .ok (.invokevirtual 108, 3) := by decide +kernel
theorem dM6_cancel_20 : decode prog_8_method_33_code 20 = .ok (.ireturn, 1) := by decide +kernel
theorem dM6_cancel_21 : decode prog_8_method_33_code 21 = .ok (.iload_n 1, 1) := by decide +kernel
theorem dM6_cancel_22 : decode prog_8_method_33_code 22 = .ok (.aload_n 0, 1) := by decide +kernel
theorem dM6_cancel_23 : decode prog_8_method_33_code 23 = .ok (.getfield 112, 3) := by decide +kernel
theorem dM6_cancel_26 : decode prog_8_method_33_code 26 = .ok (.if_icmp .lt 9, 3) := by decide +kernel
theorem dM6_cancel_29 : decode prog_8_method_33_code 29 = .ok (.aload_n 0, 1) := by decide +kernel
theorem dM6_cancel_30 : decode prog_8_method_33_code 30 = .ok (.iconst 2, 1) := by decide +kernel
theorem dM6_cancel_31 : decode prog_8_method_33_code 31 = .ok (.invokevirtual 108, 3) := by decide +kernel
theorem dM6_cancel_34 : decode prog_8_method_33_code 34 = .ok (.ireturn, 1) := by decide +kernel
theorem dM6_cancel_35 : decode prog_8_method_33_code 35 = .ok (.aload_n 0, 1) := by decide +kernel
theorem dM6_cancel_36 : decode prog_8_method_33_code 36 = .ok (.getfield 22, 3) := by decide +kernel
theorem dM6_cancel_39 : decode prog_8_method_33_code 39 = .ok (.iload_n 1, 1) := by decide +kernel
theorem dM6_cancel_40 : decode prog_8_method_33_code 40 = .ok (.iaload, 1) := by decide +kernel
theorem dM6_cancel_41 : decode prog_8_method_33_code 41 = .ok (.istore_n 3, 1) := by decide +kernel
theorem dM6_cancel_42 : decode prog_8_method_33_code 42 = .ok (.iload_n 3, 1) := by decide +kernel
theorem dM6_cancel_43 : decode prog_8_method_33_code 43 = .ok (.iconst 2, 1) := by decide +kernel
theorem dM6_cancel_44 : decode prog_8_method_33_code 44 = .ok (.if_icmp .gt 12, 3) := by decide +kernel
theorem dM6_cancel_47 : decode prog_8_method_33_code 47 = .ok (.iload_n 3, 1) := by decide +kernel
theorem dM6_cancel_48 : decode prog_8_method_33_code 48 = .ok (.iconst 2, 1) := by decide +kernel
theorem dM6_cancel_49 : decode prog_8_method_33_code 49 = .ok (.if_icmp .ne 13, 3) := by decide +kernel
theorem dM6_cancel_52 : decode prog_8_method_33_code 52 = .ok (.iload_n 2, 1) := by decide +kernel
theorem dM6_cancel_53 : decode prog_8_method_33_code 53 = .ok (.ifCond .ne 9, 3) := by decide +kernel
theorem dM6_cancel_56 : decode prog_8_method_33_code 56 = .ok (.aload_n 0, 1) := by decide +kernel
theorem dM6_cancel_57 : decode prog_8_method_33_code 57 = .ok (.iconst 3, 1) := by decide +kernel
theorem dM6_cancel_58 : decode prog_8_method_33_code 58 = .ok (.invokevirtual 108, 3) := by decide +kernel
theorem dM6_cancel_61 : decode prog_8_method_33_code 61 = .ok (.ireturn, 1) := by decide +kernel
theorem dM6_cancel_62 : decode prog_8_method_33_code 62 = .ok (.aload_n 0, 1) := by decide +kernel
theorem dM6_cancel_63 : decode prog_8_method_33_code 63 = .ok (.getfield 22, 3) := by decide +kernel
theorem dM6_cancel_66 : decode prog_8_method_33_code 66 = .ok (.iload_n 1, 1) := by decide +kernel
theorem dM6_cancel_67 : decode prog_8_method_33_code 67 = .ok (.iconst 5, 1) := by decide +kernel
theorem dM6_cancel_68 : decode prog_8_method_33_code 68 = .ok (.iastore, 1) := by decide +kernel
theorem dM6_cancel_69 : decode prog_8_method_33_code 69 = .ok (.iload_n 3, 1) := by decide +kernel
theorem dM6_cancel_70 : decode prog_8_method_33_code 70 = .ok (.iconst 1, 1) := by decide +kernel
theorem dM6_cancel_71 : decode prog_8_method_33_code 71 = .ok (.if_icmp .ne 13, 3) := by decide +kernel
theorem dM6_cancel_74 : decode prog_8_method_33_code 74 = .ok (.aload_n 0, 1) := by decide +kernel
theorem dM6_cancel_75 : decode prog_8_method_33_code 75 = .ok (.aload_n 0, 1) := by decide +kernel
theorem dM6_cancel_76 : decode prog_8_method_33_code 76 = .ok (.iload_n 1, 1) := by decide +kernel
theorem dM6_cancel_77 : decode prog_8_method_33_code 77 = .ok (.invokevirtual 200, 3) := by decide +kernel
theorem dM6_cancel_80 : decode prog_8_method_33_code 80 = .ok (.invokevirtual 138, 3) := by decide +kernel
theorem dM6_cancel_83 : decode prog_8_method_33_code 83 = .ok (.pop, 1) := by decide +kernel
theorem dM6_cancel_84 : decode prog_8_method_33_code 84 = .ok (.iload_n 3, 1) := by decide +kernel
theorem dM6_cancel_85 : decode prog_8_method_33_code 85 = .ok (.iconst 2, 1) := by decide +kernel
theorem dM6_cancel_86 : decode prog_8_method_33_code 86 = .ok (.if_icmp .ne 12, 3) := by decide +kernel
theorem dM6_cancel_89 : decode prog_8_method_33_code 89 = .ok (.aload_n 0, 1) := by decide +kernel
theorem dM6_cancel_90 : decode prog_8_method_33_code 90 = .ok (.aload_n 0, 1) := by decide +kernel
theorem dM6_cancel_91 : decode prog_8_method_33_code 91 = .ok (.iload_n 1, 1) := by decide +kernel
theorem dM6_cancel_92 : decode prog_8_method_33_code 92 = .ok (.invokevirtual 203, 3) := by decide +kernel
theorem dM6_cancel_95 : decode prog_8_method_33_code 95 = .ok (.invokevirtual 194, 3) := by decide +kernel
theorem dM6_cancel_98 : decode prog_8_method_33_code 98 = .ok (.aload_n 0, 1) := by decide +kernel
theorem dM6_cancel_99 : decode prog_8_method_33_code 99 = .ok (.iload_n 3, 1) := by decide +kernel
theorem dM6_cancel_100 : decode prog_8_method_33_code 100 = .ok (.invokevirtual 115, 3) := by decide +kernel
theorem dM6_cancel_103 : decode prog_8_method_33_code 103 = .ok (.ireturn, 1) := by decide +kernel
def wpM6_cancel (K : KM) (post : Int32 → gS → Prop) (u : gS) (p1 : Int32) (p2 : Int32) : Prop :=
  ∀ u1 : gS, u1 = tI u 0 0 → (wpM6_out K (fun (r2 : Int32) (u3 : gS) => ((r2 = 0 → (((p1 < (sI u3 1) → (vp_in p1 24 ∧ (∀ x6 : Int32, x6 = sA u3 4 p1.toNatClampNeg → (((2 < x6 → (wpM6_fail K (fun (r8 : Int32) (u9 : gS) => post r8 u9) u3 3)) ∧ (¬ 2 < x6 → (((¬ x6 = 2 → (vp_in p1 24 ∧ (∀ u11 : gS, u11 = tA u3 4 p1.toNatClampNeg 5 → (((¬ x6 = 1 → (((¬ x6 = 2 → (wpM6_end K (fun (r14 : Int32) (u15 : gS) => post r14 u15) u11 x6)) ∧ (x6 = 2 → (wpM6_workerOf K (fun (r16 : Int32) (u17 : gS) => wpM6_takeNext K (fun (u19 : gS) => wpM6_end K (fun (r20 : Int32) (u21 : gS) => post r20 u21) u19 x6) u17 r16) u11 p1))))) ∧ (x6 = 1 → (wpM6_placeInQueue K (fun (r22 : Int32) (u23 : gS) => wpM6_dequeue K (fun (r24 : Int32) (u25 : gS) => ((¬ x6 = 2 → (wpM6_end K (fun (r27 : Int32) (u28 : gS) => post r27 u28) u25 x6)) ∧ (x6 = 2 → (wpM6_workerOf K (fun (r29 : Int32) (u30 : gS) => wpM6_takeNext K (fun (u32 : gS) => wpM6_end K (fun (r33 : Int32) (u34 : gS) => post r33 u34) u32 x6) u30 r29) u25 p1)))) u23 r22) u11 p1))))))) ∧ (x6 = 2 → (((¬ p2 = 0 → (vp_in p1 24 ∧ (∀ u36 : gS, u36 = tA u3 4 p1.toNatClampNeg 5 → (((¬ x6 = 1 → (((¬ x6 = 2 → (wpM6_end K (fun (r39 : Int32) (u40 : gS) => post r39 u40) u36 x6)) ∧ (x6 = 2 → (wpM6_workerOf K (fun (r41 : Int32) (u42 : gS) => wpM6_takeNext K (fun (u44 : gS) => wpM6_end K (fun (r45 : Int32) (u46 : gS) => post r45 u46) u44 x6) u42 r41) u36 p1))))) ∧ (x6 = 1 → (wpM6_placeInQueue K (fun (r47 : Int32) (u48 : gS) => wpM6_dequeue K (fun (r49 : Int32) (u50 : gS) => ((¬ x6 = 2 → (wpM6_end K (fun (r52 : Int32) (u53 : gS) => post r52 u53) u50 x6)) ∧ (x6 = 2 → (wpM6_workerOf K (fun (r54 : Int32) (u55 : gS) => wpM6_takeNext K (fun (u57 : gS) => wpM6_end K (fun (r58 : Int32) (u59 : gS) => post r58 u59) u57 x6) u55 r54) u50 p1)))) u48 r47) u36 p1))))))) ∧ (p2 = 0 → (wpM6_fail K (fun (r60 : Int32) (u61 : gS) => post r60 u61) u3 3))))))))))))) ∧ (¬ p1 < (sI u3 1) → (wpM6_fail K (fun (r62 : Int32) (u63 : gS) => post r62 u63) u3 2))))) ∧ (¬ r2 = 0 → (wpM6_fail K (fun (r64 : Int32) (u65 : gS) => post r64 u65) u3 1)))) u1 p1 24)

set_option maxHeartbeats 8000000 in
set_option maxRecDepth 100000 in
theorem cM6_cancel (l : Launch) (dC : Nat → ClassId) (dI : Nat → Nat → Nat) (ad : Nat → Nat) (ca : Nat → ClassId) (K : KM) (sz : Nat) (u : gS) (p1 : Int32) (p2 : Int32) (post : Int32 → gS → Prop)  (h : wpM6_cancel K post u p1 p2) : Met l ⟨"WorkHallModel", "cancel", "(IZ)I"⟩ (gw ⟨"WorkHallModel", "cancel", "(IZ)I"⟩ prog_8_method_33_code 4 (some .int)) ({ frames := 4, cells := 0, slots := 0, locals := 160 } : Room) (va_Pc [.ref (ad 0), .int p1, .int p2] (gB (dC, dI) vwCl (mT ca) mE (wM ad ca K u) sz)) (va_Qi post (gAt (dC, dI) vwCl (mT ca) (wM ad ca K) (va_A (wM ad ca K u) sz)) (va_A (wM ad ca K u) sz)) 0 0 (va_A (wM ad ca K u) sz) := by
  refine Met.ofW (cc := prog_8_method_33_code) (maxL := 4) (ret := (some .int)) (by decide) rfl ?_
  intro p e s m args below meth c s₁ B hml hv
  obtain ⟨rfl, hsz, hP, hK, hD0, hE⟩ := hv
  have hx := B.exec
  have hb := B.bytes
  have hr := B.returns
  have hts : ∀ w ∈ gW, w.before _ s = true := fun w h9 => atoms_spec (ws := (gw ⟨"WorkHallModel", "cancel", "(IZ)I"⟩ prog_8_method_33_code 4 (some .int))) B.pre w (List.mem_cons_of_mem _ h9)
  have hown : s.vm.findClass RX6 = some m.cls := findClass_of_methodNamed B.named
  have hlocks := B.notSynchronized
  subst hsz
  have hD := hD0.self (sz := s.heap.size)
  generalize hAe : va_A (wM ad ca K u) s.heap.size = A at hD hE ⊢
  have hA : ∀ q : Nat, s.heap.size ≤ q → A q := fun q h => by rw [← hAe]; exact Or.inr h
  obtain ⟨H, hHe⟩ : ∃ z : Heap, z = s.heap := ⟨_, rfl⟩
  rw [← hHe]
  have hS : va_S A s.heap H [] := by rw [hHe]; exact va_S.rf
  have hP : va_P (dC, dI) vwCl (wM ad ca K u) H := by rw [hHe]; exact hP
  have hl := lv_entry ([.ref (ad 0), .int p1, .int p2]) (n := 4) (Nat.le_of_ble_eq_true rfl)
  rw [lg_entry_eq]
  generalize (lg_sl ([.ref (ad 0), .int p1, .int p2]) ++ List.replicate (4 - (lg_sl ([.ref (ad 0), .int p1, .int p2])).length) Slot.unset).toArray = ls at hl ⊢
  have hl : lv_has ls 4 [(0, .ref (ad 0)), (1, .int p1), (2, .int p2)] := hl
  clear hAe
  refine lv_aload_n hx hb dM6_cancel_0 rfl (lv_at hl 0 rfl) ?_
  refine lv_iconst (v := 0) hx hb dM6_cancel_1 (by decide) ?_
  refine va_put (D := (dC, dI)) (ci := 6) (v := .int 0) (ty := tyX6 0) (C := RX6) (T := TX6) (N := 36) hx hb hts uwX6 tyX6 tyX6_ok nmX6 hown hK hP hD hS 0 rfl rfl 0 (by decide) (hts _ wd_703) (fun _ h9 => h9) rfl (tyX6_ok 0 (by decide)) rfl rfl (Nat.le_of_ble_eq_true rfl) dM6_cancel_2 (fun H locs hP hD hS => ?_)
  obtain ⟨u1, eu1⟩ : ∃ z : gS, z = tI u 0 0 := ⟨_, rfl⟩
  have hP : va_P (dC, dI) vwCl (wM ad ca K u1) H := by rw [eu1, wM_f0_failed]; exact hP
  have hD : va_D A (wM ad ca K u1) := by rw [eu1, wM_f0_failed]; exact hD
  have h := h u1 eu1
  refine lv_aload_n hx hb dM6_cancel_5 rfl (lv_at hl 0 rfl) ?_
  refine lv_iload_n hx hb dM6_cancel_6 rfl (lv_at hl 1 rfl) ?_
  refine lv_bipush (v := 24) hx hb dM6_cancel_7 (by decide) ?_
  refine gc_i (w := wM ad ca K) (u := u1) (va_runV (As := [.int p1, .int 24]) (rest := []) ⟨hx, hb, hml, hown, hts⟩ (cM6_out l dC dI ad ca K H.size u1 p1 24 _ h) (cwV 2 hts (gG_V wd_821 wd_823 wd_17 wd_52 wd_824) rfl rfl rfl (by decide +kernel) ⟨Nat.le_of_ble_eq_true rfl, Nat.le_of_ble_eq_true rfl⟩) ⟨gB_blind mE_ok, va_recv hK hP (ci := 6) (q0 := 0) rfl rfl, gB_pre mE_ok hP hK hD hE hS hA⟩ rfl rfl hl.1 rfl (lv_room (Nat.le_of_ble_eq_true rfl)) dM6_cancel_9 ⟨Nat.le_of_ble_eq_true rfl, Nat.le_of_ble_eq_true rfl⟩) hD hS hA (fun r2 u3 H locs h hP hD hS => ?_)
  refine lv_if_eq (tgt := 21) hx hb dM6_cancel_12 (by decide) (fun c4 => ?_) (fun c4 => ?_)
  · have h := h.1 c4
    refine lv_iload_n hx hb dM6_cancel_21 rfl (lv_at hl 1 rfl) ?_
    refine lv_aload_n hx hb dM6_cancel_22 rfl (lv_at hl 0 rfl) ?_
    refine va_get (D := (dC, dI)) (ci := 6) (v := .int (sI u3 1)) (C := RX6) (T := TX6) (N := 36) hx hb hts uwX6 hown hK hP 0 rfl rfl 13 (by decide) (hts _ wd_716) (fun _ h9 => h9) rfl dM6_cancel_23 ?_
    refine lv_icmp_lt (tgt := 35) hx hb dM6_cancel_26 (by decide) (fun c5 => ?_) (fun c5 => ?_)
    · have h := h.1 c5
      refine lv_aload_n hx hb dM6_cancel_35 rfl (lv_at hl 0 rfl) ?_
      refine va_get (D := (dC, dI)) (ci := 6) (v := .ref (ad 5)) (C := RX6) (T := TX6) (N := 36) hx hb hts uwX6 hown hK hP 0 rfl rfl 9 (by decide) (hts _ wd_712) (fun _ h9 => h9) rfl dM6_cancel_36 ?_
      refine lv_iload_n hx hb dM6_cancel_39 rfl (lv_at hl 1 rfl) ?_
      refine va_iald hx hb hK hP 5 0 rfl rfl h.1 dM6_cancel_40 ?_
      have h := h.2
      refine lv_topi (fun x6 ex6 => ?_)
      have h := h x6 ex6
      refine lv_istore_n (lv' := [(3, .int x6), (0, .ref (ad 0)), (1, .int p1), (2, .int p2)]) hx hb dM6_cancel_41 rfl hl (by decide) rfl (fun ls hl => ?_)
      refine lv_iload_n hx hb dM6_cancel_42 rfl (lv_at hl 0 rfl) ?_
      refine lv_iconst (v := 2) hx hb dM6_cancel_43 (by decide) ?_
      refine lv_icmp_gt (tgt := 56) hx hb dM6_cancel_44 (by decide) (fun c7 => ?_) (fun c7 => ?_)
      · have h := h.1 c7
        refine lv_aload_n hx hb dM6_cancel_56 rfl (lv_at hl 1 rfl) ?_
        refine lv_iconst (v := 3) hx hb dM6_cancel_57 (by decide) ?_
        refine gc_i (w := wM ad ca K) (u := u3) (va_runV (As := [.int 3]) (rest := []) ⟨hx, hb, hml, hown, hts⟩ (cM6_fail l dC dI ad ca K H.size u3 3 _ h) (cwV 1 hts (gG_V wd_825 wd_827 wd_18 wd_52 wd_828) rfl rfl rfl (by decide +kernel) ⟨Nat.le_of_ble_eq_true rfl, Nat.le_of_ble_eq_true rfl⟩) ⟨gB_blind mE_ok, va_recv hK hP (ci := 6) (q0 := 0) rfl rfl, gB_pre mE_ok hP hK hD hE hS hA⟩ rfl rfl hl.1 rfl (lv_room (Nat.le_of_ble_eq_true rfl)) dM6_cancel_58 ⟨Nat.le_of_ble_eq_true rfl, Nat.le_of_ble_eq_true rfl⟩) hD hS hA (fun r8 u9 H locs h hP hD hS => ?_)
        exact gr_i (w := wM ad ca K) (u := u9) hx hb hr hlocks h hP hK hD hS dM6_cancel_61
      · have h := h.2 c7
        refine lv_iload_n hx hb dM6_cancel_47 rfl (lv_at hl 0 rfl) ?_
        refine lv_iconst (v := 2) hx hb dM6_cancel_48 (by decide) ?_
        refine lv_icmp_ne (tgt := 62) hx hb dM6_cancel_49 (by decide) (fun c10 => ?_) (fun c10 => ?_)
        · have h := h.1 c10
          refine lv_aload_n hx hb dM6_cancel_62 rfl (lv_at hl 1 rfl) ?_
          refine va_get (D := (dC, dI)) (ci := 6) (v := .ref (ad 5)) (C := RX6) (T := TX6) (N := 36) hx hb hts uwX6 hown hK hP 0 rfl rfl 9 (by decide) (hts _ wd_712) (fun _ h9 => h9) rfl dM6_cancel_63 ?_
          refine lv_iload_n hx hb dM6_cancel_66 rfl (lv_at hl 2 rfl) ?_
          refine lv_iconst (v := 5) hx hb dM6_cancel_67 (by decide) ?_
          refine va_iast hx hb hK hP hD hS 5 0 rfl rfl h.1 dM6_cancel_68 (fun H locs hP hD hS => ?_)
          have h := h.2
          obtain ⟨u11, eu11⟩ : ∃ z : gS, z = tA u3 4 p1.toNatClampNeg 5 := ⟨_, rfl⟩
          have hP : va_P (dC, dI) vwCl (wM ad ca K u11) H := by rw [eu11, wM_a5]; exact hP
          have hD : va_D A (wM ad ca K u11) := by rw [eu11, wM_a5]; exact hD
          have h := h u11 eu11
          refine lv_iload_n hx hb dM6_cancel_69 rfl (lv_at hl 0 rfl) ?_
          refine lv_iconst (v := 1) hx hb dM6_cancel_70 (by decide) ?_
          refine lv_icmp_ne (tgt := 84) hx hb dM6_cancel_71 (by decide) (fun c12 => ?_) (fun c12 => ?_)
          · have h := h.1 c12
            refine lv_iload_n hx hb dM6_cancel_84 rfl (lv_at hl 0 rfl) ?_
            refine lv_iconst (v := 2) hx hb dM6_cancel_85 (by decide) ?_
            refine lv_icmp_ne (tgt := 98) hx hb dM6_cancel_86 (by decide) (fun c13 => ?_) (fun c13 => ?_)
            · have h := h.1 c13
              refine lv_aload_n hx hb dM6_cancel_98 rfl (lv_at hl 1 rfl) ?_
              refine lv_iload_n hx hb dM6_cancel_99 rfl (lv_at hl 0 rfl) ?_
              refine gc_i (w := wM ad ca K) (u := u11) (va_runV (As := [.int x6]) (rest := []) ⟨hx, hb, hml, hown, hts⟩ (cM6_end l dC dI ad ca K H.size u11 x6 _ h) (cwV 1 hts (gG_V wd_829 wd_831 wd_19 wd_52 wd_832) rfl rfl rfl (by decide +kernel) ⟨Nat.le_of_ble_eq_true rfl, Nat.le_of_ble_eq_true rfl⟩) ⟨gB_blind mE_ok, va_recv hK hP (ci := 6) (q0 := 0) rfl rfl, gB_pre mE_ok hP hK hD hE hS hA⟩ rfl rfl hl.1 rfl (lv_room (Nat.le_of_ble_eq_true rfl)) dM6_cancel_100 ⟨Nat.le_of_ble_eq_true rfl, Nat.le_of_ble_eq_true rfl⟩) hD hS hA (fun r14 u15 H locs h hP hD hS => ?_)
              exact gr_i (w := wM ad ca K) (u := u15) hx hb hr hlocks h hP hK hD hS dM6_cancel_103
            · have h := h.2 c13
              refine lv_aload_n hx hb dM6_cancel_89 rfl (lv_at hl 1 rfl) ?_
              refine lv_aload_n hx hb dM6_cancel_90 rfl (lv_at hl 1 rfl) ?_
              refine lv_iload_n hx hb dM6_cancel_91 rfl (lv_at hl 2 rfl) ?_
              refine gc_i (w := wM ad ca K) (u := u11) (va_runV (As := [.int p1]) (rest := [.ref (ad 0)]) ⟨hx, hb, hml, hown, hts⟩ (cM6_workerOf l dC dI ad ca K H.size u11 p1 _ h) (cwV 1 hts (gG_V wd_933 wd_935 wd_41 wd_52 wd_936) rfl rfl rfl (by decide +kernel) ⟨Nat.le_of_ble_eq_true rfl, Nat.le_of_ble_eq_true rfl⟩) ⟨gB_blind mE_ok, va_recv hK hP (ci := 6) (q0 := 0) rfl rfl, gB_pre mE_ok hP hK hD hE hS hA⟩ rfl rfl hl.1 rfl (lv_room (Nat.le_of_ble_eq_true rfl)) dM6_cancel_92 ⟨Nat.le_of_ble_eq_true rfl, Nat.le_of_ble_eq_true rfl⟩) hD hS hA (fun r16 u17 H locs h hP hD hS => ?_)
              refine gc_v (w := wM ad ca K) (u := u17) (va_runV (As := [.int r16]) (rest := []) ⟨hx, hb, hml, hown, hts⟩ (cM6_takeNext l dC dI ad ca K H.size u17 r16 _ h) (cwV 1 hts (gG_V wd_917 wd_919 wd_38 wd_52 wd_920) rfl rfl rfl (by decide +kernel) ⟨Nat.le_of_ble_eq_true rfl, Nat.le_of_ble_eq_true rfl⟩) ⟨gB_blind mE_ok, va_recv hK hP (ci := 6) (q0 := 0) rfl rfl, gB_pre mE_ok hP hK hD hE hS hA⟩ rfl rfl hl.1 rfl (lv_room (Nat.le_of_ble_eq_true rfl)) dM6_cancel_95 ⟨Nat.le_of_ble_eq_true rfl, Nat.le_of_ble_eq_true rfl⟩) hD hS hA (fun u19 H locs h hP hD hS => ?_)
              refine lv_aload_n hx hb dM6_cancel_98 rfl (lv_at hl 1 rfl) ?_
              refine lv_iload_n hx hb dM6_cancel_99 rfl (lv_at hl 0 rfl) ?_
              refine gc_i (w := wM ad ca K) (u := u19) (va_runV (As := [.int x6]) (rest := []) ⟨hx, hb, hml, hown, hts⟩ (cM6_end l dC dI ad ca K H.size u19 x6 _ h) (cwV 1 hts (gG_V wd_829 wd_831 wd_19 wd_52 wd_832) rfl rfl rfl (by decide +kernel) ⟨Nat.le_of_ble_eq_true rfl, Nat.le_of_ble_eq_true rfl⟩) ⟨gB_blind mE_ok, va_recv hK hP (ci := 6) (q0 := 0) rfl rfl, gB_pre mE_ok hP hK hD hE hS hA⟩ rfl rfl hl.1 rfl (lv_room (Nat.le_of_ble_eq_true rfl)) dM6_cancel_100 ⟨Nat.le_of_ble_eq_true rfl, Nat.le_of_ble_eq_true rfl⟩) hD hS hA (fun r20 u21 H locs h hP hD hS => ?_)
              exact gr_i (w := wM ad ca K) (u := u21) hx hb hr hlocks h hP hK hD hS dM6_cancel_103
          · have h := h.2 c12
            refine lv_aload_n hx hb dM6_cancel_74 rfl (lv_at hl 1 rfl) ?_
            refine lv_aload_n hx hb dM6_cancel_75 rfl (lv_at hl 1 rfl) ?_
            refine lv_iload_n hx hb dM6_cancel_76 rfl (lv_at hl 2 rfl) ?_
            refine gc_i (w := wM ad ca K) (u := u11) (va_runV (As := [.int p1]) (rest := [.ref (ad 0)]) ⟨hx, hb, hml, hown, hts⟩ (cM6_placeInQueue l dC dI ad ca K H.size u11 p1 _ h) (cwV 1 hts (gG_V wd_929 wd_931 wd_40 wd_52 wd_932) rfl rfl rfl (by decide +kernel) ⟨Nat.le_of_ble_eq_true rfl, Nat.le_of_ble_eq_true rfl⟩) ⟨gB_blind mE_ok, va_recv hK hP (ci := 6) (q0 := 0) rfl rfl, gB_pre mE_ok hP hK hD hE hS hA⟩ rfl rfl hl.1 rfl (lv_room (Nat.le_of_ble_eq_true rfl)) dM6_cancel_77 ⟨Nat.le_of_ble_eq_true rfl, Nat.le_of_ble_eq_true rfl⟩) hD hS hA (fun r22 u23 H locs h hP hD hS => ?_)
            refine gc_i (w := wM ad ca K) (u := u23) (va_runV (As := [.int r22]) (rest := []) ⟨hx, hb, hml, hown, hts⟩ (cM6_dequeue l dC dI ad ca K H.size u23 r22 _ h) (cwV 1 hts (gG_V wd_861 wd_863 wd_26 wd_52 wd_864) rfl rfl rfl (by decide +kernel) ⟨Nat.le_of_ble_eq_true rfl, Nat.le_of_ble_eq_true rfl⟩) ⟨gB_blind mE_ok, va_recv hK hP (ci := 6) (q0 := 0) rfl rfl, gB_pre mE_ok hP hK hD hE hS hA⟩ rfl rfl hl.1 rfl (lv_room (Nat.le_of_ble_eq_true rfl)) dM6_cancel_80 ⟨Nat.le_of_ble_eq_true rfl, Nat.le_of_ble_eq_true rfl⟩) hD hS hA (fun r24 u25 H locs h hP hD hS => ?_)
            refine lv_pop hx hb dM6_cancel_83 rfl ?_
            refine lv_iload_n hx hb dM6_cancel_84 rfl (lv_at hl 0 rfl) ?_
            refine lv_iconst (v := 2) hx hb dM6_cancel_85 (by decide) ?_
            refine lv_icmp_ne (tgt := 98) hx hb dM6_cancel_86 (by decide) (fun c26 => ?_) (fun c26 => ?_)
            · have h := h.1 c26
              refine lv_aload_n hx hb dM6_cancel_98 rfl (lv_at hl 1 rfl) ?_
              refine lv_iload_n hx hb dM6_cancel_99 rfl (lv_at hl 0 rfl) ?_
              refine gc_i (w := wM ad ca K) (u := u25) (va_runV (As := [.int x6]) (rest := []) ⟨hx, hb, hml, hown, hts⟩ (cM6_end l dC dI ad ca K H.size u25 x6 _ h) (cwV 1 hts (gG_V wd_829 wd_831 wd_19 wd_52 wd_832) rfl rfl rfl (by decide +kernel) ⟨Nat.le_of_ble_eq_true rfl, Nat.le_of_ble_eq_true rfl⟩) ⟨gB_blind mE_ok, va_recv hK hP (ci := 6) (q0 := 0) rfl rfl, gB_pre mE_ok hP hK hD hE hS hA⟩ rfl rfl hl.1 rfl (lv_room (Nat.le_of_ble_eq_true rfl)) dM6_cancel_100 ⟨Nat.le_of_ble_eq_true rfl, Nat.le_of_ble_eq_true rfl⟩) hD hS hA (fun r27 u28 H locs h hP hD hS => ?_)
              exact gr_i (w := wM ad ca K) (u := u28) hx hb hr hlocks h hP hK hD hS dM6_cancel_103
            · have h := h.2 c26
              refine lv_aload_n hx hb dM6_cancel_89 rfl (lv_at hl 1 rfl) ?_
              refine lv_aload_n hx hb dM6_cancel_90 rfl (lv_at hl 1 rfl) ?_
              refine lv_iload_n hx hb dM6_cancel_91 rfl (lv_at hl 2 rfl) ?_
              refine gc_i (w := wM ad ca K) (u := u25) (va_runV (As := [.int p1]) (rest := [.ref (ad 0)]) ⟨hx, hb, hml, hown, hts⟩ (cM6_workerOf l dC dI ad ca K H.size u25 p1 _ h) (cwV 1 hts (gG_V wd_933 wd_935 wd_41 wd_52 wd_936) rfl rfl rfl (by decide +kernel) ⟨Nat.le_of_ble_eq_true rfl, Nat.le_of_ble_eq_true rfl⟩) ⟨gB_blind mE_ok, va_recv hK hP (ci := 6) (q0 := 0) rfl rfl, gB_pre mE_ok hP hK hD hE hS hA⟩ rfl rfl hl.1 rfl (lv_room (Nat.le_of_ble_eq_true rfl)) dM6_cancel_92 ⟨Nat.le_of_ble_eq_true rfl, Nat.le_of_ble_eq_true rfl⟩) hD hS hA (fun r29 u30 H locs h hP hD hS => ?_)
              refine gc_v (w := wM ad ca K) (u := u30) (va_runV (As := [.int r29]) (rest := []) ⟨hx, hb, hml, hown, hts⟩ (cM6_takeNext l dC dI ad ca K H.size u30 r29 _ h) (cwV 1 hts (gG_V wd_917 wd_919 wd_38 wd_52 wd_920) rfl rfl rfl (by decide +kernel) ⟨Nat.le_of_ble_eq_true rfl, Nat.le_of_ble_eq_true rfl⟩) ⟨gB_blind mE_ok, va_recv hK hP (ci := 6) (q0 := 0) rfl rfl, gB_pre mE_ok hP hK hD hE hS hA⟩ rfl rfl hl.1 rfl (lv_room (Nat.le_of_ble_eq_true rfl)) dM6_cancel_95 ⟨Nat.le_of_ble_eq_true rfl, Nat.le_of_ble_eq_true rfl⟩) hD hS hA (fun u32 H locs h hP hD hS => ?_)
              refine lv_aload_n hx hb dM6_cancel_98 rfl (lv_at hl 1 rfl) ?_
              refine lv_iload_n hx hb dM6_cancel_99 rfl (lv_at hl 0 rfl) ?_
              refine gc_i (w := wM ad ca K) (u := u32) (va_runV (As := [.int x6]) (rest := []) ⟨hx, hb, hml, hown, hts⟩ (cM6_end l dC dI ad ca K H.size u32 x6 _ h) (cwV 1 hts (gG_V wd_829 wd_831 wd_19 wd_52 wd_832) rfl rfl rfl (by decide +kernel) ⟨Nat.le_of_ble_eq_true rfl, Nat.le_of_ble_eq_true rfl⟩) ⟨gB_blind mE_ok, va_recv hK hP (ci := 6) (q0 := 0) rfl rfl, gB_pre mE_ok hP hK hD hE hS hA⟩ rfl rfl hl.1 rfl (lv_room (Nat.le_of_ble_eq_true rfl)) dM6_cancel_100 ⟨Nat.le_of_ble_eq_true rfl, Nat.le_of_ble_eq_true rfl⟩) hD hS hA (fun r33 u34 H locs h hP hD hS => ?_)
              exact gr_i (w := wM ad ca K) (u := u34) hx hb hr hlocks h hP hK hD hS dM6_cancel_103
        · have h := h.2 c10
          refine lv_iload_n hx hb dM6_cancel_52 rfl (lv_at hl 3 rfl) ?_
          refine lv_if_ne (tgt := 62) hx hb dM6_cancel_53 (by decide) (fun c35 => ?_) (fun c35 => ?_)
          · have h := h.1 c35
            refine lv_aload_n hx hb dM6_cancel_62 rfl (lv_at hl 1 rfl) ?_
            refine va_get (D := (dC, dI)) (ci := 6) (v := .ref (ad 5)) (C := RX6) (T := TX6) (N := 36) hx hb hts uwX6 hown hK hP 0 rfl rfl 9 (by decide) (hts _ wd_712) (fun _ h9 => h9) rfl dM6_cancel_63 ?_
            refine lv_iload_n hx hb dM6_cancel_66 rfl (lv_at hl 2 rfl) ?_
            refine lv_iconst (v := 5) hx hb dM6_cancel_67 (by decide) ?_
            refine va_iast hx hb hK hP hD hS 5 0 rfl rfl h.1 dM6_cancel_68 (fun H locs hP hD hS => ?_)
            have h := h.2
            obtain ⟨u36, eu36⟩ : ∃ z : gS, z = tA u3 4 p1.toNatClampNeg 5 := ⟨_, rfl⟩
            have hP : va_P (dC, dI) vwCl (wM ad ca K u36) H := by rw [eu36, wM_a5]; exact hP
            have hD : va_D A (wM ad ca K u36) := by rw [eu36, wM_a5]; exact hD
            have h := h u36 eu36
            refine lv_iload_n hx hb dM6_cancel_69 rfl (lv_at hl 0 rfl) ?_
            refine lv_iconst (v := 1) hx hb dM6_cancel_70 (by decide) ?_
            refine lv_icmp_ne (tgt := 84) hx hb dM6_cancel_71 (by decide) (fun c37 => ?_) (fun c37 => ?_)
            · have h := h.1 c37
              refine lv_iload_n hx hb dM6_cancel_84 rfl (lv_at hl 0 rfl) ?_
              refine lv_iconst (v := 2) hx hb dM6_cancel_85 (by decide) ?_
              refine lv_icmp_ne (tgt := 98) hx hb dM6_cancel_86 (by decide) (fun c38 => ?_) (fun c38 => ?_)
              · have h := h.1 c38
                refine lv_aload_n hx hb dM6_cancel_98 rfl (lv_at hl 1 rfl) ?_
                refine lv_iload_n hx hb dM6_cancel_99 rfl (lv_at hl 0 rfl) ?_
                refine gc_i (w := wM ad ca K) (u := u36) (va_runV (As := [.int x6]) (rest := []) ⟨hx, hb, hml, hown, hts⟩ (cM6_end l dC dI ad ca K H.size u36 x6 _ h) (cwV 1 hts (gG_V wd_829 wd_831 wd_19 wd_52 wd_832) rfl rfl rfl (by decide +kernel) ⟨Nat.le_of_ble_eq_true rfl, Nat.le_of_ble_eq_true rfl⟩) ⟨gB_blind mE_ok, va_recv hK hP (ci := 6) (q0 := 0) rfl rfl, gB_pre mE_ok hP hK hD hE hS hA⟩ rfl rfl hl.1 rfl (lv_room (Nat.le_of_ble_eq_true rfl)) dM6_cancel_100 ⟨Nat.le_of_ble_eq_true rfl, Nat.le_of_ble_eq_true rfl⟩) hD hS hA (fun r39 u40 H locs h hP hD hS => ?_)
                exact gr_i (w := wM ad ca K) (u := u40) hx hb hr hlocks h hP hK hD hS dM6_cancel_103
              · have h := h.2 c38
                refine lv_aload_n hx hb dM6_cancel_89 rfl (lv_at hl 1 rfl) ?_
                refine lv_aload_n hx hb dM6_cancel_90 rfl (lv_at hl 1 rfl) ?_
                refine lv_iload_n hx hb dM6_cancel_91 rfl (lv_at hl 2 rfl) ?_
                refine gc_i (w := wM ad ca K) (u := u36) (va_runV (As := [.int p1]) (rest := [.ref (ad 0)]) ⟨hx, hb, hml, hown, hts⟩ (cM6_workerOf l dC dI ad ca K H.size u36 p1 _ h) (cwV 1 hts (gG_V wd_933 wd_935 wd_41 wd_52 wd_936) rfl rfl rfl (by decide +kernel) ⟨Nat.le_of_ble_eq_true rfl, Nat.le_of_ble_eq_true rfl⟩) ⟨gB_blind mE_ok, va_recv hK hP (ci := 6) (q0 := 0) rfl rfl, gB_pre mE_ok hP hK hD hE hS hA⟩ rfl rfl hl.1 rfl (lv_room (Nat.le_of_ble_eq_true rfl)) dM6_cancel_92 ⟨Nat.le_of_ble_eq_true rfl, Nat.le_of_ble_eq_true rfl⟩) hD hS hA (fun r41 u42 H locs h hP hD hS => ?_)
                refine gc_v (w := wM ad ca K) (u := u42) (va_runV (As := [.int r41]) (rest := []) ⟨hx, hb, hml, hown, hts⟩ (cM6_takeNext l dC dI ad ca K H.size u42 r41 _ h) (cwV 1 hts (gG_V wd_917 wd_919 wd_38 wd_52 wd_920) rfl rfl rfl (by decide +kernel) ⟨Nat.le_of_ble_eq_true rfl, Nat.le_of_ble_eq_true rfl⟩) ⟨gB_blind mE_ok, va_recv hK hP (ci := 6) (q0 := 0) rfl rfl, gB_pre mE_ok hP hK hD hE hS hA⟩ rfl rfl hl.1 rfl (lv_room (Nat.le_of_ble_eq_true rfl)) dM6_cancel_95 ⟨Nat.le_of_ble_eq_true rfl, Nat.le_of_ble_eq_true rfl⟩) hD hS hA (fun u44 H locs h hP hD hS => ?_)
                refine lv_aload_n hx hb dM6_cancel_98 rfl (lv_at hl 1 rfl) ?_
                refine lv_iload_n hx hb dM6_cancel_99 rfl (lv_at hl 0 rfl) ?_
                refine gc_i (w := wM ad ca K) (u := u44) (va_runV (As := [.int x6]) (rest := []) ⟨hx, hb, hml, hown, hts⟩ (cM6_end l dC dI ad ca K H.size u44 x6 _ h) (cwV 1 hts (gG_V wd_829 wd_831 wd_19 wd_52 wd_832) rfl rfl rfl (by decide +kernel) ⟨Nat.le_of_ble_eq_true rfl, Nat.le_of_ble_eq_true rfl⟩) ⟨gB_blind mE_ok, va_recv hK hP (ci := 6) (q0 := 0) rfl rfl, gB_pre mE_ok hP hK hD hE hS hA⟩ rfl rfl hl.1 rfl (lv_room (Nat.le_of_ble_eq_true rfl)) dM6_cancel_100 ⟨Nat.le_of_ble_eq_true rfl, Nat.le_of_ble_eq_true rfl⟩) hD hS hA (fun r45 u46 H locs h hP hD hS => ?_)
                exact gr_i (w := wM ad ca K) (u := u46) hx hb hr hlocks h hP hK hD hS dM6_cancel_103
            · have h := h.2 c37
              refine lv_aload_n hx hb dM6_cancel_74 rfl (lv_at hl 1 rfl) ?_
              refine lv_aload_n hx hb dM6_cancel_75 rfl (lv_at hl 1 rfl) ?_
              refine lv_iload_n hx hb dM6_cancel_76 rfl (lv_at hl 2 rfl) ?_
              refine gc_i (w := wM ad ca K) (u := u36) (va_runV (As := [.int p1]) (rest := [.ref (ad 0)]) ⟨hx, hb, hml, hown, hts⟩ (cM6_placeInQueue l dC dI ad ca K H.size u36 p1 _ h) (cwV 1 hts (gG_V wd_929 wd_931 wd_40 wd_52 wd_932) rfl rfl rfl (by decide +kernel) ⟨Nat.le_of_ble_eq_true rfl, Nat.le_of_ble_eq_true rfl⟩) ⟨gB_blind mE_ok, va_recv hK hP (ci := 6) (q0 := 0) rfl rfl, gB_pre mE_ok hP hK hD hE hS hA⟩ rfl rfl hl.1 rfl (lv_room (Nat.le_of_ble_eq_true rfl)) dM6_cancel_77 ⟨Nat.le_of_ble_eq_true rfl, Nat.le_of_ble_eq_true rfl⟩) hD hS hA (fun r47 u48 H locs h hP hD hS => ?_)
              refine gc_i (w := wM ad ca K) (u := u48) (va_runV (As := [.int r47]) (rest := []) ⟨hx, hb, hml, hown, hts⟩ (cM6_dequeue l dC dI ad ca K H.size u48 r47 _ h) (cwV 1 hts (gG_V wd_861 wd_863 wd_26 wd_52 wd_864) rfl rfl rfl (by decide +kernel) ⟨Nat.le_of_ble_eq_true rfl, Nat.le_of_ble_eq_true rfl⟩) ⟨gB_blind mE_ok, va_recv hK hP (ci := 6) (q0 := 0) rfl rfl, gB_pre mE_ok hP hK hD hE hS hA⟩ rfl rfl hl.1 rfl (lv_room (Nat.le_of_ble_eq_true rfl)) dM6_cancel_80 ⟨Nat.le_of_ble_eq_true rfl, Nat.le_of_ble_eq_true rfl⟩) hD hS hA (fun r49 u50 H locs h hP hD hS => ?_)
              refine lv_pop hx hb dM6_cancel_83 rfl ?_
              refine lv_iload_n hx hb dM6_cancel_84 rfl (lv_at hl 0 rfl) ?_
              refine lv_iconst (v := 2) hx hb dM6_cancel_85 (by decide) ?_
              refine lv_icmp_ne (tgt := 98) hx hb dM6_cancel_86 (by decide) (fun c51 => ?_) (fun c51 => ?_)
              · have h := h.1 c51
                refine lv_aload_n hx hb dM6_cancel_98 rfl (lv_at hl 1 rfl) ?_
                refine lv_iload_n hx hb dM6_cancel_99 rfl (lv_at hl 0 rfl) ?_
                refine gc_i (w := wM ad ca K) (u := u50) (va_runV (As := [.int x6]) (rest := []) ⟨hx, hb, hml, hown, hts⟩ (cM6_end l dC dI ad ca K H.size u50 x6 _ h) (cwV 1 hts (gG_V wd_829 wd_831 wd_19 wd_52 wd_832) rfl rfl rfl (by decide +kernel) ⟨Nat.le_of_ble_eq_true rfl, Nat.le_of_ble_eq_true rfl⟩) ⟨gB_blind mE_ok, va_recv hK hP (ci := 6) (q0 := 0) rfl rfl, gB_pre mE_ok hP hK hD hE hS hA⟩ rfl rfl hl.1 rfl (lv_room (Nat.le_of_ble_eq_true rfl)) dM6_cancel_100 ⟨Nat.le_of_ble_eq_true rfl, Nat.le_of_ble_eq_true rfl⟩) hD hS hA (fun r52 u53 H locs h hP hD hS => ?_)
                exact gr_i (w := wM ad ca K) (u := u53) hx hb hr hlocks h hP hK hD hS dM6_cancel_103
              · have h := h.2 c51
                refine lv_aload_n hx hb dM6_cancel_89 rfl (lv_at hl 1 rfl) ?_
                refine lv_aload_n hx hb dM6_cancel_90 rfl (lv_at hl 1 rfl) ?_
                refine lv_iload_n hx hb dM6_cancel_91 rfl (lv_at hl 2 rfl) ?_
                refine gc_i (w := wM ad ca K) (u := u50) (va_runV (As := [.int p1]) (rest := [.ref (ad 0)]) ⟨hx, hb, hml, hown, hts⟩ (cM6_workerOf l dC dI ad ca K H.size u50 p1 _ h) (cwV 1 hts (gG_V wd_933 wd_935 wd_41 wd_52 wd_936) rfl rfl rfl (by decide +kernel) ⟨Nat.le_of_ble_eq_true rfl, Nat.le_of_ble_eq_true rfl⟩) ⟨gB_blind mE_ok, va_recv hK hP (ci := 6) (q0 := 0) rfl rfl, gB_pre mE_ok hP hK hD hE hS hA⟩ rfl rfl hl.1 rfl (lv_room (Nat.le_of_ble_eq_true rfl)) dM6_cancel_92 ⟨Nat.le_of_ble_eq_true rfl, Nat.le_of_ble_eq_true rfl⟩) hD hS hA (fun r54 u55 H locs h hP hD hS => ?_)
                refine gc_v (w := wM ad ca K) (u := u55) (va_runV (As := [.int r54]) (rest := []) ⟨hx, hb, hml, hown, hts⟩ (cM6_takeNext l dC dI ad ca K H.size u55 r54 _ h) (cwV 1 hts (gG_V wd_917 wd_919 wd_38 wd_52 wd_920) rfl rfl rfl (by decide +kernel) ⟨Nat.le_of_ble_eq_true rfl, Nat.le_of_ble_eq_true rfl⟩) ⟨gB_blind mE_ok, va_recv hK hP (ci := 6) (q0 := 0) rfl rfl, gB_pre mE_ok hP hK hD hE hS hA⟩ rfl rfl hl.1 rfl (lv_room (Nat.le_of_ble_eq_true rfl)) dM6_cancel_95 ⟨Nat.le_of_ble_eq_true rfl, Nat.le_of_ble_eq_true rfl⟩) hD hS hA (fun u57 H locs h hP hD hS => ?_)
                refine lv_aload_n hx hb dM6_cancel_98 rfl (lv_at hl 1 rfl) ?_
                refine lv_iload_n hx hb dM6_cancel_99 rfl (lv_at hl 0 rfl) ?_
                refine gc_i (w := wM ad ca K) (u := u57) (va_runV (As := [.int x6]) (rest := []) ⟨hx, hb, hml, hown, hts⟩ (cM6_end l dC dI ad ca K H.size u57 x6 _ h) (cwV 1 hts (gG_V wd_829 wd_831 wd_19 wd_52 wd_832) rfl rfl rfl (by decide +kernel) ⟨Nat.le_of_ble_eq_true rfl, Nat.le_of_ble_eq_true rfl⟩) ⟨gB_blind mE_ok, va_recv hK hP (ci := 6) (q0 := 0) rfl rfl, gB_pre mE_ok hP hK hD hE hS hA⟩ rfl rfl hl.1 rfl (lv_room (Nat.le_of_ble_eq_true rfl)) dM6_cancel_100 ⟨Nat.le_of_ble_eq_true rfl, Nat.le_of_ble_eq_true rfl⟩) hD hS hA (fun r58 u59 H locs h hP hD hS => ?_)
                exact gr_i (w := wM ad ca K) (u := u59) hx hb hr hlocks h hP hK hD hS dM6_cancel_103
          · have h := h.2 c35
            refine lv_aload_n hx hb dM6_cancel_56 rfl (lv_at hl 1 rfl) ?_
            refine lv_iconst (v := 3) hx hb dM6_cancel_57 (by decide) ?_
            refine gc_i (w := wM ad ca K) (u := u3) (va_runV (As := [.int 3]) (rest := []) ⟨hx, hb, hml, hown, hts⟩ (cM6_fail l dC dI ad ca K H.size u3 3 _ h) (cwV 1 hts (gG_V wd_825 wd_827 wd_18 wd_52 wd_828) rfl rfl rfl (by decide +kernel) ⟨Nat.le_of_ble_eq_true rfl, Nat.le_of_ble_eq_true rfl⟩) ⟨gB_blind mE_ok, va_recv hK hP (ci := 6) (q0 := 0) rfl rfl, gB_pre mE_ok hP hK hD hE hS hA⟩ rfl rfl hl.1 rfl (lv_room (Nat.le_of_ble_eq_true rfl)) dM6_cancel_58 ⟨Nat.le_of_ble_eq_true rfl, Nat.le_of_ble_eq_true rfl⟩) hD hS hA (fun r60 u61 H locs h hP hD hS => ?_)
            exact gr_i (w := wM ad ca K) (u := u61) hx hb hr hlocks h hP hK hD hS dM6_cancel_61
    · have h := h.2 c5
      refine lv_aload_n hx hb dM6_cancel_29 rfl (lv_at hl 0 rfl) ?_
      refine lv_iconst (v := 2) hx hb dM6_cancel_30 (by decide) ?_
      refine gc_i (w := wM ad ca K) (u := u3) (va_runV (As := [.int 2]) (rest := []) ⟨hx, hb, hml, hown, hts⟩ (cM6_fail l dC dI ad ca K H.size u3 2 _ h) (cwV 1 hts (gG_V wd_825 wd_827 wd_18 wd_52 wd_828) rfl rfl rfl (by decide +kernel) ⟨Nat.le_of_ble_eq_true rfl, Nat.le_of_ble_eq_true rfl⟩) ⟨gB_blind mE_ok, va_recv hK hP (ci := 6) (q0 := 0) rfl rfl, gB_pre mE_ok hP hK hD hE hS hA⟩ rfl rfl hl.1 rfl (lv_room (Nat.le_of_ble_eq_true rfl)) dM6_cancel_31 ⟨Nat.le_of_ble_eq_true rfl, Nat.le_of_ble_eq_true rfl⟩) hD hS hA (fun r62 u63 H locs h hP hD hS => ?_)
      exact gr_i (w := wM ad ca K) (u := u63) hx hb hr hlocks h hP hK hD hS dM6_cancel_34
  · have h := h.2 c4
    refine lv_aload_n hx hb dM6_cancel_15 rfl (lv_at hl 0 rfl) ?_
    refine lv_iconst (v := 1) hx hb dM6_cancel_16 (by decide) ?_
    refine gc_i (w := wM ad ca K) (u := u3) (va_runV (As := [.int 1]) (rest := []) ⟨hx, hb, hml, hown, hts⟩ (cM6_fail l dC dI ad ca K H.size u3 1 _ h) (cwV 1 hts (gG_V wd_825 wd_827 wd_18 wd_52 wd_828) rfl rfl rfl (by decide +kernel) ⟨Nat.le_of_ble_eq_true rfl, Nat.le_of_ble_eq_true rfl⟩) ⟨gB_blind mE_ok, va_recv hK hP (ci := 6) (q0 := 0) rfl rfl, gB_pre mE_ok hP hK hD hE hS hA⟩ rfl rfl hl.1 rfl (lv_room (Nat.le_of_ble_eq_true rfl)) dM6_cancel_17 ⟨Nat.le_of_ble_eq_true rfl, Nat.le_of_ble_eq_true rfl⟩) hD hS hA (fun r64 u65 H locs h hP hD hS => ?_)
    exact gr_i (w := wM ad ca K) (u := u65) hx hb hr hlocks h hP hK hD hS dM6_cancel_20

