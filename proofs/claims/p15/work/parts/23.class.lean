theorem dX3_firstPlace_0 : decode prog_5_method_3_code 0 = .ok (.iconst (-1), 1) := by decide +kernel
theorem dX3_firstPlace_1 : decode prog_5_method_3_code 1 = .ok (.istore_n 1, 1) := by decide +kernel
theorem dX3_firstPlace_2 : decode prog_5_method_3_code 2 = .ok (.iconst 0, 1) := by decide +kernel
theorem dX3_firstPlace_3 : decode prog_5_method_3_code 3 = .ok (.istore_n 2, 1) := by decide +kernel
theorem dX3_firstPlace_4 : decode prog_5_method_3_code 4 = .ok (.iload_n 2, 1) := by decide +kernel
theorem dX3_firstPlace_5 : decode prog_5_method_3_code 5 = .ok (.aload_n 0, 1) := by decide +kernel
theorem dX3_firstPlace_6 : decode prog_5_method_3_code 6 = .ok (.getfield 24, 3) := by decide +kernel
theorem dX3_firstPlace_9 : decode prog_5_method_3_code 9 = .ok (.if_icmp .ge 31, 3) := by decide +kernel
theorem dX3_firstPlace_12 : decode prog_5_method_3_code 12 = .ok (.iload_n 1, 1) := by decide +kernel
theorem dX3_firstPlace_13 : decode prog_5_method_3_code 13 = .ok (.ifCond .lt 19, 3) := by decide +kernel
theorem dX3_firstPlace_16 : decode prog_5_method_3_code 16 = .ok (.aload_n 0, 1) := by decide +kernel
theorem dX3_firstPlace_17 : decode prog_5_method_3_code 17 = .ok (.getfield 17, 3) := by decide +kernel
theorem dX3_firstPlace_20 : decode prog_5_method_3_code 20 = .ok (.iload_n 2, 1) := by decide +kernel
theorem dX3_firstPlace_21 : decode prog_5_method_3_code 21 = .ok (.daload, 1) := by decide +kernel
theorem dX3_firstPlace_22 : decode prog_5_method_3_code 22 = .ok (.aload_n 0, 1) := by decide +kernel
theorem dX3_firstPlace_23 : decode prog_5_method_3_code 23 = .ok (.getfield 17, 3) := by decide +kernel
theorem dX3_firstPlace_26 : decode prog_5_method_3_code 26 = .ok (.iload_n 1, 1) := by decide +kernel
theorem dX3_firstPlace_27 : decode prog_5_method_3_code 27 = .ok (.daload, 1) := by decide +kernel
theorem dX3_firstPlace_28 : decode prog_5_method_3_code 28 = .ok (.dcmp .g, 1) := by decide +kernel
theorem dX3_firstPlace_29 : decode prog_5_method_3_code 29 = .ok (.ifCond .ge 5, 3) := by decide +kernel
theorem dX3_firstPlace_32 : decode prog_5_method_3_code 32 = .ok (.iload_n 2, 1) := by decide +kernel
theorem dX3_firstPlace_33 : decode prog_5_method_3_code 33 = .ok (.istore_n 1, 1) := by decide +kernel
theorem dX3_firstPlace_34 : decode prog_5_method_3_code 34 = .ok (.iinc 2 1, 3) := by decide +kernel
theorem dX3_firstPlace_37 : decode prog_5_method_3_code 37 = .ok (.goto (-33), 3) := by decide +kernel
theorem dX3_firstPlace_40 : decode prog_5_method_3_code 40 = .ok (.iload_n 1, 1) := by decide +kernel
theorem dX3_firstPlace_41 : decode prog_5_method_3_code 41 = .ok (.ireturn, 1) := by decide +kernel
def wpX3_firstPlace_4 (K : KX) (post : Int32 → gS → Prop) : Nat → Int32 → Int32 → gS → Prop
  | 0 => fun _ _ _ => False
  | n + 1 => fun l1 l2 u => (((sI u 6) ≤ l2 → (post l1 u)) ∧ (¬ (sI u 6) ≤ l2 → (((l1 < 0 → (∀ x3 : Int32, x3 = l2 + 1 → (wpX3_firstPlace_4 K post n l2 x3 u))) ∧ (¬ l1 < 0 → (vp_in l2 10 ∧ (vp_in l1 10 ∧ (((0 ≤ (Op.cmpValue (FP.dcmp (sB u 1 l2.toNatClampNeg) (sB u 1 l1.toNatClampNeg)) .g) → (∀ x5 : Int32, x5 = l2 + 1 → (wpX3_firstPlace_4 K post n l1 x5 u))) ∧ (¬ 0 ≤ (Op.cmpValue (FP.dcmp (sB u 1 l2.toNatClampNeg) (sB u 1 l1.toNatClampNeg)) .g) → (∀ x6 : Int32, x6 = l2 + 1 → (wpX3_firstPlace_4 K post n l2 x6 u))))))))))))

def wpX3_firstPlace (K : KX) (post : Int32 → gS → Prop) (u : gS)  : Prop :=
  ∃ n4 : Nat, wpX3_firstPlace_4 K post n4 (-1) 0 u

set_option maxHeartbeats 8000000 in
set_option maxRecDepth 100000 in
theorem wpX3_firstPlace_4_ok {p : Program} {l : Launch} {e : Env} {s : State} {m : MethodId} {args : Array Value} {below : List Frame} {meth : Method} {c : Code} {dC : Nat → ClassId} {dI : Nat → Nat → Nat} {ad : Nat → Nat} {ca : Nat → ClassId} {K : KX} {A : Nat → Prop} {post : Int32 → gS → Prop}   (hx : p.tables.exec = Jvm.exec) (hb : c.code = prog_5_method_3_code) (hr : meth.sig.returnType = (some .int)) (hml : c.maxLocals = 3) (hown : s.vm.findClass RX3 = some m.cls) (hts : ∀ w ∈ gW, w.before args s = true) (hlocks : meth.locks = false) (hK : va_K (dC, dI) vwCl (xT ca) s) (hA : ∀ q, s.heap.size ≤ q → A q) (hE : xE A s s.heap) :
    ∀ (n : Nat) (l1 : Int32) (l2 : Int32) (u : gS) (H : Heap) (locs : List Loc) (ls : Array Slot), wpX3_firstPlace_4 K post n l1 l2 u → va_P (dC, dI) vwCl (wX ad ca K u) H → va_D A (wX ad ca K u) → va_S A s.heap H locs → lv_has ls 3 [(0, .ref (ad 7)), (1, .int l1), (2, .int l2)] → W p l e (headSpec (gw ⟨"WorkHall$Timetable", "firstPlace", "()I"⟩ prog_5_method_3_code 3 (some .int)) ({ frames := 1, cells := 0, slots := 0, locals := 40 } : Room)).room s m args below meth c H locs 0 0 (MQ below (va_Qi post (gAt (dC, dI) vwCl (xT ca) (wX ad ca K) (A)) (A)) args s 0 0 A) (F0 m 4 ls []) := by
  intro n
  induction n with
  | zero => exact fun _ _ _ _ _ _ h => h.elim
  | succ n ih =>
    intro l1 l2 u H locs ls h hP hD hS hl
    refine lv_iload_n hx hb dX3_firstPlace_4 rfl (lv_at hl 2 rfl) ?_
    refine lv_aload_n hx hb dX3_firstPlace_5 rfl (lv_at hl 0 rfl) ?_
    refine va_get (D := (dC, dI)) (ci := 3) (v := .int (sI u 6)) (C := RX3) (T := TX3) (N := 4) hx hb hts uwX3 hown hK hP 7 rfl rfl 3 (by decide) (hts _ wd_152) (fun _ h9 => h9) rfl dX3_firstPlace_6 ?_
    refine lv_icmp_ge (tgt := 40) hx hb dX3_firstPlace_9 (by decide) (fun c1 => ?_) (fun c1 => ?_)
    · have h := h.1 c1
      refine lv_iload_n hx hb dX3_firstPlace_40 rfl (lv_at hl 1 rfl) ?_
      exact gr_i (w := wX ad ca K) (u := u) hx hb hr hlocks h hP hK hD hS dX3_firstPlace_41
    · have h := h.2 c1
      refine lv_iload_n hx hb dX3_firstPlace_12 rfl (lv_at hl 1 rfl) ?_
      refine lv_if_lt (tgt := 32) hx hb dX3_firstPlace_13 (by decide) (fun c2 => ?_) (fun c2 => ?_)
      · have h := h.1 c2
        refine lv_iload_n hx hb dX3_firstPlace_32 rfl (lv_at hl 2 rfl) ?_
        refine lv_istore_n (lv' := [(1, .int l2), (0, .ref (ad 7)), (2, .int l2)]) hx hb dX3_firstPlace_33 rfl hl (by decide) rfl (fun ls hl => ?_)
        obtain ⟨x3, ex3⟩ : ∃ y : Int32, y = l2 + 1 := ⟨_, rfl⟩
        have h := h x3 ex3
        refine lv_iinc (v := x3) (lv' := [(2, .int x3), (1, .int l2), (0, .ref (ad 7))]) hx hb dX3_firstPlace_34 hl (k := 2) rfl (by rw [ex3]; rfl) (by decide) rfl (fun ls hl => ?_)
        refine lv_goto (tgt := 4) hx hb dX3_firstPlace_37 (by decide) ?_
        exact ih l2 x3 u _ _ _ h hP hD hS (lv_sub hl [2, 1, 0] rfl)
      · have h := h.2 c2
        refine lv_aload_n hx hb dX3_firstPlace_16 rfl (lv_at hl 0 rfl) ?_
        refine va_get (D := (dC, dI)) (ci := 3) (v := .ref (ad 9)) (C := RX3) (T := TX3) (N := 4) hx hb hts uwX3 hown hK hP 7 rfl rfl 1 (by decide) (hts _ wd_148) (fun _ h9 => h9) rfl dX3_firstPlace_17 ?_
        refine lv_iload_n hx hb dX3_firstPlace_20 rfl (lv_at hl 2 rfl) ?_
        refine va_dald hx hb hK hP 9 2 rfl rfl h.1 dX3_firstPlace_21 ?_
        have h := h.2
        refine lv_aload_n hx hb dX3_firstPlace_22 rfl (lv_at hl 0 rfl) ?_
        refine va_get (D := (dC, dI)) (ci := 3) (v := .ref (ad 9)) (C := RX3) (T := TX3) (N := 4) hx hb hts uwX3 hown hK hP 7 rfl rfl 1 (by decide) (hts _ wd_148) (fun _ h9 => h9) rfl dX3_firstPlace_23 ?_
        refine lv_iload_n hx hb dX3_firstPlace_26 rfl (lv_at hl 1 rfl) ?_
        refine va_dald hx hb hK hP 9 2 rfl rfl h.1 dX3_firstPlace_27 ?_
        have h := h.2
        refine lv_dcmp hx hb dX3_firstPlace_28 ?_
        refine lv_if_ge (tgt := 34) hx hb dX3_firstPlace_29 (by decide) (fun c4 => ?_) (fun c4 => ?_)
        · have h := h.1 c4
          obtain ⟨x5, ex5⟩ : ∃ y : Int32, y = l2 + 1 := ⟨_, rfl⟩
          have h := h x5 ex5
          refine lv_iinc (v := x5) (lv' := [(2, .int x5), (0, .ref (ad 7)), (1, .int l1)]) hx hb dX3_firstPlace_34 hl (k := 2) rfl (by rw [ex5]; rfl) (by decide) rfl (fun ls hl => ?_)
          refine lv_goto (tgt := 4) hx hb dX3_firstPlace_37 (by decide) ?_
          exact ih l1 x5 u _ _ _ h hP hD hS (lv_sub hl [1, 2, 0] rfl)
        · have h := h.2 c4
          refine lv_iload_n hx hb dX3_firstPlace_32 rfl (lv_at hl 2 rfl) ?_
          refine lv_istore_n (lv' := [(1, .int l2), (0, .ref (ad 7)), (2, .int l2)]) hx hb dX3_firstPlace_33 rfl hl (by decide) rfl (fun ls hl => ?_)
          obtain ⟨x6, ex6⟩ : ∃ y : Int32, y = l2 + 1 := ⟨_, rfl⟩
          have h := h x6 ex6
          refine lv_iinc (v := x6) (lv' := [(2, .int x6), (1, .int l2), (0, .ref (ad 7))]) hx hb dX3_firstPlace_34 hl (k := 2) rfl (by rw [ex6]; rfl) (by decide) rfl (fun ls hl => ?_)
          refine lv_goto (tgt := 4) hx hb dX3_firstPlace_37 (by decide) ?_
          exact ih l2 x6 u _ _ _ h hP hD hS (lv_sub hl [2, 1, 0] rfl)

set_option maxHeartbeats 8000000 in
set_option maxRecDepth 100000 in
theorem cX3_firstPlace (l : Launch) (dC : Nat → ClassId) (dI : Nat → Nat → Nat) (ad : Nat → Nat) (ca : Nat → ClassId) (K : KX) (sz : Nat) (u : gS)  (post : Int32 → gS → Prop)  (h : wpX3_firstPlace K post u ) : Met l ⟨"WorkHall$Timetable", "firstPlace", "()I"⟩ (gw ⟨"WorkHall$Timetable", "firstPlace", "()I"⟩ prog_5_method_3_code 3 (some .int)) ({ frames := 1, cells := 0, slots := 0, locals := 40 } : Room) (va_Pc [.ref (ad 7)] (gB (dC, dI) vwCl (xT ca) xE (wX ad ca K u) sz)) (va_Qi post (gAt (dC, dI) vwCl (xT ca) (wX ad ca K) (va_A (wX ad ca K u) sz)) (va_A (wX ad ca K u) sz)) 0 0 (va_A (wX ad ca K u) sz) := by
  refine Met.ofW (cc := prog_5_method_3_code) (maxL := 3) (ret := (some .int)) (by decide) rfl ?_
  intro p e s m args below meth c s₁ B hml hv
  obtain ⟨rfl, hsz, hP, hK, hD0, hE⟩ := hv
  have hx := B.exec
  have hb := B.bytes
  have hr := B.returns
  have hts : ∀ w ∈ gW, w.before _ s = true := fun w h9 => atoms_spec (ws := (gw ⟨"WorkHall$Timetable", "firstPlace", "()I"⟩ prog_5_method_3_code 3 (some .int))) B.pre w (List.mem_cons_of_mem _ h9)
  have hown : s.vm.findClass RX3 = some m.cls := findClass_of_methodNamed B.named
  have hlocks := B.notSynchronized
  subst hsz
  have hD := hD0.self (sz := s.heap.size)
  generalize hAe : va_A (wX ad ca K u) s.heap.size = A at hD hE ⊢
  have hA : ∀ q : Nat, s.heap.size ≤ q → A q := fun q h => by rw [← hAe]; exact Or.inr h
  obtain ⟨H, hHe⟩ : ∃ z : Heap, z = s.heap := ⟨_, rfl⟩
  rw [← hHe]
  have hS : va_S A s.heap H [] := by rw [hHe]; exact va_S.rf
  have hP : va_P (dC, dI) vwCl (wX ad ca K u) H := by rw [hHe]; exact hP
  have hl := lv_entry ([.ref (ad 7)]) (n := 3) (Nat.le_of_ble_eq_true rfl)
  rw [lg_entry_eq]
  generalize (lg_sl ([.ref (ad 7)]) ++ List.replicate (3 - (lg_sl ([.ref (ad 7)])).length) Slot.unset).toArray = ls at hl ⊢
  have hl : lv_has ls 3 [(0, .ref (ad 7))] := hl
  clear hAe
  refine lv_iconst (v := (-1)) hx hb dX3_firstPlace_0 (by decide) ?_
  refine lv_istore_n (lv' := [(1, .int (-1)), (0, .ref (ad 7))]) hx hb dX3_firstPlace_1 rfl hl (by decide) rfl (fun ls hl => ?_)
  refine lv_iconst (v := 0) hx hb dX3_firstPlace_2 (by decide) ?_
  refine lv_istore_n (lv' := [(2, .int 0), (1, .int (-1)), (0, .ref (ad 7))]) hx hb dX3_firstPlace_3 rfl hl (by decide) rfl (fun ls hl => ?_)
  obtain ⟨n4, h⟩ := h
  exact wpX3_firstPlace_4_ok hx hb hr hml hown hts hlocks hK hA hE n4 (-1) 0 u _ _ _ h hP hD hS (lv_sub hl [2, 1, 0] rfl)

theorem dX3_hasEntryUpTo_0 : decode prog_5_method_4_code 0 = .ok (.aload_n 0, 1) := by decide +kernel
theorem dX3_hasEntryUpTo_1 : decode prog_5_method_4_code 1 = .ok (.invokevirtual 28, 3) := by decide +kernel
theorem dX3_hasEntryUpTo_4 : decode prog_5_method_4_code 4 = .ok (.istore_n 3, 1) := by decide +kernel
theorem dX3_hasEntryUpTo_5 : decode prog_5_method_4_code 5 = .ok (.iload_n 3, 1) := by decide +kernel
theorem dX3_hasEntryUpTo_6 : decode prog_5_method_4_code 6 = .ok (.ifCond .lt 18, 3) := by decide +kernel
theorem dX3_hasEntryUpTo_9 : decode prog_5_method_4_code 9 = .ok (.aload_n 0, 1) := by decide +kernel
theorem dX3_hasEntryUpTo_10 : decode prog_5_method_4_code 10 = .ok (.getfield 17, 3) := by decide +kernel
theorem dX3_hasEntryUpTo_13 : decode prog_5_method_4_code 13 = .ok (.iload_n 3, 1) := by decide +kernel
theorem dX3_hasEntryUpTo_14 : decode prog_5_method_4_code 14 = .ok (.daload, 1) := by decide +kernel
theorem dX3_hasEntryUpTo_15 : decode prog_5_method_4_code 15 = .ok (.dload_n 1, 1) := by decide +kernel
theorem dX3_hasEntryUpTo_16 : decode prog_5_method_4_code 16 = .ok (.dcmp .g, 1) := by decide +kernel
theorem dX3_hasEntryUpTo_17 : decode prog_5_method_4_code 17 = .ok (.ifCond .gt 7, 3) := by decide +kernel
theorem dX3_hasEntryUpTo_20 : decode prog_5_method_4_code 20 = .ok (.iconst 1, 1) := by decide +kernel
theorem dX3_hasEntryUpTo_21 : decode prog_5_method_4_code 21 = .ok (.goto 4, 3) := by decide +kernel
theorem dX3_hasEntryUpTo_24 : decode prog_5_method_4_code 24 = .ok (.iconst 0, 1) := by decide +kernel
theorem dX3_hasEntryUpTo_25 : decode prog_5_method_4_code 25 = .ok (.ireturn, 1) := by decide +kernel
def wpX3_hasEntryUpTo (K : KX) (post : Int32 → gS → Prop) (u : gS) (p1 : UInt64) : Prop :=
  wpX3_firstPlace K (fun (r1 : Int32) (u2 : gS) => ((r1 < 0 → (narrow .boolean (.int 0) = .int 0 ∧ post 0 u2)) ∧ (¬ r1 < 0 → (vp_in r1 10 ∧ (((0 < (Op.cmpValue (FP.dcmp (sB u2 1 r1.toNatClampNeg) p1) .g) → (narrow .boolean (.int 0) = .int 0 ∧ post 0 u2)) ∧ (¬ 0 < (Op.cmpValue (FP.dcmp (sB u2 1 r1.toNatClampNeg) p1) .g) → (narrow .boolean (.int 1) = .int 1 ∧ post 1 u2)))))))) u

set_option maxHeartbeats 8000000 in
set_option maxRecDepth 100000 in
theorem cX3_hasEntryUpTo (l : Launch) (dC : Nat → ClassId) (dI : Nat → Nat → Nat) (ad : Nat → Nat) (ca : Nat → ClassId) (K : KX) (sz : Nat) (u : gS) (p1 : UInt64) (post : Int32 → gS → Prop)  (h : wpX3_hasEntryUpTo K post u p1) : Met l ⟨"WorkHall$Timetable", "hasEntryUpTo", "(D)Z"⟩ (gw ⟨"WorkHall$Timetable", "hasEntryUpTo", "(D)Z"⟩ prog_5_method_4_code 4 (some .boolean)) ({ frames := 2, cells := 0, slots := 0, locals := 80 } : Room) (va_Pc [.ref (ad 7), .double p1] (gB (dC, dI) vwCl (xT ca) xE (wX ad ca K u) sz)) (va_Qi post (gAt (dC, dI) vwCl (xT ca) (wX ad ca K) (va_A (wX ad ca K u) sz)) (va_A (wX ad ca K u) sz)) 0 0 (va_A (wX ad ca K u) sz) := by
  refine Met.ofW (cc := prog_5_method_4_code) (maxL := 4) (ret := (some .boolean)) (by decide) rfl ?_
  intro p e s m args below meth c s₁ B hml hv
  obtain ⟨rfl, hsz, hP, hK, hD0, hE⟩ := hv
  have hx := B.exec
  have hb := B.bytes
  have hr := B.returns
  have hts : ∀ w ∈ gW, w.before _ s = true := fun w h9 => atoms_spec (ws := (gw ⟨"WorkHall$Timetable", "hasEntryUpTo", "(D)Z"⟩ prog_5_method_4_code 4 (some .boolean))) B.pre w (List.mem_cons_of_mem _ h9)
  have hown : s.vm.findClass RX3 = some m.cls := findClass_of_methodNamed B.named
  have hlocks := B.notSynchronized
  subst hsz
  have hD := hD0.self (sz := s.heap.size)
  generalize hAe : va_A (wX ad ca K u) s.heap.size = A at hD hE ⊢
  have hA : ∀ q : Nat, s.heap.size ≤ q → A q := fun q h => by rw [← hAe]; exact Or.inr h
  obtain ⟨H, hHe⟩ : ∃ z : Heap, z = s.heap := ⟨_, rfl⟩
  rw [← hHe]
  have hS : va_S A s.heap H [] := by rw [hHe]; exact va_S.rf
  have hP : va_P (dC, dI) vwCl (wX ad ca K u) H := by rw [hHe]; exact hP
  have hl := lv_entry ([.ref (ad 7), .double p1]) (n := 4) (Nat.le_of_ble_eq_true rfl)
  rw [lg_entry_eq]
  generalize (lg_sl ([.ref (ad 7), .double p1]) ++ List.replicate (4 - (lg_sl ([.ref (ad 7), .double p1])).length) Slot.unset).toArray = ls at hl ⊢
  have hl : lv_has ls 4 [(0, .ref (ad 7)), (1, .double p1)] := hl
  clear hAe
  refine lv_aload_n hx hb dX3_hasEntryUpTo_0 rfl (lv_at hl 0 rfl) ?_
  refine gc_i (w := wX ad ca K) (u := u) (va_runV (As := []) (rest := []) ⟨hx, hb, hml, hown, hts⟩ (cX3_firstPlace l dC dI ad ca K H.size u _ h) (cwV 0 hts (gG_V wd_616 wd_617 wd_618 wd_50 wd_619) rfl rfl rfl (by decide +kernel) ⟨Nat.le_of_ble_eq_true rfl, Nat.le_of_ble_eq_true rfl⟩) ⟨gB_blind xE_ok, va_recv hK hP (ci := 3) (q0 := 7) rfl rfl, gB_pre xE_ok hP hK hD hE hS hA⟩ rfl rfl hl.1 rfl (lv_room (Nat.le_of_ble_eq_true rfl)) dX3_hasEntryUpTo_1 ⟨Nat.le_of_ble_eq_true rfl, Nat.le_of_ble_eq_true rfl⟩) hD hS hA (fun r1 u2 H locs h hP hD hS => ?_)
  refine lv_istore_n (lv' := [(3, .int r1), (0, .ref (ad 7)), (1, .double p1)]) hx hb dX3_hasEntryUpTo_4 rfl hl (by decide) rfl (fun ls hl => ?_)
  refine lv_iload_n hx hb dX3_hasEntryUpTo_5 rfl (lv_at hl 0 rfl) ?_
  refine lv_if_lt (tgt := 24) hx hb dX3_hasEntryUpTo_6 (by decide) (fun c3 => ?_) (fun c3 => ?_)
  · have h := h.1 c3
    refine lv_iconst (v := 0) hx hb dX3_hasEntryUpTo_24 (by decide) ?_
    exact gr_z (w := wX ad ca K) (u := u2) hx hb hr hlocks h.1 h.2 hP hK hD hS dX3_hasEntryUpTo_25
  · have h := h.2 c3
    refine lv_aload_n hx hb dX3_hasEntryUpTo_9 rfl (lv_at hl 1 rfl) ?_
    refine va_get (D := (dC, dI)) (ci := 3) (v := .ref (ad 9)) (C := RX3) (T := TX3) (N := 4) hx hb hts uwX3 hown hK hP 7 rfl rfl 1 (by decide) (hts _ wd_148) (fun _ h9 => h9) rfl dX3_hasEntryUpTo_10 ?_
    refine lv_iload_n hx hb dX3_hasEntryUpTo_13 rfl (lv_at hl 0 rfl) ?_
    refine va_dald hx hb hK hP 9 2 rfl rfl h.1 dX3_hasEntryUpTo_14 ?_
    have h := h.2
    refine lv_dload_n hx hb dX3_hasEntryUpTo_15 rfl (lv_at hl 2 rfl) ?_
    refine lv_dcmp hx hb dX3_hasEntryUpTo_16 ?_
    refine lv_if_gt (tgt := 24) hx hb dX3_hasEntryUpTo_17 (by decide) (fun c4 => ?_) (fun c4 => ?_)
    · have h := h.1 c4
      refine lv_iconst (v := 0) hx hb dX3_hasEntryUpTo_24 (by decide) ?_
      exact gr_z (w := wX ad ca K) (u := u2) hx hb hr hlocks h.1 h.2 hP hK hD hS dX3_hasEntryUpTo_25
    · have h := h.2 c4
      refine lv_iconst (v := 1) hx hb dX3_hasEntryUpTo_20 (by decide) ?_
      refine lv_goto (tgt := 25) hx hb dX3_hasEntryUpTo_21 (by decide) ?_
      exact gr_z (w := wX ad ca K) (u := u2) hx hb hr hlocks h.1 h.2 hP hK hD hS dX3_hasEntryUpTo_25

theorem dX3_removeAt_0 : decode prog_5_method_5_code 0 = .ok (.iload_n 1, 1) := by decide +kernel
theorem dX3_removeAt_1 : decode prog_5_method_5_code 1 = .ok (.ifCond .lt 11, 3) := by decide +kernel
theorem dX3_removeAt_4 : decode prog_5_method_5_code 4 = .ok (.iload_n 1, 1) := by decide +kernel
theorem dX3_removeAt_5 : decode prog_5_method_5_code 5 = .ok (.aload_n 0, 1) := by decide +kernel
theorem dX3_removeAt_6 : decode prog_5_method_5_code 6 = .ok (.getfield 24, 3) := by decide +kernel
theorem dX3_removeAt_9 : decode prog_5_method_5_code 9 = .ok (.if_icmp .lt 4, 3) := by decide +kernel
theorem dX3_removeAt_12 : decode prog_5_method_5_code 12 = .ok (.return_, 1) := by decide +kernel
theorem dX3_removeAt_13 : decode prog_5_method_5_code 13 = .ok (.iload_n 1, 1) := by decide +kernel
theorem dX3_removeAt_14 : decode prog_5_method_5_code 14 = .ok (.istore_n 2, 1) := by decide +kernel
theorem dX3_removeAt_15 : decode prog_5_method_5_code 15 = .ok (.iload_n 2, 1) := by decide +kernel
theorem dX3_removeAt_16 : decode prog_5_method_5_code 16 = .ok (.aload_n 0, 1) := by decide +kernel
theorem dX3_removeAt_17 : decode prog_5_method_5_code 17 = .ok (.getfield 24, 3) := by decide +kernel
theorem dX3_removeAt_20 : decode prog_5_method_5_code 20 = .ok (.iconst 1, 1) := by decide +kernel
theorem dX3_removeAt_21 : decode prog_5_method_5_code 21 = .ok (.isub, 1) := by decide +kernel
theorem dX3_removeAt_22 : decode prog_5_method_5_code 22 = .ok (.if_icmp .ge 51, 3) := by decide +kernel
theorem dX3_removeAt_25 : decode prog_5_method_5_code 25 = .ok (.aload_n 0, 1) := by decide +kernel
theorem dX3_removeAt_26 : decode prog_5_method_5_code 26 = .ok (.getfield 11, 3) := by decide +kernel
theorem dX3_removeAt_29 : decode prog_5_method_5_code 29 = .ok (.iload_n 2, 1) := by decide +kernel
theorem dX3_removeAt_30 : decode prog_5_method_5_code 30 = .ok (.aload_n 0, 1) := by decide +kernel
theorem dX3_removeAt_31 : decode prog_5_method_5_code 31 = .ok (.getfield 11, 3) := by decide +kernel
theorem dX3_removeAt_34 : decode prog_5_method_5_code 34 = .ok (.iload_n 2, 1) := by decide +kernel
theorem dX3_removeAt_35 : decode prog_5_method_5_code 35 = .ok (.iconst 1, 1) := by decide +kernel
theorem dX3_removeAt_36 : decode prog_5_method_5_code 36 = .ok (.iadd, 1) := by decide +kernel
theorem dX3_removeAt_37 : decode prog_5_method_5_code 37 = .ok (.aaload, 1) := by decide +kernel
theorem dX3_removeAt_38 : decode prog_5_method_5_code 38 = .ok (.aastore, 1) := by decide +kernel
theorem dX3_removeAt_39 : decode prog_5_method_5_code 39 = .ok (.aload_n 0, 1) := by decide +kernel
theorem dX3_removeAt_40 : decode prog_5_method_5_code 40 = .ok (.getfield 17, 3) := by decide +kernel
theorem dX3_removeAt_43 : decode prog_5_method_5_code 43 = .ok (.iload_n 2, 1) := by decide +kernel
theorem dX3_removeAt_44 : decode prog_5_method_5_code 44 = .ok (.aload_n 0, 1) := by decide +kernel
theorem dX3_removeAt_45 : decode prog_5_method_5_code 45 = .ok (.getfield 17, 3) := by decide +kernel
theorem dX3_removeAt_48 : decode prog_5_method_5_code 48 = .ok (.iload_n 2, 1) := by decide +kernel
theorem dX3_removeAt_49 : decode prog_5_method_5_code 49 = .ok (.iconst 1, 1) := by decide +kernel
theorem dX3_removeAt_50 : decode prog_5_method_5_code 50 = .ok (.iadd, 1) := by decide +kernel
theorem dX3_removeAt_51 : decode prog_5_method_5_code 51 = .ok (.daload, 1) := by decide +kernel
theorem dX3_removeAt_52 : decode prog_5_method_5_code 52 = .ok (.dastore, 1) := by decide +kernel
theorem dX3_removeAt_53 : decode prog_5_method_5_code 53 = .ok (.aload_n 0, 1) := by decide +kernel
theorem dX3_removeAt_54 : decode prog_5_method_5_code 54 = .ok (.getfield 21, 3) := by decide +kernel
theorem dX3_removeAt_57 : decode prog_5_method_5_code 57 = .ok (.iload_n 2, 1) := by decide +kernel
theorem dX3_removeAt_58 : decode prog_5_method_5_code 58 = .ok (.aload_n 0, 1) := by decide +kernel
theorem dX3_removeAt_59 : decode prog_5_method_5_code 59 = .ok (.getfield 21, 3) := by decide +kernel
theorem dX3_removeAt_62 : decode prog_5_method_5_code 62 = .ok (.iload_n 2, 1) := by decide +kernel
theorem dX3_removeAt_63 : decode prog_5_method_5_code 63 = .ok (.iconst 1, 1) := by decide +kernel
theorem dX3_removeAt_64 : decode prog_5_method_5_code 64 = .ok (.iadd, 1) := by decide +kernel
theorem dX3_removeAt_65 : decode prog_5_method_5_code 65 = .ok (.daload, 1) := by decide +kernel
theorem dX3_removeAt_66 : decode prog_5_method_5_code 66 = .ok (.dastore, 1) := by decide +kernel
theorem dX3_removeAt_67 : decode prog_5_method_5_code 67 = .ok (.iinc 2 1, 3) := by decide +kernel
theorem dX3_removeAt_70 : decode prog_5_method_5_code 70 = .ok (.goto (-55), 3) := by decide +kernel
theorem dX3_removeAt_73 : decode prog_5_method_5_code 73 = .ok (.aload_n 0, 1) := by decide +kernel
theorem dX3_removeAt_74 : decode prog_5_method_5_code 74 = .ok (.dup, 1) := by decide +kernel
theorem dX3_removeAt_75 : decode prog_5_method_5_code 75 = .ok (.getfield 24, 3) := by decide +kernel
theorem dX3_removeAt_78 : decode prog_5_method_5_code 78 = .ok (.iconst 1, 1) := by decide +kernel
theorem dX3_removeAt_79 : decode prog_5_method_5_code 79 = .ok (.isub, 1) := by decide +kernel
theorem dX3_removeAt_80 : decode prog_5_method_5_code 80 = .ok (.putfield 24, 3) := by decide +kernel
theorem dX3_removeAt_83 : decode prog_5_method_5_code 83 = .ok (.return_, 1) := by decide +kernel
def wpX3_removeAt_15 (K : KX) (post : gS → Prop) : Nat → Int32 → Int32 → gS → Prop
  | 0 => fun _ _ _ => False
  | n + 1 => fun l1 l2 u => ((((sI u 6) - 1) ≤ l2 → (∀ u4 : gS, u4 = tI u 6 ((sI u 6) - 1) → (post u4))) ∧ (¬ ((sI u 6) - 1) ≤ l2 → (vp_in (l2 + 1) 10 ∧ (∀ r5 : Option Nat, r5 = sQ u 2 (l2 + 1).toNatClampNeg → ((∀ y9 : Nat, r5 = some y9 → y9 ∈ K.2.2.1) ∧ (vp_in l2 10 ∧ (∀ u7 : gS, u7 = tQ u 2 l2.toNatClampNeg r5 → (vp_in (l2 + 1) 10 ∧ (vp_in l2 10 ∧ (∀ u8 : gS, u8 = tB u7 1 l2.toNatClampNeg (sB u7 1 (l2 + 1).toNatClampNeg) → (vp_in (l2 + 1) 10 ∧ (vp_in l2 10 ∧ (∀ u9 : gS, u9 = tB u8 2 l2.toNatClampNeg (sB u8 2 (l2 + 1).toNatClampNeg) → (∀ x10 : Int32, x10 = l2 + 1 → (wpX3_removeAt_15 K post n l1 x10 u9)))))))))))))))

def wpX3_removeAt (K : KX) (post : gS → Prop) (u : gS) (p1 : Int32) : Prop :=
  ((p1 < 0 → (post u)) ∧ (¬ p1 < 0 → (((p1 < (sI u 6) → (∃ n15 : Nat, wpX3_removeAt_15 K post n15 p1 p1 u)) ∧ (¬ p1 < (sI u 6) → (post u))))))

set_option maxHeartbeats 8000000 in
set_option maxRecDepth 100000 in
theorem wpX3_removeAt_15_ok {p : Program} {l : Launch} {e : Env} {s : State} {m : MethodId} {args : Array Value} {below : List Frame} {meth : Method} {c : Code} {dC : Nat → ClassId} {dI : Nat → Nat → Nat} {ad : Nat → Nat} {ca : Nat → ClassId} {K : KX} {A : Nat → Prop} {post : gS → Prop}   (hx : p.tables.exec = Jvm.exec) (hb : c.code = prog_5_method_5_code) (hr : meth.sig.returnType = none) (hml : c.maxLocals = 3) (hown : s.vm.findClass RX3 = some m.cls) (hts : ∀ w ∈ gW, w.before args s = true) (hlocks : meth.locks = false) (hK : va_K (dC, dI) vwCl (xT ca) s) (hA : ∀ q, s.heap.size ≤ q → A q) (hE : xE A s s.heap) :
    ∀ (n : Nat) (l1 : Int32) (l2 : Int32) (u : gS) (H : Heap) (locs : List Loc) (ls : Array Slot), wpX3_removeAt_15 K post n l1 l2 u → va_P (dC, dI) vwCl (wX ad ca K u) H → va_D A (wX ad ca K u) → va_S A s.heap H locs → lv_has ls 3 [(0, .ref (ad 7)), (1, .int l1), (2, .int l2)] → W p l e (headSpec (gw ⟨"WorkHall$Timetable", "removeAt", "(I)V"⟩ prog_5_method_5_code 3 none) ({ frames := 1, cells := 0, slots := 0, locals := 40 } : Room)).room s m args below meth c H locs 0 0 (MQ below (va_Qv post (gAt (dC, dI) vwCl (xT ca) (wX ad ca K) (A)) (A)) args s 0 0 A) (F0 m 15 ls []) := by
  intro n
  induction n with
  | zero => exact fun _ _ _ _ _ _ h => h.elim
  | succ n ih =>
    intro l1 l2 u H locs ls h hP hD hS hl
    refine lv_iload_n hx hb dX3_removeAt_15 rfl (lv_at hl 2 rfl) ?_
    refine lv_aload_n hx hb dX3_removeAt_16 rfl (lv_at hl 0 rfl) ?_
    refine va_get (D := (dC, dI)) (ci := 3) (v := .int (sI u 6)) (C := RX3) (T := TX3) (N := 4) hx hb hts uwX3 hown hK hP 7 rfl rfl 3 (by decide) (hts _ wd_152) (fun _ h9 => h9) rfl dX3_removeAt_17 ?_
    refine lv_iconst (v := 1) hx hb dX3_removeAt_20 (by decide) ?_
    refine lv_isub hx hb dX3_removeAt_21 ?_
    refine lv_icmp_ge (tgt := 73) hx hb dX3_removeAt_22 (by decide) (fun c3 => ?_) (fun c3 => ?_)
    · have h := h.1 c3
      refine lv_aload_n hx hb dX3_removeAt_73 rfl (lv_at hl 0 rfl) ?_
      refine lv_dup hx hb dX3_removeAt_74 rfl ?_
      refine va_get (D := (dC, dI)) (ci := 3) (v := .int (sI u 6)) (C := RX3) (T := TX3) (N := 4) hx hb hts uwX3 hown hK hP 7 rfl rfl 3 (by decide) (hts _ wd_152) (fun _ h9 => h9) rfl dX3_removeAt_75 ?_
      refine lv_iconst (v := 1) hx hb dX3_removeAt_78 (by decide) ?_
      refine lv_isub hx hb dX3_removeAt_79 ?_
      refine va_put (D := (dC, dI)) (ci := 3) (v := .int ((sI u 6) - 1)) (ty := tyX3 3) (C := RX3) (T := TX3) (N := 4) hx hb hts uwX3 tyX3 tyX3_ok nmX3 hown hK hP hD hS 7 rfl rfl 3 (by decide) (hts _ wd_152) (fun _ h9 => h9) rfl (tyX3_ok 3 (by decide)) rfl rfl (Nat.le_of_ble_eq_true rfl) dX3_removeAt_80 (fun H locs hP hD hS => ?_)
      obtain ⟨u4, eu4⟩ : ∃ z : gS, z = tI u 6 ((sI u 6) - 1) := ⟨_, rfl⟩
      have hP : va_P (dC, dI) vwCl (wX ad ca K u4) H := by rw [eu4, wX_f7_size]; exact hP
      have hD : va_D A (wX ad ca K u4) := by rw [eu4, wX_f7_size]; exact hD
      have h := h u4 eu4
      exact gr_v (w := wX ad ca K) (u := u4) hx hb hr hlocks h hP hK hD hS dX3_removeAt_83
    · have h := h.2 c3
      refine lv_aload_n hx hb dX3_removeAt_25 rfl (lv_at hl 0 rfl) ?_
      refine va_get (D := (dC, dI)) (ci := 3) (v := .ref (ad 8)) (C := RX3) (T := TX3) (N := 4) hx hb hts uwX3 hown hK hP 7 rfl rfl 0 (by decide) (hts _ wd_146) (fun _ h9 => h9) rfl dX3_removeAt_26 ?_
      refine lv_iload_n hx hb dX3_removeAt_29 rfl (lv_at hl 2 rfl) ?_
      refine lv_aload_n hx hb dX3_removeAt_30 rfl (lv_at hl 0 rfl) ?_
      refine va_get (D := (dC, dI)) (ci := 3) (v := .ref (ad 8)) (C := RX3) (T := TX3) (N := 4) hx hb hts uwX3 hown hK hP 7 rfl rfl 0 (by decide) (hts _ wd_146) (fun _ h9 => h9) rfl dX3_removeAt_31 ?_
      refine lv_iload_n hx hb dX3_removeAt_34 rfl (lv_at hl 2 rfl) ?_
      refine lv_iconst (v := 1) hx hb dX3_removeAt_35 (by decide) ?_
      refine lv_iadd hx hb dX3_removeAt_36 ?_
      refine va_aldq (C := RX5) hx hb hK hP 8 0 rfl rfl h.1 dX3_removeAt_37 ?_
      have h := h.2
      refine gq_top (fun r5 er5 => ?_)
      have h := h r5 er5
      obtain ⟨hy6, h⟩ := h
      refine gq_aast (v := r5) (r := (RX5, TX5, 9)) hx hb hK hP hD hS 8 0 5 rfl rfl (fun y9 e9 => by obtain ⟨k9, hk9⟩ := xJ_get (hy6 y9 e9); exact ⟨k9, _, hk9⟩) rfl h.1 dX3_removeAt_38 (fun H locs hP hD hS => ?_)
      have h := h.2
      obtain ⟨u7, eu7⟩ : ∃ z : gS, z = tQ u 2 l2.toNatClampNeg r5 := ⟨_, rfl⟩
      have hP : va_P (dC, dI) vwCl (wX ad ca K u7) H := by rw [eu7, wX_a8]; exact hP
      have hD : va_D A (wX ad ca K u7) := by rw [eu7, wX_a8]; exact hD
      have h := h u7 eu7
      refine lv_aload_n hx hb dX3_removeAt_39 rfl (lv_at hl 0 rfl) ?_
      refine va_get (D := (dC, dI)) (ci := 3) (v := .ref (ad 9)) (C := RX3) (T := TX3) (N := 4) hx hb hts uwX3 hown hK hP 7 rfl rfl 1 (by decide) (hts _ wd_148) (fun _ h9 => h9) rfl dX3_removeAt_40 ?_
      refine lv_iload_n hx hb dX3_removeAt_43 rfl (lv_at hl 2 rfl) ?_
      refine lv_aload_n hx hb dX3_removeAt_44 rfl (lv_at hl 0 rfl) ?_
      refine va_get (D := (dC, dI)) (ci := 3) (v := .ref (ad 9)) (C := RX3) (T := TX3) (N := 4) hx hb hts uwX3 hown hK hP 7 rfl rfl 1 (by decide) (hts _ wd_148) (fun _ h9 => h9) rfl dX3_removeAt_45 ?_
      refine lv_iload_n hx hb dX3_removeAt_48 rfl (lv_at hl 2 rfl) ?_
      refine lv_iconst (v := 1) hx hb dX3_removeAt_49 (by decide) ?_
      refine lv_iadd hx hb dX3_removeAt_50 ?_
      refine va_dald hx hb hK hP 9 2 rfl rfl h.1 dX3_removeAt_51 ?_
      have h := h.2
      refine va_dast hx hb hK hP hD hS 9 2 rfl rfl h.1 dX3_removeAt_52 (fun H locs hP hD hS => ?_)
      have h := h.2
      obtain ⟨u8, eu8⟩ : ∃ z : gS, z = tB u7 1 l2.toNatClampNeg (sB u7 1 (l2 + 1).toNatClampNeg) := ⟨_, rfl⟩
      have hP : va_P (dC, dI) vwCl (wX ad ca K u8) H := by rw [eu8, wX_a9]; exact hP
      have hD : va_D A (wX ad ca K u8) := by rw [eu8, wX_a9]; exact hD
      have h := h u8 eu8
      refine lv_aload_n hx hb dX3_removeAt_53 rfl (lv_at hl 0 rfl) ?_
      refine va_get (D := (dC, dI)) (ci := 3) (v := .ref (ad 10)) (C := RX3) (T := TX3) (N := 4) hx hb hts uwX3 hown hK hP 7 rfl rfl 2 (by decide) (hts _ wd_150) (fun _ h9 => h9) rfl dX3_removeAt_54 ?_
      refine lv_iload_n hx hb dX3_removeAt_57 rfl (lv_at hl 2 rfl) ?_
      refine lv_aload_n hx hb dX3_removeAt_58 rfl (lv_at hl 0 rfl) ?_
      refine va_get (D := (dC, dI)) (ci := 3) (v := .ref (ad 10)) (C := RX3) (T := TX3) (N := 4) hx hb hts uwX3 hown hK hP 7 rfl rfl 2 (by decide) (hts _ wd_150) (fun _ h9 => h9) rfl dX3_removeAt_59 ?_
      refine lv_iload_n hx hb dX3_removeAt_62 rfl (lv_at hl 2 rfl) ?_
      refine lv_iconst (v := 1) hx hb dX3_removeAt_63 (by decide) ?_
      refine lv_iadd hx hb dX3_removeAt_64 ?_
      refine va_dald hx hb hK hP 10 2 rfl rfl h.1 dX3_removeAt_65 ?_
      have h := h.2
      refine va_dast hx hb hK hP hD hS 10 2 rfl rfl h.1 dX3_removeAt_66 (fun H locs hP hD hS => ?_)
      have h := h.2
      obtain ⟨u9, eu9⟩ : ∃ z : gS, z = tB u8 2 l2.toNatClampNeg (sB u8 2 (l2 + 1).toNatClampNeg) := ⟨_, rfl⟩
      have hP : va_P (dC, dI) vwCl (wX ad ca K u9) H := by rw [eu9, wX_a10]; exact hP
      have hD : va_D A (wX ad ca K u9) := by rw [eu9, wX_a10]; exact hD
      have h := h u9 eu9
      obtain ⟨x10, ex10⟩ : ∃ y : Int32, y = l2 + 1 := ⟨_, rfl⟩
      have h := h x10 ex10
      refine lv_iinc (v := x10) (lv' := [(2, .int x10), (0, .ref (ad 7)), (1, .int l1)]) hx hb dX3_removeAt_67 hl (k := 2) rfl (by rw [ex10]; rfl) (by decide) rfl (fun ls hl => ?_)
      refine lv_goto (tgt := 15) hx hb dX3_removeAt_70 (by decide) ?_
      exact ih l1 x10 u9 _ _ _ h hP hD hS (lv_sub hl [1, 2, 0] rfl)

set_option maxHeartbeats 8000000 in
set_option maxRecDepth 100000 in
theorem cX3_removeAt (l : Launch) (dC : Nat → ClassId) (dI : Nat → Nat → Nat) (ad : Nat → Nat) (ca : Nat → ClassId) (K : KX) (sz : Nat) (u : gS) (p1 : Int32) (post : gS → Prop)  (h : wpX3_removeAt K post u p1) : Met l ⟨"WorkHall$Timetable", "removeAt", "(I)V"⟩ (gw ⟨"WorkHall$Timetable", "removeAt", "(I)V"⟩ prog_5_method_5_code 3 none) ({ frames := 1, cells := 0, slots := 0, locals := 40 } : Room) (va_Pc [.ref (ad 7), .int p1] (gB (dC, dI) vwCl (xT ca) xE (wX ad ca K u) sz)) (va_Qv post (gAt (dC, dI) vwCl (xT ca) (wX ad ca K) (va_A (wX ad ca K u) sz)) (va_A (wX ad ca K u) sz)) 0 0 (va_A (wX ad ca K u) sz) := by
  refine Met.ofW (cc := prog_5_method_5_code) (maxL := 3) (ret := none) (by decide) rfl ?_
  intro p e s m args below meth c s₁ B hml hv
  obtain ⟨rfl, hsz, hP, hK, hD0, hE⟩ := hv
  have hx := B.exec
  have hb := B.bytes
  have hr := B.returns
  have hts : ∀ w ∈ gW, w.before _ s = true := fun w h9 => atoms_spec (ws := (gw ⟨"WorkHall$Timetable", "removeAt", "(I)V"⟩ prog_5_method_5_code 3 none)) B.pre w (List.mem_cons_of_mem _ h9)
  have hown : s.vm.findClass RX3 = some m.cls := findClass_of_methodNamed B.named
  have hlocks := B.notSynchronized
  subst hsz
  have hD := hD0.self (sz := s.heap.size)
  generalize hAe : va_A (wX ad ca K u) s.heap.size = A at hD hE ⊢
  have hA : ∀ q : Nat, s.heap.size ≤ q → A q := fun q h => by rw [← hAe]; exact Or.inr h
  obtain ⟨H, hHe⟩ : ∃ z : Heap, z = s.heap := ⟨_, rfl⟩
  rw [← hHe]
  have hS : va_S A s.heap H [] := by rw [hHe]; exact va_S.rf
  have hP : va_P (dC, dI) vwCl (wX ad ca K u) H := by rw [hHe]; exact hP
  have hl := lv_entry ([.ref (ad 7), .int p1]) (n := 3) (Nat.le_of_ble_eq_true rfl)
  rw [lg_entry_eq]
  generalize (lg_sl ([.ref (ad 7), .int p1]) ++ List.replicate (3 - (lg_sl ([.ref (ad 7), .int p1])).length) Slot.unset).toArray = ls at hl ⊢
  have hl : lv_has ls 3 [(0, .ref (ad 7)), (1, .int p1)] := hl
  clear hAe
  refine lv_iload_n hx hb dX3_removeAt_0 rfl (lv_at hl 1 rfl) ?_
  refine lv_if_lt (tgt := 12) hx hb dX3_removeAt_1 (by decide) (fun c1 => ?_) (fun c1 => ?_)
  · have h := h.1 c1
    exact gr_v (w := wX ad ca K) (u := u) hx hb hr hlocks h hP hK hD hS dX3_removeAt_12
  · have h := h.2 c1
    refine lv_iload_n hx hb dX3_removeAt_4 rfl (lv_at hl 1 rfl) ?_
    refine lv_aload_n hx hb dX3_removeAt_5 rfl (lv_at hl 0 rfl) ?_
    refine va_get (D := (dC, dI)) (ci := 3) (v := .int (sI u 6)) (C := RX3) (T := TX3) (N := 4) hx hb hts uwX3 hown hK hP 7 rfl rfl 3 (by decide) (hts _ wd_152) (fun _ h9 => h9) rfl dX3_removeAt_6 ?_
    refine lv_icmp_lt (tgt := 13) hx hb dX3_removeAt_9 (by decide) (fun c2 => ?_) (fun c2 => ?_)
    · have h := h.1 c2
      refine lv_iload_n hx hb dX3_removeAt_13 rfl (lv_at hl 1 rfl) ?_
      refine lv_istore_n (lv' := [(2, .int p1), (0, .ref (ad 7)), (1, .int p1)]) hx hb dX3_removeAt_14 rfl hl (by decide) rfl (fun ls hl => ?_)
      obtain ⟨n15, h⟩ := h
      exact wpX3_removeAt_15_ok hx hb hr hml hown hts hlocks hK hA hE n15 p1 p1 u _ _ _ h hP hD hS (lv_sub hl [1, 2, 0] rfl)
    · have h := h.2 c2
      exact gr_v (w := wX ad ca K) (u := u) hx hb hr hlocks h hP hK hD hS dX3_removeAt_12

theorem dX0_clamp_0 : decode prog_1_method_16_code 0 = .ok (.iload_n 0, 1) := by decide +kernel
theorem dX0_clamp_1 : decode prog_1_method_16_code 1 = .ok (.iload_n 1, 1) := by decide +kernel
theorem dX0_clamp_2 : decode prog_1_method_16_code 2 = .ok (.invokestatic 57, 3) := by decide +kernel
theorem dX0_clamp_5 : decode prog_1_method_16_code 5 = .ok (.iload_n 2, 1) := by decide +kernel
theorem dX0_clamp_6 : decode prog_1_method_16_code 6 = .ok (.invokestatic 236, 3) := by decide +kernel
theorem dX0_clamp_9 : decode prog_1_method_16_code 9 = .ok (.ireturn, 1) := by decide +kernel
def wpX0_clamp (K : KX) (post : Int32 → gS → Prop) (u : gS) (p1 : Int32) (p2 : Int32) (p3 : Int32) : Prop :=
  post (if p3 < (if p1 < p2 then p2 else p1) then p3 else (if p1 < p2 then p2 else p1)) u

set_option maxHeartbeats 8000000 in
set_option maxRecDepth 100000 in
theorem cX0_clamp (l : Launch) (dC : Nat → ClassId) (dI : Nat → Nat → Nat) (ad : Nat → Nat) (ca : Nat → ClassId) (K : KX) (sz : Nat) (u : gS) (p1 : Int32) (p2 : Int32) (p3 : Int32) (post : Int32 → gS → Prop)  (h : wpX0_clamp K post u p1 p2 p3) : Met l ⟨"WorkHall", "clamp", "(III)I"⟩ (gw ⟨"WorkHall", "clamp", "(III)I"⟩ prog_1_method_16_code 3 (some .int)) ({ frames := 2, cells := 0, slots := 0, locals := 80 } : Room) (va_Pc [.int p1, .int p2, .int p3] (gB (dC, dI) vwCl (xT ca) xE (wX ad ca K u) sz)) (va_Qi post (gAt (dC, dI) vwCl (xT ca) (wX ad ca K) (va_A (wX ad ca K u) sz)) (va_A (wX ad ca K u) sz)) 0 0 (va_A (wX ad ca K u) sz) := by
  refine Met.ofW (cc := prog_1_method_16_code) (maxL := 3) (ret := (some .int)) (by decide) rfl ?_
  intro p e s m args below meth c s₁ B hml hv
  obtain ⟨rfl, hsz, hP, hK, hD0, hE⟩ := hv
  have hx := B.exec
  have hb := B.bytes
  have hr := B.returns
  have hts : ∀ w ∈ gW, w.before _ s = true := fun w h9 => atoms_spec (ws := (gw ⟨"WorkHall", "clamp", "(III)I"⟩ prog_1_method_16_code 3 (some .int))) B.pre w (List.mem_cons_of_mem _ h9)
  have hown : s.vm.findClass RX0 = some m.cls := findClass_of_methodNamed B.named
  have hlocks := B.notSynchronized
  subst hsz
  have hD := hD0.self (sz := s.heap.size)
  generalize hAe : va_A (wX ad ca K u) s.heap.size = A at hD hE ⊢
  have hA : ∀ q : Nat, s.heap.size ≤ q → A q := fun q h => by rw [← hAe]; exact Or.inr h
  obtain ⟨H, hHe⟩ : ∃ z : Heap, z = s.heap := ⟨_, rfl⟩
  rw [← hHe]
  have hS : va_S A s.heap H [] := by rw [hHe]; exact va_S.rf
  have hP : va_P (dC, dI) vwCl (wX ad ca K u) H := by rw [hHe]; exact hP
  have hl := lv_entry ([.int p1, .int p2, .int p3]) (n := 3) (Nat.le_of_ble_eq_true rfl)
  rw [lg_entry_eq]
  generalize (lg_sl ([.int p1, .int p2, .int p3]) ++ List.replicate (3 - (lg_sl ([.int p1, .int p2, .int p3])).length) Slot.unset).toArray = ls at hl ⊢
  have hl : lv_has ls 3 [(0, .int p1), (1, .int p2), (2, .int p3)] := hl
  clear hAe
  refine lv_iload_n hx hb dX0_clamp_0 rfl (lv_at hl 0 rfl) ?_
  refine lv_iload_n hx hb dX0_clamp_1 rfl (lv_at hl 1 rfl) ?_
  refine va_mmax hx hb (hml.trans hl.1.symm) hown (hts _ wd_166) (hts _ wd_167) (hts _ wd_51) (hts _ wm_max) (Nat.le_of_ble_eq_true rfl) (Nat.le_of_ble_eq_true rfl) (Nat.zero_le _) (Nat.zero_le _) dX0_clamp_2 ?_
  refine lv_iload_n hx hb dX0_clamp_5 rfl (lv_at hl 2 rfl) ?_
  refine va_mmin hx hb (hml.trans hl.1.symm) hown (hts _ wd_169) (hts _ wd_170) (hts _ wd_51) (hts _ wm_min) (Nat.le_of_ble_eq_true rfl) (Nat.le_of_ble_eq_true rfl) (Nat.zero_le _) (Nat.zero_le _) dX0_clamp_6 ?_
  exact gr_i (w := wX ad ca K) (u := u) hx hb hr hlocks h hP hK hD hS dX0_clamp_9

theorem dX0_find_0 : decode prog_1_method_20_code 0 = .ok (.iload_n 1, 1) := by decide +kernel
theorem dX0_find_1 : decode prog_1_method_20_code 1 = .ok (.ifCond .lt 20, 3) := by decide +kernel
theorem dX0_find_4 : decode prog_1_method_20_code 4 = .ok (.iload_n 1, 1) := by decide +kernel
theorem dX0_find_5 : decode prog_1_method_20_code 5 = .ok (.aload_n 0, 1) := by decide +kernel
theorem dX0_find_6 : decode prog_1_method_20_code 6 = .ok (.getfield 36, 3) := by decide +kernel
theorem dX0_find_9 : decode prog_1_method_20_code 9 = .ok (.if_icmp .ge 12, 3) := by decide +kernel
theorem dX0_find_12 : decode prog_1_method_20_code 12 = .ok (.aload_n 0, 1) := by decide +kernel
theorem dX0_find_13 : decode prog_1_method_20_code 13 = .ok (.getfield 11, 3) := by decide +kernel
theorem dX0_find_16 : decode prog_1_method_20_code 16 = .ok (.iload_n 1, 1) := by decide +kernel
theorem dX0_find_17 : decode prog_1_method_20_code 17 = .ok (.aaload, 1) := by decide +kernel
theorem dX0_find_18 : decode prog_1_method_20_code 18 = .ok (.goto 4, 3) := by decide +kernel
theorem dX0_find_21 : decode prog_1_method_20_code 21 = .ok (.aconst_null, 1) := by decide +kernel
theorem dX0_find_22 : decode prog_1_method_20_code 22 = .ok (.areturn, 1) := by decide +kernel
def wpX0_find (K : KX) (post : Option Nat → gS → Prop) (u : gS) (p1 : Int32) : Prop :=
  ((p1 < 0 → (post none u)) ∧ (¬ p1 < 0 → ((((K.1 4) ≤ p1 → (post none u)) ∧ (¬ (K.1 4) ≤ p1 → (vp_in p1 24 ∧ (∀ r3 : Option Nat, r3 = K.2.2.2.2 p1.toNatClampNeg → (post r3 u))))))))

set_option maxHeartbeats 8000000 in
set_option maxRecDepth 100000 in
theorem cX0_find (l : Launch) (dC : Nat → ClassId) (dI : Nat → Nat → Nat) (ad : Nat → Nat) (ca : Nat → ClassId) (K : KX) (sz : Nat) (u : gS) (p1 : Int32) (post : Option Nat → gS → Prop)  (h : wpX0_find K post u p1) : Met l ⟨"WorkHall", "find", "(I)LWorkHall$Job;"⟩ (gw ⟨"WorkHall", "find", "(I)LWorkHall$Job;"⟩ prog_1_method_20_code 2 (some (.object "WorkHall$Job"))) ({ frames := 1, cells := 0, slots := 0, locals := 40 } : Room) (va_Pc [.ref (ad 0), .int p1] (gB (dC, dI) vwCl (xT ca) xE (wX ad ca K u) sz)) (va_Qq post (gAt (dC, dI) vwCl (xT ca) (wX ad ca K) (va_A (wX ad ca K u) sz)) (va_A (wX ad ca K u) sz)) 0 0 (va_A (wX ad ca K u) sz) := by
  refine Met.ofW (cc := prog_1_method_20_code) (maxL := 2) (ret := (some (.object "WorkHall$Job"))) (by decide) rfl ?_
  intro p e s m args below meth c s₁ B hml hv
  obtain ⟨rfl, hsz, hP, hK, hD0, hE⟩ := hv
  have hx := B.exec
  have hb := B.bytes
  have hr := B.returns
  have hts : ∀ w ∈ gW, w.before _ s = true := fun w h9 => atoms_spec (ws := (gw ⟨"WorkHall", "find", "(I)LWorkHall$Job;"⟩ prog_1_method_20_code 2 (some (.object "WorkHall$Job")))) B.pre w (List.mem_cons_of_mem _ h9)
  have hown : s.vm.findClass RX0 = some m.cls := findClass_of_methodNamed B.named
  have hlocks := B.notSynchronized
  subst hsz
  have hD := hD0.self (sz := s.heap.size)
  generalize hAe : va_A (wX ad ca K u) s.heap.size = A at hD hE ⊢
  have hA : ∀ q : Nat, s.heap.size ≤ q → A q := fun q h => by rw [← hAe]; exact Or.inr h
  obtain ⟨H, hHe⟩ : ∃ z : Heap, z = s.heap := ⟨_, rfl⟩
  rw [← hHe]
  have hS : va_S A s.heap H [] := by rw [hHe]; exact va_S.rf
  have hP : va_P (dC, dI) vwCl (wX ad ca K u) H := by rw [hHe]; exact hP
  have hl := lv_entry ([.ref (ad 0), .int p1]) (n := 2) (Nat.le_of_ble_eq_true rfl)
  rw [lg_entry_eq]
  generalize (lg_sl ([.ref (ad 0), .int p1]) ++ List.replicate (2 - (lg_sl ([.ref (ad 0), .int p1])).length) Slot.unset).toArray = ls at hl ⊢
  have hl : lv_has ls 2 [(0, .ref (ad 0)), (1, .int p1)] := hl
  clear hAe
  refine lv_iload_n hx hb dX0_find_0 rfl (lv_at hl 1 rfl) ?_
  refine lv_if_lt (tgt := 21) hx hb dX0_find_1 (by decide) (fun c1 => ?_) (fun c1 => ?_)
  · have h := h.1 c1
    refine lv_null hx hb dX0_find_21 ?_
    exact gr_q (w := wX ad ca K) (u := u) (v := none) hx hb hr hlocks h hP hK hD hS dX0_find_22
  · have h := h.2 c1
    refine lv_iload_n hx hb dX0_find_4 rfl (lv_at hl 1 rfl) ?_
    refine lv_aload_n hx hb dX0_find_5 rfl (lv_at hl 0 rfl) ?_
    refine va_get (D := (dC, dI)) (ci := 0) (v := .int (K.1 4)) (C := RX0) (T := TX0) (N := 12) hx hb hts uwX0 hown hK hP 0 rfl rfl 8 (by decide) (hts _ wd_180) (fun _ h9 => h9) rfl dX0_find_6 ?_
    refine lv_icmp_ge (tgt := 21) hx hb dX0_find_9 (by decide) (fun c2 => ?_) (fun c2 => ?_)
    · have h := h.1 c2
      refine lv_null hx hb dX0_find_21 ?_
      exact gr_q (w := wX ad ca K) (u := u) (v := none) hx hb hr hlocks h hP hK hD hS dX0_find_22
    · have h := h.2 c2
      refine lv_aload_n hx hb dX0_find_12 rfl (lv_at hl 0 rfl) ?_
      refine va_get (D := (dC, dI)) (ci := 0) (v := .ref (ad 1)) (C := RX0) (T := TX0) (N := 12) hx hb hts uwX0 hown hK hP 0 rfl rfl 4 (by decide) (hts _ wd_176) (fun _ h9 => h9) rfl dX0_find_13 ?_
      refine lv_iload_n hx hb dX0_find_16 rfl (lv_at hl 1 rfl) ?_
      refine va_aldq (C := RX5) hx hb hK hP 1 0 rfl rfl h.1 dX0_find_17 ?_
      have h := h.2
      refine gq_top (fun r3 er3 => ?_)
      have h := h r3 er3
      refine lv_goto (tgt := 22) hx hb dX0_find_18 (by decide) ?_
      exact gr_q (w := wX ad ca K) (u := u) (v := r3) hx hb hr hlocks h hP hK hD hS dX0_find_22

theorem dX0_placeOf_0 : decode prog_1_method_21_code 0 = .ok (.aload_n 1, 1) := by decide +kernel
theorem dX0_placeOf_1 : decode prog_1_method_21_code 1 = .ok (.getfield 90, 3) := by decide +kernel
theorem dX0_placeOf_4 : decode prog_1_method_21_code 4 = .ok (.iconst 1, 1) := by decide +kernel
theorem dX0_placeOf_5 : decode prog_1_method_21_code 5 = .ok (.if_icmp .ne 12, 3) := by decide +kernel
theorem dX0_placeOf_8 : decode prog_1_method_21_code 8 = .ok (.aload_n 0, 1) := by decide +kernel
theorem dX0_placeOf_9 : decode prog_1_method_21_code 9 = .ok (.getfield 25, 3) := by decide +kernel
theorem dX0_placeOf_12 : decode prog_1_method_21_code 12 = .ok (.aload_n 1, 1) := by decide +kernel
theorem dX0_placeOf_13 : decode prog_1_method_21_code 13 = .ok (.invokevirtual 127, 3) := by decide +kernel
theorem dX0_placeOf_16 : decode prog_1_method_21_code 16 = .ok (.ireturn, 1) := by decide +kernel
theorem dX0_placeOf_17 : decode prog_1_method_21_code 17 = .ok (.aload_n 1, 1) := by decide +kernel
theorem dX0_placeOf_18 : decode prog_1_method_21_code 18 = .ok (.getfield 90, 3) := by decide +kernel
theorem dX0_placeOf_21 : decode prog_1_method_21_code 21 = .ok (.iconst 2, 1) := by decide +kernel
theorem dX0_placeOf_22 : decode prog_1_method_21_code 22 = .ok (.if_icmp .ne 14, 3) := by decide +kernel
theorem dX0_placeOf_25 : decode prog_1_method_21_code 25 = .ok (.aload_n 0, 1) := by decide +kernel
theorem dX0_placeOf_26 : decode prog_1_method_21_code 26 = .ok (.getfield 18, 3) := by decide +kernel
theorem dX0_placeOf_29 : decode prog_1_method_21_code 29 = .ok (.aload_n 1, 1) := by decide +kernel
theorem dX0_placeOf_30 : decode prog_1_method_21_code 30 = .ok (.invokevirtual 134, 3) := by decide +kernel
theorem dX0_placeOf_33 : decode prog_1_method_21_code 33 = .ok (.goto 4, 3) := by decide +kernel
theorem dX0_placeOf_36 : decode prog_1_method_21_code 36 = .ok (.iconst (-1), 1) := by decide +kernel
theorem dX0_placeOf_37 : decode prog_1_method_21_code 37 = .ok (.ireturn, 1) := by decide +kernel
def wpX0_placeOf (K : KX) (post : Int32 → gS → Prop) (u : gS) (p1 : Nat) : Prop :=
  ((¬ (sA u 0 p1) = 1 → (((¬ (sA u 0 p1) = 2 → (post (-1) u)) ∧ ((sA u 0 p1) = 2 → (wpX1_placeOf K (fun (r3 : Int32) (u4 : gS) => post r3 u4) u (some p1)))))) ∧ ((sA u 0 p1) = 1 → (wpX2_placeOf K (fun (r5 : Int32) (u6 : gS) => post r5 u6) u (some p1))))

set_option maxHeartbeats 8000000 in
set_option maxRecDepth 100000 in
theorem cX0_placeOf (l : Launch) (dC : Nat → ClassId) (dI : Nat → Nat → Nat) (ad : Nat → Nat) (ca : Nat → ClassId) (K : KX) (sz : Nat) (u : gS) (p1 : Nat) (post : Int32 → gS → Prop) (hp1 : p1 ∈ K.2.2.1) (h : wpX0_placeOf K post u p1) : Met l ⟨"WorkHall", "placeOf", "(LWorkHall$Job;)I"⟩ (gw ⟨"WorkHall", "placeOf", "(LWorkHall$Job;)I"⟩ prog_1_method_21_code 2 (some .int)) ({ frames := 2, cells := 0, slots := 0, locals := 80 } : Room) (va_Pc [.ref (ad 0), .ref p1] (gB (dC, dI) vwCl (xT ca) xE (wX ad ca K u) sz)) (va_Qi post (gAt (dC, dI) vwCl (xT ca) (wX ad ca K) (va_A (wX ad ca K u) sz)) (va_A (wX ad ca K u) sz)) 0 0 (va_A (wX ad ca K u) sz) := by
  refine Met.ofW (cc := prog_1_method_21_code) (maxL := 2) (ret := (some .int)) (by decide) rfl ?_
  intro p e s m args below meth c s₁ B hml hv
  obtain ⟨rfl, hsz, hP, hK, hD0, hE⟩ := hv
  have hx := B.exec
  have hb := B.bytes
  have hr := B.returns
  have hts : ∀ w ∈ gW, w.before _ s = true := fun w h9 => atoms_spec (ws := (gw ⟨"WorkHall", "placeOf", "(LWorkHall$Job;)I"⟩ prog_1_method_21_code 2 (some .int))) B.pre w (List.mem_cons_of_mem _ h9)
  have hown : s.vm.findClass RX0 = some m.cls := findClass_of_methodNamed B.named
  have hlocks := B.notSynchronized
  subst hsz
  have hD := hD0.self (sz := s.heap.size)
  generalize hAe : va_A (wX ad ca K u) s.heap.size = A at hD hE ⊢
  have hA : ∀ q : Nat, s.heap.size ≤ q → A q := fun q h => by rw [← hAe]; exact Or.inr h
  obtain ⟨H, hHe⟩ : ∃ z : Heap, z = s.heap := ⟨_, rfl⟩
  rw [← hHe]
  have hS : va_S A s.heap H [] := by rw [hHe]; exact va_S.rf
  have hP : va_P (dC, dI) vwCl (wX ad ca K u) H := by rw [hHe]; exact hP
  have hl := lv_entry ([.ref (ad 0), .ref p1]) (n := 2) (Nat.le_of_ble_eq_true rfl)
  rw [lg_entry_eq]
  generalize (lg_sl ([.ref (ad 0), .ref p1]) ++ List.replicate (2 - (lg_sl ([.ref (ad 0), .ref p1])).length) Slot.unset).toArray = ls at hl ⊢
  have hl : lv_has ls 2 [(0, .ref (ad 0)), (1, .ref p1)] := hl
  clear hAe
  refine lv_aload_n hx hb dX0_placeOf_0 rfl (lv_at hl 1 rfl) ?_
  obtain ⟨k9, hk9⟩ := xJ_get hp1
  refine va_get (D := (dC, dI)) (ci := 5) (v := .int (sA u 0 p1)) (C := RX5) (T := TX5) (N := 9) hx hb hts uwX5 hown hK hP k9 hk9 rfl 5 (by decide) (hts _ wd_327) (fun _ h9 => h9) rfl dX0_placeOf_1 ?_
  refine lv_iconst (v := 1) hx hb dX0_placeOf_4 (by decide) ?_
  refine lv_icmp_ne (tgt := 17) hx hb dX0_placeOf_5 (by decide) (fun c1 => ?_) (fun c1 => ?_)
  · have h := h.1 c1
    refine lv_aload_n hx hb dX0_placeOf_17 rfl (lv_at hl 1 rfl) ?_
    obtain ⟨k9, hk9⟩ := xJ_get hp1
    refine va_get (D := (dC, dI)) (ci := 5) (v := .int (sA u 0 p1)) (C := RX5) (T := TX5) (N := 9) hx hb hts uwX5 hown hK hP k9 hk9 rfl 5 (by decide) (hts _ wd_327) (fun _ h9 => h9) rfl dX0_placeOf_18 ?_
    refine lv_iconst (v := 2) hx hb dX0_placeOf_21 (by decide) ?_
    refine lv_icmp_ne (tgt := 36) hx hb dX0_placeOf_22 (by decide) (fun c2 => ?_) (fun c2 => ?_)
    · have h := h.1 c2
      refine lv_iconst (v := (-1)) hx hb dX0_placeOf_36 (by decide) ?_
      exact gr_i (w := wX ad ca K) (u := u) hx hb hr hlocks h hP hK hD hS dX0_placeOf_37
    · have h := h.2 c2
      refine lv_aload_n hx hb dX0_placeOf_25 rfl (lv_at hl 0 rfl) ?_
      refine va_get (D := (dC, dI)) (ci := 0) (v := .ref (ad 2)) (C := RX0) (T := TX0) (N := 12) hx hb hts uwX0 hown hK hP 0 rfl rfl 5 (by decide) (hts _ wd_177) (fun _ h9 => h9) rfl dX0_placeOf_26 ?_
      refine lv_aload_n hx hb dX0_placeOf_29 rfl (lv_at hl 1 rfl) ?_
      refine gc_i (w := wX ad ca K) (u := u) (va_runV (As := [va_rf (some p1)]) (rest := []) ⟨hx, hb, hml, hown, hts⟩ (cX1_placeOf l dC dI ad ca K H.size u (some p1) _ h) (cwV 1 hts (gG_V wd_545 wd_398 wd_399 wd_47 wd_400) rfl rfl rfl (by decide +kernel) ⟨Nat.le_of_ble_eq_true rfl, Nat.le_of_ble_eq_true rfl⟩) ⟨gB_blind xE_ok, va_recv hK hP (ci := 1) (q0 := 2) rfl rfl, gB_pre xE_ok hP hK hD hE hS hA⟩ rfl rfl hl.1 rfl (lv_room (Nat.le_of_ble_eq_true rfl)) dX0_placeOf_30 ⟨Nat.le_of_ble_eq_true rfl, Nat.le_of_ble_eq_true rfl⟩) hD hS hA (fun r3 u4 H locs h hP hD hS => ?_)
      refine lv_goto (tgt := 37) hx hb dX0_placeOf_33 (by decide) ?_
      exact gr_i (w := wX ad ca K) (u := u4) hx hb hr hlocks h hP hK hD hS dX0_placeOf_37
  · have h := h.2 c1
    refine lv_aload_n hx hb dX0_placeOf_8 rfl (lv_at hl 0 rfl) ?_
    refine va_get (D := (dC, dI)) (ci := 0) (v := .ref (ad 4)) (C := RX0) (T := TX0) (N := 12) hx hb hts uwX0 hown hK hP 0 rfl rfl 6 (by decide) (hts _ wd_178) (fun _ h9 => h9) rfl dX0_placeOf_9 ?_
    refine lv_aload_n hx hb dX0_placeOf_12 rfl (lv_at hl 1 rfl) ?_
    refine gc_i (w := wX ad ca K) (u := u) (va_runV (As := [va_rf (some p1)]) (rest := []) ⟨hx, hb, hml, hown, hts⟩ (cX2_placeOf l dC dI ad ca K H.size u (some p1) _ h) (cwV 1 hts (gG_V wd_541 wd_542 wd_543 wd_49 wd_544) rfl rfl rfl (by decide +kernel) ⟨Nat.le_of_ble_eq_true rfl, Nat.le_of_ble_eq_true rfl⟩) ⟨gB_blind xE_ok, va_recv hK hP (ci := 2) (q0 := 4) rfl rfl, gB_pre xE_ok hP hK hD hE hS hA⟩ rfl rfl hl.1 rfl (lv_room (Nat.le_of_ble_eq_true rfl)) dX0_placeOf_13 ⟨Nat.le_of_ble_eq_true rfl, Nat.le_of_ble_eq_true rfl⟩) hD hS hA (fun r5 u6 H locs h hP hD hS => ?_)
    exact gr_i (w := wX ad ca K) (u := u6) hx hb hr hlocks h hP hK hD hS dX0_placeOf_16

