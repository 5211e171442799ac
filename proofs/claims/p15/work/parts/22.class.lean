theorem dX2_add_0 : decode prog_4_method_3_code 0 = .ok (.aload_n 0, 1) := by decide +kernel
theorem dX2_add_1 : decode prog_4_method_3_code 1 = .ok (.getfield 21, 3) := by decide +kernel
theorem dX2_add_4 : decode prog_4_method_3_code 4 = .ok (.iconst 4, 1) := by decide +kernel
theorem dX2_add_5 : decode prog_4_method_3_code 5 = .ok (.if_icmp .lt 4, 3) := by decide +kernel
theorem dX2_add_8 : decode prog_4_method_3_code 8 = .ok (.return_, 1) := by decide +kernel
theorem dX2_add_9 : decode prog_4_method_3_code 9 = .ok (.aload_n 1, 1) := by decide +kernel
theorem dX2_add_10 : decode prog_4_method_3_code 10 = .ok (.iconst 1, 1) := by decide +kernel
theorem dX2_add_11 : decode prog_4_method_3_code 11 = .ok (.putfield 32, 3) := by decide +kernel
theorem dX2_add_14 : decode prog_4_method_3_code 14 = .ok (.aload_n 0, 1) := by decide +kernel
theorem dX2_add_15 : decode prog_4_method_3_code 15 = .ok (.getfield 11, 3) := by decide +kernel
theorem dX2_add_18 : decode prog_4_method_3_code 18 = .ok (.aload_n 0, 1) := by decide +kernel
theorem dX2_add_19 : decode prog_4_method_3_code 19 = .ok (.getfield 21, 3) := by decide +kernel
theorem dX2_add_22 : decode prog_4_method_3_code 22 = .ok (.aload_n 1, 1) := by decide +kernel
theorem dX2_add_23 : decode prog_4_method_3_code 23 = .ok (.aastore, 1) := by decide +kernel
theorem dX2_add_24 : decode prog_4_method_3_code 24 = .ok (.aload_n 0, 1) := by decide +kernel
theorem dX2_add_25 : decode prog_4_method_3_code 25 = .ok (.getfield 17, 3) := by decide +kernel
theorem dX2_add_28 : decode prog_4_method_3_code 28 = .ok (.aload_n 0, 1) := by decide +kernel
theorem dX2_add_29 : decode prog_4_method_3_code 29 = .ok (.getfield 21, 3) := by decide +kernel
theorem dX2_add_32 : decode prog_4_method_3_code 32 = .ok (.dload_n 2, 1) := by decide +kernel
theorem dX2_add_33 : decode prog_4_method_3_code 33 = .ok (.dastore, 1) := by decide +kernel
theorem dX2_add_34 : decode prog_4_method_3_code 34 = .ok (.aload_n 0, 1) := by decide +kernel
theorem dX2_add_35 : decode prog_4_method_3_code 35 = .ok (.dup, 1) := by decide +kernel
theorem dX2_add_36 : decode prog_4_method_3_code 36 = .ok (.getfield 21, 3) := by decide +kernel
theorem dX2_add_39 : decode prog_4_method_3_code 39 = .ok (.iconst 1, 1) := by decide +kernel
theorem dX2_add_40 : decode prog_4_method_3_code 40 = .ok (.iadd, 1) := by decide +kernel
theorem dX2_add_41 : decode prog_4_method_3_code 41 = .ok (.putfield 21, 3) := by decide +kernel
theorem dX2_add_44 : decode prog_4_method_3_code 44 = .ok (.return_, 1) := by decide +kernel
def wpX2_add (K : KX) (post : gS → Prop) (u : gS) (p1 : Nat) (p2 : UInt64) : Prop :=
  (((sI u 4) < 4 → (∀ u2 : gS, u2 = tA u 0 p1 1 → (vp_in (sI u2 4) 4 ∧ (∀ u3 : gS, u3 = tQ u2 1 ((sI u2 4).toNatClampNeg) (some p1) → (vp_in (sI u3 4) 4 ∧ (∀ u4 : gS, u4 = tB u3 0 ((sI u3 4).toNatClampNeg) p2 → (∀ u5 : gS, u5 = tI u4 4 ((sI u4 4) + 1) → (post u5)))))))) ∧ (¬ (sI u 4) < 4 → (post u)))

set_option maxHeartbeats 8000000 in
set_option maxRecDepth 100000 in
theorem cX2_add (l : Launch) (dC : Nat → ClassId) (dI : Nat → Nat → Nat) (ad : Nat → Nat) (ca : Nat → ClassId) (K : KX) (sz : Nat) (u : gS) (p1 : Nat) (p2 : UInt64) (post : gS → Prop) (hp1 : p1 ∈ K.2.2.1) (h : wpX2_add K post u p1 p2) : Met l ⟨"WorkHall$Line", "add", "(LWorkHall$Job;D)V"⟩ (gw ⟨"WorkHall$Line", "add", "(LWorkHall$Job;D)V"⟩ prog_4_method_3_code 4 none) ({ frames := 1, cells := 0, slots := 0, locals := 40 } : Room) (va_Pc [.ref (ad 4), .ref p1, .double p2] (gB (dC, dI) vwCl (xT ca) xE (wX ad ca K u) sz)) (va_Qv post (gAt (dC, dI) vwCl (xT ca) (wX ad ca K) (va_A (wX ad ca K u) sz)) (va_A (wX ad ca K u) sz)) 0 0 (va_A (wX ad ca K u) sz) := by
  refine Met.ofW (cc := prog_4_method_3_code) (maxL := 4) (ret := none) (by decide) rfl ?_
  intro p e s m args below meth c s₁ B hml hv
  obtain ⟨rfl, hsz, hP, hK, hD0, hE⟩ := hv
  have hx := B.exec
  have hb := B.bytes
  have hr := B.returns
  have hts : ∀ w ∈ gW, w.before _ s = true := fun w h9 => atoms_spec (ws := (gw ⟨"WorkHall$Line", "add", "(LWorkHall$Job;D)V"⟩ prog_4_method_3_code 4 none)) B.pre w (List.mem_cons_of_mem _ h9)
  have hown : s.vm.findClass RX2 = some m.cls := findClass_of_methodNamed B.named
  have hlocks := B.notSynchronized
  subst hsz
  have hD := hD0.self (sz := s.heap.size)
  generalize hAe : va_A (wX ad ca K u) s.heap.size = A at hD hE ⊢
  have hA : ∀ q : Nat, s.heap.size ≤ q → A q := fun q h => by rw [← hAe]; exact Or.inr h
  obtain ⟨H, hHe⟩ : ∃ z : Heap, z = s.heap := ⟨_, rfl⟩
  rw [← hHe]
  have hS : va_S A s.heap H [] := by rw [hHe]; exact va_S.rf
  have hP : va_P (dC, dI) vwCl (wX ad ca K u) H := by rw [hHe]; exact hP
  have hl := lv_entry ([.ref (ad 4), .ref p1, .double p2]) (n := 4) (Nat.le_of_ble_eq_true rfl)
  rw [lg_entry_eq]
  generalize (lg_sl ([.ref (ad 4), .ref p1, .double p2]) ++ List.replicate (4 - (lg_sl ([.ref (ad 4), .ref p1, .double p2])).length) Slot.unset).toArray = ls at hl ⊢
  have hl : lv_has ls 4 [(0, .ref (ad 4)), (1, .ref p1), (2, .double p2)] := hl
  clear hAe
  refine lv_aload_n hx hb dX2_add_0 rfl (lv_at hl 0 rfl) ?_
  refine va_get (D := (dC, dI)) (ci := 2) (v := .int (sI u 4)) (C := RX2) (T := TX2) (N := 5) hx hb hts uwX2 hown hK hP 4 rfl rfl 2 (by decide) (hts _ wd_121) (fun _ h9 => h9) rfl dX2_add_1 ?_
  refine lv_iconst (v := 4) hx hb dX2_add_4 (by decide) ?_
  refine lv_icmp_lt (tgt := 9) hx hb dX2_add_5 (by decide) (fun c1 => ?_) (fun c1 => ?_)
  · have h := h.1 c1
    refine lv_aload_n hx hb dX2_add_9 rfl (lv_at hl 1 rfl) ?_
    refine lv_iconst (v := 1) hx hb dX2_add_10 (by decide) ?_
    obtain ⟨k9, hk9⟩ := xJ_get hp1
    have e9 := xJ_state (v := 1) hD hp1 hk9
    refine va_put (D := (dC, dI)) (ci := 5) (v := .int 1) (ty := tyX5 5) (C := RX5) (T := TX5) (N := 9) hx hb hts uwX5 tyX5 tyX5_ok nmX5 hown hK hP hD hS k9 hk9 rfl 5 (by decide) (hts _ wd_328) (fun _ h9 => h9) rfl (tyX5_ok 5 (by decide)) rfl rfl (Nat.le_of_ble_eq_true rfl) dX2_add_11 (fun H locs hP hD hS => ?_)
    obtain ⟨u2, eu2⟩ : ∃ z : gS, z = tA u 0 p1 1 := ⟨_, rfl⟩
    have hP : va_P (dC, dI) vwCl (wX ad ca K u2) H := by rw [eu2, ← e9]; exact hP
    have hD : va_D A (wX ad ca K u2) := by rw [eu2, ← e9]; exact hD
    have h := h u2 eu2
    refine lv_aload_n hx hb dX2_add_14 rfl (lv_at hl 0 rfl) ?_
    refine va_get (D := (dC, dI)) (ci := 2) (v := .ref (ad 5)) (C := RX2) (T := TX2) (N := 5) hx hb hts uwX2 hown hK hP 4 rfl rfl 0 (by decide) (hts _ wd_119) (fun _ h9 => h9) rfl dX2_add_15 ?_
    refine lv_aload_n hx hb dX2_add_18 rfl (lv_at hl 0 rfl) ?_
    refine va_get (D := (dC, dI)) (ci := 2) (v := .int (sI u2 4)) (C := RX2) (T := TX2) (N := 5) hx hb hts uwX2 hown hK hP 4 rfl rfl 2 (by decide) (hts _ wd_121) (fun _ h9 => h9) rfl dX2_add_19 ?_
    refine lv_aload_n hx hb dX2_add_22 rfl (lv_at hl 1 rfl) ?_
    refine gq_aast (v := (some p1)) (r := (RX5, TX5, 9)) hx hb hK hP hD hS 5 0 5 rfl rfl (fun y9 e9 => by cases e9; obtain ⟨k9, hk9⟩ := xJ_get hp1; exact ⟨k9, _, hk9⟩) rfl h.1 dX2_add_23 (fun H locs hP hD hS => ?_)
    have h := h.2
    obtain ⟨u3, eu3⟩ : ∃ z : gS, z = tQ u2 1 ((sI u2 4).toNatClampNeg) (some p1) := ⟨_, rfl⟩
    have hP : va_P (dC, dI) vwCl (wX ad ca K u3) H := by rw [eu3, wX_a5]; exact hP
    have hD : va_D A (wX ad ca K u3) := by rw [eu3, wX_a5]; exact hD
    have h := h u3 eu3
    refine lv_aload_n hx hb dX2_add_24 rfl (lv_at hl 0 rfl) ?_
    refine va_get (D := (dC, dI)) (ci := 2) (v := .ref (ad 6)) (C := RX2) (T := TX2) (N := 5) hx hb hts uwX2 hown hK hP 4 rfl rfl 1 (by decide) (hts _ wd_120) (fun _ h9 => h9) rfl dX2_add_25 ?_
    refine lv_aload_n hx hb dX2_add_28 rfl (lv_at hl 0 rfl) ?_
    refine va_get (D := (dC, dI)) (ci := 2) (v := .int (sI u3 4)) (C := RX2) (T := TX2) (N := 5) hx hb hts uwX2 hown hK hP 4 rfl rfl 2 (by decide) (hts _ wd_121) (fun _ h9 => h9) rfl dX2_add_29 ?_
    refine lv_dload_n hx hb dX2_add_32 rfl (lv_at hl 2 rfl) ?_
    refine va_dast hx hb hK hP hD hS 6 2 rfl rfl h.1 dX2_add_33 (fun H locs hP hD hS => ?_)
    have h := h.2
    obtain ⟨u4, eu4⟩ : ∃ z : gS, z = tB u3 0 ((sI u3 4).toNatClampNeg) p2 := ⟨_, rfl⟩
    have hP : va_P (dC, dI) vwCl (wX ad ca K u4) H := by rw [eu4, wX_a6]; exact hP
    have hD : va_D A (wX ad ca K u4) := by rw [eu4, wX_a6]; exact hD
    have h := h u4 eu4
    refine lv_aload_n hx hb dX2_add_34 rfl (lv_at hl 0 rfl) ?_
    refine lv_dup hx hb dX2_add_35 rfl ?_
    refine va_get (D := (dC, dI)) (ci := 2) (v := .int (sI u4 4)) (C := RX2) (T := TX2) (N := 5) hx hb hts uwX2 hown hK hP 4 rfl rfl 2 (by decide) (hts _ wd_121) (fun _ h9 => h9) rfl dX2_add_36 ?_
    refine lv_iconst (v := 1) hx hb dX2_add_39 (by decide) ?_
    refine lv_iadd hx hb dX2_add_40 ?_
    refine va_put (D := (dC, dI)) (ci := 2) (v := .int ((sI u4 4) + 1)) (ty := tyX2 2) (C := RX2) (T := TX2) (N := 5) hx hb hts uwX2 tyX2 tyX2_ok nmX2 hown hK hP hD hS 4 rfl rfl 2 (by decide) (hts _ wd_121) (fun _ h9 => h9) rfl (tyX2_ok 2 (by decide)) rfl rfl (Nat.le_of_ble_eq_true rfl) dX2_add_41 (fun H locs hP hD hS => ?_)
    obtain ⟨u5, eu5⟩ : ∃ z : gS, z = tI u4 4 ((sI u4 4) + 1) := ⟨_, rfl⟩
    have hP : va_P (dC, dI) vwCl (wX ad ca K u5) H := by rw [eu5, wX_f4_size]; exact hP
    have hD : va_D A (wX ad ca K u5) := by rw [eu5, wX_f4_size]; exact hD
    have h := h u5 eu5
    exact gr_v (w := wX ad ca K) (u := u5) hx hb hr hlocks h hP hK hD hS dX2_add_44
  · have h := h.2 c1
    exact gr_v (w := wX ad ca K) (u := u) hx hb hr hlocks h hP hK hD hS dX2_add_8

theorem dX2_removeAt_0 : decode prog_4_method_4_code 0 = .ok (.iload_n 1, 1) := by decide +kernel
theorem dX2_removeAt_1 : decode prog_4_method_4_code 1 = .ok (.ifCond .lt 11, 3) := by decide +kernel
theorem dX2_removeAt_4 : decode prog_4_method_4_code 4 = .ok (.iload_n 1, 1) := by decide +kernel
theorem dX2_removeAt_5 : decode prog_4_method_4_code 5 = .ok (.aload_n 0, 1) := by decide +kernel
theorem dX2_removeAt_6 : decode prog_4_method_4_code 6 = .ok (.getfield 21, 3) := by decide +kernel
theorem dX2_removeAt_9 : decode prog_4_method_4_code 9 = .ok (.if_icmp .lt 5, 3) := by decide +kernel
theorem dX2_removeAt_12 : decode prog_4_method_4_code 12 = .ok (.aconst_null, 1) := by decide +kernel
theorem dX2_removeAt_13 : decode prog_4_method_4_code 13 = .ok (.areturn, 1) := by decide +kernel
theorem dX2_removeAt_14 : decode prog_4_method_4_code 14 = .ok (.aload_n 0, 1) := by decide +kernel
theorem dX2_removeAt_15 : decode prog_4_method_4_code 15 = .ok (.getfield 11, 3) := by decide +kernel
theorem dX2_removeAt_18 : decode prog_4_method_4_code 18 = .ok (.iload_n 1, 1) := by decide +kernel
theorem dX2_removeAt_19 : decode prog_4_method_4_code 19 = .ok (.aaload, 1) := by decide +kernel
theorem dX2_removeAt_20 : decode prog_4_method_4_code 20 = .ok (.astore_n 2, 1) := by decide +kernel
theorem dX2_removeAt_21 : decode prog_4_method_4_code 21 = .ok (.iload_n 1, 1) := by decide +kernel
theorem dX2_removeAt_22 : decode prog_4_method_4_code 22 = .ok (.istore_n 3, 1) := by decide +kernel
theorem dX2_removeAt_23 : decode prog_4_method_4_code 23 = .ok (.iload_n 3, 1) := by decide +kernel
theorem dX2_removeAt_24 : decode prog_4_method_4_code 24 = .ok (.aload_n 0, 1) := by decide +kernel
theorem dX2_removeAt_25 : decode prog_4_method_4_code 25 = .ok (.getfield 21, 3) := by decide +kernel
theorem dX2_removeAt_28 : decode prog_4_method_4_code 28 = .ok (.iconst 1, 1) := by decide +kernel
theorem dX2_removeAt_29 : decode prog_4_method_4_code 29 = .ok (.isub, 1) := by decide +kernel
theorem dX2_removeAt_30 : decode prog_4_method_4_code 30 = .ok (.if_icmp .ge 37, 3) := by decide +kernel
theorem dX2_removeAt_33 : decode prog_4_method_4_code 33 = .ok (.aload_n 0, 1) := by decide +kernel
theorem dX2_removeAt_34 : decode prog_4_method_4_code 34 = .ok (.getfield 11, 3) := by decide +kernel
theorem dX2_removeAt_37 : decode prog_4_method_4_code 37 = .ok (.iload_n 3, 1) := by decide +kernel
theorem dX2_removeAt_38 : decode prog_4_method_4_code 38 = .ok (.aload_n 0, 1) := by decide +kernel
theorem dX2_removeAt_39 : decode prog_4_method_4_code 39 = .ok (.getfield 11, 3) := by decide +kernel
theorem dX2_removeAt_42 : decode prog_4_method_4_code 42 = .ok (.iload_n 3, 1) := by decide +kernel
theorem dX2_removeAt_43 : decode prog_4_method_4_code 43 = .ok (.iconst 1, 1) := by decide +kernel
theorem dX2_removeAt_44 : decode prog_4_method_4_code 44 = .ok (.iadd, 1) := by decide +kernel
theorem dX2_removeAt_45 : decode prog_4_method_4_code 45 = .ok (.aaload, 1) := by decide +kernel
theorem dX2_removeAt_46 : decode prog_4_method_4_code 46 = .ok (.aastore, 1) := by decide +kernel
theorem dX2_removeAt_47 : decode prog_4_method_4_code 47 = .ok (.aload_n 0, 1) := by decide +kernel
theorem dX2_removeAt_48 : decode prog_4_method_4_code 48 = .ok (.getfield 17, 3) := by decide +kernel
theorem dX2_removeAt_51 : decode prog_4_method_4_code 51 = .ok (.iload_n 3, 1) := by decide +kernel
theorem dX2_removeAt_52 : decode prog_4_method_4_code 52 = .ok (.aload_n 0, 1) := by decide +kernel
theorem dX2_removeAt_53 : decode prog_4_method_4_code 53 = .ok (.getfield 17, 3) := by decide +kernel
theorem dX2_removeAt_56 : decode prog_4_method_4_code 56 = .ok (.iload_n 3, 1) := by decide +kernel
theorem dX2_removeAt_57 : decode prog_4_method_4_code 57 = .ok (.iconst 1, 1) := by decide +kernel
theorem dX2_removeAt_58 : decode prog_4_method_4_code 58 = .ok (.iadd, 1) := by decide +kernel
theorem dX2_removeAt_59 : decode prog_4_method_4_code 59 = .ok (.daload, 1) := by decide +kernel
theorem dX2_removeAt_60 : decode prog_4_method_4_code 60 = .ok (.dastore, 1) := by decide +kernel
theorem dX2_removeAt_61 : decode prog_4_method_4_code 61 = .ok (.iinc 3 1, 3) := by decide +kernel
theorem dX2_removeAt_64 : decode prog_4_method_4_code 64 = .ok (.goto (-41), 3) := by decide +kernel
theorem dX2_removeAt_67 : decode prog_4_method_4_code 67 = .ok (.aload_n 0, 1) := by decide +kernel
theorem dX2_removeAt_68 : decode prog_4_method_4_code 68 = .ok (.dup, 1) := by decide +kernel
theorem dX2_removeAt_69 : decode prog_4_method_4_code 69 = .ok (.getfield 21, 3) := by decide +kernel
theorem dX2_removeAt_72 : decode prog_4_method_4_code 72 = .ok (.iconst 1, 1) := by decide +kernel
theorem dX2_removeAt_73 : decode prog_4_method_4_code 73 = .ok (.isub, 1) := by decide +kernel
theorem dX2_removeAt_74 : decode prog_4_method_4_code 74 = .ok (.putfield 21, 3) := by decide +kernel
theorem dX2_removeAt_77 : decode prog_4_method_4_code 77 = .ok (.aload_n 2, 1) := by decide +kernel
theorem dX2_removeAt_78 : decode prog_4_method_4_code 78 = .ok (.areturn, 1) := by decide +kernel
def wpX2_removeAt_23 (K : KX) (post : Option Nat → gS → Prop) : Nat → Int32 → Option Nat → Int32 → gS → Prop
  | 0 => fun _ _ _ _ => False
  | n + 1 => fun l1 l2 l3 u => ((((sI u 4) - 1) ≤ l3 → (∀ u5 : gS, u5 = tI u 4 ((sI u 4) - 1) → (post l2 u5))) ∧ (¬ ((sI u 4) - 1) ≤ l3 → (vp_in (l3 + 1) 4 ∧ (∀ r6 : Option Nat, r6 = sQ u 1 (l3 + 1).toNatClampNeg → ((∀ y9 : Nat, r6 = some y9 → y9 ∈ K.2.2.1) ∧ (vp_in l3 4 ∧ (∀ u8 : gS, u8 = tQ u 1 l3.toNatClampNeg r6 → (vp_in (l3 + 1) 4 ∧ (vp_in l3 4 ∧ (∀ u9 : gS, u9 = tB u8 0 l3.toNatClampNeg (sB u8 0 (l3 + 1).toNatClampNeg) → (∀ x10 : Int32, x10 = l3 + 1 → (wpX2_removeAt_23 K post n l1 l2 x10 u9))))))))))))

def wpX2_removeAt (K : KX) (post : Option Nat → gS → Prop) (u : gS) (p1 : Int32) : Prop :=
  ((p1 < 0 → (post none u)) ∧ (¬ p1 < 0 → (((p1 < (sI u 4) → (vp_in p1 4 ∧ (∀ r3 : Option Nat, r3 = sQ u 1 p1.toNatClampNeg → (∃ n23 : Nat, wpX2_removeAt_23 K post n23 p1 r3 p1 u)))) ∧ (¬ p1 < (sI u 4) → (post none u))))))

set_option maxHeartbeats 8000000 in
set_option maxRecDepth 100000 in
theorem wpX2_removeAt_23_ok {p : Program} {l : Launch} {e : Env} {s : State} {m : MethodId} {args : Array Value} {below : List Frame} {meth : Method} {c : Code} {dC : Nat → ClassId} {dI : Nat → Nat → Nat} {ad : Nat → Nat} {ca : Nat → ClassId} {K : KX} {A : Nat → Prop} {post : Option Nat → gS → Prop}   (hx : p.tables.exec = Jvm.exec) (hb : c.code = prog_4_method_4_code) (hr : meth.sig.returnType = (some (.object "WorkHall$Job"))) (hml : c.maxLocals = 4) (hown : s.vm.findClass RX2 = some m.cls) (hts : ∀ w ∈ gW, w.before args s = true) (hlocks : meth.locks = false) (hK : va_K (dC, dI) vwCl (xT ca) s) (hA : ∀ q, s.heap.size ≤ q → A q) (hE : xE A s s.heap) :
    ∀ (n : Nat) (l1 : Int32) (l2 : Option Nat) (l3 : Int32) (u : gS) (H : Heap) (locs : List Loc) (ls : Array Slot), wpX2_removeAt_23 K post n l1 l2 l3 u → va_P (dC, dI) vwCl (wX ad ca K u) H → va_D A (wX ad ca K u) → va_S A s.heap H locs → lv_has ls 4 [(0, .ref (ad 4)), (1, .int l1), (2, va_rf l2), (3, .int l3)] → W p l e (headSpec (gw ⟨"WorkHall$Line", "removeAt", "(I)LWorkHall$Job;"⟩ prog_4_method_4_code 4 (some (.object "WorkHall$Job"))) ({ frames := 1, cells := 0, slots := 0, locals := 40 } : Room)).room s m args below meth c H locs 0 0 (MQ below (va_Qq post (gAt (dC, dI) vwCl (xT ca) (wX ad ca K) (A)) (A)) args s 0 0 A) (F0 m 23 ls []) := by
  intro n
  induction n with
  | zero => exact fun _ _ _ _ _ _ _ h => h.elim
  | succ n ih =>
    intro l1 l2 l3 u H locs ls h hP hD hS hl
    refine lv_iload_n hx hb dX2_removeAt_23 rfl (lv_at hl 3 rfl) ?_
    refine lv_aload_n hx hb dX2_removeAt_24 rfl (lv_at hl 0 rfl) ?_
    refine va_get (D := (dC, dI)) (ci := 2) (v := .int (sI u 4)) (C := RX2) (T := TX2) (N := 5) hx hb hts uwX2 hown hK hP 4 rfl rfl 2 (by decide) (hts _ wd_121) (fun _ h9 => h9) rfl dX2_removeAt_25 ?_
    refine lv_iconst (v := 1) hx hb dX2_removeAt_28 (by decide) ?_
    refine lv_isub hx hb dX2_removeAt_29 ?_
    refine lv_icmp_ge (tgt := 67) hx hb dX2_removeAt_30 (by decide) (fun c4 => ?_) (fun c4 => ?_)
    · have h := h.1 c4
      refine lv_aload_n hx hb dX2_removeAt_67 rfl (lv_at hl 0 rfl) ?_
      refine lv_dup hx hb dX2_removeAt_68 rfl ?_
      refine va_get (D := (dC, dI)) (ci := 2) (v := .int (sI u 4)) (C := RX2) (T := TX2) (N := 5) hx hb hts uwX2 hown hK hP 4 rfl rfl 2 (by decide) (hts _ wd_121) (fun _ h9 => h9) rfl dX2_removeAt_69 ?_
      refine lv_iconst (v := 1) hx hb dX2_removeAt_72 (by decide) ?_
      refine lv_isub hx hb dX2_removeAt_73 ?_
      refine va_put (D := (dC, dI)) (ci := 2) (v := .int ((sI u 4) - 1)) (ty := tyX2 2) (C := RX2) (T := TX2) (N := 5) hx hb hts uwX2 tyX2 tyX2_ok nmX2 hown hK hP hD hS 4 rfl rfl 2 (by decide) (hts _ wd_121) (fun _ h9 => h9) rfl (tyX2_ok 2 (by decide)) rfl rfl (Nat.le_of_ble_eq_true rfl) dX2_removeAt_74 (fun H locs hP hD hS => ?_)
      obtain ⟨u5, eu5⟩ : ∃ z : gS, z = tI u 4 ((sI u 4) - 1) := ⟨_, rfl⟩
      have hP : va_P (dC, dI) vwCl (wX ad ca K u5) H := by rw [eu5, wX_f4_size]; exact hP
      have hD : va_D A (wX ad ca K u5) := by rw [eu5, wX_f4_size]; exact hD
      have h := h u5 eu5
      refine gq_aload_n (r := l2) hx hb dX2_removeAt_77 rfl (lv_at hl 2 rfl) ?_
      exact gr_q (w := wX ad ca K) (u := u5) (v := l2) hx hb hr hlocks h hP hK hD hS dX2_removeAt_78
    · have h := h.2 c4
      refine lv_aload_n hx hb dX2_removeAt_33 rfl (lv_at hl 0 rfl) ?_
      refine va_get (D := (dC, dI)) (ci := 2) (v := .ref (ad 5)) (C := RX2) (T := TX2) (N := 5) hx hb hts uwX2 hown hK hP 4 rfl rfl 0 (by decide) (hts _ wd_119) (fun _ h9 => h9) rfl dX2_removeAt_34 ?_
      refine lv_iload_n hx hb dX2_removeAt_37 rfl (lv_at hl 3 rfl) ?_
      refine lv_aload_n hx hb dX2_removeAt_38 rfl (lv_at hl 0 rfl) ?_
      refine va_get (D := (dC, dI)) (ci := 2) (v := .ref (ad 5)) (C := RX2) (T := TX2) (N := 5) hx hb hts uwX2 hown hK hP 4 rfl rfl 0 (by decide) (hts _ wd_119) (fun _ h9 => h9) rfl dX2_removeAt_39 ?_
      refine lv_iload_n hx hb dX2_removeAt_42 rfl (lv_at hl 3 rfl) ?_
      refine lv_iconst (v := 1) hx hb dX2_removeAt_43 (by decide) ?_
      refine lv_iadd hx hb dX2_removeAt_44 ?_
      refine va_aldq (C := RX5) hx hb hK hP 5 0 rfl rfl h.1 dX2_removeAt_45 ?_
      have h := h.2
      refine gq_top (fun r6 er6 => ?_)
      have h := h r6 er6
      obtain ⟨hy7, h⟩ := h
      refine gq_aast (v := r6) (r := (RX5, TX5, 9)) hx hb hK hP hD hS 5 0 5 rfl rfl (fun y9 e9 => by obtain ⟨k9, hk9⟩ := xJ_get (hy7 y9 e9); exact ⟨k9, _, hk9⟩) rfl h.1 dX2_removeAt_46 (fun H locs hP hD hS => ?_)
      have h := h.2
      obtain ⟨u8, eu8⟩ : ∃ z : gS, z = tQ u 1 l3.toNatClampNeg r6 := ⟨_, rfl⟩
      have hP : va_P (dC, dI) vwCl (wX ad ca K u8) H := by rw [eu8, wX_a5]; exact hP
      have hD : va_D A (wX ad ca K u8) := by rw [eu8, wX_a5]; exact hD
      have h := h u8 eu8
      refine lv_aload_n hx hb dX2_removeAt_47 rfl (lv_at hl 0 rfl) ?_
      refine va_get (D := (dC, dI)) (ci := 2) (v := .ref (ad 6)) (C := RX2) (T := TX2) (N := 5) hx hb hts uwX2 hown hK hP 4 rfl rfl 1 (by decide) (hts _ wd_120) (fun _ h9 => h9) rfl dX2_removeAt_48 ?_
      refine lv_iload_n hx hb dX2_removeAt_51 rfl (lv_at hl 3 rfl) ?_
      refine lv_aload_n hx hb dX2_removeAt_52 rfl (lv_at hl 0 rfl) ?_
      refine va_get (D := (dC, dI)) (ci := 2) (v := .ref (ad 6)) (C := RX2) (T := TX2) (N := 5) hx hb hts uwX2 hown hK hP 4 rfl rfl 1 (by decide) (hts _ wd_120) (fun _ h9 => h9) rfl dX2_removeAt_53 ?_
      refine lv_iload_n hx hb dX2_removeAt_56 rfl (lv_at hl 3 rfl) ?_
      refine lv_iconst (v := 1) hx hb dX2_removeAt_57 (by decide) ?_
      refine lv_iadd hx hb dX2_removeAt_58 ?_
      refine va_dald hx hb hK hP 6 2 rfl rfl h.1 dX2_removeAt_59 ?_
      have h := h.2
      refine va_dast hx hb hK hP hD hS 6 2 rfl rfl h.1 dX2_removeAt_60 (fun H locs hP hD hS => ?_)
      have h := h.2
      obtain ⟨u9, eu9⟩ : ∃ z : gS, z = tB u8 0 l3.toNatClampNeg (sB u8 0 (l3 + 1).toNatClampNeg) := ⟨_, rfl⟩
      have hP : va_P (dC, dI) vwCl (wX ad ca K u9) H := by rw [eu9, wX_a6]; exact hP
      have hD : va_D A (wX ad ca K u9) := by rw [eu9, wX_a6]; exact hD
      have h := h u9 eu9
      obtain ⟨x10, ex10⟩ : ∃ y : Int32, y = l3 + 1 := ⟨_, rfl⟩
      have h := h x10 ex10
      refine lv_iinc (v := x10) (lv' := [(3, .int x10), (0, .ref (ad 4)), (1, .int l1), (2, va_rf l2)]) hx hb dX2_removeAt_61 hl (k := 3) rfl (by rw [ex10]; rfl) (by decide) (by cases l2 <;> rfl) (fun ls hl => ?_)
      refine lv_goto (tgt := 23) hx hb dX2_removeAt_64 (by decide) ?_
      exact ih l1 l2 x10 u9 _ _ _ h hP hD hS (lv_sub hl [1, 2, 3, 0] rfl)

set_option maxHeartbeats 8000000 in
set_option maxRecDepth 100000 in
theorem cX2_removeAt (l : Launch) (dC : Nat → ClassId) (dI : Nat → Nat → Nat) (ad : Nat → Nat) (ca : Nat → ClassId) (K : KX) (sz : Nat) (u : gS) (p1 : Int32) (post : Option Nat → gS → Prop)  (h : wpX2_removeAt K post u p1) : Met l ⟨"WorkHall$Line", "removeAt", "(I)LWorkHall$Job;"⟩ (gw ⟨"WorkHall$Line", "removeAt", "(I)LWorkHall$Job;"⟩ prog_4_method_4_code 4 (some (.object "WorkHall$Job"))) ({ frames := 1, cells := 0, slots := 0, locals := 40 } : Room) (va_Pc [.ref (ad 4), .int p1] (gB (dC, dI) vwCl (xT ca) xE (wX ad ca K u) sz)) (va_Qq post (gAt (dC, dI) vwCl (xT ca) (wX ad ca K) (va_A (wX ad ca K u) sz)) (va_A (wX ad ca K u) sz)) 0 0 (va_A (wX ad ca K u) sz) := by
  refine Met.ofW (cc := prog_4_method_4_code) (maxL := 4) (ret := (some (.object "WorkHall$Job"))) (by decide) rfl ?_
  intro p e s m args below meth c s₁ B hml hv
  obtain ⟨rfl, hsz, hP, hK, hD0, hE⟩ := hv
  have hx := B.exec
  have hb := B.bytes
  have hr := B.returns
  have hts : ∀ w ∈ gW, w.before _ s = true := fun w h9 => atoms_spec (ws := (gw ⟨"WorkHall$Line", "removeAt", "(I)LWorkHall$Job;"⟩ prog_4_method_4_code 4 (some (.object "WorkHall$Job")))) B.pre w (List.mem_cons_of_mem _ h9)
  have hown : s.vm.findClass RX2 = some m.cls := findClass_of_methodNamed B.named
  have hlocks := B.notSynchronized
  subst hsz
  have hD := hD0.self (sz := s.heap.size)
  generalize hAe : va_A (wX ad ca K u) s.heap.size = A at hD hE ⊢
  have hA : ∀ q : Nat, s.heap.size ≤ q → A q := fun q h => by rw [← hAe]; exact Or.inr h
  obtain ⟨H, hHe⟩ : ∃ z : Heap, z = s.heap := ⟨_, rfl⟩
  rw [← hHe]
  have hS : va_S A s.heap H [] := by rw [hHe]; exact va_S.rf
  have hP : va_P (dC, dI) vwCl (wX ad ca K u) H := by rw [hHe]; exact hP
  have hl := lv_entry ([.ref (ad 4), .int p1]) (n := 4) (Nat.le_of_ble_eq_true rfl)
  rw [lg_entry_eq]
  generalize (lg_sl ([.ref (ad 4), .int p1]) ++ List.replicate (4 - (lg_sl ([.ref (ad 4), .int p1])).length) Slot.unset).toArray = ls at hl ⊢
  have hl : lv_has ls 4 [(0, .ref (ad 4)), (1, .int p1)] := hl
  clear hAe
  refine lv_iload_n hx hb dX2_removeAt_0 rfl (lv_at hl 1 rfl) ?_
  refine lv_if_lt (tgt := 12) hx hb dX2_removeAt_1 (by decide) (fun c1 => ?_) (fun c1 => ?_)
  · have h := h.1 c1
    refine lv_null hx hb dX2_removeAt_12 ?_
    exact gr_q (w := wX ad ca K) (u := u) (v := none) hx hb hr hlocks h hP hK hD hS dX2_removeAt_13
  · have h := h.2 c1
    refine lv_iload_n hx hb dX2_removeAt_4 rfl (lv_at hl 1 rfl) ?_
    refine lv_aload_n hx hb dX2_removeAt_5 rfl (lv_at hl 0 rfl) ?_
    refine va_get (D := (dC, dI)) (ci := 2) (v := .int (sI u 4)) (C := RX2) (T := TX2) (N := 5) hx hb hts uwX2 hown hK hP 4 rfl rfl 2 (by decide) (hts _ wd_121) (fun _ h9 => h9) rfl dX2_removeAt_6 ?_
    refine lv_icmp_lt (tgt := 14) hx hb dX2_removeAt_9 (by decide) (fun c2 => ?_) (fun c2 => ?_)
    · have h := h.1 c2
      refine lv_aload_n hx hb dX2_removeAt_14 rfl (lv_at hl 0 rfl) ?_
      refine va_get (D := (dC, dI)) (ci := 2) (v := .ref (ad 5)) (C := RX2) (T := TX2) (N := 5) hx hb hts uwX2 hown hK hP 4 rfl rfl 0 (by decide) (hts _ wd_119) (fun _ h9 => h9) rfl dX2_removeAt_15 ?_
      refine lv_iload_n hx hb dX2_removeAt_18 rfl (lv_at hl 1 rfl) ?_
      refine va_aldq (C := RX5) hx hb hK hP 5 0 rfl rfl h.1 dX2_removeAt_19 ?_
      have h := h.2
      refine gq_top (fun r3 er3 => ?_)
      have h := h r3 er3
      refine gq_astore_n (r := r3) (lv' := [(2, va_rf r3), (0, .ref (ad 4)), (1, .int p1)]) hx hb dX2_removeAt_20 rfl hl (by decide) rfl (fun ls hl => ?_)
      refine lv_iload_n hx hb dX2_removeAt_21 rfl (lv_at hl 2 rfl) ?_
      refine lv_istore_n (lv' := [(3, .int p1), (2, va_rf r3), (0, .ref (ad 4)), (1, .int p1)]) hx hb dX2_removeAt_22 rfl hl (by decide) (by cases r3 <;> rfl) (fun ls hl => ?_)
      obtain ⟨n23, h⟩ := h
      exact wpX2_removeAt_23_ok hx hb hr hml hown hts hlocks hK hA hE n23 p1 r3 p1 u _ _ _ h hP hD hS (lv_sub hl [2, 3, 1, 0] rfl)
    · have h := h.2 c2
      refine lv_null hx hb dX2_removeAt_12 ?_
      exact gr_q (w := wX ad ca K) (u := u) (v := none) hx hb hr hlocks h hP hK hD hS dX2_removeAt_13

theorem dX2_takeFirst_0 : decode prog_4_method_5_code 0 = .ok (.aload_n 0, 1) := by decide +kernel
theorem dX2_takeFirst_1 : decode prog_4_method_5_code 1 = .ok (.getfield 21, 3) := by decide +kernel
theorem dX2_takeFirst_4 : decode prog_4_method_5_code 4 = .ok (.ifCond .ne 5, 3) := by decide +kernel
theorem dX2_takeFirst_7 : decode prog_4_method_5_code 7 = .ok (.aconst_null, 1) := by decide +kernel
theorem dX2_takeFirst_8 : decode prog_4_method_5_code 8 = .ok (.areturn, 1) := by decide +kernel
theorem dX2_takeFirst_9 : decode prog_4_method_5_code 9 = .ok (.aload_n 0, 1) := by decide +kernel
theorem dX2_takeFirst_10 : decode prog_4_method_5_code 10 = .ok (.dup, 1) := by decide +kernel
theorem dX2_takeFirst_11 : decode prog_4_method_5_code 11 = .ok (.getfield 28, 3) := by decide +kernel
theorem dX2_takeFirst_14 : decode prog_4_method_5_code 14 = .ok (.dload_n 1, 1) := by decide +kernel
theorem dX2_takeFirst_15 : decode prog_4_method_5_code 15 = .ok (.aload_n 0, 1) := by decide +kernel
theorem dX2_takeFirst_16 : decode prog_4_method_5_code 16 = .ok (.getfield 17, 3) := by decide +kernel
theorem dX2_takeFirst_19 : decode prog_4_method_5_code 19 = .ok (.iconst 0, 1) := by decide +kernel
theorem dX2_takeFirst_20 : decode prog_4_method_5_code 20 = .ok (.daload, 1) := by decide +kernel
theorem dX2_takeFirst_21 : decode prog_4_method_5_code 21 = .ok (.dsub, 1) := by decide +kernel
theorem dX2_takeFirst_22 : decode prog_4_method_5_code 22 = .ok (.dadd, 1) := by decide +kernel
theorem dX2_takeFirst_23 : decode prog_4_method_5_code 23 = .ok (.putfield 28, 3) := by decide +kernel
theorem dX2_takeFirst_26 : decode prog_4_method_5_code 26 = .ok (.aload_n 0, 1) := by decide +kernel
theorem dX2_takeFirst_27 : decode prog_4_method_5_code 27 = .ok (.dup, 1) := by decide +kernel
theorem dX2_takeFirst_28 : decode prog_4_method_5_code 28 = .ok (.getfield 25, 3) := by decide +kernel
theorem dX2_takeFirst_31 : decode prog_4_method_5_code 31 = .ok (.iconst 1, 1) := by decide +kernel
theorem dX2_takeFirst_32 : decode prog_4_method_5_code 32 = .ok (.iadd, 1) := by decide +kernel
theorem dX2_takeFirst_33 : decode prog_4_method_5_code 33 = .ok (.putfield 25, 3) := by decide +kernel
theorem dX2_takeFirst_36 : decode prog_4_method_5_code 36 = .ok (.aload_n 0, 1) := by decide +kernel
theorem dX2_takeFirst_37 : decode prog_4_method_5_code 37 = .ok (.iconst 0, 1) := by decide +kernel
theorem dX2_takeFirst_38 : decode prog_4_method_5_code 38 = .ok (.invokevirtual 35, 3) := by decide +kernel
theorem dX2_takeFirst_41 : decode prog_4_method_5_code 41 = .ok (.areturn, 1) := by decide +kernel
def wpX2_takeFirst (K : KX) (post : Option Nat → gS → Prop) (u : gS) (p1 : UInt64) : Prop :=
  ((¬ (sI u 4) = 0 → (vp_in 0 4 ∧ (vf_n64 (FP.dsub p1 (sB u 0 (0 : Int32).toNatClampNeg)) ∧ (vf_n64 (FP.dadd (sD u 1) (FP.dsub p1 (sB u 0 (0 : Int32).toNatClampNeg))) ∧ (∀ u2 : gS, u2 = tD u 1 (FP.dadd (sD u 1) (FP.dsub p1 (sB u 0 (0 : Int32).toNatClampNeg))) → (∀ u3 : gS, u3 = tI u2 5 ((sI u2 5) + 1) → (wpX2_removeAt K (fun (r4 : Option Nat) (u5 : gS) => post r4 u5) u3 0))))))) ∧ ((sI u 4) = 0 → (post none u)))

set_option maxHeartbeats 8000000 in
set_option maxRecDepth 100000 in
theorem cX2_takeFirst (l : Launch) (dC : Nat → ClassId) (dI : Nat → Nat → Nat) (ad : Nat → Nat) (ca : Nat → ClassId) (K : KX) (sz : Nat) (u : gS) (p1 : UInt64) (post : Option Nat → gS → Prop)  (h : wpX2_takeFirst K post u p1) : Met l ⟨"WorkHall$Line", "takeFirst", "(D)LWorkHall$Job;"⟩ (gw ⟨"WorkHall$Line", "takeFirst", "(D)LWorkHall$Job;"⟩ prog_4_method_5_code 3 (some (.object "WorkHall$Job"))) ({ frames := 2, cells := 0, slots := 0, locals := 80 } : Room) (va_Pc [.ref (ad 4), .double p1] (gB (dC, dI) vwCl (xT ca) xE (wX ad ca K u) sz)) (va_Qq post (gAt (dC, dI) vwCl (xT ca) (wX ad ca K) (va_A (wX ad ca K u) sz)) (va_A (wX ad ca K u) sz)) 0 0 (va_A (wX ad ca K u) sz) := by
  refine Met.ofW (cc := prog_4_method_5_code) (maxL := 3) (ret := (some (.object "WorkHall$Job"))) (by decide) rfl ?_
  intro p e s m args below meth c s₁ B hml hv
  obtain ⟨rfl, hsz, hP, hK, hD0, hE⟩ := hv
  have hx := B.exec
  have hb := B.bytes
  have hr := B.returns
  have hts : ∀ w ∈ gW, w.before _ s = true := fun w h9 => atoms_spec (ws := (gw ⟨"WorkHall$Line", "takeFirst", "(D)LWorkHall$Job;"⟩ prog_4_method_5_code 3 (some (.object "WorkHall$Job")))) B.pre w (List.mem_cons_of_mem _ h9)
  have hown : s.vm.findClass RX2 = some m.cls := findClass_of_methodNamed B.named
  have hlocks := B.notSynchronized
  subst hsz
  have hD := hD0.self (sz := s.heap.size)
  generalize hAe : va_A (wX ad ca K u) s.heap.size = A at hD hE ⊢
  have hA : ∀ q : Nat, s.heap.size ≤ q → A q := fun q h => by rw [← hAe]; exact Or.inr h
  obtain ⟨H, hHe⟩ : ∃ z : Heap, z = s.heap := ⟨_, rfl⟩
  rw [← hHe]
  have hS : va_S A s.heap H [] := by rw [hHe]; exact va_S.rf
  have hP : va_P (dC, dI) vwCl (wX ad ca K u) H := by rw [hHe]; exact hP
  have hl := lv_entry ([.ref (ad 4), .double p1]) (n := 3) (Nat.le_of_ble_eq_true rfl)
  rw [lg_entry_eq]
  generalize (lg_sl ([.ref (ad 4), .double p1]) ++ List.replicate (3 - (lg_sl ([.ref (ad 4), .double p1])).length) Slot.unset).toArray = ls at hl ⊢
  have hl : lv_has ls 3 [(0, .ref (ad 4)), (1, .double p1)] := hl
  clear hAe
  refine lv_aload_n hx hb dX2_takeFirst_0 rfl (lv_at hl 0 rfl) ?_
  refine va_get (D := (dC, dI)) (ci := 2) (v := .int (sI u 4)) (C := RX2) (T := TX2) (N := 5) hx hb hts uwX2 hown hK hP 4 rfl rfl 2 (by decide) (hts _ wd_121) (fun _ h9 => h9) rfl dX2_takeFirst_1 ?_
  refine lv_if_ne (tgt := 9) hx hb dX2_takeFirst_4 (by decide) (fun c1 => ?_) (fun c1 => ?_)
  · have h := h.1 c1
    refine lv_aload_n hx hb dX2_takeFirst_9 rfl (lv_at hl 0 rfl) ?_
    refine lv_dup hx hb dX2_takeFirst_10 rfl ?_
    refine va_get (D := (dC, dI)) (ci := 2) (v := .double (sD u 1)) (C := RX2) (T := TX2) (N := 5) hx hb hts uwX2 hown hK hP 4 rfl rfl 4 (by decide) (hts _ wd_125) (fun _ h9 => h9) rfl dX2_takeFirst_11 ?_
    refine lv_dload_n hx hb dX2_takeFirst_14 rfl (lv_at hl 1 rfl) ?_
    refine lv_aload_n hx hb dX2_takeFirst_15 rfl (lv_at hl 0 rfl) ?_
    refine va_get (D := (dC, dI)) (ci := 2) (v := .ref (ad 6)) (C := RX2) (T := TX2) (N := 5) hx hb hts uwX2 hown hK hP 4 rfl rfl 1 (by decide) (hts _ wd_120) (fun _ h9 => h9) rfl dX2_takeFirst_16 ?_
    refine lv_iconst (v := 0) hx hb dX2_takeFirst_19 (by decide) ?_
    refine va_dald hx hb hK hP 6 2 rfl rfl h.1 dX2_takeFirst_20 ?_
    have h := h.2
    refine lv_dsub hx hb dX2_takeFirst_21 h.1 ?_
    have h := h.2
    refine lv_dadd hx hb dX2_takeFirst_22 h.1 ?_
    have h := h.2
    refine va_put (D := (dC, dI)) (ci := 2) (v := .double (FP.dadd (sD u 1) (FP.dsub p1 (sB u 0 (0 : Int32).toNatClampNeg)))) (ty := tyX2 4) (C := RX2) (T := TX2) (N := 5) hx hb hts uwX2 tyX2 tyX2_ok nmX2 hown hK hP hD hS 4 rfl rfl 4 (by decide) (hts _ wd_125) (fun _ h9 => h9) rfl (tyX2_ok 4 (by decide)) rfl rfl (Nat.le_of_ble_eq_true rfl) dX2_takeFirst_23 (fun H locs hP hD hS => ?_)
    obtain ⟨u2, eu2⟩ : ∃ z : gS, z = tD u 1 (FP.dadd (sD u 1) (FP.dsub p1 (sB u 0 (0 : Int32).toNatClampNeg))) := ⟨_, rfl⟩
    have hP : va_P (dC, dI) vwCl (wX ad ca K u2) H := by rw [eu2, wX_f4_waited]; exact hP
    have hD : va_D A (wX ad ca K u2) := by rw [eu2, wX_f4_waited]; exact hD
    have h := h u2 eu2
    refine lv_aload_n hx hb dX2_takeFirst_26 rfl (lv_at hl 0 rfl) ?_
    refine lv_dup hx hb dX2_takeFirst_27 rfl ?_
    refine va_get (D := (dC, dI)) (ci := 2) (v := .int (sI u2 5)) (C := RX2) (T := TX2) (N := 5) hx hb hts uwX2 hown hK hP 4 rfl rfl 3 (by decide) (hts _ wd_123) (fun _ h9 => h9) rfl dX2_takeFirst_28 ?_
    refine lv_iconst (v := 1) hx hb dX2_takeFirst_31 (by decide) ?_
    refine lv_iadd hx hb dX2_takeFirst_32 ?_
    refine va_put (D := (dC, dI)) (ci := 2) (v := .int ((sI u2 5) + 1)) (ty := tyX2 3) (C := RX2) (T := TX2) (N := 5) hx hb hts uwX2 tyX2 tyX2_ok nmX2 hown hK hP hD hS 4 rfl rfl 3 (by decide) (hts _ wd_123) (fun _ h9 => h9) rfl (tyX2_ok 3 (by decide)) rfl rfl (Nat.le_of_ble_eq_true rfl) dX2_takeFirst_33 (fun H locs hP hD hS => ?_)
    obtain ⟨u3, eu3⟩ : ∃ z : gS, z = tI u2 5 ((sI u2 5) + 1) := ⟨_, rfl⟩
    have hP : va_P (dC, dI) vwCl (wX ad ca K u3) H := by rw [eu3, wX_f4_taken]; exact hP
    have hD : va_D A (wX ad ca K u3) := by rw [eu3, wX_f4_taken]; exact hD
    have h := h u3 eu3
    refine lv_aload_n hx hb dX2_takeFirst_36 rfl (lv_at hl 0 rfl) ?_
    refine lv_iconst (v := 0) hx hb dX2_takeFirst_37 (by decide) ?_
    refine gc_q (w := wX ad ca K) (u := u3) (va_runV (As := [.int 0]) (rest := []) ⟨hx, hb, hml, hown, hts⟩ (cX2_removeAt l dC dI ad ca K H.size u3 0 _ h) (cwV 1 hts (gG_V wd_516 wd_424 wd_425 wd_49 wd_426) rfl rfl rfl (by decide +kernel) ⟨Nat.le_of_ble_eq_true rfl, Nat.le_of_ble_eq_true rfl⟩) ⟨gB_blind xE_ok, va_recv hK hP (ci := 2) (q0 := 4) rfl rfl, gB_pre xE_ok hP hK hD hE hS hA⟩ rfl rfl hl.1 rfl (lv_room (Nat.le_of_ble_eq_true rfl)) dX2_takeFirst_38 ⟨Nat.le_of_ble_eq_true rfl, Nat.le_of_ble_eq_true rfl⟩) hD hS hA (fun r4 u5 H locs h hP hD hS => ?_)
    exact gr_q (w := wX ad ca K) (u := u5) (v := r4) hx hb hr hlocks h hP hK hD hS dX2_takeFirst_41
  · have h := h.2 c1
    refine lv_null hx hb dX2_takeFirst_7 ?_
    exact gr_q (w := wX ad ca K) (u := u) (v := none) hx hb hr hlocks h hP hK hD hS dX2_takeFirst_8

theorem dX2_cancelAll_0 : decode prog_4_method_6_code 0 = .ok (.aload_n 0, 1) := by decide +kernel
theorem dX2_cancelAll_1 : decode prog_4_method_6_code 1 = .ok (.getfield 21, 3) := by decide +kernel
theorem dX2_cancelAll_4 : decode prog_4_method_6_code 4 = .ok (.istore_n 1, 1) := by decide +kernel
theorem dX2_cancelAll_5 : decode prog_4_method_6_code 5 = .ok (.iconst 0, 1) := by decide +kernel
theorem dX2_cancelAll_6 : decode prog_4_method_6_code 6 = .ok (.istore_n 2, 1) := by decide +kernel
theorem dX2_cancelAll_7 : decode prog_4_method_6_code 7 = .ok (.iload_n 2, 1) := by decide +kernel
theorem dX2_cancelAll_8 : decode prog_4_method_6_code 8 = .ok (.aload_n 0, 1) := by decide +kernel
theorem dX2_cancelAll_9 : decode prog_4_method_6_code 9 = .ok (.getfield 21, 3) := by decide +kernel
theorem dX2_cancelAll_12 : decode prog_4_method_6_code 12 = .ok (.if_icmp .ge 19, 3) := by decide +kernel
theorem dX2_cancelAll_15 : decode prog_4_method_6_code 15 = .ok (.aload_n 0, 1) := by decide +kernel
theorem dX2_cancelAll_16 : decode prog_4_method_6_code 16 = .ok (.getfield 11, 3) := by decide +kernel
theorem dX2_cancelAll_19 : decode prog_4_method_6_code 19 = .ok (.iload_n 2, 1) := by decide +kernel
theorem dX2_cancelAll_20 : decode prog_4_method_6_code 20 = .ok (.aaload, 1) := by decide +kernel
theorem dX2_cancelAll_21 : decode prog_4_method_6_code 21 = .ok (.iconst 5, 1) := by decide +kernel
theorem dX2_cancelAll_22 : decode prog_4_method_6_code 22 = .ok (.putfield 32, 3) := by decide +kernel
theorem dX2_cancelAll_25 : decode prog_4_method_6_code 25 = .ok (.iinc 2 1, 3) := by decide +kernel
theorem dX2_cancelAll_28 : decode prog_4_method_6_code 28 = .ok (.goto (-21), 3) := by decide +kernel
theorem dX2_cancelAll_31 : decode prog_4_method_6_code 31 = .ok (.aload_n 0, 1) := by decide +kernel
theorem dX2_cancelAll_32 : decode prog_4_method_6_code 32 = .ok (.iconst 0, 1) := by decide +kernel
theorem dX2_cancelAll_33 : decode prog_4_method_6_code 33 = .ok (.putfield 21, 3) := by decide +kernel
theorem dX2_cancelAll_36 : decode prog_4_method_6_code 36 = .ok (.iload_n 1, 1) := by decide +kernel
theorem dX2_cancelAll_37 : decode prog_4_method_6_code 37 = .ok (.ireturn, 1) := by decide +kernel
def wpX2_cancelAll_7 (K : KX) (post : Int32 → gS → Prop) : Nat → Int32 → Int32 → gS → Prop
  | 0 => fun _ _ _ => False
  | n + 1 => fun l1 l2 u => (((sI u 4) ≤ l2 → (∀ u3 : gS, u3 = tI u 4 0 → (post l1 u3))) ∧ (¬ (sI u 4) ≤ l2 → (vp_in l2 4 ∧ (∀ r4 : Option Nat, r4 = sQ u 1 l2.toNatClampNeg → (∃ y5 : Nat, r4 = some y5 ∧ y5 ∈ K.2.2.1 ∧ (∀ u7 : gS, u7 = tA u 0 y5 5 → (∀ x8 : Int32, x8 = l2 + 1 → (wpX2_cancelAll_7 K post n l1 x8 u7))))))))

def wpX2_cancelAll (K : KX) (post : Int32 → gS → Prop) (u : gS)  : Prop :=
  ∀ x1 : Int32, x1 = sI u 4 → (∃ n7 : Nat, wpX2_cancelAll_7 K post n7 x1 0 u)

set_option maxHeartbeats 8000000 in
set_option maxRecDepth 100000 in
theorem wpX2_cancelAll_7_ok {p : Program} {l : Launch} {e : Env} {s : State} {m : MethodId} {args : Array Value} {below : List Frame} {meth : Method} {c : Code} {dC : Nat → ClassId} {dI : Nat → Nat → Nat} {ad : Nat → Nat} {ca : Nat → ClassId} {K : KX} {A : Nat → Prop} {post : Int32 → gS → Prop}   (hx : p.tables.exec = Jvm.exec) (hb : c.code = prog_4_method_6_code) (hr : meth.sig.returnType = (some .int)) (hml : c.maxLocals = 3) (hown : s.vm.findClass RX2 = some m.cls) (hts : ∀ w ∈ gW, w.before args s = true) (hlocks : meth.locks = false) (hK : va_K (dC, dI) vwCl (xT ca) s) (hA : ∀ q, s.heap.size ≤ q → A q) (hE : xE A s s.heap) :
    ∀ (n : Nat) (l1 : Int32) (l2 : Int32) (u : gS) (H : Heap) (locs : List Loc) (ls : Array Slot), wpX2_cancelAll_7 K post n l1 l2 u → va_P (dC, dI) vwCl (wX ad ca K u) H → va_D A (wX ad ca K u) → va_S A s.heap H locs → lv_has ls 3 [(0, .ref (ad 4)), (1, .int l1), (2, .int l2)] → W p l e (headSpec (gw ⟨"WorkHall$Line", "cancelAll", "()I"⟩ prog_4_method_6_code 3 (some .int)) ({ frames := 1, cells := 0, slots := 0, locals := 40 } : Room)).room s m args below meth c H locs 0 0 (MQ below (va_Qi post (gAt (dC, dI) vwCl (xT ca) (wX ad ca K) (A)) (A)) args s 0 0 A) (F0 m 7 ls []) := by
  intro n
  induction n with
  | zero => exact fun _ _ _ _ _ _ h => h.elim
  | succ n ih =>
    intro l1 l2 u H locs ls h hP hD hS hl
    refine lv_iload_n hx hb dX2_cancelAll_7 rfl (lv_at hl 2 rfl) ?_
    refine lv_aload_n hx hb dX2_cancelAll_8 rfl (lv_at hl 0 rfl) ?_
    refine va_get (D := (dC, dI)) (ci := 2) (v := .int (sI u 4)) (C := RX2) (T := TX2) (N := 5) hx hb hts uwX2 hown hK hP 4 rfl rfl 2 (by decide) (hts _ wd_121) (fun _ h9 => h9) rfl dX2_cancelAll_9 ?_
    refine lv_icmp_ge (tgt := 31) hx hb dX2_cancelAll_12 (by decide) (fun c2 => ?_) (fun c2 => ?_)
    · have h := h.1 c2
      refine lv_aload_n hx hb dX2_cancelAll_31 rfl (lv_at hl 0 rfl) ?_
      refine lv_iconst (v := 0) hx hb dX2_cancelAll_32 (by decide) ?_
      refine va_put (D := (dC, dI)) (ci := 2) (v := .int 0) (ty := tyX2 2) (C := RX2) (T := TX2) (N := 5) hx hb hts uwX2 tyX2 tyX2_ok nmX2 hown hK hP hD hS 4 rfl rfl 2 (by decide) (hts _ wd_121) (fun _ h9 => h9) rfl (tyX2_ok 2 (by decide)) rfl rfl (Nat.le_of_ble_eq_true rfl) dX2_cancelAll_33 (fun H locs hP hD hS => ?_)
      obtain ⟨u3, eu3⟩ : ∃ z : gS, z = tI u 4 0 := ⟨_, rfl⟩
      have hP : va_P (dC, dI) vwCl (wX ad ca K u3) H := by rw [eu3, wX_f4_size]; exact hP
      have hD : va_D A (wX ad ca K u3) := by rw [eu3, wX_f4_size]; exact hD
      have h := h u3 eu3
      refine lv_iload_n hx hb dX2_cancelAll_36 rfl (lv_at hl 1 rfl) ?_
      exact gr_i (w := wX ad ca K) (u := u3) hx hb hr hlocks h hP hK hD hS dX2_cancelAll_37
    · have h := h.2 c2
      refine lv_aload_n hx hb dX2_cancelAll_15 rfl (lv_at hl 0 rfl) ?_
      refine va_get (D := (dC, dI)) (ci := 2) (v := .ref (ad 5)) (C := RX2) (T := TX2) (N := 5) hx hb hts uwX2 hown hK hP 4 rfl rfl 0 (by decide) (hts _ wd_119) (fun _ h9 => h9) rfl dX2_cancelAll_16 ?_
      refine lv_iload_n hx hb dX2_cancelAll_19 rfl (lv_at hl 2 rfl) ?_
      refine va_aldq (C := RX5) hx hb hK hP 5 0 rfl rfl h.1 dX2_cancelAll_20 ?_
      have h := h.2
      refine gq_top (fun r4 er4 => ?_)
      have h := h r4 er4
      refine lv_iconst (v := 5) hx hb dX2_cancelAll_21 (by decide) ?_
      obtain ⟨y5, rfl, hy6, h⟩ := h
      obtain ⟨k9, hk9⟩ := xJ_get hy6
      have e9 := xJ_state (v := 5) hD hy6 hk9
      refine va_put (D := (dC, dI)) (ci := 5) (v := .int 5) (ty := tyX5 5) (C := RX5) (T := TX5) (N := 9) hx hb hts uwX5 tyX5 tyX5_ok nmX5 hown hK hP hD hS k9 hk9 rfl 5 (by decide) (hts _ wd_328) (fun _ h9 => h9) rfl (tyX5_ok 5 (by decide)) rfl rfl (Nat.le_of_ble_eq_true rfl) dX2_cancelAll_22 (fun H locs hP hD hS => ?_)
      obtain ⟨u7, eu7⟩ : ∃ z : gS, z = tA u 0 y5 5 := ⟨_, rfl⟩
      have hP : va_P (dC, dI) vwCl (wX ad ca K u7) H := by rw [eu7, ← e9]; exact hP
      have hD : va_D A (wX ad ca K u7) := by rw [eu7, ← e9]; exact hD
      have h := h u7 eu7
      obtain ⟨x8, ex8⟩ : ∃ y : Int32, y = l2 + 1 := ⟨_, rfl⟩
      have h := h x8 ex8
      refine lv_iinc (v := x8) (lv' := [(2, .int x8), (0, .ref (ad 4)), (1, .int l1)]) hx hb dX2_cancelAll_25 hl (k := 2) rfl (by rw [ex8]; rfl) (by decide) rfl (fun ls hl => ?_)
      refine lv_goto (tgt := 7) hx hb dX2_cancelAll_28 (by decide) ?_
      exact ih l1 x8 u7 _ _ _ h hP hD hS (lv_sub hl [1, 2, 0] rfl)

set_option maxHeartbeats 8000000 in
set_option maxRecDepth 100000 in
theorem cX2_cancelAll (l : Launch) (dC : Nat → ClassId) (dI : Nat → Nat → Nat) (ad : Nat → Nat) (ca : Nat → ClassId) (K : KX) (sz : Nat) (u : gS)  (post : Int32 → gS → Prop)  (h : wpX2_cancelAll K post u ) : Met l ⟨"WorkHall$Line", "cancelAll", "()I"⟩ (gw ⟨"WorkHall$Line", "cancelAll", "()I"⟩ prog_4_method_6_code 3 (some .int)) ({ frames := 1, cells := 0, slots := 0, locals := 40 } : Room) (va_Pc [.ref (ad 4)] (gB (dC, dI) vwCl (xT ca) xE (wX ad ca K u) sz)) (va_Qi post (gAt (dC, dI) vwCl (xT ca) (wX ad ca K) (va_A (wX ad ca K u) sz)) (va_A (wX ad ca K u) sz)) 0 0 (va_A (wX ad ca K u) sz) := by
  refine Met.ofW (cc := prog_4_method_6_code) (maxL := 3) (ret := (some .int)) (by decide) rfl ?_
  intro p e s m args below meth c s₁ B hml hv
  obtain ⟨rfl, hsz, hP, hK, hD0, hE⟩ := hv
  have hx := B.exec
  have hb := B.bytes
  have hr := B.returns
  have hts : ∀ w ∈ gW, w.before _ s = true := fun w h9 => atoms_spec (ws := (gw ⟨"WorkHall$Line", "cancelAll", "()I"⟩ prog_4_method_6_code 3 (some .int))) B.pre w (List.mem_cons_of_mem _ h9)
  have hown : s.vm.findClass RX2 = some m.cls := findClass_of_methodNamed B.named
  have hlocks := B.notSynchronized
  subst hsz
  have hD := hD0.self (sz := s.heap.size)
  generalize hAe : va_A (wX ad ca K u) s.heap.size = A at hD hE ⊢
  have hA : ∀ q : Nat, s.heap.size ≤ q → A q := fun q h => by rw [← hAe]; exact Or.inr h
  obtain ⟨H, hHe⟩ : ∃ z : Heap, z = s.heap := ⟨_, rfl⟩
  rw [← hHe]
  have hS : va_S A s.heap H [] := by rw [hHe]; exact va_S.rf
  have hP : va_P (dC, dI) vwCl (wX ad ca K u) H := by rw [hHe]; exact hP
  have hl := lv_entry ([.ref (ad 4)]) (n := 3) (Nat.le_of_ble_eq_true rfl)
  rw [lg_entry_eq]
  generalize (lg_sl ([.ref (ad 4)]) ++ List.replicate (3 - (lg_sl ([.ref (ad 4)])).length) Slot.unset).toArray = ls at hl ⊢
  have hl : lv_has ls 3 [(0, .ref (ad 4))] := hl
  clear hAe
  refine lv_aload_n hx hb dX2_cancelAll_0 rfl (lv_at hl 0 rfl) ?_
  refine va_get (D := (dC, dI)) (ci := 2) (v := .int (sI u 4)) (C := RX2) (T := TX2) (N := 5) hx hb hts uwX2 hown hK hP 4 rfl rfl 2 (by decide) (hts _ wd_121) (fun _ h9 => h9) rfl dX2_cancelAll_1 ?_
  refine lv_topi (fun x1 ex1 => ?_)
  have h := h x1 ex1
  refine lv_istore_n (lv' := [(1, .int x1), (0, .ref (ad 4))]) hx hb dX2_cancelAll_4 rfl hl (by decide) rfl (fun ls hl => ?_)
  refine lv_iconst (v := 0) hx hb dX2_cancelAll_5 (by decide) ?_
  refine lv_istore_n (lv' := [(2, .int 0), (1, .int x1), (0, .ref (ad 4))]) hx hb dX2_cancelAll_6 rfl hl (by decide) rfl (fun ls hl => ?_)
  obtain ⟨n7, h⟩ := h
  exact wpX2_cancelAll_7_ok hx hb hr hml hown hts hlocks hK hA hE n7 x1 0 u _ _ _ h hP hD hS (lv_sub hl [2, 1, 0] rfl)

theorem dX3_put_0 : decode prog_5_method_2_code 0 = .ok (.aload_n 0, 1) := by decide +kernel
theorem dX3_put_1 : decode prog_5_method_2_code 1 = .ok (.getfield 24, 3) := by decide +kernel
theorem dX3_put_4 : decode prog_5_method_2_code 4 = .ok (.bipush 10, 2) := by decide +kernel
theorem dX3_put_6 : decode prog_5_method_2_code 6 = .ok (.if_icmp .lt 4, 3) := by decide +kernel
theorem dX3_put_9 : decode prog_5_method_2_code 9 = .ok (.return_, 1) := by decide +kernel
theorem dX3_put_10 : decode prog_5_method_2_code 10 = .ok (.aload_n 0, 1) := by decide +kernel
theorem dX3_put_11 : decode prog_5_method_2_code 11 = .ok (.getfield 11, 3) := by decide +kernel
theorem dX3_put_14 : decode prog_5_method_2_code 14 = .ok (.aload_n 0, 1) := by decide +kernel
theorem dX3_put_15 : decode prog_5_method_2_code 15 = .ok (.getfield 24, 3) := by decide +kernel
theorem dX3_put_18 : decode prog_5_method_2_code 18 = .ok (.aload_n 1, 1) := by decide +kernel
theorem dX3_put_19 : decode prog_5_method_2_code 19 = .ok (.aastore, 1) := by decide +kernel
theorem dX3_put_20 : decode prog_5_method_2_code 20 = .ok (.aload_n 0, 1) := by decide +kernel
theorem dX3_put_21 : decode prog_5_method_2_code 21 = .ok (.getfield 17, 3) := by decide +kernel
theorem dX3_put_24 : decode prog_5_method_2_code 24 = .ok (.aload_n 0, 1) := by decide +kernel
theorem dX3_put_25 : decode prog_5_method_2_code 25 = .ok (.getfield 24, 3) := by decide +kernel
theorem dX3_put_28 : decode prog_5_method_2_code 28 = .ok (.dload_n 2, 1) := by decide +kernel
theorem dX3_put_29 : decode prog_5_method_2_code 29 = .ok (.dastore, 1) := by decide +kernel
theorem dX3_put_30 : decode prog_5_method_2_code 30 = .ok (.aload_n 0, 1) := by decide +kernel
theorem dX3_put_31 : decode prog_5_method_2_code 31 = .ok (.getfield 21, 3) := by decide +kernel
theorem dX3_put_34 : decode prog_5_method_2_code 34 = .ok (.aload_n 0, 1) := by decide +kernel
theorem dX3_put_35 : decode prog_5_method_2_code 35 = .ok (.getfield 24, 3) := by decide +kernel
theorem dX3_put_38 : decode prog_5_method_2_code 38 = .ok (.dload 4, 2) := by decide +kernel
theorem dX3_put_40 : decode prog_5_method_2_code 40 = .ok (.dastore, 1) := by decide +kernel
theorem dX3_put_41 : decode prog_5_method_2_code 41 = .ok (.aload_n 0, 1) := by decide +kernel
theorem dX3_put_42 : decode prog_5_method_2_code 42 = .ok (.dup, 1) := by decide +kernel
theorem dX3_put_43 : decode prog_5_method_2_code 43 = .ok (.getfield 24, 3) := by decide +kernel
theorem dX3_put_46 : decode prog_5_method_2_code 46 = .ok (.iconst 1, 1) := by decide +kernel
theorem dX3_put_47 : decode prog_5_method_2_code 47 = .ok (.iadd, 1) := by decide +kernel
theorem dX3_put_48 : decode prog_5_method_2_code 48 = .ok (.putfield 24, 3) := by decide +kernel
theorem dX3_put_51 : decode prog_5_method_2_code 51 = .ok (.return_, 1) := by decide +kernel
def wpX3_put (K : KX) (post : gS → Prop) (u : gS) (p1 : Nat) (p2 : UInt64) (p3 : UInt64) : Prop :=
  (((sI u 6) < 10 → (vp_in (sI u 6) 10 ∧ (∀ u2 : gS, u2 = tQ u 2 ((sI u 6).toNatClampNeg) (some p1) → (vp_in (sI u2 6) 10 ∧ (∀ u3 : gS, u3 = tB u2 1 ((sI u2 6).toNatClampNeg) p2 → (vp_in (sI u3 6) 10 ∧ (∀ u4 : gS, u4 = tB u3 2 ((sI u3 6).toNatClampNeg) p3 → (∀ u5 : gS, u5 = tI u4 6 ((sI u4 6) + 1) → (post u5))))))))) ∧ (¬ (sI u 6) < 10 → (post u)))

set_option maxHeartbeats 8000000 in
set_option maxRecDepth 100000 in
theorem cX3_put (l : Launch) (dC : Nat → ClassId) (dI : Nat → Nat → Nat) (ad : Nat → Nat) (ca : Nat → ClassId) (K : KX) (sz : Nat) (u : gS) (p1 : Nat) (p2 : UInt64) (p3 : UInt64) (post : gS → Prop) (hp1 : p1 ∈ K.2.2.1) (h : wpX3_put K post u p1 p2 p3) : Met l ⟨"WorkHall$Timetable", "put", "(LWorkHall$Job;DD)V"⟩ (gw ⟨"WorkHall$Timetable", "put", "(LWorkHall$Job;DD)V"⟩ prog_5_method_2_code 6 none) ({ frames := 1, cells := 0, slots := 0, locals := 40 } : Room) (va_Pc [.ref (ad 7), .ref p1, .double p2, .double p3] (gB (dC, dI) vwCl (xT ca) xE (wX ad ca K u) sz)) (va_Qv post (gAt (dC, dI) vwCl (xT ca) (wX ad ca K) (va_A (wX ad ca K u) sz)) (va_A (wX ad ca K u) sz)) 0 0 (va_A (wX ad ca K u) sz) := by
  refine Met.ofW (cc := prog_5_method_2_code) (maxL := 6) (ret := none) (by decide) rfl ?_
  intro p e s m args below meth c s₁ B hml hv
  obtain ⟨rfl, hsz, hP, hK, hD0, hE⟩ := hv
  have hx := B.exec
  have hb := B.bytes
  have hr := B.returns
  have hts : ∀ w ∈ gW, w.before _ s = true := fun w h9 => atoms_spec (ws := (gw ⟨"WorkHall$Timetable", "put", "(LWorkHall$Job;DD)V"⟩ prog_5_method_2_code 6 none)) B.pre w (List.mem_cons_of_mem _ h9)
  have hown : s.vm.findClass RX3 = some m.cls := findClass_of_methodNamed B.named
  have hlocks := B.notSynchronized
  subst hsz
  have hD := hD0.self (sz := s.heap.size)
  generalize hAe : va_A (wX ad ca K u) s.heap.size = A at hD hE ⊢
  have hA : ∀ q : Nat, s.heap.size ≤ q → A q := fun q h => by rw [← hAe]; exact Or.inr h
  obtain ⟨H, hHe⟩ : ∃ z : Heap, z = s.heap := ⟨_, rfl⟩
  rw [← hHe]
  have hS : va_S A s.heap H [] := by rw [hHe]; exact va_S.rf
  have hP : va_P (dC, dI) vwCl (wX ad ca K u) H := by rw [hHe]; exact hP
  have hl := lv_entry ([.ref (ad 7), .ref p1, .double p2, .double p3]) (n := 6) (Nat.le_of_ble_eq_true rfl)
  rw [lg_entry_eq]
  generalize (lg_sl ([.ref (ad 7), .ref p1, .double p2, .double p3]) ++ List.replicate (6 - (lg_sl ([.ref (ad 7), .ref p1, .double p2, .double p3])).length) Slot.unset).toArray = ls at hl ⊢
  have hl : lv_has ls 6 [(0, .ref (ad 7)), (1, .ref p1), (2, .double p2), (4, .double p3)] := hl
  clear hAe
  refine lv_aload_n hx hb dX3_put_0 rfl (lv_at hl 0 rfl) ?_
  refine va_get (D := (dC, dI)) (ci := 3) (v := .int (sI u 6)) (C := RX3) (T := TX3) (N := 4) hx hb hts uwX3 hown hK hP 7 rfl rfl 3 (by decide) (hts _ wd_152) (fun _ h9 => h9) rfl dX3_put_1 ?_
  refine lv_bipush (v := 10) hx hb dX3_put_4 (by decide) ?_
  refine lv_icmp_lt (tgt := 10) hx hb dX3_put_6 (by decide) (fun c1 => ?_) (fun c1 => ?_)
  · have h := h.1 c1
    refine lv_aload_n hx hb dX3_put_10 rfl (lv_at hl 0 rfl) ?_
    refine va_get (D := (dC, dI)) (ci := 3) (v := .ref (ad 8)) (C := RX3) (T := TX3) (N := 4) hx hb hts uwX3 hown hK hP 7 rfl rfl 0 (by decide) (hts _ wd_146) (fun _ h9 => h9) rfl dX3_put_11 ?_
    refine lv_aload_n hx hb dX3_put_14 rfl (lv_at hl 0 rfl) ?_
    refine va_get (D := (dC, dI)) (ci := 3) (v := .int (sI u 6)) (C := RX3) (T := TX3) (N := 4) hx hb hts uwX3 hown hK hP 7 rfl rfl 3 (by decide) (hts _ wd_152) (fun _ h9 => h9) rfl dX3_put_15 ?_
    refine lv_aload_n hx hb dX3_put_18 rfl (lv_at hl 1 rfl) ?_
    refine gq_aast (v := (some p1)) (r := (RX5, TX5, 9)) hx hb hK hP hD hS 8 0 5 rfl rfl (fun y9 e9 => by cases e9; obtain ⟨k9, hk9⟩ := xJ_get hp1; exact ⟨k9, _, hk9⟩) rfl h.1 dX3_put_19 (fun H locs hP hD hS => ?_)
    have h := h.2
    obtain ⟨u2, eu2⟩ : ∃ z : gS, z = tQ u 2 ((sI u 6).toNatClampNeg) (some p1) := ⟨_, rfl⟩
    have hP : va_P (dC, dI) vwCl (wX ad ca K u2) H := by rw [eu2, wX_a8]; exact hP
    have hD : va_D A (wX ad ca K u2) := by rw [eu2, wX_a8]; exact hD
    have h := h u2 eu2
    refine lv_aload_n hx hb dX3_put_20 rfl (lv_at hl 0 rfl) ?_
    refine va_get (D := (dC, dI)) (ci := 3) (v := .ref (ad 9)) (C := RX3) (T := TX3) (N := 4) hx hb hts uwX3 hown hK hP 7 rfl rfl 1 (by decide) (hts _ wd_148) (fun _ h9 => h9) rfl dX3_put_21 ?_
    refine lv_aload_n hx hb dX3_put_24 rfl (lv_at hl 0 rfl) ?_
    refine va_get (D := (dC, dI)) (ci := 3) (v := .int (sI u2 6)) (C := RX3) (T := TX3) (N := 4) hx hb hts uwX3 hown hK hP 7 rfl rfl 3 (by decide) (hts _ wd_152) (fun _ h9 => h9) rfl dX3_put_25 ?_
    refine lv_dload_n hx hb dX3_put_28 rfl (lv_at hl 2 rfl) ?_
    refine va_dast hx hb hK hP hD hS 9 2 rfl rfl h.1 dX3_put_29 (fun H locs hP hD hS => ?_)
    have h := h.2
    obtain ⟨u3, eu3⟩ : ∃ z : gS, z = tB u2 1 ((sI u2 6).toNatClampNeg) p2 := ⟨_, rfl⟩
    have hP : va_P (dC, dI) vwCl (wX ad ca K u3) H := by rw [eu3, wX_a9]; exact hP
    have hD : va_D A (wX ad ca K u3) := by rw [eu3, wX_a9]; exact hD
    have h := h u3 eu3
    refine lv_aload_n hx hb dX3_put_30 rfl (lv_at hl 0 rfl) ?_
    refine va_get (D := (dC, dI)) (ci := 3) (v := .ref (ad 10)) (C := RX3) (T := TX3) (N := 4) hx hb hts uwX3 hown hK hP 7 rfl rfl 2 (by decide) (hts _ wd_150) (fun _ h9 => h9) rfl dX3_put_31 ?_
    refine lv_aload_n hx hb dX3_put_34 rfl (lv_at hl 0 rfl) ?_
    refine va_get (D := (dC, dI)) (ci := 3) (v := .int (sI u3 6)) (C := RX3) (T := TX3) (N := 4) hx hb hts uwX3 hown hK hP 7 rfl rfl 3 (by decide) (hts _ wd_152) (fun _ h9 => h9) rfl dX3_put_35 ?_
    refine lv_dload hx hb dX3_put_38 (lv_at hl 3 rfl) ?_
    refine va_dast hx hb hK hP hD hS 10 2 rfl rfl h.1 dX3_put_40 (fun H locs hP hD hS => ?_)
    have h := h.2
    obtain ⟨u4, eu4⟩ : ∃ z : gS, z = tB u3 2 ((sI u3 6).toNatClampNeg) p3 := ⟨_, rfl⟩
    have hP : va_P (dC, dI) vwCl (wX ad ca K u4) H := by rw [eu4, wX_a10]; exact hP
    have hD : va_D A (wX ad ca K u4) := by rw [eu4, wX_a10]; exact hD
    have h := h u4 eu4
    refine lv_aload_n hx hb dX3_put_41 rfl (lv_at hl 0 rfl) ?_
    refine lv_dup hx hb dX3_put_42 rfl ?_
    refine va_get (D := (dC, dI)) (ci := 3) (v := .int (sI u4 6)) (C := RX3) (T := TX3) (N := 4) hx hb hts uwX3 hown hK hP 7 rfl rfl 3 (by decide) (hts _ wd_152) (fun _ h9 => h9) rfl dX3_put_43 ?_
    refine lv_iconst (v := 1) hx hb dX3_put_46 (by decide) ?_
    refine lv_iadd hx hb dX3_put_47 ?_
    refine va_put (D := (dC, dI)) (ci := 3) (v := .int ((sI u4 6) + 1)) (ty := tyX3 3) (C := RX3) (T := TX3) (N := 4) hx hb hts uwX3 tyX3 tyX3_ok nmX3 hown hK hP hD hS 7 rfl rfl 3 (by decide) (hts _ wd_152) (fun _ h9 => h9) rfl (tyX3_ok 3 (by decide)) rfl rfl (Nat.le_of_ble_eq_true rfl) dX3_put_48 (fun H locs hP hD hS => ?_)
    obtain ⟨u5, eu5⟩ : ∃ z : gS, z = tI u4 6 ((sI u4 6) + 1) := ⟨_, rfl⟩
    have hP : va_P (dC, dI) vwCl (wX ad ca K u5) H := by rw [eu5, wX_f7_size]; exact hP
    have hD : va_D A (wX ad ca K u5) := by rw [eu5, wX_f7_size]; exact hD
    have h := h u5 eu5
    exact gr_v (w := wX ad ca K) (u := u5) hx hb hr hlocks h hP hK hD hS dX3_put_51
  · have h := h.2 c1
    exact gr_v (w := wX ad ca K) (u := u) hx hb hr hlocks h hP hK hD hS dX3_put_9

