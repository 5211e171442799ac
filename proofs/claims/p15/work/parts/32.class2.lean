theorem dX0_fire_0 : decode prog_1_method_31_code 0 = .ok (.iload_n 1, 1) := by decide +kernel
theorem dX0_fire_1 : decode prog_1_method_31_code 1 = .ok (.ifCond .lt 14, 3) := by decide +kernel
theorem dX0_fire_4 : decode prog_1_method_31_code 4 = .ok (.iload_n 1, 1) := by decide +kernel
theorem dX0_fire_5 : decode prog_1_method_31_code 5 = .ok (.aload_n 0, 1) := by decide +kernel
theorem dX0_fire_6 : decode prog_1_method_31_code 6 = .ok (.getfield 32, 3) := by decide +kernel
theorem dX0_fire_9 : decode prog_1_method_31_code 9 = .ok (.getfield 172, 3) := by decide +kernel
theorem dX0_fire_12 : decode prog_1_method_31_code 12 = .ok (.if_icmp .lt 4, 3) := by decide +kernel
theorem dX0_fire_15 : decode prog_1_method_31_code 15 = .ok (.return_, 1) := by decide +kernel
theorem dX0_fire_16 : decode prog_1_method_31_code 16 = .ok (.aload_n 0, 1) := by decide +kernel
theorem dX0_fire_17 : decode prog_1_method_31_code 17 = .ok (.getfield 32, 3) := by decide +kernel
theorem dX0_fire_20 : decode prog_1_method_31_code 20 = .ok (.getfield 312, 3) := by decide +kernel
theorem dX0_fire_23 : decode prog_1_method_31_code 23 = .ok (.iload_n 1, 1) := by decide +kernel
theorem dX0_fire_24 : decode prog_1_method_31_code 24 = .ok (.aaload, 1) := by decide +kernel
theorem dX0_fire_25 : decode prog_1_method_31_code 25 = .ok (.astore_n 2, 1) := by decide +kernel
theorem dX0_fire_26 : decode prog_1_method_31_code 26 = .ok (.aload_n 0, 1) := by decide +kernel
theorem dX0_fire_27 : decode prog_1_method_31_code 27 = .ok (.getfield 32, 3) := by decide +kernel
theorem dX0_fire_30 : decode prog_1_method_31_code 30 = .ok (.getfield 232, 3) := by decide +kernel
theorem dX0_fire_33 : decode prog_1_method_31_code 33 = .ok (.iload_n 1, 1) := by decide +kernel
theorem dX0_fire_34 : decode prog_1_method_31_code 34 = .ok (.daload, 1) := by decide +kernel
theorem dX0_fire_35 : decode prog_1_method_31_code 35 = .ok (.dstore_n 3, 1) := by decide +kernel
theorem dX0_fire_36 : decode prog_1_method_31_code 36 = .ok (.aload_n 0, 1) := by decide +kernel
theorem dX0_fire_37 : decode prog_1_method_31_code 37 = .ok (.getfield 32, 3) := by decide +kernel
theorem dX0_fire_40 : decode prog_1_method_31_code 40 = .ok (.getfield 313, 3) := by decide +kernel
theorem dX0_fire_43 : decode prog_1_method_31_code 43 = .ok (.iload_n 1, 1) := by decide +kernel
theorem dX0_fire_44 : decode prog_1_method_31_code 44 = .ok (.daload, 1) := by decide +kernel
theorem dX0_fire_45 : decode prog_1_method_31_code 45 = .ok (.dstore 5, 2) := by decide +kernel
theorem dX0_fire_47 : decode prog_1_method_31_code 47 = .ok (.aload_n 0, 1) := by decide +kernel
theorem dX0_fire_48 : decode prog_1_method_31_code 48 = .ok (.getfield 32, 3) := by decide +kernel
theorem dX0_fire_51 : decode prog_1_method_31_code 51 = .ok (.iload_n 1, 1) := by decide +kernel
theorem dX0_fire_52 : decode prog_1_method_31_code 52 = .ok (.invokevirtual 316, 3) := by decide +kernel
theorem dX0_fire_55 : decode prog_1_method_31_code 55 = .ok (.dload_n 3, 1) := by decide +kernel
theorem dX0_fire_56 : decode prog_1_method_31_code 56 = .ok (.aload_n 0, 1) := by decide +kernel
theorem dX0_fire_57 : decode prog_1_method_31_code 57 = .ok (.getfield 46, 3) := by decide +kernel
theorem dX0_fire_60 : decode prog_1_method_31_code 60 = .ok (.dcmp .l, 1) := by decide +kernel
theorem dX0_fire_61 : decode prog_1_method_31_code 61 = .ok (.ifCond .le 8, 3) := by decide +kernel
theorem dX0_fire_64 : decode prog_1_method_31_code 64 = .ok (.aload_n 0, 1) := by decide +kernel
theorem dX0_fire_65 : decode prog_1_method_31_code 65 = .ok (.dload_n 3, 1) := by decide +kernel
theorem dX0_fire_66 : decode prog_1_method_31_code 66 = .ok (.putfield 46, 3) := by decide +kernel
theorem dX0_fire_69 : decode prog_1_method_31_code 69 = .ok (.aload_n 2, 1) := by decide +kernel
theorem dX0_fire_70 : decode prog_1_method_31_code 70 = .ok (.getfield 90, 3) := by decide +kernel
theorem dX0_fire_73 : decode prog_1_method_31_code 73 = .ok (.iconst 3, 1) := by decide +kernel
theorem dX0_fire_74 : decode prog_1_method_31_code 74 = .ok (.if_icmp .eq 11, 3) := by decide +kernel
theorem dX0_fire_77 : decode prog_1_method_31_code 77 = .ok (.aload_n 2, 1) := by decide +kernel
theorem dX0_fire_78 : decode prog_1_method_31_code 78 = .ok (.getfield 90, 3) := by decide +kernel
theorem dX0_fire_81 : decode prog_1_method_31_code 81 = .ok (.iconst 4, 1) := by decide +kernel
theorem dX0_fire_82 : decode prog_1_method_31_code 82 = .ok (.if_icmp .ne 8, 3) := by decide +kernel
theorem dX0_fire_85 : decode prog_1_method_31_code 85 = .ok (.aload_n 2, 1) := by decide +kernel
theorem dX0_fire_86 : decode prog_1_method_31_code 86 = .ok (.iconst 0, 1) := by decide +kernel
theorem dX0_fire_87 : decode prog_1_method_31_code 87 = .ok (.putfield 90, 3) := by decide +kernel
theorem dX0_fire_90 : decode prog_1_method_31_code 90 = .ok (.aload_n 2, 1) := by decide +kernel
theorem dX0_fire_91 : decode prog_1_method_31_code 91 = .ok (.getfield 90, 3) := by decide +kernel
theorem dX0_fire_94 : decode prog_1_method_31_code 94 = .ok (.ifCond .ne 9, 3) := by decide +kernel
theorem dX0_fire_97 : decode prog_1_method_31_code 97 = .ok (.aload_n 0, 1) := by decide +kernel
theorem dX0_fire_98 : decode prog_1_method_31_code 98 = .ok (.aload_n 2, 1) := by decide +kernel
theorem dX0_fire_99 : decode prog_1_method_31_code 99 = .ok (.iconst 0, 1) := by decide +kernel
theorem dX0_fire_100 : decode prog_1_method_31_code 100 = .ok (.invokevirtual 95, 3) := by decide +kernel
theorem dX0_fire_103 : decode prog_1_method_31_code 103 = .ok (.dload 5, 2) := by decide +kernel
theorem dX0_fire_105 : decode prog_1_method_31_code 105 = .ok (.dconst 0, 1) := by decide +kernel
theorem dX0_fire_106 : decode prog_1_method_31_code 106 = .ok (.dcmp .l, 1) := by decide +kernel
theorem dX0_fire_107 : decode prog_1_method_31_code 107 = .ok (.ifCond .le 24, 3) := by decide +kernel
theorem dX0_fire_110 : decode prog_1_method_31_code 110 = .ok (.aload_n 0, 1) := by decide +kernel
theorem dX0_fire_111 : decode prog_1_method_31_code 111 = .ok (.getfield 40, 3) := by decide +kernel
theorem dX0_fire_114 : decode prog_1_method_31_code 114 = .ok (.ifCond .ne 17, 3) := by decide +kernel
theorem dX0_fire_117 : decode prog_1_method_31_code 117 = .ok (.aload_n 0, 1) := by decide +kernel
theorem dX0_fire_118 : decode prog_1_method_31_code 118 = .ok (.getfield 32, 3) := by decide +kernel
theorem dX0_fire_121 : decode prog_1_method_31_code 121 = .ok (.aload_n 2, 1) := by decide +kernel
theorem dX0_fire_122 : decode prog_1_method_31_code 122 = .ok (.dload_n 3, 1) := by decide +kernel
theorem dX0_fire_123 : decode prog_1_method_31_code 123 = .ok (.dload 5, 2) := by decide +kernel
theorem dX0_fire_125 : decode prog_1_method_31_code 125 = .ok (.dadd, 1) := by decide +kernel
theorem dX0_fire_126 : decode prog_1_method_31_code 126 = .ok (.dload 5, 2) := by decide +kernel
theorem dX0_fire_128 : decode prog_1_method_31_code 128 = .ok (.invokevirtual 177, 3) := by decide +kernel
theorem dX0_fire_131 : decode prog_1_method_31_code 131 = .ok (.return_, 1) := by decide +kernel
def wpX0_fire (K : KX) (post : gS → Prop) (u : gS) (p1 : Int32) : Prop :=
  ((p1 < 0 → (post u)) ∧ (¬ p1 < 0 → (((p1 < (sI u 6) → (vp_in p1 10 ∧ (∀ r3 : Option Nat, r3 = sQ u 2 p1.toNatClampNeg → (vp_in p1 10 ∧ (∀ x4 : UInt64, x4 = sB u 1 p1.toNatClampNeg → (vp_in p1 10 ∧ (∀ x5 : UInt64, x5 = sB u 2 p1.toNatClampNeg → (wpX3_removeAt K (fun (u7 : gS) => (((Op.cmpValue (FP.dcmp x4 (sD u7 0)) .l) ≤ 0 → (∃ y9 : Nat, r3 = some y9 ∧ y9 ∈ K.2.2.1 ∧ ((((sA u7 0 y9) = 3 → (∀ u12 : gS, u12 = tA u7 0 y9 0 → (((¬ (sA u12 0 y9) = 0 → ((((Op.cmpValue (FP.dcmp x5 FP.dconst0) .l) ≤ 0 → (post u12)) ∧ (¬ (Op.cmpValue (FP.dcmp x5 FP.dconst0) .l) ≤ 0 → (((¬ (sI u12 0) = 0 → (post u12)) ∧ ((sI u12 0) = 0 → (vf_n64 (FP.dadd x4 x5) ∧ (wpX3_put K (fun (u17 : gS) => post u17) u12 y9 (FP.dadd x4 x5) x5))))))))) ∧ ((sA u12 0 y9) = 0 → (wpX0_admit 26 K (fun (u19 : gS) => (((Op.cmpValue (FP.dcmp x5 FP.dconst0) .l) ≤ 0 → (post u19)) ∧ (¬ (Op.cmpValue (FP.dcmp x5 FP.dconst0) .l) ≤ 0 → (((¬ (sI u19 0) = 0 → (post u19)) ∧ ((sI u19 0) = 0 → (vf_n64 (FP.dadd x4 x5) ∧ (wpX3_put K (fun (u23 : gS) => post u23) u19 y9 (FP.dadd x4 x5) x5)))))))) u12 y9 0)))))) ∧ (¬ (sA u7 0 y9) = 3 → (((¬ (sA u7 0 y9) = 4 → (((¬ (sA u7 0 y9) = 0 → ((((Op.cmpValue (FP.dcmp x5 FP.dconst0) .l) ≤ 0 → (post u7)) ∧ (¬ (Op.cmpValue (FP.dcmp x5 FP.dconst0) .l) ≤ 0 → (((¬ (sI u7 0) = 0 → (post u7)) ∧ ((sI u7 0) = 0 → (vf_n64 (FP.dadd x4 x5) ∧ (wpX3_put K (fun (u29 : gS) => post u29) u7 y9 (FP.dadd x4 x5) x5))))))))) ∧ ((sA u7 0 y9) = 0 → (wpX0_admit 26 K (fun (u31 : gS) => (((Op.cmpValue (FP.dcmp x5 FP.dconst0) .l) ≤ 0 → (post u31)) ∧ (¬ (Op.cmpValue (FP.dcmp x5 FP.dconst0) .l) ≤ 0 → (((¬ (sI u31 0) = 0 → (post u31)) ∧ ((sI u31 0) = 0 → (vf_n64 (FP.dadd x4 x5) ∧ (wpX3_put K (fun (u35 : gS) => post u35) u31 y9 (FP.dadd x4 x5) x5)))))))) u7 y9 0))))) ∧ ((sA u7 0 y9) = 4 → (∀ u36 : gS, u36 = tA u7 0 y9 0 → (((¬ (sA u36 0 y9) = 0 → ((((Op.cmpValue (FP.dcmp x5 FP.dconst0) .l) ≤ 0 → (post u36)) ∧ (¬ (Op.cmpValue (FP.dcmp x5 FP.dconst0) .l) ≤ 0 → (((¬ (sI u36 0) = 0 → (post u36)) ∧ ((sI u36 0) = 0 → (vf_n64 (FP.dadd x4 x5) ∧ (wpX3_put K (fun (u41 : gS) => post u41) u36 y9 (FP.dadd x4 x5) x5))))))))) ∧ ((sA u36 0 y9) = 0 → (wpX0_admit 26 K (fun (u43 : gS) => (((Op.cmpValue (FP.dcmp x5 FP.dconst0) .l) ≤ 0 → (post u43)) ∧ (¬ (Op.cmpValue (FP.dcmp x5 FP.dconst0) .l) ≤ 0 → (((¬ (sI u43 0) = 0 → (post u43)) ∧ ((sI u43 0) = 0 → (vf_n64 (FP.dadd x4 x5) ∧ (wpX3_put K (fun (u47 : gS) => post u47) u43 y9 (FP.dadd x4 x5) x5)))))))) u36 y9 0))))))))))))) ∧ (¬ (Op.cmpValue (FP.dcmp x4 (sD u7 0)) .l) ≤ 0 → (∀ u48 : gS, u48 = tD u7 0 x4 → (∃ y49 : Nat, r3 = some y49 ∧ y49 ∈ K.2.2.1 ∧ ((((sA u48 0 y49) = 3 → (∀ u52 : gS, u52 = tA u48 0 y49 0 → (((¬ (sA u52 0 y49) = 0 → ((((Op.cmpValue (FP.dcmp x5 FP.dconst0) .l) ≤ 0 → (post u52)) ∧ (¬ (Op.cmpValue (FP.dcmp x5 FP.dconst0) .l) ≤ 0 → (((¬ (sI u52 0) = 0 → (post u52)) ∧ ((sI u52 0) = 0 → (vf_n64 (FP.dadd x4 x5) ∧ (wpX3_put K (fun (u57 : gS) => post u57) u52 y49 (FP.dadd x4 x5) x5))))))))) ∧ ((sA u52 0 y49) = 0 → (wpX0_admit 26 K (fun (u59 : gS) => (((Op.cmpValue (FP.dcmp x5 FP.dconst0) .l) ≤ 0 → (post u59)) ∧ (¬ (Op.cmpValue (FP.dcmp x5 FP.dconst0) .l) ≤ 0 → (((¬ (sI u59 0) = 0 → (post u59)) ∧ ((sI u59 0) = 0 → (vf_n64 (FP.dadd x4 x5) ∧ (wpX3_put K (fun (u63 : gS) => post u63) u59 y49 (FP.dadd x4 x5) x5)))))))) u52 y49 0)))))) ∧ (¬ (sA u48 0 y49) = 3 → (((¬ (sA u48 0 y49) = 4 → (((¬ (sA u48 0 y49) = 0 → ((((Op.cmpValue (FP.dcmp x5 FP.dconst0) .l) ≤ 0 → (post u48)) ∧ (¬ (Op.cmpValue (FP.dcmp x5 FP.dconst0) .l) ≤ 0 → (((¬ (sI u48 0) = 0 → (post u48)) ∧ ((sI u48 0) = 0 → (vf_n64 (FP.dadd x4 x5) ∧ (wpX3_put K (fun (u69 : gS) => post u69) u48 y49 (FP.dadd x4 x5) x5))))))))) ∧ ((sA u48 0 y49) = 0 → (wpX0_admit 26 K (fun (u71 : gS) => (((Op.cmpValue (FP.dcmp x5 FP.dconst0) .l) ≤ 0 → (post u71)) ∧ (¬ (Op.cmpValue (FP.dcmp x5 FP.dconst0) .l) ≤ 0 → (((¬ (sI u71 0) = 0 → (post u71)) ∧ ((sI u71 0) = 0 → (vf_n64 (FP.dadd x4 x5) ∧ (wpX3_put K (fun (u75 : gS) => post u75) u71 y49 (FP.dadd x4 x5) x5)))))))) u48 y49 0))))) ∧ ((sA u48 0 y49) = 4 → (∀ u76 : gS, u76 = tA u48 0 y49 0 → (((¬ (sA u76 0 y49) = 0 → ((((Op.cmpValue (FP.dcmp x5 FP.dconst0) .l) ≤ 0 → (post u76)) ∧ (¬ (Op.cmpValue (FP.dcmp x5 FP.dconst0) .l) ≤ 0 → (((¬ (sI u76 0) = 0 → (post u76)) ∧ ((sI u76 0) = 0 → (vf_n64 (FP.dadd x4 x5) ∧ (wpX3_put K (fun (u81 : gS) => post u81) u76 y49 (FP.dadd x4 x5) x5))))))))) ∧ ((sA u76 0 y49) = 0 → (wpX0_admit 26 K (fun (u83 : gS) => (((Op.cmpValue (FP.dcmp x5 FP.dconst0) .l) ≤ 0 → (post u83)) ∧ (¬ (Op.cmpValue (FP.dcmp x5 FP.dconst0) .l) ≤ 0 → (((¬ (sI u83 0) = 0 → (post u83)) ∧ ((sI u83 0) = 0 → (vf_n64 (FP.dadd x4 x5) ∧ (wpX3_put K (fun (u87 : gS) => post u87) u83 y49 (FP.dadd x4 x5) x5)))))))) u76 y49 0)))))))))))))))) u p1)))))))) ∧ (¬ p1 < (sI u 6) → (post u))))))

set_option maxHeartbeats 8000000 in
set_option maxRecDepth 100000 in
theorem cX0_fire (l : Launch) (dC : Nat → ClassId) (dI : Nat → Nat → Nat) (ad : Nat → Nat) (ca : Nat → ClassId) (K : KX) (sz : Nat) (u : gS) (p1 : Int32) (post : gS → Prop)  (h : wpX0_fire K post u p1) : Met l ⟨"WorkHall", "fire", "(I)V"⟩ (gw ⟨"WorkHall", "fire", "(I)V"⟩ prog_1_method_31_code 7 none) ({ frames := 109, cells := 0, slots := 0, locals := 4360 } : Room) (va_Pc [.ref (ad 0), .int p1] (gB (dC, dI) vwCl (xT ca) xE (wX ad ca K u) sz)) (va_Qv post (gAt (dC, dI) vwCl (xT ca) (wX ad ca K) (va_A (wX ad ca K u) sz)) (va_A (wX ad ca K u) sz)) 0 0 (va_A (wX ad ca K u) sz) := by
  refine Met.ofW (cc := prog_1_method_31_code) (maxL := 7) (ret := none) (by decide) rfl ?_
  intro p e s m args below meth c s₁ B hml hv
  obtain ⟨rfl, hsz, hP, hK, hD0, hE⟩ := hv
  have hx := B.exec
  have hb := B.bytes
  have hr := B.returns
  have hts : ∀ w ∈ gW, w.before _ s = true := fun w h9 => atoms_spec (ws := (gw ⟨"WorkHall", "fire", "(I)V"⟩ prog_1_method_31_code 7 none)) B.pre w (List.mem_cons_of_mem _ h9)
  have hown : s.vm.findClass RX0 = some m.cls := findClass_of_methodNamed B.named
  have hlocks := B.notSynchronized
  subst hsz
  have hD := hD0.self (sz := s.heap.size)
  generalize hAe : va_A (wX ad ca K u) s.heap.size = A at hD hE ⊢
  have hA : ∀ q : Nat, s.heap.size ≤ q → A q := fun q h => by rw [← hAe]; exact Or.inr h
  obtain ⟨H, hHe⟩ : ∃ z : Heap, z = s.heap := ⟨_, rfl⟩
  rw [← hHe]
  have hS : va_S A s.heap H [] := by rw [hHe]; exact va_S.rf
  have hP : va_P (dC, dI) vwCl (wX ad ca K u) H := by rw [hHe]; exact hP
  have hl := lv_entry ([.ref (ad 0), .int p1]) (n := 7) (Nat.le_of_ble_eq_true rfl)
  rw [lg_entry_eq]
  generalize (lg_sl ([.ref (ad 0), .int p1]) ++ List.replicate (7 - (lg_sl ([.ref (ad 0), .int p1])).length) Slot.unset).toArray = ls at hl ⊢
  have hl : lv_has ls 7 [(0, .ref (ad 0)), (1, .int p1)] := hl
  clear hAe
  refine lv_iload_n hx hb dX0_fire_0 rfl (lv_at hl 1 rfl) ?_
  refine lv_if_lt (tgt := 15) hx hb dX0_fire_1 (by decide) (fun c1 => ?_) (fun c1 => ?_)
  · have h := h.1 c1
    exact gr_v (w := wX ad ca K) (u := u) hx hb hr hlocks h hP hK hD hS dX0_fire_15
  · have h := h.2 c1
    refine lv_iload_n hx hb dX0_fire_4 rfl (lv_at hl 1 rfl) ?_
    refine lv_aload_n hx hb dX0_fire_5 rfl (lv_at hl 0 rfl) ?_
    refine va_get (D := (dC, dI)) (ci := 0) (v := .ref (ad 7)) (C := RX0) (T := TX0) (N := 12) hx hb hts uwX0 hown hK hP 0 rfl rfl 7 (by decide) (hts _ wd_179) (fun _ h9 => h9) rfl dX0_fire_6 ?_
    refine va_get (D := (dC, dI)) (ci := 3) (v := .int (sI u 6)) (C := RX3) (T := TX3) (N := 4) hx hb hts uwX3 hown hK hP 7 rfl rfl 3 (by decide) (hts _ wd_153) (fun _ h9 => h9) rfl dX0_fire_9 ?_
    refine lv_icmp_lt (tgt := 16) hx hb dX0_fire_12 (by decide) (fun c2 => ?_) (fun c2 => ?_)
    · have h := h.1 c2
      refine lv_aload_n hx hb dX0_fire_16 rfl (lv_at hl 0 rfl) ?_
      refine va_get (D := (dC, dI)) (ci := 0) (v := .ref (ad 7)) (C := RX0) (T := TX0) (N := 12) hx hb hts uwX0 hown hK hP 0 rfl rfl 7 (by decide) (hts _ wd_179) (fun _ h9 => h9) rfl dX0_fire_17 ?_
      refine va_get (D := (dC, dI)) (ci := 3) (v := .ref (ad 8)) (C := RX3) (T := TX3) (N := 4) hx hb hts uwX3 hown hK hP 7 rfl rfl 0 (by decide) (hts _ wd_147) (fun _ h9 => h9) rfl dX0_fire_20 ?_
      refine lv_iload_n hx hb dX0_fire_23 rfl (lv_at hl 1 rfl) ?_
      refine va_aldq (C := RX5) hx hb hK hP 8 0 rfl rfl h.1 dX0_fire_24 ?_
      have h := h.2
      refine gq_top (fun r3 er3 => ?_)
      have h := h r3 er3
      refine gq_astore_n (r := r3) (lv' := [(2, va_rf r3), (0, .ref (ad 0)), (1, .int p1)]) hx hb dX0_fire_25 rfl hl (by decide) rfl (fun ls hl => ?_)
      refine lv_aload_n hx hb dX0_fire_26 rfl (lv_at hl 1 rfl) ?_
      refine va_get (D := (dC, dI)) (ci := 0) (v := .ref (ad 7)) (C := RX0) (T := TX0) (N := 12) hx hb hts uwX0 hown hK hP 0 rfl rfl 7 (by decide) (hts _ wd_179) (fun _ h9 => h9) rfl dX0_fire_27 ?_
      refine va_get (D := (dC, dI)) (ci := 3) (v := .ref (ad 9)) (C := RX3) (T := TX3) (N := 4) hx hb hts uwX3 hown hK hP 7 rfl rfl 1 (by decide) (hts _ wd_149) (fun _ h9 => h9) rfl dX0_fire_30 ?_
      refine lv_iload_n hx hb dX0_fire_33 rfl (lv_at hl 2 rfl) ?_
      refine va_dald hx hb hK hP 9 2 rfl rfl h.1 dX0_fire_34 ?_
      have h := h.2
      refine lv_topd (fun x4 ex4 => ?_)
      have h := h x4 ex4
      refine lv_dstore_n (lv' := [(3, .double x4), (2, va_rf r3), (0, .ref (ad 0)), (1, .int p1)]) hx hb dX0_fire_35 rfl hl (by decide) (by cases r3 <;> rfl) (fun ls hl => ?_)
      refine lv_aload_n hx hb dX0_fire_36 rfl (lv_at hl 2 rfl) ?_
      refine va_get (D := (dC, dI)) (ci := 0) (v := .ref (ad 7)) (C := RX0) (T := TX0) (N := 12) hx hb hts uwX0 hown hK hP 0 rfl rfl 7 (by decide) (hts _ wd_179) (fun _ h9 => h9) rfl dX0_fire_37 ?_
      refine va_get (D := (dC, dI)) (ci := 3) (v := .ref (ad 10)) (C := RX3) (T := TX3) (N := 4) hx hb hts uwX3 hown hK hP 7 rfl rfl 2 (by decide) (hts _ wd_151) (fun _ h9 => h9) rfl dX0_fire_40 ?_
      refine lv_iload_n hx hb dX0_fire_43 rfl (lv_at hl 3 rfl) ?_
      refine va_dald hx hb hK hP 10 2 rfl rfl h.1 dX0_fire_44 ?_
      have h := h.2
      refine lv_topd (fun x5 ex5 => ?_)
      have h := h x5 ex5
      refine lv_dstore (lv' := [(5, .double x5), (3, .double x4), (2, va_rf r3), (0, .ref (ad 0)), (1, .int p1)]) hx hb dX0_fire_45 hl (by decide) rfl (fun ls hl => ?_)
      refine lv_aload_n hx hb dX0_fire_47 rfl (lv_at hl 3 rfl) ?_
      refine va_get (D := (dC, dI)) (ci := 0) (v := .ref (ad 7)) (C := RX0) (T := TX0) (N := 12) hx hb hts uwX0 hown hK hP 0 rfl rfl 7 (by decide) (hts _ wd_179) (fun _ h9 => h9) rfl dX0_fire_48 ?_
      refine lv_iload_n hx hb dX0_fire_51 rfl (lv_at hl 4 rfl) ?_
      refine gc_v (w := wX ad ca K) (u := u) (va_runV (As := [.int p1]) (rest := []) ⟨hx, hb, hml, hown, hts⟩ (cX3_removeAt l dC dI ad ca K H.size u p1 _ h) (cwV 1 hts (gG_V wd_625 wd_626 wd_627 wd_50 wd_628) rfl rfl rfl (by decide +kernel) ⟨Nat.le_of_ble_eq_true rfl, Nat.le_of_ble_eq_true rfl⟩) ⟨gB_blind xE_ok, va_recv hK hP (ci := 3) (q0 := 7) rfl rfl, gB_pre xE_ok hP hK hD hE hS hA⟩ rfl rfl hl.1 rfl (lv_room (Nat.le_of_ble_eq_true rfl)) dX0_fire_52 ⟨Nat.le_of_ble_eq_true rfl, Nat.le_of_ble_eq_true rfl⟩) hD hS hA (fun u7 H locs h hP hD hS => ?_)
      refine lv_dload_n hx hb dX0_fire_55 rfl (lv_at hl 1 rfl) ?_
      refine lv_aload_n hx hb dX0_fire_56 rfl (lv_at hl 3 rfl) ?_
      refine va_get (D := (dC, dI)) (ci := 0) (v := .double (sD u7 0)) (C := RX0) (T := TX0) (N := 12) hx hb hts uwX0 hown hK hP 0 rfl rfl 11 (by decide) (hts _ wd_183) (fun _ h9 => h9) rfl dX0_fire_57 ?_
      refine lv_dcmp hx hb dX0_fire_60 ?_
      refine lv_if_le (tgt := 69) hx hb dX0_fire_61 (by decide) (fun c8 => ?_) (fun c8 => ?_)
      · have h := h.1 c8
        refine gq_aload_n (r := r3) hx hb dX0_fire_69 rfl (lv_at hl 2 rfl) ?_
        obtain ⟨y9, rfl, hy10, h⟩ := h
        obtain ⟨k9, hk9⟩ := xJ_get hy10
        refine va_get (D := (dC, dI)) (ci := 5) (v := .int (sA u7 0 y9)) (C := RX5) (T := TX5) (N := 9) hx hb hts uwX5 hown hK hP k9 hk9 rfl 5 (by decide) (hts _ wd_327) (fun _ h9 => h9) rfl dX0_fire_70 ?_
        refine lv_iconst (v := 3) hx hb dX0_fire_73 (by decide) ?_
        refine lv_icmp_eq (tgt := 85) hx hb dX0_fire_74 (by decide) (fun c11 => ?_) (fun c11 => ?_)
        · have h := h.1 c11
          refine lv_aload_n hx hb dX0_fire_85 rfl (lv_at hl 2 rfl) ?_
          refine lv_iconst (v := 0) hx hb dX0_fire_86 (by decide) ?_
          obtain ⟨k9, hk9⟩ := xJ_get hy10
          have e9 := xJ_state (v := 0) hD hy10 hk9
          refine va_put (D := (dC, dI)) (ci := 5) (v := .int 0) (ty := tyX5 5) (C := RX5) (T := TX5) (N := 9) hx hb hts uwX5 tyX5 tyX5_ok nmX5 hown hK hP hD hS k9 hk9 rfl 5 (by decide) (hts _ wd_327) (fun _ h9 => h9) rfl (tyX5_ok 5 (by decide)) rfl rfl (Nat.le_of_ble_eq_true rfl) dX0_fire_87 (fun H locs hP hD hS => ?_)
          obtain ⟨u12, eu12⟩ : ∃ z : gS, z = tA u7 0 y9 0 := ⟨_, rfl⟩
          have hP : va_P (dC, dI) vwCl (wX ad ca K u12) H := by rw [eu12, ← e9]; exact hP
          have hD : va_D A (wX ad ca K u12) := by rw [eu12, ← e9]; exact hD
          have h := h u12 eu12
          refine lv_aload_n hx hb dX0_fire_90 rfl (lv_at hl 2 rfl) ?_
          obtain ⟨k9, hk9⟩ := xJ_get hy10
          refine va_get (D := (dC, dI)) (ci := 5) (v := .int (sA u12 0 y9)) (C := RX5) (T := TX5) (N := 9) hx hb hts uwX5 hown hK hP k9 hk9 rfl 5 (by decide) (hts _ wd_327) (fun _ h9 => h9) rfl dX0_fire_91 ?_
          refine lv_if_ne (tgt := 103) hx hb dX0_fire_94 (by decide) (fun c13 => ?_) (fun c13 => ?_)
          · have h := h.1 c13
            refine lv_dload hx hb dX0_fire_103 (lv_at hl 0 rfl) ?_
            refine lv_dconst0 hx hb dX0_fire_105 ?_
            refine lv_dcmp hx hb dX0_fire_106 ?_
            refine lv_if_le (tgt := 131) hx hb dX0_fire_107 (by decide) (fun c14 => ?_) (fun c14 => ?_)
            · have h := h.1 c14
              exact gr_v (w := wX ad ca K) (u := u12) hx hb hr hlocks h hP hK hD hS dX0_fire_131
            · have h := h.2 c14
              refine lv_aload_n hx hb dX0_fire_110 rfl (lv_at hl 3 rfl) ?_
              refine va_get (D := (dC, dI)) (ci := 0) (v := .int (sI u12 0)) (C := RX0) (T := TX0) (N := 12) hx hb hts uwX0 hown hK hP 0 rfl rfl 9 (by decide) (hts _ wd_181) (fun _ h9 => h9) rfl dX0_fire_111 ?_
              refine lv_if_ne (tgt := 131) hx hb dX0_fire_114 (by decide) (fun c15 => ?_) (fun c15 => ?_)
              · have h := h.1 c15
                exact gr_v (w := wX ad ca K) (u := u12) hx hb hr hlocks h hP hK hD hS dX0_fire_131
              · have h := h.2 c15
                refine lv_aload_n hx hb dX0_fire_117 rfl (lv_at hl 3 rfl) ?_
                refine va_get (D := (dC, dI)) (ci := 0) (v := .ref (ad 7)) (C := RX0) (T := TX0) (N := 12) hx hb hts uwX0 hown hK hP 0 rfl rfl 7 (by decide) (hts _ wd_179) (fun _ h9 => h9) rfl dX0_fire_118 ?_
                refine lv_aload_n hx hb dX0_fire_121 rfl (lv_at hl 2 rfl) ?_
                refine lv_dload_n hx hb dX0_fire_122 rfl (lv_at hl 1 rfl) ?_
                refine lv_dload hx hb dX0_fire_123 (lv_at hl 0 rfl) ?_
                refine lv_dadd hx hb dX0_fire_125 h.1 ?_
                have h := h.2
                refine lv_dload hx hb dX0_fire_126 (lv_at hl 0 rfl) ?_
                refine gc_v (w := wX ad ca K) (u := u12) (va_runV (As := [.ref y9, .double (FP.dadd x4 x5), .double x5]) (rest := []) ⟨hx, hb, hml, hown, hts⟩ (cX3_put l dC dI ad ca K H.size u12 y9 (FP.dadd x4 x5) x5 _ hy10 h) (cwV 3 hts (gG_V wd_601 wd_602 wd_603 wd_50 wd_604) rfl rfl rfl (by decide +kernel) ⟨Nat.le_of_ble_eq_true rfl, Nat.le_of_ble_eq_true rfl⟩) ⟨gB_blind xE_ok, va_recv hK hP (ci := 3) (q0 := 7) rfl rfl, gB_pre xE_ok hP hK hD hE hS hA⟩ rfl rfl hl.1 rfl (lv_room (Nat.le_of_ble_eq_true rfl)) dX0_fire_128 ⟨Nat.le_of_ble_eq_true rfl, Nat.le_of_ble_eq_true rfl⟩) hD hS hA (fun u17 H locs h hP hD hS => ?_)
                exact gr_v (w := wX ad ca K) (u := u17) hx hb hr hlocks h hP hK hD hS dX0_fire_131
          · have h := h.2 c13
            refine lv_aload_n hx hb dX0_fire_97 rfl (lv_at hl 3 rfl) ?_
            refine lv_aload_n hx hb dX0_fire_98 rfl (lv_at hl 2 rfl) ?_
            refine lv_iconst (v := 0) hx hb dX0_fire_99 (by decide) ?_
            refine gc_v (w := wX ad ca K) (u := u12) (va_runV (As := [.ref y9, .int 0]) (rest := []) ⟨hx, hb, hml, hown, hts⟩ (cX0_admit l dC dI ad ca K 26 H.size u12 y9 0 _ hy10 h) (cwV 2 hts (gG_V wd_389 wd_391 wd_3 wd_46 wd_392) rfl rfl rfl (by decide +kernel) ⟨Nat.le_of_ble_eq_true rfl, Nat.le_of_ble_eq_true rfl⟩) ⟨gB_blind xE_ok, va_recv hK hP (ci := 0) (q0 := 0) rfl rfl, gB_pre xE_ok hP hK hD hE hS hA⟩ rfl rfl hl.1 rfl (lv_room (Nat.le_of_ble_eq_true rfl)) dX0_fire_100 ⟨Nat.le_of_ble_eq_true rfl, Nat.le_of_ble_eq_true rfl⟩) hD hS hA (fun u19 H locs h hP hD hS => ?_)
            refine lv_dload hx hb dX0_fire_103 (lv_at hl 0 rfl) ?_
            refine lv_dconst0 hx hb dX0_fire_105 ?_
            refine lv_dcmp hx hb dX0_fire_106 ?_
            refine lv_if_le (tgt := 131) hx hb dX0_fire_107 (by decide) (fun c20 => ?_) (fun c20 => ?_)
            · have h := h.1 c20
              exact gr_v (w := wX ad ca K) (u := u19) hx hb hr hlocks h hP hK hD hS dX0_fire_131
            · have h := h.2 c20
              refine lv_aload_n hx hb dX0_fire_110 rfl (lv_at hl 3 rfl) ?_
              refine va_get (D := (dC, dI)) (ci := 0) (v := .int (sI u19 0)) (C := RX0) (T := TX0) (N := 12) hx hb hts uwX0 hown hK hP 0 rfl rfl 9 (by decide) (hts _ wd_181) (fun _ h9 => h9) rfl dX0_fire_111 ?_
              refine lv_if_ne (tgt := 131) hx hb dX0_fire_114 (by decide) (fun c21 => ?_) (fun c21 => ?_)
              · have h := h.1 c21
                exact gr_v (w := wX ad ca K) (u := u19) hx hb hr hlocks h hP hK hD hS dX0_fire_131
              · have h := h.2 c21
                refine lv_aload_n hx hb dX0_fire_117 rfl (lv_at hl 3 rfl) ?_
                refine va_get (D := (dC, dI)) (ci := 0) (v := .ref (ad 7)) (C := RX0) (T := TX0) (N := 12) hx hb hts uwX0 hown hK hP 0 rfl rfl 7 (by decide) (hts _ wd_179) (fun _ h9 => h9) rfl dX0_fire_118 ?_
                refine lv_aload_n hx hb dX0_fire_121 rfl (lv_at hl 2 rfl) ?_
                refine lv_dload_n hx hb dX0_fire_122 rfl (lv_at hl 1 rfl) ?_
                refine lv_dload hx hb dX0_fire_123 (lv_at hl 0 rfl) ?_
                refine lv_dadd hx hb dX0_fire_125 h.1 ?_
                have h := h.2
                refine lv_dload hx hb dX0_fire_126 (lv_at hl 0 rfl) ?_
                refine gc_v (w := wX ad ca K) (u := u19) (va_runV (As := [.ref y9, .double (FP.dadd x4 x5), .double x5]) (rest := []) ⟨hx, hb, hml, hown, hts⟩ (cX3_put l dC dI ad ca K H.size u19 y9 (FP.dadd x4 x5) x5 _ hy10 h) (cwV 3 hts (gG_V wd_601 wd_602 wd_603 wd_50 wd_604) rfl rfl rfl (by decide +kernel) ⟨Nat.le_of_ble_eq_true rfl, Nat.le_of_ble_eq_true rfl⟩) ⟨gB_blind xE_ok, va_recv hK hP (ci := 3) (q0 := 7) rfl rfl, gB_pre xE_ok hP hK hD hE hS hA⟩ rfl rfl hl.1 rfl (lv_room (Nat.le_of_ble_eq_true rfl)) dX0_fire_128 ⟨Nat.le_of_ble_eq_true rfl, Nat.le_of_ble_eq_true rfl⟩) hD hS hA (fun u23 H locs h hP hD hS => ?_)
                exact gr_v (w := wX ad ca K) (u := u23) hx hb hr hlocks h hP hK hD hS dX0_fire_131
        · have h := h.2 c11
          refine lv_aload_n hx hb dX0_fire_77 rfl (lv_at hl 2 rfl) ?_
          obtain ⟨k9, hk9⟩ := xJ_get hy10
          refine va_get (D := (dC, dI)) (ci := 5) (v := .int (sA u7 0 y9)) (C := RX5) (T := TX5) (N := 9) hx hb hts uwX5 hown hK hP k9 hk9 rfl 5 (by decide) (hts _ wd_327) (fun _ h9 => h9) rfl dX0_fire_78 ?_
          refine lv_iconst (v := 4) hx hb dX0_fire_81 (by decide) ?_
          refine lv_icmp_ne (tgt := 90) hx hb dX0_fire_82 (by decide) (fun c24 => ?_) (fun c24 => ?_)
          · have h := h.1 c24
            refine lv_aload_n hx hb dX0_fire_90 rfl (lv_at hl 2 rfl) ?_
            obtain ⟨k9, hk9⟩ := xJ_get hy10
            refine va_get (D := (dC, dI)) (ci := 5) (v := .int (sA u7 0 y9)) (C := RX5) (T := TX5) (N := 9) hx hb hts uwX5 hown hK hP k9 hk9 rfl 5 (by decide) (hts _ wd_327) (fun _ h9 => h9) rfl dX0_fire_91 ?_
            refine lv_if_ne (tgt := 103) hx hb dX0_fire_94 (by decide) (fun c25 => ?_) (fun c25 => ?_)
            · have h := h.1 c25
              refine lv_dload hx hb dX0_fire_103 (lv_at hl 0 rfl) ?_
              refine lv_dconst0 hx hb dX0_fire_105 ?_
              refine lv_dcmp hx hb dX0_fire_106 ?_
              refine lv_if_le (tgt := 131) hx hb dX0_fire_107 (by decide) (fun c26 => ?_) (fun c26 => ?_)
              · have h := h.1 c26
                exact gr_v (w := wX ad ca K) (u := u7) hx hb hr hlocks h hP hK hD hS dX0_fire_131
              · have h := h.2 c26
                refine lv_aload_n hx hb dX0_fire_110 rfl (lv_at hl 3 rfl) ?_
                refine va_get (D := (dC, dI)) (ci := 0) (v := .int (sI u7 0)) (C := RX0) (T := TX0) (N := 12) hx hb hts uwX0 hown hK hP 0 rfl rfl 9 (by decide) (hts _ wd_181) (fun _ h9 => h9) rfl dX0_fire_111 ?_
                refine lv_if_ne (tgt := 131) hx hb dX0_fire_114 (by decide) (fun c27 => ?_) (fun c27 => ?_)
                · have h := h.1 c27
                  exact gr_v (w := wX ad ca K) (u := u7) hx hb hr hlocks h hP hK hD hS dX0_fire_131
                · have h := h.2 c27
                  refine lv_aload_n hx hb dX0_fire_117 rfl (lv_at hl 3 rfl) ?_
                  refine va_get (D := (dC, dI)) (ci := 0) (v := .ref (ad 7)) (C := RX0) (T := TX0) (N := 12) hx hb hts uwX0 hown hK hP 0 rfl rfl 7 (by decide) (hts _ wd_179) (fun _ h9 => h9) rfl dX0_fire_118 ?_
                  refine lv_aload_n hx hb dX0_fire_121 rfl (lv_at hl 2 rfl) ?_
                  refine lv_dload_n hx hb dX0_fire_122 rfl (lv_at hl 1 rfl) ?_
                  refine lv_dload hx hb dX0_fire_123 (lv_at hl 0 rfl) ?_
                  refine lv_dadd hx hb dX0_fire_125 h.1 ?_
                  have h := h.2
                  refine lv_dload hx hb dX0_fire_126 (lv_at hl 0 rfl) ?_
                  refine gc_v (w := wX ad ca K) (u := u7) (va_runV (As := [.ref y9, .double (FP.dadd x4 x5), .double x5]) (rest := []) ⟨hx, hb, hml, hown, hts⟩ (cX3_put l dC dI ad ca K H.size u7 y9 (FP.dadd x4 x5) x5 _ hy10 h) (cwV 3 hts (gG_V wd_601 wd_602 wd_603 wd_50 wd_604) rfl rfl rfl (by decide +kernel) ⟨Nat.le_of_ble_eq_true rfl, Nat.le_of_ble_eq_true rfl⟩) ⟨gB_blind xE_ok, va_recv hK hP (ci := 3) (q0 := 7) rfl rfl, gB_pre xE_ok hP hK hD hE hS hA⟩ rfl rfl hl.1 rfl (lv_room (Nat.le_of_ble_eq_true rfl)) dX0_fire_128 ⟨Nat.le_of_ble_eq_true rfl, Nat.le_of_ble_eq_true rfl⟩) hD hS hA (fun u29 H locs h hP hD hS => ?_)
                  exact gr_v (w := wX ad ca K) (u := u29) hx hb hr hlocks h hP hK hD hS dX0_fire_131
            · have h := h.2 c25
              refine lv_aload_n hx hb dX0_fire_97 rfl (lv_at hl 3 rfl) ?_
              refine lv_aload_n hx hb dX0_fire_98 rfl (lv_at hl 2 rfl) ?_
              refine lv_iconst (v := 0) hx hb dX0_fire_99 (by decide) ?_
              refine gc_v (w := wX ad ca K) (u := u7) (va_runV (As := [.ref y9, .int 0]) (rest := []) ⟨hx, hb, hml, hown, hts⟩ (cX0_admit l dC dI ad ca K 26 H.size u7 y9 0 _ hy10 h) (cwV 2 hts (gG_V wd_389 wd_391 wd_3 wd_46 wd_392) rfl rfl rfl (by decide +kernel) ⟨Nat.le_of_ble_eq_true rfl, Nat.le_of_ble_eq_true rfl⟩) ⟨gB_blind xE_ok, va_recv hK hP (ci := 0) (q0 := 0) rfl rfl, gB_pre xE_ok hP hK hD hE hS hA⟩ rfl rfl hl.1 rfl (lv_room (Nat.le_of_ble_eq_true rfl)) dX0_fire_100 ⟨Nat.le_of_ble_eq_true rfl, Nat.le_of_ble_eq_true rfl⟩) hD hS hA (fun u31 H locs h hP hD hS => ?_)
              refine lv_dload hx hb dX0_fire_103 (lv_at hl 0 rfl) ?_
              refine lv_dconst0 hx hb dX0_fire_105 ?_
              refine lv_dcmp hx hb dX0_fire_106 ?_
              refine lv_if_le (tgt := 131) hx hb dX0_fire_107 (by decide) (fun c32 => ?_) (fun c32 => ?_)
              · have h := h.1 c32
                exact gr_v (w := wX ad ca K) (u := u31) hx hb hr hlocks h hP hK hD hS dX0_fire_131
              · have h := h.2 c32
                refine lv_aload_n hx hb dX0_fire_110 rfl (lv_at hl 3 rfl) ?_
                refine va_get (D := (dC, dI)) (ci := 0) (v := .int (sI u31 0)) (C := RX0) (T := TX0) (N := 12) hx hb hts uwX0 hown hK hP 0 rfl rfl 9 (by decide) (hts _ wd_181) (fun _ h9 => h9) rfl dX0_fire_111 ?_
                refine lv_if_ne (tgt := 131) hx hb dX0_fire_114 (by decide) (fun c33 => ?_) (fun c33 => ?_)
                · have h := h.1 c33
                  exact gr_v (w := wX ad ca K) (u := u31) hx hb hr hlocks h hP hK hD hS dX0_fire_131
                · have h := h.2 c33
                  refine lv_aload_n hx hb dX0_fire_117 rfl (lv_at hl 3 rfl) ?_
                  refine va_get (D := (dC, dI)) (ci := 0) (v := .ref (ad 7)) (C := RX0) (T := TX0) (N := 12) hx hb hts uwX0 hown hK hP 0 rfl rfl 7 (by decide) (hts _ wd_179) (fun _ h9 => h9) rfl dX0_fire_118 ?_
                  refine lv_aload_n hx hb dX0_fire_121 rfl (lv_at hl 2 rfl) ?_
                  refine lv_dload_n hx hb dX0_fire_122 rfl (lv_at hl 1 rfl) ?_
                  refine lv_dload hx hb dX0_fire_123 (lv_at hl 0 rfl) ?_
                  refine lv_dadd hx hb dX0_fire_125 h.1 ?_
                  have h := h.2
                  refine lv_dload hx hb dX0_fire_126 (lv_at hl 0 rfl) ?_
                  refine gc_v (w := wX ad ca K) (u := u31) (va_runV (As := [.ref y9, .double (FP.dadd x4 x5), .double x5]) (rest := []) ⟨hx, hb, hml, hown, hts⟩ (cX3_put l dC dI ad ca K H.size u31 y9 (FP.dadd x4 x5) x5 _ hy10 h) (cwV 3 hts (gG_V wd_601 wd_602 wd_603 wd_50 wd_604) rfl rfl rfl (by decide +kernel) ⟨Nat.le_of_ble_eq_true rfl, Nat.le_of_ble_eq_true rfl⟩) ⟨gB_blind xE_ok, va_recv hK hP (ci := 3) (q0 := 7) rfl rfl, gB_pre xE_ok hP hK hD hE hS hA⟩ rfl rfl hl.1 rfl (lv_room (Nat.le_of_ble_eq_true rfl)) dX0_fire_128 ⟨Nat.le_of_ble_eq_true rfl, Nat.le_of_ble_eq_true rfl⟩) hD hS hA (fun u35 H locs h hP hD hS => ?_)
                  exact gr_v (w := wX ad ca K) (u := u35) hx hb hr hlocks h hP hK hD hS dX0_fire_131
          · have h := h.2 c24
            refine lv_aload_n hx hb dX0_fire_85 rfl (lv_at hl 2 rfl) ?_
            refine lv_iconst (v := 0) hx hb dX0_fire_86 (by decide) ?_
            obtain ⟨k9, hk9⟩ := xJ_get hy10
            have e9 := xJ_state (v := 0) hD hy10 hk9
            refine va_put (D := (dC, dI)) (ci := 5) (v := .int 0) (ty := tyX5 5) (C := RX5) (T := TX5) (N := 9) hx hb hts uwX5 tyX5 tyX5_ok nmX5 hown hK hP hD hS k9 hk9 rfl 5 (by decide) (hts _ wd_327) (fun _ h9 => h9) rfl (tyX5_ok 5 (by decide)) rfl rfl (Nat.le_of_ble_eq_true rfl) dX0_fire_87 (fun H locs hP hD hS => ?_)
            obtain ⟨u36, eu36⟩ : ∃ z : gS, z = tA u7 0 y9 0 := ⟨_, rfl⟩
            have hP : va_P (dC, dI) vwCl (wX ad ca K u36) H := by rw [eu36, ← e9]; exact hP
            have hD : va_D A (wX ad ca K u36) := by rw [eu36, ← e9]; exact hD
            have h := h u36 eu36
            refine lv_aload_n hx hb dX0_fire_90 rfl (lv_at hl 2 rfl) ?_
            obtain ⟨k9, hk9⟩ := xJ_get hy10
            refine va_get (D := (dC, dI)) (ci := 5) (v := .int (sA u36 0 y9)) (C := RX5) (T := TX5) (N := 9) hx hb hts uwX5 hown hK hP k9 hk9 rfl 5 (by decide) (hts _ wd_327) (fun _ h9 => h9) rfl dX0_fire_91 ?_
            refine lv_if_ne (tgt := 103) hx hb dX0_fire_94 (by decide) (fun c37 => ?_) (fun c37 => ?_)
            · have h := h.1 c37
              refine lv_dload hx hb dX0_fire_103 (lv_at hl 0 rfl) ?_
              refine lv_dconst0 hx hb dX0_fire_105 ?_
              refine lv_dcmp hx hb dX0_fire_106 ?_
              refine lv_if_le (tgt := 131) hx hb dX0_fire_107 (by decide) (fun c38 => ?_) (fun c38 => ?_)
              · have h := h.1 c38
                exact gr_v (w := wX ad ca K) (u := u36) hx hb hr hlocks h hP hK hD hS dX0_fire_131
              · have h := h.2 c38
                refine lv_aload_n hx hb dX0_fire_110 rfl (lv_at hl 3 rfl) ?_
                refine va_get (D := (dC, dI)) (ci := 0) (v := .int (sI u36 0)) (C := RX0) (T := TX0) (N := 12) hx hb hts uwX0 hown hK hP 0 rfl rfl 9 (by decide) (hts _ wd_181) (fun _ h9 => h9) rfl dX0_fire_111 ?_
                refine lv_if_ne (tgt := 131) hx hb dX0_fire_114 (by decide) (fun c39 => ?_) (fun c39 => ?_)
                · have h := h.1 c39
                  exact gr_v (w := wX ad ca K) (u := u36) hx hb hr hlocks h hP hK hD hS dX0_fire_131
                · have h := h.2 c39
                  refine lv_aload_n hx hb dX0_fire_117 rfl (lv_at hl 3 rfl) ?_
                  refine va_get (D := (dC, dI)) (ci := 0) (v := .ref (ad 7)) (C := RX0) (T := TX0) (N := 12) hx hb hts uwX0 hown hK hP 0 rfl rfl 7 (by decide) (hts _ wd_179) (fun _ h9 => h9) rfl dX0_fire_118 ?_
                  refine lv_aload_n hx hb dX0_fire_121 rfl (lv_at hl 2 rfl) ?_
                  refine lv_dload_n hx hb dX0_fire_122 rfl (lv_at hl 1 rfl) ?_
                  refine lv_dload hx hb dX0_fire_123 (lv_at hl 0 rfl) ?_
                  refine lv_dadd hx hb dX0_fire_125 h.1 ?_
                  have h := h.2
                  refine lv_dload hx hb dX0_fire_126 (lv_at hl 0 rfl) ?_
                  refine gc_v (w := wX ad ca K) (u := u36) (va_runV (As := [.ref y9, .double (FP.dadd x4 x5), .double x5]) (rest := []) ⟨hx, hb, hml, hown, hts⟩ (cX3_put l dC dI ad ca K H.size u36 y9 (FP.dadd x4 x5) x5 _ hy10 h) (cwV 3 hts (gG_V wd_601 wd_602 wd_603 wd_50 wd_604) rfl rfl rfl (by decide +kernel) ⟨Nat.le_of_ble_eq_true rfl, Nat.le_of_ble_eq_true rfl⟩) ⟨gB_blind xE_ok, va_recv hK hP (ci := 3) (q0 := 7) rfl rfl, gB_pre xE_ok hP hK hD hE hS hA⟩ rfl rfl hl.1 rfl (lv_room (Nat.le_of_ble_eq_true rfl)) dX0_fire_128 ⟨Nat.le_of_ble_eq_true rfl, Nat.le_of_ble_eq_true rfl⟩) hD hS hA (fun u41 H locs h hP hD hS => ?_)
                  exact gr_v (w := wX ad ca K) (u := u41) hx hb hr hlocks h hP hK hD hS dX0_fire_131
            · have h := h.2 c37
              refine lv_aload_n hx hb dX0_fire_97 rfl (lv_at hl 3 rfl) ?_
              refine lv_aload_n hx hb dX0_fire_98 rfl (lv_at hl 2 rfl) ?_
              refine lv_iconst (v := 0) hx hb dX0_fire_99 (by decide) ?_
              refine gc_v (w := wX ad ca K) (u := u36) (va_runV (As := [.ref y9, .int 0]) (rest := []) ⟨hx, hb, hml, hown, hts⟩ (cX0_admit l dC dI ad ca K 26 H.size u36 y9 0 _ hy10 h) (cwV 2 hts (gG_V wd_389 wd_391 wd_3 wd_46 wd_392) rfl rfl rfl (by decide +kernel) ⟨Nat.le_of_ble_eq_true rfl, Nat.le_of_ble_eq_true rfl⟩) ⟨gB_blind xE_ok, va_recv hK hP (ci := 0) (q0 := 0) rfl rfl, gB_pre xE_ok hP hK hD hE hS hA⟩ rfl rfl hl.1 rfl (lv_room (Nat.le_of_ble_eq_true rfl)) dX0_fire_100 ⟨Nat.le_of_ble_eq_true rfl, Nat.le_of_ble_eq_true rfl⟩) hD hS hA (fun u43 H locs h hP hD hS => ?_)
              refine lv_dload hx hb dX0_fire_103 (lv_at hl 0 rfl) ?_
              refine lv_dconst0 hx hb dX0_fire_105 ?_
              refine lv_dcmp hx hb dX0_fire_106 ?_
              refine lv_if_le (tgt := 131) hx hb dX0_fire_107 (by decide) (fun c44 => ?_) (fun c44 => ?_)
              · have h := h.1 c44
                exact gr_v (w := wX ad ca K) (u := u43) hx hb hr hlocks h hP hK hD hS dX0_fire_131
              · have h := h.2 c44
                refine lv_aload_n hx hb dX0_fire_110 rfl (lv_at hl 3 rfl) ?_
                refine va_get (D := (dC, dI)) (ci := 0) (v := .int (sI u43 0)) (C := RX0) (T := TX0) (N := 12) hx hb hts uwX0 hown hK hP 0 rfl rfl 9 (by decide) (hts _ wd_181) (fun _ h9 => h9) rfl dX0_fire_111 ?_
                refine lv_if_ne (tgt := 131) hx hb dX0_fire_114 (by decide) (fun c45 => ?_) (fun c45 => ?_)
                · have h := h.1 c45
                  exact gr_v (w := wX ad ca K) (u := u43) hx hb hr hlocks h hP hK hD hS dX0_fire_131
                · have h := h.2 c45
                  refine lv_aload_n hx hb dX0_fire_117 rfl (lv_at hl 3 rfl) ?_
                  refine va_get (D := (dC, dI)) (ci := 0) (v := .ref (ad 7)) (C := RX0) (T := TX0) (N := 12) hx hb hts uwX0 hown hK hP 0 rfl rfl 7 (by decide) (hts _ wd_179) (fun _ h9 => h9) rfl dX0_fire_118 ?_
                  refine lv_aload_n hx hb dX0_fire_121 rfl (lv_at hl 2 rfl) ?_
                  refine lv_dload_n hx hb dX0_fire_122 rfl (lv_at hl 1 rfl) ?_
                  refine lv_dload hx hb dX0_fire_123 (lv_at hl 0 rfl) ?_
                  refine lv_dadd hx hb dX0_fire_125 h.1 ?_
                  have h := h.2
                  refine lv_dload hx hb dX0_fire_126 (lv_at hl 0 rfl) ?_
                  refine gc_v (w := wX ad ca K) (u := u43) (va_runV (As := [.ref y9, .double (FP.dadd x4 x5), .double x5]) (rest := []) ⟨hx, hb, hml, hown, hts⟩ (cX3_put l dC dI ad ca K H.size u43 y9 (FP.dadd x4 x5) x5 _ hy10 h) (cwV 3 hts (gG_V wd_601 wd_602 wd_603 wd_50 wd_604) rfl rfl rfl (by decide +kernel) ⟨Nat.le_of_ble_eq_true rfl, Nat.le_of_ble_eq_true rfl⟩) ⟨gB_blind xE_ok, va_recv hK hP (ci := 3) (q0 := 7) rfl rfl, gB_pre xE_ok hP hK hD hE hS hA⟩ rfl rfl hl.1 rfl (lv_room (Nat.le_of_ble_eq_true rfl)) dX0_fire_128 ⟨Nat.le_of_ble_eq_true rfl, Nat.le_of_ble_eq_true rfl⟩) hD hS hA (fun u47 H locs h hP hD hS => ?_)
                  exact gr_v (w := wX ad ca K) (u := u47) hx hb hr hlocks h hP hK hD hS dX0_fire_131
      · have h := h.2 c8
        refine lv_aload_n hx hb dX0_fire_64 rfl (lv_at hl 3 rfl) ?_
        refine lv_dload_n hx hb dX0_fire_65 rfl (lv_at hl 1 rfl) ?_
        refine va_put (D := (dC, dI)) (ci := 0) (v := .double x4) (ty := tyX0 11) (C := RX0) (T := TX0) (N := 12) hx hb hts uwX0 tyX0 tyX0_ok nmX0 hown hK hP hD hS 0 rfl rfl 11 (by decide) (hts _ wd_183) (fun _ h9 => h9) rfl (tyX0_ok 11 (by decide)) rfl rfl (Nat.le_of_ble_eq_true rfl) dX0_fire_66 (fun H locs hP hD hS => ?_)
        obtain ⟨u48, eu48⟩ : ∃ z : gS, z = tD u7 0 x4 := ⟨_, rfl⟩
        have hP : va_P (dC, dI) vwCl (wX ad ca K u48) H := by rw [eu48, wX_f0_time]; exact hP
        have hD : va_D A (wX ad ca K u48) := by rw [eu48, wX_f0_time]; exact hD
        have h := h u48 eu48
        refine gq_aload_n (r := r3) hx hb dX0_fire_69 rfl (lv_at hl 2 rfl) ?_
        obtain ⟨y49, rfl, hy50, h⟩ := h
        obtain ⟨k9, hk9⟩ := xJ_get hy50
        refine va_get (D := (dC, dI)) (ci := 5) (v := .int (sA u48 0 y49)) (C := RX5) (T := TX5) (N := 9) hx hb hts uwX5 hown hK hP k9 hk9 rfl 5 (by decide) (hts _ wd_327) (fun _ h9 => h9) rfl dX0_fire_70 ?_
        refine lv_iconst (v := 3) hx hb dX0_fire_73 (by decide) ?_
        refine lv_icmp_eq (tgt := 85) hx hb dX0_fire_74 (by decide) (fun c51 => ?_) (fun c51 => ?_)
        · have h := h.1 c51
          refine lv_aload_n hx hb dX0_fire_85 rfl (lv_at hl 2 rfl) ?_
          refine lv_iconst (v := 0) hx hb dX0_fire_86 (by decide) ?_
          obtain ⟨k9, hk9⟩ := xJ_get hy50
          have e9 := xJ_state (v := 0) hD hy50 hk9
          refine va_put (D := (dC, dI)) (ci := 5) (v := .int 0) (ty := tyX5 5) (C := RX5) (T := TX5) (N := 9) hx hb hts uwX5 tyX5 tyX5_ok nmX5 hown hK hP hD hS k9 hk9 rfl 5 (by decide) (hts _ wd_327) (fun _ h9 => h9) rfl (tyX5_ok 5 (by decide)) rfl rfl (Nat.le_of_ble_eq_true rfl) dX0_fire_87 (fun H locs hP hD hS => ?_)
          obtain ⟨u52, eu52⟩ : ∃ z : gS, z = tA u48 0 y49 0 := ⟨_, rfl⟩
          have hP : va_P (dC, dI) vwCl (wX ad ca K u52) H := by rw [eu52, ← e9]; exact hP
          have hD : va_D A (wX ad ca K u52) := by rw [eu52, ← e9]; exact hD
          have h := h u52 eu52
          refine lv_aload_n hx hb dX0_fire_90 rfl (lv_at hl 2 rfl) ?_
          obtain ⟨k9, hk9⟩ := xJ_get hy50
          refine va_get (D := (dC, dI)) (ci := 5) (v := .int (sA u52 0 y49)) (C := RX5) (T := TX5) (N := 9) hx hb hts uwX5 hown hK hP k9 hk9 rfl 5 (by decide) (hts _ wd_327) (fun _ h9 => h9) rfl dX0_fire_91 ?_
          refine lv_if_ne (tgt := 103) hx hb dX0_fire_94 (by decide) (fun c53 => ?_) (fun c53 => ?_)
          · have h := h.1 c53
            refine lv_dload hx hb dX0_fire_103 (lv_at hl 0 rfl) ?_
            refine lv_dconst0 hx hb dX0_fire_105 ?_
            refine lv_dcmp hx hb dX0_fire_106 ?_
            refine lv_if_le (tgt := 131) hx hb dX0_fire_107 (by decide) (fun c54 => ?_) (fun c54 => ?_)
            · have h := h.1 c54
              exact gr_v (w := wX ad ca K) (u := u52) hx hb hr hlocks h hP hK hD hS dX0_fire_131
            · have h := h.2 c54
              refine lv_aload_n hx hb dX0_fire_110 rfl (lv_at hl 3 rfl) ?_
              refine va_get (D := (dC, dI)) (ci := 0) (v := .int (sI u52 0)) (C := RX0) (T := TX0) (N := 12) hx hb hts uwX0 hown hK hP 0 rfl rfl 9 (by decide) (hts _ wd_181) (fun _ h9 => h9) rfl dX0_fire_111 ?_
              refine lv_if_ne (tgt := 131) hx hb dX0_fire_114 (by decide) (fun c55 => ?_) (fun c55 => ?_)
              · have h := h.1 c55
                exact gr_v (w := wX ad ca K) (u := u52) hx hb hr hlocks h hP hK hD hS dX0_fire_131
              · have h := h.2 c55
                refine lv_aload_n hx hb dX0_fire_117 rfl (lv_at hl 3 rfl) ?_
                refine va_get (D := (dC, dI)) (ci := 0) (v := .ref (ad 7)) (C := RX0) (T := TX0) (N := 12) hx hb hts uwX0 hown hK hP 0 rfl rfl 7 (by decide) (hts _ wd_179) (fun _ h9 => h9) rfl dX0_fire_118 ?_
                refine lv_aload_n hx hb dX0_fire_121 rfl (lv_at hl 2 rfl) ?_
                refine lv_dload_n hx hb dX0_fire_122 rfl (lv_at hl 1 rfl) ?_
                refine lv_dload hx hb dX0_fire_123 (lv_at hl 0 rfl) ?_
                refine lv_dadd hx hb dX0_fire_125 h.1 ?_
                have h := h.2
                refine lv_dload hx hb dX0_fire_126 (lv_at hl 0 rfl) ?_
                refine gc_v (w := wX ad ca K) (u := u52) (va_runV (As := [.ref y49, .double (FP.dadd x4 x5), .double x5]) (rest := []) ⟨hx, hb, hml, hown, hts⟩ (cX3_put l dC dI ad ca K H.size u52 y49 (FP.dadd x4 x5) x5 _ hy50 h) (cwV 3 hts (gG_V wd_601 wd_602 wd_603 wd_50 wd_604) rfl rfl rfl (by decide +kernel) ⟨Nat.le_of_ble_eq_true rfl, Nat.le_of_ble_eq_true rfl⟩) ⟨gB_blind xE_ok, va_recv hK hP (ci := 3) (q0 := 7) rfl rfl, gB_pre xE_ok hP hK hD hE hS hA⟩ rfl rfl hl.1 rfl (lv_room (Nat.le_of_ble_eq_true rfl)) dX0_fire_128 ⟨Nat.le_of_ble_eq_true rfl, Nat.le_of_ble_eq_true rfl⟩) hD hS hA (fun u57 H locs h hP hD hS => ?_)
                exact gr_v (w := wX ad ca K) (u := u57) hx hb hr hlocks h hP hK hD hS dX0_fire_131
          · have h := h.2 c53
            refine lv_aload_n hx hb dX0_fire_97 rfl (lv_at hl 3 rfl) ?_
            refine lv_aload_n hx hb dX0_fire_98 rfl (lv_at hl 2 rfl) ?_
            refine lv_iconst (v := 0) hx hb dX0_fire_99 (by decide) ?_
            refine gc_v (w := wX ad ca K) (u := u52) (va_runV (As := [.ref y49, .int 0]) (rest := []) ⟨hx, hb, hml, hown, hts⟩ (cX0_admit l dC dI ad ca K 26 H.size u52 y49 0 _ hy50 h) (cwV 2 hts (gG_V wd_389 wd_391 wd_3 wd_46 wd_392) rfl rfl rfl (by decide +kernel) ⟨Nat.le_of_ble_eq_true rfl, Nat.le_of_ble_eq_true rfl⟩) ⟨gB_blind xE_ok, va_recv hK hP (ci := 0) (q0 := 0) rfl rfl, gB_pre xE_ok hP hK hD hE hS hA⟩ rfl rfl hl.1 rfl (lv_room (Nat.le_of_ble_eq_true rfl)) dX0_fire_100 ⟨Nat.le_of_ble_eq_true rfl, Nat.le_of_ble_eq_true rfl⟩) hD hS hA (fun u59 H locs h hP hD hS => ?_)
            refine lv_dload hx hb dX0_fire_103 (lv_at hl 0 rfl) ?_
            refine lv_dconst0 hx hb dX0_fire_105 ?_
            refine lv_dcmp hx hb dX0_fire_106 ?_
            refine lv_if_le (tgt := 131) hx hb dX0_fire_107 (by decide) (fun c60 => ?_) (fun c60 => ?_)
            · have h := h.1 c60
              exact gr_v (w := wX ad ca K) (u := u59) hx hb hr hlocks h hP hK hD hS dX0_fire_131
            · have h := h.2 c60
              refine lv_aload_n hx hb dX0_fire_110 rfl (lv_at hl 3 rfl) ?_
              refine va_get (D := (dC, dI)) (ci := 0) (v := .int (sI u59 0)) (C := RX0) (T := TX0) (N := 12) hx hb hts uwX0 hown hK hP 0 rfl rfl 9 (by decide) (hts _ wd_181) (fun _ h9 => h9) rfl dX0_fire_111 ?_
              refine lv_if_ne (tgt := 131) hx hb dX0_fire_114 (by decide) (fun c61 => ?_) (fun c61 => ?_)
              · have h := h.1 c61
                exact gr_v (w := wX ad ca K) (u := u59) hx hb hr hlocks h hP hK hD hS dX0_fire_131
              · have h := h.2 c61
                refine lv_aload_n hx hb dX0_fire_117 rfl (lv_at hl 3 rfl) ?_
                refine va_get (D := (dC, dI)) (ci := 0) (v := .ref (ad 7)) (C := RX0) (T := TX0) (N := 12) hx hb hts uwX0 hown hK hP 0 rfl rfl 7 (by decide) (hts _ wd_179) (fun _ h9 => h9) rfl dX0_fire_118 ?_
                refine lv_aload_n hx hb dX0_fire_121 rfl (lv_at hl 2 rfl) ?_
                refine lv_dload_n hx hb dX0_fire_122 rfl (lv_at hl 1 rfl) ?_
                refine lv_dload hx hb dX0_fire_123 (lv_at hl 0 rfl) ?_
                refine lv_dadd hx hb dX0_fire_125 h.1 ?_
                have h := h.2
                refine lv_dload hx hb dX0_fire_126 (lv_at hl 0 rfl) ?_
                refine gc_v (w := wX ad ca K) (u := u59) (va_runV (As := [.ref y49, .double (FP.dadd x4 x5), .double x5]) (rest := []) ⟨hx, hb, hml, hown, hts⟩ (cX3_put l dC dI ad ca K H.size u59 y49 (FP.dadd x4 x5) x5 _ hy50 h) (cwV 3 hts (gG_V wd_601 wd_602 wd_603 wd_50 wd_604) rfl rfl rfl (by decide +kernel) ⟨Nat.le_of_ble_eq_true rfl, Nat.le_of_ble_eq_true rfl⟩) ⟨gB_blind xE_ok, va_recv hK hP (ci := 3) (q0 := 7) rfl rfl, gB_pre xE_ok hP hK hD hE hS hA⟩ rfl rfl hl.1 rfl (lv_room (Nat.le_of_ble_eq_true rfl)) dX0_fire_128 ⟨Nat.le_of_ble_eq_true rfl, Nat.le_of_ble_eq_true rfl⟩) hD hS hA (fun u63 H locs h hP hD hS => ?_)
                exact gr_v (w := wX ad ca K) (u := u63) hx hb hr hlocks h hP hK hD hS dX0_fire_131
        · have h := h.2 c51
          refine lv_aload_n hx hb dX0_fire_77 rfl (lv_at hl 2 rfl) ?_
          obtain ⟨k9, hk9⟩ := xJ_get hy50
          refine va_get (D := (dC, dI)) (ci := 5) (v := .int (sA u48 0 y49)) (C := RX5) (T := TX5) (N := 9) hx hb hts uwX5 hown hK hP k9 hk9 rfl 5 (by decide) (hts _ wd_327) (fun _ h9 => h9) rfl dX0_fire_78 ?_
          refine lv_iconst (v := 4) hx hb dX0_fire_81 (by decide) ?_
          refine lv_icmp_ne (tgt := 90) hx hb dX0_fire_82 (by decide) (fun c64 => ?_) (fun c64 => ?_)
          · have h := h.1 c64
            refine lv_aload_n hx hb dX0_fire_90 rfl (lv_at hl 2 rfl) ?_
            obtain ⟨k9, hk9⟩ := xJ_get hy50
            refine va_get (D := (dC, dI)) (ci := 5) (v := .int (sA u48 0 y49)) (C := RX5) (T := TX5) (N := 9) hx hb hts uwX5 hown hK hP k9 hk9 rfl 5 (by decide) (hts _ wd_327) (fun _ h9 => h9) rfl dX0_fire_91 ?_
            refine lv_if_ne (tgt := 103) hx hb dX0_fire_94 (by decide) (fun c65 => ?_) (fun c65 => ?_)
            · have h := h.1 c65
              refine lv_dload hx hb dX0_fire_103 (lv_at hl 0 rfl) ?_
              refine lv_dconst0 hx hb dX0_fire_105 ?_
              refine lv_dcmp hx hb dX0_fire_106 ?_
              refine lv_if_le (tgt := 131) hx hb dX0_fire_107 (by decide) (fun c66 => ?_) (fun c66 => ?_)
              · have h := h.1 c66
                exact gr_v (w := wX ad ca K) (u := u48) hx hb hr hlocks h hP hK hD hS dX0_fire_131
              · have h := h.2 c66
                refine lv_aload_n hx hb dX0_fire_110 rfl (lv_at hl 3 rfl) ?_
                refine va_get (D := (dC, dI)) (ci := 0) (v := .int (sI u48 0)) (C := RX0) (T := TX0) (N := 12) hx hb hts uwX0 hown hK hP 0 rfl rfl 9 (by decide) (hts _ wd_181) (fun _ h9 => h9) rfl dX0_fire_111 ?_
                refine lv_if_ne (tgt := 131) hx hb dX0_fire_114 (by decide) (fun c67 => ?_) (fun c67 => ?_)
                · have h := h.1 c67
                  exact gr_v (w := wX ad ca K) (u := u48) hx hb hr hlocks h hP hK hD hS dX0_fire_131
                · have h := h.2 c67
                  refine lv_aload_n hx hb dX0_fire_117 rfl (lv_at hl 3 rfl) ?_
                  refine va_get (D := (dC, dI)) (ci := 0) (v := .ref (ad 7)) (C := RX0) (T := TX0) (N := 12) hx hb hts uwX0 hown hK hP 0 rfl rfl 7 (by decide) (hts _ wd_179) (fun _ h9 => h9) rfl dX0_fire_118 ?_
                  refine lv_aload_n hx hb dX0_fire_121 rfl (lv_at hl 2 rfl) ?_
                  refine lv_dload_n hx hb dX0_fire_122 rfl (lv_at hl 1 rfl) ?_
                  refine lv_dload hx hb dX0_fire_123 (lv_at hl 0 rfl) ?_
                  refine lv_dadd hx hb dX0_fire_125 h.1 ?_
                  have h := h.2
                  refine lv_dload hx hb dX0_fire_126 (lv_at hl 0 rfl) ?_
                  refine gc_v (w := wX ad ca K) (u := u48) (va_runV (As := [.ref y49, .double (FP.dadd x4 x5), .double x5]) (rest := []) ⟨hx, hb, hml, hown, hts⟩ (cX3_put l dC dI ad ca K H.size u48 y49 (FP.dadd x4 x5) x5 _ hy50 h) (cwV 3 hts (gG_V wd_601 wd_602 wd_603 wd_50 wd_604) rfl rfl rfl (by decide +kernel) ⟨Nat.le_of_ble_eq_true rfl, Nat.le_of_ble_eq_true rfl⟩) ⟨gB_blind xE_ok, va_recv hK hP (ci := 3) (q0 := 7) rfl rfl, gB_pre xE_ok hP hK hD hE hS hA⟩ rfl rfl hl.1 rfl (lv_room (Nat.le_of_ble_eq_true rfl)) dX0_fire_128 ⟨Nat.le_of_ble_eq_true rfl, Nat.le_of_ble_eq_true rfl⟩) hD hS hA (fun u69 H locs h hP hD hS => ?_)
                  exact gr_v (w := wX ad ca K) (u := u69) hx hb hr hlocks h hP hK hD hS dX0_fire_131
            · have h := h.2 c65
              refine lv_aload_n hx hb dX0_fire_97 rfl (lv_at hl 3 rfl) ?_
              refine lv_aload_n hx hb dX0_fire_98 rfl (lv_at hl 2 rfl) ?_
              refine lv_iconst (v := 0) hx hb dX0_fire_99 (by decide) ?_
              refine gc_v (w := wX ad ca K) (u := u48) (va_runV (As := [.ref y49, .int 0]) (rest := []) ⟨hx, hb, hml, hown, hts⟩ (cX0_admit l dC dI ad ca K 26 H.size u48 y49 0 _ hy50 h) (cwV 2 hts (gG_V wd_389 wd_391 wd_3 wd_46 wd_392) rfl rfl rfl (by decide +kernel) ⟨Nat.le_of_ble_eq_true rfl, Nat.le_of_ble_eq_true rfl⟩) ⟨gB_blind xE_ok, va_recv hK hP (ci := 0) (q0 := 0) rfl rfl, gB_pre xE_ok hP hK hD hE hS hA⟩ rfl rfl hl.1 rfl (lv_room (Nat.le_of_ble_eq_true rfl)) dX0_fire_100 ⟨Nat.le_of_ble_eq_true rfl, Nat.le_of_ble_eq_true rfl⟩) hD hS hA (fun u71 H locs h hP hD hS => ?_)
              refine lv_dload hx hb dX0_fire_103 (lv_at hl 0 rfl) ?_
              refine lv_dconst0 hx hb dX0_fire_105 ?_
              refine lv_dcmp hx hb dX0_fire_106 ?_
              refine lv_if_le (tgt := 131) hx hb dX0_fire_107 (by decide) (fun c72 => ?_) (fun c72 => ?_)
              · have h := h.1 c72
                exact gr_v (w := wX ad ca K) (u := u71) hx hb hr hlocks h hP hK hD hS dX0_fire_131
              · have h := h.2 c72
                refine lv_aload_n hx hb dX0_fire_110 rfl (lv_at hl 3 rfl) ?_
                refine va_get (D := (dC, dI)) (ci := 0) (v := .int (sI u71 0)) (C := RX0) (T := TX0) (N := 12) hx hb hts uwX0 hown hK hP 0 rfl rfl 9 (by decide) (hts _ wd_181) (fun _ h9 => h9) rfl dX0_fire_111 ?_
                refine lv_if_ne (tgt := 131) hx hb dX0_fire_114 (by decide) (fun c73 => ?_) (fun c73 => ?_)
                · have h := h.1 c73
                  exact gr_v (w := wX ad ca K) (u := u71) hx hb hr hlocks h hP hK hD hS dX0_fire_131
                · have h := h.2 c73
                  refine lv_aload_n hx hb dX0_fire_117 rfl (lv_at hl 3 rfl) ?_
                  refine va_get (D := (dC, dI)) (ci := 0) (v := .ref (ad 7)) (C := RX0) (T := TX0) (N := 12) hx hb hts uwX0 hown hK hP 0 rfl rfl 7 (by decide) (hts _ wd_179) (fun _ h9 => h9) rfl dX0_fire_118 ?_
                  refine lv_aload_n hx hb dX0_fire_121 rfl (lv_at hl 2 rfl) ?_
                  refine lv_dload_n hx hb dX0_fire_122 rfl (lv_at hl 1 rfl) ?_
                  refine lv_dload hx hb dX0_fire_123 (lv_at hl 0 rfl) ?_
                  refine lv_dadd hx hb dX0_fire_125 h.1 ?_
                  have h := h.2
                  refine lv_dload hx hb dX0_fire_126 (lv_at hl 0 rfl) ?_
                  refine gc_v (w := wX ad ca K) (u := u71) (va_runV (As := [.ref y49, .double (FP.dadd x4 x5), .double x5]) (rest := []) ⟨hx, hb, hml, hown, hts⟩ (cX3_put l dC dI ad ca K H.size u71 y49 (FP.dadd x4 x5) x5 _ hy50 h) (cwV 3 hts (gG_V wd_601 wd_602 wd_603 wd_50 wd_604) rfl rfl rfl (by decide +kernel) ⟨Nat.le_of_ble_eq_true rfl, Nat.le_of_ble_eq_true rfl⟩) ⟨gB_blind xE_ok, va_recv hK hP (ci := 3) (q0 := 7) rfl rfl, gB_pre xE_ok hP hK hD hE hS hA⟩ rfl rfl hl.1 rfl (lv_room (Nat.le_of_ble_eq_true rfl)) dX0_fire_128 ⟨Nat.le_of_ble_eq_true rfl, Nat.le_of_ble_eq_true rfl⟩) hD hS hA (fun u75 H locs h hP hD hS => ?_)
                  exact gr_v (w := wX ad ca K) (u := u75) hx hb hr hlocks h hP hK hD hS dX0_fire_131
          · have h := h.2 c64
            refine lv_aload_n hx hb dX0_fire_85 rfl (lv_at hl 2 rfl) ?_
            refine lv_iconst (v := 0) hx hb dX0_fire_86 (by decide) ?_
            obtain ⟨k9, hk9⟩ := xJ_get hy50
            have e9 := xJ_state (v := 0) hD hy50 hk9
            refine va_put (D := (dC, dI)) (ci := 5) (v := .int 0) (ty := tyX5 5) (C := RX5) (T := TX5) (N := 9) hx hb hts uwX5 tyX5 tyX5_ok nmX5 hown hK hP hD hS k9 hk9 rfl 5 (by decide) (hts _ wd_327) (fun _ h9 => h9) rfl (tyX5_ok 5 (by decide)) rfl rfl (Nat.le_of_ble_eq_true rfl) dX0_fire_87 (fun H locs hP hD hS => ?_)
            obtain ⟨u76, eu76⟩ : ∃ z : gS, z = tA u48 0 y49 0 := ⟨_, rfl⟩
            have hP : va_P (dC, dI) vwCl (wX ad ca K u76) H := by rw [eu76, ← e9]; exact hP
            have hD : va_D A (wX ad ca K u76) := by rw [eu76, ← e9]; exact hD
            have h := h u76 eu76
            refine lv_aload_n hx hb dX0_fire_90 rfl (lv_at hl 2 rfl) ?_
            obtain ⟨k9, hk9⟩ := xJ_get hy50
            refine va_get (D := (dC, dI)) (ci := 5) (v := .int (sA u76 0 y49)) (C := RX5) (T := TX5) (N := 9) hx hb hts uwX5 hown hK hP k9 hk9 rfl 5 (by decide) (hts _ wd_327) (fun _ h9 => h9) rfl dX0_fire_91 ?_
            refine lv_if_ne (tgt := 103) hx hb dX0_fire_94 (by decide) (fun c77 => ?_) (fun c77 => ?_)
            · have h := h.1 c77
              refine lv_dload hx hb dX0_fire_103 (lv_at hl 0 rfl) ?_
              refine lv_dconst0 hx hb dX0_fire_105 ?_
              refine lv_dcmp hx hb dX0_fire_106 ?_
              refine lv_if_le (tgt := 131) hx hb dX0_fire_107 (by decide) (fun c78 => ?_) (fun c78 => ?_)
              · have h := h.1 c78
                exact gr_v (w := wX ad ca K) (u := u76) hx hb hr hlocks h hP hK hD hS dX0_fire_131
              · have h := h.2 c78
                refine lv_aload_n hx hb dX0_fire_110 rfl (lv_at hl 3 rfl) ?_
                refine va_get (D := (dC, dI)) (ci := 0) (v := .int (sI u76 0)) (C := RX0) (T := TX0) (N := 12) hx hb hts uwX0 hown hK hP 0 rfl rfl 9 (by decide) (hts _ wd_181) (fun _ h9 => h9) rfl dX0_fire_111 ?_
                refine lv_if_ne (tgt := 131) hx hb dX0_fire_114 (by decide) (fun c79 => ?_) (fun c79 => ?_)
                · have h := h.1 c79
                  exact gr_v (w := wX ad ca K) (u := u76) hx hb hr hlocks h hP hK hD hS dX0_fire_131
                · have h := h.2 c79
                  refine lv_aload_n hx hb dX0_fire_117 rfl (lv_at hl 3 rfl) ?_
                  refine va_get (D := (dC, dI)) (ci := 0) (v := .ref (ad 7)) (C := RX0) (T := TX0) (N := 12) hx hb hts uwX0 hown hK hP 0 rfl rfl 7 (by decide) (hts _ wd_179) (fun _ h9 => h9) rfl dX0_fire_118 ?_
                  refine lv_aload_n hx hb dX0_fire_121 rfl (lv_at hl 2 rfl) ?_
                  refine lv_dload_n hx hb dX0_fire_122 rfl (lv_at hl 1 rfl) ?_
                  refine lv_dload hx hb dX0_fire_123 (lv_at hl 0 rfl) ?_
                  refine lv_dadd hx hb dX0_fire_125 h.1 ?_
                  have h := h.2
                  refine lv_dload hx hb dX0_fire_126 (lv_at hl 0 rfl) ?_
                  refine gc_v (w := wX ad ca K) (u := u76) (va_runV (As := [.ref y49, .double (FP.dadd x4 x5), .double x5]) (rest := []) ⟨hx, hb, hml, hown, hts⟩ (cX3_put l dC dI ad ca K H.size u76 y49 (FP.dadd x4 x5) x5 _ hy50 h) (cwV 3 hts (gG_V wd_601 wd_602 wd_603 wd_50 wd_604) rfl rfl rfl (by decide +kernel) ⟨Nat.le_of_ble_eq_true rfl, Nat.le_of_ble_eq_true rfl⟩) ⟨gB_blind xE_ok, va_recv hK hP (ci := 3) (q0 := 7) rfl rfl, gB_pre xE_ok hP hK hD hE hS hA⟩ rfl rfl hl.1 rfl (lv_room (Nat.le_of_ble_eq_true rfl)) dX0_fire_128 ⟨Nat.le_of_ble_eq_true rfl, Nat.le_of_ble_eq_true rfl⟩) hD hS hA (fun u81 H locs h hP hD hS => ?_)
                  exact gr_v (w := wX ad ca K) (u := u81) hx hb hr hlocks h hP hK hD hS dX0_fire_131
            · have h := h.2 c77
              refine lv_aload_n hx hb dX0_fire_97 rfl (lv_at hl 3 rfl) ?_
              refine lv_aload_n hx hb dX0_fire_98 rfl (lv_at hl 2 rfl) ?_
              refine lv_iconst (v := 0) hx hb dX0_fire_99 (by decide) ?_
              refine gc_v (w := wX ad ca K) (u := u76) (va_runV (As := [.ref y49, .int 0]) (rest := []) ⟨hx, hb, hml, hown, hts⟩ (cX0_admit l dC dI ad ca K 26 H.size u76 y49 0 _ hy50 h) (cwV 2 hts (gG_V wd_389 wd_391 wd_3 wd_46 wd_392) rfl rfl rfl (by decide +kernel) ⟨Nat.le_of_ble_eq_true rfl, Nat.le_of_ble_eq_true rfl⟩) ⟨gB_blind xE_ok, va_recv hK hP (ci := 0) (q0 := 0) rfl rfl, gB_pre xE_ok hP hK hD hE hS hA⟩ rfl rfl hl.1 rfl (lv_room (Nat.le_of_ble_eq_true rfl)) dX0_fire_100 ⟨Nat.le_of_ble_eq_true rfl, Nat.le_of_ble_eq_true rfl⟩) hD hS hA (fun u83 H locs h hP hD hS => ?_)
              refine lv_dload hx hb dX0_fire_103 (lv_at hl 0 rfl) ?_
              refine lv_dconst0 hx hb dX0_fire_105 ?_
              refine lv_dcmp hx hb dX0_fire_106 ?_
              refine lv_if_le (tgt := 131) hx hb dX0_fire_107 (by decide) (fun c84 => ?_) (fun c84 => ?_)
              · have h := h.1 c84
                exact gr_v (w := wX ad ca K) (u := u83) hx hb hr hlocks h hP hK hD hS dX0_fire_131
              · have h := h.2 c84
                refine lv_aload_n hx hb dX0_fire_110 rfl (lv_at hl 3 rfl) ?_
                refine va_get (D := (dC, dI)) (ci := 0) (v := .int (sI u83 0)) (C := RX0) (T := TX0) (N := 12) hx hb hts uwX0 hown hK hP 0 rfl rfl 9 (by decide) (hts _ wd_181) (fun _ h9 => h9) rfl dX0_fire_111 ?_
                refine lv_if_ne (tgt := 131) hx hb dX0_fire_114 (by decide) (fun c85 => ?_) (fun c85 => ?_)
                · have h := h.1 c85
                  exact gr_v (w := wX ad ca K) (u := u83) hx hb hr hlocks h hP hK hD hS dX0_fire_131
                · have h := h.2 c85
                  refine lv_aload_n hx hb dX0_fire_117 rfl (lv_at hl 3 rfl) ?_
                  refine va_get (D := (dC, dI)) (ci := 0) (v := .ref (ad 7)) (C := RX0) (T := TX0) (N := 12) hx hb hts uwX0 hown hK hP 0 rfl rfl 7 (by decide) (hts _ wd_179) (fun _ h9 => h9) rfl dX0_fire_118 ?_
                  refine lv_aload_n hx hb dX0_fire_121 rfl (lv_at hl 2 rfl) ?_
                  refine lv_dload_n hx hb dX0_fire_122 rfl (lv_at hl 1 rfl) ?_
                  refine lv_dload hx hb dX0_fire_123 (lv_at hl 0 rfl) ?_
                  refine lv_dadd hx hb dX0_fire_125 h.1 ?_
                  have h := h.2
                  refine lv_dload hx hb dX0_fire_126 (lv_at hl 0 rfl) ?_
                  refine gc_v (w := wX ad ca K) (u := u83) (va_runV (As := [.ref y49, .double (FP.dadd x4 x5), .double x5]) (rest := []) ⟨hx, hb, hml, hown, hts⟩ (cX3_put l dC dI ad ca K H.size u83 y49 (FP.dadd x4 x5) x5 _ hy50 h) (cwV 3 hts (gG_V wd_601 wd_602 wd_603 wd_50 wd_604) rfl rfl rfl (by decide +kernel) ⟨Nat.le_of_ble_eq_true rfl, Nat.le_of_ble_eq_true rfl⟩) ⟨gB_blind xE_ok, va_recv hK hP (ci := 3) (q0 := 7) rfl rfl, gB_pre xE_ok hP hK hD hE hS hA⟩ rfl rfl hl.1 rfl (lv_room (Nat.le_of_ble_eq_true rfl)) dX0_fire_128 ⟨Nat.le_of_ble_eq_true rfl, Nat.le_of_ble_eq_true rfl⟩) hD hS hA (fun u87 H locs h hP hD hS => ?_)
                  exact gr_v (w := wX ad ca K) (u := u87) hx hb hr hlocks h hP hK hD hS dX0_fire_131
    · have h := h.2 c2
      exact gr_v (w := wX ad ca K) (u := u) hx hb hr hlocks h hP hK hD hS dX0_fire_15

