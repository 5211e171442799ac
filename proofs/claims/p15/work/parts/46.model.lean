theorem dM6_perform_0 : decode prog_8_method_23_code 0 = .ok (.aload_n 0, 1) := by decide +kernel
theorem dM6_perform_1 : decode prog_8_method_23_code 1 = .ok (.getfield 154, 3) := by decide +kernel
theorem dM6_perform_4 : decode prog_8_method_23_code 4 = .ok (.istore_n 2, 1) := by decide +kernel
theorem dM6_perform_5 : decode prog_8_method_23_code 5 = .ok (.aload_n 0, 1) := by decide +kernel
theorem dM6_perform_6 : decode prog_8_method_23_code 6 = .ok (.iload_n 1, 1) := by decide +kernel
theorem dM6_perform_7 : decode prog_8_method_23_code 7 = .ok (.invokevirtual 164, 3) := by decide +kernel
theorem dM6_perform_10 : decode prog_8_method_23_code 10 = .ok (.aload_n 0, 1) := by decide +kernel
theorem dM6_perform_11 : decode prog_8_method_23_code 11 = .ok (.getfield 154, 3) := by decide +kernel
theorem dM6_perform_14 : decode prog_8_method_23_code 14 = .ok (.iload_n 2, 1) := by decide +kernel
theorem dM6_perform_15 : decode prog_8_method_23_code 15 = .ok (.if_icmp .le 146, 3) := by decide +kernel
theorem dM6_perform_18 : decode prog_8_method_23_code 18 = .ok (.aload_n 0, 1) := by decide +kernel
theorem dM6_perform_19 : decode prog_8_method_23_code 19 = .ok (.getfield 154, 3) := by decide +kernel
theorem dM6_perform_22 : decode prog_8_method_23_code 22 = .ok (.iconst 1, 1) := by decide +kernel
theorem dM6_perform_23 : decode prog_8_method_23_code 23 = .ok (.isub, 1) := by decide +kernel
theorem dM6_perform_24 : decode prog_8_method_23_code 24 = .ok (.istore_n 3, 1) := by decide +kernel
theorem dM6_perform_25 : decode prog_8_method_23_code 25 = .ok (.aload_n 0, 1) := by decide +kernel
theorem dM6_perform_26 : decode prog_8_method_23_code 26 = .ok (.getfield 62, 3) := by decide +kernel
theorem dM6_perform_29 : decode prog_8_method_23_code 29 = .ok (.iload_n 3, 1) := by decide +kernel
theorem dM6_perform_30 : decode prog_8_method_23_code 30 = .ok (.iaload, 1) := by decide +kernel
theorem dM6_perform_31 : decode prog_8_method_23_code 31 = .ok (.istore 4, 2) := by decide +kernel
theorem dM6_perform_33 : decode prog_8_method_23_code 33 = .ok (.aload_n 0, 1) := by decide +kernel
theorem dM6_perform_34 : decode prog_8_method_23_code 34 = .ok (.getfield 65, 3) := by decide +kernel
theorem dM6_perform_37 : decode prog_8_method_23_code 37 = .ok (.iload_n 3, 1) := by decide +kernel
theorem dM6_perform_38 : decode prog_8_method_23_code 38 = .ok (.iaload, 1) := by decide +kernel
theorem dM6_perform_39 : decode prog_8_method_23_code 39 = .ok (.ifCond .ne 11, 3) := by decide +kernel
theorem dM6_perform_42 : decode prog_8_method_23_code 42 = .ok (.aload_n 0, 1) := by decide +kernel
theorem dM6_perform_43 : decode prog_8_method_23_code 43 = .ok (.iload_n 3, 1) := by decide +kernel
theorem dM6_perform_44 : decode prog_8_method_23_code 44 = .ok (.invokevirtual 176, 3) := by decide +kernel
theorem dM6_perform_47 : decode prog_8_method_23_code 47 = .ok (.goto 111, 3) := by decide +kernel
theorem dM6_perform_50 : decode prog_8_method_23_code 50 = .ok (.aload_n 0, 1) := by decide +kernel
theorem dM6_perform_51 : decode prog_8_method_23_code 51 = .ok (.getfield 65, 3) := by decide +kernel
theorem dM6_perform_54 : decode prog_8_method_23_code 54 = .ok (.iload_n 3, 1) := by decide +kernel
theorem dM6_perform_55 : decode prog_8_method_23_code 55 = .ok (.iaload, 1) := by decide +kernel
theorem dM6_perform_56 : decode prog_8_method_23_code 56 = .ok (.iconst 1, 1) := by decide +kernel
theorem dM6_perform_57 : decode prog_8_method_23_code 57 = .ok (.if_icmp .ne 31, 3) := by decide +kernel
theorem dM6_perform_60 : decode prog_8_method_23_code 60 = .ok (.aload_n 0, 1) := by decide +kernel
theorem dM6_perform_61 : decode prog_8_method_23_code 61 = .ok (.iload 4, 2) := by decide +kernel
theorem dM6_perform_63 : decode prog_8_method_23_code 63 = .ok (.aload_n 0, 1) := by decide +kernel
theorem dM6_perform_64 : decode prog_8_method_23_code 64 = .ok (.getfield 22, 3) := by decide +kernel
theorem dM6_perform_67 : decode prog_8_method_23_code 67 = .ok (.aload_n 0, 1) := by decide +kernel
theorem dM6_perform_68 : decode prog_8_method_23_code 68 = .ok (.getfield 13, 3) := by decide +kernel
theorem dM6_perform_71 : decode prog_8_method_23_code 71 = .ok (.iload 4, 2) := by decide +kernel
theorem dM6_perform_73 : decode prog_8_method_23_code 73 = .ok (.iaload, 1) := by decide +kernel
theorem dM6_perform_74 : decode prog_8_method_23_code 74 = .ok (.iaload, 1) := by decide +kernel
theorem dM6_perform_75 : decode prog_8_method_23_code 75 = .ok (.invokevirtual 167, 3) := by decide +kernel
theorem dM6_perform_78 : decode prog_8_method_23_code 78 = .ok (.aload_n 0, 1) := by decide +kernel
theorem dM6_perform_79 : decode prog_8_method_23_code 79 = .ok (.getfield 65, 3) := by decide +kernel
theorem dM6_perform_82 : decode prog_8_method_23_code 82 = .ok (.iload_n 3, 1) := by decide +kernel
theorem dM6_perform_83 : decode prog_8_method_23_code 83 = .ok (.iconst 2, 1) := by decide +kernel
theorem dM6_perform_84 : decode prog_8_method_23_code 84 = .ok (.iastore, 1) := by decide +kernel
theorem dM6_perform_85 : decode prog_8_method_23_code 85 = .ok (.goto 73, 3) := by decide +kernel
theorem dM6_perform_88 : decode prog_8_method_23_code 88 = .ok (.aload_n 0, 1) := by decide +kernel
theorem dM6_perform_89 : decode prog_8_method_23_code 89 = .ok (.dup, 1) := by decide +kernel
theorem dM6_perform_90 : decode prog_8_method_23_code 90 = .ok (.getfield 154, 3) := by decide +kernel
theorem dM6_perform_93 : decode prog_8_method_23_code 93 = .ok (.iconst 1, 1) := by decide +kernel
theorem dM6_perform_94 : decode prog_8_method_23_code 94 = .ok (.isub, 1) := by decide +kernel
theorem dM6_perform_95 : decode prog_8_method_23_code 95 = .ok (.putfield 154, 3) := by decide +kernel
theorem dM6_perform_98 : decode prog_8_method_23_code 98 = .ok (.aload_n 0, 1) := by decide +kernel
theorem dM6_perform_99 : decode prog_8_method_23_code 99 = .ok (.dup, 1) := by decide +kernel
theorem dM6_perform_100 : decode prog_8_method_23_code 100 = .ok (.getfield 179, 3) := by decide +kernel
theorem dM6_perform_103 : decode prog_8_method_23_code 103 = .ok (.iconst 1, 1) := by decide +kernel
theorem dM6_perform_104 : decode prog_8_method_23_code 104 = .ok (.iadd, 1) := by decide +kernel
theorem dM6_perform_105 : decode prog_8_method_23_code 105 = .ok (.putfield 179, 3) := by decide +kernel
theorem dM6_perform_108 : decode prog_8_method_23_code 108 = .ok (.aload_n 0, 1) := by decide +kernel
theorem dM6_perform_109 : decode prog_8_method_23_code 109 = .ok (.getfield 25, 3) := by decide +kernel
theorem dM6_perform_112 : decode prog_8_method_23_code 112 = .ok (.iload 4, 2) := by decide +kernel
theorem dM6_perform_114 : decode prog_8_method_23_code 114 = .ok (.iaload, 1) := by decide +kernel
theorem dM6_perform_115 : decode prog_8_method_23_code 115 = .ok (.istore 5, 2) := by decide +kernel
theorem dM6_perform_117 : decode prog_8_method_23_code 117 = .ok (.aload_n 0, 1) := by decide +kernel
theorem dM6_perform_118 : decode prog_8_method_23_code 118 = .ok (.getfield 22, 3) := by decide +kernel
theorem dM6_perform_121 : decode prog_8_method_23_code 121 = .ok (.iload 4, 2) := by decide +kernel
theorem dM6_perform_123 : decode prog_8_method_23_code 123 = .ok (.iaload, 1) := by decide +kernel
theorem dM6_perform_124 : decode prog_8_method_23_code 124 = .ok (.iconst 3, 1) := by decide +kernel
theorem dM6_perform_125 : decode prog_8_method_23_code 125 = .ok (.if_icmp .ne 33, 3) := by decide +kernel
theorem dM6_perform_128 : decode prog_8_method_23_code 128 = .ok (.iload 5, 2) := by decide +kernel
theorem dM6_perform_130 : decode prog_8_method_23_code 130 = .ok (.ifCond .lt 28, 3) := by decide +kernel
theorem dM6_perform_133 : decode prog_8_method_23_code 133 = .ok (.aload_n 0, 1) := by decide +kernel
theorem dM6_perform_134 : decode prog_8_method_23_code 134 = .ok (.getfield 22, 3) := by decide +kernel
theorem dM6_perform_137 : decode prog_8_method_23_code 137 = .ok (.iload 5, 2) := by decide +kernel
theorem dM6_perform_139 : decode prog_8_method_23_code 139 = .ok (.iaload, 1) := by decide +kernel
theorem dM6_perform_140 : decode prog_8_method_23_code 140 = .ok (.ifCond .ne 18, 3) := by decide +kernel
theorem dM6_perform_143 : decode prog_8_method_23_code 143 = .ok (.aload_n 0, 1) := by decide +kernel
theorem dM6_perform_144 : decode prog_8_method_23_code 144 = .ok (.iload 5, 2) := by decide +kernel
theorem dM6_perform_146 : decode prog_8_method_23_code 146 = .ok (.invokevirtual 160, 3) := by decide +kernel
theorem dM6_perform_149 : decode prog_8_method_23_code 149 = .ok (.ifCond .eq 9, 3) := by decide +kernel
theorem dM6_perform_152 : decode prog_8_method_23_code 152 = .ok (.aload_n 0, 1) := by decide +kernel
theorem dM6_perform_153 : decode prog_8_method_23_code 153 = .ok (.iload 5, 2) := by decide +kernel
theorem dM6_perform_155 : decode prog_8_method_23_code 155 = .ok (.invokevirtual 164, 3) := by decide +kernel
theorem dM6_perform_158 : decode prog_8_method_23_code 158 = .ok (.goto (-148), 3) := by decide +kernel
theorem dM6_perform_161 : decode prog_8_method_23_code 161 = .ok (.return_, 1) := by decide +kernel
def wpM6_perform_10 (K : KM) (post : gS → Prop) : Nat → Int32 → Int32 → gS → Prop
  | 0 => fun _ _ _ => False
  | n + 1 => fun l1 l2 u => (((sI u 10) ≤ l2 → (post u)) ∧ (¬ (sI u 10) ≤ l2 → (∀ x5 : Int32, x5 = (sI u 10) - 1 → (vp_in x5 60 ∧ (∀ x6 : Int32, x6 = sA u 13 x5.toNatClampNeg → (vp_in x5 60 ∧ (((¬ (sA u 14 x5.toNatClampNeg) = 0 → (vp_in x5 60 ∧ (((¬ (sA u 14 x5.toNatClampNeg) = 1 → (∀ u9 : gS, u9 = tI u 10 ((sI u 10) - 1) → (∀ u10 : gS, u10 = tI u9 8 ((sI u9 8) + 1) → (vp_in x6 24 ∧ (∀ x11 : Int32, x11 = sA u10 5 x6.toNatClampNeg → (vp_in x6 24 ∧ (((¬ (sA u10 4 x6.toNatClampNeg) = 3 → (wpM6_perform_10 K post n l1 l2 u10)) ∧ ((sA u10 4 x6.toNatClampNeg) = 3 → (((x11 < 0 → (wpM6_perform_10 K post n l1 l2 u10)) ∧ (¬ x11 < 0 → (vp_in x11 24 ∧ (((¬ (sA u10 4 x11.toNatClampNeg) = 0 → (wpM6_perform_10 K post n l1 l2 u10)) ∧ ((sA u10 4 x11.toNatClampNeg) = 0 → (wpM6_place K (fun (r15 : Int32) (u16 : gS) => ((r15 = 0 → (wpM6_perform_10 K post n l1 l2 u16)) ∧ (¬ r15 = 0 → (wpM6_push K (fun (u19 : gS) => wpM6_perform_10 K post n l1 l2 u19) u16 x11)))) u10 x11))))))))))))))))) ∧ ((sA u 14 x5.toNatClampNeg) = 1 → (vp_in x6 24 ∧ (vp_in (sA u 1 x6.toNatClampNeg) 24 ∧ (wpM6_done K (fun (u21 : gS) => vp_in x5 60 ∧ (∀ u22 : gS, u22 = tA u21 14 x5.toNatClampNeg 2 → (wpM6_perform_10 K post n l1 l2 u22))) u x6 (sA u 4 (sA u 1 x6.toNatClampNeg).toNatClampNeg))))))))) ∧ ((sA u 14 x5.toNatClampNeg) = 0 → (wpM6_performOne K (fun (u24 : gS) => wpM6_perform_10 K post n l1 l2 u24) u x5))))))))))

def wpM6_perform (K : KM) (post : gS → Prop) (u : gS) (p1 : Int32) : Prop :=
  ∀ x1 : Int32, x1 = sI u 10 → (wpM6_push K (fun (u3 : gS) => ∃ n10 : Nat, wpM6_perform_10 K post n10 p1 x1 u3) u p1)

set_option maxHeartbeats 8000000 in
set_option maxRecDepth 100000 in
theorem wpM6_perform_10_ok {p : Program} {l : Launch} {e : Env} {s : State} {m : MethodId} {args : Array Value} {below : List Frame} {meth : Method} {c : Code} {dC : Nat → ClassId} {dI : Nat → Nat → Nat} {ad : Nat → Nat} {ca : Nat → ClassId} {K : KM} {A : Nat → Prop} {post : gS → Prop}   (hx : p.tables.exec = Jvm.exec) (hb : c.code = prog_8_method_23_code) (hr : meth.sig.returnType = none) (hml : c.maxLocals = 6) (hown : s.vm.findClass RX6 = some m.cls) (hts : ∀ w ∈ gW, w.before args s = true) (hlocks : meth.locks = false) (hK : va_K (dC, dI) vwCl (mT ca) s) (hA : ∀ q, s.heap.size ≤ q → A q) (hE : mE A s s.heap) :
    ∀ (n : Nat) (l1 : Int32) (l2 : Int32) (u : gS) (H : Heap) (locs : List Loc) (ls : Array Slot), wpM6_perform_10 K post n l1 l2 u → va_P (dC, dI) vwCl (wM ad ca K u) H → va_D A (wM ad ca K u) → va_S A s.heap H locs → lv_has ls 6 [(0, .ref (ad 0)), (1, .int l1), (2, .int l2)] → W p l e (headSpec (gw ⟨"WorkHallModel", "perform", "(I)V"⟩ prog_8_method_23_code 6 none) ({ frames := 6, cells := 0, slots := 0, locals := 240 } : Room)).room s m args below meth c H locs 0 0 (MQ below (va_Qv post (gAt (dC, dI) vwCl (mT ca) (wM ad ca K) (A)) (A)) args s 0 0 A) (F0 m 10 ls []) := by
  intro n
  induction n with
  | zero => exact fun _ _ _ _ _ _ h => h.elim
  | succ n ih =>
    intro l1 l2 u H locs ls h hP hD hS hl
    refine lv_aload_n hx hb dM6_perform_10 rfl (lv_at hl 0 rfl) ?_
    refine va_get (D := (dC, dI)) (ci := 6) (v := .int (sI u 10)) (C := RX6) (T := TX6) (N := 36) hx hb hts uwX6 hown hK hP 0 rfl rfl 35 (by decide) (hts _ wd_738) (fun _ h9 => h9) rfl dM6_perform_11 ?_
    refine lv_iload_n hx hb dM6_perform_14 rfl (lv_at hl 2 rfl) ?_
    refine lv_icmp_le (tgt := 161) hx hb dM6_perform_15 (by decide) (fun c4 => ?_) (fun c4 => ?_)
    · have h := h.1 c4
      exact gr_v (w := wM ad ca K) (u := u) hx hb hr hlocks h hP hK hD hS dM6_perform_161
    · have h := h.2 c4
      refine lv_aload_n hx hb dM6_perform_18 rfl (lv_at hl 0 rfl) ?_
      refine va_get (D := (dC, dI)) (ci := 6) (v := .int (sI u 10)) (C := RX6) (T := TX6) (N := 36) hx hb hts uwX6 hown hK hP 0 rfl rfl 35 (by decide) (hts _ wd_738) (fun _ h9 => h9) rfl dM6_perform_19 ?_
      refine lv_iconst (v := 1) hx hb dM6_perform_22 (by decide) ?_
      refine lv_isub hx hb dM6_perform_23 ?_
      refine lv_topi (fun x5 ex5 => ?_)
      have h := h x5 ex5
      refine lv_istore_n (lv' := [(3, .int x5), (0, .ref (ad 0)), (1, .int l1), (2, .int l2)]) hx hb dM6_perform_24 rfl hl (by decide) rfl (fun ls hl => ?_)
      refine lv_aload_n hx hb dM6_perform_25 rfl (lv_at hl 1 rfl) ?_
      refine va_get (D := (dC, dI)) (ci := 6) (v := .ref (ad 18)) (C := RX6) (T := TX6) (N := 36) hx hb hts uwX6 hown hK hP 0 rfl rfl 33 (by decide) (hts _ wd_736) (fun _ h9 => h9) rfl dM6_perform_26 ?_
      refine lv_iload_n hx hb dM6_perform_29 rfl (lv_at hl 0 rfl) ?_
      refine va_iald hx hb hK hP 18 0 rfl rfl h.1 dM6_perform_30 ?_
      have h := h.2
      refine lv_topi (fun x6 ex6 => ?_)
      have h := h x6 ex6
      refine lv_istore (lv' := [(4, .int x6), (3, .int x5), (0, .ref (ad 0)), (1, .int l1), (2, .int l2)]) hx hb dM6_perform_31 hl (by decide) rfl (fun ls hl => ?_)
      refine lv_aload_n hx hb dM6_perform_33 rfl (lv_at hl 2 rfl) ?_
      refine va_get (D := (dC, dI)) (ci := 6) (v := .ref (ad 19)) (C := RX6) (T := TX6) (N := 36) hx hb hts uwX6 hown hK hP 0 rfl rfl 34 (by decide) (hts _ wd_737) (fun _ h9 => h9) rfl dM6_perform_34 ?_
      refine lv_iload_n hx hb dM6_perform_37 rfl (lv_at hl 1 rfl) ?_
      refine va_iald hx hb hK hP 19 0 rfl rfl h.1 dM6_perform_38 ?_
      have h := h.2
      refine lv_if_ne (tgt := 50) hx hb dM6_perform_39 (by decide) (fun c7 => ?_) (fun c7 => ?_)
      · have h := h.1 c7
        refine lv_aload_n hx hb dM6_perform_50 rfl (lv_at hl 2 rfl) ?_
        refine va_get (D := (dC, dI)) (ci := 6) (v := .ref (ad 19)) (C := RX6) (T := TX6) (N := 36) hx hb hts uwX6 hown hK hP 0 rfl rfl 34 (by decide) (hts _ wd_737) (fun _ h9 => h9) rfl dM6_perform_51 ?_
        refine lv_iload_n hx hb dM6_perform_54 rfl (lv_at hl 1 rfl) ?_
        refine va_iald hx hb hK hP 19 0 rfl rfl h.1 dM6_perform_55 ?_
        have h := h.2
        refine lv_iconst (v := 1) hx hb dM6_perform_56 (by decide) ?_
        refine lv_icmp_ne (tgt := 88) hx hb dM6_perform_57 (by decide) (fun c8 => ?_) (fun c8 => ?_)
        · have h := h.1 c8
          refine lv_aload_n hx hb dM6_perform_88 rfl (lv_at hl 2 rfl) ?_
          refine lv_dup hx hb dM6_perform_89 rfl ?_
          refine va_get (D := (dC, dI)) (ci := 6) (v := .int (sI u 10)) (C := RX6) (T := TX6) (N := 36) hx hb hts uwX6 hown hK hP 0 rfl rfl 35 (by decide) (hts _ wd_738) (fun _ h9 => h9) rfl dM6_perform_90 ?_
          refine lv_iconst (v := 1) hx hb dM6_perform_93 (by decide) ?_
          refine lv_isub hx hb dM6_perform_94 ?_
          refine va_put (D := (dC, dI)) (ci := 6) (v := .int ((sI u 10) - 1)) (ty := tyX6 35) (C := RX6) (T := TX6) (N := 36) hx hb hts uwX6 tyX6 tyX6_ok nmX6 hown hK hP hD hS 0 rfl rfl 35 (by decide) (hts _ wd_738) (fun _ h9 => h9) rfl (tyX6_ok 35 (by decide)) rfl rfl (Nat.le_of_ble_eq_true rfl) dM6_perform_95 (fun H locs hP hD hS => ?_)
          obtain ⟨u9, eu9⟩ : ∃ z : gS, z = tI u 10 ((sI u 10) - 1) := ⟨_, rfl⟩
          have hP : va_P (dC, dI) vwCl (wM ad ca K u9) H := by rw [eu9, wM_f0_top]; exact hP
          have hD : va_D A (wM ad ca K u9) := by rw [eu9, wM_f0_top]; exact hD
          have h := h u9 eu9
          refine lv_aload_n hx hb dM6_perform_98 rfl (lv_at hl 2 rfl) ?_
          refine lv_dup hx hb dM6_perform_99 rfl ?_
          refine va_get (D := (dC, dI)) (ci := 6) (v := .int (sI u9 8)) (C := RX6) (T := TX6) (N := 36) hx hb hts uwX6 hown hK hP 0 rfl rfl 30 (by decide) (hts _ wd_733) (fun _ h9 => h9) rfl dM6_perform_100 ?_
          refine lv_iconst (v := 1) hx hb dM6_perform_103 (by decide) ?_
          refine lv_iadd hx hb dM6_perform_104 ?_
          refine va_put (D := (dC, dI)) (ci := 6) (v := .int ((sI u9 8) + 1)) (ty := tyX6 30) (C := RX6) (T := TX6) (N := 36) hx hb hts uwX6 tyX6 tyX6_ok nmX6 hown hK hP hD hS 0 rfl rfl 30 (by decide) (hts _ wd_733) (fun _ h9 => h9) rfl (tyX6_ok 30 (by decide)) rfl rfl (Nat.le_of_ble_eq_true rfl) dM6_perform_105 (fun H locs hP hD hS => ?_)
          obtain ⟨u10, eu10⟩ : ∃ z : gS, z = tI u9 8 ((sI u9 8) + 1) := ⟨_, rfl⟩
          have hP : va_P (dC, dI) vwCl (wM ad ca K u10) H := by rw [eu10, wM_f0_ended]; exact hP
          have hD : va_D A (wM ad ca K u10) := by rw [eu10, wM_f0_ended]; exact hD
          have h := h u10 eu10
          refine lv_aload_n hx hb dM6_perform_108 rfl (lv_at hl 2 rfl) ?_
          refine va_get (D := (dC, dI)) (ci := 6) (v := .ref (ad 6)) (C := RX6) (T := TX6) (N := 36) hx hb hts uwX6 hown hK hP 0 rfl rfl 10 (by decide) (hts _ wd_713) (fun _ h9 => h9) rfl dM6_perform_109 ?_
          refine lv_iload hx hb dM6_perform_112 (lv_at hl 0 rfl) ?_
          refine va_iald hx hb hK hP 6 0 rfl rfl h.1 dM6_perform_114 ?_
          have h := h.2
          refine lv_topi (fun x11 ex11 => ?_)
          have h := h x11 ex11
          refine lv_istore (lv' := [(5, .int x11), (4, .int x6), (3, .int x5), (0, .ref (ad 0)), (1, .int l1), (2, .int l2)]) hx hb dM6_perform_115 hl (by decide) rfl (fun ls hl => ?_)
          refine lv_aload_n hx hb dM6_perform_117 rfl (lv_at hl 3 rfl) ?_
          refine va_get (D := (dC, dI)) (ci := 6) (v := .ref (ad 5)) (C := RX6) (T := TX6) (N := 36) hx hb hts uwX6 hown hK hP 0 rfl rfl 9 (by decide) (hts _ wd_712) (fun _ h9 => h9) rfl dM6_perform_118 ?_
          refine lv_iload hx hb dM6_perform_121 (lv_at hl 1 rfl) ?_
          refine va_iald hx hb hK hP 5 0 rfl rfl h.1 dM6_perform_123 ?_
          have h := h.2
          refine lv_iconst (v := 3) hx hb dM6_perform_124 (by decide) ?_
          refine lv_icmp_ne (tgt := 158) hx hb dM6_perform_125 (by decide) (fun c12 => ?_) (fun c12 => ?_)
          · have h := h.1 c12
            refine lv_goto (tgt := 10) hx hb dM6_perform_158 (by decide) ?_
            exact ih l1 l2 u10 _ _ _ h hP hD hS (lv_sub hl [3, 4, 5] rfl)
          · have h := h.2 c12
            refine lv_iload hx hb dM6_perform_128 (lv_at hl 0 rfl) ?_
            refine lv_if_lt (tgt := 158) hx hb dM6_perform_130 (by decide) (fun c13 => ?_) (fun c13 => ?_)
            · have h := h.1 c13
              refine lv_goto (tgt := 10) hx hb dM6_perform_158 (by decide) ?_
              exact ih l1 l2 u10 _ _ _ h hP hD hS (lv_sub hl [3, 4, 5] rfl)
            · have h := h.2 c13
              refine lv_aload_n hx hb dM6_perform_133 rfl (lv_at hl 3 rfl) ?_
              refine va_get (D := (dC, dI)) (ci := 6) (v := .ref (ad 5)) (C := RX6) (T := TX6) (N := 36) hx hb hts uwX6 hown hK hP 0 rfl rfl 9 (by decide) (hts _ wd_712) (fun _ h9 => h9) rfl dM6_perform_134 ?_
              refine lv_iload hx hb dM6_perform_137 (lv_at hl 0 rfl) ?_
              refine va_iald hx hb hK hP 5 0 rfl rfl h.1 dM6_perform_139 ?_
              have h := h.2
              refine lv_if_ne (tgt := 158) hx hb dM6_perform_140 (by decide) (fun c14 => ?_) (fun c14 => ?_)
              · have h := h.1 c14
                refine lv_goto (tgt := 10) hx hb dM6_perform_158 (by decide) ?_
                exact ih l1 l2 u10 _ _ _ h hP hD hS (lv_sub hl [3, 4, 5] rfl)
              · have h := h.2 c14
                refine lv_aload_n hx hb dM6_perform_143 rfl (lv_at hl 3 rfl) ?_
                refine lv_iload hx hb dM6_perform_144 (lv_at hl 0 rfl) ?_
                refine gc_i (w := wM ad ca K) (u := u10) (va_runV (As := [.int x11]) (rest := []) ⟨hx, hb, hml, hown, hts⟩ (cM6_place l dC dI ad ca K H.size u10 x11 _ h) (cwV 1 hts (gG_V wd_845 wd_847 wd_22 wd_52 wd_848) rfl rfl rfl (by decide +kernel) ⟨Nat.le_of_ble_eq_true rfl, Nat.le_of_ble_eq_true rfl⟩) ⟨gB_blind mE_ok, va_recv hK hP (ci := 6) (q0 := 0) rfl rfl, gB_pre mE_ok hP hK hD hE hS hA⟩ rfl rfl hl.1 rfl (lv_room (Nat.le_of_ble_eq_true rfl)) dM6_perform_146 ⟨Nat.le_of_ble_eq_true rfl, Nat.le_of_ble_eq_true rfl⟩) hD hS hA (fun r15 u16 H locs h hP hD hS => ?_)
                refine lv_if_eq (tgt := 158) hx hb dM6_perform_149 (by decide) (fun c17 => ?_) (fun c17 => ?_)
                · have h := h.1 c17
                  refine lv_goto (tgt := 10) hx hb dM6_perform_158 (by decide) ?_
                  exact ih l1 l2 u16 _ _ _ h hP hD hS (lv_sub hl [3, 4, 5] rfl)
                · have h := h.2 c17
                  refine lv_aload_n hx hb dM6_perform_152 rfl (lv_at hl 3 rfl) ?_
                  refine lv_iload hx hb dM6_perform_153 (lv_at hl 0 rfl) ?_
                  refine gc_v (w := wM ad ca K) (u := u16) (va_runV (As := [.int x11]) (rest := []) ⟨hx, hb, hml, hown, hts⟩ (cM6_push l dC dI ad ca K H.size u16 x11 _ h) (cwV 1 hts (gG_V wd_869 wd_871 wd_28 wd_52 wd_872) rfl rfl rfl (by decide +kernel) ⟨Nat.le_of_ble_eq_true rfl, Nat.le_of_ble_eq_true rfl⟩) ⟨gB_blind mE_ok, va_recv hK hP (ci := 6) (q0 := 0) rfl rfl, gB_pre mE_ok hP hK hD hE hS hA⟩ rfl rfl hl.1 rfl (lv_room (Nat.le_of_ble_eq_true rfl)) dM6_perform_155 ⟨Nat.le_of_ble_eq_true rfl, Nat.le_of_ble_eq_true rfl⟩) hD hS hA (fun u19 H locs h hP hD hS => ?_)
                  refine lv_goto (tgt := 10) hx hb dM6_perform_158 (by decide) ?_
                  exact ih l1 l2 u19 _ _ _ h hP hD hS (lv_sub hl [3, 4, 5] rfl)
        · have h := h.2 c8
          refine lv_aload_n hx hb dM6_perform_60 rfl (lv_at hl 2 rfl) ?_
          refine lv_iload hx hb dM6_perform_61 (lv_at hl 0 rfl) ?_
          refine lv_aload_n hx hb dM6_perform_63 rfl (lv_at hl 2 rfl) ?_
          refine va_get (D := (dC, dI)) (ci := 6) (v := .ref (ad 5)) (C := RX6) (T := TX6) (N := 36) hx hb hts uwX6 hown hK hP 0 rfl rfl 9 (by decide) (hts _ wd_712) (fun _ h9 => h9) rfl dM6_perform_64 ?_
          refine lv_aload_n hx hb dM6_perform_67 rfl (lv_at hl 2 rfl) ?_
          refine va_get (D := (dC, dI)) (ci := 6) (v := .ref (ad 2)) (C := RX6) (T := TX6) (N := 36) hx hb hts uwX6 hown hK hP 0 rfl rfl 6 (by decide) (hts _ wd_709) (fun _ h9 => h9) rfl dM6_perform_68 ?_
          refine lv_iload hx hb dM6_perform_71 (lv_at hl 0 rfl) ?_
          refine va_iald hx hb hK hP 2 0 rfl rfl h.1 dM6_perform_73 ?_
          have h := h.2
          refine va_iald hx hb hK hP 5 0 rfl rfl h.1 dM6_perform_74 ?_
          have h := h.2
          refine gc_v (w := wM ad ca K) (u := u) (va_runV (As := [.int x6, .int (sA u 4 (sA u 1 x6.toNatClampNeg).toNatClampNeg)]) (rest := []) ⟨hx, hb, hml, hown, hts⟩ (cM6_done l dC dI ad ca K H.size u x6 (sA u 4 (sA u 1 x6.toNatClampNeg).toNatClampNeg) _ h) (cwV 2 hts (gG_V wd_877 wd_879 wd_30 wd_52 wd_880) rfl rfl rfl (by decide +kernel) ⟨Nat.le_of_ble_eq_true rfl, Nat.le_of_ble_eq_true rfl⟩) ⟨gB_blind mE_ok, va_recv hK hP (ci := 6) (q0 := 0) rfl rfl, gB_pre mE_ok hP hK hD hE hS hA⟩ rfl rfl hl.1 rfl (lv_room (Nat.le_of_ble_eq_true rfl)) dM6_perform_75 ⟨Nat.le_of_ble_eq_true rfl, Nat.le_of_ble_eq_true rfl⟩) hD hS hA (fun u21 H locs h hP hD hS => ?_)
          refine lv_aload_n hx hb dM6_perform_78 rfl (lv_at hl 2 rfl) ?_
          refine va_get (D := (dC, dI)) (ci := 6) (v := .ref (ad 19)) (C := RX6) (T := TX6) (N := 36) hx hb hts uwX6 hown hK hP 0 rfl rfl 34 (by decide) (hts _ wd_737) (fun _ h9 => h9) rfl dM6_perform_79 ?_
          refine lv_iload_n hx hb dM6_perform_82 rfl (lv_at hl 1 rfl) ?_
          refine lv_iconst (v := 2) hx hb dM6_perform_83 (by decide) ?_
          refine va_iast hx hb hK hP hD hS 19 0 rfl rfl h.1 dM6_perform_84 (fun H locs hP hD hS => ?_)
          have h := h.2
          obtain ⟨u22, eu22⟩ : ∃ z : gS, z = tA u21 14 x5.toNatClampNeg 2 := ⟨_, rfl⟩
          have hP : va_P (dC, dI) vwCl (wM ad ca K u22) H := by rw [eu22, wM_a19]; exact hP
          have hD : va_D A (wM ad ca K u22) := by rw [eu22, wM_a19]; exact hD
          have h := h u22 eu22
          refine lv_goto (tgt := 158) hx hb dM6_perform_85 (by decide) ?_
          refine lv_goto (tgt := 10) hx hb dM6_perform_158 (by decide) ?_
          exact ih l1 l2 u22 _ _ _ h hP hD hS (lv_sub hl [2, 3, 4] rfl)
      · have h := h.2 c7
        refine lv_aload_n hx hb dM6_perform_42 rfl (lv_at hl 2 rfl) ?_
        refine lv_iload_n hx hb dM6_perform_43 rfl (lv_at hl 1 rfl) ?_
        refine gc_v (w := wM ad ca K) (u := u) (va_runV (As := [.int x5]) (rest := []) ⟨hx, hb, hml, hown, hts⟩ (cM6_performOne l dC dI ad ca K H.size u x5 _ h) (cwV 1 hts (gG_V wd_873 wd_875 wd_29 wd_52 wd_876) rfl rfl rfl (by decide +kernel) ⟨Nat.le_of_ble_eq_true rfl, Nat.le_of_ble_eq_true rfl⟩) ⟨gB_blind mE_ok, va_recv hK hP (ci := 6) (q0 := 0) rfl rfl, gB_pre mE_ok hP hK hD hE hS hA⟩ rfl rfl hl.1 rfl (lv_room (Nat.le_of_ble_eq_true rfl)) dM6_perform_44 ⟨Nat.le_of_ble_eq_true rfl, Nat.le_of_ble_eq_true rfl⟩) hD hS hA (fun u24 H locs h hP hD hS => ?_)
        refine lv_goto (tgt := 158) hx hb dM6_perform_47 (by decide) ?_
        refine lv_goto (tgt := 10) hx hb dM6_perform_158 (by decide) ?_
        exact ih l1 l2 u24 _ _ _ h hP hD hS (lv_sub hl [2, 3, 4] rfl)

set_option maxHeartbeats 8000000 in
set_option maxRecDepth 100000 in
theorem cM6_perform (l : Launch) (dC : Nat → ClassId) (dI : Nat → Nat → Nat) (ad : Nat → Nat) (ca : Nat → ClassId) (K : KM) (sz : Nat) (u : gS) (p1 : Int32) (post : gS → Prop)  (h : wpM6_perform K post u p1) : Met l ⟨"WorkHallModel", "perform", "(I)V"⟩ (gw ⟨"WorkHallModel", "perform", "(I)V"⟩ prog_8_method_23_code 6 none) ({ frames := 6, cells := 0, slots := 0, locals := 240 } : Room) (va_Pc [.ref (ad 0), .int p1] (gB (dC, dI) vwCl (mT ca) mE (wM ad ca K u) sz)) (va_Qv post (gAt (dC, dI) vwCl (mT ca) (wM ad ca K) (va_A (wM ad ca K u) sz)) (va_A (wM ad ca K u) sz)) 0 0 (va_A (wM ad ca K u) sz) := by
  refine Met.ofW (cc := prog_8_method_23_code) (maxL := 6) (ret := none) (by decide) rfl ?_
  intro p e s m args below meth c s₁ B hml hv
  obtain ⟨rfl, hsz, hP, hK, hD0, hE⟩ := hv
  have hx := B.exec
  have hb := B.bytes
  have hr := B.returns
  have hts : ∀ w ∈ gW, w.before _ s = true := fun w h9 => atoms_spec (ws := (gw ⟨"WorkHallModel", "perform", "(I)V"⟩ prog_8_method_23_code 6 none)) B.pre w (List.mem_cons_of_mem _ h9)
  have hown : s.vm.findClass RX6 = some m.cls := findClass_of_methodNamed B.named
  have hlocks := B.notSynchronized
  subst hsz
  have hD := hD0.self (sz := s.heap.size)
  generalize hAe : va_A (wM ad ca K u) s.heap.size = A at hD hE ⊢
  have hA : ∀ q : Nat, s.heap.size ≤ q → A q := fun q h => by rw [← hAe]; exact Or.inr h
  obtain ⟨H, hHe⟩ : ∃ z : Heap, z = s.heap := ⟨_, rfl⟩
  rw [← hHe]
  have hS : va_S A s.heap H [] := by rw [hHe]; exact va_S.rf
  have hP : va_P (dC, dI) vwCl (wM ad ca K u) H := by rw [hHe]; exact hP
  have hl := lv_entry ([.ref (ad 0), .int p1]) (n := 6) (Nat.le_of_ble_eq_true rfl)
  rw [lg_entry_eq]
  generalize (lg_sl ([.ref (ad 0), .int p1]) ++ List.replicate (6 - (lg_sl ([.ref (ad 0), .int p1])).length) Slot.unset).toArray = ls at hl ⊢
  have hl : lv_has ls 6 [(0, .ref (ad 0)), (1, .int p1)] := hl
  clear hAe
  refine lv_aload_n hx hb dM6_perform_0 rfl (lv_at hl 0 rfl) ?_
  refine va_get (D := (dC, dI)) (ci := 6) (v := .int (sI u 10)) (C := RX6) (T := TX6) (N := 36) hx hb hts uwX6 hown hK hP 0 rfl rfl 35 (by decide) (hts _ wd_738) (fun _ h9 => h9) rfl dM6_perform_1 ?_
  refine lv_topi (fun x1 ex1 => ?_)
  have h := h x1 ex1
  refine lv_istore_n (lv' := [(2, .int x1), (0, .ref (ad 0)), (1, .int p1)]) hx hb dM6_perform_4 rfl hl (by decide) rfl (fun ls hl => ?_)
  refine lv_aload_n hx hb dM6_perform_5 rfl (lv_at hl 1 rfl) ?_
  refine lv_iload_n hx hb dM6_perform_6 rfl (lv_at hl 2 rfl) ?_
  refine gc_v (w := wM ad ca K) (u := u) (va_runV (As := [.int p1]) (rest := []) ⟨hx, hb, hml, hown, hts⟩ (cM6_push l dC dI ad ca K H.size u p1 _ h) (cwV 1 hts (gG_V wd_869 wd_871 wd_28 wd_52 wd_872) rfl rfl rfl (by decide +kernel) ⟨Nat.le_of_ble_eq_true rfl, Nat.le_of_ble_eq_true rfl⟩) ⟨gB_blind mE_ok, va_recv hK hP (ci := 6) (q0 := 0) rfl rfl, gB_pre mE_ok hP hK hD hE hS hA⟩ rfl rfl hl.1 rfl (lv_room (Nat.le_of_ble_eq_true rfl)) dM6_perform_7 ⟨Nat.le_of_ble_eq_true rfl, Nat.le_of_ble_eq_true rfl⟩) hD hS hA (fun u3 H locs h hP hD hS => ?_)
  obtain ⟨n10, h⟩ := h
  exact wpM6_perform_10_ok hx hb hr hml hown hts hlocks hK hA hE n10 p1 x1 u3 _ _ _ h hP hD hS (lv_sub hl [1, 2, 0] rfl)

theorem dM6_submitNow_0 : decode prog_8_method_24_code 0 = .ok (.aload_n 0, 1) := by decide +kernel
theorem dM6_submitNow_1 : decode prog_8_method_24_code 1 = .ok (.iload_n 1, 1) := by decide +kernel
theorem dM6_submitNow_2 : decode prog_8_method_24_code 2 = .ok (.invokevirtual 160, 3) := by decide +kernel
theorem dM6_submitNow_5 : decode prog_8_method_24_code 5 = .ok (.ifCond .eq 8, 3) := by decide +kernel
theorem dM6_submitNow_8 : decode prog_8_method_24_code 8 = .ok (.aload_n 0, 1) := by decide +kernel
theorem dM6_submitNow_9 : decode prog_8_method_24_code 9 = .ok (.iload_n 1, 1) := by decide +kernel
theorem dM6_submitNow_10 : decode prog_8_method_24_code 10 = .ok (.invokevirtual 182, 3) := by decide +kernel
theorem dM6_submitNow_13 : decode prog_8_method_24_code 13 = .ok (.return_, 1) := by decide +kernel
def wpM6_submitNow (K : KM) (post : gS → Prop) (u : gS) (p1 : Int32) : Prop :=
  wpM6_place K (fun (r1 : Int32) (u2 : gS) => ((r1 = 0 → (post u2)) ∧ (¬ r1 = 0 → (wpM6_perform K (fun (u5 : gS) => post u5) u2 p1)))) u p1

set_option maxHeartbeats 8000000 in
set_option maxRecDepth 100000 in
theorem cM6_submitNow (l : Launch) (dC : Nat → ClassId) (dI : Nat → Nat → Nat) (ad : Nat → Nat) (ca : Nat → ClassId) (K : KM) (sz : Nat) (u : gS) (p1 : Int32) (post : gS → Prop)  (h : wpM6_submitNow K post u p1) : Met l ⟨"WorkHallModel", "submitNow", "(I)V"⟩ (gw ⟨"WorkHallModel", "submitNow", "(I)V"⟩ prog_8_method_24_code 2 none) ({ frames := 7, cells := 0, slots := 0, locals := 280 } : Room) (va_Pc [.ref (ad 0), .int p1] (gB (dC, dI) vwCl (mT ca) mE (wM ad ca K u) sz)) (va_Qv post (gAt (dC, dI) vwCl (mT ca) (wM ad ca K) (va_A (wM ad ca K u) sz)) (va_A (wM ad ca K u) sz)) 0 0 (va_A (wM ad ca K u) sz) := by
  refine Met.ofW (cc := prog_8_method_24_code) (maxL := 2) (ret := none) (by decide) rfl ?_
  intro p e s m args below meth c s₁ B hml hv
  obtain ⟨rfl, hsz, hP, hK, hD0, hE⟩ := hv
  have hx := B.exec
  have hb := B.bytes
  have hr := B.returns
  have hts : ∀ w ∈ gW, w.before _ s = true := fun w h9 => atoms_spec (ws := (gw ⟨"WorkHallModel", "submitNow", "(I)V"⟩ prog_8_method_24_code 2 none)) B.pre w (List.mem_cons_of_mem _ h9)
  have hown : s.vm.findClass RX6 = some m.cls := findClass_of_methodNamed B.named
  have hlocks := B.notSynchronized
  subst hsz
  have hD := hD0.self (sz := s.heap.size)
  generalize hAe : va_A (wM ad ca K u) s.heap.size = A at hD hE ⊢
  have hA : ∀ q : Nat, s.heap.size ≤ q → A q := fun q h => by rw [← hAe]; exact Or.inr h
  obtain ⟨H, hHe⟩ : ∃ z : Heap, z = s.heap := ⟨_, rfl⟩
  rw [← hHe]
  have hS : va_S A s.heap H [] := by rw [hHe]; exact va_S.rf
  have hP : va_P (dC, dI) vwCl (wM ad ca K u) H := by rw [hHe]; exact hP
  have hl := lv_entry ([.ref (ad 0), .int p1]) (n := 2) (Nat.le_of_ble_eq_true rfl)
  rw [lg_entry_eq]
  generalize (lg_sl ([.ref (ad 0), .int p1]) ++ List.replicate (2 - (lg_sl ([.ref (ad 0), .int p1])).length) Slot.unset).toArray = ls at hl ⊢
  have hl : lv_has ls 2 [(0, .ref (ad 0)), (1, .int p1)] := hl
  clear hAe
  refine lv_aload_n hx hb dM6_submitNow_0 rfl (lv_at hl 0 rfl) ?_
  refine lv_iload_n hx hb dM6_submitNow_1 rfl (lv_at hl 1 rfl) ?_
  refine gc_i (w := wM ad ca K) (u := u) (va_runV (As := [.int p1]) (rest := []) ⟨hx, hb, hml, hown, hts⟩ (cM6_place l dC dI ad ca K H.size u p1 _ h) (cwV 1 hts (gG_V wd_845 wd_847 wd_22 wd_52 wd_848) rfl rfl rfl (by decide +kernel) ⟨Nat.le_of_ble_eq_true rfl, Nat.le_of_ble_eq_true rfl⟩) ⟨gB_blind mE_ok, va_recv hK hP (ci := 6) (q0 := 0) rfl rfl, gB_pre mE_ok hP hK hD hE hS hA⟩ rfl rfl hl.1 rfl (lv_room (Nat.le_of_ble_eq_true rfl)) dM6_submitNow_2 ⟨Nat.le_of_ble_eq_true rfl, Nat.le_of_ble_eq_true rfl⟩) hD hS hA (fun r1 u2 H locs h hP hD hS => ?_)
  refine lv_if_eq (tgt := 13) hx hb dM6_submitNow_5 (by decide) (fun c3 => ?_) (fun c3 => ?_)
  · have h := h.1 c3
    exact gr_v (w := wM ad ca K) (u := u2) hx hb hr hlocks h hP hK hD hS dM6_submitNow_13
  · have h := h.2 c3
    refine lv_aload_n hx hb dM6_submitNow_8 rfl (lv_at hl 0 rfl) ?_
    refine lv_iload_n hx hb dM6_submitNow_9 rfl (lv_at hl 1 rfl) ?_
    refine gc_v (w := wM ad ca K) (u := u2) (va_runV (As := [.int p1]) (rest := []) ⟨hx, hb, hml, hown, hts⟩ (cM6_perform l dC dI ad ca K H.size u2 p1 _ h) (cwV 1 hts (gG_V wd_865 wd_867 wd_27 wd_52 wd_868) rfl rfl rfl (by decide +kernel) ⟨Nat.le_of_ble_eq_true rfl, Nat.le_of_ble_eq_true rfl⟩) ⟨gB_blind mE_ok, va_recv hK hP (ci := 6) (q0 := 0) rfl rfl, gB_pre mE_ok hP hK hD hE hS hA⟩ rfl rfl hl.1 rfl (lv_room (Nat.le_of_ble_eq_true rfl)) dM6_submitNow_10 ⟨Nat.le_of_ble_eq_true rfl, Nat.le_of_ble_eq_true rfl⟩) hD hS hA (fun u5 H locs h hP hD hS => ?_)
    exact gr_v (w := wM ad ca K) (u := u5) hx hb hr hlocks h hP hK hD hS dM6_submitNow_13

theorem dM6_submit_0 : decode prog_8_method_25_code 0 = .ok (.aload_n 0, 1) := by decide +kernel
theorem dM6_submit_1 : decode prog_8_method_25_code 1 = .ok (.iconst 0, 1) := by decide +kernel
theorem dM6_submit_2 : decode prog_8_method_25_code 2 = .ok (.putfield 85, 3) := by decide +kernel
theorem dM6_submit_5 : decode prog_8_method_25_code 5 = .ok (.aload_n 0, 1) := by decide +kernel
theorem dM6_submit_6 : decode prog_8_method_25_code 6 = .ok (.iload_n 1, 1) := by decide +kernel
theorem dM6_submit_7 : decode prog_8_method_25_code 7 = .ok (.bipush 24, 2) := by decide +kernel
theorem dM6_submit_9 : decode prog_8_method_25_code 9 = .ok (.invokevirtual 104, 3) := by decide +kernel
theorem dM6_submit_12 : decode prog_8_method_25_code 12 = .ok (.ifCond .eq 9, 3) := by decide +kernel
theorem dM6_submit_15 : decode prog_8_method_25_code 15 = .ok (.aload_n 0, 1) := by decide +kernel
theorem dM6_submit_16 : decode prog_8_method_25_code 16 = .ok (.iconst 1, 1) := by decide +kernel
theorem dM6_submit_17 : decode prog_8_method_25_code 17 = .ok (.invokevirtual 108, 3) := by decide +kernel
theorem dM6_submit_20 : decode prog_8_method_25_code 20 = .ok (.ireturn, 1) := by decide +kernel
theorem dM6_submit_21 : decode prog_8_method_25_code 21 = .ok (.iload_n 1, 1) := by decide +kernel
theorem dM6_submit_22 : decode prog_8_method_25_code 22 = .ok (.aload_n 0, 1) := by decide +kernel
theorem dM6_submit_23 : decode prog_8_method_25_code 23 = .ok (.getfield 112, 3) := by decide +kernel
theorem dM6_submit_26 : decode prog_8_method_25_code 26 = .ok (.if_icmp .lt 9, 3) := by decide +kernel
theorem dM6_submit_29 : decode prog_8_method_25_code 29 = .ok (.aload_n 0, 1) := by decide +kernel
theorem dM6_submit_30 : decode prog_8_method_25_code 30 = .ok (.iconst 2, 1) := by decide +kernel
theorem dM6_submit_31 : decode prog_8_method_25_code 31 = .ok (.invokevirtual 108, 3) := by decide +kernel
theorem dM6_submit_34 : decode prog_8_method_25_code 34 = .ok (.ireturn, 1) := by decide +kernel
theorem dM6_submit_35 : decode prog_8_method_25_code 35 = .ok (.aload_n 0, 1) := by decide +kernel
theorem dM6_submit_36 : decode prog_8_method_25_code 36 = .ok (.getfield 22, 3) := by decide +kernel
theorem dM6_submit_39 : decode prog_8_method_25_code 39 = .ok (.iload_n 1, 1) := by decide +kernel
theorem dM6_submit_40 : decode prog_8_method_25_code 40 = .ok (.iaload, 1) := by decide +kernel
theorem dM6_submit_41 : decode prog_8_method_25_code 41 = .ok (.ifCond .eq 9, 3) := by decide +kernel
theorem dM6_submit_44 : decode prog_8_method_25_code 44 = .ok (.aload_n 0, 1) := by decide +kernel
theorem dM6_submit_45 : decode prog_8_method_25_code 45 = .ok (.iconst 3, 1) := by decide +kernel
theorem dM6_submit_46 : decode prog_8_method_25_code 46 = .ok (.invokevirtual 108, 3) := by decide +kernel
theorem dM6_submit_49 : decode prog_8_method_25_code 49 = .ok (.ireturn, 1) := by decide +kernel
theorem dM6_submit_50 : decode prog_8_method_25_code 50 = .ok (.aload_n 0, 1) := by decide +kernel
theorem dM6_submit_51 : decode prog_8_method_25_code 51 = .ok (.iload_n 1, 1) := by decide +kernel
theorem dM6_submit_52 : decode prog_8_method_25_code 52 = .ok (.invokevirtual 185, 3) := by decide +kernel
theorem dM6_submit_55 : decode prog_8_method_25_code 55 = .ok (.aload_n 0, 1) := by decide +kernel
theorem dM6_submit_56 : decode prog_8_method_25_code 56 = .ok (.getfield 22, 3) := by decide +kernel
theorem dM6_submit_59 : decode prog_8_method_25_code 59 = .ok (.iload_n 1, 1) := by decide +kernel
theorem dM6_submit_60 : decode prog_8_method_25_code 60 = .ok (.iaload, 1) := by decide +kernel
theorem dM6_submit_61 : decode prog_8_method_25_code 61 = .ok (.bipush 6, 2) := by decide +kernel
theorem dM6_submit_63 : decode prog_8_method_25_code 63 = .ok (.if_icmp .ne 13, 3) := by decide +kernel
theorem dM6_submit_66 : decode prog_8_method_25_code 66 = .ok (.aload_n 0, 1) := by decide +kernel
theorem dM6_submit_67 : decode prog_8_method_25_code 67 = .ok (.aload_n 0, 1) := by decide +kernel
theorem dM6_submit_68 : decode prog_8_method_25_code 68 = .ok (.iconst 4, 1) := by decide +kernel
theorem dM6_submit_69 : decode prog_8_method_25_code 69 = .ok (.invokevirtual 108, 3) := by decide +kernel
theorem dM6_submit_72 : decode prog_8_method_25_code 72 = .ok (.invokevirtual 115, 3) := by decide +kernel
theorem dM6_submit_75 : decode prog_8_method_25_code 75 = .ok (.ireturn, 1) := by decide +kernel
theorem dM6_submit_76 : decode prog_8_method_25_code 76 = .ok (.aload_n 0, 1) := by decide +kernel
theorem dM6_submit_77 : decode prog_8_method_25_code 77 = .ok (.aload_n 0, 1) := by decide +kernel
theorem dM6_submit_78 : decode prog_8_method_25_code 78 = .ok (.getfield 22, 3) := by decide +kernel
theorem dM6_submit_81 : decode prog_8_method_25_code 81 = .ok (.iload_n 1, 1) := by decide +kernel
theorem dM6_submit_82 : decode prog_8_method_25_code 82 = .ok (.iaload, 1) := by decide +kernel
theorem dM6_submit_83 : decode prog_8_method_25_code 83 = .ok (.invokevirtual 115, 3) := by decide +kernel
theorem dM6_submit_86 : decode prog_8_method_25_code 86 = .ok (.ireturn, 1) := by decide +kernel
def wpM6_submit (K : KM) (post : Int32 → gS → Prop) (u : gS) (p1 : Int32) : Prop :=
  ∀ u1 : gS, u1 = tI u 0 0 → (wpM6_out K (fun (r2 : Int32) (u3 : gS) => ((r2 = 0 → (((p1 < (sI u3 1) → (vp_in p1 24 ∧ ((((sA u3 4 p1.toNatClampNeg) = 0 → (wpM6_submitNow K (fun (u8 : gS) => vp_in p1 24 ∧ (((¬ (sA u8 4 p1.toNatClampNeg) = 6 → (vp_in p1 24 ∧ (wpM6_end K (fun (r10 : Int32) (u11 : gS) => post r10 u11) u8 (sA u8 4 p1.toNatClampNeg)))) ∧ ((sA u8 4 p1.toNatClampNeg) = 6 → (wpM6_fail K (fun (r12 : Int32) (u13 : gS) => wpM6_end K (fun (r14 : Int32) (u15 : gS) => post r14 u15) u13 r12) u8 4))))) u3 p1)) ∧ (¬ (sA u3 4 p1.toNatClampNeg) = 0 → (wpM6_fail K (fun (r16 : Int32) (u17 : gS) => post r16 u17) u3 3)))))) ∧ (¬ p1 < (sI u3 1) → (wpM6_fail K (fun (r18 : Int32) (u19 : gS) => post r18 u19) u3 2))))) ∧ (¬ r2 = 0 → (wpM6_fail K (fun (r20 : Int32) (u21 : gS) => post r20 u21) u3 1)))) u1 p1 24)

set_option maxHeartbeats 8000000 in
set_option maxRecDepth 100000 in
theorem cM6_submit (l : Launch) (dC : Nat → ClassId) (dI : Nat → Nat → Nat) (ad : Nat → Nat) (ca : Nat → ClassId) (K : KM) (sz : Nat) (u : gS) (p1 : Int32) (post : Int32 → gS → Prop)  (h : wpM6_submit K post u p1) : Met l ⟨"WorkHallModel", "submit", "(I)I"⟩ (gw ⟨"WorkHallModel", "submit", "(I)I"⟩ prog_8_method_25_code 2 (some .int)) ({ frames := 8, cells := 0, slots := 0, locals := 320 } : Room) (va_Pc [.ref (ad 0), .int p1] (gB (dC, dI) vwCl (mT ca) mE (wM ad ca K u) sz)) (va_Qi post (gAt (dC, dI) vwCl (mT ca) (wM ad ca K) (va_A (wM ad ca K u) sz)) (va_A (wM ad ca K u) sz)) 0 0 (va_A (wM ad ca K u) sz) := by
  refine Met.ofW (cc := prog_8_method_25_code) (maxL := 2) (ret := (some .int)) (by decide) rfl ?_
  intro p e s m args below meth c s₁ B hml hv
  obtain ⟨rfl, hsz, hP, hK, hD0, hE⟩ := hv
  have hx := B.exec
  have hb := B.bytes
  have hr := B.returns
  have hts : ∀ w ∈ gW, w.before _ s = true := fun w h9 => atoms_spec (ws := (gw ⟨"WorkHallModel", "submit", "(I)I"⟩ prog_8_method_25_code 2 (some .int))) B.pre w (List.mem_cons_of_mem _ h9)
  have hown : s.vm.findClass RX6 = some m.cls := findClass_of_methodNamed B.named
  have hlocks := B.notSynchronized
  subst hsz
  have hD := hD0.self (sz := s.heap.size)
  generalize hAe : va_A (wM ad ca K u) s.heap.size = A at hD hE ⊢
  have hA : ∀ q : Nat, s.heap.size ≤ q → A q := fun q h => by rw [← hAe]; exact Or.inr h
  obtain ⟨H, hHe⟩ : ∃ z : Heap, z = s.heap := ⟨_, rfl⟩
  rw [← hHe]
  have hS : va_S A s.heap H [] := by rw [hHe]; exact va_S.rf
  have hP : va_P (dC, dI) vwCl (wM ad ca K u) H := by rw [hHe]; exact hP
  have hl := lv_entry ([.ref (ad 0), .int p1]) (n := 2) (Nat.le_of_ble_eq_true rfl)
  rw [lg_entry_eq]
  generalize (lg_sl ([.ref (ad 0), .int p1]) ++ List.replicate (2 - (lg_sl ([.ref (ad 0), .int p1])).length) Slot.unset).toArray = ls at hl ⊢
  have hl : lv_has ls 2 [(0, .ref (ad 0)), (1, .int p1)] := hl
  clear hAe
  refine lv_aload_n hx hb dM6_submit_0 rfl (lv_at hl 0 rfl) ?_
  refine lv_iconst (v := 0) hx hb dM6_submit_1 (by decide) ?_
  refine va_put (D := (dC, dI)) (ci := 6) (v := .int 0) (ty := tyX6 0) (C := RX6) (T := TX6) (N := 36) hx hb hts uwX6 tyX6 tyX6_ok nmX6 hown hK hP hD hS 0 rfl rfl 0 (by decide) (hts _ wd_703) (fun _ h9 => h9) rfl (tyX6_ok 0 (by decide)) rfl rfl (Nat.le_of_ble_eq_true rfl) dM6_submit_2 (fun H locs hP hD hS => ?_)
  obtain ⟨u1, eu1⟩ : ∃ z : gS, z = tI u 0 0 := ⟨_, rfl⟩
  have hP : va_P (dC, dI) vwCl (wM ad ca K u1) H := by rw [eu1, wM_f0_failed]; exact hP
  have hD : va_D A (wM ad ca K u1) := by rw [eu1, wM_f0_failed]; exact hD
  have h := h u1 eu1
  refine lv_aload_n hx hb dM6_submit_5 rfl (lv_at hl 0 rfl) ?_
  refine lv_iload_n hx hb dM6_submit_6 rfl (lv_at hl 1 rfl) ?_
  refine lv_bipush (v := 24) hx hb dM6_submit_7 (by decide) ?_
  refine gc_i (w := wM ad ca K) (u := u1) (va_runV (As := [.int p1, .int 24]) (rest := []) ⟨hx, hb, hml, hown, hts⟩ (cM6_out l dC dI ad ca K H.size u1 p1 24 _ h) (cwV 2 hts (gG_V wd_821 wd_823 wd_17 wd_52 wd_824) rfl rfl rfl (by decide +kernel) ⟨Nat.le_of_ble_eq_true rfl, Nat.le_of_ble_eq_true rfl⟩) ⟨gB_blind mE_ok, va_recv hK hP (ci := 6) (q0 := 0) rfl rfl, gB_pre mE_ok hP hK hD hE hS hA⟩ rfl rfl hl.1 rfl (lv_room (Nat.le_of_ble_eq_true rfl)) dM6_submit_9 ⟨Nat.le_of_ble_eq_true rfl, Nat.le_of_ble_eq_true rfl⟩) hD hS hA (fun r2 u3 H locs h hP hD hS => ?_)
  refine lv_if_eq (tgt := 21) hx hb dM6_submit_12 (by decide) (fun c4 => ?_) (fun c4 => ?_)
  · have h := h.1 c4
    refine lv_iload_n hx hb dM6_submit_21 rfl (lv_at hl 1 rfl) ?_
    refine lv_aload_n hx hb dM6_submit_22 rfl (lv_at hl 0 rfl) ?_
    refine va_get (D := (dC, dI)) (ci := 6) (v := .int (sI u3 1)) (C := RX6) (T := TX6) (N := 36) hx hb hts uwX6 hown hK hP 0 rfl rfl 13 (by decide) (hts _ wd_716) (fun _ h9 => h9) rfl dM6_submit_23 ?_
    refine lv_icmp_lt (tgt := 35) hx hb dM6_submit_26 (by decide) (fun c5 => ?_) (fun c5 => ?_)
    · have h := h.1 c5
      refine lv_aload_n hx hb dM6_submit_35 rfl (lv_at hl 0 rfl) ?_
      refine va_get (D := (dC, dI)) (ci := 6) (v := .ref (ad 5)) (C := RX6) (T := TX6) (N := 36) hx hb hts uwX6 hown hK hP 0 rfl rfl 9 (by decide) (hts _ wd_712) (fun _ h9 => h9) rfl dM6_submit_36 ?_
      refine lv_iload_n hx hb dM6_submit_39 rfl (lv_at hl 1 rfl) ?_
      refine va_iald hx hb hK hP 5 0 rfl rfl h.1 dM6_submit_40 ?_
      have h := h.2
      refine lv_if_eq (tgt := 50) hx hb dM6_submit_41 (by decide) (fun c6 => ?_) (fun c6 => ?_)
      · have h := h.1 c6
        refine lv_aload_n hx hb dM6_submit_50 rfl (lv_at hl 0 rfl) ?_
        refine lv_iload_n hx hb dM6_submit_51 rfl (lv_at hl 1 rfl) ?_
        refine gc_v (w := wM ad ca K) (u := u3) (va_runV (As := [.int p1]) (rest := []) ⟨hx, hb, hml, hown, hts⟩ (cM6_submitNow l dC dI ad ca K H.size u3 p1 _ h) (cwV 1 hts (gG_V wd_841 wd_843 wd_21 wd_52 wd_844) rfl rfl rfl (by decide +kernel) ⟨Nat.le_of_ble_eq_true rfl, Nat.le_of_ble_eq_true rfl⟩) ⟨gB_blind mE_ok, va_recv hK hP (ci := 6) (q0 := 0) rfl rfl, gB_pre mE_ok hP hK hD hE hS hA⟩ rfl rfl hl.1 rfl (lv_room (Nat.le_of_ble_eq_true rfl)) dM6_submit_52 ⟨Nat.le_of_ble_eq_true rfl, Nat.le_of_ble_eq_true rfl⟩) hD hS hA (fun u8 H locs h hP hD hS => ?_)
        refine lv_aload_n hx hb dM6_submit_55 rfl (lv_at hl 0 rfl) ?_
        refine va_get (D := (dC, dI)) (ci := 6) (v := .ref (ad 5)) (C := RX6) (T := TX6) (N := 36) hx hb hts uwX6 hown hK hP 0 rfl rfl 9 (by decide) (hts _ wd_712) (fun _ h9 => h9) rfl dM6_submit_56 ?_
        refine lv_iload_n hx hb dM6_submit_59 rfl (lv_at hl 1 rfl) ?_
        refine va_iald hx hb hK hP 5 0 rfl rfl h.1 dM6_submit_60 ?_
        have h := h.2
        refine lv_bipush (v := 6) hx hb dM6_submit_61 (by decide) ?_
        refine lv_icmp_ne (tgt := 76) hx hb dM6_submit_63 (by decide) (fun c9 => ?_) (fun c9 => ?_)
        · have h := h.1 c9
          refine lv_aload_n hx hb dM6_submit_76 rfl (lv_at hl 0 rfl) ?_
          refine lv_aload_n hx hb dM6_submit_77 rfl (lv_at hl 0 rfl) ?_
          refine va_get (D := (dC, dI)) (ci := 6) (v := .ref (ad 5)) (C := RX6) (T := TX6) (N := 36) hx hb hts uwX6 hown hK hP 0 rfl rfl 9 (by decide) (hts _ wd_712) (fun _ h9 => h9) rfl dM6_submit_78 ?_
          refine lv_iload_n hx hb dM6_submit_81 rfl (lv_at hl 1 rfl) ?_
          refine va_iald hx hb hK hP 5 0 rfl rfl h.1 dM6_submit_82 ?_
          have h := h.2
          refine gc_i (w := wM ad ca K) (u := u8) (va_runV (As := [.int (sA u8 4 p1.toNatClampNeg)]) (rest := []) ⟨hx, hb, hml, hown, hts⟩ (cM6_end l dC dI ad ca K H.size u8 (sA u8 4 p1.toNatClampNeg) _ h) (cwV 1 hts (gG_V wd_829 wd_831 wd_19 wd_52 wd_832) rfl rfl rfl (by decide +kernel) ⟨Nat.le_of_ble_eq_true rfl, Nat.le_of_ble_eq_true rfl⟩) ⟨gB_blind mE_ok, va_recv hK hP (ci := 6) (q0 := 0) rfl rfl, gB_pre mE_ok hP hK hD hE hS hA⟩ rfl rfl hl.1 rfl (lv_room (Nat.le_of_ble_eq_true rfl)) dM6_submit_83 ⟨Nat.le_of_ble_eq_true rfl, Nat.le_of_ble_eq_true rfl⟩) hD hS hA (fun r10 u11 H locs h hP hD hS => ?_)
          exact gr_i (w := wM ad ca K) (u := u11) hx hb hr hlocks h hP hK hD hS dM6_submit_86
        · have h := h.2 c9
          refine lv_aload_n hx hb dM6_submit_66 rfl (lv_at hl 0 rfl) ?_
          refine lv_aload_n hx hb dM6_submit_67 rfl (lv_at hl 0 rfl) ?_
          refine lv_iconst (v := 4) hx hb dM6_submit_68 (by decide) ?_
          refine gc_i (w := wM ad ca K) (u := u8) (va_runV (As := [.int 4]) (rest := [.ref (ad 0)]) ⟨hx, hb, hml, hown, hts⟩ (cM6_fail l dC dI ad ca K H.size u8 4 _ h) (cwV 1 hts (gG_V wd_825 wd_827 wd_18 wd_52 wd_828) rfl rfl rfl (by decide +kernel) ⟨Nat.le_of_ble_eq_true rfl, Nat.le_of_ble_eq_true rfl⟩) ⟨gB_blind mE_ok, va_recv hK hP (ci := 6) (q0 := 0) rfl rfl, gB_pre mE_ok hP hK hD hE hS hA⟩ rfl rfl hl.1 rfl (lv_room (Nat.le_of_ble_eq_true rfl)) dM6_submit_69 ⟨Nat.le_of_ble_eq_true rfl, Nat.le_of_ble_eq_true rfl⟩) hD hS hA (fun r12 u13 H locs h hP hD hS => ?_)
          refine gc_i (w := wM ad ca K) (u := u13) (va_runV (As := [.int r12]) (rest := []) ⟨hx, hb, hml, hown, hts⟩ (cM6_end l dC dI ad ca K H.size u13 r12 _ h) (cwV 1 hts (gG_V wd_829 wd_831 wd_19 wd_52 wd_832) rfl rfl rfl (by decide +kernel) ⟨Nat.le_of_ble_eq_true rfl, Nat.le_of_ble_eq_true rfl⟩) ⟨gB_blind mE_ok, va_recv hK hP (ci := 6) (q0 := 0) rfl rfl, gB_pre mE_ok hP hK hD hE hS hA⟩ rfl rfl hl.1 rfl (lv_room (Nat.le_of_ble_eq_true rfl)) dM6_submit_72 ⟨Nat.le_of_ble_eq_true rfl, Nat.le_of_ble_eq_true rfl⟩) hD hS hA (fun r14 u15 H locs h hP hD hS => ?_)
          exact gr_i (w := wM ad ca K) (u := u15) hx hb hr hlocks h hP hK hD hS dM6_submit_75
      · have h := h.2 c6
        refine lv_aload_n hx hb dM6_submit_44 rfl (lv_at hl 0 rfl) ?_
        refine lv_iconst (v := 3) hx hb dM6_submit_45 (by decide) ?_
        refine gc_i (w := wM ad ca K) (u := u3) (va_runV (As := [.int 3]) (rest := []) ⟨hx, hb, hml, hown, hts⟩ (cM6_fail l dC dI ad ca K H.size u3 3 _ h) (cwV 1 hts (gG_V wd_825 wd_827 wd_18 wd_52 wd_828) rfl rfl rfl (by decide +kernel) ⟨Nat.le_of_ble_eq_true rfl, Nat.le_of_ble_eq_true rfl⟩) ⟨gB_blind mE_ok, va_recv hK hP (ci := 6) (q0 := 0) rfl rfl, gB_pre mE_ok hP hK hD hE hS hA⟩ rfl rfl hl.1 rfl (lv_room (Nat.le_of_ble_eq_true rfl)) dM6_submit_46 ⟨Nat.le_of_ble_eq_true rfl, Nat.le_of_ble_eq_true rfl⟩) hD hS hA (fun r16 u17 H locs h hP hD hS => ?_)
        exact gr_i (w := wM ad ca K) (u := u17) hx hb hr hlocks h hP hK hD hS dM6_submit_49
    · have h := h.2 c5
      refine lv_aload_n hx hb dM6_submit_29 rfl (lv_at hl 0 rfl) ?_
      refine lv_iconst (v := 2) hx hb dM6_submit_30 (by decide) ?_
      refine gc_i (w := wM ad ca K) (u := u3) (va_runV (As := [.int 2]) (rest := []) ⟨hx, hb, hml, hown, hts⟩ (cM6_fail l dC dI ad ca K H.size u3 2 _ h) (cwV 1 hts (gG_V wd_825 wd_827 wd_18 wd_52 wd_828) rfl rfl rfl (by decide +kernel) ⟨Nat.le_of_ble_eq_true rfl, Nat.le_of_ble_eq_true rfl⟩) ⟨gB_blind mE_ok, va_recv hK hP (ci := 6) (q0 := 0) rfl rfl, gB_pre mE_ok hP hK hD hE hS hA⟩ rfl rfl hl.1 rfl (lv_room (Nat.le_of_ble_eq_true rfl)) dM6_submit_31 ⟨Nat.le_of_ble_eq_true rfl, Nat.le_of_ble_eq_true rfl⟩) hD hS hA (fun r18 u19 H locs h hP hD hS => ?_)
      exact gr_i (w := wM ad ca K) (u := u19) hx hb hr hlocks h hP hK hD hS dM6_submit_34
  · have h := h.2 c4
    refine lv_aload_n hx hb dM6_submit_15 rfl (lv_at hl 0 rfl) ?_
    refine lv_iconst (v := 1) hx hb dM6_submit_16 (by decide) ?_
    refine gc_i (w := wM ad ca K) (u := u3) (va_runV (As := [.int 1]) (rest := []) ⟨hx, hb, hml, hown, hts⟩ (cM6_fail l dC dI ad ca K H.size u3 1 _ h) (cwV 1 hts (gG_V wd_825 wd_827 wd_18 wd_52 wd_828) rfl rfl rfl (by decide +kernel) ⟨Nat.le_of_ble_eq_true rfl, Nat.le_of_ble_eq_true rfl⟩) ⟨gB_blind mE_ok, va_recv hK hP (ci := 6) (q0 := 0) rfl rfl, gB_pre mE_ok hP hK hD hE hS hA⟩ rfl rfl hl.1 rfl (lv_room (Nat.le_of_ble_eq_true rfl)) dM6_submit_17 ⟨Nat.le_of_ble_eq_true rfl, Nat.le_of_ble_eq_true rfl⟩) hD hS hA (fun r20 u21 H locs h hP hD hS => ?_)
    exact gr_i (w := wM ad ca K) (u := u21) hx hb hr hlocks h hP hK hD hS dM6_submit_20

