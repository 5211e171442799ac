theorem dM6_fire_0 : decode prog_8_method_38_code 0 = .ok (.aload_n 0, 1) := by decide +kernel
theorem dM6_fire_1 : decode prog_8_method_38_code 1 = .ok (.getfield 53, 3) := by decide +kernel
theorem dM6_fire_4 : decode prog_8_method_38_code 4 = .ok (.iload_n 1, 1) := by decide +kernel
theorem dM6_fire_5 : decode prog_8_method_38_code 5 = .ok (.iaload, 1) := by decide +kernel
theorem dM6_fire_6 : decode prog_8_method_38_code 6 = .ok (.istore_n 2, 1) := by decide +kernel
theorem dM6_fire_7 : decode prog_8_method_38_code 7 = .ok (.aload_n 0, 1) := by decide +kernel
theorem dM6_fire_8 : decode prog_8_method_38_code 8 = .ok (.getfield 56, 3) := by decide +kernel
theorem dM6_fire_11 : decode prog_8_method_38_code 11 = .ok (.iload_n 1, 1) := by decide +kernel
theorem dM6_fire_12 : decode prog_8_method_38_code 12 = .ok (.daload, 1) := by decide +kernel
theorem dM6_fire_13 : decode prog_8_method_38_code 13 = .ok (.dstore_n 3, 1) := by decide +kernel
theorem dM6_fire_14 : decode prog_8_method_38_code 14 = .ok (.aload_n 0, 1) := by decide +kernel
theorem dM6_fire_15 : decode prog_8_method_38_code 15 = .ok (.getfield 59, 3) := by decide +kernel
theorem dM6_fire_18 : decode prog_8_method_38_code 18 = .ok (.iload_n 1, 1) := by decide +kernel
theorem dM6_fire_19 : decode prog_8_method_38_code 19 = .ok (.daload, 1) := by decide +kernel
theorem dM6_fire_20 : decode prog_8_method_38_code 20 = .ok (.dstore 5, 2) := by decide +kernel
theorem dM6_fire_22 : decode prog_8_method_38_code 22 = .ok (.aload_n 0, 1) := by decide +kernel
theorem dM6_fire_23 : decode prog_8_method_38_code 23 = .ok (.dup, 1) := by decide +kernel
theorem dM6_fire_24 : decode prog_8_method_38_code 24 = .ok (.getfield 101, 3) := by decide +kernel
theorem dM6_fire_27 : decode prog_8_method_38_code 27 = .ok (.iconst 1, 1) := by decide +kernel
theorem dM6_fire_28 : decode prog_8_method_38_code 28 = .ok (.isub, 1) := by decide +kernel
theorem dM6_fire_29 : decode prog_8_method_38_code 29 = .ok (.putfield 101, 3) := by decide +kernel
theorem dM6_fire_32 : decode prog_8_method_38_code 32 = .ok (.iload_n 1, 1) := by decide +kernel
theorem dM6_fire_33 : decode prog_8_method_38_code 33 = .ok (.istore 7, 2) := by decide +kernel
theorem dM6_fire_35 : decode prog_8_method_38_code 35 = .ok (.iload 7, 2) := by decide +kernel
theorem dM6_fire_37 : decode prog_8_method_38_code 37 = .ok (.aload_n 0, 1) := by decide +kernel
theorem dM6_fire_38 : decode prog_8_method_38_code 38 = .ok (.getfield 101, 3) := by decide +kernel
theorem dM6_fire_41 : decode prog_8_method_38_code 41 = .ok (.if_icmp .ge 57, 3) := by decide +kernel
theorem dM6_fire_44 : decode prog_8_method_38_code 44 = .ok (.aload_n 0, 1) := by decide +kernel
theorem dM6_fire_45 : decode prog_8_method_38_code 45 = .ok (.getfield 53, 3) := by decide +kernel
theorem dM6_fire_48 : decode prog_8_method_38_code 48 = .ok (.iload 7, 2) := by decide +kernel
theorem dM6_fire_50 : decode prog_8_method_38_code 50 = .ok (.aload_n 0, 1) := by decide +kernel
theorem dM6_fire_51 : decode prog_8_method_38_code 51 = .ok (.getfield 53, 3) := by decide +kernel
theorem dM6_fire_54 : decode prog_8_method_38_code 54 = .ok (.iload 7, 2) := by decide +kernel
theorem dM6_fire_56 : decode prog_8_method_38_code 56 = .ok (.iconst 1, 1) := by decide +kernel
theorem dM6_fire_57 : decode prog_8_method_38_code 57 = .ok (.iadd, 1) := by decide +kernel
theorem dM6_fire_58 : decode prog_8_method_38_code 58 = .ok (.iaload, 1) := by decide +kernel
theorem dM6_fire_59 : decode prog_8_method_38_code 59 = .ok (.iastore, 1) := by decide +kernel
theorem dM6_fire_60 : decode prog_8_method_38_code 60 = .ok (.aload_n 0, 1) := by decide +kernel
theorem dM6_fire_61 : decode prog_8_method_38_code 61 = .ok (.getfield 56, 3) := by decide +kernel
theorem dM6_fire_64 : decode prog_8_method_38_code 64 = .ok (.iload 7, 2) := by decide +kernel
theorem dM6_fire_66 : decode prog_8_method_38_code 66 = .ok (.aload_n 0, 1) := by decide +kernel
theorem dM6_fire_67 : decode prog_8_method_38_code 67 = .ok (.getfield 56, 3) := by decide +kernel
theorem dM6_fire_70 : decode prog_8_method_38_code 70 = .ok (.iload 7, 2) := by decide +kernel
theorem dM6_fire_72 : decode prog_8_method_38_code 72 = .ok (.iconst 1, 1) := by decide +kernel
theorem dM6_fire_73 : decode prog_8_method_38_code 73 = .ok (.iadd, 1) := by decide +kernel
theorem dM6_fire_74 : decode prog_8_method_38_code 74 = .ok (.daload, 1) := by decide +kernel
theorem dM6_fire_75 : decode prog_8_method_38_code 75 = .ok (.dastore, 1) := by decide +kernel
theorem dM6_fire_76 : decode prog_8_method_38_code 76 = .ok (.aload_n 0, 1) := by decide +kernel
theorem dM6_fire_77 : decode prog_8_method_38_code 77 = .ok (.getfield 59, 3) := by decide +kernel
theorem dM6_fire_80 : decode prog_8_method_38_code 80 = .ok (.iload 7, 2) := by decide +kernel
theorem dM6_fire_82 : decode prog_8_method_38_code 82 = .ok (.aload_n 0, 1) := by decide +kernel
theorem dM6_fire_83 : decode prog_8_method_38_code 83 = .ok (.getfield 59, 3) := by decide +kernel
theorem dM6_fire_86 : decode prog_8_method_38_code 86 = .ok (.iload 7, 2) := by decide +kernel
theorem dM6_fire_88 : decode prog_8_method_38_code 88 = .ok (.iconst 1, 1) := by decide +kernel
theorem dM6_fire_89 : decode prog_8_method_38_code 89 = .ok (.iadd, 1) := by decide +kernel
theorem dM6_fire_90 : decode prog_8_method_38_code 90 = .ok (.daload, 1) := by decide +kernel
theorem dM6_fire_91 : decode prog_8_method_38_code 91 = .ok (.dastore, 1) := by decide +kernel
theorem dM6_fire_92 : decode prog_8_method_38_code 92 = .ok (.iinc 7 1, 3) := by decide +kernel
theorem dM6_fire_95 : decode prog_8_method_38_code 95 = .ok (.goto (-60), 3) := by decide +kernel
theorem dM6_fire_98 : decode prog_8_method_38_code 98 = .ok (.aload_n 0, 1) := by decide +kernel
theorem dM6_fire_99 : decode prog_8_method_38_code 99 = .ok (.getfield 22, 3) := by decide +kernel
theorem dM6_fire_102 : decode prog_8_method_38_code 102 = .ok (.iload_n 2, 1) := by decide +kernel
theorem dM6_fire_103 : decode prog_8_method_38_code 103 = .ok (.iaload, 1) := by decide +kernel
theorem dM6_fire_104 : decode prog_8_method_38_code 104 = .ok (.iconst 3, 1) := by decide +kernel
theorem dM6_fire_105 : decode prog_8_method_38_code 105 = .ok (.if_icmp .eq 13, 3) := by decide +kernel
theorem dM6_fire_108 : decode prog_8_method_38_code 108 = .ok (.aload_n 0, 1) := by decide +kernel
theorem dM6_fire_109 : decode prog_8_method_38_code 109 = .ok (.getfield 22, 3) := by decide +kernel
theorem dM6_fire_112 : decode prog_8_method_38_code 112 = .ok (.iload_n 2, 1) := by decide +kernel
theorem dM6_fire_113 : decode prog_8_method_38_code 113 = .ok (.iaload, 1) := by decide +kernel
theorem dM6_fire_114 : decode prog_8_method_38_code 114 = .ok (.iconst 4, 1) := by decide +kernel
theorem dM6_fire_115 : decode prog_8_method_38_code 115 = .ok (.if_icmp .ne 10, 3) := by decide +kernel
theorem dM6_fire_118 : decode prog_8_method_38_code 118 = .ok (.aload_n 0, 1) := by decide +kernel
theorem dM6_fire_119 : decode prog_8_method_38_code 119 = .ok (.getfield 22, 3) := by decide +kernel
theorem dM6_fire_122 : decode prog_8_method_38_code 122 = .ok (.iload_n 2, 1) := by decide +kernel
theorem dM6_fire_123 : decode prog_8_method_38_code 123 = .ok (.iconst 0, 1) := by decide +kernel
theorem dM6_fire_124 : decode prog_8_method_38_code 124 = .ok (.iastore, 1) := by decide +kernel
theorem dM6_fire_125 : decode prog_8_method_38_code 125 = .ok (.aload_n 0, 1) := by decide +kernel
theorem dM6_fire_126 : decode prog_8_method_38_code 126 = .ok (.getfield 22, 3) := by decide +kernel
theorem dM6_fire_129 : decode prog_8_method_38_code 129 = .ok (.iload_n 2, 1) := by decide +kernel
theorem dM6_fire_130 : decode prog_8_method_38_code 130 = .ok (.iaload, 1) := by decide +kernel
theorem dM6_fire_131 : decode prog_8_method_38_code 131 = .ok (.ifCond .ne 8, 3) := by decide +kernel
theorem dM6_fire_134 : decode prog_8_method_38_code 134 = .ok (.aload_n 0, 1) := by decide +kernel
theorem dM6_fire_135 : decode prog_8_method_38_code 135 = .ok (.iload_n 2, 1) := by decide +kernel
theorem dM6_fire_136 : decode prog_8_method_38_code 136 = .ok (.invokevirtual 185, 3) := by decide +kernel
theorem dM6_fire_139 : decode prog_8_method_38_code 139 = .ok (.dload 5, 2) := by decide +kernel
theorem dM6_fire_141 : decode prog_8_method_38_code 141 = .ok (.dconst 0, 1) := by decide +kernel
theorem dM6_fire_142 : decode prog_8_method_38_code 142 = .ok (.dcmp .l, 1) := by decide +kernel
theorem dM6_fire_143 : decode prog_8_method_38_code 143 = .ok (.ifCond .le 21, 3) := by decide +kernel
theorem dM6_fire_146 : decode prog_8_method_38_code 146 = .ok (.aload_n 0, 1) := by decide +kernel
theorem dM6_fire_147 : decode prog_8_method_38_code 147 = .ok (.getfield 88, 3) := by decide +kernel
theorem dM6_fire_150 : decode prog_8_method_38_code 150 = .ok (.ifCond .ne 14, 3) := by decide +kernel
theorem dM6_fire_153 : decode prog_8_method_38_code 153 = .ok (.aload_n 0, 1) := by decide +kernel
theorem dM6_fire_154 : decode prog_8_method_38_code 154 = .ok (.iload_n 2, 1) := by decide +kernel
theorem dM6_fire_155 : decode prog_8_method_38_code 155 = .ok (.dload_n 3, 1) := by decide +kernel
theorem dM6_fire_156 : decode prog_8_method_38_code 156 = .ok (.dload 5, 2) := by decide +kernel
theorem dM6_fire_158 : decode prog_8_method_38_code 158 = .ok (.dadd, 1) := by decide +kernel
theorem dM6_fire_159 : decode prog_8_method_38_code 159 = .ok (.dload 5, 2) := by decide +kernel
theorem dM6_fire_161 : decode prog_8_method_38_code 161 = .ok (.invokevirtual 208, 3) := by decide +kernel
theorem dM6_fire_164 : decode prog_8_method_38_code 164 = .ok (.return_, 1) := by decide +kernel
def wpM6_fire_35 (K : KM) (post : gS → Prop) : Nat → Int32 → Int32 → UInt64 → UInt64 → Int32 → gS → Prop
  | 0 => fun _ _ _ _ _ _ => False
  | n + 1 => fun l1 l2 l3 l5 l7 u => (((sI u 7) ≤ l7 → (vp_in l2 24 ∧ ((((sA u 4 l2.toNatClampNeg) = 3 → (vp_in l2 24 ∧ (∀ u7 : gS, u7 = tA u 4 l2.toNatClampNeg 0 → (vp_in l2 24 ∧ (((¬ (sA u7 4 l2.toNatClampNeg) = 0 → ((((Op.cmpValue (FP.dcmp l5 FP.dconst0) .l) ≤ 0 → (post u7)) ∧ (¬ (Op.cmpValue (FP.dcmp l5 FP.dconst0) .l) ≤ 0 → (((¬ (sI u7 2) = 0 → (post u7)) ∧ ((sI u7 2) = 0 → (vf_n64 (FP.dadd l3 l5) ∧ (wpM6_put K (fun (u12 : gS) => post u12) u7 l2 (FP.dadd l3 l5) l5))))))))) ∧ ((sA u7 4 l2.toNatClampNeg) = 0 → (wpM6_submitNow K (fun (u14 : gS) => (((Op.cmpValue (FP.dcmp l5 FP.dconst0) .l) ≤ 0 → (post u14)) ∧ (¬ (Op.cmpValue (FP.dcmp l5 FP.dconst0) .l) ≤ 0 → (((¬ (sI u14 2) = 0 → (post u14)) ∧ ((sI u14 2) = 0 → (vf_n64 (FP.dadd l3 l5) ∧ (wpM6_put K (fun (u18 : gS) => post u18) u14 l2 (FP.dadd l3 l5) l5)))))))) u7 l2)))))))) ∧ (¬ (sA u 4 l2.toNatClampNeg) = 3 → (vp_in l2 24 ∧ (((¬ (sA u 4 l2.toNatClampNeg) = 4 → (vp_in l2 24 ∧ (((¬ (sA u 4 l2.toNatClampNeg) = 0 → ((((Op.cmpValue (FP.dcmp l5 FP.dconst0) .l) ≤ 0 → (post u)) ∧ (¬ (Op.cmpValue (FP.dcmp l5 FP.dconst0) .l) ≤ 0 → (((¬ (sI u 2) = 0 → (post u)) ∧ ((sI u 2) = 0 → (vf_n64 (FP.dadd l3 l5) ∧ (wpM6_put K (fun (u24 : gS) => post u24) u l2 (FP.dadd l3 l5) l5))))))))) ∧ ((sA u 4 l2.toNatClampNeg) = 0 → (wpM6_submitNow K (fun (u26 : gS) => (((Op.cmpValue (FP.dcmp l5 FP.dconst0) .l) ≤ 0 → (post u26)) ∧ (¬ (Op.cmpValue (FP.dcmp l5 FP.dconst0) .l) ≤ 0 → (((¬ (sI u26 2) = 0 → (post u26)) ∧ ((sI u26 2) = 0 → (vf_n64 (FP.dadd l3 l5) ∧ (wpM6_put K (fun (u30 : gS) => post u30) u26 l2 (FP.dadd l3 l5) l5)))))))) u l2)))))) ∧ ((sA u 4 l2.toNatClampNeg) = 4 → (vp_in l2 24 ∧ (∀ u31 : gS, u31 = tA u 4 l2.toNatClampNeg 0 → (vp_in l2 24 ∧ (((¬ (sA u31 4 l2.toNatClampNeg) = 0 → ((((Op.cmpValue (FP.dcmp l5 FP.dconst0) .l) ≤ 0 → (post u31)) ∧ (¬ (Op.cmpValue (FP.dcmp l5 FP.dconst0) .l) ≤ 0 → (((¬ (sI u31 2) = 0 → (post u31)) ∧ ((sI u31 2) = 0 → (vf_n64 (FP.dadd l3 l5) ∧ (wpM6_put K (fun (u36 : gS) => post u36) u31 l2 (FP.dadd l3 l5) l5))))))))) ∧ ((sA u31 4 l2.toNatClampNeg) = 0 → (wpM6_submitNow K (fun (u38 : gS) => (((Op.cmpValue (FP.dcmp l5 FP.dconst0) .l) ≤ 0 → (post u38)) ∧ (¬ (Op.cmpValue (FP.dcmp l5 FP.dconst0) .l) ≤ 0 → (((¬ (sI u38 2) = 0 → (post u38)) ∧ ((sI u38 2) = 0 → (vf_n64 (FP.dadd l3 l5) ∧ (wpM6_put K (fun (u42 : gS) => post u42) u38 l2 (FP.dadd l3 l5) l5)))))))) u31 l2)))))))))))))))) ∧ (¬ (sI u 7) ≤ l7 → (vp_in (l7 + 1) 12 ∧ (vp_in l7 12 ∧ (∀ u43 : gS, u43 = tA u 12 l7.toNatClampNeg (sA u 12 (l7 + 1).toNatClampNeg) → (vp_in (l7 + 1) 12 ∧ (vp_in l7 12 ∧ (∀ u44 : gS, u44 = tB u43 2 l7.toNatClampNeg (sB u43 2 (l7 + 1).toNatClampNeg) → (vp_in (l7 + 1) 12 ∧ (vp_in l7 12 ∧ (∀ u45 : gS, u45 = tB u44 3 l7.toNatClampNeg (sB u44 3 (l7 + 1).toNatClampNeg) → (∀ x46 : Int32, x46 = l7 + 1 → (wpM6_fire_35 K post n l1 l2 l3 l5 x46 u45)))))))))))))

def wpM6_fire (K : KM) (post : gS → Prop) (u : gS) (p1 : Int32) : Prop :=
  vp_in p1 12 ∧ (∀ x1 : Int32, x1 = sA u 12 p1.toNatClampNeg → (vp_in p1 12 ∧ (∀ x2 : UInt64, x2 = sB u 2 p1.toNatClampNeg → (vp_in p1 12 ∧ (∀ x3 : UInt64, x3 = sB u 3 p1.toNatClampNeg → (∀ u4 : gS, u4 = tI u 7 ((sI u 7) - 1) → (∃ n35 : Nat, wpM6_fire_35 K post n35 p1 x1 x2 x3 p1 u4)))))))

set_option maxHeartbeats 8000000 in
set_option maxRecDepth 100000 in
theorem wpM6_fire_35_ok {p : Program} {l : Launch} {e : Env} {s : State} {m : MethodId} {args : Array Value} {below : List Frame} {meth : Method} {c : Code} {dC : Nat → ClassId} {dI : Nat → Nat → Nat} {ad : Nat → Nat} {ca : Nat → ClassId} {K : KM} {A : Nat → Prop} {post : gS → Prop}   (hx : p.tables.exec = Jvm.exec) (hb : c.code = prog_8_method_38_code) (hr : meth.sig.returnType = none) (hml : c.maxLocals = 8) (hown : s.vm.findClass RX6 = some m.cls) (hts : ∀ w ∈ gW, w.before args s = true) (hlocks : meth.locks = false) (hK : va_K (dC, dI) vwCl (mT ca) s) (hA : ∀ q, s.heap.size ≤ q → A q) (hE : mE A s s.heap) :
    ∀ (n : Nat) (l1 : Int32) (l2 : Int32) (l3 : UInt64) (l5 : UInt64) (l7 : Int32) (u : gS) (H : Heap) (locs : List Loc) (ls : Array Slot), wpM6_fire_35 K post n l1 l2 l3 l5 l7 u → va_P (dC, dI) vwCl (wM ad ca K u) H → va_D A (wM ad ca K u) → va_S A s.heap H locs → lv_has ls 8 [(0, .ref (ad 0)), (1, .int l1), (2, .int l2), (3, .double l3), (5, .double l5), (7, .int l7)] → W p l e (headSpec (gw ⟨"WorkHallModel", "fire", "(I)V"⟩ prog_8_method_38_code 8 none) ({ frames := 8, cells := 0, slots := 0, locals := 320 } : Room)).room s m args below meth c H locs 0 0 (MQ below (va_Qv post (gAt (dC, dI) vwCl (mT ca) (wM ad ca K) (A)) (A)) args s 0 0 A) (F0 m 35 ls []) := by
  intro n
  induction n with
  | zero => exact fun _ _ _ _ _ _ _ _ _ h => h.elim
  | succ n ih =>
    intro l1 l2 l3 l5 l7 u H locs ls h hP hD hS hl
    refine lv_iload hx hb dM6_fire_35 (lv_at hl 5 rfl) ?_
    refine lv_aload_n hx hb dM6_fire_37 rfl (lv_at hl 0 rfl) ?_
    refine va_get (D := (dC, dI)) (ci := 6) (v := .int (sI u 7)) (C := RX6) (T := TX6) (N := 36) hx hb hts uwX6 hown hK hP 0 rfl rfl 28 (by decide) (hts _ wd_731) (fun _ h9 => h9) rfl dM6_fire_38 ?_
    refine lv_icmp_ge (tgt := 98) hx hb dM6_fire_41 (by decide) (fun c5 => ?_) (fun c5 => ?_)
    · have h := h.1 c5
      refine lv_aload_n hx hb dM6_fire_98 rfl (lv_at hl 0 rfl) ?_
      refine va_get (D := (dC, dI)) (ci := 6) (v := .ref (ad 5)) (C := RX6) (T := TX6) (N := 36) hx hb hts uwX6 hown hK hP 0 rfl rfl 9 (by decide) (hts _ wd_712) (fun _ h9 => h9) rfl dM6_fire_99 ?_
      refine lv_iload_n hx hb dM6_fire_102 rfl (lv_at hl 2 rfl) ?_
      refine va_iald hx hb hK hP 5 0 rfl rfl h.1 dM6_fire_103 ?_
      have h := h.2
      refine lv_iconst (v := 3) hx hb dM6_fire_104 (by decide) ?_
      refine lv_icmp_eq (tgt := 118) hx hb dM6_fire_105 (by decide) (fun c6 => ?_) (fun c6 => ?_)
      · have h := h.1 c6
        refine lv_aload_n hx hb dM6_fire_118 rfl (lv_at hl 0 rfl) ?_
        refine va_get (D := (dC, dI)) (ci := 6) (v := .ref (ad 5)) (C := RX6) (T := TX6) (N := 36) hx hb hts uwX6 hown hK hP 0 rfl rfl 9 (by decide) (hts _ wd_712) (fun _ h9 => h9) rfl dM6_fire_119 ?_
        refine lv_iload_n hx hb dM6_fire_122 rfl (lv_at hl 2 rfl) ?_
        refine lv_iconst (v := 0) hx hb dM6_fire_123 (by decide) ?_
        refine va_iast hx hb hK hP hD hS 5 0 rfl rfl h.1 dM6_fire_124 (fun H locs hP hD hS => ?_)
        have h := h.2
        obtain ⟨u7, eu7⟩ : ∃ z : gS, z = tA u 4 l2.toNatClampNeg 0 := ⟨_, rfl⟩
        have hP : va_P (dC, dI) vwCl (wM ad ca K u7) H := by rw [eu7, wM_a5]; exact hP
        have hD : va_D A (wM ad ca K u7) := by rw [eu7, wM_a5]; exact hD
        have h := h u7 eu7
        refine lv_aload_n hx hb dM6_fire_125 rfl (lv_at hl 0 rfl) ?_
        refine va_get (D := (dC, dI)) (ci := 6) (v := .ref (ad 5)) (C := RX6) (T := TX6) (N := 36) hx hb hts uwX6 hown hK hP 0 rfl rfl 9 (by decide) (hts _ wd_712) (fun _ h9 => h9) rfl dM6_fire_126 ?_
        refine lv_iload_n hx hb dM6_fire_129 rfl (lv_at hl 2 rfl) ?_
        refine va_iald hx hb hK hP 5 0 rfl rfl h.1 dM6_fire_130 ?_
        have h := h.2
        refine lv_if_ne (tgt := 139) hx hb dM6_fire_131 (by decide) (fun c8 => ?_) (fun c8 => ?_)
        · have h := h.1 c8
          refine lv_dload hx hb dM6_fire_139 (lv_at hl 4 rfl) ?_
          refine lv_dconst0 hx hb dM6_fire_141 ?_
          refine lv_dcmp hx hb dM6_fire_142 ?_
          refine lv_if_le (tgt := 164) hx hb dM6_fire_143 (by decide) (fun c9 => ?_) (fun c9 => ?_)
          · have h := h.1 c9
            exact gr_v (w := wM ad ca K) (u := u7) hx hb hr hlocks h hP hK hD hS dM6_fire_164
          · have h := h.2 c9
            refine lv_aload_n hx hb dM6_fire_146 rfl (lv_at hl 0 rfl) ?_
            refine va_get (D := (dC, dI)) (ci := 6) (v := .int (sI u7 2)) (C := RX6) (T := TX6) (N := 36) hx hb hts uwX6 hown hK hP 0 rfl rfl 14 (by decide) (hts _ wd_717) (fun _ h9 => h9) rfl dM6_fire_147 ?_
            refine lv_if_ne (tgt := 164) hx hb dM6_fire_150 (by decide) (fun c10 => ?_) (fun c10 => ?_)
            · have h := h.1 c10
              exact gr_v (w := wM ad ca K) (u := u7) hx hb hr hlocks h hP hK hD hS dM6_fire_164
            · have h := h.2 c10
              refine lv_aload_n hx hb dM6_fire_153 rfl (lv_at hl 0 rfl) ?_
              refine lv_iload_n hx hb dM6_fire_154 rfl (lv_at hl 2 rfl) ?_
              refine lv_dload_n hx hb dM6_fire_155 rfl (lv_at hl 3 rfl) ?_
              refine lv_dload hx hb dM6_fire_156 (lv_at hl 4 rfl) ?_
              refine lv_dadd hx hb dM6_fire_158 h.1 ?_
              have h := h.2
              refine lv_dload hx hb dM6_fire_159 (lv_at hl 4 rfl) ?_
              refine gc_v (w := wM ad ca K) (u := u7) (va_runV (As := [.int l2, .double (FP.dadd l3 l5), .double l5]) (rest := []) ⟨hx, hb, hml, hown, hts⟩ (cM6_put l dC dI ad ca K H.size u7 l2 (FP.dadd l3 l5) l5 _ h) (cwV 3 hts (gG_V wd_946 wd_948 wd_42 wd_52 wd_949) rfl rfl rfl (by decide +kernel) ⟨Nat.le_of_ble_eq_true rfl, Nat.le_of_ble_eq_true rfl⟩) ⟨gB_blind mE_ok, va_recv hK hP (ci := 6) (q0 := 0) rfl rfl, gB_pre mE_ok hP hK hD hE hS hA⟩ rfl rfl hl.1 rfl (lv_room (Nat.le_of_ble_eq_true rfl)) dM6_fire_161 ⟨Nat.le_of_ble_eq_true rfl, Nat.le_of_ble_eq_true rfl⟩) hD hS hA (fun u12 H locs h hP hD hS => ?_)
              exact gr_v (w := wM ad ca K) (u := u12) hx hb hr hlocks h hP hK hD hS dM6_fire_164
        · have h := h.2 c8
          refine lv_aload_n hx hb dM6_fire_134 rfl (lv_at hl 0 rfl) ?_
          refine lv_iload_n hx hb dM6_fire_135 rfl (lv_at hl 2 rfl) ?_
          refine gc_v (w := wM ad ca K) (u := u7) (va_runV (As := [.int l2]) (rest := []) ⟨hx, hb, hml, hown, hts⟩ (cM6_submitNow l dC dI ad ca K H.size u7 l2 _ h) (cwV 1 hts (gG_V wd_841 wd_843 wd_21 wd_52 wd_844) rfl rfl rfl (by decide +kernel) ⟨Nat.le_of_ble_eq_true rfl, Nat.le_of_ble_eq_true rfl⟩) ⟨gB_blind mE_ok, va_recv hK hP (ci := 6) (q0 := 0) rfl rfl, gB_pre mE_ok hP hK hD hE hS hA⟩ rfl rfl hl.1 rfl (lv_room (Nat.le_of_ble_eq_true rfl)) dM6_fire_136 ⟨Nat.le_of_ble_eq_true rfl, Nat.le_of_ble_eq_true rfl⟩) hD hS hA (fun u14 H locs h hP hD hS => ?_)
          refine lv_dload hx hb dM6_fire_139 (lv_at hl 4 rfl) ?_
          refine lv_dconst0 hx hb dM6_fire_141 ?_
          refine lv_dcmp hx hb dM6_fire_142 ?_
          refine lv_if_le (tgt := 164) hx hb dM6_fire_143 (by decide) (fun c15 => ?_) (fun c15 => ?_)
          · have h := h.1 c15
            exact gr_v (w := wM ad ca K) (u := u14) hx hb hr hlocks h hP hK hD hS dM6_fire_164
          · have h := h.2 c15
            refine lv_aload_n hx hb dM6_fire_146 rfl (lv_at hl 0 rfl) ?_
            refine va_get (D := (dC, dI)) (ci := 6) (v := .int (sI u14 2)) (C := RX6) (T := TX6) (N := 36) hx hb hts uwX6 hown hK hP 0 rfl rfl 14 (by decide) (hts _ wd_717) (fun _ h9 => h9) rfl dM6_fire_147 ?_
            refine lv_if_ne (tgt := 164) hx hb dM6_fire_150 (by decide) (fun c16 => ?_) (fun c16 => ?_)
            · have h := h.1 c16
              exact gr_v (w := wM ad ca K) (u := u14) hx hb hr hlocks h hP hK hD hS dM6_fire_164
            · have h := h.2 c16
              refine lv_aload_n hx hb dM6_fire_153 rfl (lv_at hl 0 rfl) ?_
              refine lv_iload_n hx hb dM6_fire_154 rfl (lv_at hl 2 rfl) ?_
              refine lv_dload_n hx hb dM6_fire_155 rfl (lv_at hl 3 rfl) ?_
              refine lv_dload hx hb dM6_fire_156 (lv_at hl 4 rfl) ?_
              refine lv_dadd hx hb dM6_fire_158 h.1 ?_
              have h := h.2
              refine lv_dload hx hb dM6_fire_159 (lv_at hl 4 rfl) ?_
              refine gc_v (w := wM ad ca K) (u := u14) (va_runV (As := [.int l2, .double (FP.dadd l3 l5), .double l5]) (rest := []) ⟨hx, hb, hml, hown, hts⟩ (cM6_put l dC dI ad ca K H.size u14 l2 (FP.dadd l3 l5) l5 _ h) (cwV 3 hts (gG_V wd_946 wd_948 wd_42 wd_52 wd_949) rfl rfl rfl (by decide +kernel) ⟨Nat.le_of_ble_eq_true rfl, Nat.le_of_ble_eq_true rfl⟩) ⟨gB_blind mE_ok, va_recv hK hP (ci := 6) (q0 := 0) rfl rfl, gB_pre mE_ok hP hK hD hE hS hA⟩ rfl rfl hl.1 rfl (lv_room (Nat.le_of_ble_eq_true rfl)) dM6_fire_161 ⟨Nat.le_of_ble_eq_true rfl, Nat.le_of_ble_eq_true rfl⟩) hD hS hA (fun u18 H locs h hP hD hS => ?_)
              exact gr_v (w := wM ad ca K) (u := u18) hx hb hr hlocks h hP hK hD hS dM6_fire_164
      · have h := h.2 c6
        refine lv_aload_n hx hb dM6_fire_108 rfl (lv_at hl 0 rfl) ?_
        refine va_get (D := (dC, dI)) (ci := 6) (v := .ref (ad 5)) (C := RX6) (T := TX6) (N := 36) hx hb hts uwX6 hown hK hP 0 rfl rfl 9 (by decide) (hts _ wd_712) (fun _ h9 => h9) rfl dM6_fire_109 ?_
        refine lv_iload_n hx hb dM6_fire_112 rfl (lv_at hl 2 rfl) ?_
        refine va_iald hx hb hK hP 5 0 rfl rfl h.1 dM6_fire_113 ?_
        have h := h.2
        refine lv_iconst (v := 4) hx hb dM6_fire_114 (by decide) ?_
        refine lv_icmp_ne (tgt := 125) hx hb dM6_fire_115 (by decide) (fun c19 => ?_) (fun c19 => ?_)
        · have h := h.1 c19
          refine lv_aload_n hx hb dM6_fire_125 rfl (lv_at hl 0 rfl) ?_
          refine va_get (D := (dC, dI)) (ci := 6) (v := .ref (ad 5)) (C := RX6) (T := TX6) (N := 36) hx hb hts uwX6 hown hK hP 0 rfl rfl 9 (by decide) (hts _ wd_712) (fun _ h9 => h9) rfl dM6_fire_126 ?_
          refine lv_iload_n hx hb dM6_fire_129 rfl (lv_at hl 2 rfl) ?_
          refine va_iald hx hb hK hP 5 0 rfl rfl h.1 dM6_fire_130 ?_
          have h := h.2
          refine lv_if_ne (tgt := 139) hx hb dM6_fire_131 (by decide) (fun c20 => ?_) (fun c20 => ?_)
          · have h := h.1 c20
            refine lv_dload hx hb dM6_fire_139 (lv_at hl 4 rfl) ?_
            refine lv_dconst0 hx hb dM6_fire_141 ?_
            refine lv_dcmp hx hb dM6_fire_142 ?_
            refine lv_if_le (tgt := 164) hx hb dM6_fire_143 (by decide) (fun c21 => ?_) (fun c21 => ?_)
            · have h := h.1 c21
              exact gr_v (w := wM ad ca K) (u := u) hx hb hr hlocks h hP hK hD hS dM6_fire_164
            · have h := h.2 c21
              refine lv_aload_n hx hb dM6_fire_146 rfl (lv_at hl 0 rfl) ?_
              refine va_get (D := (dC, dI)) (ci := 6) (v := .int (sI u 2)) (C := RX6) (T := TX6) (N := 36) hx hb hts uwX6 hown hK hP 0 rfl rfl 14 (by decide) (hts _ wd_717) (fun _ h9 => h9) rfl dM6_fire_147 ?_
              refine lv_if_ne (tgt := 164) hx hb dM6_fire_150 (by decide) (fun c22 => ?_) (fun c22 => ?_)
              · have h := h.1 c22
                exact gr_v (w := wM ad ca K) (u := u) hx hb hr hlocks h hP hK hD hS dM6_fire_164
              · have h := h.2 c22
                refine lv_aload_n hx hb dM6_fire_153 rfl (lv_at hl 0 rfl) ?_
                refine lv_iload_n hx hb dM6_fire_154 rfl (lv_at hl 2 rfl) ?_
                refine lv_dload_n hx hb dM6_fire_155 rfl (lv_at hl 3 rfl) ?_
                refine lv_dload hx hb dM6_fire_156 (lv_at hl 4 rfl) ?_
                refine lv_dadd hx hb dM6_fire_158 h.1 ?_
                have h := h.2
                refine lv_dload hx hb dM6_fire_159 (lv_at hl 4 rfl) ?_
                refine gc_v (w := wM ad ca K) (u := u) (va_runV (As := [.int l2, .double (FP.dadd l3 l5), .double l5]) (rest := []) ⟨hx, hb, hml, hown, hts⟩ (cM6_put l dC dI ad ca K H.size u l2 (FP.dadd l3 l5) l5 _ h) (cwV 3 hts (gG_V wd_946 wd_948 wd_42 wd_52 wd_949) rfl rfl rfl (by decide +kernel) ⟨Nat.le_of_ble_eq_true rfl, Nat.le_of_ble_eq_true rfl⟩) ⟨gB_blind mE_ok, va_recv hK hP (ci := 6) (q0 := 0) rfl rfl, gB_pre mE_ok hP hK hD hE hS hA⟩ rfl rfl hl.1 rfl (lv_room (Nat.le_of_ble_eq_true rfl)) dM6_fire_161 ⟨Nat.le_of_ble_eq_true rfl, Nat.le_of_ble_eq_true rfl⟩) hD hS hA (fun u24 H locs h hP hD hS => ?_)
                exact gr_v (w := wM ad ca K) (u := u24) hx hb hr hlocks h hP hK hD hS dM6_fire_164
          · have h := h.2 c20
            refine lv_aload_n hx hb dM6_fire_134 rfl (lv_at hl 0 rfl) ?_
            refine lv_iload_n hx hb dM6_fire_135 rfl (lv_at hl 2 rfl) ?_
            refine gc_v (w := wM ad ca K) (u := u) (va_runV (As := [.int l2]) (rest := []) ⟨hx, hb, hml, hown, hts⟩ (cM6_submitNow l dC dI ad ca K H.size u l2 _ h) (cwV 1 hts (gG_V wd_841 wd_843 wd_21 wd_52 wd_844) rfl rfl rfl (by decide +kernel) ⟨Nat.le_of_ble_eq_true rfl, Nat.le_of_ble_eq_true rfl⟩) ⟨gB_blind mE_ok, va_recv hK hP (ci := 6) (q0 := 0) rfl rfl, gB_pre mE_ok hP hK hD hE hS hA⟩ rfl rfl hl.1 rfl (lv_room (Nat.le_of_ble_eq_true rfl)) dM6_fire_136 ⟨Nat.le_of_ble_eq_true rfl, Nat.le_of_ble_eq_true rfl⟩) hD hS hA (fun u26 H locs h hP hD hS => ?_)
            refine lv_dload hx hb dM6_fire_139 (lv_at hl 4 rfl) ?_
            refine lv_dconst0 hx hb dM6_fire_141 ?_
            refine lv_dcmp hx hb dM6_fire_142 ?_
            refine lv_if_le (tgt := 164) hx hb dM6_fire_143 (by decide) (fun c27 => ?_) (fun c27 => ?_)
            · have h := h.1 c27
              exact gr_v (w := wM ad ca K) (u := u26) hx hb hr hlocks h hP hK hD hS dM6_fire_164
            · have h := h.2 c27
              refine lv_aload_n hx hb dM6_fire_146 rfl (lv_at hl 0 rfl) ?_
              refine va_get (D := (dC, dI)) (ci := 6) (v := .int (sI u26 2)) (C := RX6) (T := TX6) (N := 36) hx hb hts uwX6 hown hK hP 0 rfl rfl 14 (by decide) (hts _ wd_717) (fun _ h9 => h9) rfl dM6_fire_147 ?_
              refine lv_if_ne (tgt := 164) hx hb dM6_fire_150 (by decide) (fun c28 => ?_) (fun c28 => ?_)
              · have h := h.1 c28
                exact gr_v (w := wM ad ca K) (u := u26) hx hb hr hlocks h hP hK hD hS dM6_fire_164
              · have h := h.2 c28
                refine lv_aload_n hx hb dM6_fire_153 rfl (lv_at hl 0 rfl) ?_
                refine lv_iload_n hx hb dM6_fire_154 rfl (lv_at hl 2 rfl) ?_
                refine lv_dload_n hx hb dM6_fire_155 rfl (lv_at hl 3 rfl) ?_
                refine lv_dload hx hb dM6_fire_156 (lv_at hl 4 rfl) ?_
                refine lv_dadd hx hb dM6_fire_158 h.1 ?_
                have h := h.2
                refine lv_dload hx hb dM6_fire_159 (lv_at hl 4 rfl) ?_
                refine gc_v (w := wM ad ca K) (u := u26) (va_runV (As := [.int l2, .double (FP.dadd l3 l5), .double l5]) (rest := []) ⟨hx, hb, hml, hown, hts⟩ (cM6_put l dC dI ad ca K H.size u26 l2 (FP.dadd l3 l5) l5 _ h) (cwV 3 hts (gG_V wd_946 wd_948 wd_42 wd_52 wd_949) rfl rfl rfl (by decide +kernel) ⟨Nat.le_of_ble_eq_true rfl, Nat.le_of_ble_eq_true rfl⟩) ⟨gB_blind mE_ok, va_recv hK hP (ci := 6) (q0 := 0) rfl rfl, gB_pre mE_ok hP hK hD hE hS hA⟩ rfl rfl hl.1 rfl (lv_room (Nat.le_of_ble_eq_true rfl)) dM6_fire_161 ⟨Nat.le_of_ble_eq_true rfl, Nat.le_of_ble_eq_true rfl⟩) hD hS hA (fun u30 H locs h hP hD hS => ?_)
                exact gr_v (w := wM ad ca K) (u := u30) hx hb hr hlocks h hP hK hD hS dM6_fire_164
        · have h := h.2 c19
          refine lv_aload_n hx hb dM6_fire_118 rfl (lv_at hl 0 rfl) ?_
          refine va_get (D := (dC, dI)) (ci := 6) (v := .ref (ad 5)) (C := RX6) (T := TX6) (N := 36) hx hb hts uwX6 hown hK hP 0 rfl rfl 9 (by decide) (hts _ wd_712) (fun _ h9 => h9) rfl dM6_fire_119 ?_
          refine lv_iload_n hx hb dM6_fire_122 rfl (lv_at hl 2 rfl) ?_
          refine lv_iconst (v := 0) hx hb dM6_fire_123 (by decide) ?_
          refine va_iast hx hb hK hP hD hS 5 0 rfl rfl h.1 dM6_fire_124 (fun H locs hP hD hS => ?_)
          have h := h.2
          obtain ⟨u31, eu31⟩ : ∃ z : gS, z = tA u 4 l2.toNatClampNeg 0 := ⟨_, rfl⟩
          have hP : va_P (dC, dI) vwCl (wM ad ca K u31) H := by rw [eu31, wM_a5]; exact hP
          have hD : va_D A (wM ad ca K u31) := by rw [eu31, wM_a5]; exact hD
          have h := h u31 eu31
          refine lv_aload_n hx hb dM6_fire_125 rfl (lv_at hl 0 rfl) ?_
          refine va_get (D := (dC, dI)) (ci := 6) (v := .ref (ad 5)) (C := RX6) (T := TX6) (N := 36) hx hb hts uwX6 hown hK hP 0 rfl rfl 9 (by decide) (hts _ wd_712) (fun _ h9 => h9) rfl dM6_fire_126 ?_
          refine lv_iload_n hx hb dM6_fire_129 rfl (lv_at hl 2 rfl) ?_
          refine va_iald hx hb hK hP 5 0 rfl rfl h.1 dM6_fire_130 ?_
          have h := h.2
          refine lv_if_ne (tgt := 139) hx hb dM6_fire_131 (by decide) (fun c32 => ?_) (fun c32 => ?_)
          · have h := h.1 c32
            refine lv_dload hx hb dM6_fire_139 (lv_at hl 4 rfl) ?_
            refine lv_dconst0 hx hb dM6_fire_141 ?_
            refine lv_dcmp hx hb dM6_fire_142 ?_
            refine lv_if_le (tgt := 164) hx hb dM6_fire_143 (by decide) (fun c33 => ?_) (fun c33 => ?_)
            · have h := h.1 c33
              exact gr_v (w := wM ad ca K) (u := u31) hx hb hr hlocks h hP hK hD hS dM6_fire_164
            · have h := h.2 c33
              refine lv_aload_n hx hb dM6_fire_146 rfl (lv_at hl 0 rfl) ?_
              refine va_get (D := (dC, dI)) (ci := 6) (v := .int (sI u31 2)) (C := RX6) (T := TX6) (N := 36) hx hb hts uwX6 hown hK hP 0 rfl rfl 14 (by decide) (hts _ wd_717) (fun _ h9 => h9) rfl dM6_fire_147 ?_
              refine lv_if_ne (tgt := 164) hx hb dM6_fire_150 (by decide) (fun c34 => ?_) (fun c34 => ?_)
              · have h := h.1 c34
                exact gr_v (w := wM ad ca K) (u := u31) hx hb hr hlocks h hP hK hD hS dM6_fire_164
              · have h := h.2 c34
                refine lv_aload_n hx hb dM6_fire_153 rfl (lv_at hl 0 rfl) ?_
                refine lv_iload_n hx hb dM6_fire_154 rfl (lv_at hl 2 rfl) ?_
                refine lv_dload_n hx hb dM6_fire_155 rfl (lv_at hl 3 rfl) ?_
                refine lv_dload hx hb dM6_fire_156 (lv_at hl 4 rfl) ?_
                refine lv_dadd hx hb dM6_fire_158 h.1 ?_
                have h := h.2
                refine lv_dload hx hb dM6_fire_159 (lv_at hl 4 rfl) ?_
                refine gc_v (w := wM ad ca K) (u := u31) (va_runV (As := [.int l2, .double (FP.dadd l3 l5), .double l5]) (rest := []) ⟨hx, hb, hml, hown, hts⟩ (cM6_put l dC dI ad ca K H.size u31 l2 (FP.dadd l3 l5) l5 _ h) (cwV 3 hts (gG_V wd_946 wd_948 wd_42 wd_52 wd_949) rfl rfl rfl (by decide +kernel) ⟨Nat.le_of_ble_eq_true rfl, Nat.le_of_ble_eq_true rfl⟩) ⟨gB_blind mE_ok, va_recv hK hP (ci := 6) (q0 := 0) rfl rfl, gB_pre mE_ok hP hK hD hE hS hA⟩ rfl rfl hl.1 rfl (lv_room (Nat.le_of_ble_eq_true rfl)) dM6_fire_161 ⟨Nat.le_of_ble_eq_true rfl, Nat.le_of_ble_eq_true rfl⟩) hD hS hA (fun u36 H locs h hP hD hS => ?_)
                exact gr_v (w := wM ad ca K) (u := u36) hx hb hr hlocks h hP hK hD hS dM6_fire_164
          · have h := h.2 c32
            refine lv_aload_n hx hb dM6_fire_134 rfl (lv_at hl 0 rfl) ?_
            refine lv_iload_n hx hb dM6_fire_135 rfl (lv_at hl 2 rfl) ?_
            refine gc_v (w := wM ad ca K) (u := u31) (va_runV (As := [.int l2]) (rest := []) ⟨hx, hb, hml, hown, hts⟩ (cM6_submitNow l dC dI ad ca K H.size u31 l2 _ h) (cwV 1 hts (gG_V wd_841 wd_843 wd_21 wd_52 wd_844) rfl rfl rfl (by decide +kernel) ⟨Nat.le_of_ble_eq_true rfl, Nat.le_of_ble_eq_true rfl⟩) ⟨gB_blind mE_ok, va_recv hK hP (ci := 6) (q0 := 0) rfl rfl, gB_pre mE_ok hP hK hD hE hS hA⟩ rfl rfl hl.1 rfl (lv_room (Nat.le_of_ble_eq_true rfl)) dM6_fire_136 ⟨Nat.le_of_ble_eq_true rfl, Nat.le_of_ble_eq_true rfl⟩) hD hS hA (fun u38 H locs h hP hD hS => ?_)
            refine lv_dload hx hb dM6_fire_139 (lv_at hl 4 rfl) ?_
            refine lv_dconst0 hx hb dM6_fire_141 ?_
            refine lv_dcmp hx hb dM6_fire_142 ?_
            refine lv_if_le (tgt := 164) hx hb dM6_fire_143 (by decide) (fun c39 => ?_) (fun c39 => ?_)
            · have h := h.1 c39
              exact gr_v (w := wM ad ca K) (u := u38) hx hb hr hlocks h hP hK hD hS dM6_fire_164
            · have h := h.2 c39
              refine lv_aload_n hx hb dM6_fire_146 rfl (lv_at hl 0 rfl) ?_
              refine va_get (D := (dC, dI)) (ci := 6) (v := .int (sI u38 2)) (C := RX6) (T := TX6) (N := 36) hx hb hts uwX6 hown hK hP 0 rfl rfl 14 (by decide) (hts _ wd_717) (fun _ h9 => h9) rfl dM6_fire_147 ?_
              refine lv_if_ne (tgt := 164) hx hb dM6_fire_150 (by decide) (fun c40 => ?_) (fun c40 => ?_)
              · have h := h.1 c40
                exact gr_v (w := wM ad ca K) (u := u38) hx hb hr hlocks h hP hK hD hS dM6_fire_164
              · have h := h.2 c40
                refine lv_aload_n hx hb dM6_fire_153 rfl (lv_at hl 0 rfl) ?_
                refine lv_iload_n hx hb dM6_fire_154 rfl (lv_at hl 2 rfl) ?_
                refine lv_dload_n hx hb dM6_fire_155 rfl (lv_at hl 3 rfl) ?_
                refine lv_dload hx hb dM6_fire_156 (lv_at hl 4 rfl) ?_
                refine lv_dadd hx hb dM6_fire_158 h.1 ?_
                have h := h.2
                refine lv_dload hx hb dM6_fire_159 (lv_at hl 4 rfl) ?_
                refine gc_v (w := wM ad ca K) (u := u38) (va_runV (As := [.int l2, .double (FP.dadd l3 l5), .double l5]) (rest := []) ⟨hx, hb, hml, hown, hts⟩ (cM6_put l dC dI ad ca K H.size u38 l2 (FP.dadd l3 l5) l5 _ h) (cwV 3 hts (gG_V wd_946 wd_948 wd_42 wd_52 wd_949) rfl rfl rfl (by decide +kernel) ⟨Nat.le_of_ble_eq_true rfl, Nat.le_of_ble_eq_true rfl⟩) ⟨gB_blind mE_ok, va_recv hK hP (ci := 6) (q0 := 0) rfl rfl, gB_pre mE_ok hP hK hD hE hS hA⟩ rfl rfl hl.1 rfl (lv_room (Nat.le_of_ble_eq_true rfl)) dM6_fire_161 ⟨Nat.le_of_ble_eq_true rfl, Nat.le_of_ble_eq_true rfl⟩) hD hS hA (fun u42 H locs h hP hD hS => ?_)
                exact gr_v (w := wM ad ca K) (u := u42) hx hb hr hlocks h hP hK hD hS dM6_fire_164
    · have h := h.2 c5
      refine lv_aload_n hx hb dM6_fire_44 rfl (lv_at hl 0 rfl) ?_
      refine va_get (D := (dC, dI)) (ci := 6) (v := .ref (ad 15)) (C := RX6) (T := TX6) (N := 36) hx hb hts uwX6 hown hK hP 0 rfl rfl 25 (by decide) (hts _ wd_728) (fun _ h9 => h9) rfl dM6_fire_45 ?_
      refine lv_iload hx hb dM6_fire_48 (lv_at hl 5 rfl) ?_
      refine lv_aload_n hx hb dM6_fire_50 rfl (lv_at hl 0 rfl) ?_
      refine va_get (D := (dC, dI)) (ci := 6) (v := .ref (ad 15)) (C := RX6) (T := TX6) (N := 36) hx hb hts uwX6 hown hK hP 0 rfl rfl 25 (by decide) (hts _ wd_728) (fun _ h9 => h9) rfl dM6_fire_51 ?_
      refine lv_iload hx hb dM6_fire_54 (lv_at hl 5 rfl) ?_
      refine lv_iconst (v := 1) hx hb dM6_fire_56 (by decide) ?_
      refine lv_iadd hx hb dM6_fire_57 ?_
      refine va_iald hx hb hK hP 15 0 rfl rfl h.1 dM6_fire_58 ?_
      have h := h.2
      refine va_iast hx hb hK hP hD hS 15 0 rfl rfl h.1 dM6_fire_59 (fun H locs hP hD hS => ?_)
      have h := h.2
      obtain ⟨u43, eu43⟩ : ∃ z : gS, z = tA u 12 l7.toNatClampNeg (sA u 12 (l7 + 1).toNatClampNeg) := ⟨_, rfl⟩
      have hP : va_P (dC, dI) vwCl (wM ad ca K u43) H := by rw [eu43, wM_a15]; exact hP
      have hD : va_D A (wM ad ca K u43) := by rw [eu43, wM_a15]; exact hD
      have h := h u43 eu43
      refine lv_aload_n hx hb dM6_fire_60 rfl (lv_at hl 0 rfl) ?_
      refine va_get (D := (dC, dI)) (ci := 6) (v := .ref (ad 16)) (C := RX6) (T := TX6) (N := 36) hx hb hts uwX6 hown hK hP 0 rfl rfl 26 (by decide) (hts _ wd_729) (fun _ h9 => h9) rfl dM6_fire_61 ?_
      refine lv_iload hx hb dM6_fire_64 (lv_at hl 5 rfl) ?_
      refine lv_aload_n hx hb dM6_fire_66 rfl (lv_at hl 0 rfl) ?_
      refine va_get (D := (dC, dI)) (ci := 6) (v := .ref (ad 16)) (C := RX6) (T := TX6) (N := 36) hx hb hts uwX6 hown hK hP 0 rfl rfl 26 (by decide) (hts _ wd_729) (fun _ h9 => h9) rfl dM6_fire_67 ?_
      refine lv_iload hx hb dM6_fire_70 (lv_at hl 5 rfl) ?_
      refine lv_iconst (v := 1) hx hb dM6_fire_72 (by decide) ?_
      refine lv_iadd hx hb dM6_fire_73 ?_
      refine va_dald hx hb hK hP 16 1 rfl rfl h.1 dM6_fire_74 ?_
      have h := h.2
      refine va_dast hx hb hK hP hD hS 16 1 rfl rfl h.1 dM6_fire_75 (fun H locs hP hD hS => ?_)
      have h := h.2
      obtain ⟨u44, eu44⟩ : ∃ z : gS, z = tB u43 2 l7.toNatClampNeg (sB u43 2 (l7 + 1).toNatClampNeg) := ⟨_, rfl⟩
      have hP : va_P (dC, dI) vwCl (wM ad ca K u44) H := by rw [eu44, wM_a16]; exact hP
      have hD : va_D A (wM ad ca K u44) := by rw [eu44, wM_a16]; exact hD
      have h := h u44 eu44
      refine lv_aload_n hx hb dM6_fire_76 rfl (lv_at hl 0 rfl) ?_
      refine va_get (D := (dC, dI)) (ci := 6) (v := .ref (ad 17)) (C := RX6) (T := TX6) (N := 36) hx hb hts uwX6 hown hK hP 0 rfl rfl 27 (by decide) (hts _ wd_730) (fun _ h9 => h9) rfl dM6_fire_77 ?_
      refine lv_iload hx hb dM6_fire_80 (lv_at hl 5 rfl) ?_
      refine lv_aload_n hx hb dM6_fire_82 rfl (lv_at hl 0 rfl) ?_
      refine va_get (D := (dC, dI)) (ci := 6) (v := .ref (ad 17)) (C := RX6) (T := TX6) (N := 36) hx hb hts uwX6 hown hK hP 0 rfl rfl 27 (by decide) (hts _ wd_730) (fun _ h9 => h9) rfl dM6_fire_83 ?_
      refine lv_iload hx hb dM6_fire_86 (lv_at hl 5 rfl) ?_
      refine lv_iconst (v := 1) hx hb dM6_fire_88 (by decide) ?_
      refine lv_iadd hx hb dM6_fire_89 ?_
      refine va_dald hx hb hK hP 17 1 rfl rfl h.1 dM6_fire_90 ?_
      have h := h.2
      refine va_dast hx hb hK hP hD hS 17 1 rfl rfl h.1 dM6_fire_91 (fun H locs hP hD hS => ?_)
      have h := h.2
      obtain ⟨u45, eu45⟩ : ∃ z : gS, z = tB u44 3 l7.toNatClampNeg (sB u44 3 (l7 + 1).toNatClampNeg) := ⟨_, rfl⟩
      have hP : va_P (dC, dI) vwCl (wM ad ca K u45) H := by rw [eu45, wM_a17]; exact hP
      have hD : va_D A (wM ad ca K u45) := by rw [eu45, wM_a17]; exact hD
      have h := h u45 eu45
      obtain ⟨x46, ex46⟩ : ∃ y : Int32, y = l7 + 1 := ⟨_, rfl⟩
      have h := h x46 ex46
      refine lv_iinc (v := x46) (lv' := [(7, .int x46), (0, .ref (ad 0)), (1, .int l1), (2, .int l2), (3, .double l3), (5, .double l5)]) hx hb dM6_fire_92 hl (k := 5) rfl (by rw [ex46]; rfl) (by decide) rfl (fun ls hl => ?_)
      refine lv_goto (tgt := 35) hx hb dM6_fire_95 (by decide) ?_
      exact ih l1 l2 l3 l5 x46 u45 _ _ _ h hP hD hS (lv_sub hl [1, 2, 3, 4, 5, 0] rfl)

set_option maxHeartbeats 8000000 in
set_option maxRecDepth 100000 in
theorem cM6_fire (l : Launch) (dC : Nat → ClassId) (dI : Nat → Nat → Nat) (ad : Nat → Nat) (ca : Nat → ClassId) (K : KM) (sz : Nat) (u : gS) (p1 : Int32) (post : gS → Prop)  (h : wpM6_fire K post u p1) : Met l ⟨"WorkHallModel", "fire", "(I)V"⟩ (gw ⟨"WorkHallModel", "fire", "(I)V"⟩ prog_8_method_38_code 8 none) ({ frames := 8, cells := 0, slots := 0, locals := 320 } : Room) (va_Pc [.ref (ad 0), .int p1] (gB (dC, dI) vwCl (mT ca) mE (wM ad ca K u) sz)) (va_Qv post (gAt (dC, dI) vwCl (mT ca) (wM ad ca K) (va_A (wM ad ca K u) sz)) (va_A (wM ad ca K u) sz)) 0 0 (va_A (wM ad ca K u) sz) := by
  refine Met.ofW (cc := prog_8_method_38_code) (maxL := 8) (ret := none) (by decide) rfl ?_
  intro p e s m args below meth c s₁ B hml hv
  obtain ⟨rfl, hsz, hP, hK, hD0, hE⟩ := hv
  have hx := B.exec
  have hb := B.bytes
  have hr := B.returns
  have hts : ∀ w ∈ gW, w.before _ s = true := fun w h9 => atoms_spec (ws := (gw ⟨"WorkHallModel", "fire", "(I)V"⟩ prog_8_method_38_code 8 none)) B.pre w (List.mem_cons_of_mem _ h9)
  have hown : s.vm.findClass RX6 = some m.cls := findClass_of_methodNamed B.named
  have hlocks := B.notSynchronized
  subst hsz
  have hD := hD0.self (sz := s.heap.size)
  generalize hAe : va_A (wM ad ca K u) s.heap.size = A at hD hE ⊢
  have hA : ∀ q : Nat, s.heap.size ≤ q → A q := fun q h => by rw [← hAe]; exact Or.inr h
  obtain ⟨H, hHe⟩ : ∃ z : Heap, z = s.heap := ⟨_, rfl⟩
  rw [← hHe]
  have hS : va_S A s.heap H [] := by rw [hHe]; exact va_S.rf
  have hP : va_P (dC, dI) vwCl (wM ad ca K u) H := by rw [hHe]; exact hP
  have hl := lv_entry ([.ref (ad 0), .int p1]) (n := 8) (Nat.le_of_ble_eq_true rfl)
  rw [lg_entry_eq]
  generalize (lg_sl ([.ref (ad 0), .int p1]) ++ List.replicate (8 - (lg_sl ([.ref (ad 0), .int p1])).length) Slot.unset).toArray = ls at hl ⊢
  have hl : lv_has ls 8 [(0, .ref (ad 0)), (1, .int p1)] := hl
  clear hAe
  refine lv_aload_n hx hb dM6_fire_0 rfl (lv_at hl 0 rfl) ?_
  refine va_get (D := (dC, dI)) (ci := 6) (v := .ref (ad 15)) (C := RX6) (T := TX6) (N := 36) hx hb hts uwX6 hown hK hP 0 rfl rfl 25 (by decide) (hts _ wd_728) (fun _ h9 => h9) rfl dM6_fire_1 ?_
  refine lv_iload_n hx hb dM6_fire_4 rfl (lv_at hl 1 rfl) ?_
  refine va_iald hx hb hK hP 15 0 rfl rfl h.1 dM6_fire_5 ?_
  have h := h.2
  refine lv_topi (fun x1 ex1 => ?_)
  have h := h x1 ex1
  refine lv_istore_n (lv' := [(2, .int x1), (0, .ref (ad 0)), (1, .int p1)]) hx hb dM6_fire_6 rfl hl (by decide) rfl (fun ls hl => ?_)
  refine lv_aload_n hx hb dM6_fire_7 rfl (lv_at hl 1 rfl) ?_
  refine va_get (D := (dC, dI)) (ci := 6) (v := .ref (ad 16)) (C := RX6) (T := TX6) (N := 36) hx hb hts uwX6 hown hK hP 0 rfl rfl 26 (by decide) (hts _ wd_729) (fun _ h9 => h9) rfl dM6_fire_8 ?_
  refine lv_iload_n hx hb dM6_fire_11 rfl (lv_at hl 2 rfl) ?_
  refine va_dald hx hb hK hP 16 1 rfl rfl h.1 dM6_fire_12 ?_
  have h := h.2
  refine lv_topd (fun x2 ex2 => ?_)
  have h := h x2 ex2
  refine lv_dstore_n (lv' := [(3, .double x2), (2, .int x1), (0, .ref (ad 0)), (1, .int p1)]) hx hb dM6_fire_13 rfl hl (by decide) rfl (fun ls hl => ?_)
  refine lv_aload_n hx hb dM6_fire_14 rfl (lv_at hl 2 rfl) ?_
  refine va_get (D := (dC, dI)) (ci := 6) (v := .ref (ad 17)) (C := RX6) (T := TX6) (N := 36) hx hb hts uwX6 hown hK hP 0 rfl rfl 27 (by decide) (hts _ wd_730) (fun _ h9 => h9) rfl dM6_fire_15 ?_
  refine lv_iload_n hx hb dM6_fire_18 rfl (lv_at hl 3 rfl) ?_
  refine va_dald hx hb hK hP 17 1 rfl rfl h.1 dM6_fire_19 ?_
  have h := h.2
  refine lv_topd (fun x3 ex3 => ?_)
  have h := h x3 ex3
  refine lv_dstore (lv' := [(5, .double x3), (3, .double x2), (2, .int x1), (0, .ref (ad 0)), (1, .int p1)]) hx hb dM6_fire_20 hl (by decide) rfl (fun ls hl => ?_)
  refine lv_aload_n hx hb dM6_fire_22 rfl (lv_at hl 3 rfl) ?_
  refine lv_dup hx hb dM6_fire_23 rfl ?_
  refine va_get (D := (dC, dI)) (ci := 6) (v := .int (sI u 7)) (C := RX6) (T := TX6) (N := 36) hx hb hts uwX6 hown hK hP 0 rfl rfl 28 (by decide) (hts _ wd_731) (fun _ h9 => h9) rfl dM6_fire_24 ?_
  refine lv_iconst (v := 1) hx hb dM6_fire_27 (by decide) ?_
  refine lv_isub hx hb dM6_fire_28 ?_
  refine va_put (D := (dC, dI)) (ci := 6) (v := .int ((sI u 7) - 1)) (ty := tyX6 28) (C := RX6) (T := TX6) (N := 36) hx hb hts uwX6 tyX6 tyX6_ok nmX6 hown hK hP hD hS 0 rfl rfl 28 (by decide) (hts _ wd_731) (fun _ h9 => h9) rfl (tyX6_ok 28 (by decide)) rfl rfl (Nat.le_of_ble_eq_true rfl) dM6_fire_29 (fun H locs hP hD hS => ?_)
  obtain ⟨u4, eu4⟩ : ∃ z : gS, z = tI u 7 ((sI u 7) - 1) := ⟨_, rfl⟩
  have hP : va_P (dC, dI) vwCl (wM ad ca K u4) H := by rw [eu4, wM_f0_entries]; exact hP
  have hD : va_D A (wM ad ca K u4) := by rw [eu4, wM_f0_entries]; exact hD
  have h := h u4 eu4
  refine lv_iload_n hx hb dM6_fire_32 rfl (lv_at hl 4 rfl) ?_
  refine lv_istore (lv' := [(7, .int p1), (5, .double x3), (3, .double x2), (2, .int x1), (0, .ref (ad 0)), (1, .int p1)]) hx hb dM6_fire_33 hl (by decide) rfl (fun ls hl => ?_)
  obtain ⟨n35, h⟩ := h
  exact wpM6_fire_35_ok hx hb hr hml hown hts hlocks hK hA hE n35 p1 x1 x2 x3 p1 u4 _ _ _ h hP hD hS (lv_sub hl [4, 5, 3, 2, 1, 0] rfl)

