theorem dM6_tick_0 : decode prog_8_method_39_code 0 = .ok (.aload_n 0, 1) := by decide +kernel
theorem dM6_tick_1 : decode prog_8_method_39_code 1 = .ok (.iconst 0, 1) := by decide +kernel
theorem dM6_tick_2 : decode prog_8_method_39_code 2 = .ok (.putfield 85, 3) := by decide +kernel
theorem dM6_tick_5 : decode prog_8_method_39_code 5 = .ok (.dload_n 1, 1) := by decide +kernel
theorem dM6_tick_6 : decode prog_8_method_39_code 6 = .ok (.dconst 0, 1) := by decide +kernel
theorem dM6_tick_7 : decode prog_8_method_39_code 7 = .ok (.dcmp .l, 1) := by decide +kernel
theorem dM6_tick_8 : decode prog_8_method_39_code 8 = .ok (.ifCond .lt 11, 3) := by decide +kernel
theorem dM6_tick_11 : decode prog_8_method_39_code 11 = .ok (.dload_n 1, 1) := by decide +kernel
theorem dM6_tick_12 : decode prog_8_method_39_code 12 = .ok (.ldc2_w 212, 3) := by decide +kernel
theorem dM6_tick_15 : decode prog_8_method_39_code 15 = .ok (.dcmp .g, 1) := by decide +kernel
theorem dM6_tick_16 : decode prog_8_method_39_code 16 = .ok (.ifCond .le 9, 3) := by decide +kernel
theorem dM6_tick_19 : decode prog_8_method_39_code 19 = .ok (.aload_n 0, 1) := by decide +kernel
theorem dM6_tick_20 : decode prog_8_method_39_code 20 = .ok (.iconst 1, 1) := by decide +kernel
theorem dM6_tick_21 : decode prog_8_method_39_code 21 = .ok (.invokevirtual 108, 3) := by decide +kernel
theorem dM6_tick_24 : decode prog_8_method_39_code 24 = .ok (.ireturn, 1) := by decide +kernel
theorem dM6_tick_25 : decode prog_8_method_39_code 25 = .ok (.aload_n 0, 1) := by decide +kernel
theorem dM6_tick_26 : decode prog_8_method_39_code 26 = .ok (.getfield 128, 3) := by decide +kernel
theorem dM6_tick_29 : decode prog_8_method_39_code 29 = .ok (.dload_n 1, 1) := by decide +kernel
theorem dM6_tick_30 : decode prog_8_method_39_code 30 = .ok (.dadd, 1) := by decide +kernel
theorem dM6_tick_31 : decode prog_8_method_39_code 31 = .ok (.dstore_n 3, 1) := by decide +kernel
theorem dM6_tick_32 : decode prog_8_method_39_code 32 = .ok (.iconst 0, 1) := by decide +kernel
theorem dM6_tick_33 : decode prog_8_method_39_code 33 = .ok (.istore 5, 2) := by decide +kernel
theorem dM6_tick_35 : decode prog_8_method_39_code 35 = .ok (.aload_n 0, 1) := by decide +kernel
theorem dM6_tick_36 : decode prog_8_method_39_code 36 = .ok (.invokevirtual 214, 3) := by decide +kernel
theorem dM6_tick_39 : decode prog_8_method_39_code 39 = .ok (.istore 6, 2) := by decide +kernel
theorem dM6_tick_41 : decode prog_8_method_39_code 41 = .ok (.iload 6, 2) := by decide +kernel
theorem dM6_tick_43 : decode prog_8_method_39_code 43 = .ok (.ifCond .lt 66, 3) := by decide +kernel
theorem dM6_tick_46 : decode prog_8_method_39_code 46 = .ok (.aload_n 0, 1) := by decide +kernel
theorem dM6_tick_47 : decode prog_8_method_39_code 47 = .ok (.getfield 56, 3) := by decide +kernel
theorem dM6_tick_50 : decode prog_8_method_39_code 50 = .ok (.iload 6, 2) := by decide +kernel
theorem dM6_tick_52 : decode prog_8_method_39_code 52 = .ok (.daload, 1) := by decide +kernel
theorem dM6_tick_53 : decode prog_8_method_39_code 53 = .ok (.dload_n 3, 1) := by decide +kernel
theorem dM6_tick_54 : decode prog_8_method_39_code 54 = .ok (.dcmp .g, 1) := by decide +kernel
theorem dM6_tick_55 : decode prog_8_method_39_code 55 = .ok (.ifCond .gt 54, 3) := by decide +kernel
theorem dM6_tick_58 : decode prog_8_method_39_code 58 = .ok (.iload 5, 2) := by decide +kernel
theorem dM6_tick_60 : decode prog_8_method_39_code 60 = .ok (.bipush 20, 2) := by decide +kernel
theorem dM6_tick_62 : decode prog_8_method_39_code 62 = .ok (.if_icmp .ge 47, 3) := by decide +kernel
theorem dM6_tick_65 : decode prog_8_method_39_code 65 = .ok (.aload_n 0, 1) := by decide +kernel
theorem dM6_tick_66 : decode prog_8_method_39_code 66 = .ok (.getfield 56, 3) := by decide +kernel
theorem dM6_tick_69 : decode prog_8_method_39_code 69 = .ok (.iload 6, 2) := by decide +kernel
theorem dM6_tick_71 : decode prog_8_method_39_code 71 = .ok (.daload, 1) := by decide +kernel
theorem dM6_tick_72 : decode prog_8_method_39_code 72 = .ok (.aload_n 0, 1) := by decide +kernel
theorem dM6_tick_73 : decode prog_8_method_39_code 73 = .ok (.getfield 128, 3) := by decide +kernel
theorem dM6_tick_76 : decode prog_8_method_39_code 76 = .ok (.dcmp .l, 1) := by decide +kernel
theorem dM6_tick_77 : decode prog_8_method_39_code 77 = .ok (.ifCond .le 14, 3) := by decide +kernel
theorem dM6_tick_80 : decode prog_8_method_39_code 80 = .ok (.aload_n 0, 1) := by decide +kernel
theorem dM6_tick_81 : decode prog_8_method_39_code 81 = .ok (.aload_n 0, 1) := by decide +kernel
theorem dM6_tick_82 : decode prog_8_method_39_code 82 = .ok (.getfield 56, 3) := by decide +kernel
theorem dM6_tick_85 : decode prog_8_method_39_code 85 = .ok (.iload 6, 2) := by decide +kernel
theorem dM6_tick_87 : decode prog_8_method_39_code 87 = .ok (.daload, 1) := by decide +kernel
theorem dM6_tick_88 : decode prog_8_method_39_code 88 = .ok (.putfield 128, 3) := by decide +kernel
theorem dM6_tick_91 : decode prog_8_method_39_code 91 = .ok (.aload_n 0, 1) := by decide +kernel
theorem dM6_tick_92 : decode prog_8_method_39_code 92 = .ok (.iload 6, 2) := by decide +kernel
theorem dM6_tick_94 : decode prog_8_method_39_code 94 = .ok (.invokevirtual 217, 3) := by decide +kernel
theorem dM6_tick_97 : decode prog_8_method_39_code 97 = .ok (.iinc 5 1, 3) := by decide +kernel
theorem dM6_tick_100 : decode prog_8_method_39_code 100 = .ok (.aload_n 0, 1) := by decide +kernel
theorem dM6_tick_101 : decode prog_8_method_39_code 101 = .ok (.invokevirtual 214, 3) := by decide +kernel
theorem dM6_tick_104 : decode prog_8_method_39_code 104 = .ok (.istore 6, 2) := by decide +kernel
theorem dM6_tick_106 : decode prog_8_method_39_code 106 = .ok (.goto (-65), 3) := by decide +kernel
theorem dM6_tick_109 : decode prog_8_method_39_code 109 = .ok (.aload_n 0, 1) := by decide +kernel
theorem dM6_tick_110 : decode prog_8_method_39_code 110 = .ok (.dload_n 3, 1) := by decide +kernel
theorem dM6_tick_111 : decode prog_8_method_39_code 111 = .ok (.putfield 128, 3) := by decide +kernel
theorem dM6_tick_114 : decode prog_8_method_39_code 114 = .ok (.iconst 0, 1) := by decide +kernel
theorem dM6_tick_115 : decode prog_8_method_39_code 115 = .ok (.istore 7, 2) := by decide +kernel
theorem dM6_tick_117 : decode prog_8_method_39_code 117 = .ok (.iload 7, 2) := by decide +kernel
theorem dM6_tick_119 : decode prog_8_method_39_code 119 = .ok (.aload_n 0, 1) := by decide +kernel
theorem dM6_tick_120 : decode prog_8_method_39_code 120 = .ok (.getfield 98, 3) := by decide +kernel
theorem dM6_tick_123 : decode prog_8_method_39_code 123 = .ok (.if_icmp .ge 58, 3) := by decide +kernel
theorem dM6_tick_126 : decode prog_8_method_39_code 126 = .ok (.aload_n 0, 1) := by decide +kernel
theorem dM6_tick_127 : decode prog_8_method_39_code 127 = .ok (.getfield 37, 3) := by decide +kernel
theorem dM6_tick_130 : decode prog_8_method_39_code 130 = .ok (.iload 7, 2) := by decide +kernel
theorem dM6_tick_132 : decode prog_8_method_39_code 132 = .ok (.iaload, 1) := by decide +kernel
theorem dM6_tick_133 : decode prog_8_method_39_code 133 = .ok (.ifCond .ge 42, 3) := by decide +kernel
theorem dM6_tick_136 : decode prog_8_method_39_code 136 = .ok (.aload_n 0, 1) := by decide +kernel
theorem dM6_tick_137 : decode prog_8_method_39_code 137 = .ok (.getfield 128, 3) := by decide +kernel
theorem dM6_tick_140 : decode prog_8_method_39_code 140 = .ok (.aload_n 0, 1) := by decide +kernel
theorem dM6_tick_141 : decode prog_8_method_39_code 141 = .ok (.getfield 43, 3) := by decide +kernel
theorem dM6_tick_144 : decode prog_8_method_39_code 144 = .ok (.iload 7, 2) := by decide +kernel
theorem dM6_tick_146 : decode prog_8_method_39_code 146 = .ok (.daload, 1) := by decide +kernel
theorem dM6_tick_147 : decode prog_8_method_39_code 147 = .ok (.dsub, 1) := by decide +kernel
theorem dM6_tick_148 : decode prog_8_method_39_code 148 = .ok (.ldc2_w 220, 3) := by decide +kernel
theorem dM6_tick_151 : decode prog_8_method_39_code 151 = .ok (.dcmp .l, 1) := by decide +kernel
theorem dM6_tick_152 : decode prog_8_method_39_code 152 = .ok (.ifCond .lt 23, 3) := by decide +kernel
theorem dM6_tick_155 : decode prog_8_method_39_code 155 = .ok (.aload_n 0, 1) := by decide +kernel
theorem dM6_tick_156 : decode prog_8_method_39_code 156 = .ok (.getfield 98, 3) := by decide +kernel
theorem dM6_tick_159 : decode prog_8_method_39_code 159 = .ok (.aload_n 0, 1) := by decide +kernel
theorem dM6_tick_160 : decode prog_8_method_39_code 160 = .ok (.getfield 72, 3) := by decide +kernel
theorem dM6_tick_163 : decode prog_8_method_39_code 163 = .ok (.if_icmp .le 12, 3) := by decide +kernel
theorem dM6_tick_166 : decode prog_8_method_39_code 166 = .ok (.aload_n 0, 1) := by decide +kernel
theorem dM6_tick_167 : decode prog_8_method_39_code 167 = .ok (.iload 7, 2) := by decide +kernel
theorem dM6_tick_169 : decode prog_8_method_39_code 169 = .ok (.invokevirtual 191, 3) := by decide +kernel
theorem dM6_tick_172 : decode prog_8_method_39_code 172 = .ok (.iinc 7 (-1), 3) := by decide +kernel
theorem dM6_tick_175 : decode prog_8_method_39_code 175 = .ok (.iinc 7 1, 3) := by decide +kernel
theorem dM6_tick_178 : decode prog_8_method_39_code 178 = .ok (.goto (-61), 3) := by decide +kernel
theorem dM6_tick_181 : decode prog_8_method_39_code 181 = .ok (.aload_n 0, 1) := by decide +kernel
theorem dM6_tick_182 : decode prog_8_method_39_code 182 = .ok (.iload 5, 2) := by decide +kernel
theorem dM6_tick_184 : decode prog_8_method_39_code 184 = .ok (.invokevirtual 115, 3) := by decide +kernel
theorem dM6_tick_187 : decode prog_8_method_39_code 187 = .ok (.ireturn, 1) := by decide +kernel
def wpM6_tick_117 (K : KM) (post : Int32 → gS → Prop) (k41 : UInt64 → UInt64 → Int32 → Int32 → gS → Prop) : Nat → UInt64 → UInt64 → Int32 → Int32 → Int32 → gS → Prop
  | 0 => fun _ _ _ _ _ _ => False
  | n + 1 => fun l1 l3 l5 l6 l7 u => (((sI u 3) ≤ l7 → (wpM6_end K (fun (r12 : Int32) (u13 : gS) => post r12 u13) u l5)) ∧ (¬ (sI u 3) ≤ l7 → (vp_in l7 8 ∧ (((0 ≤ (sA u 9 l7.toNatClampNeg) → (∀ x15 : Int32, x15 = l7 + 1 → (wpM6_tick_117 K post k41 n l1 l3 l5 l6 x15 u))) ∧ (¬ 0 ≤ (sA u 9 l7.toNatClampNeg) → (vp_in l7 8 ∧ (vf_n64 (FP.dsub (sD u 0) (sB u 0 l7.toNatClampNeg)) ∧ ((((Op.cmpValue (FP.dcmp (FP.dsub (sD u 0) (sB u 0 l7.toNatClampNeg)) 4626322717216342016) .l) < 0 → (∀ x17 : Int32, x17 = l7 + 1 → (wpM6_tick_117 K post k41 n l1 l3 l5 l6 x17 u))) ∧ (¬ (Op.cmpValue (FP.dcmp (FP.dsub (sD u 0) (sB u 0 l7.toNatClampNeg)) 4626322717216342016) .l) < 0 → ((((sI u 3) ≤ (K 0) → (∀ x19 : Int32, x19 = l7 + 1 → (wpM6_tick_117 K post k41 n l1 l3 l5 l6 x19 u))) ∧ (¬ (sI u 3) ≤ (K 0) → (wpM6_removeWorker K (fun (u21 : gS) => ∀ x22 : Int32, x22 = l7 + (-1) → (∀ x23 : Int32, x23 = x22 + 1 → (wpM6_tick_117 K post k41 n l1 l3 l5 l6 x23 u21))) u l7)))))))))))))))

def wpM6_tick_41 (K : KM) (post : Int32 → gS → Prop) : Nat → UInt64 → UInt64 → Int32 → Int32 → gS → Prop
  | 0 => fun _ _ _ _ _ => False
  | n + 1 => fun l1 l3 l5 l6 u => ((l6 < 0 → (∀ u10 : gS, u10 = tD u 0 l3 → (∃ n117 : Nat, wpM6_tick_117 K post (fun l1 l3 l5 l6 u => wpM6_tick_41 K post n l1 l3 l5 l6 u) n117 l1 l3 l5 l6 0 u10))) ∧ (¬ l6 < 0 → (vp_in l6 12 ∧ (((0 < (Op.cmpValue (FP.dcmp (sB u 2 l6.toNatClampNeg) l3) .g) → (∀ u25 : gS, u25 = tD u 0 l3 → (∃ n117 : Nat, wpM6_tick_117 K post (fun l1 l3 l5 l6 u => wpM6_tick_41 K post n l1 l3 l5 l6 u) n117 l1 l3 l5 l6 0 u25))) ∧ (¬ 0 < (Op.cmpValue (FP.dcmp (sB u 2 l6.toNatClampNeg) l3) .g) → (((20 ≤ l5 → (∀ u27 : gS, u27 = tD u 0 l3 → (∃ n117 : Nat, wpM6_tick_117 K post (fun l1 l3 l5 l6 u => wpM6_tick_41 K post n l1 l3 l5 l6 u) n117 l1 l3 l5 l6 0 u27))) ∧ (¬ 20 ≤ l5 → (vp_in l6 12 ∧ ((((Op.cmpValue (FP.dcmp (sB u 2 l6.toNatClampNeg) (sD u 0)) .l) ≤ 0 → (wpM6_fire K (fun (u30 : gS) => ∀ x31 : Int32, x31 = l5 + 1 → (wpM6_first K (fun (r32 : Int32) (u33 : gS) => wpM6_tick_41 K post n l1 l3 x31 r32 u33) u30)) u l6)) ∧ (¬ (Op.cmpValue (FP.dcmp (sB u 2 l6.toNatClampNeg) (sD u 0)) .l) ≤ 0 → (vp_in l6 12 ∧ (∀ u34 : gS, u34 = tD u 0 (sB u 2 l6.toNatClampNeg) → (wpM6_fire K (fun (u36 : gS) => ∀ x37 : Int32, x37 = l5 + 1 → (wpM6_first K (fun (r38 : Int32) (u39 : gS) => wpM6_tick_41 K post n l1 l3 x37 r38 u39) u36)) u34 l6))))))))))))))))

def wpM6_tick (K : KM) (post : Int32 → gS → Prop) (u : gS) (p1 : UInt64) : Prop :=
  ∀ u1 : gS, u1 = tI u 0 0 → ((((Op.cmpValue (FP.dcmp p1 FP.dconst0) .l) < 0 → (wpM6_fail K (fun (r3 : Int32) (u4 : gS) => post r3 u4) u1 1)) ∧ (¬ (Op.cmpValue (FP.dcmp p1 FP.dconst0) .l) < 0 → ((((Op.cmpValue (FP.dcmp p1 4636737291354636288) .g) ≤ 0 → (vf_n64 (FP.dadd (sD u1 0) p1) ∧ (∀ x6 : UInt64, x6 = FP.dadd (sD u1 0) p1 → (wpM6_first K (fun (r7 : Int32) (u8 : gS) => ∃ n41 : Nat, wpM6_tick_41 K post n41 p1 x6 0 r7 u8) u1)))) ∧ (¬ (Op.cmpValue (FP.dcmp p1 4636737291354636288) .g) ≤ 0 → (wpM6_fail K (fun (r40 : Int32) (u41 : gS) => post r40 u41) u1 1)))))))

set_option maxHeartbeats 8000000 in
set_option maxRecDepth 100000 in
theorem wpM6_tick_117_ok {p : Program} {l : Launch} {e : Env} {s : State} {m : MethodId} {args : Array Value} {below : List Frame} {meth : Method} {c : Code} {dC : Nat → ClassId} {dI : Nat → Nat → Nat} {ad : Nat → Nat} {ca : Nat → ClassId} {K : KM} {A : Nat → Prop} {post : Int32 → gS → Prop}   (hx : p.tables.exec = Jvm.exec) (hb : c.code = prog_8_method_39_code) (hr : meth.sig.returnType = (some .int)) (hml : c.maxLocals = 8) (hown : s.vm.findClass RX6 = some m.cls) (hts : ∀ w ∈ gW, w.before args s = true) (hlocks : meth.locks = false) (hK : va_K (dC, dI) vwCl (mT ca) s) (hA : ∀ q, s.heap.size ≤ q → A q) (hE : mE A s s.heap) (k41 : UInt64 → UInt64 → Int32 → Int32 → gS → Prop) (hk41 : ∀ (l1 : UInt64) (l3 : UInt64) (l5 : Int32) (l6 : Int32) (u : gS) (H : Heap) (locs : List Loc) (ls : Array Slot), k41 l1 l3 l5 l6 u → va_P (dC, dI) vwCl (wM ad ca K u) H → va_D A (wM ad ca K u) → va_S A s.heap H locs → lv_has ls 8 [(0, .ref (ad 0)), (1, .double l1), (3, .double l3), (5, .int l5), (6, .int l6)] → W p l e (headSpec (gw ⟨"WorkHallModel", "tick", "(D)I"⟩ prog_8_method_39_code 8 (some .int)) ({ frames := 9, cells := 0, slots := 0, locals := 360 } : Room)).room s m args below meth c H locs 0 0 (MQ below (va_Qi post (gAt (dC, dI) vwCl (mT ca) (wM ad ca K) (A)) (A)) args s 0 0 A) (F0 m 41 ls [])) :
    ∀ (n : Nat) (l1 : UInt64) (l3 : UInt64) (l5 : Int32) (l6 : Int32) (l7 : Int32) (u : gS) (H : Heap) (locs : List Loc) (ls : Array Slot), wpM6_tick_117 K post k41 n l1 l3 l5 l6 l7 u → va_P (dC, dI) vwCl (wM ad ca K u) H → va_D A (wM ad ca K u) → va_S A s.heap H locs → lv_has ls 8 [(0, .ref (ad 0)), (1, .double l1), (3, .double l3), (5, .int l5), (6, .int l6), (7, .int l7)] → W p l e (headSpec (gw ⟨"WorkHallModel", "tick", "(D)I"⟩ prog_8_method_39_code 8 (some .int)) ({ frames := 9, cells := 0, slots := 0, locals := 360 } : Room)).room s m args below meth c H locs 0 0 (MQ below (va_Qi post (gAt (dC, dI) vwCl (mT ca) (wM ad ca K) (A)) (A)) args s 0 0 A) (F0 m 117 ls []) := by
  intro n
  induction n with
  | zero => exact fun _ _ _ _ _ _ _ _ _ h => h.elim
  | succ n ih =>
    intro l1 l3 l5 l6 l7 u H locs ls h hP hD hS hl
    refine lv_iload hx hb dM6_tick_117 (lv_at hl 5 rfl) ?_
    refine lv_aload_n hx hb dM6_tick_119 rfl (lv_at hl 0 rfl) ?_
    refine va_get (D := (dC, dI)) (ci := 6) (v := .int (sI u 3)) (C := RX6) (T := TX6) (N := 36) hx hb hts uwX6 hown hK hP 0 rfl rfl 19 (by decide) (hts _ wd_722) (fun _ h9 => h9) rfl dM6_tick_120 ?_
    refine lv_icmp_ge (tgt := 181) hx hb dM6_tick_123 (by decide) (fun c11 => ?_) (fun c11 => ?_)
    · have h := h.1 c11
      refine lv_aload_n hx hb dM6_tick_181 rfl (lv_at hl 0 rfl) ?_
      refine lv_iload hx hb dM6_tick_182 (lv_at hl 3 rfl) ?_
      refine gc_i (w := wM ad ca K) (u := u) (va_runV (As := [.int l5]) (rest := []) ⟨hx, hb, hml, hown, hts⟩ (cM6_end l dC dI ad ca K H.size u l5 _ h) (cwV 1 hts (gG_V wd_829 wd_831 wd_19 wd_52 wd_832) rfl rfl rfl (by decide +kernel) ⟨Nat.le_of_ble_eq_true rfl, Nat.le_of_ble_eq_true rfl⟩) ⟨gB_blind mE_ok, va_recv hK hP (ci := 6) (q0 := 0) rfl rfl, gB_pre mE_ok hP hK hD hE hS hA⟩ rfl rfl hl.1 rfl (lv_room (Nat.le_of_ble_eq_true rfl)) dM6_tick_184 ⟨Nat.le_of_ble_eq_true rfl, Nat.le_of_ble_eq_true rfl⟩) hD hS hA (fun r12 u13 H locs h hP hD hS => ?_)
      exact gr_i (w := wM ad ca K) (u := u13) hx hb hr hlocks h hP hK hD hS dM6_tick_187
    · have h := h.2 c11
      refine lv_aload_n hx hb dM6_tick_126 rfl (lv_at hl 0 rfl) ?_
      refine va_get (D := (dC, dI)) (ci := 6) (v := .ref (ad 10)) (C := RX6) (T := TX6) (N := 36) hx hb hts uwX6 hown hK hP 0 rfl rfl 16 (by decide) (hts _ wd_719) (fun _ h9 => h9) rfl dM6_tick_127 ?_
      refine lv_iload hx hb dM6_tick_130 (lv_at hl 5 rfl) ?_
      refine va_iald hx hb hK hP 10 0 rfl rfl h.1 dM6_tick_132 ?_
      have h := h.2
      refine lv_if_ge (tgt := 175) hx hb dM6_tick_133 (by decide) (fun c14 => ?_) (fun c14 => ?_)
      · have h := h.1 c14
        obtain ⟨x15, ex15⟩ : ∃ y : Int32, y = l7 + 1 := ⟨_, rfl⟩
        have h := h x15 ex15
        refine lv_iinc (v := x15) (lv' := [(7, .int x15), (0, .ref (ad 0)), (1, .double l1), (3, .double l3), (5, .int l5), (6, .int l6)]) hx hb dM6_tick_175 hl (k := 5) rfl (by rw [ex15]; rfl) (by decide) rfl (fun ls hl => ?_)
        refine lv_goto (tgt := 117) hx hb dM6_tick_178 (by decide) ?_
        exact ih l1 l3 l5 l6 x15 u _ _ _ h hP hD hS (lv_sub hl [1, 2, 3, 4, 5, 0] rfl)
      · have h := h.2 c14
        refine lv_aload_n hx hb dM6_tick_136 rfl (lv_at hl 0 rfl) ?_
        refine va_get (D := (dC, dI)) (ci := 6) (v := .double (sD u 0)) (C := RX6) (T := TX6) (N := 36) hx hb hts uwX6 hown hK hP 0 rfl rfl 29 (by decide) (hts _ wd_732) (fun _ h9 => h9) rfl dM6_tick_137 ?_
        refine lv_aload_n hx hb dM6_tick_140 rfl (lv_at hl 0 rfl) ?_
        refine va_get (D := (dC, dI)) (ci := 6) (v := .ref (ad 12)) (C := RX6) (T := TX6) (N := 36) hx hb hts uwX6 hown hK hP 0 rfl rfl 18 (by decide) (hts _ wd_721) (fun _ h9 => h9) rfl dM6_tick_141 ?_
        refine lv_iload hx hb dM6_tick_144 (lv_at hl 5 rfl) ?_
        refine va_dald hx hb hK hP 12 1 rfl rfl h.1 dM6_tick_146 ?_
        have h := h.2
        refine lv_dsub hx hb dM6_tick_147 h.1 ?_
        have h := h.2
        refine lv_ldc2d (v := 4626322717216342016) hx hb hown (hts _ wd_963) dM6_tick_148 ?_
        refine lv_dcmp hx hb dM6_tick_151 ?_
        refine lv_if_lt (tgt := 175) hx hb dM6_tick_152 (by decide) (fun c16 => ?_) (fun c16 => ?_)
        · have h := h.1 c16
          obtain ⟨x17, ex17⟩ : ∃ y : Int32, y = l7 + 1 := ⟨_, rfl⟩
          have h := h x17 ex17
          refine lv_iinc (v := x17) (lv' := [(7, .int x17), (0, .ref (ad 0)), (1, .double l1), (3, .double l3), (5, .int l5), (6, .int l6)]) hx hb dM6_tick_175 hl (k := 5) rfl (by rw [ex17]; rfl) (by decide) rfl (fun ls hl => ?_)
          refine lv_goto (tgt := 117) hx hb dM6_tick_178 (by decide) ?_
          exact ih l1 l3 l5 l6 x17 u _ _ _ h hP hD hS (lv_sub hl [1, 2, 3, 4, 5, 0] rfl)
        · have h := h.2 c16
          refine lv_aload_n hx hb dM6_tick_155 rfl (lv_at hl 0 rfl) ?_
          refine va_get (D := (dC, dI)) (ci := 6) (v := .int (sI u 3)) (C := RX6) (T := TX6) (N := 36) hx hb hts uwX6 hown hK hP 0 rfl rfl 19 (by decide) (hts _ wd_722) (fun _ h9 => h9) rfl dM6_tick_156 ?_
          refine lv_aload_n hx hb dM6_tick_159 rfl (lv_at hl 0 rfl) ?_
          refine va_get (D := (dC, dI)) (ci := 6) (v := .int (K 0)) (C := RX6) (T := TX6) (N := 36) hx hb hts uwX6 hown hK hP 0 rfl rfl 1 (by decide) (hts _ wd_704) (fun _ h9 => h9) rfl dM6_tick_160 ?_
          refine lv_icmp_le (tgt := 175) hx hb dM6_tick_163 (by decide) (fun c18 => ?_) (fun c18 => ?_)
          · have h := h.1 c18
            obtain ⟨x19, ex19⟩ : ∃ y : Int32, y = l7 + 1 := ⟨_, rfl⟩
            have h := h x19 ex19
            refine lv_iinc (v := x19) (lv' := [(7, .int x19), (0, .ref (ad 0)), (1, .double l1), (3, .double l3), (5, .int l5), (6, .int l6)]) hx hb dM6_tick_175 hl (k := 5) rfl (by rw [ex19]; rfl) (by decide) rfl (fun ls hl => ?_)
            refine lv_goto (tgt := 117) hx hb dM6_tick_178 (by decide) ?_
            exact ih l1 l3 l5 l6 x19 u _ _ _ h hP hD hS (lv_sub hl [1, 2, 3, 4, 5, 0] rfl)
          · have h := h.2 c18
            refine lv_aload_n hx hb dM6_tick_166 rfl (lv_at hl 0 rfl) ?_
            refine lv_iload hx hb dM6_tick_167 (lv_at hl 5 rfl) ?_
            refine gc_v (w := wM ad ca K) (u := u) (va_runV (As := [.int l7]) (rest := []) ⟨hx, hb, hml, hown, hts⟩ (cM6_removeWorker l dC dI ad ca K H.size u l7 _ h) (cwV 1 hts (gG_V wd_909 wd_911 wd_36 wd_52 wd_912) rfl rfl rfl (by decide +kernel) ⟨Nat.le_of_ble_eq_true rfl, Nat.le_of_ble_eq_true rfl⟩) ⟨gB_blind mE_ok, va_recv hK hP (ci := 6) (q0 := 0) rfl rfl, gB_pre mE_ok hP hK hD hE hS hA⟩ rfl rfl hl.1 rfl (lv_room (Nat.le_of_ble_eq_true rfl)) dM6_tick_169 ⟨Nat.le_of_ble_eq_true rfl, Nat.le_of_ble_eq_true rfl⟩) hD hS hA (fun u21 H locs h hP hD hS => ?_)
            obtain ⟨x22, ex22⟩ : ∃ y : Int32, y = l7 + (-1) := ⟨_, rfl⟩
            have h := h x22 ex22
            refine lv_iinc (v := x22) (lv' := [(7, .int x22), (0, .ref (ad 0)), (1, .double l1), (3, .double l3), (5, .int l5), (6, .int l6)]) hx hb dM6_tick_172 hl (k := 5) rfl (by rw [ex22]; rfl) (by decide) rfl (fun ls hl => ?_)
            obtain ⟨x23, ex23⟩ : ∃ y : Int32, y = x22 + 1 := ⟨_, rfl⟩
            have h := h x23 ex23
            refine lv_iinc (v := x23) (lv' := [(7, .int x23), (0, .ref (ad 0)), (1, .double l1), (3, .double l3), (5, .int l5), (6, .int l6)]) hx hb dM6_tick_175 hl (k := 0) rfl (by rw [ex23]; rfl) (by decide) rfl (fun ls hl => ?_)
            refine lv_goto (tgt := 117) hx hb dM6_tick_178 (by decide) ?_
            exact ih l1 l3 l5 l6 x23 u21 _ _ _ h hP hD hS (lv_sub hl [1, 2, 3, 4, 5, 0] rfl)

set_option maxHeartbeats 8000000 in
set_option maxRecDepth 100000 in
theorem wpM6_tick_41_ok {p : Program} {l : Launch} {e : Env} {s : State} {m : MethodId} {args : Array Value} {below : List Frame} {meth : Method} {c : Code} {dC : Nat → ClassId} {dI : Nat → Nat → Nat} {ad : Nat → Nat} {ca : Nat → ClassId} {K : KM} {A : Nat → Prop} {post : Int32 → gS → Prop}   (hx : p.tables.exec = Jvm.exec) (hb : c.code = prog_8_method_39_code) (hr : meth.sig.returnType = (some .int)) (hml : c.maxLocals = 8) (hown : s.vm.findClass RX6 = some m.cls) (hts : ∀ w ∈ gW, w.before args s = true) (hlocks : meth.locks = false) (hK : va_K (dC, dI) vwCl (mT ca) s) (hA : ∀ q, s.heap.size ≤ q → A q) (hE : mE A s s.heap) :
    ∀ (n : Nat) (l1 : UInt64) (l3 : UInt64) (l5 : Int32) (l6 : Int32) (u : gS) (H : Heap) (locs : List Loc) (ls : Array Slot), wpM6_tick_41 K post n l1 l3 l5 l6 u → va_P (dC, dI) vwCl (wM ad ca K u) H → va_D A (wM ad ca K u) → va_S A s.heap H locs → lv_has ls 8 [(0, .ref (ad 0)), (1, .double l1), (3, .double l3), (5, .int l5), (6, .int l6)] → W p l e (headSpec (gw ⟨"WorkHallModel", "tick", "(D)I"⟩ prog_8_method_39_code 8 (some .int)) ({ frames := 9, cells := 0, slots := 0, locals := 360 } : Room)).room s m args below meth c H locs 0 0 (MQ below (va_Qi post (gAt (dC, dI) vwCl (mT ca) (wM ad ca K) (A)) (A)) args s 0 0 A) (F0 m 41 ls []) := by
  intro n
  induction n with
  | zero => exact fun _ _ _ _ _ _ _ _ h => h.elim
  | succ n ih =>
    intro l1 l3 l5 l6 u H locs ls h hP hD hS hl
    refine lv_iload hx hb dM6_tick_41 (lv_at hl 4 rfl) ?_
    refine lv_if_lt (tgt := 109) hx hb dM6_tick_43 (by decide) (fun c9 => ?_) (fun c9 => ?_)
    · have h := h.1 c9
      refine lv_aload_n hx hb dM6_tick_109 rfl (lv_at hl 0 rfl) ?_
      refine lv_dload_n hx hb dM6_tick_110 rfl (lv_at hl 2 rfl) ?_
      refine va_put (D := (dC, dI)) (ci := 6) (v := .double l3) (ty := tyX6 29) (C := RX6) (T := TX6) (N := 36) hx hb hts uwX6 tyX6 tyX6_ok nmX6 hown hK hP hD hS 0 rfl rfl 29 (by decide) (hts _ wd_732) (fun _ h9 => h9) rfl (tyX6_ok 29 (by decide)) rfl rfl (Nat.le_of_ble_eq_true rfl) dM6_tick_111 (fun H locs hP hD hS => ?_)
      obtain ⟨u10, eu10⟩ : ∃ z : gS, z = tD u 0 l3 := ⟨_, rfl⟩
      have hP : va_P (dC, dI) vwCl (wM ad ca K u10) H := by rw [eu10, wM_f0_time]; exact hP
      have hD : va_D A (wM ad ca K u10) := by rw [eu10, wM_f0_time]; exact hD
      have h := h u10 eu10
      refine lv_iconst (v := 0) hx hb dM6_tick_114 (by decide) ?_
      refine lv_istore (lv' := [(7, .int 0), (0, .ref (ad 0)), (1, .double l1), (3, .double l3), (5, .int l5), (6, .int l6)]) hx hb dM6_tick_115 hl (by decide) rfl (fun ls hl => ?_)
      obtain ⟨n117, h⟩ := h
      exact wpM6_tick_117_ok hx hb hr hml hown hts hlocks hK hA hE _ ih n117 l1 l3 l5 l6 0 u10 _ _ _ h hP hD hS (lv_sub hl [1, 2, 3, 4, 5, 0] rfl)
    · have h := h.2 c9
      refine lv_aload_n hx hb dM6_tick_46 rfl (lv_at hl 0 rfl) ?_
      refine va_get (D := (dC, dI)) (ci := 6) (v := .ref (ad 16)) (C := RX6) (T := TX6) (N := 36) hx hb hts uwX6 hown hK hP 0 rfl rfl 26 (by decide) (hts _ wd_729) (fun _ h9 => h9) rfl dM6_tick_47 ?_
      refine lv_iload hx hb dM6_tick_50 (lv_at hl 4 rfl) ?_
      refine va_dald hx hb hK hP 16 1 rfl rfl h.1 dM6_tick_52 ?_
      have h := h.2
      refine lv_dload_n hx hb dM6_tick_53 rfl (lv_at hl 2 rfl) ?_
      refine lv_dcmp hx hb dM6_tick_54 ?_
      refine lv_if_gt (tgt := 109) hx hb dM6_tick_55 (by decide) (fun c24 => ?_) (fun c24 => ?_)
      · have h := h.1 c24
        refine lv_aload_n hx hb dM6_tick_109 rfl (lv_at hl 0 rfl) ?_
        refine lv_dload_n hx hb dM6_tick_110 rfl (lv_at hl 2 rfl) ?_
        refine va_put (D := (dC, dI)) (ci := 6) (v := .double l3) (ty := tyX6 29) (C := RX6) (T := TX6) (N := 36) hx hb hts uwX6 tyX6 tyX6_ok nmX6 hown hK hP hD hS 0 rfl rfl 29 (by decide) (hts _ wd_732) (fun _ h9 => h9) rfl (tyX6_ok 29 (by decide)) rfl rfl (Nat.le_of_ble_eq_true rfl) dM6_tick_111 (fun H locs hP hD hS => ?_)
        obtain ⟨u25, eu25⟩ : ∃ z : gS, z = tD u 0 l3 := ⟨_, rfl⟩
        have hP : va_P (dC, dI) vwCl (wM ad ca K u25) H := by rw [eu25, wM_f0_time]; exact hP
        have hD : va_D A (wM ad ca K u25) := by rw [eu25, wM_f0_time]; exact hD
        have h := h u25 eu25
        refine lv_iconst (v := 0) hx hb dM6_tick_114 (by decide) ?_
        refine lv_istore (lv' := [(7, .int 0), (0, .ref (ad 0)), (1, .double l1), (3, .double l3), (5, .int l5), (6, .int l6)]) hx hb dM6_tick_115 hl (by decide) rfl (fun ls hl => ?_)
        obtain ⟨n117, h⟩ := h
        exact wpM6_tick_117_ok hx hb hr hml hown hts hlocks hK hA hE _ ih n117 l1 l3 l5 l6 0 u25 _ _ _ h hP hD hS (lv_sub hl [1, 2, 3, 4, 5, 0] rfl)
      · have h := h.2 c24
        refine lv_iload hx hb dM6_tick_58 (lv_at hl 3 rfl) ?_
        refine lv_bipush (v := 20) hx hb dM6_tick_60 (by decide) ?_
        refine lv_icmp_ge (tgt := 109) hx hb dM6_tick_62 (by decide) (fun c26 => ?_) (fun c26 => ?_)
        · have h := h.1 c26
          refine lv_aload_n hx hb dM6_tick_109 rfl (lv_at hl 0 rfl) ?_
          refine lv_dload_n hx hb dM6_tick_110 rfl (lv_at hl 2 rfl) ?_
          refine va_put (D := (dC, dI)) (ci := 6) (v := .double l3) (ty := tyX6 29) (C := RX6) (T := TX6) (N := 36) hx hb hts uwX6 tyX6 tyX6_ok nmX6 hown hK hP hD hS 0 rfl rfl 29 (by decide) (hts _ wd_732) (fun _ h9 => h9) rfl (tyX6_ok 29 (by decide)) rfl rfl (Nat.le_of_ble_eq_true rfl) dM6_tick_111 (fun H locs hP hD hS => ?_)
          obtain ⟨u27, eu27⟩ : ∃ z : gS, z = tD u 0 l3 := ⟨_, rfl⟩
          have hP : va_P (dC, dI) vwCl (wM ad ca K u27) H := by rw [eu27, wM_f0_time]; exact hP
          have hD : va_D A (wM ad ca K u27) := by rw [eu27, wM_f0_time]; exact hD
          have h := h u27 eu27
          refine lv_iconst (v := 0) hx hb dM6_tick_114 (by decide) ?_
          refine lv_istore (lv' := [(7, .int 0), (0, .ref (ad 0)), (1, .double l1), (3, .double l3), (5, .int l5), (6, .int l6)]) hx hb dM6_tick_115 hl (by decide) rfl (fun ls hl => ?_)
          obtain ⟨n117, h⟩ := h
          exact wpM6_tick_117_ok hx hb hr hml hown hts hlocks hK hA hE _ ih n117 l1 l3 l5 l6 0 u27 _ _ _ h hP hD hS (lv_sub hl [1, 2, 3, 4, 5, 0] rfl)
        · have h := h.2 c26
          refine lv_aload_n hx hb dM6_tick_65 rfl (lv_at hl 0 rfl) ?_
          refine va_get (D := (dC, dI)) (ci := 6) (v := .ref (ad 16)) (C := RX6) (T := TX6) (N := 36) hx hb hts uwX6 hown hK hP 0 rfl rfl 26 (by decide) (hts _ wd_729) (fun _ h9 => h9) rfl dM6_tick_66 ?_
          refine lv_iload hx hb dM6_tick_69 (lv_at hl 4 rfl) ?_
          refine va_dald hx hb hK hP 16 1 rfl rfl h.1 dM6_tick_71 ?_
          have h := h.2
          refine lv_aload_n hx hb dM6_tick_72 rfl (lv_at hl 0 rfl) ?_
          refine va_get (D := (dC, dI)) (ci := 6) (v := .double (sD u 0)) (C := RX6) (T := TX6) (N := 36) hx hb hts uwX6 hown hK hP 0 rfl rfl 29 (by decide) (hts _ wd_732) (fun _ h9 => h9) rfl dM6_tick_73 ?_
          refine lv_dcmp hx hb dM6_tick_76 ?_
          refine lv_if_le (tgt := 91) hx hb dM6_tick_77 (by decide) (fun c28 => ?_) (fun c28 => ?_)
          · have h := h.1 c28
            refine lv_aload_n hx hb dM6_tick_91 rfl (lv_at hl 0 rfl) ?_
            refine lv_iload hx hb dM6_tick_92 (lv_at hl 4 rfl) ?_
            refine gc_v (w := wM ad ca K) (u := u) (va_runV (As := [.int l6]) (rest := []) ⟨hx, hb, hml, hown, hts⟩ (cM6_fire l dC dI ad ca K H.size u l6 _ h) (cwV 1 hts (gG_V wd_959 wd_961 wd_44 wd_52 wd_962) rfl rfl rfl (by decide +kernel) ⟨Nat.le_of_ble_eq_true rfl, Nat.le_of_ble_eq_true rfl⟩) ⟨gB_blind mE_ok, va_recv hK hP (ci := 6) (q0 := 0) rfl rfl, gB_pre mE_ok hP hK hD hE hS hA⟩ rfl rfl hl.1 rfl (lv_room (Nat.le_of_ble_eq_true rfl)) dM6_tick_94 ⟨Nat.le_of_ble_eq_true rfl, Nat.le_of_ble_eq_true rfl⟩) hD hS hA (fun u30 H locs h hP hD hS => ?_)
            obtain ⟨x31, ex31⟩ : ∃ y : Int32, y = l5 + 1 := ⟨_, rfl⟩
            have h := h x31 ex31
            refine lv_iinc (v := x31) (lv' := [(5, .int x31), (0, .ref (ad 0)), (1, .double l1), (3, .double l3), (6, .int l6)]) hx hb dM6_tick_97 hl (k := 3) rfl (by rw [ex31]; rfl) (by decide) rfl (fun ls hl => ?_)
            refine lv_aload_n hx hb dM6_tick_100 rfl (lv_at hl 1 rfl) ?_
            refine gc_i (w := wM ad ca K) (u := u30) (va_runV (As := []) (rest := []) ⟨hx, hb, hml, hown, hts⟩ (cM6_first l dC dI ad ca K H.size u30 _ h) (cwV 0 hts (gG_V wd_955 wd_957 wd_43 wd_52 wd_958) rfl rfl rfl (by decide +kernel) ⟨Nat.le_of_ble_eq_true rfl, Nat.le_of_ble_eq_true rfl⟩) ⟨gB_blind mE_ok, va_recv hK hP (ci := 6) (q0 := 0) rfl rfl, gB_pre mE_ok hP hK hD hE hS hA⟩ rfl rfl hl.1 rfl (lv_room (Nat.le_of_ble_eq_true rfl)) dM6_tick_101 ⟨Nat.le_of_ble_eq_true rfl, Nat.le_of_ble_eq_true rfl⟩) hD hS hA (fun r32 u33 H locs h hP hD hS => ?_)
            refine lv_istore (lv' := [(6, .int r32), (5, .int x31), (0, .ref (ad 0)), (1, .double l1), (3, .double l3)]) hx hb dM6_tick_104 hl (by decide) rfl (fun ls hl => ?_)
            refine lv_goto (tgt := 41) hx hb dM6_tick_106 (by decide) ?_
            exact ih l1 l3 x31 r32 u33 _ _ _ h hP hD hS (lv_sub hl [2, 3, 4, 1, 0] rfl)
          · have h := h.2 c28
            refine lv_aload_n hx hb dM6_tick_80 rfl (lv_at hl 0 rfl) ?_
            refine lv_aload_n hx hb dM6_tick_81 rfl (lv_at hl 0 rfl) ?_
            refine va_get (D := (dC, dI)) (ci := 6) (v := .ref (ad 16)) (C := RX6) (T := TX6) (N := 36) hx hb hts uwX6 hown hK hP 0 rfl rfl 26 (by decide) (hts _ wd_729) (fun _ h9 => h9) rfl dM6_tick_82 ?_
            refine lv_iload hx hb dM6_tick_85 (lv_at hl 4 rfl) ?_
            refine va_dald hx hb hK hP 16 1 rfl rfl h.1 dM6_tick_87 ?_
            have h := h.2
            refine va_put (D := (dC, dI)) (ci := 6) (v := .double (sB u 2 l6.toNatClampNeg)) (ty := tyX6 29) (C := RX6) (T := TX6) (N := 36) hx hb hts uwX6 tyX6 tyX6_ok nmX6 hown hK hP hD hS 0 rfl rfl 29 (by decide) (hts _ wd_732) (fun _ h9 => h9) rfl (tyX6_ok 29 (by decide)) rfl rfl (Nat.le_of_ble_eq_true rfl) dM6_tick_88 (fun H locs hP hD hS => ?_)
            obtain ⟨u34, eu34⟩ : ∃ z : gS, z = tD u 0 (sB u 2 l6.toNatClampNeg) := ⟨_, rfl⟩
            have hP : va_P (dC, dI) vwCl (wM ad ca K u34) H := by rw [eu34, wM_f0_time]; exact hP
            have hD : va_D A (wM ad ca K u34) := by rw [eu34, wM_f0_time]; exact hD
            have h := h u34 eu34
            refine lv_aload_n hx hb dM6_tick_91 rfl (lv_at hl 0 rfl) ?_
            refine lv_iload hx hb dM6_tick_92 (lv_at hl 4 rfl) ?_
            refine gc_v (w := wM ad ca K) (u := u34) (va_runV (As := [.int l6]) (rest := []) ⟨hx, hb, hml, hown, hts⟩ (cM6_fire l dC dI ad ca K H.size u34 l6 _ h) (cwV 1 hts (gG_V wd_959 wd_961 wd_44 wd_52 wd_962) rfl rfl rfl (by decide +kernel) ⟨Nat.le_of_ble_eq_true rfl, Nat.le_of_ble_eq_true rfl⟩) ⟨gB_blind mE_ok, va_recv hK hP (ci := 6) (q0 := 0) rfl rfl, gB_pre mE_ok hP hK hD hE hS hA⟩ rfl rfl hl.1 rfl (lv_room (Nat.le_of_ble_eq_true rfl)) dM6_tick_94 ⟨Nat.le_of_ble_eq_true rfl, Nat.le_of_ble_eq_true rfl⟩) hD hS hA (fun u36 H locs h hP hD hS => ?_)
            obtain ⟨x37, ex37⟩ : ∃ y : Int32, y = l5 + 1 := ⟨_, rfl⟩
            have h := h x37 ex37
            refine lv_iinc (v := x37) (lv' := [(5, .int x37), (0, .ref (ad 0)), (1, .double l1), (3, .double l3), (6, .int l6)]) hx hb dM6_tick_97 hl (k := 3) rfl (by rw [ex37]; rfl) (by decide) rfl (fun ls hl => ?_)
            refine lv_aload_n hx hb dM6_tick_100 rfl (lv_at hl 1 rfl) ?_
            refine gc_i (w := wM ad ca K) (u := u36) (va_runV (As := []) (rest := []) ⟨hx, hb, hml, hown, hts⟩ (cM6_first l dC dI ad ca K H.size u36 _ h) (cwV 0 hts (gG_V wd_955 wd_957 wd_43 wd_52 wd_958) rfl rfl rfl (by decide +kernel) ⟨Nat.le_of_ble_eq_true rfl, Nat.le_of_ble_eq_true rfl⟩) ⟨gB_blind mE_ok, va_recv hK hP (ci := 6) (q0 := 0) rfl rfl, gB_pre mE_ok hP hK hD hE hS hA⟩ rfl rfl hl.1 rfl (lv_room (Nat.le_of_ble_eq_true rfl)) dM6_tick_101 ⟨Nat.le_of_ble_eq_true rfl, Nat.le_of_ble_eq_true rfl⟩) hD hS hA (fun r38 u39 H locs h hP hD hS => ?_)
            refine lv_istore (lv' := [(6, .int r38), (5, .int x37), (0, .ref (ad 0)), (1, .double l1), (3, .double l3)]) hx hb dM6_tick_104 hl (by decide) rfl (fun ls hl => ?_)
            refine lv_goto (tgt := 41) hx hb dM6_tick_106 (by decide) ?_
            exact ih l1 l3 x37 r38 u39 _ _ _ h hP hD hS (lv_sub hl [2, 3, 4, 1, 0] rfl)

set_option maxHeartbeats 8000000 in
set_option maxRecDepth 100000 in
theorem cM6_tick (l : Launch) (dC : Nat → ClassId) (dI : Nat → Nat → Nat) (ad : Nat → Nat) (ca : Nat → ClassId) (K : KM) (sz : Nat) (u : gS) (p1 : UInt64) (post : Int32 → gS → Prop)  (h : wpM6_tick K post u p1) : Met l ⟨"WorkHallModel", "tick", "(D)I"⟩ (gw ⟨"WorkHallModel", "tick", "(D)I"⟩ prog_8_method_39_code 8 (some .int)) ({ frames := 9, cells := 0, slots := 0, locals := 360 } : Room) (va_Pc [.ref (ad 0), .double p1] (gB (dC, dI) vwCl (mT ca) mE (wM ad ca K u) sz)) (va_Qi post (gAt (dC, dI) vwCl (mT ca) (wM ad ca K) (va_A (wM ad ca K u) sz)) (va_A (wM ad ca K u) sz)) 0 0 (va_A (wM ad ca K u) sz) := by
  refine Met.ofW (cc := prog_8_method_39_code) (maxL := 8) (ret := (some .int)) (by decide) rfl ?_
  intro p e s m args below meth c s₁ B hml hv
  obtain ⟨rfl, hsz, hP, hK, hD0, hE⟩ := hv
  have hx := B.exec
  have hb := B.bytes
  have hr := B.returns
  have hts : ∀ w ∈ gW, w.before _ s = true := fun w h9 => atoms_spec (ws := (gw ⟨"WorkHallModel", "tick", "(D)I"⟩ prog_8_method_39_code 8 (some .int))) B.pre w (List.mem_cons_of_mem _ h9)
  have hown : s.vm.findClass RX6 = some m.cls := findClass_of_methodNamed B.named
  have hlocks := B.notSynchronized
  subst hsz
  have hD := hD0.self (sz := s.heap.size)
  generalize hAe : va_A (wM ad ca K u) s.heap.size = A at hD hE ⊢
  have hA : ∀ q : Nat, s.heap.size ≤ q → A q := fun q h => by rw [← hAe]; exact Or.inr h
  obtain ⟨H, hHe⟩ : ∃ z : Heap, z = s.heap := ⟨_, rfl⟩
  rw [← hHe]
  have hS : va_S A s.heap H [] := by rw [hHe]; exact va_S.rf
  have hP : va_P (dC, dI) vwCl (wM ad ca K u) H := by rw [hHe]; exact hP
  have hl := lv_entry ([.ref (ad 0), .double p1]) (n := 8) (Nat.le_of_ble_eq_true rfl)
  rw [lg_entry_eq]
  generalize (lg_sl ([.ref (ad 0), .double p1]) ++ List.replicate (8 - (lg_sl ([.ref (ad 0), .double p1])).length) Slot.unset).toArray = ls at hl ⊢
  have hl : lv_has ls 8 [(0, .ref (ad 0)), (1, .double p1)] := hl
  clear hAe
  refine lv_aload_n hx hb dM6_tick_0 rfl (lv_at hl 0 rfl) ?_
  refine lv_iconst (v := 0) hx hb dM6_tick_1 (by decide) ?_
  refine va_put (D := (dC, dI)) (ci := 6) (v := .int 0) (ty := tyX6 0) (C := RX6) (T := TX6) (N := 36) hx hb hts uwX6 tyX6 tyX6_ok nmX6 hown hK hP hD hS 0 rfl rfl 0 (by decide) (hts _ wd_703) (fun _ h9 => h9) rfl (tyX6_ok 0 (by decide)) rfl rfl (Nat.le_of_ble_eq_true rfl) dM6_tick_2 (fun H locs hP hD hS => ?_)
  obtain ⟨u1, eu1⟩ : ∃ z : gS, z = tI u 0 0 := ⟨_, rfl⟩
  have hP : va_P (dC, dI) vwCl (wM ad ca K u1) H := by rw [eu1, wM_f0_failed]; exact hP
  have hD : va_D A (wM ad ca K u1) := by rw [eu1, wM_f0_failed]; exact hD
  have h := h u1 eu1
  refine lv_dload_n hx hb dM6_tick_5 rfl (lv_at hl 1 rfl) ?_
  refine lv_dconst0 hx hb dM6_tick_6 ?_
  refine lv_dcmp hx hb dM6_tick_7 ?_
  refine lv_if_lt (tgt := 19) hx hb dM6_tick_8 (by decide) (fun c2 => ?_) (fun c2 => ?_)
  · have h := h.1 c2
    refine lv_aload_n hx hb dM6_tick_19 rfl (lv_at hl 0 rfl) ?_
    refine lv_iconst (v := 1) hx hb dM6_tick_20 (by decide) ?_
    refine gc_i (w := wM ad ca K) (u := u1) (va_runV (As := [.int 1]) (rest := []) ⟨hx, hb, hml, hown, hts⟩ (cM6_fail l dC dI ad ca K H.size u1 1 _ h) (cwV 1 hts (gG_V wd_825 wd_827 wd_18 wd_52 wd_828) rfl rfl rfl (by decide +kernel) ⟨Nat.le_of_ble_eq_true rfl, Nat.le_of_ble_eq_true rfl⟩) ⟨gB_blind mE_ok, va_recv hK hP (ci := 6) (q0 := 0) rfl rfl, gB_pre mE_ok hP hK hD hE hS hA⟩ rfl rfl hl.1 rfl (lv_room (Nat.le_of_ble_eq_true rfl)) dM6_tick_21 ⟨Nat.le_of_ble_eq_true rfl, Nat.le_of_ble_eq_true rfl⟩) hD hS hA (fun r3 u4 H locs h hP hD hS => ?_)
    exact gr_i (w := wM ad ca K) (u := u4) hx hb hr hlocks h hP hK hD hS dM6_tick_24
  · have h := h.2 c2
    refine lv_dload_n hx hb dM6_tick_11 rfl (lv_at hl 1 rfl) ?_
    refine lv_ldc2d (v := 4636737291354636288) hx hb hown (hts _ wd_954) dM6_tick_12 ?_
    refine lv_dcmp hx hb dM6_tick_15 ?_
    refine lv_if_le (tgt := 25) hx hb dM6_tick_16 (by decide) (fun c5 => ?_) (fun c5 => ?_)
    · have h := h.1 c5
      refine lv_aload_n hx hb dM6_tick_25 rfl (lv_at hl 0 rfl) ?_
      refine va_get (D := (dC, dI)) (ci := 6) (v := .double (sD u1 0)) (C := RX6) (T := TX6) (N := 36) hx hb hts uwX6 hown hK hP 0 rfl rfl 29 (by decide) (hts _ wd_732) (fun _ h9 => h9) rfl dM6_tick_26 ?_
      refine lv_dload_n hx hb dM6_tick_29 rfl (lv_at hl 1 rfl) ?_
      refine lv_dadd hx hb dM6_tick_30 h.1 ?_
      have h := h.2
      refine lv_topd (fun x6 ex6 => ?_)
      have h := h x6 ex6
      refine lv_dstore_n (lv' := [(3, .double x6), (0, .ref (ad 0)), (1, .double p1)]) hx hb dM6_tick_31 rfl hl (by decide) rfl (fun ls hl => ?_)
      refine lv_iconst (v := 0) hx hb dM6_tick_32 (by decide) ?_
      refine lv_istore (lv' := [(5, .int 0), (3, .double x6), (0, .ref (ad 0)), (1, .double p1)]) hx hb dM6_tick_33 hl (by decide) rfl (fun ls hl => ?_)
      refine lv_aload_n hx hb dM6_tick_35 rfl (lv_at hl 2 rfl) ?_
      refine gc_i (w := wM ad ca K) (u := u1) (va_runV (As := []) (rest := []) ⟨hx, hb, hml, hown, hts⟩ (cM6_first l dC dI ad ca K H.size u1 _ h) (cwV 0 hts (gG_V wd_955 wd_957 wd_43 wd_52 wd_958) rfl rfl rfl (by decide +kernel) ⟨Nat.le_of_ble_eq_true rfl, Nat.le_of_ble_eq_true rfl⟩) ⟨gB_blind mE_ok, va_recv hK hP (ci := 6) (q0 := 0) rfl rfl, gB_pre mE_ok hP hK hD hE hS hA⟩ rfl rfl hl.1 rfl (lv_room (Nat.le_of_ble_eq_true rfl)) dM6_tick_36 ⟨Nat.le_of_ble_eq_true rfl, Nat.le_of_ble_eq_true rfl⟩) hD hS hA (fun r7 u8 H locs h hP hD hS => ?_)
      refine lv_istore (lv' := [(6, .int r7), (5, .int 0), (3, .double x6), (0, .ref (ad 0)), (1, .double p1)]) hx hb dM6_tick_39 hl (by decide) rfl (fun ls hl => ?_)
      obtain ⟨n41, h⟩ := h
      exact wpM6_tick_41_ok hx hb hr hml hown hts hlocks hK hA hE n41 p1 x6 0 r7 u8 _ _ _ h hP hD hS (lv_sub hl [3, 4, 2, 1, 0] rfl)
    · have h := h.2 c5
      refine lv_aload_n hx hb dM6_tick_19 rfl (lv_at hl 0 rfl) ?_
      refine lv_iconst (v := 1) hx hb dM6_tick_20 (by decide) ?_
      refine gc_i (w := wM ad ca K) (u := u1) (va_runV (As := [.int 1]) (rest := []) ⟨hx, hb, hml, hown, hts⟩ (cM6_fail l dC dI ad ca K H.size u1 1 _ h) (cwV 1 hts (gG_V wd_825 wd_827 wd_18 wd_52 wd_828) rfl rfl rfl (by decide +kernel) ⟨Nat.le_of_ble_eq_true rfl, Nat.le_of_ble_eq_true rfl⟩) ⟨gB_blind mE_ok, va_recv hK hP (ci := 6) (q0 := 0) rfl rfl, gB_pre mE_ok hP hK hD hE hS hA⟩ rfl rfl hl.1 rfl (lv_room (Nat.le_of_ble_eq_true rfl)) dM6_tick_21 ⟨Nat.le_of_ble_eq_true rfl, Nat.le_of_ble_eq_true rfl⟩) hD hS hA (fun r40 u41 H locs h hP hD hS => ?_)
      exact gr_i (w := wM ad ca K) (u := u41) hx hb hr hlocks h hP hK hD hS dM6_tick_24

