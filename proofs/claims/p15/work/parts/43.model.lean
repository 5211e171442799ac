theorem dM6_place_0 : decode prog_8_method_16_code 0 = .ok (.iconst 0, 1) := by decide +kernel
theorem dM6_place_1 : decode prog_8_method_16_code 1 = .ok (.istore_n 2, 1) := by decide +kernel
theorem dM6_place_2 : decode prog_8_method_16_code 2 = .ok (.iload_n 2, 1) := by decide +kernel
theorem dM6_place_3 : decode prog_8_method_16_code 3 = .ok (.aload_n 0, 1) := by decide +kernel
theorem dM6_place_4 : decode prog_8_method_16_code 4 = .ok (.getfield 98, 3) := by decide +kernel
theorem dM6_place_7 : decode prog_8_method_16_code 7 = .ok (.if_icmp .ge 18, 3) := by decide +kernel
theorem dM6_place_10 : decode prog_8_method_16_code 10 = .ok (.aload_n 0, 1) := by decide +kernel
theorem dM6_place_11 : decode prog_8_method_16_code 11 = .ok (.getfield 37, 3) := by decide +kernel
theorem dM6_place_14 : decode prog_8_method_16_code 14 = .ok (.iload_n 2, 1) := by decide +kernel
theorem dM6_place_15 : decode prog_8_method_16_code 15 = .ok (.iaload, 1) := by decide +kernel
theorem dM6_place_16 : decode prog_8_method_16_code 16 = .ok (.ifCond .lt 9, 3) := by decide +kernel
theorem dM6_place_19 : decode prog_8_method_16_code 19 = .ok (.iinc 2 1, 3) := by decide +kernel
theorem dM6_place_22 : decode prog_8_method_16_code 22 = .ok (.goto (-20), 3) := by decide +kernel
theorem dM6_place_25 : decode prog_8_method_16_code 25 = .ok (.aload_n 0, 1) := by decide +kernel
theorem dM6_place_26 : decode prog_8_method_16_code 26 = .ok (.getfield 88, 3) := by decide +kernel
theorem dM6_place_29 : decode prog_8_method_16_code 29 = .ok (.ifCond .eq 14, 3) := by decide +kernel
theorem dM6_place_32 : decode prog_8_method_16_code 32 = .ok (.aload_n 0, 1) := by decide +kernel
theorem dM6_place_33 : decode prog_8_method_16_code 33 = .ok (.getfield 22, 3) := by decide +kernel
theorem dM6_place_36 : decode prog_8_method_16_code 36 = .ok (.iload_n 1, 1) := by decide +kernel
theorem dM6_place_37 : decode prog_8_method_16_code 37 = .ok (.bipush 6, 2) := by decide +kernel
theorem dM6_place_39 : decode prog_8_method_16_code 39 = .ok (.iastore, 1) := by decide +kernel
theorem dM6_place_40 : decode prog_8_method_16_code 40 = .ok (.goto 157, 3) := by decide +kernel
theorem dM6_place_43 : decode prog_8_method_16_code 43 = .ok (.aload_n 0, 1) := by decide +kernel
theorem dM6_place_44 : decode prog_8_method_16_code 44 = .ok (.getfield 98, 3) := by decide +kernel
theorem dM6_place_47 : decode prog_8_method_16_code 47 = .ok (.aload_n 0, 1) := by decide +kernel
theorem dM6_place_48 : decode prog_8_method_16_code 48 = .ok (.getfield 72, 3) := by decide +kernel
theorem dM6_place_51 : decode prog_8_method_16_code 51 = .ok (.if_icmp .ge 11, 3) := by decide +kernel
theorem dM6_place_54 : decode prog_8_method_16_code 54 = .ok (.aload_n 0, 1) := by decide +kernel
theorem dM6_place_55 : decode prog_8_method_16_code 55 = .ok (.iload_n 1, 1) := by decide +kernel
theorem dM6_place_56 : decode prog_8_method_16_code 56 = .ok (.invokevirtual 148, 3) := by decide +kernel
theorem dM6_place_59 : decode prog_8_method_16_code 59 = .ok (.goto 138, 3) := by decide +kernel
theorem dM6_place_62 : decode prog_8_method_16_code 62 = .ok (.iload_n 2, 1) := by decide +kernel
theorem dM6_place_63 : decode prog_8_method_16_code 63 = .ok (.aload_n 0, 1) := by decide +kernel
theorem dM6_place_64 : decode prog_8_method_16_code 64 = .ok (.getfield 98, 3) := by decide +kernel
theorem dM6_place_67 : decode prog_8_method_16_code 67 = .ok (.if_icmp .ge 12, 3) := by decide +kernel
theorem dM6_place_70 : decode prog_8_method_16_code 70 = .ok (.aload_n 0, 1) := by decide +kernel
theorem dM6_place_71 : decode prog_8_method_16_code 71 = .ok (.iload_n 2, 1) := by decide +kernel
theorem dM6_place_72 : decode prog_8_method_16_code 72 = .ok (.iload_n 1, 1) := by decide +kernel
theorem dM6_place_73 : decode prog_8_method_16_code 73 = .ok (.invokevirtual 124, 3) := by decide +kernel
theorem dM6_place_76 : decode prog_8_method_16_code 76 = .ok (.goto 121, 3) := by decide +kernel
theorem dM6_place_79 : decode prog_8_method_16_code 79 = .ok (.aload_n 0, 1) := by decide +kernel
theorem dM6_place_80 : decode prog_8_method_16_code 80 = .ok (.getfield 91, 3) := by decide +kernel
theorem dM6_place_83 : decode prog_8_method_16_code 83 = .ok (.aload_n 0, 1) := by decide +kernel
theorem dM6_place_84 : decode prog_8_method_16_code 84 = .ok (.getfield 79, 3) := by decide +kernel
theorem dM6_place_87 : decode prog_8_method_16_code 87 = .ok (.if_icmp .ge 11, 3) := by decide +kernel
theorem dM6_place_90 : decode prog_8_method_16_code 90 = .ok (.aload_n 0, 1) := by decide +kernel
theorem dM6_place_91 : decode prog_8_method_16_code 91 = .ok (.iload_n 1, 1) := by decide +kernel
theorem dM6_place_92 : decode prog_8_method_16_code 92 = .ok (.invokevirtual 151, 3) := by decide +kernel
theorem dM6_place_95 : decode prog_8_method_16_code 95 = .ok (.goto 102, 3) := by decide +kernel
theorem dM6_place_98 : decode prog_8_method_16_code 98 = .ok (.aload_n 0, 1) := by decide +kernel
theorem dM6_place_99 : decode prog_8_method_16_code 99 = .ok (.getfield 98, 3) := by decide +kernel
theorem dM6_place_102 : decode prog_8_method_16_code 102 = .ok (.aload_n 0, 1) := by decide +kernel
theorem dM6_place_103 : decode prog_8_method_16_code 103 = .ok (.getfield 76, 3) := by decide +kernel
theorem dM6_place_106 : decode prog_8_method_16_code 106 = .ok (.if_icmp .ge 11, 3) := by decide +kernel
theorem dM6_place_109 : decode prog_8_method_16_code 109 = .ok (.aload_n 0, 1) := by decide +kernel
theorem dM6_place_110 : decode prog_8_method_16_code 110 = .ok (.iload_n 1, 1) := by decide +kernel
theorem dM6_place_111 : decode prog_8_method_16_code 111 = .ok (.invokevirtual 148, 3) := by decide +kernel
theorem dM6_place_114 : decode prog_8_method_16_code 114 = .ok (.goto 83, 3) := by decide +kernel
theorem dM6_place_117 : decode prog_8_method_16_code 117 = .ok (.aload_n 0, 1) := by decide +kernel
theorem dM6_place_118 : decode prog_8_method_16_code 118 = .ok (.getfield 82, 3) := by decide +kernel
theorem dM6_place_121 : decode prog_8_method_16_code 121 = .ok (.ifCond .ne 14, 3) := by decide +kernel
theorem dM6_place_124 : decode prog_8_method_16_code 124 = .ok (.aload_n 0, 1) := by decide +kernel
theorem dM6_place_125 : decode prog_8_method_16_code 125 = .ok (.getfield 22, 3) := by decide +kernel
theorem dM6_place_128 : decode prog_8_method_16_code 128 = .ok (.iload_n 1, 1) := by decide +kernel
theorem dM6_place_129 : decode prog_8_method_16_code 129 = .ok (.bipush 6, 2) := by decide +kernel
theorem dM6_place_131 : decode prog_8_method_16_code 131 = .ok (.iastore, 1) := by decide +kernel
theorem dM6_place_132 : decode prog_8_method_16_code 132 = .ok (.goto 65, 3) := by decide +kernel
theorem dM6_place_135 : decode prog_8_method_16_code 135 = .ok (.aload_n 0, 1) := by decide +kernel
theorem dM6_place_136 : decode prog_8_method_16_code 136 = .ok (.getfield 82, 3) := by decide +kernel
theorem dM6_place_139 : decode prog_8_method_16_code 139 = .ok (.iconst 1, 1) := by decide +kernel
theorem dM6_place_140 : decode prog_8_method_16_code 140 = .ok (.if_icmp .eq 18, 3) := by decide +kernel
theorem dM6_place_143 : decode prog_8_method_16_code 143 = .ok (.aload_n 0, 1) := by decide +kernel
theorem dM6_place_144 : decode prog_8_method_16_code 144 = .ok (.getfield 82, 3) := by decide +kernel
theorem dM6_place_147 : decode prog_8_method_16_code 147 = .ok (.iconst 2, 1) := by decide +kernel
theorem dM6_place_148 : decode prog_8_method_16_code 148 = .ok (.if_icmp .ne 20, 3) := by decide +kernel
theorem dM6_place_151 : decode prog_8_method_16_code 151 = .ok (.aload_n 0, 1) := by decide +kernel
theorem dM6_place_152 : decode prog_8_method_16_code 152 = .ok (.getfield 91, 3) := by decide +kernel
theorem dM6_place_155 : decode prog_8_method_16_code 155 = .ok (.ifCond .ne 13, 3) := by decide +kernel
theorem dM6_place_158 : decode prog_8_method_16_code 158 = .ok (.aload_n 0, 1) := by decide +kernel
theorem dM6_place_159 : decode prog_8_method_16_code 159 = .ok (.getfield 22, 3) := by decide +kernel
theorem dM6_place_162 : decode prog_8_method_16_code 162 = .ok (.iload_n 1, 1) := by decide +kernel
theorem dM6_place_163 : decode prog_8_method_16_code 163 = .ok (.iconst 5, 1) := by decide +kernel
theorem dM6_place_164 : decode prog_8_method_16_code 164 = .ok (.iastore, 1) := by decide +kernel
theorem dM6_place_165 : decode prog_8_method_16_code 165 = .ok (.goto 32, 3) := by decide +kernel
theorem dM6_place_168 : decode prog_8_method_16_code 168 = .ok (.aload_n 0, 1) := by decide +kernel
theorem dM6_place_169 : decode prog_8_method_16_code 169 = .ok (.getfield 82, 3) := by decide +kernel
theorem dM6_place_172 : decode prog_8_method_16_code 172 = .ok (.iconst 2, 1) := by decide +kernel
theorem dM6_place_173 : decode prog_8_method_16_code 173 = .ok (.if_icmp .ne 22, 3) := by decide +kernel
theorem dM6_place_176 : decode prog_8_method_16_code 176 = .ok (.aload_n 0, 1) := by decide +kernel
theorem dM6_place_177 : decode prog_8_method_16_code 177 = .ok (.getfield 22, 3) := by decide +kernel
theorem dM6_place_180 : decode prog_8_method_16_code 180 = .ok (.aload_n 0, 1) := by decide +kernel
theorem dM6_place_181 : decode prog_8_method_16_code 181 = .ok (.iconst 0, 1) := by decide +kernel
theorem dM6_place_182 : decode prog_8_method_16_code 182 = .ok (.invokevirtual 138, 3) := by decide +kernel
theorem dM6_place_185 : decode prog_8_method_16_code 185 = .ok (.iconst 5, 1) := by decide +kernel
theorem dM6_place_186 : decode prog_8_method_16_code 186 = .ok (.iastore, 1) := by decide +kernel
theorem dM6_place_187 : decode prog_8_method_16_code 187 = .ok (.aload_n 0, 1) := by decide +kernel
theorem dM6_place_188 : decode prog_8_method_16_code 188 = .ok (.iload_n 1, 1) := by decide +kernel
theorem dM6_place_189 : decode prog_8_method_16_code 189 = .ok (.invokevirtual 151, 3) := by decide +kernel
theorem dM6_place_192 : decode prog_8_method_16_code 192 = .ok (.goto 5, 3) := by decide +kernel
theorem dM6_place_195 : decode prog_8_method_16_code 195 = .ok (.iconst 1, 1) := by decide +kernel
theorem dM6_place_196 : decode prog_8_method_16_code 196 = .ok (.ireturn, 1) := by decide +kernel
theorem dM6_place_197 : decode prog_8_method_16_code 197 = .ok (.iconst 0, 1) := by decide +kernel
theorem dM6_place_198 : decode prog_8_method_16_code 198 = .ok (.ireturn, 1) := by decide +kernel
def wpM6_place_2 (K : KM) (post : Int32 → gS → Prop) : Nat → Int32 → Int32 → gS → Prop
  | 0 => fun _ _ _ => False
  | n + 1 => fun l1 l2 u => (((sI u 3) ≤ l2 → ((((sI u 2) = 0 → ((((K 0) ≤ (sI u 3) → ((((sI u 3) ≤ l2 → ((((K 2) ≤ (sI u 6) → ((((K 1) ≤ (sI u 3) → (((¬ (K 3) = 0 → ((((K 3) = 1 → (vp_in l1 24 ∧ (∀ u9 : gS, u9 = tA u 4 l1.toNatClampNeg 5 → (narrow .boolean (.int 0) = .int 0 ∧ post 0 u9)))) ∧ (¬ (K 3) = 1 → (((¬ (K 3) = 2 → (((¬ (K 3) = 2 → (narrow .boolean (.int 1) = .int 1 ∧ post 1 u)) ∧ ((K 3) = 2 → (wpM6_dequeue K (fun (r12 : Int32) (u13 : gS) => vp_in r12 24 ∧ (∀ u14 : gS, u14 = tA u13 4 r12.toNatClampNeg 5 → (wpM6_enqueue K (fun (u16 : gS) => narrow .boolean (.int 0) = .int 0 ∧ post 0 u16) u14 l1))) u 0))))) ∧ ((K 3) = 2 → (((¬ (sI u 6) = 0 → (((¬ (K 3) = 2 → (narrow .boolean (.int 1) = .int 1 ∧ post 1 u)) ∧ ((K 3) = 2 → (wpM6_dequeue K (fun (r19 : Int32) (u20 : gS) => vp_in r19 24 ∧ (∀ u21 : gS, u21 = tA u20 4 r19.toNatClampNeg 5 → (wpM6_enqueue K (fun (u23 : gS) => narrow .boolean (.int 0) = .int 0 ∧ post 0 u23) u21 l1))) u 0))))) ∧ ((sI u 6) = 0 → (vp_in l1 24 ∧ (∀ u24 : gS, u24 = tA u 4 l1.toNatClampNeg 5 → (narrow .boolean (.int 0) = .int 0 ∧ post 0 u24))))))))))))) ∧ ((K 3) = 0 → (vp_in l1 24 ∧ (∀ u25 : gS, u25 = tA u 4 l1.toNatClampNeg 6 → (narrow .boolean (.int 0) = .int 0 ∧ post 0 u25))))))) ∧ (¬ (K 1) ≤ (sI u 3) → (wpM6_newWorker K (fun (u27 : gS) => narrow .boolean (.int 0) = .int 0 ∧ post 0 u27) u l1))))) ∧ (¬ (K 2) ≤ (sI u 6) → (wpM6_enqueue K (fun (u29 : gS) => narrow .boolean (.int 0) = .int 0 ∧ post 0 u29) u l1))))) ∧ (¬ (sI u 3) ≤ l2 → (wpM6_work K (fun (u31 : gS) => narrow .boolean (.int 0) = .int 0 ∧ post 0 u31) u l2 l1))))) ∧ (¬ (K 0) ≤ (sI u 3) → (wpM6_newWorker K (fun (u33 : gS) => narrow .boolean (.int 0) = .int 0 ∧ post 0 u33) u l1))))) ∧ (¬ (sI u 2) = 0 → (vp_in l1 24 ∧ (∀ u34 : gS, u34 = tA u 4 l1.toNatClampNeg 6 → (narrow .boolean (.int 0) = .int 0 ∧ post 0 u34))))))) ∧ (¬ (sI u 3) ≤ l2 → (vp_in l2 8 ∧ ((((sA u 9 l2.toNatClampNeg) < 0 → ((((sI u 2) = 0 → ((((K 0) ≤ (sI u 3) → ((((sI u 3) ≤ l2 → ((((K 2) ≤ (sI u 6) → ((((K 1) ≤ (sI u 3) → (((¬ (K 3) = 0 → ((((K 3) = 1 → (vp_in l1 24 ∧ (∀ u43 : gS, u43 = tA u 4 l1.toNatClampNeg 5 → (narrow .boolean (.int 0) = .int 0 ∧ post 0 u43)))) ∧ (¬ (K 3) = 1 → (((¬ (K 3) = 2 → (((¬ (K 3) = 2 → (narrow .boolean (.int 1) = .int 1 ∧ post 1 u)) ∧ ((K 3) = 2 → (wpM6_dequeue K (fun (r46 : Int32) (u47 : gS) => vp_in r46 24 ∧ (∀ u48 : gS, u48 = tA u47 4 r46.toNatClampNeg 5 → (wpM6_enqueue K (fun (u50 : gS) => narrow .boolean (.int 0) = .int 0 ∧ post 0 u50) u48 l1))) u 0))))) ∧ ((K 3) = 2 → (((¬ (sI u 6) = 0 → (((¬ (K 3) = 2 → (narrow .boolean (.int 1) = .int 1 ∧ post 1 u)) ∧ ((K 3) = 2 → (wpM6_dequeue K (fun (r53 : Int32) (u54 : gS) => vp_in r53 24 ∧ (∀ u55 : gS, u55 = tA u54 4 r53.toNatClampNeg 5 → (wpM6_enqueue K (fun (u57 : gS) => narrow .boolean (.int 0) = .int 0 ∧ post 0 u57) u55 l1))) u 0))))) ∧ ((sI u 6) = 0 → (vp_in l1 24 ∧ (∀ u58 : gS, u58 = tA u 4 l1.toNatClampNeg 5 → (narrow .boolean (.int 0) = .int 0 ∧ post 0 u58))))))))))))) ∧ ((K 3) = 0 → (vp_in l1 24 ∧ (∀ u59 : gS, u59 = tA u 4 l1.toNatClampNeg 6 → (narrow .boolean (.int 0) = .int 0 ∧ post 0 u59))))))) ∧ (¬ (K 1) ≤ (sI u 3) → (wpM6_newWorker K (fun (u61 : gS) => narrow .boolean (.int 0) = .int 0 ∧ post 0 u61) u l1))))) ∧ (¬ (K 2) ≤ (sI u 6) → (wpM6_enqueue K (fun (u63 : gS) => narrow .boolean (.int 0) = .int 0 ∧ post 0 u63) u l1))))) ∧ (¬ (sI u 3) ≤ l2 → (wpM6_work K (fun (u65 : gS) => narrow .boolean (.int 0) = .int 0 ∧ post 0 u65) u l2 l1))))) ∧ (¬ (K 0) ≤ (sI u 3) → (wpM6_newWorker K (fun (u67 : gS) => narrow .boolean (.int 0) = .int 0 ∧ post 0 u67) u l1))))) ∧ (¬ (sI u 2) = 0 → (vp_in l1 24 ∧ (∀ u68 : gS, u68 = tA u 4 l1.toNatClampNeg 6 → (narrow .boolean (.int 0) = .int 0 ∧ post 0 u68))))))) ∧ (¬ (sA u 9 l2.toNatClampNeg) < 0 → (∀ x69 : Int32, x69 = l2 + 1 → (wpM6_place_2 K post n l1 x69 u))))))))

def wpM6_place (K : KM) (post : Int32 → gS → Prop) (u : gS) (p1 : Int32) : Prop :=
  ∃ n2 : Nat, wpM6_place_2 K post n2 p1 0 u

set_option maxHeartbeats 8000000 in
set_option maxRecDepth 100000 in
theorem wpM6_place_2_ok {p : Program} {l : Launch} {e : Env} {s : State} {m : MethodId} {args : Array Value} {below : List Frame} {meth : Method} {c : Code} {dC : Nat → ClassId} {dI : Nat → Nat → Nat} {ad : Nat → Nat} {ca : Nat → ClassId} {K : KM} {A : Nat → Prop} {post : Int32 → gS → Prop}   (hx : p.tables.exec = Jvm.exec) (hb : c.code = prog_8_method_16_code) (hr : meth.sig.returnType = (some .boolean)) (hml : c.maxLocals = 3) (hown : s.vm.findClass RX6 = some m.cls) (hts : ∀ w ∈ gW, w.before args s = true) (hlocks : meth.locks = false) (hK : va_K (dC, dI) vwCl (mT ca) s) (hA : ∀ q, s.heap.size ≤ q → A q) (hE : mE A s s.heap) :
    ∀ (n : Nat) (l1 : Int32) (l2 : Int32) (u : gS) (H : Heap) (locs : List Loc) (ls : Array Slot), wpM6_place_2 K post n l1 l2 u → va_P (dC, dI) vwCl (wM ad ca K u) H → va_D A (wM ad ca K u) → va_S A s.heap H locs → lv_has ls 3 [(0, .ref (ad 0)), (1, .int l1), (2, .int l2)] → W p l e (headSpec (gw ⟨"WorkHallModel", "place", "(I)Z"⟩ prog_8_method_16_code 3 (some .boolean)) ({ frames := 3, cells := 0, slots := 0, locals := 120 } : Room)).room s m args below meth c H locs 0 0 (MQ below (va_Qi post (gAt (dC, dI) vwCl (mT ca) (wM ad ca K) (A)) (A)) args s 0 0 A) (F0 m 2 ls []) := by
  intro n
  induction n with
  | zero => exact fun _ _ _ _ _ _ h => h.elim
  | succ n ih =>
    intro l1 l2 u H locs ls h hP hD hS hl
    refine lv_iload_n hx hb dM6_place_2 rfl (lv_at hl 2 rfl) ?_
    refine lv_aload_n hx hb dM6_place_3 rfl (lv_at hl 0 rfl) ?_
    refine va_get (D := (dC, dI)) (ci := 6) (v := .int (sI u 3)) (C := RX6) (T := TX6) (N := 36) hx hb hts uwX6 hown hK hP 0 rfl rfl 19 (by decide) (hts _ wd_722) (fun _ h9 => h9) rfl dM6_place_4 ?_
    refine lv_icmp_ge (tgt := 25) hx hb dM6_place_7 (by decide) (fun c1 => ?_) (fun c1 => ?_)
    · have h := h.1 c1
      refine lv_aload_n hx hb dM6_place_25 rfl (lv_at hl 0 rfl) ?_
      refine va_get (D := (dC, dI)) (ci := 6) (v := .int (sI u 2)) (C := RX6) (T := TX6) (N := 36) hx hb hts uwX6 hown hK hP 0 rfl rfl 14 (by decide) (hts _ wd_717) (fun _ h9 => h9) rfl dM6_place_26 ?_
      refine lv_if_eq (tgt := 43) hx hb dM6_place_29 (by decide) (fun c2 => ?_) (fun c2 => ?_)
      · have h := h.1 c2
        refine lv_aload_n hx hb dM6_place_43 rfl (lv_at hl 0 rfl) ?_
        refine va_get (D := (dC, dI)) (ci := 6) (v := .int (sI u 3)) (C := RX6) (T := TX6) (N := 36) hx hb hts uwX6 hown hK hP 0 rfl rfl 19 (by decide) (hts _ wd_722) (fun _ h9 => h9) rfl dM6_place_44 ?_
        refine lv_aload_n hx hb dM6_place_47 rfl (lv_at hl 0 rfl) ?_
        refine va_get (D := (dC, dI)) (ci := 6) (v := .int (K 0)) (C := RX6) (T := TX6) (N := 36) hx hb hts uwX6 hown hK hP 0 rfl rfl 1 (by decide) (hts _ wd_704) (fun _ h9 => h9) rfl dM6_place_48 ?_
        refine lv_icmp_ge (tgt := 62) hx hb dM6_place_51 (by decide) (fun c3 => ?_) (fun c3 => ?_)
        · have h := h.1 c3
          refine lv_iload_n hx hb dM6_place_62 rfl (lv_at hl 2 rfl) ?_
          refine lv_aload_n hx hb dM6_place_63 rfl (lv_at hl 0 rfl) ?_
          refine va_get (D := (dC, dI)) (ci := 6) (v := .int (sI u 3)) (C := RX6) (T := TX6) (N := 36) hx hb hts uwX6 hown hK hP 0 rfl rfl 19 (by decide) (hts _ wd_722) (fun _ h9 => h9) rfl dM6_place_64 ?_
          refine lv_icmp_ge (tgt := 79) hx hb dM6_place_67 (by decide) (fun c4 => ?_) (fun c4 => ?_)
          · have h := h.1 c4
            refine lv_aload_n hx hb dM6_place_79 rfl (lv_at hl 0 rfl) ?_
            refine va_get (D := (dC, dI)) (ci := 6) (v := .int (sI u 6)) (C := RX6) (T := TX6) (N := 36) hx hb hts uwX6 hown hK hP 0 rfl rfl 24 (by decide) (hts _ wd_727) (fun _ h9 => h9) rfl dM6_place_80 ?_
            refine lv_aload_n hx hb dM6_place_83 rfl (lv_at hl 0 rfl) ?_
            refine va_get (D := (dC, dI)) (ci := 6) (v := .int (K 2)) (C := RX6) (T := TX6) (N := 36) hx hb hts uwX6 hown hK hP 0 rfl rfl 3 (by decide) (hts _ wd_706) (fun _ h9 => h9) rfl dM6_place_84 ?_
            refine lv_icmp_ge (tgt := 98) hx hb dM6_place_87 (by decide) (fun c5 => ?_) (fun c5 => ?_)
            · have h := h.1 c5
              refine lv_aload_n hx hb dM6_place_98 rfl (lv_at hl 0 rfl) ?_
              refine va_get (D := (dC, dI)) (ci := 6) (v := .int (sI u 3)) (C := RX6) (T := TX6) (N := 36) hx hb hts uwX6 hown hK hP 0 rfl rfl 19 (by decide) (hts _ wd_722) (fun _ h9 => h9) rfl dM6_place_99 ?_
              refine lv_aload_n hx hb dM6_place_102 rfl (lv_at hl 0 rfl) ?_
              refine va_get (D := (dC, dI)) (ci := 6) (v := .int (K 1)) (C := RX6) (T := TX6) (N := 36) hx hb hts uwX6 hown hK hP 0 rfl rfl 2 (by decide) (hts _ wd_705) (fun _ h9 => h9) rfl dM6_place_103 ?_
              refine lv_icmp_ge (tgt := 117) hx hb dM6_place_106 (by decide) (fun c6 => ?_) (fun c6 => ?_)
              · have h := h.1 c6
                refine lv_aload_n hx hb dM6_place_117 rfl (lv_at hl 0 rfl) ?_
                refine va_get (D := (dC, dI)) (ci := 6) (v := .int (K 3)) (C := RX6) (T := TX6) (N := 36) hx hb hts uwX6 hown hK hP 0 rfl rfl 4 (by decide) (hts _ wd_707) (fun _ h9 => h9) rfl dM6_place_118 ?_
                refine lv_if_ne (tgt := 135) hx hb dM6_place_121 (by decide) (fun c7 => ?_) (fun c7 => ?_)
                · have h := h.1 c7
                  refine lv_aload_n hx hb dM6_place_135 rfl (lv_at hl 0 rfl) ?_
                  refine va_get (D := (dC, dI)) (ci := 6) (v := .int (K 3)) (C := RX6) (T := TX6) (N := 36) hx hb hts uwX6 hown hK hP 0 rfl rfl 4 (by decide) (hts _ wd_707) (fun _ h9 => h9) rfl dM6_place_136 ?_
                  refine lv_iconst (v := 1) hx hb dM6_place_139 (by decide) ?_
                  refine lv_icmp_eq (tgt := 158) hx hb dM6_place_140 (by decide) (fun c8 => ?_) (fun c8 => ?_)
                  · have h := h.1 c8
                    refine lv_aload_n hx hb dM6_place_158 rfl (lv_at hl 0 rfl) ?_
                    refine va_get (D := (dC, dI)) (ci := 6) (v := .ref (ad 5)) (C := RX6) (T := TX6) (N := 36) hx hb hts uwX6 hown hK hP 0 rfl rfl 9 (by decide) (hts _ wd_712) (fun _ h9 => h9) rfl dM6_place_159 ?_
                    refine lv_iload_n hx hb dM6_place_162 rfl (lv_at hl 1 rfl) ?_
                    refine lv_iconst (v := 5) hx hb dM6_place_163 (by decide) ?_
                    refine va_iast hx hb hK hP hD hS 5 0 rfl rfl h.1 dM6_place_164 (fun H locs hP hD hS => ?_)
                    have h := h.2
                    obtain ⟨u9, eu9⟩ : ∃ z : gS, z = tA u 4 l1.toNatClampNeg 5 := ⟨_, rfl⟩
                    have hP : va_P (dC, dI) vwCl (wM ad ca K u9) H := by rw [eu9, wM_a5]; exact hP
                    have hD : va_D A (wM ad ca K u9) := by rw [eu9, wM_a5]; exact hD
                    have h := h u9 eu9
                    refine lv_goto (tgt := 197) hx hb dM6_place_165 (by decide) ?_
                    refine lv_iconst (v := 0) hx hb dM6_place_197 (by decide) ?_
                    exact gr_z (w := wM ad ca K) (u := u9) hx hb hr hlocks h.1 h.2 hP hK hD hS dM6_place_198
                  · have h := h.2 c8
                    refine lv_aload_n hx hb dM6_place_143 rfl (lv_at hl 0 rfl) ?_
                    refine va_get (D := (dC, dI)) (ci := 6) (v := .int (K 3)) (C := RX6) (T := TX6) (N := 36) hx hb hts uwX6 hown hK hP 0 rfl rfl 4 (by decide) (hts _ wd_707) (fun _ h9 => h9) rfl dM6_place_144 ?_
                    refine lv_iconst (v := 2) hx hb dM6_place_147 (by decide) ?_
                    refine lv_icmp_ne (tgt := 168) hx hb dM6_place_148 (by decide) (fun c10 => ?_) (fun c10 => ?_)
                    · have h := h.1 c10
                      refine lv_aload_n hx hb dM6_place_168 rfl (lv_at hl 0 rfl) ?_
                      refine va_get (D := (dC, dI)) (ci := 6) (v := .int (K 3)) (C := RX6) (T := TX6) (N := 36) hx hb hts uwX6 hown hK hP 0 rfl rfl 4 (by decide) (hts _ wd_707) (fun _ h9 => h9) rfl dM6_place_169 ?_
                      refine lv_iconst (v := 2) hx hb dM6_place_172 (by decide) ?_
                      refine lv_icmp_ne (tgt := 195) hx hb dM6_place_173 (by decide) (fun c11 => ?_) (fun c11 => ?_)
                      · have h := h.1 c11
                        refine lv_iconst (v := 1) hx hb dM6_place_195 (by decide) ?_
                        exact gr_z (w := wM ad ca K) (u := u) hx hb hr hlocks h.1 h.2 hP hK hD hS dM6_place_196
                      · have h := h.2 c11
                        refine lv_aload_n hx hb dM6_place_176 rfl (lv_at hl 0 rfl) ?_
                        refine va_get (D := (dC, dI)) (ci := 6) (v := .ref (ad 5)) (C := RX6) (T := TX6) (N := 36) hx hb hts uwX6 hown hK hP 0 rfl rfl 9 (by decide) (hts _ wd_712) (fun _ h9 => h9) rfl dM6_place_177 ?_
                        refine lv_aload_n hx hb dM6_place_180 rfl (lv_at hl 0 rfl) ?_
                        refine lv_iconst (v := 0) hx hb dM6_place_181 (by decide) ?_
                        refine gc_i (w := wM ad ca K) (u := u) (va_runV (As := [.int 0]) (rest := [.ref (ad 5)]) ⟨hx, hb, hml, hown, hts⟩ (cM6_dequeue l dC dI ad ca K H.size u 0 _ h) (cwV 1 hts (gG_V wd_861 wd_863 wd_26 wd_52 wd_864) rfl rfl rfl (by decide +kernel) ⟨Nat.le_of_ble_eq_true rfl, Nat.le_of_ble_eq_true rfl⟩) ⟨gB_blind mE_ok, va_recv hK hP (ci := 6) (q0 := 0) rfl rfl, gB_pre mE_ok hP hK hD hE hS hA⟩ rfl rfl hl.1 rfl (lv_room (Nat.le_of_ble_eq_true rfl)) dM6_place_182 ⟨Nat.le_of_ble_eq_true rfl, Nat.le_of_ble_eq_true rfl⟩) hD hS hA (fun r12 u13 H locs h hP hD hS => ?_)
                        refine lv_iconst (v := 5) hx hb dM6_place_185 (by decide) ?_
                        refine va_iast hx hb hK hP hD hS 5 0 rfl rfl h.1 dM6_place_186 (fun H locs hP hD hS => ?_)
                        have h := h.2
                        obtain ⟨u14, eu14⟩ : ∃ z : gS, z = tA u13 4 r12.toNatClampNeg 5 := ⟨_, rfl⟩
                        have hP : va_P (dC, dI) vwCl (wM ad ca K u14) H := by rw [eu14, wM_a5]; exact hP
                        have hD : va_D A (wM ad ca K u14) := by rw [eu14, wM_a5]; exact hD
                        have h := h u14 eu14
                        refine lv_aload_n hx hb dM6_place_187 rfl (lv_at hl 0 rfl) ?_
                        refine lv_iload_n hx hb dM6_place_188 rfl (lv_at hl 1 rfl) ?_
                        refine gc_v (w := wM ad ca K) (u := u14) (va_runV (As := [.int l1]) (rest := []) ⟨hx, hb, hml, hown, hts⟩ (cM6_enqueue l dC dI ad ca K H.size u14 l1 _ h) (cwV 1 hts (gG_V wd_857 wd_859 wd_25 wd_52 wd_860) rfl rfl rfl (by decide +kernel) ⟨Nat.le_of_ble_eq_true rfl, Nat.le_of_ble_eq_true rfl⟩) ⟨gB_blind mE_ok, va_recv hK hP (ci := 6) (q0 := 0) rfl rfl, gB_pre mE_ok hP hK hD hE hS hA⟩ rfl rfl hl.1 rfl (lv_room (Nat.le_of_ble_eq_true rfl)) dM6_place_189 ⟨Nat.le_of_ble_eq_true rfl, Nat.le_of_ble_eq_true rfl⟩) hD hS hA (fun u16 H locs h hP hD hS => ?_)
                        refine lv_goto (tgt := 197) hx hb dM6_place_192 (by decide) ?_
                        refine lv_iconst (v := 0) hx hb dM6_place_197 (by decide) ?_
                        exact gr_z (w := wM ad ca K) (u := u16) hx hb hr hlocks h.1 h.2 hP hK hD hS dM6_place_198
                    · have h := h.2 c10
                      refine lv_aload_n hx hb dM6_place_151 rfl (lv_at hl 0 rfl) ?_
                      refine va_get (D := (dC, dI)) (ci := 6) (v := .int (sI u 6)) (C := RX6) (T := TX6) (N := 36) hx hb hts uwX6 hown hK hP 0 rfl rfl 24 (by decide) (hts _ wd_727) (fun _ h9 => h9) rfl dM6_place_152 ?_
                      refine lv_if_ne (tgt := 168) hx hb dM6_place_155 (by decide) (fun c17 => ?_) (fun c17 => ?_)
                      · have h := h.1 c17
                        refine lv_aload_n hx hb dM6_place_168 rfl (lv_at hl 0 rfl) ?_
                        refine va_get (D := (dC, dI)) (ci := 6) (v := .int (K 3)) (C := RX6) (T := TX6) (N := 36) hx hb hts uwX6 hown hK hP 0 rfl rfl 4 (by decide) (hts _ wd_707) (fun _ h9 => h9) rfl dM6_place_169 ?_
                        refine lv_iconst (v := 2) hx hb dM6_place_172 (by decide) ?_
                        refine lv_icmp_ne (tgt := 195) hx hb dM6_place_173 (by decide) (fun c18 => ?_) (fun c18 => ?_)
                        · have h := h.1 c18
                          refine lv_iconst (v := 1) hx hb dM6_place_195 (by decide) ?_
                          exact gr_z (w := wM ad ca K) (u := u) hx hb hr hlocks h.1 h.2 hP hK hD hS dM6_place_196
                        · have h := h.2 c18
                          refine lv_aload_n hx hb dM6_place_176 rfl (lv_at hl 0 rfl) ?_
                          refine va_get (D := (dC, dI)) (ci := 6) (v := .ref (ad 5)) (C := RX6) (T := TX6) (N := 36) hx hb hts uwX6 hown hK hP 0 rfl rfl 9 (by decide) (hts _ wd_712) (fun _ h9 => h9) rfl dM6_place_177 ?_
                          refine lv_aload_n hx hb dM6_place_180 rfl (lv_at hl 0 rfl) ?_
                          refine lv_iconst (v := 0) hx hb dM6_place_181 (by decide) ?_
                          refine gc_i (w := wM ad ca K) (u := u) (va_runV (As := [.int 0]) (rest := [.ref (ad 5)]) ⟨hx, hb, hml, hown, hts⟩ (cM6_dequeue l dC dI ad ca K H.size u 0 _ h) (cwV 1 hts (gG_V wd_861 wd_863 wd_26 wd_52 wd_864) rfl rfl rfl (by decide +kernel) ⟨Nat.le_of_ble_eq_true rfl, Nat.le_of_ble_eq_true rfl⟩) ⟨gB_blind mE_ok, va_recv hK hP (ci := 6) (q0 := 0) rfl rfl, gB_pre mE_ok hP hK hD hE hS hA⟩ rfl rfl hl.1 rfl (lv_room (Nat.le_of_ble_eq_true rfl)) dM6_place_182 ⟨Nat.le_of_ble_eq_true rfl, Nat.le_of_ble_eq_true rfl⟩) hD hS hA (fun r19 u20 H locs h hP hD hS => ?_)
                          refine lv_iconst (v := 5) hx hb dM6_place_185 (by decide) ?_
                          refine va_iast hx hb hK hP hD hS 5 0 rfl rfl h.1 dM6_place_186 (fun H locs hP hD hS => ?_)
                          have h := h.2
                          obtain ⟨u21, eu21⟩ : ∃ z : gS, z = tA u20 4 r19.toNatClampNeg 5 := ⟨_, rfl⟩
                          have hP : va_P (dC, dI) vwCl (wM ad ca K u21) H := by rw [eu21, wM_a5]; exact hP
                          have hD : va_D A (wM ad ca K u21) := by rw [eu21, wM_a5]; exact hD
                          have h := h u21 eu21
                          refine lv_aload_n hx hb dM6_place_187 rfl (lv_at hl 0 rfl) ?_
                          refine lv_iload_n hx hb dM6_place_188 rfl (lv_at hl 1 rfl) ?_
                          refine gc_v (w := wM ad ca K) (u := u21) (va_runV (As := [.int l1]) (rest := []) ⟨hx, hb, hml, hown, hts⟩ (cM6_enqueue l dC dI ad ca K H.size u21 l1 _ h) (cwV 1 hts (gG_V wd_857 wd_859 wd_25 wd_52 wd_860) rfl rfl rfl (by decide +kernel) ⟨Nat.le_of_ble_eq_true rfl, Nat.le_of_ble_eq_true rfl⟩) ⟨gB_blind mE_ok, va_recv hK hP (ci := 6) (q0 := 0) rfl rfl, gB_pre mE_ok hP hK hD hE hS hA⟩ rfl rfl hl.1 rfl (lv_room (Nat.le_of_ble_eq_true rfl)) dM6_place_189 ⟨Nat.le_of_ble_eq_true rfl, Nat.le_of_ble_eq_true rfl⟩) hD hS hA (fun u23 H locs h hP hD hS => ?_)
                          refine lv_goto (tgt := 197) hx hb dM6_place_192 (by decide) ?_
                          refine lv_iconst (v := 0) hx hb dM6_place_197 (by decide) ?_
                          exact gr_z (w := wM ad ca K) (u := u23) hx hb hr hlocks h.1 h.2 hP hK hD hS dM6_place_198
                      · have h := h.2 c17
                        refine lv_aload_n hx hb dM6_place_158 rfl (lv_at hl 0 rfl) ?_
                        refine va_get (D := (dC, dI)) (ci := 6) (v := .ref (ad 5)) (C := RX6) (T := TX6) (N := 36) hx hb hts uwX6 hown hK hP 0 rfl rfl 9 (by decide) (hts _ wd_712) (fun _ h9 => h9) rfl dM6_place_159 ?_
                        refine lv_iload_n hx hb dM6_place_162 rfl (lv_at hl 1 rfl) ?_
                        refine lv_iconst (v := 5) hx hb dM6_place_163 (by decide) ?_
                        refine va_iast hx hb hK hP hD hS 5 0 rfl rfl h.1 dM6_place_164 (fun H locs hP hD hS => ?_)
                        have h := h.2
                        obtain ⟨u24, eu24⟩ : ∃ z : gS, z = tA u 4 l1.toNatClampNeg 5 := ⟨_, rfl⟩
                        have hP : va_P (dC, dI) vwCl (wM ad ca K u24) H := by rw [eu24, wM_a5]; exact hP
                        have hD : va_D A (wM ad ca K u24) := by rw [eu24, wM_a5]; exact hD
                        have h := h u24 eu24
                        refine lv_goto (tgt := 197) hx hb dM6_place_165 (by decide) ?_
                        refine lv_iconst (v := 0) hx hb dM6_place_197 (by decide) ?_
                        exact gr_z (w := wM ad ca K) (u := u24) hx hb hr hlocks h.1 h.2 hP hK hD hS dM6_place_198
                · have h := h.2 c7
                  refine lv_aload_n hx hb dM6_place_124 rfl (lv_at hl 0 rfl) ?_
                  refine va_get (D := (dC, dI)) (ci := 6) (v := .ref (ad 5)) (C := RX6) (T := TX6) (N := 36) hx hb hts uwX6 hown hK hP 0 rfl rfl 9 (by decide) (hts _ wd_712) (fun _ h9 => h9) rfl dM6_place_125 ?_
                  refine lv_iload_n hx hb dM6_place_128 rfl (lv_at hl 1 rfl) ?_
                  refine lv_bipush (v := 6) hx hb dM6_place_129 (by decide) ?_
                  refine va_iast hx hb hK hP hD hS 5 0 rfl rfl h.1 dM6_place_131 (fun H locs hP hD hS => ?_)
                  have h := h.2
                  obtain ⟨u25, eu25⟩ : ∃ z : gS, z = tA u 4 l1.toNatClampNeg 6 := ⟨_, rfl⟩
                  have hP : va_P (dC, dI) vwCl (wM ad ca K u25) H := by rw [eu25, wM_a5]; exact hP
                  have hD : va_D A (wM ad ca K u25) := by rw [eu25, wM_a5]; exact hD
                  have h := h u25 eu25
                  refine lv_goto (tgt := 197) hx hb dM6_place_132 (by decide) ?_
                  refine lv_iconst (v := 0) hx hb dM6_place_197 (by decide) ?_
                  exact gr_z (w := wM ad ca K) (u := u25) hx hb hr hlocks h.1 h.2 hP hK hD hS dM6_place_198
              · have h := h.2 c6
                refine lv_aload_n hx hb dM6_place_109 rfl (lv_at hl 0 rfl) ?_
                refine lv_iload_n hx hb dM6_place_110 rfl (lv_at hl 1 rfl) ?_
                refine gc_v (w := wM ad ca K) (u := u) (va_runV (As := [.int l1]) (rest := []) ⟨hx, hb, hml, hown, hts⟩ (cM6_newWorker l dC dI ad ca K H.size u l1 _ h) (cwV 1 hts (gG_V wd_849 wd_851 wd_23 wd_52 wd_852) rfl rfl rfl (by decide +kernel) ⟨Nat.le_of_ble_eq_true rfl, Nat.le_of_ble_eq_true rfl⟩) ⟨gB_blind mE_ok, va_recv hK hP (ci := 6) (q0 := 0) rfl rfl, gB_pre mE_ok hP hK hD hE hS hA⟩ rfl rfl hl.1 rfl (lv_room (Nat.le_of_ble_eq_true rfl)) dM6_place_111 ⟨Nat.le_of_ble_eq_true rfl, Nat.le_of_ble_eq_true rfl⟩) hD hS hA (fun u27 H locs h hP hD hS => ?_)
                refine lv_goto (tgt := 197) hx hb dM6_place_114 (by decide) ?_
                refine lv_iconst (v := 0) hx hb dM6_place_197 (by decide) ?_
                exact gr_z (w := wM ad ca K) (u := u27) hx hb hr hlocks h.1 h.2 hP hK hD hS dM6_place_198
            · have h := h.2 c5
              refine lv_aload_n hx hb dM6_place_90 rfl (lv_at hl 0 rfl) ?_
              refine lv_iload_n hx hb dM6_place_91 rfl (lv_at hl 1 rfl) ?_
              refine gc_v (w := wM ad ca K) (u := u) (va_runV (As := [.int l1]) (rest := []) ⟨hx, hb, hml, hown, hts⟩ (cM6_enqueue l dC dI ad ca K H.size u l1 _ h) (cwV 1 hts (gG_V wd_857 wd_859 wd_25 wd_52 wd_860) rfl rfl rfl (by decide +kernel) ⟨Nat.le_of_ble_eq_true rfl, Nat.le_of_ble_eq_true rfl⟩) ⟨gB_blind mE_ok, va_recv hK hP (ci := 6) (q0 := 0) rfl rfl, gB_pre mE_ok hP hK hD hE hS hA⟩ rfl rfl hl.1 rfl (lv_room (Nat.le_of_ble_eq_true rfl)) dM6_place_92 ⟨Nat.le_of_ble_eq_true rfl, Nat.le_of_ble_eq_true rfl⟩) hD hS hA (fun u29 H locs h hP hD hS => ?_)
              refine lv_goto (tgt := 197) hx hb dM6_place_95 (by decide) ?_
              refine lv_iconst (v := 0) hx hb dM6_place_197 (by decide) ?_
              exact gr_z (w := wM ad ca K) (u := u29) hx hb hr hlocks h.1 h.2 hP hK hD hS dM6_place_198
          · have h := h.2 c4
            refine lv_aload_n hx hb dM6_place_70 rfl (lv_at hl 0 rfl) ?_
            refine lv_iload_n hx hb dM6_place_71 rfl (lv_at hl 2 rfl) ?_
            refine lv_iload_n hx hb dM6_place_72 rfl (lv_at hl 1 rfl) ?_
            refine gc_v (w := wM ad ca K) (u := u) (va_runV (As := [.int l2, .int l1]) (rest := []) ⟨hx, hb, hml, hown, hts⟩ (cM6_work l dC dI ad ca K H.size u l2 l1 _ h) (cwV 2 hts (gG_V wd_853 wd_855 wd_24 wd_52 wd_856) rfl rfl rfl (by decide +kernel) ⟨Nat.le_of_ble_eq_true rfl, Nat.le_of_ble_eq_true rfl⟩) ⟨gB_blind mE_ok, va_recv hK hP (ci := 6) (q0 := 0) rfl rfl, gB_pre mE_ok hP hK hD hE hS hA⟩ rfl rfl hl.1 rfl (lv_room (Nat.le_of_ble_eq_true rfl)) dM6_place_73 ⟨Nat.le_of_ble_eq_true rfl, Nat.le_of_ble_eq_true rfl⟩) hD hS hA (fun u31 H locs h hP hD hS => ?_)
            refine lv_goto (tgt := 197) hx hb dM6_place_76 (by decide) ?_
            refine lv_iconst (v := 0) hx hb dM6_place_197 (by decide) ?_
            exact gr_z (w := wM ad ca K) (u := u31) hx hb hr hlocks h.1 h.2 hP hK hD hS dM6_place_198
        · have h := h.2 c3
          refine lv_aload_n hx hb dM6_place_54 rfl (lv_at hl 0 rfl) ?_
          refine lv_iload_n hx hb dM6_place_55 rfl (lv_at hl 1 rfl) ?_
          refine gc_v (w := wM ad ca K) (u := u) (va_runV (As := [.int l1]) (rest := []) ⟨hx, hb, hml, hown, hts⟩ (cM6_newWorker l dC dI ad ca K H.size u l1 _ h) (cwV 1 hts (gG_V wd_849 wd_851 wd_23 wd_52 wd_852) rfl rfl rfl (by decide +kernel) ⟨Nat.le_of_ble_eq_true rfl, Nat.le_of_ble_eq_true rfl⟩) ⟨gB_blind mE_ok, va_recv hK hP (ci := 6) (q0 := 0) rfl rfl, gB_pre mE_ok hP hK hD hE hS hA⟩ rfl rfl hl.1 rfl (lv_room (Nat.le_of_ble_eq_true rfl)) dM6_place_56 ⟨Nat.le_of_ble_eq_true rfl, Nat.le_of_ble_eq_true rfl⟩) hD hS hA (fun u33 H locs h hP hD hS => ?_)
          refine lv_goto (tgt := 197) hx hb dM6_place_59 (by decide) ?_
          refine lv_iconst (v := 0) hx hb dM6_place_197 (by decide) ?_
          exact gr_z (w := wM ad ca K) (u := u33) hx hb hr hlocks h.1 h.2 hP hK hD hS dM6_place_198
      · have h := h.2 c2
        refine lv_aload_n hx hb dM6_place_32 rfl (lv_at hl 0 rfl) ?_
        refine va_get (D := (dC, dI)) (ci := 6) (v := .ref (ad 5)) (C := RX6) (T := TX6) (N := 36) hx hb hts uwX6 hown hK hP 0 rfl rfl 9 (by decide) (hts _ wd_712) (fun _ h9 => h9) rfl dM6_place_33 ?_
        refine lv_iload_n hx hb dM6_place_36 rfl (lv_at hl 1 rfl) ?_
        refine lv_bipush (v := 6) hx hb dM6_place_37 (by decide) ?_
        refine va_iast hx hb hK hP hD hS 5 0 rfl rfl h.1 dM6_place_39 (fun H locs hP hD hS => ?_)
        have h := h.2
        obtain ⟨u34, eu34⟩ : ∃ z : gS, z = tA u 4 l1.toNatClampNeg 6 := ⟨_, rfl⟩
        have hP : va_P (dC, dI) vwCl (wM ad ca K u34) H := by rw [eu34, wM_a5]; exact hP
        have hD : va_D A (wM ad ca K u34) := by rw [eu34, wM_a5]; exact hD
        have h := h u34 eu34
        refine lv_goto (tgt := 197) hx hb dM6_place_40 (by decide) ?_
        refine lv_iconst (v := 0) hx hb dM6_place_197 (by decide) ?_
        exact gr_z (w := wM ad ca K) (u := u34) hx hb hr hlocks h.1 h.2 hP hK hD hS dM6_place_198
    · have h := h.2 c1
      refine lv_aload_n hx hb dM6_place_10 rfl (lv_at hl 0 rfl) ?_
      refine va_get (D := (dC, dI)) (ci := 6) (v := .ref (ad 10)) (C := RX6) (T := TX6) (N := 36) hx hb hts uwX6 hown hK hP 0 rfl rfl 16 (by decide) (hts _ wd_719) (fun _ h9 => h9) rfl dM6_place_11 ?_
      refine lv_iload_n hx hb dM6_place_14 rfl (lv_at hl 2 rfl) ?_
      refine va_iald hx hb hK hP 10 0 rfl rfl h.1 dM6_place_15 ?_
      have h := h.2
      refine lv_if_lt (tgt := 25) hx hb dM6_place_16 (by decide) (fun c35 => ?_) (fun c35 => ?_)
      · have h := h.1 c35
        refine lv_aload_n hx hb dM6_place_25 rfl (lv_at hl 0 rfl) ?_
        refine va_get (D := (dC, dI)) (ci := 6) (v := .int (sI u 2)) (C := RX6) (T := TX6) (N := 36) hx hb hts uwX6 hown hK hP 0 rfl rfl 14 (by decide) (hts _ wd_717) (fun _ h9 => h9) rfl dM6_place_26 ?_
        refine lv_if_eq (tgt := 43) hx hb dM6_place_29 (by decide) (fun c36 => ?_) (fun c36 => ?_)
        · have h := h.1 c36
          refine lv_aload_n hx hb dM6_place_43 rfl (lv_at hl 0 rfl) ?_
          refine va_get (D := (dC, dI)) (ci := 6) (v := .int (sI u 3)) (C := RX6) (T := TX6) (N := 36) hx hb hts uwX6 hown hK hP 0 rfl rfl 19 (by decide) (hts _ wd_722) (fun _ h9 => h9) rfl dM6_place_44 ?_
          refine lv_aload_n hx hb dM6_place_47 rfl (lv_at hl 0 rfl) ?_
          refine va_get (D := (dC, dI)) (ci := 6) (v := .int (K 0)) (C := RX6) (T := TX6) (N := 36) hx hb hts uwX6 hown hK hP 0 rfl rfl 1 (by decide) (hts _ wd_704) (fun _ h9 => h9) rfl dM6_place_48 ?_
          refine lv_icmp_ge (tgt := 62) hx hb dM6_place_51 (by decide) (fun c37 => ?_) (fun c37 => ?_)
          · have h := h.1 c37
            refine lv_iload_n hx hb dM6_place_62 rfl (lv_at hl 2 rfl) ?_
            refine lv_aload_n hx hb dM6_place_63 rfl (lv_at hl 0 rfl) ?_
            refine va_get (D := (dC, dI)) (ci := 6) (v := .int (sI u 3)) (C := RX6) (T := TX6) (N := 36) hx hb hts uwX6 hown hK hP 0 rfl rfl 19 (by decide) (hts _ wd_722) (fun _ h9 => h9) rfl dM6_place_64 ?_
            refine lv_icmp_ge (tgt := 79) hx hb dM6_place_67 (by decide) (fun c38 => ?_) (fun c38 => ?_)
            · have h := h.1 c38
              refine lv_aload_n hx hb dM6_place_79 rfl (lv_at hl 0 rfl) ?_
              refine va_get (D := (dC, dI)) (ci := 6) (v := .int (sI u 6)) (C := RX6) (T := TX6) (N := 36) hx hb hts uwX6 hown hK hP 0 rfl rfl 24 (by decide) (hts _ wd_727) (fun _ h9 => h9) rfl dM6_place_80 ?_
              refine lv_aload_n hx hb dM6_place_83 rfl (lv_at hl 0 rfl) ?_
              refine va_get (D := (dC, dI)) (ci := 6) (v := .int (K 2)) (C := RX6) (T := TX6) (N := 36) hx hb hts uwX6 hown hK hP 0 rfl rfl 3 (by decide) (hts _ wd_706) (fun _ h9 => h9) rfl dM6_place_84 ?_
              refine lv_icmp_ge (tgt := 98) hx hb dM6_place_87 (by decide) (fun c39 => ?_) (fun c39 => ?_)
              · have h := h.1 c39
                refine lv_aload_n hx hb dM6_place_98 rfl (lv_at hl 0 rfl) ?_
                refine va_get (D := (dC, dI)) (ci := 6) (v := .int (sI u 3)) (C := RX6) (T := TX6) (N := 36) hx hb hts uwX6 hown hK hP 0 rfl rfl 19 (by decide) (hts _ wd_722) (fun _ h9 => h9) rfl dM6_place_99 ?_
                refine lv_aload_n hx hb dM6_place_102 rfl (lv_at hl 0 rfl) ?_
                refine va_get (D := (dC, dI)) (ci := 6) (v := .int (K 1)) (C := RX6) (T := TX6) (N := 36) hx hb hts uwX6 hown hK hP 0 rfl rfl 2 (by decide) (hts _ wd_705) (fun _ h9 => h9) rfl dM6_place_103 ?_
                refine lv_icmp_ge (tgt := 117) hx hb dM6_place_106 (by decide) (fun c40 => ?_) (fun c40 => ?_)
                · have h := h.1 c40
                  refine lv_aload_n hx hb dM6_place_117 rfl (lv_at hl 0 rfl) ?_
                  refine va_get (D := (dC, dI)) (ci := 6) (v := .int (K 3)) (C := RX6) (T := TX6) (N := 36) hx hb hts uwX6 hown hK hP 0 rfl rfl 4 (by decide) (hts _ wd_707) (fun _ h9 => h9) rfl dM6_place_118 ?_
                  refine lv_if_ne (tgt := 135) hx hb dM6_place_121 (by decide) (fun c41 => ?_) (fun c41 => ?_)
                  · have h := h.1 c41
                    refine lv_aload_n hx hb dM6_place_135 rfl (lv_at hl 0 rfl) ?_
                    refine va_get (D := (dC, dI)) (ci := 6) (v := .int (K 3)) (C := RX6) (T := TX6) (N := 36) hx hb hts uwX6 hown hK hP 0 rfl rfl 4 (by decide) (hts _ wd_707) (fun _ h9 => h9) rfl dM6_place_136 ?_
                    refine lv_iconst (v := 1) hx hb dM6_place_139 (by decide) ?_
                    refine lv_icmp_eq (tgt := 158) hx hb dM6_place_140 (by decide) (fun c42 => ?_) (fun c42 => ?_)
                    · have h := h.1 c42
                      refine lv_aload_n hx hb dM6_place_158 rfl (lv_at hl 0 rfl) ?_
                      refine va_get (D := (dC, dI)) (ci := 6) (v := .ref (ad 5)) (C := RX6) (T := TX6) (N := 36) hx hb hts uwX6 hown hK hP 0 rfl rfl 9 (by decide) (hts _ wd_712) (fun _ h9 => h9) rfl dM6_place_159 ?_
                      refine lv_iload_n hx hb dM6_place_162 rfl (lv_at hl 1 rfl) ?_
                      refine lv_iconst (v := 5) hx hb dM6_place_163 (by decide) ?_
                      refine va_iast hx hb hK hP hD hS 5 0 rfl rfl h.1 dM6_place_164 (fun H locs hP hD hS => ?_)
                      have h := h.2
                      obtain ⟨u43, eu43⟩ : ∃ z : gS, z = tA u 4 l1.toNatClampNeg 5 := ⟨_, rfl⟩
                      have hP : va_P (dC, dI) vwCl (wM ad ca K u43) H := by rw [eu43, wM_a5]; exact hP
                      have hD : va_D A (wM ad ca K u43) := by rw [eu43, wM_a5]; exact hD
                      have h := h u43 eu43
                      refine lv_goto (tgt := 197) hx hb dM6_place_165 (by decide) ?_
                      refine lv_iconst (v := 0) hx hb dM6_place_197 (by decide) ?_
                      exact gr_z (w := wM ad ca K) (u := u43) hx hb hr hlocks h.1 h.2 hP hK hD hS dM6_place_198
                    · have h := h.2 c42
                      refine lv_aload_n hx hb dM6_place_143 rfl (lv_at hl 0 rfl) ?_
                      refine va_get (D := (dC, dI)) (ci := 6) (v := .int (K 3)) (C := RX6) (T := TX6) (N := 36) hx hb hts uwX6 hown hK hP 0 rfl rfl 4 (by decide) (hts _ wd_707) (fun _ h9 => h9) rfl dM6_place_144 ?_
                      refine lv_iconst (v := 2) hx hb dM6_place_147 (by decide) ?_
                      refine lv_icmp_ne (tgt := 168) hx hb dM6_place_148 (by decide) (fun c44 => ?_) (fun c44 => ?_)
                      · have h := h.1 c44
                        refine lv_aload_n hx hb dM6_place_168 rfl (lv_at hl 0 rfl) ?_
                        refine va_get (D := (dC, dI)) (ci := 6) (v := .int (K 3)) (C := RX6) (T := TX6) (N := 36) hx hb hts uwX6 hown hK hP 0 rfl rfl 4 (by decide) (hts _ wd_707) (fun _ h9 => h9) rfl dM6_place_169 ?_
                        refine lv_iconst (v := 2) hx hb dM6_place_172 (by decide) ?_
                        refine lv_icmp_ne (tgt := 195) hx hb dM6_place_173 (by decide) (fun c45 => ?_) (fun c45 => ?_)
                        · have h := h.1 c45
                          refine lv_iconst (v := 1) hx hb dM6_place_195 (by decide) ?_
                          exact gr_z (w := wM ad ca K) (u := u) hx hb hr hlocks h.1 h.2 hP hK hD hS dM6_place_196
                        · have h := h.2 c45
                          refine lv_aload_n hx hb dM6_place_176 rfl (lv_at hl 0 rfl) ?_
                          refine va_get (D := (dC, dI)) (ci := 6) (v := .ref (ad 5)) (C := RX6) (T := TX6) (N := 36) hx hb hts uwX6 hown hK hP 0 rfl rfl 9 (by decide) (hts _ wd_712) (fun _ h9 => h9) rfl dM6_place_177 ?_
                          refine lv_aload_n hx hb dM6_place_180 rfl (lv_at hl 0 rfl) ?_
                          refine lv_iconst (v := 0) hx hb dM6_place_181 (by decide) ?_
                          refine gc_i (w := wM ad ca K) (u := u) (va_runV (As := [.int 0]) (rest := [.ref (ad 5)]) ⟨hx, hb, hml, hown, hts⟩ (cM6_dequeue l dC dI ad ca K H.size u 0 _ h) (cwV 1 hts (gG_V wd_861 wd_863 wd_26 wd_52 wd_864) rfl rfl rfl (by decide +kernel) ⟨Nat.le_of_ble_eq_true rfl, Nat.le_of_ble_eq_true rfl⟩) ⟨gB_blind mE_ok, va_recv hK hP (ci := 6) (q0 := 0) rfl rfl, gB_pre mE_ok hP hK hD hE hS hA⟩ rfl rfl hl.1 rfl (lv_room (Nat.le_of_ble_eq_true rfl)) dM6_place_182 ⟨Nat.le_of_ble_eq_true rfl, Nat.le_of_ble_eq_true rfl⟩) hD hS hA (fun r46 u47 H locs h hP hD hS => ?_)
                          refine lv_iconst (v := 5) hx hb dM6_place_185 (by decide) ?_
                          refine va_iast hx hb hK hP hD hS 5 0 rfl rfl h.1 dM6_place_186 (fun H locs hP hD hS => ?_)
                          have h := h.2
                          obtain ⟨u48, eu48⟩ : ∃ z : gS, z = tA u47 4 r46.toNatClampNeg 5 := ⟨_, rfl⟩
                          have hP : va_P (dC, dI) vwCl (wM ad ca K u48) H := by rw [eu48, wM_a5]; exact hP
                          have hD : va_D A (wM ad ca K u48) := by rw [eu48, wM_a5]; exact hD
                          have h := h u48 eu48
                          refine lv_aload_n hx hb dM6_place_187 rfl (lv_at hl 0 rfl) ?_
                          refine lv_iload_n hx hb dM6_place_188 rfl (lv_at hl 1 rfl) ?_
                          refine gc_v (w := wM ad ca K) (u := u48) (va_runV (As := [.int l1]) (rest := []) ⟨hx, hb, hml, hown, hts⟩ (cM6_enqueue l dC dI ad ca K H.size u48 l1 _ h) (cwV 1 hts (gG_V wd_857 wd_859 wd_25 wd_52 wd_860) rfl rfl rfl (by decide +kernel) ⟨Nat.le_of_ble_eq_true rfl, Nat.le_of_ble_eq_true rfl⟩) ⟨gB_blind mE_ok, va_recv hK hP (ci := 6) (q0 := 0) rfl rfl, gB_pre mE_ok hP hK hD hE hS hA⟩ rfl rfl hl.1 rfl (lv_room (Nat.le_of_ble_eq_true rfl)) dM6_place_189 ⟨Nat.le_of_ble_eq_true rfl, Nat.le_of_ble_eq_true rfl⟩) hD hS hA (fun u50 H locs h hP hD hS => ?_)
                          refine lv_goto (tgt := 197) hx hb dM6_place_192 (by decide) ?_
                          refine lv_iconst (v := 0) hx hb dM6_place_197 (by decide) ?_
                          exact gr_z (w := wM ad ca K) (u := u50) hx hb hr hlocks h.1 h.2 hP hK hD hS dM6_place_198
                      · have h := h.2 c44
                        refine lv_aload_n hx hb dM6_place_151 rfl (lv_at hl 0 rfl) ?_
                        refine va_get (D := (dC, dI)) (ci := 6) (v := .int (sI u 6)) (C := RX6) (T := TX6) (N := 36) hx hb hts uwX6 hown hK hP 0 rfl rfl 24 (by decide) (hts _ wd_727) (fun _ h9 => h9) rfl dM6_place_152 ?_
                        refine lv_if_ne (tgt := 168) hx hb dM6_place_155 (by decide) (fun c51 => ?_) (fun c51 => ?_)
                        · have h := h.1 c51
                          refine lv_aload_n hx hb dM6_place_168 rfl (lv_at hl 0 rfl) ?_
                          refine va_get (D := (dC, dI)) (ci := 6) (v := .int (K 3)) (C := RX6) (T := TX6) (N := 36) hx hb hts uwX6 hown hK hP 0 rfl rfl 4 (by decide) (hts _ wd_707) (fun _ h9 => h9) rfl dM6_place_169 ?_
                          refine lv_iconst (v := 2) hx hb dM6_place_172 (by decide) ?_
                          refine lv_icmp_ne (tgt := 195) hx hb dM6_place_173 (by decide) (fun c52 => ?_) (fun c52 => ?_)
                          · have h := h.1 c52
                            refine lv_iconst (v := 1) hx hb dM6_place_195 (by decide) ?_
                            exact gr_z (w := wM ad ca K) (u := u) hx hb hr hlocks h.1 h.2 hP hK hD hS dM6_place_196
                          · have h := h.2 c52
                            refine lv_aload_n hx hb dM6_place_176 rfl (lv_at hl 0 rfl) ?_
                            refine va_get (D := (dC, dI)) (ci := 6) (v := .ref (ad 5)) (C := RX6) (T := TX6) (N := 36) hx hb hts uwX6 hown hK hP 0 rfl rfl 9 (by decide) (hts _ wd_712) (fun _ h9 => h9) rfl dM6_place_177 ?_
                            refine lv_aload_n hx hb dM6_place_180 rfl (lv_at hl 0 rfl) ?_
                            refine lv_iconst (v := 0) hx hb dM6_place_181 (by decide) ?_
                            refine gc_i (w := wM ad ca K) (u := u) (va_runV (As := [.int 0]) (rest := [.ref (ad 5)]) ⟨hx, hb, hml, hown, hts⟩ (cM6_dequeue l dC dI ad ca K H.size u 0 _ h) (cwV 1 hts (gG_V wd_861 wd_863 wd_26 wd_52 wd_864) rfl rfl rfl (by decide +kernel) ⟨Nat.le_of_ble_eq_true rfl, Nat.le_of_ble_eq_true rfl⟩) ⟨gB_blind mE_ok, va_recv hK hP (ci := 6) (q0 := 0) rfl rfl, gB_pre mE_ok hP hK hD hE hS hA⟩ rfl rfl hl.1 rfl (lv_room (Nat.le_of_ble_eq_true rfl)) dM6_place_182 ⟨Nat.le_of_ble_eq_true rfl, Nat.le_of_ble_eq_true rfl⟩) hD hS hA (fun r53 u54 H locs h hP hD hS => ?_)
                            refine lv_iconst (v := 5) hx hb dM6_place_185 (by decide) ?_
                            refine va_iast hx hb hK hP hD hS 5 0 rfl rfl h.1 dM6_place_186 (fun H locs hP hD hS => ?_)
                            have h := h.2
                            obtain ⟨u55, eu55⟩ : ∃ z : gS, z = tA u54 4 r53.toNatClampNeg 5 := ⟨_, rfl⟩
                            have hP : va_P (dC, dI) vwCl (wM ad ca K u55) H := by rw [eu55, wM_a5]; exact hP
                            have hD : va_D A (wM ad ca K u55) := by rw [eu55, wM_a5]; exact hD
                            have h := h u55 eu55
                            refine lv_aload_n hx hb dM6_place_187 rfl (lv_at hl 0 rfl) ?_
                            refine lv_iload_n hx hb dM6_place_188 rfl (lv_at hl 1 rfl) ?_
                            refine gc_v (w := wM ad ca K) (u := u55) (va_runV (As := [.int l1]) (rest := []) ⟨hx, hb, hml, hown, hts⟩ (cM6_enqueue l dC dI ad ca K H.size u55 l1 _ h) (cwV 1 hts (gG_V wd_857 wd_859 wd_25 wd_52 wd_860) rfl rfl rfl (by decide +kernel) ⟨Nat.le_of_ble_eq_true rfl, Nat.le_of_ble_eq_true rfl⟩) ⟨gB_blind mE_ok, va_recv hK hP (ci := 6) (q0 := 0) rfl rfl, gB_pre mE_ok hP hK hD hE hS hA⟩ rfl rfl hl.1 rfl (lv_room (Nat.le_of_ble_eq_true rfl)) dM6_place_189 ⟨Nat.le_of_ble_eq_true rfl, Nat.le_of_ble_eq_true rfl⟩) hD hS hA (fun u57 H locs h hP hD hS => ?_)
                            refine lv_goto (tgt := 197) hx hb dM6_place_192 (by decide) ?_
                            refine lv_iconst (v := 0) hx hb dM6_place_197 (by decide) ?_
                            exact gr_z (w := wM ad ca K) (u := u57) hx hb hr hlocks h.1 h.2 hP hK hD hS dM6_place_198
                        · have h := h.2 c51
                          refine lv_aload_n hx hb dM6_place_158 rfl (lv_at hl 0 rfl) ?_
                          refine va_get (D := (dC, dI)) (ci := 6) (v := .ref (ad 5)) (C := RX6) (T := TX6) (N := 36) hx hb hts uwX6 hown hK hP 0 rfl rfl 9 (by decide) (hts _ wd_712) (fun _ h9 => h9) rfl dM6_place_159 ?_
                          refine lv_iload_n hx hb dM6_place_162 rfl (lv_at hl 1 rfl) ?_
                          refine lv_iconst (v := 5) hx hb dM6_place_163 (by decide) ?_
                          refine va_iast hx hb hK hP hD hS 5 0 rfl rfl h.1 dM6_place_164 (fun H locs hP hD hS => ?_)
                          have h := h.2
                          obtain ⟨u58, eu58⟩ : ∃ z : gS, z = tA u 4 l1.toNatClampNeg 5 := ⟨_, rfl⟩
                          have hP : va_P (dC, dI) vwCl (wM ad ca K u58) H := by rw [eu58, wM_a5]; exact hP
                          have hD : va_D A (wM ad ca K u58) := by rw [eu58, wM_a5]; exact hD
                          have h := h u58 eu58
                          refine lv_goto (tgt := 197) hx hb dM6_place_165 (by decide) ?_
                          refine lv_iconst (v := 0) hx hb dM6_place_197 (by decide) ?_
                          exact gr_z (w := wM ad ca K) (u := u58) hx hb hr hlocks h.1 h.2 hP hK hD hS dM6_place_198
                  · have h := h.2 c41
                    refine lv_aload_n hx hb dM6_place_124 rfl (lv_at hl 0 rfl) ?_
                    refine va_get (D := (dC, dI)) (ci := 6) (v := .ref (ad 5)) (C := RX6) (T := TX6) (N := 36) hx hb hts uwX6 hown hK hP 0 rfl rfl 9 (by decide) (hts _ wd_712) (fun _ h9 => h9) rfl dM6_place_125 ?_
                    refine lv_iload_n hx hb dM6_place_128 rfl (lv_at hl 1 rfl) ?_
                    refine lv_bipush (v := 6) hx hb dM6_place_129 (by decide) ?_
                    refine va_iast hx hb hK hP hD hS 5 0 rfl rfl h.1 dM6_place_131 (fun H locs hP hD hS => ?_)
                    have h := h.2
                    obtain ⟨u59, eu59⟩ : ∃ z : gS, z = tA u 4 l1.toNatClampNeg 6 := ⟨_, rfl⟩
                    have hP : va_P (dC, dI) vwCl (wM ad ca K u59) H := by rw [eu59, wM_a5]; exact hP
                    have hD : va_D A (wM ad ca K u59) := by rw [eu59, wM_a5]; exact hD
                    have h := h u59 eu59
                    refine lv_goto (tgt := 197) hx hb dM6_place_132 (by decide) ?_
                    refine lv_iconst (v := 0) hx hb dM6_place_197 (by decide) ?_
                    exact gr_z (w := wM ad ca K) (u := u59) hx hb hr hlocks h.1 h.2 hP hK hD hS dM6_place_198
                · have h := h.2 c40
                  refine lv_aload_n hx hb dM6_place_109 rfl (lv_at hl 0 rfl) ?_
                  refine lv_iload_n hx hb dM6_place_110 rfl (lv_at hl 1 rfl) ?_
                  refine gc_v (w := wM ad ca K) (u := u) (va_runV (As := [.int l1]) (rest := []) ⟨hx, hb, hml, hown, hts⟩ (cM6_newWorker l dC dI ad ca K H.size u l1 _ h) (cwV 1 hts (gG_V wd_849 wd_851 wd_23 wd_52 wd_852) rfl rfl rfl (by decide +kernel) ⟨Nat.le_of_ble_eq_true rfl, Nat.le_of_ble_eq_true rfl⟩) ⟨gB_blind mE_ok, va_recv hK hP (ci := 6) (q0 := 0) rfl rfl, gB_pre mE_ok hP hK hD hE hS hA⟩ rfl rfl hl.1 rfl (lv_room (Nat.le_of_ble_eq_true rfl)) dM6_place_111 ⟨Nat.le_of_ble_eq_true rfl, Nat.le_of_ble_eq_true rfl⟩) hD hS hA (fun u61 H locs h hP hD hS => ?_)
                  refine lv_goto (tgt := 197) hx hb dM6_place_114 (by decide) ?_
                  refine lv_iconst (v := 0) hx hb dM6_place_197 (by decide) ?_
                  exact gr_z (w := wM ad ca K) (u := u61) hx hb hr hlocks h.1 h.2 hP hK hD hS dM6_place_198
              · have h := h.2 c39
                refine lv_aload_n hx hb dM6_place_90 rfl (lv_at hl 0 rfl) ?_
                refine lv_iload_n hx hb dM6_place_91 rfl (lv_at hl 1 rfl) ?_
                refine gc_v (w := wM ad ca K) (u := u) (va_runV (As := [.int l1]) (rest := []) ⟨hx, hb, hml, hown, hts⟩ (cM6_enqueue l dC dI ad ca K H.size u l1 _ h) (cwV 1 hts (gG_V wd_857 wd_859 wd_25 wd_52 wd_860) rfl rfl rfl (by decide +kernel) ⟨Nat.le_of_ble_eq_true rfl, Nat.le_of_ble_eq_true rfl⟩) ⟨gB_blind mE_ok, va_recv hK hP (ci := 6) (q0 := 0) rfl rfl, gB_pre mE_ok hP hK hD hE hS hA⟩ rfl rfl hl.1 rfl (lv_room (Nat.le_of_ble_eq_true rfl)) dM6_place_92 ⟨Nat.le_of_ble_eq_true rfl, Nat.le_of_ble_eq_true rfl⟩) hD hS hA (fun u63 H locs h hP hD hS => ?_)
                refine lv_goto (tgt := 197) hx hb dM6_place_95 (by decide) ?_
                refine lv_iconst (v := 0) hx hb dM6_place_197 (by decide) ?_
                exact gr_z (w := wM ad ca K) (u := u63) hx hb hr hlocks h.1 h.2 hP hK hD hS dM6_place_198
            · have h := h.2 c38
              refine lv_aload_n hx hb dM6_place_70 rfl (lv_at hl 0 rfl) ?_
              refine lv_iload_n hx hb dM6_place_71 rfl (lv_at hl 2 rfl) ?_
              refine lv_iload_n hx hb dM6_place_72 rfl (lv_at hl 1 rfl) ?_
              refine gc_v (w := wM ad ca K) (u := u) (va_runV (As := [.int l2, .int l1]) (rest := []) ⟨hx, hb, hml, hown, hts⟩ (cM6_work l dC dI ad ca K H.size u l2 l1 _ h) (cwV 2 hts (gG_V wd_853 wd_855 wd_24 wd_52 wd_856) rfl rfl rfl (by decide +kernel) ⟨Nat.le_of_ble_eq_true rfl, Nat.le_of_ble_eq_true rfl⟩) ⟨gB_blind mE_ok, va_recv hK hP (ci := 6) (q0 := 0) rfl rfl, gB_pre mE_ok hP hK hD hE hS hA⟩ rfl rfl hl.1 rfl (lv_room (Nat.le_of_ble_eq_true rfl)) dM6_place_73 ⟨Nat.le_of_ble_eq_true rfl, Nat.le_of_ble_eq_true rfl⟩) hD hS hA (fun u65 H locs h hP hD hS => ?_)
              refine lv_goto (tgt := 197) hx hb dM6_place_76 (by decide) ?_
              refine lv_iconst (v := 0) hx hb dM6_place_197 (by decide) ?_
              exact gr_z (w := wM ad ca K) (u := u65) hx hb hr hlocks h.1 h.2 hP hK hD hS dM6_place_198
          · have h := h.2 c37
            refine lv_aload_n hx hb dM6_place_54 rfl (lv_at hl 0 rfl) ?_
            refine lv_iload_n hx hb dM6_place_55 rfl (lv_at hl 1 rfl) ?_
            refine gc_v (w := wM ad ca K) (u := u) (va_runV (As := [.int l1]) (rest := []) ⟨hx, hb, hml, hown, hts⟩ (cM6_newWorker l dC dI ad ca K H.size u l1 _ h) (cwV 1 hts (gG_V wd_849 wd_851 wd_23 wd_52 wd_852) rfl rfl rfl (by decide +kernel) ⟨Nat.le_of_ble_eq_true rfl, Nat.le_of_ble_eq_true rfl⟩) ⟨gB_blind mE_ok, va_recv hK hP (ci := 6) (q0 := 0) rfl rfl, gB_pre mE_ok hP hK hD hE hS hA⟩ rfl rfl hl.1 rfl (lv_room (Nat.le_of_ble_eq_true rfl)) dM6_place_56 ⟨Nat.le_of_ble_eq_true rfl, Nat.le_of_ble_eq_true rfl⟩) hD hS hA (fun u67 H locs h hP hD hS => ?_)
            refine lv_goto (tgt := 197) hx hb dM6_place_59 (by decide) ?_
            refine lv_iconst (v := 0) hx hb dM6_place_197 (by decide) ?_
            exact gr_z (w := wM ad ca K) (u := u67) hx hb hr hlocks h.1 h.2 hP hK hD hS dM6_place_198
        · have h := h.2 c36
          refine lv_aload_n hx hb dM6_place_32 rfl (lv_at hl 0 rfl) ?_
          refine va_get (D := (dC, dI)) (ci := 6) (v := .ref (ad 5)) (C := RX6) (T := TX6) (N := 36) hx hb hts uwX6 hown hK hP 0 rfl rfl 9 (by decide) (hts _ wd_712) (fun _ h9 => h9) rfl dM6_place_33 ?_
          refine lv_iload_n hx hb dM6_place_36 rfl (lv_at hl 1 rfl) ?_
          refine lv_bipush (v := 6) hx hb dM6_place_37 (by decide) ?_
          refine va_iast hx hb hK hP hD hS 5 0 rfl rfl h.1 dM6_place_39 (fun H locs hP hD hS => ?_)
          have h := h.2
          obtain ⟨u68, eu68⟩ : ∃ z : gS, z = tA u 4 l1.toNatClampNeg 6 := ⟨_, rfl⟩
          have hP : va_P (dC, dI) vwCl (wM ad ca K u68) H := by rw [eu68, wM_a5]; exact hP
          have hD : va_D A (wM ad ca K u68) := by rw [eu68, wM_a5]; exact hD
          have h := h u68 eu68
          refine lv_goto (tgt := 197) hx hb dM6_place_40 (by decide) ?_
          refine lv_iconst (v := 0) hx hb dM6_place_197 (by decide) ?_
          exact gr_z (w := wM ad ca K) (u := u68) hx hb hr hlocks h.1 h.2 hP hK hD hS dM6_place_198
      · have h := h.2 c35
        obtain ⟨x69, ex69⟩ : ∃ y : Int32, y = l2 + 1 := ⟨_, rfl⟩
        have h := h x69 ex69
        refine lv_iinc (v := x69) (lv' := [(2, .int x69), (0, .ref (ad 0)), (1, .int l1)]) hx hb dM6_place_19 hl (k := 2) rfl (by rw [ex69]; rfl) (by decide) rfl (fun ls hl => ?_)
        refine lv_goto (tgt := 2) hx hb dM6_place_22 (by decide) ?_
        exact ih l1 x69 u _ _ _ h hP hD hS (lv_sub hl [1, 2, 0] rfl)

set_option maxHeartbeats 8000000 in
set_option maxRecDepth 100000 in
theorem cM6_place (l : Launch) (dC : Nat → ClassId) (dI : Nat → Nat → Nat) (ad : Nat → Nat) (ca : Nat → ClassId) (K : KM) (sz : Nat) (u : gS) (p1 : Int32) (post : Int32 → gS → Prop)  (h : wpM6_place K post u p1) : Met l ⟨"WorkHallModel", "place", "(I)Z"⟩ (gw ⟨"WorkHallModel", "place", "(I)Z"⟩ prog_8_method_16_code 3 (some .boolean)) ({ frames := 3, cells := 0, slots := 0, locals := 120 } : Room) (va_Pc [.ref (ad 0), .int p1] (gB (dC, dI) vwCl (mT ca) mE (wM ad ca K u) sz)) (va_Qi post (gAt (dC, dI) vwCl (mT ca) (wM ad ca K) (va_A (wM ad ca K u) sz)) (va_A (wM ad ca K u) sz)) 0 0 (va_A (wM ad ca K u) sz) := by
  refine Met.ofW (cc := prog_8_method_16_code) (maxL := 3) (ret := (some .boolean)) (by decide) rfl ?_
  intro p e s m args below meth c s₁ B hml hv
  obtain ⟨rfl, hsz, hP, hK, hD0, hE⟩ := hv
  have hx := B.exec
  have hb := B.bytes
  have hr := B.returns
  have hts : ∀ w ∈ gW, w.before _ s = true := fun w h9 => atoms_spec (ws := (gw ⟨"WorkHallModel", "place", "(I)Z"⟩ prog_8_method_16_code 3 (some .boolean))) B.pre w (List.mem_cons_of_mem _ h9)
  have hown : s.vm.findClass RX6 = some m.cls := findClass_of_methodNamed B.named
  have hlocks := B.notSynchronized
  subst hsz
  have hD := hD0.self (sz := s.heap.size)
  generalize hAe : va_A (wM ad ca K u) s.heap.size = A at hD hE ⊢
  have hA : ∀ q : Nat, s.heap.size ≤ q → A q := fun q h => by rw [← hAe]; exact Or.inr h
  obtain ⟨H, hHe⟩ : ∃ z : Heap, z = s.heap := ⟨_, rfl⟩
  rw [← hHe]
  have hS : va_S A s.heap H [] := by rw [hHe]; exact va_S.rf
  have hP : va_P (dC, dI) vwCl (wM ad ca K u) H := by rw [hHe]; exact hP
  have hl := lv_entry ([.ref (ad 0), .int p1]) (n := 3) (Nat.le_of_ble_eq_true rfl)
  rw [lg_entry_eq]
  generalize (lg_sl ([.ref (ad 0), .int p1]) ++ List.replicate (3 - (lg_sl ([.ref (ad 0), .int p1])).length) Slot.unset).toArray = ls at hl ⊢
  have hl : lv_has ls 3 [(0, .ref (ad 0)), (1, .int p1)] := hl
  clear hAe
  refine lv_iconst (v := 0) hx hb dM6_place_0 (by decide) ?_
  refine lv_istore_n (lv' := [(2, .int 0), (0, .ref (ad 0)), (1, .int p1)]) hx hb dM6_place_1 rfl hl (by decide) rfl (fun ls hl => ?_)
  obtain ⟨n2, h⟩ := h
  exact wpM6_place_2_ok hx hb hr hml hown hts hlocks hK hA hE n2 p1 0 u _ _ _ h hP hD hS (lv_sub hl [1, 2, 0] rfl)

