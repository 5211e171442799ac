set_option maxHeartbeats 8000000 in
set_option maxRecDepth 100000 in
theorem law_loop {p : Program} {l : Launch} {e : Env} {s : State} {m : MethodId} {below : List Frame} {meth : Method} {c : Code} {dC : Nat → ClassId} {dI : Nat → Nat → Nat} {b L : Nat} {xs : Nat → Int32} {ad am : Nat → Nat} {ca cm : Nat → ClassId} {KMv : KM} {o d : Nat} {cO : ClassId} (hl9 : l.stackTraces = false) (hL : L ≤ 2564) (C0 : lw_At p s m meth c b L xs) (hX : sE b L xs (fun q : Nat => s.heap.size ≤ q) s s.heap) (hE : lE (fun q : Nat => s.heap.size ≤ q) s s.heap) (hK : va_K (dC, dI) vwCl [(ca 0, .object "WorkHall$Job"), (ca 1, .object "WorkHall$Worker"), (ca 2, .double), (cO, .long), (cm 0, .int), (cm 1, .double)] s) (Inv : Nat → KX → gS → gS → Prop) (hO : lObl KMv Inv) :
    ∀ (n k : Nat) (x5 : Int32), x5 = iN (4 + 5 * k) → 5 * k ≤ L → L + 10 ≤ 5 * k + 5 * n → ∀ (K : KX) (u v : gS) (f : Nat → Int64) (g : Nat → UInt64) (H : Heap) (locs : List Loc) (ls : Array Slot) (cells slots : Nat), Inv k K u v → lW (dC, dI) am cm KMv o cO d (ca 2) (fun q : Nat => s.heap.size ≤ q) H (wX ad ca K u) v f g → va_S (fun q : Nat => s.heap.size ≤ q) s.heap H locs → lv_has ls 9 [(0, .ref b), (1, .ref (ad 0)), (2, .ref (am 0)), (3, .ref o), (4, .ref d), (5, .int x5)] → cells ≤ 100 + 10 * k → slots ≤ 1000 + 60 * k → W p l e room_1 s m #[Value.ref b] below meth c H locs cells slots (lw_Z below #[Value.ref b] s) (F0 m 68 ls []) := by
  obtain ⟨hx, hb, hr, hml, hown0, hts0, hX0, hbl, hlocks, hgv⟩ := C0
  have hown : s.vm.findClass RL = some m.cls := hown0
  have hts : ∀ w ∈ gW, w.before _ s = true := fun w h9 => hts0 w (List.mem_filter.mp h9).1
  have hA : ∀ q : Nat, s.heap.size ≤ q → (fun q : Nat => s.heap.size ≤ q) q := fun _ h => h
  obtain ⟨A, eA⟩ : ∃ z : Nat → Prop, z = (fun q : Nat => s.heap.size ≤ q) := ⟨_, rfl⟩
  rw [← eA] at hX hE hA ⊢
  have hAs : ∀ q, A q → s.heap.size ≤ q := fun q h => by rw [eA] at h; exact h
  intro n
  induction n with
  | zero => intro k x5 _ h1 h2; omega
  | succ n ih =>
    intro k x5 ex5 hk1 hk2 K u v f g H locs ls cells slots hI hW hS hl hcc hss
    have hback : ∀ (K : KX) (u v : gS) (f : Nat → Int64) (g : Nat → UInt64) (H : Heap) (locs : List Loc) (ls : Array Slot) {cells slots : Nat}, Inv (k + 1) K u v → lW (dC, dI) am cm KMv o cO d (ca 2) A H (wX ad ca K u) v f g → va_S A s.heap H locs → lv_has ls 9 [(0, .ref b), (1, .ref (ad 0)), (2, .ref (am 0)), (3, .ref o), (4, .ref d), (5, .int x5)] → cells ≤ 110 + 10 * k → slots ≤ 1060 + 60 * k → 5 * k + 5 ≤ L → W p l e room_1 s m #[Value.ref b] below meth c H locs cells slots (lw_Z below #[Value.ref b] s) (F0 m 732 ls []) := by
      intro K u v f g H locs ls cells slots hI hW hS hl hcc hss hk5
      obtain ⟨y5, ey5⟩ : ∃ y : Int32, y = x5 + 5 := ⟨_, rfl⟩
      refine lv_iinc (v := y5) (lv' := [(5, .int y5), (0, .ref b), (1, .ref (ad 0)), (2, .ref (am 0)), (3, .ref o), (4, .ref d)]) hx hb dL_law_732 hl (k := 5) rfl (by rw [ey5]; rfl) (by decide) rfl (fun ls hl => ?_)
      refine lv_goto (tgt := 68) hx hb dL_law_735 (by decide) ?_
      exact ih (k + 1) y5 (by rw [ey5, ex5]; exact iN_add (4 + 5 * k) 5) (by omega) (by omega) K u v f g H locs ls cells slots hI hW hS (lv_sub hl [1, 2, 3, 4, 5, 0] rfl) (by omega) (by omega)
    refine lv_iload hx hb dL_law_68 (lv_at hl 5 rfl) ?_
    refine lv_aload_n hx hb dL_law_70 rfl (lv_at hl 0 rfl) ?_
    refine va_tlen (v := Int32.ofNat L) hx hb hX hS rfl dL_law_71 ?_
    refine lv_iconst (v := 5) hx hb dL_law_72 (by decide) ?_
    refine lv_isub hx hb dL_law_73 ?_
    refine lv_icmp_gt (tgt := 738) hx hb dL_law_74 (by decide) (fun c1 => ?_) (fun c1 => ?_)
    · refine lv_iconst (v := 1) hx hb dL_law_738 (by decide) ?_
      have hfor : ∀ q ∈ locs, s.heap.size ≤ q.base := fun q hq => hAs _ (hS.2.2 q hq)
      refine va_forget hfor ?_
      refine W.widen (k := 601024) (n := 7293000) (by omega) (by omega) ?_
      exact lw_ret hx hb hr hlocks dL_law_739
    · have hj : 4 + 5 * k + 5 ≤ L := law_idx hL (by omega) (by rw [← ex5]; exact c1)
      have hk5 : 5 * k + 5 ≤ L := by omega
      have hin : ∀ t : Nat, t < 5 → vp_in (x5 + iN t) L := fun t ht => by rw [ex5, iN_add]; exact vp_in_nI (by omega) (by omega)
      have hin1 : vp_in (x5 + 1) L := hin 1 (by omega)
      have hin2 : vp_in (x5 + 2) L := hin 2 (by omega)
      have hin3 : vp_in (x5 + 3) L := hin 3 (by omega)
      have hin4 : vp_in (x5 + 4) L := hin 4 (by omega)
      have hin0 : vp_in x5 L := by rw [ex5]; exact vp_in_nI (by omega) (by omega)
      obtain ⟨a1, ea1⟩ : ∃ z : Int32, z = xs (x5 + 1).toNatClampNeg := ⟨_, rfl⟩
      obtain ⟨a2, ea2⟩ : ∃ z : Int32, z = xs (x5 + 2).toNatClampNeg := ⟨_, rfl⟩
      obtain ⟨a3, ea3⟩ : ∃ z : Int32, z = xs (x5 + 3).toNatClampNeg := ⟨_, rfl⟩
      obtain ⟨a4, ea4⟩ : ∃ z : Int32, z = xs (x5 + 4).toNatClampNeg := ⟨_, rfl⟩
      have hob := hO k K u v f g a1 a2 a3 a4 (by omega) hI
      have hback := fun K u v f g H locs ls (cells slots : Nat) a b c d e f' => hback K u v f g H locs ls (cells := cells) (slots := slots) a b c d e f' hk5
      refine lv_aload_n hx hb dL_law_77 rfl (lv_at hl 0 rfl) ?_
      refine lv_iload hx hb dL_law_78 (lv_at hl 5 rfl) ?_
      refine va_ti (v := .int (xs x5.toNatClampNeg)) hx hb hX hS hin0 rfl dL_law_80 ?_
      refine lv_bipush (v := 15) hx hb dL_law_81 (by decide) ?_
      refine lv_iand hx hb dL_law_83 ?_
      refine lv_topi (fun c0 ec0 => ?_)
      by_cases q0 : c0 = 0
      · have h := hob.1
        unfold wpC_0 at h
        have e9 : c0.toInt = 0 := by rw [q0]; rfl
        refine lv_tableIn (off := 72) (tgt := 156) hx hb dL_law_84 (by rw [e9]; decide) (by rw [e9]; decide) (by rw [e9]; rfl) (by decide) ?_
        refine lv_aload_n hx hb dL_law_156 rfl (lv_at hl 1 rfl) ?_
        refine lv_aload_n hx hb dL_law_157 rfl (lv_at hl 0 rfl) ?_
        refine lv_iload hx hb dL_law_158 (lv_at hl 5 rfl) ?_
        refine lv_iconst (v := 1) hx hb dL_law_160 (by decide) ?_
        refine lv_iadd hx hb dL_law_161 ?_
        refine va_ti (v := .int a1) hx hb hX hS hin1 (by rw [ea1]) dL_law_162 ?_
        refine lv_aload_n hx hb dL_law_163 rfl (lv_at hl 0 rfl) ?_
        refine lv_iload hx hb dL_law_164 (lv_at hl 5 rfl) ?_
        refine lv_iconst (v := 2) hx hb dL_law_166 (by decide) ?_
        refine lv_iadd hx hb dL_law_167 ?_
        refine va_ti (v := .int a2) hx hb hX hS hin2 (by rw [ea2]) dL_law_168 ?_
        refine lv_aload_n hx hb dL_law_169 rfl (lv_at hl 0 rfl) ?_
        refine lv_iload hx hb dL_law_170 (lv_at hl 5 rfl) ?_
        refine lv_iconst (v := 3) hx hb dL_law_172 (by decide) ?_
        refine lv_iadd hx hb dL_law_173 ?_
        refine va_ti (v := .int a3) hx hb hX hS hin3 (by rw [ea3]) dL_law_174 ?_
        refine lv_aload_n hx hb dL_law_175 rfl (lv_at hl 0 rfl) ?_
        refine lv_iload hx hb dL_law_176 (lv_at hl 5 rfl) ?_
        refine lv_iconst (v := 4) hx hb dL_law_178 (by decide) ?_
        refine lv_iadd hx hb dL_law_179 ?_
        refine va_ti (v := .int a4) hx hb hX hS hin4 (by rw [ea4]) dL_law_180 ?_
        refine lv_aload_n hx hb dL_law_181 rfl (lv_at hl 3 rfl) ?_
        have hQ := lW_O hW
        refine gyl_i (w := (fun z : (KX × gS) × (Nat → Int64) => wO o cO z.2 ++ wX2 ad ca z.1)) (w0 := wO o cO f ++ wX ad ca K u) (wr := wP d (ca 2) g ++ wM am cm KMv v) (vx_runSW (As := [.ref (ad 0), .int a1, .int a2, .int a3, .int a4, .ref o]) (rest := []) ⟨hx, hb, hml, hown, hts⟩ (cL_job l hl9 dC dI ad ca K o cO H.size u f a1 a2 a3 a4 _ h) (vx_cwSW 6 hts (gG_SW wd_212 wd_213 wd_45 wd_214) rfl rfl rfl (by decide +kernel) ⟨(Nat.le_of_ble_eq_true rfl), (Nat.le_of_ble_eq_true rfl)⟩) ⟨gB_blind lE_ok, gB_pre lE_ok (gP_r hQ.1) (hK.sub [0, 1, 2, 3] rfl) (gD_r hQ.2) hE hS hA⟩ rfl rfl hl.1 rfl (lv_room (Nat.le_of_ble_eq_true rfl)) dL_law_182 ⟨by show _ ≤ 601024; omega, by show _ ≤ 7293000; omega⟩) hQ.1 hQ.2 hS hA (fun r1 z2 H locs h hP hD hS => ?_)
        have hW : lW (dC, dI) am cm KMv o cO d (ca 2) A H (wX ad ca z2.1.1 z2.1.2) v z2.2 g := lW_O' hP hD
        clear hQ hP hD
        refine lv_istore (lv' := [(6, .int r1), (0, .ref b), (1, .ref (ad 0)), (2, .ref (am 0)), (3, .ref o), (4, .ref d), (5, .int x5)]) hx hb dL_law_185 hl (by decide) rfl (fun ls hl => ?_)
        refine lv_aload_n hx hb dL_law_187 rfl (lv_at hl 3 rfl) ?_
        refine lv_aload_n hx hb dL_law_188 rfl (lv_at hl 1 rfl) ?_
        refine lv_iload hx hb dL_law_189 (lv_at hl 6 rfl) ?_
        refine lv_iconst (v := 1) hx hb dL_law_191 (by decide) ?_
        refine lv_iadd hx hb dL_law_192 ?_
        refine va_ti (v := .int a1) hx hb hX hS hin1 (by rw [ea1]) dL_law_193 ?_
        refine lv_aload_n hx hb dL_law_194 rfl (lv_at hl 1 rfl) ?_
        refine lv_iload hx hb dL_law_195 (lv_at hl 6 rfl) ?_
        refine lv_iconst (v := 2) hx hb dL_law_197 (by decide) ?_
        refine lv_iadd hx hb dL_law_198 ?_
        refine va_ti (v := .int a2) hx hb hX hS hin2 (by rw [ea2]) dL_law_199 ?_
        refine lv_aload_n hx hb dL_law_200 rfl (lv_at hl 1 rfl) ?_
        refine lv_iload hx hb dL_law_201 (lv_at hl 6 rfl) ?_
        refine lv_iconst (v := 3) hx hb dL_law_203 (by decide) ?_
        refine lv_iadd hx hb dL_law_204 ?_
        refine va_ti (v := .int a3) hx hb hX hS hin3 (by rw [ea3]) dL_law_205 ?_
        refine lv_aload_n hx hb dL_law_206 rfl (lv_at hl 1 rfl) ?_
        refine lv_iload hx hb dL_law_207 (lv_at hl 6 rfl) ?_
        refine lv_iconst (v := 4) hx hb dL_law_209 (by decide) ?_
        refine lv_iadd hx hb dL_law_210 ?_
        refine va_ti (v := .int a4) hx hb hX hS hin4 (by rw [ea4]) dL_law_211 ?_
        have hQ := lW_M hW
        refine gyl_i (w := wM am cm KMv) (w0 := wM am cm KMv v) (wr := wO o cO z2.2 ++ (wP d (ca 2) g ++ wX ad ca z2.1.1 z2.1.2)) (va_runV (As := [.int a1, .int a2, .int a3, .int a4]) (rest := []) ⟨hx, hb, hml, hown, hts⟩ (cM6_job l dC dI am cm KMv H.size v a1 a2 a3 a4 _ h) (cwV 4 hts (gG_V wd_817 wd_818 wd_819 wd_52 wd_820) rfl rfl rfl (by decide +kernel) ⟨(Nat.le_of_ble_eq_true rfl), (Nat.le_of_ble_eq_true rfl)⟩) ⟨gB_blind mE_ok, va_recv (hK.sub (tys' := mT cm) [4, 5] rfl) (gP_r hQ.1) (ci := 6) (q0 := 0) rfl rfl, gB_pre mE_ok (gP_r hQ.1) (hK.sub [4, 5] rfl) (gD_r hQ.2) trivial hS hA⟩ rfl rfl hl.1 rfl (lv_room (Nat.le_of_ble_eq_true rfl)) dL_law_212 ⟨by show _ ≤ 601024; omega, by show _ ≤ 7293000; omega⟩) hQ.1 hQ.2 hS hA (fun r3 v4 H locs h hP hD hS => ?_)
        have hW : lW (dC, dI) am cm KMv o cO d (ca 2) A H (wX ad ca z2.1.1 z2.1.2) v4 z2.2 g := lW_M' hP hD
        clear hQ hP hD
        refine lv_istore (lv' := [(7, .int r3), (6, .int r1), (0, .ref b), (1, .ref (ad 0)), (2, .ref (am 0)), (3, .ref o), (4, .ref d), (5, .int x5)]) hx hb dL_law_215 hl (by decide) rfl (fun ls hl => ?_)
        refine lv_goto (tgt := 732) hx hb dL_law_217 (by decide) ?_
        exact hback _ _ _ _ _ _ _ _ _ _ h hW hS (lv_sub hl [2, 3, 4, 5, 6, 7] rfl) (by omega) (by omega)
      · skip
        by_cases q1 : c0 = 1
        · have h := hob.2.1
          unfold wpC_1 at h
          have e9 : c0.toInt = 1 := by rw [q1]; rfl
          refine lv_tableIn (off := 136) (tgt := 220) hx hb dL_law_84 (by rw [e9]; decide) (by rw [e9]; decide) (by rw [e9]; rfl) (by decide) ?_
          refine lv_aload_n hx hb dL_law_220 rfl (lv_at hl 1 rfl) ?_
          refine lv_aload_n hx hb dL_law_221 rfl (lv_at hl 0 rfl) ?_
          refine lv_iload hx hb dL_law_222 (lv_at hl 5 rfl) ?_
          refine lv_iconst (v := 1) hx hb dL_law_224 (by decide) ?_
          refine lv_iadd hx hb dL_law_225 ?_
          refine va_ti (v := .int a1) hx hb hX hS hin1 (by rw [ea1]) dL_law_226 ?_
          refine lv_aload_n hx hb dL_law_227 rfl (lv_at hl 3 rfl) ?_
          have hQ := lW_O hW
          refine gyl_i (w := (fun z : gS × (Nat → Int64) => wO o cO z.2 ++ wX ad ca K z.1)) (w0 := wO o cO f ++ wX ad ca K u) (wr := wP d (ca 2) g ++ wM am cm KMv v) (vx_runSW (As := [.ref (ad 0), .int a1, .ref o]) (rest := []) ⟨hx, hb, hml, hown, hts⟩ (cL_submit l hl9 dC dI ad ca K o cO H.size u f a1 _ h) (vx_cwSW 3 hts (gG_SW wd_355 wd_356 wd_45 wd_357) rfl rfl rfl (by decide +kernel) ⟨(Nat.le_of_ble_eq_true rfl), (Nat.le_of_ble_eq_true rfl)⟩) ⟨gB_blind lE_ok, gB_pre lE_ok (gP_r hQ.1) (hK.sub [0, 1, 2, 3] rfl) (gD_r hQ.2) hE hS hA⟩ rfl rfl hl.1 rfl (lv_room (Nat.le_of_ble_eq_true rfl)) dL_law_228 ⟨by show _ ≤ 601024; omega, by show _ ≤ 7293000; omega⟩) hQ.1 hQ.2 hS hA (fun r5 z6 H locs h hP hD hS => ?_)
          have hW : lW (dC, dI) am cm KMv o cO d (ca 2) A H (wX ad ca K z6.1) v z6.2 g := lW_O' hP hD
          clear hQ hP hD
          refine lv_istore (lv' := [(6, .int r5), (0, .ref b), (1, .ref (ad 0)), (2, .ref (am 0)), (3, .ref o), (4, .ref d), (5, .int x5)]) hx hb dL_law_231 hl (by decide) rfl (fun ls hl => ?_)
          refine lv_aload_n hx hb dL_law_233 rfl (lv_at hl 3 rfl) ?_
          refine lv_aload_n hx hb dL_law_234 rfl (lv_at hl 1 rfl) ?_
          refine lv_iload hx hb dL_law_235 (lv_at hl 6 rfl) ?_
          refine lv_iconst (v := 1) hx hb dL_law_237 (by decide) ?_
          refine lv_iadd hx hb dL_law_238 ?_
          refine va_ti (v := .int a1) hx hb hX hS hin1 (by rw [ea1]) dL_law_239 ?_
          have hQ := lW_M hW
          refine gyl_i (w := wM am cm KMv) (w0 := wM am cm KMv v) (wr := wO o cO z6.2 ++ (wP d (ca 2) g ++ wX ad ca K z6.1)) (va_runV (As := [.int a1]) (rest := []) ⟨hx, hb, hml, hown, hts⟩ (cM6_submit l dC dI am cm KMv H.size v a1 _ h) (cwV 1 hts (gG_V wd_837 wd_838 wd_839 wd_52 wd_840) rfl rfl rfl (by decide +kernel) ⟨(Nat.le_of_ble_eq_true rfl), (Nat.le_of_ble_eq_true rfl)⟩) ⟨gB_blind mE_ok, va_recv (hK.sub (tys' := mT cm) [4, 5] rfl) (gP_r hQ.1) (ci := 6) (q0 := 0) rfl rfl, gB_pre mE_ok (gP_r hQ.1) (hK.sub [4, 5] rfl) (gD_r hQ.2) trivial hS hA⟩ rfl rfl hl.1 rfl (lv_room (Nat.le_of_ble_eq_true rfl)) dL_law_240 ⟨by show _ ≤ 601024; omega, by show _ ≤ 7293000; omega⟩) hQ.1 hQ.2 hS hA (fun r7 v8 H locs h hP hD hS => ?_)
          have hW : lW (dC, dI) am cm KMv o cO d (ca 2) A H (wX ad ca K z6.1) v8 z6.2 g := lW_M' hP hD
          clear hQ hP hD
          refine lv_istore (lv' := [(7, .int r7), (6, .int r5), (0, .ref b), (1, .ref (ad 0)), (2, .ref (am 0)), (3, .ref o), (4, .ref d), (5, .int x5)]) hx hb dL_law_243 hl (by decide) rfl (fun ls hl => ?_)
          refine lv_goto (tgt := 732) hx hb dL_law_245 (by decide) ?_
          exact hback _ _ _ _ _ _ _ _ _ _ h hW hS (lv_sub hl [2, 3, 4, 5, 6, 7] rfl) (by omega) (by omega)
        · skip
          by_cases q2 : c0 = 2
          · have h := hob.2.2.1
            unfold wpC_2 at h
            have e9 : c0.toInt = 2 := by rw [q2]; rfl
            refine lv_tableIn (off := 164) (tgt := 248) hx hb dL_law_84 (by rw [e9]; decide) (by rw [e9]; decide) (by rw [e9]; rfl) (by decide) ?_
            refine lv_aload_n hx hb dL_law_248 rfl (lv_at hl 1 rfl) ?_
            refine lv_aload_n hx hb dL_law_249 rfl (lv_at hl 0 rfl) ?_
            refine lv_iload hx hb dL_law_250 (lv_at hl 5 rfl) ?_
            refine lv_iconst (v := 1) hx hb dL_law_252 (by decide) ?_
            refine lv_iadd hx hb dL_law_253 ?_
            refine va_ti (v := .int a1) hx hb hX hS hin1 (by rw [ea1]) dL_law_254 ?_
            refine lv_aload_n hx hb dL_law_255 rfl (lv_at hl 0 rfl) ?_
            refine lv_iload hx hb dL_law_256 (lv_at hl 5 rfl) ?_
            refine lv_iconst (v := 2) hx hb dL_law_258 (by decide) ?_
            refine lv_iadd hx hb dL_law_259 ?_
            refine va_ti (v := .int a2) hx hb hX hS hin2 (by rw [ea2]) dL_law_260 ?_
            refine lv_aload_n hx hb dL_law_261 rfl (lv_at hl 3 rfl) ?_
            have hQ := lW_O hW
            refine gyl_i (w := (fun z : gS × (Nat → Int64) => wO o cO z.2 ++ wX ad ca K z.1)) (w0 := wO o cO f ++ wX ad ca K u) (wr := wP d (ca 2) g ++ wM am cm KMv v) (vx_runSW (As := [.ref (ad 0), .int a1, .int a2, .ref o]) (rest := []) ⟨hx, hb, hml, hown, hts⟩ (cL_then l hl9 dC dI ad ca K o cO H.size u f a1 a2 _ h) (vx_cwSW 4 hts (gG_SW wd_475 wd_476 wd_45 wd_477) rfl rfl rfl (by decide +kernel) ⟨(Nat.le_of_ble_eq_true rfl), (Nat.le_of_ble_eq_true rfl)⟩) ⟨gB_blind lE_ok, gB_pre lE_ok (gP_r hQ.1) (hK.sub [0, 1, 2, 3] rfl) (gD_r hQ.2) hE hS hA⟩ rfl rfl hl.1 rfl (lv_room (Nat.le_of_ble_eq_true rfl)) dL_law_262 ⟨by show _ ≤ 601024; omega, by show _ ≤ 7293000; omega⟩) hQ.1 hQ.2 hS hA (fun r9 z10 H locs h hP hD hS => ?_)
            have hW : lW (dC, dI) am cm KMv o cO d (ca 2) A H (wX ad ca K z10.1) v z10.2 g := lW_O' hP hD
            clear hQ hP hD
            refine lv_istore (lv' := [(6, .int r9), (0, .ref b), (1, .ref (ad 0)), (2, .ref (am 0)), (3, .ref o), (4, .ref d), (5, .int x5)]) hx hb dL_law_265 hl (by decide) rfl (fun ls hl => ?_)
            refine lv_aload_n hx hb dL_law_267 rfl (lv_at hl 3 rfl) ?_
            refine lv_aload_n hx hb dL_law_268 rfl (lv_at hl 1 rfl) ?_
            refine lv_iload hx hb dL_law_269 (lv_at hl 6 rfl) ?_
            refine lv_iconst (v := 1) hx hb dL_law_271 (by decide) ?_
            refine lv_iadd hx hb dL_law_272 ?_
            refine va_ti (v := .int a1) hx hb hX hS hin1 (by rw [ea1]) dL_law_273 ?_
            refine lv_aload_n hx hb dL_law_274 rfl (lv_at hl 1 rfl) ?_
            refine lv_iload hx hb dL_law_275 (lv_at hl 6 rfl) ?_
            refine lv_iconst (v := 2) hx hb dL_law_277 (by decide) ?_
            refine lv_iadd hx hb dL_law_278 ?_
            refine va_ti (v := .int a2) hx hb hX hS hin2 (by rw [ea2]) dL_law_279 ?_
            have hQ := lW_M hW
            refine gyl_i (w := wM am cm KMv) (w0 := wM am cm KMv v) (wr := wO o cO z10.2 ++ (wP d (ca 2) g ++ wX ad ca K z10.1)) (va_runV (As := [.int a1, .int a2]) (rest := []) ⟨hx, hb, hml, hown, hts⟩ (cM6_then l dC dI am cm KMv H.size v a1 a2 _ h) (cwV 2 hts (gG_V wd_893 wd_894 wd_895 wd_52 wd_896) rfl rfl rfl (by decide +kernel) ⟨(Nat.le_of_ble_eq_true rfl), (Nat.le_of_ble_eq_true rfl)⟩) ⟨gB_blind mE_ok, va_recv (hK.sub (tys' := mT cm) [4, 5] rfl) (gP_r hQ.1) (ci := 6) (q0 := 0) rfl rfl, gB_pre mE_ok (gP_r hQ.1) (hK.sub [4, 5] rfl) (gD_r hQ.2) trivial hS hA⟩ rfl rfl hl.1 rfl (lv_room (Nat.le_of_ble_eq_true rfl)) dL_law_280 ⟨by show _ ≤ 601024; omega, by show _ ≤ 7293000; omega⟩) hQ.1 hQ.2 hS hA (fun r11 v12 H locs h hP hD hS => ?_)
            have hW : lW (dC, dI) am cm KMv o cO d (ca 2) A H (wX ad ca K z10.1) v12 z10.2 g := lW_M' hP hD
            clear hQ hP hD
            refine lv_istore (lv' := [(7, .int r11), (6, .int r9), (0, .ref b), (1, .ref (ad 0)), (2, .ref (am 0)), (3, .ref o), (4, .ref d), (5, .int x5)]) hx hb dL_law_283 hl (by decide) rfl (fun ls hl => ?_)
            refine lv_goto (tgt := 732) hx hb dL_law_285 (by decide) ?_
            exact hback _ _ _ _ _ _ _ _ _ _ h hW hS (lv_sub hl [2, 3, 4, 5, 6, 7] rfl) (by omega) (by omega)
          · skip
            by_cases q3 : c0 = 3
            · have h := hob.2.2.2.1
              unfold wpC_3 at h
              have e9 : c0.toInt = 3 := by rw [q3]; rfl
              refine lv_tableIn (off := 204) (tgt := 288) hx hb dL_law_84 (by rw [e9]; decide) (by rw [e9]; decide) (by rw [e9]; rfl) (by decide) ?_
              refine lv_aload_n hx hb dL_law_288 rfl (lv_at hl 1 rfl) ?_
              refine lv_aload_n hx hb dL_law_289 rfl (lv_at hl 0 rfl) ?_
              refine lv_iload hx hb dL_law_290 (lv_at hl 5 rfl) ?_
              refine lv_iconst (v := 1) hx hb dL_law_292 (by decide) ?_
              refine lv_iadd hx hb dL_law_293 ?_
              refine va_ti (v := .int a1) hx hb hX hS hin1 (by rw [ea1]) dL_law_294 ?_
              refine lv_aload_n hx hb dL_law_295 rfl (lv_at hl 3 rfl) ?_
              have hQ := lW_O hW
              refine gyl_i (w := (fun z : gS × (Nat → Int64) => wO o cO z.2 ++ wX ad ca K z.1)) (w0 := wO o cO f ++ wX ad ca K u) (wr := wP d (ca 2) g ++ wM am cm KMv v) (vx_runSW (As := [.ref (ad 0), .int a1, .ref o]) (rest := []) ⟨hx, hb, hml, hown, hts⟩ (cL_step l hl9 dC dI ad ca K o cO H.size u f a1 _ h) (vx_cwSW 3 hts (gG_SW wd_488 wd_489 wd_45 wd_490) rfl rfl rfl (by decide +kernel) ⟨(Nat.le_of_ble_eq_true rfl), (Nat.le_of_ble_eq_true rfl)⟩) ⟨gB_blind lE_ok, gB_pre lE_ok (gP_r hQ.1) (hK.sub [0, 1, 2, 3] rfl) (gD_r hQ.2) hE hS hA⟩ rfl rfl hl.1 rfl (lv_room (Nat.le_of_ble_eq_true rfl)) dL_law_296 ⟨by show _ ≤ 601024; omega, by show _ ≤ 7293000; omega⟩) hQ.1 hQ.2 hS hA (fun r13 z14 H locs h hP hD hS => ?_)
              have hW : lW (dC, dI) am cm KMv o cO d (ca 2) A H (wX ad ca K z14.1) v z14.2 g := lW_O' hP hD
              clear hQ hP hD
              refine lv_istore (lv' := [(6, .int r13), (0, .ref b), (1, .ref (ad 0)), (2, .ref (am 0)), (3, .ref o), (4, .ref d), (5, .int x5)]) hx hb dL_law_299 hl (by decide) rfl (fun ls hl => ?_)
              refine lv_aload_n hx hb dL_law_301 rfl (lv_at hl 3 rfl) ?_
              refine lv_aload_n hx hb dL_law_302 rfl (lv_at hl 1 rfl) ?_
              refine lv_iload hx hb dL_law_303 (lv_at hl 6 rfl) ?_
              refine lv_iconst (v := 1) hx hb dL_law_305 (by decide) ?_
              refine lv_iadd hx hb dL_law_306 ?_
              refine va_ti (v := .int a1) hx hb hX hS hin1 (by rw [ea1]) dL_law_307 ?_
              have hQ := lW_M hW
              refine gyl_i (w := wM am cm KMv) (w0 := wM am cm KMv v) (wr := wO o cO z14.2 ++ (wP d (ca 2) g ++ wX ad ca K z14.1)) (va_runV (As := [.int a1]) (rest := []) ⟨hx, hb, hml, hown, hts⟩ (cM6_step l dC dI am cm KMv H.size v a1 _ h) (cwV 1 hts (gG_V wd_897 wd_898 wd_899 wd_52 wd_900) rfl rfl rfl (by decide +kernel) ⟨(Nat.le_of_ble_eq_true rfl), (Nat.le_of_ble_eq_true rfl)⟩) ⟨gB_blind mE_ok, va_recv (hK.sub (tys' := mT cm) [4, 5] rfl) (gP_r hQ.1) (ci := 6) (q0 := 0) rfl rfl, gB_pre mE_ok (gP_r hQ.1) (hK.sub [4, 5] rfl) (gD_r hQ.2) trivial hS hA⟩ rfl rfl hl.1 rfl (lv_room (Nat.le_of_ble_eq_true rfl)) dL_law_308 ⟨by show _ ≤ 601024; omega, by show _ ≤ 7293000; omega⟩) hQ.1 hQ.2 hS hA (fun r15 v16 H locs h hP hD hS => ?_)
              have hW : lW (dC, dI) am cm KMv o cO d (ca 2) A H (wX ad ca K z14.1) v16 z14.2 g := lW_M' hP hD
              clear hQ hP hD
              refine lv_istore (lv' := [(7, .int r15), (6, .int r13), (0, .ref b), (1, .ref (ad 0)), (2, .ref (am 0)), (3, .ref o), (4, .ref d), (5, .int x5)]) hx hb dL_law_311 hl (by decide) rfl (fun ls hl => ?_)
              refine lv_goto (tgt := 732) hx hb dL_law_313 (by decide) ?_
              exact hback _ _ _ _ _ _ _ _ _ _ h hW hS (lv_sub hl [2, 3, 4, 5, 6, 7] rfl) (by omega) (by omega)
            · skip
              by_cases q4 : c0 = 4
              · have h := hob.2.2.2.2.1
                unfold wpC_4 at h
                have e9 : c0.toInt = 4 := by rw [q4]; rfl
                refine lv_tableIn (off := 232) (tgt := 316) hx hb dL_law_84 (by rw [e9]; decide) (by rw [e9]; decide) (by rw [e9]; rfl) (by decide) ?_
                refine lv_aload_n hx hb dL_law_316 rfl (lv_at hl 1 rfl) ?_
                refine lv_aload_n hx hb dL_law_317 rfl (lv_at hl 0 rfl) ?_
                refine lv_iload hx hb dL_law_318 (lv_at hl 5 rfl) ?_
                refine lv_iconst (v := 1) hx hb dL_law_320 (by decide) ?_
                refine lv_iadd hx hb dL_law_321 ?_
                refine va_ti (v := .int a1) hx hb hX hS hin1 (by rw [ea1]) dL_law_322 ?_
                refine lv_aload_n hx hb dL_law_323 rfl (lv_at hl 0 rfl) ?_
                refine lv_iload hx hb dL_law_324 (lv_at hl 5 rfl) ?_
                refine lv_iconst (v := 2) hx hb dL_law_326 (by decide) ?_
                refine lv_iadd hx hb dL_law_327 ?_
                refine va_ti (v := .int a2) hx hb hX hS hin2 (by rw [ea2]) dL_law_328 ?_
                refine gj_ne (x := a2) (v1 := 0) (v2 := 1) (tgt := 336) (nx := 337) hx hb dL_law_329 (by decide) ?_ ?_ (fun b17 eb17 => ?_)
                · exact fun kk => lv_iconst (v := 0) hx hb dL_law_336 (by decide) kk
                · exact fun kk => lv_iconst (v := 1) hx hb dL_law_332 (by decide) (lv_goto (tgt := 337) hx hb dL_law_333 (by decide) kk)
                have h := h b17 eb17
                refine lv_aload_n hx hb dL_law_337 rfl (lv_at hl 3 rfl) ?_
                have hQ := lW_O hW
                refine gyl_i (w := (fun z : gS × (Nat → Int64) => wO o cO z.2 ++ wX ad ca K z.1)) (w0 := wO o cO f ++ wX ad ca K u) (wr := wP d (ca 2) g ++ wM am cm KMv v) (vx_runSW (As := [.ref (ad 0), .int a1, .int b17, .ref o]) (rest := []) ⟨hx, hb, hml, hown, hts⟩ (cL_cancel l hl9 dC dI ad ca K o cO H.size u f a1 b17 _ h) (vx_cwSW 4 hts (gG_SW wd_533 wd_534 wd_45 wd_535) rfl rfl rfl (by decide +kernel) ⟨(Nat.le_of_ble_eq_true rfl), (Nat.le_of_ble_eq_true rfl)⟩) ⟨gB_blind lE_ok, gB_pre lE_ok (gP_r hQ.1) (hK.sub [0, 1, 2, 3] rfl) (gD_r hQ.2) hE hS hA⟩ rfl rfl hl.1 rfl (lv_room (Nat.le_of_ble_eq_true rfl)) dL_law_338 ⟨by show _ ≤ 601024; omega, by show _ ≤ 7293000; omega⟩) hQ.1 hQ.2 hS hA (fun r18 z19 H locs h hP hD hS => ?_)
                have hW : lW (dC, dI) am cm KMv o cO d (ca 2) A H (wX ad ca K z19.1) v z19.2 g := lW_O' hP hD
                clear hQ hP hD
                refine lv_istore (lv' := [(6, .int r18), (0, .ref b), (1, .ref (ad 0)), (2, .ref (am 0)), (3, .ref o), (4, .ref d), (5, .int x5)]) hx hb dL_law_341 hl (by decide) rfl (fun ls hl => ?_)
                refine lv_aload_n hx hb dL_law_343 rfl (lv_at hl 3 rfl) ?_
                refine lv_aload_n hx hb dL_law_344 rfl (lv_at hl 1 rfl) ?_
                refine lv_iload hx hb dL_law_345 (lv_at hl 6 rfl) ?_
                refine lv_iconst (v := 1) hx hb dL_law_347 (by decide) ?_
                refine lv_iadd hx hb dL_law_348 ?_
                refine va_ti (v := .int a1) hx hb hX hS hin1 (by rw [ea1]) dL_law_349 ?_
                refine lv_aload_n hx hb dL_law_350 rfl (lv_at hl 1 rfl) ?_
                refine lv_iload hx hb dL_law_351 (lv_at hl 6 rfl) ?_
                refine lv_iconst (v := 2) hx hb dL_law_353 (by decide) ?_
                refine lv_iadd hx hb dL_law_354 ?_
                refine va_ti (v := .int a2) hx hb hX hS hin2 (by rw [ea2]) dL_law_355 ?_
                refine gj_ne (x := a2) (v1 := 0) (v2 := 1) (tgt := 363) (nx := 364) hx hb dL_law_356 (by decide) ?_ ?_ (fun b20 eb20 => ?_)
                · exact fun kk => lv_iconst (v := 0) hx hb dL_law_363 (by decide) kk
                · exact fun kk => lv_iconst (v := 1) hx hb dL_law_359 (by decide) (lv_goto (tgt := 364) hx hb dL_law_360 (by decide) kk)
                rw [← eb17] at eb20
                rw [eb20]
                have hQ := lW_M hW
                refine gyl_i (w := wM am cm KMv) (w0 := wM am cm KMv v) (wr := wO o cO z19.2 ++ (wP d (ca 2) g ++ wX ad ca K z19.1)) (va_runV (As := [.int a1, .int b17]) (rest := []) ⟨hx, hb, hml, hown, hts⟩ (cM6_cancel l dC dI am cm KMv H.size v a1 b17 _ h) (cwV 2 hts (gG_V wd_925 wd_926 wd_927 wd_52 wd_928) rfl rfl rfl (by decide +kernel) ⟨(Nat.le_of_ble_eq_true rfl), (Nat.le_of_ble_eq_true rfl)⟩) ⟨gB_blind mE_ok, va_recv (hK.sub (tys' := mT cm) [4, 5] rfl) (gP_r hQ.1) (ci := 6) (q0 := 0) rfl rfl, gB_pre mE_ok (gP_r hQ.1) (hK.sub [4, 5] rfl) (gD_r hQ.2) trivial hS hA⟩ rfl rfl hl.1 rfl (lv_room (Nat.le_of_ble_eq_true rfl)) dL_law_364 ⟨by show _ ≤ 601024; omega, by show _ ≤ 7293000; omega⟩) hQ.1 hQ.2 hS hA (fun r21 v22 H locs h hP hD hS => ?_)
                have hW : lW (dC, dI) am cm KMv o cO d (ca 2) A H (wX ad ca K z19.1) v22 z19.2 g := lW_M' hP hD
                clear hQ hP hD
                refine lv_istore (lv' := [(7, .int r21), (6, .int r18), (0, .ref b), (1, .ref (ad 0)), (2, .ref (am 0)), (3, .ref o), (4, .ref d), (5, .int x5)]) hx hb dL_law_367 hl (by decide) rfl (fun ls hl => ?_)
                refine lv_goto (tgt := 732) hx hb dL_law_369 (by decide) ?_
                exact hback _ _ _ _ _ _ _ _ _ _ h hW hS (lv_sub hl [2, 3, 4, 5, 6, 7] rfl) (by omega) (by omega)
              · skip
                by_cases q5 : c0 = 5
                · have h := hob.2.2.2.2.2.1
                  unfold wpC_5 at h
                  have e9 : c0.toInt = 5 := by rw [q5]; rfl
                  refine lv_tableIn (off := 288) (tgt := 372) hx hb dL_law_84 (by rw [e9]; decide) (by rw [e9]; decide) (by rw [e9]; rfl) (by decide) ?_
                  refine lv_aload_n hx hb dL_law_372 rfl (lv_at hl 1 rfl) ?_
                  refine lv_aload_n hx hb dL_law_373 rfl (lv_at hl 0 rfl) ?_
                  refine lv_iload hx hb dL_law_374 (lv_at hl 5 rfl) ?_
                  refine lv_iconst (v := 1) hx hb dL_law_376 (by decide) ?_
                  refine lv_iadd hx hb dL_law_377 ?_
                  refine va_ti (v := .int a1) hx hb hX hS hin1 (by rw [ea1]) dL_law_378 ?_
                  refine lv_aload_n hx hb dL_law_379 rfl (lv_at hl 3 rfl) ?_
                  have hQ := lW_O hW
                  refine gyl_i (w := (fun z : gS × (Nat → Int64) => wO o cO z.2 ++ wX ad ca K z.1)) (w0 := wO o cO f ++ wX ad ca K u) (wr := wP d (ca 2) g ++ wM am cm KMv v) (vx_runSW (As := [.ref (ad 0), .int a1, .ref o]) (rest := []) ⟨hx, hb, hml, hown, hts⟩ (cL_get l hl9 dC dI ad ca K o cO H.size u f a1 _ h) (vx_cwSW 3 hts (gG_SW wd_546 wd_547 wd_45 wd_548) rfl rfl rfl (by decide +kernel) ⟨(Nat.le_of_ble_eq_true rfl), (Nat.le_of_ble_eq_true rfl)⟩) ⟨gB_blind lE_ok, gB_pre lE_ok (gP_r hQ.1) (hK.sub [0, 1, 2, 3] rfl) (gD_r hQ.2) hE hS hA⟩ rfl rfl hl.1 rfl (lv_room (Nat.le_of_ble_eq_true rfl)) dL_law_380 ⟨by show _ ≤ 601024; omega, by show _ ≤ 7293000; omega⟩) hQ.1 hQ.2 hS hA (fun r23 z24 H locs h hP hD hS => ?_)
                  have hW : lW (dC, dI) am cm KMv o cO d (ca 2) A H (wX ad ca K z24.1) v z24.2 g := lW_O' hP hD
                  clear hQ hP hD
                  refine lv_istore (lv' := [(6, .int r23), (0, .ref b), (1, .ref (ad 0)), (2, .ref (am 0)), (3, .ref o), (4, .ref d), (5, .int x5)]) hx hb dL_law_383 hl (by decide) rfl (fun ls hl => ?_)
                  refine lv_aload_n hx hb dL_law_385 rfl (lv_at hl 3 rfl) ?_
                  refine lv_aload_n hx hb dL_law_386 rfl (lv_at hl 1 rfl) ?_
                  refine lv_iload hx hb dL_law_387 (lv_at hl 6 rfl) ?_
                  refine lv_iconst (v := 1) hx hb dL_law_389 (by decide) ?_
                  refine lv_iadd hx hb dL_law_390 ?_
                  refine va_ti (v := .int a1) hx hb hX hS hin1 (by rw [ea1]) dL_law_391 ?_
                  have hQ := lW_M hW
                  refine gyl_i (w := wM am cm KMv) (w0 := wM am cm KMv v) (wr := wO o cO z24.2 ++ (wP d (ca 2) g ++ wX ad ca K z24.1)) (va_runV (As := [.int a1]) (rest := []) ⟨hx, hb, hml, hown, hts⟩ (cM6_get l dC dI am cm KMv H.size v a1 _ h) (cwV 1 hts (gG_V wd_937 wd_938 wd_939 wd_52 wd_940) rfl rfl rfl (by decide +kernel) ⟨(Nat.le_of_ble_eq_true rfl), (Nat.le_of_ble_eq_true rfl)⟩) ⟨gB_blind mE_ok, va_recv (hK.sub (tys' := mT cm) [4, 5] rfl) (gP_r hQ.1) (ci := 6) (q0 := 0) rfl rfl, gB_pre mE_ok (gP_r hQ.1) (hK.sub [4, 5] rfl) (gD_r hQ.2) trivial hS hA⟩ rfl rfl hl.1 rfl (lv_room (Nat.le_of_ble_eq_true rfl)) dL_law_392 ⟨by show _ ≤ 601024; omega, by show _ ≤ 7293000; omega⟩) hQ.1 hQ.2 hS hA (fun r25 v26 H locs h hP hD hS => ?_)
                  have hW : lW (dC, dI) am cm KMv o cO d (ca 2) A H (wX ad ca K z24.1) v26 z24.2 g := lW_M' hP hD
                  clear hQ hP hD
                  refine lv_istore (lv' := [(7, .int r25), (6, .int r23), (0, .ref b), (1, .ref (ad 0)), (2, .ref (am 0)), (3, .ref o), (4, .ref d), (5, .int x5)]) hx hb dL_law_395 hl (by decide) rfl (fun ls hl => ?_)
                  refine lv_goto (tgt := 732) hx hb dL_law_397 (by decide) ?_
                  exact hback _ _ _ _ _ _ _ _ _ _ h hW hS (lv_sub hl [2, 3, 4, 5, 6, 7] rfl) (by omega) (by omega)
                · skip
                  by_cases q6 : c0 = 6
                  · have h := hob.2.2.2.2.2.2.1
                    unfold wpC_6 at h
                    have e9 : c0.toInt = 6 := by rw [q6]; rfl
                    refine lv_tableIn (off := 316) (tgt := 400) hx hb dL_law_84 (by rw [e9]; decide) (by rw [e9]; decide) (by rw [e9]; rfl) (by decide) ?_
                    refine lv_aload_n hx hb dL_law_400 rfl (lv_at hl 1 rfl) ?_
                    refine lv_aload_n hx hb dL_law_401 rfl (lv_at hl 0 rfl) ?_
                    refine lv_iload hx hb dL_law_402 (lv_at hl 5 rfl) ?_
                    refine lv_iconst (v := 1) hx hb dL_law_404 (by decide) ?_
                    refine lv_iadd hx hb dL_law_405 ?_
                    refine va_ti (v := .int a1) hx hb hX hS hin1 (by rw [ea1]) dL_law_406 ?_
                    refine lv_aload_n hx hb dL_law_407 rfl (lv_at hl 0 rfl) ?_
                    refine lv_iload hx hb dL_law_408 (lv_at hl 5 rfl) ?_
                    refine lv_iconst (v := 2) hx hb dL_law_410 (by decide) ?_
                    refine lv_iadd hx hb dL_law_411 ?_
                    refine va_ti (v := .int a2) hx hb hX hS hin2 (by rw [ea2]) dL_law_412 ?_
                    refine lv_i2d hx hb dL_law_413 ?_
                    refine lv_ldc2d (v := 4593671619917905920) hx hb hown (hts _ wd_988) dL_law_414 ?_
                    obtain ⟨nt27, h⟩ := h
                    refine lv_dmul hx hb dL_law_417 nt27 ?_
                    refine lv_topd (fun t27 et27 => ?_)
                    rw [← et27] at nt27
                    have h := h t27 et27
                    refine lv_aload_n hx hb dL_law_418 rfl (lv_at hl 0 rfl) ?_
                    refine lv_iload hx hb dL_law_419 (lv_at hl 5 rfl) ?_
                    refine lv_iconst (v := 3) hx hb dL_law_421 (by decide) ?_
                    refine lv_iadd hx hb dL_law_422 ?_
                    refine va_ti (v := .int a3) hx hb hX hS hin3 (by rw [ea3]) dL_law_423 ?_
                    refine lv_i2d hx hb dL_law_424 ?_
                    refine lv_ldc2d (v := 4593671619917905920) hx hb hown (hts _ wd_988) dL_law_425 ?_
                    obtain ⟨nt28, h⟩ := h
                    refine lv_dmul hx hb dL_law_428 nt28 ?_
                    refine lv_topd (fun t28 et28 => ?_)
                    rw [← et28] at nt28
                    have h := h t28 et28
                    refine lv_aload_n hx hb dL_law_429 rfl (lv_at hl 3 rfl) ?_
                    have hQ := lW_O hW
                    refine gyl_i (w := (fun z : gS × (Nat → Int64) => wO o cO z.2 ++ wX ad ca K z.1)) (w0 := wO o cO f ++ wX ad ca K u) (wr := wP d (ca 2) g ++ wM am cm KMv v) (vx_runSW (As := [.ref (ad 0), .int a1, .double t27, .double t28, .ref o]) (rest := []) ⟨hx, hb, hml, hown, hts⟩ (cL_clock l hl9 dC dI ad ca K o cO H.size u f a1 t27 t28 _ h) (vx_cwSW 5 hts (gG_SW wd_590 wd_591 wd_45 wd_592) rfl rfl rfl (by decide +kernel) ⟨(Nat.le_of_ble_eq_true rfl), (Nat.le_of_ble_eq_true rfl)⟩) ⟨gB_blind lE_ok, gB_pre lE_ok (gP_r hQ.1) (hK.sub [0, 1, 2, 3] rfl) (gD_r hQ.2) hE hS hA⟩ rfl rfl hl.1 rfl (lv_room (Nat.le_of_ble_eq_true rfl)) dL_law_430 ⟨by show _ ≤ 601024; omega, by show _ ≤ 7293000; omega⟩) hQ.1 hQ.2 hS hA (fun r29 z30 H locs h hP hD hS => ?_)
                    have hW : lW (dC, dI) am cm KMv o cO d (ca 2) A H (wX ad ca K z30.1) v z30.2 g := lW_O' hP hD
                    clear hQ hP hD
                    refine lv_istore (lv' := [(6, .int r29), (0, .ref b), (1, .ref (ad 0)), (2, .ref (am 0)), (3, .ref o), (4, .ref d), (5, .int x5)]) hx hb dL_law_433 hl (by decide) rfl (fun ls hl => ?_)
                    refine lv_aload_n hx hb dL_law_435 rfl (lv_at hl 3 rfl) ?_
                    refine lv_aload_n hx hb dL_law_436 rfl (lv_at hl 1 rfl) ?_
                    refine lv_iload hx hb dL_law_437 (lv_at hl 6 rfl) ?_
                    refine lv_iconst (v := 1) hx hb dL_law_439 (by decide) ?_
                    refine lv_iadd hx hb dL_law_440 ?_
                    refine va_ti (v := .int a1) hx hb hX hS hin1 (by rw [ea1]) dL_law_441 ?_
                    refine lv_aload_n hx hb dL_law_442 rfl (lv_at hl 1 rfl) ?_
                    refine lv_iload hx hb dL_law_443 (lv_at hl 6 rfl) ?_
                    refine lv_iconst (v := 2) hx hb dL_law_445 (by decide) ?_
                    refine lv_iadd hx hb dL_law_446 ?_
                    refine va_ti (v := .int a2) hx hb hX hS hin2 (by rw [ea2]) dL_law_447 ?_
                    refine lv_i2d hx hb dL_law_448 ?_
                    refine lv_ldc2d (v := 4593671619917905920) hx hb hown (hts _ wd_988) dL_law_449 ?_
                    refine lv_dmul hx hb dL_law_452 (by rw [← et27]; exact nt27) ?_
                    rw [← et27]
                    refine lv_aload_n hx hb dL_law_453 rfl (lv_at hl 1 rfl) ?_
                    refine lv_iload hx hb dL_law_454 (lv_at hl 6 rfl) ?_
                    refine lv_iconst (v := 3) hx hb dL_law_456 (by decide) ?_
                    refine lv_iadd hx hb dL_law_457 ?_
                    refine va_ti (v := .int a3) hx hb hX hS hin3 (by rw [ea3]) dL_law_458 ?_
                    refine lv_i2d hx hb dL_law_459 ?_
                    refine lv_ldc2d (v := 4593671619917905920) hx hb hown (hts _ wd_988) dL_law_460 ?_
                    refine lv_dmul hx hb dL_law_463 (by rw [← et28]; exact nt28) ?_
                    rw [← et28]
                    have hQ := lW_M hW
                    refine gyl_i (w := wM am cm KMv) (w0 := wM am cm KMv v) (wr := wO o cO z30.2 ++ (wP d (ca 2) g ++ wX ad ca K z30.1)) (va_runV (As := [.int a1, .double t27, .double t28]) (rest := []) ⟨hx, hb, hml, hown, hts⟩ (cM6_clock l dC dI am cm KMv H.size v a1 t27 t28 _ h) (cwV 3 hts (gG_V wd_941 wd_942 wd_943 wd_52 wd_944) rfl rfl rfl (by decide +kernel) ⟨(Nat.le_of_ble_eq_true rfl), (Nat.le_of_ble_eq_true rfl)⟩) ⟨gB_blind mE_ok, va_recv (hK.sub (tys' := mT cm) [4, 5] rfl) (gP_r hQ.1) (ci := 6) (q0 := 0) rfl rfl, gB_pre mE_ok (gP_r hQ.1) (hK.sub [4, 5] rfl) (gD_r hQ.2) trivial hS hA⟩ rfl rfl hl.1 rfl (lv_room (Nat.le_of_ble_eq_true rfl)) dL_law_464 ⟨by show _ ≤ 601024; omega, by show _ ≤ 7293000; omega⟩) hQ.1 hQ.2 hS hA (fun r31 v32 H locs h hP hD hS => ?_)
                    have hW : lW (dC, dI) am cm KMv o cO d (ca 2) A H (wX ad ca K z30.1) v32 z30.2 g := lW_M' hP hD
                    clear hQ hP hD
                    refine lv_istore (lv' := [(7, .int r31), (6, .int r29), (0, .ref b), (1, .ref (ad 0)), (2, .ref (am 0)), (3, .ref o), (4, .ref d), (5, .int x5)]) hx hb dL_law_467 hl (by decide) rfl (fun ls hl => ?_)
                    refine lv_goto (tgt := 732) hx hb dL_law_469 (by decide) ?_
                    exact hback _ _ _ _ _ _ _ _ _ _ h hW hS (lv_sub hl [2, 3, 4, 5, 6, 7] rfl) (by omega) (by omega)
                  · skip
                    by_cases q7 : c0 = 7
                    · have h := hob.2.2.2.2.2.2.2.1
                      unfold wpC_7 at h
                      have e9 : c0.toInt = 7 := by rw [q7]; rfl
                      refine lv_tableIn (off := 388) (tgt := 472) hx hb dL_law_84 (by rw [e9]; decide) (by rw [e9]; decide) (by rw [e9]; rfl) (by decide) ?_
                      refine lv_aload_n hx hb dL_law_472 rfl (lv_at hl 1 rfl) ?_
                      refine lv_aload_n hx hb dL_law_473 rfl (lv_at hl 0 rfl) ?_
                      refine lv_iload hx hb dL_law_474 (lv_at hl 5 rfl) ?_
                      refine lv_iconst (v := 1) hx hb dL_law_476 (by decide) ?_
                      refine lv_iadd hx hb dL_law_477 ?_
                      refine va_ti (v := .int a1) hx hb hX hS hin1 (by rw [ea1]) dL_law_478 ?_
                      refine lv_i2d hx hb dL_law_479 ?_
                      refine lv_ldc2d (v := 4593671619917905920) hx hb hown (hts _ wd_988) dL_law_480 ?_
                      obtain ⟨nt33, h⟩ := h
                      refine lv_dmul hx hb dL_law_483 nt33 ?_
                      refine lv_topd (fun t33 et33 => ?_)
                      rw [← et33] at nt33
                      have h := h t33 et33
                      refine lv_aload_n hx hb dL_law_484 rfl (lv_at hl 3 rfl) ?_
                      have hQ := lW_O hW
                      refine gyl_i (w := (fun z : gS × (Nat → Int64) => wO o cO z.2 ++ wX ad ca K z.1)) (w0 := wO o cO f ++ wX ad ca K u) (wr := wP d (ca 2) g ++ wM am cm KMv v) (vx_runSW (As := [.ref (ad 0), .double t33, .ref o]) (rest := []) ⟨hx, hb, hml, hown, hts⟩ (cL_tick l hl9 dC dI ad ca K o cO H.size u f t33 _ h) (vx_cwSW 3 hts (gG_SW wd_605 wd_606 wd_45 wd_607) rfl rfl rfl (by decide +kernel) ⟨(Nat.le_of_ble_eq_true rfl), (Nat.le_of_ble_eq_true rfl)⟩) ⟨gB_blind lE_ok, gB_pre lE_ok (gP_r hQ.1) (hK.sub [0, 1, 2, 3] rfl) (gD_r hQ.2) hE hS hA⟩ rfl rfl hl.1 rfl (lv_room (Nat.le_of_ble_eq_true rfl)) dL_law_485 ⟨by show _ ≤ 601024; omega, by show _ ≤ 7293000; omega⟩) hQ.1 hQ.2 hS hA (fun r34 z35 H locs h hP hD hS => ?_)
                      have hW : lW (dC, dI) am cm KMv o cO d (ca 2) A H (wX ad ca K z35.1) v z35.2 g := lW_O' hP hD
                      clear hQ hP hD
                      refine lv_istore (lv' := [(6, .int r34), (0, .ref b), (1, .ref (ad 0)), (2, .ref (am 0)), (3, .ref o), (4, .ref d), (5, .int x5)]) hx hb dL_law_488 hl (by decide) rfl (fun ls hl => ?_)
                      refine lv_aload_n hx hb dL_law_490 rfl (lv_at hl 3 rfl) ?_
                      refine lv_aload_n hx hb dL_law_491 rfl (lv_at hl 1 rfl) ?_
                      refine lv_iload hx hb dL_law_492 (lv_at hl 6 rfl) ?_
                      refine lv_iconst (v := 1) hx hb dL_law_494 (by decide) ?_
                      refine lv_iadd hx hb dL_law_495 ?_
                      refine va_ti (v := .int a1) hx hb hX hS hin1 (by rw [ea1]) dL_law_496 ?_
                      refine lv_i2d hx hb dL_law_497 ?_
                      refine lv_ldc2d (v := 4593671619917905920) hx hb hown (hts _ wd_988) dL_law_498 ?_
                      refine lv_dmul hx hb dL_law_501 (by rw [← et33]; exact nt33) ?_
                      rw [← et33]
                      have hQ := lW_M hW
                      refine gyl_i (w := wM am cm KMv) (w0 := wM am cm KMv v) (wr := wO o cO z35.2 ++ (wP d (ca 2) g ++ wX ad ca K z35.1)) (va_runV (As := [.double t33]) (rest := []) ⟨hx, hb, hml, hown, hts⟩ (cM6_tick l dC dI am cm KMv H.size v t33 _ h) (cwV 1 hts (gG_V wd_950 wd_951 wd_952 wd_52 wd_953) rfl rfl rfl (by decide +kernel) ⟨(Nat.le_of_ble_eq_true rfl), (Nat.le_of_ble_eq_true rfl)⟩) ⟨gB_blind mE_ok, va_recv (hK.sub (tys' := mT cm) [4, 5] rfl) (gP_r hQ.1) (ci := 6) (q0 := 0) rfl rfl, gB_pre mE_ok (gP_r hQ.1) (hK.sub [4, 5] rfl) (gD_r hQ.2) trivial hS hA⟩ rfl rfl hl.1 rfl (lv_room (Nat.le_of_ble_eq_true rfl)) dL_law_502 ⟨by show _ ≤ 601024; omega, by show _ ≤ 7293000; omega⟩) hQ.1 hQ.2 hS hA (fun r36 v37 H locs h hP hD hS => ?_)
                      have hW : lW (dC, dI) am cm KMv o cO d (ca 2) A H (wX ad ca K z35.1) v37 z35.2 g := lW_M' hP hD
                      clear hQ hP hD
                      refine lv_istore (lv' := [(7, .int r36), (6, .int r34), (0, .ref b), (1, .ref (ad 0)), (2, .ref (am 0)), (3, .ref o), (4, .ref d), (5, .int x5)]) hx hb dL_law_505 hl (by decide) rfl (fun ls hl => ?_)
                      refine lv_goto (tgt := 732) hx hb dL_law_507 (by decide) ?_
                      exact hback _ _ _ _ _ _ _ _ _ _ h hW hS (lv_sub hl [2, 3, 4, 5, 6, 7] rfl) (by omega) (by omega)
                    · skip
                      by_cases q8 : c0 = 8
                      · have h := hob.2.2.2.2.2.2.2.2.1
                        unfold wpC_8 at h
                        have e9 : c0.toInt = 8 := by rw [q8]; rfl
                        refine lv_tableIn (off := 426) (tgt := 510) hx hb dL_law_84 (by rw [e9]; decide) (by rw [e9]; decide) (by rw [e9]; rfl) (by decide) ?_
                        refine lv_aload_n hx hb dL_law_510 rfl (lv_at hl 1 rfl) ?_
                        refine lv_aload_n hx hb dL_law_511 rfl (lv_at hl 0 rfl) ?_
                        refine lv_iload hx hb dL_law_512 (lv_at hl 5 rfl) ?_
                        refine lv_iconst (v := 1) hx hb dL_law_514 (by decide) ?_
                        refine lv_iadd hx hb dL_law_515 ?_
                        refine va_ti (v := .int a1) hx hb hX hS hin1 (by rw [ea1]) dL_law_516 ?_
                        refine gj_ne (x := a1) (v1 := 0) (v2 := 1) (tgt := 524) (nx := 525) hx hb dL_law_517 (by decide) ?_ ?_ (fun b38 eb38 => ?_)
                        · exact fun kk => lv_iconst (v := 0) hx hb dL_law_524 (by decide) kk
                        · exact fun kk => lv_iconst (v := 1) hx hb dL_law_520 (by decide) (lv_goto (tgt := 525) hx hb dL_law_521 (by decide) kk)
                        have h := h b38 eb38
                        refine lv_aload_n hx hb dL_law_525 rfl (lv_at hl 3 rfl) ?_
                        have hQ := lW_O hW
                        refine gyl_i (w := (fun z : gS × (Nat → Int64) => wO o cO z.2 ++ wX ad ca K z.1)) (w0 := wO o cO f ++ wX ad ca K u) (wr := wP d (ca 2) g ++ wM am cm KMv v) (vx_runSW (As := [.ref (ad 0), .int b38, .ref o]) (rest := []) ⟨hx, hb, hml, hown, hts⟩ (cL_shut l hl9 dC dI ad ca K o cO H.size u f b38 _ h) (vx_cwSW 3 hts (gG_SW wd_634 wd_635 wd_45 wd_636) rfl rfl rfl (by decide +kernel) ⟨(Nat.le_of_ble_eq_true rfl), (Nat.le_of_ble_eq_true rfl)⟩) ⟨gB_blind lE_ok, gB_pre lE_ok (gP_r hQ.1) (hK.sub [0, 1, 2, 3] rfl) (gD_r hQ.2) hE hS hA⟩ rfl rfl hl.1 rfl (lv_room (Nat.le_of_ble_eq_true rfl)) dL_law_526 ⟨by show _ ≤ 601024; omega, by show _ ≤ 7293000; omega⟩) hQ.1 hQ.2 hS hA (fun r39 z40 H locs h hP hD hS => ?_)
                        have hW : lW (dC, dI) am cm KMv o cO d (ca 2) A H (wX ad ca K z40.1) v z40.2 g := lW_O' hP hD
                        clear hQ hP hD
                        refine lv_istore (lv' := [(6, .int r39), (0, .ref b), (1, .ref (ad 0)), (2, .ref (am 0)), (3, .ref o), (4, .ref d), (5, .int x5)]) hx hb dL_law_529 hl (by decide) rfl (fun ls hl => ?_)
                        refine lv_aload_n hx hb dL_law_531 rfl (lv_at hl 3 rfl) ?_
                        refine lv_aload_n hx hb dL_law_532 rfl (lv_at hl 1 rfl) ?_
                        refine lv_iload hx hb dL_law_533 (lv_at hl 6 rfl) ?_
                        refine lv_iconst (v := 1) hx hb dL_law_535 (by decide) ?_
                        refine lv_iadd hx hb dL_law_536 ?_
                        refine va_ti (v := .int a1) hx hb hX hS hin1 (by rw [ea1]) dL_law_537 ?_
                        refine gj_ne (x := a1) (v1 := 0) (v2 := 1) (tgt := 545) (nx := 546) hx hb dL_law_538 (by decide) ?_ ?_ (fun b41 eb41 => ?_)
                        · exact fun kk => lv_iconst (v := 0) hx hb dL_law_545 (by decide) kk
                        · exact fun kk => lv_iconst (v := 1) hx hb dL_law_541 (by decide) (lv_goto (tgt := 546) hx hb dL_law_542 (by decide) kk)
                        rw [← eb38] at eb41
                        rw [eb41]
                        have hQ := lW_M hW
                        refine gyl_i (w := wM am cm KMv) (w0 := wM am cm KMv v) (wr := wO o cO z40.2 ++ (wP d (ca 2) g ++ wX ad ca K z40.1)) (va_runV (As := [.int b38]) (rest := []) ⟨hx, hb, hml, hown, hts⟩ (cM6_shut l dC dI am cm KMv H.size v b38 _ h) (cwV 1 hts (gG_V wd_964 wd_965 wd_966 wd_52 wd_967) rfl rfl rfl (by decide +kernel) ⟨(Nat.le_of_ble_eq_true rfl), (Nat.le_of_ble_eq_true rfl)⟩) ⟨gB_blind mE_ok, va_recv (hK.sub (tys' := mT cm) [4, 5] rfl) (gP_r hQ.1) (ci := 6) (q0 := 0) rfl rfl, gB_pre mE_ok (gP_r hQ.1) (hK.sub [4, 5] rfl) (gD_r hQ.2) trivial hS hA⟩ rfl rfl hl.1 rfl (lv_room (Nat.le_of_ble_eq_true rfl)) dL_law_546 ⟨by show _ ≤ 601024; omega, by show _ ≤ 7293000; omega⟩) hQ.1 hQ.2 hS hA (fun r42 v43 H locs h hP hD hS => ?_)
                        have hW : lW (dC, dI) am cm KMv o cO d (ca 2) A H (wX ad ca K z40.1) v43 z40.2 g := lW_M' hP hD
                        clear hQ hP hD
                        refine lv_istore (lv' := [(7, .int r42), (6, .int r39), (0, .ref b), (1, .ref (ad 0)), (2, .ref (am 0)), (3, .ref o), (4, .ref d), (5, .int x5)]) hx hb dL_law_549 hl (by decide) rfl (fun ls hl => ?_)
                        refine lv_goto (tgt := 732) hx hb dL_law_551 (by decide) ?_
                        exact hback _ _ _ _ _ _ _ _ _ _ h hW hS (lv_sub hl [2, 3, 4, 5, 6, 7] rfl) (by omega) (by omega)
                      · skip
                        by_cases q9 : c0 = 9
                        · have h := hob.2.2.2.2.2.2.2.2.2.1
                          unfold wpC_9 at h
                          have e9 : c0.toInt = 9 := by rw [q9]; rfl
                          refine lv_tableIn (off := 470) (tgt := 554) hx hb dL_law_84 (by rw [e9]; decide) (by rw [e9]; decide) (by rw [e9]; rfl) (by decide) ?_
                          refine lv_aload_n hx hb dL_law_554 rfl (lv_at hl 1 rfl) ?_
                          refine lv_aload_n hx hb dL_law_555 rfl (lv_at hl 0 rfl) ?_
                          refine lv_iload hx hb dL_law_556 (lv_at hl 5 rfl) ?_
                          refine lv_iconst (v := 1) hx hb dL_law_558 (by decide) ?_
                          refine lv_iadd hx hb dL_law_559 ?_
                          refine va_ti (v := .int a1) hx hb hX hS hin1 (by rw [ea1]) dL_law_560 ?_
                          refine lv_aload_n hx hb dL_law_561 rfl (lv_at hl 0 rfl) ?_
                          refine lv_iload hx hb dL_law_562 (lv_at hl 5 rfl) ?_
                          refine lv_iconst (v := 2) hx hb dL_law_564 (by decide) ?_
                          refine lv_iadd hx hb dL_law_565 ?_
                          refine va_ti (v := .int a2) hx hb hX hS hin2 (by rw [ea2]) dL_law_566 ?_
                          refine lv_aload_n hx hb dL_law_567 rfl (lv_at hl 3 rfl) ?_
                          have hQ := lW_O hW
                          refine gyl_i (w := (fun z : gS × (Nat → Int64) => wO o cO z.2 ++ wX ad ca K z.1)) (w0 := wO o cO f ++ wX ad ca K u) (wr := wP d (ca 2) g ++ wM am cm KMv v) (vx_runSW (As := [.ref (ad 0), .int a1, .int a2, .ref o]) (rest := []) ⟨hx, hb, hml, hown, hts⟩ (cL_about l hl9 dC dI ad ca K o cO H.size u f a1 a2 _ h) (vx_cwSW 4 hts (gG_SW wd_651 wd_652 wd_45 wd_653) rfl rfl rfl (by decide +kernel) ⟨(Nat.le_of_ble_eq_true rfl), (Nat.le_of_ble_eq_true rfl)⟩) ⟨gB_blind lE_ok, gB_pre lE_ok (gP_r hQ.1) (hK.sub [0, 1, 2, 3] rfl) (gD_r hQ.2) hE hS hA⟩ rfl rfl hl.1 rfl (lv_room (Nat.le_of_ble_eq_true rfl)) dL_law_568 ⟨by show _ ≤ 601024; omega, by show _ ≤ 7293000; omega⟩) hQ.1 hQ.2 hS hA (fun r44 z45 H locs h hP hD hS => ?_)
                          have hW : lW (dC, dI) am cm KMv o cO d (ca 2) A H (wX ad ca K z45.1) v z45.2 g := lW_O' hP hD
                          clear hQ hP hD
                          refine lv_istore (lv' := [(6, .int r44), (0, .ref b), (1, .ref (ad 0)), (2, .ref (am 0)), (3, .ref o), (4, .ref d), (5, .int x5)]) hx hb dL_law_571 hl (by decide) rfl (fun ls hl => ?_)
                          refine lv_aload_n hx hb dL_law_573 rfl (lv_at hl 3 rfl) ?_
                          refine lv_aload_n hx hb dL_law_574 rfl (lv_at hl 1 rfl) ?_
                          refine lv_iload hx hb dL_law_575 (lv_at hl 6 rfl) ?_
                          refine lv_iconst (v := 1) hx hb dL_law_577 (by decide) ?_
                          refine lv_iadd hx hb dL_law_578 ?_
                          refine va_ti (v := .int a1) hx hb hX hS hin1 (by rw [ea1]) dL_law_579 ?_
                          refine lv_aload_n hx hb dL_law_580 rfl (lv_at hl 1 rfl) ?_
                          refine lv_iload hx hb dL_law_581 (lv_at hl 6 rfl) ?_
                          refine lv_iconst (v := 2) hx hb dL_law_583 (by decide) ?_
                          refine lv_iadd hx hb dL_law_584 ?_
                          refine va_ti (v := .int a2) hx hb hX hS hin2 (by rw [ea2]) dL_law_585 ?_
                          have hQ := lW_M hW
                          refine gyl_i (w := wM am cm KMv) (w0 := wM am cm KMv v) (wr := wO o cO z45.2 ++ (wP d (ca 2) g ++ wX ad ca K z45.1)) (va_runV (As := [.int a1, .int a2]) (rest := []) ⟨hx, hb, hml, hown, hts⟩ (cM6_about l dC dI am cm KMv H.size v a1 a2 _ h) (cwV 2 hts (gG_V wd_968 wd_969 wd_970 wd_52 wd_971) rfl rfl rfl (by decide +kernel) ⟨(Nat.le_of_ble_eq_true rfl), (Nat.le_of_ble_eq_true rfl)⟩) ⟨gB_blind mE_ok, va_recv (hK.sub (tys' := mT cm) [4, 5] rfl) (gP_r hQ.1) (ci := 6) (q0 := 0) rfl rfl, gB_pre mE_ok (gP_r hQ.1) (hK.sub [4, 5] rfl) (gD_r hQ.2) trivial hS hA⟩ rfl rfl hl.1 rfl (lv_room (Nat.le_of_ble_eq_true rfl)) dL_law_586 ⟨by show _ ≤ 601024; omega, by show _ ≤ 7293000; omega⟩) hQ.1 hQ.2 hS hA (fun r46 v47 H locs h hP hD hS => ?_)
                          have hW : lW (dC, dI) am cm KMv o cO d (ca 2) A H (wX ad ca K z45.1) v47 z45.2 g := lW_M' hP hD
                          clear hQ hP hD
                          refine lv_istore (lv' := [(7, .int r46), (6, .int r44), (0, .ref b), (1, .ref (ad 0)), (2, .ref (am 0)), (3, .ref o), (4, .ref d), (5, .int x5)]) hx hb dL_law_589 hl (by decide) rfl (fun ls hl => ?_)
                          refine lv_goto (tgt := 732) hx hb dL_law_591 (by decide) ?_
                          exact hback _ _ _ _ _ _ _ _ _ _ h hW hS (lv_sub hl [2, 3, 4, 5, 6, 7] rfl) (by omega) (by omega)
                        · skip
                          by_cases q10 : c0 = 10
                          · have h := hob.2.2.2.2.2.2.2.2.2.2.1
                            unfold wpC_10 at h
                            have e9 : c0.toInt = 10 := by rw [q10]; rfl
                            refine lv_tableIn (off := 510) (tgt := 594) hx hb dL_law_84 (by rw [e9]; decide) (by rw [e9]; decide) (by rw [e9]; rfl) (by decide) ?_
                            refine lv_aload_n hx hb dL_law_594 rfl (lv_at hl 1 rfl) ?_
                            refine lv_aload_n hx hb dL_law_595 rfl (lv_at hl 0 rfl) ?_
                            refine lv_iload hx hb dL_law_596 (lv_at hl 5 rfl) ?_
                            refine lv_iconst (v := 1) hx hb dL_law_598 (by decide) ?_
                            refine lv_iadd hx hb dL_law_599 ?_
                            refine va_ti (v := .int a1) hx hb hX hS hin1 (by rw [ea1]) dL_law_600 ?_
                            refine lv_aload_n hx hb dL_law_601 rfl (lv_at hl 3 rfl) ?_
                            have hQ := lW_O hW
                            refine gyl_i (w := (fun z : gS × (Nat → Int64) => wO o cO z.2 ++ wX ad ca K z.1)) (w0 := wO o cO f ++ wX ad ca K u) (wr := wP d (ca 2) g ++ wM am cm KMv v) (vx_runSW (As := [.ref (ad 0), .int a1, .ref o]) (rest := []) ⟨hx, hb, hml, hown, hts⟩ (cL_worker l hl9 dC dI ad ca K o cO H.size u f a1 _ h) (vx_cwSW 3 hts (gG_SW wd_662 wd_663 wd_45 wd_664) rfl rfl rfl (by decide +kernel) ⟨(Nat.le_of_ble_eq_true rfl), (Nat.le_of_ble_eq_true rfl)⟩) ⟨gB_blind lE_ok, gB_pre lE_ok (gP_r hQ.1) (hK.sub [0, 1, 2, 3] rfl) (gD_r hQ.2) hE hS hA⟩ rfl rfl hl.1 rfl (lv_room (Nat.le_of_ble_eq_true rfl)) dL_law_602 ⟨by show _ ≤ 601024; omega, by show _ ≤ 7293000; omega⟩) hQ.1 hQ.2 hS hA (fun r48 z49 H locs h hP hD hS => ?_)
                            have hW : lW (dC, dI) am cm KMv o cO d (ca 2) A H (wX ad ca K z49.1) v z49.2 g := lW_O' hP hD
                            clear hQ hP hD
                            refine lv_istore (lv' := [(6, .int r48), (0, .ref b), (1, .ref (ad 0)), (2, .ref (am 0)), (3, .ref o), (4, .ref d), (5, .int x5)]) hx hb dL_law_605 hl (by decide) rfl (fun ls hl => ?_)
                            refine lv_aload_n hx hb dL_law_607 rfl (lv_at hl 3 rfl) ?_
                            refine lv_aload_n hx hb dL_law_608 rfl (lv_at hl 1 rfl) ?_
                            refine lv_iload hx hb dL_law_609 (lv_at hl 6 rfl) ?_
                            refine lv_iconst (v := 1) hx hb dL_law_611 (by decide) ?_
                            refine lv_iadd hx hb dL_law_612 ?_
                            refine va_ti (v := .int a1) hx hb hX hS hin1 (by rw [ea1]) dL_law_613 ?_
                            have hQ := lW_M hW
                            refine gyl_i (w := wM am cm KMv) (w0 := wM am cm KMv v) (wr := wO o cO z49.2 ++ (wP d (ca 2) g ++ wX ad ca K z49.1)) (va_runV (As := [.int a1]) (rest := []) ⟨hx, hb, hml, hown, hts⟩ (cM6_worker l dC dI am cm KMv H.size v a1 _ h) (cwV 1 hts (gG_V wd_972 wd_973 wd_974 wd_52 wd_975) rfl rfl rfl (by decide +kernel) ⟨(Nat.le_of_ble_eq_true rfl), (Nat.le_of_ble_eq_true rfl)⟩) ⟨gB_blind mE_ok, va_recv (hK.sub (tys' := mT cm) [4, 5] rfl) (gP_r hQ.1) (ci := 6) (q0 := 0) rfl rfl, gB_pre mE_ok (gP_r hQ.1) (hK.sub [4, 5] rfl) (gD_r hQ.2) trivial hS hA⟩ rfl rfl hl.1 rfl (lv_room (Nat.le_of_ble_eq_true rfl)) dL_law_614 ⟨by show _ ≤ 601024; omega, by show _ ≤ 7293000; omega⟩) hQ.1 hQ.2 hS hA (fun r50 v51 H locs h hP hD hS => ?_)
                            have hW : lW (dC, dI) am cm KMv o cO d (ca 2) A H (wX ad ca K z49.1) v51 z49.2 g := lW_M' hP hD
                            clear hQ hP hD
                            refine lv_istore (lv' := [(7, .int r50), (6, .int r48), (0, .ref b), (1, .ref (ad 0)), (2, .ref (am 0)), (3, .ref o), (4, .ref d), (5, .int x5)]) hx hb dL_law_617 hl (by decide) rfl (fun ls hl => ?_)
                            refine lv_goto (tgt := 732) hx hb dL_law_619 (by decide) ?_
                            exact hback _ _ _ _ _ _ _ _ _ _ h hW hS (lv_sub hl [2, 3, 4, 5, 6, 7] rfl) (by omega) (by omega)
                          · skip
                            by_cases q11 : c0 = 11
                            · have h := hob.2.2.2.2.2.2.2.2.2.2.2.1
                              unfold wpC_11 at h
                              have e9 : c0.toInt = 11 := by rw [q11]; rfl
                              refine lv_tableIn (off := 538) (tgt := 622) hx hb dL_law_84 (by rw [e9]; decide) (by rw [e9]; decide) (by rw [e9]; rfl) (by decide) ?_
                              refine lv_aload_n hx hb dL_law_622 rfl (lv_at hl 1 rfl) ?_
                              refine lv_aload_n hx hb dL_law_623 rfl (lv_at hl 0 rfl) ?_
                              refine lv_iload hx hb dL_law_624 (lv_at hl 5 rfl) ?_
                              refine lv_iconst (v := 1) hx hb dL_law_626 (by decide) ?_
                              refine lv_iadd hx hb dL_law_627 ?_
                              refine va_ti (v := .int a1) hx hb hX hS hin1 (by rw [ea1]) dL_law_628 ?_
                              refine lv_aload_n hx hb dL_law_629 rfl (lv_at hl 3 rfl) ?_
                              have hQ := lW_O hW
                              refine gyl_i (w := (fun z : gS × (Nat → Int64) => wO o cO z.2 ++ wX ad ca K z.1)) (w0 := wO o cO f ++ wX ad ca K u) (wr := wP d (ca 2) g ++ wM am cm KMv v) (vx_runSW (As := [.ref (ad 0), .int a1, .ref o]) (rest := []) ⟨hx, hb, hml, hown, hts⟩ (cL_count l hl9 dC dI ad ca K o cO H.size u f a1 _ h) (vx_cwSW 3 hts (gG_SW wd_670 wd_671 wd_45 wd_672) rfl rfl rfl (by decide +kernel) ⟨(Nat.le_of_ble_eq_true rfl), (Nat.le_of_ble_eq_true rfl)⟩) ⟨gB_blind lE_ok, gB_pre lE_ok (gP_r hQ.1) (hK.sub [0, 1, 2, 3] rfl) (gD_r hQ.2) hE hS hA⟩ rfl rfl hl.1 rfl (lv_room (Nat.le_of_ble_eq_true rfl)) dL_law_630 ⟨by show _ ≤ 601024; omega, by show _ ≤ 7293000; omega⟩) hQ.1 hQ.2 hS hA (fun r52 z53 H locs h hP hD hS => ?_)
                              have hW : lW (dC, dI) am cm KMv o cO d (ca 2) A H (wX ad ca K z53.1) v z53.2 g := lW_O' hP hD
                              clear hQ hP hD
                              refine lv_istore (lv' := [(6, .int r52), (0, .ref b), (1, .ref (ad 0)), (2, .ref (am 0)), (3, .ref o), (4, .ref d), (5, .int x5)]) hx hb dL_law_633 hl (by decide) rfl (fun ls hl => ?_)
                              refine lv_aload_n hx hb dL_law_635 rfl (lv_at hl 3 rfl) ?_
                              refine lv_aload_n hx hb dL_law_636 rfl (lv_at hl 1 rfl) ?_
                              refine lv_iload hx hb dL_law_637 (lv_at hl 6 rfl) ?_
                              refine lv_iconst (v := 1) hx hb dL_law_639 (by decide) ?_
                              refine lv_iadd hx hb dL_law_640 ?_
                              refine va_ti (v := .int a1) hx hb hX hS hin1 (by rw [ea1]) dL_law_641 ?_
                              have hQ := lW_M hW
                              refine gyl_i (w := wM am cm KMv) (w0 := wM am cm KMv v) (wr := wO o cO z53.2 ++ (wP d (ca 2) g ++ wX ad ca K z53.1)) (va_runV (As := [.int a1]) (rest := []) ⟨hx, hb, hml, hown, hts⟩ (cM6_count l dC dI am cm KMv H.size v a1 _ h) (cwV 1 hts (gG_V wd_976 wd_977 wd_978 wd_52 wd_979) rfl rfl rfl (by decide +kernel) ⟨(Nat.le_of_ble_eq_true rfl), (Nat.le_of_ble_eq_true rfl)⟩) ⟨gB_blind mE_ok, va_recv (hK.sub (tys' := mT cm) [4, 5] rfl) (gP_r hQ.1) (ci := 6) (q0 := 0) rfl rfl, gB_pre mE_ok (gP_r hQ.1) (hK.sub [4, 5] rfl) (gD_r hQ.2) trivial hS hA⟩ rfl rfl hl.1 rfl (lv_room (Nat.le_of_ble_eq_true rfl)) dL_law_642 ⟨by show _ ≤ 601024; omega, by show _ ≤ 7293000; omega⟩) hQ.1 hQ.2 hS hA (fun r54 v55 H locs h hP hD hS => ?_)
                              have hW : lW (dC, dI) am cm KMv o cO d (ca 2) A H (wX ad ca K z53.1) v55 z53.2 g := lW_M' hP hD
                              clear hQ hP hD
                              refine lv_istore (lv' := [(7, .int r54), (6, .int r52), (0, .ref b), (1, .ref (ad 0)), (2, .ref (am 0)), (3, .ref o), (4, .ref d), (5, .int x5)]) hx hb dL_law_645 hl (by decide) rfl (fun ls hl => ?_)
                              refine lv_goto (tgt := 732) hx hb dL_law_647 (by decide) ?_
                              exact hback _ _ _ _ _ _ _ _ _ _ h hW hS (lv_sub hl [2, 3, 4, 5, 6, 7] rfl) (by omega) (by omega)
                            · skip
                              by_cases q12 : c0 = 12
                              · have h := hob.2.2.2.2.2.2.2.2.2.2.2.2.1
                                unfold wpC_12 at h
                                have e9 : c0.toInt = 12 := by rw [q12]; rfl
                                refine lv_tableIn (off := 566) (tgt := 650) hx hb dL_law_84 (by rw [e9]; decide) (by rw [e9]; decide) (by rw [e9]; rfl) (by decide) ?_
                                refine lv_aload_n hx hb dL_law_650 rfl (lv_at hl 1 rfl) ?_
                                refine lv_aload hx hb dL_law_651 (lv_at hl 4 rfl) ?_
                                have hQ := lW_P hW
                                refine gyl_i (w := (fun z : gS × (Nat → UInt64) => wP d (ca 2) z.2 ++ wX ad ca K z.1)) (w0 := wP d (ca 2) g ++ wX ad ca K u) (wr := wO o cO f ++ wM am cm KMv v) (vx_runSW (As := [.ref (ad 0), .ref d]) (rest := []) ⟨hx, hb, hml, hown, hts⟩ (cL_delay l hl9 dC dI ad ca K d H.size u g _ h) (vx_cwSW 2 hts (gG_SW wd_677 wd_678 wd_45 wd_679) rfl rfl rfl (by decide +kernel) ⟨(Nat.le_of_ble_eq_true rfl), (Nat.le_of_ble_eq_true rfl)⟩) ⟨gB_blind lE_ok, gB_pre lE_ok (gP_r hQ.1) (hK.sub [0, 1, 2] rfl) (gD_r hQ.2) hE hS hA⟩ rfl rfl hl.1 rfl (lv_room (Nat.le_of_ble_eq_true rfl)) dL_law_653 ⟨by show _ ≤ 601024; omega, by show _ ≤ 7293000; omega⟩) hQ.1 hQ.2 hS hA (fun r56 z57 H locs h hP hD hS => ?_)
                                have hW : lW (dC, dI) am cm KMv o cO d (ca 2) A H (wX ad ca K z57.1) v f z57.2 := lW_P' hP hD
                                clear hQ hP hD
                                refine lv_istore (lv' := [(6, .int r56), (0, .ref b), (1, .ref (ad 0)), (2, .ref (am 0)), (3, .ref o), (4, .ref d), (5, .int x5)]) hx hb dL_law_656 hl (by decide) rfl (fun ls hl => ?_)
                                refine lv_aload_n hx hb dL_law_658 rfl (lv_at hl 3 rfl) ?_
                                have hQ := lW_M hW
                                refine gyl_d (w := wM am cm KMv) (w0 := wM am cm KMv v) (wr := wO o cO f ++ (wP d (ca 2) z57.2 ++ wX ad ca K z57.1)) (va_runV (As := []) (rest := []) ⟨hx, hb, hml, hown, hts⟩ (cM6_delay l dC dI am cm KMv H.size v _ h) (cwV 0 hts (gG_V wd_980 wd_981 wd_982 wd_52 wd_983) rfl rfl rfl (by decide +kernel) ⟨(Nat.le_of_ble_eq_true rfl), (Nat.le_of_ble_eq_true rfl)⟩) ⟨gB_blind mE_ok, va_recv (hK.sub (tys' := mT cm) [4, 5] rfl) (gP_r hQ.1) (ci := 6) (q0 := 0) rfl rfl, gB_pre mE_ok (gP_r hQ.1) (hK.sub [4, 5] rfl) (gD_r hQ.2) trivial hS hA⟩ rfl rfl hl.1 rfl (lv_room (Nat.le_of_ble_eq_true rfl)) dL_law_659 ⟨by show _ ≤ 601024; omega, by show _ ≤ 7293000; omega⟩) hQ.1 hQ.2 hS hA (fun r58 v59 H locs h hP hD hS => ?_)
                                have hW : lW (dC, dI) am cm KMv o cO d (ca 2) A H (wX ad ca K z57.1) v59 f z57.2 := lW_M' hP hD
                                clear hQ hP hD
                                refine lv_dstore (lv' := [(7, .double r58), (6, .int r56), (0, .ref b), (1, .ref (ad 0)), (2, .ref (am 0)), (3, .ref o), (4, .ref d), (5, .int x5)]) hx hb dL_law_662 hl (by decide) rfl (fun ls hl => ?_)
                                refine lv_goto (tgt := 732) hx hb dL_law_664 (by decide) ?_
                                exact hback _ _ _ _ _ _ _ _ _ _ h hW hS (lv_sub hl [2, 3, 4, 5, 6, 7] rfl) (by omega) (by omega)
                              · skip
                                by_cases q13 : c0 = 13
                                · have h := hob.2.2.2.2.2.2.2.2.2.2.2.2.2.1
                                  unfold wpC_13 at h
                                  have e9 : c0.toInt = 13 := by rw [q13]; rfl
                                  refine lv_tableIn (off := 583) (tgt := 667) hx hb dL_law_84 (by rw [e9]; decide) (by rw [e9]; decide) (by rw [e9]; rfl) (by decide) ?_
                                  refine lv_aload_n hx hb dL_law_667 rfl (lv_at hl 1 rfl) ?_
                                  refine lv_aload hx hb dL_law_668 (lv_at hl 4 rfl) ?_
                                  have hQ := lW_P hW
                                  refine gyl_i (w := (fun z : gS × (Nat → UInt64) => wP d (ca 2) z.2 ++ wX ad ca K z.1)) (w0 := wP d (ca 2) g ++ wX ad ca K u) (wr := wO o cO f ++ wM am cm KMv v) (vx_runSW (As := [.ref (ad 0), .ref d]) (rest := []) ⟨hx, hb, hml, hown, hts⟩ (cL_due l hl9 dC dI ad ca K d H.size u g _ h) (vx_cwSW 2 hts (gG_SW wd_685 wd_686 wd_45 wd_687) rfl rfl rfl (by decide +kernel) ⟨(Nat.le_of_ble_eq_true rfl), (Nat.le_of_ble_eq_true rfl)⟩) ⟨gB_blind lE_ok, gB_pre lE_ok (gP_r hQ.1) (hK.sub [0, 1, 2] rfl) (gD_r hQ.2) hE hS hA⟩ rfl rfl hl.1 rfl (lv_room (Nat.le_of_ble_eq_true rfl)) dL_law_670 ⟨by show _ ≤ 601024; omega, by show _ ≤ 7293000; omega⟩) hQ.1 hQ.2 hS hA (fun r60 z61 H locs h hP hD hS => ?_)
                                  have hW : lW (dC, dI) am cm KMv o cO d (ca 2) A H (wX ad ca K z61.1) v f z61.2 := lW_P' hP hD
                                  clear hQ hP hD
                                  refine lv_istore (lv' := [(6, .int r60), (0, .ref b), (1, .ref (ad 0)), (2, .ref (am 0)), (3, .ref o), (4, .ref d), (5, .int x5)]) hx hb dL_law_673 hl (by decide) rfl (fun ls hl => ?_)
                                  refine lv_aload_n hx hb dL_law_675 rfl (lv_at hl 3 rfl) ?_
                                  have hQ := lW_M hW
                                  refine gyl_d (w := wM am cm KMv) (w0 := wM am cm KMv v) (wr := wO o cO f ++ (wP d (ca 2) z61.2 ++ wX ad ca K z61.1)) (va_runV (As := []) (rest := []) ⟨hx, hb, hml, hown, hts⟩ (cM6_due l dC dI am cm KMv H.size v _ h) (cwV 0 hts (gG_V wd_984 wd_985 wd_986 wd_52 wd_987) rfl rfl rfl (by decide +kernel) ⟨(Nat.le_of_ble_eq_true rfl), (Nat.le_of_ble_eq_true rfl)⟩) ⟨gB_blind mE_ok, va_recv (hK.sub (tys' := mT cm) [4, 5] rfl) (gP_r hQ.1) (ci := 6) (q0 := 0) rfl rfl, gB_pre mE_ok (gP_r hQ.1) (hK.sub [4, 5] rfl) (gD_r hQ.2) trivial hS hA⟩ rfl rfl hl.1 rfl (lv_room (Nat.le_of_ble_eq_true rfl)) dL_law_676 ⟨by show _ ≤ 601024; omega, by show _ ≤ 7293000; omega⟩) hQ.1 hQ.2 hS hA (fun r62 v63 H locs h hP hD hS => ?_)
                                  have hW : lW (dC, dI) am cm KMv o cO d (ca 2) A H (wX ad ca K z61.1) v63 f z61.2 := lW_M' hP hD
                                  clear hQ hP hD
                                  refine lv_dstore (lv' := [(7, .double r62), (6, .int r60), (0, .ref b), (1, .ref (ad 0)), (2, .ref (am 0)), (3, .ref o), (4, .ref d), (5, .int x5)]) hx hb dL_law_679 hl (by decide) rfl (fun ls hl => ?_)
                                  refine lv_aload_n hx hb dL_law_681 rfl (lv_at hl 4 rfl) ?_
                                  have hQ := lW_M hW
                                  refine gyl_i (w := wM am cm KMv) (w0 := wM am cm KMv v63) (wr := wO o cO f ++ (wP d (ca 2) z61.2 ++ wX ad ca K z61.1)) (va_runV (As := []) (rest := []) ⟨hx, hb, hml, hown, hts⟩ (cM6_thrown l dC dI am cm KMv H.size v63 _ h) (cwV 0 hts (gG_V wd_813 wd_814 wd_815 wd_52 wd_816) rfl rfl rfl (by decide +kernel) ⟨(Nat.le_of_ble_eq_true rfl), (Nat.le_of_ble_eq_true rfl)⟩) ⟨gB_blind mE_ok, va_recv (hK.sub (tys' := mT cm) [4, 5] rfl) (gP_r hQ.1) (ci := 6) (q0 := 0) rfl rfl, gB_pre mE_ok (gP_r hQ.1) (hK.sub [4, 5] rfl) (gD_r hQ.2) trivial hS hA⟩ rfl rfl hl.1 rfl (lv_room (Nat.le_of_ble_eq_true rfl)) dL_law_682 ⟨by show _ ≤ 601024; omega, by show _ ≤ 7293000; omega⟩) hQ.1 hQ.2 hS hA (fun r64 v65 H locs h hP hD hS => ?_)
                                  have hW : lW (dC, dI) am cm KMv o cO d (ca 2) A H (wX ad ca K z61.1) v65 f z61.2 := lW_M' hP hD
                                  clear hQ hP hD
                                  refine lv_iload hx hb dL_law_685 (lv_at hl 1 rfl) ?_
                                  refine lv_icmp_eq (tgt := 692) hx hb dL_law_687 (by decide) (fun c66 => ?_) (fun c66 => ?_)
                                  · have h := h.1 c66
                                    refine lv_iload hx hb dL_law_692 (lv_at hl 1 rfl) ?_
                                    refine lv_if_ne (tgt := 729) hx hb dL_law_694 (by decide) (fun c67 => ?_) (fun c67 => ?_)
                                    · have h := h.1 c67
                                      refine lv_goto (tgt := 732) hx hb dL_law_729 (by decide) ?_
                                      exact hback _ _ _ _ _ _ _ _ _ _ h hW hS (lv_sub hl [2, 3, 4, 5, 6, 7] rfl) (by omega) (by omega)
                                    · have h := h.2 c67
                                      refine lv_aload hx hb dL_law_697 (lv_at hl 6 rfl) ?_
                                      refine lv_iconst (v := 0) hx hb dL_law_699 (by decide) ?_
                                      refine va_dald hx hb hK hW.2.1 0 2 rfl rfl (by unfold vp_in; decide) dL_law_700 ?_
                                      refine lv_dload hx hb dL_law_701 (lv_at hl 0 rfl) ?_
                                      refine lv_dcmp hx hb dL_law_703 ?_
                                      refine lv_if_eq (tgt := 729) hx hb dL_law_704 (by decide) (fun c68 => ?_) (fun c68 => ?_)
                                      · have h := h.1 c68
                                        refine lv_goto (tgt := 732) hx hb dL_law_729 (by decide) ?_
                                        exact hback _ _ _ _ _ _ _ _ _ _ h hW hS (lv_sub hl [2, 3, 4, 5, 6, 7] rfl) (by omega) (by omega)
                                      · have h := h.2 c68
                                        refine lv_aload hx hb dL_law_707 (lv_at hl 6 rfl) ?_
                                        refine lv_iconst (v := 0) hx hb dL_law_709 (by decide) ?_
                                        refine va_dald hx hb hK hW.2.1 0 2 rfl rfl (by unfold vp_in; decide) dL_law_710 ?_
                                        refine lv_aload hx hb dL_law_711 (lv_at hl 6 rfl) ?_
                                        refine lv_iconst (v := 0) hx hb dL_law_713 (by decide) ?_
                                        refine va_dald hx hb hK hW.2.1 0 2 rfl rfl (by unfold vp_in; decide) dL_law_714 ?_
                                        refine lv_dcmp hx hb dL_law_715 ?_
                                        refine lv_if_eq (tgt := 727) hx hb dL_law_716 (by decide) (fun c69 => ?_) (fun c69 => ?_)
                                        · have h := h.1 c69
                                          refine lv_iconst (v := 0) hx hb dL_law_727 (by decide) ?_
                                          exact h.elim
                                        · have h := h.2 c69
                                          refine lv_dload hx hb dL_law_719 (lv_at hl 0 rfl) ?_
                                          refine lv_dload hx hb dL_law_721 (lv_at hl 0 rfl) ?_
                                          refine lv_dcmp hx hb dL_law_723 ?_
                                          refine lv_if_ne (tgt := 729) hx hb dL_law_724 (by decide) (fun c70 => ?_) (fun c70 => ?_)
                                          · have h := h.1 c70
                                            refine lv_goto (tgt := 732) hx hb dL_law_729 (by decide) ?_
                                            exact hback _ _ _ _ _ _ _ _ _ _ h hW hS (lv_sub hl [2, 3, 4, 5, 6, 7] rfl) (by omega) (by omega)
                                          · have h := h.2 c70
                                            refine lv_iconst (v := 0) hx hb dL_law_727 (by decide) ?_
                                            exact h.elim
                                  · have h := h.2 c66
                                    refine lv_iconst (v := 0) hx hb dL_law_690 (by decide) ?_
                                    exact h.elim
                                · skip
                                  have h := hob.2.2.2.2.2.2.2.2.2.2.2.2.2.2
                                  refine lv_tableOut (tgt := 732) hx hb dL_law_84 (by have b0 := lv_neT (a := 0) q0 rfl; have b1 := lv_neT (a := 1) q1 rfl; have b2 := lv_neT (a := 2) q2 rfl; have b3 := lv_neT (a := 3) q3 rfl; have b4 := lv_neT (a := 4) q4 rfl; have b5 := lv_neT (a := 5) q5 rfl; have b6 := lv_neT (a := 6) q6 rfl; have b7 := lv_neT (a := 7) q7 rfl; have b8 := lv_neT (a := 8) q8 rfl; have b9 := lv_neT (a := 9) q9 rfl; have b10 := lv_neT (a := 10) q10 rfl; have b11 := lv_neT (a := 11) q11 rfl; have b12 := lv_neT (a := 12) q12 rfl; have b13 := lv_neT (a := 13) q13 rfl; omega) (by decide) ?_
                                  exact hback _ _ _ _ _ _ _ _ _ _ h hW hS hl (by omega) (by omega)

