/-! class and reference: an entry of the clock fires -/
def xAft (K : KX) (post : gS → Prop) (y : Nat) (x4 x5 : UInt64) (u : gS) : Prop := ((Op.cmpValue (FP.dcmp x5 FP.dconst0) .l) ≤ 0 → (post u)) ∧ (¬ (Op.cmpValue (FP.dcmp x5 FP.dconst0) .l) ≤ 0 → (((¬ (sI u 0) = 0 → (post u)) ∧ ((sI u 0) = 0 → (vf_n64 (FP.dadd x4 x5) ∧ (wpX3_put K (fun (u17 : gS) => post u17) u y (FP.dadd x4 x5) x5))))))
def xFs (K : KX) (post : gS → Prop) (y : Nat) (x4 x5 : UInt64) (u : gS) : Prop := (¬ (sA u 0 y) = 0 → xAft K post y x4 x5 u) ∧ ((sA u 0 y) = 0 → wpX0_admit 26 K (fun (u19 : gS) => xAft K post y x4 x5 u19) u y 0)
def xFt (K : KX) (post : gS → Prop) (y : Nat) (x4 x5 : UInt64) (u : gS) : Prop := ((sA u 0 y) = 3 → (∀ u12 : gS, u12 = tA u 0 y 0 → xFs K post y x4 x5 u12)) ∧ (¬ (sA u 0 y) = 3 → ((¬ (sA u 0 y) = 4 → xFs K post y x4 x5 u) ∧ ((sA u 0 y) = 4 → (∀ u36 : gS, u36 = tA u 0 y 0 → xFs K post y x4 x5 u36))))
def mAft (K : KM) (post : gS → Prop) (y : Int32) (x4 x5 : UInt64) (u : gS) : Prop := ((Op.cmpValue (FP.dcmp x5 FP.dconst0) .l) ≤ 0 → (post u)) ∧ (¬ (Op.cmpValue (FP.dcmp x5 FP.dconst0) .l) ≤ 0 → (((¬ (sI u 2) = 0 → (post u)) ∧ ((sI u 2) = 0 → (vf_n64 (FP.dadd x4 x5) ∧ (wpM6_put K (fun (u12 : gS) => post u12) u y (FP.dadd x4 x5) x5))))))
def mFs (K : KM) (post : gS → Prop) (y : Int32) (x4 x5 : UInt64) (u : gS) : Prop := vp_in y 24 ∧ ((¬ (sA u 4 y.toNatClampNeg) = 0 → mAft K post y x4 x5 u) ∧ ((sA u 4 y.toNatClampNeg) = 0 → wpM6_submitNow K (fun (u14 : gS) => mAft K post y x4 x5 u14) u y))
def mFt (K : KM) (post : gS → Prop) (y : Int32) (x4 x5 : UInt64) (u : gS) : Prop := vp_in y 24 ∧ (((sA u 4 y.toNatClampNeg) = 3 → (vp_in y 24 ∧ (∀ u7 : gS, u7 = tA u 4 y.toNatClampNeg 0 → mFs K post y x4 x5 u7))) ∧ (¬ (sA u 4 y.toNatClampNeg) = 3 → (vp_in y 24 ∧ ((¬ (sA u 4 y.toNatClampNeg) = 4 → mFs K post y x4 x5 u) ∧ ((sA u 4 y.toNatClampNeg) = 4 → (vp_in y 24 ∧ (∀ u31 : gS, u31 = tA u 4 y.toNatClampNeg 0 → mFs K post y x4 x5 u31)))))))
section FIR
variable {n : Int} {B : Nat} {KMv : KM} {K : KX} {j t w q e x x0 g T y : Nat} {u v : gS} {post : gS → Prop}
theorem e_fire {a : Nat} {y : Nat} (hc : e ≤ 10) (e6 : sI u 6 = iN e) (ha : a < e) (hl : ∀ i, i < e → ∀ y, sQ u 2 i = some y → y ∈ K.2.2.1) (ey : sQ u 2 a = some y) (my : y ∈ K.2.2.1)
    (k1 : (Op.cmpValue (FP.dcmp (sB u 1 a) (sD u 0)) .l) ≤ 0 → xFt K post y (sB u 1 a) (sB u 2 a) (tI (xTt u a (e - 1)) 6 (iN (e - 1))))
    (k2 : ¬ (Op.cmpValue (FP.dcmp (sB u 1 a) (sD u 0)) .l) ≤ 0 → xFt K post y (sB u 1 a) (sB u 2 a) (tD (tI (xTt u a (e - 1)) 6 (iN (e - 1))) 0 (sB u 1 a))) : wpX0_fire K post u (iN a) := by
  have va : vp_in (iN a) 10 := iN_in (by omega) (by omega)
  refine ⟨fun h => absurd h (iN_nneg (by omega)), fun _ => ⟨fun _ => ⟨va, fun r3 e3 => ⟨va, fun x4 e4 => ⟨va, fun x5 e5 => ?_⟩⟩⟩, fun h => absurd (by rw [e6]; exact (iN_lt (by omega) (by omega)).mpr ha) h⟩⟩
  rw [iN_nat (by omega)] at e3 e4 e5
  subst e4 e5
  exact e_ttRemove hc e6 ha hl ⟨fun c => ⟨y, e3.trans ey, my, k1 c⟩, fun c u48 e48 => by subst e48; exact ⟨y, e3.trans ey, my, k2 c⟩⟩
theorem f_fire {a : Nat} (he : e ≤ 10) (e7 : sI v 7 = iN e) (ha : a < e) (k : mFt KMv post (sA v 12 a) (sB v 2 a) (sB v 3 a) (mTt (tI v 7 (iN (e - 1))) a (e - 1))) : wpM6_fire KMv post v (iN a) := by
  have va : vp_in (iN a) 12 := iN_in (by omega) (by omega)
  refine ⟨va, fun x1 e1 => ⟨va, fun x2 e2 => ⟨va, fun x3 e3 u4 e4 => ?_⟩⟩⟩
  rw [iN_nat (by omega)] at e1 e2 e3
  rw [e7, iN_pred (by omega)] at e4
  subst e4
  rw [← e1, ← e2, ← e3] at k
  have key : ∀ d i, i + d = e - 1 → a ≤ i → wpM6_fire_35 KMv post (d + 1) (iN a) x1 x2 x3 (iN i) (mTt (tI v 7 (iN (e - 1))) a i) := by
    intro d
    induction d with
    | zero =>
      intro i hi hai
      refine ⟨fun _ => ?_, fun h => ?_⟩
      · rw [show i = e - 1 by omega]; exact k
      · have h' : ¬ iN (e - 1) ≤ iN i := h
        have := x_c0 (by omega) (by omega) h'; omega
    | succ d ih =>
      intro i hi hai
      have hs : vp_in (iN i + 1) 12 := by rw [iN_succ]; exact iN_in (by omega) (by omega)
      have h0 : vp_in (iN i) 12 := iN_in (by omega) (by omega)
      refine ⟨fun h => ?_, fun h => ⟨hs, h0, fun u4 e4 => ⟨hs, h0, fun u5 e5 => ⟨hs, h0, fun u6 e6 x7 e7' => ?_⟩⟩⟩⟩
      · have h' : iN (e - 1) ≤ iN i := h
        have := (iN_le (by omega) (by omega)).mp h'; omega
      · rw [iN_succ, iN_nat (by omega), iN_nat (by omega)] at e4 e5 e6
        have e6' : u6 = mTt (tI v 7 (iN (e - 1))) a (i + 1) := by rw [← mTt_step hai, e6, e5, e4]; rfl
        rw [e7', iN_succ, e6']
        exact ih (i + 1) (by omega) (by omega)
  have h := key (e - 1 - a) a (by omega) (Nat.le_refl _)
  rw [show mTt (tI v 7 (iN (e - 1))) a a = tI v 7 (iN (e - 1)) by unfold mTt; rw [sh_self, sh_self, sh_self, fA_self, fB_self, fB_self]] at h
  exact ⟨_, h⟩
/-- it is entered again where it has a period and the hall is open -/
theorem j_aft {x4 x5 : UInt64} (hn : n ≤ 1000000000) (h : RR n B KMv K j 0 w q e 24 24 60 u v) (he : e < 10) (hy : y < j) (h4 : dB n x4) (h5 : dB 1000 x5) : ∃ u' v' e', (∀ post : gS → Prop, post u' → xAft K post (aA K y) x4 x5 u) ∧ (∀ post : gS → Prop, post v' → mAft KMv post (iN y) x4 x5 v) ∧ RR (n + 1000) B KMv K j 0 w q e' 24 24 60 u' v' ∧ sI v' 2 = sI v 2 ∧ Sm v v' ∧ sI v' 0 = sI v 0 := by
  have ph : sI u 0 = sI v 2 := h.2.1.1
  have ha : dB (n + 1000) (FP.dadd x4 x5) := dB_add h4 h5 (by omega)
  have h' := RR_n (m := n + 1000) h (by omega)
  have ip := RR_ip h
  by_cases c1 : (Op.cmpValue (FP.dcmp x5 FP.dconst0) .l) ≤ 0
  · exact ⟨u, v, e, fun post k => ⟨fun _ => k, fun z => absurd c1 z⟩, fun post k => ⟨fun _ => k, fun z => absurd c1 z⟩, h', rfl, ⟨fun _ => rfl, rfl, rfl⟩, rfl⟩
  · by_cases c2 : sI v 2 = 0
    · exact ⟨_, _, e + 1, fun post k => ⟨fun z => absurd z c1, fun _ => ⟨fun z => absurd (ph.trans c2) z, fun _ => ⟨dN_n64 ha.1, e_put he h.2.2.1.2.2 k⟩⟩⟩, fun post k => ⟨fun z => absurd z c1, fun _ => ⟨fun z => absurd c2 z, fun _ => ⟨dN_n64 ha.1, f_put he ip.2.1.2.2.2.1 k⟩⟩⟩, RR_put h' he hy ha h5, rfl, ⟨fun _ => rfl, rfl, rfl⟩, rfl⟩
    · exact ⟨u, v, e, fun post k => ⟨fun z => absurd z c1, fun _ => ⟨fun _ => k, fun z => absurd (ph.symm.trans z) c2⟩⟩, fun post k => ⟨fun z => absurd z c1, fun _ => ⟨fun _ => k, fun z => absurd z c2⟩⟩, h', rfl, ⟨fun _ => rfl, rfl, rfl⟩, rfl⟩
theorem Sm.trans {a b c : gS} (h1 : Sm a b) (h2 : Sm b c) : Sm a c := ⟨fun i => (h2.1 i).trans (h1.1 i), h2.2.1.trans h1.2.1, h2.2.2.trans h1.2.2⟩
theorem j_fs {x4 x5 : UInt64} (hK : KMI KMv) (hBm : B < 2147483647) (hn : n ≤ 1000000000) (h : RR n B KMv K j 0 w q e 24 24 60 u v) (he : e < 10) (hy : y < j) (h4 : dB n x4) (h5 : dB 1000 x5) : ∃ u' v' w' q' e', (∀ post : gS → Prop, post u' → xFs K post (aA K y) x4 x5 u) ∧ (∀ post : gS → Prop, post v' → mFs KMv post (iN y) x4 x5 v) ∧ RR (n + 1000) B KMv K j 0 w' q' e' 24 24 60 u' v' ∧ sI v' 2 = sI v 2 ∧ (sI v 2 ≠ 0 → Sm v v') ∧ sI v' 0 = sI v 0 := by
  have hj := (RR_ip h).1.1
  have vy : vp_in (iN y) 24 := iN_in (by omega) (by omega)
  have ny : (iN y).toNatClampNeg = y := iN_nat (by omega)
  have s0 : sA u 0 (aA K y) = sA v 4 y := h.2.2.2.1 y hy
  by_cases c0 : sA v 4 y = 0
  · obtain ⟨u1, v1, w1, q1, hx, hm, hR, hN, hS, _⟩ := j_now hK h hBm hy c0
    obtain ⟨u', v', e', gx, gm, gR, g2, gS', g0⟩ := j_aft hn hR he hy h4 h5
    refine ⟨u', v', w1, q1, e', fun post k => ⟨fun z => absurd (s0.trans c0) z, fun _ => hx _ (gx post k)⟩, fun post k => ⟨vy, fun z => ?_, fun _ => hm _ (gm post k)⟩, gR, g2.trans hN.1.2.1, fun z => (hS z).trans gS', g0.trans hN.1.1⟩
    rw [ny] at z
    exact absurd c0 z
  · obtain ⟨u', v', e', gx, gm, gR, g2, gS', g0⟩ := j_aft hn h he hy h4 h5
    refine ⟨u', v', w, q, e', fun post k => ⟨fun _ => gx post k, fun z => absurd (s0.symm.trans z) c0⟩, fun post k => ⟨vy, fun _ => gm post k, fun z => ?_⟩, gR, g2, fun _ => gS', g0⟩
    rw [ny] at z
    exact absurd z c0
theorem j_ft {x4 x5 : UInt64} (hK : KMI KMv) (hBm : B + 1 < 2147483647) (hn : n ≤ 1000000000) (h : RR n B KMv K j 0 w q e 24 24 60 u v) (he : e < 10) (hy : y < j) (h4 : dB n x4) (h5 : dB 1000 x5) : ∃ u' v' w' q' e', (∀ post : gS → Prop, post u' → xFt K post (aA K y) x4 x5 u) ∧ (∀ post : gS → Prop, post v' → mFt KMv post (iN y) x4 x5 v) ∧ RR (n + 1000) (B + 1) KMv K j 0 w' q' e' 24 24 60 u' v' ∧ sI v' 2 = sI v 2 ∧ (sI v 2 ≠ 0 → Sm v v') ∧ sI v' 0 = sI v 0 := by
  have hj := (RR_ip h).1.1
  have vy : vp_in (iN y) 24 := iN_in (by omega) (by omega)
  have ny : (iN y).toNatClampNeg = y := iN_nat (by omega)
  have s0 : sA u 0 (aA K y) = sA v 4 y := h.2.2.2.1 y hy
  by_cases c3 : sA v 4 y = 3
  · obtain ⟨u', v', w', q', e', gx, gm, gR, g2, gS', g0⟩ := j_fs hK hBm hn (RR_again h hy (Or.inl c3)) he hy h4 h5
    refine ⟨u', v', w', q', e', fun post k => ⟨fun _ u12 e12 => by subst e12; exact gx post k, fun z => absurd (s0.trans c3) z⟩, fun post k => ⟨vy, fun _ => ⟨vy, fun u7 e7 => ?_⟩, fun z => ?_⟩, gR, g2, gS', g0⟩
    · rw [ny] at e7; subst e7; exact gm post k
    · rw [ny] at z; exact absurd c3 z
  · by_cases c4 : sA v 4 y = 4
    · obtain ⟨u', v', w', q', e', gx, gm, gR, g2, gS', g0⟩ := j_fs hK hBm hn (RR_again h hy (Or.inr c4)) he hy h4 h5
      refine ⟨u', v', w', q', e', fun post k => ⟨fun z => absurd (s0.symm.trans z) c3, fun _ => ⟨fun z => absurd (s0.trans c4) z, fun _ u36 e36 => by subst e36; exact gx post k⟩⟩, fun post k => ⟨vy, fun z => ?_, fun _ => ⟨vy, fun z => ?_, fun _ => ⟨vy, fun u7 e7 => ?_⟩⟩⟩, gR, g2, gS', g0⟩
      · rw [ny] at z; exact absurd z c3
      · rw [ny] at z; exact absurd c4 z
      · rw [ny] at e7; subst e7; exact gm post k
    · obtain ⟨u', v', w', q', e', gx, gm, gR, g2, gS', g0⟩ := j_fs hK (by omega) hn h he hy h4 h5
      refine ⟨u', v', w', q', e', fun post k => ⟨fun z => absurd (s0.symm.trans z) c3, fun _ => ⟨fun _ => gx post k, fun z => absurd (s0.symm.trans z) c4⟩⟩, fun post k => ⟨vy, fun z => ?_, fun _ => ⟨vy, fun _ => gm post k, fun z => ?_⟩⟩, RR_B gR (by omega), g2, gS', g0⟩
      · rw [ny] at z; exact absurd z c3
      · rw [ny] at z; exact absurd z c4
theorem RR_memt (h : RR n B KMv K j t w q e x x0 g u v) : ∀ i, i < e → ∀ y, sQ u 2 i = some y → y ∈ K.2.2.1 := by
  intro i hi y ey
  obtain ⟨b, hb, eb⟩ := (RR_ip h).2.2.2.2.1 i hi
  have hj := (RR_ip h).1.1
  have h1 := (h.2.2.2.2.2.2.2.2.2.2.1 i hi).1
  rw [eb, oJ_N (by omega)] at h1
  rw [h1] at ey
  cases ey
  exact (h.1.2 b hb).2.1
/-- the entry at a fires; the time is moved to it where it is later -/
theorem j_fire {a : Nat} (hK : KMI KMv) (hBm : B + 1 < 2147483647) (hn : n ≤ 1000000000) (h : RR n B KMv K j 0 w q e 24 24 60 u v) (ha : a < e) : ∃ u' v' w' q' e', (∀ post : gS → Prop, post u' → wpX0_fire K post u (iN a)) ∧ (∀ post : gS → Prop, post v' → (((Op.cmpValue (FP.dcmp (sB v 2 a) (sD v 0)) .l) ≤ 0 → wpM6_fire KMv post v (iN a)) ∧ (¬ (Op.cmpValue (FP.dcmp (sB v 2 a) (sD v 0)) .l) ≤ 0 → wpM6_fire KMv post (tD v 0 (sB v 2 a)) (iN a)))) ∧ RR (n + 1000) (B + 1) KMv K j 0 w' q' e' 24 24 60 u' v' ∧ sI v' 2 = sI v 2 ∧ (sI v 2 ≠ 0 → Sm v v') ∧ sI v' 0 = sI v 0 := by
  have ip := RR_ip h
  have hj := ip.1.1
  have he := ip.1.2.2.2
  have e7 := ip.2.1.2.2.2.1
  have e6 : sI u 6 = iN e := h.2.2.1.2.2
  have kd := ip.2.2.2.2.2.2.2.2.2.2.2
  obtain ⟨b, hb, eb⟩ := ip.2.2.2.2.1 a ha
  obtain ⟨q1, q2, q3⟩ := h.2.2.2.2.2.2.2.2.2.2.1 a ha
  have ey : sQ u 2 a = some (aA K b) := by rw [q1, eb, oJ_N (by omega)]
  have mb := (h.1.2 b hb).2.1
  have tm : sD u 0 = sD v 0 := h.2.1.2.2.2.2.1
  by_cases c : (Op.cmpValue (FP.dcmp (sB v 2 a) (sD v 0)) .l) ≤ 0
  · obtain ⟨u', v', w', q', e', gx, gm, gR, g2, gS', g0⟩ := j_ft hK hBm hn (RR_tt h ha) (by omega) hb (kd.2.2.2.2.1 a) (kd.2.2.2.2.2 a)
    refine ⟨u', v', w', q', e', fun post k => e_fire he e6 ha (RR_memt h) ey mb (fun _ => ?_) (fun z => ?_), fun post k => ⟨fun _ => f_fire he e7 ha (by rw [eb]; exact gm post k), fun z => absurd c z⟩, gR, g2, gS', g0⟩
    · rw [q2, q3]; exact gx post k
    · rw [q2, tm] at z; exact absurd c z
  · obtain ⟨u', v', w', q', e', gx, gm, gR, g2, gS', g0⟩ := j_ft hK hBm hn (RR_tt (RR_time h (kd.2.2.2.2.1 a)) ha) (by omega) hb (kd.2.2.2.2.1 a) (kd.2.2.2.2.2 a)
    refine ⟨u', v', w', q', e', fun post k => e_fire he e6 ha (RR_memt h) ey mb (fun z => ?_) (fun _ => ?_), fun post k => ⟨fun z => absurd z c, fun _ => f_fire (v := tD v 0 (sB v 2 a)) he e7 ha (by show mFt KMv post (sA v 12 a) _ _ _; rw [eb]; exact gm post k)⟩, gR, g2, gS', g0⟩
    · rw [q2, tm] at z; exact absurd z c
    · rw [q2, q3]; exact gx post k
end FIR
