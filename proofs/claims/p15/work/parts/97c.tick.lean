/-! class and reference: tick -/
section TIC
variable {n : Int} {B : Nat} {KMv : KM} {K : KX} {j t w q e x x0 g T y : Nat} {u v : gS} {f : Nat → Int64}
theorem i100 : FP.i2d 100 = 4636737291354636288 := by decide +kernel
theorem i1000 : FP.i2d 1000 = 4652007308841189376 := by decide +kernel
/-- who is above the core no more stays -/
theorem f_skip {post : Int32 → gS → Prop} {k41 : UInt64 → UInt64 → Int32 → Int32 → gS → Prop} {l1 l3 : UInt64} {l5 l6 : Int32} (hn : n ≤ 1000000000) (h : IP n j 0 w q e 24 60 v) (hc : sI v 3 ≤ KMv 0) (k : wpM6_end KMv post v l5) : ∀ d i, i + d = w → wpM6_tick_117 KMv post k41 (d + 1) l1 l3 l5 l6 (iN i) v := by
  have hw := h.1.2.1
  have e3 := h.2.1.2.1
  have hd := h.2.2.2.2.2.2.2.2.2.2.2
  intro d
  induction d with
  | zero =>
    intro i hi
    exact ⟨fun _ => k, fun z => absurd (by rw [e3, show i = w by omega]; exact Int32.le_refl _) z⟩
  | succ d ih =>
    intro i hi
    have vi : vp_in (iN i) 8 := iN_in (by omega) (by omega)
    have nx := ih (i + 1) (by omega)
    refine ⟨fun z => ?_, fun _ => ⟨vi, fun _ x15 e15 => by rw [e15, iN_succ]; exact nx, fun _ => ⟨vi, dN_n64 (dB_sub hd.1 (hd.2.2.1 _) (by omega)).1, fun _ x17 e17 => by rw [e17, iN_succ]; exact nx, fun _ => ⟨fun _ x19 e19 => by rw [e19, iN_succ]; exact nx, fun z => absurd hc z⟩⟩⟩⟩
    rw [e3] at z
    have := (iN_le (by omega) (by omega)).mp z; omega
theorem Bz_rw {a : Nat} (hw : w ≤ 5) (e3 : sI v 3 = iN w) (ha : a < w) (h9 : sA v 9 a < 0) (h : Bz v) : Bz (mRw (tI v 3 (iN (w - 1))) a (w - 1)) := by
  obtain ⟨w', k, o, b, c, d⟩ := h
  have : w = w' := (iN_inj (by omega) (by omega)).mp (e3.symm.trans b)
  subst this
  have hka : k ≠ a := fun z => d (z ▸ h9)
  refine ⟨w - 1, if k < a then k else k - 1, by omega, rfl, by split <;> omega, ?_⟩
  show ¬ sh (sA v 9) a (w - 1) (if k < a then k else k - 1) < 0
  rw [sh_at _ _ _ _ (by split <;> omega)]
  by_cases hk : k < a
  · rw [if_pos hk, if_pos hk]; exact d
  · rw [if_neg hk, if_neg (by omega), show k - 1 + 1 = k by omega]; exact d
/-- the long idle go -/
theorem j_dis {m : Nat} (hn : n ≤ 1000000000) (hm : m ≤ 5) : ∀ (d p w : Nat) (u v : gS), p + d = w → d ≤ m → RR n B KMv K j 0 w q e 24 24 60 u v → vE v → 
    ∃ u' v' w', (∀ post : gS → Prop, post u' → ∃ nn, wpX0_dismissLongIdle_12 K post nn (iN m) (iN p) (iN (m - d)) u) ∧ (∀ (post : Int32 → gS → Prop) (k41 : UInt64 → UInt64 → Int32 → Int32 → gS → Prop) (l1 l3 : UInt64) (l5 l6 : Int32), post l5 v' → ∃ nn, wpM6_tick_117 KMv post k41 nn l1 l3 l5 l6 (iN p) v) ∧ RR n B KMv K j 0 w' q e 24 24 60 u' v' ∧ vE v' ∧ sI v' 0 = sI v 0 := by
  intro d
  induction d with
  | zero =>
    intro p w u v hp hd h hE
    have ip := RR_ip h
    have hw := ip.1.2.1
    have e3 := ip.2.1.2.1
    refine ⟨u, v, w, fun post k => ⟨1, fun _ => k, fun z => absurd (Int32.le_refl _) z⟩, fun post k41 l1 l3 l5 l6 k => ⟨1, fun _ => f_end hw e3 hE k, fun z => absurd (by rw [e3, show p = w by omega]; exact Int32.le_refl _) z⟩, h, hE, rfl⟩
  | succ d ih =>
    intro p w u v hp hd h hE
    have ip := RR_ip h
    have hj := ip.1.1
    have hw := ip.1.2.1
    have e3 := ip.2.1.2.1
    have kd := ip.2.2.2.2.2.2.2.2.2.2.2
    have e2u : sI u 2 = iN w := h.2.2.1.1
    have rp := h.2.2.2.2.2.2.2.1
    obtain ⟨g1, g2, g3⟩ := h.2.2.2.2.2.2.2.2.1 p (by omega)
    have k0 : K.1 0 = KMv 0 := h.1.1.1
    have tm : sD u 0 = sD v 0 := h.2.1.2.2.2.2.1
    have vp : vp_in (iN p) 8 := iN_in (by omega) (by omega)
    have np : (iN p).toNatClampNeg = p := iN_nat (by omega)
    have hWm : aW u p ∈ K.2.1 := (rp.1 p (by omega)).2
    have es : iN (m - (d + 1)) + 1 = iN (m - d) := by rw [iN_succ, show m - (d + 1) + 1 = m - d by omega]
    have notend : ¬ iN m ≤ iN (m - (d + 1)) := fun z => by
      have := (iN_le (by omega) (by omega)).mp z; omega
    have notend' : ¬ sI v 3 ≤ iN p := fun z => by
      rw [e3] at z
      have := (iN_le (by omega) (by omega)).mp z; omega
    by_cases cc : sI v 3 ≤ KMv 0
    case pos =>
      have cu : sI u 2 ≤ K.1 0 := by rw [k0, e2u, ← e3]; exact cc
      exact ⟨u, v, w, fun post k => ⟨1, fun _ => k, fun _ => ⟨fun _ => k, fun z => absurd cu z⟩⟩, fun post k41 l1 l3 l5 l6 k => ⟨_, f_skip hn ip cc (f_end hw e3 hE k) (d + 1) p hp⟩, h, hE, rfl⟩
    case neg =>
    have cu : ¬ sI u 2 ≤ K.1 0 := by rw [k0, e2u, ← e3]; exact cc
    -- the class comes to it
    have cls : ∀ (nn : Nat) (post : gS → Prop), (∀ r10 : Option Nat, r10 = sQ u 4 (aW u p) → (((r10 = none → (vf_n64 (FP.dsub (sD u 0) (sB u 3 (aW u p))) ∧ ((((Op.cmpValue (FP.dcmp (FP.dsub (sD u 0) (sB u 3 (aW u p))) 4626322717216342016) .l) < 0 → (∀ x13 : Int32, x13 = iN p + 1 → (∀ x14 : Int32, x14 = iN (m - (d + 1)) + 1 → (wpX0_dismissLongIdle_12 K post nn (iN m) x13 x14 u)))) ∧ (¬ (Op.cmpValue (FP.dcmp (FP.dsub (sD u 0) (sB u 3 (aW u p))) 4626322717216342016) .l) < 0 → (wpX1_dismiss K (fun (u16 : gS) => ∀ x17 : Int32, x17 = iN (m - (d + 1)) + 1 → (wpX0_dismissLongIdle_12 K post nn (iN m) (iN p) x17 u16)) u (iN p))))))) ∧ (∀ y11 : Nat, r10 = some y11 → (∀ x18 : Int32, x18 = iN p + 1 → (∀ x19 : Int32, x19 = iN (m - (d + 1)) + 1 → (wpX0_dismissLongIdle_12 K post nn (iN m) x18 x19 u))))))) → ∃ nn, wpX0_dismissLongIdle_12 K post nn (iN m) (iN p) (iN (m - (d + 1))) u := fun nn post kk => by
      refine ⟨nn + 1, fun z => absurd z notend, fun _ => ⟨fun z => absurd z cu, fun _ => e_at hw e2u (by omega) ?_⟩⟩
      rw [(rp.1 p (by omega)).1]
      exact ⟨fun z => (by cases z), fun y6 e6 => by cases e6; exact ⟨hWm, kk⟩⟩
    by_cases h9 : sA v 9 p < 0
    case neg =>
      obtain ⟨u', v', w', gx, gm, gR, gE, g0⟩ := ih (p + 1) w u v (by omega) (by omega) h hE
      obtain ⟨b, hb, eb⟩ : ∃ b, b < j ∧ sA v 9 p = iN b := by
        rcases ip.2.2.1 p (by omega) with z | z
        · exact absurd z h9
        · exact z
      have s4 : sQ u 4 (aW u p) = some (aA K b) := by rw [g1, eb, oJ_N (by omega)]
      refine ⟨u', v', w', fun post k => ?_, fun post k41 l1 l3 l5 l6 k => ?_, gR, gE, g0⟩
      · obtain ⟨nn, hnn⟩ := gx post k
        exact cls nn post (fun r10 e10 => ⟨fun z => (by rw [e10, s4] at z; cases z), fun y11 _ x18 e18 x19 e19 => by rw [e18, e19, es, iN_succ]; exact hnn⟩)
      · obtain ⟨nn, hnn⟩ := gm post k41 l1 l3 l5 l6 k
        refine ⟨nn + 1, fun z => absurd z notend', fun _ => ⟨vp, fun _ x15 e15 => by rw [e15, iN_succ]; exact hnn, fun z => ?_⟩⟩
        rw [np] at z
        exact absurd (Int32.not_lt.mp h9) z
    case pos =>
    have s4 : sQ u 4 (aW u p) = none := by rw [g1, oJ_neg h9]
    have tb : sB u 3 (aW u p) = sB v 0 p := g3 h9
    have h9' : ¬ 0 ≤ sA v 9 p := fun z => absurd h9 (Int32.not_lt.mpr z)
    have hdn : vf_n64 (FP.dsub (sD v 0) (sB v 0 p)) := dN_n64 (dB_sub kd.1 (kd.2.2.1 p) (by omega)).1
    by_cases hc : (Op.cmpValue (FP.dcmp (FP.dsub (sD v 0) (sB v 0 p)) 4626322717216342016) .l) < 0
    case pos =>
      obtain ⟨u', v', w', gx, gm, gR, gE, g0⟩ := ih (p + 1) w u v (by omega) (by omega) h hE
      refine ⟨u', v', w', fun post k => ?_, fun post k41 l1 l3 l5 l6 k => ?_, gR, gE, g0⟩
      · obtain ⟨nn, hnn⟩ := gx post k
        refine cls nn post (fun r10 e10 => ⟨fun _ => ?_, fun y11 e11 => (by rw [e10, s4] at e11; cases e11)⟩)
        rw [tm, tb]
        exact ⟨hdn, fun _ x13 e13 x14 e14 => by rw [e13, e14, es, iN_succ]; exact hnn, fun z => absurd hc z⟩
      · obtain ⟨nn, hnn⟩ := gm post k41 l1 l3 l5 l6 k
        refine ⟨nn + 1, fun z => absurd z notend', fun _ => ⟨vp, fun z => ?_, fun _ => ⟨vp, ?_⟩⟩⟩
        · rw [np] at z; exact absurd z h9'
        · rw [np]
          exact ⟨hdn, fun _ x17 e17 => by rw [e17, iN_succ]; exact hnn, fun z => absurd hc z⟩
    case neg =>
    have hR := RR_rw h (show p < w by omega) (fun i hi ez => (iN_neg (by omega) h9 ez).elim)
    have hE' : vE (mRw (tI v 3 (iN (w - 1))) p (w - 1)) := fun z1 => by
      rcases hE z1 with g | g
      · exact Or.inl g
      · exact Or.inr (Bz_rw hw e3 (by omega) h9 g)
    obtain ⟨u', v', w', gx, gm, gR, gE, g0⟩ := ih p (w - 1) _ _ (by omega) (by omega) hR hE'
    refine ⟨u', v', w', fun post k => ?_, fun post k41 l1 l3 l5 l6 k => ?_, gR, gE, g0⟩
    · obtain ⟨nn, hnn⟩ := gx post k
      refine cls nn post (fun r10 e10 => ⟨fun _ => ?_, fun y11 e11 => (by rw [e10, s4] at e11; cases e11)⟩)
      rw [tm, tb]
      exact ⟨hdn, fun z => absurd z hc, fun _ => e_dismiss hw e2u (by omega) rp.1 (fun x17 e17 => by rw [e17, es]; exact hnn)⟩
    · obtain ⟨nn, hnn⟩ := gm post k41 l1 l3 l5 l6 k
      refine ⟨nn + 1, fun z => absurd z notend', fun _ => ⟨vp, fun z => ?_, fun _ => ⟨vp, ?_⟩⟩⟩
      · rw [np] at z; exact absurd z h9'
      · rw [np]
        refine ⟨hdn, fun z => absurd z hc, fun _ => ⟨fun z => absurd z cc, fun _ => f_removeWorker hw e3 (by omega) (fun x22 e22 x23 e23 => ?_)⟩⟩
        have : x23 = iN p := by
          rw [e23, e22, Int32.add_assoc, show (-1 : Int32) + 1 = 0 from rfl, Int32.add_zero]
        rw [this]
        exact hnn
/-- behind the last entry: the time is G, the long idle go -/
theorem j_tend {G : UInt64} (hn : n ≤ 1000000000) (hG : dB n G) (h : RR n B KMv K j 0 w q e 24 24 60 u v) (hE : vE v) : 
    ∃ u' v', (∀ (r : Int32) (post : Int32 → gS → Prop), post r u' → ∀ u5 : gS, u5 = tD u 0 G → (wpX0_dismissLongIdle K (fun (u7 : gS) => post r u7) u5)) ∧ (∀ (post : Int32 → gS → Prop) (k41 : UInt64 → UInt64 → Int32 → Int32 → gS → Prop) (l1 l3 : UInt64) (l5 l6 : Int32), post l5 v' → ∀ u10 : gS, u10 = tD v 0 G → ∃ n117, wpM6_tick_117 KMv post k41 n117 l1 l3 l5 l6 0 u10) ∧ JR n B KMv K j u' v' ∧ sI v' 0 = sI v 0 := by
  have h1 := RR_time h hG
  have ip := RR_ip h1
  obtain ⟨u', v', w', gx, gm, gR, gE, g0⟩ := j_dis (m := w) hn ip.1.2.1 w 0 w _ _ (by omega) (Nat.le_refl _) h1 hE
  refine ⟨u', v', fun r post k u5 e5 => ?_, fun post k41 l1 l3 l5 l6 k u10 e10 => ?_, ⟨w', q, e, gR, gE⟩, g0⟩
  · subst e5
    intro x1 e1
    have e1' : x1 = iN w := e1.trans h1.2.2.1.1
    rw [e1']
    have := gx (fun z => post r z) k
    rw [show w - w = 0 by omega] at this
    exact this
  · subst e10
    exact gm post k41 l1 l3 l5 l6 k
theorem j_ticks {G p1 : UInt64} (hK : KMI KMv) (h0 : 0 ≤ n) (hn : n ≤ 900000000) (hG : dB n G) : ∀ (d i w q e B : Nat) (u v : gS), i + d = 20 → RR (n + 1000 * (i : Int)) B KMv K j 0 w q e 24 24 60 u v → vE v → B + d + 1 < 2147483647 →
    ∃ (r : Int32) (u' v' : gS), (∀ (px : String → gS → Prop) (post : Int32 → gS → Prop), post r u' → ∃ nn, wpX0_tick_16 K post px nn p1 G (iN i) u) ∧ (∀ post : Int32 → gS → Prop, post r v' → ∃ nn, wpM6_tick_41 KMv post nn p1 G (iN i) (mnF (sB v 2) e) v) ∧ JR (n + 20000) (B + d) KMv K j u' v' ∧ sI v' 0 = sI v 0 := by
  intro d
  induction d with
  | zero =>
    intro i w q e B u v hi h hE hB
    have ip := RR_ip h
    have he := ip.1.2.2.2
    have h20 : (20 : Int32) ≤ iN i := (iN_le (a := 20) (by omega) (by omega)).mpr (by omega)
    obtain ⟨u', v', gx, gm, ⟨w', q', e', gR, gE⟩, g0⟩ := j_tend (G := G) (by omega) (dB_mono hG (by omega)) h hE
    refine ⟨iN i, u', v', fun px post k => ⟨1, fun _ => gx _ post k, fun z => absurd h20 z⟩, fun post k => ⟨1, fun _ => gm post _ _ _ _ _ k, fun z => ⟨?_, fun _ => gm post _ _ _ _ _ k, fun _ => ⟨fun _ => gm post _ _ _ _ _ k, fun z => absurd h20 z⟩⟩⟩, ⟨w', q', e', RR_n (RR_B gR (by omega)) (by omega), gE⟩, g0⟩
    rcases mnF_rng (t := sB v 2) e (by omega) with ⟨_, z'⟩ | ⟨k', hk', ek'⟩
    · rw [z'] at z; exact absurd (by decide) z
    · rw [ek']; exact iN_in (by omega) (by omega)
  | succ d ih =>
    intro i w q e B u v hi h hE hB
    have ip := RR_ip h
    have he := ip.1.2.2.2
    have e6u : sI u 6 = iN e := h.2.2.1.2.2
    have e7 := ip.2.1.2.2.2.1
    have n20 : ¬ (20 : Int32) ≤ iN i := fun z => by
      have := (iN_le (a := 20) (by omega) (by omega)).mp z; omega
    have same : mnF (sB u 1) e = mnF (sB v 2) e := mnF_congr e (by omega) (fun k hk => (h.2.2.2.2.2.2.2.2.2.2.1 k hk).2.1)
    obtain ⟨ue, ve, gx, gm, ⟨w', q', e', gR, gE⟩, g0⟩ := j_tend (G := G) (by omega) (dB_mono hG (by omega)) h hE
    have stop : ((mnF (sB v 2) e < 0) ∨ ∃ k, k < e ∧ mnF (sB v 2) e = iN k ∧ 0 < (Op.cmpValue (FP.dcmp (sB v 2 k) G) .g)) → ∃ (r : Int32) (u' v' : gS), (∀ (px : String → gS → Prop) (post : Int32 → gS → Prop), post r u' → ∃ nn, wpX0_tick_16 K post px nn p1 G (iN i) u) ∧ (∀ post : Int32 → gS → Prop, post r v' → ∃ nn, wpM6_tick_41 KMv post nn p1 G (iN i) (mnF (sB v 2) e) v) ∧ JR (n + 20000) (B + (d + 1)) KMv K j u' v' ∧ sI v' 0 = sI v 0 := fun hst => by
      refine ⟨iN i, ue, ve, fun px post k => ⟨1, fun z => absurd z n20, fun _ => e_firstPlace he e6u ?_⟩, fun post k => ⟨1, fun _ => gm post _ _ _ _ _ k, fun z => ?_⟩, ⟨w', q', e', RR_n (RR_B gR (by omega)) (by omega), gE⟩, g0⟩
      · rw [same]
        rcases hst with z | ⟨k', hk', ek', ck⟩
        · exact ⟨fun _ => ⟨rfl, fun _ => gx _ post k, fun z' => absurd rfl z'⟩, fun z' => absurd z z'⟩
        · rw [ek']
          refine ⟨fun z' => absurd z' (iN_nneg (by omega)), fun _ => ⟨iN_in (by omega) (by omega), fun _ => ⟨rfl, fun _ => gx _ post k, fun z' => absurd rfl z'⟩, fun z' => ?_⟩⟩
          rw [iN_nat (by omega), (h.2.2.2.2.2.2.2.2.2.2.1 k' hk').2.1] at z'
          exact absurd ck z'
      · rcases hst with z' | ⟨k', hk', ek', ck⟩
        · exact absurd z' z
        · rw [ek', iN_nat (by omega)]
          exact ⟨iN_in (by omega) (by omega), fun _ => gm post _ _ _ _ _ k, fun z' => absurd ck z'⟩
    rcases mnF_rng (t := sB v 2) e (by omega) with ⟨_, z'⟩ | ⟨a, ha, ea⟩
    · exact stop (Or.inl (by rw [z']; decide))
    by_cases hc : 0 < (Op.cmpValue (FP.dcmp (sB v 2 a) G) .g)
    · exact stop (Or.inr ⟨a, ha, ea, hc⟩)
    -- it fires
    obtain ⟨u1, v1, w1, q1, e1, fx, fm, fR, f2, fS, f0⟩ := j_fire hK (by omega) (by omega) h ha
    have hE1 : vE v1 := vE_sm hE f2 fS
    have fR' : RR (n + 1000 * ((i + 1 : Nat) : Int)) (B + 1) KMv K j 0 w1 q1 e1 24 24 60 u1 v1 := RR_n fR (by omega)
    obtain ⟨r, u', v', tx, tm, tR, t0⟩ := ih (i + 1) w1 q1 e1 (B + 1) u1 v1 (by omega) fR' hE1 (by omega)
    have ip1 := RR_ip fR
    have va10 : vp_in (iN a) 10 := iN_in (by omega) (by omega)
    have va12 : vp_in (iN a) 12 := iN_in (by omega) (by omega)
    refine ⟨r, u', v', fun px post k => ?_, fun post k => ?_, by rw [show B + (d + 1) = B + 1 + d by omega]; exact tR, t0.trans f0⟩
    · obtain ⟨nn, hnn⟩ := tx px post k
      refine ⟨nn + 1, fun z => absurd z n20, fun _ => e_firstPlace he e6u ?_⟩
      rw [same, ea]
      refine ⟨fun z => absurd z (iN_nneg (by omega)), fun _ => ⟨va10, fun z => ?_, fun _ => ⟨rfl, fun z => absurd z (by decide), fun _ => e_firstPlace he e6u ?_⟩⟩⟩
      · rw [iN_nat (by omega), (h.2.2.2.2.2.2.2.2.2.2.1 a ha).2.1] at z
        exact absurd z hc
      · rw [same, ea]
        exact fx _ (fun x18 e18 => by rw [e18, iN_succ]; exact hnn)
    · obtain ⟨nn, hnn⟩ := tm post k
      obtain ⟨fa, fb⟩ := fm (fun u30 => ∀ x31 : Int32, x31 = iN i + 1 → wpM6_first KMv (fun (r32 : Int32) (u33 : gS) => wpM6_tick_41 KMv post nn p1 G x31 r32 u33) u30) (fun x31 e31 => by rw [e31, iN_succ]; exact f_first ip1.1.2.2.2 ip1.2.1.2.2.2.1 hnn)
      refine ⟨nn + 1, fun z => ?_, fun _ => ?_⟩
      · rw [ea] at z; exact absurd z (iN_nneg (by omega))
      · rw [ea, iN_nat (by omega)]
        exact ⟨va12, fun z => absurd z hc, fun _ => ⟨fun z => absurd z n20, fun _ => ⟨va12, fun c => fa c, fun c => ⟨va12, fun u34 e34 => by subst e34; exact fb c⟩⟩⟩⟩
theorem j_tick {p1 : UInt64} (hK : KMI KMv) (h0 : 0 ≤ n) (hn : n ≤ 800000000) (hBm : B + 30 < 2147483647) (h : RR n B KMv K j 0 w q e 24 24 60 u v) (hE : vE v) : JA f (fun post => wpL_tick K post u f p1) (fun post => wpM6_tick KMv post v p1) (JR (n + 25000) (B + 50) KMv K j) := by
  have tm : sD u 0 = sD v 0 := h.2.1.2.2.2.2.1
  have bad : ((Op.cmpValue (FP.dcmp p1 FP.dconst0) .l) < 0 ∨ ¬ (Op.cmpValue (FP.dcmp p1 4636737291354636288) .g) ≤ 0) → JA f (fun post => wpL_tick K post u f p1) (fun post => wpM6_tick KMv post v p1) (JR (n + 25000) (B + 50) KMv K j) := fun hb => by
    refine JA_no (c := 1) (r := 0) (u' := u) (v' := tI (tI v 0 0) 0 1) (by decide) (fun post k => ⟨fun _ => ⟨rfl, k⟩, fun z0 => ⟨fun z1 => ?_, fun _ => ⟨rfl, k⟩⟩⟩) (fun post k => fun u1 e1' => by
      subst e1'
      refine ⟨fun _ => f_fail k, fun z0 => ⟨fun z1 => ?_, fun _ => f_fail k⟩⟩
      rcases hb with hb | hb
      · exact absurd hb z0
      · exact absurd z1 hb) rfl ⟨w, q, e, RR_n (RR_B (RR_i0 (RR_i0 h)) (by omega)) (by omega), hE⟩
    rw [i100] at z1
    rcases hb with hb | hb
    · exact absurd hb z0
    · exact absurd z1 hb
  by_cases c1 : (Op.cmpValue (FP.dcmp p1 FP.dconst0) .l) < 0
  · exact bad (Or.inl c1)
  by_cases c2 : (Op.cmpValue (FP.dcmp p1 4636737291354636288) .g) ≤ 0
  case neg => exact bad (Or.inr c2)
  have hp : dB 100 p1 := dB_between (cv_l c1) (cv_g c2) (dB_zero (by omega)) d100
  have ip := RR_ip h
  have ha : dB (n + 100) (FP.dadd (sD v 0) p1) := dB_add ip.2.2.2.2.2.2.2.2.2.2.2.1 hp (by omega)
  obtain ⟨r, u', v', tx, tmm, ⟨w', q', e', tR, tE⟩, t0⟩ := j_ticks (n := n + 100) (p1 := p1) hK (by omega) (by omega) ha 20 0 w q e B u (tI v 0 0) (by omega) (RR_n (RR_i0 h) (by omega)) hE (by omega)
  refine JA_ok (r := r) (u' := u') (v' := v') (fun post k => ⟨fun z => absurd z c1, fun _ => ⟨fun _ => ?_, fun z => absurd (by rw [i100]; exact c2) z⟩⟩) (fun post k => fun u1 e1' => by
      subst e1'
      refine ⟨fun z => absurd z c1, fun _ => ⟨fun _ => ⟨dN_n64 ha.1, fun x6 e6 => ?_⟩, fun z => absurd c2 z⟩⟩
      subst e6
      exact f_first ip.1.2.2.2 ip.2.1.2.2.2.1 (tmm post k)) t0 ⟨w', q', e', RR_n (RR_B tR (by omega)) (by omega), tE⟩
  refine ⟨by rw [tm]; exact dN_n64 ha.1, fun x3 e3 => ?_⟩
  rw [tm] at e3
  subst e3
  exact tx _ _ k
end TIC
