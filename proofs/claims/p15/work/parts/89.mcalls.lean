/-! the reference's calls -/
section MCA
variable {n : Int} {K : KM} {j w q e : Nat} {v : gS} {post : Int32 → gS → Prop}
theorem m_job_of {p1 : Int32} (hj : j ≤ 24) (h0 : 0 ≤ p1) (h1 : p1 < iN j) : ∃ y, y < j ∧ p1 = iN y := by
  obtain ⟨y, ey, hy⟩ := iN_of2 h0 h1 (by omega)
  exact ⟨y, hy, ey⟩
theorem m_submit {p1 : Int32} (hK : KMI K) (hI : IP n j 0 w q e 24 60 v) (k : ∀ r v' w' q' e', IP n j 0 w' q' e' 24 60 v' → post r v') : wpM6_submit K post v p1 := by
  intro u1 e1
  subst e1
  have h1 : IP n j 0 w q e 24 60 (tI v 0 0) := IP_i0 hI
  have hj := hI.1.1
  have hf : ∀ c, wpM6_fail K (fun (r : Int32) (u : gS) => post r u) (tI v 0 0) c := fun c => m_fail (k _ _ w q e (IP_i0 h1))
  refine m_out (fun _ => ⟨fun h => absurd h (by decide), fun _ => hf 1⟩) (fun z0 z1 => ⟨fun _ => ⟨fun hlt => ?_, fun _ => hf 2⟩, fun h => absurd rfl h⟩)
  rw [h1.2.1.1] at hlt
  obtain ⟨y, hy, ey⟩ := m_job_of hj z0 hlt
  subst ey
  have vy : vp_in (iN y) 24 := iN_in (by omega) (by omega)
  refine ⟨vy, fun s0 => ?_, fun _ => hf 3⟩
  rw [iN_nat (by omega)] at s0
  exact m_submitNow hK h1 hy s0 (fun v' w' q' hv => ⟨vy, fun _ => ⟨vy, m_end hv (fun v2 w2 e2 h2 _ => k _ v2 w2 q' e2 h2)⟩, fun _ => m_fail (m_end (IP_i0 hv) (fun v2 w2 e2 h2 _ => k _ v2 w2 q' e2 h2))⟩)
theorem m_then {p1 p2 : Int32} (hI : IP n j 0 w q e 24 60 v) (k : ∀ r v' w' q' e', IP n j 0 w' q' e' 24 60 v' → post r v') : wpM6_then K post v p1 p2 := by
  intro u1 e1
  subst e1
  have h1 : IP n j 0 w q e 24 60 (tI v 0 0) := IP_i0 hI
  have hj := hI.1.1
  have hf : ∀ c, wpM6_fail K (fun (r : Int32) (u : gS) => post r u) (tI v 0 0) c := fun c => m_fail (k _ _ w q e (IP_i0 h1))
  refine m_out (fun _ => ⟨fun _ => hf 1, fun h => absurd h (by decide)⟩) (fun z0 z1 => ⟨fun h => absurd rfl h, fun _ => m_out (fun _ => ⟨fun _ => hf 1, fun h => absurd h (by decide)⟩) (fun y0 y1 => ⟨fun h => absurd rfl h, fun _ => ⟨fun _ => ⟨fun _ => hf 2, fun hlt => ⟨fun hlt2 => ?_, fun _ => hf 2⟩⟩, fun _ => hf 1⟩⟩)⟩)
  rw [h1.2.1.1] at hlt hlt2
  obtain ⟨y, hy, ey⟩ := m_job_of hj z0 (Int32.not_le.mp hlt)
  obtain ⟨z, hz, ez⟩ := m_job_of hj y0 hlt2
  subst ey ez
  have vy : vp_in (iN y) 24 := iN_in (by omega) (by omega)
  refine ⟨vy, fun _ => ⟨vy, fun x18 _ => ⟨vy, fun u19 e19 => ?_⟩⟩, fun _ => hf 3⟩
  rw [iN_nat (by omega)] at e19
  subst e19
  refine m_end (w := w) (q := q) (e := e) ?_ (fun v2 w2 e2 h2 _ => k _ v2 w2 q e2 h2)
  obtain ⟨a, b, c, d, f, gx, r⟩ := h1
  refine ⟨a, b, c, d, f, fun i hi => ?_, r⟩
  by_cases hiy : i = y
  · rw [hiy, tA_eq]; exact Or.inr ⟨z, hz, rfl⟩
  · rw [tA_ne hiy]; exact gx i hi
theorem m_workerOf {p1 : Int32} (hw : w ≤ 5) (e3 : sI v 3 = iN w) (k : ∀ r, ((r = -1 ∧ ∀ i, i < w → sA v 9 i ≠ p1) ∨ ∃ i, i < w ∧ r = iN i ∧ sA v 9 i = p1) → post r v) : wpM6_workerOf K post v p1 := by
  have key : ∀ d i, i + d = w → (∀ a, a < i → sA v 9 a ≠ p1) → wpM6_workerOf_2 K post (d + 1) p1 (iN i) v := by
    intro d
    induction d with
    | zero =>
      intro i hi h
      refine ⟨fun _ => k _ (Or.inl ⟨rfl, fun a ha => h a (by omega)⟩), fun hh => ?_⟩
      rw [e3] at hh
      have := x_c0 (by omega) (by omega) hh; omega
    | succ d ih =>
      intro i hi h
      refine ⟨fun hh => ?_, fun _ => ⟨iN_in (by omega) (by omega), fun hne x3 e3' => ?_, fun he => ?_⟩⟩
      · rw [e3] at hh
        have := (iN_le (by omega) (by omega)).mp hh; omega
      · rw [iN_nat (by omega)] at hne
        rw [e3', iN_succ]
        refine ih (i + 1) (by omega) (fun a ha => ?_)
        by_cases hai : a = i
        · rw [hai]; exact hne
        · exact h a (by omega)
      · rw [iN_nat (by omega)] at he
        exact k _ (Or.inr ⟨i, by omega, rfl, he⟩)
  exact ⟨w + 1, key w 0 (by omega) (fun a ha => by omega)⟩
theorem m_placeInQueue {p1 : Int32} (hq : q ≤ 4) (e6 : sI v 6 = iN q) (k : ∀ r, ((r = -1 ∧ ∀ i, i < q → sA v 11 i ≠ p1) ∨ ∃ i, i < q ∧ r = iN i ∧ sA v 11 i = p1) → post r v) : wpM6_placeInQueue K post v p1 := by
  have key : ∀ d i, i + d = q → (∀ a, a < i → sA v 11 a ≠ p1) → wpM6_placeInQueue_2 K post (d + 1) p1 (iN i) v := by
    intro d
    induction d with
    | zero =>
      intro i hi h
      refine ⟨fun _ => k _ (Or.inl ⟨rfl, fun a ha => h a (by omega)⟩), fun hh => ?_⟩
      rw [e6] at hh
      have := x_c0 (by omega) (by omega) hh; omega
    | succ d ih =>
      intro i hi h
      refine ⟨fun hh => ?_, fun _ => ⟨iN_in (by omega) (by omega), fun hne x3 e3' => ?_, fun he => ?_⟩⟩
      · rw [e6] at hh
        have := (iN_le (by omega) (by omega)).mp hh; omega
      · rw [iN_nat (by omega)] at hne
        rw [e3', iN_succ]
        refine ih (i + 1) (by omega) (fun a ha => ?_)
        by_cases hai : a = i
        · rw [hai]; exact hne
        · exact h a (by omega)
      · rw [iN_nat (by omega)] at he
        exact k _ (Or.inr ⟨i, by omega, rfl, he⟩)
  exact ⟨q + 1, key q 0 (by omega) (fun a ha => by omega)⟩
theorem m_cancel {p1 p2 : Int32} (hn : n ≤ 1000000000) (hI : IP n j 0 w q e 24 60 v) (k : ∀ r v' w' q' e', IP n j 0 w' q' e' 24 60 v' → post r v') : wpM6_cancel K post v p1 p2 := by
  intro u1 e1
  obtain ⟨u, eu⟩ : ∃ z, z = u1 := ⟨_, rfl⟩
  have h1 : IP n j 0 w q e 24 60 u := by rw [eu, e1]; exact IP_i0 hI
  rw [← eu]
  have hj := hI.1.1
  have hw := hI.1.2.1
  have hq := hI.1.2.2.1
  have hf : ∀ c, wpM6_fail K (fun (r : Int32) (u : gS) => post r u) u c := fun c => m_fail (k _ _ w q e (IP_i0 h1))
  refine m_out (fun _ => ⟨fun h => absurd h (by decide), fun _ => hf 1⟩) (fun z0 z1 => ⟨fun _ => ⟨fun hlt => ?_, fun _ => hf 2⟩, fun h => absurd rfl h⟩)
  rw [h1.2.1.1] at hlt
  obtain ⟨y, hy, ey⟩ := m_job_of hj z0 hlt
  subst ey
  have vy : vp_in (iN y) 24 := iN_in (by omega) (by omega)
  have h5 : IP n j 0 w q e 24 60 (tA u 4 y 5) := IP_st h1 hy (by decide) (fun h => absurd h (by decide)) (fun h => absurd h (by decide))
  have s5 : sA (tA u 4 y 5) 4 y = 5 := tA_eq
  have main : ∀ x6, x6 = sA u 4 y → ∀ u11, u11 = tA u 4 (iN y).toNatClampNeg 5 → (((¬ x6 = 1 → (((¬ x6 = 2 → (wpM6_end K (fun (r14 : Int32) (u15 : gS) => post r14 u15) u11 x6)) ∧ (x6 = 2 → (wpM6_workerOf K (fun (r16 : Int32) (u17 : gS) => wpM6_takeNext K (fun (u19 : gS) => wpM6_end K (fun (r20 : Int32) (u21 : gS) => post r20 u21) u19 x6) u17 r16) u11 (iN y)))))) ∧ (x6 = 1 → (wpM6_placeInQueue K (fun (r22 : Int32) (u23 : gS) => wpM6_dequeue K (fun (r24 : Int32) (u25 : gS) => ((¬ x6 = 2 → (wpM6_end K (fun (r27 : Int32) (u28 : gS) => post r27 u28) u25 x6)) ∧ (x6 = 2 → (wpM6_workerOf K (fun (r29 : Int32) (u30 : gS) => wpM6_takeNext K (fun (u32 : gS) => wpM6_end K (fun (r33 : Int32) (u34 : gS) => post r33 u34) u32 x6) u30 r29) u25 (iN y))))) u23 r22) u11 (iN y))))) := by
    intro x6 e6 u11 e11
    rw [iN_nat (by omega)] at e11
    subst e11
    refine ⟨fun _ => ⟨fun _ => m_end h5 (fun v2 w2 e2 h2 _ => k _ v2 w2 q e2 h2), fun x2 => ?_⟩, fun x1 => ?_⟩
    · have hs2 : sA u 4 y = 2 := by rw [← e6]; exact x2
      refine m_workerOf hw h5.2.1.2.1 (fun r hr => ?_)
      rcases h1.2.2.2.2.2.2.2.1 y hy hs2 with ⟨kk, hk, ek⟩ | ⟨f, hf, _⟩
      · rcases hr with ⟨_, hno⟩ | ⟨i, hi, er, ei⟩
        · exact absurd ek (hno kk hk)
        · subst er
          refine m_takeNext hn h5 hi (fun i' hi' ez => ?_) (fun v' q' hv => m_end hv (fun v2 w2 e2 h2 _ => k _ v2 w2 q' e2 h2))
          have : i' = y := (iN_inj (by omega) (by omega)).mp (ez.symm.trans ei)
          rw [this, s5]; decide
      · omega
    · have hs1 : sA u 4 y = 1 := by rw [← e6]; exact x1
      refine m_placeInQueue hq h5.2.1.2.2.1 (fun r hr => ?_)
      obtain ⟨kk, hk, ek⟩ := h1.2.2.2.2.2.2.1 y hy (by omega) hs1
      rcases hr with ⟨_, hno⟩ | ⟨i, hi, er, ei⟩
      · exact absurd ek (hno kk hk)
      · subst er
        refine m_dequeue h5 hi (fun b v' hb eb hv ag => ⟨fun _ => ?_, fun x2 => absurd (x1.symm.trans x2) (by decide)⟩)
        have hby : b = y := (iN_inj (by omega) (by omega)).mp (eb.symm.trans ei)
        refine m_end (IP_x hv (Or.inl ?_)) (fun v2 w2 e2 h2 _ => k _ v2 w2 (q - 1) e2 h2)
        rw [ag.2.2.1 4 b (by decide), hby, s5]; decide
  refine ⟨vy, fun x6 e6 => ?_⟩
  rw [iN_nat (by omega)] at e6
  refine ⟨fun _ => hf 3, fun _ => ⟨fun _ => ⟨vy, fun u11 e11 => main x6 e6 u11 e11⟩, fun _ => ⟨fun _ => ⟨vy, fun u11 e11 => main x6 e6 u11 e11⟩, fun _ => hf 3⟩⟩⟩
theorem m_get {p1 : Int32} (hI : IP n j 0 w q e 24 60 v) (k : ∀ r v' w' q' e', IP n j 0 w' q' e' 24 60 v' → post r v') : wpM6_get K post v p1 := by
  intro u1 e1
  have h1 : IP n j 0 w q e 24 60 u1 := by rw [e1]; exact IP_i0 hI
  have hj := hI.1.1
  have hf : ∀ c, wpM6_fail K (fun (r : Int32) (u : gS) => post r u) u1 c := fun c => m_fail (k _ _ w q e (IP_i0 h1))
  have he : ∀ c, wpM6_end K (fun (r : Int32) (u : gS) => post r u) u1 c := fun c => m_end h1 (fun v2 w2 e2 h2 _ => k _ v2 w2 q e2 h2)
  refine m_out (fun _ => ⟨fun h => absurd h (by decide), fun _ => hf 1⟩) (fun z0 z1 => ⟨fun _ => ⟨fun hlt => ?_, fun _ => hf 2⟩, fun h => absurd rfl h⟩)
  rw [h1.2.1.1] at hlt
  obtain ⟨y, hy, ey⟩ := m_job_of hj z0 hlt
  subst ey
  have vy : vp_in (iN y) 24 := iN_in (by omega) (by omega)
  repeat' first
    | exact vy
    | exact hf _
    | exact he _
    | refine And.intro ?_ ?_
    | intro _
theorem m_first {post : Int32 → gS → Prop} (he : e ≤ 10) (e7 : sI v 7 = iN e) (k : ∀ r, (r < 0 ∨ ∃ i, i < e ∧ r = iN i) → post r v) : wpM6_first K post v := by
  have key : ∀ d i l1, i + d = e → (l1 < 0 ∨ ∃ i, i < e ∧ l1 = iN i) → wpM6_first_4 K post (d + 1) l1 (iN i) v := by
    intro d
    induction d with
    | zero =>
      intro i l1 hi h1
      refine ⟨fun _ => k _ h1, fun h => ?_⟩
      rw [e7] at h
      have := x_c0 (by omega) (by omega) h; omega
    | succ d ih =>
      intro i l1 hi h1
      refine ⟨fun _ => k _ h1, fun h => ⟨fun _ x3 e3 => ?_, fun h0 => ⟨iN_in (by omega) (by omega), ?_, fun _ x5 e5 => ?_, fun _ x6 e6 => ?_⟩⟩⟩
      · rw [e3, iN_succ]; exact ih (i + 1) _ (by omega) (Or.inr ⟨i, by omega, rfl⟩)
      · rcases h1 with h1 | ⟨a, ha, ea⟩
        · exact absurd h1 h0
        · rw [ea]; exact iN_in (by omega) (by omega)
      · rw [e5, iN_succ]; exact ih (i + 1) _ (by omega) h1
      · rw [e6, iN_succ]; exact ih (i + 1) _ (by omega) (Or.inr ⟨i, by omega, rfl⟩)
  exact ⟨e + 1, key e 0 (-1) (by omega) (Or.inl (by decide))⟩
theorem IP_en {i b : Nat} (hI : IP n j 0 w q e 24 60 v) (hb : b < j) : IP n j 0 w q e 24 60 (tA v 12 i (iN b)) := by
  obtain ⟨a, bb, c, d, f, r⟩ := hI
  refine ⟨a, bb, c, d, fun i' hi' => ?_, r⟩
  by_cases hii : i' = i
  · rw [hii, tA_eq]; exact ⟨b, hb, rfl⟩
  · rw [tA_ne hii]; exact f i' hi'
theorem m_put {post : gS → Prop} {y : Nat} {p2 p3 : UInt64} (hI : IP n j 0 w q e 24 60 v) (he : e < 10) (hy : y < j) (h2 : dB n p2) (h3 : dB 1000 p3) (k : ∀ v', IP n j 0 w q (e + 1) 24 60 v' → post v') : wpM6_put K post v (iN y) p2 p3 := by
  have e7 := hI.2.1.2.2.2.1
  refine ⟨by rw [e7]; exact iN_in (by omega) (by omega), fun u1 e1 => ?_⟩
  rw [e7, iN_nat (by omega)] at e1
  subst e1
  have e' : sI (tA v 12 e (iN y)) 7 = iN e := e7
  refine ⟨by rw [e']; exact iN_in (by omega) (by omega), fun u2 e2 => ?_⟩
  rw [e', iN_nat (by omega)] at e2
  subst e2
  have e' : sI (tB (tA v 12 e (iN y)) 2 e p2) 7 = iN e := e7
  refine ⟨by rw [e']; exact iN_in (by omega) (by omega), fun u3 e3 u4 e4 => ?_⟩
  rw [e', iN_nat (by omega)] at e3
  subst e3
  have e' : sI (tB (tB (tA v 12 e (iN y)) 2 e p2) 3 e p3) 7 = iN e := e7
  rw [e', iN_succ] at e4
  subst e4
  have hb := IP_b3 (i := e) (IP_b2 (i := e) (IP_en (i := e) hI hy) h2) h3
  obtain ⟨a, ⟨b1, b3, b6, b7, b10⟩, c, d, f, r⟩ := hb
  refine k _ ⟨⟨a.1, a.2.1, a.2.2.1, by omega⟩, ⟨b1, b3, b6, rfl, b10⟩, c, d, fun i hi => ?_, r⟩
  show ∃ b, b < j ∧ sA (tA v 12 e (iN y)) 12 i = iN b
  by_cases hie : i = e
  · rw [hie, tA_eq]; exact ⟨y, hy, rfl⟩
  · rw [tA_ne hie]
    exact hI.2.2.2.2.1 i (by omega)
theorem d1000 : dB 1000 4652007308841189376 := by
  have h : dB 1000 (FP.i2d 1000) := dB_int 1000 (by decide) (by decide)
  have e : FP.i2d 1000 = 4652007308841189376 := by decide +kernel
  rw [e] at h; exact h
theorem d100 : dB 100 4636737291354636288 := by
  have h : dB 100 (FP.i2d 100) := dB_int 100 (by decide) (by decide)
  have e : FP.i2d 100 = 4636737291354636288 := by decide +kernel
  rw [e] at h; exact h
theorem m_clock {p1 : Int32} {p2 p3 : UInt64} (hn : n ≤ 1000000000) (hI : IP n j 0 w q e 24 60 v) (k : ∀ r v' w' q' e', IP (n + 1000) j 0 w' q' e' 24 60 v' → post r v') : wpM6_clock K post v p1 p2 p3 := by
  intro u1 e1
  obtain ⟨u, eu⟩ : ∃ z, z = u1 := ⟨_, rfl⟩
  have h1 : IP n j 0 w q e 24 60 u := by rw [eu, e1]; exact IP_i0 hI
  rw [← eu]
  have hj := hI.1.1
  have he := hI.1.2.2.2
  have h1' : IP (n + 1000) j 0 w q e 24 60 u := IP_mono h1 (by omega)
  have hf : ∀ c, wpM6_fail K (fun (r : Int32) (u : gS) => post r u) u c := fun c => m_fail (k _ _ w q e (IP_i0 h1'))
  refine m_out (fun _ => ⟨fun _ => hf 1, fun h => absurd h (by decide)⟩) (fun z0 z1 => ⟨fun h => absurd rfl h, fun _ => ⟨fun _ => hf 1, fun c1 => ⟨fun _ => hf 1, fun c2 => ⟨fun _ => hf 1, fun c3 => ⟨fun c4 => ⟨fun hlt => ⟨fun _ => hf 3, fun _ => ⟨fun hne => ?_, fun _ => hf 3⟩⟩, fun _ => hf 2⟩, fun _ => hf 1⟩⟩⟩⟩⟩)
  rw [h1.2.1.1] at hlt
  obtain ⟨y, hy, ey⟩ := m_job_of hj z0 hlt
  subst ey
  have h2 : dB 1000 p2 := dB_between (cv_l c1) (cv_g (Int32.not_lt.mp c2)) (dB_zero (by omega)) d1000
  have h3 : dB 1000 p3 := dB_between (cv_l c3) (cv_g c4) (dB_zero (by omega)) d1000
  have ha : dB (n + 1000) (FP.dadd (sD u 0) p2) := dB_add h1.2.2.2.2.2.2.2.2.2.2.2.1 h2 (by omega)
  have he10 : e < 10 := by
    rcases Nat.lt_or_ge e 10 with h | h
    · exact h
    · exact absurd (by rw [h1.2.1.2.2.2.1, show e = 10 by omega]; rfl) hne
  exact ⟨dN_n64 ha.1, m_put h1' he10 hy ha h3 (fun v' hv => m_end hv (fun v2 w2 e2 h2 _ => k _ v2 w2 q e2 h2))⟩
theorem m_fireEnd {post : gS → Prop} {y : Nat} {l3 l5 : UInt64} (hn : n ≤ 1000000000) (he : e < 10) (hy : y < j) (h3 : dB n l3) (h5 : dB 1000 l5) (k : ∀ v' w' q' e', IP (n + 1000) j 0 w' q' e' 24 60 v' → post v') :
    ∀ v w q, IP n j 0 w q e 24 60 v → (((Op.cmpValue (FP.dcmp l5 FP.dconst0) .l) ≤ 0 → (post v)) ∧ (¬ (Op.cmpValue (FP.dcmp l5 FP.dconst0) .l) ≤ 0 → (((¬ (sI v 2) = 0 → (post v)) ∧ ((sI v 2) = 0 → (vf_n64 (FP.dadd l3 l5) ∧ (wpM6_put K (fun (u12 : gS) => post u12) v (iN y) (FP.dadd l3 l5) l5))))))) := by
  intro v w q hv
  have hv' : IP (n + 1000) j 0 w q e 24 60 v := IP_mono hv (by omega)
  have ha : dB (n + 1000) (FP.dadd l3 l5) := dB_add h3 h5 (by omega)
  exact ⟨fun _ => k _ _ _ _ hv', fun _ => ⟨fun _ => k _ _ _ _ hv', fun _ => ⟨dN_n64 ha.1, m_put hv' he hy ha h5 (fun v' h => k _ _ _ _ h)⟩⟩⟩
theorem m_fireMid {post : gS → Prop} {y : Nat} {l3 l5 : UInt64} (hK : KMI K) (hn : n ≤ 1000000000) (he : e < 10) (hy : y < j) (h3 : dB n l3) (h5 : dB 1000 l5) (k : ∀ v' w' q' e', IP (n + 1000) j 0 w' q' e' 24 60 v' → post v') :
    ∀ v w q, IP n j 0 w q e 24 60 v → vp_in (iN y) 24 ∧ (((¬ (sA v 4 (iN y).toNatClampNeg) = 0 → ((((Op.cmpValue (FP.dcmp l5 FP.dconst0) .l) ≤ 0 → (post v)) ∧ (¬ (Op.cmpValue (FP.dcmp l5 FP.dconst0) .l) ≤ 0 → (((¬ (sI v 2) = 0 → (post v)) ∧ ((sI v 2) = 0 → (vf_n64 (FP.dadd l3 l5) ∧ (wpM6_put K (fun (u12 : gS) => post u12) v (iN y) (FP.dadd l3 l5) l5))))))))) ∧ ((sA v 4 (iN y).toNatClampNeg) = 0 → (wpM6_submitNow K (fun (u14 : gS) => (((Op.cmpValue (FP.dcmp l5 FP.dconst0) .l) ≤ 0 → (post u14)) ∧ (¬ (Op.cmpValue (FP.dcmp l5 FP.dconst0) .l) ≤ 0 → (((¬ (sI u14 2) = 0 → (post u14)) ∧ ((sI u14 2) = 0 → (vf_n64 (FP.dadd l3 l5) ∧ (wpM6_put K (fun (u18 : gS) => post u18) u14 (iN y) (FP.dadd l3 l5) l5)))))))) v (iN y))))) := by
  intro v w q hv
  have hj := hv.1.1
  have hm := m_fireEnd (K := K) hn he hy h3 h5 k
  refine ⟨iN_in (by omega) (by omega), fun _ => hm v w q hv, fun s0 => ?_⟩
  rw [iN_nat (by omega)] at s0
  exact m_submitNow hK hv hy s0 (fun v' w' q' h => hm v' w' q' h)
theorem m_fire {post : gS → Prop} {a : Nat} (hK : KMI K) (hn : n ≤ 1000000000) (hI : IP n j 0 w q e 24 60 v) (ha : a < e) (k : ∀ v' w' q' e', IP (n + 1000) j 0 w' q' e' 24 60 v' → post v') : wpM6_fire K post v (iN a) := by
  have hj := hI.1.1
  have he := hI.1.2.2.2
  have e7 := hI.2.1.2.2.2.1
  have va : vp_in (iN a) 12 := iN_in (by omega) (by omega)
  refine ⟨va, fun x1 ex1 => ⟨va, fun x2 ex2 => ⟨va, fun x3 ex3 u4 e4 => ?_⟩⟩⟩
  rw [iN_nat (by omega)] at ex1
  obtain ⟨y, hy, ey⟩ := hI.2.2.2.2.1 a ha
  rw [ey] at ex1
  subst ex1
  have h2 : dB n x2 := by rw [ex2]; exact hI.2.2.2.2.2.2.2.2.2.2.2.2.2.2.2.1 _
  have h3 : dB 1000 x3 := by rw [ex3]; exact hI.2.2.2.2.2.2.2.2.2.2.2.2.2.2.2.2 _
  rw [e7, iN_pred (by omega)] at e4
  have hm := m_fireMid (K := K) (e := e - 1) hK hn (by omega) hy h2 h3 k
  have vy : vp_in (iN y) 24 := iN_in (by omega) (by omega)
  have key : ∀ d i u, i + d = e - 1 → IP n j 0 w q (e - 1) 24 60 u → (∀ i, i < e → ∃ b, b < j ∧ sA u 12 i = iN b) → wpM6_fire_35 K post (d + 1) (iN a) (iN y) x2 x3 (iN i) u := by
    intro d
    induction d with
    | zero =>
      intro i u hi hu hval
      refine ⟨fun _ => ⟨vy, fun _ => ⟨vy, fun u7 eu7 => hm u7 w q ?_⟩, fun _ => ⟨vy, fun _ => hm u w q hu, fun _ => ⟨vy, fun u31 eu31 => hm u31 w q ?_⟩⟩⟩, fun hh => ?_⟩
      · rw [iN_nat (by omega)] at eu7; rw [eu7]; exact IP_st0 hu hy
      · rw [iN_nat (by omega)] at eu31; rw [eu31]; exact IP_st0 hu hy
      · rw [hu.2.1.2.2.2.1] at hh
        have := x_c0 (by omega) (by omega) hh; omega
    | succ d ih =>
      intro i u hi hu hval
      have hs : vp_in (iN i + 1) 12 := by rw [iN_succ]; exact iN_in (by omega) (by omega)
      have hz : vp_in (iN i) 12 := iN_in (by omega) (by omega)
      refine ⟨fun hh => ?_, fun _ => ⟨hs, hz, fun u43 e43 => ⟨hs, hz, fun u44 e44 => ⟨hs, hz, fun u45 e45 x46 e46 => ?_⟩⟩⟩⟩
      · rw [hu.2.1.2.2.2.1] at hh
        have := (iN_le (by omega) (by omega)).mp hh; omega
      · obtain ⟨b, hb, eb⟩ := hval (i + 1) (by omega)
        rw [iN_succ, iN_nat (by omega), iN_nat (by omega), eb] at e43
        rw [e46, iN_succ]
        have h43 : IP n j 0 w q (e - 1) 24 60 u43 := by rw [e43]; exact IP_en hu hb
        have h44 : IP n j 0 w q (e - 1) 24 60 u44 := by rw [e44]; exact IP_b2 h43 (h43.2.2.2.2.2.2.2.2.2.2.2.2.2.2.2.1 _)
        have h45 : IP n j 0 w q (e - 1) 24 60 u45 := by rw [e45]; exact IP_b3 h44 (h44.2.2.2.2.2.2.2.2.2.2.2.2.2.2.2.2 _)
        refine ih (i + 1) u45 (by omega) h45 (fun i' hi' => ?_)
        have : sA u45 12 i' = sA (tA u 12 i (iN b)) 12 i' := by rw [e45, e44, e43]; rfl
        rw [this]
        by_cases hii : i' = i
        · rw [hii, tA_eq]; exact ⟨b, hb, rfl⟩
        · rw [tA_ne hii]; exact hval i' hi'
  refine ⟨_, key (e - 1 - a) a u4 (by omega) ?_ ?_⟩
  · rw [e4]
    obtain ⟨aa, ⟨b1, b3, b6, b7, b10⟩, c, d, f, r⟩ := hI
    exact ⟨⟨aa.1, aa.2.1, aa.2.2.1, by omega⟩, ⟨b1, b3, b6, rfl, b10⟩, c, d, fun i hi => f i (by omega), r⟩
  · rw [e4]; exact hI.2.2.2.2.1
end MCA
