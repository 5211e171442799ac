/-! the reference's last calls -/
section MLA
variable {n : Int} {K : KM} {j w q e : Nat} {v : gS} {post : Int32 → gS → Prop}
theorem m_tick_end {k41 : UInt64 → UInt64 → Int32 → Int32 → gS → Prop} {l1 l3 : UInt64} {l5 l6 : Int32} (hn : n ≤ 1000000000) (hI : IP n j 0 w q e 24 60 v) (k : ∀ r v' w' q' e', IP n j 0 w' q' e' 24 60 v' → post r v') : ∃ n117, wpM6_tick_117 K post k41 n117 l1 l3 l5 l6 0 v := by
  have key : ∀ d i w v, i + d = w → IP n j 0 w q e 24 60 v → wpM6_tick_117 K post k41 (d + 1) l1 l3 l5 l6 (iN i) v := by
    intro d
    induction d with
    | zero =>
      intro i w v hi hv
      have hw := hv.1.2.1
      refine ⟨fun _ => m_end hv (fun v2 w2 e2 h2 _ => k _ v2 w2 q e2 h2), fun hh => ?_⟩
      rw [hv.2.1.2.1] at hh
      have := x_c0 (by omega) (by omega) hh; omega
    | succ d ih =>
      intro i w v hi hv
      have hw := hv.1.2.1
      have hj := hv.1.1
      have vi : vp_in (iN i) 8 := iN_in (by omega) (by omega)
      have hd := hv.2.2.2.2.2.2.2.2.2.2.2
      refine ⟨fun hh => ?_, fun _ => ⟨vi, fun _ x15 e15 => ?_, fun hb => ⟨vi, dN_n64 (dB_sub hd.1 (hd.2.2.1 _) (by omega)).1, fun _ x17 e17 => ?_, fun _ => ⟨fun _ x19 e19 => ?_, fun _ => ?_⟩⟩⟩⟩
      · rw [hv.2.1.2.1] at hh
        have := (iN_le (by omega) (by omega)).mp hh; omega
      · rw [e15, iN_succ]; exact ih (i + 1) w v (by omega) hv
      · rw [e17, iN_succ]; exact ih (i + 1) w v (by omega) hv
      · rw [e19, iN_succ]; exact ih (i + 1) w v (by omega) hv
      · rw [iN_nat (by omega)] at hb
        refine m_removeWorker hv (by omega) (fun i' hi' ez => ?_) (fun v' hv' _ x22 e22 x23 e23 => ?_)
        · exfalso; rw [ez] at hb; exact hb (iN_0le (by omega))
        · have : x23 = iN i := by
            rw [e23, e22, Int32.add_assoc, show (-1 : Int32) + 1 = 0 from rfl, Int32.add_zero]
          rw [this]
          exact ih i (w - 1) v' (by omega) hv'
  exact ⟨w + 1, key w 0 w v (by omega) hI⟩
theorem m_tick {p1 : UInt64} (h0 : 0 ≤ n) (hn : n ≤ 900000000) (hK : KMI K) (hI : IP n j 0 w q e 24 60 v) (k : ∀ r v' w' q' e', IP (n + 25000) j 0 w' q' e' 24 60 v' → post r v') : wpM6_tick K post v p1 := by
  intro u1 e1
  have h1 : IP n j 0 w q e 24 60 u1 := by rw [e1]; exact IP_i0 hI
  have hf : ∀ c, wpM6_fail K (fun (r : Int32) (u : gS) => post r u) u1 c := fun c => m_fail (k _ _ w q e (IP_i0 (IP_mono h1 (by omega))))
  refine ⟨fun _ => hf 1, fun c1 => ⟨fun c2 => ?_, fun _ => hf 1⟩⟩
  have hp : dB 100 p1 := dB_between (cv_l c1) (cv_g c2) (dB_zero (by omega)) d100
  have ha : dB (n + 100) (FP.dadd (sD u1 0) p1) := dB_add h1.2.2.2.2.2.2.2.2.2.2.2.1 hp (by omega)
  refine ⟨dN_n64 ha.1, fun x6 e6 => ?_⟩
  rw [← e6] at ha
  have key : ∀ (d i : Nat) (v : gS) (w q e : Nat) (l6 : Int32), i + d = 20 → IP (n + 100 + 1000 * (i : Int)) j 0 w q e 24 60 v → (l6 < 0 ∨ ∃ i, i < e ∧ l6 = iN i) → wpM6_tick_41 K post (d + 1) p1 x6 (iN i) l6 v := by
    intro d
    induction d with
    | zero =>
      intro i v w q e l6 hi hv hl
      have he := hv.1.2.2.2
      have fin : ∀ u10 : gS, u10 = tD v 0 x6 → ∃ n117, wpM6_tick_117 K post (fun l1 l3 l5 l6 u => wpM6_tick_41 K post 0 l1 l3 l5 l6 u) n117 p1 x6 (iN i) l6 0 u10 := fun u10 e10 => by
        subst e10
        exact m_tick_end (n := n + 100 + 1000 * (i : Int)) (by omega) (IP_d0 hv (dB_mono ha (by omega))) (fun r v' w' q' e' h => k r v' w' q' e' (IP_mono h (by omega)))
      refine ⟨fun _ u10 e10 => fin u10 e10, fun hl0 => ?_⟩
      have vl : vp_in l6 12 := by
        rcases hl with h | ⟨a, ha', ea⟩
        · exact absurd h hl0
        · rw [ea]; exact iN_in (by omega) (by omega)
      refine ⟨vl, fun _ u25 e25 => fin u25 e25, fun _ => ⟨fun _ u27 e27 => fin u27 e27, fun hh => ?_⟩⟩
      have := x_c0 (c := 20) (by omega) (by omega) hh; omega
    | succ d ih =>
      intro i v w q e l6 hi hv hl
      have he := hv.1.2.2.2
      have fin : ∀ u10 : gS, u10 = tD v 0 x6 → ∃ n117, wpM6_tick_117 K post (fun l1 l3 l5 l6 u => wpM6_tick_41 K post (d + 1) l1 l3 l5 l6 u) n117 p1 x6 (iN i) l6 0 u10 := fun u10 e10 => by
        subst e10
        exact m_tick_end (n := n + 100 + 1000 * (i : Int)) (by omega) (IP_d0 hv (dB_mono ha (by omega))) (fun r v' w' q' e' h => k r v' w' q' e' (IP_mono h (by omega)))
      refine ⟨fun _ u10 e10 => fin u10 e10, fun hl0 => ?_⟩
      obtain ⟨a, ha', ea⟩ : ∃ i, i < e ∧ l6 = iN i := by
        rcases hl with h | h
        · exact absurd h hl0
        · exact h
      subst ea
      have vl : vp_in (iN a) 12 := iN_in (by omega) (by omega)
      have next : ∀ v' w' q' e', IP (n + 100 + 1000 * (i : Int) + 1000) j 0 w' q' e' 24 60 v' → ∀ x31 : Int32, x31 = iN i + 1 → wpM6_first K (fun (r32 : Int32) (u33 : gS) => wpM6_tick_41 K post (d + 1) p1 x6 x31 r32 u33) v' := by
        intro v' w' q' e' h x31 e31
        rw [e31, iN_succ]
        exact m_first h.1.2.2.2 h.2.1.2.2.2.1 (fun r hr => ih (i + 1) v' w' q' e' r (by omega) (IP_mono h (by omega)) hr)
      refine ⟨vl, fun _ u25 e25 => fin u25 e25, fun _ => ⟨fun _ u27 e27 => fin u27 e27, fun _ => ⟨vl, fun _ => m_fire hK (by omega) hv ha' next, fun _ => ⟨vl, fun u34 e34 => ?_⟩⟩⟩⟩
      have h34 : IP (n + 100 + 1000 * (i : Int)) j 0 w q e 24 60 u34 := by rw [e34]; exact IP_d0 hv (hv.2.2.2.2.2.2.2.2.2.2.2.2.2.2.2.1 _)
      exact m_fire hK (by omega) h34 ha' next
  exact m_first h1.1.2.2.2 h1.2.1.2.2.2.1 (fun r hr => ⟨21, key 20 0 u1 w q e r (by omega) (IP_mono h1 (by omega)) hr⟩)
theorem m_shut {p1 : Int32} (hI : IP n j 0 w q e 24 60 v) (k : ∀ r v' w' q' e', IP n j 0 w' q' e' 24 60 v' → post r v') : wpM6_shut K post v p1 := by
  intro u1 e1
  have h1 : IP n j 0 w q e 24 60 u1 := by rw [e1]; exact IP_i0 hI
  refine ⟨fun _ u3 e3 => ?_, fun _ => m_fail (k _ _ w q e (IP_i0 h1))⟩
  have h3 : IP n j 0 w q e 24 60 u3 := by rw [e3]; exact IP_i2 h1
  have inner : ∀ (k25 : Int32 → Int32 → gS → Prop) (l2 : Int32) (v : gS) (q : Nat), IP n j 0 w q e 24 60 v → ∃ n55, wpM6_shut_55 K post k25 n55 p1 l2 0 v := by
    intro k25 l2 v q hv
    have hw := hv.1.2.1
    have hj := hv.1.1
    have key : ∀ d i l2 v, i + d = w → IP n j 0 w q e 24 60 v → wpM6_shut_55 K post k25 (d + 1) p1 l2 (iN i) v := by
      intro d
      induction d with
      | zero =>
        intro i l2 v hi hv
        refine ⟨fun _ => m_end hv (fun v2 w2 e2 h2 _ => k _ v2 w2 q e2 h2), fun _ => ⟨fun _ => m_end hv (fun v2 w2 e2 h2 _ => k _ v2 w2 q e2 h2), fun hh => ?_⟩⟩
        rw [hv.2.1.2.1] at hh
        have := x_c0 (by omega) (by omega) hh; omega
      | succ d ih =>
        intro i l2 v hi hv
        have vi : vp_in (iN i) 8 := iN_in (by omega) (by omega)
        refine ⟨fun _ => m_end hv (fun v2 w2 e2 h2 _ => k _ v2 w2 q e2 h2), fun _ => ⟨fun hh => ?_, fun _ => ⟨vi, fun _ x12 e12 => ?_, fun hb => ⟨vi, ?_⟩⟩⟩⟩
        · rw [hv.2.1.2.1] at hh
          have := (iN_le (by omega) (by omega)).mp hh; omega
        · rw [e12, iN_succ]; exact ih (i + 1) l2 v (by omega) hv
        · rw [iN_nat (by omega)] at hb ⊢
          obtain ⟨b, hbj, eb⟩ : ∃ b, b < j ∧ sA v 9 i = iN b := by
            rcases hv.2.2.1 i (by omega) with h | h
            · exact absurd h hb
            · exact h
          rw [eb]
          refine ⟨iN_in (by omega) (by omega), fun u13 e13 x14 _ => ?_⟩
          rw [iN_nat (by omega)] at e13
          subst e13
          have h13 : IP n j 0 w q e 24 60 (tA v 4 b 5) := IP_st hv hbj (by decide) (fun h => absurd h (by decide)) (fun h => absurd h (by decide))
          refine m_rest (by omega) (fun x17 e17 => ?_)
          rw [e17, iN_succ]
          refine ih (i + 1) _ _ (by omega) (IP_rest h13 (fun i' hi' ez => ?_))
          have : i' = b := (iN_inj (by omega) (by omega)).mp (ez.symm.trans eb)
          rw [this, tA_eq]; decide
    exact ⟨w + 1, key w 0 l2 v (by omega) hv⟩
  have outer : ∀ (q : Nat) (l2 : Int32) (v : gS), IP n j 0 w q e 24 60 v → wpM6_shut_25 K post (q + 1) p1 l2 v := by
    intro q
    induction q with
    | zero =>
      intro l2 v hv
      refine ⟨fun _ => inner _ l2 v 0 hv, fun _ => ⟨fun _ => inner _ l2 v 0 hv, fun hh => ?_⟩⟩
      rw [hv.2.1.2.2.1] at hh
      exact absurd ((iN_le (a := 0) (b := 0) (by omega) (by omega)).mpr (Nat.le_refl 0)) hh
    | succ q ih =>
      intro l2 v hv
      have hj := hv.1.1
      refine ⟨fun _ => inner _ l2 v (q + 1) hv, fun _ => ⟨fun _ => inner _ l2 v (q + 1) hv, fun _ => m_dequeue (a := 0) hv (by omega) (fun b v' hb _ hv' _ => ⟨iN_in (by omega) (by omega), fun u21 e21 x22 _ => ?_⟩)⟩⟩
      rw [iN_nat (by omega)] at e21
      subst e21
      exact ih _ _ (IP_x (IP_st hv' hb (by decide) (fun h => absurd h (by decide)) (fun h => absurd h (by decide))) (Or.inl (by rw [tA_eq]; decide)))
  exact ⟨q + 1, outer q 0 u3 h3⟩
theorem m_about {p1 p2 : Int32} (hI : IP n j 0 w q e 24 60 v) (k : ∀ r v' w' q' e', IP n j 0 w' q' e' 24 60 v' → post r v') : wpM6_about K post v p1 p2 := by
  intro u1 e1
  have h1 : IP n j 0 w q e 24 60 u1 := by rw [e1]; exact IP_i0 hI
  have hj := hI.1.1
  have hf : ∀ c, wpM6_fail K (fun (r : Int32) (u : gS) => post r u) u1 c := fun c => m_fail (k _ _ w q e (IP_i0 h1))
  have hp : ∀ r, post r u1 := fun r => k r u1 w q e h1
  have hW : wpM6_workerOf K (fun (r : Int32) (u : gS) => post r u) u1 p1 := m_workerOf h1.1.2.1 h1.2.1.2.1 (fun r _ => hp r)
  refine m_out (fun _ => ⟨fun _ => hf 1, fun h => absurd h (by decide)⟩) (fun z0 z1 => ⟨fun h => absurd rfl h, fun _ => m_out (fun _ => ⟨fun h => absurd h (by decide), fun _ => hf 1⟩) (fun _ _ => ⟨fun _ => ⟨fun hlt => ?_, fun _ => hf 2⟩, fun h => absurd rfl h⟩)⟩)
  rw [h1.2.1.1] at hlt
  obtain ⟨y, hy, ey⟩ := m_job_of hj z0 hlt
  have vy : vp_in p1 24 := by rw [ey]; exact iN_in (by omega) (by omega)
  have hQ : ∀ P : Int32 → gS → Prop, (∀ r, P r u1) → wpM6_placeInQueue K P u1 p1 := fun P h => m_placeInQueue h1.1.2.2.1 h1.2.1.2.2.1 (fun r _ => h r)
  repeat' first
    | exact vy
    | exact hp _
    | exact hW
    | exact hQ _ hp
    | refine And.intro ?_ ?_
    | (refine hQ _ (fun r => ?_))
    | intro _
theorem m_worker {p1 : Int32} (hI : IP n j 0 w q e 24 60 v) (k : ∀ r v' w' q' e', IP n j 0 w' q' e' 24 60 v' → post r v') : wpM6_worker K post v p1 := by
  intro u1 e1
  have h1 : IP n j 0 w q e 24 60 u1 := by rw [e1]; exact IP_i0 hI
  have hw := h1.1.2.1
  refine m_out (fun _ => ⟨fun h => absurd h (by decide), fun _ => m_fail (k _ _ w q e (IP_i0 h1))⟩) (fun z0 z1 => ⟨fun _ => ⟨?_, k _ _ w q e h1⟩, fun h => absurd rfl h⟩)
  rw [h1.2.1.2.1] at z1
  obtain ⟨i, ei, hi⟩ := iN_of2 z0 z1 (by omega)
  rw [ei]; exact iN_in (by omega) (by omega)
theorem m_count {p1 : Int32} (hI : IP n j 0 w q e 24 60 v) (k : ∀ r v' w' q' e', IP n j 0 w' q' e' 24 60 v' → post r v') : wpM6_count K post v p1 := by
  intro u1 e1
  have h1 : IP n j 0 w q e 24 60 u1 := by rw [e1]; exact IP_i0 hI
  have hp : ∀ r, post r u1 := fun r => k r u1 w q e h1
  have hf : wpM6_fail K (fun (r : Int32) (u : gS) => post r u) u1 1 := m_fail (k _ _ w q e (IP_i0 h1))
  have hC : wpM6_countBusy K (fun (r : Int32) (u : gS) => post r u) u1 := m_countBusy h1.1.2.1 h1.2.1.2.1 (fun r _ => hp r)
  exact ⟨fun _ => hp _, fun _ => ⟨fun _ => hp _, fun _ => ⟨fun _ => hC, fun _ => ⟨fun _ => hp _, fun _ => ⟨fun _ => hp _, fun _ => ⟨fun _ => hp _, fun _ => ⟨fun _ => hp _, fun _ => ⟨fun _ => hp _, fun _ => hf⟩⟩⟩⟩⟩⟩⟩⟩
theorem m_delay {post : UInt64 → gS → Prop} (hI : IP n j 0 w q e 24 60 v) (k : ∀ r v' w' q' e', IP n j 0 w' q' e' 24 60 v' → post r v') : wpM6_delay K post v := by
  intro u1 e1
  have h1 : IP n j 0 w q e 24 60 u1 := by rw [e1]; exact IP_i0 hI
  exact ⟨fun h => ⟨dN_n64 (dN_div h1.2.2.2.2.2.2.2.2.2.2.2.2.1 h), k _ _ w q e h1⟩, fun _ => m_fail (k _ _ w q e (IP_i0 h1))⟩
theorem m_due {post : UInt64 → gS → Prop} (hI : IP n j 0 w q e 24 60 v) (k : ∀ r v' w' q' e', IP n j 0 w' q' e' 24 60 v' → post r v') : wpM6_due K post v := by
  intro u1 e1
  have h1 : IP n j 0 w q e 24 60 u1 := by rw [e1]; exact IP_i0 hI
  have he := h1.1.2.2.2
  refine m_first he h1.2.1.2.2.2.1 (fun r hr => ⟨fun h0 => ⟨?_, k _ _ w q e h1⟩, fun _ => m_fail (k _ _ w q e (IP_i0 h1))⟩)
  rcases hr with h | ⟨i, hi, ei⟩
  · exact absurd h0 (Int32.not_le.mpr h)
  · rw [ei]; exact iN_in (by omega) (by omega)
theorem m_bad {p1 p4 : Int32} : (p1 < 0 ∨ ¬ p1 ≤ 5 ∨ p4 < 1 ∨ ¬ p4 ≤ 5) ↔ ((p1 < 0 ∨ ¬ p1 < 6) ∨ (p4 - 1 < 0 ∨ ¬ p4 - 1 < 5)) := by
  simp only [Int32.lt_iff_toInt_lt, Int32.le_iff_toInt_le, Int32.toInt_sub]
  have h1 : (1 : Int32).toInt = 1 := rfl
  have h0 : (0 : Int32).toInt = 0 := rfl
  have h5 : (5 : Int32).toInt = 5 := rfl
  have h6 : (6 : Int32).toInt = 6 := rfl
  have l4 := p4.le_toInt
  have u4 := p4.toInt_lt
  rw [h1, h0, h5, h6]
  have hb : (p4.toInt - 1).bmod (2 ^ 32) = if p4.toInt = -2147483648 then 2147483647 else p4.toInt - 1 := by
    simp only [Int.bmod]
    split <;> split <;> omega
  rw [hb]
  split <;> omega
theorem m_job {p1 p2 p3 p4 : Int32} (hI : IP n j 0 w q e 24 60 v)
    (k1 : (p1 < 0 ∨ ¬ p1 ≤ 5 ∨ p4 < 1 ∨ ¬ p4 ≤ 5) → ∀ r v', IP n j 0 w q e 24 60 v' → sI v' 0 = 1 → post r v') (k2 : ¬ (p1 < 0 ∨ ¬ p1 ≤ 5 ∨ p4 < 1 ∨ ¬ p4 ≤ 5) → j = 24 → ∀ r v', IP n j 0 w q e 24 60 v' → sI v' 0 = 2 → post r v')
    (k0 : ¬ (p1 < 0 ∨ ¬ p1 ≤ 5 ∨ p4 < 1 ∨ ¬ p4 ≤ 5) → j < 24 → ∀ v' w' e', IP n (j + 1) 0 w' q e' 24 60 v' → sI v' 0 = 0 → post (iN j) v') : wpM6_job K post v p1 p2 p3 p4 := by
  intro u1 e1
  have h1 : IP n j 0 w q e 24 60 u1 := by rw [e1]; exact IP_i0 hI
  have hz : sI u1 0 = 0 := by rw [e1]; rfl
  have hj := hI.1.1
  have f1 : (p1 < 0 ∨ ¬ p1 ≤ 5 ∨ p4 < 1 ∨ ¬ p4 ≤ 5) → wpM6_fail K (fun (r : Int32) (u : gS) => post r u) u1 1 := fun h => m_fail (k1 h _ _ (IP_i0 h1) rfl)
  refine m_out (fun hb => ⟨fun _ => f1 (m_bad.mpr (Or.inl hb)), fun h => absurd h (by decide)⟩) (fun a0 a1 => ⟨fun h => absurd rfl h, fun _ => m_out (fun hb => ⟨fun h => absurd h (by decide), fun _ => f1 (m_bad.mpr (Or.inr hb))⟩) (fun b0 b1 => ⟨fun _ => ?_, fun h => absurd rfl h⟩)⟩)
  have hok : ¬ (p1 < 0 ∨ ¬ p1 ≤ 5 ∨ p4 < 1 ∨ ¬ p4 ≤ 5) := fun h => by
    rcases m_bad.mp h with (h | h) | (h | h)
    · exact absurd a0 (Int32.not_le.mpr h)
    · exact h a1
    · exact absurd b0 (Int32.not_le.mpr h)
    · exact h b1
  have ej := h1.2.1.1
  refine ⟨fun hne => ?_, fun he => ?_⟩
  · have hlt : j < 24 := by
      rcases Nat.lt_or_ge j 24 with h | h
      · exact h
      · exact absurd (by rw [ej, show j = 24 by omega]; rfl) hne
    have vj : vp_in (iN j) 24 := iN_in hlt (by omega)
    refine ⟨by rw [ej]; exact vj, fun u11 e11 => ?_⟩
    have e11' : sI u11 1 = iN j := by rw [e11]; exact ej
    refine ⟨by rw [e11']; exact vj, fun u12 e12 => ?_⟩
    have e12' : sI u12 1 = iN j := by rw [e12]; exact e11'
    refine ⟨by rw [e12']; exact vj, fun u13 e13 => ?_⟩
    have e13' : sI u13 1 = iN j := by rw [e13]; exact e12'
    refine ⟨by rw [e13']; exact vj, fun u14 e14 => ?_⟩
    have e14' : sI u14 1 = iN j := by rw [e14]; exact e13'
    refine ⟨by rw [e14']; exact vj, fun u15 e15 u16 e16 => ?_⟩
    have e15' : sI u15 1 = iN j := by rw [e15]; exact e14'
    rw [e15', iN_succ] at e16
    rw [e14', iN_nat (by omega)] at e15
    have e16' : sI u16 1 = iN (j + 1) := by rw [e16]; rfl
    have s5 : ∀ i, sA u16 5 i = if i = j then -1 else sA u1 5 i := fun i => by
      rw [e16]
      show sA u15 5 i = _
      rw [e15, sA_tA, if_pos rfl, e14, tA_ot (by decide), e13, tA_ot (by decide), e12, tA_ot (by decide), e11, tA_ot (by decide)]
    have sa : ∀ m i, m ≠ 0 → m ≠ 1 → m ≠ 2 → m ≠ 3 → m ≠ 5 → sA u16 m i = sA u1 m i := fun m i m0 m1 m2 m3 m5 => by
      rw [e16]
      show sA u15 m i = _
      rw [e15, tA_ot m5, e14, tA_ot m3, e13, tA_ot m2, e12, tA_ot m1, e11, tA_ot m0]
    have si : ∀ m, m ≠ 1 → sI u16 m = sI u1 m := fun m hm => by
      rw [e16, sI_tI, if_neg hm, e15, e14, e13, e12, e11]; rfl
    have sd : ∀ m, sD u16 m = sD u1 m := fun m => by rw [e16, e15, e14, e13, e12, e11]; rfl
    have sb : ∀ m i, sB u16 m i = sB u1 m i := fun m i => by rw [e16, e15, e14, e13, e12, e11]; rfl
    obtain ⟨a, ⟨b1', b3, b6, b7, b10⟩, c, d, f, gx, q1, q2, q0, qt, qc, qd⟩ := h1
    have hnew : sA u1 4 j = 0 := q0 j (Nat.le_refl _)
    have h16 : IP n (j + 1) 0 w q e 24 60 u16 := by
      refine ⟨⟨by omega, a.2⟩, ⟨e16', (si 3 (by decide)).trans b3, (si 6 (by decide)).trans b6, (si 7 (by decide)).trans b7, (si 10 (by decide)).trans b10⟩, fun i hi => ?_, fun i hi => ?_, fun i hi => ?_, fun i hi => ?_, fun i hi hx e1' => ?_, fun i hi e2' => ?_, fun i hi => ?_, fun f' hf => by omega, ?_, ?_⟩
      · rw [sa 9 i (by decide) (by decide) (by decide) (by decide) (by decide)]
        rcases c i hi with h | ⟨b, hb, eb⟩
        · exact Or.inl h
        · exact Or.inr ⟨b, by omega, eb⟩
      · rw [sa 11 i (by decide) (by decide) (by decide) (by decide) (by decide)]
        obtain ⟨b, hb, eb⟩ := d i hi
        exact ⟨b, by omega, eb⟩
      · rw [sa 12 i (by decide) (by decide) (by decide) (by decide) (by decide)]
        obtain ⟨b, hb, eb⟩ := f i hi
        exact ⟨b, by omega, eb⟩
      · rw [s5]
        by_cases hij : i = j
        · rw [if_pos hij]; exact Or.inl (by decide)
        · rw [if_neg hij]
          rcases gx i (by omega) with h | ⟨b, hb, eb⟩
          · exact Or.inl h
          · exact Or.inr ⟨b, by omega, eb⟩
      · rw [sa 4 i (by decide) (by decide) (by decide) (by decide) (by decide)] at e1'
        by_cases hij : i = j
        · rw [hij, hnew] at e1'; exact absurd e1' (by decide)
        · obtain ⟨k', hk, ek⟩ := q1 i (by omega) hx e1'
          exact ⟨k', hk, by rw [sa 11 k' (by decide) (by decide) (by decide) (by decide) (by decide)]; exact ek⟩
      · rw [sa 4 i (by decide) (by decide) (by decide) (by decide) (by decide)] at e2'
        by_cases hij : i = j
        · rw [hij, hnew] at e2'; exact absurd e2' (by decide)
        · rcases q2 i (by omega) e2' with ⟨k', hk, ek⟩ | ⟨f', hf, _⟩
          · exact Or.inl ⟨k', hk, by rw [sa 9 k' (by decide) (by decide) (by decide) (by decide) (by decide)]; exact ek⟩
          · omega
      · rw [sa 4 i (by decide) (by decide) (by decide) (by decide) (by decide)]; exact q0 i (by omega)
      · have := cN_le (sA u16 4) (j + 1)
        unfold mC; omega
      · exact ⟨by rw [sd]; exact qd.1, by rw [sd]; exact qd.2.1, fun z => by rw [sb]; exact qd.2.2.1 z, fun z => by rw [sb]; exact qd.2.2.2.1 z, fun z => by rw [sb]; exact qd.2.2.2.2.1 z, fun z => by rw [sb]; exact qd.2.2.2.2.2 z⟩
    rw [e16', iN_pred (by omega)]
    exact m_end h16 (fun v2 w2 e2 h2 hs => k0 hok hlt v2 w2 e2 h2 (by rw [hs, si 0 (by decide)]; exact hz))
  · have h24 : j = 24 := (iN_inj (b := 24) (by omega) (by omega)).mp (ej.symm.trans he)
    exact m_fail (k2 hok h24 _ _ (IP_i0 h1) rfl)
end MLA
