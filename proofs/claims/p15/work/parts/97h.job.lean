/-! class and reference: a new job -/
def mJob (v : gS) (j : Nat) (p1 p2 p3 p4 : Int32) : gS := tI (tA (tA (tA (tA (tA v 0 j p1) 1 j p2) 2 j p3) 3 j p4) 5 j (-1)) 1 (iN (j + 1))
section NJB
variable {n : Int} {B : Nat} {KMv : KM} {K : KX} {j t w q e x x0 g T y : Nat} {u v : gS} {f : Nat → Int64} {p1 p2 p3 p4 : Int32}
theorem l_job2 {post : Int32 → (KX × gS) × (Nat → Int64) → Prop} {c : Nat} (hc : c ≤ 24) (e : K.1 4 = iN c)
    (k1 : (p1 < 0 ∨ ¬ p1 ≤ 5 ∨ p4 < 1 ∨ ¬ p4 ≤ 5) → post 1 ((K, u), f)) (k2 : ¬ (p1 < 0 ∨ ¬ p1 ≤ 5 ∨ p4 < 1 ∨ ¬ p4 ≤ 5) → c = 24 → post 2 ((K, u), f))
    (k0 : ¬ (p1 < 0 ∨ ¬ p1 ≤ 5 ∨ p4 < 1 ∨ ¬ p4 ≤ 5) → c < 24 → ∀ q, q ∉ K.2.2.1 → post 0 ((xKj K q p1 p2 p3 p4, xUj u q), vp_updL f (0 : Int32).toNatClampNeg (iN c).toInt64)) : wpL_job K post u f p1 p2 p3 p4 := by
  unfold wpL_job wpX0_job
  refine ⟨fun h => Or.inl ⟨rfl, k1 (Or.inl h)⟩, fun a1 => ⟨fun a2 => ⟨fun h => Or.inl ⟨rfl, k1 (Or.inr (Or.inr (Or.inl h)))⟩, fun a3 => ⟨fun a4 => ?_, fun h => Or.inl ⟨rfl, k1 (Or.inr (Or.inr (Or.inr h)))⟩⟩⟩, fun h => Or.inl ⟨rfl, k1 (Or.inr (Or.inl h))⟩⟩⟩
  have hok : ¬ (p1 < 0 ∨ ¬ p1 ≤ 5 ∨ p4 < 1 ∨ ¬ p4 ≤ 5) := by
    rintro (h | h | h | h)
    · exact a1 h
    · exact h a2
    · exact a3 h
    · exact h a4
  refine ⟨fun h => ?_, fun h => Or.inr ⟨rfl, k2 hok ?_⟩⟩
  · rw [e] at h
    have hlt : c < 24 := (iN_lt (a := c) (b := 24) (by omega) (by omega)).mp h
    refine ⟨by rw [e]; exact iN_in hlt (by omega), fun q hq => ?_⟩
    have := k0 hok hlt q hq
    rw [e, Int32.add_sub_cancel]
    exact this
  · rw [e] at h
    have := mt (iN_lt (a := c) (b := 24) (by omega) (by omega)).mpr h
    omega
theorem up_eq {α : Type} {f : Nat → α} {k : Nat} {a : α} : va_up f k a k = a := if_pos rfl
theorem up_ne {α : Type} {f : Nat → α} {k z : Nat} {a : α} (h : z ≠ k) : va_up f k a z = f z := if_neg h
theorem IP_job (hI : IP n j 0 w q e 24 60 v) (hj : j < 24) : IP n (j + 1) 0 w q e 24 60 (mJob v j p1 p2 p3 p4) := by
  obtain ⟨a, ⟨b1, b3, b6, b7, b10⟩, c, d, f, gx, q1, q2, q0, qt, qc, qd⟩ := hI
  have hnew : sA v 4 j = 0 := q0 j (Nat.le_refl _)
  have s5 : ∀ i, sA (mJob v j p1 p2 p3 p4) 5 i = if i = j then -1 else sA v 5 i := fun i => by
    show sA (tA (tA (tA (tA (tA v 0 j p1) 1 j p2) 2 j p3) 3 j p4) 5 j (-1)) 5 i = _
    rw [sA_tA, if_pos rfl]; rfl
  refine ⟨⟨by omega, a.2⟩, ⟨rfl, b3, b6, b7, b10⟩, fun i hi => ?_, fun i hi => ?_, fun i hi => ?_, fun i hi => ?_, fun i hi hx e1' => ?_, fun i hi e2' => ?_, fun i hi => q0 i (by omega), fun f' hf => by omega, ?_, qd⟩
  · rcases c i hi with h | ⟨b, hb, eb⟩
    · exact Or.inl h
    · exact Or.inr ⟨b, by omega, eb⟩
  · obtain ⟨b, hb, eb⟩ := d i hi
    exact ⟨b, by omega, eb⟩
  · obtain ⟨b, hb, eb⟩ := f i hi
    exact ⟨b, by omega, eb⟩
  · rw [s5]
    by_cases hij : i = j
    · rw [if_pos hij]; exact Or.inl (by decide)
    · rw [if_neg hij]
      rcases gx i (by omega) with h | ⟨b, hb, eb⟩
      · exact Or.inl h
      · exact Or.inr ⟨b, by omega, eb⟩
  · have e1 : sA v 4 i = 1 := e1'
    by_cases hij : i = j
    · rw [hij, hnew] at e1; exact absurd e1 (by decide)
    · exact q1 i (by omega) hx e1
  · have e2 : sA v 4 i = 2 := e2'
    by_cases hij : i = j
    · rw [hij, hnew] at e2; exact absurd e2 (by decide)
    · exact q2 i (by omega) e2
  · have := cN_le (sA v 4) (j + 1)
    show 0 + cN (sA v 4) (j + 1) ≤ 25
    omega
theorem RR_job {q' : Nat} (h : RR n B KMv K j 0 w q e 24 24 60 u v) (hj : j < 24) (hq : q' ∉ K.2.2.1) : RR n (B + 1) KMv (xKj K q' p1 p2 p3 p4) (j + 1) 0 w q e 24 24 60 (xUj u q') (mJob v j p1 p2 p3 p4) := by
  obtain ⟨rk, rs, rz, r0, r1, r2, r3, rp, rw_, rl, rt, vq, vb, ⟨c, e4, hc, h8, hs⟩, vz, ip⟩ := h
  have ej : K.1 4 = iN j := rk.1.2.2.2.2
  have nj : (K.1 4).toNatClampNeg = j := by rw [ej]; exact iN_nat (by omega)
  have hQ : ∀ i, (xKj K q' p1 p2 p3 p4).2.2.2.2 i = if i = j then some q' else K.2.2.2.2 i := fun i => by
    show va_up K.2.2.2.2 (K.1 4).toNatClampNeg (some q') i = _
    rw [nj]; rfl
  have aj : aA (xKj K q' p1 p2 p3 p4) j = q' := by unfold aA; rw [hQ, if_pos rfl]; rfl
  have ai : ∀ i, i < j → aA (xKj K q' p1 p2 p3 p4) i = aA K i := fun i hi => by unfold aA; rw [hQ, if_neg (by omega)]
  have ne : ∀ i, i < j → aA K i ≠ q' := fun i hi z => hq (z ▸ (rk.2 i hi).2.1)
  have oj : ∀ s : Int32, (s < 0 ∨ ∃ b, b < j ∧ s = iN b) → oJ (xKj K q' p1 p2 p3 p4) s = oJ K s := fun s hs => by
    rcases hs with hs | ⟨b, hb, eb⟩
    · rw [oJ_neg hs, oJ_neg hs]
    · rw [eb, oJ_N (by omega), oJ_N (by omega), ai b hb]
  have hnew : sA v 4 j = 0 := ip.2.2.2.2.2.2.2.2.1 j (Nat.le_refl _)
  have sU : ∀ m i, m = 0 ∨ m = 1 ∨ m = 2 → sA (xUj u q') m i = if i = q' then 0 else sA u m i := fun m i hm => by
    show sA (tA (tA (tA u 0 q' 0) 1 q' 0) 2 q' 0) m i = _
    rcases hm with rfl | rfl | rfl
    · rw [tA_ot (by decide), tA_ot (by decide), sA_tA, if_pos rfl]
    · rw [tA_ot (by decide), sA_tA, if_pos rfl]; rfl
    · rw [sA_tA, if_pos rfl]; rfl
  have sq3 : ∀ i, sQ (xUj u q') 3 i = if i = q' then none else sQ u 3 i := fun i => by
    show sQ (tQ (tA (tA (tA u 0 q' 0) 1 q' 0) 2 q' 0) 3 q' none) 3 i = _
    rw [sQ_tQ, if_pos rfl]; rfl
  have s5 : ∀ i, sA (mJob v j p1 p2 p3 p4) 5 i = if i = j then -1 else sA v 5 i := fun i => by
    show sA (tA (tA (tA (tA (tA v 0 j p1) 1 j p2) 2 j p3) 3 j p4) 5 j (-1)) 5 i = _
    rw [sA_tA, if_pos rfl]; rfl
  have f0 : ∀ i, sA (mJob v j p1 p2 p3 p4) 0 i = if i = j then p1 else sA v 0 i := fun i => by
    show sA (tA v 0 j p1) 0 i = _
    rw [sA_tA, if_pos rfl]
  have f1 : ∀ i, sA (mJob v j p1 p2 p3 p4) 1 i = if i = j then p2 else sA v 1 i := fun i => by
    show sA (tA (tA v 0 j p1) 1 j p2) 1 i = _
    rw [sA_tA, if_pos rfl]; rfl
  have f2 : ∀ i, sA (mJob v j p1 p2 p3 p4) 2 i = if i = j then p3 else sA v 2 i := fun i => by
    show sA (tA (tA (tA v 0 j p1) 1 j p2) 2 j p3) 2 i = _
    rw [sA_tA, if_pos rfl]; rfl
  have f3 : ∀ i, sA (mJob v j p1 p2 p3 p4) 3 i = if i = j then p4 else sA v 3 i := fun i => by
    show sA (tA (tA (tA (tA v 0 j p1) 1 j p2) 2 j p3) 3 j p4) 3 i = _
    rw [sA_tA, if_pos rfl]; rfl
  have cf : ∀ m i, (xKj K q' p1 p2 p3 p4).2.2.2.1 i m = if i = q' then xJ5 (K.1 4) p1 p2 p3 p4 m else K.2.2.2.1 i m := fun m i => by
    show va_up K.2.2.2.1 q' (xJ5 (K.1 4) p1 p2 p3 p4) i m = _
    unfold va_up
    by_cases hi : i = q'
    · rw [if_pos hi, if_pos hi]
    · rw [if_neg hi, if_neg hi]
  have arr : ∀ (m m' : Nat), m = 0 ∨ m = 1 ∨ m = 2 → (∀ i, i < j → sA u m (aA K i) = sA v m' i) → sA v m' j = 0 → (∀ i, sA (mJob v j p1 p2 p3 p4) m' i = sA v m' i) → ∀ i, i < j + 1 → sA (xUj u q') m (aA (xKj K q' p1 p2 p3 p4) i) = sA (mJob v j p1 p2 p3 p4) m' i := fun m m' hm hr h0 hs i hi => by
    rw [sU m _ hm, hs]
    by_cases hij : i = j
    · rw [hij, aj, if_pos rfl, h0]
    · rw [ai i (by omega), if_neg (ne i (by omega))]; exact hr i (by omega)
  refine ⟨⟨⟨?_, ?_, ?_, ?_, ?_⟩, fun i hi => ?_⟩, rs, rz, arr 0 4 (Or.inl rfl) r0 hnew (fun _ => rfl), arr 1 6 (Or.inr (Or.inl rfl)) r1 (vz.1 j (Nat.le_refl _)).1 (fun _ => rfl), arr 2 7 (Or.inr (Or.inr rfl)) r2 (vz.1 j (Nat.le_refl _)).2 (fun _ => rfl), fun i hi => ?_, rp, fun i hi => ?_, fun i hi => ?_, fun i hi => ?_, ⟨fun k i hk hi e1 => ?_, vq.2⟩, ⟨fun k i hk hi e1 => ?_, vb.2⟩, ⟨c, e4, ?_, h8, hs⟩, ⟨fun i hi => vz.1 i (by omega), fun i hi hl => ?_⟩, IP_job ip hj⟩
  · show va_up K.1 4 (K.1 4 + 1) 0 = KMv 0
    rw [up_ne (by decide)]; exact rk.1.1
  · show va_up K.1 4 (K.1 4 + 1) 1 = KMv 1
    rw [up_ne (by decide)]; exact rk.1.2.1
  · show va_up K.1 4 (K.1 4 + 1) 2 = KMv 2
    rw [up_ne (by decide)]; exact rk.1.2.2.1
  · show va_up K.1 4 (K.1 4 + 1) 3 = KMv 3
    rw [up_ne (by decide)]; exact rk.1.2.2.2.1
  · show va_up K.1 4 (K.1 4 + 1) 4 = iN (j + 1)
    rw [up_eq, ej, iN_succ]
  · rw [cf, cf, cf, cf, cf, f0, f1, f2, f3]
    by_cases hij : i = j
    · rw [hij, aj, hQ, if_pos rfl, if_pos rfl, if_pos rfl, if_pos rfl, if_pos rfl, if_pos rfl, if_pos rfl, if_pos rfl, if_pos rfl, if_pos rfl]
      exact ⟨rfl, by show q' ∈ K.2.2.1 ++ [q']; simp, ej, rfl, rfl, rfl, rfl⟩
    · have hi' : i < j := by omega
      have nq := ne i hi'
      rw [ai i hi', hQ, if_neg hij, if_neg nq, if_neg nq, if_neg nq, if_neg nq, if_neg nq, if_neg hij, if_neg hij, if_neg hij, if_neg hij]
      obtain ⟨g1, g2, g3⟩ := rk.2 i hi'
      exact ⟨g1, by show aA K i ∈ K.2.2.1 ++ [q']; exact List.mem_append_left _ g2, g3⟩
  · rw [sq3, s5]
    by_cases hij : i = j
    · rw [hij, aj, if_pos rfl, if_pos rfl, oJ_neg (by decide)]
    · rw [ai i (by omega), if_neg (ne i (by omega)), if_neg hij, oj _ (ip.2.2.2.2.2.1 i (by omega))]
      exact r3 i (by omega)
  · obtain ⟨g1, g2, g3⟩ := rw_ i hi
    refine ⟨?_, g2, g3⟩
    show sQ u 4 (aW u i) = oJ _ (sA v 9 i)
    rw [oj _ (ip.2.2.1 i hi)]; exact g1
  · obtain ⟨g1, g2⟩ := rl i hi
    refine ⟨?_, g2⟩
    show sQ u 1 i = oJ _ (sA v 11 i)
    rw [oj _ (Or.inr (ip.2.2.2.1 i hi))]; exact g1
  · obtain ⟨g1, g2⟩ := rt i hi
    refine ⟨?_, g2⟩
    show sQ u 2 i = oJ _ (sA v 12 i)
    rw [oj _ (Or.inr (ip.2.2.2.2.1 i hi))]; exact g1
  · have e1' : sA v 11 k = iN i := e1
    obtain ⟨b, hb, eb⟩ := ip.2.2.2.1 k hk
    have : b = i := (iN_inj (by omega) (by omega)).mp (eb.symm.trans e1')
    exact vq.1 k i hk (by omega) e1'
  · have e1' : sA v 9 k = iN i := e1
    rcases ip.2.2.1 k hk with z | ⟨b, hb, eb⟩
    · rw [e1'] at z; exact absurd z (iN_nneg (by omega))
    · have : b = i := (iN_inj (by omega) (by omega)).mp (eb.symm.trans e1')
      exact vb.1 k i hk (by omega) e1'
  · show c + cN (sA v 4) (j + 1) ≤ B + 1
    have : cN (sA v 4) (j + 1) ≤ cN (sA v 4) j + 1 := by
      rw [show cN (sA v 4) (j + 1) = cN (sA v 4) j + (if sA v 4 j = 0 then 1 else 0) from rfl]
      split <;> omega
    omega
  · rw [s5] at hl ⊢
    by_cases hij : i = j
    · rw [if_pos hij]
    · rw [if_neg hij] at hl ⊢
      exact vz.2 i (by omega) hl
theorem f_jobBad {post : Int32 → gS → Prop} (hb : p1 < 0 ∨ ¬ p1 ≤ 5 ∨ p4 < 1 ∨ ¬ p4 ≤ 5) (k : post 0 (tI (tI v 0 0) 0 1)) : wpM6_job KMv post v p1 p2 p3 p4 := fun u1 e1 => by
  subst e1
  refine m_out (fun _ => ⟨fun _ => f_fail k, fun z => absurd z (by decide)⟩) (fun a0 a1 => ⟨fun z => absurd rfl z, fun _ => m_out (fun _ => ⟨fun z => absurd z (by decide), fun _ => f_fail k⟩) (fun b0 b1 => ?_)⟩)
  rcases m_bad.mp hb with (z | z) | (z | z)
  · exact absurd z (Int32.not_lt.mpr a0)
  · exact absurd a1 z
  · exact absurd z (Int32.not_lt.mpr b0)
  · exact absurd b1 z
theorem f_jobOk {post : Int32 → gS → Prop} (hok : ¬ (p1 < 0 ∨ ¬ p1 ≤ 5 ∨ p4 < 1 ∨ ¬ p4 ≤ 5)) (hI : IP n j 0 w q e 24 60 v) (hE : vE v) (k24 : j = 24 → post 0 (tI (tI v 0 0) 0 2)) (k : j < 24 → post (iN j) (mJob (tI v 0 0) j p1 p2 p3 p4)) : wpM6_job KMv post v p1 p2 p3 p4 := fun u1 e1 => by
  subst e1
  have hj := hI.1.1
  have ej : sI v 1 = iN j := hI.2.1.1
  refine m_out (fun hb => absurd (m_bad.mpr (Or.inl hb)) hok) (fun a0 a1 => ⟨fun h => absurd rfl h, fun _ => m_out (fun hb => absurd (m_bad.mpr (Or.inr hb)) hok) (fun b0 b1 => ⟨fun _ => ⟨fun hne => ?_, fun he => ?_⟩, fun h => absurd rfl h⟩)⟩)
  · have hlt : j < 24 := by
      rcases Nat.lt_or_ge j 24 with h | h
      · exact h
      · exact absurd (show sI v 1 = 24 by rw [ej, show j = 24 by omega]; rfl) hne
    have vj : vp_in (iN j) 24 := iN_in hlt (by omega)
    have nj : (sI v 1).toNatClampNeg = j := by rw [ej]; exact iN_nat (by omega)
    have vj' : vp_in (sI v 1) 24 := by rw [ej]; exact vj
    refine ⟨vj', fun u11 e11 => ?_⟩
    have e11' : u11 = tA (tI v 0 0) 0 j p1 := by rw [e11]; show tA (tI v 0 0) 0 (sI v 1).toNatClampNeg p1 = _; rw [nj]
    subst e11'
    refine ⟨vj', fun u12 e12 => ?_⟩
    have e12' : u12 = tA (tA (tI v 0 0) 0 j p1) 1 j p2 := by rw [e12]; show tA _ 1 (sI v 1).toNatClampNeg p2 = _; rw [nj]
    subst e12'
    refine ⟨vj', fun u13 e13 => ?_⟩
    have e13' : u13 = tA (tA (tA (tI v 0 0) 0 j p1) 1 j p2) 2 j p3 := by rw [e13]; show tA _ 2 (sI v 1).toNatClampNeg p3 = _; rw [nj]
    subst e13'
    refine ⟨vj', fun u14 e14 => ?_⟩
    have e14' : u14 = tA (tA (tA (tA (tI v 0 0) 0 j p1) 1 j p2) 2 j p3) 3 j p4 := by rw [e14]; show tA _ 3 (sI v 1).toNatClampNeg p4 = _; rw [nj]
    subst e14'
    refine ⟨vj', fun u15 e15 u16 e16 => ?_⟩
    have e15' : u15 = tA (tA (tA (tA (tA (tI v 0 0) 0 j p1) 1 j p2) 2 j p3) 3 j p4) 5 j (-1) := by rw [e15]; show tA _ 5 (sI v 1).toNatClampNeg (-1) = _; rw [nj]
    subst e15'
    have e16' : u16 = mJob (tI v 0 0) j p1 p2 p3 p4 := by
      rw [e16]
      show tI _ 1 (sI v 1 + 1) = _
      rw [ej, iN_succ]; rfl
    subst e16'
    have er : sI (mJob (tI v 0 0) j p1 p2 p3 p4) 1 - 1 = iN j := by
      show iN (j + 1) - 1 = iN j
      rw [iN_pred (by omega)]; rfl
    rw [er]
    exact f_end (w := w) hI.1.2.1 hI.2.1.2.1 hE (k hlt)
  · have : j = 24 := (iN_inj (b := 24) (by omega) (by omega)).mp (ej.symm.trans (show sI v 1 = 24 from he))
    exact f_fail (k24 this)
theorem j_job {J : KX → gS → gS → Prop} (h : RR n B KMv K j 0 w q e 24 24 60 u v) (hE : vE v) (hJ : ∀ K' j' u' v', JR n (B + 1) KMv K' j' u' v' → J K' u' v') : wpL_job K (fun r1 z2 => wpM6_job KMv (fun r3 v4 => J z2.1.1 z2.1.2 v4) v p1 p2 p3 p4) u f p1 p2 p3 p4 := by
  have ip := RR_ip h
  have hj := ip.1.1
  refine l_job2 hj h.1.1.2.2.2.2 (fun bad => ?_) (fun hok h24 => ?_) (fun hok hlt q' hq' => ?_)
  · exact f_jobBad bad (hJ K j u _ ⟨w, q, e, RR_B (RR_i0 (RR_i0 h)) (by omega), hE⟩)
  · exact f_jobOk hok ip hE (fun _ => hJ K j u _ ⟨w, q, e, RR_B (RR_i0 (RR_i0 h)) (by omega), hE⟩) (fun hlt => by omega)
  · exact f_jobOk hok ip hE (fun h24 => by omega) (fun _ => hJ _ (j + 1) _ _ ⟨w, q, e, RR_job (RR_i0 (s := 0) h) hlt hq', hE⟩)
end NJB
