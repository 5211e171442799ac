/-! the reference: the loop of performing, a worker's turn, a step -/
section MTU
variable {n : Int} {K : KM} {j t w q e T : Nat} {v : gS}
theorem TR.trans {a b c : Nat} {u v w : gS} (h1 : TR j a b u v) (h2 : TR j b c v w) : TR j a c u w := fun p hp h => h2 p hp (h1 p hp h)
theorem m_perform_step {post : gS → Prop} {m : Nat} {l1 : Int32} (hK : KMI K) (hI : IP n j t w q e 24 60 v) (k0 : t = 0 → post v)
    (hrec : ∀ v' t' w' q', IP n j t' w' q' e 24 60 v' → Ext v v' → TR j t t' v v' → mu j t' v' + 1 ≤ mu j t v → wpM6_perform_10 K post m l1 (iN 0) v') : wpM6_perform_10 K post (m + 1) l1 (iN 0) v := by
  have e10 := hI.2.1.2.2.2.2
  have hmc : t + cN (sA v 4) j ≤ 25 := hI.2.2.2.2.2.2.2.2.2.2.1
  rcases t with _ | T
  · refine ⟨fun _ => k0 rfl, fun h => ?_⟩
    rw [e10] at h
    exact absurd ((iN_le (by omega) (by omega)).mpr (Nat.le_refl 0)) h
  · have hj := hI.1.1
    have hw := hI.1.2.1
    have e3 := hI.2.1.2.1
    refine ⟨fun h => ?_, fun _ x5 e5 => ?_⟩
    · rw [e10] at h
      have := (iN_le (by omega) (by omega)).mp h; omega
    rw [e10, iN_pred (by omega)] at e5
    have e5 : x5 = iN T := e5
    subst e5
    obtain ⟨y, hy, hd, hn0, hs1, hs2⟩ := hI.2.2.2.2.2.2.2.2.2.1 T (by omega)
    have vT : vp_in (iN T) 60 := iN_in (by omega) (by omega)
    have vy : vp_in (iN y) 24 := iN_in (by omega) (by omega)
    refine ⟨vT, fun x6 e6 => ⟨vT, fun s0 => ⟨vT, fun s1 u9 e9 u10 eu10 => ?_, fun s1 => ?_⟩, fun s0 => ?_⟩⟩
    · -- the frame goes
      rw [iN_nat (by omega)] at e6 s0 s1
      rw [hd] at e6
      subst e6
      rw [e10, iN_pred (by omega)] at e9
      have h10 : IP n j T w q e 24 60 u10 := by
        rw [eu10, e9]
        obtain ⟨a, ⟨b1, b3, b6, b7, b10⟩, c, d, f, gx, k1, k2, k0', kt, kc, kd⟩ := hI
        refine ⟨a, ⟨b1, b3, b6, b7, rfl⟩, c, d, f, gx, k1, fun i hi e2 => ?_, k0', fun f' hf => kt f' (by omega), ?_, kd⟩
        · rcases k2 i hi e2 with h | ⟨f', hf, ef⟩
          · exact Or.inl h
          · by_cases hfT : f' = T
            · exfalso
              have : i = y := (iN_inj (by omega) (by omega)).mp (ef.symm.trans (hfT ▸ hd))
              exact hs2 (by omega) s0 s1 (this ▸ e2)
            · exact Or.inr ⟨f', by omega, ef⟩
        · show T + cN (sA v 4) j ≤ 25
          omega
      have hE : Ext v u10 := by rw [eu10, e9]; exact Ext.same hw e3 e3 (fun _ => rfl) (fun _ => rfl)
      have hTR : TR j (T + 1) T v u10 := by
        intro p hp h
        rcases h with ⟨f', hf, ef⟩ | hz
        · by_cases hfT : f' = T
          · have : p = y := (iN_inj (by omega) (by omega)).mp (ef.symm.trans (hfT ▸ hd))
            refine Or.inr ?_
            rw [this, eu10, e9]
            exact ⟨hn0, hs2 (by omega) s0 s1⟩
          · exact Or.inl ⟨f', by omega, by rw [eu10, e9]; exact ef⟩
        · exact Or.inr (by rw [eu10, e9]; exact hz)
      have c10 : cN (sA u10 4) j = cN (sA v 4) j := by rw [eu10, e9]; rfl
      have s10 : sS (sA u10 14) T = sS (sA v 14) T := by rw [eu10, e9]; rfl
      have c3 : sS (sA v 14) (T + 1) = sS (sA v 14) T + 1 := by
        show sS (sA v 14) T + wt (sA v 14 T) = _
        rw [wt_2 s0 s1]
      have r10 : wpM6_perform_10 K post m l1 (iN 0) u10 := hrec u10 T w q h10 hE hTR (by unfold mu; rw [c10, s10, c3]; omega)
      refine ⟨vy, fun x11 e11 => ⟨vy, fun _ => r10, fun _ => ⟨fun _ => r10, fun x0 => ?_⟩⟩⟩
      rw [iN_nat (by omega)] at e11
      rcases h10.2.2.2.2.2.1 y hy with hneg | ⟨z, hz, ez⟩
      · exact absurd (by rw [e11]; exact hneg) x0
      rw [ez] at e11
      subst e11
      refine ⟨iN_in (by omega) (by omega), fun _ => r10, fun sz => ?_⟩
      rw [iN_nat (by omega)] at sz
      refine m_place hK h10 hz sz ⟨fun h => absurd h (by decide), fun _ => ?_⟩ (fun v' w' q' hv hpl _ => ⟨fun _ => ?_, fun h => absurd rfl h⟩)
      · have hcl : cN (sA (tA u10 4 z 2) 4) j + 1 ≤ cN (sA u10 4) j := cN_st hz (by decide) sz
        refine m_push h10.2.1.2.2.2.2 (by omega) (by omega) (hrec _ (T + 1) w q (IP_push h10 hz (Or.inl sz) (by omega)) (hE.trans ?_) (hTR.trans (TR_push sz)) ?_)
        · exact Ext.same hw h10.2.1.2.1 h10.2.1.2.1 (fun _ => rfl) (fun _ => rfl)
        · unfold mu
          rw [sS_push, c4_push, s10, c3]
          omega
      · obtain ⟨p1, p2, p3, p4, p5, p6, p7⟩ := hpl
        refine hrec v' T w' q' hv (hE.trans p1) (hTR.trans (fun p hp h => ?_)) ?_
        · rcases h with ⟨f', hf, ef⟩ | hz'
          · exact Or.inl ⟨f', hf, by rw [p2]; exact ef⟩
          · exact Or.inr ⟨p5 p hz'.1, p6 p hz'.1 hz'.2⟩
        · unfold mu
          rw [sS_congr (s := sA u10 14) T (fun f _ => p3 f), s10, c3]
          omega
    · -- what it forked has been performed
      rw [iN_nat (by omega)] at e6 s0 s1
      rw [hd] at e6
      subst e6
      obtain ⟨xx, hxx, ex⟩ := hs1 s1
      refine ⟨vy, ?_, m_done (by omega) ⟨vT, fun u22 e22 => ?_⟩⟩
      · rw [iN_nat (by omega), ex]; exact iN_in (by omega) (by omega)
      rw [iN_nat (show y < 2147483648 by omega), iN_nat (show T < 2147483648 by omega)] at e22
      obtain ⟨r, er⟩ : ∃ r : Int32, r = sA v 4 (sA v 1 y).toNatClampNeg := ⟨_, rfl⟩
      rw [← er] at e22
      have hA : IP n j (T + 1) w q e 24 60 (tA (tA v 4 y 3) 6 y r) := IP_a6 (IP_st hI hy (by decide) (fun h => absurd h (by decide)) (fun h => absurd h (by decide)))
      have h22 : IP n j (T + 1) w q e 24 60 u22 := by
        rw [e22]
        refine IP_stg hA hd hy ?_ (by omega)
        show sA (tA v 4 y 3) 4 y ≠ 2
        rw [tA_eq]; decide
      refine hrec u22 (T + 1) w q h22 (by rw [e22]; exact Ext.same hw e3 e3 (fun _ => rfl) (fun _ => rfl)) (fun p hp h => ?_) ?_
      · rcases h with ⟨f', hf, ef⟩ | hz
        · exact Or.inl ⟨f', hf, by rw [e22]; exact ef⟩
        · have := Zz_st (y := y) (s := 3) (by decide) (by decide) hz
          exact Or.inr (by rw [e22]; exact this)
      · have c1 : cN (sA u22 4) j ≤ cN (sA v 4) j := by rw [e22]; exact cN_st' (v := v) (y := y) (s := 3) (by decide)
        have c2 : sS (sA u22 14) (T + 1) = sS (sA v 14) T + wt 2 := by rw [e22, sS_set]; rfl
        have c3 : sS (sA v 14) (T + 1) = sS (sA v 14) T + 2 := by
          show sS (sA v 14) T + wt (sA v 14 T) = _
          rw [s1]; rfl
        have : wt 2 = 1 := by decide
        unfold mu
        rw [c2, c3]
        omega
    · rw [iN_nat (by omega)] at s0
      exact m_performOne hK hI hd hy s0 (fun v' t' w' q' h1 h2 h3 h4 => hrec v' t' w' q' h1 h2 h3 h4)
theorem m_perform_loop {post : gS → Prop} {p0 : Nat} {v0 : gS} {l1 : Int32} (hK : KMI K) (hp : p0 < j) (k : ∀ v' w' q', IP n j 0 w' q' e 24 60 v' → Ext v0 v' → Zz v' p0 → post v') :
    ∀ (m t w q : Nat) (v : gS), IP n j t w q e 24 60 v → mu j t v ≤ m → Ext v0 v → (OnS v t p0 ∨ Zz v p0) → wpM6_perform_10 K post (m + 1) l1 (iN 0) v := by
  intro m
  induction m with
  | zero =>
    intro t w q v hI hm hE hs
    refine m_perform_step hK hI (fun z => ?_) (fun v' t' w' q' _ _ _ h => by omega)
    subst z
    rcases hs with ⟨f, hf, _⟩ | hz
    · omega
    · exact k v w q hI hE hz
  | succ m ih =>
    intro t w q v hI hm hE hs
    refine m_perform_step hK hI (fun z => ?_) (fun v' t' w' q' h1 h2 h3 h4 => ih t' w' q' v' h1 (by omega) (hE.trans h2) (h3 p0 hp hs))
    subst z
    rcases hs with ⟨f, hf, _⟩ | hz
    · omega
    · exact k v w q hI hE hz
theorem m_perform {post : gS → Prop} {y : Nat} (hK : KMI K) (hI : IP n j 0 w q e 24 60 v) (hy : y < j) (k : ∀ v' w' q', IP n j 0 w' q' e 24 60 v' → Ext v v' → Zz v' y → post v') : wpM6_perform K post v (iN y) := by
  intro x1 e1
  rw [hI.2.1.2.2.2.2] at e1
  have hj := hI.1.1
  have hw := hI.1.2.1
  have e3 := hI.2.1.2.1
  have hc := cN_le (sA (tA v 4 y 2) 4) j
  refine m_push hI.2.1.2.2.2.2 (by omega) (by omega) ⟨mu j 1 (mPush v 0 y) + 1, ?_⟩
  rw [e1]
  refine m_perform_loop (v0 := v) hK hy k (mu j 1 (mPush v 0 y)) 1 w q _ (IP_push hI hy (Or.inr rfl) (by omega)) (Nat.le_refl _) (Ext.same hw e3 e3 (fun _ => rfl) (fun _ => rfl)) (Or.inl ⟨0, by omega, ?_⟩)
  show sA (tA v 13 0 (iN y)) 13 0 = iN y
  exact tA_eq
theorem m_submitNow {post : gS → Prop} {y : Nat} (hK : KMI K) (hI : IP n j 0 w q e 24 60 v) (hy : y < j) (h0 : sA v 4 y = 0) (k : ∀ v' w' q', IP n j 0 w' q' e 24 60 v' → post v') : wpM6_submitNow K post v (iN y) :=
  m_place hK hI hy h0 ⟨fun h => absurd h (by decide), fun _ => m_perform hK hI hy (fun v' w' q' h _ _ => k v' w' q' h)⟩ (fun v' w' q' hv _ _ => ⟨fun _ => k v' w' q' hv, fun h => absurd rfl h⟩)
theorem m_place0 {post : Int32 → gS → Prop} {nm : Int32} (hw : w ≤ 5) (e3 : sI v 3 = iN w) (k : ∀ r, ((r = -1 ∧ ∀ i, i < w → sA v 8 i ≠ nm) ∨ ∃ i, i < w ∧ r = iN i ∧ sA v 8 i = nm ∧ ∀ a, a < i → sA v 8 a ≠ nm) → post r v) : wpM6_place0 K post v nm := by
  have key : ∀ d i, i + d = w → (∀ a, a < i → sA v 8 a ≠ nm) → wpM6_place0_2 K post (d + 1) nm (iN i) v := by
    intro d
    induction d with
    | zero =>
      intro i hi h
      refine ⟨fun _ => k _ (Or.inl ⟨rfl, fun a ha => h a (by omega)⟩), fun hh => ?_⟩
      rw [e3] at hh
      have := x_c0 (by omega) (by omega) hh; omega
    | succ d ih =>
      intro i hi h
      refine ⟨fun hh => ?_, fun _ => ⟨iN_in (by omega) (by omega), fun hne x3 e3' => ?_, fun he => ?_⟩⟩
      · rw [e3] at hh
        have := (iN_le (by omega) (by omega)).mp hh; omega
      · rw [iN_nat (by omega)] at hne
        rw [e3', iN_succ]
        refine ih (i + 1) (by omega) (fun a ha => ?_)
        by_cases hai : a = i
        · rw [hai]; exact hne
        · exact h a (by omega)
      · rw [iN_nat (by omega)] at he
        exact k _ (Or.inr ⟨i, by omega, rfl, he, h⟩)
  exact ⟨w + 1, key w 0 (by omega) (fun a ha => by omega)⟩
theorem m_turn {post : gS → Prop} {nm : Int32} (hn : n ≤ 1000000000) (hK : KMI K) (hI : IP n j 0 w q e 24 60 v) (k : ∀ v' w' q', IP n j 0 w' q' e 24 60 v' → post v') : wpM6_turn K post v nm := by
  have hj := hI.1.1
  have hw := hI.1.2.1
  have e3 := hI.2.1.2.1
  refine m_place0 hw e3 (fun r hr => ⟨fun _ => k v w q hI, fun h0 => ?_⟩)
  rcases hr with ⟨hr, _⟩ | ⟨i, hi, er, ei, hmin⟩
  · exact absurd (by rw [hr]; decide) h0
  subst er
  have vi : vp_in (iN i) 8 := iN_in (by omega) (by omega)
  refine ⟨vi, fun hb => ⟨vi, vi, fun u5 e5 => ⟨vi, fun _ => ⟨vi, fun x7 e7 => ?_⟩, fun _ => ?_⟩⟩, fun _ => k v w q hI⟩
  · rw [iN_nat (by omega)] at hb e5 e7
    have h5 : IP n j 0 w q e 24 60 u5 := by rw [e5]; exact IP_a10 hI
    have e9 : sA u5 9 i = sA v 9 i := by rw [e5]; rfl
    obtain ⟨b, hbj, eb⟩ : ∃ b, b < j ∧ sA v 9 i = iN b := by
      rcases hI.2.2.1 i hi with h | h
      · exact absurd hb (Int32.not_le.mpr h)
      · exact h
    rw [e9, eb] at e7
    subst e7
    have vb : vp_in (iN b) 24 := iN_in (by omega) (by omega)
    refine m_perform hK h5 hbj (fun v9 w9 q9 h9 hE hZ => ?_)
    obtain ⟨w0, w0', l1, l2, a3, a3', p8, p9⟩ := hE
    have hw0 : w0 = w := (iN_inj (by omega) (by omega)).mp (a3.symm.trans h5.2.1.2.1)
    have hw0' : w0' = w9 := (iN_inj (by omega) (by have := h9.1.2.1; omega)).mp (a3'.symm.trans h9.2.1.2.1)
    subst hw0 hw0'
    have hw9 := h9.1.2.1
    refine m_place0 hw9 h9.2.1.2.1 (fun r10 hr10 => ⟨vb, ?_⟩)
    have hwho : sA v9 8 i = nm := by rw [p8 i hi, e5]; exact ei
    have hr10' : r10 = iN i := by
      rcases hr10 with ⟨_, hno⟩ | ⟨i', hi', er', ei', hmin'⟩
      · exact absurd hwho (hno i (by omega))
      · rcases Nat.lt_trichotomy i' i with h | h | h
        · exfalso
          have : sA v9 8 i' = sA v 8 i' := by rw [p8 i' (by omega), e5]; rfl
          exact hmin i' h (this ▸ ei')
        · rw [er', h]
        · exact absurd hwho (hmin' i h)
    rw [hr10']
    have hbz : sA v9 9 i = iN b := by
      rw [p9 i hi (by rw [e9, eb]; exact iN_nneg (by omega)), e9, eb]
    have ho : ∀ i', i' < j → sA v9 9 i = iN i' → sA v9 4 i' ≠ 2 := fun i' hi' ez => by
      have : i' = b := (iN_inj (by omega) (by omega)).mp (ez.symm.trans hbz)
      rw [this]; exact hZ.2
    refine ⟨fun _ => m_takeNext hn (g := 60) h9 (by omega) ho (fun v' q' h => k v' w0' q' h), fun _ => ⟨vb, fun _ => m_takeNext hn (g := 60) h9 (by omega) ho (fun v' q' h => k v' w0' q' h), fun _ => ?_⟩⟩
    refine m_removeWorker h9 (by omega) ho (fun v19 h19 _ => m_fetch hn h19 ⟨fun _ => k v19 _ q9 h19, fun h => absurd (by decide) h⟩ (fun c v' hc hq hv ha hI' => ⟨fun h => (iN_nneg (by omega) h).elim, fun _ => ?_⟩))
    have e3v : sI v' 3 = iN (w0' - 1) := hv.2.1.2.1
    have clr : ∀ u : gS, IP n j 0 (w0' - 1 + 1) (q9 - 1) e c 60 (mWork u (w0' - 1) c) → IP n j 0 (w0' - 1 + 1) (q9 - 1) e 24 60 (mWork u (w0' - 1) c) := fun u h => IP_x h (Or.inl (by unfold mWork; rw [tA_eq]; decide))
    exact m_newWorker e3v (by omega) (by omega) (k _ _ _ (clr _ (IP_new hv (by omega) hc (Or.inr rfl)))) (k _ _ _ (clr _ (IP_new5 hv (by omega) hc (Or.inr rfl))))
  · rw [iN_nat (by omega)] at e5
    exact k u5 w q (by rw [e5]; exact IP_a10 hI)
theorem m_step_in {post : Int32 → gS → Prop} {k29 : Int32 → Int32 → Int32 → gS → Prop} {k46 : Int32 → Int32 → Int32 → Int32 → Int32 → Int32 → gS → Prop} {l1 l2 l3 l4 l5 l6 : Int32} (hn : n ≤ 1000000000) (hK : KMI K) (hI : IP n j 0 w q e 24 60 v)
    (hk : ∀ v' w' q' l6' l7, IP n j 0 w' q' e 24 60 v' → (l6' = 0 ∨ (l5 < l7 ∧ l7 < l4)) → k46 l1 l2 l3 l4 l7 l6' v') : ∃ n57, wpM6_step_57 K post k29 k46 n57 l1 l2 l3 l4 l5 l6 (-1) 0 v := by
  have hw := hI.1.2.1
  have e3 := hI.2.1.2.1
  have key : ∀ d i l7, i + d = w → (l7 < 0 ∨ (l5 < l7 ∧ l7 < l4)) → wpM6_step_57 K post k29 k46 (d + 1) l1 l2 l3 l4 l5 l6 l7 (iN i) v := by
    intro d
    induction d with
    | zero =>
      intro i l7 hi hb
      refine ⟨fun _ => ⟨fun _ => hk v w q 0 l7 hI (Or.inl rfl), fun h7 => m_turn hn hK hI (fun v' w' q' h => hk v' w' q' 1 l7 h (Or.inr ?_))⟩, fun hh => ?_⟩
      · rcases hb with h | h
        · exact absurd h h7
        · exact h
      · rw [e3] at hh
        have := x_c0 (by omega) (by omega) hh; omega
    | succ d ih =>
      intro i l7 hi hb
      have vi : vp_in (iN i) 8 := iN_in (by omega) (by omega)
      refine ⟨fun hh => ?_, fun _ => ⟨vi, fun _ x20 e20 => ?_, fun g1 => ⟨vi, fun _ x22 e22 => ?_, fun g2 => ⟨fun _ => ⟨vi, fun x24 e24 x25 e25 => ?_⟩, fun _ => ⟨vi, fun _ x27 e27 => ?_, fun _ => ⟨vi, fun x28 e28 x29 e29 => ?_⟩⟩⟩⟩⟩⟩
      · rw [e3] at hh
        have := (iN_le (by omega) (by omega)).mp hh; omega
      · rw [e20, iN_succ]; exact ih (i + 1) l7 (by omega) hb
      · rw [e22, iN_succ]; exact ih (i + 1) l7 (by omega) hb
      · rw [e25, iN_succ]; exact ih (i + 1) x24 (by omega) (Or.inr ⟨by rw [e24]; exact Int32.not_le.mp g1, by rw [e24]; exact Int32.not_le.mp g2⟩)
      · rw [e27, iN_succ]; exact ih (i + 1) l7 (by omega) hb
      · rw [e29, iN_succ]; exact ih (i + 1) x28 (by omega) (Or.inr ⟨by rw [e28]; exact Int32.not_le.mp g1, by rw [e28]; exact Int32.not_le.mp g2⟩)
  exact ⟨w + 1, key w 0 (-1) (by omega) (Or.inl (by decide))⟩
theorem m_step_mid {post : Int32 → gS → Prop} {k29 : Int32 → Int32 → Int32 → gS → Prop} {l1 l2 l3 l4 : Int32} (hn : n ≤ 1000000000) (hK : KMI K)
    (hk : ∀ v' w' q' x, IP n j 0 w' q' e 24 60 v' → x = l3 + 1 → k29 l1 l2 x v') : ∀ (m : Nat) (l5 l6 : Int32) (v : gS) (w q : Nat), IP n j 0 w q e 24 60 v → (l6 = 0 ∨ l4.toInt ≤ l5.toInt + m) → wpM6_step_46 K post k29 (m + 2) l1 l2 l3 l4 l5 l6 v := by
  intro m
  induction m with
  | zero =>
    intro l5 l6 v w q hI h
    refine ⟨fun _ x12 e12 => hk v w q x12 hI e12, fun h6 => m_step_in hn hK hI (fun v' w' q' l6' l7 h' hh => ?_)⟩
    rcases hh with z | ⟨z1, z2⟩
    · exact ⟨fun _ x12 e12 => hk v' w' q' x12 h' e12, fun hne => absurd z hne⟩
    · rcases h with h | h
      · exact absurd h h6
      · exfalso
        rw [Int32.lt_iff_toInt_lt] at z1 z2
        omega
  | succ m ih =>
    intro l5 l6 v w q hI h
    refine ⟨fun _ x12 e12 => hk v w q x12 hI e12, fun h6 => m_step_in hn hK hI (fun v' w' q' l6' l7 h' hh => ih l7 l6' v' w' q' h' ?_)⟩
    rcases hh with z | ⟨z1, z2⟩
    · exact Or.inl z
    · rcases h with h | h
      · exact absurd h h6
      · rw [Int32.lt_iff_toInt_lt] at z1 z2
        exact Or.inr (by omega)
theorem m_step {post : Int32 → gS → Prop} {p1 : Int32} (hn : n ≤ 1000000000) (hK : KMI K) (hI : IP n j 0 w q e 24 60 v) (k : ∀ r v' w' q' e', IP n j 0 w' q' e' 24 60 v' → post r v') : wpM6_step K post v p1 := by
  intro u1 e1
  subst e1
  have h1 : IP n j 0 w q e 24 60 (tI v 0 0) := IP_i0 hI
  refine ⟨fun _ => m_fail (k _ _ w q e (IP_i0 h1)), fun c1 => ⟨fun c2 x6 e6 => ?_, fun _ => m_fail (k _ _ w q e (IP_i0 h1))⟩⟩
  obtain ⟨c, ec⟩ : ∃ c : Nat, p1 = iN c ∧ c ≤ 10 := by
    have h0 : (0 : Int32) ≤ p1 := Int32.le_trans (by decide) (Int32.not_lt.mp c1)
    refine ⟨p1.toNatClampNeg, iN_of h0, ?_⟩
    have := iN_of h0
    rw [this] at c2
    have hb : p1.toNatClampNeg < 2147483648 := by
      have : p1.toNatClampNeg = p1.toInt.toNat := rfl
      have := p1.toInt_lt
      omega
    exact (iN_le (a := p1.toNatClampNeg) (b := 10) hb (by omega)).mp c2
  have key : ∀ d i v w q, i + d = c → IP n j 0 w q e 24 60 v → wpM6_step_29 K post (d + 1) p1 x6 (iN i) v := by
    intro d
    induction d with
    | zero =>
      intro i v w q hi hv
      refine ⟨fun _ => m_end hv (fun v' w' e' h _ => k _ v' w' q e' h), fun hh => ?_⟩
      rw [ec.1] at hh
      have := x_c0 (by omega) (by omega) hh; omega
    | succ d ih =>
      intro i v w q hi hv
      refine ⟨fun _ => m_end hv (fun v' w' e' h _ => k _ v' w' q e' h), fun _ x10 e10 => ⟨_, m_step_mid hn hK (fun v' w' q' x h' ex => ?_) (x10.toInt + 1).toNat (-1) 1 v w q hv (Or.inr ?_)⟩⟩
      · rw [ex, iN_succ]; exact ih (i + 1) v' w' q' (by omega) h'
      · have : (-1 : Int32).toInt = -1 := rfl
        rw [this]
        omega
  exact ⟨c + 1, key c 0 _ w q (by omega) h1⟩
end MTU
