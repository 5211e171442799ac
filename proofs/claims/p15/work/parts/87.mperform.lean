/-! the reference: jobs performed at once -/
def wt (s : Int32) : Nat := if s = 0 then 3 else if s = 1 then 2 else 1
def sS (s : Nat → Int32) : Nat → Nat
  | 0 => 0
  | t + 1 => sS s t + wt (s t)
theorem sS_congr {s s' : Nat → Int32} : ∀ t, (∀ f, f < t → s' f = s f) → sS s' t = sS s t
  | 0, _ => rfl
  | t + 1, h => by
    have := sS_congr t (fun f hf => h f (by omega))
    unfold sS
    rw [this, h t (by omega)]
theorem wt_pos (s : Int32) : 1 ≤ wt s := by unfold wt; split <;> (try split) <;> omega
theorem wt_2 {s : Int32} (h0 : ¬ s = 0) (h1 : ¬ s = 1) : wt s = 1 := by unfold wt; rw [if_neg h0, if_neg h1]
/-- what is left to do -/
def mu (j t : Nat) (v : gS) : Nat := 4 * cN (sA v 4) j + sS (sA v 14) t
def Zz (v : gS) (p : Nat) : Prop := sA v 4 p ≠ 0 ∧ sA v 4 p ≠ 2
def OnS (v : gS) (t p : Nat) : Prop := ∃ f, f < t ∧ sA v 13 f = iN p
def TR (j t t' : Nat) (v v' : gS) : Prop := ∀ p, p < j → (OnS v t p ∨ Zz v p) → (OnS v' t' p ∨ Zz v' p)
section MPF
variable {n : Int} {K : KM} {j t w q e T : Nat} {v : gS}
theorem m_done {post : gS → Prop} {y : Nat} {r : Int32} (hy : y < 24) (k : post (tA (tA v 4 y 3) 6 y r)) : wpM6_done K post v (iN y) r := by
  refine ⟨iN_in hy (by omega), fun u1 e1 => ⟨iN_in hy (by omega), fun u2 e2 => ?_⟩⟩
  rw [iN_nat (by omega)] at e1 e2
  subst e1 e2
  exact k
theorem m_broke {post : gS → Prop} {y : Nat} {r : Int32} (hy : y < 24) (k : post (tA (tA v 4 y 4) 7 y r)) : wpM6_broke K post v (iN y) r := by
  refine ⟨iN_in hy (by omega), fun u1 e1 => ⟨iN_in hy (by omega), fun u2 e2 => ?_⟩⟩
  rw [iN_nat (by omega)] at e1 e2
  subst e1 e2
  exact k
theorem m_isDone {post : Int32 → gS → Prop} {p1 : Int32} (hj : j ≤ 24) (ej : sI v 1 = iN j) (k : ∀ r, (¬ r = 0 → ∃ b, b < j ∧ p1 = iN b) → post r v) : wpM6_isDone K post v p1 := by
  refine m_out (fun _ => ⟨fun _ => ⟨rfl, k 0 (fun h => absurd rfl h)⟩, fun h => absurd h (by decide)⟩) (fun h0 h1 => ⟨fun h => absurd rfl h, fun _ => ?_⟩)
  rw [ej] at h1
  obtain ⟨b, eb, hb⟩ := iN_of2 h0 h1 (by omega)
  refine ⟨by rw [eb]; exact iN_in (by omega) (by omega), fun _ => ⟨rfl, k 0 (fun h => absurd rfl h)⟩, fun _ => ⟨rfl, k 1 (fun _ => ⟨b, hb, eb⟩)⟩⟩
/-- the frame on top is being performed: its stage is 2 already -/
theorem IP_stg2 (hI : IP n j t w q e 24 60 v) (ht : t ≤ 25) : IP n j t w q e 24 T (tA v 14 T 2) := by
  obtain ⟨a, b, c, d, f, gx, k1, k2, k0, kt, kc, kd⟩ := hI
  refine ⟨a, b, c, d, f, gx, k1, k2, k0, fun f' hf => ?_, kc, kd⟩
  obtain ⟨b', hb, q1, q2, q3, q4⟩ := kt f' hf
  by_cases hT : f' = T
  · refine ⟨b', hb, q1, q2, fun h => ?_, fun h => absurd hT h⟩
    rw [hT, tA_eq] at h
    exact absurd h (by decide)
  · refine ⟨b', hb, q1, q2, fun h => ?_, fun _ h0 h1 => ?_⟩
    · rw [tA_ne hT] at h; exact q3 h
    · rw [tA_ne hT] at h0 h1; exact q4 (by omega) h0 h1
theorem IP_clear {g : Nat} {y : Nat} (hI : IP n j t w q e 24 T v) (hd : sA v 13 T = iN y) (hy : y < j) (h2 : sA v 4 y ≠ 2) : IP n j t w q e 24 g v := by
  obtain ⟨a, b, c, d, f, gx, k1, k2, k0, kt, kc, kd⟩ := hI
  refine ⟨a, b, c, d, f, gx, k1, k2, k0, fun f' hf => ?_, kc, kd⟩
  obtain ⟨b', hb, q1, q2, q3, q4⟩ := kt f' hf
  refine ⟨b', hb, q1, q2, q3, fun _ h0 h1 => ?_⟩
  by_cases hT : f' = T
  · have hj := a.1
    have : b' = y := (iN_inj (by omega) (by omega)).mp (q1.symm.trans (hT ▸ hd))
    rw [this]; exact h2
  · exact q4 hT h0 h1
theorem IP_fin {y : Nat} {s : Int32} (hI : IP n j t w q e 24 T v) (hd : sA v 13 T = iN y) (hy : y < j) (h0 : s ≠ 0) (h1 : s ≠ 1) (h2 : s ≠ 2) : IP n j t w q e 24 60 (tA v 4 y s) :=
  IP_clear (IP_st hI hy h0 (fun h => absurd h h1) (fun h => absurd h h2)) hd hy (by rw [tA_eq]; exact h2)
/-- a stage, where the job isn't running -/
theorem IP_stg {y : Nat} (hI : IP n j t w q e 24 60 v) (hd : sA v 13 T = iN y) (hy : y < j) (h2 : sA v 4 y ≠ 2) (ht : t ≤ 25) : IP n j t w q e 24 60 (tA v 14 T 2) := IP_clear (IP_stg2 hI ht) hd hy h2
theorem IP_stg1 {y z : Nat} (hI : IP n j t w q e 24 T v) (hd : sA v 13 T = iN y) (hy : y < j) (hz : z < j) (ha : sA v 1 y = iN z) : IP n j t w q e 24 60 (tA v 14 T 1) := by
  obtain ⟨a, b, c, d, f, gx, k1, k2, k0, kt, kc, kd⟩ := hI
  have hj := a.1
  refine ⟨a, b, c, d, f, gx, k1, k2, k0, fun f' hf => ?_, kc, kd⟩
  obtain ⟨b', hb, q1, q2, q3, q4⟩ := kt f' hf
  by_cases hT : f' = T
  · have : b' = y := (iN_inj (by omega) (by omega)).mp (q1.symm.trans (hT ▸ hd))
    refine ⟨b', hb, q1, q2, fun _ => ⟨z, hz, by rw [this]; exact ha⟩, fun _ _ h => ?_⟩
    rw [hT, tA_eq] at h; exact absurd rfl h
  · refine ⟨b', hb, q1, q2, fun h => ?_, fun _ h0 h1 => ?_⟩
    · rw [tA_ne hT] at h; exact q3 h
    · rw [tA_ne hT] at h0 h1; exact q4 hT h0 h1
def mPush (v : gS) (t y : Nat) : gS := tI (tA (tA (tA v 13 t (iN y)) 14 t 0) 4 y 2) 10 (iN (t + 1))
theorem m_push {post : gS → Prop} {y : Nat} (et : sI v 10 = iN t) (ht : t < 60) (hy : y < 24) (k : post (mPush v t y)) : wpM6_push K post v (iN y) := by
  refine ⟨by rw [et]; exact iN_in ht (by omega), fun u1 e1 => ?_⟩
  rw [et, iN_nat (by omega)] at e1
  subst e1
  have e' : sI (tA v 13 t (iN y)) 10 = iN t := et
  refine ⟨by rw [e']; exact iN_in ht (by omega), fun u2 e2 => ⟨iN_in hy (by omega), fun u3 e3 u4 e4 => ?_⟩⟩
  rw [e', iN_nat (by omega)] at e2
  rw [iN_nat (by omega)] at e3
  subst e2 e3
  have e'' : sI (tA (tA (tA v 13 t (iN y)) 14 t 0) 4 y 2) 10 = iN t := et
  rw [e'', iN_succ] at e4
  subst e4
  exact k
theorem IP_push {y : Nat} (hI : IP n j t w q e 24 60 v) (hy : y < j) (h0 : sA v 4 y = 0 ∨ t = 0) (hc : t + 1 + cN (sA (tA v 4 y 2) 4) j ≤ 25) : IP n j (t + 1) w q e 24 60 (mPush v t y) := by
  obtain ⟨a, ⟨b1, b3, b6, b7, b10⟩, c, d, f, gx, k1, k2, k0, kt, kc, kd⟩ := hI
  have s4 : ∀ i, sA (mPush v t y) 4 i = sA (tA v 4 y 2) 4 i := fun i => by
    show sA (tA (tA (tA v 13 t (iN y)) 14 t 0) 4 y 2) 4 i = _
    by_cases hi : i = y
    · rw [hi, tA_eq, tA_eq]
    · rw [tA_ne hi, tA_ne hi]; rfl
  have s13 : ∀ i, sA (mPush v t y) 13 i = sA (tA v 13 t (iN y)) 13 i := fun i => rfl
  have s14 : ∀ i, sA (mPush v t y) 14 i = sA (tA (tA v 13 t (iN y)) 14 t 0) 14 i := fun i => rfl
  refine ⟨a, ⟨b1, b3, b6, b7, rfl⟩, c, d, f, gx, fun i hi hx e1 => ?_, fun i hi e2 => ?_, fun i hi => ?_, fun f' hf => ?_, ?_, kd⟩
  · rw [s4] at e1
    by_cases hiy : i = y
    · rw [hiy, tA_eq] at e1; exact absurd e1 (by decide)
    · rw [tA_ne hiy] at e1; exact k1 i hi hx e1
  · rw [s4] at e2
    by_cases hiy : i = y
    · exact Or.inr ⟨t, by omega, by rw [s13, tA_eq, hiy]⟩
    · rw [tA_ne hiy] at e2
      rcases k2 i hi e2 with h | ⟨f', hf, ef⟩
      · exact Or.inl h
      · exact Or.inr ⟨f', by omega, by rw [s13, tA_ne (by omega)]; exact ef⟩
  · rw [s4, tA_ne (by omega)]; exact k0 i hi
  · by_cases hft : f' = t
    · refine ⟨y, hy, by rw [s13, hft, tA_eq], by rw [s4, tA_eq]; decide, fun h => ?_, fun _ h => ?_⟩
      · rw [s14, hft, tA_eq] at h; exact absurd h (by decide)
      · rw [s14, hft, tA_eq] at h; exact absurd rfl h
    · obtain ⟨b', hb, q1, q2, q3, q4⟩ := kt f' (by omega)
      have hby : b' ≠ y := fun z => by
        rcases h0 with h | h
        · exact q2 (z ▸ h)
        · omega
      refine ⟨b', hb, by rw [s13, tA_ne hft]; exact q1, by rw [s4, tA_ne hby]; exact q2, fun h => ?_, fun g0 h1 h2 => ?_⟩
      · rw [s14, tA_ne hft] at h; exact q3 h
      · rw [s14, tA_ne hft] at h1 h2; rw [s4, tA_ne hby]; exact q4 g0 h1 h2
  · unfold mC
    rw [show sA (mPush v t y) 4 = sA (tA v 4 y 2) 4 from funext s4]
    exact hc
theorem sS_push {y : Nat} : sS (sA (mPush v t y) 14) (t + 1) = sS (sA v 14) t + 3 := by
  have s14 : ∀ i, sA (mPush v t y) 14 i = sA (tA (tA v 13 t (iN y)) 14 t 0) 14 i := fun i => rfl
  have h := sS_congr (s := sA v 14) (s' := sA (mPush v t y) 14) t (fun f hf => by rw [s14, tA_ne (by omega)]; rfl)
  show sS (sA (mPush v t y) 14) t + wt (sA (mPush v t y) 14 t) = _
  rw [h, s14, tA_eq]; rfl
theorem c4_push {y : Nat} : cN (sA (mPush v t y) 4) j = cN (sA (tA v 4 y 2) 4) j := by
  rw [show sA (mPush v t y) 4 = sA (tA v 4 y 2) 4 from funext (fun i => by
    show sA (tA (tA (tA v 13 t (iN y)) 14 t 0) 4 y 2) 4 i = _
    by_cases hi : i = y
    · rw [hi, tA_eq, tA_eq]
    · rw [tA_ne hi, tA_ne hi]; rfl)]
theorem TR_push {y : Nat} (h0 : sA v 4 y = 0) : TR j t (t + 1) v (mPush v t y) := by
  intro p hp h
  rcases h with ⟨f, hf, ef⟩ | ⟨z0, z2⟩
  · refine Or.inl ⟨f, by omega, ?_⟩
    show sA (tA v 13 t (iN y)) 13 f = iN p
    rw [tA_ne (by omega)]; exact ef
  · have hpy : p ≠ y := fun z => z0 (z ▸ h0)
    have e4 : sA (mPush v t y) 4 p = sA v 4 p := by
      show sA (tA (tA (tA v 13 t (iN y)) 14 t 0) 4 y 2) 4 p = _
      rw [tA_ne hpy]; rfl
    exact Or.inr ⟨by rw [e4]; exact z0, by rw [e4]; exact z2⟩
theorem sS_set {s : Int32} : sS (sA (tA v 14 T s) 14) (T + 1) = sS (sA v 14) T + wt s := by
  have h := sS_congr (s := sA v 14) (s' := sA (tA v 14 T s) 14) T (fun f hf => by rw [tA_ne (by omega)])
  show sS (sA (tA v 14 T s) 14) T + wt (sA (tA v 14 T s) 14 T) = _
  rw [h, tA_eq]
theorem Zz_st {y p : Nat} {s : Int32} (h0 : s ≠ 0) (h2 : s ≠ 2) (h : Zz v p) : Zz (tA v 4 y s) p := by
  unfold Zz at h ⊢
  by_cases hp : p = y
  · rw [hp, tA_eq]; exact ⟨h0, h2⟩
  · rw [tA_ne hp]; exact h
/-- the job on top ends -/
theorem fin_step {y : Nat} {s : Int32} {v1 : gS} {w1 q1 : Nat} {post : gS → Prop} (hI : IP n j (T + 1) w q e 24 60 v) (hs : sA v 14 T = 0) (h1 : IP n j (T + 1) w1 q1 e 24 T v1) (hd : sA v1 13 T = iN y) (hy : y < j) (hst : ∀ f, f < T + 1 → sA v1 14 f = sA (tA v 14 T 2) 14 f) (h13 : ∀ f, sA v1 13 f = sA v 13 f) (hE : Ext v v1) (hZ : ∀ p, Zz v p → Zz v1 p) (hc : cN (sA v1 4) j ≤ cN (sA v 4) j) (h0 : s ≠ 0) (hs1 : s ≠ 1) (h2 : s ≠ 2)
    (k : ∀ v' t' w' q', IP n j t' w' q' e 24 60 v' → Ext v v' → TR j (T + 1) t' v v' → mu j t' v' + 1 ≤ mu j (T + 1) v → post v') : ∀ (m i : Nat) (r : Int32), (m = 6 ∨ m = 7) → post (tA (tA v1 4 y s) m i r) := by
  intro m i r hm
  have hf := IP_fin h1 hd hy h0 hs1 h2
  have hfin : IP n j (T + 1) w1 q1 e 24 60 (tA (tA v1 4 y s) m i r) := by
    rcases hm with rfl | rfl
    · exact IP_a6 hf
    · exact IP_a7 hf
  have e4 : ∀ p, sA (tA (tA v1 4 y s) m i r) 4 p = sA (tA v1 4 y s) 4 p := fun p => by rw [tA_ot (by omega)]
  have e14 : ∀ p, sA (tA (tA v1 4 y s) m i r) 14 p = sA v1 14 p := fun p => by rw [tA_ot (by omega)]; rfl
  have e13 : ∀ p, sA (tA (tA v1 4 y s) m i r) 13 p = sA v1 13 p := fun p => by rw [tA_ot (by omega)]; rfl
  refine k _ (T + 1) w1 q1 hfin ?_ ?_ ?_
  · refine hE.trans ?_
    obtain ⟨w0, w0', l1, l2, e3, e3', _, _⟩ := hE
    exact Ext.same l2 e3' e3' (fun z => by rw [tA_ot (by omega)]; rfl) (fun z => by rw [tA_ot (by omega)]; rfl)
  · intro p hp h
    rcases h with ⟨f, hf', ef⟩ | hz
    · exact Or.inl ⟨f, hf', by rw [e13, h13]; exact ef⟩
    · have := Zz_st (y := y) h0 h2 (hZ p hz)
      exact Or.inr ⟨by rw [e4]; exact this.1, by rw [e4]; exact this.2⟩
  · have c1 : cN (sA (tA (tA v1 4 y s) m i r) 4) j ≤ cN (sA v1 4) j := by
      rw [show sA (tA (tA v1 4 y s) m i r) 4 = sA (tA v1 4 y s) 4 from funext e4]
      exact cN_st' h0
    have c2 : sS (sA (tA (tA v1 4 y s) m i r) 14) (T + 1) = sS (sA v 14) T + wt 2 := by
      rw [sS_congr (s := sA (tA v 14 T 2) 14) (T + 1) (fun f hf => by rw [e14]; exact hst f hf)]
      exact sS_set
    have c3 : sS (sA v 14) (T + 1) = sS (sA v 14) T + 3 := by
      show sS (sA v 14) T + wt (sA v 14 T) = _
      rw [hs]; rfl
    unfold mu
    rw [c2, c3]
    have : wt 2 = 1 := by decide
    omega
theorem m_performOne {post : gS → Prop} {y : Nat} (hK : KMI K) (hI : IP n j (T + 1) w q e 24 60 v) (hd : sA v 13 T = iN y) (hy : y < j) (hs : sA v 14 T = 0) (k : ∀ v' t' w' q', IP n j t' w' q' e 24 60 v' → Ext v v' → TR j (T + 1) t' v v' → mu j t' v' + 1 ≤ mu j (T + 1) v → post v') : wpM6_performOne K post v (iN T) := by
  have hj := hI.1.1
  have hT : T + 1 ≤ 25 := by have := hI.2.2.2.2.2.2.2.2.2.2.1; unfold mC at this; omega
  have hw := hI.1.2.1
  have e3 := hI.2.1.2.1
  have e1 := hI.2.1.1
  have vT : vp_in (iN T) 60 := iN_in (by omega) (by omega)
  have vy : vp_in (iN y) 24 := iN_in (by omega) (by omega)
  refine ⟨vT, fun x1 ex1 => ⟨vT, fun u2 eu2 => ?_⟩⟩
  rw [iN_nat (by omega)] at ex1 eu2
  rw [hd] at ex1
  subst ex1
  have h2 : IP n j (T + 1) w q e 24 T u2 := by rw [eu2]; exact IP_stg2 hI hT
  have hE2 : Ext v u2 := by rw [eu2]; exact Ext.same hw e3 e3 (fun _ => rfl) (fun _ => rfl)
  have hd2 : sA u2 13 T = iN y := by rw [eu2]; exact hd
  have e12 : sI u2 1 = iN j := by rw [eu2]; exact e1
  have hdone : ∀ r, wpM6_done K (fun (u5 : gS) => post u5) u2 (iN y) r := fun r => m_done (by omega) (fin_step (s := 3) hI hs h2 hd2 hy (fun f _ => by rw [eu2]) (fun f => by rw [eu2]; rfl) hE2 (fun p hp => by rw [eu2]; exact hp) (by rw [eu2]; exact Nat.le_refl _) (by decide) (by decide) (by decide) k 6 y r (Or.inl rfl))
  have hbroke : ∀ r, wpM6_broke K (fun (u5 : gS) => post u5) u2 (iN y) r := fun r => m_broke (by omega) (fin_step (s := 4) hI hs h2 hd2 hy (fun f _ => by rw [eu2]) (fun f => by rw [eu2]; rfl) hE2 (fun p hp => by rw [eu2]; exact hp) (by rw [eu2]; exact Nat.le_refl _) (by decide) (by decide) (by decide) k 7 y r (Or.inr rfl))
  have hfork : wpM6_fork K (fun (u47 : gS) => post u47) u2 (iN T) (iN y) := by
    refine ⟨vy, fun x1 ex1 => ?_⟩
    rw [iN_nat (by omega)] at ex1
    refine m_out (fun _ => ⟨fun _ => hbroke 4, fun h => absurd h (by decide)⟩) (fun z0 z1 => ⟨fun h => absurd rfl h, fun _ => ?_⟩)
    rw [e12] at z1
    obtain ⟨z, ez, hz⟩ := iN_of2 z0 z1 (by omega)
    have vz : vp_in x1 24 := by rw [ez]; exact iN_in (by omega) (by omega)
    refine ⟨vz, fun s0 => ?_, fun _ => hbroke 4⟩
    rw [ez, iN_nat (by omega)] at s0
    have ha : sA u2 1 y = iN z := by rw [← ex1]; exact ez
    rw [ez]
    rw [ez] at vz
    refine m_place hK h2 hz s0 ⟨fun h => absurd h (by decide), fun _ => ⟨vT, fun u16 e16 => ?_⟩⟩ (fun v' w' q' hv hpl hz' => ⟨fun _ => ⟨vz, fun _ => ⟨vz, ?_⟩, fun _ => ?_⟩, fun h => absurd rfl h⟩)
    · -- pushed
      rw [iN_nat (by omega)] at e16
      have h16 : IP n j (T + 1) w q e 24 60 u16 := by rw [e16]; exact IP_stg1 h2 hd2 hy hz ha
      have s16 : sA u16 4 z = 0 := by rw [e16]; exact s0
      have c16 : cN (sA u16 4) j = cN (sA v 4) j := by rw [e16, eu2]; rfl
      have hcl : cN (sA (tA u16 4 z 2) 4) j + 1 ≤ cN (sA u16 4) j := cN_st hz (by decide) s16
      have hmc := hI.2.2.2.2.2.2.2.2.2.2.1
      unfold mC at hmc
      refine m_push h16.2.1.2.2.2.2 (by omega) (by omega) (k _ (T + 1 + 1) w q (IP_push h16 hz (Or.inl s16) (by omega)) ?_ ?_ ?_)
      · rw [e16, eu2]; exact Ext.same hw e3 e3 (fun _ => rfl) (fun _ => rfl)
      · intro p hp h
        refine TR_push (t := T + 1) s16 p hp ?_
        rw [e16, eu2]; exact h
      · unfold mu
        rw [sS_push, c4_push]
        have s14 : sS (sA u16 14) (T + 1) = sS (sA v 14) T + wt 1 := by
          rw [e16, sS_set, eu2]
          rw [sS_congr (s := sA v 14) T (fun f hf => by rw [tA_ne (by omega)])]
        have c3 : sS (sA v 14) (T + 1) = sS (sA v 14) T + 3 := by
          show sS (sA v 14) T + wt (sA v 14 T) = _
          rw [hs]; rfl
        rw [s14, c3]
        have : wt 1 = 2 := by decide
        omega
    · -- placed, then done
      obtain ⟨p1, p2, p3, p4, p5, p6, p7⟩ := hpl
      have cc : cN (sA u2 4) j = cN (sA v 4) j := by rw [eu2]; rfl
      exact m_done (by omega) (fin_step (s := 3) hI hs hv (by rw [p2]; exact hd2) hy (fun f _ => by rw [p3, eu2]) (fun f => by rw [p2, eu2]; rfl) (hE2.trans p1) (fun p hp => ⟨p5 p (by rw [eu2]; exact hp.1), p6 p (by rw [eu2]; exact hp.1) (by rw [eu2]; exact hp.2)⟩) (by omega) (by decide) (by decide) (by decide) k 6 y _ (Or.inl rfl))
    · obtain ⟨p1, p2, p3, p4, p5, p6, p7⟩ := hpl
      have cc : cN (sA u2 4) j = cN (sA v 4) j := by rw [eu2]; rfl
      exact m_broke (by omega) (fin_step (s := 4) hI hs hv (by rw [p2]; exact hd2) hy (fun f _ => by rw [p3, eu2]) (fun f => by rw [p2, eu2]; rfl) (hE2.trans p1) (fun p hp => ⟨p5 p (by rw [eu2]; exact hp.1), p6 p (by rw [eu2]; exact hp.1) (by rw [eu2]; exact hp.2)⟩) (by omega) (by decide) (by decide) (by decide) k 7 y _ (Or.inr rfl))
  refine ⟨vy, fun _ => ⟨vy, hdone _⟩, fun _ => ⟨fun _ => ⟨vy, fun b0 => ⟨vy, vy, b0, hdone _⟩, fun _ => hbroke 1⟩, fun _ => ⟨fun _ => ⟨vy, m_out (fun _ => ⟨fun h => absurd h (by decide), fun _ => hbroke 2⟩) (fun _ _ => ⟨fun _ => ⟨vy, fun _ => ⟨vy, fun _ => ⟨vy, fun _ => ⟨vy, fun _ => ⟨vy, hdone _⟩, fun _ => hdone 7⟩, fun _ => hdone 5⟩, fun _ => hdone 3⟩, fun _ => hdone 2⟩, fun h => absurd rfl h⟩)⟩, fun _ => ⟨fun _ => ⟨vy, m_isDone hj e12 (fun r hr => ⟨fun _ => hbroke 3, fun r0 => ⟨vy, m_isDone hj e12 (fun r' hr' => ⟨fun _ => hbroke 3, fun r0' => ⟨vy, ?_, vy, ?_, hdone _⟩⟩)⟩⟩)⟩, fun _ => ⟨fun _ => hfork, fun _ => hbroke 5⟩⟩⟩⟩⟩
  · obtain ⟨b, hb, eb⟩ := hr r0; rw [eb]; exact iN_in (by omega) (by omega)
  · obtain ⟨b, hb, eb⟩ := hr' r0'; rw [eb]; exact iN_in (by omega) (by omega)
end MPF
