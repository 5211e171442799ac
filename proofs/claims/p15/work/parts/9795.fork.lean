/-! class and reference: a job is performed and ends -/
section JPR
variable {n : Int} {B : Nat} {KMv : KM} {K : KX} {j t w q e x x0 g T y : Nat} {u v : gS}
theorem Kp_fin {s : Int32} {v1 : gS} (hw : w ≤ 5) (e3 : sI v 3 = iN w) (h2 : sA v 4 y = 2) (h0 : s ≠ 0) (k3 : sI v1 3 = sI v 3) (k8 : ∀ i, sA v1 8 i = sA v 8 i) (k9 : ∀ i, sA v1 9 i = sA v 9 i) (k13 : ∀ i, sA v1 13 i = sA v 13 i) (k14 : ∀ i, i < T → sA v1 14 i = sA v 14 i) (k1 : ∀ i, sA v1 1 i = sA v 1 i) (k4 : ∀ i, sA v1 4 i = sA (tA v 4 y s) 4 i) : Kp j T v v1 := by
  refine ⟨Ext.same hw e3 (k3.trans e3) k8 k9, St_st (by rw [h2]; decide) (by rw [h2]; decide) k4, fun f hf => ⟨k13 f, k14 f hf⟩, k1, fun i hi => ?_, ?_⟩
  · rw [k4]
    by_cases hiy : i = y
    · rw [hiy, tA_eq]; exact h0
    · rw [tA_ne hiy]; exact hi
  · rw [show sA v1 4 = sA (tA v 4 y s) 4 from funext k4]
    exact cN_st' h0
/-- the deed is done: the relation holds again -/
theorem RR_done {r : Int32} (h : RR n B KMv K j t w q e 24 x0 T u v) (hd : sA v 13 T = iN y) (hy : y < j) (h1 : sA v 4 y ≠ 1) (hb : Bs v y → y = x0) : RR n B KMv K j t w q e 24 x0 60 (tA (tA u 0 (aA K y) 3) 1 (aA K y) r) (tA (tA v 4 y 3) 6 y r) := by
  have ip := RR_ip h
  have hw := ip.1.2.1
  have e3 := ip.2.1.2.1
  have vq := h.2.2.2.2.2.2.2.2.2.2.2.1
  exact RR_res (RR_st2 h hy (by decide) (IP_fin ip hd hy (by decide) (by decide) (by decide)) (fun k hk ez => absurd (vq.1 k y hk hy ez) h1) (fun k hk ez => Or.inr (hb ⟨w, k, hw, e3, hk, ez⟩))) hy
theorem RR_broke {r : Int32} (h : RR n B KMv K j t w q e 24 x0 T u v) (hd : sA v 13 T = iN y) (hy : y < j) (h1 : sA v 4 y ≠ 1) (hb : Bs v y → y = x0) : RR n B KMv K j t w q e 24 x0 60 (tA (tA u 0 (aA K y) 4) 2 (aA K y) r) (tA (tA v 4 y 4) 7 y r) := by
  have ip := RR_ip h
  have hw := ip.1.2.1
  have e3 := ip.2.1.2.1
  have vq := h.2.2.2.2.2.2.2.2.2.2.2.1
  exact RR_thr (RR_st2 h hy (by decide) (IP_fin ip hd hy (by decide) (by decide) (by decide)) (fun k hk ez => absurd (vq.1 k y hk hy ez) h1) (fun k hk ez => Or.inr (hb ⟨w, k, hw, e3, hk, ez⟩))) hy
/-- from the state behind the deed to the end -/
theorem j_rest {c f d : Nat} {s : Int32} {u1 v0 v1 : gS} (hK : KMI KMv) (hBm : B < 2147483647) (IH : ∀ c', c' < c → IHt n B KMv K j e x0 c') (h34 : s = 3 ∨ s = 4) (hy : y < j)
    (hx0 : x0 < j → sA v 4 x0 ≠ 0) (hc : cN (sA v 4) j ≤ c) (hf : c ≤ f) (hdc : d + c ≤ 24)
    (hk0 : Kp j T v v0) (hn0 : Nk y v v0)
    (h1 : RR n B KMv K j (T + 1) w q e 24 x0 60 u1 v1) (h2 : sA v0 4 y = 2) (hw0 : ∃ w0, w0 ≤ 5 ∧ sI v0 3 = iN w0) (k3 : sI v1 3 = sI v0 3) (k8 : ∀ i, sA v1 8 i = sA v0 8 i) (k9 : ∀ i, sA v1 9 i = sA v0 9 i) (k13 : ∀ i, sA v1 13 i = sA v0 13 i) (k14 : ∀ i, i < T → sA v1 14 i = sA v0 14 i) (k1 : ∀ i, sA v1 1 i = sA v0 1 i) (k4 : ∀ i, sA v1 4 i = sA (tA v0 4 y s) 4 i) (k0 : Sc0 v0 v1) (hq : Qw u u1) (hd : sA v1 13 T = iN y) (hs : sA v1 14 T = 2)
    (hx : ∀ post : gS → Prop, xTail K (wpX0_admit f) post (aA K y) (iN d) u1 → wpX0_performAndEnd K (wpX0_admit f) post u (aA K y) (iN d))
    (hm : ∀ (b : Nat) (post : gS → Prop) (l1 : Int32), b ≤ T → (∃ m, wpM6_perform_10 KMv post m l1 (iN b) v1) → ∃ m, wpM6_perform_10 KMv post m l1 (iN b) v) : JF n B KMv K j e x0 f d T u v y := by
  obtain ⟨w0, hw0, e0⟩ := hw0
  have hs0 : s ≠ 0 := by rcases h34 with z | z <;> (rw [z]; decide)
  have hk1 : Kp j T v0 v1 := Kp_fin hw0 e0 h2 hs0 k3 k8 k9 k13 k14 k1 k4
  have hk := hk0.trans hk1
  have hn1 : Nk y v v1 := hn0.trans (Nk_st k4 k3 k9 k0) hk0.2.2.2.2.1 (Or.inl rfl)
  have ey : sA v1 4 y = s := by rw [k4, tA_eq]
  have e34 : sA v1 4 y = 3 ∨ sA v1 4 y = 4 := by rw [ey]; exact h34
  obtain ⟨u', v', w', q', gx, gm, gR, gk, gN, gQ⟩ := j_tail (f := f) (d := d) hK hBm IH h1 hd (by rw [hs]; decide) (by rw [hs]; decide) hy e34 (fun hj0 => hk.2.2.2.2.1 x0 (hx0 hj0)) (Nat.le_trans hk.2.2.2.2.2 hc) hf hdc
  refine ⟨u', v', w', q', fun post k => hx post (gx post k), fun b post l1 hb k => hm b post l1 hb (gm b post l1 hb k), gR, hk.trans gk, ?_, hn1.trans gN hk.2.2.2.2.1 (Or.inr (Or.inr rfl)), hq.trans gQ⟩
  rw [gk.2.1 y e34]; exact e34
theorem f_oneF {post : gS → Prop} (hT : T < 60) (hy : y < 24) (hd : sA v 13 T = iN y) (h4 : sA v 0 y = 4) (k : wpM6_fork KMv post (tA v 14 T 2) (iN T) (iN y)) : wpM6_performOne KMv post v (iN T) := by
  have vT : vp_in (iN T) 60 := iN_in (by omega) (by omega)
  have vy : vp_in (iN y) 24 := iN_in (by omega) (by omega)
  have n0 : ¬ sA v 0 y = 0 := by rw [h4]; decide
  have n1 : ¬ sA v 0 y = 1 := by rw [h4]; decide
  have n2 : ¬ sA v 0 y = 2 := by rw [h4]; decide
  have n3 : ¬ sA v 0 y = 3 := by rw [h4]; decide
  refine ⟨vT, fun x1 ex1 => ⟨vT, fun u2 eu2 => ?_⟩⟩
  rw [iN_nat (by omega)] at ex1 eu2
  rw [hd] at ex1
  subst ex1 eu2
  rw [iN_nat (by omega)]
  exact ⟨vy, fun z => absurd z n0, fun _ => ⟨fun z => absurd z n1, fun _ => ⟨fun z => absurd z n2, fun _ => ⟨fun z => absurd z n3, fun _ => ⟨fun _ => k, fun z => absurd h4 z⟩⟩⟩⟩⟩
/-- FORK that can't: its target is none, or isn't NEW -/
theorem f_forkN {post : gS → Prop} (hy : y < 24) (hj : j ≤ 24) (e1 : sI v 1 = iN j) (hx : (sA v 1 y < 0 ∨ iN j ≤ sA v 1 y) ∨ ∃ z, z < j ∧ sA v 1 y = iN z ∧ sA v 4 z ≠ 0) (k : post (tA (tA v 4 y 4) 7 y 4)) : wpM6_fork KMv post v (iN T) (iN y) := by
  refine ⟨iN_in (by omega) (by omega), fun x1 ex1 => ?_⟩
  rw [iN_nat (by omega)] at ex1
  subst ex1
  refine m_out (fun _ => ⟨fun _ => m_broke hy k, fun z => absurd z (by decide)⟩) (fun z0 z1 => ⟨fun z => absurd rfl z, fun _ => ?_⟩)
  rw [e1] at z1
  rcases hx with (hx | hx) | ⟨z, hz, ez, nz⟩
  · exact absurd hx (Int32.not_lt.mpr z0)
  · exact absurd z1 (Int32.not_lt.mpr hx)
  · rw [ez, iN_nat (by omega)]
    exact ⟨iN_in (by omega) (by omega), fun z' => absurd z' nz, fun _ => m_broke hy k⟩
theorem f_forkP {post : gS → Prop} {z : Nat} {v' : gS} (hy : y < 24) (hj : j ≤ 24) (e1 : sI v 1 = iN j) (hz : z < j) (ez : sA v 1 y = iN z) (nz : sA v 4 z = 0) (hp : ∀ post' : Int32 → gS → Prop, post' 0 v' → wpM6_place KMv post' v (iN z)) (k6 : sA v' 4 z = 6 → post (tA (tA v' 4 y 4) 7 y 4)) (kn : sA v' 4 z ≠ 6 → post (tA (tA v' 4 y 3) 6 y (sA v' 4 z))) : wpM6_fork KMv post v (iN T) (iN y) := by
  refine ⟨iN_in (by omega) (by omega), fun x1 ex1 => ?_⟩
  rw [iN_nat (by omega)] at ex1
  subst ex1
  rw [ez]
  have vz : vp_in (iN z) 24 := iN_in (by omega) (by omega)
  refine m_out (fun hx => ?_) (fun z0 z1 => ⟨fun z => absurd rfl z, fun _ => ⟨vz, fun _ => hp _ ⟨fun _ => ⟨vz, fun h6 => ⟨vz, ?_⟩, fun h6 => ?_⟩, fun z => absurd rfl z⟩, fun z' => ?_⟩⟩)
  · rw [e1] at hx
    rcases hx with hx | hx
    · exact absurd hx (iN_nneg (by omega))
    · exact absurd ((iN_lt (by omega) (by omega)).mpr hz) hx
  · rw [iN_nat (by omega)] at h6 ⊢
    exact m_done hy (kn h6)
  · rw [iN_nat (by omega)] at h6
    exact m_broke hy (k6 h6)
  · rw [iN_nat (by omega)] at z'
    exact absurd nz z'
theorem f_forkQ {post : gS → Prop} {z : Nat} (hT : T + 1 < 60) (et : sI v 10 = iN (T + 1)) (hy : y < 24) (hj : j ≤ 24) (e1 : sI v 1 = iN j) (hz : z < j) (ez : sA v 1 y = iN z) (nz : sA v 4 z = 0) (hp : ∀ post' : Int32 → gS → Prop, post' 1 v → wpM6_place KMv post' v (iN z)) (k : post (mPush (tA v 14 T 1) (T + 1) z)) : wpM6_fork KMv post v (iN T) (iN y) := by
  refine ⟨iN_in (by omega) (by omega), fun x1 ex1 => ?_⟩
  rw [iN_nat (by omega)] at ex1
  subst ex1
  rw [ez]
  have vz : vp_in (iN z) 24 := iN_in (by omega) (by omega)
  have vT : vp_in (iN T) 60 := iN_in (by omega) (by omega)
  refine m_out (fun hx => ?_) (fun z0 z1 => ⟨fun z => absurd rfl z, fun _ => ⟨vz, fun _ => hp _ ⟨fun z => absurd z (by decide), fun _ => ⟨vT, fun u16 e16 => ?_⟩⟩, fun z' => ?_⟩⟩)
  · rw [e1] at hx
    rcases hx with hx | hx
    · exact absurd hx (iN_nneg (by omega))
    · exact absurd ((iN_lt (by omega) (by omega)).mpr hz) hx
  · rw [iN_nat (by omega)] at e16
    subst e16
    exact m_push (t := T + 1) et hT (by omega) k
  · rw [iN_nat (by omega)] at z'
    exact absurd nz z'
/-- the class's FORK -/
theorem e_forkN {adm : KX → (gS → Prop) → gS → Nat → Int32 → Prop} {post : gS → Prop} {p2 : Int32} (h : RK KMv K j v) (r0 : R0 K j u v) (hj : j ≤ 24) (hy : y < j) (hx : (sA v 1 y < 0 ∨ iN j ≤ sA v 1 y) ∨ ∃ z, z < j ∧ sA v 1 y = iN z ∧ sA v 4 z ≠ 0) (k : post (tA (tA u 0 (aA K y) 4) 2 (aA K y) 4)) : wpX0_fork K adm post u (aA K y) p2 := by
  have ka := (h.2 y hy).2.2.2.2.1
  unfold wpX0_fork
  rw [ka]
  rcases hx with hx | ⟨z, hz, ez, nz⟩
  · exact e_findN h hx ⟨fun _ => e_fail k, fun y3 e3 => (by cases e3)⟩
  · rw [ez]
    refine e_findI h hj hz ⟨fun z' => (by cases z'), fun y3 e3 => ?_⟩
    cases e3
    exact ⟨(h.2 z hz).2.1, fun z' => absurd ((r0 z hz).symm.trans z') nz, fun _ => e_fail k⟩
theorem e_forkY {adm : KX → (gS → Prop) → gS → Nat → Int32 → Prop} {post : gS → Prop} {d z : Nat} {u' : gS} (h : RK KMv K j v) (r0 : R0 K j u v) (hj : j ≤ 24) (hy : y < j) (hz : z < j) (ez : sA v 1 y = iN z) (nz : sA v 4 z = 0) (hp : ∀ post' : gS → Prop, post' u' → adm K post' u (aA K z) (iN (d + 1))) (k6 : sA u' 0 (aA K z) = 6 → post (tA (tA u' 0 (aA K y) 4) 2 (aA K y) 4)) (kn : sA u' 0 (aA K z) ≠ 6 → post (tA (tA u' 0 (aA K y) 3) 1 (aA K y) (sA u' 0 (aA K z)))) : wpX0_fork K adm post u (aA K y) (iN d) := by
  have ka := (h.2 y hy).2.2.2.2.1
  unfold wpX0_fork
  rw [ka, ez, iN_succ]
  refine e_findI h hj hz ⟨fun z' => (by cases z'), fun y3 e3 => ?_⟩
  cases e3
  exact ⟨(h.2 z hz).2.1, fun _ => hp _ ⟨fun h6 => e_succeed (kn h6), fun h6 => e_fail (k6 h6)⟩, fun z' => absurd ((r0 z hz).trans nz) z'⟩
end JPR
